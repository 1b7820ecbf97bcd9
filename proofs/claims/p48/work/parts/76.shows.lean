/-! what is asked, and that the law finds it as it holds it -/
section Asks
variable {A : Il} {s b n : Int}
theorem tkn_thr {z : Int} : ∀ k : Nat, tkn (sc A 0 z) s k = tkn A s k
  | 0 => rfl
  | k + 1 => by
    show tkn (sc A 0 z) s k + (if ¬ A 36 (k : Int) = 0 ∧ ¬ A 39 (k : Int) = 3 ∧ A 40 (k : Int) = s then 1 else 0) = tkn A s k + _
    rw [tkn_thr k]
theorem wgt_thr {z : Int} : ∀ k : Nat, wgt (sc A 0 z) n k = wgt A n k
  | 0 => rfl
  | k + 1 => by
    show wgt (sc A 0 z) n k + (if A 33 (A 43 (10 * n + (k : Int))) = -1 then 2 else 5) = wgt A n k + _
    rw [wgt_thr k]
theorem bp_thr {z t b : Int} : bp (sc A 0 z) t b = bp A t b := by
  funext k
  have e46 : ∀ j, sc A 0 z 46 j = A 46 j := fun _ => sc_k (by decide)
  have e1 : ∀ j, sc A 0 z 1 j = A 1 j := fun _ => sc_k (by decide)
  have e48 : ∀ j, sc A 0 z 48 j = A 48 j := fun _ => sc_k (by decide)
  have e50 : ∀ j, sc A 0 z 50 j = A 50 j := fun _ => sc_k (by decide)
  have e51 : ∀ j, sc A 0 z 51 j = A 51 j := fun _ => sc_k (by decide)
  have e40 : ∀ j, sc A 0 z 40 j = A 40 j := fun _ => sc_k (by decide)
  have e36 : ∀ j, sc A 0 z 36 j = A 36 j := fun _ => sc_k (by decide)
  have e39 : ∀ j, sc A 0 z 39 j = A 39 j := fun _ => sc_k (by decide)
  have e17 : ∀ j, sc A 0 z 17 j = A 17 j := fun _ => sc_k (by decide)
  have e12 : ∀ j, sc A 0 z 12 j = A 12 j := fun _ => sc_k (by decide)
  have e11 : ∀ j, sc A 0 z 11 j = A 11 j := fun _ => sc_k (by decide)
  have e13 : ∀ j, sc A 0 z 13 j = A 13 j := fun _ => sc_k (by decide)
  have e14 : ∀ j, sc A 0 z 14 j = A 14 j := fun _ => sc_k (by decide)
  have e15 : ∀ j, sc A 0 z 15 j = A 15 j := fun _ => sc_k (by decide)
  have e16 : ∀ j, sc A 0 z 16 j = A 16 j := fun _ => sc_k (by decide)
  have e44 : ∀ j, sc A 0 z 44 j = A 44 j := fun _ => sc_k (by decide)
  have e20 : ∀ j, sc A 0 z 20 j = A 20 j := fun _ => sc_k (by decide)
  have e37 : ∀ j, sc A 0 z 37 j = A 37 j := fun _ => sc_k (by decide)
  have e9 : ∀ j, sc A 0 z 9 j = A 9 j := fun _ => sc_k (by decide)
  have e28 : ∀ j, sc A 0 z 28 j = A 28 j := fun _ => sc_k (by decide)
  have e38 : ∀ j, sc A 0 z 38 j = A 38 j := fun _ => sc_k (by decide)
  have e27 : ∀ j, sc A 0 z 27 j = A 27 j := fun _ => sc_k (by decide)
  have e26 : ∀ j, sc A 0 z 26 j = A 26 j := fun _ => sc_k (by decide)
  have e5 : ∀ j, sc A 0 z 5 j = A 5 j := fun _ => sc_k (by decide)
  have er : ∀ t b, rnv (sc A 0 z) t b = rnv A t b := fun t b => rnv_fr (fun a j h => sc_k (by omega))
  have eo : ∀ b s, oth (sc A 0 z) b s = oth A b s := fun b s => oth_fr (fun j => sc_k (by decide)) b s
  simp only [bp, clm, er, eo, wgt_thr, tkn_thr, e46, e1, e48, e50, e51, e40, e36, e39, e17, e12, e11, e13, e14, e15, e16, e44, e20, e37, e9, e28, e38, e27, e26, e5]
theorem r_free (hs : 0 ≤ s ∧ s < 8) : W_X9_freeTracks s A (fun z A2 => z = w32 (A 5 s - tkn A s 6) ∧ A2 0 0 = 0) :=
  m_isStation1 hs (br_F (by decide) (br_T le0 ⟨hs.1, hs.2, m_taken ⟨by rw [tkn_thr]; rfl, rfl⟩⟩))
theorem r_holder (h6 : A 6 0 = 4) (hb : 0 ≤ b ∧ b < 4) : W_X9_holder b A (fun z A2 => z = A 17 b ∧ A2 0 0 = 0) :=
  m_isBlock1 (by omega) (by omega) (br_F (by decide) (br_T le0 ⟨hb.1, by omega, rfl, rfl⟩))
theorem r_holderT (h6 : A 6 0 = 4) (hb : 0 ≤ b ∧ b < 4) : W_X9_holderByTrains b A (fun z A2 => z = A 17 b ∧ A2 0 0 = 0) := r_holder h6 hb
theorem r_block0 (h6 : A 6 0 = 4) (hb : 0 ≤ b ∧ b < 4) : W_X9_block b 0 A (fun z A2 => z = A 10 b ∧ A2 0 0 = 0) :=
  m_isBlock1 (by omega) (by omega) (br_F (by decide) (m_in1 (by decide) (br_F (by decide) (br_T le0 (bn_T rfl ⟨hb.1, by omega, rfl, rfl⟩)))))
theorem r_block1 (h6 : A 6 0 = 4) (hb : 0 ≤ b ∧ b < 4) (h12 : A 12 b = 0) : W_X9_block b 1 A (fun z A2 => z = (if A 11 b ≤ A 1 0 then 0 else 1) ∧ A2 0 0 = 0) := by
  refine m_isBlock1 (by omega) (by omega) (br_F (by decide) (m_in1 (by decide) (br_F (by decide) (br_T le0 (bn_F (by decide) (bn_T rfl ?_))))))
  refine ⟨hb.1, by omega, fun c => absurd h12 c, fun _ => ⟨hb.1, by omega, fun c => br_T rfl ⟨?_, rfl⟩, fun c => br_F (by decide) ⟨?_, rfl⟩⟩⟩
  · have c : A 11 b ≤ A 1 0 := c
    rw [if_pos c]
  · have c : ¬ A 11 b ≤ A 1 0 := c
    rw [if_neg c]
theorem r_block2 (h6 : A 6 0 = 4) (hb : 0 ≤ b ∧ b < 4) (h14 : A 14 b = 0 ∨ A 14 b = 1) : W_X9_block b 2 A (fun z A2 => z = A 14 b ∧ A2 0 0 = 0) := by
  refine m_isBlock1 (by omega) (by omega) (br_F (by decide) (m_in1 (by decide) (br_F (by decide) (br_T le0 (bn_F (by decide) (bn_F (by decide) ⟨hb.1, by omega, fun c => ?_, fun c => ?_⟩))))))
  · have c : A 14 b = 0 := c
    exact ⟨c.symm, rfl⟩
  · have c : ¬ A 14 b = 0 := c
    exact ⟨by omega, rfl⟩
theorem r_train {w v : Int} (hn : 0 ≤ n ∧ n < 6 ∧ ¬ A 36 n = 0) (h3 : A 39 n ≤ 2) (h44 : 0 ≤ A 44 n ∧ A 44 n ≤ 10) (hc : ∀ j : Int, 0 ≤ j → j < A 44 n → 0 ≤ A 43 (10 * n + j) ∧ A 43 (10 * n + j) < 20) (hw : (w = 0 ∧ v = A 39 n) ∨ (w = 1 ∧ v = A 40 n) ∨ (w = 2 ∧ v = A 41 n) ∨ (w = 3 ∧ v = wgt A n (A 44 n).toNat) ∨ (w = 4 ∧ v = A 44 n) ∨ (w = 5 ∧ v = w32 (A 47 n - A 46 n)) ∨ (w = 6 ∧ v = (if A 39 n = 2 then A 42 n else -1))) : W_X9_train n w A (fun z A2 => z = v ∧ A2 0 0 = 0) := by
  refine m_isTrain1 hn (br_F (by decide) (m_in1 (by omega) (br_F (by decide) (br_T le0 ?_))))
  refine ⟨fun c => ⟨hn.1, hn.2.1, ?_, rfl⟩, fun c => ⟨hn.1, hn.2.1, bn_F (show ¬ A 39 n = 3 by omega) ⟨hn.1, hn.2.1, ?_, rfl⟩⟩, fun c => ⟨hn.1, hn.2.1, ?_, rfl⟩, fun c => m_weight hn.1 hn.2.1 h44 hc ⟨?_, rfl⟩, fun c => ⟨hn.1, hn.2.1, ?_, rfl⟩, fun c => ⟨hn.1, hn.2.1, hn.1, hn.2.1, ?_, rfl⟩, fun c => ⟨hn.1, hn.2.1, fun c2 => ⟨?_, rfl⟩, fun c2 => ⟨hn.1, hn.2.1, ?_, rfl⟩⟩⟩
  · show A 39 n = v
    omega
  · show A 40 n = v
    omega
  · show A 41 n = v
    omega
  · show wgt (sc A 0 0) n (A 44 n).toNat = v
    rw [wgt_thr]
    omega
  · show A 44 n = v
    omega
  · show w32 (A 47 n - A 46 n) = v
    omega
  · have c2 : ¬ A 39 n = 2 := c2
    rw [if_neg c2] at hw
    omega
  · have c2 : A 39 n = 2 := c2
    rw [if_pos c2] at hw
    show A 42 n = v
    omega
theorem r_duty (h23 : A 23 0 = 3) (hn : 0 ≤ n ∧ n < 3) : W_X9_duty n A (fun z A2 => z = (if A 27 n ≤ A 1 0 then A 26 n else -1) ∧ A2 0 0 = 0) := by
  refine m_isCrew1 (by omega) (by omega) (br_F (by decide) (br_T le0 ⟨hn.1, by omega, fun c => br_T rfl ⟨hn.1, by omega, ?_, rfl⟩, fun c => br_F (by decide) ⟨?_, rfl⟩⟩))
  · have c : A 27 n ≤ A 1 0 := c
    rw [if_pos c]
    rfl
  · have c : ¬ A 27 n ≤ A 1 0 := c
    rw [if_neg c]
end Asks
theorem LR.thr {L A : Il} {z : Int} (hL : LR L A) (h47 : ∀ n : Int, 0 ≤ n → n < 3 → A 36 n = 1 → A 47 n ≤ 8) : LR L (sc A 0 z) := by
  obtain ⟨hg, hs, hb, hc, ht⟩ := hL
  have hA : ∀ a j, a ≠ 0 → sc A 0 z a j = A a j := fun a j h => sc_k h
  exact ⟨hg.fr ⟨rfl, rfl, rfl⟩ (fun a h => hA a 0 (by omega)), hs.fr (fun _ _ => rfl) (fun j => rfl), hb.fr (fun _ => rfl) (fun a j h => hA a j (by omega)), hc.fr (fun _ _ _ _ _ => rfl) (fun a j h => hA a j (by omega)), ht.fr h47 (fun _ _ _ _ _ _ => rfl) (fun _ => rfl) (fun a j a0 a1 a2 => hA a j (by omega))⟩
section Shows
variable {m : Nat} {G : Gp} {x : Nat} {la : Nat → Nat} {A : Il} {S : Shp} {F : Fl} {I : Il} {Q : Int → Prop}
theorem r_barred {c LN : Nat → Nat} {B : Fl} {E : El} {n : Int} (hR : Rep c LN B E A) (hn : 0 ≤ n ∧ n < 3 ∧ A 36 n = 1) : W_X9_barred n A (fun z A2 => z = (if A 39 n = 1 then fb (bp A n (nb A n)) 10 1 else -1) ∧ A2 0 0 = 0) := by
  refine m_isTrain1 ⟨hn.1, by omega, by omega⟩ (br_F (by decide) (br_T le0 ⟨hn.1, by omega, fun c => ?_, fun c => ⟨?_, rfl⟩⟩))
  · have c : A 39 n = 1 := c
    have hR2 : Rep _ _ B E (sc A 0 0) := hR.thr
    have hr := hR2.rdy hn.1 (by omega) (show sc A 0 0 36 n = 1 from hn.2.2) (show sc A 0 0 39 n = 1 from c)
    refine m_bar hR2 hr ⟨?_, rfl⟩
    have hnb : nb (sc A 0 0) n = nb A n := rfl
    rw [if_pos c, bp_thr, hnb]
  · have c : ¬ A 39 n = 1 := c
    rw [if_neg c]
theorem l_sh_blk (hP : VP m G x la A S F I) (hL : LR (lA la I) A) (h : V_L_shows_173 x (la 1) (la 2) (la 0) (la 3) 1 S F I Q) : ∀ k n : Nat, n + k = 4 → V_L_shows_32 (k + 1) x (la 1) (la 2) (la 0) (la 3) 1 (n : Int) S F I Q
  | 0, n, e => br_T (by omega) h
  | k + 1, n, e => by
    have ih := l_sh_blk hP hL h k (n + 1) (by omega)
    have hS := hP.ls
    have hx := hP.xk
    obtain ⟨c, LN, B, E, hR⟩ := hP.rep
    have n1 := hS.n1
    have n3 := hS.n3
    have b0 : (0 : Int) ≤ (n : Int) := by omega
    have b4 : (n : Int) < 4 := by omega
    have f8 := bx (i := 8) b0 b4 (by decide) (by decide)
    have f16 := bx (i := 16) b0 b4 (by decide) (by decide)
    have f28 := bx (i := 28) b0 b4 (by decide) (by decide)
    have f36 := bx (i := 36) b0 b4 (by decide) (by decide)
    have f4 := bx (i := 4) b0 b4 (by decide) (by decide)
    have n5 : n < 5000 := by omega
    have go : V_L_shows_165 (fun y0 y1 y2 y3 y4 y5 y6 => V_L_shows_32 (k + 1) y0 y1 y2 y3 y4 y5 y6 S F I Q) x (la 1) (la 2) (la 0) (la 3) (n : Int) 1 S F I Q := by
      show V_L_shows_32 (k + 1) x (la 1) (la 2) (la 0) (la 3) 1 (w32 ((n : Int) + 1)) S F I Q
      rw [w32_up n5]
      exact ih
    clear ih
    have wb := hL.2.2.1.2 (n : Int) b0 b4
    have h6 := hL.2.2.1.1
    have w8 : I (la 1) (8 + (n : Int)) = A 10 (n : Int) := wb.2.2.2.2.1
    have w16 : I (la 1) (16 + (n : Int)) = A 14 (n : Int) := wb.2.2.2.2.2.2.1
    have w28 : I (la 1) (28 + (n : Int)) = A 17 (n : Int) := wb.2.2.2.2.2.2.2.2.2.1
    have w36 : I (la 1) (36 + (n : Int)) = A 11 (n : Int) := wb.2.2.2.2.2.2.2.2.2.2.2.1
    have w12 : A 12 (n : Int) = 0 := wb.2.2.2.2.2.2.2.2.2.2.2.2
    clear wb
    have q0 : I (la 3) 0 = A 1 0 := hL.1.1
    have q4 : I (la 3) (4 + (n : Int)) = A 5 (n : Int) := hL.2.1 (n : Int) b0 b4
    have h14 := (hR.2.2.1.2.2.2.2.2.2.2.2.2.2.2 (n : Int) b0 (by omega)).2.1
    have rgn : rg (n : Int) := by unfold rg; omega
    have i28 : (0 : Int) ≤ 28 + (n : Int) ∧ 28 + (n : Int) < (sN S (la 1) : Int) := by omega
    have i8 : (0 : Int) ≤ 8 + (n : Int) ∧ 8 + (n : Int) < (sN S (la 1) : Int) := by omega
    have i16 : (0 : Int) ≤ 16 + (n : Int) ∧ 16 + (n : Int) < (sN S (la 1) : Int) := by omega
    have i36 : (0 : Int) ≤ 36 + (n : Int) ∧ 36 + (n : Int) < (sN S (la 1) : Int) := by omega
    have i4 : (0 : Int) ≤ 4 + (n : Int) ∧ 4 + (n : Int) < (sN S (la 3) : Int) := by omega
    have i0 : (0 : Int) < (sN S (la 3) : Int) := by omega
    have b8 : (n : Int) < 8 := by omega
    refine br_F (by omega) (br_F (by decide) ⟨hx, c_holder hP rgn (r_holder h6 ⟨b0, b4⟩) ?_⟩)
    rw [f28, w28, f8, w8, f36, w36, q0]
    refine ⟨hS.k (by decide), i28.1, i28.2, bn_T rfl (c_holderByTrains hP rgn (r_holderT h6 ⟨b0, b4⟩) ⟨i28.1, i28.2, bn_T rfl (c_block hP rgn (by unfold rg; omega) (r_block0 h6 ⟨b0, b4⟩) ⟨i8.1, i8.2, bn_T rfl (c_block hP rgn (by unfold rg; omega) (r_block1 h6 ⟨b0, b4⟩ w12) ⟨i36.1, i36.2, hS.k (by decide), by decide, i0, ?_⟩)⟩)⟩)⟩
    have fin : ∀ v s0, v = s0 → V_L_shows_118 (fun y0 y1 y2 y3 y4 y5 y6 => V_L_shows_32 (k + 1) y0 y1 y2 y3 y4 y5 y6 S F I Q) x (la 1) (la 2) (la 0) (la 3) (n : Int) s0 v S F I Q := fun v s0 hv => by
      refine bn_T hv ⟨hx, c_block hP rgn (by unfold rg; omega) (r_block2 h6 ⟨b0, b4⟩ h14) ⟨hS.k (by decide), ?_⟩⟩
      rw [f16, w16]
      refine ⟨i16.1, i16.2, bn_T rfl ⟨hx, c_freeTracks hP rgn (r_free ⟨b0, b8⟩) ⟨hS.k (by decide), ?_⟩⟩⟩
      rw [f4, q4]
      exact ⟨i4.1, i4.2, l_taken hS hL.2.2.2.2 hR.t01 (bn_T rfl go)⟩
    refine ⟨fun c9 => fin _ _ ?_, fun c9 => fin _ _ ?_⟩
    · rw [if_pos c9]
    · rw [if_neg c9]
theorem d16 {n : Nat} (h : n < 3) : w32 (Int.tdiv (16 * (n : Int)) 16) = (n : Int) := by
  rw [td_nn (by omega) (by decide)]
  omega
theorem l_sh_tr (hP : VP m G x la A S F I) (hL : LR (lA la I) A) (h : Q 1) : ∀ k n : Nat, n + k = 3 → V_L_shows_176 (k + 1) x (la 1) (la 2) (la 0) (la 3) 1 (16 * (n : Int)) S F I Q
  | 0, n, e => by
    have e' : n = 3 := by omega
    subst e'
    exact br_T (by decide) ⟨Or.inr rfl, h⟩
  | k + 1, n, e => by
    have ih := l_sh_tr hP hL h k (n + 1) (by omega)
    have hS := hP.ls
    have hx := hP.xk
    obtain ⟨c, LN, B, E, hR⟩ := hP.rep
    have n2 := hS.n2
    have n3 := hS.n3
    have b0 : (0 : Int) ≤ (n : Int) := by omega
    have b3 : (n : Int) < 3 := by omega
    have b6 : (n : Int) < 6 := by omega
    have n3' : n < 3 := by omega
    have rgn : rg (n : Int) := by unfold rg; omega
    have go : V_L_shows_416 (fun y0 y1 y2 y3 y4 y5 y6 => V_L_shows_176 (k + 1) y0 y1 y2 y3 y4 y5 y6 S F I Q) x (la 1) (la 2) (la 0) (la 3) 1 (16 * (n : Int)) S F I Q := by
      have e16 : w32 (16 * (n : Int) + 16) = 16 * ((n + 1 : Nat) : Int) := by
        rw [w32_id (by unfold rg; omega)]
        omega
      show V_L_shows_176 (k + 1) x (la 1) (la 2) (la 0) (la 3) 1 (w32 (16 * (n : Int) + 16)) S F I Q
      rw [e16]
      exact ih
    clear ih
    have e2 := ix (i := 2) b0 b3 (by decide) (by decide)
    have e3 := ix (i := 3) b0 b3 (by decide) (by decide)
    have e4 := ix (i := 4) b0 b3 (by decide) (by decide)
    have e5 := ix (i := 5) b0 b3 (by decide) (by decide)
    have e6 := ix (i := 6) b0 b3 (by decide) (by decide)
    have e7 := ix (i := 7) b0 b3 (by decide) (by decide)
    have e8 := ix (i := 8) b0 b3 (by decide) (by decide)
    have e13 := ix (i := 13) b0 b3 (by decide) (by decide)
    have e14 := ix (i := 14) b0 b3 (by decide) (by decide)
    have ib : ∀ i : Int, 0 ≤ i → i < 16 → 0 ≤ 16 * (n : Int) + i ∧ 16 * (n : Int) + i < (sN S (la 2) : Int) := fun i i0 i1 => by omega
    have i0 : (0 : Int) < (sN S (la 3) : Int) := by omega
    have t := hL.2.2.2.2.1 (n : Int) b0 b3
    have t0 : I (la 2) (16 * (n : Int)) = A 36 (n : Int) := t.1
    have q0 : I (la 3) 0 = A 1 0 := hL.1.1
    refine br_F (by omega) (br_F (by decide) ⟨hS.k (by decide), by omega, by omega, ?_⟩)
    rw [t0]
    refine ⟨fun _ => go, fun c36 v hv => ⟨hx, ?_⟩⟩
    rw [d16 n3'] at hv
    subst hv
    have tt := t.2 c36
    have t3 : I (la 2) (16 * (n : Int) + 3) = A 39 (n : Int) := tt.2.2.1
    have a39 := tt.2.2.2.1
    have t4 : I (la 2) (16 * (n : Int) + 4) = A 40 (n : Int) := tt.2.2.2.2.1
    have t5 : I (la 2) (16 * (n : Int) + 5) = A 41 (n : Int) := tt.2.2.2.2.2.2.1
    have t6 : A 39 (n : Int) = 2 → I (la 2) (16 * (n : Int) + 6) = A 42 (n : Int) := tt.2.2.2.2.2.2.2.1
    have t2 : I (la 2) (16 * (n : Int) + 2) = A 44 (n : Int) := tt.2.2.2.2.2.2.2.2.1
    have t7 : I (la 2) (16 * (n : Int) + 7) = A 46 (n : Int) := tt.2.2.2.2.2.2.2.2.2.2.1
    have t8 : I (la 2) (16 * (n : Int) + 8) = A 47 (n : Int) := tt.2.2.2.2.2.2.2.2.2.2.2.1
    have cw := hL.2.2.2.1.2.2 (n : Int) b0 b3
    have t13 : I (la 2) (16 * (n : Int) + 13) = A 26 (n : Int) := cw.2.2.1
    have t14 : I (la 2) (16 * (n : Int) + 14) = A 27 (n : Int) := cw.2.2.2.1
    have h23 := hL.2.2.2.1.2.1
    clear cw tt t
    have gT := (hR.2.2.2.2.2.2.2.2.2.2.2.2.2.2.2.2.1 (n : Int) b0 b6).2.2.2.2 c36
    have gU := (hR.2.2.2.2.2.2.2.2.2.2.2.2.2.1 (n : Int) b0 b6).2 c36
    have h29 := hR.2.2.2.2.2.2.2.2.1.1
    have hw := hR.wgt2 b0 b6 c36
    have l44 : 0 ≤ A 44 (n : Int) ∧ A 44 (n : Int) ≤ 10 := by
      obtain ⟨y1, y2, y3, y4, y5, y6, y7, y8, y9, y10, y11, y12, y13, y14, y15, y16, y17, y18, y19, y20, y21, y22, y23, -⟩ := gT
      exact ⟨y22, y23⟩
    clear gT
    have hc : ∀ j : Int, 0 ≤ j → j < A 44 (n : Int) → 0 ≤ A 43 (10 * (n : Int) + j) ∧ A 43 (10 * (n : Int) + j) < 20 := fun j j0 j1 => by
      obtain ⟨z1, z2, -⟩ := gU.2 j j0 j1
      omega
    clear gU
    have hn : 0 ≤ (n : Int) ∧ (n : Int) < 6 ∧ ¬ A 36 (n : Int) = 0 := ⟨b0, b6, by omega⟩
    have e44 : w32 (2 * A 44 (n : Int)) = wgt A (n : Int) (A 44 (n : Int)).toNat := by
      rw [hw, w32_id (by unfold rg; omega)]
    have rt : ∀ {w v : Int}, ((w = 0 ∧ v = A 39 (n : Int)) ∨ (w = 1 ∧ v = A 40 (n : Int)) ∨ (w = 2 ∧ v = A 41 (n : Int)) ∨ (w = 3 ∧ v = wgt A (n : Int) (A 44 (n : Int)).toNat) ∨ (w = 4 ∧ v = A 44 (n : Int)) ∨ (w = 5 ∧ v = w32 (A 47 (n : Int) - A 46 (n : Int))) ∨ (w = 6 ∧ v = (if A 39 (n : Int) = 2 then A 42 (n : Int) else -1))) → W_X9_train (n : Int) w A (fun z A2 => z = v ∧ A2 0 0 = 0) := fun hw9 => r_train hn a39 l44 hc hw9
    have rgw : ∀ w : Int, 0 ≤ w → w ≤ 6 → rg w := fun w w0 w1 => by unfold rg; omega
    rw [e3, t3, e4, t4, e5, t5, e2, t2, e44, e8, t8, e7, t7]
    refine c_train hP rgn (rgw 0 (by decide) (by decide)) (rt (Or.inl ⟨rfl, rfl⟩)) ⟨(ib 3 (by decide) (by decide)).1, (ib 3 (by decide) (by decide)).2, bn_T rfl ?_⟩
    refine c_train hP rgn (rgw 1 (by decide) (by decide)) (rt (Or.inr (Or.inl ⟨rfl, rfl⟩))) ⟨(ib 4 (by decide) (by decide)).1, (ib 4 (by decide) (by decide)).2, bn_T rfl ?_⟩
    refine c_train hP rgn (rgw 2 (by decide) (by decide)) (rt (Or.inr (Or.inr (Or.inl ⟨rfl, rfl⟩)))) ⟨(ib 5 (by decide) (by decide)).1, (ib 5 (by decide) (by decide)).2, bn_T rfl ?_⟩
    refine c_train hP rgn (rgw 3 (by decide) (by decide)) (rt (Or.inr (Or.inr (Or.inr (Or.inl ⟨rfl, rfl⟩))))) ⟨(ib 2 (by decide) (by decide)).1, (ib 2 (by decide) (by decide)).2, bn_T rfl ?_⟩
    refine c_train hP rgn (rgw 4 (by decide) (by decide)) (rt (Or.inr (Or.inr (Or.inr (Or.inr (Or.inl ⟨rfl, rfl⟩)))))) ⟨(ib 2 (by decide) (by decide)).1, (ib 2 (by decide) (by decide)).2, bn_T rfl ?_⟩
    refine c_train hP rgn (rgw 5 (by decide) (by decide)) (rt (Or.inr (Or.inr (Or.inr (Or.inr (Or.inr (Or.inl ⟨rfl, rfl⟩))))))) ⟨(ib 8 (by decide) (by decide)).1, (ib 8 (by decide) (by decide)).2, (ib 7 (by decide) (by decide)).1, (ib 7 (by decide) (by decide)).2, bn_T rfl ?_⟩
    have last : ∀ v s0, v = s0 → V_L_shows_406 (fun y0 y1 y2 y3 y4 y5 y6 => V_L_shows_176 (k + 1) y0 y1 y2 y3 y4 y5 y6 S F I Q) x (la 1) (la 2) (la 0) (la 3) (16 * (n : Int)) s0 v S F I Q := fun v s0 hv => bn_T hv go
    have dut : ∀ v s0, v = s0 → V_L_shows_372 (fun y0 y1 y2 y3 y4 y5 y6 => V_L_shows_176 (k + 1) y0 y1 y2 y3 y4 y5 y6 S F I Q) x (la 1) (la 2) (la 0) (la 3) (16 * (n : Int)) (n : Int) s0 v S F I Q := fun v s0 hv => by
      refine bn_T hv ⟨hx, c_duty hP rgn (r_duty h23 ⟨b0, b3⟩) ⟨hS.k (by decide), ?_⟩⟩
      rw [e14, t14, q0, e13, t13]
      refine ⟨(ib 14 (by decide) (by decide)).1, (ib 14 (by decide) (by decide)).2, hS.k (by decide), by decide, i0, fun c9 => ⟨(ib 13 (by decide) (by decide)).1, (ib 13 (by decide) (by decide)).2, last _ _ ?_⟩, fun c9 => last _ _ ?_⟩
      · rw [if_pos c9]
      · rw [if_neg c9]
    have bar : ∀ v s0, v = s0 → V_L_shows_339 (fun y0 y1 y2 y3 y4 y5 y6 => V_L_shows_176 (k + 1) y0 y1 y2 y3 y4 y5 y6 S F I Q) x (la 1) (la 2) (la 0) (la 3) (16 * (n : Int)) (n : Int) s0 v S F I Q := fun v s0 hv => by
      refine bn_T hv ⟨hx, c_barred hP rgn (r_barred hR ⟨b0, b3, c36⟩) ⟨hS.k (by decide), ?_⟩⟩
      rw [e3, t3]
      refine ⟨(ib 3 (by decide) (by decide)).1, (ib 3 (by decide) (by decide)).2, fun c9 => dut _ _ ?_, fun c9 => ?_⟩
      · rw [if_neg c9]
      · rw [if_pos c9]
        exact l_bars hS hL hR b0 b3 c36 c9 (dut _ _ rfl)
    refine c_train hP rgn (rgw 6 (by decide) (by decide)) (rt (Or.inr (Or.inr (Or.inr (Or.inr (Or.inr (Or.inr ⟨rfl, rfl⟩))))))) ⟨(ib 3 (by decide) (by decide)).1, (ib 3 (by decide) (by decide)).2, fun c9 => bar _ _ ?_, fun c9 => ⟨?_, ?_, bar _ _ ?_⟩⟩
    · rw [if_neg c9]
    · rw [e6]; exact (ib 6 (by decide) (by decide)).1
    · rw [e6]; exact (ib 6 (by decide) (by decide)).2
    · rw [if_pos c9, e6, t6 c9]
theorem l_shows (hP : VP m G x la A S F I) (hL : LR (lA la I) A) (h : Q 1) : V_L_shows x (la 1) (la 2) (la 0) (la 3) S F I Q := by
  have hS := hP.ls
  have n3 := hS.n3
  have q0 : I (la 3) 0 = A 1 0 := hL.1.1
  have q1 : I (la 3) 1 = A 2 0 := hL.1.2.1
  refine ⟨hP.xk, c_clock hP ⟨rfl, rfl⟩ ⟨hS.k (by decide), by decide, by omega, bn_T q0.symm (c_cash hP ⟨rfl, rfl⟩ ⟨by decide, by omega, bn_T q1.symm ⟨5, ?_⟩⟩)⟩⟩
  exact l_sh_blk hP hL ⟨4, l_sh_tr hP hL h 3 0 rfl⟩ 4 0 rfl
end Shows
