/-! a minute: blocks fall free, trains arrive, trains enter -/
/-- the law's rows at the minute's first step, k blocks looked at -/
def tckL (L A : Il) (k : Int) : Il := fun r j => if r = 1 ∧ 28 ≤ j ∧ j < 28 + k then tck A 17 (j - 28) else if r = 3 ∧ j = 0 then A 1 0 + 1 else L r j
section Tick
variable {c LN : Nat → Nat} {B : Fl} {E : El} {la : Nat → Nat} {S : Shp} {F : Fl} {I : Il} {A L : Il}
theorem tckL_s {k v : Int} (hk : 0 ≤ k) (hv : v = tck A 17 k) : ui (tckL L A k) 1 (28 + k) v = tckL L A (k + 1) := by
  funext r j
  show (if r = 1 ∧ j = 28 + k then v else if r = 1 ∧ 28 ≤ j ∧ j < 28 + k then tck A 17 (j - 28) else if r = 3 ∧ j = 0 then A 1 0 + 1 else L r j) = if r = 1 ∧ 28 ≤ j ∧ j < 28 + (k + 1) then tck A 17 (j - 28) else if r = 3 ∧ j = 0 then A 1 0 + 1 else L r j
  by_cases h : r = 1 ∧ j = 28 + k
  · rw [if_pos h, if_pos ⟨h.1, by omega, by omega⟩, hv, h.2, show 28 + k - 28 = k by omega]
  · rw [if_neg h]
    by_cases h2 : r = 1 ∧ 28 ≤ j ∧ j < 28 + k
    · rw [if_pos h2, if_pos ⟨h2.1, h2.2.1, by omega⟩]
    · rw [if_neg h2, if_neg (show ¬ (r = 1 ∧ 28 ≤ j ∧ j < 28 + (k + 1)) from fun w => h2 ⟨w.1, w.2.1, by
        have := w.2.2
        by_cases e : j = 28 + k
        · exact absurd ⟨w.1, e⟩ h
        · omega⟩)]
theorem tckL_LR (hL : LR L A) (hR : Rep c LN B E A) : LR (tckL L A 4) (tck A) := by
  obtain ⟨⟨g1, g2, g3, g4⟩, hs, ⟨hb0, hb⟩, hc, ht⟩ := hL
  have h47 := hR.w47
  have r0 : ∀ j, tckL L A 4 0 j = L 0 j := fun j => (if_neg (fun w => absurd w.1 (by decide))).trans (if_neg (fun w => absurd w.1 (by decide)))
  have r2 : ∀ j, tckL L A 4 2 j = L 2 j := fun j => (if_neg (fun w => absurd w.1 (by decide))).trans (if_neg (fun w => absurd w.1 (by decide)))
  have r3 : ∀ j, j ≠ 0 → tckL L A 4 3 j = L 3 j := fun j h => (if_neg (fun w => absurd w.1 (by decide))).trans (if_neg (fun w => h w.2))
  have r1 : ∀ j, j < 28 ∨ 32 ≤ j → tckL L A 4 1 j = L 1 j := fun j h => (if_neg (fun w => by omega)).trans (if_neg (fun w => absurd w.1 (by decide)))
  have r1b : ∀ k : Int, 0 ≤ k → k < 4 → tckL L A 4 1 (28 + k) = tck A 17 k := fun k k0 k1 => by
    show (if _ then tck A 17 (28 + k - 28) else _) = _
    rw [if_pos ⟨rfl, by omega, by omega⟩, show 28 + k - 28 = k by omega]
  refine ⟨⟨(if_neg (fun w => absurd w.1 (by decide))).trans (if_pos ⟨rfl, rfl⟩), ?_, ?_, ?_⟩, hs.fr (fun j hj => r3 j (by omega)) (fun j => tck_o (by decide)), ?_, hc.fr (fun n i _ _ _ => r2 _) (fun a j h => tck_o (by omega)), ht.fr h47 (fun n i _ _ _ _ => r2 _) r0 (fun a j a0 a1 a2 => tck_o (by omega))⟩
  · rw [r3 1 (by decide), tck_o (by decide)]; exact g2
  · rw [tck_o (by decide)]; exact g3
  · rw [r3 3 (by decide), tck_o (by decide)]; exact g4
  · refine ⟨(tck_o (by decide)).trans hb0, fun k k0 k1 => ?_⟩
    obtain ⟨w1, w2, w3, w4, w5, w6, w7, w8, w9, w10, w11, w12, w13⟩ := hb k k0 k1
    rw [r1 k (by omega), r1 (4 + k) (by omega), r1 (8 + k) (by omega), r1 (12 + k) (by omega), r1 (16 + k) (by omega), r1 (20 + k) (by omega), r1 (24 + k) (by omega), r1b k k0 k1, r1 (32 + k) (by omega), r1 (36 + k) (by omega), tck_o (a := 7) (by decide), tck_o (a := 7) (by decide), tck_o (a := 8) (by decide), tck_o (a := 9) (by decide), tck_o (a := 10) (by decide), tck_o (a := 13) (by decide), tck_o (a := 14) (by decide), tck_o (a := 15) (by decide), tck_o (a := 16) (by decide), tck_o (a := 18) (by decide), tck_o (a := 11) (by decide), tck_o (a := 12) (by decide)]
    refine ⟨w1, w2, w3, w4, w5, w6, w7, w8, w9, rfl, fun h => w11 (fun w => h ?_), w12, w13⟩
    rw [tck_17 ⟨k0, by omega⟩]
    split
    · rfl
    · exact w
theorem l_free {Q : Il → Prop} {I0 : Il} (hS : Ls la S) (hL : LR (lA la I0) A) (hR : Rep c LN B E A) (hQ : ∀ I', FrL la I0 I' → lA la I' = tckL (lA la I0) A 4 → ∃ n9, V_L_minute_66 n9 (la 1) (la 2) (la 0) (la 3) 0 S F I' Q) : ∀ (k n : Nat) (I : Il), n + k = 4 → FrL la I0 I → lA la I = tckL (lA la I0) A (n : Int) → V_L_minute_10 (k + 1) (la 1) (la 2) (la 0) (la 3) (n : Int) S F I Q
  | 0, n, I, e, hF, hI => by
    have e' : n = 4 := by omega
    subst e'
    exact br_T (by decide) (hQ I hF hI)
  | k + 1, n, I, e, hF, hI => by
    have n1 := hS.n1
    have n3 := hS.n3
    have f28 := bx (b := (n : Int)) (i := 28) (by omega) (by omega) (by decide) (by decide)
    have f32 := bx (b := (n : Int)) (i := 32) (by omega) (by omega) (by decide) (by decide)
    obtain ⟨-, -, ⟨hb0, hb⟩, -⟩ := id hL
    have wb := hb (n : Int) (by omega) (by omega)
    have w10 : lA la I0 1 (28 + (n : Int)) = A 17 (n : Int) := wb.2.2.2.2.2.2.2.2.2.1
    have w11 : A 17 (n : Int) ≠ -1 → lA la I0 1 (32 + (n : Int)) = A 18 (n : Int) := wb.2.2.2.2.2.2.2.2.2.2.1
    clear wb
    have gH := hR.2.2.2.2.1 (n : Int) (by omega) (by omega)
    obtain ⟨T, t17, key⟩ : ∃ T : Int, T = (if A 18 (n : Int) ≤ A 1 0 + 1 then -1 else A 17 (n : Int)) ∧ ∀ v, v = T → ui (tckL (lA la I0) A (n : Int)) 1 (28 + (n : Int)) v = tckL (lA la I0) A ((n + 1 : Nat) : Int) := ⟨tck A 17 (n : Int), tck_17 ⟨by omega, by omega⟩, fun v hv => by
      rw [tckL_s (by omega) hv, show (n : Int) + 1 = ((n + 1 : Nat) : Int) by omega]⟩
    have x28 : I (la 1) (28 + (n : Int)) = A 17 (n : Int) := by
      show lA la I 1 _ = _
      rw [hI]
      exact (if_neg (fun w => by omega)).trans ((if_neg (fun w => absurd w.1 (by decide))).trans w10)
    have x32 : ¬ A 17 (n : Int) = -1 → I (la 1) (32 + (n : Int)) = A 18 (n : Int) := fun h => by
      show lA la I 1 _ = _
      rw [hI]
      exact (if_neg (fun w => by omega)).trans ((if_neg (fun w => absurd w.1 (by decide))).trans (w11 h))
    have x0 : I (la 3) 0 = A 1 0 + 1 := by
      show lA la I 3 _ = _
      rw [hI]
      exact (if_neg (fun w => absurd w.1 (by decide))).trans (if_pos ⟨rfl, rfl⟩)
    clear w10 w11 hb
    have n5 : n < 5000 := by omega
    have fin : ∀ v, v = T → V_L_minute_56 (fun y0 y1 y2 y3 y4 I' => V_L_minute_10 (k + 1) y0 y1 y2 y3 y4 S F I' Q) (la 1) (la 2) (la 0) (la 3) (n : Int) v (28 + (n : Int)) (la 1) S F I Q := fun v hv => ⟨hS.k (by decide), by omega, by omega, fun I4 h4 => by
      show V_L_minute_10 (k + 1) (la 1) (la 2) (la 0) (la 3) (w32 ((n : Int) + 1)) S F I4 Q
      rw [w32_up n5]
      have g4 := stp hS (by decide) h4
      rw [hI, key v hv] at g4
      exact l_free hS hL hR hQ k (n + 1) I4 (by omega) (hF.stp (by decide) h4) g4⟩
    have keep : A 17 (n : Int) = T → V_L_minute_49 (fun y0 y1 y2 y3 y4 I' => V_L_minute_10 (k + 1) y0 y1 y2 y3 y4 S F I' Q) (la 1) (la 2) (la 0) (la 3) (n : Int) (28 + (n : Int)) (la 1) S F I Q := fun hv => by
      refine ⟨hS.k (by decide), by omega, by omega, ?_⟩
      rw [f28, x28]
      exact fin _ hv
    refine br_F (by omega) ⟨hS.k (by decide), by omega, by omega, ?_⟩
    rw [f28, x28]
    refine ⟨fun c1 => keep ?_, fun c1 => ⟨by omega, by omega, hS.k (by decide), by decide, by omega, ?_⟩⟩
    · rw [t17]
      split <;> omega
    · rw [f32, x32 (by omega), x0]
      refine ⟨fun c2 => keep ?_, fun c2 => fin _ ?_⟩
      · rw [t17, if_neg (by omega)]
      · rw [t17, if_pos (by omega)]
/-- what holds of both, i trains looked at for arrival -/
def BI (i : Int) (la : Nat → Nat) (I A : Il) : Prop := (∃ (c LN : Nat → Nat) (B : Fl) (E : El), RepI i c LN B E A) ∧ LR (lA la I) A
def BR (la : Nat → Nat) (I A : Il) : Prop := (∃ (c LN : Nat → Nat) (B : Fl) (E : El), Rep c LN B E A) ∧ LR (lA la I) A
theorem arr_smm (A : Il) (t : Int) : Smm A (arr A t) := ⟨arr_o (by decide), arr_o (by decide), fun _ => arr_o (by decide), fun _ => arr_o (by decide)⟩
theorem ent_smm (A : Il) (t : Int) : Smm A (ent A t) := ⟨ent_o (by decide), ent_o (by decide), fun _ => ent_o (by decide), fun _ => ent_o (by decide)⟩
theorem lk_arrs (hS : Ls la S) : ∀ (k n : Nat) (I A : Il), n + k = 3 → BI (n : Int) la I A → ∃ (I' A' : Il), BI 3 la I' A' ∧ FrL la I I' ∧ lA la I' 3 2 = lA la I 3 2 ∧ Smm A A' ∧ A' 1 0 = A 1 0 ∧ (∀ Q, W_X9_ticks_67 4 3 A' Q → W_X9_ticks_67 (k + 4) (n : Int) A Q) ∧ ∀ Q, V_L_minute_66 1 (la 1) (la 2) (la 0) (la 3) 48 S F I' Q → V_L_minute_66 (k + 1) (la 1) (la 2) (la 0) (la 3) (16 * (n : Int)) S F I Q
  | 0, n, I, A, e, hB => by
    have e' : n = 3 := by omega
    subst e'
    exact ⟨I, A, hB, FrL.rf, rfl, Smm.rf, rfl, fun Q h => h, fun Q h => h⟩
  | k + 1, n, I, A, e, ⟨⟨c, LN, B, E, hR⟩, hL⟩ => by
    have n1 := hS.n1
    have n2 := hS.n2
    have n3 := hS.n3
    have e2 := ix (n := (n : Int)) (i := 2) (by omega) (by omega) (by decide) (by decide)
    have e3 := ix (n := (n : Int)) (i := 3) (by omega) (by omega) (by decide) (by decide)
    have e5 := ix (n := (n : Int)) (i := 5) (by omega) (by omega) (by decide) (by decide)
    have e6 := ix (n := (n : Int)) (i := 6) (by omega) (by omega) (by decide) (by decide)
    have e7 := ix (n := (n : Int)) (i := 7) (by omega) (by omega) (by decide) (by decide)
    have e8 := ix (n := (n : Int)) (i := 8) (by omega) (by omega) (by decide) (by decide)
    have e16 : w32 (16 * (n : Int) + 16) = 16 * ((n + 1 : Nat) : Int) := by
      rw [w32_id (by unfold rg; omega)]
      omega
    have hT := hR.2.2.2.2.2.2.2.2.2.2.2.2.2.2.2.2.1 (n : Int)
    obtain ⟨u_1, u_2, u_3, u_4, u_5⟩ := hT.2 (Int.le_refl _) (by omega) (by omega)
    obtain ⟨⟨g1, -⟩, -, ⟨hb0, hb⟩, -, ht, ht6⟩ := id hL
    obtain ⟨t0, t36⟩ := ht (n : Int) (by omega) (by omega)
    have t0 : I (la 2) (16 * (n : Int)) = A 36 (n : Int) := t0
    have q0 : I (la 3) 0 = A 1 0 := g1
    have h47 : ∀ m : Int, 0 ≤ m → m < 3 → A 36 m = 1 → A 47 m ≤ 8 := fun m m0 m1 h => by
      have hT := hR.2.2.2.2.2.2.2.2.2.2.2.2.2.2.2.2.1 m
      by_cases hm : m < (n : Int)
      · obtain ⟨y1, y2, y3, y4, y5, y6, y7, y8, y9, y10, y11, y12, y13, y14, y15, y16, y17, y18, y19, y20, y21, y22, y23, y24, y25, y26, -⟩ := (hT.1 hm m0 (by omega)).2.2.2.2 h
        exact y26
      · obtain ⟨y1, y2, y3, y4, y5, y6, y7, y8, y9, y10, y11, y12, y13, y14, y15, y16, y17, y18, y19, y20, y21, y22, y23, y24, y25, y26, -⟩ := (hT.2 (by omega) m0 (by omega)).2.2.2.2 h
        exact y26
    by_cases go : A 36 (n : Int) = 1 ∧ A 39 (n : Int) = 2 ∧ A 42 (n : Int) = A 1 0
    · obtain ⟨k1, k2, k3⟩ := go
      obtain ⟨y1, y2, y3, y4, y5, y6, y7, y8, y9, y10, y11, y12, y13, y14, y15, y16, y17, y18, y19, y20, y21, y22, y23, -⟩ := u_5 k1
      have h41 : 0 ≤ A 41 (n : Int) ∧ A 41 (n : Int) < 4 := by
        have ne : A 41 (n : Int) ≠ -1 := fun w => by have := y17.1 w; omega
        omega
      have f8 := bx (b := A 41 (n : Int)) (i := 8) (by omega) (by omega) (by decide) (by decide)
      have w8 : I (la 1) (8 + A 41 (n : Int)) = A 10 (A 41 (n : Int)) := (hb _ h41.1 h41.2).2.2.2.2.1
      have v3 : I (la 2) (16 * (n : Int) + 3) = A 39 (n : Int) := (t36 k1).2.2.1
      have v7 : I (la 2) (16 * (n : Int) + 5) = A 41 (n : Int) := (t36 k1).2.2.2.2.2.2.1
      have v8 : I (la 2) (16 * (n : Int) + 6) = A 42 (n : Int) := (t36 k1).2.2.2.2.2.2.2.1 k2
      have v9 : I (la 2) (16 * (n : Int) + 2) = A 44 (n : Int) := (t36 k1).2.2.2.2.2.2.2.2.1
      have xb : ∀ i : Int, 0 ≤ i → i < 16 → 0 ≤ w32 (16 * (n : Int) + i) ∧ w32 (16 * (n : Int) + i) < (sN S (la 2) : Int) := fun i i0 i1 => by
        rw [ix (by omega) (by omega) i0 i1]
        omega
      have bb : ∀ i : Int, 0 ≤ i → i < 16 → 0 ≤ 16 * (n : Int) + i ∧ 16 * (n : Int) + i < (sN S (la 2) : Int) := fun i i0 i1 => by omega
      have hR2 := arr_rep hR (by omega) (by omega) k1 k2 k3
      rw [show (n : Int) + 1 = ((n + 1 : Nat) : Int) by omega] at hR2
      obtain ⟨I20, h20⟩ : ∃ J : Il, J = ui I (la 1) (8 + A 41 (n : Int)) (w32 (A 10 (A 41 (n : Int)) + w32 (1 + A 44 (n : Int)))) := ⟨_, rfl⟩
      obtain ⟨I23, h23⟩ : ∃ J : Il, J = ui I20 (la 2) (16 * (n : Int) + 5) (-1) := ⟨_, rfl⟩
      obtain ⟨I9, h9e⟩ : ∃ J : Il, J = ui I23 (la 2) (16 * (n : Int) + 3) (if A 47 (n : Int) ≤ A 46 (n : Int) then 0 else 1) := ⟨_, rfl⟩
      have k20 : FrL la I I20 := FrL.rf.stp (by decide) h20
      have k23 : FrL la I I23 := k20.stp (by decide) h23
      have k9 : FrL la I I9 := k23.stp (by decide) h9e
      have g20 := stp hS (by decide) h20
      have g23 := stp hS (by decide) h23
      rw [g20] at g23
      have g9 : lA la I9 = arrL (lA la I) (n : Int) (A 41 (n : Int)) (w32 (A 10 (A 41 (n : Int)) + w32 (1 + A 44 (n : Int)))) (if A 47 (n : Int) ≤ A 46 (n : Int) then 0 else 1) := by
        have g := stp hS (by decide) h9e
        rw [g23] at g
        exact g
      have hL9 : LR (lA la I9) (arr A (n : Int)) := by
        rw [g9]
        exact arr_LR hL h47 (by omega) (by omega) k1 k2 h41
      have r23 : ∀ i, 6 ≤ i → i < 16 → I23 (la 2) (16 * (n : Int) + i) = lA la I 2 (16 * (n : Int) + i) := fun i i0 i1 => by
        show lA la I23 2 _ = _
        rw [g23]
        exact (ui_j (by omega)).trans (ui_k (by decide))
      obtain ⟨I', A', i1, i2, i3, i4, i5, i6, i7⟩ := lk_arrs hS k (n + 1) I9 (arr A (n : Int)) (by omega) ⟨⟨c, LN, _, _, hR2⟩, hL9⟩
      refine ⟨I', A', i1, k9.t i2, i3.trans (by rw [g9]; exact arrL_3), (arr_smm A (n : Int)).t i4, i5.trans (arr_o (by decide)), fun Q hQ => ?_, fun Q hQ => ?_⟩
      · show W_X9_ticks_67 (k + 4 + 1) (n : Int) A Q
        refine br_F (by omega) ⟨by omega, by omega, br_F (by omega) ⟨by omega, by omega, bn_T k2 ⟨by omega, by omega, bn_T k3 (m_arrives (by omega) (by omega) ⟨h41.1, by omega⟩ ?_)⟩⟩⟩
        show W_X9_ticks_67 (k + 4) (w32 ((n : Int) + 1)) (arr A (n : Int)) Q
        rw [w32_up (by omega)]
        exact i6 Q hQ
      · have h9 := i7 Q hQ
        rw [← e16] at h9
        refine br_F (by omega) ⟨hS.k (by decide), by omega, by omega, ?_⟩
        rw [t0, e3, v3, e6, v8, q0, e5, v7, f8, w8, e2, v9]
        refine bn_T k1 ⟨by omega, by omega, bn_T k2 ⟨by omega, by omega, hS.k (by decide), by decide, by omega, bn_T k3 ⟨by omega, by omega, hS.k (by decide), by omega, by omega, by omega, by omega, by omega, by omega, fun J20 j20 => ⟨(bb 5 (by decide) (by decide)).1, (bb 5 (by decide) (by decide)).2, fun J23 j23 => ⟨(xb 7 (by decide) (by decide)).1, (xb 7 (by decide) (by decide)).2, (xb 8 (by decide) (by decide)).1, (xb 8 (by decide) (by decide)).2, ?_⟩⟩⟩⟩⟩
        have j20 : I20 = J20 := h20.trans j20.symm
        subst j20
        have j23 : I23 = J23 := h23.trans j23.symm
        subst j23
        have x7 : I23 (la 2) (16 * (n : Int) + 7) = A 46 (n : Int) := (r23 7 (by decide) (by decide)).trans ((t36 k1).2.2.2.2.2.2.2.2.2.2.1)
        have x8 : I23 (la 2) (16 * (n : Int) + 8) = A 47 (n : Int) := (r23 8 (by decide) (by decide)).trans ((t36 k1).2.2.2.2.2.2.2.2.2.2.2.1)
        rw [e8, e7, x7, x8]
        refine ⟨fun c1 => ⟨hS.k (by decide), by omega, by omega, fun J9 j9 => ?_⟩, fun c1 => ⟨hS.k (by decide), by omega, by omega, fun J9 j9 => ?_⟩⟩
        · have j9 : J9 = I9 := by
            rw [j9, h9e, if_pos c1]
          rw [j9]
          exact h9
        · have j9 : J9 = I9 := by
            rw [j9, h9e, if_neg c1]
          rw [j9]
          exact h9
    · have hk : A 36 (n : Int) = 1 → A 39 (n : Int) = 2 → A 1 0 < A 42 (n : Int) := fun g1 g2 => by
        obtain ⟨y1, y2, y3, y4, y5, y6, y7, y8, y9, y10, y11, y12, y13, y14, y15, y16, y17, y18, y19, y20, -⟩ := u_5 g1
        have w := (y20 g2).2.1
        by_cases c3 : A 42 (n : Int) = A 1 0
        · exact absurd ⟨g1, g2, c3⟩ go
        · omega
      obtain ⟨I', A', i1, i2, i3, i4, i5, i6, i7⟩ := lk_arrs hS k (n + 1) I A (by omega) ⟨⟨c, LN, B, E, hR.up hk⟩, hL⟩
      refine ⟨I', A', i1, i2, i3, i4, i5, fun Q hQ => ?_, fun Q hQ => ?_⟩
      · have F9 : W_X9_ticks_110 (fun y0 A' => W_X9_ticks_67 (k + 4) y0 A' Q) (n : Int) A Q := by
          show W_X9_ticks_67 (k + 4) (w32 ((n : Int) + 1)) A Q
          rw [w32_up (by omega)]
          exact i6 Q hQ
        show W_X9_ticks_67 (k + 4 + 1) (n : Int) A Q
        refine br_F (by omega) ⟨by omega, by omega, fun _ => F9, fun c1 => ⟨by omega, by omega, fun _ => F9, fun c2 => ⟨by omega, by omega, fun _ => F9, fun c3 => ?_⟩⟩⟩
        exact absurd ⟨by omega, c2, c3⟩ go
      · have h9 := i7 Q hQ
        rw [← e16] at h9
        have F9 : V_L_minute_161 (fun y0 y1 y2 y3 y4 I' => V_L_minute_66 (k + 1) y0 y1 y2 y3 y4 S F I' Q) (la 1) (la 2) (la 0) (la 3) (16 * (n : Int)) S F I Q := h9
        refine br_F (by omega) ⟨hS.k (by decide), by omega, by omega, ?_⟩
        rw [t0]
        refine ⟨fun _ => F9, fun c1 => ⟨by omega, by omega, ?_⟩⟩
        have v3 : I (la 2) (16 * (n : Int) + 3) = A 39 (n : Int) := (t36 c1).2.2.1
        rw [e3, v3]
        refine ⟨fun _ => F9, fun c2 => ⟨by omega, by omega, hS.k (by decide), by decide, by omega, ?_⟩⟩
        have v8 : I (la 2) (16 * (n : Int) + 6) = A 42 (n : Int) := (t36 c1).2.2.2.2.2.2.2.1 c2
        rw [e6, v8, q0]
        exact ⟨fun _ => F9, fun c3 => absurd ⟨c1, c2, c3⟩ go⟩
end Tick
