/-! an engine and a crew; what a crew learns; a train is formed; a car is coupled -/
def enA (A : Il) (s p : Int) : Il := sc (sc (ui (ui (ui (sc A 0 0) 20 (A 19 0) p) 21 (A 19 0) s) 22 (A 19 0) (-1)) 2 (w32 (A 2 0 - w32 (100 * p)))) 19 (A 19 0 + 1)
def crA (A : Il) (s : Int) : Il := sc (ui (ui (sc A 0 0) 24 (A 23 0) s) 25 (A 23 0) (-1)) 23 (A 23 0 + 1)
def foA (A : Il) (n : Int) : Il := ui (ui (ui (ui (ui (ui (ui (ui (ui (ui (ui (ui (sc A 0 0) 36 n 1) 37 n n) 38 n n) 22 n n) 25 n n) 39 n 0) 40 n (A 21 n)) 41 n (-1)) 44 n 0) 46 n 0) 47 n 0) 50 n (-1)
/-- the blocks known, as far as i -/
def BT (i : Nat) (n : Int) (L A : Il) : Prop := ∃ v : Nat, v < 2 ^ i ∧ L 2 (16 * n + 15) = (v : Int) ∧ ∀ b : Nat, b < 4 → (v.testBit b = true ↔ ¬ A 28 (16 * n + (b : Int)) = 0)
/-- engine and crew stand, i blocks are taught -/
def C1 (n s T : Int) (i : Nat) (L A : Il) : Prop := S2 n L A ∧ (A 19 0 = n + 1 ∧ A 23 0 = n + 1 ∧ A 29 0 ≤ 5 * n) ∧ (A 36 n = 0 ∧ A 21 n = s ∧ A 22 n = -1 ∧ A 24 n = s ∧ A 25 n = -1 ∧ A 26 n = 0 ∧ A 27 n = 0) ∧ (L 2 (16 * n + 1) = A 20 n ∧ A 20 n ≤ 3) ∧ (∀ j : Int, 0 ≤ j → j < 15 → j ≠ 1 → L 2 (16 * n + j) = 0) ∧ BT i n L A ∧ tkn A s 6 = T
/-- the train stands, or none; c cars -/
def C2 (n s f : Int) (c : Int) (L A : Il) : Prop := S2 n L A ∧ (A 19 0 = n + 1 ∧ A 23 0 = n + 1 ∧ A 29 0 ≤ 5 * n + c) ∧ CW n L A ∧ (L 2 (16 * n) = A 36 n ∧ A 36 n = f) ∧ (f = 1 → LT n L A ∧ A 39 n = 0 ∧ A 47 n = 0 ∧ A 40 n = s ∧ A 44 n = c)
section Stp2
variable {L L' A A' : Il} {m n s p g c T : Int} {i : Nat}
theorem tkn_fr (h36 : ∀ j, A' 36 j = A 36 j) (h39 : ∀ j, A' 39 j = A 39 j) (h40 : ∀ j, A' 40 j = A 40 j) : ∀ k : Nat, tkn A' s k = tkn A s k
  | 0 => rfl
  | k + 1 => by
    show tkn A' s k + _ = tkn A s k + _
    rw [tkn_fr h36 h39 h40 k, h36, h39, h40]
theorem SL.eng (h : SL n L A) (hn : 0 ≤ n ∧ n < 3) (hp : 1 ≤ p ∧ p ≤ 3) (hc : c = w32 (A 2 0 - w32 (100 * p))) (hT : tkn A s 6 = T) : C1 n s T 0 (ui (ui L 2 (16 * n + 1) p) 3 1 c) (crA (enA A s p) s) := by
  obtain ⟨h2, h36, ⟨h19, h23⟩, h29, hz⟩ := h
  obtain ⟨z1, z2, z3, z4⟩ := hz n (Int.le_refl _) hn.2
  have r0 : ∀ j, (ui (ui L 2 (16 * n + 1) p) 3 1 c) 0 j = L 0 j := fun j => by simp [ui]
  have r1 : ∀ j, (ui (ui L 2 (16 * n + 1) p) 3 1 c) 1 j = L 1 j := fun j => by simp [ui]
  have r2 : ∀ j, (ui (ui L 2 (16 * n + 1) p) 3 1 c) 2 j = if j = 16 * n + 1 then p else L 2 j := fun j => by simp [ui]
  have r3 : ∀ j, (ui (ui L 2 (16 * n + 1) p) 3 1 c) 3 j = if j = 1 then c else L 3 j := fun j => by simp [ui]
  have hA : ∀ a j, (a ≠ 0 ∧ a ≠ 20 ∧ a ≠ 21 ∧ a ≠ 22 ∧ a ≠ 2 ∧ a ≠ 19 ∧ a ≠ 24 ∧ a ≠ 25 ∧ a ≠ 23) → crA (enA A s p) s a j = A a j := fun a j h => (sc_k (by omega)).trans ((ui_k (by omega)).trans ((ui_k (by omega)).trans ((sc_k (by omega)).trans ((sc_k (by omega)).trans ((sc_k (by omega)).trans ((ui_k (by omega)).trans ((ui_k (by omega)).trans ((ui_k (by omega)).trans (sc_k (by omega))))))))))
  have a20 : ∀ j, crA (enA A s p) s 20 j = if j = n then p else A 20 j := fun j => by simp [crA, enA, ui, sc, h19]
  have a21 : crA (enA A s p) s 21 n = s := by simp [crA, enA, ui, sc, h19]
  have a22 : crA (enA A s p) s 22 n = -1 := by simp [crA, enA, ui, sc, h19]
  have a24 : crA (enA A s p) s 24 n = s := by simp [crA, enA, ui, sc, h23]
  have a25 : crA (enA A s p) s 25 n = -1 := by simp [crA, enA, ui, sc, h23]
  have a19 : crA (enA A s p) s 19 0 = n + 1 := by simp [crA, enA, ui, sc, h19]
  have a23 : crA (enA A s p) s 23 0 = n + 1 := by simp [crA, enA, ui, sc, h23]
  have a2 : crA (enA A s p) s 2 0 = w32 (A 2 0 - w32 (100 * p)) := by simp [crA, enA, ui, sc]
  generalize (ui (ui L 2 (16 * n + 1) p) 3 1 c) = L' at *
  generalize crA (enA A s p) s = A' at *
  refine ⟨h2.fr (fun j hj => by rw [r2, if_neg (by omega)]) (fun j hj => by rw [r3, if_neg hj]) (by rw [r3, if_pos rfl, a2]; exact hc) r0 r1 (fun a j h => hA a j (by omega)) (fun a m ha hm => ?_) (fun j _ => hA 28 j (by decide)), ⟨a19, a23, by rw [hA 29 0 (by decide)]; exact h29⟩, ⟨(hA 36 n (by decide)).trans h36, a21, a22, a24, a25, (hA 26 n (by decide)).trans z2, (hA 27 n (by decide)).trans z3⟩, ⟨by rw [r2, if_pos rfl, a20, if_pos rfl], by rw [a20, if_pos rfl]; exact hp.2⟩, fun j j0 j1 j2 => by rw [r2, if_neg (by omega)]; exact z1 j j0 (by omega), ⟨0, by decide, by rw [r2, if_neg (by omega)]; exact z1 15 (by decide) (by decide), fun b hb => ?_⟩, (tkn_fr (fun j => hA 36 j (by decide)) (fun j => hA 39 j (by decide)) (fun j => hA 40 j (by decide)) 6).trans hT⟩
  · by_cases e : a = 20
    · rw [e, a20, if_neg hm]
    · exact hA a m (by omega)
  · rw [hA 28 _ (by decide), z4 b (by omega) (by omega)]
    simp
theorem knn_pos {x : Int} {j : Nat} (h : ¬ A 28 (16 * x + (j : Int)) = 0) : ∀ k : Nat, j < k → 0 < knn A x k
  | 0, hj => absurd hj (by omega)
  | k + 1, hj => by
    have hr := (knn_rg A x k).1
    show 0 < knn A x k + (if A 28 (16 * x + (k : Int)) = 0 then 0 else 1)
    by_cases e : j = k
    · subst e
      rw [if_neg h]
      omega
    · have := knn_pos h k (by omega)
      split <;> omega
theorem m_learn1 {R : Int → Il → Prop} (hn : 0 ≤ n ∧ n < 3) (h23 : A 23 0 = n + 1) (h6 : A 6 0 = 4) (hi : i < 4) (h : ∀ z, 0 < z → R z (ui (sc A 0 0) 28 (16 * n + (i : Int)) 1)) : W_X9_learn n (i : Int) A R := by
  have e1 : w32 (16 * n) = 16 * n := w32_id (by unfold rg; omega)
  have e2 : w32 (16 * n + (i : Int)) = 16 * n + (i : Int) := w32_id (by unfold rg; omega)
  refine m_isCrew1 (by omega) (by omega) (br_F (by decide) (m_isBlock1 (by omega) (by omega) (br_F (by decide) ?_)))
  unfold W_X9_learn_22
  refine br_T le0 ?_
  rw [e1, e2]
  refine ⟨by omega, by omega, 17, ?_⟩
  have w := m_learn_go (A := ui (sc A 0 0) 28 (16 * n + (i : Int)) 1) (Q := R) (x := n) (by omega) (h _ (knn_pos (j := i) (by rw [ui_s]; decide) 16 (by omega))) 16 0 rfl
  have w : W_X9_learn_54 17 n 0 (16 * n + 0) (ui (sc A 0 0) 28 (16 * n + (i : Int)) 1) R := w
  rw [Int.add_zero] at w
  exact w
theorem k_or : ∀ i : Nat, i < 4 → ∀ v : Nat, v < 8 → v < 2 ^ i → ior (v : Int) (ishl 1 (i : Int)) = ((v + 2 ^ i : Nat) : Int) ∧ v + 2 ^ i < 2 ^ (i + 1) ∧ ∀ b : Nat, b < 4 → (v + 2 ^ i).testBit b = (decide (b = i) || v.testBit b) := by decide +kernel
theorem k_or0 : ∀ v : Nat, v < 16 → ior (v : Int) 0 = (v : Int) := by decide +kernel
theorem C1.yes (h : C1 n s T i L A) (hn : 0 ≤ n ∧ n < 3) (hi : i < 4) : C1 n s T (i + 1) (ui L 2 (16 * n + 15) (ior (L 2 (16 * n + 15)) (ishl 1 (i : Int)))) (ui (sc A 0 0) 28 (16 * n + (i : Int)) 1) := by
  obtain ⟨h2, h19, ⟨h36, h21, h22, h24, h25, h26, h27⟩, hp, h0, ⟨v, v1, v2, v3⟩, hT⟩ := h
  have v8 : v < 8 := by
    have : 2 ^ i ≤ 2 ^ 3 := Nat.pow_le_pow_right (by decide) (by omega)
    omega
  obtain ⟨o1, o2, o3⟩ := k_or i hi v v8 v1
  have hA : ∀ a j, (a ≠ 0 ∧ a ≠ 28) → ui (sc A 0 0) 28 (16 * n + (i : Int)) 1 a j = A a j := fun a j h => (ui_k h.2).trans (sc_k h.1)
  have h28 : ∀ j, ui (sc A 0 0) 28 (16 * n + (i : Int)) 1 28 j = if j = 16 * n + (i : Int) then 1 else A 28 j := fun j => by simp [ui, sc]
  have r2 : ∀ j, j ≠ 16 * n + 15 → ui L 2 (16 * n + 15) (ior (L 2 (16 * n + 15)) (ishl 1 (i : Int))) 2 j = L 2 j := fun j h => ui_j h
  have r15 : ui L 2 (16 * n + 15) (ior (L 2 (16 * n + 15)) (ishl 1 (i : Int))) 2 (16 * n + 15) = ((v + 2 ^ i : Nat) : Int) := ui_s.trans (by rw [v2]; exact o1)
  have rk : ∀ r j, r ≠ 2 → ui L 2 (16 * n + 15) (ior (L 2 (16 * n + 15)) (ishl 1 (i : Int))) r j = L r j := fun r j h => ui_k h
  generalize ui L 2 (16 * n + 15) (ior (L 2 (16 * n + 15)) (ishl 1 (i : Int))) = L' at *
  generalize ui (sc A 0 0) 28 (16 * n + (i : Int)) 1 = A' at *
  refine ⟨h2.fr (fun j hj => r2 j (by omega)) (fun j _ => rk 3 j (by decide)) ?_ (fun j => rk 0 j (by decide)) (fun j => rk 1 j (by decide)) (fun a j h => hA a j (by omega)) (fun a m ha _ => hA a m (by omega)) (fun j hj => by rw [h28, if_neg (by omega)]), ⟨(hA 19 0 (by decide)).trans h19.1, (hA 23 0 (by decide)).trans h19.2.1, by rw [hA 29 0 (by decide)]; exact h19.2.2⟩, ⟨(hA 36 n (by decide)).trans h36, (hA 21 n (by decide)).trans h21, (hA 22 n (by decide)).trans h22, (hA 24 n (by decide)).trans h24, (hA 25 n (by decide)).trans h25, (hA 26 n (by decide)).trans h26, (hA 27 n (by decide)).trans h27⟩, ⟨(r2 _ (by omega)).trans (hp.1.trans (hA 20 n (by decide)).symm), by rw [hA 20 n (by decide)]; exact hp.2⟩, fun j j0 j1 j2 => (r2 _ (by omega)).trans (h0 j j0 j1 j2), ⟨v + 2 ^ i, o2, r15, fun b hb => ?_⟩, (tkn_fr (fun j => hA 36 j (by decide)) (fun j => hA 39 j (by decide)) (fun j => hA 40 j (by decide)) 6).trans hT⟩
  · rw [rk 3 1 (by decide), hA 2 0 (by decide)]
    exact h2.1.2.1
  · rw [o3 b hb, h28]
    by_cases e : b = i
    · subst e
      rw [if_pos rfl]
      simp
    · rw [if_neg (by omega), ← v3 b hb]
      simp [e]
theorem C1.no (h : C1 n s T i L A) (hi : i < 4) : C1 n s T (i + 1) L A ∧ ior (L 2 (16 * n + 15)) 0 = L 2 (16 * n + 15) := by
  obtain ⟨h2, h19, h36, hp, h0, ⟨v, v1, v2, v3⟩, hT⟩ := h
  have e : 2 ^ (i + 1) = 2 ^ i + 2 ^ i := by rw [Nat.pow_succ]; omega
  have : 2 ^ i ≤ 2 ^ 3 := Nat.pow_le_pow_right (by decide) (by omega)
  exact ⟨⟨h2, h19, h36, hp, h0, ⟨v, by omega, v2, v3⟩, hT⟩, by rw [v2]; exact k_or0 v (by omega)⟩
theorem m_form_go {R : Int → Il → Prop} (hn : 0 ≤ n ∧ n < 3) (h1 : ∀ m : Int, 0 ≤ m → m < n → A 36 m = 1) (h36 : A 36 n = 0) (h : W_X9_form_63 n n n A R) : ∀ k j : Nat, (j : Int) + (k : Int) = n → W_X9_form_42 (k + 1) n n (j : Int) A R
  | 0, j, e => by
    have e : (j : Int) = n := by omega
    rw [e]
    exact br_F (by omega) ⟨hn.1, by omega, br_T h36 h⟩
  | k + 1, j, e => by
    refine br_F (by omega) ⟨by omega, by omega, br_F (by rw [h1 j (by omega) (by omega)]; decide) ?_⟩
    rw [w32_up (by omega)]
    exact m_form_go hn h1 h36 h k (j + 1) (by omega)
theorem m_form1 {R : Int → Il → Prop} (hC : C1 n s T 4 L A) (hn : 0 ≤ n ∧ n < 3) (hs : 0 ≤ s ∧ s < 4) (h1 : T < 2 → R n (foA A n)) (h0 : 2 ≤ T → R 0 (sc (sc A 0 0) 0 2)) : W_X9_form n n A R := by
  obtain ⟨h2, ⟨h19, h23, h29⟩, ⟨h36, h21, h22, h24, h25, h26, h27⟩, hp, hz0, hB, hT⟩ := hC
  have h5 := (h2.2.2.1 s hs.1 hs.2).1
  have hc := h2.2.1.2
  have ht2 := h2.2.2.2.2.2.2.1
  have e1 : w32 (A 19 0 - 1) = n := by rw [h19]; exact (w32_id (by unfold rg; omega)).trans (by omega)
  refine m_in1 (by rw [e1]; omega) (br_F (by decide) (m_isCrew1 (by omega) (by omega) (br_F (by decide) ?_)))
  unfold W_X9_form_28
  refine br_T le0 ⟨n.toNat + 1, m_form_go (A := sc A 0 0) hn (fun m m0 m1 => ht2 m m0 m1 (by omega)) h36 ?_ n.toNat 0 (by omega)⟩
  have g21 : (sc A 0 0) 21 n = s := h21
  have g24 : (sc A 0 0) 24 n = s := h24
  have g5 : (sc A 0 0) 5 s = 2 := h5
  have g27 : ¬ (sc A 0 0) 1 0 < (sc A 0 0) 27 n := by
    show ¬ A 1 0 < A 27 n
    omega
  refine br_F (by omega) ⟨hn.1, by omega, bn_T h22 ⟨hn.1, by omega, bn_T h25 ⟨hn.1, by omega, hn.1, by omega, bn_T (g21.trans g24.symm) (m_rests ⟨hn.1, by omega⟩ ?_)⟩⟩⟩
  rw [if_neg g27]
  refine bn_T rfl ⟨hn.1, by omega, ?_⟩
  rw [g21]
  refine m_taken ?_
  rw [tkn_thr, hT, g5]
  refine ⟨hn.1, by omega, hs.1, by omega, fun c => ?_, fun c => ?_⟩
  · unfold W_X9_form_140 W_X9_form_141
    exact bn_T rfl (h0 c)
  · unfold W_X9_form_141
    refine bn_F (by decide) ⟨hn.1, by omega, hn.1, by omega, hn.1, by omega, hn.1, by omega, hn.1, by omega, hn.1, by omega, hn.1, by omega, hn.1, by omega, hn.1, by omega, hn.1, by omega, hn.1, by omega, hn.1, by omega, hn.1, by omega, ?_⟩
    exact h1 (by omega)
/-- what the law writes down of a train that is formed, or not -/
def foL (L : Il) (n s f : Int) : Il := ui (ui (ui (ui L 2 (16 * n) f) 2 (16 * n + 4) s) 2 (16 * n + 5) (-1)) 2 (16 * n + 11) (-1)
theorem C1.cw (h : C1 n s T 4 L A) (r1 : L' 2 (16 * n + 1) = L 2 (16 * n + 1)) (r13 : L' 2 (16 * n + 13) = L 2 (16 * n + 13)) (r14 : L' 2 (16 * n + 14) = L 2 (16 * n + 14)) (r15 : L' 2 (16 * n + 15) = L 2 (16 * n + 15)) (hA : ∀ a j, (a = 20 ∨ a = 26 ∨ a = 27 ∨ a = 28) → A' a j = A a j) : CW n L' A' := by
  obtain ⟨h2, h19, ⟨h36, h21, h22, h24, h25, h26, h27⟩, hp, h0, ⟨v, v1, v2, v3⟩, hT⟩ := h
  have v1 : v < 16 := v1
  refine ⟨r1.trans (hp.1.trans (hA 20 n (by omega)).symm), by rw [hA 20 n (by omega)]; exact hp.2, r13.trans ((h0 13 (by decide) (by decide) (by decide)).trans (h26.symm.trans (hA 26 n (by omega)).symm)), r14.trans ((h0 14 (by decide) (by decide) (by decide)).trans (h27.symm.trans (hA 27 n (by omega)).symm)), by rw [r15, v2]; omega, fun b b0 b1 => ?_⟩
  rw [r15, v2, hA 28 _ (by omega)]
  have w := v3 b.toNat (by omega)
  rw [show ((b.toNat : Nat) : Int) = b by omega] at w
  exact w
theorem C1.form (h : C1 n s T 4 L A) (hn : 0 ≤ n ∧ n < 3) (hs : 0 ≤ s ∧ s < 4) : C2 n s 1 0 (foL L n s 1) (foA A n) := by
  have hC := h
  obtain ⟨h2, ⟨h19, h23, h29⟩, ⟨h36, h21, h22, h24, h25, h26, h27⟩, hp, h0, hB, hT⟩ := h
  have rk : ∀ r j, r ≠ 2 → foL L n s 1 r j = L r j := fun r j h => (ui_k h).trans ((ui_k h).trans ((ui_k h).trans (ui_k h)))
  have r2 : ∀ j, foL L n s 1 2 j = if j = 16 * n + 11 then -1 else if j = 16 * n + 5 then -1 else if j = 16 * n + 4 then s else if j = 16 * n then 1 else L 2 j := fun j => by simp [foL, ui]
  have hA : ∀ a j, (a ≠ 0 ∧ a ≠ 36 ∧ a ≠ 37 ∧ a ≠ 38 ∧ a ≠ 22 ∧ a ≠ 25 ∧ a ≠ 39 ∧ a ≠ 40 ∧ a ≠ 41 ∧ a ≠ 44 ∧ a ≠ 46 ∧ a ≠ 47 ∧ a ≠ 50) → foA A n a j = A a j := fun a j h => (ui_k (by omega)).trans ((ui_k (by omega)).trans ((ui_k (by omega)).trans ((ui_k (by omega)).trans ((ui_k (by omega)).trans ((ui_k (by omega)).trans ((ui_k (by omega)).trans ((ui_k (by omega)).trans ((ui_k (by omega)).trans ((ui_k (by omega)).trans ((ui_k (by omega)).trans ((ui_k (by omega)).trans (sc_k (by omega)))))))))))))
  have hAm : ∀ a j, a ≠ 0 → j ≠ n → foA A n a j = A a j := fun a j h hj => (ui_w hj).trans ((ui_w hj).trans ((ui_w hj).trans ((ui_w hj).trans ((ui_w hj).trans ((ui_w hj).trans ((ui_w hj).trans ((ui_w hj).trans ((ui_w hj).trans ((ui_w hj).trans ((ui_w hj).trans ((ui_w hj).trans (sc_k h))))))))))))
  have a36 : foA A n 36 n = 1 := by simp [foA, ui, sc]
  have a37 : foA A n 37 n = n := by simp [foA, ui, sc]
  have a38 : foA A n 38 n = n := by simp [foA, ui, sc]
  have a39 : foA A n 39 n = 0 := by simp [foA, ui, sc]
  have a40 : foA A n 40 n = s := by simp [foA, ui, sc, h21]
  have a41 : foA A n 41 n = -1 := by simp [foA, ui, sc]
  have a44 : foA A n 44 n = 0 := by simp [foA, ui, sc]
  have a46 : foA A n 46 n = 0 := by simp [foA, ui, sc]
  have a47 : foA A n 47 n = 0 := by simp [foA, ui, sc]
  have a50 : foA A n 50 n = -1 := by simp [foA, ui, sc]
  generalize foL L n s 1 = L' at *
  generalize foA A n = A' at *
  have n2 : ∀ j, (j ≠ 16 * n + 11 ∧ j ≠ 16 * n + 5 ∧ j ≠ 16 * n + 4 ∧ j ≠ 16 * n) → L' 2 j = L 2 j := fun j h => by rw [r2, if_neg h.1, if_neg h.2.1, if_neg h.2.2.1, if_neg h.2.2.2]
  have z : ∀ j : Int, 0 ≤ j → j < 15 → (j ≠ 1 ∧ j ≠ 0 ∧ j ≠ 4 ∧ j ≠ 5 ∧ j ≠ 11) → L' 2 (16 * n + j) = 0 := fun j j0 j1 h => (n2 _ (by omega)).trans (h0 j j0 j1 h.1)
  refine ⟨h2.fr (fun j hj => n2 j (by omega)) (fun j _ => rk 3 j (by decide)) ?_ (fun j => rk 0 j (by decide)) (fun j => rk 1 j (by decide)) (fun a j h => hA a j (by omega)) (fun a m ha hm => hAm a m (by omega) hm) (fun j hj => hA 28 j (by decide)), ⟨(hA 19 0 (by decide)).trans h19, (hA 23 0 (by decide)).trans h23, by rw [hA 29 0 (by decide)]; omega⟩, hC.cw (n2 _ (by omega)) (n2 _ (by omega)) (n2 _ (by omega)) (n2 _ (by omega)) (fun a j h => hA a j (by omega)), ⟨?_, a36⟩, fun _ => ⟨?_, a39, a47, a40, a44⟩⟩
  · rw [rk 3 1 (by decide), hA 2 0 (by decide)]
    exact h2.1.2.1
  · rw [r2, if_neg (by omega), if_neg (by omega), if_neg (by omega), if_pos rfl, a36]
  · unfold LT
    rw [a37, a38, a39, a40, a41, a44, a46, a47, a50]
    refine ⟨rfl, rfl, z 3 (by decide) (by decide) (by decide), by decide, ?_, hs.2, ?_, fun w => absurd w (by decide), z 2 (by decide) (by decide) (by decide), by decide, z 7 (by decide) (by decide) (by decide), z 8 (by decide) (by decide) (by decide), fun w => w.elim (fun w => absurd w (by decide)) (fun w => absurd w (by decide)), ?_, by decide, fun w => absurd rfl w, fun q q0 q1 => absurd q1 (by omega)⟩
    · rw [r2, if_neg (by omega), if_neg (by omega), if_pos rfl]
    · rw [r2, if_neg (by omega), if_pos rfl]
    · rw [r2, if_pos rfl]
theorem C1.noform {z : Int} (h : C1 n s T 4 L A) (hn : 0 ≤ n ∧ n < 3) : C2 n s 0 0 (foL L n s 0) (sc (sc A 0 0) 0 z) := by
  have hC := h
  obtain ⟨h2, ⟨h19, h23, h29⟩, ⟨h36, h21, h22, h24, h25, h26, h27⟩, hp, h0, hB, hT⟩ := h
  have rk : ∀ r j, r ≠ 2 → foL L n s 0 r j = L r j := fun r j h => (ui_k h).trans ((ui_k h).trans ((ui_k h).trans (ui_k h)))
  have r2 : ∀ j, foL L n s 0 2 j = if j = 16 * n + 11 then -1 else if j = 16 * n + 5 then -1 else if j = 16 * n + 4 then s else if j = 16 * n then 0 else L 2 j := fun j => by simp [foL, ui]
  have hA : ∀ a j, a ≠ 0 → sc (sc A 0 0) 0 z a j = A a j := fun a j h => (sc_k h).trans (sc_k h)
  generalize foL L n s 0 = L' at *
  generalize sc (sc A 0 0) 0 z = A' at *
  have n2 : ∀ j, (j ≠ 16 * n + 11 ∧ j ≠ 16 * n + 5 ∧ j ≠ 16 * n + 4 ∧ j ≠ 16 * n) → L' 2 j = L 2 j := fun j h => by rw [r2, if_neg h.1, if_neg h.2.1, if_neg h.2.2.1, if_neg h.2.2.2]
  refine ⟨h2.fr (fun j hj => n2 j (by omega)) (fun j _ => rk 3 j (by decide)) ?_ (fun j => rk 0 j (by decide)) (fun j => rk 1 j (by decide)) (fun a j h => hA a j (by omega)) (fun a m ha hm => hA a m (by omega)) (fun j hj => hA 28 j (by decide)), ⟨(hA 19 0 (by decide)).trans h19, (hA 23 0 (by decide)).trans h23, by rw [hA 29 0 (by decide)]; omega⟩, hC.cw (n2 _ (by omega)) (n2 _ (by omega)) (n2 _ (by omega)) (n2 _ (by omega)) (fun a j h => hA a j (by omega)), ⟨?_, (hA 36 n (by decide)).trans h36⟩, fun w => absurd w (by decide)⟩
  · rw [rk 3 1 (by decide), hA 2 0 (by decide)]
    exact h2.1.2.1
  · rw [r2, if_neg (by omega), if_neg (by omega), if_neg (by omega), if_pos rfl, hA 36 n (by decide), h36]
/-- behind a car and its coupling -/
def cpF (A : Il) (n : Int) (A2 : Il) : Prop := A2 0 0 = 0 ∧ A2 44 n = A 44 n + 1 ∧ (∀ q, q ≠ n → A2 44 q = A 44 q) ∧ ∀ a j, (a ≠ 0 ∧ a ≠ 32 ∧ a ≠ 34 ∧ a ≠ 35 ∧ a ≠ 43 ∧ a ≠ 44 ∧ a ≠ 60 ∧ a ≠ 61 ∧ a ≠ 62) → A2 a j = A a j
theorem m_couple1 {c LN : Nat → Nat} {B : Fl} {E : El} {R : Int → Il → Prop} {x : Int} (hR : Rep c LN B E A) (hp : A 60 0 ≤ 1022) (hn : 0 ≤ n ∧ n < 3) (h36 : A 36 n = 1) (hx : 0 ≤ x ∧ x < A 29 0) (g1 : A 39 n = 0 ∨ A 39 n = 1) (g2 : A 44 n < 10) (g3 : A 32 x = -1) (g4 : A 31 x = A 40 n) (h : ∀ A2, cpF A n A2 → R (A 44 n + 1) A2) : W_X9_couple n x A R := by
  obtain ⟨gG, gS, gB, g0, gH, gE, gC, gN, gK, gL, gR, gD, gY, gU, gW, gP, gT, gX, gZ⟩ := id hR
  obtain ⟨⟨k1, k2, k3⟩, k4, k5, k6, k7, k8⟩ := id gK
  have h29 : 0 ≤ A 29 0 ∧ A 29 0 ≤ 20 := by omega
  have hp0 := gP.1
  obtain ⟨t1, t2, t3, t4, t5⟩ := gT n hn.1 (by omega)
  obtain ⟨y1, y2, y3, y4, y5, y6, y7, y8, y9, y10, y11, y12, y13, y14, y15, y16, y17, y18, y19, y20, y21, y22, y23, -⟩ := t5 h36
  clear t5 y4 y8 y12 y16 y17 y18 y19 y20
  obtain ⟨v1, v2, v3, v4, v5, v6, v7, v8⟩ := k8 x hx.1 hx.2
  obtain ⟨p, p0, p1, p2⟩ := (gW x hx.1 hx.2).1 g3
  obtain ⟨yy1, yy2, yy3, yy4⟩ := gY (A 31 x) v3 v4
  obtain ⟨N, eN⟩ := Int.eq_ofNat_of_zero_le yy1.2.1
  obtain ⟨w1, w2, w3, w4, w5⟩ := yy4 p p0 p1
  have un : ∀ j : Int, 0 ≤ j → j < A 35 (A 31 x) → j ≠ p → A 34 (20 * A 31 x + j) ≠ x := fun j j0 j1 nj e => nj (w5 j j0 j1 (e.trans p2.symm))
  have h1 : 0 ≤ n ∧ n < 6 ∧ ¬ A 36 n = 0 := ⟨hn.1, by omega, by omega⟩
  have hQ : R (A 44 n + 1) (atr (ui (shf (sc A 0 0) 34 (20 * A 31 x) p (A 35 (A 31 x) - 1)) 35 (A 31 x) (A 35 (A 31 x) - 1)) n x) := by
    refine h _ ⟨rfl, (sc_k (by decide)).trans ((ui_k (by decide)).trans ((ui_k (by decide)).trans ui_s)), fun q hq => (sc_k (by decide)).trans ((ui_k (by decide)).trans ((ui_k (by decide)).trans ((ui_j hq).trans ((ui_k (by decide)).trans ((ui_k (by decide)).trans ((ui_k (by decide)).trans ((if_neg (fun w => absurd w.1 (by decide))).trans (sc_k (by decide))))))))), fun a j ha => (sc_k (by omega)).trans ((ui_k (by omega)).trans ((ui_k (by omega)).trans ((ui_k (by omega)).trans ((ui_k (by omega)).trans ((ui_k (by omega)).trans ((ui_k (by omega)).trans ((if_neg (fun w => absurd w.1 (by omega))).trans (sc_k (by omega)))))))))⟩
  refine m_isTrain1 h1 (br_F (by decide) (m_isCar1 h29 hx (bn_F (by decide) (m_stands ⟨h1.1, h1.2.1⟩ ?_))))
  rw [if_pos g1]
  refine br_F (by decide) ⟨h1.1, h1.2.1, br_F (by omega) ⟨hx.1, by omega, bn_T g3 ⟨hx.1, by omega, h1.1, h1.2.1, br_T g4 ?_⟩⟩⟩
  unfold W_X9_couple_70
  refine br_T le0 ⟨h1.1, h1.2.1, N + 1, ?_⟩
  show W_X9_couple_95 (N + 1) n x (A 40 n) 0 0 (sc A 0 0) R
  rw [← g4]
  rw [eN] at hQ
  exact m_cpl_go1 (A := sc A 0 0) (t := n) (x := x) (s := A 31 x) (p := p) (N := N) ⟨v3, v4⟩ eN (by omega) p0 (by omega) p2 (fun j j0 j1 nj => un j j0 (by omega) nj) (m_couple_end (A := sc A 0 0) h1.1 h1.2.1 ⟨hx.1, by omega⟩ ⟨v3, v4⟩ eN ⟨y22, by show A 44 n < 10; omega⟩ ⟨hp0, by show A 60 0 < 3999; omega⟩ hQ) N 0 (Nat.zero_add _) p0
theorem caF (A : Il) (s : Int) : ∀ a j, (a ≠ 0 ∧ a ≠ 2 ∧ a ≠ 29 ∧ a ≠ 30 ∧ a ≠ 31 ∧ a ≠ 32 ∧ a ≠ 33 ∧ a ≠ 34 ∧ a ≠ 35 ∧ a ≠ 60 ∧ a ≠ 61 ∧ a ≠ 62) → cms (A1c A s) (A 29 0) s a j = A a j := fun a j h => (sc_k (by omega)).trans ((ui_k (by omega)).trans ((ui_k (by omega)).trans ((ui_k (by omega)).trans ((ui_k (by omega)).trans ((ui_k (by omega)).trans ((ui_k (by omega)).trans ((sc_k (by omega)).trans ((ui_k (by omega)).trans ((ui_k (by omega)).trans ((sc_k (by omega)).trans (sc_k (by omega)))))))))))) 
/-- a car more: the law's rows and the reference's behind both calls -/
theorem C2.car {A1 A2 : Il} (h : C2 n s 1 c L A) (hn : 0 ≤ n ∧ n < 3) (hc : 0 ≤ c ∧ c < 5) (h1 : cpF A1 n A2) (hA1 : A1 = cms (A1c A s) (A 29 0) s) : C2 n s 1 (c + 1) (ui (ui L 3 1 (w32 (A 2 0 - 50))) 2 (16 * n + 2) (c + 1)) A2 := by
  obtain ⟨h2, ⟨h19, h23, h29⟩, ⟨w1, w2, w3, w4, w5, w6⟩, ⟨h36, h36b⟩, hl⟩ := h
  obtain ⟨l1, l2, l3, l4, l5⟩ := hl rfl
  obtain ⟨f1, f2, f3, f4⟩ := h1
  have hA : ∀ a j, (a ≠ 0 ∧ a ≠ 2 ∧ a ≠ 29 ∧ a ≠ 30 ∧ a ≠ 31 ∧ a ≠ 32 ∧ a ≠ 33 ∧ a ≠ 34 ∧ a ≠ 35 ∧ a ≠ 43 ∧ a ≠ 44 ∧ a ≠ 60 ∧ a ≠ 61 ∧ a ≠ 62) → A2 a j = A a j := fun a j h => (f4 a j (by omega)).trans (by rw [hA1]; exact caF A s a j (by omega))
  have e44 : ∀ q, A1 44 q = A 44 q := fun q => by rw [hA1]; exact caF A s 44 q (by decide)
  have a44 : A2 44 n = c + 1 := by rw [f2, e44, l5]
  have a29 : A2 29 0 = A 29 0 + 1 := by rw [f4 29 0 (by decide), hA1]; simp [cms, A1c, ui, sc]
  have a2 : A2 2 0 = w32 (A 2 0 - 50) := by rw [f4 2 0 (by decide), hA1]; simp [cms, A1c, ui, sc]
  have r0 : ∀ j, (ui (ui L 3 1 (w32 (A 2 0 - 50))) 2 (16 * n + 2) (c + 1)) 0 j = L 0 j := fun j => by simp [ui]
  have r1 : ∀ j, (ui (ui L 3 1 (w32 (A 2 0 - 50))) 2 (16 * n + 2) (c + 1)) 1 j = L 1 j := fun j => by simp [ui]
  have r2 : ∀ j, (ui (ui L 3 1 (w32 (A 2 0 - 50))) 2 (16 * n + 2) (c + 1)) 2 j = if j = 16 * n + 2 then c + 1 else L 2 j := fun j => by simp [ui]
  have r3 : ∀ j, (ui (ui L 3 1 (w32 (A 2 0 - 50))) 2 (16 * n + 2) (c + 1)) 3 j = if j = 1 then w32 (A 2 0 - 50) else L 3 j := fun j => by simp [ui]
  generalize (ui (ui L 3 1 (w32 (A 2 0 - 50))) 2 (16 * n + 2) (c + 1)) = L' at *
  have n2 : ∀ j, j ≠ 16 * n + 2 → L' 2 j = L 2 j := fun j h => by rw [r2, if_neg h]
  have hAm : ∀ a m, (36 ≤ a ∧ a ≤ 51 ∧ a ≠ 43) → m ≠ n → A2 a m = A a m := fun a m ha hm => by
    by_cases e : a = 44
    · rw [e, f3 m hm]; exact e44 m
    · exact hA a m (by omega)
  have d1 : A1 0 0 = A1 0 0 := rfl
  refine ⟨h2.fr (fun j hj => n2 j (by omega)) (fun j hj => by rw [r3, if_neg hj]) (by rw [r3, if_pos rfl, a2]) r0 r1 (fun a j h => hA a j (by omega)) (fun a m ha hm => ?_) (fun j hj => hA 28 j (by decide)), ⟨(hA 19 0 (by decide)).trans h19, (hA 23 0 (by decide)).trans h23, by rw [a29]; omega⟩, ⟨(n2 _ (by omega)).trans (w1.trans (hA 20 n (by decide)).symm), by rw [hA 20 n (by decide)]; exact w2, (n2 _ (by omega)).trans (w3.trans (hA 26 n (by decide)).symm), (n2 _ (by omega)).trans (w4.trans (hA 27 n (by decide)).symm), by rw [n2 _ (by omega)]; exact w5, fun b b0 b1 => by rw [n2 _ (by omega), hA 28 _ (by decide)]; exact w6 b b0 b1⟩, ⟨(n2 _ (by omega)).trans (h36.trans (hA 36 n (by decide)).symm), (hA 36 n (by decide)).trans h36b⟩, fun _ => ⟨?_, (hA 39 n (by decide)).trans l2, (hA 47 n (by decide)).trans l3, (hA 40 n (by decide)).trans l4, a44⟩⟩
  · by_cases e : a = 20 ∨ a = 26 ∨ a = 27
    · exact hA a m (by omega)
    · exact hAm a m (by omega) hm
  · obtain ⟨u1, u2, u3, u4, u5, u6, u7, u8, u9, u10, u11, u12, u13, u14, u15, u16, u17⟩ := l1
    unfold LT
    rw [hA 37 n (by decide), hA 38 n (by decide), hA 39 n (by decide), hA 40 n (by decide), hA 41 n (by decide), hA 42 n (by decide), a44, hA 46 n (by decide), hA 47 n (by decide), hA 48 n (by decide), hA 49 n (by decide), hA 50 n (by decide), hA 51 n (by decide)]
    refine ⟨u1, u2, (n2 _ (by omega)).trans u3, u4, (n2 _ (by omega)).trans u5, u6, (n2 _ (by omega)).trans u7, fun w => (n2 _ (by omega)).trans (u8 w), by rw [r2, if_pos rfl], by omega, (n2 _ (by omega)).trans u11, (n2 _ (by omega)).trans u12, fun w => ⟨(n2 _ (by omega)).trans (u13 w).1, (n2 _ (by omega)).trans (u13 w).2⟩, (n2 _ (by omega)).trans u14, u15, fun w => (n2 _ (by omega)).trans (u16 w), fun q q0 q1 => ?_⟩
    rw [r0, hA 45 _ (by decide)]
    exact u17 q q0 q1
end Stp2
