/-! what the law's rows hold stays, where nothing of it is written -/
section LFr
variable {L L' A A' : Il}
theorem Lg.fr (h : Lg L A) (hL : L' 3 0 = L 3 0 ∧ L' 3 1 = L 3 1 ∧ L' 3 3 = L 3 3) (hA : ∀ a, (a = 1 ∨ a = 2 ∨ a = 3 ∨ a = 52) → A' a 0 = A a 0) : Lg L' A' := by
  obtain ⟨h1, h2, h3, h4⟩ := h
  unfold Lg
  rw [hL.1, hL.2.1, hL.2.2, hA 1 (by decide), hA 2 (by decide), hA 3 (by decide), hA 52 (by decide)]
  exact ⟨h1, h2, h3, h4⟩
theorem Lst.fr (h : Lst L A) (hL : ∀ j, 4 ≤ j → L' 3 j = L 3 j) (hA : ∀ j, A' 5 j = A 5 j) : Lst L' A' := fun s s0 s1 => by
  rw [hL _ (by omega), hA]
  exact h s s0 s1
theorem Lbk.fr {m : Int} (h : Lbk m L A) (hL : ∀ j, L' 1 j = L 1 j) (hA : ∀ a j, (6 ≤ a ∧ a ≤ 18) → A' a j = A a j) : Lbk m L' A' := by
  obtain ⟨h1, h2⟩ := h
  refine ⟨(hA 6 0 (by decide)).trans h1, fun k k0 k1 => ?_⟩
  rw [hL, hL, hL, hL, hL, hL, hL, hL, hL, hL, hA 7 _ (by decide), hA 7 _ (by decide), hA 8 _ (by decide), hA 9 _ (by decide), hA 10 _ (by decide), hA 13 _ (by decide), hA 14 _ (by decide), hA 15 _ (by decide), hA 16 _ (by decide), hA 17 _ (by decide), hA 18 _ (by decide), hA 11 _ (by decide), hA 12 _ (by decide)]
  exact h2 k k0 k1
theorem Lcw.fr {m : Int} (h : Lcw m L A) (hL : ∀ n i, 0 ≤ n → n < m → (i = 1 ∨ 13 ≤ i ∧ i < 16) → L' 2 (16 * n + i) = L 2 (16 * n + i)) (hA : ∀ a j, (a = 19 ∨ a = 20 ∨ a = 23 ∨ a = 26 ∨ a = 27 ∨ a = 28) → A' a j = A a j) : Lcw m L' A' := by
  obtain ⟨h1, h2, h3⟩ := h
  refine ⟨(hA 19 0 (by decide)).trans h1, (hA 23 0 (by decide)).trans h2, fun n n0 n1 => ?_⟩
  rw [hL n 1 n0 n1 (by decide), hL n 13 n0 n1 (by decide), hL n 14 n0 n1 (by decide), hL n 15 n0 n1 (by decide), hA 20 _ (by decide), hA 26 _ (by decide), hA 27 _ (by decide)]
  obtain ⟨w1, w2, w3, w4, w5, w6⟩ := h3 n n0 n1
  refine ⟨w1, w2, w3, w4, w5, fun b b0 b1 => ?_⟩
  rw [hA 28 _ (by decide)]
  exact w6 b b0 b1
theorem LT.fr {n : Int} (h : LT n L A) (h47 : A 47 n ≤ 8) (hL : ∀ i, 2 ≤ i → i < 13 → L' 2 (16 * n + i) = L 2 (16 * n + i)) (h0 : ∀ i, 0 ≤ i → i < 8 → L' 0 (8 * n + i) = L 0 (8 * n + i)) (hA : ∀ a, 37 ≤ a → a ≤ 51 → a ≠ 43 → a ≠ 45 → A' a n = A a n) (h45 : ∀ i, 0 ≤ i → i < 8 → A' 45 (8 * n + i) = A 45 (8 * n + i)) : LT n L' A' := by
  obtain ⟨w1, w2, w3, w4, w5, w6, w7, w8, w9, w10, w11, w12, w13, w14, w15, w16, w17⟩ := h
  unfold LT
  rw [hL 3 (by decide) (by decide), hL 4 (by decide) (by decide), hL 5 (by decide) (by decide), hL 6 (by decide) (by decide), hL 2 (by decide) (by decide), hL 7 (by decide) (by decide), hL 8 (by decide) (by decide), hL 9 (by decide) (by decide), hL 10 (by decide) (by decide), hL 11 (by decide) (by decide), hL 12 (by decide) (by decide)]
  rw [hA 37 (by decide) (by decide) (by decide) (by decide), hA 38 (by decide) (by decide) (by decide) (by decide), hA 39 (by decide) (by decide) (by decide) (by decide), hA 40 (by decide) (by decide) (by decide) (by decide), hA 41 (by decide) (by decide) (by decide) (by decide), hA 42 (by decide) (by decide) (by decide) (by decide), hA 44 (by decide) (by decide) (by decide) (by decide), hA 46 (by decide) (by decide) (by decide) (by decide), hA 47 (by decide) (by decide) (by decide) (by decide), hA 48 (by decide) (by decide) (by decide) (by decide), hA 49 (by decide) (by decide) (by decide) (by decide), hA 50 (by decide) (by decide) (by decide) (by decide), hA 51 (by decide) (by decide) (by decide) (by decide)]
  refine ⟨w1, w2, w3, w4, w5, w6, w7, w8, w9, w10, w11, w12, w13, w14, w15, w16, fun i i0 i1 => ?_⟩
  rw [h0 i i0 (by omega), h45 i i0 (by omega)]
  exact w17 i i0 i1
/-- the trains, where row 2 keeps what speaks of trains, and the way of each -/
theorem Ltr.fr (h : Ltr L A) (h47 : ∀ n : Int, 0 ≤ n → n < 3 → A 36 n = 1 → A 47 n ≤ 8) (hL : ∀ n i, 0 ≤ n → n < 3 → 0 ≤ i → i < 13 → L' 2 (16 * n + i) = L 2 (16 * n + i)) (h0 : ∀ j, L' 0 j = L 0 j) (hA : ∀ a j, 36 ≤ a → a ≤ 51 → a ≠ 43 → A' a j = A a j) : Ltr L' A' := by
  refine ⟨fun n n0 n1 => ?_, fun n n0 n1 => (hA 36 n (by decide) (by decide) (by decide)).trans (h.2 n n0 n1)⟩
  have e0 := hL n 0 n0 n1 (by decide) (by decide)
  rw [Int.add_zero] at e0
  rw [e0, hA 36 n (by decide) (by decide) (by decide)]
  refine ⟨(h.1 n n0 n1).1, fun c => ((h.1 n n0 n1).2 c).fr (h47 n n0 n1 c) (fun i i0 i1 => hL n i n0 n1 (by omega) i1) (fun i _ _ => h0 _) (fun a a0 a1 a2 a3 => hA a n (by omega) a1 a2) (fun i _ _ => hA 45 _ (by decide) (by decide) (by decide))⟩
theorem Rep.w47 {c LN : Nat → Nat} {B : Fl} {E : El} (hR : Rep c LN B E A) : ∀ n : Int, 0 ≤ n → n < 3 → A 36 n = 1 → A 47 n ≤ 8 := fun n n0 n1 h => by
  have gT := hR.2.2.2.2.2.2.2.2.2.2.2.2.2.2.2.2.1
  obtain ⟨y1, y2, y3, y4, y5, y6, y7, y8, y9, y10, y11, y12, y13, y14, y15, y16, y17, y18, y19, y20, y21, y22, y23, y24, y25, y26, -⟩ := (gT n n0 (by omega)).2.2.2.2 h
  exact y26
theorem Rep.t01 {c LN : Nat → Nat} {B : Fl} {E : El} (hR : Rep c LN B E A) : ∀ n : Int, 0 ≤ n → n < 3 → A 36 n = 0 ∨ A 36 n = 1 := fun n n0 n1 => by
  have gT := hR.2.2.2.2.2.2.2.2.2.2.2.2.2.2.2.2.1
  exact (gT n n0 (by omega)).2.2.1
end LFr
