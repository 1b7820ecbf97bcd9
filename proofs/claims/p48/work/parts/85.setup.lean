/-! the ring is laid and the trains are formed, beside the reference: what holds in between -/
def Fr1 (m : Int) (L A : Il) : Prop := ∀ k : Int, m ≤ k → k < 4 → (L 1 (8 + k) = 0 ∧ L 1 (12 + k) = 0 ∧ L 1 (16 + k) = 0 ∧ L 1 (20 + k) = 0 ∧ L 1 (24 + k) = 0 ∧ L 1 (36 + k) = 0) ∧ A 10 k = 0 ∧ A 11 k = 0 ∧ A 12 k = 0 ∧ A 13 k = 0 ∧ A 14 k = 0 ∧ A 15 k = 0 ∧ A 16 k = 0
def Zt (n : Int) (L A : Il) : Prop := ∀ m : Int, n ≤ m → m < 3 → (∀ i : Int, 0 ≤ i → i < 16 → L 2 (16 * m + i) = 0) ∧ A 26 m = 0 ∧ A 27 m = 0 ∧ ∀ b : Int, 0 ≤ b → b < 4 → A 28 (16 * m + b) = 0
def S1 (m : Int) (L A : Il) : Prop := Lg L A ∧ (A 52 0 = 0 ∧ A 1 0 = 0) ∧ (∀ s : Int, 0 ≤ s → s < 4 → A 5 s = 2) ∧ (∀ s : Int, 0 ≤ s → s < m → L 3 (4 + s) = 2) ∧ Lbk m L A ∧ Fr1 m L A ∧ Zt 0 L A ∧ (A 19 0 = 0 ∧ A 23 0 = 0 ∧ A 29 0 = 0) ∧ ∀ t : Int, 0 ≤ t → t < 6 → A 36 t = 0
def lyA (A : Il) (x y p g : Int) : Il := sc (sc (ui (ui (ui (ui (ui (sc A 0 0) 7 (2 * A 6 0) x) 7 (2 * A 6 0 + 1) y) 8 (A 6 0) p) 9 (A 6 0) g) 17 (A 6 0) (-1)) 2 (w32 (A 2 0 - w32 (100 * p)))) 6 (A 6 0 + 1)
def CW (n : Int) (L A : Il) : Prop := L 2 (16 * n + 1) = A 20 n ∧ A 20 n ≤ 3 ∧ L 2 (16 * n + 13) = A 26 n ∧ L 2 (16 * n + 14) = A 27 n ∧ (0 ≤ L 2 (16 * n + 15) ∧ L 2 (16 * n + 15) < 16) ∧ ∀ b : Int, 0 ≤ b → b < 4 → ((L 2 (16 * n + 15)).toNat.testBit b.toNat = true ↔ ¬ A 28 (16 * n + b) = 0)
def S2 (n : Int) (L A : Il) : Prop := Lg L A ∧ (A 52 0 = 0 ∧ A 1 0 = 0) ∧ (∀ s : Int, 0 ≤ s → s < 4 → A 5 s = 2 ∧ L 3 (4 + s) = 2) ∧ Lbk 4 L A ∧ (∀ m : Int, 0 ≤ m → m < n → CW m L A ∧ L 2 (16 * m) = A 36 m ∧ (A 36 m = 1 → LT m L A ∧ A 39 m = 0 ∧ A 47 m = 0)) ∧ (∀ m : Int, n < m → m < 6 → A 36 m = 0) ∧ (∀ m : Int, 0 ≤ m → m < n → m < 2 → A 36 m = 1) ∧ Zt (n + 1) L A
def SL (n : Int) (L A : Il) : Prop := S2 n L A ∧ A 36 n = 0 ∧ (A 19 0 = n ∧ A 23 0 = n) ∧ A 29 0 ≤ 5 * n ∧ Zt n L A
section Stp
variable {L L' A A' : Il} {m n s p g c : Int}
theorem S1.lay (h : S1 m L A) (hm : 0 ≤ m ∧ m < 4) (hc : c = w32 (A 2 0 - w32 (100 * p))) : S1 (m + 1) (ui (ui (ui (ui (ui L 1 m p) 1 (4 + m) g) 1 (28 + m) (-1)) 3 (4 + m) 2) 3 1 c) (lyA A m (nx m) p g) := by
  obtain ⟨⟨g1, g2, g3, g4⟩, ⟨d1, d2⟩, hs, ht, ⟨b1, hb⟩, hf, hz, ⟨e1, e2, e3⟩, h36⟩ := h
  have r0 : ∀ j, (ui (ui (ui (ui (ui L 1 m p) 1 (4 + m) g) 1 (28 + m) (-1)) 3 (4 + m) 2) 3 1 c) 2 j = L 2 j := fun j => by simp [ui]
  have r1 : ∀ j, (ui (ui (ui (ui (ui L 1 m p) 1 (4 + m) g) 1 (28 + m) (-1)) 3 (4 + m) 2) 3 1 c) 1 j = if j = 28 + m then -1 else if j = 4 + m then g else if j = m then p else L 1 j := fun j => by simp [ui]
  have r3 : ∀ j, (ui (ui (ui (ui (ui L 1 m p) 1 (4 + m) g) 1 (28 + m) (-1)) 3 (4 + m) 2) 3 1 c) 3 j = if j = 1 then c else if j = 4 + m then 2 else L 3 j := fun j => by simp [ui]
  have hA : ∀ a j, (a ≠ 0 ∧ a ≠ 7 ∧ a ≠ 8 ∧ a ≠ 9 ∧ a ≠ 17 ∧ a ≠ 2 ∧ a ≠ 6) → lyA A m (nx m) p g a j = A a j := fun a j h => (sc_k (by omega)).trans ((sc_k (by omega)).trans ((ui_k (by omega)).trans ((ui_k (by omega)).trans ((ui_k (by omega)).trans ((ui_k (by omega)).trans ((ui_k (by omega)).trans (sc_k (by omega))))))))
  have a7 : ∀ j, lyA A m (nx m) p g 7 j = if j = 2 * m + 1 then nx m else if j = 2 * m then m else A 7 j := fun j => by simp [lyA, ui, sc, b1]
  have a8 : ∀ j, lyA A m (nx m) p g 8 j = if j = m then p else A 8 j := fun j => by simp [lyA, ui, sc, b1]
  have a9 : ∀ j, lyA A m (nx m) p g 9 j = if j = m then g else A 9 j := fun j => by simp [lyA, ui, sc, b1]
  have a17 : ∀ j, lyA A m (nx m) p g 17 j = if j = m then -1 else A 17 j := fun j => by simp [lyA, ui, sc, b1]
  have a2 : lyA A m (nx m) p g 2 0 = w32 (A 2 0 - w32 (100 * p)) := (sc_k (by decide)).trans sc_s
  have a6 : lyA A m (nx m) p g 6 0 = m + 1 := sc_s.trans (by rw [b1])
  generalize (ui (ui (ui (ui (ui L 1 m p) 1 (4 + m) g) 1 (28 + m) (-1)) 3 (4 + m) 2) 3 1 c) = L' at *
  generalize lyA A m (nx m) p g = A' at *
  refine ⟨⟨?_, ?_, (hA 3 0 (by decide)).trans g3, ?_⟩, ⟨(hA 52 0 (by decide)).trans d1, (hA 1 0 (by decide)).trans d2⟩, fun s s0 s1 => (hA 5 s (by decide)).trans (hs s s0 s1), fun s s0 s1 => ?_, ⟨a6, fun k k0 k1 => ?_⟩, fun k k0 k1 => ?_, fun k k0 k1 => ?_, ⟨(hA 19 0 (by decide)).trans e1, (hA 23 0 (by decide)).trans e2, (hA 29 0 (by decide)).trans e3⟩, fun t t0 t1 => (hA 36 t (by decide)).trans (h36 t t0 t1)⟩
  · rw [r3, if_neg (by decide), if_neg (by omega), hA 1 0 (by decide)]
    exact g1
  · rw [r3, if_pos rfl, a2]
    exact hc
  · rw [r3, if_neg (by decide), if_neg (by omega), hA 52 0 (by decide)]
    exact g4
  · rw [r3, if_neg (by omega)]
    by_cases e : s = m
    · rw [if_pos (by omega)]
    · rw [if_neg (by omega)]
      exact ht s s0 (by omega)
  · rw [hA 10 _ (by decide), hA 13 _ (by decide), hA 14 _ (by decide), hA 15 _ (by decide), hA 16 _ (by decide), hA 18 _ (by decide), hA 11 _ (by decide), hA 12 _ (by decide), a7, a7, a8, a9, a17]
    by_cases e : k = m
    · rw [e]
      obtain ⟨⟨f1, f2, f3, f4, f5, f6⟩, f7, f8, f9, f10, f11, f12, f13⟩ := hf m (by omega) hm.2
      have w : ∀ j, (j ≠ 28 + m ∧ j ≠ 4 + m ∧ j ≠ m) → L' 1 j = L 1 j := fun j h => by rw [r1, if_neg h.1, if_neg h.2.1, if_neg h.2.2]
      rw [if_neg (by omega), if_pos rfl, if_pos rfl, if_pos rfl, if_pos rfl, if_pos rfl]
      refine ⟨rfl, rfl, ?_, ?_, (w _ (by omega)).trans (f1.trans f7.symm), (w _ (by omega)).trans (f2.trans f10.symm), (w _ (by omega)).trans (f3.trans f11.symm), (w _ (by omega)).trans (f4.trans f12.symm), (w _ (by omega)).trans (f5.trans f13.symm), ?_, fun c => absurd rfl c, (w _ (by omega)).trans (f6.trans f8.symm), f9⟩
      · rw [r1, if_neg (by omega), if_neg (by omega), if_pos rfl]
      · rw [r1, if_neg (by omega), if_pos rfl]
      · rw [r1, if_pos rfl]
    · obtain ⟨v1, v2, v3, v4, v5, v6, v7, v8, v9, v10, v11, v12, v13⟩ := hb k k0 (by omega)
      have w : ∀ j, (j ≠ 28 + m ∧ j ≠ 4 + m ∧ j ≠ m) → L' 1 j = L 1 j := fun j h => by rw [r1, if_neg h.1, if_neg h.2.1, if_neg h.2.2]
      rw [if_neg (by omega), if_neg (by omega), if_neg (by omega), if_neg (by omega), if_neg e, if_neg e, if_neg e]
      exact ⟨v1, v2, (w _ (by omega)).trans v3, (w _ (by omega)).trans v4, (w _ (by omega)).trans v5, (w _ (by omega)).trans v6, (w _ (by omega)).trans v7, (w _ (by omega)).trans v8, (w _ (by omega)).trans v9, (w _ (by omega)).trans v10, fun c => (w _ (by omega)).trans (v11 c), (w _ (by omega)).trans v12, v13⟩
  · obtain ⟨⟨f1, f2, f3, f4, f5, f6⟩, f7, f8, f9, f10, f11, f12, f13⟩ := hf k (by omega) k1
    rw [hA 10 _ (by decide), hA 11 _ (by decide), hA 12 _ (by decide), hA 13 _ (by decide), hA 14 _ (by decide), hA 15 _ (by decide), hA 16 _ (by decide)]
    have w : ∀ j, (j ≠ 28 + m ∧ j ≠ 4 + m ∧ j ≠ m) → L' 1 j = L 1 j := fun j h => by rw [r1, if_neg h.1, if_neg h.2.1, if_neg h.2.2]
    exact ⟨⟨(w _ (by omega)).trans f1, (w _ (by omega)).trans f2, (w _ (by omega)).trans f3, (w _ (by omega)).trans f4, (w _ (by omega)).trans f5, (w _ (by omega)).trans f6⟩, f7, f8, f9, f10, f11, f12, f13⟩
  · obtain ⟨z1, z2, z3, z4⟩ := hz k k0 k1
    exact ⟨fun i i0 i1 => (r0 _).trans (z1 i i0 i1), (hA 26 k (by decide)).trans z2, (hA 27 k (by decide)).trans z3, fun b b0 b1 => (hA 28 _ (by decide)).trans (z4 b b0 b1)⟩
theorem S1.end4 (h : S1 4 L A) : SL 0 L A := by
  obtain ⟨hg, hd, hs, ht, hb, hf, hz, ⟨e1, e2, e3⟩, h36⟩ := h
  exact ⟨⟨hg, hd, fun s s0 s1 => ⟨hs s s0 s1, ht s s0 s1⟩, hb, fun m m0 m1 => by omega, fun m m0 m1 => h36 m (by omega) m1, fun m m0 m1 => by omega, fun m m0 m1 => hz m (by omega) m1⟩, h36 0 (by decide) (by decide), ⟨e1, e2⟩, by omega, hz⟩
theorem S2.fr (h : S2 n L A) (r2 : ∀ j : Int, (j < 16 * n ∨ 16 * n + 16 ≤ j) → L' 2 j = L 2 j) (r3 : ∀ j : Int, j ≠ 1 → L' 3 j = L 3 j) (r31 : L' 3 1 = A' 2 0) (r0 : ∀ j, L' 0 j = L 0 j) (r1 : ∀ j, L' 1 j = L 1 j) (hA : ∀ a j, (a = 1 ∨ a = 3 ∨ a = 5 ∨ (6 ≤ a ∧ a ≤ 18) ∨ a = 52 ∨ a = 45) → A' a j = A a j) (hAm : ∀ a m, (a = 20 ∨ a = 26 ∨ a = 27 ∨ (36 ≤ a ∧ a ≤ 51 ∧ a ≠ 43 ∧ a ≠ 45)) → m ≠ n → A' a m = A a m) (h28 : ∀ j : Int, (j < 16 * n ∨ 16 * n + 16 ≤ j) → A' 28 j = A 28 j) : S2 n L' A' := by
  obtain ⟨⟨g1, g2, g3, g4⟩, ⟨d1, d2⟩, hs, hb, hc, h6, ht2, hz⟩ := h
  refine ⟨⟨(r3 0 (by decide)).trans (g1.trans (hA 1 0 (by omega)).symm), r31, (hA 3 0 (by omega)).trans g3, (r3 3 (by decide)).trans (g4.trans (hA 52 0 (by omega)).symm)⟩, ⟨(hA 52 0 (by omega)).trans d1, (hA 1 0 (by omega)).trans d2⟩, fun s s0 s1 => ⟨(hA 5 s (by omega)).trans (hs s s0 s1).1, (r3 _ (by omega)).trans (hs s s0 s1).2⟩, hb.fr r1 (fun a j h => hA a j (by omega)), fun m m0 m1 => ?_, fun m m0 m1 => (hAm 36 m (by omega) (by omega)).trans (h6 m m0 m1), fun m m0 m1 m2 => (hAm 36 m (by omega) (by omega)).trans (ht2 m m0 m1 m2), fun m m0 m1 => ?_⟩
  · obtain ⟨⟨w1, w2, w3, w4, w5, w6⟩, u1, u2⟩ := hc m m0 m1
    have e : ∀ i : Int, 0 ≤ i → i < 16 → L' 2 (16 * m + i) = L 2 (16 * m + i) := fun i i0 i1 => r2 _ (by omega)
    have k20 := hAm 20 m (by omega) (by omega)
    have k26 := hAm 26 m (by omega) (by omega)
    have k27 := hAm 27 m (by omega) (by omega)
    have k36 := hAm 36 m (by omega) (by omega)
    refine ⟨⟨(e 1 (by decide) (by decide)).trans (w1.trans k20.symm), by rw [k20]; exact w2, (e 13 (by decide) (by decide)).trans (w3.trans k26.symm), (e 14 (by decide) (by decide)).trans (w4.trans k27.symm), by rw [e 15 (by decide) (by decide)]; exact w5, fun b b0 b1 => by rw [e 15 (by decide) (by decide), h28 _ (by omega)]; exact w6 b b0 b1⟩, (r2 (16 * m) (by omega)).trans (u1.trans k36.symm), fun c => ?_⟩
    rw [k36] at c
    obtain ⟨l1, l2, l3⟩ := u2 c
    exact ⟨l1.fr (by omega) (fun i i0 i1 => e i (by omega) (by omega)) (fun i _ _ => r0 _) (fun a a0 a1 a2 a3 => hAm a m (by omega) (by omega)) (fun i _ _ => hA 45 _ (by omega)), (hAm 39 m (by omega) (by omega)).trans l2, (hAm 47 m (by omega) (by omega)).trans l3⟩
  · obtain ⟨z1, z2, z3, z4⟩ := hz m m0 m1
    exact ⟨fun i i0 i1 => (r2 _ (by omega)).trans (z1 i i0 i1), (hAm 26 m (by omega) (by omega)).trans z2, (hAm 27 m (by omega) (by omega)).trans z3, fun b b0 b1 => (h28 _ (by omega)).trans (z4 b b0 b1)⟩
theorem S2.next (h : S2 n L A) (hn : 0 ≤ n ∧ n < 3) (hc : CW n L A) (h36 : L 2 (16 * n) = A 36 n) (hl : A 36 n = 1 → LT n L A ∧ A 39 n = 0 ∧ A 47 n = 0) (h2 : n < 2 → A 36 n = 1) : S2 (n + 1) L A ∧ A 36 (n + 1) = 0 ∧ Zt (n + 1) L A := by
  obtain ⟨hg, hd, hs, hb, hcc, h6, ht2, hz⟩ := h
  refine ⟨⟨hg, hd, hs, hb, fun m m0 m1 => ?_, fun m m0 m1 => h6 m (by omega) m1, fun m m0 m1 m2 => ?_, fun m m0 m1 => hz m (by omega) m1⟩, h6 _ (by omega) (by omega), hz⟩
  · by_cases e : m = n
    · subst e
      exact ⟨hc, h36, hl⟩
    · exact hcc m m0 (by omega)
  · by_cases e : m = n
    · subst e
      exact h2 m2
    · exact ht2 m m0 (by omega) m2
theorem S2.ltr (h : S2 n L A) (hn : 0 ≤ n ∧ n ≤ 3) (h36 : A 36 n = 0) (hz : Zt n L A) : Ltr L A := by
  obtain ⟨hg, hd, hs, hb, hcc, h6, ht2, -⟩ := h
  refine ⟨fun m m0 m1 => ?_, fun m m0 m1 => ?_⟩
  · by_cases e : m < n
    · obtain ⟨w1, w2, w3⟩ := hcc m m0 e
      exact ⟨w2, fun c => (w3 c).1⟩
    · have z0 := (hz m (by omega) m1).1 0 (by decide) (by decide)
      rw [Int.add_zero] at z0
      have z1 : A 36 m = 0 := by
        by_cases e2 : m = n
        · rw [e2]; exact h36
        · exact h6 m (by omega) (by omega)
      exact ⟨z0.trans z1.symm, fun c => absurd (z1.symm.trans c) (by decide)⟩
  · by_cases e2 : m = n
    · rw [e2]; exact h36
    · exact h6 m (by omega) m1
theorem SL.lr (h : SL 3 L A) : LR L A := by
  obtain ⟨h2, h36, ⟨h19, h23⟩, h29, hz⟩ := h
  have ht := h2.ltr (by decide) h36 hz
  obtain ⟨hg, hd, hs, hb, hcc, h6, ht2, -⟩ := h2
  exact ⟨hg, fun s s0 s1 => (hs s s0 s1).2.trans (hs s s0 s1).1.symm, hb, ⟨h19, h23, fun m m0 m1 => (hcc m m0 m1).1⟩, ht⟩
end Stp
