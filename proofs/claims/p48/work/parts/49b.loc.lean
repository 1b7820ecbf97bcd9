/-! frames, one thing at a time -/
section Loc
variable {c LN LN' : Nat → Nat} {B B' : Fl} {E E' : El} {A A' : Il}
/-- one train -/
def TrB (LN : Nat → Nat) (B : Fl) (E : El) (A : Il) (t : Int) : Prop := 0 ≤ t → t < 6 → B 800 (40 + t.toNat) = t ∧ LN (60 + t.toNat) = 8 ∧ (A 36 t = 0 ∨ A 36 t = 1) ∧ (A 36 t = 0 → B 801 (40 + t.toNat) = -1) ∧
  (A 36 t = 1 → B 801 (40 + t.toNat) = A 39 t ∧ 0 ≤ A 39 t ∧ A 39 t ≤ 3 ∧
    B 802 (40 + t.toNat) = A 37 t ∧ 0 ≤ A 37 t ∧ A 37 t < A 19 0 ∧ A 22 (A 37 t) = t ∧
    B 803 (40 + t.toNat) = A 38 t ∧ 0 ≤ A 38 t ∧ A 38 t < A 23 0 ∧ A 25 (A 38 t) = t ∧
    B 804 (40 + t.toNat) = A 20 (A 37 t) ∧
    B 805 (40 + t.toNat) = (if A 39 t = 3 then -1 else A 40 t) ∧ 0 ≤ A 40 t ∧ A 40 t < 8 ∧
    B 806 (40 + t.toNat) = A 41 t ∧ (A 41 t = -1 ↔ A 39 t ≤ 1) ∧ -1 ≤ A 41 t ∧ A 41 t < A 6 0 ∧
    (A 39 t = 2 → B 807 (40 + t.toNat) = A 42 t ∧ A 1 0 < A 42 t ∧ A 42 t ≤ 30000 ∧ A 17 (A 41 t) = t ∧ A 18 (A 41 t) = A 42 t + (1 + A 44 t / 4)) ∧
    B 808 (40 + t.toNat) = wgt A t (A 44 t).toNat ∧ 0 ≤ A 44 t ∧ A 44 t ≤ 10 ∧
    0 ≤ A 46 t ∧ A 46 t ≤ A 47 t ∧ A 47 t ≤ 8 ∧
    (A 39 t = 3 → B 601 (60 + t.toNat) = 0 ∧ B 811 (40 + t.toNat) = 0 ∧ A 46 t = A 47 t) ∧
    (A 39 t ≠ 3 → rowR LN B E (60 + t.toNat) (A 47 t) (fun p => A 45 (8 * t + p)) ∧ B 811 (40 + t.toNat) = A 46 t ∧ (∀ p : Int, 0 ≤ p → p < A 47 t → 0 ≤ A 45 (8 * t + p) ∧ A 45 (8 * t + p) < A 6 0) ∧ ∀ n : Nat, (n : Int) ≤ A 47 t - A 46 t → wend A t n (A 46 t) (A 40 t) ≠ -1) ∧
    (A 39 t = 0 → A 46 t = A 47 t) ∧ (A 39 t = 1 → A 46 t < A 47 t) ∧
    (Rn (A 39 t) → B 812 (40 + t.toNat) = A 48 t ∧ B 813 (40 + t.toNat) = A 49 t ∧ 0 ≤ A 49 t ∧ A 49 t ≤ 9) ∧
    B 814 (40 + t.toNat) = A 50 t ∧ -1 ≤ A 50 t ∧ A 50 t < 6 ∧ (A 50 t ≠ -1 → B 815 (40 + t.toNat) = A 51 t) ∧
    ∀ b : Int, 0 ≤ b → b < 16 → (if b < A 6 0 ∧ A 17 b = t ∧ ¬ (A 39 t = 2 ∧ A 41 t = b) then E (.inl (70 + t.toNat)) b = A 18 b else A 39 t ≠ 3 → E (.inl (70 + t.toNat)) b ≤ A 1 0))
theorem RepT.tr (h : RepT LN B E A) (t : Int) : TrB LN B E A t := h t
theorem RepT.mk' (h : ∀ t : Int, TrB LN B E A t) : RepT LN B E A := h
theorem oth_loc {b s : Int} (h1 : A' 7 (2 * b) = A 7 (2 * b)) (h2 : A' 7 (2 * b + 1) = A 7 (2 * b + 1)) : oth A' b s = oth A b s := by
  unfold oth
  rw [h1, h2]
theorem wend_loc {t N : Int} (h : ∀ p : Int, 0 ≤ p → p < N → A' 45 (8 * t + p) = A 45 (8 * t + p) ∧ A' 7 (2 * A 45 (8 * t + p)) = A 7 (2 * A 45 (8 * t + p)) ∧ A' 7 (2 * A 45 (8 * t + p) + 1) = A 7 (2 * A 45 (8 * t + p) + 1)) : ∀ (n : Nat) (i s : Int), 0 ≤ i → i + n ≤ N → wend A' t n i s = wend A t n i s
  | 0, _, _, _, _ => rfl
  | n + 1, i, s, i0, i1 => by
    show wend A' t n (i + 1) (oth A' (A' 45 (8 * t + i)) s) = wend A t n (i + 1) (oth A (A 45 (8 * t + i)) s)
    obtain ⟨e1, e2, e3⟩ := h i i0 (by omega)
    rw [e1, oth_loc e2 e3]
    exact wend_loc h n (i + 1) _ (by omega) (by omega)
set_option maxHeartbeats 2000000 in
/-- a train of which nothing changes -/
theorem TrB.fr {t : Int} (h : TrB LN B E A t) (hB : ∀ k, (k = 800 ∨ k = 801 ∨ k = 802 ∨ k = 803 ∨ k = 804 ∨ k = 805 ∨ k = 806 ∨ k = 807 ∨ k = 808 ∨ k = 811 ∨ k = 812 ∨ k = 813 ∨ k = 814 ∨ k = 815) → B' k (40 + t.toNat) = B k (40 + t.toNat)) (h6 : B' 601 (60 + t.toNat) = B 601 (60 + t.toNat)) (hL : LN' (60 + t.toNat) = LN (60 + t.toNat)) (hE : ∀ j, E' (.inr (60 + t.toNat)) j = E (.inr (60 + t.toNat)) j) (hI : ∀ j, E' (.inl (70 + t.toNat)) j = E (.inl (70 + t.toNat)) j)
  (hA : ∀ a, (a = 36 ∨ a = 37 ∨ a = 38 ∨ a = 39 ∨ a = 40 ∨ a = 41 ∨ a = 42 ∨ a = 44 ∨ a = 46 ∨ a = 47 ∨ a = 48 ∨ a = 49 ∨ a = 50 ∨ a = 51) → A' a t = A a t) (h1 : A' 1 0 = A 1 0) (hn : A 6 0 ≤ A' 6 0 ∧ A 19 0 ≤ A' 19 0 ∧ A 23 0 ≤ A' 23 0)
  (h20 : A 36 t = 1 → 0 ≤ A 37 t → A 37 t < A 19 0 → A 22 (A 37 t) = t → A' 20 (A 37 t) = A 20 (A 37 t) ∧ A' 22 (A 37 t) = A 22 (A 37 t)) (h25 : A 36 t = 1 → 0 ≤ A 38 t → A 38 t < A 23 0 → A 25 (A 38 t) = t → A' 25 (A 38 t) = A 25 (A 38 t))
  (hw : A 36 t = 1 → wgt A' t (A 44 t).toNat = wgt A t (A 44 t).toNat) (h45 : ∀ p : Int, 0 ≤ p → p < 8 → A' 45 (8 * t + p) = A 45 (8 * t + p)) (h7 : ∀ b : Int, 0 ≤ b → b < A 6 0 → A' 7 (2 * b) = A 7 (2 * b) ∧ A' 7 (2 * b + 1) = A 7 (2 * b + 1))
  (h17 : A 36 t = 1 → ∀ b : Int, 0 ≤ b → b < 16 → ((b < A' 6 0 ∧ A' 17 b = t) ↔ (b < A 6 0 ∧ A 17 b = t)) ∧ (b < A 6 0 → A 17 b = t → A' 18 b = A 18 b)) (h16 : A 6 0 ≤ 16) : TrB LN' B' E' A' t := fun t0 t1 => by
  obtain ⟨x1, x2, x3, x4, x5⟩ := h t0 t1
  have a36 := hA 36 (by decide)
  refine ⟨(hB 800 (by decide)).trans x1, hL.trans x2, by rw [a36]; exact x3, fun e => (hB 801 (by decide)).trans (x4 (a36.symm.trans e)), fun e => ?_⟩
  have e : A 36 t = 1 := a36.symm.trans e
  obtain ⟨y1, y2, y3, y4, y5, y6, y7, y8, y9, y10, y11, y12, y13, y14, y15, y16, y17, y18, y19, y20, y21, y22, y23, y24, y25, y26, y27, y28, y29, y30, y31, y32, y33, y34, y35, y36⟩ := x5 e
  have h20 := h20 e y5 y6 y7
  have h25 := h25 e y9 y10 y11
  have hw := hw e
  have h17 := h17 e
  have a37 := hA 37 (by decide)
  have a38 := hA 38 (by decide)
  have a39 := hA 39 (by decide)
  have a40 := hA 40 (by decide)
  have a41 := hA 41 (by decide)
  have a42 := hA 42 (by decide)
  have a44 := hA 44 (by decide)
  have a46 := hA 46 (by decide)
  have a47 := hA 47 (by decide)
  have a48 := hA 48 (by decide)
  have a49 := hA 49 (by decide)
  have a50 := hA 50 (by decide)
  have a51 := hA 51 (by decide)
  rw [a37, a38, a39, a40, a41, a42, a44, a46, a47, a48, a49, a50, a51]
  refine ⟨(hB 801 (by decide)).trans y1, y2, y3, (hB 802 (by decide)).trans y4, y5, by omega, h20.2.trans y7, (hB 803 (by decide)).trans y8, y9, by omega, h25.trans y11, (hB 804 (by decide)).trans (y12.trans h20.1.symm), (hB 805 (by decide)).trans y13, y14, y15, (hB 806 (by decide)).trans y16, y17, y18, by omega, fun n => ?_, (hB 808 (by decide)).trans (y21.trans hw.symm), y22, y23, y24, y25, y26, fun n => ⟨h6.trans (y27 n).1, (hB 811 (by decide)).trans (y27 n).2.1, (y27 n).2.2⟩, fun n => ?_, y29, y30, fun n => ⟨(hB 812 (by decide)).trans (y31 n).1, (hB 813 (by decide)).trans (y31 n).2.1, (y31 n).2.2⟩, (hB 814 (by decide)).trans y32, y33, y34, fun n => (hB 815 (by decide)).trans (y35 n), fun b b0 b1 => ?_⟩
  · obtain ⟨z1, z2, z3, z4, z5⟩ := y20 n
    have ne : A 41 t ≠ -1 := fun w => by have := y17.1 w; omega
    obtain ⟨w1, w2⟩ := h17 (A 41 t) (by omega) (by omega)
    exact ⟨(hB 807 (by decide)).trans z1, by rw [h1]; exact z2, z3, (w1.2 ⟨y19, z4⟩).2, (w2 y19 z4).trans z5⟩
  · obtain ⟨⟨r1, r2, r3, r4⟩, z2, z3, z4⟩ := y28 n
    refine ⟨⟨h6.trans r1, r2, by rw [hL]; exact r3, fun p p0 p1 => (hE p).trans ((r4 p p0 p1).trans (h45 p p0 (by omega)).symm)⟩, (hB 811 (by decide)).trans z2, fun p p0 p1 => ?_, fun m hm => ?_⟩
    · rw [h45 p p0 (by omega)]
      have := z3 p p0 p1
      omega
    · rw [wend_loc (N := A 47 t) (A := A) (fun p p0 p1 => ?_) m _ _ y24 (by omega)]
      · exact z4 m hm
      · have := z3 p p0 p1
        exact ⟨h45 p p0 (by omega), h7 _ this.1 this.2⟩
  · have r := y36 b b0 b1
    obtain ⟨w1, w2⟩ := h17 b b0 b1
    rw [hI b, h1]
    by_cases cc : b < A 6 0 ∧ A 17 b = t ∧ ¬ (A 39 t = 2 ∧ A 41 t = b)
    · have w3 := w1.2 ⟨cc.1, cc.2.1⟩
      rw [if_pos cc] at r
      rw [if_pos ⟨w3.1, w3.2, cc.2.2⟩, w2 cc.1 cc.2.1]
      exact r
    · rw [if_neg cc] at r
      rw [if_neg (fun w => cc ⟨(w1.1 ⟨w.1, w.2.1⟩).1, (w1.1 ⟨w.1, w.2.1⟩).2, w.2.2⟩)]
      exact r
/-- the cars of one train -/
def UuB (LN : Nat → Nat) (B : Fl) (E : El) (A : Il) (t : Int) : Prop := 0 ≤ t → t < 6 → LN (50 + t.toNat) = 10 ∧ (A 36 t = 1 → rowR LN B E (50 + t.toNat) (A 44 t) (fun p => A 43 (10 * t + p)) ∧ ∀ p : Int, 0 ≤ p → p < A 44 t → 0 ≤ A 43 (10 * t + p) ∧ A 43 (10 * t + p) < A 29 0 ∧ A 32 (A 43 (10 * t + p)) = t ∧ ∀ q : Int, 0 ≤ q → q < A 44 t → A 43 (10 * t + q) = A 43 (10 * t + p) → q = p)
theorem RepU.uu (h : RepU LN B E A) (t : Int) : UuB LN B E A t := h t
theorem RepU.mk' (h : ∀ t : Int, UuB LN B E A t) : RepU LN B E A := h
theorem UuB.fr {t : Int} (h : UuB LN B E A t) (hL : LN' (50 + t.toNat) = LN (50 + t.toNat)) (h36 : A' 36 t = A 36 t) (h6 : A 36 t = 1 → B' 601 (50 + t.toNat) = B 601 (50 + t.toNat)) (hE : A 36 t = 1 → ∀ j, E' (.inr (50 + t.toNat)) j = E (.inr (50 + t.toNat)) j) (h44 : A 36 t = 1 → A' 44 t = A 44 t) (h43 : A 36 t = 1 → ∀ p : Int, 0 ≤ p → p < A 44 t → A' 43 (10 * t + p) = A 43 (10 * t + p)) (h29 : A 29 0 ≤ A' 29 0) (h32 : ∀ k : Int, 0 ≤ k → k < A 29 0 → A 32 k = t → A' 32 k = A 32 k) : UuB LN' B' E' A' t := fun t0 t1 => by
  obtain ⟨x1, x2⟩ := h t0 t1
  refine ⟨hL.trans x1, fun e => ?_⟩
  have e := h36.symm.trans e
  have h43 := h43 e
  obtain ⟨⟨r1, r2, r3, r4⟩, x3⟩ := x2 e
  rw [h44 e]
  refine ⟨⟨(h6 e).trans r1, r2, by rw [hL]; exact r3, fun p p0 p1 => (hE e p).trans ((r4 p p0 p1).trans (h43 p p0 p1).symm)⟩, fun p p0 p1 => ?_⟩
  obtain ⟨z1, z2, z3, z4⟩ := x3 p p0 p1
  rw [h43 p p0 p1]
  refine ⟨z1, by omega, (h32 _ z1 z2 z3).trans z3, fun q q0 q1 => ?_⟩
  rw [h43 q q0 q1]
  exact z4 q q0 q1
/-- one yard -/
def YyB (LN : Nat → Nat) (B : Fl) (E : El) (A : Il) (s : Int) : Prop := 0 ≤ s → s < 8 → rowR LN B E (30 + s.toNat) (A 35 s) (fun p => A 34 (20 * s + p)) ∧ A 35 s ≤ 20 ∧ 1 ≤ LN (30 + s.toNat) ∧ ∀ p : Int, 0 ≤ p → p < A 35 s → 0 ≤ A 34 (20 * s + p) ∧ A 34 (20 * s + p) < A 29 0 ∧ A 32 (A 34 (20 * s + p)) = -1 ∧ A 31 (A 34 (20 * s + p)) = s ∧ ∀ q : Int, 0 ≤ q → q < A 35 s → A 34 (20 * s + q) = A 34 (20 * s + p) → q = p
theorem RepY.yy (h : RepY LN B E A) (s : Int) : YyB LN B E A s := h s
theorem RepY.mk' (h : ∀ s : Int, YyB LN B E A s) : RepY LN B E A := h
theorem YyB.fr {s : Int} (h : YyB LN B E A s) (hL : LN' (30 + s.toNat) = LN (30 + s.toNat)) (h6 : B' 601 (30 + s.toNat) = B 601 (30 + s.toNat)) (hE : ∀ j, E' (.inr (30 + s.toNat)) j = E (.inr (30 + s.toNat)) j) (h35 : A' 35 s = A 35 s) (h34 : ∀ p : Int, 0 ≤ p → p < A 35 s → A' 34 (20 * s + p) = A 34 (20 * s + p)) (h29 : A 29 0 ≤ A' 29 0) (h32 : ∀ k : Int, 0 ≤ k → k < A 29 0 → A 32 k = -1 → A 31 k = s → A' 32 k = A 32 k ∧ A' 31 k = A 31 k) : YyB LN' B' E' A' s := fun s0 s1 => by
  obtain ⟨⟨r1, r2, r3, r4⟩, x1, x2, x3⟩ := h s0 s1
  rw [h35]
  refine ⟨⟨h6.trans r1, r2, by rw [hL]; exact r3, fun p p0 p1 => (hE p).trans ((r4 p p0 p1).trans (h34 p p0 p1).symm)⟩, x1, by rw [hL]; exact x2, fun p p0 p1 => ?_⟩
  obtain ⟨z1, z2, z3, z4, z5⟩ := x3 p p0 p1
  have w := h32 _ z1 z2 z3 z4
  rw [h34 p p0 p1]
  refine ⟨z1, by omega, w.1.trans z3, w.2.trans z4, fun q q0 q1 => ?_⟩
  rw [h34 q q0 q1]
  exact z5 q q0 q1
theorem RepD.fz (h : RepD LN B E A) (h6 : ∀ v, v < 8 → B' 601 v = B 601 v) (hL : ∀ v, v < 8 → LN' v = LN v) (hE : ∀ v, v < 8 → ∀ j, E' (.inr v) j = E (.inr v) j) (hA : ∀ a j, (a = 6 ∨ a = 52 ∨ a = 53) → A' a j = A a j) : RepD LN' B' E' A' := (h.fl (B' := B') (LN' := LN') (E' := E') (fun v hv => h6 v (by omega)) (fun v hv => hL v (by omega)) (fun v hv => hE v (by omega))).fr (fun _ _ _ => rfl) (fun _ _ => rfl) hA
theorem RepP.fz (h : RepP LN B E A) (h6 : ∀ v, 160 ≤ v → B' 601 v = B 601 v) (hL : ∀ v, 160 ≤ v → LN' v = LN v) (hE : ∀ v, 160 ≤ v → ∀ j, E' (.inr v) j = E (.inr v) j) (hA : ∀ a j, (a = 29 ∨ a = 31 ∨ a = 32 ∨ a = 60 ∨ a = 61 ∨ a = 62) → A' a j = A a j) : RepP LN' B' E' A' := (h.fl (B' := B') (LN' := LN') (E' := E') h6 hL hE).fr (fun _ _ _ => rfl) (fun _ _ => rfl) hA
theorem RepY.fz (h : RepY LN B E A) (h6 : ∀ v, 30 ≤ v → v < 38 → B' 601 v = B 601 v) (hL : ∀ v, 30 ≤ v → v < 38 → LN' v = LN v) (hE : ∀ v, 30 ≤ v → v < 38 → ∀ j, E' (.inr v) j = E (.inr v) j) (hA : ∀ a j, (a = 29 ∨ a = 31 ∨ a = 32 ∨ a = 34 ∨ a = 35) → A' a j = A a j) : RepY LN' B' E' A' := (h.fl (B' := B') (LN' := LN') (E' := E') h6 hL hE).fr (fun _ _ _ => rfl) (fun _ _ => rfl) hA
theorem RepU.fz (h : RepU LN B E A) (h6 : ∀ v, 50 ≤ v → v < 56 → B' 601 v = B 601 v) (hL : ∀ v, 50 ≤ v → v < 56 → LN' v = LN v) (hE : ∀ v, 50 ≤ v → v < 56 → ∀ j, E' (.inr v) j = E (.inr v) j) (hA : ∀ a j, (a = 29 ∨ a = 32 ∨ a = 36 ∨ a = 43 ∨ a = 44) → A' a j = A a j) : RepU LN' B' E' A' := (h.fl (B' := B') (LN' := LN') (E' := E') h6 hL hE).fr (fun _ _ _ => rfl) (fun _ _ => rfl) hA
end Loc
