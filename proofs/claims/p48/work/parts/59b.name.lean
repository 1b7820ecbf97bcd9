/-! the makers: a new name -/
theorem ite_c3 {p : Prop} [Decidable p] {a a' b b' : Nat} (ha : p → a = a') (hb : ¬ p → b = b') : (if p then a else b) = if p then a' else b' := by
  split
  · exact ha ‹_›
  · exact hb ‹_›
theorem ite_i {p q : Prop} [Decidable p] [Decidable q] {a b : Nat} (h : p ↔ q) : (if p then a else b) = if q then a else b := by
  by_cases c : p
  · rw [if_pos c, if_pos (h.1 c)]
  · rw [if_neg c, if_neg (fun w => c (h.2 w))]
/-- one more in list L -/
def cup (c : Nat → Nat) (L : Nat) : Nat → Nat := fun v => if v = L then c L + 1 else c v
def cap (L : Nat) : Nat := if L = 8 then 16 else if L = 11 then 20 else if L = 12 then 40 else 6
def knd (L : Nat) : Nat := if L = 8 then 2 else if L = 9 then 5 else if L = 10 then 4 else if L = 11 then 3 else 1
theorem cup_s {c : Nat → Nat} {L : Nat} : cup c L L = c L + 1 := if_pos rfl
theorem cup_n {c : Nat → Nat} {L v : Nat} (h : v ≠ L) : cup c L v = c v := if_neg h
theorem kd_L {c : Nat → Nat} {L : Nat} (h : kd c L = 0) : 8 ≤ L ∧ L ≤ 12 := by
  apply Classical.byContradiction
  intro hn
  have h2 : kd c L ≠ 0 := by
    unfold kd
    repeat' (first | omega | (refine ite_nz (fun _ => ?_) (fun _ => ?_)))
  exact h2 h
theorem kd_7 {c : Nat → Nat} {v : Nat} (h : kd c v = 7) : 20 ≤ v ∧ v < 28 := by
  apply Classical.byContradiction
  intro hn
  have h2 : kd c v ≠ 7 := by
    unfold kd
    repeat' (first | omega | (refine ite_nz (fun _ => ?_) (fun _ => ?_)))
  exact h2 h
theorem kd_8 {c : Nat → Nat} {v : Nat} (h : kd c v = 8) : 40 ≤ v ∧ v < 46 := by
  apply Classical.byContradiction
  intro hn
  have h2 : kd c v ≠ 8 := by
    unfold kd
    repeat' (first | omega | (refine ite_nz (fun _ => ?_) (fun _ => ?_)))
  exact h2 h
theorem kd_3 {c : Nat → Nat} {v : Nat} (h : kd c v = 3) : 140 ≤ v ∧ v < 140 + c 11 := by
  apply Classical.byContradiction
  intro hn
  have h2 : kd c v ≠ 3 := by
    unfold kd
    repeat' (first | omega | (refine ite_nz (fun _ => ?_) (fun _ => ?_)))
  exact h2 h
theorem kd_h {c : Nat → Nat} {v : Nat} (h : kd c v = 20 ∨ kd c v = 23 ∨ kd c v = 24 ∨ kd c v = 0) : v < 100 := by
  apply Classical.byContradiction
  intro hn
  have h2 : kd c v ≠ 20 := by
    unfold kd
    repeat' (first | omega | (refine ite_nz (fun _ => ?_) (fun _ => ?_)))
  have h3 : kd c v ≠ 23 := by
    unfold kd
    repeat' (first | omega | (refine ite_nz (fun _ => ?_) (fun _ => ?_)))
  have h4 : kd c v ≠ 24 := by
    unfold kd
    repeat' (first | omega | (refine ite_nz (fun _ => ?_) (fun _ => ?_)))
  have h5 : kd c v ≠ 0 := by
    unfold kd
    repeat' (first | omega | (refine ite_nz (fun _ => ?_) (fun _ => ?_)))
  omega
theorem bs_L {L : Nat} (h : 8 ≤ L ∧ L ≤ 12) : (L = 8 ∧ bs L = 100 ∧ cap L = 16 ∧ knd L = 2) ∨ (L = 9 ∧ bs L = 120 ∧ cap L = 6 ∧ knd L = 5) ∨ (L = 10 ∧ bs L = 130 ∧ cap L = 6 ∧ knd L = 4) ∨ (L = 11 ∧ bs L = 140 ∧ cap L = 20 ∧ knd L = 3) ∨ (L = 12 ∧ bs L = 180 ∧ cap L = 40 ∧ knd L = 1) := by
  obtain rfl | rfl | rfl | rfl | rfl : L = 8 ∨ L = 9 ∨ L = 10 ∨ L = 11 ∨ L = 12 := by omega
  · exact Or.inl ⟨rfl, rfl, rfl, rfl⟩
  · exact Or.inr (Or.inl ⟨rfl, rfl, rfl, rfl⟩)
  · exact Or.inr (Or.inr (Or.inl ⟨rfl, rfl, rfl, rfl⟩))
  · exact Or.inr (Or.inr (Or.inr (Or.inl ⟨rfl, rfl, rfl, rfl⟩)))
  · exact Or.inr (Or.inr (Or.inr (Or.inr ⟨rfl, rfl, rfl, rfl⟩)))
set_option maxHeartbeats 2000000 in
theorem kd_up {c : Nat → Nat} {L : Nat} (hL : 8 ≤ L ∧ L ≤ 12) (hc : c L < cap L) : (kd c (bs L + c L) = 99 ∧ kd (cup c L) (bs L + c L) = knd L) ∧ (L = 11 → kd c (160 + c 11) = 99 ∧ kd (cup c L) (160 + c 11) = 6) ∧ ∀ v, v ≠ bs L + c L → ¬ (L = 11 ∧ v = 160 + c 11) → kd (cup c L) v = kd c v := by
  have hv : ∀ v, v ≠ L → cup c L v = c v := fun v h => cup_n h
  have hs : cup c L L = c L + 1 := cup_s
  generalize cup c L = c' at hv hs
  obtain ⟨rfl, e1, e2, e3⟩ | ⟨rfl, e1, e2, e3⟩ | ⟨rfl, e1, e2, e3⟩ | ⟨rfl, e1, e2, e3⟩ | ⟨rfl, e1, e2, e3⟩ := bs_L hL
  all_goals
    rw [e1, e3]
    rw [e2] at hc
    have v8 := hv 8
    have v9 := hv 9
    have v10 := hv 10
    have v11 := hv 11
    have v12 := hv 12
    refine ⟨⟨?_, ?_⟩, fun h11 => ⟨?_, ?_⟩, fun v hv1 hv2 => ?_⟩
    · unfold kd
      repeat' (first | omega | (refine ite_ez (fun _ => ?_) (fun _ => ?_)))
    · unfold kd
      repeat' (first | omega | (refine ite_ez (fun _ => ?_) (fun _ => ?_)))
    · unfold kd
      repeat' (first | omega | (refine ite_ez (fun _ => ?_) (fun _ => ?_)))
    · unfold kd
      repeat' (first | omega | (refine ite_ez (fun _ => ?_) (fun _ => ?_)))
    · unfold kd
      repeat' (first | rfl | (refine ite_c3 (fun _ => ?_) (fun _ => ?_)) | (refine ite_i ?_; omega))
theorem kd12o {c : Nat → Nat} {v : Nat} (h0 : 180 ≤ v) (h1 : v < 180 + c 12) (h2 : c 12 ≤ 40) : kd c v = 1 := by
  unfold kd
  repeat' (first | omega | (refine ite_ez (fun _ => ?_) (fun _ => ?_)))
