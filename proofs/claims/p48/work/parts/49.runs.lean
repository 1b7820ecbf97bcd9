/-! how long a train runs over a block -/
section Runs
variable {c LN : Nat → Nat} {B : Fl} {E : El} {A : Il}
def rnn (A : Il) (t b : Int) : Int := w32 (A 8 b + w32 (Int.tdiv (w32 (A 8 b * wgt A t (A 44 t).toNat)) (w32 (10 * A 20 (A 37 t)))))
def rnm (A : Il) (t b : Int) : Int := if A 10 b < 60 then rnn A t b else w32 (rnn A t b + A 8 b)
def rnv (A : Il) (t b : Int) : Int := if A 13 b = 0 then rnm A t b else w32 (2 * rnm A t b)
theorem rnn_w (t b : Int) : w32 (rnn A t b + 0) = rnn A t b := by
  rw [Int.add_zero]
  exact w32_id (rg_w32 _)
theorem m_runs {t b : Int} {Q : Int → Prop} (hT : RepT LN B E A) (hU : RepU LN B E A) (hE : RepE c B A) (h29 : A 29 0 ≤ 20) (h0 : 0 ≤ t) (h1 : t < 6) (h36 : A 36 t = 1) (hb : 0 ≤ b ∧ b < 16) (h : Q (rnv A t b)) : W_X9_runs t b A Q := by
  obtain ⟨t1, t2, t3, t4, t5⟩ := hT t h0 h1
  obtain ⟨y1, y2, y3, y4, y5, y6, y7, y8, y9, y10, y11, y12, y13, y14, y15, y16, y17, y18, y19, y20, y21, y22, y23, -⟩ := t5 h36
  obtain ⟨-, ru⟩ := hU t h0 h1
  obtain ⟨ru1, ru2⟩ := ru h36
  obtain ⟨⟨k1, k2, k3⟩, -, -, -, k7⟩ := hE
  have kb := k7 (A 37 t) y5 y6
  have ne : w32 (10 * A 20 (A 37 t)) ≠ 0 := by
    rw [w32_id (by unfold rg; omega)]
    omega
  refine ⟨hb.1, hb.2, hb.1, hb.2, m_weight h0 h1 ⟨y22, y23⟩ (fun j j0 j1 => ⟨(ru2 j j0 j1).1, Int.lt_of_lt_of_le (ru2 j j0 j1).2.1 h29⟩) ⟨h0, h1, y5, by omega, ne, hb.1, hb.2, ?_⟩⟩
  unfold rnv rnm at h
  by_cases c1 : A 10 b < 60
  · rw [if_pos c1] at h
    refine br_T c1 ⟨hb.1, hb.2, ?_⟩
    by_cases c2 : A 13 b = 0
    · rw [if_pos c2, ← rnn_w] at h
      exact br_T c2 h
    · rw [if_neg c2, ← rnn_w] at h
      exact br_F c2 h
  · rw [if_neg c1] at h
    refine br_F c1 ⟨hb.1, hb.2, hb.1, hb.2, ?_⟩
    by_cases c2 : A 13 b = 0
    · rw [if_pos c2] at h
      exact br_T c2 h
    · rw [if_neg c2] at h
      exact br_F c2 h
theorem q_runs {t b : Int} {Q : Int → Prop} (hT : RepT LN B E A) (hB : RepB c B A) (hE : RepE c B A) (h0 : 0 ≤ t) (h1 : t < 6) (h36 : A 36 t = 1) (hb : 0 ≤ b ∧ b < A 6 0) (h : Q (rnv A t b)) : W_X8_runningMinutes c LN (40 + t.toNat) (100 + b.toNat) B E Q := by
  obtain ⟨t1, t2, t3, t4, t5⟩ := hT t h0 h1
  obtain ⟨y1, y2, y3, y4, y5, y6, y7, y8, y9, y10, y11, y12, y13, y14, y15, y16, y17, y18, y19, y20, y21, y22, y23, -⟩ := t5 h36
  obtain ⟨⟨k1, k2, k3⟩, -, -, -, k7⟩ := hE
  obtain ⟨⟨b1, b2, b3⟩, b4, b5, b6, b7, b8, -⟩ := hB
  have kb := k7 (A 37 t) y5 y6
  have f8 := b5 b hb.1 hb.2
  have f10 := b7 b hb.1 hb.2
  have f13 := b8 b hb.1 hb.2
  have hk := kd8 (c := c) (v := 100 + b.toNat) (by omega) (by omega) b3
  have ne : w32 (10 * A 20 (A 37 t)) ≠ 0 := by
    rw [w32_id (by unfold rg; omega)]
    omega
  refine ⟨hk, kdtr (by omega) (by omega), ?_⟩
  rw [y12, y21, f8]
  refine br_F (by omega) ⟨ne, hk, ?_⟩
  rw [f8, f10]
  have fin : ∀ z : Int, Q (if A 13 b = 0 then z else w32 (2 * z)) → W_X8_runningMinutes_48 c LN (100 + b.toNat) z B E Q := fun z hz => by
    refine ⟨hk, ?_⟩
    rw [f13]
    by_cases c2 : A 13 b = 0
    · rw [if_pos c2] at hz
      exact br_T c2 hz
    · rw [if_neg c2] at hz
      exact br_F c2 hz
  unfold rnv rnm at h
  by_cases c1 : A 10 b < 60
  · rw [if_pos c1] at h
    exact br_T c1 (fin _ h)
  · rw [if_neg c1] at h
    exact br_F c1 (fin _ h)
/-- the least number that no train has -/
theorem lf_ex (A : Il) : ∃ f : Nat, f ≤ 6 ∧ (∀ j : Nat, j < f → ¬ A 36 (j : Int) = 0) ∧ (f < 6 → A 36 (f : Int) = 0) := by
  have go : ∀ k n : Nat, n + k = 6 → (∀ j : Nat, j < n → ¬ A 36 (j : Int) = 0) → ∃ f : Nat, f ≤ 6 ∧ (∀ j : Nat, j < f → ¬ A 36 (j : Int) = 0) ∧ (f < 6 → A 36 (f : Int) = 0) := by
    intro k
    induction k with
    | zero => exact fun n e h => ⟨n, by omega, h, fun w => by omega⟩
    | succ k ih =>
      intro n e h
      by_cases c1 : A 36 (n : Int) = 0
      · exact ⟨n, by omega, h, fun _ => c1⟩
      · refine ih (n + 1) (by omega) (fun j hj => ?_)
        by_cases ej : j = n
        · rw [ej]; exact c1
        · exact h j (by omega)
  exact go 6 0 rfl (fun j hj => absurd hj (Nat.not_lt_zero _))
theorem m_lf_go {f : Nat} {x1 x2 : Int} {Q : Int → Il → Prop} (hf : f ≤ 6) (h1 : ∀ j : Nat, j < f → ¬ A 36 (j : Int) = 0) (h2 : f < 6 → A 36 (f : Int) = 0) (h : W_X9_form_63 x1 x2 (f : Int) A Q) : ∀ k n : Nat, n + k = f → W_X9_form_42 (k + 1) x1 x2 (n : Int) A Q
  | 0, n, e => by
    have e' : n = f := by omega
    subst e'
    by_cases c1 : n < 6
    · exact br_F (by omega) ⟨by omega, by omega, br_T (h2 c1) h⟩
    · exact br_T (by omega) h
  | k + 1, n, e => by
    refine br_F (by omega) ⟨by omega, by omega, br_F (h1 n (by omega)) ?_⟩
    rw [w32_up (by omega)]
    exact m_lf_go hf h1 h2 h k (n + 1) (by omega)
theorem q_lf_go {f : Nat} {Q : Int → Prop} (hT : RepT LN B E A) (hf : f ≤ 6) (h1 : ∀ j : Nat, j < f → ¬ A 36 (j : Int) = 0) (h2 : f < 6 → A 36 (f : Int) = 0) (h : Q (if f < 6 then (f : Int) else -1)) : ∀ k n : Nat, n + k = f → W_X8_leastFreeNumber_2 c LN (k + 1) 0 (n : Int) B E Q
  | 0, n, e => by
    have l2 : ((ln 2 : Nat) : Int) = 6 := rfl
    have e' : n = f := by omega
    subst e'
    by_cases c1 : n < 6
    · rw [if_pos c1] at h
      exact ⟨rfl, rfl, br_F (by omega) ⟨by omega, by omega, kdtr (by omega) (by omega), bn_T ((hT.is (by omega) (by omega)).1 (h2 c1)) h⟩⟩
    · rw [if_neg c1] at h
      exact ⟨rfl, rfl, br_T (by omega) h⟩
  | k + 1, n, e => by
    have l2 : ((ln 2 : Nat) : Int) = 6 := rfl
    obtain ⟨w1, w2, w3, w4⟩ := (hT.is (x := (n : Int)) (by omega) (by omega)).2 (h1 n (by omega))
    refine ⟨rfl, rfl, br_F (by omega) ⟨by omega, by omega, kdtr (by omega) (by omega), bn_F (by rw [w2]; omega) ?_⟩⟩
    rw [w32_up (by omega)]
    exact q_lf_go hT hf h1 h2 h k (n + 1) (by omega)
/-- a whole row is set to z -/
theorem q_fill_go {v : Nat} {z : Int} {Q : Fl → El → Prop} (hk : kd c v = 20) (hQ : ∀ E' : El, (∀ a, a ≠ .inl v → ∀ j, E' a j = E a j) → (∀ j : Int, 0 ≤ j → j < ((ln v : Nat) : Int) → E' (.inl v) j = z) → Q B E') : ∀ (k n : Nat) (E1 : El), n + k = ln v → (∀ a, a ≠ .inl v → ∀ j, E1 a j = E a j) → (∀ j : Int, 0 ≤ j → j < (n : Int) → E1 (.inl v) j = z) → W_J7_fill_53178_5 c LN (k + 1) v z (n : Int) ((ln v : Nat) : Int) B E1 Q
  | 0, n, E1, e, i1, i2 => br_T (by omega) (hQ E1 i1 (fun j j0 j1 => i2 j j0 (by omega)))
  | k + 1, n, E1, e, i1, i2 => by
    have hl := ln_le v
    have e1 : w32 ((n : Int) + 1) = ((n + 1 : Nat) : Int) := by
      rw [w32_id (by unfold rg; omega)]
      omega
    refine br_F (by omega) ⟨hk, by omega, by omega, ?_⟩
    rw [e1]
    refine q_fill_go hk hQ k (n + 1) _ (by omega) (fun a ha j => (ue_k ha).trans (i1 a ha j)) (fun j j0 j1 => ?_)
    by_cases ej : j = (n : Int)
    · rw [ej]; exact ue_s
    · exact (ue_j ej).trans (i2 j j0 (by omega))
theorem q_fill {v : Nat} {z : Int} {Q : Fl → El → Prop} (hk : kd c v = 20) (hQ : ∀ E' : El, (∀ a, a ≠ .inl v → ∀ j, E' a j = E a j) → (∀ j : Int, 0 ≤ j → j < ((ln v : Nat) : Int) → E' (.inl v) j = z) → Q B E') : W_J7_fill_53178 c LN v z B E Q := ⟨hk, ln v + 1, q_fill_go hk hQ (ln v) 0 E (Nat.zero_add _) (fun _ _ _ => rfl) (fun j j0 j1 => by omega)⟩
theorem q_leastFree {f : Nat} {Q : Int → Prop} (hT : RepT LN B E A) (hf : f ≤ 6) (h1 : ∀ j : Nat, j < f → ¬ A 36 (j : Int) = 0) (h2 : f < 6 → A 36 (f : Int) = 0) (h : Q (if f < 6 then (f : Int) else -1)) : W_X8_leastFreeNumber c LN 0 B E Q := ⟨f + 1, q_lf_go hT hf h1 h2 h f 0 (Nat.zero_add _)⟩
end Runs
