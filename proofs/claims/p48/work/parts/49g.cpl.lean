/-! rows that lose one; couple, uncouple -/
section Drop
variable {c LN LN' : Nat → Nat} {B B' : Fl} {E E' : El} {A A' : Il}
/-- behind i places of a drop whose item was found at p -/
def dri (E E1 : El) (v : Nat) (N : Nat) (f : Int → Int) (p i : Int) : Prop := (∀ a, a ≠ .inr v → ∀ j, E1 a j = E a j) ∧ (∀ j : Int, 0 ≤ j → j < p → E1 (.inr v) j = f j) ∧ (∀ j : Int, p ≤ j → j < i → j + 1 < (N : Int) → E1 (.inr v) j = f (j + 1)) ∧ ∀ j : Int, i ≤ j → j < (N : Int) → E1 (.inr v) j = f j
theorem q_drop35 {v N n : Nat} {x p : Int} {f : Int → Int} {Q : Fl → El → Prop} {i : Nat} {E1 : El} (hk : kd c v = 6) (hl : N ≤ LN v) (h5 : N < 5000) (hp : 0 ≤ p) (hi : i < N) (hpi : p ≤ (i : Int)) (hd : dri E E1 v N f p i) (ih : ∀ E2, dri E E2 v N f p ((i + 1 : Nat) : Int) → W_X5_drop_4 c LN n v x 1 ((i + 1 : Nat) : Int) B E2 Q) : W_X5_drop_35 c LN (fun y0 y1 y2 y3 B' E' => W_X5_drop_4 c LN n y0 y1 y2 y3 B' E' Q) v x (i : Int) B E1 Q := by
  obtain ⟨d1, d2, d3, d4⟩ := hd
  have e1 := w32_up (n := i) (by omega)
  unfold W_X5_drop_35 W_X5_drop_40
  refine br_F (by decide) ⟨hk, hk, ?_⟩
  unfold W_X5_drop_70
  rw [e1]
  refine ⟨fun cc => ih E1 ⟨d1, d2, fun j j0 j1 j2 => ?_, fun j j0 j1 => d4 j (by omega) j1⟩, fun cc => ⟨by omega, by omega, by omega, by omega, ih _ ⟨fun a ha j => (ue_k ha).trans (d1 a ha j), fun j j0 j1 => ?_, fun j j0 j1 j2 => ?_, fun j j0 j1 => ?_⟩⟩⟩
  · by_cases ej : j = (i : Int)
    · omega
    · exact d3 j j0 (by omega) j2
  · rw [ue_j (by omega)]
    exact d2 j j0 j1
  · by_cases ej : j = (i : Int)
    · rw [ej, ue_s, show ((i + 1 : Nat) : Int) = (i : Int) + 1 by omega]
      exact d4 _ (by omega) (by omega)
    · rw [ue_j ej]
      exact d3 j j0 (by omega) j2
  · rw [ue_j (by omega)]
    exact d4 j (by omega) j1
theorem q_drop_go2 {v N : Nat} {x p : Int} {f : Int → Int} {Q : Fl → El → Prop} (hk : kd c v = 6) (hn : B 601 v = (N : Int)) (hl : N ≤ LN v) (h5 : N < 5000) (hp : 0 ≤ p) (hQ : ∀ E', dri E E' v N f p (N : Int) → Q (u2 B 601 v ((N : Int) - 1)) E') : ∀ (k i : Nat) (E1 : El), i + k = N → p < (i : Int) → dri E E1 v N f p i → W_X5_drop_4 c LN (k + 1) v x 1 (i : Int) B E1 Q
  | 0, i, E1, e, hi, hd => by
    have e' : i = N := by omega
    subst e'
    refine ⟨hk, br_T (by rw [hn]; exact Int.le_refl _) ?_⟩
    unfold W_X5_drop_76
    refine br_F (by decide) ⟨hk, ?_⟩
    rw [hn, w32_id (by unfold rg; omega)]
    exact hQ E1 hd
  | k + 1, i, E1, e, hi, hd => by
    refine ⟨hk, br_F (by rw [hn]; omega) ⟨hk, br_F (by omega) (bn_F (by decide) ?_)⟩⟩
    exact q_drop35 hk hl h5 hp (by omega) (by omega) hd (fun E2 hd2 => q_drop_go2 hk hn hl h5 hp hQ k (i + 1) E2 (by omega) (by omega) hd2)
theorem q_drop_go1 {v N : Nat} {x p : Int} {f : Int → Int} {Q : Fl → El → Prop} (hk : kd c v = 6) (hr : rowR LN B E v (N : Int) f) (h5 : N < 5000) (hp : 0 ≤ p) (hpN : p < (N : Int)) (hx : f p = x) (hu : ∀ q : Int, 0 ≤ q → q < p → f q ≠ x) (hQ : ∀ E', dri E E' v N f p (N : Int) → Q (u2 B 601 v ((N : Int) - 1)) E') : ∀ (k i : Nat), i + k = N → (i : Int) ≤ p → W_X5_drop_4 c LN (k + 1) v x 0 (i : Int) B E Q
  | 0, i, e, hi => by omega
  | k + 1, i, e, hi => by
    obtain ⟨r1, r2, r3, r4⟩ := id hr
    have hl : N ≤ LN v := by omega
    have e1 := w32_up (n := i) (by omega)
    have ei := r4 (i : Int) (by omega) (by omega)
    refine ⟨hk, br_F (by rw [r1]; omega) ⟨hk, br_F (by omega) (bn_T rfl ⟨by omega, by omega, ?_⟩)⟩⟩
    by_cases c1 : (i : Int) = p
    · refine bn_T (by rw [ei, c1]; exact hx) ?_
      exact q_drop35 (E := E) (f := f) (p := p) hk hl h5 hp (by omega) (by omega) ⟨fun _ _ _ => rfl, fun j j0 j1 => r4 j j0 (by omega), fun j j0 j1 => by omega, fun j j0 j1 => r4 j (by omega) j1⟩ (fun E2 hd2 => q_drop_go2 hk r1 hl h5 hp hQ k (i + 1) E2 (by omega) (by omega) hd2)
    · refine bn_F (by rw [ei]; exact hu _ (by omega) (by omega)) ?_
      unfold W_X5_drop_40
      refine br_T rfl ?_
      unfold W_X5_drop_70
      rw [e1]
      exact q_drop_go1 hk hr h5 hp hpN hx hu hQ k (i + 1) (by omega) (by omega)
/-- the row without what stood at p -/
theorem q_drop {v : Nat} {n x p : Int} {f : Int → Int} {Q : Fl → El → Prop} (hk : kd c v = 6) (hr : rowR LN B E v n f) (h5 : n < 5000) (hp : 0 ≤ p) (hpN : p < n) (hx : f p = x) (hu : ∀ q : Int, 0 ≤ q → q < p → f q ≠ x) (hQ : ∀ E', (∀ a, a ≠ .inr v → ∀ j, E' a j = E a j) → (∀ j : Int, 0 ≤ j → j < n - 1 → E' (.inr v) j = if j < p then f j else f (j + 1)) → Q (u2 B 601 v (n - 1)) E') : W_X5_drop c LN v x B E Q := by
  obtain ⟨N, eN⟩ := Int.eq_ofNat_of_zero_le hr.2.1
  subst eN
  refine ⟨N + 1, q_drop_go1 hk hr (by omega) hp hpN hx hu (fun E' hd => hQ E' hd.1 (fun j j0 j1 => ?_)) N 0 (Nat.zero_add _) hp⟩
  by_cases c1 : j < p
  · rw [if_pos c1]
    exact hd.2.1 j j0 c1
  · rw [if_neg c1]
    exact hd.2.2.1 j (by omega) (by omega) (by omega)
/-- row r of the reference, what stood at b + p gone, those behind it forward, up to b + m -/
def shf (A : Il) (r : Nat) (b p m : Int) : Il := fun a j => if a = r ∧ b + p ≤ j ∧ j < b + m then A r (j + 1) else A a j
theorem shf_0 {r : Nat} {b p : Int} : shf A r b p p = A := by
  funext a j
  exact if_neg (fun w => by omega)
theorem shf_k {r a : Nat} {b p m j : Int} (h : a ≠ r) : shf A r b p m a j = A a j := if_neg (fun w => h w.1)
theorem shf_o {r : Nat} {b p m j : Int} (h : j < b + p ∨ b + m ≤ j) : shf A r b p m r j = A r j := if_neg (fun w => by omega)
theorem shf_i {r : Nat} {b p m j : Int} (h : b + p ≤ j) (h2 : j < b + m) : shf A r b p m r j = A r (j + 1) := if_pos ⟨rfl, h, h2⟩
theorem ui_id {r : Nat} {j : Int} : ui A r j (A r j) = A := by
  funext a i
  show (if a = r ∧ i = j then A r j else A a i) = A a i
  by_cases e : a = r ∧ i = j
  · rw [if_pos e, e.1, e.2]
  · rw [if_neg e]
theorem shf_s {r : Nat} {b p m j : Int} (h : p ≤ m) (hj : j = b + m + 1) : ui (shf A r b p m) r (b + m) (shf A r b p m r j) = shf A r b p (m + 1) := by
  subst hj
  rw [shf_o (Or.inr (by omega))]
  funext a i
  show (if a = r ∧ i = b + m then A r (b + m + 1) else if a = r ∧ b + p ≤ i ∧ i < b + m then A r (i + 1) else A a i) = if a = r ∧ b + p ≤ i ∧ i < b + (m + 1) then A r (i + 1) else A a i
  by_cases e : a = r ∧ i = b + m
  · rw [if_pos e, if_pos ⟨e.1, by omega, by omega⟩, e.2]
  · rw [if_neg e]
    by_cases e2 : a = r ∧ b + p ≤ i ∧ i < b + m
    · rw [if_pos e2, if_pos ⟨e2.1, e2.2.1, by omega⟩]
    · rw [if_neg e2, if_neg (fun w => by
        by_cases e3 : i = b + m
        · exact e ⟨w.1, e3⟩
        · exact e2 ⟨w.1, w.2.1, by omega⟩)]
theorem m_cpl_go2 {x t s p : Int} {N : Nat} {Q : Int → Il → Prop} (hw : 0 ≤ s ∧ s < 8) (hN : A 35 s = (N : Int)) (hN2 : N ≤ 20) (hp : 0 ≤ p) (hx : ∀ j : Int, 0 ≤ j → j < (N : Int) → j ≠ p → A 34 (20 * s + j) ≠ x) (fin : W_X9_couple_95 1 t x s ((N : Int) - 1) (N : Int) (shf A 34 (20 * s) p ((N : Int) - 1)) Q) : ∀ (k i : Nat), i + k = N → p < (i : Int) → W_X9_couple_95 (k + 1) t x s ((i : Int) - 1) (i : Int) (shf A 34 (20 * s) p ((i : Int) - 1)) Q
  | 0, i, e, hi => by
    have e' : i = N := by omega
    subst e'
    exact fin
  | k + 1, i, e, hi => by
    have e1 : w32 (20 * s) = 20 * s := w32_id (by unfold rg; omega)
    have e2 : w32 (20 * s + (i : Int)) = 20 * s + (i : Int) := w32_id (by unfold rg; omega)
    have e3 : w32 (20 * s + ((i : Int) - 1)) = 20 * s + ((i : Int) - 1) := w32_id (by unfold rg; omega)
    have e4 : ui (shf A 34 (20 * s) p ((i : Int) - 1)) 34 (20 * s + ((i : Int) - 1)) (shf A 34 (20 * s) p ((i : Int) - 1) 34 (20 * s + (i : Int))) 34 (20 * s + (i : Int)) = A 34 (20 * s + (i : Int)) := (ui_j (by omega)).trans (shf_o (Or.inr (by omega)))
    refine ⟨hw.1, hw.2, br_F (by show ¬ A 35 s ≤ _; omega) ?_⟩
    rw [e1, e2, e3]
    refine ⟨by omega, by omega, by omega, by omega, by omega, by omega, bn_F (by rw [e4]; exact hx _ (by omega) (by omega) (by omega)) ?_⟩
    show W_X9_couple_95 (k + 1) t x s (w32 ((i : Int) - 1 + 1)) (w32 ((i : Int) + 1)) (ui (shf A 34 (20 * s) p ((i : Int) - 1)) 34 (20 * s + ((i : Int) - 1)) (shf A 34 (20 * s) p ((i : Int) - 1) 34 (20 * s + (i : Int)))) Q
    rw [shf_s (by omega) (by omega), w32_up (by omega), show (i : Int) - 1 + 1 = ((i + 1 : Nat) : Int) - 1 by omega, w32_id (z := ((i + 1 : Nat) : Int) - 1) (by unfold rg; omega)]
    exact m_cpl_go2 hw hN hN2 hp hx fin k (i + 1) (by omega) (by omega)
theorem m_cpl_go1 {x t s p : Int} {N : Nat} {Q : Int → Il → Prop} (hw : 0 ≤ s ∧ s < 8) (hN : A 35 s = (N : Int)) (hN2 : N ≤ 20) (hp : 0 ≤ p) (hpN : p < (N : Int)) (hpx : A 34 (20 * s + p) = x) (hx : ∀ j : Int, 0 ≤ j → j < (N : Int) → j ≠ p → A 34 (20 * s + j) ≠ x) (fin : W_X9_couple_95 1 t x s ((N : Int) - 1) (N : Int) (shf A 34 (20 * s) p ((N : Int) - 1)) Q) : ∀ (k i : Nat), i + k = N → (i : Int) ≤ p → W_X9_couple_95 (k + 1) t x s (i : Int) (i : Int) A Q
  | 0, i, e, hi => by omega
  | k + 1, i, e, hi => by
    have e1 : w32 (20 * s) = 20 * s := w32_id (by unfold rg; omega)
    have e2 : w32 (20 * s + (i : Int)) = 20 * s + (i : Int) := w32_id (by unfold rg; omega)
    refine ⟨hw.1, hw.2, br_F (by omega) ?_⟩
    rw [e1, e2, ui_id]
    refine ⟨by omega, by omega, by omega, by omega, by omega, by omega, ?_⟩
    by_cases c1 : (i : Int) = p
    · refine bn_T (by rw [c1]; exact hpx) ?_
      show W_X9_couple_95 (k + 1) t x s (w32 ((i : Int) + 0)) (w32 ((i : Int) + 1)) A Q
      rw [w32_up (by omega), Int.add_zero, w32_id (z := (i : Int)) (by unfold rg; omega)]
      have w := m_cpl_go2 hw hN hN2 hp hx fin k (i + 1) (by omega) (by omega)
      rw [show ((i + 1 : Nat) : Int) - 1 = p by omega, shf_0, ← c1] at w
      exact w
    · refine bn_F (hx _ (by omega) (by omega) c1) ?_
      show W_X9_couple_95 (k + 1) t x s (w32 ((i : Int) + 1)) (w32 ((i : Int) + 1)) A Q
      rw [w32_up (by omega)]
      exact m_cpl_go1 hw hN hN2 hp hpN hpx hx fin k (i + 1) (by omega) (by omega)
theorem m_unc_go2 {x t p : Int} {N : Nat} {Q : Int → Il → Prop} (hw : 0 ≤ t ∧ t < 6) (hN : A 44 t = (N : Int)) (hN2 : N ≤ 10) (hp : 0 ≤ p) (hx : ∀ j : Int, 0 ≤ j → j < (N : Int) → j ≠ p → A 43 (10 * t + j) ≠ x) (fin : W_X9_uncouple_61 1 t x ((N : Int) - 1) (N : Int) (shf A 43 (10 * t) p ((N : Int) - 1)) Q) : ∀ (k i : Nat), i + k = N → p < (i : Int) → W_X9_uncouple_61 (k + 1) t x ((i : Int) - 1) (i : Int) (shf A 43 (10 * t) p ((i : Int) - 1)) Q
  | 0, i, e, hi => by
    have e' : i = N := by omega
    subst e'
    exact fin
  | k + 1, i, e, hi => by
    have e1 : w32 (10 * t) = 10 * t := w32_id (by unfold rg; omega)
    have e2 : w32 (10 * t + (i : Int)) = 10 * t + (i : Int) := w32_id (by unfold rg; omega)
    have e3 : w32 (10 * t + ((i : Int) - 1)) = 10 * t + ((i : Int) - 1) := w32_id (by unfold rg; omega)
    have e4 : ui (shf A 43 (10 * t) p ((i : Int) - 1)) 43 (10 * t + ((i : Int) - 1)) (shf A 43 (10 * t) p ((i : Int) - 1) 43 (10 * t + (i : Int))) 43 (10 * t + (i : Int)) = A 43 (10 * t + (i : Int)) := (ui_j (by omega)).trans (shf_o (Or.inr (by omega)))
    refine ⟨hw.1, hw.2, br_F (by show ¬ A 44 t ≤ _; omega) ?_⟩
    rw [e1, e2, e3]
    refine ⟨by omega, by omega, by omega, by omega, by omega, by omega, bn_F (by rw [e4]; exact hx _ (by omega) (by omega) (by omega)) ?_⟩
    show W_X9_uncouple_61 (k + 1) t x (w32 ((i : Int) - 1 + 1)) (w32 ((i : Int) + 1)) (ui (shf A 43 (10 * t) p ((i : Int) - 1)) 43 (10 * t + ((i : Int) - 1)) (shf A 43 (10 * t) p ((i : Int) - 1) 43 (10 * t + (i : Int)))) Q
    rw [shf_s (by omega) (by omega), w32_up (by omega), show (i : Int) - 1 + 1 = ((i + 1 : Nat) : Int) - 1 by omega, w32_id (z := ((i + 1 : Nat) : Int) - 1) (by unfold rg; omega)]
    exact m_unc_go2 hw hN hN2 hp hx fin k (i + 1) (by omega) (by omega)
theorem m_unc_go1 {x t p : Int} {N : Nat} {Q : Int → Il → Prop} (hw : 0 ≤ t ∧ t < 6) (hN : A 44 t = (N : Int)) (hN2 : N ≤ 10) (hp : 0 ≤ p) (hpN : p < (N : Int)) (hpx : A 43 (10 * t + p) = x) (hx : ∀ j : Int, 0 ≤ j → j < (N : Int) → j ≠ p → A 43 (10 * t + j) ≠ x) (fin : W_X9_uncouple_61 1 t x ((N : Int) - 1) (N : Int) (shf A 43 (10 * t) p ((N : Int) - 1)) Q) : ∀ (k i : Nat), i + k = N → (i : Int) ≤ p → W_X9_uncouple_61 (k + 1) t x (i : Int) (i : Int) A Q
  | 0, i, e, hi => by omega
  | k + 1, i, e, hi => by
    have e1 : w32 (10 * t) = 10 * t := w32_id (by unfold rg; omega)
    have e2 : w32 (10 * t + (i : Int)) = 10 * t + (i : Int) := w32_id (by unfold rg; omega)
    refine ⟨hw.1, hw.2, br_F (by omega) ?_⟩
    rw [e1, e2, ui_id]
    refine ⟨by omega, by omega, by omega, by omega, by omega, by omega, ?_⟩
    by_cases c1 : (i : Int) = p
    · refine bn_T (by rw [c1]; exact hpx) ?_
      show W_X9_uncouple_61 (k + 1) t x (w32 ((i : Int) + 0)) (w32 ((i : Int) + 1)) A Q
      rw [w32_up (by omega), Int.add_zero, w32_id (z := (i : Int)) (by unfold rg; omega)]
      have w := m_unc_go2 hw hN hN2 hp hx fin k (i + 1) (by omega) (by omega)
      rw [show ((i + 1 : Nat) : Int) - 1 = p by omega, shf_0, ← c1] at w
      exact w
    · refine bn_F (hx _ (by omega) (by omega) c1) ?_
      show W_X9_uncouple_61 (k + 1) t x (w32 ((i : Int) + 1)) (w32 ((i : Int) + 1)) A Q
      rw [w32_up (by omega)]
      exact m_unc_go1 hw hN hN2 hp hpN hpx hx fin k (i + 1) (by omega) (by omega)
end Drop
