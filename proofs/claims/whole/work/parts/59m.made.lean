/-! the start: what is made, by the order of making -/
def lup (l : Nat → Nat) (n q : Nat) : Nat → Nat := fun i => if i = n then q else l i
theorem lup_s {l : Nat → Nat} {n q : Nat} : lup l n q n = q := if_pos rfl
theorem lup_n {l : Nat → Nat} {n q i : Nat} (h : i ≠ n) : lup l n q i = l i := if_neg h
/-- n made: at addresses l, of kinds K, the rows of lengths N -/
def St (n : Nat) (l K N : Nat → Nat) (S : Shp) : Prop := (∀ i j, i < n → j < n → l i = l j → i = j) ∧ ∀ i, i < n → sK S (l i) = K i ∧ K i ≠ 99 ∧ (20 ≤ K i → sN S (l i) = N i)
section Made
variable {n c m q f i : Nat} {l K N : Nat → Nat} {S : Shp} {o : Option Nat} {j : Int}
theorem St.ne (h : St n l K N S) (hq : sK S q = 99) (hi : i < n) : l i ≠ q := fun e => by
  have := h.2 i hi
  rw [e, hq] at this
  exact this.2.1 this.1.symm
theorem St.r (h : St n l K N S) : St n l K N (setR S f q o) := h
theorem St.g (h : St n l K N S) : St n l K N (setG S q j o) := h
theorem St.inj (h : St n l K N S) (hq : sK S q = 99) : ∀ i j, i < n + 1 → j < n + 1 → lup l n q i = lup l n q j → i = j := fun i j hi hj => by
  by_cases ei : i = n
  · by_cases ej : j = n
    · exact fun _ => ei.trans ej.symm
    · rw [ei, lup_s, lup_n ej]
      exact fun w => absurd w.symm (h.ne hq (by omega))
  · by_cases ej : j = n
    · rw [ej, lup_s, lup_n ei]
      exact fun w => absurd w (h.ne hq (by omega))
    · rw [lup_n ei, lup_n ej]
      exact h.1 i j (by omega) (by omega)
theorem St.obj (h : St n l K N S) (hq : sK S q = 99) (hk : K n = c) (hc : c < 20) : St (n + 1) (lup l n q) K N (newO S q c) := ⟨h.inj hq, fun i hi => by
  by_cases ei : i = n
  · rw [ei, lup_s, hk]
    exact ⟨va_up_self _ _ _, by omega, fun w => absurd w (by omega)⟩
  · rw [lup_n ei]
    obtain ⟨h1, h2, h3⟩ := h.2 i (by omega)
    exact ⟨(va_up_ne _ _ (h.ne hq (by omega))).trans h1, h2, h3⟩⟩
theorem St.arr (h : St n l K N S) (hq : sK S q = 99) (hk : K n = c) (hc : c ≠ 99) (hm : N n = m) : St (n + 1) (lup l n q) K N (newA S q c m) := ⟨h.inj hq, fun i hi => by
  by_cases ei : i = n
  · rw [ei, lup_s, hk, hm]
    exact ⟨va_up_self _ _ _, hc, fun _ => va_up_self _ _ _⟩
  · rw [lup_n ei]
    obtain ⟨h1, h2, h3⟩ := h.2 i (by omega)
    exact ⟨(va_up_ne _ _ (h.ne hq (by omega))).trans h1, h2, fun w => (va_up_ne _ _ (h.ne hq (by omega))).trans (h3 w)⟩⟩
end Made
