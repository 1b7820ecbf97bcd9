/-! the start: rows filled -/
theorem fill_5 {r : Nat} {z m : Int} {S : Shp} {F : Fl} {Q : Il → Prop} (hK : sK S r = 20) (hm : m = (sN S r : Int)) (hm2 : m ≤ 65536) : ∀ (d : Nat) (x : Int) (I : Il), 0 ≤ x → x + (d : Int) = m → (∀ I' : Il, (∀ b j, b ≠ r → I' b j = I b j) → (∀ j, x ≤ j → j < m → I' r j = z) → (∀ j, j < x → I' r j = I r j) → Q I') → V_J7_fill_53178_5 (d + 1) r z x m S F I Q
  | 0, x, I, h0, h1, hQ => by
    unfold V_J7_fill_53178_5
    exact ⟨fun _ => hQ I (fun _ _ _ => rfl) (fun j j0 j1 => by omega) (fun _ _ => rfl), fun c => absurd (by omega) c⟩
  | d + 1, x, I, h0, h1, hQ => by
    unfold V_J7_fill_53178_5
    refine ⟨fun c => absurd c (by omega), fun c => ⟨hK, h0, by omega, ?_⟩⟩
    have e : w32 (x + 1) = x + 1 := w32_id (by unfold rg; omega)
    rw [e]
    refine fill_5 hK hm hm2 d (x + 1) _ (by omega) (by omega) (fun I' i1 i2 i3 => hQ I' (fun b j h => (i1 b j h).trans (if_neg (fun w => h w.1))) (fun j j0 j1 => ?_) (fun j j0 => (i3 j (by omega)).trans (if_neg (fun w => by have := w.2; omega))))
    by_cases ej : j = x
    · rw [ej, i3 x (by omega)]
      exact if_pos ⟨rfl, rfl⟩
    · exact i2 j (by omega) j1
theorem fill_T {r m : Nat} {z : Int} {S : Shp} {F : Fl} {I : Il} {Q : Il → Prop} (hK : sK S r = 20) (hm : sN S r = m) (hm2 : m ≤ 65536) (hQ : ∀ I' : Il, (∀ b j, b ≠ r → I' b j = I b j) → (∀ j : Int, 0 ≤ j → j < (m : Int) → I' r j = z) → Q I') : V_J7_fill_53178 r z S F I Q :=
  ⟨hK, by omega, m + 1, fill_5 hK rfl (by omega) m 0 I (Int.le_refl _) (by omega) (fun I' i1 i2 _ => hQ I' i1 (fun j j0 j1 => i2 j j0 (by omega)))⟩
/-- a Row made: itself, its items -/
theorem row_T {n q m : Nat} {l K N : Nat → Nat} {S : Shp} {F : Fl} {I : Il} {z : Int} {Q : Shp → Fl → Il → Prop} (h : St n l K N S) (hq : sK S q = 99) (h6 : K n = 6) (h20 : K (n + 1) = 20) (hN : N (n + 1) = m) (hz : z = (m : Int)) (hm : 1 ≤ m ∧ m ≤ 64) (ha : 2 ≤ sa S) (hb : 66 ≤ sb S)
    (hQ : ∀ q3 : Nat, sK (newO S q 6) q3 = 99 → St (n + 2) (lup (lup l n q) (n + 1) q3) K N (newA (newO S q 6) q3 20 m) → Q (setR (newA (newO S q 6) q3 20 m) 600 q (some q3)) (u2 (zF F q) 601 q 0) (zI I q3)) : V_X5_init q z (newO S q 6) (zF F q) I Q := by
  have h1 := h.obj hq h6 (by decide)
  unfold V_X5_init
  refine ⟨va_up_self _ _ _, fun c => absurd c (by omega), fun _ => ⟨m, hz, by omega, by show 1 ≤ sa S - 1; omega, by show m ≤ sb S - 2; omega, fun q3 hq3 => ⟨?_, hQ q3 hq3 (h1.arr hq3 h20 (by decide) hN)⟩⟩⟩
  refine (va_up_ne _ _ (fun e => ?_)).trans (va_up_self _ _ _)
  rw [← e] at hq3
  have : (6 : Nat) = 99 := (va_up_self _ _ _).symm.trans hq3
  cases this
