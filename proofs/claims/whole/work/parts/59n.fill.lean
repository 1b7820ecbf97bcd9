/-! the start: rows filled -/
theorem fill_5 {r : Nat} {z m : Int} {S : Shp} {F : Fl} {Q : Il → Prop} (hK : sK S r = 20) (hm : m = (sN S r : Int)) (hm2 : m ≤ 65536) : ∀ (d : Nat) (x : Int) (I : Il), 0 ≤ x → x + (d : Int) = m → (∀ I' : Il, (∀ b j, b ≠ r → I' b j = I b j) → (∀ j, x ≤ j → j < m → I' r j = z) → (∀ j, j < x → I' r j = I r j) → Q I') → V_J7_fill_53178_5 (d + 1) r z x m S F I Q
  | 0, x, I, h0, h1, hQ => by
    unfold V_J7_fill_53178_5
    exact ⟨fun _ => hQ I (fun _ _ _ => rfl) (fun j j0 j1 => by omega) (fun _ _ => rfl), fun c => absurd (by omega) c⟩
  | d + 1, x, I, h0, h1, hQ => by
    unfold V_J7_fill_53178_5
    refine ⟨fun c => absurd c (by omega), fun c => ⟨hK, h0, by omega, ?_⟩⟩
    have e : w32 (x + 1) = x + 1 := w32_id (by unfold rg; omega)
    rw [e]
    refine fill_5 hK hm hm2 d (x + 1) _ (by omega) (by omega) (fun I' i1 i2 i3 => hQ I' (fun b j h => (i1 b j h).trans (if_neg (fun w => h w.1))) (fun j j0 j1 => ?_) (fun j j0 => (i3 j (by omega)).trans (if_neg (fun w => by have := w.2; omega))))
    by_cases ej : j = x
    · rw [ej, i3 x (by omega)]
      exact if_pos ⟨rfl, rfl⟩
    · exact i2 j (by omega) j1
theorem fill_T {r m : Nat} {z : Int} {S : Shp} {F : Fl} {I : Il} {Q : Il → Prop} (hK : sK S r = 20) (hm : sN S r = m) (hm2 : m ≤ 65536) (hQ : ∀ I' : Il, (∀ b j, b ≠ r → I' b j = I b j) → (∀ j : Int, 0 ≤ j → j < (m : Int) → I' r j = z) → Q I') : V_J7_fill_53178 r z S F I Q :=
  ⟨hK, by omega, m + 1, fill_5 hK rfl (by omega) m 0 I (Int.le_refl _) (by omega) (fun I' i1 i2 _ => hQ I' i1 (fun j j0 j1 => i2 j j0 (by omega)))⟩
