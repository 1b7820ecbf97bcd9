/-! Row.append: the row may grow; what stood there stays -/
def W_X5_append (c : Nat → Nat) (x0 : Nat) (x1 : Int) (LN : Nat → Nat) (B : Fl) (E : El) (Q : (Nat → Nat) → Fl → El → Prop) : Prop :=
  kd c x0 = 6 ∧ 0 ≤ B 601 x0 ∧ B 601 x0 ≤ (LN x0 : Int) ∧ (B 601 x0 < (LN x0 : Int) ∨ (1 ≤ LN x0 ∧ ((160 ≤ x0 ∧ x0 < 180 ∧ LN x0 ≤ 512) ∨ (30 ≤ x0 ∧ x0 < 38 ∧ LN x0 ≤ 32)))) ∧
  ∀ (LN' : Nat → Nat) (E' : El), (∀ v, v ≠ x0 → LN' v = LN v) → (LN' x0 = LN x0 ∨ (LN' x0 = 2 * LN x0 ∧ (LN x0 : Int) ≤ B 601 x0)) → B 601 x0 < (LN' x0 : Int) → (∀ a, a ≠ .inr x0 → ∀ j, E' a j = E a j) → (∀ j, 0 ≤ j → j < B 601 x0 → E' (.inr x0) j = E (.inr x0) j) → E' (.inr x0) (B 601 x0) = x1 → Q LN' (u2 B 601 x0 (B 601 x0 + 1)) E'
theorem ap_41 {Y : Yt} {F0 : Fl} {I0 : Il} {it LN : Nat → Nat} {S : Shp} {F : Fl} {I : Il} {x0 : Nat} {x1 : Int} {Q : Shp → Fl → Il → Prop} {Qw : (Nat → Nat) → Fl → El → Prop} (hC : Cg Y it LN S) (hF : Fc Y F0 I0 F I) (hQ : ∀ (it' LN' : Nat → Nat) (S' : Shp) (F' : Fl) (I' : Il), Cg Y it' LN' S' → Fc Y F0 I0 F' I' → Qw LN' (Bc Y F') (Ec Y it' I') → Q S' F' I')
    (hk : kd (yc Y) x0 = 6) (h0 : 0 ≤ F 601 (yg Y x0)) (h1 : F 601 (yg Y x0) < (LN x0 : Int)) (h : Qw LN (u2 (Bc Y F) 601 x0 (F 601 (yg Y x0) + 1)) (ue (Ec Y it I) (.inr x0) (F 601 (yg Y x0)) x1)) : V_X5_append_41 (yg Y x0) x1 S F I Q := by
  obtain ⟨f1, f2, f3, f4⟩ := Cg.itm hC hk
  unfold V_X5_append_41
  refine ⟨Cg.k hC hk (by decide), fun c => absurd h0 (by omega), fun _ => ⟨it x0, f1, f2, by rw [f3]; omega, ?_⟩⟩
  rw [f3]
  refine ⟨fun c => absurd h1 (by omega), fun _ => ⟨h0, h1, ?_⟩⟩
  have e : w32 (F 601 (yg Y x0) + 1) = F 601 (yg Y x0) + 1 := w32_id (by unfold rg; omega)
  rw [e]
  rw [← Bc_f (F := F) hC hk (by decide), ← Ec_t (I := I) hC hk] at h
  exact hQ _ _ _ _ _ hC (Fc.f (k := 601) (by decide) (Fc.itm hC hk hF)) h
theorem T_X5_append {Y : Yt} {F0 : Fl} {I0 : Il} {it LN : Nat → Nat} {S : Shp} {F : Fl} {I : Il} {x0 : Nat} {x1 : Int} {Q : Shp → Fl → Il → Prop} {Qw : (Nat → Nat) → Fl → El → Prop} (hC : Cg Y it LN S) (hF : Fc Y F0 I0 F I) (hQ : ∀ (it' LN' : Nat → Nat) (S' : Shp) (F' : Fl) (I' : Il), Cg Y it' LN' S' → Fc Y F0 I0 F' I' → Qw LN' (Bc Y F') (Ec Y it' I') → Q S' F' I') (h : W_X5_append (yc Y) x0 x1 LN (Bc Y F) (Ec Y it I) Qw) : V_X5_append (yg Y x0) x1 S F I Q := by
  sorry
