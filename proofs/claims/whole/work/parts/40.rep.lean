/-! the class's cells against the reference's rows, group by group -/
theorem br_T {p : Prop} {a b : Prop} (h : p) (k : a) : (p → a) ∧ (¬ p → b) := ⟨fun _ => k, fun n => absurd h n⟩
theorem br_F {p : Prop} {a b : Prop} (h : ¬ p) (k : b) : (p → a) ∧ (¬ p → b) := ⟨fun n => absurd n h, fun _ => k⟩
theorem bn_T {p : Prop} {a b : Prop} (h : p) (k : b) : (¬ p → a) ∧ (p → b) := ⟨fun n => absurd h n, fun _ => k⟩
theorem bn_F {p : Prop} {a b : Prop} (h : ¬ p) (k : a) : (¬ p → a) ∧ (p → b) := ⟨fun _ => k, fun n => absurd n h⟩
theorem u2_k {α : Type} {B : Nat → Nat → α} {k k' v v' : Nat} {z : α} (h : k' ≠ k) : u2 B k v z k' v' = B k' v' := if_neg (fun w => h w.1)
theorem u2_v {α : Type} {B : Nat → Nat → α} {k v v' : Nat} {z : α} (h : v' ≠ v) : u2 B k v z k v' = B k v' := if_neg (fun w => h w.2)
theorem u2_s {α : Type} {B : Nat → Nat → α} {k v : Nat} {z : α} : u2 B k v z k v = z := if_pos ⟨rfl, rfl⟩
theorem sc_s {A : Il} {k : Nat} {z j : Int} : sc A k z k j = z := if_pos rfl
theorem sc_k {A : Il} {k k' : Nat} {z j : Int} (h : k' ≠ k) : sc A k z k' j = A k' j := if_neg h
theorem ui_k {A : Il} {k k' : Nat} {i z j : Int} (h : k' ≠ k) : ui A k i z k' j = A k' j := if_neg (fun w => h w.1)
theorem ui_s {A : Il} {k : Nat} {i z : Int} : ui A k i z k i = z := if_pos ⟨rfl, rfl⟩
theorem ui_j {A : Il} {k : Nat} {i j z : Int} (h : j ≠ i) : ui A k i z k j = A k j := if_neg (fun w => h w.2)
/-- field k of the things from base on is row a of the reference, below n -/
def eqF (B : Fl) (A : Il) (k base a : Nat) (n : Int) : Prop := ∀ j : Int, 0 ≤ j → j < n → B k (base + j.toNat) = A a j
section EqF
variable {B : Fl} {A : Il} {k base a : Nat} {n : Int}
theorem eqF.oB {k' v : Nat} {z : Int} (hk : k' ≠ k) (h : eqF B A k base a n) : eqF (u2 B k' v z) A k base a n := fun j h0 h1 => (u2_k (fun w => hk w.symm)).trans (h j h0 h1)
theorem eqF.oN {k' v : Nat} {z : Int} (hv : v < base ∨ base + n.toNat ≤ v) (h : eqF B A k base a n) : eqF (u2 B k' v z) A k base a n := fun j h0 h1 => (if_neg (fun w => by
  have := w.2
  omega)).trans (h j h0 h1)
theorem eqF.oA {a' : Nat} {i z : Int} (ha : a' ≠ a) (h : eqF B A k base a n) : eqF B (ui A a' i z) k base a n := fun j h0 h1 => (h j h0 h1).trans (ui_k (fun w => ha w.symm)).symm
theorem eqF.oS {a' : Nat} {z : Int} (ha : a' ≠ a) (h : eqF B A k base a n) : eqF B (sc A a' z) k base a n := fun j h0 h1 => (h j h0 h1).trans (sc_k (fun w => ha w.symm)).symm
theorem eqF.set {i z : Int} (hi : 0 ≤ i) (h : eqF B A k base a n) : eqF (u2 B k (base + i.toNat) z) (ui A a i z) k base a n := fun j h0 h1 => by
  by_cases e : j = i
  · subst e
    rw [u2_s, ui_s]
  · rw [u2_v (by omega), ui_j e]
    exact h j h0 h1
end EqF
/-- the whole: clock, cash, debt, what was broken -/
def RepG (B : Fl) (A : Il) : Prop := B 912 0 = A 1 0 ∧ B 913 0 = A 2 0 ∧ B 914 0 = A 3 0 ∧ B 915 0 = A 4 0 ∧ (0 ≤ A 1 0 ∧ A 1 0 ≤ 20000) ∧ rg (A 2 0) ∧ 0 ≤ A 3 0 ∧ A 3 0 ≤ 50000
/-- blocks -/
def RepB (c : Nat → Nat) (B : Fl) (A : Il) : Prop := (A 6 0 = (c 8 : Int) ∧ B 2 8 = A 6 0 ∧ c 8 ≤ 16) ∧
  (∀ j : Int, 0 ≤ j → j < A 6 0 → B 200 (100 + j.toNat) = A 7 (2 * j) ∧ B 201 (100 + j.toNat) = A 7 (2 * j + 1) ∧ 0 ≤ A 7 (2 * j) ∧ A 7 (2 * j) < 8 ∧ 0 ≤ A 7 (2 * j + 1) ∧ A 7 (2 * j + 1) < 8 ∧ A 7 (2 * j) ≠ A 7 (2 * j + 1) ∧ 2 ≤ A 8 j ∧ A 8 j ≤ 60 ∧ 0 ≤ A 9 j ∧ A 9 j ≤ 3) ∧
  eqF B A 202 100 8 (A 6 0) ∧ eqF B A 203 100 9 (A 6 0) ∧ eqF B A 204 100 10 (A 6 0) ∧ eqF B A 205 100 13 (A 6 0) ∧ eqF B A 206 100 14 (A 6 0) ∧ eqF B A 207 100 15 (A 6 0) ∧ eqF B A 208 100 16 (A 6 0) ∧ eqF B A 209 100 11 (A 6 0) ∧ eqF B A 210 100 12 (A 6 0) ∧
  (∀ j : Int, 0 ≤ j → j < A 6 0 → (A 13 j = 0 ∨ A 13 j = 1) ∧ (A 14 j = 0 ∨ A 14 j = 1) ∧ (A 12 j = 0 ∨ A 12 j = 1) ∧ 0 ≤ A 15 j ∧ A 15 j ≤ 1440 ∧ A 15 j ≤ A 16 j ∧ A 16 j ≤ 1440)
theorem kd8 {c : Nat → Nat} {v : Nat} (h0 : 100 ≤ v) (h1 : v < 100 + c 8) (h2 : c 8 ≤ 16) : kd c v = 2 := by
  unfold kd
  repeat' (first | omega | (refine ite_ez (fun _ => ?_) (fun _ => ?_)))
theorem m_in {x lo hi : Int} {A : Il} {Q : Int → Prop} (h : Q (if lo ≤ x ∧ x ≤ hi then 1 else 0)) : W_X9_in x lo hi A Q := by
  unfold W_X9_in
  refine ⟨fun c1 => ?_, fun c1 => ⟨fun c2 => ?_, fun c2 => ?_⟩⟩
  · rw [if_neg (by omega)] at h; exact h
  · rw [if_neg (by omega)] at h; exact h
  · rw [if_pos (by omega)] at h; exact h
theorem m_in1 {x lo hi : Int} {A : Il} {Q : Int → Prop} (hx : lo ≤ x ∧ x ≤ hi) (h : Q 1) : W_X9_in x lo hi A Q := m_in (by rw [if_pos hx]; exact h)
theorem m_in0 {x lo hi : Int} {A : Il} {Q : Int → Prop} (hx : ¬ (lo ≤ x ∧ x ≤ hi)) (h : Q 0) : W_X9_in x lo hi A Q := m_in (by rw [if_neg hx]; exact h)
theorem m_isBlock1 {x : Int} {A : Il} {Q : Int → Prop} (h0 : 0 ≤ A 6 0 ∧ A 6 0 ≤ 16) (hx : 0 ≤ x ∧ x < A 6 0) (h : Q 1) : W_X9_isBlock x A Q := by
  unfold W_X9_isBlock
  rw [w32_id (by unfold rg; omega)]
  exact m_in1 (by omega) ⟨Or.inr rfl, h⟩
theorem m_isBlock0 {x : Int} {A : Il} {Q : Int → Prop} (h0 : 0 ≤ A 6 0 ∧ A 6 0 ≤ 16) (hx : ¬ (0 ≤ x ∧ x < A 6 0)) (h : Q 0) : W_X9_isBlock x A Q := by
  unfold W_X9_isBlock
  rw [w32_id (by unfold rg; omega)]
  exact m_in0 (by omega) ⟨Or.inl rfl, h⟩
section Req
variable {c LN : Nat → Nat} {B : Fl} {E : El} {QX : String → Fl → El → Prop}
theorem q_range1 {x lo hi : Int} {Q : Prop} (hx : lo ≤ x ∧ x ≤ hi) (h : Q) : W_X8_requireRange c LN x lo hi B E Q QX := by
  unfold W_X8_requireRange W_X8_requireRange_15 W_X8_requireArgument
  exact br_F (by omega) (br_F (by omega) (bn_F (by decide) h))
theorem q_range0 {x lo hi : Int} {Q : Prop} (hx : ¬ (lo ≤ x ∧ x ≤ hi)) (h : QX "java/lang/IllegalArgumentException" B E) : W_X8_requireRange c LN x lo hi B E Q QX := by
  unfold W_X8_requireRange W_X8_requireRange_14 W_X8_requireRange_15 W_X8_requireArgument
  exact ⟨fun _ => bn_T rfl h, fun _ => ⟨fun _ => bn_T rfl h, fun _ => by omega⟩⟩
theorem q_state1 {Q : Prop} (h : Q) : W_X8_requireState c LN 1 B E Q QX := bn_F (by decide) h
theorem q_state0 {Q : Prop} (h : QX "java/lang/IllegalStateException" B E) : W_X8_requireState c LN 0 B E Q QX := bn_T rfl h
theorem q_index1 {x n : Int} {Q : Prop} (hx : 0 ≤ x ∧ x < n) (h : Q) : W_X8_requireIndex c LN x n B E Q QX := br_F (by omega) (br_T hx.2 h)
theorem q_index0 {x n : Int} {Q : Prop} (hx : ¬ (0 ≤ x ∧ x < n)) (h : QX "java/lang/IndexOutOfBoundsException" B E) : W_X8_requireIndex c LN x n B E Q QX := ⟨fun _ => h, fun _ => ⟨fun _ => by omega, fun _ => h⟩⟩
theorem q_blockOf1 {A : Il} {x : Int} {Q : Nat → Prop} (hB : RepB c B A) (hx : 0 ≤ x ∧ x < A 6 0) (h : Q (100 + x.toNat)) : W_X8_blockOf c LN 0 x B E Q QX := by
  obtain ⟨⟨b1, b2, b3⟩, -⟩ := hB
  refine ⟨rfl, rfl, rfl, ?_⟩
  dsimp only
  refine q_index1 (by rw [b2]; exact hx) ⟨rfl, hx.1, by rw [b2]; exact hx.2, by omega, ?_⟩
  exact ⟨kd8 (by show 100 ≤ 100 + _; omega) (by show 100 + _ < _; omega) b3, h⟩
theorem q_blockOf0 {A : Il} {x : Int} {Q : Nat → Prop} (hB : RepB c B A) (hx : ¬ (0 ≤ x ∧ x < A 6 0)) (h : QX "java/lang/IndexOutOfBoundsException" B E) : W_X8_blockOf c LN 0 x B E Q QX := by
  obtain ⟨⟨b1, b2, b3⟩, -⟩ := hB
  refine ⟨rfl, rfl, rfl, ?_⟩
  dsimp only
  exact q_index0 (by rw [b2]; exact hx) h
end Req
theorem RepG.fr {B B' : Fl} {A A' : Il} (h : RepG B A) (hB : ∀ k v, 912 ≤ k → k < 916 → B' k v = B k v) (hA : ∀ k j, 1 ≤ k → k < 5 → A' k j = A k j) : RepG B' A' := by
  unfold RepG
  rw [hB 912 0 (by decide) (by decide), hB 913 0 (by decide) (by decide), hB 914 0 (by decide) (by decide), hB 915 0 (by decide) (by decide), hA 1 0 (by decide) (by decide), hA 2 0 (by decide) (by decide), hA 3 0 (by decide) (by decide), hA 4 0 (by decide) (by decide)]
  exact h
theorem sim_fail {c LN : Nat → Nat} {B : Fl} {E : El} {A : Il} {b f : Int} (hG : RepG B A) (hB : RepB c B A) (hf : f = 0 ∨ f = 1) : ∃ (ans : Int) (A' : Il), (∀ Q, Q ans A' → W_X9_fail b f A Q) ∧ W_X8_fail c LN 0 b f B E (fun z B' E' => A' 0 0 = 0 ∧ z = ans ∧ RepG B' A' ∧ RepB c B' A' ∧ E' = E) (fun X B' E' => (X = "java/lang/IndexOutOfBoundsException" ∧ A' 0 0 = 1) ∧ RepG B' A' ∧ RepB c B' A' ∧ E' = E) := by
  obtain ⟨⟨b1, b2, b3⟩, b4, b5, b6, b7, b8, b9, b10, b11, b12, b13, b14⟩ := id hB
  have h6 : 0 ≤ A 6 0 ∧ A 6 0 ≤ 16 := by omega
  by_cases hb : 0 ≤ b ∧ b < A 6 0
  · obtain ⟨g1, g2, g3⟩ := b14 b hb.1 hb.2
    refine ⟨A 13 b, ui (ui (sc A 0 0) 13 b f) 14 b 0, fun Q hQ => ?_, ?_⟩
    · refine m_isBlock1 h6 hb (br_F (by decide) ?_)
      exact br_T (Int.le_refl _) ⟨hb.1, by omega, hb.1, by omega, hf, hb.1, by omega, g1, hQ⟩
    · refine ⟨rfl, q_blockOf1 hB hb ⟨kd8 (by omega) (by omega) b3, hf, by rw [b8 b hb.1 hb.2]; exact g1, rfl, b8 b hb.1 hb.2, ?_, ?_, rfl⟩⟩
      · exact hG.fr (fun k v h0 h1 => (u2_k (by omega)).trans (u2_k (by omega))) (fun k j h0 h1 => (ui_k (by omega)).trans ((ui_k (by omega)).trans (sc_k (by omega))))
      · refine ⟨⟨b1, (u2_k (by decide)).trans ((u2_k (by decide)).trans b2), b3⟩, ?_, ?_, ?_, ?_, ?_, ?_, ?_, ?_, ?_, ?_, fun j j0 j1 => ?_⟩
        · exact fun j j0 j1 => b4 j j0 j1
        all_goals first
          | (refine eqF.oB (by decide) (eqF.oB (by decide) (eqF.oA (by decide) (eqF.oA (by decide) (eqF.oS (by decide) ?_)))); assumption)
          | (refine eqF.oB (by decide) (eqF.oA (by decide) (eqF.set hb.1 (eqF.oS (by decide) ?_))); assumption)
          | (refine eqF.set hb.1 (eqF.oB (by decide) (eqF.oA (by decide) (eqF.oS (by decide) ?_))); assumption)
          | skip
        obtain ⟨k1, k2, k3⟩ := b14 j j0 j1
        refine ⟨?_, ?_, k3⟩
        · show ui (ui (sc A 0 0) 13 b f) 14 b 0 13 j = 0 ∨ ui (ui (sc A 0 0) 13 b f) 14 b 0 13 j = 1
          rw [ui_k (by decide)]
          by_cases e : j = b
          · subst e
            rw [ui_s]
            exact hf
          · rw [ui_j e]
            exact k1
        · show ui (ui (sc A 0 0) 13 b f) 14 b 0 14 j = 0 ∨ ui (ui (sc A 0 0) 13 b f) 14 b 0 14 j = 1
          by_cases e : j = b
          · subst e
            rw [ui_s]
            exact Or.inl rfl
          · rw [ui_j e]
            exact k2
  · refine ⟨0, sc A 0 1, fun Q hQ => ?_, ?_⟩
    · refine m_isBlock0 h6 hb (br_T rfl ?_)
      exact br_F (by show ¬ (1 : Int) ≤ 0; decide) hQ
    · refine ⟨rfl, q_blockOf0 hB hb ⟨⟨rfl, rfl⟩, ?_, ?_, rfl⟩⟩
      · exact hG.fr (fun k v h0 h1 => rfl) (fun k j h0 h1 => sc_k (by omega))
      · exact hB
