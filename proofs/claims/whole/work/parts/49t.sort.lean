/-! sort -/
section Srts
variable {c LN : Nat → Nat} {B B' : Fl} {E E' : El} {A A' : Il}
/-- the goal of a car -/
def gl (A : Il) (x : Int) : Int := if A 33 x = -1 then A 30 x else A 56 (A 33 x)
theorem m_goal {x : Int} {Q : Int → Prop} (hx : 0 ≤ x ∧ x < 20) (h33 : A 33 x = -1 ∨ (0 ≤ A 33 x ∧ A 33 x < 40)) (h : Q (gl A x)) : W_X9_goal x A Q := by
  unfold gl at h
  refine ⟨hx.1, hx.2, fun c1 => ?_, fun c1 => ?_⟩
  · rw [if_neg c1] at h
    exact ⟨hx.1, hx.2, by omega, by omega, h⟩
  · rw [if_pos c1] at h
    exact ⟨hx.1, hx.2, h⟩
theorem q_goal {x : Int} {Q : Int → Prop} {QX : String → Fl → El → Prop} (hK : RepK c B A) (hL : RepL c B A) (hx : 0 ≤ x ∧ x < A 29 0) (h : Q (gl A x)) : W_X8_goalOf c LN 0 x B E Q QX := by
  obtain ⟨⟨k1, k2, k3⟩, k4, k5, k6, k7, k8⟩ := id hK
  have w8 := k8 x hx.1 hx.2
  have l40 := hL.1
  unfold gl at h
  refine ⟨rfl, q_carOf1 hK hx ⟨kd11 (by omega) (by omega) k3, ?_⟩⟩
  rw [k7 x hx.1 hx.2, k4 x hx.1 hx.2]
  refine ⟨fun c1 => ?_, fun c1 => ?_⟩
  · rw [if_neg c1] at h
    refine q_bill1 hL ⟨by omega, by omega⟩ ⟨kd12 (by omega) (by omega) l40.2.2, ?_⟩
    rw [hL.2.2.1 (A 33 x) (by omega) (by omega)]
    exact h
  · rw [if_pos c1] at h
    exact h
theorem gl_rg {x : Int} (hK : RepK c B A) (hL : RepL c B A) (hx : 0 ≤ x ∧ x < A 29 0) : 0 ≤ gl A x ∧ gl A x < 8 := by
  have w8 := hK.2.2.2.2.2 x hx.1 hx.2
  unfold gl
  split
  · omega
  · have := hL.2.2.2.2.2.1 (A 33 x) (by omega) (by omega)
    omega
/-- the yard's cars -/
def fy (A : Il) (s k : Int) : Int := A 34 (20 * s + k)
abbrev Srt : Type := Nat × (Int → Int)
def stp (q : Srt) (x : Int) : Srt := (q.1 + 1, fun j => if j = (q.1 : Int) then x else q.2 j)
/-- the row for sorting behind the first n cars, those of goal g -/
def srk (A : Il) (s g : Int) (p : Srt) : Nat → Srt
  | 0 => p
  | n + 1 => if gl A (fy A s (n : Int)) = g then stp (srk A s g p n) (fy A s (n : Int)) else srk A s g p n
def srg (A : Il) (s : Int) (N : Nat) : Nat → Srt
  | 0 => (0, fun j => A 64 j)
  | g + 1 => srk A s (g : Int) (srg A s N g) N
def ceq (A : Il) (s g : Int) : Nat → Nat
  | 0 => 0
  | n + 1 => ceq A s g n + if gl A (fy A s (n : Int)) = g then 1 else 0
def clt (A : Il) (s g : Int) : Nat → Nat
  | 0 => 0
  | n + 1 => clt A s g n + if gl A (fy A s (n : Int)) < g then 1 else 0
theorem clt_s {s g : Int} : ∀ n, clt A s (g + 1) n = clt A s g n + ceq A s g n
  | 0 => rfl
  | n + 1 => by
    show clt A s (g + 1) n + _ = clt A s g n + _ + (ceq A s g n + _)
    rw [clt_s n]
    by_cases c1 : gl A (fy A s (n : Int)) = g
    · rw [if_pos (by omega), if_neg (by omega), if_pos c1]
      omega
    · by_cases c2 : gl A (fy A s (n : Int)) < g
      · rw [if_pos (by omega), if_pos c2, if_neg c1]
        omega
      · rw [if_neg (by omega), if_neg c2, if_neg c1]
        omega
theorem clt_le {s g : Int} : ∀ n, clt A s g n ≤ n
  | 0 => Nat.le_refl _
  | n + 1 => by
    have : clt A s g n ≤ n := clt_le n
    show clt A s g n + _ ≤ n + 1
    split <;> omega
theorem clt_0 {s : Int} : ∀ n : Nat, (∀ k : Nat, k < n → 0 ≤ gl A (fy A s (k : Int))) → clt A s 0 n = 0
  | 0, _ => rfl
  | n + 1, h => by
    show clt A s 0 n + _ = 0
    rw [clt_0 n (fun k hk => h k (by omega)), if_neg (by have := h n (by omega); omega)]
theorem clt_8 {s : Int} : ∀ n : Nat, (∀ k : Nat, k < n → gl A (fy A s (k : Int)) < 8) → clt A s 8 n = n
  | 0, _ => rfl
  | n + 1, h => by
    show clt A s 8 n + _ = n + 1
    rw [clt_8 n (fun k hk => h k (by omega)), if_pos (h n (by omega))]
theorem ceq_mono {s g : Int} (n : Nat) : ∀ d : Nat, ceq A s g n ≤ ceq A s g (n + d)
  | 0 => Nat.le_refl _
  | d + 1 => by
    have : ceq A s g n ≤ ceq A s g (n + d) := ceq_mono n d
    show _ ≤ ceq A s g (n + d) + _
    omega
theorem srk_1 {s g : Int} {p : Srt} : ∀ n, (srk A s g p n).1 = p.1 + ceq A s g n
  | 0 => rfl
  | n + 1 => by
    show (if gl A (fy A s (n : Int)) = g then stp (srk A s g p n) (fy A s (n : Int)) else srk A s g p n).1 = p.1 + (ceq A s g n + if gl A (fy A s (n : Int)) = g then 1 else 0)
    by_cases c1 : gl A (fy A s (n : Int)) = g
    · rw [if_pos c1, if_pos c1]
      show (srk A s g p n).1 + 1 = _
      rw [srk_1 n]
      omega
    · rw [if_neg c1, if_neg c1, srk_1 n]
      omega
theorem srk_T {s g : Int} {p : Srt} {n : Nat} (h : gl A (fy A s (n : Int)) = g) : srk A s g p (n + 1) = stp (srk A s g p n) (fy A s (n : Int)) := if_pos h
theorem srk_F {s g : Int} {p : Srt} {n : Nat} (h : ¬ gl A (fy A s (n : Int)) = g) : srk A s g p (n + 1) = srk A s g p n := if_neg h
theorem srg_1 {s : Int} {N : Nat} (h : ∀ k : Nat, k < N → 0 ≤ gl A (fy A s (k : Int))) : ∀ g : Nat, (srg A s N g).1 = clt A s (g : Int) N
  | 0 => (clt_0 N h).symm
  | g + 1 => by
    show (srk A s (g : Int) (srg A s N g) N).1 = _
    rw [srk_1, srg_1 h g, show ((g + 1 : Nat) : Int) = (g : Int) + 1 by omega, clt_s]
/-- what stands in the row: the cars at the places P, each once -/
def Inr (A : Il) (s : Int) (N : Nat) (q : Srt) (P : Int → Prop) : Prop := (∀ i : Int, 0 ≤ i → i < (q.1 : Int) → ∃ k : Int, 0 ≤ k ∧ k < (N : Int) ∧ P k ∧ q.2 i = fy A s k) ∧ (∀ k : Int, 0 ≤ k → k < (N : Int) → P k → ∃ i : Int, 0 ≤ i ∧ i < (q.1 : Int) ∧ q.2 i = fy A s k) ∧ ∀ i j : Int, 0 ≤ i → i < (q.1 : Int) → 0 ≤ j → j < (q.1 : Int) → q.2 i = q.2 j → i = j
theorem Inr.p {s : Int} {N : Nat} {q : Srt} {P P' : Int → Prop} (h : Inr A s N q P) (hP : ∀ k, 0 ≤ k → k < (N : Int) → (P' k ↔ P k)) : Inr A s N q P' := by
  obtain ⟨h1, h2, h3⟩ := h
  refine ⟨fun i i0 i1 => ?_, fun k k0 k1 w => h2 k k0 k1 ((hP k k0 k1).1 w), h3⟩
  obtain ⟨k, k0, k1, k2, k3⟩ := h1 i i0 i1
  exact ⟨k, k0, k1, (hP k k0 k1).2 k2, k3⟩
theorem Inr.st {s : Int} {N n : Nat} {q : Srt} {P : Int → Prop} (h : Inr A s N q P) (hn : n < N) (hP : ¬ P (n : Int)) (inj : ∀ i j : Int, 0 ≤ i → i < (N : Int) → 0 ≤ j → j < (N : Int) → fy A s i = fy A s j → i = j) : Inr A s N (stp q (fy A s (n : Int))) (fun k => P k ∨ k = (n : Int)) := by
  obtain ⟨h1, h2, h3⟩ := h
  have old : ∀ i : Int, i < (q.1 : Int) → (stp q (fy A s (n : Int))).2 i = q.2 i := fun i hi => if_neg (by omega)
  have new : (stp q (fy A s (n : Int))).2 (q.1 : Int) = fy A s (n : Int) := if_pos rfl
  have c1 : (((stp q (fy A s (n : Int))).1 : Nat) : Int) = (q.1 : Int) + 1 := by
    show ((q.1 + 1 : Nat) : Int) = _
    omega
  unfold Inr
  rw [c1]
  refine ⟨fun i i0 i1 => ?_, fun k k0 k1 w => ?_, fun i j i0 i1 j0 j1 e => ?_⟩
  · by_cases e : i = (q.1 : Int)
    · rw [e, new]
      exact ⟨(n : Int), by omega, by omega, Or.inr rfl, rfl⟩
    · rw [old i (by omega)]
      obtain ⟨k, k0, k1, k2, k3⟩ := h1 i i0 (by omega)
      exact ⟨k, k0, k1, Or.inl k2, k3⟩
  · rcases w with w | w
    · obtain ⟨i, i0, i1, i2⟩ := h2 k k0 k1 w
      exact ⟨i, i0, by omega, (old i i1).trans i2⟩
    · rw [w]
      exact ⟨(q.1 : Int), by omega, by omega, new⟩
  · by_cases ei : i = (q.1 : Int)
    · by_cases ej : j = (q.1 : Int)
      · omega
      · rw [ei, new, old j (by omega)] at e
        obtain ⟨k, k0, k1, k2, k3⟩ := h1 j j0 (by omega)
        have := inj (n : Int) k (by omega) (by omega) k0 k1 (e.trans k3)
        rw [← this] at k2
        exact absurd k2 hP
    · by_cases ej : j = (q.1 : Int)
      · rw [ej, new, old i (by omega)] at e
        obtain ⟨k, k0, k1, k2, k3⟩ := h1 i i0 (by omega)
        have := inj (n : Int) k (by omega) (by omega) k0 k1 (e.symm.trans k3)
        rw [← this] at k2
        exact absurd k2 hP
      · rw [old i (by omega), old j (by omega)] at e
        exact h3 i j i0 (by omega) j0 (by omega) e
theorem srk_I {s g : Int} {N : Nat} {p : Srt} (inj : ∀ i j : Int, 0 ≤ i → i < (N : Int) → 0 ≤ j → j < (N : Int) → fy A s i = fy A s j → i = j) (h : Inr A s N p (fun k => gl A (fy A s k) < g)) : ∀ n : Nat, n ≤ N → Inr A s N (srk A s g p n) (fun k => gl A (fy A s k) < g ∨ (gl A (fy A s k) = g ∧ k < (n : Int)))
  | 0, _ => h.p (fun k k0 k1 => ⟨fun w => w.elim id (fun w2 => by omega), fun w => Or.inl w⟩)
  | n + 1, hn => by
    have ih := srk_I inj h n (by omega)
    by_cases c1 : gl A (fy A s (n : Int)) = g
    · rw [srk_T c1]
      refine (ih.st (n := n) (by omega) (fun w => by omega) inj).p (fun k k0 k1 => ?_)
      by_cases e : k = (n : Int)
      · rw [e]
        exact ⟨fun _ => Or.inr rfl, fun _ => Or.inr ⟨c1, by omega⟩⟩
      · exact ⟨fun w => Or.inl (w.elim Or.inl (fun w2 => Or.inr ⟨w2.1, by omega⟩)), fun w => w.elim (fun w2 => w2.elim Or.inl (fun w3 => Or.inr ⟨w3.1, by omega⟩)) (fun w2 => absurd w2 e)⟩
    · rw [srk_F c1]
      refine ih.p (fun k k0 k1 => ?_)
      by_cases e : k = (n : Int)
      · rw [e]
        exact ⟨fun w => w.elim Or.inl (fun w2 => absurd w2.1 c1), fun w => w.elim Or.inl (fun w2 => absurd w2.1 c1)⟩
      · exact ⟨fun w => w.elim Or.inl (fun w2 => Or.inr ⟨w2.1, by omega⟩), fun w => w.elim Or.inl (fun w2 => Or.inr ⟨w2.1, by omega⟩)⟩
theorem srg_I {s : Int} {N : Nat} (inj : ∀ i j : Int, 0 ≤ i → i < (N : Int) → 0 ≤ j → j < (N : Int) → fy A s i = fy A s j → i = j) (h0 : ∀ k : Int, 0 ≤ k → k < (N : Int) → 0 ≤ gl A (fy A s k)) : ∀ g : Nat, Inr A s N (srg A s N g) (fun k => gl A (fy A s k) < (g : Int))
  | 0 => ⟨fun i i0 i1 => by have i1 : i < ((0 : Nat) : Int) := i1; omega, fun k k0 k1 w => by have := h0 k k0 k1; have w : gl A (fy A s k) < ((0 : Nat) : Int) := w; omega, fun i j i0 i1 => by have i1 : i < ((0 : Nat) : Int) := i1; omega⟩
  | g + 1 => (srk_I inj (srg_I inj h0 g) N (Nat.le_refl _)).p (fun k k0 k1 => by
      show gl A (fy A s k) < ((g + 1 : Nat) : Int) ↔ gl A (fy A s k) < (g : Int) ∨ (gl A (fy A s k) = (g : Int) ∧ k < (N : Int))
      omega)
/-- the reference with its row for sorting -/
def ast (A : Il) (q : Srt) : Il := fun a j => if a = 64 then q.2 j else A a j
theorem ast_k {q : Srt} {a : Nat} {j : Int} (h : a ≠ 64) : ast A q a j = A a j := if_neg h
theorem ast_stp {q : Srt} {x : Int} : ui (ast A q) 64 (q.1 : Int) x = ast A (stp q x) := by
  funext a j
  show (if a = 64 ∧ j = (q.1 : Int) then x else if a = 64 then q.2 j else A a j) = if a = 64 then (if j = (q.1 : Int) then x else q.2 j) else A a j
  by_cases e : a = 64
  · rw [if_pos e, if_pos e]
    by_cases e2 : j = (q.1 : Int)
    · rw [if_pos ⟨e, e2⟩, if_pos e2]
    · rw [if_neg (fun w => e2 w.2), if_neg e2]
  · rw [if_neg (fun w => e w.1), if_neg e, if_neg e]
theorem gl_ast {q : Srt} {x : Int} : gl (ast A q) x = gl A x := rfl
theorem m_sort_in {s g : Int} {N : Nat} {p : Srt} {k32 : Int → Int → Int → Int → Il → Prop} {Q : Int → Il → Prop} (hs : 0 ≤ s ∧ s < 8) (hN : A 35 s = (N : Int)) (hN2 : N ≤ 20) (hc : ∀ k : Int, 0 ≤ k → k < (N : Int) → (0 ≤ fy A s k ∧ fy A s k < 20) ∧ (A 33 (fy A s k) = -1 ∨ (0 ≤ A 33 (fy A s k) ∧ A 33 (fy A s k) < 40))) (hp : p.1 + ceq A s g N ≤ 20) (h : k32 s ((srk A s g p N).1 : Int) 0 (w32 (g + 1)) (ast A (srk A s g p N))) : ∀ k n : Nat, n + k = N → W_X9_sort_42 (k + 1) k32 s ((srk A s g p n).1 : Int) 0 g (n : Int) (ast A (srk A s g p n)) Q
  | 0, n, e => by
    have e' : n = N := by omega
    subst e'
    exact ⟨hs.1, hs.2, br_T (by show A 35 s ≤ _; omega) h⟩
  | k + 1, n, e => by
    have ih := m_sort_in (Q := Q) hs hN hN2 hc hp h k (n + 1) (by omega)
    have e1 : w32 (20 * s) = 20 * s := w32_id (by unfold rg; omega)
    have e2 : w32 (20 * s + (n : Int)) = 20 * s + (n : Int) := w32_id (by unfold rg; omega)
    obtain ⟨w1, w2⟩ := hc (n : Int) (by omega) (by omega)
    refine ⟨hs.1, hs.2, br_F (by show ¬ A 35 s ≤ _; omega) ?_⟩
    rw [e1, e2, ast_k (by decide)]
    refine ⟨by omega, by omega, m_goal w1 w2 ⟨fun c1 => ?_, fun c1 => ?_⟩⟩
    · show W_X9_sort_42 (k + 1) k32 s ((srk A s g p n).1 : Int) 0 g (w32 ((n : Int) + 1)) (ast A (srk A s g p n)) Q
      rw [w32_up (by omega)]
      have c1 : ¬ gl A (fy A s (n : Int)) = g := c1
      rw [srk_F c1] at ih
      exact ih
    · have c1 : gl A (fy A s (n : Int)) = g := c1
      have s1 := srk_1 (A := A) (s := s) (g := g) (p := p) n
      have m1 := ceq_mono (A := A) (s := s) (g := g) (n + 1) (N - (n + 1))
      rw [show n + 1 + (N - (n + 1)) = N by omega] at m1
      have m2 : ceq A s g (n + 1) = ceq A s g n + 1 := by
        show ceq A s g n + _ = _
        rw [if_pos c1]
      refine ⟨by omega, by omega, by omega, by omega, ?_⟩
      show W_X9_sort_42 (k + 1) k32 s (w32 (((srk A s g p n).1 : Int) + 1)) 0 g (w32 ((n : Int) + 1)) (ui (ast A (srk A s g p n)) 64 ((srk A s g p n).1 : Int) (fy A s (n : Int))) Q
      rw [w32_up (by omega), w32_up (by omega), ast_stp]
      rw [srk_T c1] at ih
      exact ih
theorem m_sort_out {s : Int} {N : Nat} {Q : Int → Il → Prop} (hs : 0 ≤ s ∧ s < 8) (hN : A 35 s = (N : Int)) (hN2 : N ≤ 20) (hc : ∀ k : Int, 0 ≤ k → k < (N : Int) → (0 ≤ fy A s k ∧ fy A s k < 20) ∧ (A 33 (fy A s k) = -1 ∨ (0 ≤ A 33 (fy A s k) ∧ A 33 (fy A s k) < 40))) (h0 : ∀ k : Nat, k < N → 0 ≤ gl A (fy A s (k : Int))) (h : ∃ n9, W_X9_sort_110 n9 s 0 0 (ast A (srg A s N 8)) Q) : ∀ k g : Nat, g + k = 8 → W_X9_sort_32 (k + 1) s ((srg A s N g).1 : Int) 0 (g : Int) (ast A (srg A s N g)) Q
  | 0, g, e => by
    have e' : g = 8 := by omega
    subst e'
    exact br_T (by decide) h
  | k + 1, g, e => by
    have ih := m_sort_out hs hN hN2 hc h0 h k (g + 1) (by omega)
    have c1 := srg_1 h0 (g + 1)
    have c2 : (srg A s N (g + 1)).1 = (srg A s N g).1 + ceq A s (g : Int) N := srk_1 (A := A) (s := s) (g := (g : Int)) (p := srg A s N g) N
    have c3 := clt_le (A := A) (s := s) (g := ((g + 1 : Nat) : Int)) N
    refine br_F (by omega) ⟨N + 1, m_sort_in hs hN hN2 hc (by omega) ?_ N 0 (Nat.zero_add _)⟩
    show W_X9_sort_32 (k + 1) s ((srg A s N (g + 1)).1 : Int) 0 (w32 ((g : Int) + 1)) (ast A (srg A s N (g + 1))) Q
    rw [w32_up (by omega)]
    exact ih
/-- at how many of the first n places another car stands -/
def cg (A : Il) (s : Int) (R : Int → Int) : Nat → Int
  | 0 => 0
  | n + 1 => cg A s R n + if R (n : Int) = fy A s (n : Int) then 0 else 1
theorem cg_rg {s : Int} {R : Int → Int} : ∀ n : Nat, 0 ≤ cg A s R n ∧ cg A s R n ≤ (n : Int)
  | 0 => ⟨Int.le_refl _, Int.le_refl _⟩
  | n + 1 => by
    have h : 0 ≤ cg A s R n ∧ cg A s R n ≤ (n : Int) := cg_rg n
    show 0 ≤ cg A s R n + _ ∧ cg A s R n + _ ≤ ((n + 1 : Nat) : Int)
    split <;> omega
/-- the yard's first n places out of the row -/
def yst (A : Il) (s : Int) (q : Srt) (n : Int) : Il := fun a j => if a = 34 ∧ 20 * s ≤ j ∧ j < 20 * s + n then q.2 (j - 20 * s) else ast A q a j
theorem yst_k {s n : Int} {q : Srt} {a : Nat} {j : Int} (h : a ≠ 34) : yst A s q n a j = ast A q a j := if_neg (fun w => h w.1)
theorem yst_0 {s : Int} {q : Srt} : yst A s q 0 = ast A q := by
  funext a j
  exact if_neg (fun w => by omega)
theorem yst_s {s n : Int} {q : Srt} (hn : 0 ≤ n) : ui (yst A s q n) 34 (20 * s + n) (q.2 n) = yst A s q (n + 1) := by
  funext a j
  show (if a = 34 ∧ j = 20 * s + n then q.2 n else if a = 34 ∧ 20 * s ≤ j ∧ j < 20 * s + n then q.2 (j - 20 * s) else ast A q a j) = if a = 34 ∧ 20 * s ≤ j ∧ j < 20 * s + (n + 1) then q.2 (j - 20 * s) else ast A q a j
  by_cases e : a = 34 ∧ j = 20 * s + n
  · rw [if_pos e, if_pos ⟨e.1, by omega, by omega⟩, e.2, show 20 * s + n - 20 * s = n by omega]
  · rw [if_neg e]
    by_cases e2 : a = 34 ∧ 20 * s ≤ j ∧ j < 20 * s + n
    · rw [if_pos e2, if_pos ⟨e2.1, e2.2.1, by omega⟩]
    · rw [if_neg e2, if_neg (fun w => by
        by_cases e3 : j = 20 * s + n
        · exact e ⟨w.1, e3⟩
        · exact e2 ⟨w.1, w.2.1, by omega⟩)]
theorem m_sort_cmp {s : Int} {N : Nat} {q : Srt} {Q : Int → Il → Prop} (hs : 0 ≤ s ∧ s < 8) (hN : A 35 s = (N : Int)) (hN2 : N ≤ 20) (h : Q (cg A s q.2 N) (yst A s q (N : Int))) : ∀ k n : Nat, n + k = N → W_X9_sort_110 (k + 1) s (cg A s q.2 n) (n : Int) (yst A s q (n : Int)) Q
  | 0, n, e => by
    have e' : n = N := by omega
    subst e'
    exact ⟨hs.1, hs.2, br_T (by show A 35 s ≤ _; omega) h⟩
  | k + 1, n, e => by
    have ih := m_sort_cmp hs hN hN2 h k (n + 1) (by omega)
    have e1 : w32 (20 * s) = 20 * s := w32_id (by unfold rg; omega)
    have e2 : w32 (20 * s + (n : Int)) = 20 * s + (n : Int) := w32_id (by unfold rg; omega)
    have cr := cg_rg (A := A) (s := s) (R := q.2) n
    have e64 : yst A s q (n : Int) 64 (n : Int) = q.2 (n : Int) := rfl
    have e34 : yst A s q (n : Int) 34 (20 * s + (n : Int)) = fy A s (n : Int) := if_neg (fun w => by omega)
    have go : ∀ z : Int, cg A s q.2 (n + 1) = cg A s q.2 n + z → (z = 0 ∨ z = 1) → W_X9_sort_149 (fun y0 y1 y2 A' => W_X9_sort_110 (k + 1) y0 y1 y2 A' Q) s (n : Int) z (cg A s q.2 n) (yst A s q (n : Int)) Q := fun z ez hz => by
      unfold W_X9_sort_149
      rw [e1, e2, e64]
      refine ⟨by omega, by omega, by omega, by omega, ?_⟩
      rw [yst_s (by omega), w32_up (by omega), w32_id (z := cg A s q.2 n + z) (by unfold rg; omega), ← ez, show (n : Int) + 1 = ((n + 1 : Nat) : Int) by omega]
      exact ih
    refine ⟨hs.1, hs.2, br_F (by show ¬ A 35 s ≤ _; omega) ⟨by omega, by omega, ?_⟩⟩
    rw [e1, e2, e64, e34]
    refine ⟨by omega, by omega, fun c1 => go 0 ?_ (Or.inl rfl), fun c1 => go 1 ?_ (Or.inr rfl)⟩
    · show cg A s q.2 n + _ = _
      rw [if_pos c1]
    · show cg A s q.2 n + _ = _
      rw [if_neg c1]
end Srts
