/-! homeward -/
section Home
variable {c LN : Nat → Nat} {B : Fl} {E : El} {A : Il}
/-- whether a block is neither held nor closed -/
def opn (A : Il) (b : Int) : Int := if A 17 b = -1 then (if ¬ A 12 b = 0 ∨ A 1 0 < A 11 b then 0 else 1) else 0
theorem opn_1 {b : Int} : opn A b = 1 ↔ A 17 b = -1 ∧ ¬ (¬ A 12 b = 0 ∨ A 1 0 < A 11 b) := by
  unfold opn
  by_cases c1 : A 17 b = -1
  · rw [if_pos c1]
    by_cases c2 : ¬ A 12 b = 0 ∨ A 1 0 < A 11 b
    · rw [if_pos c2]
      exact ⟨fun w => absurd w (by decide), fun w => absurd c2 w.2⟩
    · rw [if_neg c2]
      exact ⟨fun _ => ⟨c1, c2⟩, fun _ => rfl⟩
  · rw [if_neg c1]
    exact ⟨fun w => absurd w (by decide), fun w => absurd w.1 c1⟩
theorem opn_01 {b : Int} : opn A b = 0 ∨ opn A b = 1 := by
  unfold opn
  split
  · split
    · exact Or.inl rfl
    · exact Or.inr rfl
  · exact Or.inl rfl
theorem q_open {b : Int} {Q : Int → Prop} (hR : Rep c LN B E A) (hb : 0 ≤ b ∧ b < A 6 0) (E1 : El) (h : Q (opn A b)) : W_X8_isOpen c LN 0 (100 + b.toNat) B E1 Q := by
  have gB := hR.2.2.1
  have gH := hR.2.2.2.2.1 b hb.1 hb.2
  obtain ⟨⟨b1, b2, b3⟩, b4, b5, b6, b7, b8, b9, b10, b11, b12, b13, b14⟩ := id gB
  have hk := kd8 (c := c) (v := 100 + b.toNat) (by omega) (by omega) b3
  unfold opn at h
  refine ⟨rfl, hk, q_holderAt hk ?_⟩
  rw [hR.1.1, ← gH.1]
  by_cases c1 : A 17 b = -1
  · rw [if_pos c1] at h
    refine bn_T c1 (q_isClosedAt hk ?_)
    rw [b13 b hb.1 hb.2, b12 b hb.1 hb.2]
    by_cases c2 : ¬ A 12 b = 0 ∨ A 1 0 < A 11 b
    · rw [if_pos c2] at h
      rw [if_pos c2]
      exact bn_F (by decide) h
    · rw [if_neg c2] at h
      rw [if_neg c2]
      exact bn_T rfl h
  · rw [if_neg c1] at h
    exact bn_F c1 h
abbrev Dst : Type := Int → Int
def updd (D : Dst) (x y l : Int) : Dst := fun j => if j = x then (if D x ≤ D y + l then D x else D y + l) else D j
def dsb (A : Il) (D : Dst) (b : Int) : Dst := if opn A b = 1 then updd (updd D (A 7 (2 * b)) (A 7 (2 * b + 1)) (A 8 b)) (A 7 (2 * b + 1)) (A 7 (2 * b)) (A 8 b) else D
def dsr (A : Il) (D : Dst) : Nat → Dst
  | 0 => D
  | n + 1 => dsb A (dsr A D n) (n : Int)
def dsa (A : Il) (D : Dst) (N : Nat) : Nat → Dst
  | 0 => D
  | t + 1 => dsr A (dsa A D N t) N
def Dok (D : Dst) : Prop := ∀ j : Int, 0 ≤ j → j < 8 → 0 ≤ D j ∧ D j ≤ 1000000
theorem updd_ok {D : Dst} {x y l : Int} (h : Dok D) (hx : 0 ≤ x ∧ x < 8) (hy : 0 ≤ y ∧ y < 8) (hl : 0 ≤ l) : Dok (updd D x y l) := fun j j0 j1 => by
  have w1 := h x hx.1 hx.2
  have w2 := h y hy.1 hy.2
  have w3 := h j j0 j1
  show 0 ≤ (if j = x then (if D x ≤ D y + l then D x else D y + l) else D j) ∧ (if j = x then (if D x ≤ D y + l then D x else D y + l) else D j) ≤ 1000000
  split
  · split <;> omega
  · exact w3
theorem dsb_ok {D : Dst} {b : Int} (hB : RepB c B A) (hb : 0 ≤ b ∧ b < A 6 0) (h : Dok D) : Dok (dsb A D b) := by
  obtain ⟨-, -, w1, w2, w3, w4, -, w5, -⟩ := hB.2.1 b hb.1 hb.2
  unfold dsb
  split
  · exact updd_ok (updd_ok h ⟨w1, w2⟩ ⟨w3, w4⟩ (by omega)) ⟨w3, w4⟩ ⟨w1, w2⟩ (by omega)
  · exact h
theorem dsr_ok {D : Dst} (hB : RepB c B A) (h : Dok D) : ∀ n : Nat, (n : Int) ≤ A 6 0 → Dok (dsr A D n)
  | 0, _ => h
  | n + 1, hn => dsb_ok hB (by omega) (dsr_ok hB h n (by omega))
theorem dsa_ok {D : Dst} {N : Nat} (hB : RepB c B A) (hN : A 6 0 = (N : Int)) (h : Dok D) : ∀ t : Nat, Dok (dsa A D N t)
  | 0 => h
  | t + 1 => dsr_ok hB (dsa_ok hB hN h t) N (by omega)
/-- the reference with these distances -/
def hst (A : Il) (D : Dst) : Il := fun a j => if a = 63 then D j else A a j
theorem hst_k {D : Dst} {a : Nat} {j : Int} (h : a ≠ 63) : hst A D a j = A a j := if_neg h
theorem hst_u {D : Dst} {x v : Int} : ui (hst A D) 63 x v = hst A (fun j => if j = x then v else D j) := by
  funext a j
  show (if a = 63 ∧ j = x then v else if a = 63 then D j else A a j) = if a = 63 then (if j = x then v else D j) else A a j
  by_cases e : a = 63
  · rw [if_pos e, if_pos e]
    by_cases e2 : j = x
    · rw [if_pos ⟨e, e2⟩, if_pos e2]
    · rw [if_neg (fun w => e2 w.2), if_neg e2]
  · rw [if_neg (fun w => e w.1), if_neg e, if_neg e]
def dz (A : Il) (h : Int) (n : Int) : Dst := fun j => if 0 ≤ j ∧ j < n then (if j = h then 0 else 1000000) else A 63 j
theorem dz_s {h n : Int} (hn : 0 ≤ n) : (fun j => if j = n then (if n = h then (0 : Int) else 1000000) else dz A h n j) = dz A h (n + 1) := by
  funext j
  show (if j = n then (if n = h then (0 : Int) else 1000000) else if 0 ≤ j ∧ j < n then (if j = h then 0 else 1000000) else A 63 j) = if 0 ≤ j ∧ j < n + 1 then (if j = h then 0 else 1000000) else A 63 j
  by_cases e : j = n
  · rw [if_pos e, if_pos (show 0 ≤ j ∧ j < n + 1 by omega), e]
  · rw [if_neg e]
    by_cases e2 : 0 ≤ j ∧ j < n
    · rw [if_pos e2, if_pos (show 0 ≤ j ∧ j < n + 1 by omega)]
    · rw [if_neg e2, if_neg (show ¬ (0 ≤ j ∧ j < n + 1) by omega)]
theorem hst_0 {h : Int} : hst A (dz A h 0) = A := by
  funext a j
  show (if a = 63 then (if 0 ≤ j ∧ j < 0 then (if j = h then 0 else 1000000) else A 63 j) else A a j) = A a j
  by_cases e : a = 63
  · rw [if_pos e, if_neg (by omega), e]
  · rw [if_neg e]
theorem m_home_init {x s : Int} {Q : Int → Il → Prop} (hx : 0 ≤ x ∧ x < 20) (h : ∃ n9, W_X9_homeward_94 n9 s 0 (hst A (dz A (A 30 x) 8)) Q) : ∀ k n : Nat, n + k = 8 → W_X9_homeward_57 (k + 1) x s (n : Int) (hst A (dz A (A 30 x) (n : Int))) Q
  | 0, n, e => by
    have e' : n = 8 := by omega
    subst e'
    exact br_T (by decide) h
  | k + 1, n, e => by
    have ih := m_home_init (Q := Q) hx h k (n + 1) (by omega)
    have es := dz_s (A := A) (h := A 30 x) (n := (n : Int)) (by omega)
    rw [show (n : Int) + 1 = ((n + 1 : Nat) : Int) by omega] at es
    refine br_F (by omega) ⟨hx.1, hx.2, ?_⟩
    rw [hst_k (by decide)]
    refine ⟨fun c1 => ⟨by omega, by omega, ?_⟩, fun c1 => ⟨by omega, by omega, ?_⟩⟩
    · rw [w32_up (by omega), hst_u]
      rw [if_neg c1] at es
      rw [es]
      exact ih
    · rw [w32_up (by omega), hst_u]
      rw [if_pos c1] at es
      rw [es]
      exact ih
set_option maxHeartbeats 1000000 in
theorem m_home_in {s t : Int} {N : Nat} {D : Dst} {k94 : Int → Int → Il → Prop} {Q : Int → Il → Prop} (hR : Rep c LN B E A) (hN : A 6 0 = (N : Int)) (hN2 : N ≤ 16) (hD : Dok D) (h : k94 s (w32 (t + 1)) (hst A (dsr A D N))) : ∀ k n : Nat, n + k = N → W_X9_homeward_103 (k + 1) k94 s t (n : Int) (hst A (dsr A D n)) Q
  | 0, n, e => by
    have e' : n = N := by omega
    subst e'
    exact br_T (by rw [hst_k (by decide)]; omega) h
  | k + 1, n, e => by
    have ih := m_home_in (Q := Q) hR hN hN2 hD h k (n + 1) (by omega)
    have hB := hR.2.2.1
    have ok := dsr_ok hB hD n (by omega)
    obtain ⟨-, -, w1, w2, w3, w4, w5, w6, w7, -⟩ := hB.2.1 (n : Int) (by omega) (by omega)
    have e1 : w32 (2 * (n : Int)) = 2 * (n : Int) := w32_id (by unfold rg; omega)
    have e2 : w32 (2 * (n : Int) + 1) = 2 * (n : Int) + 1 := w32_id (by unfold rg; omega)
    have F : ¬ opn A (n : Int) = 1 → W_X9_homeward_270 k94 (fun y0 y1 y2 A' => W_X9_homeward_103 (k + 1) k94 y0 y1 y2 A' Q) s t (n : Int) (hst A (dsr A D n)) Q := fun w => by
      show W_X9_homeward_103 (k + 1) k94 s t (w32 ((n : Int) + 1)) (hst A (dsr A D n)) Q
      rw [w32_up (by omega)]
      have ed : dsr A D (n + 1) = dsr A D n := if_neg w
      rw [ed] at ih
      exact ih
    refine br_F (by rw [hst_k (by decide)]; omega) ⟨by omega, by omega, ?_⟩
    refine ⟨fun c1 => F (fun w => c1 (opn_1.1 w).1), fun c1 => m_isClosed (by omega) ?_⟩
    have c1 : A 17 (n : Int) = -1 := c1
    by_cases c2 : ¬ A 12 (n : Int) = 0 ∨ A 1 0 < A 11 (n : Int)
    · rw [if_pos (show ¬ hst A (dsr A D n) 12 (n : Int) = 0 ∨ hst A (dsr A D n) 1 0 < hst A (dsr A D n) 11 (n : Int) from c2)]
      exact bn_F (by decide) (F (fun w => (opn_1.1 w).2 c2))
    · rw [if_neg (show ¬ (¬ hst A (dsr A D n) 12 (n : Int) = 0 ∨ hst A (dsr A D n) 1 0 < hst A (dsr A D n) 11 (n : Int)) from c2)]
      refine bn_T rfl ?_
      have ed : dsr A D (n + 1) = updd (updd (dsr A D n) (A 7 (2 * (n : Int))) (A 7 (2 * (n : Int) + 1)) (A 8 (n : Int))) (A 7 (2 * (n : Int) + 1)) (A 7 (2 * (n : Int))) (A 8 (n : Int)) := if_pos (opn_1.2 ⟨c1, c2⟩)
      rw [ed] at ih
      rw [e1, e2, hst_k (a := 7) (by decide), hst_k (a := 7) (by decide), hst_k (a := 8) (by decide)]
      generalize A 7 (2 * (n : Int)) = x at *
      generalize A 7 (2 * (n : Int) + 1) = y at *
      generalize h8 : A 8 (n : Int) = l at *
      generalize dsr A D n = D1 at *
      have dx := ok x w1 w2
      have dy := ok y w3 w4
      have p1 : hst A D1 63 x = D1 x := rfl
      have p2 : hst A D1 63 y = D1 y := rfl
      have q1 : w32 (D1 y + l) = D1 y + l := w32_id (by unfold rg; omega)
      have ok2 := updd_ok (l := l) ok ⟨w1, w2⟩ ⟨w3, w4⟩ (by omega)
      have dy2 := ok2 y w3 w4
      have dx2 := ok2 x w1 w2
      have G : ∀ v : Int, (v = if D1 x ≤ D1 y + l then D1 x else D1 y + l) → A 8 (n : Int) = l → W_X9_homeward_212 k94 (fun y0 y1 y2 A' => W_X9_homeward_103 (k + 1) k94 y0 y1 y2 A' Q) s t (n : Int) x y v x (hst A D1) Q := fun v hv h8 => by
        have eh : ui (hst A D1) 63 x v = hst A (updd D1 x y l) := by
          rw [hst_u, hv]
          rfl
        unfold W_X9_homeward_212
        rw [eh]
        have p3 : hst A (updd D1 x y l) 63 y = updd D1 x y l y := rfl
        have p4 : hst A (updd D1 x y l) 63 x = updd D1 x y l x := rfl
        have p5 : hst A (updd D1 x y l) 8 (n : Int) = l := h8
        have q2 : w32 (updd D1 x y l x + l) = updd D1 x y l x + l := w32_id (by unfold rg; omega)
        rw [p3, p4, p5, q2]
        have fin : ∀ z : Int, (z = if updd D1 x y l y ≤ updd D1 x y l x + l then updd D1 x y l y else updd D1 x y l x + l) → W_X9_homeward_269 k94 (fun y0 y1 y2 A' => W_X9_homeward_103 (k + 1) k94 y0 y1 y2 A' Q) s t (n : Int) z y (hst A (updd D1 x y l)) Q := fun z hz => by
          refine ⟨w3, w4, ?_⟩
          show W_X9_homeward_103 (k + 1) k94 s t (w32 ((n : Int) + 1)) (ui (hst A (updd D1 x y l)) 63 y z) Q
          rw [w32_up (by omega), hst_u, hz]
          exact ih
        exact ⟨w1, w2, w1, w2, by omega, by omega, w3, w4, fun c3 => ⟨w3, w4, fin _ (if_pos c3).symm⟩, fun c3 => ⟨w1, w2, by omega, by omega, fin _ (if_neg c3).symm⟩⟩
      rw [p1, p2, q1]
      exact ⟨by omega, by omega, by omega, by omega, w3, w4, by omega, by omega, w1, w2, fun c3 => ⟨w1, w2, G _ (if_pos c3).symm h8⟩, fun c3 => ⟨w3, w4, by omega, by omega, G _ (if_neg c3).symm h8⟩⟩
end Home
