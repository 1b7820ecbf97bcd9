/-! all arrivals; the day's pay; which train is next -/
section Day
variable {c LN : Nat → Nat} {B B' : Fl} {E E' : El} {A A' : Il}
theorem RepI.up {n : Nat} (h : RepI (n : Int) c LN B E A) (hk : A 36 (n : Int) = 1 → A 39 (n : Int) = 2 → A 1 0 < A 42 (n : Int)) : RepI ((n + 1 : Nat) : Int) c LN B E A := by
  obtain ⟨gG, gS, gB, g0, gH, gE, gC, gN, gK, gL, gR, gD, gY, gU, gW, gP, gT, gX, gZ⟩ := h
  refine ⟨gG, gS, gB, g0, gH, gE, gC, gN, gK, gL, gR, gD, gY, gU, gW, gP, fun t => ⟨fun w => ?_, fun w => (gT t).2 (by omega)⟩, gX, gZ⟩
  by_cases e : t = (n : Int)
  · subst e
    exact ((gT (n : Int)).2 (Int.le_refl _)).up (fun e1 e2 _ => hk e1 e2)
  · exact (gT t).1 (by omega)
/-- behind the arrivals -/
def mEnd (A : Il) (Q : Int → Il → Prop) : Prop := (¬ w32 (Int.tmod (A 1 0) 1440) = 0 → W_X9_ticks_131 A Q) ∧ (w32 (Int.tmod (A 1 0) 1440) = 0 → W_X9_pays A (fun (A1 : Il) => W_X9_ticks_131 A1 Q))
theorem s_arrs : ∀ (k n : Nat) (B : Fl) (E : El) (A : Il), n + k = 6 → RepI (n : Int) c LN B E A → ∃ (B' : Fl) (E' : El) (A' : Il), Rep c LN B' E' A' ∧ Smm A A' ∧ A' 1 0 = A 1 0 ∧ (∀ Q, mEnd A' Q → W_X9_ticks_67 (k + 1) (n : Int) A Q) ∧ ∀ (Q : Fl → El → Prop) (QX : String → Fl → El → Prop), Q B' E' → W_X8_arriveAll_2 c LN (k + 1) 0 (n : Int) B E Q QX
  | 0, n, B, E, A, e, hR => by
    have l2 : ((ln 2 : Nat) : Int) = 6 := rfl
    exact ⟨B, E, A, hR.r (by omega), Smm.rf, rfl, fun Q hQ => br_T (by omega) hQ, fun Q QX hQ => ⟨rfl, rfl, br_T (by omega) hQ⟩⟩
  | k + 1, n, B, E, A, e, hR => by
    have l2 : ((ln 2 : Nat) : Int) = 6 := rfl
    have en : (n : Int).toNat = n := rfl
    have hT := hR.2.2.2.2.2.2.2.2.2.2.2.2.2.2.2.2.1 (n : Int)
    obtain ⟨u_1, u_2, u_3, u_4, u_5⟩ := hT.2 (Int.le_refl _) (by omega) (by omega)
    have e912 := hR.1.1
    have hkt := kdtr (c := c) (v := 40 + (n : Int).toNat) (by omega) (by omega)
    by_cases go : A 36 (n : Int) = 1 ∧ A 39 (n : Int) = 2 ∧ A 42 (n : Int) = A 1 0
    · obtain ⟨g1, g2, g3⟩ := go
      obtain ⟨y1, y2, y3, y4, y5, y6, y7, y8, y9, y10, y11, y12, y13, y14, y15, y16, y17, y18, y19, y20, -⟩ := u_5 g1
      have y20 := y20 g2
      have h41 : 0 ≤ A 41 (n : Int) ∧ A 41 (n : Int) < 16 := by
        have b16 := hR.2.2.1.1
        have ne : A 41 (n : Int) ≠ -1 := fun w => by have := y17.1 w; omega
        omega
      have hR2 := arr_rep hR (by omega) (by omega) g1 g2 g3
      rw [show (n : Int) + 1 = ((n + 1 : Nat) : Int) by omega] at hR2
      obtain ⟨B', E', A', i1, i2, i3, i4, i5⟩ := s_arrs k (n + 1) _ _ _ (by omega) hR2
      have sm : Smm A (arr A (n : Int)) := ⟨(ui_k (by decide)).trans ((ui_k (by decide)).trans (ui_k (by decide))), (ui_k (by decide)).trans ((ui_k (by decide)).trans (ui_k (by decide))), fun j => (ui_k (by decide)).trans ((ui_k (by decide)).trans (ui_k (by decide))), fun j => (ui_k (by decide)).trans ((ui_k (by decide)).trans (ui_k (by decide)))⟩
      refine ⟨B', E', A', i1, sm.t i2, i3.trans ((ui_k (by decide)).trans ((ui_k (by decide)).trans (ui_k (by decide)))), fun Q hQ => ?_, fun Q QX hQ => ?_⟩
      · refine br_F (by omega) ⟨by omega, by omega, br_F (by omega) ⟨by omega, by omega, bn_T g2 ⟨by omega, by omega, bn_T g3 (m_arrives (by omega) (by omega) h41 ?_)⟩⟩⟩
        show W_X9_ticks_67 (k + 1) (w32 ((n : Int) + 1)) (arr A (n : Int)) Q
        rw [w32_up (by omega)]
        exact i4 Q hQ
      · refine ⟨rfl, rfl, br_F (by omega) ⟨by omega, by omega, hkt, bn_T (y1.trans g2) ⟨by omega, by omega, hkt, br_F (by rw [e912, y20.1]; omega) ⟨by omega, by omega, q_arrive hR (by omega) (by omega) (Int.le_refl _) g1 g2 ?_⟩⟩⟩⟩
        show W_X8_arriveAll_2 c LN (k + 1) 0 (w32 ((n : Int) + 1)) (arB B A (n : Int)) (arE E A (n : Int)) Q QX
        rw [w32_up (by omega)]
        exact i5 Q QX hQ
    · have hk : A 36 (n : Int) = 1 → A 39 (n : Int) = 2 → A 1 0 < A 42 (n : Int) := fun g1 g2 => by
        obtain ⟨y1, y2, y3, y4, y5, y6, y7, y8, y9, y10, y11, y12, y13, y14, y15, y16, y17, y18, y19, y20, -⟩ := u_5 g1
        have w := (y20 g2).2.1
        by_cases c3 : A 42 (n : Int) = A 1 0
        · exact absurd ⟨g1, g2, c3⟩ go
        · omega
      obtain ⟨B', E', A', i1, i2, i3, i4, i5⟩ := s_arrs k (n + 1) _ _ _ (by omega) (hR.up hk)
      refine ⟨B', E', A', i1, i2, i3, fun Q hQ => ?_, fun Q QX hQ => ?_⟩
      · have F : W_X9_ticks_110 (fun y0 A' => W_X9_ticks_67 (k + 1) y0 A' Q) (n : Int) A Q := by
          show W_X9_ticks_67 (k + 1) (w32 ((n : Int) + 1)) A Q
          rw [w32_up (by omega)]
          exact i4 Q hQ
        refine br_F (by omega) ⟨by omega, by omega, fun _ => F, fun c1 => ⟨by omega, by omega, fun _ => F, fun c2 => ⟨by omega, by omega, fun _ => F, fun c3 => ?_⟩⟩⟩
        exact absurd ⟨by omega, c2, c3⟩ go
      · have F : W_X8_arriveAll_50 c LN (fun y0 y1 B' E' => W_X8_arriveAll_2 c LN (k + 1) y0 y1 B' E' Q QX) 0 (n : Int) B E Q QX := by
          show W_X8_arriveAll_2 c LN (k + 1) 0 (w32 ((n : Int) + 1)) B E Q QX
          rw [w32_up (by omega)]
          exact i5 Q QX hQ
        refine ⟨rfl, rfl, br_F (by omega) ⟨by omega, by omega, hkt, fun _ => F, fun c2 => ⟨by omega, by omega, hkt, fun _ => F, fun c3 => ?_⟩⟩⟩
        by_cases g1 : A 36 (n : Int) = 1
        · obtain ⟨y1, y2, y3, y4, y5, y6, y7, y8, y9, y10, y11, y12, y13, y14, y15, y16, y17, y18, y19, y20, -⟩ := u_5 g1
          have g2 : A 39 (n : Int) = 2 := y1.symm.trans c2
          rw [e912, (y20 g2).1] at c3
          exact absurd (hk g1 g2) c3
        · have w := u_4 (by omega)
          rw [w] at c2
          exact absurd c2 (by decide)
/-- the cash behind the day's interest and n cars -/
def pys (A : Il) : Nat → Int
  | 0 => w32 (A 2 0 - w32 (Int.tdiv (A 3 0) 200))
  | n + 1 => if ¬ A 33 (n : Int) = -1 ∧ A 32 (n : Int) = -1 ∧ A 56 (A 33 (n : Int)) = A 31 (n : Int) then w32 (pys A n + 2) else pys A n
theorem pys_rg (A : Il) : ∀ n, rg (pys A n)
  | 0 => rg_w32 _
  | n + 1 => by
    show rg (if _ then _ else _)
    split
    · exact rg_w32 _
    · exact pys_rg A n
theorem sc_sc {k : Nat} {x y : Int} : sc (sc A k x) k y = sc A k y := by
  funext a j
  show (if a = k then y else if a = k then x else A a j) = if a = k then y else A a j
  by_cases e : a = k
  · rw [if_pos e, if_pos e]
  · rw [if_neg e, if_neg e, if_neg e]
theorem pys_T {n : Nat} (h : ¬ A 33 (n : Int) = -1 ∧ A 32 (n : Int) = -1 ∧ A 56 (A 33 (n : Int)) = A 31 (n : Int)) : pys A (n + 1) = w32 (pys A n + 2) := if_pos h
theorem pys_F {n : Nat} (h : ¬ (¬ A 33 (n : Int) = -1 ∧ A 32 (n : Int) = -1 ∧ A 56 (A 33 (n : Int)) = A 31 (n : Int))) : pys A (n + 1) = pys A n := if_neg h
theorem m_pays_go {Q : Il → Prop} {N : Nat} (hK : RepK c B A) (hL : RepL c B A) (hN : A 29 0 = (N : Int)) (h : Q (sc A 2 (pys A N))) : ∀ k n : Nat, n + k = N → W_X9_pays_19 (k + 1) (n : Int) (sc A 2 (pys A n)) Q
  | 0, n, e => by
    have e' : n = N := by omega
    subst e'
    exact br_T (by show A 29 0 ≤ _; omega) h
  | k + 1, n, e => by
    have k20 := hK.1
    have l40 := hL.1
    have w8 := hK.2.2.2.2.2 (n : Int) (by omega) (by omega)
    have ih := m_pays_go hK hL hN h k (n + 1) (by omega)
    have F : pys A (n + 1) = pys A n → W_X9_pays_76 (fun y0 A' => W_X9_pays_19 (k + 1) y0 A' Q) (n : Int) (pys A n) (sc A 2 (pys A n)) Q := fun w => by
      show W_X9_pays_19 (k + 1) (w32 ((n : Int) + 1)) (sc (sc A 2 (pys A n)) 2 (w32 (pys A n + 0))) Q
      rw [w32_up (by omega), Int.add_zero, w32_id (pys_rg A n), sc_sc, ← w]
      exact ih
    have e2 : sc A 2 (pys A n) 2 0 = pys A n := sc_s
    refine br_F (by show ¬ A 29 0 ≤ _; omega) ⟨by omega, by omega, ?_⟩
    rw [e2]
    refine ⟨fun c1 => F (pys_F (fun w => w.1 c1)), fun c1 => ⟨by omega, by omega, fun c2 => F (pys_F (fun w => c2 w.2.1)), fun c2 => ⟨by omega, by omega, ?_, ?_, by omega, by omega, fun c3 => F (pys_F (fun w => c3 w.2.2)), fun c3 => ?_⟩⟩⟩
    · show 0 ≤ A 33 (n : Int)
      have c1 : ¬ A 33 (n : Int) = -1 := c1
      omega
    · show A 33 (n : Int) < 40
      omega
    · show W_X9_pays_19 (k + 1) (w32 ((n : Int) + 1)) (sc (sc A 2 (pys A n)) 2 (w32 (pys A n + 2))) Q
      rw [w32_up (by omega), sc_sc, ← pys_T (A := A) ⟨c1, c2, c3⟩]
      exact ih
theorem q_day_go {Q : Fl → El → Prop} {QX : String → Fl → El → Prop} {N : Nat} (hK : RepK c B A) (hL : RepL c B A) (hN : A 29 0 = (N : Int)) (h : Q (u2 B 913 0 (pys A N)) E) : ∀ k n : Nat, n + k = N → W_X8_beginDay_19 c LN (k + 1) 0 (n : Int) (u2 B 913 0 (pys A n)) E Q QX
  | 0, n, e => by
    have e' : n = N := by omega
    subst e'
    exact ⟨rfl, rfl, rfl, br_T (by rw [u2_k (by decide), hK.1.2.1]; omega) h⟩
  | k + 1, n, e => by
    obtain ⟨⟨k1, k2, k3⟩, k4, k5, k6, k7, k8⟩ := id hK
    have w8 := k8 (n : Int) (by omega) (by omega)
    have f31 := k5 (n : Int) (by omega) (by omega)
    have f32 := k6 (n : Int) (by omega) (by omega)
    have f33 := k7 (n : Int) (by omega) (by omega)
    have hkc := kd11 (c := c) (v := 140 + (n : Int).toNat) (by omega) (by omega) k3
    have ih : W_X8_beginDay_19 c LN (k + 1) 0 ((n + 1 : Nat) : Int) (u2 B 913 0 (pys A (n + 1))) E Q QX := q_day_go hK hL hN h k (n + 1) (by omega)
    have gL2 : RepL c (u2 B 913 0 (pys A n)) A := hL.fr (fun _ _ h => u2_k (by omega)) (fun _ _ _ => rfl)
    have F : pys A (n + 1) = pys A n → W_X8_beginDay_86 c LN (fun y0 y1 B' E' => W_X8_beginDay_19 c LN (k + 1) y0 y1 B' E' Q QX) 0 (n : Int) (u2 B 913 0 (pys A n)) E Q QX := fun w => by
      show W_X8_beginDay_19 c LN (k + 1) 0 (w32 ((n : Int) + 1)) (u2 B 913 0 (pys A n)) E Q QX
      rw [w32_up (by omega), ← w]
      exact ih
    have q2 : u2 B 913 0 (pys A n) 2 11 = A 29 0 := (u2_k (by decide)).trans k2
    have q301 : u2 B 913 0 (pys A n) 301 (140 + (n : Int).toNat) = A 31 (n : Int) := (u2_k (by decide)).trans f31
    have q302 : u2 B 913 0 (pys A n) 302 (140 + (n : Int).toNat) = A 32 (n : Int) := (u2_k (by decide)).trans f32
    have q303 : u2 B 913 0 (pys A n) 303 (140 + (n : Int).toNat) = A 33 (n : Int) := (u2_k (by decide)).trans f33
    refine ⟨rfl, rfl, rfl, br_F (by rw [q2]; omega) ⟨rfl, by omega, by rw [q2]; omega, by omega, ?_⟩⟩
    show kd c (140 + (n : Int).toNat) = 3 ∧ ((¬ u2 B 913 0 (pys A n) 302 (140 + (n : Int).toNat) = -1 → _) ∧ (u2 B 913 0 (pys A n) 302 (140 + (n : Int).toNat) = -1 → ((u2 B 913 0 (pys A n) 303 (140 + (n : Int).toNat) = -1 → _) ∧ (¬ u2 B 913 0 (pys A n) 303 (140 + (n : Int).toNat) = -1 → W_X8_billNumbered c LN 0 (u2 B 913 0 (pys A n) 303 (140 + (n : Int).toNat)) (u2 B 913 0 (pys A n)) E _ _))))
    rw [q302, q303]
    refine ⟨hkc, fun c2 => F (pys_F (fun w => c2 w.2.1)), fun c2 => ⟨fun c1 => F (pys_F (fun w => w.1 c1)), fun c1 => ?_⟩⟩
    have l9 := hL.1
    exact absurd (by omega) c1
theorem cash1_rep {z : Int} (hR : Rep c LN B E A) (hz : rg z) : Rep c LN (u2 B 913 0 z) E (sc A 2 z) := by
  obtain ⟨gG, gS, gB, g0, gH, gE, gC, gN, gK, gL, gR, gD, gY, gU, gW, gP, gT, gX, gZ⟩ := id hR
  obtain ⟨q1, q2, q3, q4, q5, q6, q7, q8⟩ := id gG
  have hB : ∀ q v, q ≠ 913 → u2 B 913 0 z q v = B q v := fun q v h => u2_k h
  have hA : ∀ a j, a ≠ 2 → sc A 2 z a j = A a j := fun a j h => sc_k h
  exact ⟨⟨q1, rfl, q3, q4, q5, hz, q7, q8⟩, gS.fr (fun k v h => hB k v (by omega)) (fun a j h => hA a j (by omega)), gB.fr (fun k v h => hB k v (by omega)) (fun a j h => hA a j (by omega)), g0.fr (fun a j h => hA a j (by omega)), gH.fr (fun k v h => hB k v (by omega)) (fun a j h => hA a j (by omega)), gE.fr (fun k v h => hB k v (by omega)) (fun a j h => hA a j (by omega)), gC.fr (fun k v h => hB k v (by omega)) (fun a j h => hA a j (by omega)), gN.fr (fun k v h => hB k v (by omega)) (fun a j h => hA a j (by omega)), gK.fr (fun k v h => hB k v (by omega)) (fun a j h => hA a j (by omega)), gL.fr (fun k v h => hB k v (by omega)) (fun a j h => hA a j (by omega)), gR.fr (fun _ => rfl) (fun _ => rfl) (fun a j h => hA a j (by omega)), gD.fr (fun k v h => hB k v (by omega)) (fun _ _ => rfl) (fun a j h => hA a j (by omega)), gY.fr (fun k v h => hB k v (by omega)) (fun _ _ => rfl) (fun a j h => hA a j (by omega)), gU.fr (fun k v h => hB k v (by omega)) (fun _ _ => rfl) (fun a j h => hA a j (by omega)), gW.fr (fun a j h => hA a j (by omega)), gP.fr (fun k v h => hB k v (by omega)) (fun _ _ => rfl) (fun a j h => hA a j (by omega)), gT.fr (fun k v h => hB k v (by omega)) (fun _ _ => rfl) (fun _ _ => rfl) (fun a j h => hA a j (by omega)), gX.fr (fun a j h => hA a j (by omega)), gZ.fr (fun a j h => hA a j (by omega))⟩
theorem s_day (hR : Rep c LN B E A) : ∃ (B' : Fl) (A' : Il), Rep c LN B' E A' ∧ Smm A A' ∧ A' 1 0 = A 1 0 ∧ (∀ Q, Q A' → W_X9_pays A Q) ∧ ∀ (Q : Fl → El → Prop) (QX : String → Fl → El → Prop), Q B' E → W_X8_beginDay c LN 0 B E Q QX := by
  have gK := hR.2.2.2.2.2.2.2.2.1
  have gL := hR.2.2.2.2.2.2.2.2.2.1
  obtain ⟨N, hN⟩ := Int.eq_ofNat_of_zero_le (show 0 ≤ A 29 0 by have := gK.1.1; omega)
  refine ⟨u2 B 913 0 (pys A N), sc A 2 (pys A N), cash1_rep hR (pys_rg A N), ⟨rfl, rfl, fun _ => rfl, fun _ => rfl⟩, rfl, fun Q hQ => ⟨N + 1, m_pays_go gK gL hN hQ N 0 (Nat.zero_add _)⟩, fun Q QX hQ => ⟨rfl, N + 1, ?_⟩⟩
  have w := q_day_go (LN := LN) (E := E) (QX := QX) gK gL hN hQ N 0 (Nat.zero_add _)
  rw [hR.1.2.1, hR.1.2.2.1]
  exact w
/-- the number of the best of the first n, and its rank -/
def bst (A : Il) (z : Nat) : Nat → Int × Int
  | 0 => (-1, -1)
  | n + 1 => if A 36 (n : Int) = 1 ∧ A 39 (n : Int) = 1 ∧ z.testBit n = false ∧ (bst A z n).2 < A 49 (n : Int) then ((n : Int), A 49 (n : Int)) else bst A z n
theorem bst_T {z n : Nat} (h : A 36 (n : Int) = 1 ∧ A 39 (n : Int) = 1 ∧ z.testBit n = false ∧ (bst A z n).2 < A 49 (n : Int)) : bst A z (n + 1) = ((n : Int), A 49 (n : Int)) := if_pos h
theorem bst_F {z n : Nat} (h : ¬ (A 36 (n : Int) = 1 ∧ A 39 (n : Int) = 1 ∧ z.testBit n = false ∧ (bst A z n).2 < A 49 (n : Int))) : bst A z (n + 1) = bst A z n := if_neg h
theorem bst_none {z : Nat} (h : ∀ n : Nat, n < 6 → A 36 (n : Int) = 1 → A 39 (n : Int) = 1 → z.testBit n = true) : ∀ n, n ≤ 6 → bst A z n = (-1, -1)
  | 0, _ => rfl
  | n + 1, hn => by
    rw [bst_F (fun w => by
      have := h n (by omega) w.1 w.2.1
      rw [w.2.2.1] at this
      cases this)]
    exact bst_none h n (by omega)
theorem bst_some {z t : Nat} (ht : t < 6) (h36 : A 36 (t : Int) = 1) (h39 : A 39 (t : Int) = 1) (hz : z.testBit t = false) (h49 : 0 ≤ A 49 (t : Int)) (h : ∀ n : Nat, n < 6 → A 36 (n : Int) = 1 → A 39 (n : Int) = 1 → z.testBit n = false → A 49 (n : Int) < A 49 (t : Int) ∨ (A 49 (n : Int) = A 49 (t : Int) ∧ t ≤ n)) : ∀ n, n ≤ 6 → (n ≤ t → (bst A z n).2 < A 49 (t : Int)) ∧ (t < n → bst A z n = ((t : Int), A 49 (t : Int)))
  | 0, _ => ⟨fun _ => by show (-1 : Int) < _; omega, fun w => absurd w (Nat.not_lt_zero _)⟩
  | n + 1, hn => by
    obtain ⟨i1, i2⟩ := bst_some ht h36 h39 hz h49 h n (by omega)
    refine ⟨fun w => ?_, fun w => ?_⟩
    · by_cases cc : A 36 (n : Int) = 1 ∧ A 39 (n : Int) = 1 ∧ z.testBit n = false ∧ (bst A z n).2 < A 49 (n : Int)
      · rw [bst_T cc]
        show A 49 (n : Int) < _
        have := h n (by omega) cc.1 cc.2.1 cc.2.2.1
        omega
      · rw [bst_F cc]
        exact i1 (by omega)
    · by_cases e : n = t
      · subst e
        rw [bst_T ⟨h36, h39, hz, i1 (Nat.le_refl _)⟩]
      · have i2 := i2 (by omega)
        rw [bst_F (fun w2 => by
          have := h n (by omega) w2.1 w2.2.1 w2.2.2.1
          rw [i2] at w2
          have w3 : A 49 (t : Int) < A 49 (n : Int) := w2.2.2.2
          omega), i2]
theorem ask_bit : ∀ z : Nat, z < 64 → ∀ i : Nat, i < 6 → (iand (z : Int) (ishl 1 (i : Int)) = 0 ↔ z.testBit i = false) := by decide +kernel
theorem q_nte_go {z : Nat} {Q : Int → Prop} (hR : Rep c LN B E A) (hz : z < 64) (h : Q (bst A z 6).1) : ∀ k n : Nat, n + k = 6 → W_X8_nextToEnter_7 c LN (k + 1) 0 (z : Int) (bst A z n).1 (bst A z n).2 (n : Int) B E Q
  | 0, n, e => by
    have l2 : ((ln 2 : Nat) : Int) = 6 := rfl
    have e' : n = 6 := by omega
    subst e'
    exact ⟨rfl, rfl, br_T (by decide) h⟩
  | k + 1, n, e => by
    have l2 : ((ln 2 : Nat) : Int) = 6 := rfl
    have gT := hR.2.2.2.2.2.2.2.2.2.2.2.2.2.2.2.2.1
    have hkt := kdtr (c := c) (v := 40 + (n : Int).toNat) (by omega) (by omega)
    have ih := q_nte_go hR hz h k (n + 1) (by omega)
    have F : bst A z (n + 1) = bst A z n → W_X8_nextToEnter_80 c LN (fun y0 y1 y2 y3 y4 => W_X8_nextToEnter_7 c LN (k + 1) y0 y1 y2 y3 y4 B E Q) 0 (z : Int) (bst A z n).1 (bst A z n).2 (n : Int) B E Q := fun w => by
      show W_X8_nextToEnter_7 c LN (k + 1) 0 (z : Int) (bst A z n).1 (bst A z n).2 (w32 ((n : Int) + 1)) B E Q
      rw [w32_up (by omega), ← w]
      exact ih
    have f801 : B 801 (40 + (n : Int).toNat) = 1 → A 36 (n : Int) = 1 ∧ A 39 (n : Int) = 1 := fun w => by
      by_cases c1 : A 36 (n : Int) = 0
      · have := (gT.is (x := (n : Int)) (by omega) (by omega)).1 c1
        rw [this] at w
        exact absurd w (by decide)
      · obtain ⟨w1, w2, -⟩ := (gT.is (x := (n : Int)) (by omega) (by omega)).2 c1
        exact ⟨w1, w2.symm.trans w⟩
    have g801 : A 36 (n : Int) = 1 → A 39 (n : Int) = 1 → B 801 (40 + (n : Int).toNat) = 1 := fun w1 w2 => ((gT.is (x := (n : Int)) (by omega) (by omega)).2 (by omega)).2.1.trans w2
    have K : ∀ s0 : Int, (s0 = 0 ↔ z.testBit n = false) → W_X8_nextToEnter_31 c LN (fun y0 y1 y2 y3 y4 => W_X8_nextToEnter_7 c LN (k + 1) y0 y1 y2 y3 y4 B E Q) 0 (z : Int) (bst A z n).1 (bst A z n).2 (n : Int) s0 B E Q := fun s0 hs => by
      refine ⟨rfl, rfl, by omega, by omega, hkt, fun c1 => F (bst_F (fun w => c1 (g801 w.1 w.2.1))), fun c1 => ⟨fun c2 => F (bst_F (fun w => c2 (hs.2 w.2.2.1))), fun c2 => ⟨by omega, by omega, hkt, ?_⟩⟩⟩
      obtain ⟨h36, h39⟩ := f801 c1
      obtain ⟨-, ⟨-, -, -, -, g5⟩, -⟩ := hR.flds (t := (n : Int)) (by omega) (by omega) h36 (by omega)
      rw [(g5 (by omega)).2]
      refine ⟨fun c3 => F (bst_F (fun w => by omega)), fun c3 => ⟨by omega, by omega, hkt, ?_⟩⟩
      have eT := bst_T (A := A) (z := z) (n := n) ⟨h36, h39, hs.1 c2, by omega⟩
      show W_X8_nextToEnter_7 c LN (k + 1) 0 (z : Int) (n : Int) (A 49 (n : Int)) (w32 ((n : Int) + 1)) B E Q
      rw [w32_up (by omega)]
      rw [eT] at ih
      exact ih
    have ab := ask_bit z hz n (by omega)
    refine ⟨rfl, rfl, br_F (by omega) ⟨fun w => K 0 ⟨fun _ => ab.1 w, fun _ => rfl⟩, fun w => K 1 ⟨fun w2 => absurd w2 (by decide), fun w2 => absurd (ab.2 w2) w⟩⟩⟩
theorem q_nte {z : Nat} {Q : Int → Prop} (hR : Rep c LN B E A) (hz : z < 64) (h : Q (bst A z 6).1) : W_X8_nextToEnter c LN 0 (z : Int) B E Q := ⟨7, q_nte_go hR hz h 6 0 rfl⟩
end Day
