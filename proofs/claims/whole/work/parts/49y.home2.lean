/-! homeward: the search, the class's side -/
section Home2
variable {c LN : Nat → Nat} {B : Fl} {E : El} {A : Il}
theorem m_home_out {s : Int} {N : Nat} {D : Dst} {Q : Int → Il → Prop} (hR : Rep c LN B E A) (hN : A 6 0 = (N : Int)) (hN2 : N ≤ 16) (hD : Dok D) (h : ∃ n9, W_X9_homeward_292 n9 s (-1) (w32 (A 6 0 - 1)) (hst A (dsa A D N 8)) Q) : ∀ k t : Nat, t + k = 8 → W_X9_homeward_94 (k + 1) s (t : Int) (hst A (dsa A D N t)) Q
  | 0, t, e => by
    have e' : t = 8 := by omega
    subst e'
    exact br_T (by decide) h
  | k + 1, t, e => by
    have ih := m_home_out hR hN hN2 hD h k (t + 1) (by omega)
    refine br_F (by omega) ⟨N + 1, ?_⟩
    have w := m_home_in (D := dsa A D N t) (s := s) (t := (t : Int)) (k94 := fun y0 y1 A' => W_X9_homeward_94 (k + 1) y0 y1 A' Q) (Q := Q) hR hN hN2 (dsa_ok hR.2.2.1 hN hD t) (by rw [w32_up (by omega)]; exact ih) N 0 (Nat.zero_add _)
    exact w
/-- a block with which a way home begins -/
def hmp (A : Il) (D : Dst) (s b : Int) : Prop := ¬ oth A b s = -1 ∧ opn A b = 1 ∧ D s < 1000000 ∧ D (oth A b s) + A 8 b = D s
noncomputable def fw (P : Int → Prop) : Nat → Int → Int
  | 0, _ => -1
  | n + 1, k => @ite Int (P k) (Classical.propDecidable (P k)) k (fw P n (k + 1))
theorem fw_T {P : Int → Prop} {n : Nat} {k : Int} (h : P k) : fw P (n + 1) k = k := if_pos h
theorem fw_F {P : Int → Prop} {n : Nat} {k : Int} (h : ¬ P k) : fw P (n + 1) k = fw P n (k + 1) := if_neg h
theorem fw_none {P : Int → Prop} (h : ∀ k, ¬ P k) : ∀ (n : Nat) (k : Int), fw P n k = -1
  | 0, _ => rfl
  | n + 1, k => by
    rw [fw_F (h k)]
    exact fw_none h n (k + 1)
theorem m_home_back {s : Int} {N : Nat} {D : Dst} {Q : Int → Il → Prop} (hR : Rep c LN B E A) (hN : A 6 0 = (N : Int)) (hN2 : N ≤ 16) (hD : Dok D) (hs : 0 ≤ s ∧ s < 8) (h : Q (fw (hmp A D s) N 0) (hst A D)) : ∀ k : Nat, k ≤ N → W_X9_homeward_292 (k + 1) s (fw (hmp A D s) (N - k) (k : Int)) ((k : Int) - 1) (hst A D) Q
  | 0, _ => br_T (by decide) h
  | k + 1, hk => by
    have ih := m_home_back hR hN hN2 hD hs h k (by omega)
    have hB := hR.2.2.1
    have ob := oth_rg (s := s) hB (b := (k : Int)) (by omega)
    obtain ⟨-, -, w1, w2, w3, w4, w5, w6, w7, -⟩ := hB.2.1 (k : Int) (by omega) (by omega)
    have eN : N - k = (N - (k + 1)) + 1 := by omega
    rw [eN] at ih
    have ek : ((k + 1 : Nat) : Int) - 1 = (k : Int) := by omega
    have ek2 : (k : Int) + 1 = ((k + 1 : Nat) : Int) := by omega
    have ew : w32 ((k : Int) + (-1)) = (k : Int) - 1 := w32_id (by unfold rg; omega)
    rw [ek]
    have F : ¬ hmp A D s (k : Int) → W_X9_homeward_373 (fun y0 y1 y2 A' => W_X9_homeward_292 (k + 1) y0 y1 y2 A' Q) s (fw (hmp A D s) (N - (k + 1)) ((k + 1 : Nat) : Int)) (k : Int) (hst A D) Q := fun w => by
      show W_X9_homeward_292 (k + 1) s (fw (hmp A D s) (N - (k + 1)) ((k + 1 : Nat) : Int)) (w32 ((k : Int) + (-1))) (hst A D) Q
      rw [ew]
      rw [fw_F w, ek2] at ih
      exact ih
    have eo : oth (hst A D) (k : Int) s = oth A (k : Int) s := oth_fr (fun _ => rfl) _ _
    refine br_F (by omega) (m_other ⟨by omega, by omega⟩ ?_)
    rw [eo]
    refine ⟨fun c1 => F (fun w => w.1 c1), fun c1 => ⟨by omega, by omega, fun c2 => F (fun w => c2 (opn_1.1 w.2.1).1), fun c2 => m_isClosed (by omega) ?_⟩⟩
    have c2 : A 17 (k : Int) = -1 := c2
    by_cases c3 : ¬ A 12 (k : Int) = 0 ∨ A 1 0 < A 11 (k : Int)
    · rw [if_pos (show ¬ hst A D 12 (k : Int) = 0 ∨ hst A D 1 0 < hst A D 11 (k : Int) from c3)]
      exact bn_F (by decide) (F (fun w => (opn_1.1 w.2.1).2 c3))
    · rw [if_neg (show ¬ (¬ hst A D 12 (k : Int) = 0 ∨ hst A D 1 0 < hst A D 11 (k : Int)) from c3)]
      have p1 : hst A D 63 s = D s := rfl
      have p2 : hst A D 63 (oth A (k : Int) s) = D (oth A (k : Int) s) := rfl
      have p3 : hst A D 8 (k : Int) = A 8 (k : Int) := rfl
      have dq := hD (oth A (k : Int) s) (by omega) (by omega)
      have q1 : w32 (D (oth A (k : Int) s) + A 8 (k : Int)) = D (oth A (k : Int) s) + A 8 (k : Int) := w32_id (by unfold rg; omega)
      refine bn_T rfl ⟨hs.1, hs.2, ?_⟩
      rw [p1, p2, p3, q1]
      refine ⟨fun c4 => F (fun w => by have := w.2.2.1; omega), fun c4 => ⟨by omega, by omega, by omega, by omega, hs.1, hs.2, fun c5 => F (fun w => c5 w.2.2.2), fun c5 => ?_⟩⟩
      show W_X9_homeward_292 (k + 1) s (k : Int) (w32 ((k : Int) + (-1))) (hst A D) Q
      rw [ew]
      rw [fw_T (show hmp A D s (k : Int) from ⟨c1, opn_1.2 ⟨c2, c3⟩, by omega, c5⟩)] at ih
      exact ih
/-- the class's distances -/
def Isd (E E1 : El) (D : Dst) : Prop := (∀ a, a ≠ .inl 5 → ∀ j, E1 a j = E a j) ∧ ∀ j : Int, 0 ≤ j → j < 8 → E1 (.inl 5) j = D j
theorem q_dist {E1 : El} {D : Dst} {y : Int} {Q : Int → Prop} (hE : Isd E E1 D) (hy : 0 ≤ y ∧ y < 8) (h : Q (D y)) : W_X8_distanceOf c LN 0 y B E1 Q := by
  have l5 : ((ln 5 : Nat) : Int) = 8 := rfl
  refine br_F (by omega) ⟨rfl, rfl, br_F (by omega) ⟨hy.1, by omega, ?_⟩⟩
  rw [hE.2 y hy.1 hy.2]
  exact h
theorem q_shorten {E1 : El} {D : Dst} {x y l : Int} {Q : Fl → El → Prop} (hE : Isd E E1 D) (hD : Dok D) (hx : 0 ≤ x ∧ x < 8) (hy : 0 ≤ y ∧ y < 8) (hl : 0 ≤ l ∧ l ≤ 60) (h : ∀ E2 : El, Isd E E2 (updd D x y l) → Q B E2) : W_X8_shorten c LN 0 x y l B E1 Q := by
  have l5 : ((ln 5 : Nat) : Int) = 8 := rfl
  have dy := hD y hy.1 hy.2
  have ew : w32 (D y + l) = D y + l := w32_id (by unfold rg; omega)
  refine ⟨rfl, q_dist hE hy (br_F (by omega) ⟨rfl, br_F (by omega) ⟨hx.1, by omega, ?_⟩⟩)⟩
  rw [hE.2 x hx.1 hx.2, ew]
  refine ⟨fun c1 => h E1 ⟨hE.1, fun j j0 j1 => ?_⟩, fun c1 => ⟨hx.1, by omega, h _ ⟨fun a ha j => (ue_k ha).trans (hE.1 a ha j), fun j j0 j1 => ?_⟩⟩⟩
  · show _ = if j = x then (if D x ≤ D y + l then D x else D y + l) else D j
    by_cases e : j = x
    · rw [if_pos e, if_pos c1, e]
      exact hE.2 x hx.1 hx.2
    · rw [if_neg e]
      exact hE.2 j j0 j1
  · show _ = if j = x then (if D x ≤ D y + l then D x else D y + l) else D j
    by_cases e : j = x
    · rw [if_pos e, if_neg c1, e]
      exact ue_s
    · rw [if_neg e]
      exact (ue_j e).trans (hE.2 j j0 j1)
theorem q_home_in {t : Int} {N : Nat} {D : Dst} {k32 : Nat → Int → Fl → El → Prop} {Q : Fl → El → Prop} (hR : Rep c LN B E A) (hN : A 6 0 = (N : Int)) (hN2 : N ≤ 16) (hD : Dok D) (h : ∀ E1 : El, Isd E E1 (dsr A D N) → k32 0 (w32 (t + 1)) B E1) : ∀ (k n : Nat) (E1 : El), n + k = N → Isd E E1 (dsr A D n) → W_X8_measureDistances_40 c LN (k + 1) k32 0 t (n : Int) B E1 Q
  | 0, n, E1, e, hE => by
    have e' : n = N := by omega
    subst e'
    have hB := hR.2.2.1
    exact ⟨rfl, rfl, rfl, br_T (by rw [hB.1.2.1]; omega) (h E1 hE)⟩
  | k + 1, n, E1, e, hE => by
    have ih := q_home_in (Q := Q) hR hN hN2 hD h k (n + 1)
    have hB := hR.2.2.1
    have b16 := hB.1
    have ok := dsr_ok hB hD n (by omega)
    obtain ⟨f200, f201, w1, w2, w3, w4, w5, w6, w7, -⟩ := hB.2.1 (n : Int) (by omega) (by omega)
    have f202 := hB.2.2.1 (n : Int) (by omega) (by omega)
    have hk := kd8 (c := c) (v := 100 + (n : Int).toNat) (by omega) (by omega) b16.2.2
    refine ⟨rfl, rfl, rfl, br_F (by rw [b16.2.1]; omega) ⟨rfl, by omega, by rw [b16.2.1]; omega, by omega, hk, q_open hR (b := (n : Int)) (by omega) E1 ⟨fun c1 => ?_, fun c1 => ?_⟩⟩⟩
    · have ed : dsr A D (n + 1) = dsr A D n := if_neg (fun w => by omega)
      rw [ed] at ih
      show W_X8_measureDistances_40 c LN (k + 1) k32 0 t (w32 ((n : Int) + 1)) B E1 Q
      rw [w32_up (by omega)]
      exact ih E1 (by omega) hE
    · have o1 : opn A (n : Int) = 1 := by
        have := opn_01 (A := A) (b := (n : Int))
        omega
      have ed : dsr A D (n + 1) = updd (updd (dsr A D n) (A 7 (2 * (n : Int))) (A 7 (2 * (n : Int) + 1)) (A 8 (n : Int))) (A 7 (2 * (n : Int) + 1)) (A 7 (2 * (n : Int))) (A 8 (n : Int)) := if_pos o1
      rw [ed] at ih
      have k200 : B 200 (bs 8 + (n : Int).toNat) = A 7 (2 * (n : Int)) := f200
      have k201 : B 201 (bs 8 + (n : Int).toNat) = A 7 (2 * (n : Int) + 1) := f201
      have k202 : B 202 (bs 8 + (n : Int).toNat) = A 8 (n : Int) := f202
      rw [k200, k201, k202]
      refine q_shorten hE ok ⟨w1, w2⟩ ⟨w3, w4⟩ ⟨by omega, w7⟩ (fun E2 hE2 => ?_)
      rw [k200, k201, k202]
      refine q_shorten hE2 (updd_ok ok ⟨w1, w2⟩ ⟨w3, w4⟩ (by omega)) ⟨w3, w4⟩ ⟨w1, w2⟩ ⟨by omega, w7⟩ (fun E3 hE3 => ?_)
      show W_X8_measureDistances_40 c LN (k + 1) k32 0 t (w32 ((n : Int) + 1)) B E3 Q
      rw [w32_up (by omega)]
      exact ih E3 (by omega) hE3
theorem q_home_out {N : Nat} {D : Dst} {Q : Fl → El → Prop} (hR : Rep c LN B E A) (hN : A 6 0 = (N : Int)) (hN2 : N ≤ 16) (hD : Dok D) (h : ∀ E1 : El, Isd E E1 (dsa A D N 8) → Q B E1) : ∀ (k t : Nat) (E1 : El), t + k = 8 → Isd E E1 (dsa A D N t) → W_X8_measureDistances_32 c LN (k + 1) 0 (t : Int) B E1 Q
  | 0, t, E1, e, hE => by
    have e' : t = 8 := by omega
    subst e'
    exact br_T (by decide) (h E1 hE)
  | k + 1, t, E1, e, hE => by
    have ih := q_home_out hR hN hN2 hD h k (t + 1)
    refine br_F (by omega) ⟨N + 1, q_home_in (D := dsa A D N t) hR hN hN2 (dsa_ok hR.2.2.1 hN hD t) (fun E2 hE2 => ?_) N 0 E1 (Nat.zero_add _) hE⟩
    show W_X8_measureDistances_32 c LN (k + 1) 0 (w32 ((t : Int) + 1)) B E2 Q
    rw [w32_up (by omega)]
    exact ih E2 (by omega) hE2
theorem q_first_go {s : Int} {N : Nat} {D : Dst} {E1 : El} {Q : Int → Prop} (hR : Rep c LN B E A) (hN : A 6 0 = (N : Int)) (hN2 : N ≤ 16) (hD : Dok D) (hE : Isd E E1 D) (hf : D s < 1000000) : ∀ (k n : Nat), n + k = N → Q (fw (hmp A D s) k (n : Int)) → W_X8_firstBlockOfWay_17 c LN (k + 1) 0 s (D s) (n : Int) B E1 Q
  | 0, n, e, h => by
    have hB := hR.2.2.1
    exact ⟨rfl, rfl, rfl, br_T (by rw [hB.1.2.1]; omega) h⟩
  | k + 1, n, e, h => by
    have hB := hR.2.2.1
    have b16 := hB.1
    have ob := oth_rg (s := s) hB (b := (n : Int)) (by omega)
    obtain ⟨-, -, w1, w2, w3, w4, w5, w6, w7, -⟩ := hB.2.1 (n : Int) (by omega) (by omega)
    have f202 := hB.2.2.1 (n : Int) (by omega) (by omega)
    have hk := kd8 (c := c) (v := 100 + (n : Int).toNat) (by omega) (by omega) b16.2.2
    have F : ¬ hmp A D s (n : Int) → W_X8_firstBlockOfWay_82 c LN (fun y0 y1 y2 y3 => W_X8_firstBlockOfWay_17 c LN (k + 1) y0 y1 y2 y3 B E1 Q) 0 s (D s) (n : Int) B E1 Q := fun w => by
      show W_X8_firstBlockOfWay_17 c LN (k + 1) 0 s (D s) (w32 ((n : Int) + 1)) B E1 Q
      rw [w32_up (by omega)]
      rw [fw_F w, show (n : Int) + 1 = ((n + 1 : Nat) : Int) by omega] at h
      exact q_first_go hR hN hN2 hD hE hf k (n + 1) (by omega) h
    refine ⟨rfl, rfl, rfl, br_F (by rw [b16.2.1]; omega) ⟨rfl, by omega, by rw [b16.2.1]; omega, by omega, hk, q_otherEnd (b := (n : Int)) hB (by omega) ⟨fun c1 => F (fun w => w.1 c1), fun c1 => q_open hR (b := (n : Int)) (by omega) E1 ⟨fun c2 => F (fun w => by have := w.2.1; omega), fun c2 => q_dist hE (by omega) ?_⟩⟩⟩⟩
    have k202 : B 202 (bs 8 + (n : Int).toNat) = A 8 (n : Int) := f202
    have dd := hD (oth A (n : Int) s) (by omega) (by omega)
    rw [k202, w32_id (z := D (oth A (n : Int) s) + A 8 (n : Int)) (by unfold rg; omega)]
    refine ⟨fun c3 => F (fun w => c3 w.2.2.2), fun c3 => ?_⟩
    have o1 : opn A (n : Int) = 1 := by
      have := opn_01 (A := A) (b := (n : Int))
      omega
    rw [fw_T (show hmp A D s (n : Int) from ⟨c1, o1, hf, c3⟩)] at h
    exact h
theorem home_rep {E1 : El} {D D' : Dst} (hR : Rep c LN B E A) (hE : Isd E E1 D) : Rep c LN B E1 (hst A D') := by
  obtain ⟨gG, gS, gB, g0, gH, gE, gC, gN, gK, gL, gR, gD, gY, gU, gW, gP, gT, gX, gZ⟩ := id hR
  have hI : ∀ v j, E1 (.inr v) j = E (.inr v) j := fun v j => hE.1 _ (by intro w; cases w) j
  have hA : ∀ a j, a ≠ 63 → hst A D' a j = A a j := fun a j h => hst_k h
  exact ⟨gG.fr (fun k v h => rfl) (fun a j h => hA a j (by omega)), gS.fr (fun k v h => rfl) (fun a j h => hA a j (by omega)), gB.fr (fun k v h => rfl) (fun a j h => hA a j (by omega)), g0.fr (fun a j h => hA a j (by omega)), gH.fr (fun k v h => rfl) (fun a j h => hA a j (by omega)), gE.fr (fun k v h => rfl) (fun a j h => hA a j (by omega)), gC.fr (fun k v h => rfl) (fun a j h => hA a j (by omega)), gN.fr (fun k v h => rfl) (fun a j h => hA a j (by omega)), gK.fr (fun k v h => rfl) (fun a j h => hA a j (by omega)), gL.fr (fun k v h => rfl) (fun a j h => hA a j (by omega)), gR.fr (fun j => hE.1 _ (by intro w; injection w with w; cases w) j) (fun j => hE.1 _ (by intro w; injection w with w; cases w) j) (fun a j h => hA a j (by omega)), gD.fr (fun k v h => rfl) (fun v j => hI v j) (fun a j h => hA a j (by omega)), gY.fr (fun k v h => rfl) (fun v j => hI v j) (fun a j h => hA a j (by omega)), gU.fr (fun k v h => rfl) (fun v j => hI v j) (fun a j h => hA a j (by omega)), gW.fr (fun a j h => hA a j (by omega)), gP.fr (fun k v h => rfl) (fun v j => hI v j) (fun a j h => hA a j (by omega)), gT.fr (fun k v h => rfl) (fun v j => hI v j) (fun t j => hE.1 _ (by intro w; injection w with w; omega) j) (fun a j h => hA a j (by omega)), gX.fr (fun a j h => hA a j (by omega)), gZ.fr (fun a j h => hA a j (by omega))⟩
set_option maxHeartbeats 1000000 in
theorem sim_homeward {a0 : Int} (hR : Rep c LN B E A) (hp : pz A ≤ 1022) (hr0 : rg a0) : ∃ (ans : Int) (A' : Il), (∀ Q, Q ans A' → W_X9_homeward a0 A Q) ∧ pz A' ≤ pz A + 2 ∧ W_X8_homeward c LN 0 a0 B E (fun z B' E' => A' 0 0 = 0 ∧ z = ans ∧ Rep c LN B' E' A') (fun X9 B' E' => ((X9 = "java/lang/IndexOutOfBoundsException" ∧ A' 0 0 = 1)) ∧ Rep c LN B' E' A') := by
  have gK := hR.2.2.2.2.2.2.2.2.1
  obtain ⟨⟨k1, k2, k3⟩, k4, k5, k6, k7, k8⟩ := id gK
  have h29 : 0 ≤ A 29 0 ∧ A 29 0 ≤ 20 := by omega
  have hR0 : Rep c LN B E (sc A 0 0) := hR.thr
  by_cases hx : 0 ≤ a0 ∧ a0 < A 29 0
  · have hk := kd11 (c := c) (v := 140 + a0.toNat) (by omega) (by omega) k3
    have f0 := k4 a0 hx.1 hx.2
    have f1 := k5 a0 hx.1 hx.2
    have f2 := k6 a0 hx.1 hx.2
    obtain ⟨v1, v2, v3, v4, v5, v6, v7, v8⟩ := k8 a0 hx.1 hx.2
    by_cases c32 : A 32 a0 = -1
    · by_cases c31 : A 31 a0 = A 30 a0
      · refine ⟨-1, sc A 0 0, fun Q hQ => m_isCar1 h29 hx (br_F (by decide) ?_), pz_thr, rfl, q_carOf1 gK hx ⟨hk, bn_T (by rw [f2]; exact c32) (bn_T (by rw [f1, f0]; exact c31) ⟨rfl, rfl, hR0⟩)⟩⟩
        unfold W_X9_homeward_14
        exact br_T le0 ⟨hx.1, by omega, hx.1, by omega, bn_T c32 ⟨hx.1, by omega, bn_T c31 hQ⟩⟩
      · obtain ⟨N, hN⟩ := Int.eq_ofNat_of_zero_le (show 0 ≤ A 6 0 by have := hR.2.2.1.1; omega)
        have hN2 : N ≤ 16 := by have := hR.2.2.1.1; omega
        have hD0 : Dok (dz (sc A 0 0) (A 30 a0) 8) := fun j j0 j1 => by
          have w : dz (sc A 0 0) (A 30 a0) 8 j = if j = A 30 a0 then 0 else 1000000 := if_pos ⟨j0, j1⟩
          rw [w]
          split <;> omega
        have hDN := dsa_ok (N := N) hR0.2.2.1 hN hD0 8
        have l5 : ((ln 5 : Nat) : Int) = 8 := rfl
        have dsv := hDN (A 31 a0) v3 v4
        refine ⟨fw (hmp (sc A 0 0) (dsa (sc A 0 0) (dz (sc A 0 0) (A 30 a0) 8) N 8) (A 31 a0)) N 0, hst (sc A 0 0) (dsa (sc A 0 0) (dz (sc A 0 0) (A 30 a0) 8) N 8), fun Q hQ => m_isCar1 h29 hx (br_F (by decide) ?_), pz_fr rfl (fun _ => rfl) (fun _ => rfl), rfl, q_carOf1 gK hx ⟨hk, bn_T (by rw [f2]; exact c32) (bn_F (by rw [f1, f0]; exact c31) ?_)⟩⟩
        · unfold W_X9_homeward_14
          refine br_T le0 ⟨hx.1, by omega, hx.1, by omega, bn_T c32 ⟨hx.1, by omega, bn_F c31 ⟨9, ?_⟩⟩⟩
          have e1 : w32 (sc A 0 0 6 0 - 1) = (N : Int) - 1 := by
            show w32 (A 6 0 - 1) = _
            rw [hN, w32_id (by unfold rg; omega)]
          have wb := m_home_back (N := N) (Q := Q) hR0 hN hN2 hDN ⟨v3, v4⟩ hQ N (Nat.le_refl _)
          rw [Nat.sub_self] at wb
          have wo := m_home_out (N := N) (D := dz (sc A 0 0) (A 30 a0) 8) (s := A 31 a0) (Q := Q) hR0 hN hN2 hD0 ⟨N + 1, by rw [e1]; exact wb⟩ 8 0 rfl
          have wi := m_home_init (A := sc A 0 0) (x := a0) (s := A 31 a0) (Q := Q) ⟨hx.1, by omega⟩ ⟨9, wo⟩ 8 0 rfl
          rw [show ((0 : Nat) : Int) = 0 from rfl, hst_0] at wi
          exact wi
        · rw [f0]
          refine ⟨rfl, q_fill rfl (fun E1 i1 i2 => br_F (by omega) ⟨rfl, br_F (by omega) ⟨v1, by omega, 9, ?_⟩⟩)⟩
          have hE1 : Isd E (ue E1 (.inl 5) (A 30 a0) 0) (dz (sc A 0 0) (A 30 a0) 8) := ⟨fun a ha j => (ue_k ha).trans (i1 a ha j), fun j j0 j1 => by
            have w : dz (sc A 0 0) (A 30 a0) 8 j = if j = A 30 a0 then 0 else 1000000 := if_pos ⟨j0, j1⟩
            rw [w]
            by_cases e : j = A 30 a0
            · rw [if_pos e, e]; exact ue_s
            · rw [if_neg e]; exact (ue_j e).trans (i2 j j0 (by omega))⟩
          have w := q_home_out (N := N) (LN := LN) (E := E) (D := dz (sc A 0 0) (A 30 a0) 8) (Q := fun B_5 E_6 => W_X8_firstBlockOfWay c LN 0 (B_5 301 (140 + a0.toNat)) B_5 E_6 (fun z8 => hst (sc A 0 0) (dsa (sc A 0 0) (dz (sc A 0 0) (A 30 a0) 8) N 8) 0 0 = 0 ∧ z8 = fw (hmp (sc A 0 0) (dsa (sc A 0 0) (dz (sc A 0 0) (A 30 a0) 8) N 8) (A 31 a0)) N 0 ∧ Rep c LN B_5 E_6 (hst (sc A 0 0) (dsa (sc A 0 0) (dz (sc A 0 0) (A 30 a0) 8) N 8)))) hR0 hN hN2 hD0 (fun E2 hE2 => ?_) 8 0 _ rfl hE1
          · exact w
          · rw [f1]
            have fin := home_rep (D' := dsa (sc A 0 0) (dz (sc A 0 0) (A 30 a0) 8) N 8) hR0 hE2
            refine ⟨rfl, q_dist hE2 ⟨v3, v4⟩ ⟨fun c1 => ⟨N + 1, q_first_go hR0 hN hN2 hDN hE2 c1 N 0 (Nat.zero_add _) ⟨rfl, rfl, fin⟩⟩, fun c1 => ⟨rfl, ?_, fin⟩⟩⟩
            exact (fw_none (fun k w => c1 w.2.2.1) N 0).symm
    · refine ⟨-1, sc A 0 0, fun Q hQ => m_isCar1 h29 hx (br_F (by decide) ?_), pz_thr, rfl, q_carOf1 gK hx ⟨hk, bn_F (by rw [f2]; exact c32) ⟨rfl, rfl, hR0⟩⟩⟩
      unfold W_X9_homeward_14
      exact br_T le0 ⟨hx.1, by omega, hx.1, by omega, bn_F c32 hQ⟩
  · exact ⟨0, sc A 0 1, fun Q hQ => m_isCar0 h29 hx (br_T rfl (by unfold W_X9_homeward_14; exact br_F no1 hQ)), pz_thr, rfl, q_carOf0 gK hx ⟨⟨rfl, rfl⟩, hR.thr⟩⟩
end Home2
