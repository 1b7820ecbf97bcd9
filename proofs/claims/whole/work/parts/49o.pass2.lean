/-! wrecks on the class's side; passSignal -/
section Pass2
variable {c LN : Nat → Nat} {B B' : Fl} {E : El} {A A' : Il}
theorem wrk_n {t b j : Int} {a : Nat} (h : a ≠ 17) (hj : j ≠ t) : wrk A t b a j = A a j := by
  show (if a = 17 then _ else if j = t then _ else A a j) = A a j
  rw [if_neg h, if_neg hj]
theorem wrk_t {t b : Int} : wrk A t b 39 t = 3 ∧ wrk A t b 41 t = b ∧ wrk A t b 46 t = A 47 t := by
  refine ⟨?_, ?_, ?_⟩
  · show (if (39 : Nat) = 17 then _ else if t = t then (if (39 : Nat) = 39 then 3 else _) else _) = _
    rw [if_neg (by decide), if_pos rfl, if_pos rfl]
  · show (if (41 : Nat) = 17 then _ else if t = t then (if (41 : Nat) = 39 then 3 else if (41 : Nat) = 41 then b else _) else _) = _
    rw [if_neg (by decide), if_pos rfl, if_neg (by decide), if_pos rfl]
  · show (if (46 : Nat) = 17 then _ else if t = t then (if (46 : Nat) = 39 then 3 else if (46 : Nat) = 41 then b else if (46 : Nat) = 46 then A 47 t else _) else _) = _
    rw [if_neg (by decide), if_pos rfl, if_neg (by decide), if_neg (by decide), if_pos rfl]
theorem wrk_17 {t b j : Int} (h : 0 ≤ j ∧ j < A 6 0) : wrk A t b 17 j = if A 17 j = t then -1 else A 17 j := by
  show (if 0 ≤ j ∧ j < A 6 0 ∧ A 17 j = t then -1 else A 17 j) = _
  by_cases c : A 17 j = t
  · rw [if_pos ⟨h.1, h.2, c⟩, if_pos c]
  · rw [if_neg (fun w => c w.2.2), if_neg c]
/-- train t holds none of the first n blocks any more -/
def rlB (B : Fl) (t : Int) (n : Nat) : Fl := fun k v => if k = 211 ∧ 100 ≤ v ∧ v < 100 + n ∧ B 211 v = t then -1 else B k v
theorem rlB_k {t : Int} {n k v : Nat} (h : k ≠ 211) : rlB B t n k v = B k v := if_neg (fun w => h w.1)
def wrB (B : Fl) (t b : Int) (n : Nat) : Fl := u2 (u2 (u2 (u2 (u2 (rlB B t n) 801 (40 + t.toNat) 3) 805 (40 + t.toNat) (-1)) 806 (40 + t.toNat) b) 601 (60 + t.toNat) 0) 811 (40 + t.toNat) 0
theorem q_wreck_go {t b : Int} {Q : Fl → El → Prop} {N : Nat} (t0 : 0 ≤ t) (t1 : t < 6) (hN : c 8 = N) (h2 : B 2 8 = (N : Int)) (hN2 : N ≤ 16) (h8 : B 800 (40 + t.toNat) = t) (h : Q (wrB B t b N) E) : ∀ k n : Nat, n + k = N → W_X8_wreck_2 c LN (k + 1) 0 (40 + t.toNat) b (n : Int) (rlB B t n) E Q
  | 0, n, e => by
    have e' : n = N := by omega
    subst e'
    have e60 : 40 + t.toNat + 20 = 60 + t.toNat := by omega
    have q2 : rlB B t n 2 8 = (n : Int) := (rlB_k (by decide)).trans h2
    refine ⟨rfl, rfl, rfl, br_T (by rw [q2]; exact Int.le_refl _) ⟨kdtr (by omega) (by omega), kdtr (by omega) (by omega), kdtw (by omega) (by omega), kdtw (by omega) (by omega), ?_⟩⟩
    rw [e60]
    exact h
  | k + 1, n, e => by
    have q2 : rlB B t n 2 8 = (N : Int) := (rlB_k (by decide)).trans h2
    have q8 : rlB B t n 800 (40 + t.toNat) = t := (rlB_k (by decide)).trans h8
    have qn : rlB B t n 211 (100 + n) = B 211 (100 + n) := if_neg (fun w => by omega)
    have en : 100 + ((n : Int)).toNat = 100 + n := by omega
    have ih := q_wreck_go t0 t1 hN h2 hN2 h8 h k (n + 1) (by omega)
    refine ⟨rfl, rfl, rfl, br_F (by rw [q2]; omega) ⟨rfl, by omega, by rw [q2]; omega, by omega, ?_⟩⟩
    show kd c (100 + ((n : Int)).toNat) = 2 ∧ kd c (40 + t.toNat) = 8 ∧ ((¬ rlB B t n 211 (100 + ((n : Int)).toNat) = rlB B t n 800 (40 + t.toNat) → W_X8_wreck_2 c LN (k + 1) 0 (40 + t.toNat) b (w32 ((n : Int) + 1)) (rlB B t n) E Q) ∧ (rlB B t n 211 (100 + ((n : Int)).toNat) = rlB B t n 800 (40 + t.toNat) → W_X8_wreck_2 c LN (k + 1) 0 (40 + t.toNat) b (w32 ((n : Int) + 1)) (u2 (rlB B t n) 211 (100 + ((n : Int)).toNat) (-1)) E Q))
    rw [en, q8, qn, w32_up (by omega)]
    refine ⟨kd8 (by omega) (by omega) (by omega), kdtr (by omega) (by omega), fun c1 => ?_, fun c1 => ?_⟩
    · have eB : rlB B t n = rlB B t (n + 1) := by
        funext a v
        show (if a = 211 ∧ 100 ≤ v ∧ v < 100 + n ∧ B 211 v = t then (-1 : Int) else B a v) = if a = 211 ∧ 100 ≤ v ∧ v < 100 + (n + 1) ∧ B 211 v = t then -1 else B a v
        by_cases cc : a = 211 ∧ 100 ≤ v ∧ v < 100 + n ∧ B 211 v = t
        · rw [if_pos cc, if_pos ⟨cc.1, cc.2.1, by omega, cc.2.2.2⟩]
        · rw [if_neg cc, if_neg (fun w => by
            by_cases ev : v = 100 + n
            · rw [ev] at w
              exact c1 w.2.2.2
            · exact cc ⟨w.1, w.2.1, by omega, w.2.2.2⟩)]
      rw [eB]
      exact ih
    · have eB : u2 (rlB B t n) 211 (100 + n) (-1) = rlB B t (n + 1) := by
        funext a v
        show (if a = 211 ∧ v = 100 + n then (-1 : Int) else if a = 211 ∧ 100 ≤ v ∧ v < 100 + n ∧ B 211 v = t then -1 else B a v) = if a = 211 ∧ 100 ≤ v ∧ v < 100 + (n + 1) ∧ B 211 v = t then -1 else B a v
        by_cases ev : a = 211 ∧ v = 100 + n
        · rw [if_pos ev, if_pos ⟨ev.1, by omega, by omega, by rw [ev.2]; exact c1⟩]
        · rw [if_neg ev]
          by_cases cc : a = 211 ∧ 100 ≤ v ∧ v < 100 + n ∧ B 211 v = t
          · rw [if_pos cc, if_pos ⟨cc.1, cc.2.1, by omega, cc.2.2.2⟩]
          · rw [if_neg cc, if_neg (fun w => by
              by_cases ev2 : v = 100 + n
              · exact ev ⟨w.1, ev2⟩
              · exact cc ⟨w.1, w.2.1, by omega, w.2.2.2⟩)]
      rw [eB]
      exact ih
theorem rlB_0 {t : Int} : rlB B t 0 = B := by
  funext a v
  exact if_neg (fun w => by omega)
theorem q_wreck {t b : Int} {Q : Fl → El → Prop} (t0 : 0 ≤ t) (t1 : t < 6) (h2 : B 2 8 = (c 8 : Int)) (hN2 : c 8 ≤ 16) (h8 : B 800 (40 + t.toNat) = t) (h : Q (wrB B t b (c 8)) E) : W_X8_wreck c LN 0 (40 + t.toNat) b B E Q := by
  have w := q_wreck_go (LN := LN) (E := E) t0 t1 rfl h2 hN2 h8 h (c 8) 0 (Nat.zero_add _)
  rw [rlB_0] at w
  exact ⟨_, w⟩
set_option maxHeartbeats 4000000 in
theorem wreck_rep {t b : Int} (hR : Rep c LN B E A) (t0 : 0 ≤ t) (t1 : t < 6) (h36 : A 36 t = 1) (h39 : A 39 t ≠ 3) (hb : 0 ≤ b ∧ b < A 6 0) : Rep c LN (wrB B t b (c 8)) E (wrk A t b) := by
  obtain ⟨gG, gS, gB, g0, gH, gE, gC, gN, gK, gL, gR, gD, gY, gU, gW, gP, gT, gX, gZ⟩ := id hR
  obtain ⟨⟨b1, b2, b3⟩, -⟩ := id gB
  obtain ⟨x1, x2, x3⟩ := id gX
  have hB : ∀ q v, (q ≠ 211 ∧ q ≠ 801 ∧ q ≠ 805 ∧ q ≠ 806 ∧ q ≠ 601 ∧ q ≠ 811) → wrB B t b (c 8) q v = B q v := fun q v h => (u2_k (by omega)).trans ((u2_k (by omega)).trans ((u2_k (by omega)).trans ((u2_k (by omega)).trans ((u2_k (by omega)).trans (rlB_k (by omega))))))
  have hBt : ∀ q v, (v ≠ 40 + t.toNat ∧ q ≠ 211 ∧ q ≠ 601) → wrB B t b (c 8) q v = B q v := fun q v h => (u2_w (by omega)).trans ((u2_k (by omega)).trans ((u2_w (by omega)).trans ((u2_w (by omega)).trans ((u2_w (by omega)).trans (rlB_k (by omega))))))
  have h601 : wrB B t b (c 8) 601 (60 + t.toNat) = 0 ∧ ∀ v, v ≠ 60 + t.toNat → wrB B t b (c 8) 601 v = B 601 v := ⟨(u2_k (by decide)).trans u2_s, fun v h => (u2_k (by decide)).trans ((u2_v h).trans ((u2_k (by decide)).trans ((u2_k (by decide)).trans ((u2_k (by decide)).trans (rlB_k (by decide))))))⟩
  have hf : wrB B t b (c 8) 801 (40 + t.toNat) = 3 ∧ wrB B t b (c 8) 805 (40 + t.toNat) = -1 ∧ wrB B t b (c 8) 806 (40 + t.toNat) = b ∧ wrB B t b (c 8) 811 (40 + t.toNat) = 0 := ⟨(u2_k (by decide)).trans ((u2_k (by decide)).trans ((u2_k (by decide)).trans ((u2_k (by decide)).trans u2_s))), (u2_k (by decide)).trans ((u2_k (by decide)).trans ((u2_k (by decide)).trans u2_s)), (u2_k (by decide)).trans ((u2_k (by decide)).trans u2_s), u2_s⟩
  have h211 : ∀ j : Int, 0 ≤ j → j < A 6 0 → wrB B t b (c 8) 211 (100 + j.toNat) = if B 211 (100 + j.toNat) = t then -1 else B 211 (100 + j.toNat) := fun j j0 j1 => by
    refine (u2_k (by decide)).trans ((u2_k (by decide)).trans ((u2_k (by decide)).trans ((u2_k (by decide)).trans ((u2_k (by decide)).trans ?_))))
    show (if 211 = 211 ∧ 100 ≤ 100 + j.toNat ∧ 100 + j.toNat < 100 + c 8 ∧ B 211 (100 + j.toNat) = t then (-1 : Int) else B 211 (100 + j.toNat)) = _
    by_cases cc : B 211 (100 + j.toNat) = t
    · rw [if_pos ⟨rfl, by omega, by omega, cc⟩, if_pos cc]
    · rw [if_neg (fun w => cc w.2.2.2), if_neg cc]
  have hA : ∀ a j, (a ≠ 17 ∧ a ≠ 39 ∧ a ≠ 41 ∧ a ≠ 46) → wrk A t b a j = A a j := fun a j h => wrk_o h
  have hAt : ∀ a j, (j ≠ t ∧ a ≠ 17) → wrk A t b a j = A a j := fun a j h => wrk_n h.2 h.1
  obtain ⟨ha1, ha2, ha3⟩ := wrk_t (A := A) (t := t) (b := b)
  have h17 : ∀ j : Int, 0 ≤ j → j < A 6 0 → wrk A t b 17 j = if A 17 j = t then -1 else A 17 j := fun j j0 j1 => wrk_17 ⟨j0, j1⟩
  generalize wrB B t b (c 8) = B' at *
  generalize wrk A t b = A' at *
  have a6 : A' 6 0 = A 6 0 := hA 6 0 (by omega)
  refine ⟨gG.fr (fun k v h => hB k v (by omega)) (fun a j h => hA a j (by omega)), gS.fr (fun k v h => hB k v (by omega)) (fun a j h => hA a j (by omega)), gB.fr (fun k v h => hB k v (by omega)) (fun a j h => hA a j (by omega)), g0.fr (fun a j h => hA a j (by omega)), ?_, gE.fr (fun k v h => hB k v (by omega)) (fun a j h => hA a j (by omega)), gC.fr (fun k v h => hB k v (by omega)) (fun a j h => hA a j (by omega)), gN.fr (fun k v h => hB k v (by omega)) (fun a j h => hA a j (by omega)), gK.fr (fun k v h => hB k v (by omega)) (fun a j h => hA a j (by omega)), gL.fr (fun k v h => hB k v (by omega)) (fun a j h => hA a j (by omega)), gR.fr (fun _ => rfl) (fun _ => rfl) (fun a j h => hA a j (by omega)), gD.fz (fun v hv => h601.2 v (by omega)) (fun _ _ => rfl) (fun _ _ _ => rfl) (fun a j h => hA a j (by omega)), gY.fz (fun v _ _ => h601.2 v (by omega)) (fun _ _ _ => rfl) (fun _ _ _ _ => rfl) (fun a j h => hA a j (by omega)), gU.fz (fun v _ _ => h601.2 v (by omega)) (fun _ _ _ => rfl) (fun _ _ _ _ => rfl) (fun a j h => hA a j (by omega)), gW.fr (fun a j h => hA a j (by omega)), gP.fz (fun v _ => h601.2 v (by omega)) (fun _ _ => rfl) (fun _ _ _ => rfl) (fun a j h => hA a j (by omega)), ?_, ?_, gZ.fr (fun a j h => hA a j (by omega))⟩
  · -- holders
    intro j j0 j1
    rw [a6] at j1
    obtain ⟨k1, k2, k3, k4⟩ := gH j j0 j1
    rw [h17 j j0 j1, h211 j j0 j1, hB 212 _ (by omega), hA 1 0 (by omega), hA 18 j (by omega)]
    by_cases cc : B 211 (100 + j.toNat) = t
    · rw [if_pos cc]
      have e : (if A 17 j = t then -1 else A 17 j) = -1 := by
        by_cases c2 : A 1 0 < B 212 (100 + j.toNat)
        · rw [if_pos c2, cc] at k1
          rw [if_pos k1]
        · rw [if_neg c2] at k1
          rw [if_neg (by omega)]
          exact k1
      rw [e]
      refine ⟨?_, fun w => absurd rfl w, by decide, by decide⟩
      split <;> rfl
    · rw [if_neg cc]
      have e : ¬ A 17 j = t := fun w => by
        by_cases c2 : A 1 0 < B 212 (100 + j.toNat)
        · rw [if_pos c2] at k1
          exact cc (k1.symm.trans w)
        · rw [if_neg c2] at k1
          omega
      rw [if_neg e]
      exact ⟨k1, k2, k3, k4⟩
  · -- trains
    refine RepT.mk' fun q => ?_
    by_cases eq : q = t
    · subst eq
      intro _ _
      obtain ⟨u_1, u_2, u_3, u_4, u_5⟩ := gT q t0 t1
      obtain ⟨y1, y2, y3, y4, y5, y6, y7, y8, y9, y10, y11, y12, y13, y14, y15, y16, y17, y18, y19, y20, y21, y22, y23, y24, y25, y26, y27, y28, y29, y30, y31, y32, y33, y34, y35, y36⟩ := u_5 h36
      obtain ⟨g1, g2, g3, g4⟩ := hf
      refine ⟨(hB 800 _ (by omega)).trans u_1, u_2, Or.inr ((hA 36 q (by omega)).trans h36), fun w => absurd ((hA 36 q (by omega)).symm.trans w) (by omega), fun _ => ?_⟩
      rw [ha1, ha2, ha3, hA 37 q (by omega), hA 38 q (by omega), hA 40 q (by omega), hA 44 q (by omega), hA 47 q (by omega), hA 50 q (by omega), hA 51 q (by omega), hA 19 0 (by omega), hA 23 0 (by omega), a6, hA 22 _ (by omega), hA 25 _ (by omega), hA 20 _ (by omega), hA 1 0 (by omega)]
      refine ⟨g1, by decide, by decide, (hB 802 _ (by omega)).trans y4, y5, y6, y7, (hB 803 _ (by omega)).trans y8, y9, y10, y11, (hB 804 _ (by omega)).trans y12, g2.trans (if_pos rfl).symm, y14, y15, g3, ⟨fun w => by omega, fun w => absurd w (by decide)⟩, by omega, hb.2, fun w => absurd w (by decide), (hB 808 _ (by omega)).trans (y21.trans (wgt_fr (A := A) (A' := A') (fun j => hA 33 j (by omega)) (fun j => hA 43 j (by omega)) q _).symm), y22, y23, by omega, by omega, y26, fun _ => ⟨h601.1, g4, rfl⟩, fun w => absurd rfl w, fun w => absurd w (by decide), fun w => absurd w (by decide), fun w => absurd w (by unfold Rn; decide), (hB 814 _ (by omega)).trans y32, y33, y34, fun w => (hB 815 _ (by omega)).trans (y35 w), fun j hb0 hb1 => ?_⟩
      rw [if_neg (fun w => by
        have w2 := w.2.1
        rw [h17 j hb0 w.1] at w2
        by_cases cc : A 17 j = q
        · rw [if_pos cc] at w2; omega
        · rw [if_neg cc] at w2; exact cc w2)]
      exact fun w => absurd rfl w
    · intro q0 q1
      exact TrB.fr (gT.tr q) (fun k' hk' => hBt k' _ (by omega)) (h601.2 _ (by omega)) rfl (fun _ => rfl) (fun _ => rfl) (fun a h => hAt a q (by omega)) (hA 1 0 (by omega)) ⟨Int.le_of_eq a6.symm, Int.le_of_eq (hA 19 0 (by omega)).symm, Int.le_of_eq (hA 23 0 (by omega)).symm⟩ (fun _ _ _ _ => ⟨hA 20 _ (by omega), hA 22 _ (by omega)⟩) (fun _ _ _ _ => hA 25 _ (by omega)) (fun _ => wgt_fr (fun j => hA 33 j (by omega)) (fun j => hA 43 j (by omega)) q _) (fun p _ _ => hA 45 _ (by omega)) (fun b _ _ => ⟨hA 7 _ (by omega), hA 7 _ (by omega)⟩) (fun _ j j0 j1 => by
        rw [a6, hA 18 j (by omega)]
        refine ⟨?_, fun _ _ => rfl⟩
        by_cases j6 : j < A 6 0
        · rw [h17 j j0 j6]
          by_cases cc : A 17 j = t
          · rw [if_pos cc, cc]
            exact ⟨fun w => by omega, fun w => absurd w.2.symm eq⟩
          · rw [if_neg cc]
        · exact ⟨fun w => absurd w.1 j6, fun w => absurd w.1 j6⟩) (by omega) q0 q1
  · -- who is held by whom
    refine ⟨fun j j0 j1 w => ?_, fun j j0 j1 w => ?_, fun j j0 j1 w => ?_⟩
    · rw [hA 19 0 (by omega)] at j1
      rw [hA 22 j (by omega)] at w ⊢
      rw [hA 36 _ (by omega), hA 37 _ (by omega)]
      exact x1 j j0 j1 w
    · rw [hA 23 0 (by omega)] at j1
      rw [hA 25 j (by omega)] at w ⊢
      rw [hA 36 _ (by omega), hA 38 _ (by omega)]
      exact x2 j j0 j1 w
    · rw [a6] at j1
      rw [h17 j j0 j1] at w ⊢
      by_cases cc : A 17 j = t
      · rw [if_pos cc] at w
        exact absurd rfl w
      · rw [if_neg cc] at w ⊢
        obtain ⟨w1, w2⟩ := x3 j j0 j1 w
        rw [hA 36 _ (by omega), hAt 39 _ (by omega)]
        exact ⟨w1, w2⟩
/-- what was broken; the cost -/
theorem cash_rep {z k : Int} (hR : Rep c LN B E A) (hz : rg z) : Rep c LN (u2 (u2 B 913 0 z) 915 0 k) E (sc (sc A 2 z) 4 k) := by
  obtain ⟨gG, gS, gB, g0, gH, gE, gC, gN, gK, gL, gR, gD, gY, gU, gW, gP, gT, gX, gZ⟩ := id hR
  obtain ⟨q1, q2, q3, q4, q5, q6, q7, q8⟩ := id gG
  have hB : ∀ q v, (q ≠ 913 ∧ q ≠ 915) → u2 (u2 B 913 0 z) 915 0 k q v = B q v := fun q v h => (u2_k (by omega)).trans (u2_k (by omega))
  have hA : ∀ a j, (a ≠ 2 ∧ a ≠ 4) → sc (sc A 2 z) 4 k a j = A a j := fun a j h => (sc_k (by omega)).trans (sc_k (by omega))
  exact ⟨⟨q1, rfl, q3, rfl, q5, hz, q7, q8⟩, gS.fr (fun k v h => hB k v (by omega)) (fun a j h => hA a j (by omega)), gB.fr (fun k v h => hB k v (by omega)) (fun a j h => hA a j (by omega)), g0.fr (fun a j h => hA a j (by omega)), gH.fr (fun k v h => hB k v (by omega)) (fun a j h => hA a j (by omega)), gE.fr (fun k v h => hB k v (by omega)) (fun a j h => hA a j (by omega)), gC.fr (fun k v h => hB k v (by omega)) (fun a j h => hA a j (by omega)), gN.fr (fun k v h => hB k v (by omega)) (fun a j h => hA a j (by omega)), gK.fr (fun k v h => hB k v (by omega)) (fun a j h => hA a j (by omega)), gL.fr (fun k v h => hB k v (by omega)) (fun a j h => hA a j (by omega)), gR.fr (fun _ => rfl) (fun _ => rfl) (fun a j h => hA a j (by omega)), gD.fr (fun k v h => hB k v (by omega)) (fun _ _ => rfl) (fun a j h => hA a j (by omega)), gY.fr (fun k v h => hB k v (by omega)) (fun _ _ => rfl) (fun a j h => hA a j (by omega)), gU.fr (fun k v h => hB k v (by omega)) (fun _ _ => rfl) (fun a j h => hA a j (by omega)), gW.fr (fun a j h => hA a j (by omega)), gP.fr (fun k v h => hB k v (by omega)) (fun _ _ => rfl) (fun a j h => hA a j (by omega)), gT.fr (fun k v h => hB k v (by omega)) (fun _ _ => rfl) (fun _ _ => rfl) (fun a j h => hA a j (by omega)), gX.fr (fun a j h => hA a j (by omega)), gZ.fr (fun a j h => hA a j (by omega))⟩
/-- a block with wrecks in it -/
theorem hasw_rep {b : Int} (hR : Rep c LN B E A) (hb : 0 ≤ b ∧ b < A 6 0) : Rep c LN (u2 B 210 (100 + b.toNat) 1) E (ui A 12 b 1) := by
  obtain ⟨gG, gS, gB, g0, gH, gE, gC, gN, gK, gL, gR, gD, gY, gU, gW, gP, gT, gX, gZ⟩ := id hR
  obtain ⟨⟨b1, b2, b3⟩, b4, b5, b6, b7, b8, b9, b10, b11, b12, b13, b14⟩ := id gB
  have hB : ∀ q v, q ≠ 210 → u2 B 210 (100 + b.toNat) 1 q v = B q v := fun q v h => u2_k h
  have hA : ∀ a j, a ≠ 12 → ui A 12 b 1 a j = A a j := fun a j h => ui_k h
  refine ⟨gG.fr (fun k v h => hB k v (by omega)) (fun a j h => hA a j (by omega)), gS.fr (fun k v h => hB k v (by omega)) (fun a j h => hA a j (by omega)), ?_, ?_, gH.fr (fun k v h => hB k v (by omega)) (fun a j h => hA a j (by omega)), gE.fr (fun k v h => hB k v (by omega)) (fun a j h => hA a j (by omega)), gC.fr (fun k v h => hB k v (by omega)) (fun a j h => hA a j (by omega)), gN.fr (fun k v h => hB k v (by omega)) (fun a j h => hA a j (by omega)), gK.fr (fun k v h => hB k v (by omega)) (fun a j h => hA a j (by omega)), gL.fr (fun k v h => hB k v (by omega)) (fun a j h => hA a j (by omega)), gR.fr (fun _ => rfl) (fun _ => rfl) (fun a j h => hA a j (by omega)), gD.fr (fun k v h => hB k v (by omega)) (fun _ _ => rfl) (fun a j h => hA a j (by omega)), gY.fr (fun k v h => hB k v (by omega)) (fun _ _ => rfl) (fun a j h => hA a j (by omega)), gU.fr (fun k v h => hB k v (by omega)) (fun _ _ => rfl) (fun a j h => hA a j (by omega)), gW.fr (fun a j h => hA a j (by omega)), gP.fr (fun k v h => hB k v (by omega)) (fun _ _ => rfl) (fun a j h => hA a j (by omega)), gT.fr (fun k v h => hB k v (by omega)) (fun _ _ => rfl) (fun _ _ => rfl) (fun a j h => hA a j (by omega)), gX.fr (fun a j h => hA a j (by omega)), gZ.fr (fun a j h => hA a j (by omega))⟩
  · refine ⟨⟨b1, b2, b3⟩, b4, b5, b6, b7, b8, b9, b10, b11, b12, b13.put hb.1 ⟨u2_s, fun v h => u2_v h⟩ ⟨ui_s, fun j h => ui_j h⟩, fun j j0 j1 => ?_⟩
    obtain ⟨w1, w2, w3, w4⟩ := b14 j j0 j1
    refine ⟨w1, w2, ?_, w4⟩
    by_cases ej : j = b
    · rw [ej, ui_s]; exact Or.inr rfl
    · rw [ui_j ej]; exact w3
  · intro j j0 j1
    have j0 : A 6 0 ≤ j := j0
    obtain ⟨w1, w2, w3, w4⟩ := g0 j j0 j1
    refine ⟨w1, w2, ?_, w4⟩
    rw [ui_j (by omega)]
    exact w3
set_option maxHeartbeats 4000000 in
theorem sim_passSignal {a0 : Int} (hR : Rep c LN B E A) (hp : pz A ≤ 1022) (hr0 : rg a0) : ∃ (ans : Int) (A' : Il), (∀ Q, Q ans A' → W_X9_passSignal a0 A Q) ∧ pz A' ≤ pz A + 2 ∧ (ans = 0 ∨ ans = 1) ∧ W_X8_passSignal c LN 0 a0 B E (fun z B' E' => A' 0 0 = 0 ∧ z = ans ∧ Rep c LN B' E' A') (fun X9 B' E' => ((X9 = "java/lang/IndexOutOfBoundsException" ∧ A' 0 0 = 1) ∨ (X9 = "java/lang/IllegalStateException" ∧ A' 0 0 = 2)) ∧ Rep c LN B' E' A') := by
  have gT := hR.2.2.2.2.2.2.2.2.2.2.2.2.2.2.2.2.1
  have hR0 : Rep c LN B E (sc A 0 0) := hR.thr
  by_cases h1 : 0 ≤ a0 ∧ a0 < 6 ∧ ¬ A 36 a0 = 0
  · have hk := kdtr (c := c) (v := 40 + a0.toNat) (by omega) (by omega)
    have e36 := ((gT.is (x := a0) h1.1 h1.2.1).2 h1.2.2)
    have fin : ∀ (X : String), X = "java/lang/IllegalStateException" → (((X = "java/lang/IndexOutOfBoundsException" ∧ sc (sc A 0 0) 0 2 0 0 = 1) ∨ (X = "java/lang/IllegalStateException" ∧ sc (sc A 0 0) 0 2 0 0 = 2)) ∧ Rep c LN B E (sc (sc A 0 0) 0 2)) := fun X hX => ⟨Or.inr ⟨hX, rfl⟩, hR.thr.thr⟩
    by_cases h39 : A 39 a0 = 1
    · have hr : Rdy c (sc A 0 0) a0 := hR0.rdy h1.1 h1.2.1 e36.1 h39
      obtain ⟨⟨r1, r2, r3, r4⟩, ⟨r5, r6, r7⟩, ⟨r8, r9, r10⟩, ⟨r11, r12⟩, ⟨r13, r14, r15, r16, r17⟩, ⟨r18, r19, r20⟩, r21, r22, r23, r24, r25, r26, r27, r28⟩ := id hr
      obtain ⟨a1, a2⟩ := fb_add (P := bp (sc A 0 0) a0 (nb (sc A 0 0) a0)) (m := 5) 5 1 (by decide)
      have zsr := fb_rg (P := bp (sc A 0 0) a0 (nb (sc A 0 0) a0)) 5 1
      have zrr := fb_rg (P := bp (sc A 0 0) a0 (nb (sc A 0 0) a0)) 5 6
      have zn := fb_none (P := bp (sc A 0 0) a0 (nb (sc A 0 0) a0)) 5 6 (by decide)
      have gB := hR0.2.2.1
      have hkb := kd8 (c := c) (v := 100 + (nb (sc A 0 0) a0).toNat) (by omega) (by have := gB.1; omega) gB.1.2.2
      have gH := hR0.2.2.2.2.1 (nb (sc A 0 0) a0) r5 r6
      have gX := hR0.2.2.2.2.2.2.2.2.2.2.2.2.2.2.2.2.2.1.2.2 (nb (sc A 0 0) a0) r5 r6
      have f210 := gB.2.2.2.2.2.2.2.2.2.2.1 (nb (sc A 0 0) a0) r5 r6
      have hmon : rg (w32 (A 2 0 - 50)) := rg_w32 _
      have e1 : w32 (8 * a0) = 8 * a0 := w32_id (by unfold rg; omega)
      have e2 : w32 (8 * a0 + A 46 a0) = 8 * a0 + A 46 a0 := w32_id (by
        have q1 : 0 ≤ A 46 a0 := r8
        have q2 : A 46 a0 < A 47 a0 := r9
        have q3 : A 47 a0 ≤ 8 := r10
        unfold rg; omega)
      have e46 : 0 ≤ A 46 a0 ∧ A 46 a0 < 8 := by
        have q1 : 0 ≤ A 46 a0 := r8
        have q2 : A 46 a0 < A 47 a0 := r9
        have q3 : A 47 a0 ≤ 8 := r10
        omega
      have hb16 : 0 ≤ nb (sc A 0 0) a0 ∧ nb (sc A 0 0) a0 < 16 := by omega
      generalize hbb : nb (sc A 0 0) a0 = b at *
      generalize hzr : fb (bp (sc A 0 0) a0 b) 5 6 = zr at *
      generalize hzs : fb (bp (sc A 0 0) a0 b) 5 1 = zs at *
      have gH1 : A 17 b = (if A 1 0 < B 212 (100 + b.toNat) then B 211 (100 + b.toNat) else -1) := gH.1
      -- the reference, as far as the first answer
      have mref : ∀ Q : Int → Il → Prop, W_X9_passSignal_77 a0 (fb (bp (sc A 0 0) a0 b) 10 1) b (sc A 0 0) Q → W_X9_passSignal a0 A Q := fun Q hQ => by
        refine m_isTrain1 h1 (br_F (by decide) ?_)
        unfold W_X9_passSignal_14
        refine br_T le0 ⟨h1.1, h1.2.1, bn_T h39 (m_bar hR0 hr ?_)⟩
        rw [hbb]
        refine ⟨h1.1, h1.2.1, bn_T h39 ⟨h1.1, h1.2.1, ?_⟩⟩
        show 0 ≤ w32 (w32 (8 * a0) + A 46 a0) ∧ w32 (w32 (8 * a0) + A 46 a0) < 48 ∧ W_X9_passSignal_77 a0 _ (A 45 (w32 (w32 (8 * a0) + A 46 a0))) (sc A 0 0) Q
        rw [e1, e2]
        have eb : A 45 (8 * a0 + A 46 a0) = b := hbb
        rw [eb]
        exact ⟨by omega, by omega, hQ⟩
      -- the class, as far as the first answer
      have qcls : ∀ {Q : Int → Fl → El → Prop} {QX : String → Fl → El → Prop}, ((zs < 3 → W_X8_passSignal_64 c LN 0 a0 (40 + a0.toNat) b (100 + b.toNat) zs B E Q QX) ∧ (¬ zs < 3 → ((¬ zr = 0 → W_X8_passSignal_64 c LN 0 a0 (40 + a0.toNat) b (100 + b.toNat) zs B E Q QX) ∧ (zr = 0 → W_X8_passSignal_65 c LN 0 a0 (40 + a0.toNat) b (100 + b.toNat) zs 1 B E Q QX)))) → W_X8_passSignal c LN 0 a0 B E Q QX := fun hQ => by
        refine ⟨rfl, q_trainOf1 gT h1 ⟨hk, bn_T (by rw [e36.2.1]; exact h39) ?_⟩⟩
        unfold W_X8_passSignal_19
        refine q_state1 ⟨hk, q_next hR0 h1.1 h1.2.1 e36.1 (show ¬ A 39 a0 = 3 by omega) ?_⟩
        rw [if_pos r9, hbb]
        refine ⟨rfl, q_blockOf1 gB ⟨r5, r6⟩ (q_start hR0 hr ⟨r5, r6⟩ ?_)⟩
        rw [hzs]
        refine ⟨hQ.1, fun w => q_run hR0 hr hbb.symm ?_⟩
        rw [hzr]
        exact hQ.2 w
      by_cases can : 3 ≤ zs ∧ zr = 0 ∧ ¬ A 17 b = a0 ∧ A 12 b = 0
      · obtain ⟨g1, g2, g3, g4⟩ := can
        have ezs := a2 (by omega)
        have ez : fb (bp (sc A 0 0) a0 b) 10 1 = zs := ezs
        rw [ez] at mref
        have hd : A 26 (A 38 a0) + rnv (sc A 0 0) a0 b ≤ 600 := Classical.byContradiction (fun w => zn g2 9 (by decide) (by decide) (Or.inr w))
        have mref2 : ∀ Q : Int → Il → Prop, ((¬ A 17 b = -1 → W_X9_wrecks (A 17 b) b (sc (sc (sc A 0 0) 2 (w32 (A 2 0 - 50))) 4 zs) (fun A3 => W_X9_wrecks a0 b A3 (fun A6 => 0 ≤ b ∧ b < 16 ∧ Q 0 (ui A6 12 b 1)))) ∧ (A 17 b = -1 → W_X9_enters a0 (sc (sc (sc A 0 0) 2 (w32 (A 2 0 - 50))) 4 zs) (fun A9 => Q 1 A9))) → W_X9_passSignal a0 A Q := fun Q hQ => by
          refine mref Q (m_in1 (by omega) (br_F (by decide) (m_bar6 hR0 hr ?_)))
          rw [hbb, hzr]
          refine br_F (by omega) ⟨hb16.1, hb16.2, br_F g3 ⟨hb16.1, hb16.2, br_T g4 ⟨hb16.1, hb16.2, fun w => ⟨hb16.1, hb16.2, hQ.1 w⟩, fun w => hQ.2 w⟩⟩⟩
        have hR2 : Rep c LN (u2 (u2 B 913 0 (w32 (A 2 0 - 50))) 915 0 zs) E (sc (sc (sc A 0 0) 2 (w32 (A 2 0 - 50))) 4 zs) := cash_rep hR0 hmon
        have hr2 : Rdy c (sc (sc (sc A 0 0) 2 (w32 (A 2 0 - 50))) 4 zs) a0 := hR2.rdy h1.1 h1.2.1 e36.1 h39
        have e913 : B 913 0 = A 2 0 := hR.1.2.1
        by_cases g5 : A 17 b = -1
        · refine ⟨1, ent (sc (sc (sc A 0 0) 2 (w32 (A 2 0 - 50))) 4 zs) a0, fun Q hQ => mref2 Q ⟨fun w => absurd g5 w, fun _ => m_enters hR2 hr2 ?_ hQ⟩, pz_fr rfl (fun _ => rfl) (fun _ => rfl), Or.inr rfl, qcls ⟨fun w => by omega, fun _ => ⟨fun w => absurd g2 w, fun _ => ?_⟩⟩⟩
          · have er : rnv (sc (sc (sc A 0 0) 2 (w32 (A 2 0 - 50))) 4 zs) a0 b = rnv (sc A 0 0) a0 b := rnv_fr (fun a j h => (sc_k (by omega)).trans (sc_k (by omega)))
            have eb : nb (sc (sc (sc A 0 0) 2 (w32 (A 2 0 - 50))) 4 zs) a0 = b := hbb
            rw [eb, er]
            exact hd
          · unfold W_X8_passSignal_65
            refine q_state1 ⟨rfl, hkb, q_holderAt hkb ?_⟩
            rw [hR.1.1, ← gH1]
            refine br_F g3 (bn_T (by rw [f210]; exact g4) ?_)
            unfold W_X8_passSignal_98
            refine q_state1 ⟨rfl, br_T g5 ?_⟩
            rw [e913]
            have eb : nb (sc (sc (sc A 0 0) 2 (w32 (A 2 0 - 50))) 4 zs) a0 = b := hbb
            have qe := @q_enter c LN (u2 (u2 B 913 0 (w32 (A 2 0 - 50))) 915 0 zs) E (sc (sc (sc A 0 0) 2 (w32 (A 2 0 - 50))) 4 zs) a0 (fun B_3 E_4 => ent (sc (sc (sc A 0 0) 2 (w32 (A 2 0 - 50))) 4 zs) a0 0 0 = 0 ∧ (1 : Int) = 1 ∧ Rep c LN B_3 E_4 (ent (sc (sc (sc A 0 0) 2 (w32 (A 2 0 - 50))) 4 zs) a0)) (fun X9 B' E' => ((X9 = "java/lang/IndexOutOfBoundsException" ∧ ent (sc (sc (sc A 0 0) 2 (w32 (A 2 0 - 50))) 4 zs) a0 0 0 = 1) ∨ (X9 = "java/lang/IllegalStateException" ∧ ent (sc (sc (sc A 0 0) 2 (w32 (A 2 0 - 50))) 4 zs) a0 0 0 = 2)) ∧ Rep c LN B' E' (ent (sc (sc (sc A 0 0) 2 (w32 (A 2 0 - 50))) 4 zs) a0)) hR2 hr2 ⟨rfl, rfl, ent_rep hR2 hr2 (by rw [eb]; exact g5) (by
              have er : rnv (sc (sc (sc A 0 0) 2 (w32 (A 2 0 - 50))) 4 zs) a0 b = rnv (sc A 0 0) a0 b := rnv_fr (fun a j h => (sc_k (by omega)).trans (sc_k (by omega)))
              rw [eb, er]
              exact hd)⟩
            rw [eb] at qe
            exact qe
        · have hh : 0 ≤ A 17 b ∧ A 17 b < 6 := by
            have q1 : -1 ≤ A 17 b := gH.2.2.1
            have q2 : A 17 b < 6 := gH.2.2.2
            omega
          obtain ⟨x36, x39⟩ := gX g5
          have x36 : A 36 (A 17 b) = 1 := x36
          have x39 : A 39 (A 17 b) ≠ 3 := x39
          have h60 : 0 ≤ A 6 0 ∧ A 6 0 ≤ 16 := ⟨by have q : b < A 6 0 := r6; omega, r7⟩
          refine ⟨0, ui (wrk (wrk (sc (sc (sc A 0 0) 2 (w32 (A 2 0 - 50))) 4 zs) (A 17 b) b) a0 b) 12 b 1, fun Q hQ => mref2 Q ⟨fun _ => m_wrecks hh.1 hh.2 h60 (m_wrecks h1.1 h1.2.1 ?_ ⟨hb16.1, hb16.2, hQ⟩), fun w => absurd w g5⟩, ?_, Or.inl rfl, qcls ⟨fun w => by omega, fun _ => ⟨fun w => absurd g2 w, fun _ => ?_⟩⟩⟩
          · rw [wrk_o (by decide)]
            exact h60
          · refine pz_fr ((ui_k (by decide)).trans ((wrk_o (by decide)).trans (wrk_o (by decide)))) (fun _ => (ui_k (by decide)).trans ((wrk_o (by decide)).trans (wrk_o (by decide)))) (fun _ => (ui_k (by decide)).trans ((wrk_o (by decide)).trans (wrk_o (by decide))))
          · unfold W_X8_passSignal_65
            refine q_state1 ⟨rfl, hkb, q_holderAt hkb ?_⟩
            rw [hR.1.1, ← gH1]
            refine br_F g3 (bn_T (by rw [f210]; exact g4) ?_)
            unfold W_X8_passSignal_98
            refine q_state1 ⟨rfl, br_F g5 ?_⟩
            rw [e913]
            have gB2 := hR2.2.2.1
            have gT2 := hR2.2.2.2.2.2.2.2.2.2.2.2.2.2.2.2.2.1
            have hR3 := wreck_rep (b := b) hR2 h1.1 h1.2.1 e36.1 (show A 39 a0 ≠ 3 by omega) ⟨r5, r6⟩
            have gB3 := hR3.2.2.1
            have gT3 := hR3.2.2.2.2.2.2.2.2.2.2.2.2.2.2.2.2.1
            have w36 : wrk (sc (sc (sc A 0 0) 2 (w32 (A 2 0 - 50))) 4 zs) a0 b 36 (A 17 b) = 1 := (wrk_o (by decide)).trans x36
            have w39 : wrk (sc (sc (sc A 0 0) 2 (w32 (A 2 0 - 50))) 4 zs) a0 b 39 (A 17 b) ≠ 3 := by
              rw [wrk_n (by decide) g3]
              exact x39
            have w6 : b < wrk (sc (sc (sc A 0 0) 2 (w32 (A 2 0 - 50))) 4 zs) a0 b 6 0 := by
              rw [wrk_o (by decide)]
              exact r6
            have hR4 := wreck_rep (b := b) hR3 hh.1 hh.2 w36 w39 ⟨r5, w6⟩
            have w6b : b < wrk (wrk (sc (sc (sc A 0 0) 2 (w32 (A 2 0 - 50))) 4 zs) a0 b) (A 17 b) b 6 0 := by
              rw [wrk_o (by decide)]
              exact w6
            have hR5 := hasw_rep (b := b) hR4 ⟨r5, w6b⟩
            rw [wrk_com (fun w => g3 w.symm) (by omega) (by omega)] at hR5
            have c8 : ∀ {B9 : Fl} {A9 : Il}, RepB c B9 A9 → B9 2 8 = (c 8 : Int) ∧ c 8 ≤ 16 := fun h => ⟨h.1.2.1.trans h.1.1, h.1.2.2⟩
            have z0 : ui (wrk (wrk (sc (sc (sc A 0 0) 2 (w32 (A 2 0 - 50))) 4 zs) (A 17 b) b) a0 b) 12 b 1 0 0 = 0 := (ui_k (by decide)).trans ((wrk_o (by decide)).trans ((wrk_o (by decide)).trans rfl))
            refine q_wreck h1.1 h1.2.1 (c8 gB2).1 (c8 gB2).2 (gT2 a0 h1.1 h1.2.1).1 ?_
            refine q_trainOf1 gT3 ⟨hh.1, hh.2, by rw [w36]; decide⟩ ?_
            refine q_wreck hh.1 hh.2 (c8 gB3).1 (c8 gB3).2 (gT3 (A 17 b) hh.1 hh.2).1 ⟨hkb, z0, rfl, hR5⟩
      · refine ⟨0, sc (sc A 0 0) 0 2, fun Q hQ => mref Q ?_, pz_thr, Or.inl rfl, qcls ⟨fun w => ?_, fun w => ⟨fun w2 => ?_, fun w2 => ?_⟩⟩⟩
        · have F : W_X9_passSignal_116 (sc A 0 0) Q := hQ
          by_cases c1 : 3 ≤ zs
          · have ez : fb (bp (sc A 0 0) a0 b) 10 1 = zs := a2 (by omega)
            rw [ez]
            refine m_in1 (by omega) (br_F (by decide) (m_bar6 hR0 hr ?_))
            rw [hbb, hzr]
            refine ⟨fun _ => F, fun c2 => ⟨hb16.1, hb16.2, fun _ => F, fun c3 => ⟨hb16.1, hb16.2, fun c4 => absurd ⟨c1, by omega, c3, c4⟩ can, fun _ => F⟩⟩⟩
          · have nz : ¬ (3 ≤ fb (bp (sc A 0 0) a0 b) 10 1 ∧ fb (bp (sc A 0 0) a0 b) 10 1 ≤ 5) := fun w => by
              by_cases c2 : zs = 0
              · have k := a1 c2
                have k : fb (bp (sc A 0 0) a0 b) 10 1 = fb (bp (sc A 0 0) a0 b) 5 6 := k
                rw [k, hzr] at w
                omega
              · have k : fb (bp (sc A 0 0) a0 b) 10 1 = zs := a2 c2
                rw [k] at w
                omega
            exact m_in0 nz (br_T rfl F)
        · unfold W_X8_passSignal_64 W_X8_passSignal_65
          exact q_state0 (fin _ rfl)
        · unfold W_X8_passSignal_64 W_X8_passSignal_65
          exact q_state0 (fin _ rfl)
        · unfold W_X8_passSignal_65
          refine q_state1 ⟨rfl, hkb, q_holderAt hkb ?_⟩
          rw [hR.1.1, ← gH1]
          refine ⟨fun _ => ?_, fun c3 => ⟨fun _ => ?_, fun c4 => ?_⟩⟩
          · unfold W_X8_passSignal_97 W_X8_passSignal_98
            exact q_state0 (fin _ rfl)
          · unfold W_X8_passSignal_97 W_X8_passSignal_98
            exact q_state0 (fin _ rfl)
          · rw [f210] at c4
            exact absurd ⟨by omega, w2, c3, c4⟩ can
    · refine ⟨0, sc (sc A 0 0) 0 2, fun Q hQ => m_isTrain1 h1 (br_F (by decide) ?_), pz_thr, Or.inl rfl, rfl, q_trainOf1 gT h1 ⟨hk, bn_F (by rw [e36.2.1]; exact h39) ?_⟩⟩
      · unfold W_X9_passSignal_14
        exact br_T le0 ⟨h1.1, h1.2.1, bn_F h39 ⟨h1.1, h1.2.1, bn_F h39 (m_in0 (by decide) (br_T rfl hQ))⟩⟩
      · unfold W_X8_passSignal_19
        exact q_state0 (fin _ rfl)
  · exact ⟨0, sc A 0 1, fun Q hQ => m_isTrain0 h1 (br_T rfl (by unfold W_X9_passSignal_14; exact br_F no1 hQ)), pz_thr, Or.inl rfl, rfl, q_trainOf0 gT h1 ⟨Or.inl ⟨rfl, rfl⟩, hR.thr⟩⟩
end Pass2
