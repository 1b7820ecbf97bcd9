/-! a train enters a block -/
section Ent
variable {c LN : Nat → Nat} {B B' : Fl} {E : El} {A A' : Il}
theorem m_runs2 {t b : Int} {Q : Int → Prop} (h0 : 0 ≤ t) (h1 : t < 6) (hb : 0 ≤ b ∧ b < 16) (y5 : 0 ≤ A 37 t ∧ A 37 t < 6) (k1 : 1 ≤ A 20 (A 37 t) ∧ A 20 (A 37 t) ≤ 9) (h44 : 0 ≤ A 44 t ∧ A 44 t ≤ 10) (hc : ∀ j : Int, 0 ≤ j → j < A 44 t → 0 ≤ A 43 (10 * t + j) ∧ A 43 (10 * t + j) < 20) (h : Q (rnv A t b)) : W_X9_runs t b A Q := by
  have ne : w32 (10 * A 20 (A 37 t)) ≠ 0 := by
    rw [w32_id (by unfold rg; omega)]
    omega
  refine ⟨hb.1, hb.2, hb.1, hb.2, m_weight h0 h1 h44 hc ⟨h0, h1, y5.1, y5.2, ne, hb.1, hb.2, ?_⟩⟩
  unfold rnv rnm at h
  by_cases c1 : A 10 b < 60
  · rw [if_pos c1] at h
    refine br_T c1 ⟨hb.1, hb.2, ?_⟩
    by_cases c2 : A 13 b = 0
    · rw [if_pos c2, ← rnn_w] at h
      exact br_T c2 h
    · rw [if_neg c2, ← rnn_w] at h
      exact br_F c2 h
  · rw [if_neg c1] at h
    refine br_F c1 ⟨hb.1, hb.2, hb.1, hb.2, ?_⟩
    by_cases c2 : A 13 b = 0
    · rw [if_pos c2] at h
      exact br_T c2 h
    · rw [if_neg c2] at h
      exact br_F c2 h
theorem rnv_fr {t b : Int} (h : ∀ a j, (a = 8 ∨ a = 10 ∨ a = 13 ∨ a = 20 ∨ a = 33 ∨ a = 37 ∨ a = 43 ∨ a = 44) → A' a j = A a j) : rnv A' t b = rnv A t b := by
  unfold rnv rnm rnn
  rw [h 8 b (by omega), h 10 b (by omega), h 13 b (by omega), h 37 t (by omega), h 20 _ (by omega), h 44 t (by omega), wgt_fr (A := A) (A' := A') (fun j => h 33 j (by omega)) (fun j => h 43 j (by omega))]
/-- what entering does to the reference's rows -/
def ent (A : Il) (t : Int) : Il := ui (ui (ui (ui (ui (ui (ui (ui (ui (ui A 17 (nb A t) t) 18 (nb A t) (clm A t (nb A t))) 14 (nb A t) 0) 26 (A 38 t) (A 26 (A 38 t) + rnv A t (nb A t))) 42 t (A 1 0 + rnv A t (nb A t))) 50 t (if A 51 t = A 40 t then -1 else A 50 t)) 40 t (oth A (nb A t) (A 40 t))) 41 t (nb A t)) 39 t 2) 46 t (A 46 t + 1)
set_option maxHeartbeats 4000000 in
theorem m_enters {t : Int} {Q : Il → Prop} (hR : Rep c LN B E A) (hr : Rdy c A t) (hd : A 26 (A 38 t) + rnv A t (nb A t) ≤ 600) (h : Q (ent A t)) : W_X9_enters t A Q := by
  obtain ⟨⟨r1, r2, r3, r4⟩, ⟨r5, r6, r7⟩, ⟨r8, r9, r10⟩, ⟨r11, r12⟩, ⟨r13, r14, r15, r16, r17⟩, ⟨r18, r19, r20⟩, r21, r22, r23, r24, r25, r26, r27, r28⟩ := hr
  have gU := hR.2.2.2.2.2.2.2.2.2.2.2.2.2.1
  have d8 := hR.2.2.2.2.2.2.1.2.2.2.2.2.1 (A 38 t) r18 r19
  have h29 : A 29 0 ≤ 20 := by have := hR.2.2.2.2.2.2.2.2.1.1; omega
  obtain ⟨ru1, ru2⟩ := (gU t r1 r2).2 r3
  have hc : ∀ j : Int, 0 ≤ j → j < A 44 t → 0 ≤ A 43 (10 * t + j) ∧ A 43 (10 * t + j) < 20 := fun j j0 j1 => ⟨(ru2 j j0 j1).1, Int.lt_of_lt_of_le (ru2 j j0 j1).2.1 h29⟩
  have e1 : w32 (8 * t) = 8 * t := w32_id (by unfold rg; omega)
  have e2 : w32 (8 * t + A 46 t) = 8 * t + A 46 t := w32_id (by unfold rg; omega)
  have eb : A 45 (8 * t + A 46 t) = nb A t := rfl
  have hb16 : 0 ≤ nb A t ∧ nb A t < 16 := by omega
  unfold ent at h
  unfold W_X9_enters
  rw [e1, e2, eb]
  generalize hbb : nb A t = b at *
  refine ⟨r1, r2, by omega, by omega, m_runs2 r1 r2 hb16 ⟨r13, by omega⟩ ⟨r16, r17⟩ r22 hc ⟨hb16.1, hb16.2, m_runs2 (A := ui A 17 b t) r1 r2 hb16 ⟨r13, by show A 37 t < 6; omega⟩ ⟨r16, r17⟩ r22 hc ⟨r1, r2, ?_⟩⟩⟩
  have ev : rnv (ui A 17 b t) t b = rnv A t b := rnv_fr (fun a j h => ui_k (by omega))
  have eU : w32 (w32 (w32 (ui A 17 b t 1 0 + rnv (ui A 17 b t) t b) + 1) + w32 (Int.tdiv (ui A 17 b t 44 t) 4)) = clm A t b := by
    rw [ev]
    show w32 (w32 (w32 (A 1 0 + rnv A t b) + 1) + w32 (Int.tdiv (A 44 t) 4)) = _
    rw [Int.tdiv_eq_ediv_of_nonneg r22.1, w32_id (z := A 1 0 + rnv A t b) (by unfold rg; omega), w32_id (z := A 1 0 + rnv A t b + 1) (by unfold rg; omega), w32_id (z := A 44 t / 4) (by unfold rg; omega), w32_id (by unfold rg; omega)]
    unfold clm
    omega
  rw [eU]
  dsimp only
  have e38 : (ui (ui (ui A 17 b t) 18 b (clm A t b)) 14 b 0) 38 t = A 38 t := rfl
  rw [e38]
  have e26 : (ui (ui (ui A 17 b t) 18 b (clm A t b)) 14 b 0) 26 (A 38 t) = A 26 (A 38 t) := rfl
  rw [e26]
  have d1 : w32 (A 26 (A 38 t) + rnv A t b) = A 26 (A 38 t) + rnv A t b := w32_id (by unfold rg; omega)
  rw [d1]
  have e10 : (ui (ui (ui (ui A 17 b t) 18 b (clm A t b)) 14 b 0) 26 (A 38 t) (A 26 (A 38 t) + rnv A t b)) 1 0 = A 1 0 := rfl
  rw [e10]
  have d2 : w32 (A 1 0 + rnv A t b) = A 1 0 + rnv A t b := w32_id (by unfold rg; omega)
  rw [d2]
  have e51 : (ui (ui (ui (ui (ui A 17 b t) 18 b (clm A t b)) 14 b 0) 26 (A 38 t) (A 26 (A 38 t) + rnv A t b)) 42 t (A 1 0 + rnv A t b)) 51 t = A 51 t := rfl
  have e40 : (ui (ui (ui (ui (ui A 17 b t) 18 b (clm A t b)) 14 b 0) 26 (A 38 t) (A 26 (A 38 t) + rnv A t b)) 42 t (A 1 0 + rnv A t b)) 40 t = A 40 t := rfl
  have e50 : (ui (ui (ui (ui (ui A 17 b t) 18 b (clm A t b)) 14 b 0) 26 (A 38 t) (A 26 (A 38 t) + rnv A t b)) 42 t (A 1 0 + rnv A t b)) 50 t = A 50 t := rfl
  rw [e51, e40, e50]
  have K : ∀ z : Int, Q (ui (ui (ui (ui (ui (ui (ui (ui (ui (ui A 17 b t) 18 b (clm A t b)) 14 b 0) 26 (A 38 t) (A 26 (A 38 t) + rnv A t b)) 42 t (A 1 0 + rnv A t b)) 50 t z) 40 t (oth A b (A 40 t))) 41 t b) 39 t 2) 46 t (A 46 t + 1)) → W_X9_enters_107 t b z t (ui (ui (ui (ui (ui A 17 b t) 18 b (clm A t b)) 14 b 0) 26 (A 38 t) (A 26 (A 38 t) + rnv A t b)) 42 t (A 1 0 + rnv A t b)) Q := fun z hz => by
    have d3 : w32 (A 46 t + 1) = A 46 t + 1 := w32_id (by unfold rg; omega)
    refine ⟨r1, r2, r1, r2, m_other hb16 ⟨r1, r2, r1, r2, r1, r2, r1, r2, r1, r2, ?_⟩⟩
    have eo : oth (ui (ui (ui (ui (ui (ui A 17 b t) 18 b (clm A t b)) 14 b 0) 26 (A 38 t) (A 26 (A 38 t) + rnv A t b)) 42 t (A 1 0 + rnv A t b)) 50 t z) b (A 40 t) = oth A b (A 40 t) := rfl
    show Q (ui (ui (ui (ui (ui (ui (ui (ui (ui (ui A 17 b t) 18 b (clm A t b)) 14 b 0) 26 (A 38 t) (A 26 (A 38 t) + rnv A t b)) 42 t (A 1 0 + rnv A t b)) 50 t z) 40 t (oth A b (A 40 t))) 41 t b) 39 t 2) 46 t (w32 (A 46 t + 1)))
    rw [d3]
    exact hz
  refine ⟨hb16.1, hb16.2, hb16.1, hb16.2, r1, r2, r18, by omega, r18, by omega, r1, r2, r1, r2, r1, r2, fun c1 => ⟨r1, r2, K _ ?_⟩, fun c1 => K _ ?_⟩
  · rw [if_neg c1] at h
    exact h
  · rw [if_pos c1] at h
    exact h
set_option maxHeartbeats 4000000 in
theorem enter_rep {t b its U : Int} (hR : Rep c LN B E A) (hr : Rdy c A t) (hbb : b = nb A t) (hi : its = rnv A t b) (hU : U = clm A t b) (h17 : A 17 b = -1) (hd : A 26 (A 38 t) + its ≤ 600)
  (hB : ∀ q v, (q ≠ 403 ∧ q ≠ 814 ∧ q ≠ 805 ∧ q ≠ 806 ∧ q ≠ 811 ∧ q ≠ 807 ∧ q ≠ 801 ∧ q ≠ 206 ∧ q ≠ 211 ∧ q ≠ 212) → B' q v = B q v) (hBt : ∀ q v, (v ≠ 40 + t.toNat ∧ q ≠ 403 ∧ q ≠ 206 ∧ q ≠ 211 ∧ q ≠ 212) → B' q v = B q v)
  (hf : B' 814 (40 + t.toNat) = A' 50 t ∧ B' 805 (40 + t.toNat) = oth A b (A 40 t) ∧ B' 806 (40 + t.toNat) = b ∧ B' 811 (40 + t.toNat) = A 46 t + 1 ∧ B' 807 (40 + t.toNat) = A 1 0 + its ∧ B' 801 (40 + t.toNat) = 2)
  (h403 : B' 403 (130 + (A 38 t).toNat) = A 26 (A 38 t) + its ∧ ∀ v, v ≠ 130 + (A 38 t).toNat → B' 403 v = B 403 v) (h206 : B' 206 (100 + b.toNat) = 0 ∧ ∀ v, v ≠ 100 + b.toNat → B' 206 v = B 206 v) (h211 : B' 211 (100 + b.toNat) = t ∧ ∀ v, v ≠ 100 + b.toNat → B' 211 v = B 211 v) (h212 : B' 212 (100 + b.toNat) = U ∧ ∀ v, v ≠ 100 + b.toNat → B' 212 v = B 212 v)
  (hA : ∀ a j, (a ≠ 17 ∧ a ≠ 18 ∧ a ≠ 14 ∧ a ≠ 26 ∧ a ≠ 42 ∧ a ≠ 50 ∧ a ≠ 40 ∧ a ≠ 41 ∧ a ≠ 39 ∧ a ≠ 46) → A' a j = A a j) (hAt : ∀ a j, (j ≠ t ∧ a ≠ 17 ∧ a ≠ 18 ∧ a ≠ 14 ∧ a ≠ 26) → A' a j = A a j)
  (ha : A' 42 t = A 1 0 + its ∧ (A' 50 t = -1 ∨ A' 50 t = A 50 t) ∧ A' 40 t = oth A b (A 40 t) ∧ A' 41 t = b ∧ A' 39 t = 2 ∧ A' 46 t = A 46 t + 1)
  (a17 : A' 17 b = t ∧ ∀ j, j ≠ b → A' 17 j = A 17 j) (a18 : A' 18 b = U ∧ ∀ j, j ≠ b → A' 18 j = A 18 j) (a14 : A' 14 b = 0 ∧ ∀ j, j ≠ b → A' 14 j = A 14 j) (a26 : A' 26 (A 38 t) = A 26 (A 38 t) + its ∧ ∀ j, j ≠ A 38 t → A' 26 j = A 26 j) : Rep c LN B' E A' := by
  obtain ⟨⟨r1, r2, r3, r4⟩, ⟨r5, r6, r7⟩, ⟨r8, r9, r10⟩, ⟨r11, r12⟩, ⟨r13, r14, r15, r16, r17⟩, ⟨r18, r19, r20⟩, r21, r22, r23, r24, r25, r26, r27, r28⟩ := id hr
  rw [← hbb] at r5 r6 r11 r12 r21
  rw [← hi] at r21
  have eU : U = A 1 0 + its + (1 + A 44 t / 4) := by rw [hU, hi]; rfl
  clear hU hi r24 r27 r28
  obtain ⟨gG, gS, gB, g0, gH, gE, gC, gN, gK, gL, gR, gD, gY, gU, gW, gP, gT, gX, gZ⟩ := id hR
  obtain ⟨⟨c1, c2, c3⟩, c4, c5, c6, c7, c8, c8z⟩ := id gC
  obtain ⟨⟨b1, b2, b3⟩, b4, b5, b6, b7, b8, b9, b10, b11, b12, b13, b14⟩ := id gB
  obtain ⟨x1, x2, x3⟩ := id gX
  have a1 : A' 1 0 = A 1 0 := hA 1 0 (by omega)
  have a6 : A' 6 0 = A 6 0 := hA 6 0 (by omega)
  have a23 : A' 23 0 = A 23 0 := hA 23 0 (by omega)
  refine ⟨gG.fr (fun k v h => hB k v (by omega)) (fun a j h => hA a j (by omega)), gS.fr (fun k v h => hB k v (by omega)) (fun a j h => hA a j (by omega)), ?_, ?_, ?_, gE.fr (fun k v h => hB k v (by omega)) (fun a j h => hA a j (by omega)), ?_, gN.fr (fun k v h => hB k v (by omega)) (fun a j h => hA a j (by omega)), gK.fr (fun k v h => hB k v (by omega)) (fun a j h => hA a j (by omega)), gL.fr (fun k v h => hB k v (by omega)) (fun a j h => hA a j (by omega)), gR.fr (fun _ => rfl) (fun _ => rfl) (fun a j h => hA a j (by omega)), gD.fr (fun k v h => hB k v (by omega)) (fun _ _ => rfl) (fun a j h => hA a j (by omega)), gY.fr (fun k v h => hB k v (by omega)) (fun _ _ => rfl) (fun a j h => hA a j (by omega)), gU.fr (fun k v h => hB k v (by omega)) (fun _ _ => rfl) (fun a j h => hA a j (by omega)), gW.fr (fun a j h => hA a j (by omega)), gP.fr (fun k v h => hB k v (by omega)) (fun _ _ => rfl) (fun a j h => hA a j (by omega)), ?_, ?_, gZ.fr (fun a j h => hA a j (by omega))⟩
  · -- blocks
    unfold RepB
    rw [a6]
    refine ⟨⟨b1, (hB 2 8 (by omega)).trans b2, b3⟩, fun j j0 j1 => ?_, b5.fr' (fun v => hB 202 v (by omega)) (fun j => hA 8 j (by omega)), b6.fr' (fun v => hB 203 v (by omega)) (fun j => hA 9 j (by omega)), b7.fr' (fun v => hB 204 v (by omega)) (fun j => hA 10 j (by omega)), b8.fr' (fun v => hB 205 v (by omega)) (fun j => hA 13 j (by omega)), b9.put r5 h206 a14, b10.fr' (fun v => hB 207 v (by omega)) (fun j => hA 15 j (by omega)), b11.fr' (fun v => hB 208 v (by omega)) (fun j => hA 16 j (by omega)), b12.fr' (fun v => hB 209 v (by omega)) (fun j => hA 11 j (by omega)), b13.fr' (fun v => hB 210 v (by omega)) (fun j => hA 12 j (by omega)), fun j j0 j1 => ?_⟩
    · rw [hB 200 _ (by omega), hB 201 _ (by omega), hA 7 _ (by omega), hA 7 _ (by omega), hA 8 _ (by omega), hA 9 _ (by omega)]
      exact b4 j j0 j1
    · obtain ⟨w1, w2, w3⟩ := b14 j j0 j1
      rw [hA 13 _ (by omega), hA 12 _ (by omega), hA 15 _ (by omega), hA 16 _ (by omega)]
      refine ⟨w1, ?_, w3⟩
      by_cases ej : j = b
      · rw [ej, a14.1]; exact Or.inl rfl
      · rw [a14.2 j ej]; exact w2
  · -- blocks that are not laid
    intro j j0 j1
    rw [a6] at j0
    rw [hA 10 _ (by omega), hA 11 _ (by omega), hA 12 _ (by omega), hA 13 _ (by omega), hA 15 _ (by omega), hA 16 _ (by omega), a14.2 j (by omega)]
    exact g0 j j0 j1
  · -- holders
    intro j j0 j1
    rw [a6] at j1
    rw [a1]
    by_cases ej : j = b
    · rw [ej, a17.1, a18.1, h212.1, h211.1, if_pos (by omega)]
      exact ⟨rfl, fun _ => rfl, by omega, r2⟩
    · rw [a17.2 j ej, a18.2 j ej, h212.2 _ (by omega), h211.2 _ (by omega)]
      exact gH j j0 j1
  · -- crews
    unfold RepC
    rw [a23]
    refine ⟨⟨c1, (hB 2 10 (by omega)).trans c2, c3⟩, c4.fr' (fun v => hB 400 v (by omega)) (fun j => hA 24 j (by omega)), c5.fr' (fun v => hB 401 v (by omega)) (fun j => hA 25 j (by omega)), c6.put r18 h403 a26, c7.fr' (fun v => hB 404 v (by omega)) (fun j => hA 27 j (by omega)), fun j j0 j1 => ?_, fun j j0 j1 => by rw [a26.2 j (by omega), hA 27 j (by omega)]; exact c8z j j0 j1⟩
    obtain ⟨w1, w2, w3, w4, w5, w6, w7⟩ := c8 j j0 j1
    rw [hA 24 j (by omega), hA 25 j (by omega), hA 27 j (by omega)]
    refine ⟨w1, w2, w3, w4, ?_⟩
    by_cases ej : j = A 38 t
    · rw [ej, a26.1]
      rw [ej] at w5 w7
      exact ⟨by omega, hd, w7⟩
    · rw [a26.2 j ej]; exact ⟨w5, w6, w7⟩
  · -- trains
    refine RepT.mk' fun q => ?_
    by_cases eq : q = t
    · subst eq
      intro _ _
      obtain ⟨u_1, u_2, u_3, u_4, u_5⟩ := gT q r1 r2
      obtain ⟨y1, y2, y3, y4, y5, y6, y7, y8, y9, y10, y11, y12, y13, y14, y15, y16, y17, y18, y19, y20, y21, y22, y23, y24, y25, y26, y27, y28, y29, y30, y31, y32, y33, y34, y35, y36⟩ := u_5 r3
      obtain ⟨f1, f2, f3, f4, f5, f6⟩ := ha
      obtain ⟨g1, g2, g3, g4, g5, g6⟩ := hf
      refine ⟨(hB 800 _ (by omega)).trans u_1, u_2, Or.inr ((hA 36 q (by omega)).trans r3), fun w => absurd ((hA 36 q (by omega)).symm.trans w) (by omega), fun _ => ?_⟩
      obtain ⟨⟨s1, s2, s3, s4⟩, z2, z3, z4⟩ := y28 (by omega)
      have y31 := y31 (Or.inl r4)
      rw [f1, f3, f4, f5, f6, hA 37 q (by omega), hA 38 q (by omega), hA 44 q (by omega), hA 47 q (by omega), hA 48 q (by omega), hA 49 q (by omega), hA 51 q (by omega), hA 19 0 (by omega), a23, a6, hA 22 _ (by omega), hA 25 _ (by omega), hA 20 _ (by omega), a1]
      refine ⟨g6, by decide, by decide, (hB 802 _ (by omega)).trans y4, y5, y6, y7, (hB 803 _ (by omega)).trans y8, y9, y10, y11, (hB 804 _ (by omega)).trans y12, g2.trans (if_neg (by decide)).symm, r11, r12, g3, ⟨fun w => by omega, fun w => absurd w (by decide)⟩, by omega, r6, fun _ => ⟨g5, by omega, by omega, a17.1, by rw [a18.1, eU]⟩, (hB 808 _ (by omega)).trans (y21.trans (wgt_fr (A := A) (A' := A') (fun j => hA 33 j (by omega)) (fun j => hA 43 j (by omega)) q _).symm), y22, y23, by omega, by omega, y26, fun w => absurd w (by decide), fun _ => ⟨⟨(hB 601 _ (by omega)).trans s1, s2, s3, fun p p0 p1 => (s4 p p0 p1).trans (hA 45 _ (by omega)).symm⟩, g4, fun p p0 p1 => ?_, fun m hm => ?_⟩, fun w => absurd w (by decide), fun w => absurd w (by decide), fun _ => ⟨(hB 812 _ (by omega)).trans y31.1, (hB 813 _ (by omega)).trans y31.2.1, y31.2.2⟩, g1, by omega, by omega, fun w => (hB 815 _ (by omega)).trans (y35 (by omega)), fun j hb0 hb1 => ?_⟩
      · rw [hA 45 _ (by omega)]
        exact z3 p p0 p1
      · rw [wend_fr (A := A) (A' := A') (fun j => hA 7 j (by omega)) (fun j => hA 45 j (by omega)), hbb]
        exact z4 (m + 1) (by omega)
      · have r := y36 j hb0 hb1
        by_cases ej : j = b
        · rw [if_neg (fun w => w.2.2 ⟨rfl, ej.symm⟩)]
          rw [ej, if_neg (fun w => by have := w.2.1; omega)] at r
          rw [ej]
          exact fun _ => r (by omega)
        · rw [a17.2 j ej, a18.2 j ej]
          by_cases cc : j < A 6 0 ∧ A 17 j = q
          · rw [if_pos ⟨cc.1, cc.2, fun w => by omega⟩] at r
            rw [if_pos ⟨cc.1, cc.2, fun w => ej w.2.symm⟩]
            exact r
          · rw [if_neg (fun w => cc ⟨w.1, w.2.1⟩)] at r
            rw [if_neg (fun w => cc ⟨w.1, w.2.1⟩)]
            exact fun _ => r (by omega)
    · intro q0 q1
      exact TrB.fr (gT.tr q) (fun k' hk' => hBt k' _ (by omega)) (hB 601 _ (by omega)) rfl (fun _ => rfl) (fun _ => rfl) (fun a h => hAt a q (by omega)) a1 ⟨Int.le_of_eq a6.symm, Int.le_of_eq (hA 19 0 (by omega)).symm, Int.le_of_eq a23.symm⟩ (fun _ _ _ _ => ⟨hA 20 _ (by omega), hA 22 _ (by omega)⟩) (fun _ _ _ _ => hA 25 _ (by omega)) (fun _ => wgt_fr (fun j => hA 33 j (by omega)) (fun j => hA 43 j (by omega)) q _) (fun p _ _ => hA 45 _ (by omega)) (fun b _ _ => ⟨hA 7 _ (by omega), hA 7 _ (by omega)⟩) (fun _ j _ _ => by
        rw [a6]
        by_cases ej : j = b
        · rw [ej, a17.1, h17]
          exact ⟨⟨fun w => absurd w.2.symm eq, fun w => by omega⟩, fun _ w => by omega⟩
        · rw [a17.2 j ej, a18.2 j ej]
          exact ⟨Iff.rfl, fun _ _ => rfl⟩) (by omega) q0 q1
  · -- who is held by whom
    refine ⟨fun j j0 j1 w => ?_, fun j j0 j1 w => ?_, fun j j0 j1 w => ?_⟩
    · rw [hA 19 0 (by omega)] at j1
      rw [hA 22 j (by omega)] at w ⊢
      rw [hA 36 _ (by omega), hA 37 _ (by omega)]
      exact x1 j j0 j1 w
    · rw [a23] at j1
      rw [hA 25 j (by omega)] at w ⊢
      rw [hA 36 _ (by omega), hA 38 _ (by omega)]
      exact x2 j j0 j1 w
    · rw [a6] at j1
      by_cases ej : j = b
      · rw [ej, a17.1, hA 36 _ (by omega), ha.2.2.2.2.1]
        exact ⟨r3, by decide⟩
      · rw [a17.2 j ej] at w ⊢
        rw [hA 36 _ (by omega)]
        obtain ⟨w1, w2⟩ := x3 j j0 j1 w
        refine ⟨w1, ?_⟩
        by_cases et : A 17 j = t
        · rw [et, ha.2.2.2.2.1]; decide
        · rw [hAt 39 _ (by omega)]; exact w2
end Ent
