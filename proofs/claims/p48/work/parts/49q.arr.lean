/-! arrivals; the day -/
section Arr
variable {c LN : Nat → Nat} {B B' : Fl} {E E' : El} {A A' : Il}
/-- what arriving does to the reference's rows -/
def arr (A : Il) (t : Int) : Il := ui (ui (ui A 10 (A 41 t) (w32 (A 10 (A 41 t) + w32 (1 + A 44 t)))) 41 t (-1)) 39 t (if A 47 t ≤ A 46 t then 0 else 1)
theorem m_arrives {t : Int} {Q : Il → Prop} (h0 : 0 ≤ t) (h1 : t < 6) (h41 : 0 ≤ A 41 t ∧ A 41 t < 16) (h : Q (arr A t)) : W_X9_arrives t A Q := by
  unfold arr at h
  refine ⟨h0, h1, h41.1, h41.2, h0, h1, h41.1, h41.2, h0, h1, h0, h1, h0, h1, fun c1 => ⟨h0, h1, ?_⟩, fun c1 => ⟨h0, h1, ?_⟩⟩
  · have c1 : A 47 t ≤ A 46 t := c1
    rw [if_pos c1] at h
    exact h
  · have c1 : ¬ A 47 t ≤ A 46 t := c1
    rw [if_neg c1] at h
    exact h
/-- what arriving does to the class's fields -/
def arB (B : Fl) (A : Il) (t : Int) : Fl := u2 (u2 (u2 B 204 (100 + (A 41 t).toNat) (w32 (A 10 (A 41 t) + w32 (1 + A 44 t)))) 806 (40 + t.toNat) (-1)) 801 (40 + t.toNat) (if A 47 t ≤ A 46 t then 0 else 1)
def arE (E : El) (A : Il) (t : Int) : El := ue E (.inl (70 + t.toNat)) (A 41 t) (A 1 0 + (1 + A 44 t / 4))
set_option maxHeartbeats 2000000 in
theorem q_arrive {t i : Int} {Q : Fl → El → Prop} {QX : String → Fl → El → Prop} (hR : RepI i c LN B E A) (h0 : 0 ≤ t) (h1 : t < 6) (hi : i ≤ t) (h36 : A 36 t = 1) (h39 : A 39 t = 2) (h : Q (arB B A t) (arE E A t)) : W_X8_arrive c LN 0 (40 + t.toNat) B E Q QX := by
  obtain ⟨gG, gS, gB, g0, gH, gE, gC, gN, gK, gL, gR, gD, gY, gU, gW, gP, gT, gX, gZ⟩ := id hR
  obtain ⟨u_1, u_2, u_3, u_4, u_5⟩ := (gT t).2 hi h0 h1
  obtain ⟨y1, y2, y3, y4, y5, y6, y7, y8, y9, y10, y11, y12, y13, y14, y15, y16, y17, y18, y19, y20, y21, y22, y23, y24, y25, y26, y27, y28, y29, y30, y31, y32, y33, y34, y35, y36⟩ := u_5 h36
  obtain ⟨ru1, ru2⟩ := (gU t h0 h1).2 h36
  obtain ⟨r1, -⟩ := ru1
  have hc := gG.2.2.2.2.1
  have e912 := gG.1
  have ne : A 41 t ≠ -1 := fun w => by have := y17.1 w; omega
  have b0 : 0 ≤ A 41 t := by omega
  obtain ⟨z1, z2, z3, z4⟩ := y28 (by omega)
  clear u_5 y20 y27 y28 y29 y30 y31 y35 y36 y17
  have b3 := gB.1.2.2
  have b16 := gB.1.1
  have f204 := gB.2.2.2.2.1 (A 41 t) b0 y19
  have hk := kd8 (c := c) (v := 100 + (A 41 t).toNat) (by omega) (by omega) b3
  have hkt := kdtr (c := c) (v := 40 + t.toNat) (by omega) (by omega)
  have e50 : 40 + t.toNat + 10 = 50 + t.toNat := by omega
  have e60 : 40 + t.toNat + 20 = 60 + t.toNat := by omega
  have e70 : 40 + t.toNat + 30 = 70 + t.toNat := by omega
  have l70 : ((ln (70 + t.toNat) : Nat) : Int) = 16 := by rw [ln16 (by omega)]; rfl
  refine ⟨hkt, rfl, ?_⟩
  rw [y16]
  refine q_blockOf1 gB ⟨b0, y19⟩ ⟨hk, by rw [e50]; exact kdtc (by omega) (by omega), ?_⟩
  rw [e50, r1, f204]
  refine q_mins (n := A 44 t) hkt (kdtc (v := 50 + t.toNat) (by omega) (by omega)) (by omega) ((u2_k (by decide)).trans r1) ⟨y22, y23⟩ ?_
  rw [show u2 B 204 (100 + (A 41 t).toNat) (w32 (A 10 (A 41 t) + w32 (1 + A 44 t))) 806 (40 + t.toNat) = A 41 t from (u2_k (by decide)).trans y16, show u2 B 204 (100 + (A 41 t).toNat) (w32 (A 10 (A 41 t) + w32 (1 + A 44 t))) 912 0 = A 1 0 from (u2_k (by decide)).trans e912]
  rw [w32_id (z := A 1 0 + (1 + A 44 t / 4)) (by unfold rg; omega)]
  refine br_F (by omega) ⟨hkt, by rw [e70]; exact kdcl (by omega) (by omega), ?_⟩
  rw [e70, l70]
  refine br_F (by omega) ⟨b0, by omega, ?_⟩
  refine ⟨hkt, by rw [e60]; exact kdtw (by omega) (by omega), ?_⟩
  rw [e60]
  have q811 : u2 (u2 B 204 (100 + (A 41 t).toNat) (w32 (A 10 (A 41 t) + w32 (1 + A 44 t)))) 806 (40 + t.toNat) (-1) 811 (40 + t.toNat) = A 46 t := (u2_k (by decide)).trans ((u2_k (by decide)).trans z2)
  rw [q811]
  have rr : rowR LN (u2 (u2 B 204 (100 + (A 41 t).toNat) (w32 (A 10 (A 41 t) + w32 (1 + A 44 t)))) 806 (40 + t.toNat) (-1)) (ue E (.inl (70 + t.toNat)) (A 41 t) (A 1 0 + (1 + A 44 t / 4))) (60 + t.toNat) (A 47 t) (fun p => A 45 (8 * t + p)) := ⟨(u2_k (by decide)).trans ((u2_k (by decide)).trans z1.1), z1.2.1, z1.2.2.1, fun p p0 p1 => (ue_k (by intro w; cases w)).trans (z1.2.2.2 p p0 p1)⟩
  refine q_at (kdtw (by omega) (by omega)) rr ?_
  unfold arB arE at h
  by_cases cc : A 47 t ≤ A 46 t
  · rw [if_pos cc] at h
    rw [if_neg (fun w => by omega)]
    exact bn_T rfl h
  · rw [if_neg cc] at h
    rw [if_pos ⟨y24, by omega⟩]
    have := z3 (A 46 t) y24 (by omega)
    refine bn_F ?_ h
    show ¬ A 45 (8 * t + A 46 t) = -1
    omega
set_option maxHeartbeats 4000000 in
theorem arr_rep {t : Int} (hR : RepI t c LN B E A) (h0 : 0 ≤ t) (h1 : t < 6) (h36 : A 36 t = 1) (h39 : A 39 t = 2) (h42 : A 42 t = A 1 0) : RepI (t + 1) c LN (arB B A t) (arE E A t) (arr A t) := by
  obtain ⟨gG, gS, gB, g0, gH, gE, gC, gN, gK, gL, gR, gD, gY, gU, gW, gP, gT, gX, gZ⟩ := id hR
  obtain ⟨⟨b1, b2, b3⟩, b4, b5, b6, b7, b8, b9, b10, b11, b12, b13, b14⟩ := id gB
  obtain ⟨x1, x2, x3⟩ := id gX
  obtain ⟨u_1, u_2, u_3, u_4, u_5⟩ := (gT t).2 (Int.le_refl _) h0 h1
  obtain ⟨y1, y2, y3, y4, y5, y6, y7, y8, y9, y10, y11, y12, y13, y14, y15, y16, y17, y18, y19, y20, y21, y22, y23, y24, y25, y26, y27, y28, y29, y30, y31, y32, y33, y34, y35, y36⟩ := u_5 h36
  clear u_5
  have ne : A 41 t ≠ -1 := fun w => by have := y17.1 w; omega
  have b0 : 0 ≤ A 41 t := by omega
  have hB : ∀ q v, (q ≠ 204 ∧ q ≠ 806 ∧ q ≠ 801) → arB B A t q v = B q v := fun q v h => (u2_k (by omega)).trans ((u2_k (by omega)).trans (u2_k (by omega)))
  have hBt : ∀ q v, (v ≠ 40 + t.toNat ∧ q ≠ 204) → arB B A t q v = B q v := fun q v h => (u2_w (by omega)).trans ((u2_w (by omega)).trans (u2_k (by omega)))
  have h204 : arB B A t 204 (100 + (A 41 t).toNat) = w32 (A 10 (A 41 t) + w32 (1 + A 44 t)) ∧ ∀ v, v ≠ 100 + (A 41 t).toNat → arB B A t 204 v = B 204 v := ⟨(u2_k (by decide)).trans ((u2_k (by decide)).trans u2_s), fun v h => (u2_k (by decide)).trans ((u2_k (by decide)).trans (u2_v h))⟩
  have hf : arB B A t 806 (40 + t.toNat) = -1 ∧ arB B A t 801 (40 + t.toNat) = if A 47 t ≤ A 46 t then 0 else 1 := ⟨(u2_k (by decide)).trans u2_s, u2_s⟩
  have hI : arE E A t (.inl (70 + t.toNat)) (A 41 t) = A 1 0 + (1 + A 44 t / 4) ∧ (∀ j, j ≠ A 41 t → arE E A t (.inl (70 + t.toNat)) j = E (.inl (70 + t.toNat)) j) ∧ (∀ v, v ≠ 70 + t.toNat → ∀ j, arE E A t (.inl v) j = E (.inl v) j) ∧ ∀ v j, arE E A t (.inr v) j = E (.inr v) j := ⟨ue_s, fun j h => ue_j h, fun v h j => ue_k (by intro w; injection w with w; exact h w), fun v j => ue_k (by intro w; cases w)⟩
  have hA : ∀ a j, (a ≠ 10 ∧ a ≠ 41 ∧ a ≠ 39) → arr A t a j = A a j := fun a j h => (ui_k (by omega)).trans ((ui_k (by omega)).trans (ui_k (by omega)))
  have hAt : ∀ a j, (j ≠ t ∧ a ≠ 10) → arr A t a j = A a j := fun a j h => (ui_w (by omega)).trans ((ui_w (by omega)).trans (ui_k (by omega)))
  have a10 : arr A t 10 (A 41 t) = w32 (A 10 (A 41 t) + w32 (1 + A 44 t)) ∧ ∀ j, j ≠ A 41 t → arr A t 10 j = A 10 j := ⟨(ui_k (by decide)).trans ((ui_k (by decide)).trans ui_s), fun j h => (ui_k (by decide)).trans ((ui_k (by decide)).trans (ui_j h))⟩
  have ha : arr A t 41 t = -1 ∧ arr A t 39 t = if A 47 t ≤ A 46 t then 0 else 1 := ⟨(ui_k (by decide)).trans ui_s, ui_s⟩
  generalize arB B A t = B' at *
  generalize arE E A t = E' at *
  generalize arr A t = A' at *
  have a1 : A' 1 0 = A 1 0 := hA 1 0 (by omega)
  have a6 : A' 6 0 = A 6 0 := hA 6 0 (by omega)
  have h01 : A' 39 t = 0 ∧ A 47 t ≤ A 46 t ∨ A' 39 t = 1 ∧ A 46 t < A 47 t := by
    rw [ha.2]
    by_cases cc : A 47 t ≤ A 46 t
    · rw [if_pos cc]; exact Or.inl ⟨rfl, cc⟩
    · rw [if_neg cc]; exact Or.inr ⟨rfl, by omega⟩
  have h801 : B' 801 (40 + t.toNat) = A' 39 t := hf.2.trans ha.2.symm
  have h806 := hf.1
  clear hf
  have oth : ∀ (k q : Int), q ≠ t → TrC k LN B E A q → TrC k LN B' E' A' q := fun k q eq hq q0 q1 => TrC.fr hq (fun k' hk' => hBt k' _ (by omega)) (hB 601 _ (by omega)) rfl (hI.2.2.2 _) (hI.2.2.1 _ (by omega)) (fun a h => hAt a q (by omega)) a1 ⟨Int.le_of_eq a6.symm, Int.le_of_eq (hA 19 0 (by omega)).symm, Int.le_of_eq (hA 23 0 (by omega)).symm⟩ (fun _ _ _ _ => ⟨hA 20 _ (by omega), hA 22 _ (by omega)⟩) (fun _ _ _ _ => hA 25 _ (by omega)) (fun _ => wgt_fr (fun j => hA 33 j (by omega)) (fun j => hA 43 j (by omega)) q _) (fun p _ _ => hA 45 _ (by omega)) (fun b _ _ => ⟨hA 7 _ (by omega), hA 7 _ (by omega)⟩) (fun _ j _ _ => by
      rw [a6, hA 17 j (by omega), hA 18 j (by omega)]
      exact ⟨Iff.rfl, fun _ _ => rfl⟩) (by omega) q0 q1
  refine ⟨gG.fr (fun k v h => hB k v (by omega)) (fun a j h => hA a j (by omega)), gS.fr (fun k v h => hB k v (by omega)) (fun a j h => hA a j (by omega)), ?_, ?_, gH.fr (fun k v h => hB k v (by omega)) (fun a j h => hA a j (by omega)), gE.fr (fun k v h => hB k v (by omega)) (fun a j h => hA a j (by omega)), gC.fr (fun k v h => hB k v (by omega)) (fun a j h => hA a j (by omega)), gN.fr (fun k v h => hB k v (by omega)) (fun a j h => hA a j (by omega)), gK.fr (fun k v h => hB k v (by omega)) (fun a j h => hA a j (by omega)), gL.fr (fun k v h => hB k v (by omega)) (fun a j h => hA a j (by omega)), gR.fr (fun j => hI.2.2.1 3 (by omega) j) (fun j => hI.2.2.1 4 (by omega) j) (fun a j h => hA a j (by omega)), gD.fr (fun k v h => hB k v (by omega)) (fun v j => hI.2.2.2 v j) (fun a j h => hA a j (by omega)), gY.fr (fun k v h => hB k v (by omega)) (fun v j => hI.2.2.2 v j) (fun a j h => hA a j (by omega)), gU.fr (fun k v h => hB k v (by omega)) (fun v j => hI.2.2.2 v j) (fun a j h => hA a j (by omega)), gW.fr (fun a j h => hA a j (by omega)), gP.fr (fun k v h => hB k v (by omega)) (fun v j => hI.2.2.2 v j) (fun a j h => hA a j (by omega)), ?_, ?_, gZ.fr (fun a j h => hA a j (by omega))⟩
  · -- blocks
    unfold RepB
    rw [a6]
    refine ⟨⟨b1, (hB 2 8 (by omega)).trans b2, b3⟩, fun j j0 j1 => ?_, b5.fr' (fun v => hB 202 v (by omega)) (fun j => hA 8 j (by omega)), b6.fr' (fun v => hB 203 v (by omega)) (fun j => hA 9 j (by omega)), b7.put b0 h204 a10, b8.fr' (fun v => hB 205 v (by omega)) (fun j => hA 13 j (by omega)), b9.fr' (fun v => hB 206 v (by omega)) (fun j => hA 14 j (by omega)), b10.fr' (fun v => hB 207 v (by omega)) (fun j => hA 15 j (by omega)), b11.fr' (fun v => hB 208 v (by omega)) (fun j => hA 16 j (by omega)), b12.fr' (fun v => hB 209 v (by omega)) (fun j => hA 11 j (by omega)), b13.fr' (fun v => hB 210 v (by omega)) (fun j => hA 12 j (by omega)), fun j j0 j1 => ?_⟩
    · rw [hB 200 _ (by omega), hB 201 _ (by omega), hA 7 _ (by omega), hA 7 _ (by omega), hA 8 _ (by omega), hA 9 _ (by omega)]
      exact b4 j j0 j1
    · rw [hA 13 _ (by omega), hA 14 _ (by omega), hA 12 _ (by omega), hA 15 _ (by omega), hA 16 _ (by omega)]
      exact b14 j j0 j1
  · -- blocks that are not laid
    intro j j0 j1
    rw [a6] at j0
    rw [hA 11 _ (by omega), hA 12 _ (by omega), hA 13 _ (by omega), hA 14 _ (by omega), hA 15 _ (by omega), hA 16 _ (by omega), a10.2 j (by omega)]
    exact g0 j j0 j1
  · -- trains
    intro q
    rw [a1]
    refine ⟨fun hq => ?_, fun hq => oth _ q (by omega) ((gT q).2 (by omega))⟩
    by_cases eq : q = t
    · subst eq
      intro _ _
      have y31 := y31 (Or.inr h39)
      obtain ⟨⟨s1, s2, s3, s4⟩, z2, z3, z4⟩ := y28 (by omega)
      obtain ⟨v1, v2, v3, v4, v5⟩ := y20 h39
      clear y20 y27 y28 y29 y30
      refine ⟨(hB 800 _ (by omega)).trans u_1, u_2, Or.inr ((hA 36 q (by omega)).trans h36), fun w => absurd ((hA 36 q (by omega)).symm.trans w) (by omega), fun _ => ?_⟩
      rw [ha.1, hA 37 q (by omega), hA 38 q (by omega), hA 40 q (by omega), hA 44 q (by omega), hA 46 q (by omega), hA 47 q (by omega), hA 48 q (by omega), hA 49 q (by omega), hA 50 q (by omega), hA 51 q (by omega), hA 19 0 (by omega), hA 23 0 (by omega), a6, hA 22 _ (by omega), hA 25 _ (by omega), hA 20 _ (by omega), a1]
      refine ⟨h801, by omega, by omega, (hB 802 _ (by omega)).trans y4, y5, y6, y7, (hB 803 _ (by omega)).trans y8, y9, y10, y11, (hB 804 _ (by omega)).trans y12, (hB 805 _ (by omega)).trans (y13.trans ((if_neg (by omega)).trans (if_neg (by omega)).symm)), y14, y15, h806, ⟨fun _ => by omega, fun _ => rfl⟩, by decide, by omega, fun w => by omega, (hB 808 _ (by omega)).trans (y21.trans (wgt_fr (A := A) (A' := A') (fun j => hA 33 j (by omega)) (fun j => hA 43 j (by omega)) q _).symm), y22, y23, y24, y25, y26, fun w => by omega, fun _ => ⟨⟨(hB 601 _ (by omega)).trans s1, s2, s3, fun p p0 p1 => (hI.2.2.2 _ p).trans ((s4 p p0 p1).trans (hA 45 _ (by omega)).symm)⟩, (hB 811 _ (by omega)).trans z2, fun p p0 p1 => ?_, fun m hm => ?_⟩, fun w => by omega, fun w => by omega, fun _ => ⟨(hB 812 _ (by omega)).trans y31.1, (hB 813 _ (by omega)).trans y31.2.1, y31.2.2⟩, (hB 814 _ (by omega)).trans y32, y33, y34, fun w => (hB 815 _ (by omega)).trans (y35 w), fun j hb0 hb1 => ?_⟩
      · rw [hA 45 _ (by omega)]
        exact z3 p p0 p1
      · rw [wend_fr (A := A) (A' := A') (fun j => hA 7 j (by omega)) (fun j => hA 45 j (by omega))]
        exact z4 m hm
      · have r := y36 j hb0 hb1
        rw [hA 17 j (by omega), hA 18 j (by omega)]
        by_cases ej : j = A 41 q
        · rw [ej, v4, if_pos ⟨y19, rfl, fun w => by omega⟩, hI.1, v5, h42]
        · rw [hI.2.1 j ej]
          by_cases cc : j < A 6 0 ∧ A 17 j = q
          · rw [if_pos ⟨cc.1, cc.2, fun w => ej w.2.symm⟩] at r
            rw [if_pos ⟨cc.1, cc.2, fun w => by omega⟩]
            exact r
          · rw [if_neg (fun w => cc ⟨w.1, w.2.1⟩)] at r
            rw [if_neg (fun w => cc ⟨w.1, w.2.1⟩)]
            exact fun _ => r (by omega)
    · exact oth _ q eq ((gT q).1 (by omega))
  · -- who is held by whom
    refine ⟨fun j j0 j1 w => ?_, fun j j0 j1 w => ?_, fun j j0 j1 w => ?_⟩
    · rw [hA 19 0 (by omega)] at j1
      rw [hA 22 j (by omega)] at w ⊢
      rw [hA 36 _ (by omega), hA 37 _ (by omega)]
      exact x1 j j0 j1 w
    · rw [hA 23 0 (by omega)] at j1
      rw [hA 25 j (by omega)] at w ⊢
      rw [hA 36 _ (by omega), hA 38 _ (by omega)]
      exact x2 j j0 j1 w
    · rw [a6] at j1
      rw [hA 17 j (by omega)] at w ⊢
      rw [hA 36 _ (by omega)]
      obtain ⟨w1, w2⟩ := x3 j j0 j1 w
      refine ⟨w1, ?_⟩
      by_cases et : A 17 j = t
      · rw [et]; omega
      · rw [hAt 39 _ (by omega)]; exact w2
end Arr
