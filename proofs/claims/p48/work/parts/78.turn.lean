/-! the acts of a turn, but plans and run -/
theorem iand0 (x : Int) : 0 ≤ iand x 2147483647 := by
  unfold iand
  have h : ∀ v : BitVec 32, 0 ≤ (v &&& 2147483647#32).toInt := by
    intro v
    have h2 : (v &&& 2147483647#32).msb = false := by
      rw [BitVec.msb_and]
      have h3 : (2147483647#32).msb = false := by decide
      rw [h3, Bool.and_false]
    rw [BitVec.toInt_eq_toNat_of_msb h2]
    omega
  exact h (Int32.ofInt x).toBitVec
theorem pick (x k : Int) {S : Shp} {F : Fl} {I : Il} {Q : Int → Prop} (hk : 0 < k) (h : ∀ z : Int, 0 ≤ z → z < k → Q z) (hk2 : k < 2147483648) : V_L_low x k S F I Q := by
  refine ⟨by omega, ?_⟩
  have a1 := iand0 x
  have b0 := Int.tmod_nonneg k a1
  have b1 := Int.tmod_lt_of_pos (iand x 2147483647) hk
  rw [w32_id (by unfold rg; omega)]
  exact h _ b0 b1
section Turn
variable {m : Nat} {G : Gp} {x : Nat} {la : Nat → Nat} {A : Il} {S : Shp} {F : Fl} {I : Il} {x7 b n v : Int} {kk : Nat → Nat → Nat → Nat → Nat → Int → Int → Shp → Fl → Il → Prop} {Q : Int → Shp → Fl → Il → Prop}
/-- where a turn's act may end -/
def Fin (m : Nat) (G : Gp) (x : Nat) (la : Nat → Nat) (x7 T : Int) (kk : Nat → Nat → Nat → Nat → Nat → Int → Int → Shp → Fl → Il → Prop) (Q : Int → Shp → Fl → Il → Prop) : Prop := ∀ (A' : Il) (S' : Shp) (F' : Fl) (I' : Il), VP m G x la A' S' F' I' → LR (lA la I') A' → A' 1 0 ≤ T → V_L_law_1456 G kk x (la 1) (la 2) (la 0) (la 3) 1 x7 S' F' I' Q
theorem VP.w47 (h : VP m G x la A S F I) : ∀ n : Int, 0 ≤ n → n < 3 → A 36 n = 1 → A 47 n ≤ 8 := by
  obtain ⟨c, LN, B, E, hR⟩ := h.rep
  exact hR.w47
theorem t_fail (hP : VP (m + 1) G x la A S F I) (hL : LR (lA la I) A) (hb : 0 ≤ b ∧ b < 4) (hv : v = 0 ∨ v = 1) (hF : Fin m G x la x7 (A 1 0) kk Q) : V_L_law_694 G kk x (la 1) (la 2) (la 0) (la 3) x7 b v v b x S F I Q := by
  have hS := hP.ls
  have n1 := hS.n1
  have h47 := hP.w47
  obtain ⟨c, LN, B, E, hR⟩ := hP.rep
  have f12 := bx (i := 12) hb.1 hb.2 (by decide) (by decide)
  have f16 := bx (i := 16) hb.1 hb.2 (by decide) (by decide)
  have h6 := hL.2.2.1.1
  have b12 : I (la 1) (12 + b) = A 13 b := (hL.2.2.1.2 b hb.1 hb.2).2.2.2.2.2.1
  have w13 := (hR.2.2.1.2.2.2.2.2.2.2.2.2.2.2 b hb.1 (by omega)).1
  refine ⟨hP.xk, c_fail (R := fun z A2 => z = A 13 b ∧ A2 = ui (ui (sc A 0 0) 13 b v) 14 b 0) hP (by unfold rg; omega) hv (m_isBlock1 (by omega) (by omega) (br_F (by decide) (br_T le0 ⟨hb.1, by omega, hb.1, by omega, hv, hb.1, by omega, w13, rfl, rfl⟩))) (fun z F' A1 hr h0 hP2 => ?_) (fun X9 z A1 F' I' hr hd _ _ => ?_)⟩
  · obtain ⟨rfl, rfl⟩ := hr
    rw [f12, b12]
    have go : ∀ s0, s0 = A 13 b → V_L_law_713 G kk x (la 1) (la 2) (la 0) (la 3) x7 b v s0 (A 13 b) S F' I Q := fun s0 hs => by
      refine bn_T hs.symm ⟨hS.k (by decide), by omega, by omega, fun I4 h4 => ⟨by omega, by omega, fun I7 h7 => ?_⟩⟩
      rw [f12] at h4
      rw [f16] at h7
      have k4 := FrL.rf.stp (by decide) h4
      have k7 := k4.stp (by decide) h7
      have g4 := stp hS (by decide) h4
      have g7 := stp hS (by decide) h7
      rw [g4] at g7
      exact hF _ _ _ _ (hP2.frl k7) (by rw [g7]; exact hL.fail h47 hb) (Int.le_refl _)
    exact ⟨hS.k (by decide), by omega, by omega, fun c9 => go 0 (by omega), fun c9 => go 1 (by omega)⟩
  · obtain ⟨-, rfl⟩ := hr
    exact absurd hd.2 (by show ¬ (0 : Int) = 1; decide)
theorem t_flag (hP : VP (m + 1) G x la A S F I) (hL : LR (lA la I) A) (hb : 0 ≤ b ∧ b < 4) (h13 : A 13 b = 1) (h14 : A 14 b = 0) (hF : Fin m G x la x7 (A 1 0) kk Q) : V_X8_flag x b S F I (fun (F7 : Fl) => (0 : Int) ≤ w32 (16 + b) ∧ w32 (16 + b) < (sN S (la 1) : Int) ∧ ∀ I10_ : Il, I10_ = ui I (la 1) (w32 (16 + b)) 1 → V_L_law_1456 G kk x (la 1) (la 2) (la 0) (la 3) 1 x7 S F7 I10_ Q) noX := by
  have hS := hP.ls
  have n1 := hS.n1
  have h47 := hP.w47
  have f16 := bx (i := 16) hb.1 hb.2 (by decide) (by decide)
  have h6 := hL.2.2.1.1
  refine c_flag (R := fun A2 => A2 = ui (sc A 0 0) 14 b 1) hP (by unfold rg; omega) (m_isBlock1 (by omega) (by omega) (bn_F (by decide) ⟨hb.1, by omega, br_F (by omega) ⟨hb.1, by omega, br_T h14 (bn_T rfl ⟨hb.1, by omega, rfl⟩)⟩⟩)) (fun F' A1 hr h0 hP2 => ?_) (fun X9 A1 F' I' hr hd _ _ => ?_)
  · have hr : A1 = _ := hr
    subst hr
    refine ⟨by omega, by omega, fun I7 h7 => ?_⟩
    rw [f16] at h7
    have k7 := FrL.rf.stp (by decide) h7
    have g7 := stp hS (by decide) h7
    exact hF _ _ _ _ (hP2.frl k7) (by rw [g7]; exact hL.flag h47 hb) (Int.le_refl _)
  · have hr : A1 = _ := hr
    subst hr
    rcases hd with hd | hd
    · exact absurd hd.2 (by show ¬ (0 : Int) = 1; decide)
    · exact absurd hd.2 (by show ¬ (0 : Int) = 2; decide)
theorem t_hours {f t : Int} (hP : VP (m + 1) G x la A S F I) (hL : LR (lA la I) A) (hb : 0 ≤ b ∧ b < 4) (hf : 0 ≤ f ∧ f ≤ t ∧ t ≤ 1440) (hF : Fin m G x la x7 (A 1 0) kk Q) : V_L_law_854 G kk x (la 1) (la 2) (la 0) (la 3) 1 x7 b f t S F I Q := by
  have hS := hP.ls
  have n1 := hS.n1
  have h47 := hP.w47
  have f20 := bx (i := 20) hb.1 hb.2 (by decide) (by decide)
  have f24 := bx (i := 24) hb.1 hb.2 (by decide) (by decide)
  have h6 := hL.2.2.1.1
  refine ⟨hP.xk, c_hours (R := fun A2 => A2 = ui (ui (sc A 0 0) 15 b f) 16 b t) hP (by unfold rg; omega) (by unfold rg; omega) (by unfold rg; omega) (m_isBlock1 (by omega) (by omega) (bn_F (by decide) (m_in1 (by omega) (br_F (by decide) (m_in1 (by omega) (bn_F (by decide) (bn_T rfl ⟨hb.1, by omega, hb.1, by omega, rfl⟩))))))) (fun F' A1 hr h0 hP2 => ?_) (fun X9 A1 F' I' hr hd _ _ => ?_)⟩
  · have hr : A1 = _ := hr
    subst hr
    refine ⟨hS.k (by decide), by omega, by omega, fun I4 h4 => ⟨by omega, by omega, fun I7 h7 => ?_⟩⟩
    rw [f20] at h4
    rw [f24] at h7
    have k4 := FrL.rf.stp (by decide) h4
    have k7 := k4.stp (by decide) h7
    have g4 := stp hS (by decide) h4
    have g7 := stp hS (by decide) h7
    rw [g4] at g7
    exact hF _ _ _ _ (hP2.frl k7) (by rw [g7]; exact hL.hours h47 hb) (Int.le_refl _)
  · have hr : A1 = _ := hr
    subst hr
    rcases hd with hd | hd
    · exact absurd hd.2 (by show ¬ (0 : Int) = 1; decide)
    · exact absurd hd.2 (by show ¬ (0 : Int) = 2; decide)
theorem t_rep (hP : VP (m + 1) G x la A S F I) (hL : LR (lA la I) A) (hb : 0 ≤ b ∧ b < 4) (hF : Fin m G x la x7 (A 1 0) kk Q) (s0 : Int) (hs : (s0 = 1 ∧ A 17 b = -1 ∧ A 11 b ≤ A 1 0) ∨ (s0 = 0 ∧ (¬ A 17 b = -1 ∨ A 1 0 < A 11 b))) : V_L_law_923 G kk x (la 1) (la 2) (la 0) (la 3) x7 b s0 S F I Q := by
  have hS := hP.ls
  have n1 := hS.n1
  have n3 := hS.n3
  have h47 := hP.w47
  obtain ⟨c, LN, B, E, hR⟩ := hP.rep
  have hc := hR.1.2.2.2.2.1
  have f8 := bx (i := 8) hb.1 hb.2 (by decide) (by decide)
  have f36 := bx (i := 36) hb.1 hb.2 (by decide) (by decide)
  have h6 := hL.2.2.1.1
  have wb := hL.2.2.1.2 b hb.1 hb.2
  have b8 : I (la 1) (8 + b) = A 10 b := wb.2.2.2.2.1
  have b36 : lA la I 1 (36 + b) = A 11 b := wb.2.2.2.2.2.2.2.2.2.2.2.1
  have h12 : A 12 b = 0 := wb.2.2.2.2.2.2.2.2.2.2.2.2
  clear wb
  have q0 : I (la 3) 0 = A 1 0 := hL.1.1
  have q1 : I (la 3) 1 = A 2 0 := hL.1.2.1
  rcases hs with ⟨rfl, h17, h11⟩ | ⟨rfl, hno⟩
  · have hcl : ¬ (¬ A 12 b = 0 ∨ A 1 0 < A 11 b) := by omega
    refine bn_F (by decide) (bn_F (by decide) (bn_T rfl ⟨hP.xk, c_repair (R := fun z A2 => z = w32 (5 * A 10 b) ∧ A2 = ui (ui (sc (sc A 0 0) 2 (w32 (A 2 0 - w32 (5 * A 10 b)))) 10 b 0) 11 b (w32 (A 1 0 + 30))) hP (by unfold rg; omega) (m_isBlock1 (by omega) (by omega) (bn_F (by decide) ⟨hb.1, by omega, bn_T h17 (m_isClosed ⟨hb.1, by omega⟩ ?_)⟩)) (fun z F' A1 hr h0 hP2 => ?_) (fun X9 z A1 F' I' hr hd _ _ => ?_)⟩))
    · rw [if_neg hcl]
      exact br_T rfl (br_T le0 ⟨hb.1, by omega, hb.1, by omega, hb.1, by omega, rfl, rfl⟩)
    · obtain ⟨rfl, rfl⟩ := hr
      refine br_F (by decide) ⟨hS.k (by decide), by omega, by omega, ?_⟩
      rw [f8, b8]
      refine bn_T rfl ⟨hS.k (by decide), by decide, by omega, br_F (by decide) ⟨hS.k (by decide), by omega, by omega, ?_⟩⟩
      rw [f8, b8, q1]
      refine ⟨hS.k (by decide), by decide, by omega, fun I4 h4 => br_F (by decide) ⟨hS.k (by decide), by decide, by omega, ?_⟩⟩
      have k4 := FrL.rf.stp (by decide) h4
      have g4 := stp hS (by decide) h4
      have x0 : I4 (la 3) 0 = A 1 0 := by
        show lA la I4 3 0 = _
        rw [g4]
        exact (ui_j (by decide)).trans q0
      rw [f36, x0]
      refine ⟨hS.k (by decide), by omega, by omega, fun I5 h5 => br_F (by decide) ?_⟩
      rw [f8]
      refine ⟨hS.k (by decide), by omega, by omega, fun I6 h6' => ?_⟩
      have k5 := k4.stp (by decide) h5
      have k6 := k5.stp (by decide) h6'
      have g5 := stp hS (by decide) h5
      have g6 := stp hS (by decide) h6'
      rw [g5, g4] at g6
      exact hF _ _ _ _ (hP2.frl k6) (by rw [g6]; exact hL.repair h47 hb) (Int.le_refl _)
    · obtain ⟨-, rfl⟩ := hr
      rcases hd with hd | hd
      · exact absurd hd.2 (by show ¬ (0 : Int) = 1; decide)
      · exact absurd hd.2 (by show ¬ (0 : Int) = 2; decide)
  · refine bn_F (by decide) (bn_F (by decide) (bn_T rfl ⟨hP.xk, c_repair (R := fun z A2 => A2 = sc A 0 2) hP (by unfold rg; omega) (m_isBlock1 (by omega) (by omega) (bn_F (by decide) ⟨hb.1, by omega, fun c9 => by unfold W_X9_repair_31; exact br_F no2 rfl, fun c9 => m_isClosed ⟨hb.1, by omega⟩ ?_⟩)) (fun z F' A1 hr h0 hP2 => ?_) (fun X9 z A1 F' I' hr hd hP2 hI2 => ?_)⟩))
    · rw [if_pos (by omega)]
      exact br_F (by decide) (by unfold W_X9_repair_31; exact br_F no2 rfl)
    · have hr : A1 = _ := hr
      subst hr
      exact absurd h0 (by show ¬ (2 : Int) = 0; decide)
    · have hr : A1 = _ := hr
      subst hr
      have hX : X9 = "java/lang/IllegalStateException" := by
        rcases hd with hd | hd
        · exact absurd hd.2 (by show ¬ (2 : Int) = 1; decide)
        · exact hd.1
      refine ⟨hX, br_T rfl (bn_T rfl ?_)⟩
      have hS2 := hP2.ls
      have m1 := hS2.n1
      have m3 := hS2.n3
      have e1 : I' (la 3) 1 = lA la I 3 1 := by rw [← hI2]; rfl
      have e36 : I' (la 1) (36 + b) = lA la I 1 (36 + b) := by rw [← hI2]; rfl
      have e8 : I' (la 1) (8 + b) = lA la I 1 (8 + b) := by rw [← hI2]; rfl
      refine ⟨hS2.k (by decide), by decide, by omega, br_T rfl ⟨hS2.k (by decide), by decide, by omega, fun I4 h4 => br_T rfl ⟨hS2.k (by decide), by omega, by omega, ?_⟩⟩⟩
      have k4 := FrL.rf.stp (by decide) h4
      have g4 := stp hS2 (by decide) h4
      rw [e1, Int.sub_zero, w32_id (by rw [show lA la I 3 1 = A 2 0 from q1]; exact hR.1.2.2.2.2.2.1), hI2, ui_id] at g4
      rw [f36]
      refine ⟨hS2.k (by decide), by omega, by omega, fun I5 h5 => br_T rfl ⟨hS2.k (by decide), by omega, by omega, ?_⟩⟩
      have k5 := k4.stp (by decide) h5
      have g5 := stp hS2 (by decide) h5
      have x36 : I4 (la 1) (36 + b) = lA la I 1 (36 + b) := by rw [← g4]; rfl
      rw [x36, g4, ui_id] at g5
      rw [f8]
      refine ⟨hS2.k (by decide), by omega, by omega, fun I6 h6' => ?_⟩
      have k6 := k5.stp (by decide) h6'
      have g6 := stp hS2 (by decide) h6'
      have x8 : I5 (la 1) (8 + b) = lA la I 1 (8 + b) := by rw [← g5]; rfl
      rw [x8, g5, ui_id] at g6
      exact hF _ _ _ _ (hP2.frl k6) (by rw [g6]; exact hL.thr h47) (Int.le_refl _)
theorem t_rest (hP : VP (m + 1) G x la A S F I) (hL : LR (lA la I) A) (hn : 0 ≤ n ∧ n < 3) (hF : Fin m G x la x7 (A 1 0) kk Q) (s0 : Int) (hs : (s0 = 1 ∧ A 27 n ≤ A 1 0 ∧ (A 36 n = 0 ∨ A 39 n < 2)) ∨ (s0 = 0 ∧ (A 1 0 < A 27 n ∨ (A 36 n = 1 ∧ A 39 n = 2)))) : V_L_law_1099 G kk x (la 1) (la 2) (la 0) (la 3) x7 n (16 * n) s0 S F I Q := by
  have hS := hP.ls
  have n2 := hS.n2
  have n3 := hS.n3
  have h47 := hP.w47
  obtain ⟨c, LN, B, E, hR⟩ := hP.rep
  have hc := hR.1.2.2.2.2.1
  have e13 := ix (i := 13) hn.1 hn.2 (by decide) (by decide)
  have e14 := ix (i := 14) hn.1 hn.2 (by decide) (by decide)
  have q0 : I (la 3) 0 = A 1 0 := hL.1.1
  have h23 := hL.2.2.2.1.2.1
  have gX := hR.2.2.2.2.2.2.2.2.2.2.2.2.2.2.2.2.2.1
  have gT := hR.2.2.2.2.2.2.2.2.2.2.2.2.2.2.2.2.1
  have gC := (hR.2.2.2.2.2.2.1.2.2.2.2.2.1 n hn.1 (by omega)).2.2
  have t36 := hL.2.2.2.2.1 n hn.1 hn.2
  have t6 := hL.2.2.2.2.2
  -- the crew's train is of its own number, if there is one
  have own : ∀ P : Int → Prop, (A 36 n = 1 → P n) → (A 36 n = 0 → A 25 n = -1) ∧ (A 36 n = 1 → A 25 n = n) := fun P _ => by
    refine ⟨fun w => Classical.byContradiction (fun w2 => ?_), fun w => ?_⟩
    · obtain ⟨w3, w4⟩ := gX.2.1 n hn.1 (by omega) w2
      by_cases h3 : A 25 n < 3
      · have w5 := (hL.2.2.2.2.1 (A 25 n) (by omega) h3).2 w3
        have w6 : A 38 (A 25 n) = A 25 n := w5.2.1
        have w7 : A 25 n = n := by omega
        rw [w7] at w3
        omega
      · have := t6 (A 25 n) (by omega) (by omega)
        omega
    · have w5 := t36.2 w
      obtain ⟨y1, y2, y3, y4, y5, y6, y7, y8, y9, y10, y11, -⟩ := (gT n hn.1 (by omega)).2.2.2.2 w
      rw [w5.2.1] at y11
      exact y11
  obtain ⟨own0, own1⟩ := own (fun _ => True) (fun _ => trivial)
  have t01 := hR.t01 n hn.1 hn.2
  have st : A 36 n = 1 → 0 ≤ A 39 n ∧ A 39 n ≤ 2 := fun w => ⟨((gT n hn.1 (by omega)).2.2.2.2 w).2.1, (t36.2 w).2.2.2.1⟩
  clear own gX gT
  rcases hs with ⟨rfl, h27, hst⟩ | ⟨rfl, hno⟩
  · refine bn_F (by decide) (bn_F (by decide) (bn_F (by decide) (bn_T rfl ⟨hP.xk, c_rest (R := fun z A2 => z = w32 (A 1 0 + 480) ∧ A2 = ui (ui (sc A 0 0) 27 n (w32 (A 1 0 + 480))) 26 n 0) hP (by unfold rg; omega) (m_isCrew1 (by omega) (by omega) (bn_F (by decide) (m_rests ⟨hn.1, by omega⟩ ?_))) (fun z F' A1 hr h0 hP2 => ?_) (fun X9 z A1 F' I' hr hd _ _ => ?_)⟩)))
    · rw [if_neg (by omega)]
      have fin : W_X9_rest_48 n A (fun z A2 => z = w32 (A 1 0 + 480) ∧ A2 = ui (ui (sc A 0 0) 27 n (w32 (A 1 0 + 480))) 26 n 0) := by
        refine br_T le0 ⟨hn.1, by omega, hn.1, by omega, hn.1, by omega, ?_, rfl⟩
        exact (ui_k (by decide)).trans ui_s
      refine bn_T rfl ⟨hn.1, by omega, fun _ => fin, fun c25 => ⟨hn.1, by omega, m_stands (by omega) ?_⟩⟩
      have w36 : A 36 n = 1 := by
        rcases t01 with w | w
        · exact absurd (own0 w) c25
        · exact w
      rw [own1 w36, if_pos (by have := st w36; omega)]
      exact bn_F (by decide) fin
    · obtain ⟨rfl, rfl⟩ := hr
      refine br_F (by decide) ⟨hS.k (by decide), by decide, by omega, ?_⟩
      rw [q0]
      refine bn_T rfl (br_F (by decide) ⟨hS.k (by decide), by decide, by omega, ?_⟩)
      rw [e14, q0]
      refine ⟨hS.k (by decide), by omega, by omega, fun I4 h4 => br_F (by decide) ?_⟩
      rw [e13]
      refine ⟨hS.k (by decide), by omega, by omega, fun I5 h5 => ?_⟩
      have k4 := FrL.rf.stp (by decide) h4
      have k5 := k4.stp (by decide) h5
      have g4 := stp hS (by decide) h4
      have g5 := stp hS (by decide) h5
      rw [g4] at g5
      exact hF _ _ _ _ (hP2.frl k5) (by rw [g5]; exact hL.rest h47 hn) (Int.le_refl _)
    · obtain ⟨-, rfl⟩ := hr
      rcases hd with hd | hd
      · exact absurd hd.2 (by show ¬ (0 : Int) = 1; decide)
      · exact absurd hd.2 (by show ¬ (0 : Int) = 2; decide)
  · refine bn_F (by decide) (bn_F (by decide) (bn_F (by decide) (bn_T rfl ⟨hP.xk, c_rest (R := fun z A2 => A2 = sc A 0 2) hP (by unfold rg; omega) (m_isCrew1 (by omega) (by omega) (bn_F (by decide) (m_rests ⟨hn.1, by omega⟩ ?_))) (fun z F' A1 hr h0 hP2 => ?_) (fun X9 z A1 F' I' hr hd hP2 hI2 => ?_)⟩)))
    · have fin : W_X9_rest_44 n A (fun z A2 => A2 = sc A 0 2) := by
        unfold W_X9_rest_44
        exact br_F no2 rfl
      by_cases h27 : A 1 0 < A 27 n
      · rw [if_pos h27]
        exact bn_F (by decide) fin
      · rw [if_neg h27]
        obtain ⟨w1, w2⟩ : A 36 n = 1 ∧ A 39 n = 2 := hno.elim (fun w => absurd w h27) id
        refine bn_T rfl ⟨hn.1, by omega, fun c25 => absurd (own1 w1) (by omega), fun c25 => ⟨hn.1, by omega, m_stands (by omega) ?_⟩⟩
        rw [own1 w1, if_neg (by omega)]
        exact bn_T rfl fin
    · have hr : A1 = _ := hr
      subst hr
      exact absurd h0 (by show ¬ (2 : Int) = 0; decide)
    · have hr : A1 = _ := hr
      subst hr
      have hX : X9 = "java/lang/IllegalStateException" := by
        rcases hd with hd | hd
        · exact absurd hd.2 (by show ¬ (2 : Int) = 1; decide)
        · exact hd.1
      refine ⟨hX, br_T rfl (bn_T rfl ?_)⟩
      have hS2 := hP2.ls
      have m2 := hS2.n2
      have x14 : I' (la 2) (16 * n + 14) = lA la I 2 (16 * n + 14) := by rw [← hI2]; rfl
      refine br_T rfl ⟨hS2.k (by decide), by omega, by omega, ?_⟩
      rw [e14]
      refine ⟨hS2.k (by decide), by omega, by omega, fun I4 h4 => br_T rfl ⟨hS2.k (by decide), by omega, by omega, ?_⟩⟩
      have k4 := FrL.rf.stp (by decide) h4
      have g4 := stp hS2 (by decide) h4
      rw [x14, hI2, ui_id] at g4
      rw [e13]
      refine ⟨hS2.k (by decide), by omega, by omega, fun I5 h5 => ?_⟩
      have k5 := k4.stp (by decide) h5
      have g5 := stp hS2 (by decide) h5
      have x13 : I4 (la 2) (16 * n + 13) = lA la I 2 (16 * n + 13) := by rw [← g4]; rfl
      rw [x13, g4, ui_id] at g5
      exact hF _ _ _ _ (hP2.frl k5) (by rw [g5]; exact hL.thr h47) (Int.le_refl _)
theorem t_tracks (hP : VP (m + 1) G x la A S F I) (hL : LR (lA la I) A) (hb : 0 ≤ b ∧ b < 4) (hv : 1 ≤ v ∧ v ≤ 4) (hF : Fin m G x la x7 (A 1 0) kk Q) (s0 : Int) (hs : (s0 = 1 ∧ tkn A b 6 ≤ v) ∨ (s0 = 0 ∧ v < tkn A b 6)) : V_L_law_1231 G kk x (la 1) (la 2) (la 0) (la 3) x7 b v s0 S F I Q := by
  have hS := hP.ls
  have n3 := hS.n3
  have h47 := hP.w47
  have f4 := bx (i := 4) hb.1 hb.2 (by decide) (by decide)
  have q4 : I (la 3) (4 + b) = A 5 b := hL.2.1 b hb.1 hb.2
  rcases hs with ⟨rfl, hk⟩ | ⟨rfl, hk⟩
  · refine bn_F (by decide) (bn_F (by decide) (bn_F (by decide) (bn_F (by decide) (bn_T rfl ⟨hP.xk, c_tracks (R := fun z A2 => z = A 5 b ∧ A2 = ui (sc A 0 0) 5 b v) hP (by unfold rg; omega) (by unfold rg; omega) (m_isStation1 (by omega) (bn_F (by decide) (m_in1 (by omega) (bn_F (by decide) (m_taken (br_T hk (by unfold W_X9_tracks_39; exact br_T le0 ⟨hb.1, by omega, hb.1, by omega, rfl, rfl⟩))))))) (fun z F' A1 hr h0 hP2 => ?_) (fun X9 z A1 F' I' hr hd _ _ => ?_)⟩))))
    · obtain ⟨rfl, rfl⟩ := hr
      refine br_F (by decide) ⟨hS.k (by decide), by omega, by omega, ?_⟩
      rw [f4, q4]
      refine bn_T rfl (br_F (by decide) ?_)
      rw [f4]
      refine ⟨hS.k (by decide), by omega, by omega, fun I4 h4 => ?_⟩
      have k4 := FrL.rf.stp (by decide) h4
      have g4 := stp hS (by decide) h4
      exact hF _ _ _ _ (hP2.frl k4) (by rw [g4]; exact hL.tracks h47 hb) (Int.le_refl _)
    · obtain ⟨-, rfl⟩ := hr
      rcases hd with hd | hd | hd
      · exact absurd hd.2 (by show ¬ (0 : Int) = 1; decide)
      · exact absurd hd.2 (by show ¬ (0 : Int) = 2; decide)
      · exact absurd hd.2 (by show ¬ (0 : Int) = 3; decide)
  · refine bn_F (by decide) (bn_F (by decide) (bn_F (by decide) (bn_F (by decide) (bn_T rfl ⟨hP.xk, c_tracks (R := fun z A2 => A2 = sc A 0 3) hP (by unfold rg; omega) (by unfold rg; omega) (m_isStation1 (by omega) (bn_F (by decide) (m_in1 (by omega) (bn_F (by decide) (m_taken (br_F (by omega) (by unfold W_X9_tracks_39; exact br_F no3 rfl))))))) (fun z F' A1 hr h0 hP2 => ?_) (fun X9 z A1 F' I' hr hd hP2 hI2 => ?_)⟩))))
    · have hr : A1 = _ := hr
      subst hr
      exact absurd h0 (by show ¬ (3 : Int) = 0; decide)
    · have hr : A1 = _ := hr
      subst hr
      have hX : X9 = "java/lang/IllegalStateException" := by
        rcases hd with hd | hd | hd
        · exact absurd hd.2 (by show ¬ (3 : Int) = 1; decide)
        · exact absurd hd.2 (by show ¬ (3 : Int) = 2; decide)
        · exact hd.1
      refine ⟨hX, br_T rfl (bn_T rfl (br_T rfl ?_))⟩
      have hS2 := hP2.ls
      have m3 := hS2.n3
      have x4 : I' (la 3) (4 + b) = lA la I 3 (4 + b) := by rw [← hI2]; rfl
      rw [f4]
      refine ⟨hS2.k (by decide), by omega, by omega, hS2.k (by decide), by omega, by omega, fun I4 h4 => ?_⟩
      have k4 := FrL.rf.stp (by decide) h4
      have g4 := stp hS2 (by decide) h4
      rw [x4, hI2, ui_id] at g4
      exact hF _ _ _ _ (hP2.frl k4) (by rw [g4]; exact hL.thr h47) (Int.le_refl _)
end Turn
