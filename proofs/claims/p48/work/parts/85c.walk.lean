/-! the law's own way there: blocks, engines and crews, trains, cars -/
section Walk
variable {m : Nat} {G : Gp} {x : Nat} {la : Nat → Nat} {A : Il} {S : Shp} {F : Fl} {I : Il} {n s z f T : Int} {N : Nat} {Q : Int → Shp → Fl → Il → Prop} {kk : Nat → Nat → Nat → Nat → Nat → Int → Int → Shp → Fl → Il → Prop}
theorem VP.p60 (h : VP m G x la A S F I) : A 60 0 ≤ 1022 := by
  obtain ⟨Y, it, LN, hx, hla, hz, hLs, hC, ha, hb, hR, hp⟩ := h
  have gT := hR.2.2.2.2.2.2.2.2.2.2.2.2.2.2.2.2.1
  have := pz_ge gT
  omega
theorem l_blocks (hk : ∀ (A : Il) (S : Shp) (F : Fl) (I : Il), VP N G x la A S F I → SL 0 (lA la I) A → ∃ n9, V_L_law_162 G n9 x (la 1) (la 2) (la 0) (la 3) 1 0 S F I Q) : ∀ (k m : Nat) (A : Il) (S : Shp) (F : Fl) (I : Il), m + k = 4 → VP (N + k) G x la A S F I → S1 (m : Int) (lA la I) A → V_L_law_43 G (k + 1) x (la 1) (la 2) (la 0) (la 3) 1 (m : Int) S F I Q
  | 0, m, A, S, F, I, e, hP, hL => by
    obtain rfl : m = 4 := by omega
    exact br_T (by decide) (hk A S F I hP (S1.end4 hL))
  | k + 1, m, A, S, F, I, e, hP, hL => by
    have hS := hP.ls
    have n1 := hS.n1
    have n3 := hS.n3
    have m0 : (0 : Int) ≤ (m : Int) := by omega
    have m4 : (m : Int) < 4 := by omega
    have f4 := bx (i := 4) m0 m4 (by decide) (by decide)
    have f28 := bx (i := 28) m0 m4 (by decide) (by decide)
    have q1 : lA la I 3 1 = A 2 0 := hL.1.2.1
    have h6' : A 6 0 = (m : Int) := hL.2.2.2.2.1.1
    refine br_F (by omega) (l_cell m0 (fun z1 => pick _ _ (by decide) (fun z2 a0 a1 => ⟨hS.k (by decide), m0, by omega, fun I6 h6 => pick _ _ (by decide) (fun z7 c0 c1 => ?_) (by decide)⟩) (by decide)))
    rw [f4, f28]
    rw [w32_id (z := 2 + z2) (by unfold rg; omega)] at h6
    refine ⟨by omega, by omega, fun I10 h10 => ⟨by omega, by omega, fun I13 h13 => ⟨hS.k (by decide), by omega, by omega, fun I17 h17 => ⟨by decide, by omega, m0, by omega, by decide, by omega, fun I24 h24 => br_F (by decide) ⟨m0, by omega, by omega, by omega, hP.xk, ?_⟩⟩⟩⟩⟩
    have k6 := FrL.rf.stp (by decide) h6
    have k10 := k6.stp (by decide) h10
    have k13 := k10.stp (by decide) h13
    have k17 := k13.stp (by decide) h17
    have k24 := k17.stp (by decide) h24
    have g6 := stp hS (by decide) h6
    have g10 := stp hS (by decide) h10
    have g13 := stp hS (by decide) h13
    have g17 := stp hS (by decide) h17
    rw [g6] at g10
    rw [g10] at g13
    rw [g13] at g17
    have v1 : I17 (la 3) 1 = A 2 0 := by
      show lA la I17 3 1 = _
      rw [g17]
      exact (ui_j (by omega)).trans ((ui_k (by decide)).trans ((ui_k (by decide)).trans ((ui_k (by decide)).trans q1)))
    have v2 : I17 (la 1) (m : Int) = 2 + z2 := by
      show lA la I17 1 (m : Int) = _
      rw [g17]
      exact (ui_k (by decide)).trans ((ui_j (by omega)).trans ((ui_j (by omega)).trans ui_s))
    rw [v1, v2] at h24
    have g24 := stp hS (by decide) h24
    rw [g17] at g24
    have v3 : I24 (la 1) (m : Int) = 2 + z2 := by
      show lA la I24 1 (m : Int) = _
      rw [g24]
      exact (ui_k (by decide)).trans ((ui_k (by decide)).trans ((ui_j (by omega)).trans ((ui_j (by omega)).trans ui_s)))
    have v4 : I24 (la 1) (4 + (m : Int)) = z7 := by
      show lA la I24 1 (4 + (m : Int)) = _
      rw [g24]
      exact (ui_k (by decide)).trans ((ui_k (by decide)).trans ((ui_j (by omega)).trans ui_s))
    have nr : 0 ≤ nx (m : Int) ∧ nx (m : Int) < 4 ∧ (m : Int) ≠ nx (m : Int) := by unfold nx; split <;> omega
    rw [v3, v4, nx_w ⟨m0, m4⟩]
    refine v_lay (hP.frl k24) ⟨m0, by omega⟩ ⟨nr.1, by omega⟩ nr.2.2 ⟨by omega, by omega⟩ ⟨c0, by omega⟩ (by omega) (fun S' F' I' hP2 hI2 => ?_)
    refine bn_T h6' ?_
    have hS1 := hL.lay (p := 2 + z2) (g := z7) ⟨m0, m4⟩ rfl
    show V_L_law_43 G (k + 1) x (la 1) (la 2) (la 0) (la 3) 1 (w32 ((m : Int) + 1)) S' F' I' Q
    rw [w32_up (by omega)]
    refine l_blocks hk k (m + 1) _ S' F' I' (by omega) hP2 ?_
    rw [hI2, g24, show ((m + 1 : Nat) : Int) = (m : Int) + 1 by omega]
    exact hS1
theorem l_cout (hn : 0 ≤ n ∧ n < 3) (hk : ∀ (A : Il) (S : Shp) (F : Fl) (I : Il) (c : Nat), c ≤ 5 → VP N G x la A S F I → C2 n s f (c : Int) (lA la I) A → kk x (la 1) (la 2) (la 0) (la 3) 1 (n + 1) S F I) {c : Nat} (hc : c ≤ 5) (hP : VP N G x la A S F I) (hC : C2 n s f (c : Int) (lA la I) A) : V_L_law_542 G kk x (la 1) (la 2) (la 0) (la 3) 1 n S F I Q := by
  have en : w32 (n + 1) = n + 1 := w32_id (by unfold rg; omega)
  show kk x (la 1) (la 2) (la 0) (la 3) 1 (w32 (n + 1)) S F I
  rw [en]
  exact hk A S F I c hc hP hC
set_option maxHeartbeats 2000000 in
theorem l_cars (hn : 0 ≤ n ∧ n < 3) (hs : 0 ≤ s ∧ s < 4) (hf : f = 0 ∨ f = 1) (hk : ∀ (A : Il) (S : Shp) (F : Fl) (I : Il) (c : Nat), c ≤ 5 → VP N G x la A S F I → C2 n s f (c : Int) (lA la I) A → kk x (la 1) (la 2) (la 0) (la 3) 1 (n + 1) S F I) : ∀ (k c : Nat) (A : Il) (S : Shp) (F : Fl) (I : Il), c + k = 5 → VP (N + 2 * k) G x la A S F I → C2 n s f (c : Int) (lA la I) A → V_L_law_452 G (k + 1) kk x (la 1) (la 2) (la 0) (la 3) 1 n z (16 * n) s f (c : Int) S F I Q
  | 0, c, A, S, F, I, e, hP, hC => br_T (by omega) (l_cout hn hk (by omega) hP hC)
  | k + 1, c, A, S, F, I, e, hP, hC => by
      have hS := hP.ls
      have n2 := hS.n2
      have n3 := hS.n3
      have out : V_L_law_542 G kk x (la 1) (la 2) (la 0) (la 3) 1 n S F I Q := l_cout hn hk (by omega) (hP.less (by omega)) hC
      refine br_F (by omega) ⟨fun _ => out, fun hf0 => pick _ _ (by decide) (fun z1 _ _ => ⟨fun _ => out, fun _ => ⟨hS.k (by decide), by decide, by omega, by decide, by omega, fun I7 h7 => ⟨hP.xk, ?_⟩⟩⟩) (by decide)⟩
      have hf1 : f = 1 := by omega
      have hC0 := hC
      rw [hf1] at hC0
      obtain ⟨h2, ⟨h19, h23, h29⟩, -, ⟨h36, h36b⟩, hl⟩ := hC
      obtain ⟨l1, l2, l3, l4, l5⟩ := hl hf1
      have q1 : I (la 3) 1 = A 2 0 := h2.1.2.1
      have t2 : lA la I 2 (16 * n + 2) = A 44 n := l1.2.2.2.2.2.2.2.2.1
      have e2 := ix (i := 2) hn.1 hn.2 (by decide) (by decide)
      rw [q1] at h7
      have k7 := FrL.rf.stp (by decide) h7
      have g7 := stp hS (by decide) h7
      refine v_car (n := N + 2 * k + 1) (hP.frl k7) ⟨hs.1, by omega⟩ (by omega) (fun S' F' I' hP2 hI2 => ?_)
      have hS2 := hP2.ls
      have m2 := hS2.n2
      have v2 : I' (la 2) (16 * n + 2) = (c : Int) := by
        show lA la I' 2 (16 * n + 2) = _
        rw [hI2, g7]
        exact (ui_k (by decide)).trans (t2.trans l5)
      rw [e2, v2, w32_id (z := (c : Int) + 1) (by unfold rg; omega)]
      refine ⟨hS2.k (by decide), by omega, by omega, by omega, by omega, fun I18 h18 => br_F (by decide) (bn_F (by decide) (bn_F (by decide) (bn_F (by decide) (bn_F (by decide) (bn_F (by decide) ⟨hP2.xk, ?_⟩)))))⟩
      have k18 := FrL.rf.stp (by decide) h18
      have g18 := stp hS2 (by decide) h18
      rw [hI2, g7] at g18
      obtain ⟨c9, LN, B, E, hR1⟩ := hP2.rep
      have hp60 := hP2.p60
      have gB29 : 0 ≤ A 29 0 := by
        obtain ⟨c8, LN8, B8, E8, hR8⟩ := hP.rep
        have := hR8.2.2.2.2.2.2.2.2.1.1
        omega
      obtain ⟨A1, hA1⟩ : ∃ A1, A1 = cms (A1c A s) (A 29 0) s := ⟨_, rfl⟩
      have cf : ∀ a j, (a ≠ 0 ∧ a ≠ 2 ∧ a ≠ 29 ∧ a ≠ 30 ∧ a ≠ 31 ∧ a ≠ 32 ∧ a ≠ 33 ∧ a ≠ 34 ∧ a ≠ 35 ∧ a ≠ 60 ∧ a ≠ 61 ∧ a ≠ 62) → A1 a j = A a j := fun a j h => by rw [hA1]; exact caF A s a j h
      have c29 : A1 29 0 = A 29 0 + 1 := by rw [hA1]; simp [cms, A1c, ui, sc]
      have c32 : A1 32 (A 29 0) = -1 := by rw [hA1]; simp [cms, A1c, ui, sc]
      have c31 : A1 31 (A 29 0) = s := by rw [hA1]; simp [cms, A1c, ui, sc]
      rw [← hA1] at hP2 hR1 hp60
      have c36 := cf 36 n (by decide)
      have c39 := cf 39 n (by decide)
      have c44 := cf 44 n (by decide)
      have c40 := cf 40 n (by decide)
      refine c_couple (R := fun z A2 => z = A1 44 n + 1 ∧ cpF A1 n A2) (n := N + 2 * k) (hP2.frl k18) (by unfold rg; omega) (by unfold rg; omega) (m_couple1 hR1 hp60 hn (by omega) ⟨gB29, by omega⟩ (by omega) (by omega) c32 (by omega) (fun A2 h => ⟨rfl, h⟩)) (fun z9 S3 F3 I3 A2 hr h0 hP3 hI3 => ?_) (fun X9 z9 A2 S3 F3 I3 hr hd _ _ => ?_)
      · obtain ⟨hz9, hcp⟩ := hr
        have hS3 := hP3.ls
        have m3 := hS3.n2
        have v3 : I3 (la 2) (16 * n + 2) = (c : Int) + 1 := by
          show lA la I3 2 (16 * n + 2) = _
          rw [hI3, g18]
          exact ui_s
        rw [v3]
        refine ⟨hS3.k (by decide), by omega, by omega, bn_T (by omega) ?_⟩
        show V_L_law_452 G (k + 1) kk x (la 1) (la 2) (la 0) (la 3) 1 n z (16 * n) s f (w32 ((c : Int) + 1)) S3 F3 I3 Q
        rw [w32_up (by omega)]
        refine l_cars hn hs hf hk k (c + 1) A2 S3 F3 I3 (by omega) hP3 ?_
        rw [hI3, g18, show ((c + 1 : Nat) : Int) = (c : Int) + 1 by omega, hf1]
        exact hC0.car hn ⟨by omega, by omega⟩ hcp hA1
      · obtain ⟨-, hcp⟩ := hr
        have h00 := hcp.1
        rcases hd with hd | hd
        · rw [h00] at hd; exact absurd hd.2 (by decide)
        · rw [h00] at hd; exact absurd hd.2 (by decide)
theorem l_425 (hn : 0 ≤ n ∧ n < 3) (hs : 0 ≤ s ∧ s < 4) (hf : f = 0 ∨ f = 1) (hk : ∀ (A : Il) (S : Shp) (F : Fl) (I : Il) (c : Nat), c ≤ 5 → VP N G x la A S F I → C2 n s f (c : Int) (lA la I) A → kk x (la 1) (la 2) (la 0) (la 3) 1 (n + 1) S F I) (hP : VP (N + 10) G x la A S F I) (hC : C2 n s f 0 (foL (lA la I) n s f) A) : V_L_law_425 G kk x (la 1) (la 2) (la 0) (la 3) 1 n z (16 * n) s f f (16 * n) (la 2) S F I Q := by
  have hS := hP.ls
  have n2 := hS.n2
  have e4 := ix (i := 4) hn.1 hn.2 (by decide) (by decide)
  have e5 := ix (i := 5) hn.1 hn.2 (by decide) (by decide)
  have e11 := ix (i := 11) hn.1 hn.2 (by decide) (by decide)
  unfold V_L_law_425
  rw [e4, e5, e11]
  refine ⟨hS.k (by decide), by omega, by omega, fun I4 h4 => ⟨hS.k (by decide), by omega, by omega, fun I8 h8 => ⟨by omega, by omega, fun I11 h11 => ⟨by omega, by omega, fun I14 h14 => ⟨6, ?_⟩⟩⟩⟩⟩
  have k4 := FrL.rf.stp (by decide) h4
  have k8 := k4.stp (by decide) h8
  have k11 := k8.stp (by decide) h11
  have k14 := k11.stp (by decide) h14
  have g4 := stp hS (by decide) h4
  have g8 := stp hS (by decide) h8
  have g11 := stp hS (by decide) h11
  have g14 := stp hS (by decide) h14
  rw [g11, g8, g4] at g14
  exact l_cars hn hs hf hk 5 0 A S F I14 rfl (hP.frl k14) (by rw [g14]; exact hC)
theorem l_form (hn : 0 ≤ n ∧ n < 3) (hs : 0 ≤ s ∧ s < 4) (hT : (f = 1 ∧ T < 2) ∨ (f = 0 ∧ 2 ≤ T)) (hk : ∀ (A : Il) (S : Shp) (F : Fl) (I : Il) (c : Nat), c ≤ 5 → VP N G x la A S F I → C2 n s f (c : Int) (lA la I) A → kk x (la 1) (la 2) (la 0) (la 3) 1 (n + 1) S F I) (hP : VP (N + 10 + 1) G x la A S F I) (hC : C1 n s T 4 (lA la I) A) : V_L_calls x 0 n n 0 S F I (fun (z1 : Int) (S2 : Shp) (F3 : Fl) (I4 : Il) => (((1 : Int) = 0 → V_L_law_409 G kk x (la 1) (la 2) (la 0) (la 3) n z (16 * n) s f S2 F3 I4 Q) ∧ (¬ (1 : Int) = 0 → ((f = 0 → V_L_law_402 G kk x (la 1) (la 2) (la 0) (la 3) n z (16 * n) s f (-1003) z1 S2 F3 I4 Q) ∧ (¬ f = 0 → V_L_law_402 G kk x (la 1) (la 2) (la 0) (la 3) n z (16 * n) s f n z1 S2 F3 I4 Q))))) := by
  rcases hT with ⟨rfl, hT⟩ | ⟨rfl, hT⟩
  · refine bn_T rfl ⟨hP.xk, c_form (R := fun z A2 => z = n ∧ A2 = foA A n) hP (by unfold rg; omega) (by unfold rg; omega) (m_form1 hC hn hs (fun _ => ⟨rfl, rfl⟩) (fun w => absurd hT (by omega))) (fun z1 F' I' A1 hr h0 hP2 hI2 => ?_) (fun X9 z1 A1 F' I' hr hd _ _ => ?_)⟩
    · obtain ⟨rfl, rfl⟩ := hr
      refine br_F (by decide) (br_F (by decide) (bn_T rfl (br_F (by decide) (l_425 hn hs (Or.inr rfl) hk hP2 ?_))))
      rw [hI2]
      exact hC.form hn hs
    · obtain ⟨-, rfl⟩ := hr
      have e0 : foA A n 0 0 = 0 := by simp [foA, ui, sc]
      rw [e0] at hd
      rcases hd with hd | hd
      · exact absurd hd.2 (by decide)
      · exact absurd hd.2 (by decide)
  · refine bn_T rfl ⟨hP.xk, c_form (R := fun z A2 => A2 = sc (sc A 0 0) 0 2) hP (by unfold rg; omega) (by unfold rg; omega) (m_form1 hC hn hs (fun w => absurd hT (by omega)) (fun _ => rfl)) (fun z1 F' I' A1 hr h0 hP2 hI2 => ?_) (fun X9 z1 A1 F' I' hr hd hP2 hI2 => ?_)⟩
    · have hr : A1 = _ := hr
      subst hr
      exact absurd h0 (by show ¬ (2 : Int) = 0; decide)
    · have hr : A1 = _ := hr
      subst hr
      have hX : X9 = "java/lang/IllegalStateException" := by
        rcases hd with hd | hd
        · exact absurd hd.2 (by show ¬ (2 : Int) = 1; decide)
        · exact hd.1
      refine ⟨hX, br_F (by decide) (br_T rfl (bn_T rfl (br_T rfl (l_425 hn hs (Or.inl rfl) hk hP2 ?_))))⟩
      rw [hI2]
      exact hC.noform hn
theorem l_learns (hn : 0 ≤ n ∧ n < 3) (hs : 0 ≤ s ∧ s < 4) (hT : (f = 1 ∧ T < 2) ∨ (f = 0 ∧ 2 ≤ T)) (hk : ∀ (A : Il) (S : Shp) (F : Fl) (I : Il) (c : Nat), c ≤ 5 → VP N G x la A S F I → C2 n s f (c : Int) (lA la I) A → kk x (la 1) (la 2) (la 0) (la 3) 1 (n + 1) S F I) : ∀ (k i : Nat) (A : Il) (S : Shp) (F : Fl) (I : Il), i + k = 4 → VP (N + 10 + 1 + k) G x la A S F I → C1 n s T i (lA la I) A → V_L_law_285 G (k + 1) kk x (la 1) (la 2) (la 0) (la 3) 1 n z (16 * n) s f (i : Int) S F I Q
  | 0, i, A, S, F, I, e, hP, hC => by
    obtain rfl : i = 4 := by omega
    exact br_T (by decide) (l_form hn hs hT hk hP hC)
  | k + 1, i, A, S, F, I, e, hP, hC => by
    have hS := hP.ls
    have n2 := hS.n2
    have i4 : i < 4 := by omega
    have e15 := ix (i := 15) hn.1 hn.2 (by decide) (by decide)
    have h6 := hC.1.2.2.2.1.1
    have h23 := hC.2.1.2.1
    have t15 : I (la 2) (16 * n + 15) = lA la I 2 (16 * n + 15) := rfl
    have next : ∀ (A' : Il) (F' : Fl) (I' : Il), VP (N + 10 + 1 + k) G x la A' S F' I' → C1 n s T (i + 1) (lA la I') A' → V_L_law_357 G kk (fun y0 y1 y2 y3 y4 y5 y6 y7 y8 y9 y10 y11 S' F' I' => V_L_law_285 G (k + 1) kk y0 y1 y2 y3 y4 y5 y6 y7 y8 y9 y10 y11 S' F' I' Q) x (la 1) (la 2) (la 0) (la 3) n z (16 * n) s f (i : Int) S F' I' Q := fun A' F' I' a b => by
      show V_L_law_285 G (k + 1) kk x (la 1) (la 2) (la 0) (la 3) 1 n z (16 * n) s f (w32 ((i : Int) + 1)) S F' I' Q
      rw [w32_up (by omega)]
      exact l_learns hn hs hT hk k (i + 1) A' S F' I' (by omega) a b
    refine br_F (by omega) (pick _ _ (by decide) (fun z5 _ _ => ⟨fun _ => ?_, fun _ => ?_⟩) (by decide))
    · unfold V_L_law_311
      rw [e15]
      refine ⟨hS.k (by decide), by omega, by omega, br_T rfl ⟨hS.k (by decide), by omega, by omega, fun I4 h4 => br_F (by decide) (br_T rfl ?_)⟩⟩
      obtain ⟨c1, c2⟩ := hC.no i4
      rw [t15, c2] at h4
      have k4 := FrL.rf.stp (by decide) h4
      have g4 := stp hS (by decide) h4
      rw [ui_id] at g4
      exact next A F I4 ((hP.less (by omega)).frl k4) (by rw [g4]; exact c1)
    · unfold V_L_law_311
      rw [e15]
      refine ⟨hS.k (by decide), by omega, by omega, br_F (by decide) ⟨hS.k (by decide), by omega, by omega, fun I4 h4 => br_F (by decide) (br_F (by decide) ⟨hP.xk, ?_⟩)⟩⟩
      rw [t15] at h4
      have k4 := FrL.rf.stp (by decide) h4
      have g4 := stp hS (by decide) h4
      refine c_learn (R := fun z A2 => 0 < z ∧ A2 = ui (sc A 0 0) 28 (16 * n + (i : Int)) 1) (n := N + 10 + 1 + k) (hP.frl k4) (by unfold rg; omega) (by unfold rg; omega) (m_learn1 hn h23 h6 i4 (fun z hz => ⟨hz, rfl⟩)) (fun z6 F' A1 hr h0 hP2 => ?_) (fun X9 z6 A1 F' I' hr hd _ _ => ?_)
      · obtain ⟨hz6, rfl⟩ := hr
        exact br_F (by omega) (next _ F' I4 hP2 (by rw [g4]; exact hC.yes hn i4))
      · obtain ⟨-, rfl⟩ := hr
        exact absurd hd.2 (by show ¬ (0 : Int) = 1; decide)
theorem SL.few (h : SL n (lA la I) A) (hn : 0 ≤ n ∧ n < 2) : tkn A s 6 < 2 := by
  obtain ⟨h2, h36, -⟩ := h
  have h6 := h2.2.2.2.2.2.1
  rw [tkn_3 (fun q q0 q1 => h6 q (by omega) q1)]
  have z2 : A 36 2 = 0 := h6 2 (by omega) (by decide)
  have z1 : A 36 1 = 0 := by
    by_cases e : n = 1
    · rw [← e]; exact h36
    · exact h6 1 (by omega) (by decide)
  show (0 : Int) + (if ¬ A 36 0 = 0 ∧ ¬ A 39 0 = 3 ∧ A 40 0 = s then 1 else 0) + (if ¬ A 36 1 = 0 ∧ ¬ A 39 1 = 3 ∧ A 40 1 = s then 1 else 0) + (if ¬ A 36 2 = 0 ∧ ¬ A 39 2 = 3 ∧ A 40 2 = s then 1 else 0) < 2
  rw [if_neg (fun w : ¬ A 36 1 = 0 ∧ ¬ A 39 1 = 3 ∧ A 40 1 = s => w.1 z1), if_neg (fun w : ¬ A 36 2 = 0 ∧ ¬ A 39 2 = 3 ∧ A 40 2 = s => w.1 z2)]
  split <;> omega
theorem l_208 (hn : 0 ≤ n ∧ n < 3) (hs : 0 ≤ s ∧ s < 4) (hT : (f = 1 ∧ tkn A s 6 < 2) ∨ (f = 0 ∧ 2 ≤ tkn A s 6)) (hk : ∀ (A : Il) (S : Shp) (F : Fl) (I : Il) (c : Nat), c ≤ 5 → VP N G x la A S F I → C2 n s f (c : Int) (lA la I) A → kk x (la 1) (la 2) (la 0) (la 3) 1 (n + 1) S F I) (hP : VP (N + 10 + 1 + 4 + 1 + 1) G x la A S F I) (hL : SL n (lA la I) A) : V_L_law_208 G kk x (la 1) (la 2) (la 0) (la 3) 1 n z (16 * n) s f S F I Q := by
  have hS := hP.ls
  have n2 := hS.n2
  have n3 := hS.n3
  have e1 := ix (i := 1) hn.1 hn.2 (by decide) (by decide)
  have q1 : lA la I 3 1 = A 2 0 := hL.1.1.2.1
  have h19 := hL.2.2.1.1
  have h23 := hL.2.2.1.2
  unfold V_L_law_208
  rw [e1]
  refine pick _ _ (by decide) (fun z1 a0 a1 => ⟨hS.k (by decide), by omega, by omega, fun I5 h5 => ⟨hS.k (by decide), by decide, by omega, by omega, by omega, by decide, by omega, fun I13 h13 => br_F (by decide) ⟨by omega, by omega, hP.xk, ?_⟩⟩⟩) (by decide)
  rw [w32_id (z := 1 + z1) (by unfold rg; omega)] at h5
  have k5 := FrL.rf.stp (by decide) h5
  have g5 := stp hS (by decide) h5
  have v1 : I5 (la 3) 1 = A 2 0 := by
    show lA la I5 3 1 = _
    rw [g5]
    exact (ui_k (by decide)).trans q1
  have v2 : I5 (la 2) (16 * n + 1) = 1 + z1 := by
    show lA la I5 2 (16 * n + 1) = _
    rw [g5]
    exact ui_s
  rw [v1, v2] at h13
  have k13 := k5.stp (by decide) h13
  have g13 := stp hS (by decide) h13
  rw [g5] at g13
  have v3 : I13 (la 2) (16 * n + 1) = 1 + z1 := by
    show lA la I13 2 (16 * n + 1) = _
    rw [g13]
    exact (ui_k (by decide)).trans ui_s
  rw [v3]
  refine v_engine (n := N + 10 + 1 + 4 + 1) (hP.frl k13) ⟨hs.1, by omega⟩ ⟨by omega, by omega⟩ (by omega) (fun S' F' I' hP2 hI2 => ?_)
  refine bn_T h19 ⟨hP2.xk, v_crew (n := N + 10 + 1 + 4) hP2 ⟨hs.1, by omega⟩ (show A 23 0 < 6 by omega) (fun S3 F3 I3 hP3 hI3 => ?_)⟩
  refine bn_T (show A 23 0 = n from h23) ⟨5, l_learns (T := tkn A s 6) hn hs hT hk 4 0 _ S3 F3 I3 rfl hP3 ?_⟩
  rw [hI3, hI2, g13]
  exact hL.eng hn ⟨by omega, by omega⟩ rfl rfl
theorem l_trains (hk : ∀ (A : Il) (S : Shp) (F : Fl) (I : Il), VP N G x la A S F I → LR (lA la I) A → A 1 0 = 0 → ∃ n9, V_L_law_551 G n9 x (la 1) (la 2) (la 0) (la 3) 1 0 S F I Q) : ∀ (k n : Nat) (A : Il) (S : Shp) (F : Fl) (I : Il), n + k = 3 → VP (N + 17 * k) G x la A S F I → SL (n : Int) (lA la I) A → V_L_law_162 G (k + 1) x (la 1) (la 2) (la 0) (la 3) 1 (n : Int) S F I Q
  | 0, n, A, S, F, I, e, hP, hL => by
    obtain rfl : n = 3 := by omega
    exact br_T (by decide) (hk A S F I hP (SL.lr hL) hL.1.2.1.2)
  | k + 1, n, A, S, F, I, e, hP, hL => by
    have hS := hP.ls
    have n0 : (0 : Int) ≤ (n : Int) := by omega
    have n3 : (n : Int) < 3 := by omega
    obtain ⟨cc, LN, B, E, hR⟩ := hP.rep
    have h01 := hR.t01
    have hlt := hL.1.ltr ⟨n0, by omega⟩ hL.2.1 hL.2.2.2.2
    have fin : ∀ (s f : Int), ((f = 1 ∧ tkn A s 6 < 2) ∨ (f = 0 ∧ 2 ≤ tkn A s 6)) → ∀ (A' : Il) (S' : Shp) (F' : Fl) (I' : Il) (c : Nat), c ≤ 5 → VP (N + 17 * k) G x la A' S' F' I' → C2 (n : Int) s f (c : Int) (lA la I') A' → (fun y0 y1 y2 y3 y4 y5 y6 S' F' I' => V_L_law_162 G (k + 1) y0 y1 y2 y3 y4 y5 y6 S' F' I' Q) x (la 1) (la 2) (la 0) (la 3) 1 ((n : Int) + 1) S' F' I' := fun s f hT A' S' F' I' c c5 a b => by
      obtain ⟨b1, ⟨b2, b3, b4⟩, b5, ⟨b6, b7⟩, b8⟩ := b
      obtain ⟨d1, d2, d3⟩ := b1.next ⟨n0, n3⟩ b5 b6 (fun w => by
        have w2 := b8 (b7.symm.trans w)
        exact ⟨w2.1, w2.2.1, w2.2.2.1⟩) (fun w => by
        have := SL.few (s := s) hL ⟨n0, w⟩
        omega)
      show V_L_law_162 G (k + 1) x (la 1) (la 2) (la 0) (la 3) 1 ((n : Int) + 1) S' F' I' Q
      rw [show (n : Int) + 1 = ((n + 1 : Nat) : Int) by omega]
      refine l_trains hk k (n + 1) A' S' F' I' (by omega) a ?_
      rw [show ((n + 1 : Nat) : Int) = (n : Int) + 1 by omega]
      exact ⟨d1, d2, ⟨b2, b3⟩, by omega, d3⟩
    refine br_F (by omega) (l_cell (by rw [w32_id (by unfold rg; omega)]; omega) (fun z1 => fun v2 hv2 => pick _ _ (by decide) (fun s s0 s1 => ?_) (by decide)))
    rw [w32_id (by unfold rg; omega)] at hv2
    subst hv2
    refine l_taken hS hlt h01 ⟨fun w => ?_, fun w => ?_⟩
    · exact l_208 (N := N + 17 * k) ⟨n0, n3⟩ ⟨s0, s1⟩ (Or.inr ⟨rfl, w⟩) (fin s 0 (Or.inr ⟨rfl, w⟩)) hP hL
    · exact l_208 (N := N + 17 * k) ⟨n0, n3⟩ ⟨s0, s1⟩ (Or.inl ⟨rfl, by omega⟩) (fin s 1 (Or.inl ⟨rfl, by omega⟩)) hP hL
end Walk
