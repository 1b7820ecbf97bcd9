/-! waiting, running; which act a turn is -/
section Turn2
variable {m : Nat} {G : Gp} {x : Nat} {la : Nat → Nat} {A : Il} {S : Shp} {F : Fl} {I : Il} {x7 b n v : Int} {kk : Nat → Nat → Nat → Nat → Nat → Int → Int → Shp → Fl → Il → Prop} {Q : Int → Shp → Fl → Il → Prop}
theorem Fin.le {T T' : Int} (h : T ≤ T') (hF : Fin m G x la x7 T' kk Q) : Fin m G x la x7 T kk Q := fun A' S' F' I' a b c => hF A' S' F' I' a b (Int.le_trans c h)
theorem t_await {o s : Int} (hP : VP (m + 1) G x la A S F I) (hL : LR (lA la I) A) (hn : 0 ≤ n ∧ n < 3) (ho : 0 ≤ o ∧ o < 3) (hno : n ≠ o) (hs : 0 ≤ s ∧ s < 4) (h36 : A 36 n = 1) (h36o : A 36 o = 1) (hF : Fin m G x la x7 (A 1 0) kk Q) : V_X8_await x n o s S F I (fun (F9 : Fl) => (0 : Int) ≤ w32 (16 * n + 11) ∧ w32 (16 * n + 11) < (sN S (la 2) : Int) ∧ ∀ I12_ : Il, I12_ = ui I (la 2) (w32 (16 * n + 11)) o → (0 : Int) ≤ w32 (16 * n + 12) ∧ w32 (16 * n + 12) < (sN S (la 2) : Int) ∧ ∀ I15_ : Il, I15_ = ui I12_ (la 2) (w32 (16 * n + 12)) s → V_L_law_1370 G kk x (la 1) (la 2) (la 0) (la 3) 1 x7 S F9 I15_ Q) noX := by
  have hS := hP.ls
  have n2 := hS.n2
  have h47 := hP.w47
  have e11 := ix (i := 11) hn.1 hn.2 (by decide) (by decide)
  have e12 := ix (i := 12) hn.1 hn.2 (by decide) (by decide)
  refine c_await (R := fun A2 => A2 = ui (ui (sc A 0 0) 50 n o) 51 n s) hP (by unfold rg; omega) (by unfold rg; omega) (by unfold rg; omega) (m_isTrain1 (by omega) (br_F (by decide) (br_F (by omega) (m_isTrain1 (by omega) (br_F (by decide) (m_isStation1 (by omega) (bn_F (by decide) (bn_F hno (bn_T rfl ⟨hn.1, by omega, hn.1, by omega, rfl⟩))))))))) (fun F' A1 hr h0 hP2 => ?_) (fun X9 A1 F' I' hr hd _ _ => ?_)
  · have hr : A1 = _ := hr
    subst hr
    refine ⟨by omega, by omega, fun I4 h4 => ⟨by omega, by omega, fun I5 h5 => ?_⟩⟩
    rw [e11] at h4
    rw [e12] at h5
    have k4 := FrL.rf.stp (by decide) h4
    have k5 := k4.stp (by decide) h5
    have g4 := stp hS (by decide) h4
    have g5 := stp hS (by decide) h5
    rw [g4] at g5
    exact hF _ _ _ _ (hP2.frl k5) (by rw [g5]; exact hL.await h47 hn ho) (Int.le_refl _)
  · have hr : A1 = _ := hr
    subst hr
    rcases hd with hd | hd
    · exact absurd hd.2 (by show ¬ (0 : Int) = 1; decide)
    · exact absurd hd.2 (by show ¬ (0 : Int) = 2; decide)
/-- minutes, the law's and the reference's -/
theorem lk_run {many : Int} {F : Fl} (hS : Ls la S) : ∀ (k : Nat) (j : Nat) (I A : Il), (j : Int) + (k : Int) = many → j + k < 1000 → BR la I A → A 0 0 = 0 → A 1 0 + (k : Int) ≤ 20000 → rg (lA la I 3 2) → ∃ (I' A' : Il), BR la I' A' ∧ FrL la I I' ∧ A' 0 0 = 0 ∧ A' 1 0 = A 1 0 + (k : Int) ∧ (∀ Q : Int → Il → Prop, Q (lA la I' 3 2) A' → W_X9_run_40 (k + 1) many (lA la I 3 2) (j : Int) A Q) ∧ ∀ {G : Gp} {kk : Nat → Nat → Nat → Nat → Nat → Int → Int → Shp → Fl → Il → Prop} {x : Nat} {x7 : Int} {Q : Int → Shp → Fl → Il → Prop}, V_L_law_1414 G 1 kk x (la 1) (la 2) (la 0) (la 3) x7 many many S F I' Q → V_L_law_1414 G (k + 1) kk x (la 1) (la 2) (la 0) (la 3) x7 many (j : Int) S F I Q
  | 0, j, I, A, hj, _, hB, h0, hc, hz => by
    have hj : (j : Int) = many := by omega
    refine ⟨I, A, hB, FrL.rf, h0, by omega, fun Q h => br_T (by omega) h, fun h => ?_⟩
    rw [hj]
    exact h
  | k + 1, j, I, A, hj, hjk, hB, h0, hc, hz => by
    obtain ⟨cnt, I1, A1, hB1, hF1, hq1, hs1, hc1, hw1, hv1⟩ := lk_tick (F := F) hS hB (by omega) hz
    obtain ⟨I2, A2, hB2, hF2, h02, hc2, hw2, hv2⟩ := lk_run (many := many) (F := F) hS k (j + 1) I1 A1 (by omega) (by omega) hB1 (by rw [hs1.1]; exact h0) (by omega) (by rw [hq1]; exact rg_w32 _)
    have e : w32 ((j : Int) + 1) = ((j + 1 : Nat) : Int) := w32_up (by omega)
    refine ⟨I2, A2, hB2, hF1.t hF2, h02, by omega, fun Q h => br_F (by omega) (bn_T h0 (hw1 _ ?_)), fun h => br_F (by omega) (hv1 _ ?_)⟩
    · show W_X9_run_40 (k + 1) many (w32 (lA la I 3 2 + cnt)) (w32 ((j : Int) + 1)) A1 Q
      rw [e, ← hq1]
      exact hw2 Q h
    · show V_L_law_1414 _ (k + 1) _ _ _ _ _ _ _ many (w32 ((j : Int) + 1)) _ _ I1 _
      rw [e]
      exact hv2 h
theorem t_run (hP : VP (m + 1) G x la A S F I) (hL : LR (lA la I) A) (hcl : A 1 0 + 300 ≤ 20000) (hF : Fin m G x la x7 (A 1 0 + 300) kk Q) {s0 s1 : Int} (hs : 0 < s0 ∧ s0 ≤ 300) : V_L_law_1400 G kk x (la 1) (la 2) (la 0) (la 3) x7 s0 s1 1 S F I Q := by
  have hS := hP.ls
  have n3 := hS.n3
  have h47 := hP.w47
  obtain ⟨c, LN, B, E, hR⟩ := hP.rep
  have hc0 := hR.1.2.2.2.2.1
  refine pick _ _ hs.1 (fun z z0 z1 => fun v hv => ⟨hS.k (by decide), by decide, by omega, fun I6 h6 => ?_⟩) (by omega)
  rw [w32_id (by unfold rg; omega)] at hv
  have k6 := FrL.rf.stp (by decide) h6
  have g6 := stp hS (by decide) h6
  have q2 : lA la I6 3 2 = 0 := by rw [g6]; exact ui_s
  have hL6 : LR (lA la I6) (sc A 0 0) := by
    obtain ⟨l1, l2, l3, l4, l5⟩ := hL.thr (z := 0) h47
    rw [g6]
    have r3 : ∀ j : Int, j ≠ 2 → ui (lA la I) 3 2 0 3 j = lA la I 3 j := fun j h => ui_j h
    have rk : ∀ r j, r ≠ 3 → ui (lA la I) 3 2 0 r j = lA la I r j := fun r j h => ui_k h
    have h47' : ∀ n : Int, 0 ≤ n → n < 3 → (sc A 0 0) 36 n = 1 → (sc A 0 0) 47 n ≤ 8 := h47
    exact ⟨l1.fr ⟨r3 0 (by decide), r3 1 (by decide), r3 3 (by decide)⟩ (fun a h => rfl), l2.fr (fun j h => r3 j (by omega)) (fun j => rfl), l3.fr (fun j => rk 1 j (by decide)) (fun a j h => rfl), l4.fr (fun _ _ _ _ _ => rk 2 _ (by decide)) (fun a j h => rfl), l5.fr h47' (fun _ _ _ _ _ _ => rk 2 _ (by decide)) (fun _ => rk 0 _ (by decide)) (fun a j a0 a1 a3 => rfl)⟩
  obtain ⟨I7, A7, hB7, hF7, h07, hc7, hw7, hv7⟩ := lk_run (many := v) (F := F) hS v.toNat 0 I6 (sc A 0 0) (by omega) (by omega) ⟨⟨c, LN, B, E, hR.thr⟩, hL6⟩ rfl (by show A 1 0 + _ ≤ _; omega) (by rw [q2]; unfold rg; omega)
  rw [q2] at hw7
  have hP7 := hP.frl (k6.t hF7)
  refine ⟨v.toNat + 1, hv7 (br_T (Int.le_refl _) ⟨hP.xk, c_run (R := fun z A2 => z = lA la I7 3 2 ∧ A2 = A7) hP7 (by unfold rg; omega) ?_ (fun z F' I' A1 hr h0 hP2 hI2 => ?_) (fun X9 z A1 F' I' hr hd _ _ => ?_)⟩)⟩
  · refine m_in1 (by omega) (bn_F (by decide) (br_T ?_ ⟨_, hw7 _ ⟨rfl, rfl⟩⟩))
    rw [w32_id (by unfold rg; omega)]
    omega
  · obtain ⟨rfl, rfl⟩ := hr
    have hS2 := hP2.ls
    have e2 : I' (la 3) 2 = lA la I7 3 2 := by rw [← hI2]; rfl
    refine ⟨hS2.k (by decide), by decide, by have := hS2.n3; omega, ?_⟩
    rw [e2]
    refine bn_T rfl (hF _ _ _ _ hP2 (by rw [hI2]; exact hB7.2) ?_)
    have : A1 1 0 = A 1 0 + _ := hc7
    omega
  · obtain ⟨-, rfl⟩ := hr
    rcases hd with hd | hd
    · rw [h07] at hd; exact absurd hd.2 (by decide)
    · rw [h07] at hd; exact absurd hd.2 (by decide)
theorem t_1373 (hP : VP (m + 1) G x la A S F I) (hL : LR (lA la I) A) (hcl : A 1 0 + 300 ≤ 20000) (hF : Fin m G x la x7 (A 1 0 + 300) kk Q) (z : Int) : V_L_law_1373 G kk x (la 1) (la 2) (la 0) (la 3) x7 z S F I Q :=
  pick _ _ (by decide) (fun _ _ _ => ⟨fun _ => t_run hP hL hcl hF (by decide), fun _ => t_run hP hL hcl hF (by decide)⟩) (by decide)
theorem t_1195 (hP : VP (m + 1) G x la A S F I) (hL : LR (lA la I) A) (hcl : A 1 0 + 300 ≤ 20000) (hn : 0 ≤ n ∧ n < 3) (hb : 0 ≤ b ∧ b < 4) (hF : Fin m G x la x7 (A 1 0 + 300) kk Q) (z x9 : Int) : V_L_law_1195 G kk x (la 1) (la 2) (la 0) (la 3) 1 x7 z x9 n (16 * n) b S F I Q := by
  have hS := hP.ls
  have n2 := hS.n2
  have hF0 : Fin m G x la x7 (A 1 0) kk Q := hF.le (by omega)
  have h01 : ∀ n : Int, 0 ≤ n → n < 3 → A 36 n = 0 ∨ A 36 n = 1 := by
    obtain ⟨c, LN, B, E, hR⟩ := hP.rep
    exact hR.t01
  have r36 : ∀ n : Int, 0 ≤ n → n < 3 → I (la 2) (16 * n) = A 36 n := fun n a c => (hL.2.2.2.2.1 n a c).1
  have hT := hL.2.2.2.2
  have run := t_1373 hP hL hcl hF z
  refine ⟨fun c10 => ⟨fun c11 => run, fun c11 => ⟨hS.k (by decide), by omega, by omega, fun d => run, fun d => pick _ _ (by decide) (fun z4 z0 z1 => fun o ho => ?_) (by decide)⟩⟩, fun c10 => pick _ _ (by decide) (fun z4 z0 z1 => fun v hv => ?_) (by decide)⟩
  · rw [w32_id (z := n + 1) (by unfold rg; omega), w32_id (z := n + 1 + z4) (by unfold rg; omega), Int.tmod_eq_emod_of_nonneg (by omega), w32_id (by unfold rg; omega)] at ho
    have ho3 : 0 ≤ o ∧ o < 3 := by omega
    have hno : n ≠ o := by omega
    rw [w32_id (z := 16 * o) (by unfold rg; omega), r36 o ho3.1 ho3.2]
    rw [r36 n hn.1 hn.2] at d
    exact ⟨by omega, by omega, fun w => hF _ _ _ _ (hP.less (by omega)) hL (by omega), fun w => ⟨hP.xk, t_await hP hL hn ho3 hno hb d w hF0⟩⟩
  · rw [w32_id (by unfold rg; omega)] at hv
    exact l_taken hS hT h01 ⟨fun w => t_tracks hP hL hb (by omega) hF0 0 (Or.inr ⟨rfl, w⟩), fun w => t_tracks hP hL hb (by omega) hF0 1 (Or.inl ⟨rfl, by omega⟩)⟩
theorem t_788 (hP : VP (m + 1) G x la A S F I) (hL : LR (lA la I) A) (hcl : A 1 0 + 300 ≤ 20000) (hn : 0 ≤ n ∧ n < 3) (hb : 0 ≤ b ∧ b < 4) (hF : Fin m G x la x7 (A 1 0 + 300) kk Q) (z x9 : Int) : V_L_law_788 G kk x (la 1) (la 2) (la 0) (la 3) 1 x7 z x9 n (16 * n) b S F I Q := by
  have hS := hP.ls
  have n1 := hS.n1
  have n2 := hS.n2
  have n3 := hS.n3
  have hF0 : Fin m G x la x7 (A 1 0) kk Q := hF.le (by omega)
  have next := t_1195 hP hL hcl hn hb hF z x9
  obtain ⟨c, LN, B, E, hR⟩ := hP.rep
  have hc0 := hR.1.2.2.2.2.1
  have h6 := hL.2.2.1.1
  have h17 : -1 ≤ A 17 b := (hR.2.2.2.2.1 b hb.1 (by omega)).2.2.1
  have h01 := hR.t01 n hn.1 hn.2
  have wb := hL.2.2.1.2 b hb.1 hb.2
  have b28 : I (la 1) (28 + b) = A 17 b := wb.2.2.2.2.2.2.2.2.2.1
  have b36 : I (la 1) (36 + b) = A 11 b := wb.2.2.2.2.2.2.2.2.2.2.2.1
  have e14 := ix (i := 14) hn.1 hn.2 (by decide) (by decide)
  have e3 := ix (i := 3) hn.1 hn.2 (by decide) (by decide)
  have f28 := bx (i := 28) hb.1 hb.2 (by decide) (by decide)
  have f36 := bx (i := 36) hb.1 hb.2 (by decide) (by decide)
  have q0 : I (la 3) 0 = A 1 0 := hL.1.1
  have r36 : I (la 2) (16 * n) = A 36 n := (hL.2.2.2.2.1 n hn.1 hn.2).1
  have r3 : A 36 n = 1 → I (la 2) (16 * n + 3) = A 39 n ∧ A 39 n ≤ 2 := fun w => ⟨((hL.2.2.2.2.1 n hn.1 hn.2).2 w).2.2.1, ((hL.2.2.2.2.1 n hn.1 hn.2).2 w).2.2.2.1⟩
  have r14 : I (la 2) (16 * n + 14) = A 27 n := (hL.2.2.2.1.2.2 n hn.1 hn.2).2.2.2.1
  clear wb
  refine ⟨fun c7 => ⟨fun c8 => ⟨fun c9 => next, fun c9 => pick _ _ (by decide) (fun z1 _ _ => ⟨fun _ => next, fun _ => ?_⟩) (by decide)⟩, fun c8 => ?_⟩, fun c7 => ⟨hS.k (by decide), by decide, by omega, pick _ _ (by decide) (fun z23 a0 a1 => fun f hf => ?_) (by decide)⟩⟩
  · rw [e14, e3, r14, q0, r36]
    refine ⟨hS.k (by decide), by omega, by omega, hS.k (by decide), by decide, by omega, fun w => t_rest hP hL hn hF0 0 (Or.inr ⟨rfl, Or.inl w⟩), fun w => ⟨by omega, by omega, fun w2 => t_rest hP hL hn hF0 1 (Or.inl ⟨rfl, by omega, Or.inl w2⟩), fun w2 => ⟨by omega, by omega, ?_⟩⟩⟩
    have w3 : A 36 n = 1 := h01.resolve_left w2
    obtain ⟨y1, y2⟩ := r3 w3
    rw [y1]
    exact ⟨fun w4 => t_rest hP hL hn hF0 0 (Or.inr ⟨rfl, Or.inr ⟨w3, by omega⟩⟩), fun w4 => t_rest hP hL hn hF0 1 (Or.inl ⟨rfl, by omega, Or.inr (by omega)⟩)⟩
  · rw [f28, f36, b28, b36, q0]
    refine ⟨hS.k (by decide), by omega, by omega, fun w => t_rep hP hL hb hF0 0 (Or.inr ⟨rfl, Or.inl (by omega)⟩), fun w => ⟨by omega, by omega, hS.k (by decide), by decide, by omega, fun w2 => t_rep hP hL hb hF0 0 (Or.inr ⟨rfl, Or.inr w2⟩), fun w2 => t_rep hP hL hb hF0 1 (Or.inl ⟨rfl, by omega, by omega⟩)⟩⟩
  · rw [q0, w32_id (z := A 1 0 + z23) (by unfold rg; omega), Int.tmod_eq_emod_of_nonneg (by omega), w32_id (by unfold rg; omega)] at hf
    have hf2 : 0 ≤ f ∧ f < 1440 := by omega
    clear hf
    have hw : 0 ≤ w32 (Int.tmod (iand (ishr z 13) 2147483647) 20) ∧ w32 (Int.tmod (iand (ishr z 13) 2147483647) 20) < 20 := (pick (ishr z 13) 20 (S := S) (F := F) (I := I) (Q := fun z => 0 ≤ z ∧ z < 20) (by decide) (fun z a c => ⟨a, c⟩) (by decide)).2
    unfold V_L_low
    generalize w32 (Int.tmod (iand (ishr z 13) 2147483647) 20) = w at *
    have e : w32 (f + w) = f + w := w32_id (by unfold rg; omega)
    refine ⟨by decide, ?_⟩
    show (w32 (f + w) ≤ 1440 → _ ∧ V_L_law_854 G kk x (la 1) (la 2) (la 0) (la 3) 1 x7 b f (w32 (f + w)) S F I Q) ∧ (¬ w32 (f + w) ≤ 1440 → V_L_law_854 G kk x (la 1) (la 2) (la 0) (la 3) 1 x7 b f 1440 S F I Q)
    rw [e]
    exact ⟨fun w2 => ⟨by decide, t_hours hP hL hb (by omega) hF0⟩, fun w2 => t_hours hP hL hb (by omega) hF0⟩
theorem t_663 (hP : VP (m + 1) G x la A S F I) (hL : LR (lA la I) A) (hcl : A 1 0 + 300 ≤ 20000) (hn : 0 ≤ n ∧ n < 3) (hb : 0 ≤ b ∧ b < 4) (hF : Fin m G x la x7 (A 1 0 + 300) kk Q) (z x9 : Int) : V_L_law_663 G kk x (la 1) (la 2) (la 0) (la 3) 1 x7 z x9 n (16 * n) b S F I Q := by
  have hS := hP.ls
  have n1 := hS.n1
  have hF0 : Fin m G x la x7 (A 1 0) kk Q := hF.le (by omega)
  have next := t_788 hP hL hcl hn hb hF z x9
  have wb := hL.2.2.1.2 b hb.1 hb.2
  have b12 : I (la 1) (12 + b) = A 13 b := wb.2.2.2.2.2.1
  have b16 : I (la 1) (16 + b) = A 14 b := wb.2.2.2.2.2.2.1
  have f12 := bx (i := 12) hb.1 hb.2 (by decide) (by decide)
  have f16 := bx (i := 16) hb.1 hb.2 (by decide) (by decide)
  clear wb
  refine ⟨fun c5 => ⟨fun c6 => next, fun c6 => ⟨hS.k (by decide), by omega, by omega, fun _ => next, fun d => ⟨by omega, by omega, fun _ => next, fun d2 => ⟨hP.xk, ?_⟩⟩⟩⟩, fun c5 => pick _ _ (by decide) (fun z1 a0 a1 => ⟨fun w => ?_, fun w => ?_⟩) (by decide)⟩
  · rw [f12, b12] at d
    rw [f16, b16] at d2
    exact t_flag hP hL hb d d2 hF0
  · obtain rfl : z1 = 0 := by omega
    exact t_fail hP hL hb (Or.inl rfl) hF0
  · subst w
    exact t_fail hP hL hb (Or.inr rfl) hF0
end Turn2
