/-! rows that grow: a group stays where its own rows stay -/
section Rows
variable {c LN LN' : Nat → Nat} {B B' : Fl} {E E' : El} {A : Il}
theorem rowR.fl {v : Nat} {n : Int} {f : Int → Int} (h : rowR LN B E v n f) (hB : B' 601 v = B 601 v) (hL : LN' v = LN v) (hE : ∀ j, E' (.inr v) j = E (.inr v) j) : rowR LN' B' E' v n f := ⟨hB.trans h.1, h.2.1, by rw [hL]; exact h.2.2.1, fun p p0 p1 => (hE p).trans (h.2.2.2 p p0 p1)⟩
theorem RepD.fl (h : RepD LN B E A) (hB : ∀ v, (v = 6 ∨ v = 7) → B' 601 v = B 601 v) (hL : ∀ v, (v = 6 ∨ v = 7) → LN' v = LN v) (hE : ∀ v, (v = 6 ∨ v = 7) → ∀ j, E' (.inr v) j = E (.inr v) j) : RepD LN' B' E' A := by
  obtain ⟨d1, d2, d3, d4, d5⟩ := h
  exact ⟨(hL 6 (Or.inl rfl)).trans d1, (hL 7 (Or.inr rfl)).trans d2, d3.fl (hB 6 (Or.inl rfl)) (hL 6 (Or.inl rfl)) (hE 6 (Or.inl rfl)), d4, by rw [hB 7 (Or.inr rfl)]; exact d5⟩
theorem RepY.fl (h : RepY LN B E A) (hB : ∀ v, 30 ≤ v → v < 38 → B' 601 v = B 601 v) (hL : ∀ v, 30 ≤ v → v < 38 → LN' v = LN v) (hE : ∀ v, 30 ≤ v → v < 38 → ∀ j, E' (.inr v) j = E (.inr v) j) : RepY LN' B' E' A := fun s h0 h1 => by
  obtain ⟨r, y1, y2, y3⟩ := h s h0 h1
  exact ⟨r.fl (hB _ (by omega) (by omega)) (hL _ (by omega) (by omega)) (hE _ (by omega) (by omega)), y1, by rw [hL _ (by omega) (by omega)]; exact y2, y3⟩
theorem RepU.fl (h : RepU LN B E A) (hB : ∀ v, 50 ≤ v → v < 56 → B' 601 v = B 601 v) (hL : ∀ v, 50 ≤ v → v < 56 → LN' v = LN v) (hE : ∀ v, 50 ≤ v → v < 56 → ∀ j, E' (.inr v) j = E (.inr v) j) : RepU LN' B' E' A := fun t h0 h1 => by
  obtain ⟨r, y1⟩ := h t h0 h1
  exact ⟨(hL _ (by omega) (by omega)).trans r, fun e => ⟨(y1 e).1.fl (hB _ (by omega) (by omega)) (hL _ (by omega) (by omega)) (hE _ (by omega) (by omega)), (y1 e).2⟩⟩
theorem RepP.fl (h : RepP LN B E A) (hB : ∀ v, 160 ≤ v → B' 601 v = B 601 v) (hL : ∀ v, 160 ≤ v → LN' v = LN v) (hE : ∀ v, 160 ≤ v → ∀ j, E' (.inr v) j = E (.inr v) j) : RepP LN' B' E' A := by
  obtain ⟨p1, p2, p3, p4⟩ := h
  refine ⟨p1, p2, p3, fun k h0 h1 => ?_⟩
  have w := p4 k h0 h1
  have e := hE (160 + k.toNat) (by omega)
  rw [hB _ (by omega), hL _ (by omega)]
  refine ⟨w.1, w.2.1, w.2.2.1, fun i hi h6 => (e _).trans (w.2.2.2.1 i hi h6), ?_⟩
  obtain ⟨p, q1, q2, q3, q4⟩ := w.2.2.2.2
  exact ⟨p, q1, q2, (e _).trans q3, fun q a b => by rw [e]; exact q4 q a b⟩
theorem RepT.fl (h : RepT LN B E A) (hB : ∀ k v, k ≠ 601 → B' k v = B k v) (h6 : ∀ v, 60 ≤ v → v < 66 → B' 601 v = B 601 v) (hL : ∀ v, 60 ≤ v → v < 66 → LN' v = LN v) (hE : ∀ v, 60 ≤ v → v < 66 → ∀ j, E' (.inr v) j = E (.inr v) j) (hE2 : ∀ a j, E' (.inl a) j = E (.inl a) j) : RepT LN' B' E' A := fun t h0 h1 => by
  obtain ⟨t1, t2, t3, t4, t5⟩ := h t h0 h1
  refine ⟨(hB 800 _ (by decide)).trans t1, (hL _ (by omega) (by omega)).trans t2, t3, fun e => (hB 801 _ (by decide)).trans (t4 e), fun e => ?_⟩
  obtain ⟨y1, y2, y3, y4, y5, y6, y7, y8, y9, y10, y11, y12, y13, y14, y15, y16, y17, y18, y19, y20, y21, y22, y23, y24, y25, y26, y27, y28, y29, y30, y31, y32, y33, y34, y35, y36⟩ := t5 e
  exact ⟨(hB 801 _ (by decide)).trans y1, y2, y3, (hB 802 _ (by decide)).trans y4, y5, y6, y7, (hB 803 _ (by decide)).trans y8, y9, y10, y11, (hB 804 _ (by decide)).trans y12, (hB 805 _ (by decide)).trans y13, y14, y15, (hB 806 _ (by decide)).trans y16, y17, y18, y19, fun n => ⟨(hB 807 _ (by decide)).trans (y20 n).1, (y20 n).2⟩, (hB 808 _ (by decide)).trans y21, y22, y23, y24, y25, y26, fun n => ⟨(h6 _ (by omega) (by omega)).trans (y27 n).1, (hB 811 _ (by decide)).trans (y27 n).2.1, (y27 n).2.2⟩, fun n => ⟨(y28 n).1.fl (h6 _ (by omega) (by omega)) (hL _ (by omega) (by omega)) (hE _ (by omega) (by omega)), (hB 811 _ (by decide)).trans (y28 n).2.1, (y28 n).2.2⟩, y29, y30, fun n => ⟨(hB 812 _ (by decide)).trans (y31 n).1, (hB 813 _ (by decide)).trans (y31 n).2.1, (y31 n).2.2⟩, (hB 814 _ (by decide)).trans y32, y33, y34, fun n => (hB 815 _ (by decide)).trans (y35 n), fun q q0 q1 => by rw [hE2]; exact y36 q q0 q1⟩
set_option maxHeartbeats 1000000 in
theorem sim_leg {a0 : Int} (hR : Rep c LN B E A) (hp : pz A ≤ 1022) (hr0 : rg a0) : ∃ (ans : Int) (A' : Il), (∀ Q, Q ans A' → W_X9_leg a0 A Q) ∧ pz A' ≤ pz A + 2 ∧ W_X8_leg c  0 a0 LN B E (fun z LN' B' E' => A' 0 0 = 0 ∧ z = ans ∧ Rep c LN' B' E' A') (fun X9 LN' B' E' => ((X9 = "java/lang/IndexOutOfBoundsException" ∧ A' 0 0 = 1) ∨ (X9 = "java/lang/IllegalStateException" ∧ A' 0 0 = 2)) ∧ Rep c LN' B' E' A') := by
  obtain ⟨gG, gS, gB, g0, gH, gE, gC, gN, gK, gL, gR, gD, gY, gU, gW, gP, gT, gX, gZ⟩ := id hR
  obtain ⟨⟨b1, b2, b3⟩, -⟩ := id gB
  obtain ⟨d1, d2, ⟨d3, d4, d5, d6⟩, d7, d8⟩ := id gD
  have h6 : 0 ≤ A 6 0 ∧ A 6 0 ≤ 16 := by omega
  by_cases hb : 0 ≤ a0 ∧ a0 < A 6 0
  · by_cases h8 : A 52 0 = 8
    · exact ⟨0, sc A 0 2, fun Q hQ => m_isBlock1 h6 hb (bn_F (by decide) (bn_T h8 (by unfold W_X9_leg_27; exact br_F no2 hQ))), pz_thr, rfl, q_block1 gB hb ⟨rfl, br_T (by rw [d3]; omega) (by unfold W_X8_leg_22; exact q_state0 ⟨Or.inr ⟨rfl, rfl⟩, hR.thr⟩)⟩⟩
    · have e1 : w32 (A 52 0 + 1) = A 52 0 + 1 := w32_id (by unfold rg; omega)
      refine ⟨A 52 0 + 1, sc (ui (sc A 0 0) 53 (A 52 0) a0) 52 (A 52 0 + 1), fun Q hQ => m_isBlock1 h6 hb (bn_F (by decide) (bn_F h8 ?_)), pz_fr ((sc_k (by decide)).trans ((ui_k (by decide)).trans ((sc_k (by decide)).trans (rfl)))) (fun _ => (sc_k (by decide)).trans ((ui_k (by decide)).trans ((sc_k (by decide)).trans (rfl)))) (fun _ => (sc_k (by decide)).trans ((ui_k (by decide)).trans ((sc_k (by decide)).trans (rfl)))), rfl, q_block1 gB hb ⟨rfl, br_F (by rw [d3]; omega) ?_⟩⟩
      · unfold W_X9_leg_27
        refine br_T le0 ⟨d4, by show A 52 0 < 8; omega, ?_⟩
        show Q (w32 (A 52 0 + 1)) (sc (ui (sc A 0 0) 53 (A 52 0) a0) 52 (w32 (A 52 0 + 1)))
        rw [e1]
        exact hQ
      · unfold W_X8_leg_22
        refine q_state1 ⟨rfl, rfl, rfl, by omega, by omega, Or.inl (by omega), fun LN' E' x1 x2 x3 x4 x5 x6 => ⟨rfl, rfl, rfl, u2_s.trans (by rw [d3]), ?_⟩⟩
        have x7 : LN' 6 = 8 := by omega
        refine ⟨gG.fr (fun k v h => u2_k (by omega)) (fun a j h => (sc_k (by omega)).trans ((ui_k (by omega)).trans ((sc_k (by omega)).trans (rfl)))), gS.fr (fun k v h => u2_k (by omega)) (fun a j h => (sc_k (by omega)).trans ((ui_k (by omega)).trans ((sc_k (by omega)).trans (rfl)))), gB.fr (fun k v h => u2_k (by omega)) (fun a j h => (sc_k (by omega)).trans ((ui_k (by omega)).trans ((sc_k (by omega)).trans (rfl)))), g0.fr (fun a j h => (sc_k (by omega)).trans ((ui_k (by omega)).trans ((sc_k (by omega)).trans (rfl)))), gH.fr (fun k v h => u2_k (by omega)) (fun a j h => (sc_k (by omega)).trans ((ui_k (by omega)).trans ((sc_k (by omega)).trans (rfl)))), gE.fr (fun k v h => u2_k (by omega)) (fun a j h => (sc_k (by omega)).trans ((ui_k (by omega)).trans ((sc_k (by omega)).trans (rfl)))), gC.fr (fun k v h => u2_k (by omega)) (fun a j h => (sc_k (by omega)).trans ((ui_k (by omega)).trans ((sc_k (by omega)).trans (rfl)))), gN.fr (fun k v h => u2_k (by omega)) (fun a j h => (sc_k (by omega)).trans ((ui_k (by omega)).trans ((sc_k (by omega)).trans (rfl)))), gK.fr (fun k v h => u2_k (by omega)) (fun a j h => (sc_k (by omega)).trans ((ui_k (by omega)).trans ((sc_k (by omega)).trans (rfl)))), gL.fr (fun k v h => u2_k (by omega)) (fun a j h => (sc_k (by omega)).trans ((ui_k (by omega)).trans ((sc_k (by omega)).trans (rfl)))), gR.fr (fun j => x4 _ (by intro w; cases w) j) (fun j => x4 _ (by intro w; cases w) j) (fun a j h => (sc_k (by omega)).trans ((ui_k (by omega)).trans ((sc_k (by omega)).trans (rfl)))), ⟨x7, (x1 7 (by decide)).trans d2, ⟨u2_s.trans (by rw [d3]; rfl), by show 0 ≤ A 52 0 + 1; omega, by show A 52 0 + 1 ≤ _; omega, fun p p0 p1 => ?_⟩, fun p p0 p1 => ?_, d8⟩, (gY.fr (B' := B) (E' := E) (fun _ _ _ => rfl) (fun _ _ => rfl) (fun a j h => (sc_k (by omega)).trans ((ui_k (by omega)).trans ((sc_k (by omega)).trans (rfl))))).fl (fun v _ _ => u2_v (by omega)) (fun v _ _ => x1 v (by omega)) (fun v _ _ => x4 _ (by intro w; injection w with w; omega)), (gU.fr (B' := B) (E' := E) (fun _ _ _ => rfl) (fun _ _ => rfl) (fun a j h => (sc_k (by omega)).trans ((ui_k (by omega)).trans ((sc_k (by omega)).trans (rfl))))).fl (fun v _ _ => u2_v (by omega)) (fun v _ _ => x1 v (by omega)) (fun v _ _ => x4 _ (by intro w; injection w with w; omega)), gW.fr (fun a j h => (sc_k (by omega)).trans ((ui_k (by omega)).trans ((sc_k (by omega)).trans (rfl)))), (gP.fr (B' := B) (E' := E) (fun _ _ _ => rfl) (fun _ _ => rfl) (fun a j h => (sc_k (by omega)).trans ((ui_k (by omega)).trans ((sc_k (by omega)).trans (rfl))))).fl (fun v _ => u2_v (by omega)) (fun v _ => x1 v (by omega)) (fun v _ => x4 _ (by intro w; injection w with w; omega)), (gT.fr (B' := B) (E' := E) (fun _ _ _ => rfl) (fun _ _ => rfl) (fun _ _ => rfl) (fun a j h => (sc_k (by omega)).trans ((ui_k (by omega)).trans ((sc_k (by omega)).trans (rfl))))).fl (fun k v h => u2_k h) (fun v _ _ => u2_v (by omega)) (fun v _ _ => x1 v (by omega)) (fun v _ _ => x4 _ (by intro w; injection w with w; omega)) (fun a j => x4 _ (by intro w; cases w) j), gX.fr (fun a j h => (sc_k (by omega)).trans ((ui_k (by omega)).trans ((sc_k (by omega)).trans (rfl)))), gZ.fr (fun a j h => (sc_k (by omega)).trans ((ui_k (by omega)).trans ((sc_k (by omega)).trans (rfl))))⟩
        · have p1 : p < A 52 0 + 1 := p1
          show E' (.inr 6) p = ui (sc A 0 0) 53 (A 52 0) a0 53 p
          by_cases ep : p = A 52 0
          · rw [ep, ui_s, ← d3]; exact x6
          · rw [ui_j ep]; exact (x5 p p0 (by omega)).trans (d6 p p0 (by omega))
        · have p1 : p < A 52 0 + 1 := p1
          show 0 ≤ ui (sc A 0 0) 53 (A 52 0) a0 53 p ∧ ui (sc A 0 0) 53 (A 52 0) a0 53 p < A 6 0
          by_cases ep : p = A 52 0
          · rw [ep, ui_s]; exact hb
          · rw [ui_j ep]; exact d7 p p0 (by omega)
  · exact ⟨0, sc A 0 1, fun Q hQ => m_isBlock0 h6 hb (bn_T rfl (by unfold W_X9_leg_27; exact br_F no1 hQ)), pz_thr, rfl, q_block0 gB hb ⟨Or.inl ⟨rfl, rfl⟩, hR.thr⟩⟩
end Rows
