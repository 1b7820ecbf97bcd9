/-! rows that grow: a group stays where its own rows stay -/
section Rows
variable {c LN LN' : Nat → Nat} {B B' : Fl} {E E' : El} {A : Il}
theorem rowR.fl {v : Nat} {n : Int} {f : Int → Int} (h : rowR LN B E v n f) (hB : B' 601 v = B 601 v) (hL : LN' v = LN v) (hE : ∀ j, E' (.inr v) j = E (.inr v) j) : rowR LN' B' E' v n f := ⟨hB.trans h.1, h.2.1, by rw [hL]; exact h.2.2.1, fun p p0 p1 => (hE p).trans (h.2.2.2 p p0 p1)⟩
theorem RepD.fl (h : RepD LN B E A) (hB : ∀ v, (v = 6 ∨ v = 7) → B' 601 v = B 601 v) (hL : ∀ v, (v = 6 ∨ v = 7) → LN' v = LN v) (hE : ∀ v, (v = 6 ∨ v = 7) → ∀ j, E' (.inr v) j = E (.inr v) j) : RepD LN' B' E' A := by
  obtain ⟨d1, d2, d3, d4, d5⟩ := h
  exact ⟨(hL 6 (Or.inl rfl)).trans d1, (hL 7 (Or.inr rfl)).trans d2, d3.fl (hB 6 (Or.inl rfl)) (hL 6 (Or.inl rfl)) (hE 6 (Or.inl rfl)), d4, by rw [hB 7 (Or.inr rfl)]; exact d5⟩
theorem RepY.fl (h : RepY LN B E A) (hB : ∀ v, 30 ≤ v → v < 38 → B' 601 v = B 601 v) (hL : ∀ v, 30 ≤ v → v < 38 → LN' v = LN v) (hE : ∀ v, 30 ≤ v → v < 38 → ∀ j, E' (.inr v) j = E (.inr v) j) : RepY LN' B' E' A := fun s h0 h1 => by
  obtain ⟨r, y1, y2, y3⟩ := h s h0 h1
  exact ⟨r.fl (hB _ (by omega) (by omega)) (hL _ (by omega) (by omega)) (hE _ (by omega) (by omega)), y1, by rw [hL _ (by omega) (by omega)]; exact y2, y3⟩
theorem RepU.fl (h : RepU LN B E A) (hB : ∀ v, 50 ≤ v → v < 56 → B' 601 v = B 601 v) (hL : ∀ v, 50 ≤ v → v < 56 → LN' v = LN v) (hE : ∀ v, 50 ≤ v → v < 56 → ∀ j, E' (.inr v) j = E (.inr v) j) : RepU LN' B' E' A := fun t h0 h1 => by
  obtain ⟨r, y1⟩ := h t h0 h1
  exact ⟨(hL _ (by omega) (by omega)).trans r, fun e => ⟨(y1 e).1.fl (hB _ (by omega) (by omega)) (hL _ (by omega) (by omega)) (hE _ (by omega) (by omega)), (y1 e).2⟩⟩
theorem RepP.fl (h : RepP LN B E A) (hB : ∀ v, 160 ≤ v → B' 601 v = B 601 v) (hL : ∀ v, 160 ≤ v → LN' v = LN v) (hE : ∀ v, 160 ≤ v → ∀ j, E' (.inr v) j = E (.inr v) j) : RepP LN' B' E' A := by
  obtain ⟨p1, p2, p3, p4⟩ := h
  refine ⟨p1, p2, p3, fun k h0 h1 => ?_⟩
  have w := p4 k h0 h1
  have e := hE (160 + k.toNat) (by omega)
  rw [hB _ (by omega), hL _ (by omega)]
  refine ⟨w.1, w.2.1, w.2.2.1, fun i hi h6 => (e _).trans (w.2.2.2.1 i hi h6), ?_⟩
  obtain ⟨p, q1, q2, q3, q4⟩ := w.2.2.2.2
  exact ⟨p, q1, q2, (e _).trans q3, fun q a b => by rw [e]; exact q4 q a b⟩
theorem RepT.fl (h : RepT LN B E A) (hB : ∀ k v, k ≠ 601 → B' k v = B k v) (h6 : ∀ v, 60 ≤ v → v < 66 → B' 601 v = B 601 v) (hL : ∀ v, 60 ≤ v → v < 66 → LN' v = LN v) (hE : ∀ v, 60 ≤ v → v < 66 → ∀ j, E' (.inr v) j = E (.inr v) j) (hE2 : ∀ a j, E' (.inl a) j = E (.inl a) j) : RepT LN' B' E' A := fun t h0 h1 => by
  obtain ⟨t1, t2, t3, t4, t5⟩ := h t h0 h1
  refine ⟨(hB 800 _ (by decide)).trans t1, (hL _ (by omega) (by omega)).trans t2, t3, fun e => (hB 801 _ (by decide)).trans (t4 e), fun e => ?_⟩
  obtain ⟨y1, y2, y3, y4, y5, y6, y7, y8, y9, y10, y11, y12, y13, y14, y15, y16, y17, y18, y19, y20, y21, y22, y23, y24, y25, y26, y27, y28, y29, y30, y31, y32, y33, y34, y35, y36⟩ := t5 e
  exact ⟨(hB 801 _ (by decide)).trans y1, y2, y3, (hB 802 _ (by decide)).trans y4, y5, y6, y7, (hB 803 _ (by decide)).trans y8, y9, y10, y11, (hB 804 _ (by decide)).trans y12, (hB 805 _ (by decide)).trans y13, y14, y15, (hB 806 _ (by decide)).trans y16, y17, y18, y19, fun n => ⟨(hB 807 _ (by decide)).trans (y20 n).1, (y20 n).2⟩, (hB 808 _ (by decide)).trans y21, y22, y23, y24, y25, y26, fun n => ⟨(h6 _ (by omega) (by omega)).trans (y27 n).1, (hB 811 _ (by decide)).trans (y27 n).2.1, (y27 n).2.2⟩, fun n => ⟨(y28 n).1.fl (h6 _ (by omega) (by omega)) (hL _ (by omega) (by omega)) (hE _ (by omega) (by omega)), (hB 811 _ (by decide)).trans (y28 n).2.1, (y28 n).2.2⟩, y29, y30, fun n => ⟨(hB 812 _ (by decide)).trans (y31 n).1, (hB 813 _ (by decide)).trans (y31 n).2.1, (y31 n).2.2⟩, (hB 814 _ (by decide)).trans y32, y33, y34, fun n => (hB 815 _ (by decide)).trans (y35 n), fun q q0 q1 => by rw [hE2]; exact y36 q q0 q1⟩
set_option maxHeartbeats 1000000 in
theorem sim_leg {a0 : Int} (hR : Rep c LN B E A) (hp : pz A ≤ 1022) (hr0 : rg a0) : ∃ (ans : Int) (A' : Il), (∀ Q, Q ans A' → W_X9_leg a0 A Q) ∧ pz A' ≤ pz A + 2 ∧ W_X8_leg c  0 a0 LN B E (fun z LN' B' E' => A' 0 0 = 0 ∧ z = ans ∧ Rep c LN' B' E' A') (fun X9 LN' B' E' => ((X9 = "java/lang/IndexOutOfBoundsException" ∧ A' 0 0 = 1) ∨ (X9 = "java/lang/IllegalStateException" ∧ A' 0 0 = 2)) ∧ Rep c LN' B' E' A') := by
  obtain ⟨gG, gS, gB, g0, gH, gE, gC, gN, gK, gL, gR, gD, gY, gU, gW, gP, gT, gX, gZ⟩ := id hR
  obtain ⟨⟨b1, b2, b3⟩, -⟩ := id gB
  obtain ⟨d1, d2, ⟨d3, d4, d5, d6⟩, d7, d8⟩ := id gD
  have h6 : 0 ≤ A 6 0 ∧ A 6 0 ≤ 16 := by omega
  by_cases hb : 0 ≤ a0 ∧ a0 < A 6 0
  · by_cases h8 : A 52 0 = 8
    · exact ⟨0, sc A 0 2, fun Q hQ => m_isBlock1 h6 hb (bn_F (by decide) (bn_T h8 (by unfold W_X9_leg_27; exact br_F no2 hQ))), pz_thr, rfl, q_block1 gB hb ⟨rfl, br_T (by rw [d3]; omega) (by unfold W_X8_leg_22; exact q_state0 ⟨Or.inr ⟨rfl, rfl⟩, hR.thr⟩)⟩⟩
    · have e1 : w32 (A 52 0 + 1) = A 52 0 + 1 := w32_id (by unfold rg; omega)
      refine ⟨A 52 0 + 1, sc (ui (sc A 0 0) 53 (A 52 0) a0) 52 (A 52 0 + 1), fun Q hQ => m_isBlock1 h6 hb (bn_F (by decide) (bn_F h8 ?_)), pz_fr ((sc_k (by decide)).trans ((ui_k (by decide)).trans ((sc_k (by decide)).trans (rfl)))) (fun _ => (sc_k (by decide)).trans ((ui_k (by decide)).trans ((sc_k (by decide)).trans (rfl)))) (fun _ => (sc_k (by decide)).trans ((ui_k (by decide)).trans ((sc_k (by decide)).trans (rfl)))), rfl, q_block1 gB hb ⟨rfl, br_F (by rw [d3]; omega) ?_⟩⟩
      · unfold W_X9_leg_27
        refine br_T le0 ⟨d4, by show A 52 0 < 8; omega, ?_⟩
        show Q (w32 (A 52 0 + 1)) (sc (ui (sc A 0 0) 53 (A 52 0) a0) 52 (w32 (A 52 0 + 1)))
        rw [e1]
        exact hQ
      · unfold W_X8_leg_22
        refine q_state1 ⟨rfl, rfl, rfl, by omega, by omega, Or.inl (by omega), fun LN' E' x1 x2 x3 x4 x5 x6 => ⟨rfl, rfl, rfl, u2_s.trans (by rw [d3]), ?_⟩⟩
        have x7 : LN' 6 = 8 := by omega
        refine ⟨gG.fr (fun k v h => u2_k (by omega)) (fun a j h => (sc_k (by omega)).trans ((ui_k (by omega)).trans ((sc_k (by omega)).trans (rfl)))), gS.fr (fun k v h => u2_k (by omega)) (fun a j h => (sc_k (by omega)).trans ((ui_k (by omega)).trans ((sc_k (by omega)).trans (rfl)))), gB.fr (fun k v h => u2_k (by omega)) (fun a j h => (sc_k (by omega)).trans ((ui_k (by omega)).trans ((sc_k (by omega)).trans (rfl)))), g0.fr (fun a j h => (sc_k (by omega)).trans ((ui_k (by omega)).trans ((sc_k (by omega)).trans (rfl)))), gH.fr (fun k v h => u2_k (by omega)) (fun a j h => (sc_k (by omega)).trans ((ui_k (by omega)).trans ((sc_k (by omega)).trans (rfl)))), gE.fr (fun k v h => u2_k (by omega)) (fun a j h => (sc_k (by omega)).trans ((ui_k (by omega)).trans ((sc_k (by omega)).trans (rfl)))), gC.fr (fun k v h => u2_k (by omega)) (fun a j h => (sc_k (by omega)).trans ((ui_k (by omega)).trans ((sc_k (by omega)).trans (rfl)))), gN.fr (fun k v h => u2_k (by omega)) (fun a j h => (sc_k (by omega)).trans ((ui_k (by omega)).trans ((sc_k (by omega)).trans (rfl)))), gK.fr (fun k v h => u2_k (by omega)) (fun a j h => (sc_k (by omega)).trans ((ui_k (by omega)).trans ((sc_k (by omega)).trans (rfl)))), gL.fr (fun k v h => u2_k (by omega)) (fun a j h => (sc_k (by omega)).trans ((ui_k (by omega)).trans ((sc_k (by omega)).trans (rfl)))), gR.fr (fun j => x4 _ (by intro w; cases w) j) (fun j => x4 _ (by intro w; cases w) j) (fun a j h => (sc_k (by omega)).trans ((ui_k (by omega)).trans ((sc_k (by omega)).trans (rfl)))), ⟨x7, (x1 7 (by decide)).trans d2, ⟨u2_s.trans (by rw [d3]; rfl), by show 0 ≤ A 52 0 + 1; omega, by show A 52 0 + 1 ≤ _; omega, fun p p0 p1 => ?_⟩, fun p p0 p1 => ?_, d8⟩, (gY.fr (B' := B) (E' := E) (fun _ _ _ => rfl) (fun _ _ => rfl) (fun a j h => (sc_k (by omega)).trans ((ui_k (by omega)).trans ((sc_k (by omega)).trans (rfl))))).fl (fun v _ _ => u2_v (by omega)) (fun v _ _ => x1 v (by omega)) (fun v _ _ => x4 _ (by intro w; injection w with w; omega)), (gU.fr (B' := B) (E' := E) (fun _ _ _ => rfl) (fun _ _ => rfl) (fun a j h => (sc_k (by omega)).trans ((ui_k (by omega)).trans ((sc_k (by omega)).trans (rfl))))).fl (fun v _ _ => u2_v (by omega)) (fun v _ _ => x1 v (by omega)) (fun v _ _ => x4 _ (by intro w; injection w with w; omega)), gW.fr (fun a j h => (sc_k (by omega)).trans ((ui_k (by omega)).trans ((sc_k (by omega)).trans (rfl)))), (gP.fr (B' := B) (E' := E) (fun _ _ _ => rfl) (fun _ _ => rfl) (fun a j h => (sc_k (by omega)).trans ((ui_k (by omega)).trans ((sc_k (by omega)).trans (rfl))))).fl (fun v _ => u2_v (by omega)) (fun v _ => x1 v (by omega)) (fun v _ => x4 _ (by intro w; injection w with w; omega)), (gT.fr (B' := B) (E' := E) (fun _ _ _ => rfl) (fun _ _ => rfl) (fun _ _ => rfl) (fun a j h => (sc_k (by omega)).trans ((ui_k (by omega)).trans ((sc_k (by omega)).trans (rfl))))).fl (fun k v h => u2_k h) (fun v _ _ => u2_v (by omega)) (fun v _ _ => x1 v (by omega)) (fun v _ _ => x4 _ (by intro w; injection w with w; omega)) (fun a j => x4 _ (by intro w; cases w) j), gX.fr (fun a j h => (sc_k (by omega)).trans ((ui_k (by omega)).trans ((sc_k (by omega)).trans (rfl)))), gZ.fr (fun a j h => (sc_k (by omega)).trans ((ui_k (by omega)).trans ((sc_k (by omega)).trans (rfl))))⟩
        · have p1 : p < A 52 0 + 1 := p1
          show E' (.inr 6) p = ui (sc A 0 0) 53 (A 52 0) a0 53 p
          by_cases ep : p = A 52 0
          · rw [ep, ui_s, ← d3]; exact x6
          · rw [ui_j ep]; exact (x5 p p0 (by omega)).trans (d6 p p0 (by omega))
        · have p1 : p < A 52 0 + 1 := p1
          show 0 ≤ ui (sc A 0 0) 53 (A 52 0) a0 53 p ∧ ui (sc A 0 0) 53 (A 52 0) a0 53 p < A 6 0
          by_cases ep : p = A 52 0
          · rw [ep, ui_s]; exact hb
          · rw [ui_j ep]; exact d7 p p0 (by omega)
  · exact ⟨0, sc A 0 1, fun Q hQ => m_isBlock0 h6 hb (bn_T rfl (by unfold W_X9_leg_27; exact br_F no1 hQ)), pz_thr, rfl, q_block0 gB hb ⟨Or.inl ⟨rfl, rfl⟩, hR.thr⟩⟩
theorem wgt_loc {A A' : Il} {t : Int} : ∀ n : Nat, (∀ p : Nat, p < n → A' 33 (A' 43 (10 * t + (p : Int))) = A 33 (A 43 (10 * t + (p : Int)))) → wgt A' t n = wgt A t n
  | 0, _ => rfl
  | n + 1, h => by
    show wgt A' t n + (if A' 33 (A' 43 (10 * t + (n : Int))) = -1 then 2 else 5) = wgt A t n + (if A 33 (A 43 (10 * t + (n : Int))) = -1 then 2 else 5)
    rw [wgt_loc n (fun p hp => h p (by omega)), h n (by omega)]
/-- trains, where the load of a car that is in none changes -/
theorem RepT.fw {A' : Il} (h : RepT LN B E A) (hA : ∀ a j, (a = 1 ∨ a = 6 ∨ a = 7 ∨ a = 17 ∨ a = 18 ∨ a = 19 ∨ a = 20 ∨ a = 22 ∨ a = 23 ∨ a = 25 ∨ a = 36 ∨ a = 37 ∨ a = 38 ∨ a = 39 ∨ a = 40 ∨ a = 41 ∨ a = 42 ∨ a = 43 ∨ a = 44 ∨ a = 45 ∨ a = 46 ∨ a = 47 ∨ a = 48 ∨ a = 49 ∨ a = 50 ∨ a = 51) → A' a j = A a j) (hw : ∀ t : Int, 0 ≤ t → t < 6 → A 36 t = 1 → ∀ p : Int, 0 ≤ p → p < A 44 t → A' 33 (A 43 (10 * t + p)) = A 33 (A 43 (10 * t + p))) : RepT LN B E A' := fun t h0 h1 => by
  have g : RepT LN B E (fun a j => if a = 33 then A 33 j else A' a j) := h.fr (fun _ _ _ => rfl) (fun _ _ => rfl) (fun _ _ => rfl) (fun a j ha => by
    by_cases e : a = 33
    · subst e; rfl
    · exact (if_neg e).trans (hA a j (by omega)))
  obtain ⟨t1, t2, t3, t4, t5⟩ := g t h0 h1
  refine ⟨t1, t2, t3, t4, fun e => ?_⟩
  obtain ⟨y1, y2, y3, y4, y5, y6, y7, y8, y9, y10, y11, y12, y13, y14, y15, y16, y17, y18, y19, y20, y21, y22, y23, y24, y25, y26, y27, y28, y29, y30, y31, y32, y33, y34, y35, y36⟩ := t5 e
  have hw' : wgt A' t (A' 44 t).toNat = wgt A t (A' 44 t).toNat := wgt_loc _ (fun q hq => by
    rw [hA 43 _ (by decide)]
    have e4 := hA 44 t (by decide)
    exact hw t h0 h1 ((hA 36 t (by decide)).symm.trans e) q (by omega) (by omega))
  have hw2 : wgt (fun a j => if a = 33 then A 33 j else A' a j) t (A' 44 t).toNat = wgt A t (A' 44 t).toNat := wgt_loc _ (fun q hq => congrArg (A 33) (hA 43 _ (by decide)))
  exact ⟨y1, y2, y3, y4, y5, y6, y7, y8, y9, y10, y11, y12, y13, y14, y15, y16, y17, y18, y19, y20, y21.trans (hw2.trans hw'.symm), y22, y23, y24, y25, y26, y27, fun n => ⟨(y28 n).1, (y28 n).2.1, (y28 n).2.2.1, fun m hm ew => (y28 n).2.2.2 m hm ((wend_fr (A := A') (A' := (fun a j => if a = 33 then A 33 j else A' a j)) (fun _ => rfl) (fun _ => rfl) t m _ _).trans ew)⟩, y29, y30, y31, y32, y33, y34, y35, y36⟩
theorem m_writes {x1 x2 x3 z : Int} {Q : Il → Prop} (h0 : 0 ≤ A 60 0 ∧ A 60 0 < 3999) (e : w32 (w32 (100 * x2) + x3) = z) (h : Q (sc (ui (ui A 61 (A 60 0) x1) 62 (A 60 0) z) 60 (A 60 0 + 1))) : W_X9_writes x1 x2 x3 A Q := by
  refine ⟨h0.1, by omega, h0.1, (by show A 60 0 < 4000; omega), ?_⟩
  show Q (sc (ui (ui A 61 (A 60 0) x1) 62 (A 60 0) (w32 (w32 (100 * x2) + x3))) 60 (w32 (A 60 0 + 1)))
  rw [e, w32_id (z := A 60 0 + 1) (by unfold rg; omega)]
  exact h
theorem pz_ge (hT : RepT LN B E A) : A 60 0 ≤ pz A := by
  have w : ∀ t : Int, 0 ≤ t → t < 6 → 0 ≤ tz A t := fun t h0 h1 => by
    obtain ⟨t1, t2, t3, t4, t5⟩ := hT t h0 h1
    unfold tz
    split
    · obtain ⟨y1, y2, y3, y4, y5, y6, y7, y8, y9, y10, y11, y12, y13, y14, y15, y16, y17, y18, y19, y20, y21, y22, y23, y24, y25, y26, y27, y28, y29, y30, y31, y32, y33, y34, y35, y36⟩ := t5 ‹_›
      exact y22
    · exact Int.le_refl _
  have w0 := w 0 (by decide) (by decide)
  have w1 := w 1 (by decide) (by decide)
  have w2 := w 2 (by decide) (by decide)
  have w3 := w 3 (by decide) (by decide)
  have w4 := w 4 (by decide) (by decide)
  have w5 := w 5 (by decide) (by decide)
  unfold pz
  omega
theorem pz_up {A' : Il} (h1 : A' 60 0 = A 60 0 + 1) (h2 : ∀ j, A' 36 j = A 36 j) (h3 : ∀ j, A' 44 j = A 44 j) : pz A' ≤ pz A + 2 := by
  unfold pz tz
  simp only [h1, h2, h3]
  omega
theorem pcn_same {A' : Il} {k : Int} : ∀ m : Nat, (∀ j : Nat, j < m → A' 61 (j : Int) = A 61 (j : Int)) → pcn A' k m = pcn A k m
  | 0, _ => rfl
  | m + 1, h => by
    show pcn A' k m + (if A' 61 (m : Int) = k then 1 else 0) = pcn A k m + (if A 61 (m : Int) = k then 1 else 0)
    rw [pcn_same m (fun j hj => h j (by omega)), h m (by omega)]
theorem RepP.room {k : Int} (h : RepP LN B E A) (hk : 0 ≤ k ∧ k < A 29 0) (h20 : A 29 0 ≤ 20) (hn : A 60 0 ≤ 1023) : 0 ≤ B 601 (160 + k.toNat) ∧ B 601 (160 + k.toNat) ≤ (LN (160 + k.toNat) : Int) ∧ (B 601 (160 + k.toNat) < (LN (160 + k.toNat) : Int) ∨ (1 ≤ LN (160 + k.toNat) ∧ ((160 ≤ 160 + k.toNat ∧ 160 + k.toNat < 180 ∧ LN (160 + k.toNat) ≤ 512) ∨ (30 ≤ 160 + k.toNat ∧ 160 + k.toNat < 38 ∧ LN (160 + k.toNat) ≤ 32)))) := by
  obtain ⟨p1, p2, p3, p4⟩ := h
  obtain ⟨r1, r2, ⟨e, r3, r4⟩, -⟩ := p4 k hk.1 hk.2
  have w := pcn_rg A k (A 60 0).toNat
  refine ⟨by rw [r1]; exact w.1, r2, ?_⟩
  by_cases c1 : B 601 (160 + k.toNat) < (LN (160 + k.toNat) : Int)
  · exact Or.inl c1
  · refine Or.inr ⟨by have : 1 ≤ 2 ^ e := Nat.one_le_two_pow; omega, Or.inl ⟨by omega, by omega, ?_⟩⟩
    have e8 : e ≤ 7 := by
      by_cases c2 : e = 8
      · subst c2
        have : (2 : Nat) ^ 8 = 256 := rfl
        omega
      · omega
    have w2 : 2 ^ e ≤ 2 ^ 7 := Nat.pow_le_pow_right (by decide) e8
    have : (2 : Nat) ^ 7 = 128 := rfl
    omega
/-- one paper more -/
theorem RepP.write {A' : Il} {k z : Int} (h : RepP LN B E A) (hk : 0 ≤ k ∧ k < A 29 0) (hn : A 60 0 ≤ 1023) (hB : ∀ v, B' 601 v = if v = 160 + k.toNat then B 601 (160 + k.toNat) + 1 else B 601 v)
  (x1 : ∀ v, v ≠ 160 + k.toNat → LN' v = LN v) (x2 : LN' (160 + k.toNat) = LN (160 + k.toNat) ∨ (LN' (160 + k.toNat) = 2 * LN (160 + k.toNat) ∧ (LN (160 + k.toNat) : Int) ≤ B 601 (160 + k.toNat))) (x3 : B 601 (160 + k.toNat) < (LN' (160 + k.toNat) : Int))
  (x4 : ∀ v, v ≠ 160 + k.toNat → ∀ j, E' (.inr v) j = E (.inr v) j) (x5 : ∀ j, 0 ≤ j → j < B 601 (160 + k.toNat) → E' (.inr (160 + k.toNat)) j = E (.inr (160 + k.toNat)) j) (x6 : E' (.inr (160 + k.toNat)) (B 601 (160 + k.toNat)) = z)
  (h29 : A' 29 0 = A 29 0) (h60 : A' 60 0 = A 60 0 + 1) (h61 : A' 61 (A 60 0) = k ∧ ∀ j, j ≠ A 60 0 → A' 61 j = A 61 j) (h62 : A' 62 (A 60 0) = z ∧ ∀ j, j ≠ A 60 0 → A' 62 j = A 62 j)
  (ho : ∀ j, j ≠ k → A' 32 j = A 32 j ∧ A' 31 j = A 31 j) (hl : (200 ≤ z ∧ A' 32 k = A 32 k ∧ A' 31 k = A 31 k) ∨ z = if A' 32 k = -1 then A' 31 k else 100 + A' 32 k) : RepP LN' B' E' A' := by
  obtain ⟨p1, p2, p3, p4⟩ := h
  have nn : ((A 60 0).toNat : Int) = A 60 0 := by omega
  have n1 : (A' 60 0).toNat = (A 60 0).toNat + 1 := by omega
  have ps : ∀ (k' : Int) (m : Nat), m ≤ (A 60 0).toNat → pcn A' k' m = pcn A k' m := fun k' m hm => pcn_same m (fun j hj => h61.2 _ (by omega))
  have pe : ∀ k' : Int, pcn A' k' (A' 60 0).toNat = pcn A k' (A 60 0).toNat + if k = k' then 1 else 0 := fun k' => by
    rw [n1]
    show pcn A' k' (A 60 0).toNat + (if A' 61 ((A 60 0).toNat : Int) = k' then 1 else 0) = _
    rw [ps k' _ (Nat.le_refl _), nn, h61.1]
  refine ⟨by omega, by omega, fun i i0 i1 => ?_, fun k' k0 k1 => ?_⟩
  · by_cases e : i = A 60 0
    · rw [e, h61.1, h29]; exact hk
    · rw [h61.2 i e, h29]; exact p3 i i0 (by omega)
  · rw [h29] at k1
    have w := p4 k' k0 k1
    rw [pe k']
    by_cases e : k' = k
    · subst e
      rw [if_pos rfl, hB, if_pos rfl]
      obtain ⟨r1, r2, ⟨ee, r3, r4⟩, r5, p, r6, r7, r8, r9⟩ := w
      have pl := pcn_rg A k' (A 60 0).toNat
      refine ⟨by rw [r1], by omega, ?_, fun i hi hc => ?_, ?_⟩
      · rcases x2 with x2 | ⟨x2, x2b⟩
        · exact ⟨ee, r3, x2.trans r4⟩
        · refine ⟨ee + 1, ?_, by rw [x2, r4, Nat.pow_succ]; omega⟩
          by_cases c2 : ee = 8
          · subst c2
            have : (2 : Nat) ^ 8 = 256 := rfl
            omega
          · omega
      · by_cases ei : (i : Int) = A 60 0
        · have ein : i = (A 60 0).toNat := by omega
          rw [ei, h62.1, ps k' i (by omega), ein, ← r1]
          exact x6
        · rw [h61.2 _ ei] at hc
          rw [h62.2 _ ei, ps k' i (by omega)]
          have mo := pcn_mono A k' (i + 1) ((A 60 0).toNat - (i + 1))
          have en : i + 1 + ((A 60 0).toNat - (i + 1)) = (A 60 0).toNat := by omega
          rw [en] at mo
          have ep : pcn A k' (i + 1) = pcn A k' i + 1 := by
            show pcn A k' i + (if A 61 (i : Int) = k' then 1 else 0) = _
            rw [if_pos hc]
          have pi := pcn_rg A k' i
          rw [x5 _ pi.1 (by omega)]
          exact r5 i (by omega) hc
      · rcases hl with ⟨z1, z2, z3⟩ | hl
        · rw [z2, z3]
          refine ⟨p, r6, by omega, (x5 p r6 r7).trans r8, fun q q0 q1 => ?_⟩
          by_cases eq : q = B 601 (160 + k'.toNat)
          · rw [eq, x6]; exact z1
          · rw [x5 q (by omega) (by omega)]; exact r9 q q0 (by omega)
        · exact ⟨B 601 (160 + k'.toNat), by omega, by omega, x6.trans hl, fun q q0 q1 => by omega⟩
    · have nv : 160 + k'.toNat ≠ 160 + k.toNat := by omega
      rw [if_neg (fun w => e w.symm), hB, if_neg nv, x1 _ nv, (ho k' e).1, (ho k' e).2]
      obtain ⟨r1, r2, r3, r5, p, r6, r7, r8, r9⟩ := w
      refine ⟨by omega, r2, r3, fun i hi hc => ?_, p, r6, r7, (x4 _ nv p).trans r8, fun q q0 q1 => by rw [x4 _ nv]; exact r9 q q0 q1⟩
      by_cases ei : (i : Int) = A 60 0
      · rw [ei, h61.1] at hc
        exact absurd hc (fun w => e w.symm)
      · rw [h61.2 _ ei] at hc
        rw [h62.2 _ ei, ps k' i (by omega), x4 _ nv]
        exact r5 i (by omega) hc
set_option maxHeartbeats 1000000 in
theorem sim_load {a0 a1 : Int} (hR : Rep c LN B E A) (hp : pz A ≤ 1022) (hr0 : rg a0) (hr1 : rg a1) : ∃ (A' : Il), (∀ Q, Q A' → W_X9_load a0 a1 A Q) ∧ pz A' ≤ pz A + 2 ∧ W_X8_load c  0 a0 a1 LN B E (fun LN' B' E' => A' 0 0 = 0 ∧ Rep c LN' B' E' A') (fun X9 LN' B' E' => ((X9 = "java/lang/IndexOutOfBoundsException" ∧ A' 0 0 = 1) ∨ (X9 = "java/lang/IllegalStateException" ∧ A' 0 0 = 2)) ∧ Rep c LN' B' E' A') := by
  obtain ⟨gG, gS, gB, g0, gH, gE, gC, gN, gK, gL, gR, gD, gY, gU, gW, gP, gT, gX, gZ⟩ := id hR
  obtain ⟨⟨k1, k2, k3⟩, k4, k5, k6, k7, k8⟩ := id gK
  obtain ⟨⟨l1, l2, l3⟩, l4, l5, l6, l7, l8, l9⟩ := id gL
  obtain ⟨q1, q2, q3, q4, q5, q6, q7, q8⟩ := id gG
  have h29 : 0 ≤ A 29 0 ∧ A 29 0 ≤ 20 := by omega
  have hpz := pz_ge gT
  have hp0 := gP.1
  have h54 : w32 (A 54 0 - 1) = A 54 0 - 1 := w32_id (by unfold rg; omega)
  by_cases hx : 0 ≤ a0 ∧ a0 < A 29 0
  · have hk := kd11 (c := c) (v := 140 + a0.toNat) (by omega) (by omega) k3
    have hk6 := kdp (c := c) (v := 160 + a0.toNat) (by omega) (by omega) k3
    have f1 := k5 a0 hx.1 hx.2
    have f2 := k6 a0 hx.1 hx.2
    have f3 := k7 a0 hx.1 hx.2
    by_cases hy : 0 ≤ a1 ∧ a1 < A 54 0
    · have hkb := kd12 (c := c) (v := 180 + a1.toNat) (by omega) (by omega) l3
      have f4 := l4 a1 hy.1 hy.2
      have f7 := l7 a1 hy.1 hy.2
      by_cases c32 : A 32 a0 = -1
      · by_cases c33 : A 33 a0 = -1
        · by_cases c58 : A 58 a1 = 0
          · by_cases c31 : A 31 a0 = A 55 a1
            · refine ⟨sc (ui (ui (ui (ui (sc A 0 0) 33 a0 a1) 58 a1 1) 61 (A 60 0) a0) 62 (A 60 0) (200 + a1)) 60 (A 60 0 + 1), fun Q hQ => ?_, pz_up sc_s (fun _ => rfl) (fun _ => rfl), rfl, ?_⟩
              · refine m_isCar1 h29 hx (br_F (by decide) ?_)
                rw [h54]
                refine m_in1 (by omega) (bn_F (by decide) ⟨hx.1, by omega, bn_T c32 ⟨hx.1, by omega, bn_T c33 ⟨hy.1, by omega, bn_T c58 ⟨hx.1, by omega, hy.1, by omega, br_T c31 ?_⟩⟩⟩⟩)
                unfold W_X9_load_76
                refine bn_T rfl ⟨hx.1, by omega, hy.1, by omega, m_writes (A := ui (ui (sc A 0 0) 33 a0 a1) 58 a1 1) (z := 200 + a1) ⟨hp0, by show A 60 0 < 3999; omega⟩ ?_ hQ⟩
                show w32 (200 + a1) = 200 + a1
                exact w32_id (by unfold rg; omega)
              · refine q_carOf1 gK hx (q_bill1 gL hy ⟨hk, bn_T (by rw [f2]; exact c32) (bn_T (by rw [f3]; exact c33) ?_)⟩)
                unfold W_X8_load_34
                refine q_state1 ⟨hkb, bn_T (by rw [f7]; exact c58) ⟨hk, bn_T (by rw [f4, f1]; exact c31.symm) ?_⟩⟩
                unfold W_X8_load_62
                have e20 : 140 + a0.toNat + 20 = 160 + a0.toNat := by omega
                have e200 : w32 (w32 (100 * 2) + a1) = 200 + a1 := by show w32 (200 + a1) = 200 + a1; exact w32_id (by unfold rg; omega)
                obtain ⟨g1, g2, g3⟩ := gP.room hx h29.2 (by omega)
                refine q_state1 ⟨hkb, hk, hk, by rw [e20]; exact hk6, ?_⟩
                rw [e20]
                refine ⟨hk6, g1, g2, g3, fun LN' E' x1 x2 x3 x4 x5 x6 => ⟨rfl, ?_⟩⟩
                have hw : ∀ t : Int, 0 ≤ t → t < 6 → A 36 t = 1 → ∀ p : Int, 0 ≤ p → p < A 44 t → (sc (ui (ui (ui (ui (sc A 0 0) 33 a0 a1) 58 a1 1) 61 (A 60 0) a0) 62 (A 60 0) (200 + a1)) 60 (A 60 0 + 1)) 33 (A 43 (10 * t + p)) = A 33 (A 43 (10 * t + p)) := fun t t0 t1 e p p0 p1 => by
                  have w := (((gU t t0 t1).2 e).2 p p0 p1).2.2.1
                  exact ui_j (fun ww => by rw [ww] at w; omega)
                have hP : RepP LN' (u2 (u2 (u2 B 103 (180 + a1.toNat) 1) 303 (140 + a0.toNat) a1) 601 (160 + a0.toNat) (B 601 (160 + a0.toNat) + 1)) E' (sc (ui (ui (ui (ui (sc A 0 0) 33 a0 a1) 58 a1 1) 61 (A 60 0) a0) 62 (A 60 0) (200 + a1)) 60 (A 60 0 + 1)) := gP.write (A' := sc (ui (ui (ui (ui (sc A 0 0) 33 a0 a1) 58 a1 1) 61 (A 60 0) a0) 62 (A 60 0) (200 + a1)) 60 (A 60 0 + 1)) (z := 200 + a1) hx (by omega) (fun v => by
          by_cases e : v = 160 + a0.toNat
          · rw [if_pos e, e]; exact u2_s
          · rw [if_neg e]; exact (u2_v e).trans ((u2_k (by decide)).trans (u2_k (by decide)))) x1 x2 x3 (fun v hv => x4 _ (by intro w; injection w with w; omega)) x5 (x6.trans e200) rfl sc_s ⟨(sc_k (by decide)).trans ((ui_k (by decide)).trans ui_s), fun j hj => (sc_k (by decide)).trans ((ui_k (by decide)).trans ((ui_j hj).trans rfl))⟩ ⟨(sc_k (by decide)).trans ui_s, fun j hj => (sc_k (by decide)).trans ((ui_j hj).trans rfl)⟩ (fun j _ => ⟨rfl, rfl⟩) (Or.inl ⟨by omega, rfl, rfl⟩)
                have hRR : ∀ B1 : Fl, B1 = u2 (u2 B 103 (180 + a1.toNat) 1) 303 (140 + a0.toNat) a1 → Rep c LN' (u2 B1 601 (160 + a0.toNat) (B 601 (160 + a0.toNat) + 1)) E' (sc (ui (ui (ui (ui (sc A 0 0) 33 a0 a1) 58 a1 1) 61 (A 60 0) a0) 62 (A 60 0) (200 + a1)) 60 (A 60 0 + 1)) := fun B1 eB => by
                  subst eB
                  refine ⟨gG.fr (fun k v h => (u2_k (by omega)).trans ((u2_k (by omega)).trans ((u2_k (by omega)).trans (rfl)))) (fun a j h => (sc_k (by omega)).trans ((ui_k (by omega)).trans ((ui_k (by omega)).trans ((ui_k (by omega)).trans ((ui_k (by omega)).trans ((sc_k (by omega)).trans (rfl))))))), gS.fr (fun k v h => (u2_k (by omega)).trans ((u2_k (by omega)).trans ((u2_k (by omega)).trans (rfl)))) (fun a j h => (sc_k (by omega)).trans ((ui_k (by omega)).trans ((ui_k (by omega)).trans ((ui_k (by omega)).trans ((ui_k (by omega)).trans ((sc_k (by omega)).trans (rfl))))))), gB.fr (fun k v h => (u2_k (by omega)).trans ((u2_k (by omega)).trans ((u2_k (by omega)).trans (rfl)))) (fun a j h => (sc_k (by omega)).trans ((ui_k (by omega)).trans ((ui_k (by omega)).trans ((ui_k (by omega)).trans ((ui_k (by omega)).trans ((sc_k (by omega)).trans (rfl))))))), g0.fr (fun a j h => (sc_k (by omega)).trans ((ui_k (by omega)).trans ((ui_k (by omega)).trans ((ui_k (by omega)).trans ((ui_k (by omega)).trans ((sc_k (by omega)).trans (rfl))))))), gH.fr (fun k v h => (u2_k (by omega)).trans ((u2_k (by omega)).trans ((u2_k (by omega)).trans (rfl)))) (fun a j h => (sc_k (by omega)).trans ((ui_k (by omega)).trans ((ui_k (by omega)).trans ((ui_k (by omega)).trans ((ui_k (by omega)).trans ((sc_k (by omega)).trans (rfl))))))), gE.fr (fun k v h => (u2_k (by omega)).trans ((u2_k (by omega)).trans ((u2_k (by omega)).trans (rfl)))) (fun a j h => (sc_k (by omega)).trans ((ui_k (by omega)).trans ((ui_k (by omega)).trans ((ui_k (by omega)).trans ((ui_k (by omega)).trans ((sc_k (by omega)).trans (rfl))))))), gC.fr (fun k v h => (u2_k (by omega)).trans ((u2_k (by omega)).trans ((u2_k (by omega)).trans (rfl)))) (fun a j h => (sc_k (by omega)).trans ((ui_k (by omega)).trans ((ui_k (by omega)).trans ((ui_k (by omega)).trans ((ui_k (by omega)).trans ((sc_k (by omega)).trans (rfl))))))), gN.fr (fun k v h => (u2_k (by omega)).trans ((u2_k (by omega)).trans ((u2_k (by omega)).trans (rfl)))) (fun a j h => (sc_k (by omega)).trans ((ui_k (by omega)).trans ((ui_k (by omega)).trans ((ui_k (by omega)).trans ((ui_k (by omega)).trans ((sc_k (by omega)).trans (rfl))))))), ⟨⟨k1, (u2_k (by decide)).trans ((u2_k (by decide)).trans ((u2_k (by decide)).trans k2)), k3⟩, (eqF.oB (by decide) (eqF.oB (by decide) (eqF.oB (by decide) (eqF.oS (by decide) (eqF.oA (by decide) (eqF.oA (by decide) (eqF.oA (by decide) (eqF.oA (by decide) (eqF.oS (by decide) k4))))))))), (eqF.oB (by decide) (eqF.oB (by decide) (eqF.oB (by decide) (eqF.oS (by decide) (eqF.oA (by decide) (eqF.oA (by decide) (eqF.oA (by decide) (eqF.oA (by decide) (eqF.oS (by decide) k5))))))))), (eqF.oB (by decide) (eqF.oB (by decide) (eqF.oB (by decide) (eqF.oS (by decide) (eqF.oA (by decide) (eqF.oA (by decide) (eqF.oA (by decide) (eqF.oA (by decide) (eqF.oS (by decide) k6))))))))), eqF.oB (by decide) (eqF.oS (by decide) (eqF.oA (by decide) (eqF.oA (by decide) (eqF.oA (by decide) (eqF.set hx.1 (eqF.oB (by decide) (eqF.oS (by decide) k7))))))), fun j j0 j1 => ?_⟩, ⟨⟨l1, (u2_k (by decide)).trans ((u2_k (by decide)).trans ((u2_k (by decide)).trans l2)), l3⟩, (eqF.oB (by decide) (eqF.oB (by decide) (eqF.oB (by decide) (eqF.oS (by decide) (eqF.oA (by decide) (eqF.oA (by decide) (eqF.oA (by decide) (eqF.oA (by decide) (eqF.oS (by decide) l4))))))))), (eqF.oB (by decide) (eqF.oB (by decide) (eqF.oB (by decide) (eqF.oS (by decide) (eqF.oA (by decide) (eqF.oA (by decide) (eqF.oA (by decide) (eqF.oA (by decide) (eqF.oS (by decide) l5))))))))), (eqF.oB (by decide) (eqF.oB (by decide) (eqF.oB (by decide) (eqF.oS (by decide) (eqF.oA (by decide) (eqF.oA (by decide) (eqF.oA (by decide) (eqF.oA (by decide) (eqF.oS (by decide) l6))))))))), eqF.oB (by decide) (eqF.oB (by decide) (eqF.oS (by decide) (eqF.oA (by decide) (eqF.oA (by decide) (eqF.set hy.1 (eqF.oA (by decide) (eqF.oS (by decide) l7))))))), fun j j0 j1 => ?_, fun j j0 j1 => ?_⟩, gR.fr (fun j => x4 _ (by intro w; cases w) j) (fun j => x4 _ (by intro w; cases w) j) (fun a j h => (sc_k (by omega)).trans ((ui_k (by omega)).trans ((ui_k (by omega)).trans ((ui_k (by omega)).trans ((ui_k (by omega)).trans ((sc_k (by omega)).trans (rfl))))))), (gD.fr (B' := (u2 (u2 B 103 (180 + a1.toNat) 1) 303 (140 + a0.toNat) a1)) (E' := E) (fun k v h => (u2_k (by omega)).trans ((u2_k (by omega)).trans (rfl))) (fun _ _ => rfl) (fun a j h => (sc_k (by omega)).trans ((ui_k (by omega)).trans ((ui_k (by omega)).trans ((ui_k (by omega)).trans ((ui_k (by omega)).trans ((sc_k (by omega)).trans (rfl)))))))).fl (fun v hv => u2_v (by omega)) (fun v hv => x1 v (by omega)) (fun v hv => x4 _ (by intro w; injection w with w; omega)), (gY.fr (B' := (u2 (u2 B 103 (180 + a1.toNat) 1) 303 (140 + a0.toNat) a1)) (E' := E) (fun k v h => (u2_k (by omega)).trans ((u2_k (by omega)).trans (rfl))) (fun _ _ => rfl) (fun a j h => (sc_k (by omega)).trans ((ui_k (by omega)).trans ((ui_k (by omega)).trans ((ui_k (by omega)).trans ((ui_k (by omega)).trans ((sc_k (by omega)).trans (rfl)))))))).fl (fun v _ _ => u2_v (by omega)) (fun v _ _ => x1 v (by omega)) (fun v _ _ => x4 _ (by intro w; injection w with w; omega)), (gU.fr (B' := (u2 (u2 B 103 (180 + a1.toNat) 1) 303 (140 + a0.toNat) a1)) (E' := E) (fun k v h => (u2_k (by omega)).trans ((u2_k (by omega)).trans (rfl))) (fun _ _ => rfl) (fun a j h => (sc_k (by omega)).trans ((ui_k (by omega)).trans ((ui_k (by omega)).trans ((ui_k (by omega)).trans ((ui_k (by omega)).trans ((sc_k (by omega)).trans (rfl)))))))).fl (fun v _ _ => u2_v (by omega)) (fun v _ _ => x1 v (by omega)) (fun v _ _ => x4 _ (by intro w; injection w with w; omega)), gW.fr (fun a j h => (sc_k (by omega)).trans ((ui_k (by omega)).trans ((ui_k (by omega)).trans ((ui_k (by omega)).trans ((ui_k (by omega)).trans ((sc_k (by omega)).trans (rfl))))))), hP, ((gT.fr (B' := (u2 (u2 B 103 (180 + a1.toNat) 1) 303 (140 + a0.toNat) a1)) (E' := E) (A' := A) (fun k v h => (u2_k (by omega)).trans ((u2_k (by omega)).trans (rfl))) (fun _ _ => rfl) (fun _ _ => rfl) (fun _ _ _ => rfl)).fw (fun a j h => (sc_k (by omega)).trans ((ui_k (by omega)).trans ((ui_k (by omega)).trans ((ui_k (by omega)).trans ((ui_k (by omega)).trans ((sc_k (by omega)).trans (rfl))))))) hw).fl (fun k v h => u2_k h) (fun v _ _ => u2_v (by omega)) (fun v _ _ => x1 v (by omega)) (fun v _ _ => x4 _ (by intro w; injection w with w; omega)) (fun a j => x4 _ (by intro w; cases w) j), gX.fr (fun a j h => (sc_k (by omega)).trans ((ui_k (by omega)).trans ((ui_k (by omega)).trans ((ui_k (by omega)).trans ((ui_k (by omega)).trans ((sc_k (by omega)).trans (rfl))))))), gZ.fr (fun a j h => (sc_k (by omega)).trans ((ui_k (by omega)).trans ((ui_k (by omega)).trans ((ui_k (by omega)).trans ((ui_k (by omega)).trans ((sc_k (by omega)).trans (rfl)))))))⟩
                  · obtain ⟨w1, w2, w3, w4, w5, w6, w7, w8⟩ := k8 j j0 j1
                    refine ⟨w1, w2, w3, w4, w5, w6, ?_⟩
                    show -1 ≤ ui (sc A 0 0) 33 a0 a1 33 j ∧ ui (sc A 0 0) 33 a0 a1 33 j < A 54 0
                    by_cases e : j = a0
                    · rw [e, ui_s]; omega
                    · rw [ui_j e]; exact ⟨w7, w8⟩
                  · obtain ⟨w1, w2, w3, w4, w5, w6, w7⟩ := l8 j j0 j1
                    refine ⟨w1, w2, w3, w4, w5, w6, ?_⟩
                    show ui (ui (sc A 0 0) 33 a0 a1) 58 a1 1 58 j = 0 ∨ ui (ui (sc A 0 0) 33 a0 a1) 58 a1 1 58 j = 1
                    by_cases e : j = a1
                    · rw [e, ui_s]; exact Or.inr rfl
                    · rw [ui_j e]; exact w7
                  · have j0 : A 54 0 ≤ j := j0
                    have e : j ≠ a1 := by omega
                    exact (ui_j e).trans (l9 j j0 j1)
                exact hRR _ rfl
            · exact ⟨sc A 0 2, fun Q hQ => m_isCar1 h29 hx (br_F (by decide) (by rw [h54]; exact m_in1 (by omega) (bn_F (by decide) ⟨hx.1, by omega, bn_T c32 ⟨hx.1, by omega, bn_T c33 ⟨hy.1, by omega, bn_T c58 ⟨hx.1, by omega, hy.1, by omega, br_F c31 (by unfold W_X9_load_71 W_X9_load_76; exact bn_F (by show ¬ (2 : Int) = 0; decide) hQ)⟩⟩⟩⟩))), pz_thr, rfl, q_carOf1 gK hx (q_bill1 gL hy ⟨hk, bn_T (by rw [f2]; exact c32) (bn_T (by rw [f3]; exact c33) (by unfold W_X8_load_34; exact q_state1 ⟨hkb, bn_T (by rw [f7]; exact c58) ⟨hk, bn_F (by rw [f4, f1]; exact fun w => c31 w.symm) (by unfold W_X8_load_61 W_X8_load_62; exact q_state0 ⟨Or.inr ⟨rfl, rfl⟩, hR.thr⟩)⟩⟩))⟩)⟩
          · exact ⟨sc A 0 2, fun Q hQ => m_isCar1 h29 hx (br_F (by decide) (by rw [h54]; exact m_in1 (by omega) (bn_F (by decide) ⟨hx.1, by omega, bn_T c32 ⟨hx.1, by omega, bn_T c33 ⟨hy.1, by omega, bn_F c58 (by unfold W_X9_load_71 W_X9_load_76; exact bn_F (by show ¬ (2 : Int) = 0; decide) hQ)⟩⟩⟩))), pz_thr, rfl, q_carOf1 gK hx (q_bill1 gL hy ⟨hk, bn_T (by rw [f2]; exact c32) (bn_T (by rw [f3]; exact c33) (by unfold W_X8_load_34; exact q_state1 ⟨hkb, bn_F (by rw [f7]; exact c58) (by unfold W_X8_load_61 W_X8_load_62; exact q_state0 ⟨Or.inr ⟨rfl, rfl⟩, hR.thr⟩)⟩))⟩)⟩
        · exact ⟨sc A 0 2, fun Q hQ => m_isCar1 h29 hx (br_F (by decide) (by rw [h54]; exact m_in1 (by omega) (bn_F (by decide) ⟨hx.1, by omega, bn_T c32 ⟨hx.1, by omega, bn_F c33 (by unfold W_X9_load_71 W_X9_load_76; exact bn_F (by show ¬ (2 : Int) = 0; decide) hQ)⟩⟩))), pz_thr, rfl, q_carOf1 gK hx (q_bill1 gL hy ⟨hk, bn_T (by rw [f2]; exact c32) (bn_F (by rw [f3]; exact c33) (by unfold W_X8_load_33 W_X8_load_34; exact q_state0 ⟨Or.inr ⟨rfl, rfl⟩, hR.thr⟩))⟩)⟩
      · exact ⟨sc A 0 2, fun Q hQ => m_isCar1 h29 hx (br_F (by decide) (by rw [h54]; exact m_in1 (by omega) (bn_F (by decide) ⟨hx.1, by omega, bn_F c32 (by unfold W_X9_load_71 W_X9_load_76; exact bn_F (by show ¬ (2 : Int) = 0; decide) hQ)⟩))), pz_thr, rfl, q_carOf1 gK hx (q_bill1 gL hy ⟨hk, bn_F (by rw [f2]; exact c32) (by unfold W_X8_load_33 W_X8_load_34; exact q_state0 ⟨Or.inr ⟨rfl, rfl⟩, hR.thr⟩)⟩)⟩
    · exact ⟨sc A 0 1, fun Q hQ => m_isCar1 h29 hx (br_F (by decide) (by rw [h54]; exact m_in0 (by omega) (bn_T rfl (by unfold W_X9_load_23 W_X9_load_76; exact bn_F (by show ¬ (1 : Int) = 0; decide) hQ)))), pz_thr, rfl, q_carOf1 gK hx (q_bill0 gL hy ⟨Or.inl ⟨rfl, rfl⟩, hR.thr⟩)⟩
  · exact ⟨sc A 0 1, fun Q hQ => m_isCar0 h29 hx (br_T rfl (by unfold W_X9_load_23 W_X9_load_76; exact bn_F (by show ¬ (1 : Int) = 0; decide) hQ)), pz_thr, rfl, q_carOf0 gK hx ⟨Or.inl ⟨rfl, rfl⟩, hR.thr⟩⟩
set_option maxHeartbeats 1000000 in
theorem sim_unload {a0 : Int} (hR : Rep c LN B E A) (hp : pz A ≤ 1022) (hr0 : rg a0) : ∃ (ans : Int) (A' : Il), (∀ Q, Q ans A' → W_X9_unload a0 A Q) ∧ pz A' ≤ pz A + 2 ∧ W_X8_unload c  0 a0 LN B E (fun z LN' B' E' => A' 0 0 = 0 ∧ z = ans ∧ Rep c LN' B' E' A') (fun X9 LN' B' E' => ((X9 = "java/lang/IndexOutOfBoundsException" ∧ A' 0 0 = 1) ∨ (X9 = "java/lang/IllegalStateException" ∧ A' 0 0 = 2)) ∧ Rep c LN' B' E' A') := by
  obtain ⟨gG, gS, gB, g0, gH, gE, gC, gN, gK, gL, gR, gD, gY, gU, gW, gP, gT, gX, gZ⟩ := id hR
  obtain ⟨⟨k1, k2, k3⟩, k4, k5, k6, k7, k8⟩ := id gK
  obtain ⟨⟨l1, l2, l3⟩, l4, l5, l6, l7, l8, l9⟩ := id gL
  obtain ⟨q1, q2, q3, q4, q5, q6, q7, q8⟩ := id gG
  have h29 : 0 ≤ A 29 0 ∧ A 29 0 ≤ 20 := by omega
  have hpz := pz_ge gT
  have hp0 := gP.1
  by_cases hx : 0 ≤ a0 ∧ a0 < A 29 0
  · have hk := kd11 (c := c) (v := 140 + a0.toNat) (by omega) (by omega) k3
    have hk6 := kdp (c := c) (v := 160 + a0.toNat) (by omega) (by omega) k3
    have f1 := k5 a0 hx.1 hx.2
    have f2 := k6 a0 hx.1 hx.2
    have f3 := k7 a0 hx.1 hx.2
    have k80 := k8 a0 hx.1 hx.2
    by_cases c32 : A 32 a0 = -1
    · by_cases c33 : A 33 a0 = -1
      · exact ⟨0, sc A 0 2, fun Q hQ => m_isCar1 h29 hx (bn_F (by decide) ⟨hx.1, by omega, bn_T c32 ⟨hx.1, by omega, br_T c33 (by unfold W_X9_unload_53 W_X9_unload_58; exact br_F no2 hQ)⟩⟩), pz_thr, rfl, q_carOf1 gK hx ⟨hk, bn_T (by rw [f2]; exact c32) (br_T (by rw [f3]; exact c33) (by unfold W_X8_unload_26 W_X8_unload_27; exact q_state0 ⟨Or.inr ⟨rfl, rfl⟩, hR.thr⟩))⟩⟩
      · have hb : 0 ≤ A 33 a0 ∧ A 33 a0 < A 54 0 := by omega
        have hkb := kd12 (c := c) (v := 180 + (A 33 a0).toNat) (by omega) (by omega) l3
        have f5 := l5 _ hb.1 hb.2
        have f6 := l6 _ hb.1 hb.2
        by_cases c31 : A 31 a0 = A 56 (A 33 a0)
        · refine ⟨A 57 (A 33 a0), sc (ui (ui (sc (ui (sc A 0 0) 33 a0 (-1)) 2 (w32 (A 2 0 + A 57 (A 33 a0)))) 61 (A 60 0) a0) 62 (A 60 0) (300 + A 33 a0)) 60 (A 60 0 + 1), fun Q hQ => ?_, pz_up sc_s (fun _ => rfl) (fun _ => rfl), rfl, ?_⟩
          · refine m_isCar1 h29 hx (bn_F (by decide) ⟨hx.1, by omega, bn_T c32 ⟨hx.1, by omega, br_F c33 ⟨hx.1, by omega, hx.1, by omega, hb.1, by omega, br_T c31 ?_⟩⟩⟩)
            unfold W_X9_unload_58
            refine br_T le0 ⟨hx.1, by omega, hx.1, by omega, hb.1, (by show A 33 a0 < 40; omega), m_writes (A := sc (ui (sc A 0 0) 33 a0 (-1)) 2 (w32 (A 2 0 + A 57 (A 33 a0)))) (z := 300 + A 33 a0) ⟨hp0, by show A 60 0 < 3999; omega⟩ ?_ ⟨hb.1, (by show A 33 a0 < 40; omega), hQ⟩⟩
            show w32 (300 + A 33 a0) = 300 + A 33 a0
            exact w32_id (by unfold rg; omega)
          · refine q_carOf1 gK hx ⟨hk, bn_T (by rw [f2]; exact c32) (br_F (by rw [f3]; exact c33) ?_)⟩
            unfold W_X8_unload_27
            refine q_state1 ⟨hk, rfl, ?_⟩
            rw [f3]
            refine q_bill1 gL hb ⟨hkb, bn_T (by rw [f5, f1]; exact c31.symm) ?_⟩
            unfold W_X8_unload_55
            have e20 : 140 + a0.toNat + 20 = 160 + a0.toNat := by omega
            have e300 : w32 (300 + B 303 (140 + a0.toNat)) = 300 + A 33 a0 := by rw [f3]; exact w32_id (by unfold rg; omega)
            obtain ⟨g1, g2, g3⟩ := gP.room hx h29.2 (by omega)
            refine q_state1 ⟨rfl, hkb, hk, hk, by rw [e20]; exact hk6, ?_⟩
            rw [e20]
            refine ⟨hk6, g1, g2, g3, fun LN' E' x1 x2 x3 x4 x5 x6 => ⟨hk, hkb, rfl, f6, ?_⟩⟩
            have hw : ∀ t : Int, 0 ≤ t → t < 6 → A 36 t = 1 → ∀ p : Int, 0 ≤ p → p < A 44 t → (sc (ui (ui (sc (ui (sc A 0 0) 33 a0 (-1)) 2 (w32 (A 2 0 + A 57 (A 33 a0)))) 61 (A 60 0) a0) 62 (A 60 0) (300 + A 33 a0)) 60 (A 60 0 + 1)) 33 (A 43 (10 * t + p)) = A 33 (A 43 (10 * t + p)) := fun t t0 t1 e p p0 p1 => by
              have w := (((gU t t0 t1).2 e).2 p p0 p1).2.2.1
              exact ui_j (fun ww => by rw [ww] at w; omega)
            have hP : RepP LN' (u2 (u2 (u2 B 913 0 (w32 (B 913 0 + B 102 (180 + (A 33 a0).toNat)))) 601 (160 + a0.toNat) (B 601 (160 + a0.toNat) + 1)) 303 (140 + a0.toNat) (-1)) E' (sc (ui (ui (sc (ui (sc A 0 0) 33 a0 (-1)) 2 (w32 (A 2 0 + A 57 (A 33 a0)))) 61 (A 60 0) a0) 62 (A 60 0) (300 + A 33 a0)) 60 (A 60 0 + 1)) := gP.write (A' := sc (ui (ui (sc (ui (sc A 0 0) 33 a0 (-1)) 2 (w32 (A 2 0 + A 57 (A 33 a0)))) 61 (A 60 0) a0) 62 (A 60 0) (300 + A 33 a0)) 60 (A 60 0 + 1)) (z := 300 + A 33 a0) hx (by omega) (fun v => by
          by_cases e : v = 160 + a0.toNat
          · rw [if_pos e, e]; exact (u2_k (by decide)).trans u2_s
          · rw [if_neg e]; exact (u2_k (by decide)).trans ((u2_v e).trans (u2_k (by decide)))) x1 x2 x3 (fun v hv => x4 _ (by intro w; injection w with w; omega)) x5 (x6.trans e300) rfl sc_s ⟨(sc_k (by decide)).trans ((ui_k (by decide)).trans ui_s), fun j hj => (sc_k (by decide)).trans ((ui_k (by decide)).trans ((ui_j hj).trans rfl))⟩ ⟨(sc_k (by decide)).trans ui_s, fun j hj => (sc_k (by decide)).trans ((ui_j hj).trans rfl)⟩ (fun j _ => ⟨rfl, rfl⟩) (Or.inl ⟨by omega, rfl, rfl⟩)
            have hRR : Rep c LN' (u2 (u2 (u2 B 913 0 (w32 (B 913 0 + B 102 (180 + (A 33 a0).toNat)))) 601 (160 + a0.toNat) (B 601 (160 + a0.toNat) + 1)) 303 (140 + a0.toNat) (-1)) E' (sc (ui (ui (sc (ui (sc A 0 0) 33 a0 (-1)) 2 (w32 (A 2 0 + A 57 (A 33 a0)))) 61 (A 60 0) a0) 62 (A 60 0) (300 + A 33 a0)) 60 (A 60 0 + 1)) := by
              refine ⟨⟨q1, ?_, q3, q4, q5, rg_w32 _, q7, q8⟩, gS.fr (fun k v h => (u2_k (by omega)).trans ((u2_k (by omega)).trans ((u2_k (by omega)).trans (rfl)))) (fun a j h => (sc_k (by omega)).trans ((ui_k (by omega)).trans ((ui_k (by omega)).trans ((sc_k (by omega)).trans ((ui_k (by omega)).trans ((sc_k (by omega)).trans (rfl))))))), gB.fr (fun k v h => (u2_k (by omega)).trans ((u2_k (by omega)).trans ((u2_k (by omega)).trans (rfl)))) (fun a j h => (sc_k (by omega)).trans ((ui_k (by omega)).trans ((ui_k (by omega)).trans ((sc_k (by omega)).trans ((ui_k (by omega)).trans ((sc_k (by omega)).trans (rfl))))))), g0.fr (fun a j h => (sc_k (by omega)).trans ((ui_k (by omega)).trans ((ui_k (by omega)).trans ((sc_k (by omega)).trans ((ui_k (by omega)).trans ((sc_k (by omega)).trans (rfl))))))), gH.fr (fun k v h => (u2_k (by omega)).trans ((u2_k (by omega)).trans ((u2_k (by omega)).trans (rfl)))) (fun a j h => (sc_k (by omega)).trans ((ui_k (by omega)).trans ((ui_k (by omega)).trans ((sc_k (by omega)).trans ((ui_k (by omega)).trans ((sc_k (by omega)).trans (rfl))))))), gE.fr (fun k v h => (u2_k (by omega)).trans ((u2_k (by omega)).trans ((u2_k (by omega)).trans (rfl)))) (fun a j h => (sc_k (by omega)).trans ((ui_k (by omega)).trans ((ui_k (by omega)).trans ((sc_k (by omega)).trans ((ui_k (by omega)).trans ((sc_k (by omega)).trans (rfl))))))), gC.fr (fun k v h => (u2_k (by omega)).trans ((u2_k (by omega)).trans ((u2_k (by omega)).trans (rfl)))) (fun a j h => (sc_k (by omega)).trans ((ui_k (by omega)).trans ((ui_k (by omega)).trans ((sc_k (by omega)).trans ((ui_k (by omega)).trans ((sc_k (by omega)).trans (rfl))))))), gN.fr (fun k v h => (u2_k (by omega)).trans ((u2_k (by omega)).trans ((u2_k (by omega)).trans (rfl)))) (fun a j h => (sc_k (by omega)).trans ((ui_k (by omega)).trans ((ui_k (by omega)).trans ((sc_k (by omega)).trans ((ui_k (by omega)).trans ((sc_k (by omega)).trans (rfl))))))), ⟨⟨k1, (u2_k (by decide)).trans ((u2_k (by decide)).trans ((u2_k (by decide)).trans k2)), k3⟩, (eqF.oB (by decide) (eqF.oB (by decide) (eqF.oB (by decide) (eqF.oS (by decide) (eqF.oA (by decide) (eqF.oA (by decide) (eqF.oS (by decide) (eqF.oA (by decide) (eqF.oS (by decide) k4))))))))), (eqF.oB (by decide) (eqF.oB (by decide) (eqF.oB (by decide) (eqF.oS (by decide) (eqF.oA (by decide) (eqF.oA (by decide) (eqF.oS (by decide) (eqF.oA (by decide) (eqF.oS (by decide) k5))))))))), (eqF.oB (by decide) (eqF.oB (by decide) (eqF.oB (by decide) (eqF.oS (by decide) (eqF.oA (by decide) (eqF.oA (by decide) (eqF.oS (by decide) (eqF.oA (by decide) (eqF.oS (by decide) k6))))))))), eqF.oS (by decide) (eqF.oA (by decide) (eqF.oA (by decide) (eqF.oS (by decide) (eqF.set hx.1 (eqF.oB (by decide) (eqF.oB (by decide) (eqF.oS (by decide) k7))))))), fun j j0 j1 => ?_⟩, gL.fr (fun k v h => (u2_k (by omega)).trans ((u2_k (by omega)).trans ((u2_k (by omega)).trans (rfl)))) (fun a j h => (sc_k (by omega)).trans ((ui_k (by omega)).trans ((ui_k (by omega)).trans ((sc_k (by omega)).trans ((ui_k (by omega)).trans ((sc_k (by omega)).trans (rfl))))))), gR.fr (fun j => x4 _ (by intro w; cases w) j) (fun j => x4 _ (by intro w; cases w) j) (fun a j h => (sc_k (by omega)).trans ((ui_k (by omega)).trans ((ui_k (by omega)).trans ((sc_k (by omega)).trans ((ui_k (by omega)).trans ((sc_k (by omega)).trans (rfl))))))), ((gD.fr (B' := (u2 B 913 0 (w32 (B 913 0 + B 102 (180 + (A 33 a0).toNat))))) (E' := E) (fun k v h => (u2_k (by omega)).trans (rfl)) (fun _ _ => rfl) (fun a j h => (sc_k (by omega)).trans ((ui_k (by omega)).trans ((ui_k (by omega)).trans ((sc_k (by omega)).trans ((ui_k (by omega)).trans ((sc_k (by omega)).trans (rfl)))))))).fl (fun v hv => u2_v (by omega)) (fun v hv => x1 v (by omega)) (fun v hv => x4 _ (by intro w; injection w with w; omega))).fr (fun k v h => (u2_k (by omega)).trans (rfl)) (fun _ _ => rfl) (fun _ _ _ => rfl), ((gY.fr (B' := (u2 B 913 0 (w32 (B 913 0 + B 102 (180 + (A 33 a0).toNat))))) (E' := E) (fun k v h => (u2_k (by omega)).trans (rfl)) (fun _ _ => rfl) (fun a j h => (sc_k (by omega)).trans ((ui_k (by omega)).trans ((ui_k (by omega)).trans ((sc_k (by omega)).trans ((ui_k (by omega)).trans ((sc_k (by omega)).trans (rfl)))))))).fl (fun v _ _ => u2_v (by omega)) (fun v _ _ => x1 v (by omega)) (fun v _ _ => x4 _ (by intro w; injection w with w; omega))).fr (fun k v h => (u2_k (by omega)).trans (rfl)) (fun _ _ => rfl) (fun _ _ _ => rfl), ((gU.fr (B' := (u2 B 913 0 (w32 (B 913 0 + B 102 (180 + (A 33 a0).toNat))))) (E' := E) (fun k v h => (u2_k (by omega)).trans (rfl)) (fun _ _ => rfl) (fun a j h => (sc_k (by omega)).trans ((ui_k (by omega)).trans ((ui_k (by omega)).trans ((sc_k (by omega)).trans ((ui_k (by omega)).trans ((sc_k (by omega)).trans (rfl)))))))).fl (fun v _ _ => u2_v (by omega)) (fun v _ _ => x1 v (by omega)) (fun v _ _ => x4 _ (by intro w; injection w with w; omega))).fr (fun k v h => (u2_k (by omega)).trans (rfl)) (fun _ _ => rfl) (fun _ _ _ => rfl), gW.fr (fun a j h => (sc_k (by omega)).trans ((ui_k (by omega)).trans ((ui_k (by omega)).trans ((sc_k (by omega)).trans ((ui_k (by omega)).trans ((sc_k (by omega)).trans (rfl))))))), hP, (((gT.fr (B' := (u2 B 913 0 (w32 (B 913 0 + B 102 (180 + (A 33 a0).toNat))))) (E' := E) (A' := A) (fun k v h => (u2_k (by omega)).trans (rfl)) (fun _ _ => rfl) (fun _ _ => rfl) (fun _ _ _ => rfl)).fw (fun a j h => (sc_k (by omega)).trans ((ui_k (by omega)).trans ((ui_k (by omega)).trans ((sc_k (by omega)).trans ((ui_k (by omega)).trans ((sc_k (by omega)).trans (rfl))))))) hw).fl (fun k v h => u2_k h) (fun v _ _ => u2_v (by omega)) (fun v _ _ => x1 v (by omega)) (fun v _ _ => x4 _ (by intro w; injection w with w; omega)) (fun a j => x4 _ (by intro w; cases w) j)).fr (fun k v h => (u2_k (by omega)).trans (rfl)) (fun _ _ => rfl) (fun _ _ => rfl) (fun _ _ _ => rfl), gX.fr (fun a j h => (sc_k (by omega)).trans ((ui_k (by omega)).trans ((ui_k (by omega)).trans ((sc_k (by omega)).trans ((ui_k (by omega)).trans ((sc_k (by omega)).trans (rfl))))))), gZ.fr (fun a j h => (sc_k (by omega)).trans ((ui_k (by omega)).trans ((ui_k (by omega)).trans ((sc_k (by omega)).trans ((ui_k (by omega)).trans ((sc_k (by omega)).trans (rfl)))))))⟩
              · show w32 (B 913 0 + B 102 (180 + (A 33 a0).toNat)) = w32 (A 2 0 + A 57 (A 33 a0))
                rw [q2, f6]
              · obtain ⟨w1, w2, w3, w4, w5, w6, w7, w8⟩ := k8 j j0 j1
                refine ⟨w1, w2, w3, w4, w5, w6, ?_⟩
                show -1 ≤ ui (sc A 0 0) 33 a0 (-1) 33 j ∧ ui (sc A 0 0) 33 a0 (-1) 33 j < A 54 0
                by_cases e : j = a0
                · rw [e, ui_s]; omega
                · rw [ui_j e]; exact ⟨w7, w8⟩
            exact hRR
        · refine ⟨0, sc A 0 2, fun Q hQ => m_isCar1 h29 hx (bn_F (by decide) ⟨hx.1, by omega, bn_T c32 ⟨hx.1, by omega, br_F c33 ⟨hx.1, by omega, hx.1, by omega, hb.1, by omega, br_F c31 (by unfold W_X9_unload_53 W_X9_unload_58; exact br_F no2 hQ)⟩⟩⟩), pz_thr, rfl, q_carOf1 gK hx ⟨hk, bn_T (by rw [f2]; exact c32) (br_F (by rw [f3]; exact c33) ?_)⟩⟩
          unfold W_X8_unload_27
          refine q_state1 ⟨hk, rfl, ?_⟩
          rw [f3]
          refine q_bill1 gL hb ⟨hkb, bn_F (by rw [f5, f1]; exact fun w => c31 w.symm) ?_⟩
          unfold W_X8_unload_55
          exact q_state0 ⟨Or.inr ⟨rfl, rfl⟩, hR.thr⟩
    · exact ⟨0, sc A 0 2, fun Q hQ => m_isCar1 h29 hx (bn_F (by decide) ⟨hx.1, by omega, bn_F c32 (by unfold W_X9_unload_53 W_X9_unload_58; exact br_F no2 hQ)⟩), pz_thr, rfl, q_carOf1 gK hx ⟨hk, bn_F (by rw [f2]; exact c32) (by unfold W_X8_unload_26 W_X8_unload_27; exact q_state0 ⟨Or.inr ⟨rfl, rfl⟩, hR.thr⟩)⟩⟩
  · exact ⟨0, sc A 0 1, fun Q hQ => m_isCar0 h29 hx (bn_T rfl (by unfold W_X9_unload_58; exact br_F no1 hQ)), pz_thr, rfl, q_carOf0 gK hx ⟨Or.inl ⟨rfl, rfl⟩, hR.thr⟩⟩
end Rows
