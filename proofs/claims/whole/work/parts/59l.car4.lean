set_option maxRecDepth 20000 in
set_option maxHeartbeats 4000000 in
theorem law_car {n : Nat} {G : Gp} {ln : Int} {scr : Int → Int} {k23 : Nat → Nat → Nat → Int → Shp → Fl → Il → Prop} {x1 x2 x3 : Nat} {x4 : Int} {S : Shp} {F : Fl} {I : Il} {Q : Int → Shp → Fl → Il → Prop} (hI : LJ (n + 1) G x1 x2 x3 S F I) (hs : ∀ z, rg (scr z)) (h4 : 0 ≤ x4) (h5 : x4 + 4 < ln) (h6 : ln ≤ 2560) (hk : ∀ (S' : Shp) (F' : Fl) (I' : Il), LJ n G x1 x2 x3 S' F' I' → k23 x1 x2 x3 (w32 (x4 + 5)) S' F' I') : V_L_law_883 G ln scr k23 x1 x2 x3 x4 S F I Q := by
  obtain ⟨Y, it, LN, rfl, rfl, rfl, hz, hL, hC, ha, hb, hR, hp⟩ := hI
  unfold V_L_law_883
  have e1 : w32 (x4 + 1) = x4 + 1 := w32_id (by unfold rg; omega)
  try rw [e1]
  refine ⟨by omega, by omega, ?_⟩
  have hs1 := hs (x4 + 1)
  generalize scr (x4 + 1) = s at hs1
  unfold V_L_car V_X8_car
  have exc : ∀ k : Int, (k = 1 ∨ k = 2) → (∀ Q9 : Int → Il → Prop, Q9 0 (sc (mA (ym Y) (ym Y 0) F I) 0 k) → W_X9_car s (mA (ym Y) (ym Y 0) F I) Q9) → (0 : Int) ≤ x4 + 1 ∧ x4 + 1 < ln ∧ sK (thr S) (ym Y 0) = 10 ∧ V_X9_car (ym Y 0) s (thr S) F I (fun (z10 : Int) (F11 : Fl) (I12 : Il) => V_X9_thrown (ym Y 0) (thr S) F11 I12 (fun (z13 : Int) => ((z13 = k → ((¬ k = 0 → V_L_law_936 G ln scr k23 (yg Y 0) (ym Y 0) (yo Y) x4 (thr S) F11 I12 Q) ∧ (k = 0 → sK (thr S) (yo Y) = 22 ∧ (0 : Int) ≤ 0 ∧ 0 < (sN (thr S) (yo Y) : Int) ∧ ((icmp (I12 (yo Y) 0) z10 = 0 → V_L_law_936 G ln scr k23 (yg Y 0) (ym Y 0) (yo Y) x4 (thr S) F11 I12 Q) ∧ (¬ icmp (I12 (yo Y) 0) z10 = 0 → Q 0 (thr S) F11 I12))))) ∧ (¬ z13 = k → Q 0 (thr S) F11 I12)))) := fun k hk9 hm => by
    have hM1 : Ms (ym Y 0) (ym Y) (thr S) := Lm.ms (Y := dn Y) hL (cg_thr hC (by omega) (by omega))
    refine ⟨by omega, by omega, hM1.1, ?_⟩
    refine T_X9_car (F0 := F) (I0 := I) hM1 Fr.rf (fun z2 F2 I2 hF2 h => ?_) (hm (fun b A2 => b = 0 ∧ A2 = sc (mA (ym Y) (ym Y 0) F I) 0 k) ⟨rfl, rfl⟩)
    obtain ⟨rfl, hA2⟩ := h
    have ht : F2 1000 (ym Y 0) = k := by
      have := congrFun (congrFun hA2 0) 0
      exact this.trans sc_s
    refine ⟨hM1.1, ?_⟩
    refine ⟨fun _ => ⟨fun _ => ?_, fun c9 => absurd c9 (by omega)⟩, fun c9 => absurd ht c9⟩
    have hpz := pz_thr (A := (mA (ym Y) (ym Y 0) F I)) (z := k)
    exact hk _ _ _ (lj_end hz hL hC (cg_thr hC (by omega) (by omega)) ha hb hR.thr (by omega) (z := 0) (Or.inr rfl) hF2 hA2)
  have hR' := hR
  have hcp := hR'.caps
  obtain ⟨gG, gS, gB, g0, gH, gE, gC, gN, gK, gL, gR, gD, gY, gU, gW, gP, gT, gX, gZ9⟩ := hR
  obtain ⟨⟨k1, k2, k3⟩, -⟩ := id gK
  have k2 : F 2 (yg Y 11) = mA (ym Y) (ym Y 0) F I 29 0 := k2
  have q1 : F 913 (yg Y 0) = mA (ym Y) (ym Y 0) F I 2 0 := gG.2.1
  have hM0 := (hL.ms hC).1
  refine ⟨Cg.k hC rfl (by decide), Cg.k hC rfl (by decide), v_stationOf hC (fun hx => ?_) (fun hx => Or.inl ⟨rfl, exc 1 (Or.inl rfl) (fun Q9 h9 => m_isStation0 hx (bn_T rfl (by unfold W_X9_car_26; exact br_F no1 h9)))⟩)⟩
  refine ⟨_, Cg.r904 hC rfl, Cg.k hC rfl (by decide), Cg.k hC rfl (by decide), fun h6 => ?_, fun h6 => ?_⟩
  · unfold V_X8_car_23
    exact v_state hC (fun w => absurd rfl w) (fun _ => Or.inr ⟨rfl, exc 2 (Or.inr rfl) (fun Q9 h9 => m_isStation1 hx (bn_F (by decide) (bn_T (by omega) (by unfold W_X9_car_26; exact br_F no2 h9))))⟩)
  unfold V_X8_car_23
  refine v_state hC (fun _ => ?_) (fun w => absurd w (by decide))
  refine ⟨Cg.k hC rfl (by decide), Cg.sa hC, by have := hC.sb; omega, fun q hq => ?_⟩
  have nq := hC.nq hq
  generalize hF1 : zF (u2 F 913 (yg Y 0) (w32 (F 913 (yg Y 0) - 50))) q = F1
  have p1 : ∀ k b, b ≠ q → k ≠ 913 → F1 k b = F k b := fun k b h h9 => by
    rw [← hF1]
    exact (zf_o h).trans (u2_k h9)
  have p2 : F1 913 (yg Y 0) = w32 (F 913 (yg Y 0) - 50) := by
    rw [← hF1]
    exact (zf_o (nq.1 0)).trans u2_s
  clear hF1
  have c20 : yc Y 11 < 20 := by omega
  refine mkcar_T hC hz hcp c20 (by omega) (by omega) hq hx ((p1 2 _ (nq.1 11) (by decide)).trans (k2.trans k1)) (fun q2 q3 e S2 F3 I3 hq2 hq3 nq2 nq3 nq32 hC2 o1 o2 o3 o4 o5 => ?_)
  have b11 : bs 11 = 140 := rfl
  have m2 := hC.nq hq2
  have lo : ∀ v, v < 100 → gup Y 11 q q2 v = yg Y v := fun v hv => (if_neg (by omega)).trans (if_neg (fun w => by have := w.2; omega))
  have go : ∀ v, kd (yc Y) v ≠ 99 → gup Y 11 q q2 v = yg Y v := fun v hv => by
    have kw := kd_up (c := yc Y) (L := 11) (by decide) (by show yc Y 11 < 20; exact c20)
    exact (if_neg (fun h => hv (by rw [h]; exact kw.1.1))).trans (if_neg (fun h => hv (by rw [h.2]; exact (kw.2.1 rfl).1)))
  have nm : ∀ v, kd (yc Y) v ≠ 99 → v ≠ 160 + yc Y 11 := fun v hv h => by
    have kw := kd_up (c := yc Y) (L := 11) (by decide) (by show yc Y 11 < 20; exact c20)
    exact hv (by rw [h]; exact (kw.2.1 rfl).1)
  generalize hY2 : Yup Y 11 q q2 e (ya Y - 1040) (yb Y - 2304) = Y2 at hC2
  have lo2 : ∀ v, v < 100 → yg Y2 v = yg Y v := fun v hv => by rw [← hY2]; exact lo v hv
  have hL2 : Lm Y2 := by rw [← hY2]; exact hL
  have eo : yo Y2 = yo Y := by
    rw [← hY2]
    rfl
  have em : ym Y2 = ym Y := by
    rw [← hY2]
    rfl
  have ec : yc Y2 = cup (yc Y) 11 := by
    rw [← hY2]
    rfl
  have ez : yz Y2 = gZ G := by
    rw [← hY2]
    exact hz
  have ea : ya Y2 = ya Y - 1040 := by
    rw [← hY2]
    rfl
  have eb : yb Y2 = yb Y - 2304 := by
    rw [← hY2]
    rfl
  have s20 : sK S2 (yg Y (20 + s.toNat)) = 7 := by rw [← lo2 _ (by omega)]; exact Cg.k hC2 (kdst (by omega) (by omega)) (by decide)
  have r701 : sR S2 701 (yg Y (20 + s.toNat)) = some (yg Y (30 + s.toNat)) := by
    have := Cg.r701 hC2 (v := 20 + s.toNat) (kdst (by omega) (by omega))
    rw [lo2 _ (by omega), lo2 _ (by omega), show 20 + s.toNat + 10 = 30 + s.toNat by omega] at this
    exact this
  have nam : ∀ (it' LN' : Nat → Nat) (S' : Shp), Cg Y2 it' LN' S' → sK S' (yg Y 0) = 9 ∧ sR S' 904 (yg Y 0) = some (yg Y 11) ∧ sK S' (yg Y 11) = 0 := fun it' LN' S' h => by
    rw [← lo2 0 (by decide), ← lo2 11 (by decide)]
    exact ⟨Cg.k h rfl (by decide), Cg.r904 h rfl, Cg.k h rfl (by decide)⟩
  have s30 : sK S2 (yg Y (30 + s.toNat)) = 6 := by rw [← lo2 _ (by omega)]; exact Cg.k hC2 (kdyd (by omega) (by omega)) (by decide)
  obtain ⟨s0, r0, s11⟩ := nam _ _ _ hC2
  refine ⟨s20, _, r701, s0, _, r0, s11, s11, ?_⟩
  rw [o3]
  dsimp only
  rw [show w32 ((yc Y 11 : Int) + 1 - 1) = (yc Y 11 : Int) from (w32_id (by unfold rg; omega)).trans (by omega)]
  refine ⟨s30, ?_⟩
  rw [← lo2 (30 + s.toNat) (by omega)]
  have eA3 : mA (ym Y) (ym Y 0) F3 I3 = mA (ym Y) (ym Y 0) F I := mA_lv hC hL (fun k hk9 => (o1 _ nq.2.2.2.2 m2.2.2.2.2 (fun w => by
    rw [w, Cg.k hC (v := 11) (k := 0) rfl (by decide)] at hM0
    cases hM0) k).trans (p1 k _ nq.2.2.2.2 (by omega))) o5
  generalize hA9 : mA (ym Y) (ym Y 0) F I = A at *
  have hN : 0 ≤ A 29 0 ∧ A 29 0 < 20 := by omega
  have h60 : 0 ≤ A 60 0 ∧ A 60 0 ≤ 1022 := by
    have z0 : ∀ t : Int, 0 ≤ t → t < 6 → 0 ≤ tz A t := fun t t0 t1 => by
      unfold tz
      split
      · exact ((gU t t0 t1).2 ‹_›).1.2.1
      · exact Int.le_refl _
    have y0 := z0 0 (by decide) (by decide)
    have y1 := z0 1 (by decide) (by decide)
    have y2 := z0 2 (by decide) (by decide)
    have y3 := z0 3 (by decide) (by decide)
    have y4 := z0 4 (by decide) (by decide)
    have y5 := z0 5 (by decide) (by decide)
    have hp : A 60 0 + (tz A 0 + tz A 1 + tz A 2 + tz A 3 + tz A 4 + tz A 5) + 2 * ((n + 1 : Nat) : Int) ≤ 1024 := hp
    exact ⟨gP.1, by omega⟩
  have w1 : ∀ k, Bc Y2 F3 k (140 + (A 29 0).toNat) = F3 k q := fun k => by
    rw [← hY2]
    show F3 k (gup Y 11 q q2 (140 + (A 29 0).toNat)) = F3 k q
    rw [show 140 + (A 29 0).toNat = bs 11 + yc Y 11 by omega, gup_w]
  have w2 : ∀ k, Bc Y2 F3 k (160 + (A 29 0).toNat) = F3 k q2 := fun k => by
    rw [← hY2]
    show F3 k (gup Y 11 q q2 (160 + (A 29 0).toNat)) = F3 k q2
    rw [show gup Y 11 q q2 (160 + (A 29 0).toNat) = q2 from (if_neg (by omega)).trans (if_pos ⟨rfl, by omega⟩)]
  have b35 : Bc Y2 F3 601 (30 + s.toNat) = Bc Y F 601 (30 + s.toNat) := by
    show F3 601 (yg Y2 (30 + s.toNat)) = F 601 (yg Y (30 + s.toNat))
    rw [lo2 _ (by omega), o1 _ (nq.1 _) (m2.1 _) (fun w => absurd (hC.1 (30 + s.toNat) 11 (by rw [kdyd (by omega) (by omega)]; decide) w) (by omega)) 601, p1 601 _ (nq.1 _) (by decide)]
  have hV : RepV (fun k => k = A 29 0) 1 (cup (yc Y) 11) (fun v => if v = 160 + yc Y 11 then 4 else LN v) (fun k v => if k = 601 ∧ v = 30 + s.toNat then Bc Y F k v else if k = 601 ∧ v = 160 + yc Y 11 then 0 else Bc Y2 F3 k v) (Ec Y2 (iup Y 11 q3 it) I3) (ui (ui (A1c A s) 31 (A 29 0) s) 32 (A 29 0) (-1)) := by
    refine car_rep1 (s := s) (B := fun k v => if k = 0 ∨ (k = 2 ∧ v = 11) ∨ k = 913 then Bc Y F k v else (if k = 601 ∧ v = 30 + s.toNat then Bc Y F k v else if k = 601 ∧ v = 160 + yc Y 11 then 0 else Bc Y2 F3 k v)) (A := A) (hR'.lv (fun k v hv => ?_) (fun v hv j => ?_) (fun v hv j => ?_) (fun v hv => if_neg (nm v hv))) hN.2 hx (fun k v hk9 _ => (if_neg (by omega)).symm) ⟨?_, fun v hv => (if_neg (by omega)).symm⟩ ⟨?_, rg_w32 _⟩ ?_ ?_ ?_ ?_ ?_ (if_pos (by omega)) (fun a j h => (ui_k (by omega)).trans ((ui_k (by omega)).trans ((sc_k (by omega)).trans ((ui_k (by omega)).trans ((ui_k (by omega)).trans ((sc_k (by omega)).trans (sc_k (by omega)))))))) rfl ⟨(ui_k (by decide)).trans ((ui_k (by decide)).trans ((sc_k (by decide)).trans ((ui_k (by decide)).trans ui_s))), fun j hj => (ui_k (by decide)).trans ((ui_k (by decide)).trans ((sc_k (by decide)).trans ((ui_k (by decide)).trans ((ui_j hj).trans ((sc_k (by decide)).trans (sc_k (by decide)))))))⟩ ⟨(ui_k (by decide)).trans ui_s, fun j hj => (ui_k (by decide)).trans ((ui_j hj).trans ((sc_k (by decide)).trans ((ui_k (by decide)).trans ((ui_k (by decide)).trans ((sc_k (by decide)).trans (sc_k (by decide)))))))⟩ ⟨ui_s, fun j hj => (ui_j hj).trans ((ui_k (by decide)).trans ((sc_k (by decide)).trans ((ui_k (by decide)).trans ((ui_k (by decide)).trans ((sc_k (by decide)).trans (sc_k (by decide)))))))⟩ ⟨(ui_k (by decide)).trans ((ui_k (by decide)).trans ((sc_k (by decide)).trans ui_s)), fun j hj => (ui_k (by decide)).trans ((ui_k (by decide)).trans ((sc_k (by decide)).trans ((ui_j hj).trans ((ui_k (by decide)).trans ((sc_k (by decide)).trans (sc_k (by decide)))))))⟩
    · try dsimp only
      by_cases h1 : k = 0 ∨ (k = 2 ∧ v = 11) ∨ k = 913
      · rw [if_pos h1]
      · rw [if_neg h1]
        by_cases h2 : k = 601 ∧ v = 30 + s.toNat
        · rw [if_pos h2]
        · rw [if_neg h2, if_neg (fun w => nm v hv w.2), ← hY2]
          show F3 k (gup Y 11 q q2 v) = F k (yg Y v)
          rw [go v hv]
          by_cases h3 : v = 11
          · rw [h3] at h1 ⊢
            rw [o2 k (fun w => h1 (Or.inl w)) (fun w => h1 (Or.inr (Or.inl ⟨w, rfl⟩)))]
            exact p1 k _ (nq.1 11) (fun w => h1 (Or.inr (Or.inr w)))
          · exact (o1 _ (nq.1 v) (m2.1 v) (fun w => h3 (hC.1 v 11 hv w)) k).trans (p1 k _ (nq.1 v) (fun w => h1 (Or.inr (Or.inr w))))
    · show I3 (iup Y 11 q3 it v) j = I (it v) j
      rw [show iup Y 11 q3 it v = it v from if_neg (fun w => nm v hv w.2)]
      exact o5 _ (fun h => (hC.nq h).2.1 v rfl) j
    · rw [← hY2]
      show I3 (gup Y 11 q q2 v) j = I (yg Y v) j
      rw [go v hv]
      exact o5 _ (fun h => (hC.nq h).1 v rfl) j
    · try dsimp only
      rw [if_neg (by omega), if_neg (by omega)]
      show F3 2 (yg Y2 11) = _
      rw [lo2 11 (by decide), o3]
      omega
    · show (if (913 : Nat) = 601 ∧ (0 : Nat) = 30 + s.toNat then Bc Y F 913 0 else if (913 : Nat) = 601 ∧ (0 : Nat) = 160 + yc Y 11 then 0 else Bc Y2 F3 913 0) = w32 (A 2 0 - 50)
      rw [if_neg (by omega), if_neg (by omega)]
      show F3 913 (yg Y2 0) = _
      rw [lo2 0 (by decide), o1 _ (nq.1 0) (m2.1 0) (fun w => absurd (hC.1 0 11 (by show (9 : Nat) ≠ 99; decide) w) (by decide)) 913, p2, q1]
    all_goals try dsimp only
    · rw [if_neg (by omega), if_neg (by omega), w1]; exact o4.1
    · rw [if_neg (by omega), if_neg (by omega), w1]; exact o4.2.1
    · rw [if_neg (by omega), if_neg (by omega), w1]; exact o4.2.2.1
    · rw [if_neg (by omega), if_neg (by omega), w1]; exact o4.2.2.2.1
    · rw [if_neg (by omega), if_pos ⟨rfl, by omega⟩]
  refine T_X5_append (Y := Y2) (x0 := 30 + s.toNat) (F0 := F3) (I0 := I3) hC2 Fc.rf (Qw := fun LN' B' E' => Rep (cup (yc Y) 11) LN' B' E' (cms (A1c A s) (A 29 0) s)) (fun it' LN' S' F' I' hC3 hF3 hR3 => ?_) ?_
  · obtain ⟨s0', r0', s11'⟩ := nam _ _ _ hC3
    have ez9 : F' 2 (yg Y 11) = A 29 0 + 1 := by
      have : F' 2 (yg Y2 11) = cms (A1c A s) (A 29 0) s 29 0 := hR3.2.2.2.2.2.2.2.2.1.1.2.1
      rw [lo2 11 (by decide)] at this
      exact this
    refine ⟨s0', _, r0', s11', s11', ?_⟩
    rw [ez9]
    dsimp only
    rw [show w32 (A 29 0 + 1 - 1) = A 29 0 from (w32_id (by unfold rg; omega)).trans (by omega)]
    have hM1 : Ms (ym Y 0) (ym Y) S' := by
      have := hL2.ms hC3
      rw [em] at this
      exact this
    have out' := hL2.out hC3
    rw [eo] at out'
    refine ⟨out'.1, by decide, out'.2, by omega, by omega, hM1.1, ?_⟩
    have eA : mA (ym Y) (ym Y 0) F' (ui I' (yo Y) 0 (A 29 0)) = A := by
      have h1 := mA_fc (Y := Y2) hF3
      rw [em] at h1
      exact (mA_out hL).trans (h1.trans eA3)
    have hyr := hV.yroom (by decide) hx
    have hyr : 0 ≤ A 35 s ∧ A 35 s ≤ 19 := hyr
    have hpz : pz (cms (A1c A s) (A 29 0) s) ≤ pz A + 2 := by
      unfold pz tz
      show A 60 0 + 1 + ((if A 36 0 = 1 then A 44 0 else 0) + (if A 36 1 = 1 then A 44 1 else 0) + (if A 36 2 = 1 then A 44 2 else 0) + (if A 36 3 = 1 then A 44 3 else 0) + (if A 36 4 = 1 then A 44 4 else 0) + (if A 36 5 = 1 then A 44 5 else 0)) ≤ _
      omega
    refine T_X9_car (F0 := F') (I0 := ui I' (yo Y) 0 (A 29 0)) hM1 Fr.rf (fun z2 F2 I2 hF2 h => ?_) (by rw [eA]; exact m_car hN hx (by omega) (by omega) (Q := fun b A2 => b = A 29 0 ∧ A2 = cms (A1c A s) (A 29 0) s) ⟨rfl, rfl⟩)
    obtain ⟨rfl, hA2⟩ := h
    have ht : F2 1000 (ym Y 0) = 0 := by
      have := congrFun (congrFun hA2 0) 0
      exact this
    refine ⟨hM1.1, ?_⟩
    refine ⟨fun _ => ⟨fun c9 => absurd rfl c9, fun _ => ⟨out'.1, by decide, out'.2, fun _ => ?_, fun c9 => absurd ?_ c9⟩⟩, fun c9 => absurd ht c9⟩
    · have eL : yc Y2 11 = yc Y 11 + 1 := by rw [ec]; exact cup_s
      have hfin := lj_new (Y := Y2) (it := it') (LN := LN') (S := S') (F1 := F') (I1 := I') (I := ui I' (yo Y) 0 (A 29 0)) (F2 := F2) (I2 := I2) (z := A 29 0) (n := n) (G := G) (A' := cms (A1c A s) (A 29 0) s) (lo2 0 (by decide)).symm ez hL2 hC3 (by rw [eL, ea]; omega) (by rw [eL, eb]; omega) (by rw [ec]; exact hR3) (by omega) (Or.inl (by rw [eo])) (by rw [em]; exact hF2) (by rw [em]; exact hA2)
      rw [em, eo] at hfin
      exact hk _ _ _ hfin
    · rw [hF2.2 (yo Y) (fun k hk9 => ((hL.ne.1 k hk9).1).symm), show ui _ (yo Y) 0 _ (yo Y) 0 = _ from ui_s, icmp_eq]
  · obtain ⟨⟨y1, y2, y3, -⟩, y5, y6, -⟩ := gY s hx.1 hx.2
    have hyr := hV.yroom (by decide) hx
    have hyr : 0 ≤ A 35 s ∧ A 35 s ≤ 19 := hyr
    have l1 : ∀ v, v ≠ 160 + yc Y 11 → (fun v => if v = 160 + yc Y 11 then 4 else LN v) v = LN v := fun v hv => if_neg hv
    have l2 : (fun v => if v = 160 + yc Y 11 then 4 else LN v) (160 + yc Y 11) = 4 := if_pos rfl
    generalize (fun v => if v = 160 + yc Y 11 then 4 else LN v) = LN2 at hV l1 l2
    have i3 : Ec Y2 (iup Y 11 q3 it) I3 (.inr (160 + (A 29 0).toNat)) 0 = s := by
      show I3 (iup Y 11 q3 it (160 + (A 29 0).toNat)) 0 = s
      rw [show iup Y 11 q3 it (160 + (A 29 0).toNat) = q3 from if_pos ⟨rfl, by omega⟩]
      exact o4.2.2.2.2.2
    have f6' := w2 601
    rw [o4.2.2.2.2.1] at f6'
    generalize Bc Y2 F3 = Bn at hV w1 w2 b35 f6'
    generalize Ec Y2 (iup Y 11 q3 it) I3 = En at hV i3
    generalize hBf : (fun k v => if k = 601 ∧ v = 30 + s.toNat then Bc Y F k v else if k = 601 ∧ v = 160 + yc Y 11 then 0 else Bn k v) = Bf at hV
    have t1 : Bf 601 (30 + s.toNat) = A 35 s := by
      rw [← hBf]
      exact (if_pos ⟨rfl, rfl⟩).trans y1
    have t2 : Bf 601 (160 + (A 29 0).toNat) = 0 := by
      rw [← hBf]
      exact (if_neg (by omega)).trans (if_pos ⟨rfl, by omega⟩)
    have t3 : ∀ k v, ¬ (k = 601 ∧ v = 30 + s.toNat) → ¬ (k = 601 ∧ v = 160 + (A 29 0).toNat) → Bf k v = Bn k v := fun k v h1 h2 => by
      rw [← hBf]
      exact (if_neg h1).trans (if_neg (by omega))
    clear hBf
    have l3 : LN2 (160 + (A 29 0).toNat) = 4 := by rw [show 160 + (A 29 0).toNat = 160 + yc Y 11 by omega]; exact l2
    have l4 := l1 (30 + s.toNat) (by omega)
    have b36 : Bn 601 (30 + s.toNat) = A 35 s := b35.trans y1
    refine ⟨kdyd (by omega) (by omega), by rw [b36]; exact y2, by rw [b36, l4]; exact y3, by rw [b36, l4]; omega, fun LN' E' f1 f2 f3 f4 f5 f6 => ?_⟩
    have hfin := comes_rep (A' := cms (A1c A s) (A 29 0) s) (B' := u2 Bn 601 (30 + s.toNat) (Bn 601 (30 + s.toNat) + 1)) (E' := E') (LN' := LN') hV cms_pre.symm ⟨hN.1, by show A 29 0 < A 29 0 + 1; omega⟩ hx (by decide) rfl (by show A 60 0 ≤ 1023; omega) (fun s' p a b c9 d w => by
        have := (gY s' a b).2.2.2 p c9 d
        have w : A 34 (20 * s' + p) = A 29 0 := w
        omega) (fun t p a b h c9 d w => by
        have := ((gU t a b).2 h).2 p c9 d
        have w : A 43 (10 * t + p) = A 29 0 := w
        omega) (fun k v h => (u2_k h.2.2).trans (t3 k v (by omega) (by omega)).symm) ⟨(u2_k (by decide)).trans ((w1 301).trans o4.2.1), fun v _ => (u2_k (by decide)).trans (t3 301 v (by omega) (by omega)).symm⟩ ⟨(u2_k (by decide)).trans ((w1 302).trans o4.2.2.1), fun v _ => (u2_k (by decide)).trans (t3 302 v (by omega) (by omega)).symm⟩
      ⟨by rw [t2]; exact (u2_v (by omega)).trans f6', by rw [t1, u2_s, b36], fun v h => (u2_v h.2).trans (t3 601 v (fun w => h.2 w.2) (fun w => h.1 w.2)).symm⟩
      (fun v h => f1 v h.2) (Or.inl (f1 _ (by omega))) (by rw [t2, f1 _ (by omega), l3]; decide) (by rw [t1, ← b36]; exact f3) (fun v h => f4 (.inr v) (fun w => h.2 (Sum.inr.inj w))) (fun v j => f4 (.inl v) (fun w => by cases w) j)
      (fun j j0 j1 => by rw [t2] at j1; omega) (by rw [t2]; exact (f4 _ (fun w => by have := Sum.inr.inj w; omega) 0).trans i3) (fun j j0 j1 => f5 j j0 (by rw [b36]; rw [t1] at j1; exact j1)) (by rw [t1, ← b36]; exact f6.trans k1.symm)
    exact hfin.r (fun k w => w.2 w.1) (by decide)

