set_option maxRecDepth 20000 in
set_option maxHeartbeats 4000000 in
theorem law_tracks {n : Nat} {G : Gp} {ln : Int} {scr : Int → Int} {k23 : Nat → Nat → Nat → Int → Shp → Fl → Il → Prop} {x1 x2 x3 : Nat} {x4 : Int} {S : Shp} {F : Fl} {I : Il} {Q : Int → Shp → Fl → Il → Prop} (hI : LJ (n + 1) G x1 x2 x3 S F I) (hs : ∀ z, rg (scr z)) (h4 : 0 ≤ x4) (h5 : x4 + 4 < ln) (h6 : ln ≤ 2560) (hk : ∀ (S' : Shp) (F' : Fl) (I' : Il), LJ n G x1 x2 x3 S' F' I' → k23 x1 x2 x3 (w32 (x4 + 5)) S' F' I') : V_L_law_232 G ln scr k23 x1 x2 x3 x4 S F I Q := by
  obtain ⟨Y, it, LN, rfl, rfl, rfl, hz, hL, hC, ha, hb, hR, hp⟩ := hI
  unfold V_L_law_232
  have e1 : w32 (x4 + 1) = x4 + 1 := w32_id (by unfold rg; omega)
  have e2 : w32 (x4 + 2) = x4 + 2 := w32_id (by unfold rg; omega)
  try rw [e1]
  try rw [e2]
  refine ⟨by omega, by omega, by omega, by omega, ?_⟩
  unfold V_L_tracks
  refine ⟨Cg.k hC rfl (by decide), ?_⟩
  obtain ⟨ans, A', hm, hpz, hW⟩ := sim_tracks (a0 := scr (x4 + 1)) (a1 := scr (x4 + 2)) hR (by omega) (hs _) (hs _)
  refine T_X8_tracks (F0 := F) (I0 := I) hC Fc.rf (fun z F1 hF1 h => ?_) (fun X9 F1 I1 hF1 h => ?_) hW
  · obtain ⟨h0, rfl, hR1⟩ := h
    refine ⟨(hL.out hC).1, by decide, (hL.out hC).2, ?_⟩
    have hM1 : Ms (ym Y 0) (ym Y) S := hL.ms hC
    refine ⟨by omega, by omega, by omega, by omega, hM1.1, ?_⟩
    have eA : mA (ym Y) (ym Y 0) F1 (ui I (yo Y) 0 z) = mA (ym Y) (ym Y 0) F I := (mA_out hL).trans (mA_fc (Y := Y) hF1)
    refine T_X9_tracks (F0 := F1) (I0 := (ui I (yo Y) 0 z)) hM1 Fr.rf (fun z2 F2 I2 hF2 h => ?_) (by rw [eA]; exact hm (fun b A2 => b = z ∧ A2 = A') ⟨rfl, rfl⟩)
    obtain ⟨rfl, hA2⟩ := h
    have ht : F2 1000 (ym Y 0) = 0 := by
      have := congrFun (congrFun hA2 0) 0
      exact this.trans h0
    refine ⟨hM1.1, ?_⟩
    refine ⟨fun _ => ⟨fun c9 => absurd rfl c9, fun _ => ⟨(hL.out hC).1, by decide, (hL.out hC).2, fun _ => ?_, fun c9 => absurd ?_ c9⟩⟩, fun c9 => absurd ht c9⟩
    · exact hk _ _ _ (lj_end hz hL hC (cg_dn0 hC (by omega) (by omega)) ha hb hR1 (by omega) (Or.inl rfl) hF2 hA2)
    · rw [hF2.2 (yo Y) (fun k hk9 => ((hL.ne.1 k hk9).1).symm), show ui _ (yo Y) 0 _ (yo Y) 0 = _ from ui_s, icmp_eq]
  · obtain ⟨hx9, hR1⟩ := h
    rcases hx9 with ⟨rfl, h0⟩ | ⟨rfl, h0⟩ | ⟨rfl, h0⟩
    · refine Or.inl ⟨rfl, ?_⟩
      have hM1 : Ms (ym Y 0) (ym Y) (thr S) := Lm.ms (Y := dn Y) hL (cg_thr hC (by omega) (by omega))
      refine ⟨by omega, by omega, by omega, by omega, hM1.1, ?_⟩
      have eA : mA (ym Y) (ym Y 0) F1 I1 = mA (ym Y) (ym Y 0) F I := mA_fc (Y := Y) hF1
      refine T_X9_tracks (F0 := F1) (I0 := I1) hM1 Fr.rf (fun z2 F2 I2 hF2 h => ?_) (by rw [eA]; exact hm (fun b A2 => b = ans ∧ A2 = A') ⟨rfl, rfl⟩)
      obtain ⟨rfl, hA2⟩ := h
      have ht : F2 1000 (ym Y 0) = 1 := by
        have := congrFun (congrFun hA2 0) 0
        exact this.trans h0
      refine ⟨hM1.1, ?_⟩
      refine ⟨fun _ => ⟨fun _ => ?_, fun c9 => absurd c9 (by decide)⟩, fun c9 => absurd ht c9⟩
      exact hk _ _ _ (lj_end hz hL hC (cg_thr hC (by omega) (by omega)) ha hb hR1 (by omega) (z := 0) (Or.inr rfl) hF2 hA2)
    · refine Or.inr (Or.inl ⟨rfl, ?_⟩)
      have hM1 : Ms (ym Y 0) (ym Y) (thr S) := Lm.ms (Y := dn Y) hL (cg_thr hC (by omega) (by omega))
      refine ⟨by omega, by omega, by omega, by omega, hM1.1, ?_⟩
      have eA : mA (ym Y) (ym Y 0) F1 I1 = mA (ym Y) (ym Y 0) F I := mA_fc (Y := Y) hF1
      refine T_X9_tracks (F0 := F1) (I0 := I1) hM1 Fr.rf (fun z2 F2 I2 hF2 h => ?_) (by rw [eA]; exact hm (fun b A2 => b = ans ∧ A2 = A') ⟨rfl, rfl⟩)
      obtain ⟨rfl, hA2⟩ := h
      have ht : F2 1000 (ym Y 0) = 2 := by
        have := congrFun (congrFun hA2 0) 0
        exact this.trans h0
      refine ⟨hM1.1, ?_⟩
      refine ⟨fun _ => ⟨fun _ => ?_, fun c9 => absurd c9 (by decide)⟩, fun c9 => absurd ht c9⟩
      exact hk _ _ _ (lj_end hz hL hC (cg_thr hC (by omega) (by omega)) ha hb hR1 (by omega) (z := 0) (Or.inr rfl) hF2 hA2)
    · refine Or.inr (Or.inr (⟨rfl, ?_⟩))
      have hM1 : Ms (ym Y 0) (ym Y) (thr S) := Lm.ms (Y := dn Y) hL (cg_thr hC (by omega) (by omega))
      refine ⟨by omega, by omega, by omega, by omega, hM1.1, ?_⟩
      have eA : mA (ym Y) (ym Y 0) F1 I1 = mA (ym Y) (ym Y 0) F I := mA_fc (Y := Y) hF1
      refine T_X9_tracks (F0 := F1) (I0 := I1) hM1 Fr.rf (fun z2 F2 I2 hF2 h => ?_) (by rw [eA]; exact hm (fun b A2 => b = ans ∧ A2 = A') ⟨rfl, rfl⟩)
      obtain ⟨rfl, hA2⟩ := h
      have ht : F2 1000 (ym Y 0) = 3 := by
        have := congrFun (congrFun hA2 0) 0
        exact this.trans h0
      refine ⟨hM1.1, ?_⟩
      refine ⟨fun _ => ⟨fun _ => ?_, fun c9 => absurd c9 (by decide)⟩, fun c9 => absurd ht c9⟩
      exact hk _ _ _ (lj_end hz hL hC (cg_thr hC (by omega) (by omega)) ha hb hR1 (by omega) (z := 0) (Or.inr rfl) hF2 hA2)
set_option maxRecDepth 20000 in
set_option maxHeartbeats 4000000 in
theorem law_fail {n : Nat} {G : Gp} {ln : Int} {scr : Int → Int} {k23 : Nat → Nat → Nat → Int → Shp → Fl → Il → Prop} {x1 x2 x3 : Nat} {x4 : Int} {S : Shp} {F : Fl} {I : Il} {Q : Int → Shp → Fl → Il → Prop} (hI : LJ (n + 1) G x1 x2 x3 S F I) (hs : ∀ z, rg (scr z)) (h4 : 0 ≤ x4) (h5 : x4 + 4 < ln) (h6 : ln ≤ 2560) (hk : ∀ (S' : Shp) (F' : Fl) (I' : Il), LJ n G x1 x2 x3 S' F' I' → k23 x1 x2 x3 (w32 (x4 + 5)) S' F' I') : V_L_law_392 G ln scr k23 x1 x2 x3 x4 S F I Q := by
  obtain ⟨Y, it, LN, rfl, rfl, rfl, hz, hL, hC, ha, hb, hR, hp⟩ := hI
  unfold V_L_law_392
  have e1 : w32 (x4 + 1) = x4 + 1 := w32_id (by unfold rg; omega)
  have e2 : w32 (x4 + 2) = x4 + 2 := w32_id (by unfold rg; omega)
  try rw [e1]
  try rw [e2]
  refine ⟨by omega, by omega, by omega, by omega, ?_⟩
  by_cases h3 : scr (x4 + 2) = 0
  · refine br_T h3 ?_
    unfold V_L_law_413 V_L_fail
    try rw [e1]
    try rw [e2]
    refine ⟨Cg.k hC rfl (by decide), ?_⟩
    obtain ⟨ans, A', hm, hpz, hba, hW⟩ := sim_fail (a0 := scr (x4 + 1)) (a1 := 0) hR (by omega) (hs _) (Or.inl rfl)
    refine T_X8_fail (F0 := F) (I0 := I) hC Fc.rf (fun z F1 hF1 h => ?_) (fun X9 F1 I1 hF1 h => ?_) hW
    · obtain ⟨h0, rfl, hR1⟩ := h
      have hM1 : Ms (ym Y 0) (ym Y) S := hL.ms hC
      rcases hba with rfl | rfl
      · refine br_T rfl ?_
        unfold V_L_fail_16
        refine ⟨(hL.out hC).1, by decide, (hL.out hC).2, ?_⟩
        refine ⟨by omega, by omega, by omega, by omega, br_T h3 ?_⟩
        unfold V_L_law_440
        refine ⟨hM1.1, ?_⟩
        have eA : mA (ym Y) (ym Y 0) F1 (ui I (yo Y) 0 0) = mA (ym Y) (ym Y 0) F I := (mA_out hL).trans (mA_fc (Y := Y) hF1)
        refine T_X9_fail (F0 := F1) (I0 := (ui I (yo Y) 0 0)) hM1 Fr.rf (fun z2 F2 I2 hF2 h => ?_) (by rw [eA]; exact hm (fun b A2 => b = 0 ∧ A2 = A') ⟨rfl, rfl⟩)
        obtain ⟨rfl, hA2⟩ := h
        have ht : F2 1000 (ym Y 0) = 0 := by
          have := congrFun (congrFun hA2 0) 0
          exact this.trans h0
        refine ⟨hM1.1, hM1.1, ?_⟩
        refine ⟨fun _ => ⟨fun c9 => absurd rfl c9, fun _ => ⟨(hL.out hC).1, by decide, (hL.out hC).2, br_T rfl ?_⟩⟩, fun c9 => absurd ht c9⟩
        unfold V_L_law_474
        refine ⟨fun _ => ?_, fun c9 => absurd ?_ c9⟩
        · exact hk _ _ _ (lj_end hz hL hC (cg_dn0 hC (by omega) (by omega)) ha hb hR1 (by omega) (Or.inl rfl) hF2 hA2)
        · rw [hF2.2 (yo Y) (fun k hk9 => ((hL.ne.1 k hk9).1).symm), show ui _ (yo Y) 0 _ (yo Y) 0 = _ from ui_s, icmp_eq]
      · refine br_F (by decide) ?_
        unfold V_L_fail_16
        refine ⟨(hL.out hC).1, by decide, (hL.out hC).2, ?_⟩
        refine ⟨by omega, by omega, by omega, by omega, br_T h3 ?_⟩
        unfold V_L_law_440
        refine ⟨hM1.1, ?_⟩
        have eA : mA (ym Y) (ym Y 0) F1 (ui I (yo Y) 0 1) = mA (ym Y) (ym Y 0) F I := (mA_out hL).trans (mA_fc (Y := Y) hF1)
        refine T_X9_fail (F0 := F1) (I0 := (ui I (yo Y) 0 1)) hM1 Fr.rf (fun z2 F2 I2 hF2 h => ?_) (by rw [eA]; exact hm (fun b A2 => b = 1 ∧ A2 = A') ⟨rfl, rfl⟩)
        obtain ⟨rfl, hA2⟩ := h
        have ht : F2 1000 (ym Y 0) = 0 := by
          have := congrFun (congrFun hA2 0) 0
          exact this.trans h0
        refine ⟨hM1.1, hM1.1, ?_⟩
        refine ⟨fun _ => ⟨fun c9 => absurd rfl c9, fun _ => ⟨(hL.out hC).1, by decide, (hL.out hC).2, br_F (by decide) ?_⟩⟩, fun c9 => absurd ht c9⟩
        unfold V_L_law_474
        refine ⟨fun _ => ?_, fun c9 => absurd ?_ c9⟩
        · exact hk _ _ _ (lj_end hz hL hC (cg_dn0 hC (by omega) (by omega)) ha hb hR1 (by omega) (Or.inl rfl) hF2 hA2)
        · rw [hF2.2 (yo Y) (fun k hk9 => ((hL.ne.1 k hk9).1).symm), show ui _ (yo Y) 0 _ (yo Y) 0 = _ from ui_s, icmp_eq]
    · obtain ⟨⟨rfl, h0⟩, hR1⟩ := h
      refine ⟨rfl, ?_⟩
      have hM1 : Ms (ym Y 0) (ym Y) (thr S) := Lm.ms (Y := dn Y) hL (cg_thr hC (by omega) (by omega))
      refine ⟨by omega, by omega, by omega, by omega, br_T h3 ?_⟩
      unfold V_L_law_440
      refine ⟨hM1.1, ?_⟩
      have eA : mA (ym Y) (ym Y 0) F1 I1 = mA (ym Y) (ym Y 0) F I := mA_fc (Y := Y) hF1
      refine T_X9_fail (F0 := F1) (I0 := I1) hM1 Fr.rf (fun z2 F2 I2 hF2 h => ?_) (by rw [eA]; exact hm (fun b A2 => b = ans ∧ A2 = A') ⟨rfl, rfl⟩)
      obtain ⟨rfl, hA2⟩ := h
      have ht : F2 1000 (ym Y 0) = 1 := by
        have := congrFun (congrFun hA2 0) 0
        exact this.trans h0
      refine ⟨hM1.1, hM1.1, ?_⟩
      refine ⟨fun _ => ⟨fun _ => ?_, fun c9 => absurd c9 (by decide)⟩, fun c9 => absurd ht c9⟩
      exact hk _ _ _ (lj_end hz hL hC (cg_thr hC (by omega) (by omega)) ha hb hR1 (by omega) (z := 0) (Or.inr rfl) hF2 hA2)
  · refine br_F h3 ?_
    unfold V_L_law_413 V_L_fail
    try rw [e1]
    try rw [e2]
    refine ⟨Cg.k hC rfl (by decide), ?_⟩
    obtain ⟨ans, A', hm, hpz, hba, hW⟩ := sim_fail (a0 := scr (x4 + 1)) (a1 := 1) hR (by omega) (hs _) (Or.inr rfl)
    refine T_X8_fail (F0 := F) (I0 := I) hC Fc.rf (fun z F1 hF1 h => ?_) (fun X9 F1 I1 hF1 h => ?_) hW
    · obtain ⟨h0, rfl, hR1⟩ := h
      have hM1 : Ms (ym Y 0) (ym Y) S := hL.ms hC
      rcases hba with rfl | rfl
      · refine br_T rfl ?_
        unfold V_L_fail_16
        refine ⟨(hL.out hC).1, by decide, (hL.out hC).2, ?_⟩
        refine ⟨by omega, by omega, by omega, by omega, br_F h3 ?_⟩
        unfold V_L_law_440
        refine ⟨hM1.1, ?_⟩
        have eA : mA (ym Y) (ym Y 0) F1 (ui I (yo Y) 0 0) = mA (ym Y) (ym Y 0) F I := (mA_out hL).trans (mA_fc (Y := Y) hF1)
        refine T_X9_fail (F0 := F1) (I0 := (ui I (yo Y) 0 0)) hM1 Fr.rf (fun z2 F2 I2 hF2 h => ?_) (by rw [eA]; exact hm (fun b A2 => b = 0 ∧ A2 = A') ⟨rfl, rfl⟩)
        obtain ⟨rfl, hA2⟩ := h
        have ht : F2 1000 (ym Y 0) = 0 := by
          have := congrFun (congrFun hA2 0) 0
          exact this.trans h0
        refine ⟨hM1.1, hM1.1, ?_⟩
        refine ⟨fun _ => ⟨fun c9 => absurd rfl c9, fun _ => ⟨(hL.out hC).1, by decide, (hL.out hC).2, br_T rfl ?_⟩⟩, fun c9 => absurd ht c9⟩
        unfold V_L_law_474
        refine ⟨fun _ => ?_, fun c9 => absurd ?_ c9⟩
        · exact hk _ _ _ (lj_end hz hL hC (cg_dn0 hC (by omega) (by omega)) ha hb hR1 (by omega) (Or.inl rfl) hF2 hA2)
        · rw [hF2.2 (yo Y) (fun k hk9 => ((hL.ne.1 k hk9).1).symm), show ui _ (yo Y) 0 _ (yo Y) 0 = _ from ui_s, icmp_eq]
      · refine br_F (by decide) ?_
        unfold V_L_fail_16
        refine ⟨(hL.out hC).1, by decide, (hL.out hC).2, ?_⟩
        refine ⟨by omega, by omega, by omega, by omega, br_F h3 ?_⟩
        unfold V_L_law_440
        refine ⟨hM1.1, ?_⟩
        have eA : mA (ym Y) (ym Y 0) F1 (ui I (yo Y) 0 1) = mA (ym Y) (ym Y 0) F I := (mA_out hL).trans (mA_fc (Y := Y) hF1)
        refine T_X9_fail (F0 := F1) (I0 := (ui I (yo Y) 0 1)) hM1 Fr.rf (fun z2 F2 I2 hF2 h => ?_) (by rw [eA]; exact hm (fun b A2 => b = 1 ∧ A2 = A') ⟨rfl, rfl⟩)
        obtain ⟨rfl, hA2⟩ := h
        have ht : F2 1000 (ym Y 0) = 0 := by
          have := congrFun (congrFun hA2 0) 0
          exact this.trans h0
        refine ⟨hM1.1, hM1.1, ?_⟩
        refine ⟨fun _ => ⟨fun c9 => absurd rfl c9, fun _ => ⟨(hL.out hC).1, by decide, (hL.out hC).2, br_F (by decide) ?_⟩⟩, fun c9 => absurd ht c9⟩
        unfold V_L_law_474
        refine ⟨fun _ => ?_, fun c9 => absurd ?_ c9⟩
        · exact hk _ _ _ (lj_end hz hL hC (cg_dn0 hC (by omega) (by omega)) ha hb hR1 (by omega) (Or.inl rfl) hF2 hA2)
        · rw [hF2.2 (yo Y) (fun k hk9 => ((hL.ne.1 k hk9).1).symm), show ui _ (yo Y) 0 _ (yo Y) 0 = _ from ui_s, icmp_eq]
    · obtain ⟨⟨rfl, h0⟩, hR1⟩ := h
      refine ⟨rfl, ?_⟩
      have hM1 : Ms (ym Y 0) (ym Y) (thr S) := Lm.ms (Y := dn Y) hL (cg_thr hC (by omega) (by omega))
      refine ⟨by omega, by omega, by omega, by omega, br_F h3 ?_⟩
      unfold V_L_law_440
      refine ⟨hM1.1, ?_⟩
      have eA : mA (ym Y) (ym Y 0) F1 I1 = mA (ym Y) (ym Y 0) F I := mA_fc (Y := Y) hF1
      refine T_X9_fail (F0 := F1) (I0 := I1) hM1 Fr.rf (fun z2 F2 I2 hF2 h => ?_) (by rw [eA]; exact hm (fun b A2 => b = ans ∧ A2 = A') ⟨rfl, rfl⟩)
      obtain ⟨rfl, hA2⟩ := h
      have ht : F2 1000 (ym Y 0) = 1 := by
        have := congrFun (congrFun hA2 0) 0
        exact this.trans h0
      refine ⟨hM1.1, hM1.1, ?_⟩
      refine ⟨fun _ => ⟨fun _ => ?_, fun c9 => absurd c9 (by decide)⟩, fun c9 => absurd ht c9⟩
      exact hk _ _ _ (lj_end hz hL hC (cg_thr hC (by omega) (by omega)) ha hb hR1 (by omega) (z := 0) (Or.inr rfl) hF2 hA2)
set_option maxRecDepth 20000 in
set_option maxHeartbeats 4000000 in
theorem law_flag {n : Nat} {G : Gp} {ln : Int} {scr : Int → Int} {k23 : Nat → Nat → Nat → Int → Shp → Fl → Il → Prop} {x1 x2 x3 : Nat} {x4 : Int} {S : Shp} {F : Fl} {I : Il} {Q : Int → Shp → Fl → Il → Prop} (hI : LJ (n + 1) G x1 x2 x3 S F I) (hs : ∀ z, rg (scr z)) (h4 : 0 ≤ x4) (h5 : x4 + 4 < ln) (h6 : ln ≤ 2560) (hk : ∀ (S' : Shp) (F' : Fl) (I' : Il), LJ n G x1 x2 x3 S' F' I' → k23 x1 x2 x3 (w32 (x4 + 5)) S' F' I') : V_L_law_483 G ln scr k23 x1 x2 x3 x4 S F I Q := by
  obtain ⟨Y, it, LN, rfl, rfl, rfl, hz, hL, hC, ha, hb, hR, hp⟩ := hI
  unfold V_L_law_483
  have e1 : w32 (x4 + 1) = x4 + 1 := w32_id (by unfold rg; omega)
  try rw [e1]
  refine ⟨by omega, by omega, ?_⟩
  unfold V_L_flag
  refine ⟨Cg.k hC rfl (by decide), ?_⟩
  obtain ⟨A', hm, hpz, hW⟩ := sim_flag (a0 := scr (x4 + 1)) hR (by omega) (hs _)
  refine T_X8_flag (F0 := F) (I0 := I) hC Fc.rf (fun F1 hF1 h => ?_) (fun X9 F1 I1 hF1 h => ?_) hW
  · obtain ⟨h0, hR1⟩ := h
    have hM1 : Ms (ym Y 0) (ym Y) S := hL.ms hC
    refine ⟨by omega, by omega, hM1.1, ?_⟩
    have eA : mA (ym Y) (ym Y 0) F1 I = mA (ym Y) (ym Y 0) F I := mA_fc (Y := Y) hF1
    refine T_X9_flag (F0 := F1) (I0 := I) hM1 Fr.rf (fun F2 I2 hF2 h => ?_) (by rw [eA]; exact hm (fun A2 => A2 = A') rfl)
    have hA2 := h
    have ht : F2 1000 (ym Y 0) = 0 := by
      have := congrFun (congrFun hA2 0) 0
      exact this.trans h0
    refine ⟨hM1.1, ?_⟩
    refine ⟨fun _ => ?_, fun c9 => absurd ht c9⟩
    exact hk _ _ _ (lj_end hz hL hC (cg_dn0 hC (by omega) (by omega)) ha hb hR1 (by omega) (z := 0) (Or.inr rfl) hF2 hA2)
  · obtain ⟨hx9, hR1⟩ := h
    rcases hx9 with ⟨rfl, h0⟩ | ⟨rfl, h0⟩
    · refine Or.inl ⟨rfl, ?_⟩
      have hM1 : Ms (ym Y 0) (ym Y) (thr S) := Lm.ms (Y := dn Y) hL (cg_thr hC (by omega) (by omega))
      refine ⟨by omega, by omega, hM1.1, ?_⟩
      have eA : mA (ym Y) (ym Y 0) F1 I1 = mA (ym Y) (ym Y 0) F I := mA_fc (Y := Y) hF1
      refine T_X9_flag (F0 := F1) (I0 := I1) hM1 Fr.rf (fun F2 I2 hF2 h => ?_) (by rw [eA]; exact hm (fun A2 => A2 = A') rfl)
      have hA2 := h
      have ht : F2 1000 (ym Y 0) = 1 := by
        have := congrFun (congrFun hA2 0) 0
        exact this.trans h0
      refine ⟨hM1.1, ?_⟩
      refine ⟨fun _ => ?_, fun c9 => absurd ht c9⟩
      exact hk _ _ _ (lj_end hz hL hC (cg_thr hC (by omega) (by omega)) ha hb hR1 (by omega) (z := 0) (Or.inr rfl) hF2 hA2)
    · refine Or.inr (⟨rfl, ?_⟩)
      have hM1 : Ms (ym Y 0) (ym Y) (thr S) := Lm.ms (Y := dn Y) hL (cg_thr hC (by omega) (by omega))
      refine ⟨by omega, by omega, hM1.1, ?_⟩
      have eA : mA (ym Y) (ym Y 0) F1 I1 = mA (ym Y) (ym Y 0) F I := mA_fc (Y := Y) hF1
      refine T_X9_flag (F0 := F1) (I0 := I1) hM1 Fr.rf (fun F2 I2 hF2 h => ?_) (by rw [eA]; exact hm (fun A2 => A2 = A') rfl)
      have hA2 := h
      have ht : F2 1000 (ym Y 0) = 2 := by
        have := congrFun (congrFun hA2 0) 0
        exact this.trans h0
      refine ⟨hM1.1, ?_⟩
      refine ⟨fun _ => ?_, fun c9 => absurd ht c9⟩
      exact hk _ _ _ (lj_end hz hL hC (cg_thr hC (by omega) (by omega)) ha hb hR1 (by omega) (z := 0) (Or.inr rfl) hF2 hA2)
set_option maxRecDepth 20000 in
set_option maxHeartbeats 4000000 in
theorem law_hours {n : Nat} {G : Gp} {ln : Int} {scr : Int → Int} {k23 : Nat → Nat → Nat → Int → Shp → Fl → Il → Prop} {x1 x2 x3 : Nat} {x4 : Int} {S : Shp} {F : Fl} {I : Il} {Q : Int → Shp → Fl → Il → Prop} (hI : LJ (n + 1) G x1 x2 x3 S F I) (hs : ∀ z, rg (scr z)) (h4 : 0 ≤ x4) (h5 : x4 + 4 < ln) (h6 : ln ≤ 2560) (hk : ∀ (S' : Shp) (F' : Fl) (I' : Il), LJ n G x1 x2 x3 S' F' I' → k23 x1 x2 x3 (w32 (x4 + 5)) S' F' I') : V_L_law_519 G ln scr k23 x1 x2 x3 x4 S F I Q := by
  obtain ⟨Y, it, LN, rfl, rfl, rfl, hz, hL, hC, ha, hb, hR, hp⟩ := hI
  unfold V_L_law_519
  have e1 : w32 (x4 + 1) = x4 + 1 := w32_id (by unfold rg; omega)
  have e2 : w32 (x4 + 2) = x4 + 2 := w32_id (by unfold rg; omega)
  have e3 : w32 (x4 + 3) = x4 + 3 := w32_id (by unfold rg; omega)
  try rw [e1]
  try rw [e2]
  try rw [e3]
  refine ⟨by omega, by omega, by omega, by omega, by omega, by omega, ?_⟩
  unfold V_L_hours
  refine ⟨Cg.k hC rfl (by decide), ?_⟩
  obtain ⟨A', hm, hpz, hW⟩ := sim_hours (a0 := scr (x4 + 1)) (a1 := scr (x4 + 2)) (a2 := scr (x4 + 3)) hR (by omega) (hs _) (hs _) (hs _)
  refine T_X8_hours (F0 := F) (I0 := I) hC Fc.rf (fun F1 hF1 h => ?_) (fun X9 F1 I1 hF1 h => ?_) hW
  · obtain ⟨h0, hR1⟩ := h
    have hM1 : Ms (ym Y 0) (ym Y) S := hL.ms hC
    refine ⟨by omega, by omega, by omega, by omega, by omega, by omega, hM1.1, ?_⟩
    have eA : mA (ym Y) (ym Y 0) F1 I = mA (ym Y) (ym Y 0) F I := mA_fc (Y := Y) hF1
    refine T_X9_hours (F0 := F1) (I0 := I) hM1 Fr.rf (fun F2 I2 hF2 h => ?_) (by rw [eA]; exact hm (fun A2 => A2 = A') rfl)
    have hA2 := h
    have ht : F2 1000 (ym Y 0) = 0 := by
      have := congrFun (congrFun hA2 0) 0
      exact this.trans h0
    refine ⟨hM1.1, ?_⟩
    refine ⟨fun _ => ?_, fun c9 => absurd ht c9⟩
    exact hk _ _ _ (lj_end hz hL hC (cg_dn0 hC (by omega) (by omega)) ha hb hR1 (by omega) (z := 0) (Or.inr rfl) hF2 hA2)
  · obtain ⟨hx9, hR1⟩ := h
    rcases hx9 with ⟨rfl, h0⟩ | ⟨rfl, h0⟩
    · refine Or.inl ⟨rfl, ?_⟩
      have hM1 : Ms (ym Y 0) (ym Y) (thr S) := Lm.ms (Y := dn Y) hL (cg_thr hC (by omega) (by omega))
      refine ⟨by omega, by omega, by omega, by omega, by omega, by omega, hM1.1, ?_⟩
      have eA : mA (ym Y) (ym Y 0) F1 I1 = mA (ym Y) (ym Y 0) F I := mA_fc (Y := Y) hF1
      refine T_X9_hours (F0 := F1) (I0 := I1) hM1 Fr.rf (fun F2 I2 hF2 h => ?_) (by rw [eA]; exact hm (fun A2 => A2 = A') rfl)
      have hA2 := h
      have ht : F2 1000 (ym Y 0) = 1 := by
        have := congrFun (congrFun hA2 0) 0
        exact this.trans h0
      refine ⟨hM1.1, ?_⟩
      refine ⟨fun _ => ?_, fun c9 => absurd ht c9⟩
      exact hk _ _ _ (lj_end hz hL hC (cg_thr hC (by omega) (by omega)) ha hb hR1 (by omega) (z := 0) (Or.inr rfl) hF2 hA2)
    · refine Or.inr (⟨rfl, ?_⟩)
      have hM1 : Ms (ym Y 0) (ym Y) (thr S) := Lm.ms (Y := dn Y) hL (cg_thr hC (by omega) (by omega))
      refine ⟨by omega, by omega, by omega, by omega, by omega, by omega, hM1.1, ?_⟩
      have eA : mA (ym Y) (ym Y 0) F1 I1 = mA (ym Y) (ym Y 0) F I := mA_fc (Y := Y) hF1
      refine T_X9_hours (F0 := F1) (I0 := I1) hM1 Fr.rf (fun F2 I2 hF2 h => ?_) (by rw [eA]; exact hm (fun A2 => A2 = A') rfl)
      have hA2 := h
      have ht : F2 1000 (ym Y 0) = 2 := by
        have := congrFun (congrFun hA2 0) 0
        exact this.trans h0
      refine ⟨hM1.1, ?_⟩
      refine ⟨fun _ => ?_, fun c9 => absurd ht c9⟩
      exact hk _ _ _ (lj_end hz hL hC (cg_thr hC (by omega) (by omega)) ha hb hR1 (by omega) (z := 0) (Or.inr rfl) hF2 hA2)
set_option maxRecDepth 20000 in
set_option maxHeartbeats 4000000 in
theorem law_repair {n : Nat} {G : Gp} {ln : Int} {scr : Int → Int} {k23 : Nat → Nat → Nat → Int → Shp → Fl → Il → Prop} {x1 x2 x3 : Nat} {x4 : Int} {S : Shp} {F : Fl} {I : Il} {Q : Int → Shp → Fl → Il → Prop} (hI : LJ (n + 1) G x1 x2 x3 S F I) (hs : ∀ z, rg (scr z)) (h4 : 0 ≤ x4) (h5 : x4 + 4 < ln) (h6 : ln ≤ 2560) (hk : ∀ (S' : Shp) (F' : Fl) (I' : Il), LJ n G x1 x2 x3 S' F' I' → k23 x1 x2 x3 (w32 (x4 + 5)) S' F' I') : V_L_law_579 G ln scr k23 x1 x2 x3 x4 S F I Q := by
  obtain ⟨Y, it, LN, rfl, rfl, rfl, hz, hL, hC, ha, hb, hR, hp⟩ := hI
  unfold V_L_law_579
  have e1 : w32 (x4 + 1) = x4 + 1 := w32_id (by unfold rg; omega)
  try rw [e1]
  refine ⟨by omega, by omega, ?_⟩
  unfold V_L_repair
  refine ⟨Cg.k hC rfl (by decide), ?_⟩
  obtain ⟨ans, A', hm, hpz, hW⟩ := sim_repair (a0 := scr (x4 + 1)) hR (by omega) (hs _)
  refine T_X8_repair (F0 := F) (I0 := I) hC Fc.rf (fun z F1 hF1 h => ?_) (fun X9 F1 I1 hF1 h => ?_) hW
  · obtain ⟨h0, rfl, hR1⟩ := h
    refine ⟨(hL.out hC).1, by decide, (hL.out hC).2, ?_⟩
    have hM1 : Ms (ym Y 0) (ym Y) S := hL.ms hC
    refine ⟨by omega, by omega, hM1.1, ?_⟩
    have eA : mA (ym Y) (ym Y 0) F1 (ui I (yo Y) 0 z) = mA (ym Y) (ym Y 0) F I := (mA_out hL).trans (mA_fc (Y := Y) hF1)
    refine T_X9_repair (F0 := F1) (I0 := (ui I (yo Y) 0 z)) hM1 Fr.rf (fun z2 F2 I2 hF2 h => ?_) (by rw [eA]; exact hm (fun b A2 => b = z ∧ A2 = A') ⟨rfl, rfl⟩)
    obtain ⟨rfl, hA2⟩ := h
    have ht : F2 1000 (ym Y 0) = 0 := by
      have := congrFun (congrFun hA2 0) 0
      exact this.trans h0
    refine ⟨hM1.1, ?_⟩
    refine ⟨fun _ => ⟨fun c9 => absurd rfl c9, fun _ => ⟨(hL.out hC).1, by decide, (hL.out hC).2, fun _ => ?_, fun c9 => absurd ?_ c9⟩⟩, fun c9 => absurd ht c9⟩
    · exact hk _ _ _ (lj_end hz hL hC (cg_dn0 hC (by omega) (by omega)) ha hb hR1 (by omega) (Or.inl rfl) hF2 hA2)
    · rw [hF2.2 (yo Y) (fun k hk9 => ((hL.ne.1 k hk9).1).symm), show ui _ (yo Y) 0 _ (yo Y) 0 = _ from ui_s, icmp_eq]
  · obtain ⟨hx9, hR1⟩ := h
    rcases hx9 with ⟨rfl, h0⟩ | ⟨rfl, h0⟩
    · refine Or.inl ⟨rfl, ?_⟩
      have hM1 : Ms (ym Y 0) (ym Y) (thr S) := Lm.ms (Y := dn Y) hL (cg_thr hC (by omega) (by omega))
      refine ⟨by omega, by omega, hM1.1, ?_⟩
      have eA : mA (ym Y) (ym Y 0) F1 I1 = mA (ym Y) (ym Y 0) F I := mA_fc (Y := Y) hF1
      refine T_X9_repair (F0 := F1) (I0 := I1) hM1 Fr.rf (fun z2 F2 I2 hF2 h => ?_) (by rw [eA]; exact hm (fun b A2 => b = ans ∧ A2 = A') ⟨rfl, rfl⟩)
      obtain ⟨rfl, hA2⟩ := h
      have ht : F2 1000 (ym Y 0) = 1 := by
        have := congrFun (congrFun hA2 0) 0
        exact this.trans h0
      refine ⟨hM1.1, ?_⟩
      refine ⟨fun _ => ⟨fun _ => ?_, fun c9 => absurd c9 (by decide)⟩, fun c9 => absurd ht c9⟩
      exact hk _ _ _ (lj_end hz hL hC (cg_thr hC (by omega) (by omega)) ha hb hR1 (by omega) (z := 0) (Or.inr rfl) hF2 hA2)
    · refine Or.inr (⟨rfl, ?_⟩)
      have hM1 : Ms (ym Y 0) (ym Y) (thr S) := Lm.ms (Y := dn Y) hL (cg_thr hC (by omega) (by omega))
      refine ⟨by omega, by omega, hM1.1, ?_⟩
      have eA : mA (ym Y) (ym Y 0) F1 I1 = mA (ym Y) (ym Y 0) F I := mA_fc (Y := Y) hF1
      refine T_X9_repair (F0 := F1) (I0 := I1) hM1 Fr.rf (fun z2 F2 I2 hF2 h => ?_) (by rw [eA]; exact hm (fun b A2 => b = ans ∧ A2 = A') ⟨rfl, rfl⟩)
      obtain ⟨rfl, hA2⟩ := h
      have ht : F2 1000 (ym Y 0) = 2 := by
        have := congrFun (congrFun hA2 0) 0
        exact this.trans h0
      refine ⟨hM1.1, ?_⟩
      refine ⟨fun _ => ⟨fun _ => ?_, fun c9 => absurd c9 (by decide)⟩, fun c9 => absurd ht c9⟩
      exact hk _ _ _ (lj_end hz hL hC (cg_thr hC (by omega) (by omega)) ha hb hR1 (by omega) (z := 0) (Or.inr rfl) hF2 hA2)
set_option maxRecDepth 20000 in
set_option maxHeartbeats 4000000 in
theorem law_learn {n : Nat} {G : Gp} {ln : Int} {scr : Int → Int} {k23 : Nat → Nat → Nat → Int → Shp → Fl → Il → Prop} {x1 x2 x3 : Nat} {x4 : Int} {S : Shp} {F : Fl} {I : Il} {Q : Int → Shp → Fl → Il → Prop} (hI : LJ (n + 1) G x1 x2 x3 S F I) (hs : ∀ z, rg (scr z)) (h4 : 0 ≤ x4) (h5 : x4 + 4 < ln) (h6 : ln ≤ 2560) (hk : ∀ (S' : Shp) (F' : Fl) (I' : Il), LJ n G x1 x2 x3 S' F' I' → k23 x1 x2 x3 (w32 (x4 + 5)) S' F' I') : V_L_law_759 G ln scr k23 x1 x2 x3 x4 S F I Q := by
  obtain ⟨Y, it, LN, rfl, rfl, rfl, hz, hL, hC, ha, hb, hR, hp⟩ := hI
  unfold V_L_law_759
  have e1 : w32 (x4 + 1) = x4 + 1 := w32_id (by unfold rg; omega)
  have e2 : w32 (x4 + 2) = x4 + 2 := w32_id (by unfold rg; omega)
  try rw [e1]
  try rw [e2]
  refine ⟨by omega, by omega, by omega, by omega, ?_⟩
  unfold V_L_learn
  refine ⟨Cg.k hC rfl (by decide), ?_⟩
  obtain ⟨ans, A', hm, hpz, hW⟩ := sim_learn (a0 := scr (x4 + 1)) (a1 := scr (x4 + 2)) hR (by omega) (hs _) (hs _)
  refine T_X8_learn (F0 := F) (I0 := I) hC Fc.rf (fun z F1 hF1 h => ?_) (fun X9 F1 I1 hF1 h => ?_) hW
  · obtain ⟨h0, rfl, hR1⟩ := h
    refine ⟨(hL.out hC).1, by decide, (hL.out hC).2, ?_⟩
    have hM1 : Ms (ym Y 0) (ym Y) S := hL.ms hC
    refine ⟨by omega, by omega, by omega, by omega, hM1.1, ?_⟩
    have eA : mA (ym Y) (ym Y 0) F1 (ui I (yo Y) 0 z) = mA (ym Y) (ym Y 0) F I := (mA_out hL).trans (mA_fc (Y := Y) hF1)
    refine T_X9_learn (F0 := F1) (I0 := (ui I (yo Y) 0 z)) hM1 Fr.rf (fun z2 F2 I2 hF2 h => ?_) (by rw [eA]; exact hm (fun b A2 => b = z ∧ A2 = A') ⟨rfl, rfl⟩)
    obtain ⟨rfl, hA2⟩ := h
    have ht : F2 1000 (ym Y 0) = 0 := by
      have := congrFun (congrFun hA2 0) 0
      exact this.trans h0
    refine ⟨hM1.1, ?_⟩
    refine ⟨fun _ => ⟨fun c9 => absurd rfl c9, fun _ => ⟨(hL.out hC).1, by decide, (hL.out hC).2, fun _ => ?_, fun c9 => absurd ?_ c9⟩⟩, fun c9 => absurd ht c9⟩
    · exact hk _ _ _ (lj_end hz hL hC (cg_dn0 hC (by omega) (by omega)) ha hb hR1 (by omega) (Or.inl rfl) hF2 hA2)
    · rw [hF2.2 (yo Y) (fun k hk9 => ((hL.ne.1 k hk9).1).symm), show ui _ (yo Y) 0 _ (yo Y) 0 = _ from ui_s, icmp_eq]
  · obtain ⟨hx9, hR1⟩ := h
    rcases hx9 with ⟨rfl, h0⟩
    · refine ⟨rfl, ?_⟩
      have hM1 : Ms (ym Y 0) (ym Y) (thr S) := Lm.ms (Y := dn Y) hL (cg_thr hC (by omega) (by omega))
      refine ⟨by omega, by omega, by omega, by omega, hM1.1, ?_⟩
      have eA : mA (ym Y) (ym Y 0) F1 I1 = mA (ym Y) (ym Y 0) F I := mA_fc (Y := Y) hF1
      refine T_X9_learn (F0 := F1) (I0 := I1) hM1 Fr.rf (fun z2 F2 I2 hF2 h => ?_) (by rw [eA]; exact hm (fun b A2 => b = ans ∧ A2 = A') ⟨rfl, rfl⟩)
      obtain ⟨rfl, hA2⟩ := h
      have ht : F2 1000 (ym Y 0) = 1 := by
        have := congrFun (congrFun hA2 0) 0
        exact this.trans h0
      refine ⟨hM1.1, ?_⟩
      refine ⟨fun _ => ⟨fun _ => ?_, fun c9 => absurd c9 (by decide)⟩, fun c9 => absurd ht c9⟩
      exact hk _ _ _ (lj_end hz hL hC (cg_thr hC (by omega) (by omega)) ha hb hR1 (by omega) (z := 0) (Or.inr rfl) hF2 hA2)
set_option maxRecDepth 20000 in
set_option maxHeartbeats 4000000 in
theorem law_rest {n : Nat} {G : Gp} {ln : Int} {scr : Int → Int} {k23 : Nat → Nat → Nat → Int → Shp → Fl → Il → Prop} {x1 x2 x3 : Nat} {x4 : Int} {S : Shp} {F : Fl} {I : Il} {Q : Int → Shp → Fl → Il → Prop} (hI : LJ (n + 1) G x1 x2 x3 S F I) (hs : ∀ z, rg (scr z)) (h4 : 0 ≤ x4) (h5 : x4 + 4 < ln) (h6 : ln ≤ 2560) (hk : ∀ (S' : Shp) (F' : Fl) (I' : Il), LJ n G x1 x2 x3 S' F' I' → k23 x1 x2 x3 (w32 (x4 + 5)) S' F' I') : V_L_law_827 G ln scr k23 x1 x2 x3 x4 S F I Q := by
  obtain ⟨Y, it, LN, rfl, rfl, rfl, hz, hL, hC, ha, hb, hR, hp⟩ := hI
  unfold V_L_law_827
  have e1 : w32 (x4 + 1) = x4 + 1 := w32_id (by unfold rg; omega)
  try rw [e1]
  refine ⟨by omega, by omega, ?_⟩
  unfold V_L_rest
  refine ⟨Cg.k hC rfl (by decide), ?_⟩
  obtain ⟨ans, A', hm, hpz, hW⟩ := sim_rest (a0 := scr (x4 + 1)) hR (by omega) (hs _)
  refine T_X8_rest (F0 := F) (I0 := I) hC Fc.rf (fun z F1 hF1 h => ?_) (fun X9 F1 I1 hF1 h => ?_) hW
  · obtain ⟨h0, rfl, hR1⟩ := h
    refine ⟨(hL.out hC).1, by decide, (hL.out hC).2, ?_⟩
    have hM1 : Ms (ym Y 0) (ym Y) S := hL.ms hC
    refine ⟨by omega, by omega, hM1.1, ?_⟩
    have eA : mA (ym Y) (ym Y 0) F1 (ui I (yo Y) 0 z) = mA (ym Y) (ym Y 0) F I := (mA_out hL).trans (mA_fc (Y := Y) hF1)
    refine T_X9_rest (F0 := F1) (I0 := (ui I (yo Y) 0 z)) hM1 Fr.rf (fun z2 F2 I2 hF2 h => ?_) (by rw [eA]; exact hm (fun b A2 => b = z ∧ A2 = A') ⟨rfl, rfl⟩)
    obtain ⟨rfl, hA2⟩ := h
    have ht : F2 1000 (ym Y 0) = 0 := by
      have := congrFun (congrFun hA2 0) 0
      exact this.trans h0
    refine ⟨hM1.1, ?_⟩
    refine ⟨fun _ => ⟨fun c9 => absurd rfl c9, fun _ => ⟨(hL.out hC).1, by decide, (hL.out hC).2, fun _ => ?_, fun c9 => absurd ?_ c9⟩⟩, fun c9 => absurd ht c9⟩
    · exact hk _ _ _ (lj_end hz hL hC (cg_dn0 hC (by omega) (by omega)) ha hb hR1 (by omega) (Or.inl rfl) hF2 hA2)
    · rw [hF2.2 (yo Y) (fun k hk9 => ((hL.ne.1 k hk9).1).symm), show ui _ (yo Y) 0 _ (yo Y) 0 = _ from ui_s, icmp_eq]
  · obtain ⟨hx9, hR1⟩ := h
    rcases hx9 with ⟨rfl, h0⟩ | ⟨rfl, h0⟩
    · refine Or.inl ⟨rfl, ?_⟩
      have hM1 : Ms (ym Y 0) (ym Y) (thr S) := Lm.ms (Y := dn Y) hL (cg_thr hC (by omega) (by omega))
      refine ⟨by omega, by omega, hM1.1, ?_⟩
      have eA : mA (ym Y) (ym Y 0) F1 I1 = mA (ym Y) (ym Y 0) F I := mA_fc (Y := Y) hF1
      refine T_X9_rest (F0 := F1) (I0 := I1) hM1 Fr.rf (fun z2 F2 I2 hF2 h => ?_) (by rw [eA]; exact hm (fun b A2 => b = ans ∧ A2 = A') ⟨rfl, rfl⟩)
      obtain ⟨rfl, hA2⟩ := h
      have ht : F2 1000 (ym Y 0) = 1 := by
        have := congrFun (congrFun hA2 0) 0
        exact this.trans h0
      refine ⟨hM1.1, ?_⟩
      refine ⟨fun _ => ⟨fun _ => ?_, fun c9 => absurd c9 (by decide)⟩, fun c9 => absurd ht c9⟩
      exact hk _ _ _ (lj_end hz hL hC (cg_thr hC (by omega) (by omega)) ha hb hR1 (by omega) (z := 0) (Or.inr rfl) hF2 hA2)
    · refine Or.inr (⟨rfl, ?_⟩)
      have hM1 : Ms (ym Y 0) (ym Y) (thr S) := Lm.ms (Y := dn Y) hL (cg_thr hC (by omega) (by omega))
      refine ⟨by omega, by omega, hM1.1, ?_⟩
      have eA : mA (ym Y) (ym Y 0) F1 I1 = mA (ym Y) (ym Y 0) F I := mA_fc (Y := Y) hF1
      refine T_X9_rest (F0 := F1) (I0 := I1) hM1 Fr.rf (fun z2 F2 I2 hF2 h => ?_) (by rw [eA]; exact hm (fun b A2 => b = ans ∧ A2 = A') ⟨rfl, rfl⟩)
      obtain ⟨rfl, hA2⟩ := h
      have ht : F2 1000 (ym Y 0) = 2 := by
        have := congrFun (congrFun hA2 0) 0
        exact this.trans h0
      refine ⟨hM1.1, ?_⟩
      refine ⟨fun _ => ⟨fun _ => ?_, fun c9 => absurd c9 (by decide)⟩, fun c9 => absurd ht c9⟩
      exact hk _ _ _ (lj_end hz hL hC (cg_thr hC (by omega) (by omega)) ha hb hR1 (by omega) (z := 0) (Or.inr rfl) hF2 hA2)
set_option maxRecDepth 20000 in
set_option maxHeartbeats 4000000 in
theorem law_borrow {n : Nat} {G : Gp} {ln : Int} {scr : Int → Int} {k23 : Nat → Nat → Nat → Int → Shp → Fl → Il → Prop} {x1 x2 x3 : Nat} {x4 : Int} {S : Shp} {F : Fl} {I : Il} {Q : Int → Shp → Fl → Il → Prop} (hI : LJ (n + 1) G x1 x2 x3 S F I) (hs : ∀ z, rg (scr z)) (h4 : 0 ≤ x4) (h5 : x4 + 4 < ln) (h6 : ln ≤ 2560) (hk : ∀ (S' : Shp) (F' : Fl) (I' : Il), LJ n G x1 x2 x3 S' F' I' → k23 x1 x2 x3 (w32 (x4 + 5)) S' F' I') : V_L_law_939 G ln scr k23 x1 x2 x3 x4 S F I Q := by
  obtain ⟨Y, it, LN, rfl, rfl, rfl, hz, hL, hC, ha, hb, hR, hp⟩ := hI
  unfold V_L_law_939
  have e1 : w32 (x4 + 1) = x4 + 1 := w32_id (by unfold rg; omega)
  try rw [e1]
  refine ⟨by omega, by omega, ?_⟩
  unfold V_L_borrow
  refine ⟨Cg.k hC rfl (by decide), ?_⟩
  obtain ⟨ans, A', hm, hpz, hW⟩ := sim_borrow (a0 := scr (x4 + 1)) hR (by omega) (hs _)
  refine T_X8_borrow (F0 := F) (I0 := I) hC Fc.rf (fun z F1 hF1 h => ?_) (fun X9 F1 I1 hF1 h => ?_) hW
  · obtain ⟨h0, rfl, hR1⟩ := h
    refine ⟨(hL.out hC).1, by decide, (hL.out hC).2, ?_⟩
    have hM1 : Ms (ym Y 0) (ym Y) S := hL.ms hC
    refine ⟨by omega, by omega, hM1.1, ?_⟩
    have eA : mA (ym Y) (ym Y 0) F1 (ui I (yo Y) 0 z) = mA (ym Y) (ym Y 0) F I := (mA_out hL).trans (mA_fc (Y := Y) hF1)
    refine T_X9_borrow (F0 := F1) (I0 := (ui I (yo Y) 0 z)) hM1 Fr.rf (fun z2 F2 hF2 h => ?_) (by rw [eA]; exact hm (fun b A2 => b = z ∧ A2 = A') ⟨rfl, rfl⟩)
    obtain ⟨rfl, hA2⟩ := h
    have ht : F2 1000 (ym Y 0) = 0 := by
      have := congrFun (congrFun hA2 0) 0
      exact this.trans h0
    refine ⟨hM1.1, ?_⟩
    refine ⟨fun _ => ⟨fun c9 => absurd rfl c9, fun _ => ⟨(hL.out hC).1, by decide, (hL.out hC).2, fun _ => ?_, fun c9 => absurd ?_ c9⟩⟩, fun c9 => absurd ht c9⟩
    · exact hk _ _ _ (lj_end hz hL hC (cg_dn0 hC (by omega) (by omega)) ha hb hR1 (by omega) (Or.inl rfl) hF2 hA2)
    · rw [show ui _ (yo Y) 0 _ (yo Y) 0 = _ from ui_s, icmp_eq]
  · obtain ⟨hx9, hR1⟩ := h
    rcases hx9 with ⟨rfl, h0⟩ | ⟨rfl, h0⟩
    · refine Or.inl ⟨rfl, ?_⟩
      have hM1 : Ms (ym Y 0) (ym Y) (thr S) := Lm.ms (Y := dn Y) hL (cg_thr hC (by omega) (by omega))
      refine ⟨by omega, by omega, hM1.1, ?_⟩
      have eA : mA (ym Y) (ym Y 0) F1 I1 = mA (ym Y) (ym Y 0) F I := mA_fc (Y := Y) hF1
      refine T_X9_borrow (F0 := F1) (I0 := I1) hM1 Fr.rf (fun z2 F2 hF2 h => ?_) (by rw [eA]; exact hm (fun b A2 => b = ans ∧ A2 = A') ⟨rfl, rfl⟩)
      obtain ⟨rfl, hA2⟩ := h
      have ht : F2 1000 (ym Y 0) = 1 := by
        have := congrFun (congrFun hA2 0) 0
        exact this.trans h0
      refine ⟨hM1.1, ?_⟩
      refine ⟨fun _ => ⟨fun _ => ?_, fun c9 => absurd c9 (by decide)⟩, fun c9 => absurd ht c9⟩
      exact hk _ _ _ (lj_end hz hL hC (cg_thr hC (by omega) (by omega)) ha hb hR1 (by omega) (z := 0) (Or.inr rfl) hF2 hA2)
    · refine Or.inr (⟨rfl, ?_⟩)
      have hM1 : Ms (ym Y 0) (ym Y) (thr S) := Lm.ms (Y := dn Y) hL (cg_thr hC (by omega) (by omega))
      refine ⟨by omega, by omega, hM1.1, ?_⟩
      have eA : mA (ym Y) (ym Y 0) F1 I1 = mA (ym Y) (ym Y 0) F I := mA_fc (Y := Y) hF1
      refine T_X9_borrow (F0 := F1) (I0 := I1) hM1 Fr.rf (fun z2 F2 hF2 h => ?_) (by rw [eA]; exact hm (fun b A2 => b = ans ∧ A2 = A') ⟨rfl, rfl⟩)
      obtain ⟨rfl, hA2⟩ := h
      have ht : F2 1000 (ym Y 0) = 2 := by
        have := congrFun (congrFun hA2 0) 0
        exact this.trans h0
      refine ⟨hM1.1, ?_⟩
      refine ⟨fun _ => ⟨fun _ => ?_, fun c9 => absurd c9 (by decide)⟩, fun c9 => absurd ht c9⟩
      exact hk _ _ _ (lj_end hz hL hC (cg_thr hC (by omega) (by omega)) ha hb hR1 (by omega) (z := 0) (Or.inr rfl) hF2 hA2)
set_option maxRecDepth 20000 in
set_option maxHeartbeats 4000000 in
theorem law_repay {n : Nat} {G : Gp} {ln : Int} {scr : Int → Int} {k23 : Nat → Nat → Nat → Int → Shp → Fl → Il → Prop} {x1 x2 x3 : Nat} {x4 : Int} {S : Shp} {F : Fl} {I : Il} {Q : Int → Shp → Fl → Il → Prop} (hI : LJ (n + 1) G x1 x2 x3 S F I) (hs : ∀ z, rg (scr z)) (h4 : 0 ≤ x4) (h5 : x4 + 4 < ln) (h6 : ln ≤ 2560) (hk : ∀ (S' : Shp) (F' : Fl) (I' : Il), LJ n G x1 x2 x3 S' F' I' → k23 x1 x2 x3 (w32 (x4 + 5)) S' F' I') : V_L_law_995 G ln scr k23 x1 x2 x3 x4 S F I Q := by
  obtain ⟨Y, it, LN, rfl, rfl, rfl, hz, hL, hC, ha, hb, hR, hp⟩ := hI
  unfold V_L_law_995
  have e1 : w32 (x4 + 1) = x4 + 1 := w32_id (by unfold rg; omega)
  try rw [e1]
  refine ⟨by omega, by omega, ?_⟩
  unfold V_L_repay
  refine ⟨Cg.k hC rfl (by decide), ?_⟩
  obtain ⟨ans, A', hm, hpz, hW⟩ := sim_repay (a0 := scr (x4 + 1)) hR (by omega) (hs _)
  refine T_X8_repay (F0 := F) (I0 := I) hC Fc.rf (fun z F1 hF1 h => ?_) (fun X9 F1 I1 hF1 h => ?_) hW
  · obtain ⟨h0, rfl, hR1⟩ := h
    refine ⟨(hL.out hC).1, by decide, (hL.out hC).2, ?_⟩
    have hM1 : Ms (ym Y 0) (ym Y) S := hL.ms hC
    refine ⟨by omega, by omega, hM1.1, ?_⟩
    have eA : mA (ym Y) (ym Y 0) F1 (ui I (yo Y) 0 z) = mA (ym Y) (ym Y 0) F I := (mA_out hL).trans (mA_fc (Y := Y) hF1)
    refine T_X9_repay (F0 := F1) (I0 := (ui I (yo Y) 0 z)) hM1 Fr.rf (fun z2 F2 hF2 h => ?_) (by rw [eA]; exact hm (fun b A2 => b = z ∧ A2 = A') ⟨rfl, rfl⟩)
    obtain ⟨rfl, hA2⟩ := h
    have ht : F2 1000 (ym Y 0) = 0 := by
      have := congrFun (congrFun hA2 0) 0
      exact this.trans h0
    refine ⟨hM1.1, ?_⟩
    refine ⟨fun _ => ⟨fun c9 => absurd rfl c9, fun _ => ⟨(hL.out hC).1, by decide, (hL.out hC).2, fun _ => ?_, fun c9 => absurd ?_ c9⟩⟩, fun c9 => absurd ht c9⟩
    · exact hk _ _ _ (lj_end hz hL hC (cg_dn0 hC (by omega) (by omega)) ha hb hR1 (by omega) (Or.inl rfl) hF2 hA2)
    · rw [show ui _ (yo Y) 0 _ (yo Y) 0 = _ from ui_s, icmp_eq]
  · obtain ⟨hx9, hR1⟩ := h
    rcases hx9 with ⟨rfl, h0⟩ | ⟨rfl, h0⟩
    · refine Or.inl ⟨rfl, ?_⟩
      have hM1 : Ms (ym Y 0) (ym Y) (thr S) := Lm.ms (Y := dn Y) hL (cg_thr hC (by omega) (by omega))
      refine ⟨by omega, by omega, hM1.1, ?_⟩
      have eA : mA (ym Y) (ym Y 0) F1 I1 = mA (ym Y) (ym Y 0) F I := mA_fc (Y := Y) hF1
      refine T_X9_repay (F0 := F1) (I0 := I1) hM1 Fr.rf (fun z2 F2 hF2 h => ?_) (by rw [eA]; exact hm (fun b A2 => b = ans ∧ A2 = A') ⟨rfl, rfl⟩)
      obtain ⟨rfl, hA2⟩ := h
      have ht : F2 1000 (ym Y 0) = 1 := by
        have := congrFun (congrFun hA2 0) 0
        exact this.trans h0
      refine ⟨hM1.1, ?_⟩
      refine ⟨fun _ => ⟨fun _ => ?_, fun c9 => absurd c9 (by decide)⟩, fun c9 => absurd ht c9⟩
      exact hk _ _ _ (lj_end hz hL hC (cg_thr hC (by omega) (by omega)) ha hb hR1 (by omega) (z := 0) (Or.inr rfl) hF2 hA2)
    · refine Or.inr (⟨rfl, ?_⟩)
      have hM1 : Ms (ym Y 0) (ym Y) (thr S) := Lm.ms (Y := dn Y) hL (cg_thr hC (by omega) (by omega))
      refine ⟨by omega, by omega, hM1.1, ?_⟩
      have eA : mA (ym Y) (ym Y 0) F1 I1 = mA (ym Y) (ym Y 0) F I := mA_fc (Y := Y) hF1
      refine T_X9_repay (F0 := F1) (I0 := I1) hM1 Fr.rf (fun z2 F2 hF2 h => ?_) (by rw [eA]; exact hm (fun b A2 => b = ans ∧ A2 = A') ⟨rfl, rfl⟩)
      obtain ⟨rfl, hA2⟩ := h
      have ht : F2 1000 (ym Y 0) = 2 := by
        have := congrFun (congrFun hA2 0) 0
        exact this.trans h0
      refine ⟨hM1.1, ?_⟩
      refine ⟨fun _ => ⟨fun _ => ?_, fun c9 => absurd c9 (by decide)⟩, fun c9 => absurd ht c9⟩
      exact hk _ _ _ (lj_end hz hL hC (cg_thr hC (by omega) (by omega)) ha hb hR1 (by omega) (z := 0) (Or.inr rfl) hF2 hA2)
set_option maxRecDepth 20000 in
set_option maxHeartbeats 4000000 in
theorem law_form {n : Nat} {G : Gp} {ln : Int} {scr : Int → Int} {k23 : Nat → Nat → Nat → Int → Shp → Fl → Il → Prop} {x1 x2 x3 : Nat} {x4 : Int} {S : Shp} {F : Fl} {I : Il} {Q : Int → Shp → Fl → Il → Prop} (hI : LJ (n + 1) G x1 x2 x3 S F I) (hs : ∀ z, rg (scr z)) (h4 : 0 ≤ x4) (h5 : x4 + 4 < ln) (h6 : ln ≤ 2560) (hk : ∀ (S' : Shp) (F' : Fl) (I' : Il), LJ n G x1 x2 x3 S' F' I' → k23 x1 x2 x3 (w32 (x4 + 5)) S' F' I') : V_L_law_1051 G ln scr k23 x1 x2 x3 x4 S F I Q := by
  obtain ⟨Y, it, LN, rfl, rfl, rfl, hz, hL, hC, ha, hb, hR, hp⟩ := hI
  unfold V_L_law_1051
  have e1 : w32 (x4 + 1) = x4 + 1 := w32_id (by unfold rg; omega)
  have e2 : w32 (x4 + 2) = x4 + 2 := w32_id (by unfold rg; omega)
  try rw [e1]
  try rw [e2]
  refine ⟨by omega, by omega, by omega, by omega, ?_⟩
  unfold V_L_form
  refine ⟨Cg.k hC rfl (by decide), ?_⟩
  obtain ⟨ans, A', hm, hpz, hW⟩ := sim_form (a0 := scr (x4 + 1)) (a1 := scr (x4 + 2)) hR (by omega) (hs _) (hs _)
  refine T_X8_form (F0 := F) (I0 := I) hC Fc.rf (fun z F1 I1 hF1 h => ?_) (fun X9 F1 I1 hF1 h => ?_) hW
  · obtain ⟨h0, rfl, hR1⟩ := h
    refine ⟨(hL.out hC).1, by decide, (hL.out hC).2, ?_⟩
    have hM1 : Ms (ym Y 0) (ym Y) S := hL.ms hC
    refine ⟨by omega, by omega, by omega, by omega, hM1.1, ?_⟩
    have eA : mA (ym Y) (ym Y 0) F1 (ui I1 (yo Y) 0 z) = mA (ym Y) (ym Y 0) F I := (mA_out hL).trans (mA_fc (Y := Y) hF1)
    refine T_X9_form (F0 := F1) (I0 := (ui I1 (yo Y) 0 z)) hM1 Fr.rf (fun z2 F2 I2 hF2 h => ?_) (by rw [eA]; exact hm (fun b A2 => b = z ∧ A2 = A') ⟨rfl, rfl⟩)
    obtain ⟨rfl, hA2⟩ := h
    have ht : F2 1000 (ym Y 0) = 0 := by
      have := congrFun (congrFun hA2 0) 0
      exact this.trans h0
    refine ⟨hM1.1, ?_⟩
    refine ⟨fun _ => ⟨fun c9 => absurd rfl c9, fun _ => ⟨(hL.out hC).1, by decide, (hL.out hC).2, fun _ => ?_, fun c9 => absurd ?_ c9⟩⟩, fun c9 => absurd ht c9⟩
    · exact hk _ _ _ (lj_end hz hL hC (cg_dn0 hC (by omega) (by omega)) ha hb hR1 (by omega) (Or.inl rfl) hF2 hA2)
    · rw [hF2.2 (yo Y) (fun k hk9 => ((hL.ne.1 k hk9).1).symm), show ui _ (yo Y) 0 _ (yo Y) 0 = _ from ui_s, icmp_eq]
  · obtain ⟨hx9, hR1⟩ := h
    rcases hx9 with ⟨rfl, h0⟩ | ⟨rfl, h0⟩
    · refine Or.inl ⟨rfl, ?_⟩
      have hM1 : Ms (ym Y 0) (ym Y) (thr S) := Lm.ms (Y := dn Y) hL (cg_thr hC (by omega) (by omega))
      refine ⟨by omega, by omega, by omega, by omega, hM1.1, ?_⟩
      have eA : mA (ym Y) (ym Y 0) F1 I1 = mA (ym Y) (ym Y 0) F I := mA_fc (Y := Y) hF1
      refine T_X9_form (F0 := F1) (I0 := I1) hM1 Fr.rf (fun z2 F2 I2 hF2 h => ?_) (by rw [eA]; exact hm (fun b A2 => b = ans ∧ A2 = A') ⟨rfl, rfl⟩)
      obtain ⟨rfl, hA2⟩ := h
      have ht : F2 1000 (ym Y 0) = 1 := by
        have := congrFun (congrFun hA2 0) 0
        exact this.trans h0
      refine ⟨hM1.1, ?_⟩
      refine ⟨fun _ => ⟨fun _ => ?_, fun c9 => absurd c9 (by decide)⟩, fun c9 => absurd ht c9⟩
      exact hk _ _ _ (lj_end hz hL hC (cg_thr hC (by omega) (by omega)) ha hb hR1 (by omega) (z := 0) (Or.inr rfl) hF2 hA2)
    · refine Or.inr (⟨rfl, ?_⟩)
      have hM1 : Ms (ym Y 0) (ym Y) (thr S) := Lm.ms (Y := dn Y) hL (cg_thr hC (by omega) (by omega))
      refine ⟨by omega, by omega, by omega, by omega, hM1.1, ?_⟩
      have eA : mA (ym Y) (ym Y 0) F1 I1 = mA (ym Y) (ym Y 0) F I := mA_fc (Y := Y) hF1
      refine T_X9_form (F0 := F1) (I0 := I1) hM1 Fr.rf (fun z2 F2 I2 hF2 h => ?_) (by rw [eA]; exact hm (fun b A2 => b = ans ∧ A2 = A') ⟨rfl, rfl⟩)
      obtain ⟨rfl, hA2⟩ := h
      have ht : F2 1000 (ym Y 0) = 2 := by
        have := congrFun (congrFun hA2 0) 0
        exact this.trans h0
      refine ⟨hM1.1, ?_⟩
      refine ⟨fun _ => ⟨fun _ => ?_, fun c9 => absurd c9 (by decide)⟩, fun c9 => absurd ht c9⟩
      exact hk _ _ _ (lj_end hz hL hC (cg_thr hC (by omega) (by omega)) ha hb hR1 (by omega) (z := 0) (Or.inr rfl) hF2 hA2)
set_option maxRecDepth 20000 in
set_option maxHeartbeats 4000000 in
theorem law_dissolve {n : Nat} {G : Gp} {ln : Int} {scr : Int → Int} {k23 : Nat → Nat → Nat → Int → Shp → Fl → Il → Prop} {x1 x2 x3 : Nat} {x4 : Int} {S : Shp} {F : Fl} {I : Il} {Q : Int → Shp → Fl → Il → Prop} (hI : LJ (n + 1) G x1 x2 x3 S F I) (hs : ∀ z, rg (scr z)) (h4 : 0 ≤ x4) (h5 : x4 + 4 < ln) (h6 : ln ≤ 2560) (hk : ∀ (S' : Shp) (F' : Fl) (I' : Il), LJ n G x1 x2 x3 S' F' I' → k23 x1 x2 x3 (w32 (x4 + 5)) S' F' I') : V_L_law_1119 G ln scr k23 x1 x2 x3 x4 S F I Q := by
  obtain ⟨Y, it, LN, rfl, rfl, rfl, hz, hL, hC, ha, hb, hR, hp⟩ := hI
  unfold V_L_law_1119
  have e1 : w32 (x4 + 1) = x4 + 1 := w32_id (by unfold rg; omega)
  try rw [e1]
  refine ⟨by omega, by omega, ?_⟩
  unfold V_L_dissolve
  refine ⟨Cg.k hC rfl (by decide), ?_⟩
  obtain ⟨ans, A', hm, hpz, hW⟩ := sim_dissolve (a0 := scr (x4 + 1)) hR (by omega) (hs _)
  refine T_X8_dissolve (F0 := F) (I0 := I) hC Fc.rf (fun z F1 hF1 h => ?_) (fun X9 F1 I1 hF1 h => ?_) hW
  · obtain ⟨h0, rfl, hR1⟩ := h
    refine ⟨(hL.out hC).1, by decide, (hL.out hC).2, ?_⟩
    have hM1 : Ms (ym Y 0) (ym Y) S := hL.ms hC
    refine ⟨by omega, by omega, hM1.1, ?_⟩
    have eA : mA (ym Y) (ym Y 0) F1 (ui I (yo Y) 0 z) = mA (ym Y) (ym Y 0) F I := (mA_out hL).trans (mA_fc (Y := Y) hF1)
    refine T_X9_dissolve (F0 := F1) (I0 := (ui I (yo Y) 0 z)) hM1 Fr.rf (fun z2 F2 I2 hF2 h => ?_) (by rw [eA]; exact hm (fun b A2 => b = z ∧ A2 = A') ⟨rfl, rfl⟩)
    obtain ⟨rfl, hA2⟩ := h
    have ht : F2 1000 (ym Y 0) = 0 := by
      have := congrFun (congrFun hA2 0) 0
      exact this.trans h0
    refine ⟨hM1.1, ?_⟩
    refine ⟨fun _ => ⟨fun c9 => absurd rfl c9, fun _ => ⟨(hL.out hC).1, by decide, (hL.out hC).2, fun _ => ?_, fun c9 => absurd ?_ c9⟩⟩, fun c9 => absurd ht c9⟩
    · exact hk _ _ _ (lj_end hz hL hC (cg_dn0 hC (by omega) (by omega)) ha hb hR1 (by omega) (Or.inl rfl) hF2 hA2)
    · rw [hF2.2 (yo Y) (fun k hk9 => ((hL.ne.1 k hk9).1).symm), show ui _ (yo Y) 0 _ (yo Y) 0 = _ from ui_s, icmp_eq]
  · obtain ⟨hx9, hR1⟩ := h
    rcases hx9 with ⟨rfl, h0⟩ | ⟨rfl, h0⟩
    · refine Or.inl ⟨rfl, ?_⟩
      have hM1 : Ms (ym Y 0) (ym Y) (thr S) := Lm.ms (Y := dn Y) hL (cg_thr hC (by omega) (by omega))
      refine ⟨by omega, by omega, hM1.1, ?_⟩
      have eA : mA (ym Y) (ym Y 0) F1 I1 = mA (ym Y) (ym Y 0) F I := mA_fc (Y := Y) hF1
      refine T_X9_dissolve (F0 := F1) (I0 := I1) hM1 Fr.rf (fun z2 F2 I2 hF2 h => ?_) (by rw [eA]; exact hm (fun b A2 => b = ans ∧ A2 = A') ⟨rfl, rfl⟩)
      obtain ⟨rfl, hA2⟩ := h
      have ht : F2 1000 (ym Y 0) = 1 := by
        have := congrFun (congrFun hA2 0) 0
        exact this.trans h0
      refine ⟨hM1.1, ?_⟩
      refine ⟨fun _ => ⟨fun _ => ?_, fun c9 => absurd c9 (by decide)⟩, fun c9 => absurd ht c9⟩
      exact hk _ _ _ (lj_end hz hL hC (cg_thr hC (by omega) (by omega)) ha hb hR1 (by omega) (z := 0) (Or.inr rfl) hF2 hA2)
    · refine Or.inr (⟨rfl, ?_⟩)
      have hM1 : Ms (ym Y 0) (ym Y) (thr S) := Lm.ms (Y := dn Y) hL (cg_thr hC (by omega) (by omega))
      refine ⟨by omega, by omega, hM1.1, ?_⟩
      have eA : mA (ym Y) (ym Y 0) F1 I1 = mA (ym Y) (ym Y 0) F I := mA_fc (Y := Y) hF1
      refine T_X9_dissolve (F0 := F1) (I0 := I1) hM1 Fr.rf (fun z2 F2 I2 hF2 h => ?_) (by rw [eA]; exact hm (fun b A2 => b = ans ∧ A2 = A') ⟨rfl, rfl⟩)
      obtain ⟨rfl, hA2⟩ := h
      have ht : F2 1000 (ym Y 0) = 2 := by
        have := congrFun (congrFun hA2 0) 0
        exact this.trans h0
      refine ⟨hM1.1, ?_⟩
      refine ⟨fun _ => ⟨fun _ => ?_, fun c9 => absurd c9 (by decide)⟩, fun c9 => absurd ht c9⟩
      exact hk _ _ _ (lj_end hz hL hC (cg_thr hC (by omega) (by omega)) ha hb hR1 (by omega) (z := 0) (Or.inr rfl) hF2 hA2)
set_option maxRecDepth 20000 in
set_option maxHeartbeats 4000000 in
theorem law_couple {n : Nat} {G : Gp} {ln : Int} {scr : Int → Int} {k23 : Nat → Nat → Nat → Int → Shp → Fl → Il → Prop} {x1 x2 x3 : Nat} {x4 : Int} {S : Shp} {F : Fl} {I : Il} {Q : Int → Shp → Fl → Il → Prop} (hI : LJ (n + 1) G x1 x2 x3 S F I) (hs : ∀ z, rg (scr z)) (h4 : 0 ≤ x4) (h5 : x4 + 4 < ln) (h6 : ln ≤ 2560) (hk : ∀ (S' : Shp) (F' : Fl) (I' : Il), LJ n G x1 x2 x3 S' F' I' → k23 x1 x2 x3 (w32 (x4 + 5)) S' F' I') : V_L_law_1175 G ln scr k23 x1 x2 x3 x4 S F I Q := by
  obtain ⟨Y, it, LN, rfl, rfl, rfl, hz, hL, hC, ha, hb, hR, hp⟩ := hI
  unfold V_L_law_1175
  have e1 : w32 (x4 + 1) = x4 + 1 := w32_id (by unfold rg; omega)
  have e2 : w32 (x4 + 2) = x4 + 2 := w32_id (by unfold rg; omega)
  try rw [e1]
  try rw [e2]
  refine ⟨by omega, by omega, by omega, by omega, ?_⟩
  unfold V_L_couple
  refine ⟨Cg.k hC rfl (by decide), ?_⟩
  obtain ⟨ans, A', hm, hpz, hW⟩ := sim_couple (a0 := scr (x4 + 1)) (a1 := scr (x4 + 2)) hR (by omega) (hs _) (hs _)
  refine T_X8_couple (F0 := F) (I0 := I) hC Fc.rf (fun z it1 LN1 S1 F1 I1 hC1 hF1 h => ?_) (fun X9 it1 LN1 S1 F1 I1 hC1 hF1 h => ?_) hW
  · obtain ⟨h0, rfl, hR1⟩ := h
    refine ⟨(hL.out hC1).1, by decide, (hL.out hC1).2, ?_⟩
    have hM1 : Ms (ym Y 0) (ym Y) S1 := hL.ms hC1
    refine ⟨by omega, by omega, by omega, by omega, hM1.1, ?_⟩
    have eA : mA (ym Y) (ym Y 0) F1 (ui I1 (yo Y) 0 z) = mA (ym Y) (ym Y 0) F I := (mA_out hL).trans (mA_fc (Y := Y) hF1)
    refine T_X9_couple (F0 := F1) (I0 := (ui I1 (yo Y) 0 z)) hM1 Fr.rf (fun z2 F2 I2 hF2 h => ?_) (by rw [eA]; exact hm (fun b A2 => b = z ∧ A2 = A') ⟨rfl, rfl⟩)
    obtain ⟨rfl, hA2⟩ := h
    have ht : F2 1000 (ym Y 0) = 0 := by
      have := congrFun (congrFun hA2 0) 0
      exact this.trans h0
    refine ⟨hM1.1, ?_⟩
    refine ⟨fun _ => ⟨fun c9 => absurd rfl c9, fun _ => ⟨(hL.out hC1).1, by decide, (hL.out hC1).2, fun _ => ?_, fun c9 => absurd ?_ c9⟩⟩, fun c9 => absurd ht c9⟩
    · exact hk _ _ _ (lj_end hz hL hC1 (cg_dn0 hC1 (by omega) (by omega)) ha hb hR1 (by omega) (Or.inl rfl) hF2 hA2)
    · rw [hF2.2 (yo Y) (fun k hk9 => ((hL.ne.1 k hk9).1).symm), show ui _ (yo Y) 0 _ (yo Y) 0 = _ from ui_s, icmp_eq]
  · obtain ⟨hx9, hR1⟩ := h
    rcases hx9 with ⟨rfl, h0⟩ | ⟨rfl, h0⟩
    · refine Or.inl ⟨rfl, ?_⟩
      have hM1 : Ms (ym Y 0) (ym Y) (thr S1) := Lm.ms (Y := dn Y) hL (cg_thr hC1 (by omega) (by omega))
      refine ⟨by omega, by omega, by omega, by omega, hM1.1, ?_⟩
      have eA : mA (ym Y) (ym Y 0) F1 I1 = mA (ym Y) (ym Y 0) F I := mA_fc (Y := Y) hF1
      refine T_X9_couple (F0 := F1) (I0 := I1) hM1 Fr.rf (fun z2 F2 I2 hF2 h => ?_) (by rw [eA]; exact hm (fun b A2 => b = ans ∧ A2 = A') ⟨rfl, rfl⟩)
      obtain ⟨rfl, hA2⟩ := h
      have ht : F2 1000 (ym Y 0) = 1 := by
        have := congrFun (congrFun hA2 0) 0
        exact this.trans h0
      refine ⟨hM1.1, ?_⟩
      refine ⟨fun _ => ⟨fun _ => ?_, fun c9 => absurd c9 (by decide)⟩, fun c9 => absurd ht c9⟩
      exact hk _ _ _ (lj_end hz hL hC1 (cg_thr hC1 (by omega) (by omega)) ha hb hR1 (by omega) (z := 0) (Or.inr rfl) hF2 hA2)
    · refine Or.inr (⟨rfl, ?_⟩)
      have hM1 : Ms (ym Y 0) (ym Y) (thr S1) := Lm.ms (Y := dn Y) hL (cg_thr hC1 (by omega) (by omega))
      refine ⟨by omega, by omega, by omega, by omega, hM1.1, ?_⟩
      have eA : mA (ym Y) (ym Y 0) F1 I1 = mA (ym Y) (ym Y 0) F I := mA_fc (Y := Y) hF1
      refine T_X9_couple (F0 := F1) (I0 := I1) hM1 Fr.rf (fun z2 F2 I2 hF2 h => ?_) (by rw [eA]; exact hm (fun b A2 => b = ans ∧ A2 = A') ⟨rfl, rfl⟩)
      obtain ⟨rfl, hA2⟩ := h
      have ht : F2 1000 (ym Y 0) = 2 := by
        have := congrFun (congrFun hA2 0) 0
        exact this.trans h0
      refine ⟨hM1.1, ?_⟩
      refine ⟨fun _ => ⟨fun _ => ?_, fun c9 => absurd c9 (by decide)⟩, fun c9 => absurd ht c9⟩
      exact hk _ _ _ (lj_end hz hL hC1 (cg_thr hC1 (by omega) (by omega)) ha hb hR1 (by omega) (z := 0) (Or.inr rfl) hF2 hA2)
set_option maxRecDepth 20000 in
set_option maxHeartbeats 4000000 in
theorem law_uncouple {n : Nat} {G : Gp} {ln : Int} {scr : Int → Int} {k23 : Nat → Nat → Nat → Int → Shp → Fl → Il → Prop} {x1 x2 x3 : Nat} {x4 : Int} {S : Shp} {F : Fl} {I : Il} {Q : Int → Shp → Fl → Il → Prop} (hI : LJ (n + 1) G x1 x2 x3 S F I) (hs : ∀ z, rg (scr z)) (h4 : 0 ≤ x4) (h5 : x4 + 4 < ln) (h6 : ln ≤ 2560) (hk : ∀ (S' : Shp) (F' : Fl) (I' : Il), LJ n G x1 x2 x3 S' F' I' → k23 x1 x2 x3 (w32 (x4 + 5)) S' F' I') : V_L_law_1243 G ln scr k23 x1 x2 x3 x4 S F I Q := by
  obtain ⟨Y, it, LN, rfl, rfl, rfl, hz, hL, hC, ha, hb, hR, hp⟩ := hI
  unfold V_L_law_1243
  have e1 : w32 (x4 + 1) = x4 + 1 := w32_id (by unfold rg; omega)
  have e2 : w32 (x4 + 2) = x4 + 2 := w32_id (by unfold rg; omega)
  try rw [e1]
  try rw [e2]
  refine ⟨by omega, by omega, by omega, by omega, ?_⟩
  unfold V_L_uncouple
  refine ⟨Cg.k hC rfl (by decide), ?_⟩
  obtain ⟨ans, A', hm, hpz, hW⟩ := sim_uncouple (a0 := scr (x4 + 1)) (a1 := scr (x4 + 2)) hR (by omega) (hs _) (hs _)
  refine T_X8_uncouple (F0 := F) (I0 := I) hC Fc.rf (fun z it1 LN1 S1 F1 I1 hC1 hF1 h => ?_) (fun X9 it1 LN1 S1 F1 I1 hC1 hF1 h => ?_) hW
  · obtain ⟨h0, rfl, hR1⟩ := h
    refine ⟨(hL.out hC1).1, by decide, (hL.out hC1).2, ?_⟩
    have hM1 : Ms (ym Y 0) (ym Y) S1 := hL.ms hC1
    refine ⟨by omega, by omega, by omega, by omega, hM1.1, ?_⟩
    have eA : mA (ym Y) (ym Y 0) F1 (ui I1 (yo Y) 0 z) = mA (ym Y) (ym Y 0) F I := (mA_out hL).trans (mA_fc (Y := Y) hF1)
    refine T_X9_uncouple (F0 := F1) (I0 := (ui I1 (yo Y) 0 z)) hM1 Fr.rf (fun z2 F2 I2 hF2 h => ?_) (by rw [eA]; exact hm (fun b A2 => b = z ∧ A2 = A') ⟨rfl, rfl⟩)
    obtain ⟨rfl, hA2⟩ := h
    have ht : F2 1000 (ym Y 0) = 0 := by
      have := congrFun (congrFun hA2 0) 0
      exact this.trans h0
    refine ⟨hM1.1, ?_⟩
    refine ⟨fun _ => ⟨fun c9 => absurd rfl c9, fun _ => ⟨(hL.out hC1).1, by decide, (hL.out hC1).2, fun _ => ?_, fun c9 => absurd ?_ c9⟩⟩, fun c9 => absurd ht c9⟩
    · exact hk _ _ _ (lj_end hz hL hC1 (cg_dn0 hC1 (by omega) (by omega)) ha hb hR1 (by omega) (Or.inl rfl) hF2 hA2)
    · rw [hF2.2 (yo Y) (fun k hk9 => ((hL.ne.1 k hk9).1).symm), show ui _ (yo Y) 0 _ (yo Y) 0 = _ from ui_s, icmp_eq]
  · obtain ⟨hx9, hR1⟩ := h
    rcases hx9 with ⟨rfl, h0⟩ | ⟨rfl, h0⟩
    · refine Or.inl ⟨rfl, ?_⟩
      have hM1 : Ms (ym Y 0) (ym Y) (thr S1) := Lm.ms (Y := dn Y) hL (cg_thr hC1 (by omega) (by omega))
      refine ⟨by omega, by omega, by omega, by omega, hM1.1, ?_⟩
      have eA : mA (ym Y) (ym Y 0) F1 I1 = mA (ym Y) (ym Y 0) F I := mA_fc (Y := Y) hF1
      refine T_X9_uncouple (F0 := F1) (I0 := I1) hM1 Fr.rf (fun z2 F2 I2 hF2 h => ?_) (by rw [eA]; exact hm (fun b A2 => b = ans ∧ A2 = A') ⟨rfl, rfl⟩)
      obtain ⟨rfl, hA2⟩ := h
      have ht : F2 1000 (ym Y 0) = 1 := by
        have := congrFun (congrFun hA2 0) 0
        exact this.trans h0
      refine ⟨hM1.1, ?_⟩
      refine ⟨fun _ => ⟨fun _ => ?_, fun c9 => absurd c9 (by decide)⟩, fun c9 => absurd ht c9⟩
      exact hk _ _ _ (lj_end hz hL hC1 (cg_thr hC1 (by omega) (by omega)) ha hb hR1 (by omega) (z := 0) (Or.inr rfl) hF2 hA2)
    · refine Or.inr (⟨rfl, ?_⟩)
      have hM1 : Ms (ym Y 0) (ym Y) (thr S1) := Lm.ms (Y := dn Y) hL (cg_thr hC1 (by omega) (by omega))
      refine ⟨by omega, by omega, by omega, by omega, hM1.1, ?_⟩
      have eA : mA (ym Y) (ym Y 0) F1 I1 = mA (ym Y) (ym Y 0) F I := mA_fc (Y := Y) hF1
      refine T_X9_uncouple (F0 := F1) (I0 := I1) hM1 Fr.rf (fun z2 F2 I2 hF2 h => ?_) (by rw [eA]; exact hm (fun b A2 => b = ans ∧ A2 = A') ⟨rfl, rfl⟩)
      obtain ⟨rfl, hA2⟩ := h
      have ht : F2 1000 (ym Y 0) = 2 := by
        have := congrFun (congrFun hA2 0) 0
        exact this.trans h0
      refine ⟨hM1.1, ?_⟩
      refine ⟨fun _ => ⟨fun _ => ?_, fun c9 => absurd c9 (by decide)⟩, fun c9 => absurd ht c9⟩
      exact hk _ _ _ (lj_end hz hL hC1 (cg_thr hC1 (by omega) (by omega)) ha hb hR1 (by omega) (z := 0) (Or.inr rfl) hF2 hA2)
set_option maxRecDepth 20000 in
set_option maxHeartbeats 4000000 in
theorem law_leg {n : Nat} {G : Gp} {ln : Int} {scr : Int → Int} {k23 : Nat → Nat → Nat → Int → Shp → Fl → Il → Prop} {x1 x2 x3 : Nat} {x4 : Int} {S : Shp} {F : Fl} {I : Il} {Q : Int → Shp → Fl → Il → Prop} (hI : LJ (n + 1) G x1 x2 x3 S F I) (hs : ∀ z, rg (scr z)) (h4 : 0 ≤ x4) (h5 : x4 + 4 < ln) (h6 : ln ≤ 2560) (hk : ∀ (S' : Shp) (F' : Fl) (I' : Il), LJ n G x1 x2 x3 S' F' I' → k23 x1 x2 x3 (w32 (x4 + 5)) S' F' I') : V_L_law_1311 G ln scr k23 x1 x2 x3 x4 S F I Q := by
  obtain ⟨Y, it, LN, rfl, rfl, rfl, hz, hL, hC, ha, hb, hR, hp⟩ := hI
  unfold V_L_law_1311
  have e1 : w32 (x4 + 1) = x4 + 1 := w32_id (by unfold rg; omega)
  try rw [e1]
  refine ⟨by omega, by omega, ?_⟩
  unfold V_L_leg
  refine ⟨Cg.k hC rfl (by decide), ?_⟩
  obtain ⟨ans, A', hm, hpz, hW⟩ := sim_leg (a0 := scr (x4 + 1)) hR (by omega) (hs _)
  refine T_X8_leg (F0 := F) (I0 := I) hC Fc.rf (fun z it1 LN1 S1 F1 I1 hC1 hF1 h => ?_) (fun X9 it1 LN1 S1 F1 I1 hC1 hF1 h => ?_) hW
  · obtain ⟨h0, rfl, hR1⟩ := h
    refine ⟨(hL.out hC1).1, by decide, (hL.out hC1).2, ?_⟩
    have hM1 : Ms (ym Y 0) (ym Y) S1 := hL.ms hC1
    refine ⟨by omega, by omega, hM1.1, ?_⟩
    have eA : mA (ym Y) (ym Y 0) F1 (ui I1 (yo Y) 0 z) = mA (ym Y) (ym Y 0) F I := (mA_out hL).trans (mA_fc (Y := Y) hF1)
    refine T_X9_leg (F0 := F1) (I0 := (ui I1 (yo Y) 0 z)) hM1 Fr.rf (fun z2 F2 I2 hF2 h => ?_) (by rw [eA]; exact hm (fun b A2 => b = z ∧ A2 = A') ⟨rfl, rfl⟩)
    obtain ⟨rfl, hA2⟩ := h
    have ht : F2 1000 (ym Y 0) = 0 := by
      have := congrFun (congrFun hA2 0) 0
      exact this.trans h0
    refine ⟨hM1.1, ?_⟩
    refine ⟨fun _ => ⟨fun c9 => absurd rfl c9, fun _ => ⟨(hL.out hC1).1, by decide, (hL.out hC1).2, fun _ => ?_, fun c9 => absurd ?_ c9⟩⟩, fun c9 => absurd ht c9⟩
    · exact hk _ _ _ (lj_end hz hL hC1 (cg_dn0 hC1 (by omega) (by omega)) ha hb hR1 (by omega) (Or.inl rfl) hF2 hA2)
    · rw [hF2.2 (yo Y) (fun k hk9 => ((hL.ne.1 k hk9).1).symm), show ui _ (yo Y) 0 _ (yo Y) 0 = _ from ui_s, icmp_eq]
  · obtain ⟨hx9, hR1⟩ := h
    rcases hx9 with ⟨rfl, h0⟩ | ⟨rfl, h0⟩
    · refine Or.inl ⟨rfl, ?_⟩
      have hM1 : Ms (ym Y 0) (ym Y) (thr S1) := Lm.ms (Y := dn Y) hL (cg_thr hC1 (by omega) (by omega))
      refine ⟨by omega, by omega, hM1.1, ?_⟩
      have eA : mA (ym Y) (ym Y 0) F1 I1 = mA (ym Y) (ym Y 0) F I := mA_fc (Y := Y) hF1
      refine T_X9_leg (F0 := F1) (I0 := I1) hM1 Fr.rf (fun z2 F2 I2 hF2 h => ?_) (by rw [eA]; exact hm (fun b A2 => b = ans ∧ A2 = A') ⟨rfl, rfl⟩)
      obtain ⟨rfl, hA2⟩ := h
      have ht : F2 1000 (ym Y 0) = 1 := by
        have := congrFun (congrFun hA2 0) 0
        exact this.trans h0
      refine ⟨hM1.1, ?_⟩
      refine ⟨fun _ => ⟨fun _ => ?_, fun c9 => absurd c9 (by decide)⟩, fun c9 => absurd ht c9⟩
      exact hk _ _ _ (lj_end hz hL hC1 (cg_thr hC1 (by omega) (by omega)) ha hb hR1 (by omega) (z := 0) (Or.inr rfl) hF2 hA2)
    · refine Or.inr (⟨rfl, ?_⟩)
      have hM1 : Ms (ym Y 0) (ym Y) (thr S1) := Lm.ms (Y := dn Y) hL (cg_thr hC1 (by omega) (by omega))
      refine ⟨by omega, by omega, hM1.1, ?_⟩
      have eA : mA (ym Y) (ym Y 0) F1 I1 = mA (ym Y) (ym Y 0) F I := mA_fc (Y := Y) hF1
      refine T_X9_leg (F0 := F1) (I0 := I1) hM1 Fr.rf (fun z2 F2 I2 hF2 h => ?_) (by rw [eA]; exact hm (fun b A2 => b = ans ∧ A2 = A') ⟨rfl, rfl⟩)
      obtain ⟨rfl, hA2⟩ := h
      have ht : F2 1000 (ym Y 0) = 2 := by
        have := congrFun (congrFun hA2 0) 0
        exact this.trans h0
      refine ⟨hM1.1, ?_⟩
      refine ⟨fun _ => ⟨fun _ => ?_, fun c9 => absurd c9 (by decide)⟩, fun c9 => absurd ht c9⟩
      exact hk _ _ _ (lj_end hz hL hC1 (cg_thr hC1 (by omega) (by omega)) ha hb hR1 (by omega) (z := 0) (Or.inr rfl) hF2 hA2)
set_option maxRecDepth 20000 in
set_option maxHeartbeats 4000000 in
theorem law_plan {n : Nat} {G : Gp} {ln : Int} {scr : Int → Int} {k23 : Nat → Nat → Nat → Int → Shp → Fl → Il → Prop} {x1 x2 x3 : Nat} {x4 : Int} {S : Shp} {F : Fl} {I : Il} {Q : Int → Shp → Fl → Il → Prop} (hI : LJ (n + 1) G x1 x2 x3 S F I) (hs : ∀ z, rg (scr z)) (h4 : 0 ≤ x4) (h5 : x4 + 4 < ln) (h6 : ln ≤ 2560) (hk : ∀ (S' : Shp) (F' : Fl) (I' : Il), LJ n G x1 x2 x3 S' F' I' → k23 x1 x2 x3 (w32 (x4 + 5)) S' F' I') : V_L_law_1367 G ln scr k23 x1 x2 x3 x4 S F I Q := by
  obtain ⟨Y, it, LN, rfl, rfl, rfl, hz, hL, hC, ha, hb, hR, hp⟩ := hI
  unfold V_L_law_1367
  have e1 : w32 (x4 + 1) = x4 + 1 := w32_id (by unfold rg; omega)
  have e2 : w32 (x4 + 2) = x4 + 2 := w32_id (by unfold rg; omega)
  have e3 : w32 (x4 + 3) = x4 + 3 := w32_id (by unfold rg; omega)
  try rw [e1]
  try rw [e2]
  try rw [e3]
  refine ⟨by omega, by omega, by omega, by omega, by omega, by omega, ?_⟩
  unfold V_L_plan
  refine ⟨Cg.k hC rfl (by decide), ?_⟩
  obtain ⟨ans, A', hm, hpz, hW⟩ := sim_plan (a0 := scr (x4 + 1)) (a1 := scr (x4 + 2)) (a2 := scr (x4 + 3)) hR (by omega) (hs _) (hs _) (hs _)
  refine T_X8_plan (F0 := F) (I0 := I) hC Fc.rf (fun z it1 LN1 S1 F1 I1 hC1 hF1 h => ?_) (fun X9 it1 LN1 S1 F1 I1 hC1 hF1 h => ?_) hW
  · obtain ⟨h0, rfl, hR1⟩ := h
    refine ⟨(hL.out hC1).1, by decide, (hL.out hC1).2, ?_⟩
    have hM1 : Ms (ym Y 0) (ym Y) S1 := hL.ms hC1
    refine ⟨by omega, by omega, by omega, by omega, by omega, by omega, hM1.1, ?_⟩
    have eA : mA (ym Y) (ym Y 0) F1 (ui I1 (yo Y) 0 z) = mA (ym Y) (ym Y 0) F I := (mA_out hL).trans (mA_fc (Y := Y) hF1)
    refine T_X9_plan (F0 := F1) (I0 := (ui I1 (yo Y) 0 z)) hM1 Fr.rf (fun z2 F2 I2 hF2 h => ?_) (by rw [eA]; exact hm (fun b A2 => b = z ∧ A2 = A') ⟨rfl, rfl⟩)
    obtain ⟨rfl, hA2⟩ := h
    have ht : F2 1000 (ym Y 0) = 0 := by
      have := congrFun (congrFun hA2 0) 0
      exact this.trans h0
    refine ⟨hM1.1, ?_⟩
    refine ⟨fun _ => ⟨fun c9 => absurd rfl c9, fun _ => ⟨(hL.out hC1).1, by decide, (hL.out hC1).2, fun _ => ?_, fun c9 => absurd ?_ c9⟩⟩, fun c9 => absurd ht c9⟩
    · exact hk _ _ _ (lj_end hz hL hC1 (cg_dn0 hC1 (by omega) (by omega)) ha hb hR1 (by omega) (Or.inl rfl) hF2 hA2)
    · rw [hF2.2 (yo Y) (fun k hk9 => ((hL.ne.1 k hk9).1).symm), show ui _ (yo Y) 0 _ (yo Y) 0 = _ from ui_s, icmp_eq]
  · obtain ⟨hx9, hR1⟩ := h
    rcases hx9 with ⟨rfl, h0⟩ | ⟨rfl, h0⟩ | ⟨rfl, h0⟩
    · refine Or.inl ⟨rfl, ?_⟩
      have hM1 : Ms (ym Y 0) (ym Y) (thr S1) := Lm.ms (Y := dn Y) hL (cg_thr hC1 (by omega) (by omega))
      refine ⟨by omega, by omega, by omega, by omega, by omega, by omega, hM1.1, ?_⟩
      have eA : mA (ym Y) (ym Y 0) F1 I1 = mA (ym Y) (ym Y 0) F I := mA_fc (Y := Y) hF1
      refine T_X9_plan (F0 := F1) (I0 := I1) hM1 Fr.rf (fun z2 F2 I2 hF2 h => ?_) (by rw [eA]; exact hm (fun b A2 => b = ans ∧ A2 = A') ⟨rfl, rfl⟩)
      obtain ⟨rfl, hA2⟩ := h
      have ht : F2 1000 (ym Y 0) = 1 := by
        have := congrFun (congrFun hA2 0) 0
        exact this.trans h0
      refine ⟨hM1.1, ?_⟩
      refine ⟨fun _ => ⟨fun _ => ?_, fun c9 => absurd c9 (by decide)⟩, fun c9 => absurd ht c9⟩
      exact hk _ _ _ (lj_end hz hL hC1 (cg_thr hC1 (by omega) (by omega)) ha hb hR1 (by omega) (z := 0) (Or.inr rfl) hF2 hA2)
    · refine Or.inr (Or.inl ⟨rfl, ?_⟩)
      have hM1 : Ms (ym Y 0) (ym Y) (thr S1) := Lm.ms (Y := dn Y) hL (cg_thr hC1 (by omega) (by omega))
      refine ⟨by omega, by omega, by omega, by omega, by omega, by omega, hM1.1, ?_⟩
      have eA : mA (ym Y) (ym Y 0) F1 I1 = mA (ym Y) (ym Y 0) F I := mA_fc (Y := Y) hF1
      refine T_X9_plan (F0 := F1) (I0 := I1) hM1 Fr.rf (fun z2 F2 I2 hF2 h => ?_) (by rw [eA]; exact hm (fun b A2 => b = ans ∧ A2 = A') ⟨rfl, rfl⟩)
      obtain ⟨rfl, hA2⟩ := h
      have ht : F2 1000 (ym Y 0) = 2 := by
        have := congrFun (congrFun hA2 0) 0
        exact this.trans h0
      refine ⟨hM1.1, ?_⟩
      refine ⟨fun _ => ⟨fun _ => ?_, fun c9 => absurd c9 (by decide)⟩, fun c9 => absurd ht c9⟩
      exact hk _ _ _ (lj_end hz hL hC1 (cg_thr hC1 (by omega) (by omega)) ha hb hR1 (by omega) (z := 0) (Or.inr rfl) hF2 hA2)
    · refine Or.inr (Or.inr (⟨rfl, ?_⟩))
      have hM1 : Ms (ym Y 0) (ym Y) (thr S1) := Lm.ms (Y := dn Y) hL (cg_thr hC1 (by omega) (by omega))
      refine ⟨by omega, by omega, by omega, by omega, by omega, by omega, hM1.1, ?_⟩
      have eA : mA (ym Y) (ym Y 0) F1 I1 = mA (ym Y) (ym Y 0) F I := mA_fc (Y := Y) hF1
      refine T_X9_plan (F0 := F1) (I0 := I1) hM1 Fr.rf (fun z2 F2 I2 hF2 h => ?_) (by rw [eA]; exact hm (fun b A2 => b = ans ∧ A2 = A') ⟨rfl, rfl⟩)
      obtain ⟨rfl, hA2⟩ := h
      have ht : F2 1000 (ym Y 0) = 3 := by
        have := congrFun (congrFun hA2 0) 0
        exact this.trans h0
      refine ⟨hM1.1, ?_⟩
      refine ⟨fun _ => ⟨fun _ => ?_, fun c9 => absurd c9 (by decide)⟩, fun c9 => absurd ht c9⟩
      exact hk _ _ _ (lj_end hz hL hC1 (cg_thr hC1 (by omega) (by omega)) ha hb hR1 (by omega) (z := 0) (Or.inr rfl) hF2 hA2)
set_option maxRecDepth 20000 in
set_option maxHeartbeats 4000000 in
theorem law_await {n : Nat} {G : Gp} {ln : Int} {scr : Int → Int} {k23 : Nat → Nat → Nat → Int → Shp → Fl → Il → Prop} {x1 x2 x3 : Nat} {x4 : Int} {S : Shp} {F : Fl} {I : Il} {Q : Int → Shp → Fl → Il → Prop} (hI : LJ (n + 1) G x1 x2 x3 S F I) (hs : ∀ z, rg (scr z)) (h4 : 0 ≤ x4) (h5 : x4 + 4 < ln) (h6 : ln ≤ 2560) (hk : ∀ (S' : Shp) (F' : Fl) (I' : Il), LJ n G x1 x2 x3 S' F' I' → k23 x1 x2 x3 (w32 (x4 + 5)) S' F' I') : V_L_law_1447 G ln scr k23 x1 x2 x3 x4 S F I Q := by
  obtain ⟨Y, it, LN, rfl, rfl, rfl, hz, hL, hC, ha, hb, hR, hp⟩ := hI
  unfold V_L_law_1447
  have e1 : w32 (x4 + 1) = x4 + 1 := w32_id (by unfold rg; omega)
  have e2 : w32 (x4 + 2) = x4 + 2 := w32_id (by unfold rg; omega)
  have e3 : w32 (x4 + 3) = x4 + 3 := w32_id (by unfold rg; omega)
  try rw [e1]
  try rw [e2]
  try rw [e3]
  refine ⟨by omega, by omega, by omega, by omega, by omega, by omega, ?_⟩
  unfold V_L_await
  refine ⟨Cg.k hC rfl (by decide), ?_⟩
  obtain ⟨A', hm, hpz, hW⟩ := sim_await (a0 := scr (x4 + 1)) (a1 := scr (x4 + 2)) (a2 := scr (x4 + 3)) hR (by omega) (hs _) (hs _) (hs _)
  refine T_X8_await (F0 := F) (I0 := I) hC Fc.rf (fun F1 hF1 h => ?_) (fun X9 F1 I1 hF1 h => ?_) hW
  · obtain ⟨h0, hR1⟩ := h
    have hM1 : Ms (ym Y 0) (ym Y) S := hL.ms hC
    refine ⟨by omega, by omega, by omega, by omega, by omega, by omega, hM1.1, ?_⟩
    have eA : mA (ym Y) (ym Y 0) F1 I = mA (ym Y) (ym Y 0) F I := mA_fc (Y := Y) hF1
    refine T_X9_await (F0 := F1) (I0 := I) hM1 Fr.rf (fun F2 I2 hF2 h => ?_) (by rw [eA]; exact hm (fun A2 => A2 = A') rfl)
    have hA2 := h
    have ht : F2 1000 (ym Y 0) = 0 := by
      have := congrFun (congrFun hA2 0) 0
      exact this.trans h0
    refine ⟨hM1.1, ?_⟩
    refine ⟨fun _ => ?_, fun c9 => absurd ht c9⟩
    exact hk _ _ _ (lj_end hz hL hC (cg_dn0 hC (by omega) (by omega)) ha hb hR1 (by omega) (z := 0) (Or.inr rfl) hF2 hA2)
  · obtain ⟨hx9, hR1⟩ := h
    rcases hx9 with ⟨rfl, h0⟩ | ⟨rfl, h0⟩
    · refine Or.inl ⟨rfl, ?_⟩
      have hM1 : Ms (ym Y 0) (ym Y) (thr S) := Lm.ms (Y := dn Y) hL (cg_thr hC (by omega) (by omega))
      refine ⟨by omega, by omega, by omega, by omega, by omega, by omega, hM1.1, ?_⟩
      have eA : mA (ym Y) (ym Y 0) F1 I1 = mA (ym Y) (ym Y 0) F I := mA_fc (Y := Y) hF1
      refine T_X9_await (F0 := F1) (I0 := I1) hM1 Fr.rf (fun F2 I2 hF2 h => ?_) (by rw [eA]; exact hm (fun A2 => A2 = A') rfl)
      have hA2 := h
      have ht : F2 1000 (ym Y 0) = 1 := by
        have := congrFun (congrFun hA2 0) 0
        exact this.trans h0
      refine ⟨hM1.1, ?_⟩
      refine ⟨fun _ => ?_, fun c9 => absurd ht c9⟩
      exact hk _ _ _ (lj_end hz hL hC (cg_thr hC (by omega) (by omega)) ha hb hR1 (by omega) (z := 0) (Or.inr rfl) hF2 hA2)
    · refine Or.inr (⟨rfl, ?_⟩)
      have hM1 : Ms (ym Y 0) (ym Y) (thr S) := Lm.ms (Y := dn Y) hL (cg_thr hC (by omega) (by omega))
      refine ⟨by omega, by omega, by omega, by omega, by omega, by omega, hM1.1, ?_⟩
      have eA : mA (ym Y) (ym Y 0) F1 I1 = mA (ym Y) (ym Y 0) F I := mA_fc (Y := Y) hF1
      refine T_X9_await (F0 := F1) (I0 := I1) hM1 Fr.rf (fun F2 I2 hF2 h => ?_) (by rw [eA]; exact hm (fun A2 => A2 = A') rfl)
      have hA2 := h
      have ht : F2 1000 (ym Y 0) = 2 := by
        have := congrFun (congrFun hA2 0) 0
        exact this.trans h0
      refine ⟨hM1.1, ?_⟩
      refine ⟨fun _ => ?_, fun c9 => absurd ht c9⟩
      exact hk _ _ _ (lj_end hz hL hC (cg_thr hC (by omega) (by omega)) ha hb hR1 (by omega) (z := 0) (Or.inr rfl) hF2 hA2)
set_option maxRecDepth 20000 in
set_option maxHeartbeats 4000000 in
theorem law_run {n : Nat} {G : Gp} {ln : Int} {scr : Int → Int} {k23 : Nat → Nat → Nat → Int → Shp → Fl → Il → Prop} {x1 x2 x3 : Nat} {x4 : Int} {S : Shp} {F : Fl} {I : Il} {Q : Int → Shp → Fl → Il → Prop} (hI : LJ (n + 1) G x1 x2 x3 S F I) (hs : ∀ z, rg (scr z)) (h4 : 0 ≤ x4) (h5 : x4 + 4 < ln) (h6 : ln ≤ 2560) (hk : ∀ (S' : Shp) (F' : Fl) (I' : Il), LJ n G x1 x2 x3 S' F' I' → k23 x1 x2 x3 (w32 (x4 + 5)) S' F' I') : V_L_law_1507 G ln scr k23 x1 x2 x3 x4 S F I Q := by
  obtain ⟨Y, it, LN, rfl, rfl, rfl, hz, hL, hC, ha, hb, hR, hp⟩ := hI
  unfold V_L_law_1507
  have e1 : w32 (x4 + 1) = x4 + 1 := w32_id (by unfold rg; omega)
  try rw [e1]
  refine ⟨by omega, by omega, ?_⟩
  unfold V_L_run
  refine ⟨Cg.k hC rfl (by decide), ?_⟩
  obtain ⟨ans, A', hm, hpz, hW⟩ := sim_run (a0 := scr (x4 + 1)) hR (by omega) (hs _)
  refine T_X8_run (F0 := F) (I0 := I) hC Fc.rf (fun z F1 I1 hF1 h => ?_) (fun X9 F1 I1 hF1 h => ?_) hW
  · obtain ⟨h0, rfl, hR1⟩ := h
    refine ⟨(hL.out hC).1, by decide, (hL.out hC).2, ?_⟩
    have hM1 : Ms (ym Y 0) (ym Y) S := hL.ms hC
    refine ⟨by omega, by omega, hM1.1, ?_⟩
    have eA : mA (ym Y) (ym Y 0) F1 (ui I1 (yo Y) 0 z) = mA (ym Y) (ym Y 0) F I := (mA_out hL).trans (mA_fc (Y := Y) hF1)
    refine T_X9_run (F0 := F1) (I0 := (ui I1 (yo Y) 0 z)) hM1 Fr.rf (fun z2 F2 I2 hF2 h => ?_) (by rw [eA]; exact hm (fun b A2 => b = z ∧ A2 = A') ⟨rfl, rfl⟩)
    obtain ⟨rfl, hA2⟩ := h
    have ht : F2 1000 (ym Y 0) = 0 := by
      have := congrFun (congrFun hA2 0) 0
      exact this.trans h0
    refine ⟨hM1.1, ?_⟩
    refine ⟨fun _ => ⟨fun c9 => absurd rfl c9, fun _ => ⟨(hL.out hC).1, by decide, (hL.out hC).2, fun _ => ?_, fun c9 => absurd ?_ c9⟩⟩, fun c9 => absurd ht c9⟩
    · exact hk _ _ _ (lj_end hz hL hC (cg_dn0 hC (by omega) (by omega)) ha hb hR1 (by omega) (Or.inl rfl) hF2 hA2)
    · rw [hF2.2 (yo Y) (fun k hk9 => ((hL.ne.1 k hk9).1).symm), show ui _ (yo Y) 0 _ (yo Y) 0 = _ from ui_s, icmp_eq]
  · obtain ⟨hx9, hR1⟩ := h
    rcases hx9 with ⟨rfl, h0⟩ | ⟨rfl, h0⟩
    · refine Or.inl ⟨rfl, ?_⟩
      have hM1 : Ms (ym Y 0) (ym Y) (thr S) := Lm.ms (Y := dn Y) hL (cg_thr hC (by omega) (by omega))
      refine ⟨by omega, by omega, hM1.1, ?_⟩
      have eA : mA (ym Y) (ym Y 0) F1 I1 = mA (ym Y) (ym Y 0) F I := mA_fc (Y := Y) hF1
      refine T_X9_run (F0 := F1) (I0 := I1) hM1 Fr.rf (fun z2 F2 I2 hF2 h => ?_) (by rw [eA]; exact hm (fun b A2 => b = ans ∧ A2 = A') ⟨rfl, rfl⟩)
      obtain ⟨rfl, hA2⟩ := h
      have ht : F2 1000 (ym Y 0) = 1 := by
        have := congrFun (congrFun hA2 0) 0
        exact this.trans h0
      refine ⟨hM1.1, ?_⟩
      refine ⟨fun _ => ⟨fun _ => ?_, fun c9 => absurd c9 (by decide)⟩, fun c9 => absurd ht c9⟩
      exact hk _ _ _ (lj_end hz hL hC (cg_thr hC (by omega) (by omega)) ha hb hR1 (by omega) (z := 0) (Or.inr rfl) hF2 hA2)
    · refine Or.inr (⟨rfl, ?_⟩)
      have hM1 : Ms (ym Y 0) (ym Y) (thr S) := Lm.ms (Y := dn Y) hL (cg_thr hC (by omega) (by omega))
      refine ⟨by omega, by omega, hM1.1, ?_⟩
      have eA : mA (ym Y) (ym Y 0) F1 I1 = mA (ym Y) (ym Y 0) F I := mA_fc (Y := Y) hF1
      refine T_X9_run (F0 := F1) (I0 := I1) hM1 Fr.rf (fun z2 F2 I2 hF2 h => ?_) (by rw [eA]; exact hm (fun b A2 => b = ans ∧ A2 = A') ⟨rfl, rfl⟩)
      obtain ⟨rfl, hA2⟩ := h
      have ht : F2 1000 (ym Y 0) = 2 := by
        have := congrFun (congrFun hA2 0) 0
        exact this.trans h0
      refine ⟨hM1.1, ?_⟩
      refine ⟨fun _ => ⟨fun _ => ?_, fun c9 => absurd c9 (by decide)⟩, fun c9 => absurd ht c9⟩
      exact hk _ _ _ (lj_end hz hL hC (cg_thr hC (by omega) (by omega)) ha hb hR1 (by omega) (z := 0) (Or.inr rfl) hF2 hA2)
set_option maxRecDepth 20000 in
set_option maxHeartbeats 4000000 in
theorem law_passSignal {n : Nat} {G : Gp} {ln : Int} {scr : Int → Int} {k23 : Nat → Nat → Nat → Int → Shp → Fl → Il → Prop} {x1 x2 x3 : Nat} {x4 : Int} {S : Shp} {F : Fl} {I : Il} {Q : Int → Shp → Fl → Il → Prop} (hI : LJ (n + 1) G x1 x2 x3 S F I) (hs : ∀ z, rg (scr z)) (h4 : 0 ≤ x4) (h5 : x4 + 4 < ln) (h6 : ln ≤ 2560) (hk : ∀ (S' : Shp) (F' : Fl) (I' : Il), LJ n G x1 x2 x3 S' F' I' → k23 x1 x2 x3 (w32 (x4 + 5)) S' F' I') : V_L_law_1563 G ln scr k23 x1 x2 x3 x4 S F I Q := by
  obtain ⟨Y, it, LN, rfl, rfl, rfl, hz, hL, hC, ha, hb, hR, hp⟩ := hI
  unfold V_L_law_1563
  have e1 : w32 (x4 + 1) = x4 + 1 := w32_id (by unfold rg; omega)
  try rw [e1]
  refine ⟨by omega, by omega, ?_⟩
  unfold V_L_passSignal
  refine ⟨Cg.k hC rfl (by decide), ?_⟩
  obtain ⟨ans, A', hm, hpz, hba, hW⟩ := sim_passSignal (a0 := scr (x4 + 1)) hR (by omega) (hs _)
  refine T_X8_passSignal (F0 := F) (I0 := I) hC Fc.rf (fun z F1 hF1 h => ?_) (fun X9 F1 I1 hF1 h => ?_) hW
  · obtain ⟨h0, rfl, hR1⟩ := h
    have hM1 : Ms (ym Y 0) (ym Y) S := hL.ms hC
    rcases hba with rfl | rfl
    · refine br_T rfl ?_
      unfold V_L_passSignal_15
      refine ⟨(hL.out hC).1, by decide, (hL.out hC).2, ?_⟩
      refine ⟨by omega, by omega, hM1.1, ?_⟩
      have eA : mA (ym Y) (ym Y 0) F1 (ui I (yo Y) 0 0) = mA (ym Y) (ym Y 0) F I := (mA_out hL).trans (mA_fc (Y := Y) hF1)
      refine T_X9_passSignal (F0 := F1) (I0 := (ui I (yo Y) 0 0)) hM1 Fr.rf (fun z2 F2 I2 hF2 h => ?_) (by rw [eA]; exact hm (fun b A2 => b = 0 ∧ A2 = A') ⟨rfl, rfl⟩)
      obtain ⟨rfl, hA2⟩ := h
      have ht : F2 1000 (ym Y 0) = 0 := by
        have := congrFun (congrFun hA2 0) 0
        exact this.trans h0
      refine ⟨hM1.1, ?_⟩
      refine ⟨fun _ => ⟨fun c9 => absurd rfl c9, fun _ => ⟨(hL.out hC).1, by decide, (hL.out hC).2, br_T rfl ?_⟩⟩, fun c9 => absurd ht c9⟩
      unfold V_L_law_1617
      refine ⟨fun _ => ?_, fun c9 => absurd ?_ c9⟩
      · exact hk _ _ _ (lj_end hz hL hC (cg_dn0 hC (by omega) (by omega)) ha hb hR1 (by omega) (Or.inl rfl) hF2 hA2)
      · rw [hF2.2 (yo Y) (fun k hk9 => ((hL.ne.1 k hk9).1).symm), show ui _ (yo Y) 0 _ (yo Y) 0 = _ from ui_s, icmp_eq]
    · refine br_F (by decide) ?_
      unfold V_L_passSignal_15
      refine ⟨(hL.out hC).1, by decide, (hL.out hC).2, ?_⟩
      refine ⟨by omega, by omega, hM1.1, ?_⟩
      have eA : mA (ym Y) (ym Y 0) F1 (ui I (yo Y) 0 1) = mA (ym Y) (ym Y 0) F I := (mA_out hL).trans (mA_fc (Y := Y) hF1)
      refine T_X9_passSignal (F0 := F1) (I0 := (ui I (yo Y) 0 1)) hM1 Fr.rf (fun z2 F2 I2 hF2 h => ?_) (by rw [eA]; exact hm (fun b A2 => b = 1 ∧ A2 = A') ⟨rfl, rfl⟩)
      obtain ⟨rfl, hA2⟩ := h
      have ht : F2 1000 (ym Y 0) = 0 := by
        have := congrFun (congrFun hA2 0) 0
        exact this.trans h0
      refine ⟨hM1.1, ?_⟩
      refine ⟨fun _ => ⟨fun c9 => absurd rfl c9, fun _ => ⟨(hL.out hC).1, by decide, (hL.out hC).2, br_F (by decide) ?_⟩⟩, fun c9 => absurd ht c9⟩
      unfold V_L_law_1617
      refine ⟨fun _ => ?_, fun c9 => absurd ?_ c9⟩
      · exact hk _ _ _ (lj_end hz hL hC (cg_dn0 hC (by omega) (by omega)) ha hb hR1 (by omega) (Or.inl rfl) hF2 hA2)
      · rw [hF2.2 (yo Y) (fun k hk9 => ((hL.ne.1 k hk9).1).symm), show ui _ (yo Y) 0 _ (yo Y) 0 = _ from ui_s, icmp_eq]
  · obtain ⟨hx9, hR1⟩ := h
    rcases hx9 with ⟨rfl, h0⟩ | ⟨rfl, h0⟩
    · refine Or.inl ⟨rfl, ?_⟩
      have hM1 : Ms (ym Y 0) (ym Y) (thr S) := Lm.ms (Y := dn Y) hL (cg_thr hC (by omega) (by omega))
      refine ⟨by omega, by omega, hM1.1, ?_⟩
      have eA : mA (ym Y) (ym Y 0) F1 I1 = mA (ym Y) (ym Y 0) F I := mA_fc (Y := Y) hF1
      refine T_X9_passSignal (F0 := F1) (I0 := I1) hM1 Fr.rf (fun z2 F2 I2 hF2 h => ?_) (by rw [eA]; exact hm (fun b A2 => b = ans ∧ A2 = A') ⟨rfl, rfl⟩)
      obtain ⟨rfl, hA2⟩ := h
      have ht : F2 1000 (ym Y 0) = 1 := by
        have := congrFun (congrFun hA2 0) 0
        exact this.trans h0
      refine ⟨hM1.1, ?_⟩
      refine ⟨fun _ => ⟨fun _ => ?_, fun c9 => absurd c9 (by decide)⟩, fun c9 => absurd ht c9⟩
      exact hk _ _ _ (lj_end hz hL hC (cg_thr hC (by omega) (by omega)) ha hb hR1 (by omega) (z := 0) (Or.inr rfl) hF2 hA2)
    · refine Or.inr ⟨rfl, ?_⟩
      have hM1 : Ms (ym Y 0) (ym Y) (thr S) := Lm.ms (Y := dn Y) hL (cg_thr hC (by omega) (by omega))
      refine ⟨by omega, by omega, hM1.1, ?_⟩
      have eA : mA (ym Y) (ym Y 0) F1 I1 = mA (ym Y) (ym Y 0) F I := mA_fc (Y := Y) hF1
      refine T_X9_passSignal (F0 := F1) (I0 := I1) hM1 Fr.rf (fun z2 F2 I2 hF2 h => ?_) (by rw [eA]; exact hm (fun b A2 => b = ans ∧ A2 = A') ⟨rfl, rfl⟩)
      obtain ⟨rfl, hA2⟩ := h
      have ht : F2 1000 (ym Y 0) = 2 := by
        have := congrFun (congrFun hA2 0) 0
        exact this.trans h0
      refine ⟨hM1.1, ?_⟩
      refine ⟨fun _ => ⟨fun _ => ?_, fun c9 => absurd c9 (by decide)⟩, fun c9 => absurd ht c9⟩
      exact hk _ _ _ (lj_end hz hL hC (cg_thr hC (by omega) (by omega)) ha hb hR1 (by omega) (z := 0) (Or.inr rfl) hF2 hA2)
set_option maxRecDepth 20000 in
set_option maxHeartbeats 4000000 in
theorem law_clear {n : Nat} {G : Gp} {ln : Int} {scr : Int → Int} {k23 : Nat → Nat → Nat → Int → Shp → Fl → Il → Prop} {x1 x2 x3 : Nat} {x4 : Int} {S : Shp} {F : Fl} {I : Il} {Q : Int → Shp → Fl → Il → Prop} (hI : LJ (n + 1) G x1 x2 x3 S F I) (hs : ∀ z, rg (scr z)) (h4 : 0 ≤ x4) (h5 : x4 + 4 < ln) (h6 : ln ≤ 2560) (hk : ∀ (S' : Shp) (F' : Fl) (I' : Il), LJ n G x1 x2 x3 S' F' I' → k23 x1 x2 x3 (w32 (x4 + 5)) S' F' I') : V_L_law_1626 G ln scr k23 x1 x2 x3 x4 S F I Q := by
  obtain ⟨Y, it, LN, rfl, rfl, rfl, hz, hL, hC, ha, hb, hR, hp⟩ := hI
  unfold V_L_law_1626
  have e1 : w32 (x4 + 1) = x4 + 1 := w32_id (by unfold rg; omega)
  try rw [e1]
  refine ⟨by omega, by omega, ?_⟩
  unfold V_L_clear
  refine ⟨Cg.k hC rfl (by decide), ?_⟩
  obtain ⟨ans, A', hm, hpz, hW⟩ := sim_clear (a0 := scr (x4 + 1)) hR (by omega) (hs _)
  refine T_X8_clear (F0 := F) (I0 := I) hC Fc.rf (fun z it1 LN1 S1 F1 I1 hC1 hF1 h => ?_) (fun X9 it1 LN1 S1 F1 I1 hC1 hF1 h => ?_) hW
  · obtain ⟨h0, rfl, hR1⟩ := h
    refine ⟨(hL.out hC1).1, by decide, (hL.out hC1).2, ?_⟩
    have hM1 : Ms (ym Y 0) (ym Y) S1 := hL.ms hC1
    refine ⟨by omega, by omega, hM1.1, ?_⟩
    have eA : mA (ym Y) (ym Y 0) F1 (ui I1 (yo Y) 0 z) = mA (ym Y) (ym Y 0) F I := (mA_out hL).trans (mA_fc (Y := Y) hF1)
    refine T_X9_clear (F0 := F1) (I0 := (ui I1 (yo Y) 0 z)) hM1 Fr.rf (fun z2 F2 I2 hF2 h => ?_) (by rw [eA]; exact hm (fun b A2 => b = z ∧ A2 = A') ⟨rfl, rfl⟩)
    obtain ⟨rfl, hA2⟩ := h
    have ht : F2 1000 (ym Y 0) = 0 := by
      have := congrFun (congrFun hA2 0) 0
      exact this.trans h0
    refine ⟨hM1.1, ?_⟩
    refine ⟨fun _ => ⟨fun c9 => absurd rfl c9, fun _ => ⟨(hL.out hC1).1, by decide, (hL.out hC1).2, fun _ => ?_, fun c9 => absurd ?_ c9⟩⟩, fun c9 => absurd ht c9⟩
    · exact hk _ _ _ (lj_end hz hL hC1 (cg_dn0 hC1 (by omega) (by omega)) ha hb hR1 (by omega) (Or.inl rfl) hF2 hA2)
    · rw [hF2.2 (yo Y) (fun k hk9 => ((hL.ne.1 k hk9).1).symm), show ui _ (yo Y) 0 _ (yo Y) 0 = _ from ui_s, icmp_eq]
  · obtain ⟨hx9, hR1⟩ := h
    rcases hx9 with ⟨rfl, h0⟩ | ⟨rfl, h0⟩
    · refine Or.inl ⟨rfl, ?_⟩
      have hM1 : Ms (ym Y 0) (ym Y) (thr S1) := Lm.ms (Y := dn Y) hL (cg_thr hC1 (by omega) (by omega))
      refine ⟨by omega, by omega, hM1.1, ?_⟩
      have eA : mA (ym Y) (ym Y 0) F1 I1 = mA (ym Y) (ym Y 0) F I := mA_fc (Y := Y) hF1
      refine T_X9_clear (F0 := F1) (I0 := I1) hM1 Fr.rf (fun z2 F2 I2 hF2 h => ?_) (by rw [eA]; exact hm (fun b A2 => b = ans ∧ A2 = A') ⟨rfl, rfl⟩)
      obtain ⟨rfl, hA2⟩ := h
      have ht : F2 1000 (ym Y 0) = 1 := by
        have := congrFun (congrFun hA2 0) 0
        exact this.trans h0
      refine ⟨hM1.1, ?_⟩
      refine ⟨fun _ => ⟨fun _ => ?_, fun c9 => absurd c9 (by decide)⟩, fun c9 => absurd ht c9⟩
      exact hk _ _ _ (lj_end hz hL hC1 (cg_thr hC1 (by omega) (by omega)) ha hb hR1 (by omega) (z := 0) (Or.inr rfl) hF2 hA2)
    · refine Or.inr (⟨rfl, ?_⟩)
      have hM1 : Ms (ym Y 0) (ym Y) (thr S1) := Lm.ms (Y := dn Y) hL (cg_thr hC1 (by omega) (by omega))
      refine ⟨by omega, by omega, hM1.1, ?_⟩
      have eA : mA (ym Y) (ym Y 0) F1 I1 = mA (ym Y) (ym Y 0) F I := mA_fc (Y := Y) hF1
      refine T_X9_clear (F0 := F1) (I0 := I1) hM1 Fr.rf (fun z2 F2 I2 hF2 h => ?_) (by rw [eA]; exact hm (fun b A2 => b = ans ∧ A2 = A') ⟨rfl, rfl⟩)
      obtain ⟨rfl, hA2⟩ := h
      have ht : F2 1000 (ym Y 0) = 2 := by
        have := congrFun (congrFun hA2 0) 0
        exact this.trans h0
      refine ⟨hM1.1, ?_⟩
      refine ⟨fun _ => ⟨fun _ => ?_, fun c9 => absurd c9 (by decide)⟩, fun c9 => absurd ht c9⟩
      exact hk _ _ _ (lj_end hz hL hC1 (cg_thr hC1 (by omega) (by omega)) ha hb hR1 (by omega) (z := 0) (Or.inr rfl) hF2 hA2)
set_option maxRecDepth 20000 in
set_option maxHeartbeats 4000000 in
theorem law_rate {n : Nat} {G : Gp} {ln : Int} {scr : Int → Int} {k23 : Nat → Nat → Nat → Int → Shp → Fl → Il → Prop} {x1 x2 x3 : Nat} {x4 : Int} {S : Shp} {F : Fl} {I : Il} {Q : Int → Shp → Fl → Il → Prop} (hI : LJ (n + 1) G x1 x2 x3 S F I) (hs : ∀ z, rg (scr z)) (h4 : 0 ≤ x4) (h5 : x4 + 4 < ln) (h6 : ln ≤ 2560) (hk : ∀ (S' : Shp) (F' : Fl) (I' : Il), LJ n G x1 x2 x3 S' F' I' → k23 x1 x2 x3 (w32 (x4 + 5)) S' F' I') : V_L_law_1682 G ln scr k23 x1 x2 x3 x4 S F I Q := by
  obtain ⟨Y, it, LN, rfl, rfl, rfl, hz, hL, hC, ha, hb, hR, hp⟩ := hI
  unfold V_L_law_1682
  have e1 : w32 (x4 + 1) = x4 + 1 := w32_id (by unfold rg; omega)
  have e2 : w32 (x4 + 2) = x4 + 2 := w32_id (by unfold rg; omega)
  have e3 : w32 (x4 + 3) = x4 + 3 := w32_id (by unfold rg; omega)
  have e4 : w32 (x4 + 4) = x4 + 4 := w32_id (by unfold rg; omega)
  try rw [e1]
  try rw [e2]
  try rw [e3]
  refine ⟨by omega, by omega, by omega, by omega, by omega, by omega, ?_⟩
  by_cases h3 : scr (x4 + 3) = 0
  · refine br_T h3 ?_
    unfold V_L_law_1709
    try rw [e1]
    try rw [e2]
    try rw [e3]
    try rw [e4]
    refine ⟨by omega, by omega, ?_⟩
    unfold V_L_rate
    refine ⟨Cg.k hC rfl (by decide), ?_⟩
    obtain ⟨ans, A', hm, hpz, hW⟩ := sim_rate (a0 := scr (x4 + 1)) (a1 := scr (x4 + 2)) (a2 := 0) (a3 := scr (x4 + 4)) hR (by omega) (hs _) (hs _) (hs _) (Or.inl rfl)
    refine T_X8_rate (F0 := F) (I0 := I) hC Fc.rf (fun z I1 hF1 h => ?_) (fun X9 F1 I1 hF1 h => ?_) hW
    · obtain ⟨h0, rfl, hR1⟩ := h
      refine ⟨(hL.out hC).1, by decide, (hL.out hC).2, ?_⟩
      have hM1 : Ms (ym Y 0) (ym Y) S := hL.ms hC
      refine ⟨by omega, by omega, by omega, by omega, by omega, by omega, br_T h3 ?_⟩
      unfold V_L_law_1748
      try rw [e4]
      refine ⟨by omega, by omega, hM1.1, ?_⟩
      have eA : mA (ym Y) (ym Y 0) F (ui I1 (yo Y) 0 z) = mA (ym Y) (ym Y 0) F I := (mA_out hL).trans (mA_fc (Y := Y) hF1)
      refine T_X9_rate (F0 := F) (I0 := (ui I1 (yo Y) 0 z)) hM1 Fr.rf (fun z2 F2 I2 hF2 h => ?_) (by rw [eA]; exact hm (fun b A2 => b = z ∧ A2 = A') ⟨rfl, rfl⟩)
      obtain ⟨rfl, hA2⟩ := h
      have ht : F2 1000 (ym Y 0) = 0 := by
        have := congrFun (congrFun hA2 0) 0
        exact this.trans h0
      refine ⟨hM1.1, hM1.1, ?_⟩
      refine ⟨fun _ => ⟨fun c9 => absurd rfl c9, fun _ => ⟨(hL.out hC).1, by decide, (hL.out hC).2, fun _ => ?_, fun c9 => absurd ?_ c9⟩⟩, fun c9 => absurd ht c9⟩
      · exact hk _ _ _ (lj_end hz hL hC (cg_dn0 hC (by omega) (by omega)) ha hb hR1 (by omega) (Or.inl rfl) hF2 hA2)
      · rw [hF2.2 (yo Y) (fun k hk9 => ((hL.ne.1 k hk9).1).symm), show ui _ (yo Y) 0 _ (yo Y) 0 = _ from ui_s, icmp_eq]
    · obtain ⟨hx9, hR1⟩ := h
      rcases hx9 with ⟨rfl, h0⟩ | ⟨rfl, h0⟩
      · refine Or.inl ⟨rfl, ?_⟩
        have hM1 : Ms (ym Y 0) (ym Y) (thr S) := Lm.ms (Y := dn Y) hL (cg_thr hC (by omega) (by omega))
        refine ⟨by omega, by omega, by omega, by omega, by omega, by omega, br_T h3 ?_⟩
        unfold V_L_law_1748
        try rw [e4]
        refine ⟨by omega, by omega, hM1.1, ?_⟩
        have eA : mA (ym Y) (ym Y 0) F1 I1 = mA (ym Y) (ym Y 0) F I := mA_fc (Y := Y) hF1
        refine T_X9_rate (F0 := F1) (I0 := I1) hM1 Fr.rf (fun z2 F2 I2 hF2 h => ?_) (by rw [eA]; exact hm (fun b A2 => b = ans ∧ A2 = A') ⟨rfl, rfl⟩)
        obtain ⟨rfl, hA2⟩ := h
        have ht : F2 1000 (ym Y 0) = 1 := by
          have := congrFun (congrFun hA2 0) 0
          exact this.trans h0
        refine ⟨hM1.1, hM1.1, ?_⟩
        refine ⟨fun _ => ⟨fun _ => ?_, fun c9 => absurd c9 (by decide)⟩, fun c9 => absurd ht c9⟩
        exact hk _ _ _ (lj_end hz hL hC (cg_thr hC (by omega) (by omega)) ha hb hR1 (by omega) (z := 0) (Or.inr rfl) hF2 hA2)
      · refine Or.inr ⟨rfl, ?_⟩
        have hM1 : Ms (ym Y 0) (ym Y) (thr S) := Lm.ms (Y := dn Y) hL (cg_thr hC (by omega) (by omega))
        refine ⟨by omega, by omega, by omega, by omega, by omega, by omega, br_T h3 ?_⟩
        unfold V_L_law_1748
        try rw [e4]
        refine ⟨by omega, by omega, hM1.1, ?_⟩
        have eA : mA (ym Y) (ym Y 0) F1 I1 = mA (ym Y) (ym Y 0) F I := mA_fc (Y := Y) hF1
        refine T_X9_rate (F0 := F1) (I0 := I1) hM1 Fr.rf (fun z2 F2 I2 hF2 h => ?_) (by rw [eA]; exact hm (fun b A2 => b = ans ∧ A2 = A') ⟨rfl, rfl⟩)
        obtain ⟨rfl, hA2⟩ := h
        have ht : F2 1000 (ym Y 0) = 2 := by
          have := congrFun (congrFun hA2 0) 0
          exact this.trans h0
        refine ⟨hM1.1, hM1.1, ?_⟩
        refine ⟨fun _ => ⟨fun _ => ?_, fun c9 => absurd c9 (by decide)⟩, fun c9 => absurd ht c9⟩
        exact hk _ _ _ (lj_end hz hL hC (cg_thr hC (by omega) (by omega)) ha hb hR1 (by omega) (z := 0) (Or.inr rfl) hF2 hA2)
  · refine br_F h3 ?_
    unfold V_L_law_1709
    try rw [e1]
    try rw [e2]
    try rw [e3]
    try rw [e4]
    refine ⟨by omega, by omega, ?_⟩
    unfold V_L_rate
    refine ⟨Cg.k hC rfl (by decide), ?_⟩
    obtain ⟨ans, A', hm, hpz, hW⟩ := sim_rate (a0 := scr (x4 + 1)) (a1 := scr (x4 + 2)) (a2 := 1) (a3 := scr (x4 + 4)) hR (by omega) (hs _) (hs _) (hs _) (Or.inr rfl)
    refine T_X8_rate (F0 := F) (I0 := I) hC Fc.rf (fun z I1 hF1 h => ?_) (fun X9 F1 I1 hF1 h => ?_) hW
    · obtain ⟨h0, rfl, hR1⟩ := h
      refine ⟨(hL.out hC).1, by decide, (hL.out hC).2, ?_⟩
      have hM1 : Ms (ym Y 0) (ym Y) S := hL.ms hC
      refine ⟨by omega, by omega, by omega, by omega, by omega, by omega, br_F h3 ?_⟩
      unfold V_L_law_1748
      try rw [e4]
      refine ⟨by omega, by omega, hM1.1, ?_⟩
      have eA : mA (ym Y) (ym Y 0) F (ui I1 (yo Y) 0 z) = mA (ym Y) (ym Y 0) F I := (mA_out hL).trans (mA_fc (Y := Y) hF1)
      refine T_X9_rate (F0 := F) (I0 := (ui I1 (yo Y) 0 z)) hM1 Fr.rf (fun z2 F2 I2 hF2 h => ?_) (by rw [eA]; exact hm (fun b A2 => b = z ∧ A2 = A') ⟨rfl, rfl⟩)
      obtain ⟨rfl, hA2⟩ := h
      have ht : F2 1000 (ym Y 0) = 0 := by
        have := congrFun (congrFun hA2 0) 0
        exact this.trans h0
      refine ⟨hM1.1, hM1.1, ?_⟩
      refine ⟨fun _ => ⟨fun c9 => absurd rfl c9, fun _ => ⟨(hL.out hC).1, by decide, (hL.out hC).2, fun _ => ?_, fun c9 => absurd ?_ c9⟩⟩, fun c9 => absurd ht c9⟩
      · exact hk _ _ _ (lj_end hz hL hC (cg_dn0 hC (by omega) (by omega)) ha hb hR1 (by omega) (Or.inl rfl) hF2 hA2)
      · rw [hF2.2 (yo Y) (fun k hk9 => ((hL.ne.1 k hk9).1).symm), show ui _ (yo Y) 0 _ (yo Y) 0 = _ from ui_s, icmp_eq]
    · obtain ⟨hx9, hR1⟩ := h
      rcases hx9 with ⟨rfl, h0⟩ | ⟨rfl, h0⟩
      · refine Or.inl ⟨rfl, ?_⟩
        have hM1 : Ms (ym Y 0) (ym Y) (thr S) := Lm.ms (Y := dn Y) hL (cg_thr hC (by omega) (by omega))
        refine ⟨by omega, by omega, by omega, by omega, by omega, by omega, br_F h3 ?_⟩
        unfold V_L_law_1748
        try rw [e4]
        refine ⟨by omega, by omega, hM1.1, ?_⟩
        have eA : mA (ym Y) (ym Y 0) F1 I1 = mA (ym Y) (ym Y 0) F I := mA_fc (Y := Y) hF1
        refine T_X9_rate (F0 := F1) (I0 := I1) hM1 Fr.rf (fun z2 F2 I2 hF2 h => ?_) (by rw [eA]; exact hm (fun b A2 => b = ans ∧ A2 = A') ⟨rfl, rfl⟩)
        obtain ⟨rfl, hA2⟩ := h
        have ht : F2 1000 (ym Y 0) = 1 := by
          have := congrFun (congrFun hA2 0) 0
          exact this.trans h0
        refine ⟨hM1.1, hM1.1, ?_⟩
        refine ⟨fun _ => ⟨fun _ => ?_, fun c9 => absurd c9 (by decide)⟩, fun c9 => absurd ht c9⟩
        exact hk _ _ _ (lj_end hz hL hC (cg_thr hC (by omega) (by omega)) ha hb hR1 (by omega) (z := 0) (Or.inr rfl) hF2 hA2)
      · refine Or.inr ⟨rfl, ?_⟩
        have hM1 : Ms (ym Y 0) (ym Y) (thr S) := Lm.ms (Y := dn Y) hL (cg_thr hC (by omega) (by omega))
        refine ⟨by omega, by omega, by omega, by omega, by omega, by omega, br_F h3 ?_⟩
        unfold V_L_law_1748
        try rw [e4]
        refine ⟨by omega, by omega, hM1.1, ?_⟩
        have eA : mA (ym Y) (ym Y 0) F1 I1 = mA (ym Y) (ym Y 0) F I := mA_fc (Y := Y) hF1
        refine T_X9_rate (F0 := F1) (I0 := I1) hM1 Fr.rf (fun z2 F2 I2 hF2 h => ?_) (by rw [eA]; exact hm (fun b A2 => b = ans ∧ A2 = A') ⟨rfl, rfl⟩)
        obtain ⟨rfl, hA2⟩ := h
        have ht : F2 1000 (ym Y 0) = 2 := by
          have := congrFun (congrFun hA2 0) 0
          exact this.trans h0
        refine ⟨hM1.1, hM1.1, ?_⟩
        refine ⟨fun _ => ⟨fun _ => ?_, fun c9 => absurd c9 (by decide)⟩, fun c9 => absurd ht c9⟩
        exact hk _ _ _ (lj_end hz hL hC (cg_thr hC (by omega) (by omega)) ha hb hR1 (by omega) (z := 0) (Or.inr rfl) hF2 hA2)
set_option maxRecDepth 20000 in
set_option maxHeartbeats 4000000 in
theorem law_load {n : Nat} {G : Gp} {ln : Int} {scr : Int → Int} {k23 : Nat → Nat → Nat → Int → Shp → Fl → Il → Prop} {x1 x2 x3 : Nat} {x4 : Int} {S : Shp} {F : Fl} {I : Il} {Q : Int → Shp → Fl → Il → Prop} (hI : LJ (n + 1) G x1 x2 x3 S F I) (hs : ∀ z, rg (scr z)) (h4 : 0 ≤ x4) (h5 : x4 + 4 < ln) (h6 : ln ≤ 2560) (hk : ∀ (S' : Shp) (F' : Fl) (I' : Il), LJ n G x1 x2 x3 S' F' I' → k23 x1 x2 x3 (w32 (x4 + 5)) S' F' I') : V_L_law_1858 G ln scr k23 x1 x2 x3 x4 S F I Q := by
  obtain ⟨Y, it, LN, rfl, rfl, rfl, hz, hL, hC, ha, hb, hR, hp⟩ := hI
  unfold V_L_law_1858
  have e1 : w32 (x4 + 1) = x4 + 1 := w32_id (by unfold rg; omega)
  have e2 : w32 (x4 + 2) = x4 + 2 := w32_id (by unfold rg; omega)
  try rw [e1]
  try rw [e2]
  refine ⟨by omega, by omega, by omega, by omega, ?_⟩
  unfold V_L_load
  refine ⟨Cg.k hC rfl (by decide), ?_⟩
  obtain ⟨A', hm, hpz, hW⟩ := sim_load (a0 := scr (x4 + 1)) (a1 := scr (x4 + 2)) hR (by omega) (hs _) (hs _)
  refine T_X8_load (F0 := F) (I0 := I) hC Fc.rf (fun it1 LN1 S1 F1 I1 hC1 hF1 h => ?_) (fun X9 it1 LN1 S1 F1 I1 hC1 hF1 h => ?_) hW
  · obtain ⟨h0, hR1⟩ := h
    have hM1 : Ms (ym Y 0) (ym Y) S1 := hL.ms hC1
    refine ⟨by omega, by omega, by omega, by omega, hM1.1, ?_⟩
    have eA : mA (ym Y) (ym Y 0) F1 I1 = mA (ym Y) (ym Y 0) F I := mA_fc (Y := Y) hF1
    refine T_X9_load (F0 := F1) (I0 := I1) hM1 Fr.rf (fun F2 I2 hF2 h => ?_) (by rw [eA]; exact hm (fun A2 => A2 = A') rfl)
    have hA2 := h
    have ht : F2 1000 (ym Y 0) = 0 := by
      have := congrFun (congrFun hA2 0) 0
      exact this.trans h0
    refine ⟨hM1.1, ?_⟩
    refine ⟨fun _ => ?_, fun c9 => absurd ht c9⟩
    exact hk _ _ _ (lj_end hz hL hC1 (cg_dn0 hC1 (by omega) (by omega)) ha hb hR1 (by omega) (z := 0) (Or.inr rfl) hF2 hA2)
  · obtain ⟨hx9, hR1⟩ := h
    rcases hx9 with ⟨rfl, h0⟩ | ⟨rfl, h0⟩
    · refine Or.inl ⟨rfl, ?_⟩
      have hM1 : Ms (ym Y 0) (ym Y) (thr S1) := Lm.ms (Y := dn Y) hL (cg_thr hC1 (by omega) (by omega))
      refine ⟨by omega, by omega, by omega, by omega, hM1.1, ?_⟩
      have eA : mA (ym Y) (ym Y 0) F1 I1 = mA (ym Y) (ym Y 0) F I := mA_fc (Y := Y) hF1
      refine T_X9_load (F0 := F1) (I0 := I1) hM1 Fr.rf (fun F2 I2 hF2 h => ?_) (by rw [eA]; exact hm (fun A2 => A2 = A') rfl)
      have hA2 := h
      have ht : F2 1000 (ym Y 0) = 1 := by
        have := congrFun (congrFun hA2 0) 0
        exact this.trans h0
      refine ⟨hM1.1, ?_⟩
      refine ⟨fun _ => ?_, fun c9 => absurd ht c9⟩
      exact hk _ _ _ (lj_end hz hL hC1 (cg_thr hC1 (by omega) (by omega)) ha hb hR1 (by omega) (z := 0) (Or.inr rfl) hF2 hA2)
    · refine Or.inr (⟨rfl, ?_⟩)
      have hM1 : Ms (ym Y 0) (ym Y) (thr S1) := Lm.ms (Y := dn Y) hL (cg_thr hC1 (by omega) (by omega))
      refine ⟨by omega, by omega, by omega, by omega, hM1.1, ?_⟩
      have eA : mA (ym Y) (ym Y 0) F1 I1 = mA (ym Y) (ym Y 0) F I := mA_fc (Y := Y) hF1
      refine T_X9_load (F0 := F1) (I0 := I1) hM1 Fr.rf (fun F2 I2 hF2 h => ?_) (by rw [eA]; exact hm (fun A2 => A2 = A') rfl)
      have hA2 := h
      have ht : F2 1000 (ym Y 0) = 2 := by
        have := congrFun (congrFun hA2 0) 0
        exact this.trans h0
      refine ⟨hM1.1, ?_⟩
      refine ⟨fun _ => ?_, fun c9 => absurd ht c9⟩
      exact hk _ _ _ (lj_end hz hL hC1 (cg_thr hC1 (by omega) (by omega)) ha hb hR1 (by omega) (z := 0) (Or.inr rfl) hF2 hA2)
set_option maxRecDepth 20000 in
set_option maxHeartbeats 4000000 in
theorem law_unload {n : Nat} {G : Gp} {ln : Int} {scr : Int → Int} {k23 : Nat → Nat → Nat → Int → Shp → Fl → Il → Prop} {x1 x2 x3 : Nat} {x4 : Int} {S : Shp} {F : Fl} {I : Il} {Q : Int → Shp → Fl → Il → Prop} (hI : LJ (n + 1) G x1 x2 x3 S F I) (hs : ∀ z, rg (scr z)) (h4 : 0 ≤ x4) (h5 : x4 + 4 < ln) (h6 : ln ≤ 2560) (hk : ∀ (S' : Shp) (F' : Fl) (I' : Il), LJ n G x1 x2 x3 S' F' I' → k23 x1 x2 x3 (w32 (x4 + 5)) S' F' I') : V_L_law_1906 G ln scr k23 x1 x2 x3 x4 S F I Q := by
  obtain ⟨Y, it, LN, rfl, rfl, rfl, hz, hL, hC, ha, hb, hR, hp⟩ := hI
  unfold V_L_law_1906
  have e1 : w32 (x4 + 1) = x4 + 1 := w32_id (by unfold rg; omega)
  try rw [e1]
  refine ⟨by omega, by omega, ?_⟩
  unfold V_L_unload
  refine ⟨Cg.k hC rfl (by decide), ?_⟩
  obtain ⟨ans, A', hm, hpz, hW⟩ := sim_unload (a0 := scr (x4 + 1)) hR (by omega) (hs _)
  refine T_X8_unload (F0 := F) (I0 := I) hC Fc.rf (fun z it1 LN1 S1 F1 I1 hC1 hF1 h => ?_) (fun X9 it1 LN1 S1 F1 I1 hC1 hF1 h => ?_) hW
  · obtain ⟨h0, rfl, hR1⟩ := h
    refine ⟨(hL.out hC1).1, by decide, (hL.out hC1).2, ?_⟩
    have hM1 : Ms (ym Y 0) (ym Y) S1 := hL.ms hC1
    refine ⟨by omega, by omega, hM1.1, ?_⟩
    have eA : mA (ym Y) (ym Y 0) F1 (ui I1 (yo Y) 0 z) = mA (ym Y) (ym Y 0) F I := (mA_out hL).trans (mA_fc (Y := Y) hF1)
    refine T_X9_unload (F0 := F1) (I0 := (ui I1 (yo Y) 0 z)) hM1 Fr.rf (fun z2 F2 I2 hF2 h => ?_) (by rw [eA]; exact hm (fun b A2 => b = z ∧ A2 = A') ⟨rfl, rfl⟩)
    obtain ⟨rfl, hA2⟩ := h
    have ht : F2 1000 (ym Y 0) = 0 := by
      have := congrFun (congrFun hA2 0) 0
      exact this.trans h0
    refine ⟨hM1.1, ?_⟩
    refine ⟨fun _ => ⟨fun c9 => absurd rfl c9, fun _ => ⟨(hL.out hC1).1, by decide, (hL.out hC1).2, fun _ => ?_, fun c9 => absurd ?_ c9⟩⟩, fun c9 => absurd ht c9⟩
    · exact hk _ _ _ (lj_end hz hL hC1 (cg_dn0 hC1 (by omega) (by omega)) ha hb hR1 (by omega) (Or.inl rfl) hF2 hA2)
    · rw [hF2.2 (yo Y) (fun k hk9 => ((hL.ne.1 k hk9).1).symm), show ui _ (yo Y) 0 _ (yo Y) 0 = _ from ui_s, icmp_eq]
  · obtain ⟨hx9, hR1⟩ := h
    rcases hx9 with ⟨rfl, h0⟩ | ⟨rfl, h0⟩
    · refine Or.inl ⟨rfl, ?_⟩
      have hM1 : Ms (ym Y 0) (ym Y) (thr S1) := Lm.ms (Y := dn Y) hL (cg_thr hC1 (by omega) (by omega))
      refine ⟨by omega, by omega, hM1.1, ?_⟩
      have eA : mA (ym Y) (ym Y 0) F1 I1 = mA (ym Y) (ym Y 0) F I := mA_fc (Y := Y) hF1
      refine T_X9_unload (F0 := F1) (I0 := I1) hM1 Fr.rf (fun z2 F2 I2 hF2 h => ?_) (by rw [eA]; exact hm (fun b A2 => b = ans ∧ A2 = A') ⟨rfl, rfl⟩)
      obtain ⟨rfl, hA2⟩ := h
      have ht : F2 1000 (ym Y 0) = 1 := by
        have := congrFun (congrFun hA2 0) 0
        exact this.trans h0
      refine ⟨hM1.1, ?_⟩
      refine ⟨fun _ => ⟨fun _ => ?_, fun c9 => absurd c9 (by decide)⟩, fun c9 => absurd ht c9⟩
      exact hk _ _ _ (lj_end hz hL hC1 (cg_thr hC1 (by omega) (by omega)) ha hb hR1 (by omega) (z := 0) (Or.inr rfl) hF2 hA2)
    · refine Or.inr (⟨rfl, ?_⟩)
      have hM1 : Ms (ym Y 0) (ym Y) (thr S1) := Lm.ms (Y := dn Y) hL (cg_thr hC1 (by omega) (by omega))
      refine ⟨by omega, by omega, hM1.1, ?_⟩
      have eA : mA (ym Y) (ym Y 0) F1 I1 = mA (ym Y) (ym Y 0) F I := mA_fc (Y := Y) hF1
      refine T_X9_unload (F0 := F1) (I0 := I1) hM1 Fr.rf (fun z2 F2 I2 hF2 h => ?_) (by rw [eA]; exact hm (fun b A2 => b = ans ∧ A2 = A') ⟨rfl, rfl⟩)
      obtain ⟨rfl, hA2⟩ := h
      have ht : F2 1000 (ym Y 0) = 2 := by
        have := congrFun (congrFun hA2 0) 0
        exact this.trans h0
      refine ⟨hM1.1, ?_⟩
      refine ⟨fun _ => ⟨fun _ => ?_, fun c9 => absurd c9 (by decide)⟩, fun c9 => absurd ht c9⟩
      exact hk _ _ _ (lj_end hz hL hC1 (cg_thr hC1 (by omega) (by omega)) ha hb hR1 (by omega) (z := 0) (Or.inr rfl) hF2 hA2)
set_option maxRecDepth 20000 in
set_option maxHeartbeats 4000000 in
theorem law_sort {n : Nat} {G : Gp} {ln : Int} {scr : Int → Int} {k23 : Nat → Nat → Nat → Int → Shp → Fl → Il → Prop} {x1 x2 x3 : Nat} {x4 : Int} {S : Shp} {F : Fl} {I : Il} {Q : Int → Shp → Fl → Il → Prop} (hI : LJ (n + 1) G x1 x2 x3 S F I) (hs : ∀ z, rg (scr z)) (h4 : 0 ≤ x4) (h5 : x4 + 4 < ln) (h6 : ln ≤ 2560) (hk : ∀ (S' : Shp) (F' : Fl) (I' : Il), LJ n G x1 x2 x3 S' F' I' → k23 x1 x2 x3 (w32 (x4 + 5)) S' F' I') : V_L_law_1962 G ln scr k23 x1 x2 x3 x4 S F I Q := by
  obtain ⟨Y, it, LN, rfl, rfl, rfl, hz, hL, hC, ha, hb, hR, hp⟩ := hI
  unfold V_L_law_1962
  have e1 : w32 (x4 + 1) = x4 + 1 := w32_id (by unfold rg; omega)
  try rw [e1]
  refine ⟨by omega, by omega, ?_⟩
  unfold V_L_sort
  refine ⟨Cg.k hC rfl (by decide), ?_⟩
  obtain ⟨ans, A', hm, hpz, hW⟩ := sim_sort (a0 := scr (x4 + 1)) hR (by omega) (hs _)
  refine T_X8_sort (F0 := F) (I0 := I) hC Fc.rf (fun z it1 LN1 S1 F1 I1 hC1 hF1 h => ?_) (fun X9 it1 LN1 S1 F1 I1 hC1 hF1 h => ?_) hW
  · obtain ⟨h0, rfl, hR1⟩ := h
    refine ⟨(hL.out hC1).1, by decide, (hL.out hC1).2, ?_⟩
    have hM1 : Ms (ym Y 0) (ym Y) S1 := hL.ms hC1
    refine ⟨by omega, by omega, hM1.1, ?_⟩
    have eA : mA (ym Y) (ym Y 0) F1 (ui I1 (yo Y) 0 z) = mA (ym Y) (ym Y 0) F I := (mA_out hL).trans (mA_fc (Y := Y) hF1)
    refine T_X9_sort (F0 := F1) (I0 := (ui I1 (yo Y) 0 z)) hM1 Fr.rf (fun z2 F2 I2 hF2 h => ?_) (by rw [eA]; exact hm (fun b A2 => b = z ∧ A2 = A') ⟨rfl, rfl⟩)
    obtain ⟨rfl, hA2⟩ := h
    have ht : F2 1000 (ym Y 0) = 0 := by
      have := congrFun (congrFun hA2 0) 0
      exact this.trans h0
    refine ⟨hM1.1, ?_⟩
    refine ⟨fun _ => ⟨fun c9 => absurd rfl c9, fun _ => ⟨(hL.out hC1).1, by decide, (hL.out hC1).2, fun _ => ?_, fun c9 => absurd ?_ c9⟩⟩, fun c9 => absurd ht c9⟩
    · exact hk _ _ _ (lj_end hz hL hC1 (cg_dn0 hC1 (by omega) (by omega)) ha hb hR1 (by omega) (Or.inl rfl) hF2 hA2)
    · rw [hF2.2 (yo Y) (fun k hk9 => ((hL.ne.1 k hk9).1).symm), show ui _ (yo Y) 0 _ (yo Y) 0 = _ from ui_s, icmp_eq]
  · obtain ⟨hx9, hR1⟩ := h
    rcases hx9 with ⟨rfl, h0⟩
    · refine ⟨rfl, ?_⟩
      have hM1 : Ms (ym Y 0) (ym Y) (thr S1) := Lm.ms (Y := dn Y) hL (cg_thr hC1 (by omega) (by omega))
      refine ⟨by omega, by omega, hM1.1, ?_⟩
      have eA : mA (ym Y) (ym Y 0) F1 I1 = mA (ym Y) (ym Y 0) F I := mA_fc (Y := Y) hF1
      refine T_X9_sort (F0 := F1) (I0 := I1) hM1 Fr.rf (fun z2 F2 I2 hF2 h => ?_) (by rw [eA]; exact hm (fun b A2 => b = ans ∧ A2 = A') ⟨rfl, rfl⟩)
      obtain ⟨rfl, hA2⟩ := h
      have ht : F2 1000 (ym Y 0) = 1 := by
        have := congrFun (congrFun hA2 0) 0
        exact this.trans h0
      refine ⟨hM1.1, ?_⟩
      refine ⟨fun _ => ⟨fun _ => ?_, fun c9 => absurd c9 (by decide)⟩, fun c9 => absurd ht c9⟩
      exact hk _ _ _ (lj_end hz hL hC1 (cg_thr hC1 (by omega) (by omega)) ha hb hR1 (by omega) (z := 0) (Or.inr rfl) hF2 hA2)
set_option maxRecDepth 20000 in
set_option maxHeartbeats 4000000 in
theorem law_clock {n : Nat} {G : Gp} {ln : Int} {scr : Int → Int} {k23 : Nat → Nat → Nat → Int → Shp → Fl → Il → Prop} {x1 x2 x3 : Nat} {x4 : Int} {S : Shp} {F : Fl} {I : Il} {Q : Int → Shp → Fl → Il → Prop} (hI : LJ (n + 1) G x1 x2 x3 S F I) (hs : ∀ z, rg (scr z)) (h4 : 0 ≤ x4) (h5 : x4 + 4 < ln) (h6 : ln ≤ 2560) (hk : ∀ (S' : Shp) (F' : Fl) (I' : Il), LJ n G x1 x2 x3 S' F' I' → k23 x1 x2 x3 (w32 (x4 + 5)) S' F' I') : V_L_law_2018 G ln scr k23 x1 x2 x3 x4 S F I Q := by
  obtain ⟨Y, it, LN, rfl, rfl, rfl, hz, hL, hC, ha, hb, hR, hp⟩ := hI
  unfold V_L_law_2018
  refine ⟨Cg.k hC rfl (by decide), ?_⟩
  obtain ⟨ans, A', hm, hpz, hW⟩ := sim_clock hR (by omega)
  refine T_X8_clock (F0 := F) (I0 := I) hC Fc.rf (fun z h => ?_) hW
  obtain ⟨h0, rfl, hR1⟩ := h
  refine ⟨(hL.ms hC).1, ?_⟩
  refine T_X9_clock (F0 := F) (I0 := I) (hL.ms hC) Fr.rf (fun z2 F2 hF2 h => ?_) (hm (fun b A2 => b = z ∧ A2 = A') ⟨rfl, rfl⟩)
  obtain ⟨rfl, hA2⟩ := h
  refine ⟨fun _ => ?_, fun c9 => absurd rfl c9⟩
  exact hk _ _ _ (lj_end hz hL hC (cg_dn0 hC (by omega) (by omega)) ha hb hR1 (by omega) (z := 0) (Or.inr rfl) hF2 hA2)
set_option maxRecDepth 20000 in
set_option maxHeartbeats 4000000 in
theorem law_cash {n : Nat} {G : Gp} {ln : Int} {scr : Int → Int} {k23 : Nat → Nat → Nat → Int → Shp → Fl → Il → Prop} {x1 x2 x3 : Nat} {x4 : Int} {S : Shp} {F : Fl} {I : Il} {Q : Int → Shp → Fl → Il → Prop} (hI : LJ (n + 1) G x1 x2 x3 S F I) (hs : ∀ z, rg (scr z)) (h4 : 0 ≤ x4) (h5 : x4 + 4 < ln) (h6 : ln ≤ 2560) (hk : ∀ (S' : Shp) (F' : Fl) (I' : Il), LJ n G x1 x2 x3 S' F' I' → k23 x1 x2 x3 (w32 (x4 + 5)) S' F' I') : V_L_law_2031 G ln scr k23 x1 x2 x3 x4 S F I Q := by
  obtain ⟨Y, it, LN, rfl, rfl, rfl, hz, hL, hC, ha, hb, hR, hp⟩ := hI
  unfold V_L_law_2031
  refine ⟨Cg.k hC rfl (by decide), ?_⟩
  obtain ⟨ans, A', hm, hpz, hW⟩ := sim_cash hR (by omega)
  refine T_X8_cash (F0 := F) (I0 := I) hC Fc.rf (fun z h => ?_) hW
  obtain ⟨h0, rfl, hR1⟩ := h
  refine ⟨(hL.ms hC).1, ?_⟩
  refine T_X9_cash (F0 := F) (I0 := I) (hL.ms hC) Fr.rf (fun z2 F2 hF2 h => ?_) (hm (fun b A2 => b = z ∧ A2 = A') ⟨rfl, rfl⟩)
  obtain ⟨rfl, hA2⟩ := h
  refine ⟨fun _ => ?_, fun c9 => absurd rfl c9⟩
  exact hk _ _ _ (lj_end hz hL hC (cg_dn0 hC (by omega) (by omega)) ha hb hR1 (by omega) (z := 0) (Or.inr rfl) hF2 hA2)
set_option maxRecDepth 20000 in
set_option maxHeartbeats 4000000 in
theorem law_debt {n : Nat} {G : Gp} {ln : Int} {scr : Int → Int} {k23 : Nat → Nat → Nat → Int → Shp → Fl → Il → Prop} {x1 x2 x3 : Nat} {x4 : Int} {S : Shp} {F : Fl} {I : Il} {Q : Int → Shp → Fl → Il → Prop} (hI : LJ (n + 1) G x1 x2 x3 S F I) (hs : ∀ z, rg (scr z)) (h4 : 0 ≤ x4) (h5 : x4 + 4 < ln) (h6 : ln ≤ 2560) (hk : ∀ (S' : Shp) (F' : Fl) (I' : Il), LJ n G x1 x2 x3 S' F' I' → k23 x1 x2 x3 (w32 (x4 + 5)) S' F' I') : V_L_law_2044 G ln scr k23 x1 x2 x3 x4 S F I Q := by
  obtain ⟨Y, it, LN, rfl, rfl, rfl, hz, hL, hC, ha, hb, hR, hp⟩ := hI
  unfold V_L_law_2044
  refine ⟨Cg.k hC rfl (by decide), ?_⟩
  obtain ⟨ans, A', hm, hpz, hW⟩ := sim_debt hR (by omega)
  refine T_X8_debt (F0 := F) (I0 := I) hC Fc.rf (fun z h => ?_) hW
  obtain ⟨h0, rfl, hR1⟩ := h
  refine ⟨(hL.ms hC).1, ?_⟩
  refine T_X9_debt (F0 := F) (I0 := I) (hL.ms hC) Fr.rf (fun z2 F2 hF2 h => ?_) (hm (fun b A2 => b = z ∧ A2 = A') ⟨rfl, rfl⟩)
  obtain ⟨rfl, hA2⟩ := h
  refine ⟨fun _ => ?_, fun c9 => absurd rfl c9⟩
  exact hk _ _ _ (lj_end hz hL hC (cg_dn0 hC (by omega) (by omega)) ha hb hR1 (by omega) (z := 0) (Or.inr rfl) hF2 hA2)
set_option maxRecDepth 20000 in
set_option maxHeartbeats 4000000 in
theorem law_broken {n : Nat} {G : Gp} {ln : Int} {scr : Int → Int} {k23 : Nat → Nat → Nat → Int → Shp → Fl → Il → Prop} {x1 x2 x3 : Nat} {x4 : Int} {S : Shp} {F : Fl} {I : Il} {Q : Int → Shp → Fl → Il → Prop} (hI : LJ (n + 1) G x1 x2 x3 S F I) (hs : ∀ z, rg (scr z)) (h4 : 0 ≤ x4) (h5 : x4 + 4 < ln) (h6 : ln ≤ 2560) (hk : ∀ (S' : Shp) (F' : Fl) (I' : Il), LJ n G x1 x2 x3 S' F' I' → k23 x1 x2 x3 (w32 (x4 + 5)) S' F' I') : V_L_law_2057 G ln scr k23 x1 x2 x3 x4 S F I Q := by
  obtain ⟨Y, it, LN, rfl, rfl, rfl, hz, hL, hC, ha, hb, hR, hp⟩ := hI
  unfold V_L_law_2057
  refine ⟨Cg.k hC rfl (by decide), ?_⟩
  obtain ⟨ans, A', hm, hpz, hW⟩ := sim_broken hR (by omega)
  refine T_X8_broken (F0 := F) (I0 := I) hC Fc.rf (fun z h => ?_) hW
  obtain ⟨h0, rfl, hR1⟩ := h
  refine ⟨(hL.ms hC).1, ?_⟩
  refine T_X9_broken (F0 := F) (I0 := I) (hL.ms hC) Fr.rf (fun z2 F2 hF2 h => ?_) (hm (fun b A2 => b = z ∧ A2 = A') ⟨rfl, rfl⟩)
  obtain ⟨rfl, hA2⟩ := h
  refine ⟨fun _ => ?_, fun c9 => absurd rfl c9⟩
  exact hk _ _ _ (lj_end hz hL hC (cg_dn0 hC (by omega) (by omega)) ha hb hR1 (by omega) (z := 0) (Or.inr rfl) hF2 hA2)
set_option maxRecDepth 20000 in
set_option maxHeartbeats 4000000 in
theorem law_freeTracks {n : Nat} {G : Gp} {ln : Int} {scr : Int → Int} {k23 : Nat → Nat → Nat → Int → Shp → Fl → Il → Prop} {x1 x2 x3 : Nat} {x4 : Int} {S : Shp} {F : Fl} {I : Il} {Q : Int → Shp → Fl → Il → Prop} (hI : LJ (n + 1) G x1 x2 x3 S F I) (hs : ∀ z, rg (scr z)) (h4 : 0 ≤ x4) (h5 : x4 + 4 < ln) (h6 : ln ≤ 2560) (hk : ∀ (S' : Shp) (F' : Fl) (I' : Il), LJ n G x1 x2 x3 S' F' I' → k23 x1 x2 x3 (w32 (x4 + 5)) S' F' I') : V_L_law_2070 G ln scr k23 x1 x2 x3 x4 S F I Q := by
  obtain ⟨Y, it, LN, rfl, rfl, rfl, hz, hL, hC, ha, hb, hR, hp⟩ := hI
  unfold V_L_law_2070
  have e1 : w32 (x4 + 1) = x4 + 1 := w32_id (by unfold rg; omega)
  try rw [e1]
  refine ⟨by omega, by omega, ?_⟩
  unfold V_L_freeTracks
  refine ⟨Cg.k hC rfl (by decide), ?_⟩
  obtain ⟨ans, A', hm, hpz, hW⟩ := sim_freeTracks (a0 := scr (x4 + 1)) hR (by omega) (hs _)
  refine T_X8_freeTracks (F0 := F) (I0 := I) hC Fc.rf (fun z h => ?_) (fun X9 F1 I1 hF1 h => ?_) hW
  · obtain ⟨h0, rfl, hR1⟩ := h
    refine ⟨(hL.out hC).1, by decide, (hL.out hC).2, ?_⟩
    have hM1 : Ms (ym Y 0) (ym Y) S := hL.ms hC
    refine ⟨by omega, by omega, hM1.1, ?_⟩
    have eA : mA (ym Y) (ym Y 0) F (ui I (yo Y) 0 z) = mA (ym Y) (ym Y 0) F I := (mA_out hL).trans (mA_fc (Y := Y) Fc.rf)
    refine T_X9_freeTracks (F0 := F) (I0 := (ui I (yo Y) 0 z)) hM1 Fr.rf (fun z2 F2 hF2 h => ?_) (by rw [eA]; exact hm (fun b A2 => b = z ∧ A2 = A') ⟨rfl, rfl⟩)
    obtain ⟨rfl, hA2⟩ := h
    have ht : F2 1000 (ym Y 0) = 0 := by
      have := congrFun (congrFun hA2 0) 0
      exact this.trans h0
    refine ⟨hM1.1, ?_⟩
    refine ⟨fun _ => ⟨fun c9 => absurd rfl c9, fun _ => ⟨(hL.out hC).1, by decide, (hL.out hC).2, fun _ => ?_, fun c9 => absurd ?_ c9⟩⟩, fun c9 => absurd ht c9⟩
    · exact hk _ _ _ (lj_end hz hL hC (cg_dn0 hC (by omega) (by omega)) ha hb hR1 (by omega) (Or.inl rfl) hF2 hA2)
    · rw [show ui _ (yo Y) 0 _ (yo Y) 0 = _ from ui_s, icmp_eq]
  · obtain ⟨hx9, hR1⟩ := h
    rcases hx9 with ⟨rfl, h0⟩
    · refine ⟨rfl, ?_⟩
      have hM1 : Ms (ym Y 0) (ym Y) (thr S) := Lm.ms (Y := dn Y) hL (cg_thr hC (by omega) (by omega))
      refine ⟨by omega, by omega, hM1.1, ?_⟩
      have eA : mA (ym Y) (ym Y 0) F1 I1 = mA (ym Y) (ym Y 0) F I := mA_fc (Y := Y) hF1
      refine T_X9_freeTracks (F0 := F1) (I0 := I1) hM1 Fr.rf (fun z2 F2 hF2 h => ?_) (by rw [eA]; exact hm (fun b A2 => b = ans ∧ A2 = A') ⟨rfl, rfl⟩)
      obtain ⟨rfl, hA2⟩ := h
      have ht : F2 1000 (ym Y 0) = 1 := by
        have := congrFun (congrFun hA2 0) 0
        exact this.trans h0
      refine ⟨hM1.1, ?_⟩
      refine ⟨fun _ => ⟨fun _ => ?_, fun c9 => absurd c9 (by decide)⟩, fun c9 => absurd ht c9⟩
      exact hk _ _ _ (lj_end hz hL hC (cg_thr hC (by omega) (by omega)) ha hb hR1 (by omega) (z := 0) (Or.inr rfl) hF2 hA2)
set_option maxRecDepth 20000 in
set_option maxHeartbeats 4000000 in
theorem law_holder {n : Nat} {G : Gp} {ln : Int} {scr : Int → Int} {k23 : Nat → Nat → Nat → Int → Shp → Fl → Il → Prop} {x1 x2 x3 : Nat} {x4 : Int} {S : Shp} {F : Fl} {I : Il} {Q : Int → Shp → Fl → Il → Prop} (hI : LJ (n + 1) G x1 x2 x3 S F I) (hs : ∀ z, rg (scr z)) (h4 : 0 ≤ x4) (h5 : x4 + 4 < ln) (h6 : ln ≤ 2560) (hk : ∀ (S' : Shp) (F' : Fl) (I' : Il), LJ n G x1 x2 x3 S' F' I' → k23 x1 x2 x3 (w32 (x4 + 5)) S' F' I') : V_L_law_2126 G ln scr k23 x1 x2 x3 x4 S F I Q := by
  obtain ⟨Y, it, LN, rfl, rfl, rfl, hz, hL, hC, ha, hb, hR, hp⟩ := hI
  unfold V_L_law_2126
  have e1 : w32 (x4 + 1) = x4 + 1 := w32_id (by unfold rg; omega)
  try rw [e1]
  refine ⟨by omega, by omega, ?_⟩
  unfold V_L_holder
  refine ⟨Cg.k hC rfl (by decide), ?_⟩
  obtain ⟨ans, A', hm, hpz, hW⟩ := sim_holder (a0 := scr (x4 + 1)) hR (by omega) (hs _)
  refine T_X8_holder (F0 := F) (I0 := I) hC Fc.rf (fun z h => ?_) (fun X9 F1 I1 hF1 h => ?_) hW
  · obtain ⟨h0, rfl, hR1⟩ := h
    refine ⟨(hL.out hC).1, by decide, (hL.out hC).2, ?_⟩
    have hM1 : Ms (ym Y 0) (ym Y) S := hL.ms hC
    refine ⟨by omega, by omega, hM1.1, ?_⟩
    have eA : mA (ym Y) (ym Y 0) F (ui I (yo Y) 0 z) = mA (ym Y) (ym Y 0) F I := (mA_out hL).trans (mA_fc (Y := Y) Fc.rf)
    refine T_X9_holder (F0 := F) (I0 := (ui I (yo Y) 0 z)) hM1 Fr.rf (fun z2 F2 hF2 h => ?_) (by rw [eA]; exact hm (fun b A2 => b = z ∧ A2 = A') ⟨rfl, rfl⟩)
    obtain ⟨rfl, hA2⟩ := h
    have ht : F2 1000 (ym Y 0) = 0 := by
      have := congrFun (congrFun hA2 0) 0
      exact this.trans h0
    refine ⟨hM1.1, ?_⟩
    refine ⟨fun _ => ⟨fun c9 => absurd rfl c9, fun _ => ⟨(hL.out hC).1, by decide, (hL.out hC).2, fun _ => ?_, fun c9 => absurd ?_ c9⟩⟩, fun c9 => absurd ht c9⟩
    · exact hk _ _ _ (lj_end hz hL hC (cg_dn0 hC (by omega) (by omega)) ha hb hR1 (by omega) (Or.inl rfl) hF2 hA2)
    · rw [show ui _ (yo Y) 0 _ (yo Y) 0 = _ from ui_s, icmp_eq]
  · obtain ⟨hx9, hR1⟩ := h
    rcases hx9 with ⟨rfl, h0⟩
    · refine ⟨rfl, ?_⟩
      have hM1 : Ms (ym Y 0) (ym Y) (thr S) := Lm.ms (Y := dn Y) hL (cg_thr hC (by omega) (by omega))
      refine ⟨by omega, by omega, hM1.1, ?_⟩
      have eA : mA (ym Y) (ym Y 0) F1 I1 = mA (ym Y) (ym Y 0) F I := mA_fc (Y := Y) hF1
      refine T_X9_holder (F0 := F1) (I0 := I1) hM1 Fr.rf (fun z2 F2 hF2 h => ?_) (by rw [eA]; exact hm (fun b A2 => b = ans ∧ A2 = A') ⟨rfl, rfl⟩)
      obtain ⟨rfl, hA2⟩ := h
      have ht : F2 1000 (ym Y 0) = 1 := by
        have := congrFun (congrFun hA2 0) 0
        exact this.trans h0
      refine ⟨hM1.1, ?_⟩
      refine ⟨fun _ => ⟨fun _ => ?_, fun c9 => absurd c9 (by decide)⟩, fun c9 => absurd ht c9⟩
      exact hk _ _ _ (lj_end hz hL hC (cg_thr hC (by omega) (by omega)) ha hb hR1 (by omega) (z := 0) (Or.inr rfl) hF2 hA2)
set_option maxRecDepth 20000 in
set_option maxHeartbeats 4000000 in
theorem law_holderByTrains {n : Nat} {G : Gp} {ln : Int} {scr : Int → Int} {k23 : Nat → Nat → Nat → Int → Shp → Fl → Il → Prop} {x1 x2 x3 : Nat} {x4 : Int} {S : Shp} {F : Fl} {I : Il} {Q : Int → Shp → Fl → Il → Prop} (hI : LJ (n + 1) G x1 x2 x3 S F I) (hs : ∀ z, rg (scr z)) (h4 : 0 ≤ x4) (h5 : x4 + 4 < ln) (h6 : ln ≤ 2560) (hk : ∀ (S' : Shp) (F' : Fl) (I' : Il), LJ n G x1 x2 x3 S' F' I' → k23 x1 x2 x3 (w32 (x4 + 5)) S' F' I') : V_L_law_2182 G ln scr k23 x1 x2 x3 x4 S F I Q := by
  obtain ⟨Y, it, LN, rfl, rfl, rfl, hz, hL, hC, ha, hb, hR, hp⟩ := hI
  unfold V_L_law_2182
  have e1 : w32 (x4 + 1) = x4 + 1 := w32_id (by unfold rg; omega)
  try rw [e1]
  refine ⟨by omega, by omega, ?_⟩
  unfold V_L_holderByTrains
  refine ⟨Cg.k hC rfl (by decide), ?_⟩
  obtain ⟨ans, A', hm, hpz, hW⟩ := sim_holderByTrains (a0 := scr (x4 + 1)) hR (by omega) (hs _)
  refine T_X8_holderByTrains (F0 := F) (I0 := I) hC Fc.rf (fun z h => ?_) (fun X9 F1 I1 hF1 h => ?_) hW
  · obtain ⟨h0, rfl, hR1⟩ := h
    refine ⟨(hL.out hC).1, by decide, (hL.out hC).2, ?_⟩
    have hM1 : Ms (ym Y 0) (ym Y) S := hL.ms hC
    refine ⟨by omega, by omega, hM1.1, ?_⟩
    have eA : mA (ym Y) (ym Y 0) F (ui I (yo Y) 0 z) = mA (ym Y) (ym Y 0) F I := (mA_out hL).trans (mA_fc (Y := Y) Fc.rf)
    refine T_X9_holderByTrains (F0 := F) (I0 := (ui I (yo Y) 0 z)) hM1 Fr.rf (fun z2 F2 hF2 h => ?_) (by rw [eA]; exact hm (fun b A2 => b = z ∧ A2 = A') ⟨rfl, rfl⟩)
    obtain ⟨rfl, hA2⟩ := h
    have ht : F2 1000 (ym Y 0) = 0 := by
      have := congrFun (congrFun hA2 0) 0
      exact this.trans h0
    refine ⟨hM1.1, ?_⟩
    refine ⟨fun _ => ⟨fun c9 => absurd rfl c9, fun _ => ⟨(hL.out hC).1, by decide, (hL.out hC).2, fun _ => ?_, fun c9 => absurd ?_ c9⟩⟩, fun c9 => absurd ht c9⟩
    · exact hk _ _ _ (lj_end hz hL hC (cg_dn0 hC (by omega) (by omega)) ha hb hR1 (by omega) (Or.inl rfl) hF2 hA2)
    · rw [show ui _ (yo Y) 0 _ (yo Y) 0 = _ from ui_s, icmp_eq]
  · obtain ⟨hx9, hR1⟩ := h
    rcases hx9 with ⟨rfl, h0⟩
    · refine ⟨rfl, ?_⟩
      have hM1 : Ms (ym Y 0) (ym Y) (thr S) := Lm.ms (Y := dn Y) hL (cg_thr hC (by omega) (by omega))
      refine ⟨by omega, by omega, hM1.1, ?_⟩
      have eA : mA (ym Y) (ym Y 0) F1 I1 = mA (ym Y) (ym Y 0) F I := mA_fc (Y := Y) hF1
      refine T_X9_holderByTrains (F0 := F1) (I0 := I1) hM1 Fr.rf (fun z2 F2 hF2 h => ?_) (by rw [eA]; exact hm (fun b A2 => b = ans ∧ A2 = A') ⟨rfl, rfl⟩)
      obtain ⟨rfl, hA2⟩ := h
      have ht : F2 1000 (ym Y 0) = 1 := by
        have := congrFun (congrFun hA2 0) 0
        exact this.trans h0
      refine ⟨hM1.1, ?_⟩
      refine ⟨fun _ => ⟨fun _ => ?_, fun c9 => absurd c9 (by decide)⟩, fun c9 => absurd ht c9⟩
      exact hk _ _ _ (lj_end hz hL hC (cg_thr hC (by omega) (by omega)) ha hb hR1 (by omega) (z := 0) (Or.inr rfl) hF2 hA2)
set_option maxRecDepth 20000 in
set_option maxHeartbeats 4000000 in
theorem law_block {n : Nat} {G : Gp} {ln : Int} {scr : Int → Int} {k23 : Nat → Nat → Nat → Int → Shp → Fl → Il → Prop} {x1 x2 x3 : Nat} {x4 : Int} {S : Shp} {F : Fl} {I : Il} {Q : Int → Shp → Fl → Il → Prop} (hI : LJ (n + 1) G x1 x2 x3 S F I) (hs : ∀ z, rg (scr z)) (h4 : 0 ≤ x4) (h5 : x4 + 4 < ln) (h6 : ln ≤ 2560) (hk : ∀ (S' : Shp) (F' : Fl) (I' : Il), LJ n G x1 x2 x3 S' F' I' → k23 x1 x2 x3 (w32 (x4 + 5)) S' F' I') : V_L_law_2238 G ln scr k23 x1 x2 x3 x4 S F I Q := by
  obtain ⟨Y, it, LN, rfl, rfl, rfl, hz, hL, hC, ha, hb, hR, hp⟩ := hI
  unfold V_L_law_2238
  have e1 : w32 (x4 + 1) = x4 + 1 := w32_id (by unfold rg; omega)
  have e2 : w32 (x4 + 2) = x4 + 2 := w32_id (by unfold rg; omega)
  try rw [e1]
  try rw [e2]
  refine ⟨by omega, by omega, by omega, by omega, ?_⟩
  unfold V_L_block
  refine ⟨Cg.k hC rfl (by decide), ?_⟩
  obtain ⟨ans, A', hm, hpz, hW⟩ := sim_block (a0 := scr (x4 + 1)) (a1 := scr (x4 + 2)) hR (by omega) (hs _) (hs _)
  refine T_X8_block (F0 := F) (I0 := I) hC Fc.rf (fun z h => ?_) (fun X9 F1 I1 hF1 h => ?_) hW
  · obtain ⟨h0, rfl, hR1⟩ := h
    refine ⟨(hL.out hC).1, by decide, (hL.out hC).2, ?_⟩
    have hM1 : Ms (ym Y 0) (ym Y) S := hL.ms hC
    refine ⟨by omega, by omega, by omega, by omega, hM1.1, ?_⟩
    have eA : mA (ym Y) (ym Y 0) F (ui I (yo Y) 0 z) = mA (ym Y) (ym Y 0) F I := (mA_out hL).trans (mA_fc (Y := Y) Fc.rf)
    refine T_X9_block (F0 := F) (I0 := (ui I (yo Y) 0 z)) hM1 Fr.rf (fun z2 F2 hF2 h => ?_) (by rw [eA]; exact hm (fun b A2 => b = z ∧ A2 = A') ⟨rfl, rfl⟩)
    obtain ⟨rfl, hA2⟩ := h
    have ht : F2 1000 (ym Y 0) = 0 := by
      have := congrFun (congrFun hA2 0) 0
      exact this.trans h0
    refine ⟨hM1.1, ?_⟩
    refine ⟨fun _ => ⟨fun c9 => absurd rfl c9, fun _ => ⟨(hL.out hC).1, by decide, (hL.out hC).2, fun _ => ?_, fun c9 => absurd ?_ c9⟩⟩, fun c9 => absurd ht c9⟩
    · exact hk _ _ _ (lj_end hz hL hC (cg_dn0 hC (by omega) (by omega)) ha hb hR1 (by omega) (Or.inl rfl) hF2 hA2)
    · rw [show ui _ (yo Y) 0 _ (yo Y) 0 = _ from ui_s, icmp_eq]
  · obtain ⟨hx9, hR1⟩ := h
    rcases hx9 with ⟨rfl, h0⟩
    · refine ⟨rfl, ?_⟩
      have hM1 : Ms (ym Y 0) (ym Y) (thr S) := Lm.ms (Y := dn Y) hL (cg_thr hC (by omega) (by omega))
      refine ⟨by omega, by omega, by omega, by omega, hM1.1, ?_⟩
      have eA : mA (ym Y) (ym Y 0) F1 I1 = mA (ym Y) (ym Y 0) F I := mA_fc (Y := Y) hF1
      refine T_X9_block (F0 := F1) (I0 := I1) hM1 Fr.rf (fun z2 F2 hF2 h => ?_) (by rw [eA]; exact hm (fun b A2 => b = ans ∧ A2 = A') ⟨rfl, rfl⟩)
      obtain ⟨rfl, hA2⟩ := h
      have ht : F2 1000 (ym Y 0) = 1 := by
        have := congrFun (congrFun hA2 0) 0
        exact this.trans h0
      refine ⟨hM1.1, ?_⟩
      refine ⟨fun _ => ⟨fun _ => ?_, fun c9 => absurd c9 (by decide)⟩, fun c9 => absurd ht c9⟩
      exact hk _ _ _ (lj_end hz hL hC (cg_thr hC (by omega) (by omega)) ha hb hR1 (by omega) (z := 0) (Or.inr rfl) hF2 hA2)
set_option maxRecDepth 20000 in
set_option maxHeartbeats 4000000 in
theorem law_train {n : Nat} {G : Gp} {ln : Int} {scr : Int → Int} {k23 : Nat → Nat → Nat → Int → Shp → Fl → Il → Prop} {x1 x2 x3 : Nat} {x4 : Int} {S : Shp} {F : Fl} {I : Il} {Q : Int → Shp → Fl → Il → Prop} (hI : LJ (n + 1) G x1 x2 x3 S F I) (hs : ∀ z, rg (scr z)) (h4 : 0 ≤ x4) (h5 : x4 + 4 < ln) (h6 : ln ≤ 2560) (hk : ∀ (S' : Shp) (F' : Fl) (I' : Il), LJ n G x1 x2 x3 S' F' I' → k23 x1 x2 x3 (w32 (x4 + 5)) S' F' I') : V_L_law_2306 G ln scr k23 x1 x2 x3 x4 S F I Q := by
  obtain ⟨Y, it, LN, rfl, rfl, rfl, hz, hL, hC, ha, hb, hR, hp⟩ := hI
  unfold V_L_law_2306
  have e1 : w32 (x4 + 1) = x4 + 1 := w32_id (by unfold rg; omega)
  have e2 : w32 (x4 + 2) = x4 + 2 := w32_id (by unfold rg; omega)
  try rw [e1]
  try rw [e2]
  refine ⟨by omega, by omega, by omega, by omega, ?_⟩
  unfold V_L_train
  refine ⟨Cg.k hC rfl (by decide), ?_⟩
  obtain ⟨ans, A', hm, hpz, hW⟩ := sim_train (a0 := scr (x4 + 1)) (a1 := scr (x4 + 2)) hR (by omega) (hs _) (hs _)
  refine T_X8_train (F0 := F) (I0 := I) hC Fc.rf (fun z h => ?_) (fun X9 F1 I1 hF1 h => ?_) hW
  · obtain ⟨h0, rfl, hR1⟩ := h
    refine ⟨(hL.out hC).1, by decide, (hL.out hC).2, ?_⟩
    have hM1 : Ms (ym Y 0) (ym Y) S := hL.ms hC
    refine ⟨by omega, by omega, by omega, by omega, hM1.1, ?_⟩
    have eA : mA (ym Y) (ym Y 0) F (ui I (yo Y) 0 z) = mA (ym Y) (ym Y 0) F I := (mA_out hL).trans (mA_fc (Y := Y) Fc.rf)
    refine T_X9_train (F0 := F) (I0 := (ui I (yo Y) 0 z)) hM1 Fr.rf (fun z2 F2 hF2 h => ?_) (by rw [eA]; exact hm (fun b A2 => b = z ∧ A2 = A') ⟨rfl, rfl⟩)
    obtain ⟨rfl, hA2⟩ := h
    have ht : F2 1000 (ym Y 0) = 0 := by
      have := congrFun (congrFun hA2 0) 0
      exact this.trans h0
    refine ⟨hM1.1, ?_⟩
    refine ⟨fun _ => ⟨fun c9 => absurd rfl c9, fun _ => ⟨(hL.out hC).1, by decide, (hL.out hC).2, fun _ => ?_, fun c9 => absurd ?_ c9⟩⟩, fun c9 => absurd ht c9⟩
    · exact hk _ _ _ (lj_end hz hL hC (cg_dn0 hC (by omega) (by omega)) ha hb hR1 (by omega) (Or.inl rfl) hF2 hA2)
    · rw [show ui _ (yo Y) 0 _ (yo Y) 0 = _ from ui_s, icmp_eq]
  · obtain ⟨hx9, hR1⟩ := h
    rcases hx9 with ⟨rfl, h0⟩
    · refine ⟨rfl, ?_⟩
      have hM1 : Ms (ym Y 0) (ym Y) (thr S) := Lm.ms (Y := dn Y) hL (cg_thr hC (by omega) (by omega))
      refine ⟨by omega, by omega, by omega, by omega, hM1.1, ?_⟩
      have eA : mA (ym Y) (ym Y 0) F1 I1 = mA (ym Y) (ym Y 0) F I := mA_fc (Y := Y) hF1
      refine T_X9_train (F0 := F1) (I0 := I1) hM1 Fr.rf (fun z2 F2 hF2 h => ?_) (by rw [eA]; exact hm (fun b A2 => b = ans ∧ A2 = A') ⟨rfl, rfl⟩)
      obtain ⟨rfl, hA2⟩ := h
      have ht : F2 1000 (ym Y 0) = 1 := by
        have := congrFun (congrFun hA2 0) 0
        exact this.trans h0
      refine ⟨hM1.1, ?_⟩
      refine ⟨fun _ => ⟨fun _ => ?_, fun c9 => absurd c9 (by decide)⟩, fun c9 => absurd ht c9⟩
      exact hk _ _ _ (lj_end hz hL hC (cg_thr hC (by omega) (by omega)) ha hb hR1 (by omega) (z := 0) (Or.inr rfl) hF2 hA2)
set_option maxRecDepth 20000 in
set_option maxHeartbeats 4000000 in
theorem law_barred {n : Nat} {G : Gp} {ln : Int} {scr : Int → Int} {k23 : Nat → Nat → Nat → Int → Shp → Fl → Il → Prop} {x1 x2 x3 : Nat} {x4 : Int} {S : Shp} {F : Fl} {I : Il} {Q : Int → Shp → Fl → Il → Prop} (hI : LJ (n + 1) G x1 x2 x3 S F I) (hs : ∀ z, rg (scr z)) (h4 : 0 ≤ x4) (h5 : x4 + 4 < ln) (h6 : ln ≤ 2560) (hk : ∀ (S' : Shp) (F' : Fl) (I' : Il), LJ n G x1 x2 x3 S' F' I' → k23 x1 x2 x3 (w32 (x4 + 5)) S' F' I') : V_L_law_2374 G ln scr k23 x1 x2 x3 x4 S F I Q := by
  obtain ⟨Y, it, LN, rfl, rfl, rfl, hz, hL, hC, ha, hb, hR, hp⟩ := hI
  unfold V_L_law_2374
  have e1 : w32 (x4 + 1) = x4 + 1 := w32_id (by unfold rg; omega)
  try rw [e1]
  refine ⟨by omega, by omega, ?_⟩
  unfold V_L_barred
  refine ⟨Cg.k hC rfl (by decide), ?_⟩
  obtain ⟨ans, A', hm, hpz, hW⟩ := sim_barred (a0 := scr (x4 + 1)) hR (by omega) (hs _)
  refine T_X8_barred (F0 := F) (I0 := I) hC Fc.rf (fun z h => ?_) (fun X9 F1 I1 hF1 h => ?_) hW
  · obtain ⟨h0, rfl, hR1⟩ := h
    refine ⟨(hL.out hC).1, by decide, (hL.out hC).2, ?_⟩
    have hM1 : Ms (ym Y 0) (ym Y) S := hL.ms hC
    refine ⟨by omega, by omega, hM1.1, ?_⟩
    have eA : mA (ym Y) (ym Y 0) F (ui I (yo Y) 0 z) = mA (ym Y) (ym Y 0) F I := (mA_out hL).trans (mA_fc (Y := Y) Fc.rf)
    refine T_X9_barred (F0 := F) (I0 := (ui I (yo Y) 0 z)) hM1 Fr.rf (fun z2 F2 hF2 h => ?_) (by rw [eA]; exact hm (fun b A2 => b = z ∧ A2 = A') ⟨rfl, rfl⟩)
    obtain ⟨rfl, hA2⟩ := h
    have ht : F2 1000 (ym Y 0) = 0 := by
      have := congrFun (congrFun hA2 0) 0
      exact this.trans h0
    refine ⟨hM1.1, ?_⟩
    refine ⟨fun _ => ⟨fun c9 => absurd rfl c9, fun _ => ⟨(hL.out hC).1, by decide, (hL.out hC).2, fun _ => ?_, fun c9 => absurd ?_ c9⟩⟩, fun c9 => absurd ht c9⟩
    · exact hk _ _ _ (lj_end hz hL hC (cg_dn0 hC (by omega) (by omega)) ha hb hR1 (by omega) (Or.inl rfl) hF2 hA2)
    · rw [show ui _ (yo Y) 0 _ (yo Y) 0 = _ from ui_s, icmp_eq]
  · obtain ⟨hx9, hR1⟩ := h
    rcases hx9 with ⟨rfl, h0⟩
    · refine ⟨rfl, ?_⟩
      have hM1 : Ms (ym Y 0) (ym Y) (thr S) := Lm.ms (Y := dn Y) hL (cg_thr hC (by omega) (by omega))
      refine ⟨by omega, by omega, hM1.1, ?_⟩
      have eA : mA (ym Y) (ym Y 0) F1 I1 = mA (ym Y) (ym Y 0) F I := mA_fc (Y := Y) hF1
      refine T_X9_barred (F0 := F1) (I0 := I1) hM1 Fr.rf (fun z2 F2 hF2 h => ?_) (by rw [eA]; exact hm (fun b A2 => b = ans ∧ A2 = A') ⟨rfl, rfl⟩)
      obtain ⟨rfl, hA2⟩ := h
      have ht : F2 1000 (ym Y 0) = 1 := by
        have := congrFun (congrFun hA2 0) 0
        exact this.trans h0
      refine ⟨hM1.1, ?_⟩
      refine ⟨fun _ => ⟨fun _ => ?_, fun c9 => absurd c9 (by decide)⟩, fun c9 => absurd ht c9⟩
      exact hk _ _ _ (lj_end hz hL hC (cg_thr hC (by omega) (by omega)) ha hb hR1 (by omega) (z := 0) (Or.inr rfl) hF2 hA2)
set_option maxRecDepth 20000 in
set_option maxHeartbeats 4000000 in
theorem law_duty {n : Nat} {G : Gp} {ln : Int} {scr : Int → Int} {k23 : Nat → Nat → Nat → Int → Shp → Fl → Il → Prop} {x1 x2 x3 : Nat} {x4 : Int} {S : Shp} {F : Fl} {I : Il} {Q : Int → Shp → Fl → Il → Prop} (hI : LJ (n + 1) G x1 x2 x3 S F I) (hs : ∀ z, rg (scr z)) (h4 : 0 ≤ x4) (h5 : x4 + 4 < ln) (h6 : ln ≤ 2560) (hk : ∀ (S' : Shp) (F' : Fl) (I' : Il), LJ n G x1 x2 x3 S' F' I' → k23 x1 x2 x3 (w32 (x4 + 5)) S' F' I') : V_L_law_2430 G ln scr k23 x1 x2 x3 x4 S F I Q := by
  obtain ⟨Y, it, LN, rfl, rfl, rfl, hz, hL, hC, ha, hb, hR, hp⟩ := hI
  unfold V_L_law_2430
  have e1 : w32 (x4 + 1) = x4 + 1 := w32_id (by unfold rg; omega)
  try rw [e1]
  refine ⟨by omega, by omega, ?_⟩
  unfold V_L_duty
  refine ⟨Cg.k hC rfl (by decide), ?_⟩
  obtain ⟨ans, A', hm, hpz, hW⟩ := sim_duty (a0 := scr (x4 + 1)) hR (by omega) (hs _)
  refine T_X8_duty (F0 := F) (I0 := I) hC Fc.rf (fun z h => ?_) (fun X9 F1 I1 hF1 h => ?_) hW
  · obtain ⟨h0, rfl, hR1⟩ := h
    refine ⟨(hL.out hC).1, by decide, (hL.out hC).2, ?_⟩
    have hM1 : Ms (ym Y 0) (ym Y) S := hL.ms hC
    refine ⟨by omega, by omega, hM1.1, ?_⟩
    have eA : mA (ym Y) (ym Y 0) F (ui I (yo Y) 0 z) = mA (ym Y) (ym Y 0) F I := (mA_out hL).trans (mA_fc (Y := Y) Fc.rf)
    refine T_X9_duty (F0 := F) (I0 := (ui I (yo Y) 0 z)) hM1 Fr.rf (fun z2 F2 hF2 h => ?_) (by rw [eA]; exact hm (fun b A2 => b = z ∧ A2 = A') ⟨rfl, rfl⟩)
    obtain ⟨rfl, hA2⟩ := h
    have ht : F2 1000 (ym Y 0) = 0 := by
      have := congrFun (congrFun hA2 0) 0
      exact this.trans h0
    refine ⟨hM1.1, ?_⟩
    refine ⟨fun _ => ⟨fun c9 => absurd rfl c9, fun _ => ⟨(hL.out hC).1, by decide, (hL.out hC).2, fun _ => ?_, fun c9 => absurd ?_ c9⟩⟩, fun c9 => absurd ht c9⟩
    · exact hk _ _ _ (lj_end hz hL hC (cg_dn0 hC (by omega) (by omega)) ha hb hR1 (by omega) (Or.inl rfl) hF2 hA2)
    · rw [show ui _ (yo Y) 0 _ (yo Y) 0 = _ from ui_s, icmp_eq]
  · obtain ⟨hx9, hR1⟩ := h
    rcases hx9 with ⟨rfl, h0⟩
    · refine ⟨rfl, ?_⟩
      have hM1 : Ms (ym Y 0) (ym Y) (thr S) := Lm.ms (Y := dn Y) hL (cg_thr hC (by omega) (by omega))
      refine ⟨by omega, by omega, hM1.1, ?_⟩
      have eA : mA (ym Y) (ym Y 0) F1 I1 = mA (ym Y) (ym Y 0) F I := mA_fc (Y := Y) hF1
      refine T_X9_duty (F0 := F1) (I0 := I1) hM1 Fr.rf (fun z2 F2 hF2 h => ?_) (by rw [eA]; exact hm (fun b A2 => b = ans ∧ A2 = A') ⟨rfl, rfl⟩)
      obtain ⟨rfl, hA2⟩ := h
      have ht : F2 1000 (ym Y 0) = 1 := by
        have := congrFun (congrFun hA2 0) 0
        exact this.trans h0
      refine ⟨hM1.1, ?_⟩
      refine ⟨fun _ => ⟨fun _ => ?_, fun c9 => absurd c9 (by decide)⟩, fun c9 => absurd ht c9⟩
      exact hk _ _ _ (lj_end hz hL hC (cg_thr hC (by omega) (by omega)) ha hb hR1 (by omega) (z := 0) (Or.inr rfl) hF2 hA2)
set_option maxRecDepth 20000 in
set_option maxHeartbeats 4000000 in
theorem law_carAt {n : Nat} {G : Gp} {ln : Int} {scr : Int → Int} {k23 : Nat → Nat → Nat → Int → Shp → Fl → Il → Prop} {x1 x2 x3 : Nat} {x4 : Int} {S : Shp} {F : Fl} {I : Il} {Q : Int → Shp → Fl → Il → Prop} (hI : LJ (n + 1) G x1 x2 x3 S F I) (hs : ∀ z, rg (scr z)) (h4 : 0 ≤ x4) (h5 : x4 + 4 < ln) (h6 : ln ≤ 2560) (hk : ∀ (S' : Shp) (F' : Fl) (I' : Il), LJ n G x1 x2 x3 S' F' I' → k23 x1 x2 x3 (w32 (x4 + 5)) S' F' I') : V_L_law_2486 G ln scr k23 x1 x2 x3 x4 S F I Q := by
  obtain ⟨Y, it, LN, rfl, rfl, rfl, hz, hL, hC, ha, hb, hR, hp⟩ := hI
  unfold V_L_law_2486
  have e1 : w32 (x4 + 1) = x4 + 1 := w32_id (by unfold rg; omega)
  try rw [e1]
  refine ⟨by omega, by omega, ?_⟩
  unfold V_L_carAt
  refine ⟨Cg.k hC rfl (by decide), ?_⟩
  obtain ⟨ans, A', hm, hpz, hW⟩ := sim_carAt (a0 := scr (x4 + 1)) hR (by omega) (hs _)
  refine T_X8_carAt (F0 := F) (I0 := I) hC Fc.rf (fun z h => ?_) (fun X9 F1 I1 hF1 h => ?_) hW
  · obtain ⟨h0, rfl, hR1⟩ := h
    refine ⟨(hL.out hC).1, by decide, (hL.out hC).2, ?_⟩
    have hM1 : Ms (ym Y 0) (ym Y) S := hL.ms hC
    refine ⟨by omega, by omega, hM1.1, ?_⟩
    have eA : mA (ym Y) (ym Y 0) F (ui I (yo Y) 0 z) = mA (ym Y) (ym Y 0) F I := (mA_out hL).trans (mA_fc (Y := Y) Fc.rf)
    refine T_X9_carAt (F0 := F) (I0 := (ui I (yo Y) 0 z)) hM1 Fr.rf (fun z2 F2 hF2 h => ?_) (by rw [eA]; exact hm (fun b A2 => b = z ∧ A2 = A') ⟨rfl, rfl⟩)
    obtain ⟨rfl, hA2⟩ := h
    have ht : F2 1000 (ym Y 0) = 0 := by
      have := congrFun (congrFun hA2 0) 0
      exact this.trans h0
    refine ⟨hM1.1, ?_⟩
    refine ⟨fun _ => ⟨fun c9 => absurd rfl c9, fun _ => ⟨(hL.out hC).1, by decide, (hL.out hC).2, fun _ => ?_, fun c9 => absurd ?_ c9⟩⟩, fun c9 => absurd ht c9⟩
    · exact hk _ _ _ (lj_end hz hL hC (cg_dn0 hC (by omega) (by omega)) ha hb hR1 (by omega) (Or.inl rfl) hF2 hA2)
    · rw [show ui _ (yo Y) 0 _ (yo Y) 0 = _ from ui_s, icmp_eq]
  · obtain ⟨hx9, hR1⟩ := h
    rcases hx9 with ⟨rfl, h0⟩
    · refine ⟨rfl, ?_⟩
      have hM1 : Ms (ym Y 0) (ym Y) (thr S) := Lm.ms (Y := dn Y) hL (cg_thr hC (by omega) (by omega))
      refine ⟨by omega, by omega, hM1.1, ?_⟩
      have eA : mA (ym Y) (ym Y 0) F1 I1 = mA (ym Y) (ym Y 0) F I := mA_fc (Y := Y) hF1
      refine T_X9_carAt (F0 := F1) (I0 := I1) hM1 Fr.rf (fun z2 F2 hF2 h => ?_) (by rw [eA]; exact hm (fun b A2 => b = ans ∧ A2 = A') ⟨rfl, rfl⟩)
      obtain ⟨rfl, hA2⟩ := h
      have ht : F2 1000 (ym Y 0) = 1 := by
        have := congrFun (congrFun hA2 0) 0
        exact this.trans h0
      refine ⟨hM1.1, ?_⟩
      refine ⟨fun _ => ⟨fun _ => ?_, fun c9 => absurd c9 (by decide)⟩, fun c9 => absurd ht c9⟩
      exact hk _ _ _ (lj_end hz hL hC (cg_thr hC (by omega) (by omega)) ha hb hR1 (by omega) (z := 0) (Or.inr rfl) hF2 hA2)
set_option maxRecDepth 20000 in
set_option maxHeartbeats 4000000 in
theorem law_carByPapers {n : Nat} {G : Gp} {ln : Int} {scr : Int → Int} {k23 : Nat → Nat → Nat → Int → Shp → Fl → Il → Prop} {x1 x2 x3 : Nat} {x4 : Int} {S : Shp} {F : Fl} {I : Il} {Q : Int → Shp → Fl → Il → Prop} (hI : LJ (n + 1) G x1 x2 x3 S F I) (hs : ∀ z, rg (scr z)) (h4 : 0 ≤ x4) (h5 : x4 + 4 < ln) (h6 : ln ≤ 2560) (hk : ∀ (S' : Shp) (F' : Fl) (I' : Il), LJ n G x1 x2 x3 S' F' I' → k23 x1 x2 x3 (w32 (x4 + 5)) S' F' I') : V_L_law_2542 G ln scr k23 x1 x2 x3 x4 S F I Q := by
  obtain ⟨Y, it, LN, rfl, rfl, rfl, hz, hL, hC, ha, hb, hR, hp⟩ := hI
  unfold V_L_law_2542
  have e1 : w32 (x4 + 1) = x4 + 1 := w32_id (by unfold rg; omega)
  try rw [e1]
  refine ⟨by omega, by omega, ?_⟩
  unfold V_L_carByPapers
  refine ⟨Cg.k hC rfl (by decide), ?_⟩
  obtain ⟨ans, A', hm, hpz, hW⟩ := sim_carByPapers (a0 := scr (x4 + 1)) hR (by omega) (hs _)
  refine T_X8_carByPapers (F0 := F) (I0 := I) hC Fc.rf (fun z h => ?_) (fun X9 F1 I1 hF1 h => ?_) hW
  · obtain ⟨h0, rfl, hR1⟩ := h
    refine ⟨(hL.out hC).1, by decide, (hL.out hC).2, ?_⟩
    have hM1 : Ms (ym Y 0) (ym Y) S := hL.ms hC
    refine ⟨by omega, by omega, hM1.1, ?_⟩
    have eA : mA (ym Y) (ym Y 0) F (ui I (yo Y) 0 z) = mA (ym Y) (ym Y 0) F I := (mA_out hL).trans (mA_fc (Y := Y) Fc.rf)
    refine T_X9_carByPapers (F0 := F) (I0 := (ui I (yo Y) 0 z)) hM1 Fr.rf (fun z2 F2 hF2 h => ?_) (by rw [eA]; exact hm (fun b A2 => b = z ∧ A2 = A') ⟨rfl, rfl⟩)
    obtain ⟨rfl, hA2⟩ := h
    have ht : F2 1000 (ym Y 0) = 0 := by
      have := congrFun (congrFun hA2 0) 0
      exact this.trans h0
    refine ⟨hM1.1, ?_⟩
    refine ⟨fun _ => ⟨fun c9 => absurd rfl c9, fun _ => ⟨(hL.out hC).1, by decide, (hL.out hC).2, fun _ => ?_, fun c9 => absurd ?_ c9⟩⟩, fun c9 => absurd ht c9⟩
    · exact hk _ _ _ (lj_end hz hL hC (cg_dn0 hC (by omega) (by omega)) ha hb hR1 (by omega) (Or.inl rfl) hF2 hA2)
    · rw [show ui _ (yo Y) 0 _ (yo Y) 0 = _ from ui_s, icmp_eq]
  · obtain ⟨hx9, hR1⟩ := h
    rcases hx9 with ⟨rfl, h0⟩
    · refine ⟨rfl, ?_⟩
      have hM1 : Ms (ym Y 0) (ym Y) (thr S) := Lm.ms (Y := dn Y) hL (cg_thr hC (by omega) (by omega))
      refine ⟨by omega, by omega, hM1.1, ?_⟩
      have eA : mA (ym Y) (ym Y 0) F1 I1 = mA (ym Y) (ym Y 0) F I := mA_fc (Y := Y) hF1
      refine T_X9_carByPapers (F0 := F1) (I0 := I1) hM1 Fr.rf (fun z2 F2 hF2 h => ?_) (by rw [eA]; exact hm (fun b A2 => b = ans ∧ A2 = A') ⟨rfl, rfl⟩)
      obtain ⟨rfl, hA2⟩ := h
      have ht : F2 1000 (ym Y 0) = 1 := by
        have := congrFun (congrFun hA2 0) 0
        exact this.trans h0
      refine ⟨hM1.1, ?_⟩
      refine ⟨fun _ => ⟨fun _ => ?_, fun c9 => absurd c9 (by decide)⟩, fun c9 => absurd ht c9⟩
      exact hk _ _ _ (lj_end hz hL hC (cg_thr hC (by omega) (by omega)) ha hb hR1 (by omega) (z := 0) (Or.inr rfl) hF2 hA2)
set_option maxRecDepth 20000 in
set_option maxHeartbeats 4000000 in
theorem law_billOf {n : Nat} {G : Gp} {ln : Int} {scr : Int → Int} {k23 : Nat → Nat → Nat → Int → Shp → Fl → Il → Prop} {x1 x2 x3 : Nat} {x4 : Int} {S : Shp} {F : Fl} {I : Il} {Q : Int → Shp → Fl → Il → Prop} (hI : LJ (n + 1) G x1 x2 x3 S F I) (hs : ∀ z, rg (scr z)) (h4 : 0 ≤ x4) (h5 : x4 + 4 < ln) (h6 : ln ≤ 2560) (hk : ∀ (S' : Shp) (F' : Fl) (I' : Il), LJ n G x1 x2 x3 S' F' I' → k23 x1 x2 x3 (w32 (x4 + 5)) S' F' I') : V_L_law_2598 G ln scr k23 x1 x2 x3 x4 S F I Q := by
  obtain ⟨Y, it, LN, rfl, rfl, rfl, hz, hL, hC, ha, hb, hR, hp⟩ := hI
  unfold V_L_law_2598
  have e1 : w32 (x4 + 1) = x4 + 1 := w32_id (by unfold rg; omega)
  try rw [e1]
  refine ⟨by omega, by omega, ?_⟩
  unfold V_L_billOf
  refine ⟨Cg.k hC rfl (by decide), ?_⟩
  obtain ⟨ans, A', hm, hpz, hW⟩ := sim_billOf (a0 := scr (x4 + 1)) hR (by omega) (hs _)
  refine T_X8_billOf (F0 := F) (I0 := I) hC Fc.rf (fun z h => ?_) (fun X9 F1 I1 hF1 h => ?_) hW
  · obtain ⟨h0, rfl, hR1⟩ := h
    refine ⟨(hL.out hC).1, by decide, (hL.out hC).2, ?_⟩
    have hM1 : Ms (ym Y 0) (ym Y) S := hL.ms hC
    refine ⟨by omega, by omega, hM1.1, ?_⟩
    have eA : mA (ym Y) (ym Y 0) F (ui I (yo Y) 0 z) = mA (ym Y) (ym Y 0) F I := (mA_out hL).trans (mA_fc (Y := Y) Fc.rf)
    refine T_X9_billOf (F0 := F) (I0 := (ui I (yo Y) 0 z)) hM1 Fr.rf (fun z2 F2 hF2 h => ?_) (by rw [eA]; exact hm (fun b A2 => b = z ∧ A2 = A') ⟨rfl, rfl⟩)
    obtain ⟨rfl, hA2⟩ := h
    have ht : F2 1000 (ym Y 0) = 0 := by
      have := congrFun (congrFun hA2 0) 0
      exact this.trans h0
    refine ⟨hM1.1, ?_⟩
    refine ⟨fun _ => ⟨fun c9 => absurd rfl c9, fun _ => ⟨(hL.out hC).1, by decide, (hL.out hC).2, fun _ => ?_, fun c9 => absurd ?_ c9⟩⟩, fun c9 => absurd ht c9⟩
    · exact hk _ _ _ (lj_end hz hL hC (cg_dn0 hC (by omega) (by omega)) ha hb hR1 (by omega) (Or.inl rfl) hF2 hA2)
    · rw [show ui _ (yo Y) 0 _ (yo Y) 0 = _ from ui_s, icmp_eq]
  · obtain ⟨hx9, hR1⟩ := h
    rcases hx9 with ⟨rfl, h0⟩
    · refine ⟨rfl, ?_⟩
      have hM1 : Ms (ym Y 0) (ym Y) (thr S) := Lm.ms (Y := dn Y) hL (cg_thr hC (by omega) (by omega))
      refine ⟨by omega, by omega, hM1.1, ?_⟩
      have eA : mA (ym Y) (ym Y 0) F1 I1 = mA (ym Y) (ym Y 0) F I := mA_fc (Y := Y) hF1
      refine T_X9_billOf (F0 := F1) (I0 := I1) hM1 Fr.rf (fun z2 F2 hF2 h => ?_) (by rw [eA]; exact hm (fun b A2 => b = ans ∧ A2 = A') ⟨rfl, rfl⟩)
      obtain ⟨rfl, hA2⟩ := h
      have ht : F2 1000 (ym Y 0) = 1 := by
        have := congrFun (congrFun hA2 0) 0
        exact this.trans h0
      refine ⟨hM1.1, ?_⟩
      refine ⟨fun _ => ⟨fun _ => ?_, fun c9 => absurd c9 (by decide)⟩, fun c9 => absurd ht c9⟩
      exact hk _ _ _ (lj_end hz hL hC (cg_thr hC (by omega) (by omega)) ha hb hR1 (by omega) (z := 0) (Or.inr rfl) hF2 hA2)
set_option maxRecDepth 20000 in
set_option maxHeartbeats 4000000 in
theorem law_paper {n : Nat} {G : Gp} {ln : Int} {scr : Int → Int} {k23 : Nat → Nat → Nat → Int → Shp → Fl → Il → Prop} {x1 x2 x3 : Nat} {x4 : Int} {S : Shp} {F : Fl} {I : Il} {Q : Int → Shp → Fl → Il → Prop} (hI : LJ (n + 1) G x1 x2 x3 S F I) (hs : ∀ z, rg (scr z)) (h4 : 0 ≤ x4) (h5 : x4 + 4 < ln) (h6 : ln ≤ 2560) (hk : ∀ (S' : Shp) (F' : Fl) (I' : Il), LJ n G x1 x2 x3 S' F' I' → k23 x1 x2 x3 (w32 (x4 + 5)) S' F' I') : V_L_law_2654 G ln scr k23 x1 x2 x3 x4 S F I Q := by
  obtain ⟨Y, it, LN, rfl, rfl, rfl, hz, hL, hC, ha, hb, hR, hp⟩ := hI
  unfold V_L_law_2654
  have e1 : w32 (x4 + 1) = x4 + 1 := w32_id (by unfold rg; omega)
  have e2 : w32 (x4 + 2) = x4 + 2 := w32_id (by unfold rg; omega)
  try rw [e1]
  try rw [e2]
  refine ⟨by omega, by omega, by omega, by omega, ?_⟩
  unfold V_L_paper
  refine ⟨Cg.k hC rfl (by decide), ?_⟩
  obtain ⟨ans, A', hm, hpz, hW⟩ := sim_paper (a0 := scr (x4 + 1)) (a1 := scr (x4 + 2)) hR (by omega) (hs _) (hs _)
  refine T_X8_paper (F0 := F) (I0 := I) hC Fc.rf (fun z h => ?_) (fun X9 F1 I1 hF1 h => ?_) hW
  · obtain ⟨h0, rfl, hR1⟩ := h
    refine ⟨(hL.out hC).1, by decide, (hL.out hC).2, ?_⟩
    have hM1 : Ms (ym Y 0) (ym Y) S := hL.ms hC
    refine ⟨by omega, by omega, by omega, by omega, hM1.1, ?_⟩
    have eA : mA (ym Y) (ym Y 0) F (ui I (yo Y) 0 z) = mA (ym Y) (ym Y 0) F I := (mA_out hL).trans (mA_fc (Y := Y) Fc.rf)
    refine T_X9_paper (F0 := F) (I0 := (ui I (yo Y) 0 z)) hM1 Fr.rf (fun z2 F2 hF2 h => ?_) (by rw [eA]; exact hm (fun b A2 => b = z ∧ A2 = A') ⟨rfl, rfl⟩)
    obtain ⟨rfl, hA2⟩ := h
    have ht : F2 1000 (ym Y 0) = 0 := by
      have := congrFun (congrFun hA2 0) 0
      exact this.trans h0
    refine ⟨hM1.1, ?_⟩
    refine ⟨fun _ => ⟨fun c9 => absurd rfl c9, fun _ => ⟨(hL.out hC).1, by decide, (hL.out hC).2, fun _ => ?_, fun c9 => absurd ?_ c9⟩⟩, fun c9 => absurd ht c9⟩
    · exact hk _ _ _ (lj_end hz hL hC (cg_dn0 hC (by omega) (by omega)) ha hb hR1 (by omega) (Or.inl rfl) hF2 hA2)
    · rw [show ui _ (yo Y) 0 _ (yo Y) 0 = _ from ui_s, icmp_eq]
  · obtain ⟨hx9, hR1⟩ := h
    rcases hx9 with ⟨rfl, h0⟩
    · refine ⟨rfl, ?_⟩
      have hM1 : Ms (ym Y 0) (ym Y) (thr S) := Lm.ms (Y := dn Y) hL (cg_thr hC (by omega) (by omega))
      refine ⟨by omega, by omega, by omega, by omega, hM1.1, ?_⟩
      have eA : mA (ym Y) (ym Y 0) F1 I1 = mA (ym Y) (ym Y 0) F I := mA_fc (Y := Y) hF1
      refine T_X9_paper (F0 := F1) (I0 := I1) hM1 Fr.rf (fun z2 F2 hF2 h => ?_) (by rw [eA]; exact hm (fun b A2 => b = ans ∧ A2 = A') ⟨rfl, rfl⟩)
      obtain ⟨rfl, hA2⟩ := h
      have ht : F2 1000 (ym Y 0) = 1 := by
        have := congrFun (congrFun hA2 0) 0
        exact this.trans h0
      refine ⟨hM1.1, ?_⟩
      refine ⟨fun _ => ⟨fun _ => ?_, fun c9 => absurd c9 (by decide)⟩, fun c9 => absurd ht c9⟩
      exact hk _ _ _ (lj_end hz hL hC (cg_thr hC (by omega) (by omega)) ha hb hR1 (by omega) (z := 0) (Or.inr rfl) hF2 hA2)
set_option maxRecDepth 20000 in
set_option maxHeartbeats 4000000 in
theorem law_yardAt {n : Nat} {G : Gp} {ln : Int} {scr : Int → Int} {k23 : Nat → Nat → Nat → Int → Shp → Fl → Il → Prop} {x1 x2 x3 : Nat} {x4 : Int} {S : Shp} {F : Fl} {I : Il} {Q : Int → Shp → Fl → Il → Prop} (hI : LJ (n + 1) G x1 x2 x3 S F I) (hs : ∀ z, rg (scr z)) (h4 : 0 ≤ x4) (h5 : x4 + 4 < ln) (h6 : ln ≤ 2560) (hk : ∀ (S' : Shp) (F' : Fl) (I' : Il), LJ n G x1 x2 x3 S' F' I' → k23 x1 x2 x3 (w32 (x4 + 5)) S' F' I') : V_L_law_2722 G ln scr k23 x1 x2 x3 x4 S F I Q := by
  obtain ⟨Y, it, LN, rfl, rfl, rfl, hz, hL, hC, ha, hb, hR, hp⟩ := hI
  unfold V_L_law_2722
  have e1 : w32 (x4 + 1) = x4 + 1 := w32_id (by unfold rg; omega)
  have e2 : w32 (x4 + 2) = x4 + 2 := w32_id (by unfold rg; omega)
  try rw [e1]
  try rw [e2]
  refine ⟨by omega, by omega, by omega, by omega, ?_⟩
  unfold V_L_yardAt
  refine ⟨Cg.k hC rfl (by decide), ?_⟩
  obtain ⟨ans, A', hm, hpz, hW⟩ := sim_yardAt (a0 := scr (x4 + 1)) (a1 := scr (x4 + 2)) hR (by omega) (hs _) (hs _)
  refine T_X8_yardAt (F0 := F) (I0 := I) hC Fc.rf (fun z h => ?_) (fun X9 F1 I1 hF1 h => ?_) hW
  · obtain ⟨h0, rfl, hR1⟩ := h
    refine ⟨(hL.out hC).1, by decide, (hL.out hC).2, ?_⟩
    have hM1 : Ms (ym Y 0) (ym Y) S := hL.ms hC
    refine ⟨by omega, by omega, by omega, by omega, hM1.1, ?_⟩
    have eA : mA (ym Y) (ym Y 0) F (ui I (yo Y) 0 z) = mA (ym Y) (ym Y 0) F I := (mA_out hL).trans (mA_fc (Y := Y) Fc.rf)
    refine T_X9_yardAt (F0 := F) (I0 := (ui I (yo Y) 0 z)) hM1 Fr.rf (fun z2 F2 hF2 h => ?_) (by rw [eA]; exact hm (fun b A2 => b = z ∧ A2 = A') ⟨rfl, rfl⟩)
    obtain ⟨rfl, hA2⟩ := h
    have ht : F2 1000 (ym Y 0) = 0 := by
      have := congrFun (congrFun hA2 0) 0
      exact this.trans h0
    refine ⟨hM1.1, ?_⟩
    refine ⟨fun _ => ⟨fun c9 => absurd rfl c9, fun _ => ⟨(hL.out hC).1, by decide, (hL.out hC).2, fun _ => ?_, fun c9 => absurd ?_ c9⟩⟩, fun c9 => absurd ht c9⟩
    · exact hk _ _ _ (lj_end hz hL hC (cg_dn0 hC (by omega) (by omega)) ha hb hR1 (by omega) (Or.inl rfl) hF2 hA2)
    · rw [show ui _ (yo Y) 0 _ (yo Y) 0 = _ from ui_s, icmp_eq]
  · obtain ⟨hx9, hR1⟩ := h
    rcases hx9 with ⟨rfl, h0⟩
    · refine ⟨rfl, ?_⟩
      have hM1 : Ms (ym Y 0) (ym Y) (thr S) := Lm.ms (Y := dn Y) hL (cg_thr hC (by omega) (by omega))
      refine ⟨by omega, by omega, by omega, by omega, hM1.1, ?_⟩
      have eA : mA (ym Y) (ym Y 0) F1 I1 = mA (ym Y) (ym Y 0) F I := mA_fc (Y := Y) hF1
      refine T_X9_yardAt (F0 := F1) (I0 := I1) hM1 Fr.rf (fun z2 F2 hF2 h => ?_) (by rw [eA]; exact hm (fun b A2 => b = ans ∧ A2 = A') ⟨rfl, rfl⟩)
      obtain ⟨rfl, hA2⟩ := h
      have ht : F2 1000 (ym Y 0) = 1 := by
        have := congrFun (congrFun hA2 0) 0
        exact this.trans h0
      refine ⟨hM1.1, ?_⟩
      refine ⟨fun _ => ⟨fun _ => ?_, fun c9 => absurd c9 (by decide)⟩, fun c9 => absurd ht c9⟩
      exact hk _ _ _ (lj_end hz hL hC (cg_thr hC (by omega) (by omega)) ha hb hR1 (by omega) (z := 0) (Or.inr rfl) hF2 hA2)
set_option maxRecDepth 20000 in
set_option maxHeartbeats 4000000 in
theorem law_homeward {n : Nat} {G : Gp} {ln : Int} {scr : Int → Int} {k23 : Nat → Nat → Nat → Int → Shp → Fl → Il → Prop} {x1 x2 x3 : Nat} {x4 : Int} {S : Shp} {F : Fl} {I : Il} {Q : Int → Shp → Fl → Il → Prop} (hI : LJ (n + 1) G x1 x2 x3 S F I) (hs : ∀ z, rg (scr z)) (h4 : 0 ≤ x4) (h5 : x4 + 4 < ln) (h6 : ln ≤ 2560) (hk : ∀ (S' : Shp) (F' : Fl) (I' : Il), LJ n G x1 x2 x3 S' F' I' → k23 x1 x2 x3 (w32 (x4 + 5)) S' F' I') : V_L_law_2790 G ln scr k23 x1 x2 x3 x4 S F I Q := by
  obtain ⟨Y, it, LN, rfl, rfl, rfl, hz, hL, hC, ha, hb, hR, hp⟩ := hI
  unfold V_L_law_2790
  have e1 : w32 (x4 + 1) = x4 + 1 := w32_id (by unfold rg; omega)
  try rw [e1]
  refine ⟨by omega, by omega, ?_⟩
  unfold V_L_homeward
  refine ⟨Cg.k hC rfl (by decide), ?_⟩
  obtain ⟨ans, A', hm, hpz, hW⟩ := sim_homeward (a0 := scr (x4 + 1)) hR (by omega) (hs _)
  refine T_X8_homeward (F0 := F) (I0 := I) hC Fc.rf (fun z I1 hF1 h => ?_) (fun X9 F1 I1 hF1 h => ?_) hW
  · obtain ⟨h0, rfl, hR1⟩ := h
    refine ⟨(hL.out hC).1, by decide, (hL.out hC).2, ?_⟩
    have hM1 : Ms (ym Y 0) (ym Y) S := hL.ms hC
    refine ⟨by omega, by omega, hM1.1, ?_⟩
    have eA : mA (ym Y) (ym Y 0) F (ui I1 (yo Y) 0 z) = mA (ym Y) (ym Y 0) F I := (mA_out hL).trans (mA_fc (Y := Y) hF1)
    refine T_X9_homeward (F0 := F) (I0 := (ui I1 (yo Y) 0 z)) hM1 Fr.rf (fun z2 F2 I2 hF2 h => ?_) (by rw [eA]; exact hm (fun b A2 => b = z ∧ A2 = A') ⟨rfl, rfl⟩)
    obtain ⟨rfl, hA2⟩ := h
    have ht : F2 1000 (ym Y 0) = 0 := by
      have := congrFun (congrFun hA2 0) 0
      exact this.trans h0
    refine ⟨hM1.1, ?_⟩
    refine ⟨fun _ => ⟨fun c9 => absurd rfl c9, fun _ => ⟨(hL.out hC).1, by decide, (hL.out hC).2, fun _ => ?_, fun c9 => absurd ?_ c9⟩⟩, fun c9 => absurd ht c9⟩
    · exact hk _ _ _ (lj_end hz hL hC (cg_dn0 hC (by omega) (by omega)) ha hb hR1 (by omega) (Or.inl rfl) hF2 hA2)
    · rw [hF2.2 (yo Y) (fun k hk9 => ((hL.ne.1 k hk9).1).symm), show ui _ (yo Y) 0 _ (yo Y) 0 = _ from ui_s, icmp_eq]
  · obtain ⟨hx9, hR1⟩ := h
    rcases hx9 with ⟨rfl, h0⟩
    · refine ⟨rfl, ?_⟩
      have hM1 : Ms (ym Y 0) (ym Y) (thr S) := Lm.ms (Y := dn Y) hL (cg_thr hC (by omega) (by omega))
      refine ⟨by omega, by omega, hM1.1, ?_⟩
      have eA : mA (ym Y) (ym Y 0) F1 I1 = mA (ym Y) (ym Y 0) F I := mA_fc (Y := Y) hF1
      refine T_X9_homeward (F0 := F1) (I0 := I1) hM1 Fr.rf (fun z2 F2 I2 hF2 h => ?_) (by rw [eA]; exact hm (fun b A2 => b = ans ∧ A2 = A') ⟨rfl, rfl⟩)
      obtain ⟨rfl, hA2⟩ := h
      have ht : F2 1000 (ym Y 0) = 1 := by
        have := congrFun (congrFun hA2 0) 0
        exact this.trans h0
      refine ⟨hM1.1, ?_⟩
      refine ⟨fun _ => ⟨fun _ => ?_, fun c9 => absurd c9 (by decide)⟩, fun c9 => absurd ht c9⟩
      exact hk _ _ _ (lj_end hz hL hC (cg_thr hC (by omega) (by omega)) ha hb hR1 (by omega) (z := 0) (Or.inr rfl) hF2 hA2)
