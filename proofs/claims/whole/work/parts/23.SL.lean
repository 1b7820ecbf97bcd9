set_option maxRecDepth 20000 in
set_option maxHeartbeats 4000000 in
theorem S_L_await {G : Gp} {X : Xt} {d : Nat}  {x0 : Nat} {x1 : Int} {x2 : Int} {x3 : Int} {Q : Int → Shp → Fl → Il → Prop} {S : Shp} {F : Fl} {I : Il} (C : CO G RL cL_await 5 X) (M : MH d (some .int) [(0, 7, 10, 13), (0, 7, 14, 17)] X) (hd : 12 ≤ d)  (h : V_L_await x0 x1 x2 x3 S F I Q) : J G X (QD X G (qI fun z S' F' I' => Q z S' F' I') noX) 0 [vr (some x0), vi x1, vi x2, vi x3, vl 0] [] S F I := by
  unfold V_L_await at h
  obtain ⟨d, rfl⟩ : ∃ d9, d = d9 + 1 := ⟨d - 1, by omega⟩
  refine J_aload_n C dL_await_0 rfl rfl ?_
  refine J_iload_n C dL_await_1 rfl rfl ?_
  refine J_iload_n C dL_await_2 rfl rfl ?_
  refine J_iload_n C dL_await_3 rfl rfl ?_
  obtain ⟨hK1, h⟩ := h
  refine K_VH C M.1 M.2.1 [vi x1, vi x2, vi x3] [] mi_X8_await wg_913 wg_914 wg_915 ⟨rfl, by decide⟩ dL_await_4 hK1 rfl rfl (by decide) (Nat.le_of_ble_eq_true rfl) (c_X8_await (C.2.2.2.2.2.2.2) (by omega) h) (fun v9 S' F2 I' hq9 => ?_) (fun E9 S9 F9 I9 hx9 => ?_) rfl
  · clear h
    obtain ⟨rfl, rfl, rfl, h⟩ := hq9
    refine J_goto C dL_await_7 (tgt := 18) rfl ?_
    refine J_iconst C dL_await_18 (rg_of (by decide)) ?_
    exact J_iret C dL_await_19 M.2.2.1 ⟨_, rfl, h⟩
  · clear h
    rcases hx9 with ⟨rfl, h⟩ | ⟨rfl, h⟩
    · refine JX_catch (pre := []) (x := ⟨0, 7, 10, 13⟩) (suf := [⟨0, 7, 14, 17⟩]) (tgt := 10) C M.2.2.2 rfl kc0 rfl (by decide) wg_308 wt_324 rfl (fun q9 => ?_)
      refine K_astore C [vr (some x0), vi x1, vi x2, vi x3, vr (some q9)] dL_await_10 (Nat.le_of_ble_eq_true rfl) rfl ?_
      refine J_iconst C dL_await_12 (rg_of (by decide)) ?_
      exact J_iret C dL_await_13 M.2.2.1 ⟨_, rfl, h⟩
    · refine JX_catch (pre := [⟨0, 7, 10, 13⟩]) (x := ⟨0, 7, 14, 17⟩) (suf := []) (tgt := 14) C M.2.2.2 rfl (kc1 (by decide) wg_308 (by decide +kernel) kc0) rfl (by decide) wg_310 wt_425 rfl (fun q9 => ?_)
      refine K_astore C [vr (some x0), vi x1, vi x2, vi x3, vr (some q9)] dL_await_14 (Nat.le_of_ble_eq_true rfl) rfl ?_
      refine J_iconst C dL_await_16 (rg_of (by decide)) ?_
      exact J_iret C dL_await_17 M.2.2.1 ⟨_, rfl, h⟩
theorem c_L_await {l : Launch} {G : Gp} {d : Nat} {x0 : Nat} {x1 : Int} {x2 : Int} {x3 : Int} {S : Shp} {F : Fl} {I : Il} {Q : Int → Shp → Fl → Il → Prop} (hl : l.stackTraces = false) (hd : 12 ≤ d) (h : V_L_await x0 x1 x2 x3 S F I Q) : CM l G d yL_await (.codeWith yL_await cL_await 5 (some .int) [(0, 7, 10, 13), (0, 7, 14, 17)]) [vr (some x0), vi x1, vi x2, vi x3] S F I (qI fun z S' F' I' => Q z S' F' I') noX :=
  CM_ofH [vr (some x0), vi x1, vi x2, vi x3, vl 0] hl (by decide +kernel) (kn1 trivial (kn1 trivial (kn1 trivial (kn1 trivial kn0)))) (Nat.le_of_ble_eq_true rfl) rfl (fun X hX C M => S_L_await C M hd h)
set_option maxRecDepth 20000 in
set_option maxHeartbeats 4000000 in
theorem S_L_barred {G : Gp} {X : Xt} {d : Nat}  {x0 : Nat} {x1 : Int} {x2 : Nat} {Q : Int → Shp → Fl → Il → Prop} {S : Shp} {F : Fl} {I : Il} (C : CO G RL cL_barred 4 X) (M : MH d (some .int) [(0, 9, 12, 13)] X) (hd : 14 ≤ d)  (h : V_L_barred x0 x1 x2 S F I Q) : J G X (QD X G (qI fun z S' F' I' => Q z S' F' I') noX) 0 [vr (some x0), vi x1, vr (some x2), vl 0] [] S F I := by
  unfold V_L_barred at h
  obtain ⟨d, rfl⟩ : ∃ d9, d = d9 + 1 := ⟨d - 1, by omega⟩
  refine J_aload_n C dL_barred_0 rfl rfl ?_
  refine J_iconst C dL_barred_1 (rg_of (by decide)) ?_
  refine J_aload_n C dL_barred_2 rfl rfl ?_
  refine J_iload_n C dL_barred_3 rfl rfl ?_
  obtain ⟨hK1, h⟩ := h
  refine K_VH C M.1 M.2.1 [vi x1] [vi 0, vr (some x2)] mi_X8_barred wg_1122 wg_1123 wg_1124 ⟨rfl, by decide⟩ dL_barred_4 hK1 rfl rfl (by decide) (Nat.le_of_ble_eq_true rfl) (c_X8_barred (C.2.2.2.2.2.2.2) (by omega) h) (fun v9 S' F' I' hq9 => ?_) (fun E9 S9 F9 I9 hx9 => ?_) rfl
  · clear h
    obtain ⟨z2, rfl, rfl, rfl, rfl, h⟩ := hq9
    refine J_i2l C dL_barred_7 ?_
    obtain ⟨hK3, h⟩ := h
    obtain ⟨h04, hn5, h⟩ := h
    refine J_last C dL_barred_8 hK3 h04 hn5 ?_
    refine J_goto C dL_barred_9 (tgt := 15) rfl ?_
    refine J_iconst C dL_barred_15 (rg_of (by decide)) ?_
    exact J_iret C dL_barred_16 M.2.2.1 ⟨_, rfl, h⟩
  · clear h
    rcases hx9 with ⟨rfl, h⟩
    · refine JX_catch (pre := []) (x := ⟨0, 9, 12, 13⟩) (suf := []) (tgt := 12) C M.2.2.2 rfl kc0 rfl (by decide) wg_308 wt_324 rfl (fun q9 => ?_)
      refine K_astore_n C [vr (some x0), vi x1, vr (some x2), vr (some q9)] dL_barred_12 rfl (Nat.le_of_ble_eq_true rfl) rfl ?_
      refine J_iconst C dL_barred_13 (rg_of (by decide)) ?_
      exact J_iret C dL_barred_14 M.2.2.1 ⟨_, rfl, h⟩
theorem c_L_barred {l : Launch} {G : Gp} {d : Nat} {x0 : Nat} {x1 : Int} {x2 : Nat} {S : Shp} {F : Fl} {I : Il} {Q : Int → Shp → Fl → Il → Prop} (hl : l.stackTraces = false) (hd : 14 ≤ d) (h : V_L_barred x0 x1 x2 S F I Q) : CM l G d yL_barred (.codeWith yL_barred cL_barred 4 (some .int) [(0, 9, 12, 13)]) [vr (some x0), vi x1, vr (some x2)] S F I (qI fun z S' F' I' => Q z S' F' I') noX :=
  CM_ofH [vr (some x0), vi x1, vr (some x2), vl 0] hl (by decide +kernel) (kn1 trivial (kn1 trivial (kn1 trivial kn0))) (Nat.le_of_ble_eq_true rfl) rfl (fun X hX C M => S_L_barred C M hd h)
set_option maxRecDepth 20000 in
set_option maxHeartbeats 4000000 in
theorem S_L_billOf {G : Gp} {X : Xt} {d : Nat}  {x0 : Nat} {x1 : Int} {x2 : Nat} {Q : Int → Shp → Fl → Il → Prop} {S : Shp} {F : Fl} {I : Il} (C : CO G RL cL_billOf 4 X) (M : MH d (some .int) [(0, 9, 12, 13)] X) (hd : 11 ≤ d)  (h : V_L_billOf x0 x1 x2 S F I Q) : J G X (QD X G (qI fun z S' F' I' => Q z S' F' I') noX) 0 [vr (some x0), vi x1, vr (some x2), vl 0] [] S F I := by
  unfold V_L_billOf at h
  obtain ⟨d, rfl⟩ : ∃ d9, d = d9 + 1 := ⟨d - 1, by omega⟩
  refine J_aload_n C dL_billOf_0 rfl rfl ?_
  refine J_iconst C dL_billOf_1 (rg_of (by decide)) ?_
  refine J_aload_n C dL_billOf_2 rfl rfl ?_
  refine J_iload_n C dL_billOf_3 rfl rfl ?_
  obtain ⟨hK1, h⟩ := h
  refine K_VH C M.1 M.2.1 [vi x1] [vi 0, vr (some x2)] mi_X8_billOf wg_1150 wg_1151 wg_1152 ⟨rfl, by decide⟩ dL_billOf_4 hK1 rfl rfl (by decide) (Nat.le_of_ble_eq_true rfl) (c_X8_billOf (C.2.2.2.2.2.2.2) (by omega) h) (fun v9 S' F' I' hq9 => ?_) (fun E9 S9 F9 I9 hx9 => ?_) rfl
  · clear h
    obtain ⟨z2, rfl, rfl, rfl, rfl, h⟩ := hq9
    refine J_i2l C dL_billOf_7 ?_
    obtain ⟨hK3, h⟩ := h
    obtain ⟨h04, hn5, h⟩ := h
    refine J_last C dL_billOf_8 hK3 h04 hn5 ?_
    refine J_goto C dL_billOf_9 (tgt := 15) rfl ?_
    refine J_iconst C dL_billOf_15 (rg_of (by decide)) ?_
    exact J_iret C dL_billOf_16 M.2.2.1 ⟨_, rfl, h⟩
  · clear h
    rcases hx9 with ⟨rfl, h⟩
    · refine JX_catch (pre := []) (x := ⟨0, 9, 12, 13⟩) (suf := []) (tgt := 12) C M.2.2.2 rfl kc0 rfl (by decide) wg_308 wt_324 rfl (fun q9 => ?_)
      refine K_astore_n C [vr (some x0), vi x1, vr (some x2), vr (some q9)] dL_billOf_12 rfl (Nat.le_of_ble_eq_true rfl) rfl ?_
      refine J_iconst C dL_billOf_13 (rg_of (by decide)) ?_
      exact J_iret C dL_billOf_14 M.2.2.1 ⟨_, rfl, h⟩
theorem c_L_billOf {l : Launch} {G : Gp} {d : Nat} {x0 : Nat} {x1 : Int} {x2 : Nat} {S : Shp} {F : Fl} {I : Il} {Q : Int → Shp → Fl → Il → Prop} (hl : l.stackTraces = false) (hd : 11 ≤ d) (h : V_L_billOf x0 x1 x2 S F I Q) : CM l G d yL_billOf (.codeWith yL_billOf cL_billOf 4 (some .int) [(0, 9, 12, 13)]) [vr (some x0), vi x1, vr (some x2)] S F I (qI fun z S' F' I' => Q z S' F' I') noX :=
  CM_ofH [vr (some x0), vi x1, vr (some x2), vl 0] hl (by decide +kernel) (kn1 trivial (kn1 trivial (kn1 trivial kn0))) (Nat.le_of_ble_eq_true rfl) rfl (fun X hX C M => S_L_billOf C M hd h)
set_option maxRecDepth 20000 in
set_option maxHeartbeats 4000000 in
theorem S_L_block {G : Gp} {X : Xt} {d : Nat}  {x0 : Nat} {x1 : Int} {x2 : Int} {x3 : Nat} {Q : Int → Shp → Fl → Il → Prop} {S : Shp} {F : Fl} {I : Il} (C : CO G RL cL_block 5 X) (M : MH d (some .int) [(0, 10, 13, 13)] X) (hd : 11 ≤ d)  (h : V_L_block x0 x1 x2 x3 S F I Q) : J G X (QD X G (qI fun z S' F' I' => Q z S' F' I') noX) 0 [vr (some x0), vi x1, vi x2, vr (some x3), vl 0] [] S F I := by
  unfold V_L_block at h
  obtain ⟨d, rfl⟩ : ∃ d9, d = d9 + 1 := ⟨d - 1, by omega⟩
  refine J_aload_n C dL_block_0 rfl rfl ?_
  refine J_iconst C dL_block_1 (rg_of (by decide)) ?_
  refine J_aload_n C dL_block_2 rfl rfl ?_
  refine J_iload_n C dL_block_3 rfl rfl ?_
  refine J_iload_n C dL_block_4 rfl rfl ?_
  obtain ⟨hK1, h⟩ := h
  refine K_VH C M.1 M.2.1 [vi x1, vi x2] [vi 0, vr (some x3)] mi_X8_block wg_1108 wg_1109 wg_1110 ⟨rfl, by decide⟩ dL_block_5 hK1 rfl rfl (by decide) (Nat.le_of_ble_eq_true rfl) (c_X8_block (C.2.2.2.2.2.2.2) (by omega) h) (fun v9 S' F' I' hq9 => ?_) (fun E9 S9 F9 I9 hx9 => ?_) rfl
  · clear h
    obtain ⟨z2, rfl, rfl, rfl, rfl, h⟩ := hq9
    refine J_i2l C dL_block_8 ?_
    obtain ⟨hK3, h⟩ := h
    obtain ⟨h04, hn5, h⟩ := h
    refine J_last C dL_block_9 hK3 h04 hn5 ?_
    refine J_goto C dL_block_10 (tgt := 17) rfl ?_
    refine J_iconst C dL_block_17 (rg_of (by decide)) ?_
    exact J_iret C dL_block_18 M.2.2.1 ⟨_, rfl, h⟩
  · clear h
    rcases hx9 with ⟨rfl, h⟩
    · refine JX_catch (pre := []) (x := ⟨0, 10, 13, 13⟩) (suf := []) (tgt := 13) C M.2.2.2 rfl kc0 rfl (by decide) wg_308 wt_324 rfl (fun q9 => ?_)
      refine K_astore C [vr (some x0), vi x1, vi x2, vr (some x3), vr (some q9)] dL_block_13 (Nat.le_of_ble_eq_true rfl) rfl ?_
      refine J_iconst C dL_block_15 (rg_of (by decide)) ?_
      exact J_iret C dL_block_16 M.2.2.1 ⟨_, rfl, h⟩
theorem c_L_block {l : Launch} {G : Gp} {d : Nat} {x0 : Nat} {x1 : Int} {x2 : Int} {x3 : Nat} {S : Shp} {F : Fl} {I : Il} {Q : Int → Shp → Fl → Il → Prop} (hl : l.stackTraces = false) (hd : 11 ≤ d) (h : V_L_block x0 x1 x2 x3 S F I Q) : CM l G d yL_block (.codeWith yL_block cL_block 5 (some .int) [(0, 10, 13, 13)]) [vr (some x0), vi x1, vi x2, vr (some x3)] S F I (qI fun z S' F' I' => Q z S' F' I') noX :=
  CM_ofH [vr (some x0), vi x1, vi x2, vr (some x3), vl 0] hl (by decide +kernel) (kn1 trivial (kn1 trivial (kn1 trivial (kn1 trivial kn0)))) (Nat.le_of_ble_eq_true rfl) rfl (fun X hX C M => S_L_block C M hd h)
set_option maxRecDepth 20000 in
set_option maxHeartbeats 4000000 in
theorem S_L_borrow {G : Gp} {X : Xt} {d : Nat}  {x0 : Nat} {x1 : Int} {x2 : Nat} {Q : Int → Shp → Fl → Il → Prop} {S : Shp} {F : Fl} {I : Il} (C : CO G RL cL_borrow 4 X) (M : MH d (some .int) [(0, 9, 12, 15), (0, 9, 15, 17)] X) (hd : 11 ≤ d)  (h : V_L_borrow x0 x1 x2 S F I Q) : J G X (QD X G (qI fun z S' F' I' => Q z S' F' I') noX) 0 [vr (some x0), vi x1, vr (some x2), vl 0] [] S F I := by
  unfold V_L_borrow at h
  obtain ⟨d, rfl⟩ : ∃ d9, d = d9 + 1 := ⟨d - 1, by omega⟩
  refine J_aload_n C dL_borrow_0 rfl rfl ?_
  refine J_iconst C dL_borrow_1 (rg_of (by decide)) ?_
  refine J_aload_n C dL_borrow_2 rfl rfl ?_
  refine J_iload_n C dL_borrow_3 rfl rfl ?_
  obtain ⟨hK1, h⟩ := h
  refine K_VH C M.1 M.2.1 [vi x1] [vi 0, vr (some x2)] mi_X8_borrow wg_791 wg_792 wg_793 ⟨rfl, by decide⟩ dL_borrow_4 hK1 rfl rfl (by decide) (Nat.le_of_ble_eq_true rfl) (c_X8_borrow (C.2.2.2.2.2.2.2) (by omega) h) (fun v9 S' F3 I' hq9 => ?_) (fun E9 S9 F9 I9 hx9 => ?_) rfl
  · clear h
    obtain ⟨z2, rfl, rfl, rfl, h⟩ := hq9
    refine J_i2l C dL_borrow_7 ?_
    obtain ⟨hK4, h⟩ := h
    obtain ⟨h05, hn6, h⟩ := h
    refine J_last C dL_borrow_8 hK4 h05 hn6 ?_
    refine J_goto C dL_borrow_9 (tgt := 18) rfl ?_
    refine J_iconst C dL_borrow_18 (rg_of (by decide)) ?_
    exact J_iret C dL_borrow_19 M.2.2.1 ⟨_, rfl, h⟩
  · clear h
    rcases hx9 with ⟨rfl, h⟩ | ⟨rfl, h⟩
    · refine JX_catch (pre := []) (x := ⟨0, 9, 12, 15⟩) (suf := [⟨0, 9, 15, 17⟩]) (tgt := 12) C M.2.2.2 rfl kc0 rfl (by decide) wg_309 wt_398 rfl (fun q9 => ?_)
      refine K_astore_n C [vr (some x0), vi x1, vr (some x2), vr (some q9)] dL_borrow_12 rfl (Nat.le_of_ble_eq_true rfl) rfl ?_
      refine J_iconst C dL_borrow_13 (rg_of (by decide)) ?_
      exact J_iret C dL_borrow_14 M.2.2.1 ⟨_, rfl, h⟩
    · refine JX_catch (pre := [⟨0, 9, 12, 15⟩]) (x := ⟨0, 9, 15, 17⟩) (suf := []) (tgt := 15) C M.2.2.2 rfl (kc1 (by decide) wg_309 (by decide +kernel) kc0) rfl (by decide) wg_310 wt_425 rfl (fun q9 => ?_)
      refine K_astore_n C [vr (some x0), vi x1, vr (some x2), vr (some q9)] dL_borrow_15 rfl (Nat.le_of_ble_eq_true rfl) rfl ?_
      refine J_iconst C dL_borrow_16 (rg_of (by decide)) ?_
      exact J_iret C dL_borrow_17 M.2.2.1 ⟨_, rfl, h⟩
theorem c_L_borrow {l : Launch} {G : Gp} {d : Nat} {x0 : Nat} {x1 : Int} {x2 : Nat} {S : Shp} {F : Fl} {I : Il} {Q : Int → Shp → Fl → Il → Prop} (hl : l.stackTraces = false) (hd : 11 ≤ d) (h : V_L_borrow x0 x1 x2 S F I Q) : CM l G d yL_borrow (.codeWith yL_borrow cL_borrow 4 (some .int) [(0, 9, 12, 15), (0, 9, 15, 17)]) [vr (some x0), vi x1, vr (some x2)] S F I (qI fun z S' F' I' => Q z S' F' I') noX :=
  CM_ofH [vr (some x0), vi x1, vr (some x2), vl 0] hl (by decide +kernel) (kn1 trivial (kn1 trivial (kn1 trivial kn0))) (Nat.le_of_ble_eq_true rfl) rfl (fun X hX C M => S_L_borrow C M hd h)
set_option maxRecDepth 20000 in
set_option maxHeartbeats 4000000 in
theorem S_L_car {G : Gp} {X : Xt} {d : Nat}  {x0 : Nat} {x1 : Int} {x2 : Nat} {Q : Int → Shp → Fl → Il → Prop} {S : Shp} {F : Fl} {I : Il} (C : CO G RL cL_car 4 X) (M : MH d (some .int) [(0, 9, 12, 13), (0, 9, 15, 17)] X) (hd : 11 ≤ d)  (h : V_L_car G x0 x1 x2 S F I Q) : J G X (QD X G (qI fun z S' F' I' => Q z S' F' I') noX) 0 [vr (some x0), vi x1, vr (some x2), vl 0] [] S F I := by
  unfold V_L_car at h
  obtain ⟨d, rfl⟩ : ∃ d9, d = d9 + 1 := ⟨d - 1, by omega⟩
  refine J_aload_n C dL_car_0 rfl rfl ?_
  refine J_iconst C dL_car_1 (rg_of (by decide)) ?_
  refine J_aload_n C dL_car_2 rfl rfl ?_
  refine J_iload_n C dL_car_3 rfl rfl ?_
  obtain ⟨hK1, h⟩ := h
  refine K_VH C M.1 M.2.1 [vi x1] [vi 0, vr (some x2)] mi_X8_car wg_736 wg_737 wg_738 ⟨rfl, by decide⟩ dL_car_4 hK1 rfl rfl (by decide) (Nat.le_of_ble_eq_true rfl) (c_X8_car (C.2.2.2.2.2.2.2) (by omega) h) (fun v9 S3 F4 I5 hq9 => ?_) (fun E9 S9 F9 I9 hx9 => ?_) rfl
  · clear h
    obtain ⟨z2, rfl, h⟩ := hq9
    refine J_i2l C dL_car_7 ?_
    obtain ⟨hK6, h⟩ := h
    obtain ⟨h07, hn8, h⟩ := h
    refine J_last C dL_car_8 hK6 h07 hn8 ?_
    refine J_goto C dL_car_9 (tgt := 18) rfl ?_
    refine J_iconst C dL_car_18 (rg_of (by decide)) ?_
    exact J_iret C dL_car_19 M.2.2.1 ⟨_, rfl, h⟩
  · clear h
    rcases hx9 with ⟨rfl, h⟩ | ⟨rfl, h⟩
    · refine JX_catch (pre := []) (x := ⟨0, 9, 12, 13⟩) (suf := [⟨0, 9, 15, 17⟩]) (tgt := 12) C M.2.2.2 rfl kc0 rfl (by decide) wg_308 wt_324 rfl (fun q9 => ?_)
      refine K_astore_n C [vr (some x0), vi x1, vr (some x2), vr (some q9)] dL_car_12 rfl (Nat.le_of_ble_eq_true rfl) rfl ?_
      refine J_iconst C dL_car_13 (rg_of (by decide)) ?_
      exact J_iret C dL_car_14 M.2.2.1 ⟨_, rfl, h⟩
    · refine JX_catch (pre := [⟨0, 9, 12, 13⟩]) (x := ⟨0, 9, 15, 17⟩) (suf := []) (tgt := 15) C M.2.2.2 rfl (kc1 (by decide) wg_308 (by decide +kernel) kc0) rfl (by decide) wg_310 wt_425 rfl (fun q9 => ?_)
      refine K_astore_n C [vr (some x0), vi x1, vr (some x2), vr (some q9)] dL_car_15 rfl (Nat.le_of_ble_eq_true rfl) rfl ?_
      refine J_iconst C dL_car_16 (rg_of (by decide)) ?_
      exact J_iret C dL_car_17 M.2.2.1 ⟨_, rfl, h⟩
theorem c_L_car {l : Launch} {G : Gp} {d : Nat} {x0 : Nat} {x1 : Int} {x2 : Nat} {S : Shp} {F : Fl} {I : Il} {Q : Int → Shp → Fl → Il → Prop} (hl : l.stackTraces = false) (hd : 11 ≤ d) (h : V_L_car G x0 x1 x2 S F I Q) : CM l G d yL_car (.codeWith yL_car cL_car 4 (some .int) [(0, 9, 12, 13), (0, 9, 15, 17)]) [vr (some x0), vi x1, vr (some x2)] S F I (qI fun z S' F' I' => Q z S' F' I') noX :=
  CM_ofH [vr (some x0), vi x1, vr (some x2), vl 0] hl (by decide +kernel) (kn1 trivial (kn1 trivial (kn1 trivial kn0))) (Nat.le_of_ble_eq_true rfl) rfl (fun X hX C M => S_L_car C M hd h)
set_option maxRecDepth 20000 in
set_option maxHeartbeats 4000000 in
theorem S_L_carAt {G : Gp} {X : Xt} {d : Nat}  {x0 : Nat} {x1 : Int} {x2 : Nat} {Q : Int → Shp → Fl → Il → Prop} {S : Shp} {F : Fl} {I : Il} (C : CO G RL cL_carAt 4 X) (M : MH d (some .int) [(0, 9, 12, 13)] X) (hd : 11 ≤ d)  (h : V_L_carAt x0 x1 x2 S F I Q) : J G X (QD X G (qI fun z S' F' I' => Q z S' F' I') noX) 0 [vr (some x0), vi x1, vr (some x2), vl 0] [] S F I := by
  unfold V_L_carAt at h
  obtain ⟨d, rfl⟩ : ∃ d9, d = d9 + 1 := ⟨d - 1, by omega⟩
  refine J_aload_n C dL_carAt_0 rfl rfl ?_
  refine J_iconst C dL_carAt_1 (rg_of (by decide)) ?_
  refine J_aload_n C dL_carAt_2 rfl rfl ?_
  refine J_iload_n C dL_carAt_3 rfl rfl ?_
  obtain ⟨hK1, h⟩ := h
  refine K_VH C M.1 M.2.1 [vi x1] [vi 0, vr (some x2)] mi_X8_carAt wg_1136 wg_1137 wg_1138 ⟨rfl, by decide⟩ dL_carAt_4 hK1 rfl rfl (by decide) (Nat.le_of_ble_eq_true rfl) (c_X8_carAt (C.2.2.2.2.2.2.2) (by omega) h) (fun v9 S' F' I' hq9 => ?_) (fun E9 S9 F9 I9 hx9 => ?_) rfl
  · clear h
    obtain ⟨z2, rfl, rfl, rfl, rfl, h⟩ := hq9
    refine J_i2l C dL_carAt_7 ?_
    obtain ⟨hK3, h⟩ := h
    obtain ⟨h04, hn5, h⟩ := h
    refine J_last C dL_carAt_8 hK3 h04 hn5 ?_
    refine J_goto C dL_carAt_9 (tgt := 15) rfl ?_
    refine J_iconst C dL_carAt_15 (rg_of (by decide)) ?_
    exact J_iret C dL_carAt_16 M.2.2.1 ⟨_, rfl, h⟩
  · clear h
    rcases hx9 with ⟨rfl, h⟩
    · refine JX_catch (pre := []) (x := ⟨0, 9, 12, 13⟩) (suf := []) (tgt := 12) C M.2.2.2 rfl kc0 rfl (by decide) wg_308 wt_324 rfl (fun q9 => ?_)
      refine K_astore_n C [vr (some x0), vi x1, vr (some x2), vr (some q9)] dL_carAt_12 rfl (Nat.le_of_ble_eq_true rfl) rfl ?_
      refine J_iconst C dL_carAt_13 (rg_of (by decide)) ?_
      exact J_iret C dL_carAt_14 M.2.2.1 ⟨_, rfl, h⟩
theorem c_L_carAt {l : Launch} {G : Gp} {d : Nat} {x0 : Nat} {x1 : Int} {x2 : Nat} {S : Shp} {F : Fl} {I : Il} {Q : Int → Shp → Fl → Il → Prop} (hl : l.stackTraces = false) (hd : 11 ≤ d) (h : V_L_carAt x0 x1 x2 S F I Q) : CM l G d yL_carAt (.codeWith yL_carAt cL_carAt 4 (some .int) [(0, 9, 12, 13)]) [vr (some x0), vi x1, vr (some x2)] S F I (qI fun z S' F' I' => Q z S' F' I') noX :=
  CM_ofH [vr (some x0), vi x1, vr (some x2), vl 0] hl (by decide +kernel) (kn1 trivial (kn1 trivial (kn1 trivial kn0))) (Nat.le_of_ble_eq_true rfl) rfl (fun X hX C M => S_L_carAt C M hd h)
set_option maxRecDepth 20000 in
set_option maxHeartbeats 4000000 in
theorem S_L_carByPapers {G : Gp} {X : Xt} {d : Nat}  {x0 : Nat} {x1 : Int} {x2 : Nat} {Q : Int → Shp → Fl → Il → Prop} {S : Shp} {F : Fl} {I : Il} (C : CO G RL cL_carByPapers 4 X) (M : MH d (some .int) [(0, 9, 12, 13)] X) (hd : 11 ≤ d)  (h : V_L_carByPapers x0 x1 x2 S F I Q) : J G X (QD X G (qI fun z S' F' I' => Q z S' F' I') noX) 0 [vr (some x0), vi x1, vr (some x2), vl 0] [] S F I := by
  unfold V_L_carByPapers at h
  obtain ⟨d, rfl⟩ : ∃ d9, d = d9 + 1 := ⟨d - 1, by omega⟩
  refine J_aload_n C dL_carByPapers_0 rfl rfl ?_
  refine J_iconst C dL_carByPapers_1 (rg_of (by decide)) ?_
  refine J_aload_n C dL_carByPapers_2 rfl rfl ?_
  refine J_iload_n C dL_carByPapers_3 rfl rfl ?_
  obtain ⟨hK1, h⟩ := h
  refine K_VH C M.1 M.2.1 [vi x1] [vi 0, vr (some x2)] mi_X8_carByPapers wg_1143 wg_1144 wg_1145 ⟨rfl, by decide⟩ dL_carByPapers_4 hK1 rfl rfl (by decide) (Nat.le_of_ble_eq_true rfl) (c_X8_carByPapers (C.2.2.2.2.2.2.2) (by omega) h) (fun v9 S' F' I' hq9 => ?_) (fun E9 S9 F9 I9 hx9 => ?_) rfl
  · clear h
    obtain ⟨z2, rfl, rfl, rfl, rfl, h⟩ := hq9
    refine J_i2l C dL_carByPapers_7 ?_
    obtain ⟨hK3, h⟩ := h
    obtain ⟨h04, hn5, h⟩ := h
    refine J_last C dL_carByPapers_8 hK3 h04 hn5 ?_
    refine J_goto C dL_carByPapers_9 (tgt := 15) rfl ?_
    refine J_iconst C dL_carByPapers_15 (rg_of (by decide)) ?_
    exact J_iret C dL_carByPapers_16 M.2.2.1 ⟨_, rfl, h⟩
  · clear h
    rcases hx9 with ⟨rfl, h⟩
    · refine JX_catch (pre := []) (x := ⟨0, 9, 12, 13⟩) (suf := []) (tgt := 12) C M.2.2.2 rfl kc0 rfl (by decide) wg_308 wt_324 rfl (fun q9 => ?_)
      refine K_astore_n C [vr (some x0), vi x1, vr (some x2), vr (some q9)] dL_carByPapers_12 rfl (Nat.le_of_ble_eq_true rfl) rfl ?_
      refine J_iconst C dL_carByPapers_13 (rg_of (by decide)) ?_
      exact J_iret C dL_carByPapers_14 M.2.2.1 ⟨_, rfl, h⟩
theorem c_L_carByPapers {l : Launch} {G : Gp} {d : Nat} {x0 : Nat} {x1 : Int} {x2 : Nat} {S : Shp} {F : Fl} {I : Il} {Q : Int → Shp → Fl → Il → Prop} (hl : l.stackTraces = false) (hd : 11 ≤ d) (h : V_L_carByPapers x0 x1 x2 S F I Q) : CM l G d yL_carByPapers (.codeWith yL_carByPapers cL_carByPapers 4 (some .int) [(0, 9, 12, 13)]) [vr (some x0), vi x1, vr (some x2)] S F I (qI fun z S' F' I' => Q z S' F' I') noX :=
  CM_ofH [vr (some x0), vi x1, vr (some x2), vl 0] hl (by decide +kernel) (kn1 trivial (kn1 trivial (kn1 trivial kn0))) (Nat.le_of_ble_eq_true rfl) rfl (fun X hX C M => S_L_carByPapers C M hd h)
set_option maxRecDepth 20000 in
set_option maxHeartbeats 4000000 in
theorem S_L_clear {G : Gp} {X : Xt} {d : Nat}  {x0 : Nat} {x1 : Int} {x2 : Nat} {Q : Int → Shp → Fl → Il → Prop} {S : Shp} {F : Fl} {I : Il} (C : CO G RL cL_clear 4 X) (M : MH d (some .int) [(0, 9, 12, 13), (0, 9, 15, 17)] X) (hd : 13 ≤ d)  (h : V_L_clear x0 x1 x2 S F I Q) : J G X (QD X G (qI fun z S' F' I' => Q z S' F' I') noX) 0 [vr (some x0), vi x1, vr (some x2), vl 0] [] S F I := by
  unfold V_L_clear at h
  obtain ⟨d, rfl⟩ : ∃ d9, d = d9 + 1 := ⟨d - 1, by omega⟩
  refine J_aload_n C dL_clear_0 rfl rfl ?_
  refine J_iconst C dL_clear_1 (rg_of (by decide)) ?_
  refine J_aload_n C dL_clear_2 rfl rfl ?_
  refine J_iload_n C dL_clear_3 rfl rfl ?_
  obtain ⟨hK1, h⟩ := h
  refine K_VH C M.1 M.2.1 [vi x1] [vi 0, vr (some x2)] mi_X8_clear wg_1007 wg_1008 wg_1009 ⟨rfl, by decide⟩ dL_clear_4 hK1 rfl rfl (by decide) (Nat.le_of_ble_eq_true rfl) (c_X8_clear (C.2.2.2.2.2.2.2) (by omega) h) (fun v9 S3 F4 I5 hq9 => ?_) (fun E9 S9 F9 I9 hx9 => ?_) rfl
  · clear h
    obtain ⟨z2, rfl, h⟩ := hq9
    refine J_i2l C dL_clear_7 ?_
    obtain ⟨hK6, h⟩ := h
    obtain ⟨h07, hn8, h⟩ := h
    refine J_last C dL_clear_8 hK6 h07 hn8 ?_
    refine J_goto C dL_clear_9 (tgt := 18) rfl ?_
    refine J_iconst C dL_clear_18 (rg_of (by decide)) ?_
    exact J_iret C dL_clear_19 M.2.2.1 ⟨_, rfl, h⟩
  · clear h
    rcases hx9 with ⟨rfl, h⟩ | ⟨rfl, h⟩
    · refine JX_catch (pre := []) (x := ⟨0, 9, 12, 13⟩) (suf := [⟨0, 9, 15, 17⟩]) (tgt := 12) C M.2.2.2 rfl kc0 rfl (by decide) wg_308 wt_324 rfl (fun q9 => ?_)
      refine K_astore_n C [vr (some x0), vi x1, vr (some x2), vr (some q9)] dL_clear_12 rfl (Nat.le_of_ble_eq_true rfl) rfl ?_
      refine J_iconst C dL_clear_13 (rg_of (by decide)) ?_
      exact J_iret C dL_clear_14 M.2.2.1 ⟨_, rfl, h⟩
    · refine JX_catch (pre := [⟨0, 9, 12, 13⟩]) (x := ⟨0, 9, 15, 17⟩) (suf := []) (tgt := 15) C M.2.2.2 rfl (kc1 (by decide) wg_308 (by decide +kernel) kc0) rfl (by decide) wg_310 wt_425 rfl (fun q9 => ?_)
      refine K_astore_n C [vr (some x0), vi x1, vr (some x2), vr (some q9)] dL_clear_15 rfl (Nat.le_of_ble_eq_true rfl) rfl ?_
      refine J_iconst C dL_clear_16 (rg_of (by decide)) ?_
      exact J_iret C dL_clear_17 M.2.2.1 ⟨_, rfl, h⟩
theorem c_L_clear {l : Launch} {G : Gp} {d : Nat} {x0 : Nat} {x1 : Int} {x2 : Nat} {S : Shp} {F : Fl} {I : Il} {Q : Int → Shp → Fl → Il → Prop} (hl : l.stackTraces = false) (hd : 13 ≤ d) (h : V_L_clear x0 x1 x2 S F I Q) : CM l G d yL_clear (.codeWith yL_clear cL_clear 4 (some .int) [(0, 9, 12, 13), (0, 9, 15, 17)]) [vr (some x0), vi x1, vr (some x2)] S F I (qI fun z S' F' I' => Q z S' F' I') noX :=
  CM_ofH [vr (some x0), vi x1, vr (some x2), vl 0] hl (by decide +kernel) (kn1 trivial (kn1 trivial (kn1 trivial kn0))) (Nat.le_of_ble_eq_true rfl) rfl (fun X hX C M => S_L_clear C M hd h)
set_option maxRecDepth 20000 in
set_option maxHeartbeats 4000000 in
theorem S_L_couple {G : Gp} {X : Xt} {d : Nat}  {x0 : Nat} {x1 : Int} {x2 : Int} {x3 : Nat} {Q : Int → Shp → Fl → Il → Prop} {S : Shp} {F : Fl} {I : Il} (C : CO G RL cL_couple 5 X) (M : MH d (some .int) [(0, 10, 13, 13), (0, 10, 17, 17)] X) (hd : 12 ≤ d)  (h : V_L_couple x0 x1 x2 x3 S F I Q) : J G X (QD X G (qI fun z S' F' I' => Q z S' F' I') noX) 0 [vr (some x0), vi x1, vi x2, vr (some x3), vl 0] [] S F I := by
  unfold V_L_couple at h
  obtain ⟨d, rfl⟩ : ∃ d9, d = d9 + 1 := ⟨d - 1, by omega⟩
  refine J_aload_n C dL_couple_0 rfl rfl ?_
  refine J_iconst C dL_couple_1 (rg_of (by decide)) ?_
  refine J_aload_n C dL_couple_2 rfl rfl ?_
  refine J_iload_n C dL_couple_3 rfl rfl ?_
  refine J_iload_n C dL_couple_4 rfl rfl ?_
  obtain ⟨hK1, h⟩ := h
  refine K_VH C M.1 M.2.1 [vi x1, vi x2] [vi 0, vr (some x3)] mi_X8_couple wg_849 wg_850 wg_851 ⟨rfl, by decide⟩ dL_couple_5 hK1 rfl rfl (by decide) (Nat.le_of_ble_eq_true rfl) (c_X8_couple (C.2.2.2.2.2.2.2) (by omega) h) (fun v9 S3 F4 I5 hq9 => ?_) (fun E9 S9 F9 I9 hx9 => ?_) rfl
  · clear h
    obtain ⟨z2, rfl, h⟩ := hq9
    refine J_i2l C dL_couple_8 ?_
    obtain ⟨hK6, h⟩ := h
    obtain ⟨h07, hn8, h⟩ := h
    refine J_last C dL_couple_9 hK6 h07 hn8 ?_
    refine J_goto C dL_couple_10 (tgt := 21) rfl ?_
    refine J_iconst C dL_couple_21 (rg_of (by decide)) ?_
    exact J_iret C dL_couple_22 M.2.2.1 ⟨_, rfl, h⟩
  · clear h
    rcases hx9 with ⟨rfl, h⟩ | ⟨rfl, h⟩
    · refine JX_catch (pre := []) (x := ⟨0, 10, 13, 13⟩) (suf := [⟨0, 10, 17, 17⟩]) (tgt := 13) C M.2.2.2 rfl kc0 rfl (by decide) wg_308 wt_324 rfl (fun q9 => ?_)
      refine K_astore C [vr (some x0), vi x1, vi x2, vr (some x3), vr (some q9)] dL_couple_13 (Nat.le_of_ble_eq_true rfl) rfl ?_
      refine J_iconst C dL_couple_15 (rg_of (by decide)) ?_
      exact J_iret C dL_couple_16 M.2.2.1 ⟨_, rfl, h⟩
    · refine JX_catch (pre := [⟨0, 10, 13, 13⟩]) (x := ⟨0, 10, 17, 17⟩) (suf := []) (tgt := 17) C M.2.2.2 rfl (kc1 (by decide) wg_308 (by decide +kernel) kc0) rfl (by decide) wg_310 wt_425 rfl (fun q9 => ?_)
      refine K_astore C [vr (some x0), vi x1, vi x2, vr (some x3), vr (some q9)] dL_couple_17 (Nat.le_of_ble_eq_true rfl) rfl ?_
      refine J_iconst C dL_couple_19 (rg_of (by decide)) ?_
      exact J_iret C dL_couple_20 M.2.2.1 ⟨_, rfl, h⟩
theorem c_L_couple {l : Launch} {G : Gp} {d : Nat} {x0 : Nat} {x1 : Int} {x2 : Int} {x3 : Nat} {S : Shp} {F : Fl} {I : Il} {Q : Int → Shp → Fl → Il → Prop} (hl : l.stackTraces = false) (hd : 12 ≤ d) (h : V_L_couple x0 x1 x2 x3 S F I Q) : CM l G d yL_couple (.codeWith yL_couple cL_couple 5 (some .int) [(0, 10, 13, 13), (0, 10, 17, 17)]) [vr (some x0), vi x1, vi x2, vr (some x3)] S F I (qI fun z S' F' I' => Q z S' F' I') noX :=
  CM_ofH [vr (some x0), vi x1, vi x2, vr (some x3), vl 0] hl (by decide +kernel) (kn1 trivial (kn1 trivial (kn1 trivial (kn1 trivial kn0)))) (Nat.le_of_ble_eq_true rfl) rfl (fun X hX C M => S_L_couple C M hd h)
set_option maxRecDepth 20000 in
set_option maxHeartbeats 4000000 in
theorem S_L_crew {G : Gp} {X : Xt} {d : Nat}  {x0 : Nat} {x1 : Int} {x2 : Nat} {Q : Int → Shp → Fl → Il → Prop} {S : Shp} {F : Fl} {I : Il} (C : CO G RL cL_crew 4 X) (M : MH d (some .int) [(0, 9, 12, 13), (0, 9, 15, 17)] X) (hd : 11 ≤ d)  (h : V_L_crew G x0 x1 x2 S F I Q) : J G X (QD X G (qI fun z S' F' I' => Q z S' F' I') noX) 0 [vr (some x0), vi x1, vr (some x2), vl 0] [] S F I := by
  unfold V_L_crew at h
  obtain ⟨d, rfl⟩ : ∃ d9, d = d9 + 1 := ⟨d - 1, by omega⟩
  refine J_aload_n C dL_crew_0 rfl rfl ?_
  refine J_iconst C dL_crew_1 (rg_of (by decide)) ?_
  refine J_aload_n C dL_crew_2 rfl rfl ?_
  refine J_iload_n C dL_crew_3 rfl rfl ?_
  obtain ⟨hK1, h⟩ := h
  refine K_VH C M.1 M.2.1 [vi x1] [vi 0, vr (some x2)] mi_X8_crew wg_657 wg_658 wg_659 ⟨rfl, by decide⟩ dL_crew_4 hK1 rfl rfl (by decide) (Nat.le_of_ble_eq_true rfl) (c_X8_crew (C.2.2.2.2.2.2.2) (by omega) h) (fun v9 S3 F4 I5 hq9 => ?_) (fun E9 S9 F9 I9 hx9 => ?_) rfl
  · clear h
    obtain ⟨z2, rfl, h⟩ := hq9
    refine J_i2l C dL_crew_7 ?_
    obtain ⟨hK6, h⟩ := h
    obtain ⟨h07, hn8, h⟩ := h
    refine J_last C dL_crew_8 hK6 h07 hn8 ?_
    refine J_goto C dL_crew_9 (tgt := 18) rfl ?_
    refine J_iconst C dL_crew_18 (rg_of (by decide)) ?_
    exact J_iret C dL_crew_19 M.2.2.1 ⟨_, rfl, h⟩
  · clear h
    rcases hx9 with ⟨rfl, h⟩ | ⟨rfl, h⟩
    · refine JX_catch (pre := []) (x := ⟨0, 9, 12, 13⟩) (suf := [⟨0, 9, 15, 17⟩]) (tgt := 12) C M.2.2.2 rfl kc0 rfl (by decide) wg_308 wt_324 rfl (fun q9 => ?_)
      refine K_astore_n C [vr (some x0), vi x1, vr (some x2), vr (some q9)] dL_crew_12 rfl (Nat.le_of_ble_eq_true rfl) rfl ?_
      refine J_iconst C dL_crew_13 (rg_of (by decide)) ?_
      exact J_iret C dL_crew_14 M.2.2.1 ⟨_, rfl, h⟩
    · refine JX_catch (pre := [⟨0, 9, 12, 13⟩]) (x := ⟨0, 9, 15, 17⟩) (suf := []) (tgt := 15) C M.2.2.2 rfl (kc1 (by decide) wg_308 (by decide +kernel) kc0) rfl (by decide) wg_310 wt_425 rfl (fun q9 => ?_)
      refine K_astore_n C [vr (some x0), vi x1, vr (some x2), vr (some q9)] dL_crew_15 rfl (Nat.le_of_ble_eq_true rfl) rfl ?_
      refine J_iconst C dL_crew_16 (rg_of (by decide)) ?_
      exact J_iret C dL_crew_17 M.2.2.1 ⟨_, rfl, h⟩
theorem c_L_crew {l : Launch} {G : Gp} {d : Nat} {x0 : Nat} {x1 : Int} {x2 : Nat} {S : Shp} {F : Fl} {I : Il} {Q : Int → Shp → Fl → Il → Prop} (hl : l.stackTraces = false) (hd : 11 ≤ d) (h : V_L_crew G x0 x1 x2 S F I Q) : CM l G d yL_crew (.codeWith yL_crew cL_crew 4 (some .int) [(0, 9, 12, 13), (0, 9, 15, 17)]) [vr (some x0), vi x1, vr (some x2)] S F I (qI fun z S' F' I' => Q z S' F' I') noX :=
  CM_ofH [vr (some x0), vi x1, vr (some x2), vl 0] hl (by decide +kernel) (kn1 trivial (kn1 trivial (kn1 trivial kn0))) (Nat.le_of_ble_eq_true rfl) rfl (fun X hX C M => S_L_crew C M hd h)
set_option maxRecDepth 20000 in
set_option maxHeartbeats 4000000 in
theorem S_L_dissolve {G : Gp} {X : Xt} {d : Nat}  {x0 : Nat} {x1 : Int} {x2 : Nat} {Q : Int → Shp → Fl → Il → Prop} {S : Shp} {F : Fl} {I : Il} (C : CO G RL cL_dissolve 4 X) (M : MH d (some .int) [(0, 9, 12, 13), (0, 9, 15, 17)] X) (hd : 12 ≤ d)  (h : V_L_dissolve x0 x1 x2 S F I Q) : J G X (QD X G (qI fun z S' F' I' => Q z S' F' I') noX) 0 [vr (some x0), vi x1, vr (some x2), vl 0] [] S F I := by
  unfold V_L_dissolve at h
  obtain ⟨d, rfl⟩ : ∃ d9, d = d9 + 1 := ⟨d - 1, by omega⟩
  refine J_aload_n C dL_dissolve_0 rfl rfl ?_
  refine J_iconst C dL_dissolve_1 (rg_of (by decide)) ?_
  refine J_aload_n C dL_dissolve_2 rfl rfl ?_
  refine J_iload_n C dL_dissolve_3 rfl rfl ?_
  obtain ⟨hK1, h⟩ := h
  refine K_VH C M.1 M.2.1 [vi x1] [vi 0, vr (some x2)] mi_X8_dissolve wg_834 wg_835 wg_836 ⟨rfl, by decide⟩ dL_dissolve_4 hK1 rfl rfl (by decide) (Nat.le_of_ble_eq_true rfl) (c_X8_dissolve (C.2.2.2.2.2.2.2) (by omega) h) (fun v9 S' F3 I' hq9 => ?_) (fun E9 S9 F9 I9 hx9 => ?_) rfl
  · clear h
    obtain ⟨z2, rfl, rfl, rfl, h⟩ := hq9
    refine J_i2l C dL_dissolve_7 ?_
    obtain ⟨hK4, h⟩ := h
    obtain ⟨h05, hn6, h⟩ := h
    refine J_last C dL_dissolve_8 hK4 h05 hn6 ?_
    refine J_goto C dL_dissolve_9 (tgt := 18) rfl ?_
    refine J_iconst C dL_dissolve_18 (rg_of (by decide)) ?_
    exact J_iret C dL_dissolve_19 M.2.2.1 ⟨_, rfl, h⟩
  · clear h
    rcases hx9 with ⟨rfl, h⟩ | ⟨rfl, h⟩
    · refine JX_catch (pre := []) (x := ⟨0, 9, 12, 13⟩) (suf := [⟨0, 9, 15, 17⟩]) (tgt := 12) C M.2.2.2 rfl kc0 rfl (by decide) wg_308 wt_324 rfl (fun q9 => ?_)
      refine K_astore_n C [vr (some x0), vi x1, vr (some x2), vr (some q9)] dL_dissolve_12 rfl (Nat.le_of_ble_eq_true rfl) rfl ?_
      refine J_iconst C dL_dissolve_13 (rg_of (by decide)) ?_
      exact J_iret C dL_dissolve_14 M.2.2.1 ⟨_, rfl, h⟩
    · refine JX_catch (pre := [⟨0, 9, 12, 13⟩]) (x := ⟨0, 9, 15, 17⟩) (suf := []) (tgt := 15) C M.2.2.2 rfl (kc1 (by decide) wg_308 (by decide +kernel) kc0) rfl (by decide) wg_310 wt_425 rfl (fun q9 => ?_)
      refine K_astore_n C [vr (some x0), vi x1, vr (some x2), vr (some q9)] dL_dissolve_15 rfl (Nat.le_of_ble_eq_true rfl) rfl ?_
      refine J_iconst C dL_dissolve_16 (rg_of (by decide)) ?_
      exact J_iret C dL_dissolve_17 M.2.2.1 ⟨_, rfl, h⟩
theorem c_L_dissolve {l : Launch} {G : Gp} {d : Nat} {x0 : Nat} {x1 : Int} {x2 : Nat} {S : Shp} {F : Fl} {I : Il} {Q : Int → Shp → Fl → Il → Prop} (hl : l.stackTraces = false) (hd : 12 ≤ d) (h : V_L_dissolve x0 x1 x2 S F I Q) : CM l G d yL_dissolve (.codeWith yL_dissolve cL_dissolve 4 (some .int) [(0, 9, 12, 13), (0, 9, 15, 17)]) [vr (some x0), vi x1, vr (some x2)] S F I (qI fun z S' F' I' => Q z S' F' I') noX :=
  CM_ofH [vr (some x0), vi x1, vr (some x2), vl 0] hl (by decide +kernel) (kn1 trivial (kn1 trivial (kn1 trivial kn0))) (Nat.le_of_ble_eq_true rfl) rfl (fun X hX C M => S_L_dissolve C M hd h)
set_option maxRecDepth 20000 in
set_option maxHeartbeats 4000000 in
theorem S_L_duty {G : Gp} {X : Xt} {d : Nat}  {x0 : Nat} {x1 : Int} {x2 : Nat} {Q : Int → Shp → Fl → Il → Prop} {S : Shp} {F : Fl} {I : Il} (C : CO G RL cL_duty 4 X) (M : MH d (some .int) [(0, 9, 12, 13)] X) (hd : 11 ≤ d)  (h : V_L_duty x0 x1 x2 S F I Q) : J G X (QD X G (qI fun z S' F' I' => Q z S' F' I') noX) 0 [vr (some x0), vi x1, vr (some x2), vl 0] [] S F I := by
  unfold V_L_duty at h
  obtain ⟨d, rfl⟩ : ∃ d9, d = d9 + 1 := ⟨d - 1, by omega⟩
  refine J_aload_n C dL_duty_0 rfl rfl ?_
  refine J_iconst C dL_duty_1 (rg_of (by decide)) ?_
  refine J_aload_n C dL_duty_2 rfl rfl ?_
  refine J_iload_n C dL_duty_3 rfl rfl ?_
  obtain ⟨hK1, h⟩ := h
  refine K_VH C M.1 M.2.1 [vi x1] [vi 0, vr (some x2)] mi_X8_duty wg_1129 wg_1130 wg_1131 ⟨rfl, by decide⟩ dL_duty_4 hK1 rfl rfl (by decide) (Nat.le_of_ble_eq_true rfl) (c_X8_duty (C.2.2.2.2.2.2.2) (by omega) h) (fun v9 S' F' I' hq9 => ?_) (fun E9 S9 F9 I9 hx9 => ?_) rfl
  · clear h
    obtain ⟨z2, rfl, rfl, rfl, rfl, h⟩ := hq9
    refine J_i2l C dL_duty_7 ?_
    obtain ⟨hK3, h⟩ := h
    obtain ⟨h04, hn5, h⟩ := h
    refine J_last C dL_duty_8 hK3 h04 hn5 ?_
    refine J_goto C dL_duty_9 (tgt := 15) rfl ?_
    refine J_iconst C dL_duty_15 (rg_of (by decide)) ?_
    exact J_iret C dL_duty_16 M.2.2.1 ⟨_, rfl, h⟩
  · clear h
    rcases hx9 with ⟨rfl, h⟩
    · refine JX_catch (pre := []) (x := ⟨0, 9, 12, 13⟩) (suf := []) (tgt := 12) C M.2.2.2 rfl kc0 rfl (by decide) wg_308 wt_324 rfl (fun q9 => ?_)
      refine K_astore_n C [vr (some x0), vi x1, vr (some x2), vr (some q9)] dL_duty_12 rfl (Nat.le_of_ble_eq_true rfl) rfl ?_
      refine J_iconst C dL_duty_13 (rg_of (by decide)) ?_
      exact J_iret C dL_duty_14 M.2.2.1 ⟨_, rfl, h⟩
theorem c_L_duty {l : Launch} {G : Gp} {d : Nat} {x0 : Nat} {x1 : Int} {x2 : Nat} {S : Shp} {F : Fl} {I : Il} {Q : Int → Shp → Fl → Il → Prop} (hl : l.stackTraces = false) (hd : 11 ≤ d) (h : V_L_duty x0 x1 x2 S F I Q) : CM l G d yL_duty (.codeWith yL_duty cL_duty 4 (some .int) [(0, 9, 12, 13)]) [vr (some x0), vi x1, vr (some x2)] S F I (qI fun z S' F' I' => Q z S' F' I') noX :=
  CM_ofH [vr (some x0), vi x1, vr (some x2), vl 0] hl (by decide +kernel) (kn1 trivial (kn1 trivial (kn1 trivial kn0))) (Nat.le_of_ble_eq_true rfl) rfl (fun X hX C M => S_L_duty C M hd h)
set_option maxRecDepth 20000 in
set_option maxHeartbeats 4000000 in
theorem S_L_engine {G : Gp} {X : Xt} {d : Nat}  {x0 : Nat} {x1 : Int} {x2 : Int} {x3 : Nat} {Q : Int → Shp → Fl → Il → Prop} {S : Shp} {F : Fl} {I : Il} (C : CO G RL cL_engine 5 X) (M : MH d (some .int) [(0, 10, 13, 13), (0, 10, 17, 15), (0, 10, 21, 17)] X) (hd : 11 ≤ d)  (h : V_L_engine G x0 x1 x2 x3 S F I Q) : J G X (QD X G (qI fun z S' F' I' => Q z S' F' I') noX) 0 [vr (some x0), vi x1, vi x2, vr (some x3), vl 0] [] S F I := by
  unfold V_L_engine at h
  obtain ⟨d, rfl⟩ : ∃ d9, d = d9 + 1 := ⟨d - 1, by omega⟩
  refine J_aload_n C dL_engine_0 rfl rfl ?_
  refine J_iconst C dL_engine_1 (rg_of (by decide)) ?_
  refine J_aload_n C dL_engine_2 rfl rfl ?_
  refine J_iload_n C dL_engine_3 rfl rfl ?_
  refine J_iload_n C dL_engine_4 rfl rfl ?_
  obtain ⟨hK1, h⟩ := h
  refine K_VH C M.1 M.2.1 [vi x1, vi x2] [vi 0, vr (some x3)] mi_X8_engine wg_631 wg_632 wg_633 ⟨rfl, by decide⟩ dL_engine_5 hK1 rfl rfl (by decide) (Nat.le_of_ble_eq_true rfl) (c_X8_engine (C.2.2.2.2.2.2.2) (by omega) h) (fun v9 S3 F4 I5 hq9 => ?_) (fun E9 S9 F9 I9 hx9 => ?_) rfl
  · clear h
    obtain ⟨z2, rfl, h⟩ := hq9
    refine J_i2l C dL_engine_8 ?_
    obtain ⟨hK6, h⟩ := h
    obtain ⟨h07, hn8, h⟩ := h
    refine J_last C dL_engine_9 hK6 h07 hn8 ?_
    refine J_goto C dL_engine_10 (tgt := 25) rfl ?_
    refine J_iconst C dL_engine_25 (rg_of (by decide)) ?_
    exact J_iret C dL_engine_26 M.2.2.1 ⟨_, rfl, h⟩
  · clear h
    rcases hx9 with ⟨rfl, h⟩ | ⟨rfl, h⟩ | ⟨rfl, h⟩
    · refine JX_catch (pre := []) (x := ⟨0, 10, 13, 13⟩) (suf := [⟨0, 10, 17, 15⟩, ⟨0, 10, 21, 17⟩]) (tgt := 13) C M.2.2.2 rfl kc0 rfl (by decide) wg_308 wt_324 rfl (fun q9 => ?_)
      refine K_astore C [vr (some x0), vi x1, vi x2, vr (some x3), vr (some q9)] dL_engine_13 (Nat.le_of_ble_eq_true rfl) rfl ?_
      refine J_iconst C dL_engine_15 (rg_of (by decide)) ?_
      exact J_iret C dL_engine_16 M.2.2.1 ⟨_, rfl, h⟩
    · refine JX_catch (pre := [⟨0, 10, 13, 13⟩]) (x := ⟨0, 10, 17, 15⟩) (suf := [⟨0, 10, 21, 17⟩]) (tgt := 17) C M.2.2.2 rfl (kc1 (by decide) wg_308 (by decide +kernel) kc0) rfl (by decide) wg_309 wt_398 rfl (fun q9 => ?_)
      refine K_astore C [vr (some x0), vi x1, vi x2, vr (some x3), vr (some q9)] dL_engine_17 (Nat.le_of_ble_eq_true rfl) rfl ?_
      refine J_iconst C dL_engine_19 (rg_of (by decide)) ?_
      exact J_iret C dL_engine_20 M.2.2.1 ⟨_, rfl, h⟩
    · refine JX_catch (pre := [⟨0, 10, 13, 13⟩, ⟨0, 10, 17, 15⟩]) (x := ⟨0, 10, 21, 17⟩) (suf := []) (tgt := 21) C M.2.2.2 rfl (kc1 (by decide) wg_308 (by decide +kernel) (kc1 (by decide) wg_309 (by decide +kernel) kc0)) rfl (by decide) wg_310 wt_425 rfl (fun q9 => ?_)
      refine K_astore C [vr (some x0), vi x1, vi x2, vr (some x3), vr (some q9)] dL_engine_21 (Nat.le_of_ble_eq_true rfl) rfl ?_
      refine J_iconst C dL_engine_23 (rg_of (by decide)) ?_
      exact J_iret C dL_engine_24 M.2.2.1 ⟨_, rfl, h⟩
theorem c_L_engine {l : Launch} {G : Gp} {d : Nat} {x0 : Nat} {x1 : Int} {x2 : Int} {x3 : Nat} {S : Shp} {F : Fl} {I : Il} {Q : Int → Shp → Fl → Il → Prop} (hl : l.stackTraces = false) (hd : 11 ≤ d) (h : V_L_engine G x0 x1 x2 x3 S F I Q) : CM l G d yL_engine (.codeWith yL_engine cL_engine 5 (some .int) [(0, 10, 13, 13), (0, 10, 17, 15), (0, 10, 21, 17)]) [vr (some x0), vi x1, vi x2, vr (some x3)] S F I (qI fun z S' F' I' => Q z S' F' I') noX :=
  CM_ofH [vr (some x0), vi x1, vi x2, vr (some x3), vl 0] hl (by decide +kernel) (kn1 trivial (kn1 trivial (kn1 trivial (kn1 trivial kn0)))) (Nat.le_of_ble_eq_true rfl) rfl (fun X hX C M => S_L_engine C M hd h)
set_option maxRecDepth 20000 in
set_option maxHeartbeats 4000000 in
theorem S_L_fail_16 {G : Gp} {X : Xt} {d : Nat}  {s0 : Int} {s1 : Int} {s2 : Nat} {Q : Int → Shp → Fl → Il → Prop} {S : Shp} {F : Fl} {I : Il} (C : CO G RL cL_fail 5 X) (M : MH d (some .int) [(0, 17, 20, 13)] X) (hd : 11 ≤ d)  (h : V_L_fail_16 s0 s1 s2 S F I Q) : J G X (QD X G (qI fun z S' F' I' => Q z S' F' I') noX) 16 [vl 0, vl 0, vl 0, vl 0, vl 0] [vl s0, vi s1, vr (some s2)] S F I := by
  unfold V_L_fail_16 at h
  obtain ⟨hK1, h⟩ := h
  obtain ⟨h02, hn3, h⟩ := h
  refine J_last C dL_fail_16 hK1 h02 hn3 ?_
  refine J_goto C dL_fail_17 (tgt := 24) rfl ?_
  refine J_iconst C dL_fail_24 (rg_of (by decide)) ?_
  exact J_iret C dL_fail_25 M.2.2.1 ⟨_, rfl, h⟩
set_option maxRecDepth 20000 in
set_option maxHeartbeats 4000000 in
theorem S_L_fail {G : Gp} {X : Xt} {d : Nat}  {x0 : Nat} {x1 : Int} {x2 : Int} {x3 : Nat} {Q : Int → Shp → Fl → Il → Prop} {S : Shp} {F : Fl} {I : Il} (C : CO G RL cL_fail 5 X) (M : MH d (some .int) [(0, 17, 20, 13)] X) (hd : 11 ≤ d)  (h : V_L_fail x0 x1 x2 x3 S F I Q) : J G X (QD X G (qI fun z S' F' I' => Q z S' F' I') noX) 0 [vr (some x0), vi x1, vi x2, vr (some x3), vl 0] [] S F I := by
  unfold V_L_fail at h
  obtain ⟨d, rfl⟩ : ∃ d9, d = d9 + 1 := ⟨d - 1, by omega⟩
  refine J_aload_n C dL_fail_0 rfl rfl ?_
  refine J_iconst C dL_fail_1 (rg_of (by decide)) ?_
  refine J_aload_n C dL_fail_2 rfl rfl ?_
  refine J_iload_n C dL_fail_3 rfl rfl ?_
  refine J_iload_n C dL_fail_4 rfl rfl ?_
  obtain ⟨hK1, h⟩ := h
  refine K_VH C M.1 M.2.1 [vi x1, vi x2] [vi 0, vr (some x3)] mi_X8_fail wg_577 wg_578 wg_579 ⟨rfl, by decide⟩ dL_fail_5 hK1 rfl rfl (by decide) (Nat.le_of_ble_eq_true rfl) (c_X8_fail (C.2.2.2.2.2.2.2) (by omega) h) (fun v9 S' F3 I' hq9 => ?_) (fun E9 S9 F9 I9 hx9 => ?_) rfl
  · clear h
    obtain ⟨z2, rfl, rfl, rfl, h⟩ := hq9
    refine J_if_eq C dL_fail_8 (tgt := 15) rfl (fun c8 => ?_) (fun c8 => ?_)
    · have h := h.1 c8
      refine J_lconst C dL_fail_15 (z := 0) (by decide +kernel) (rg_of (by decide)) ?_
      refine J_less [vl 0, vl 0, vl 0, vl 0, vl 0] (by unfold lessL; simp [lessL]) ?_
      exact S_L_fail_16 C M (by omega)  h
    · have h := h.2 c8
      refine J_lconst C dL_fail_11 (z := 1) (by decide +kernel) (rg_of (by decide)) ?_
      refine J_goto C dL_fail_12 (tgt := 16) rfl ?_
      refine J_less [vl 0, vl 0, vl 0, vl 0, vl 0] (by unfold lessL; simp [lessL]) ?_
      exact S_L_fail_16 C M (by omega)  h
  · clear h
    rcases hx9 with ⟨rfl, h⟩
    · refine JX_catch (pre := []) (x := ⟨0, 17, 20, 13⟩) (suf := []) (tgt := 20) C M.2.2.2 rfl kc0 rfl (by decide) wg_308 wt_324 rfl (fun q9 => ?_)
      refine K_astore C [vr (some x0), vi x1, vi x2, vr (some x3), vr (some q9)] dL_fail_20 (Nat.le_of_ble_eq_true rfl) rfl ?_
      refine J_iconst C dL_fail_22 (rg_of (by decide)) ?_
      exact J_iret C dL_fail_23 M.2.2.1 ⟨_, rfl, h⟩
theorem c_L_fail {l : Launch} {G : Gp} {d : Nat} {x0 : Nat} {x1 : Int} {x2 : Int} {x3 : Nat} {S : Shp} {F : Fl} {I : Il} {Q : Int → Shp → Fl → Il → Prop} (hl : l.stackTraces = false) (hd : 11 ≤ d) (h : V_L_fail x0 x1 x2 x3 S F I Q) : CM l G d yL_fail (.codeWith yL_fail cL_fail 5 (some .int) [(0, 17, 20, 13)]) [vr (some x0), vi x1, vi x2, vr (some x3)] S F I (qI fun z S' F' I' => Q z S' F' I') noX :=
  CM_ofH [vr (some x0), vi x1, vi x2, vr (some x3), vl 0] hl (by decide +kernel) (kn1 trivial (kn1 trivial (kn1 trivial (kn1 trivial kn0)))) (Nat.le_of_ble_eq_true rfl) rfl (fun X hX C M => S_L_fail C M hd h)
set_option maxRecDepth 20000 in
set_option maxHeartbeats 4000000 in
theorem S_L_flag {G : Gp} {X : Xt} {d : Nat}  {x0 : Nat} {x1 : Int} {Q : Int → Shp → Fl → Il → Prop} {S : Shp} {F : Fl} {I : Il} (C : CO G RL cL_flag 3 X) (M : MH d (some .int) [(0, 5, 8, 13), (0, 5, 11, 17)] X) (hd : 11 ≤ d)  (h : V_L_flag x0 x1 S F I Q) : J G X (QD X G (qI fun z S' F' I' => Q z S' F' I') noX) 0 [vr (some x0), vi x1, vl 0] [] S F I := by
  unfold V_L_flag at h
  obtain ⟨d, rfl⟩ : ∃ d9, d = d9 + 1 := ⟨d - 1, by omega⟩
  refine J_aload_n C dL_flag_0 rfl rfl ?_
  refine J_iload_n C dL_flag_1 rfl rfl ?_
  obtain ⟨hK1, h⟩ := h
  refine K_VH C M.1 M.2.1 [vi x1] [] mi_X8_flag wg_602 wg_603 wg_604 ⟨rfl, by decide⟩ dL_flag_2 hK1 rfl rfl (by decide) (Nat.le_of_ble_eq_true rfl) (c_X8_flag (C.2.2.2.2.2.2.2) (by omega) h) (fun v9 S' F2 I' hq9 => ?_) (fun E9 S9 F9 I9 hx9 => ?_) rfl
  · clear h
    obtain ⟨rfl, rfl, rfl, h⟩ := hq9
    refine J_goto C dL_flag_5 (tgt := 14) rfl ?_
    refine J_iconst C dL_flag_14 (rg_of (by decide)) ?_
    exact J_iret C dL_flag_15 M.2.2.1 ⟨_, rfl, h⟩
  · clear h
    rcases hx9 with ⟨rfl, h⟩ | ⟨rfl, h⟩
    · refine JX_catch (pre := []) (x := ⟨0, 5, 8, 13⟩) (suf := [⟨0, 5, 11, 17⟩]) (tgt := 8) C M.2.2.2 rfl kc0 rfl (by decide) wg_308 wt_324 rfl (fun q9 => ?_)
      refine K_astore_n C [vr (some x0), vi x1, vr (some q9)] dL_flag_8 rfl (Nat.le_of_ble_eq_true rfl) rfl ?_
      refine J_iconst C dL_flag_9 (rg_of (by decide)) ?_
      exact J_iret C dL_flag_10 M.2.2.1 ⟨_, rfl, h⟩
    · refine JX_catch (pre := [⟨0, 5, 8, 13⟩]) (x := ⟨0, 5, 11, 17⟩) (suf := []) (tgt := 11) C M.2.2.2 rfl (kc1 (by decide) wg_308 (by decide +kernel) kc0) rfl (by decide) wg_310 wt_425 rfl (fun q9 => ?_)
      refine K_astore_n C [vr (some x0), vi x1, vr (some q9)] dL_flag_11 rfl (Nat.le_of_ble_eq_true rfl) rfl ?_
      refine J_iconst C dL_flag_12 (rg_of (by decide)) ?_
      exact J_iret C dL_flag_13 M.2.2.1 ⟨_, rfl, h⟩
theorem c_L_flag {l : Launch} {G : Gp} {d : Nat} {x0 : Nat} {x1 : Int} {S : Shp} {F : Fl} {I : Il} {Q : Int → Shp → Fl → Il → Prop} (hl : l.stackTraces = false) (hd : 11 ≤ d) (h : V_L_flag x0 x1 S F I Q) : CM l G d yL_flag (.codeWith yL_flag cL_flag 3 (some .int) [(0, 5, 8, 13), (0, 5, 11, 17)]) [vr (some x0), vi x1] S F I (qI fun z S' F' I' => Q z S' F' I') noX :=
  CM_ofH [vr (some x0), vi x1, vl 0] hl (by decide +kernel) (kn1 trivial (kn1 trivial kn0)) (Nat.le_of_ble_eq_true rfl) rfl (fun X hX C M => S_L_flag C M hd h)
set_option maxRecDepth 20000 in
set_option maxHeartbeats 4000000 in
theorem S_L_form {G : Gp} {X : Xt} {d : Nat}  {x0 : Nat} {x1 : Int} {x2 : Int} {x3 : Nat} {Q : Int → Shp → Fl → Il → Prop} {S : Shp} {F : Fl} {I : Il} (C : CO G RL cL_form 5 X) (M : MH d (some .int) [(0, 10, 13, 13), (0, 10, 17, 17)] X) (hd : 12 ≤ d)  (h : V_L_form x0 x1 x2 x3 S F I Q) : J G X (QD X G (qI fun z S' F' I' => Q z S' F' I') noX) 0 [vr (some x0), vi x1, vi x2, vr (some x3), vl 0] [] S F I := by
  unfold V_L_form at h
  obtain ⟨d, rfl⟩ : ∃ d9, d = d9 + 1 := ⟨d - 1, by omega⟩
  refine J_aload_n C dL_form_0 rfl rfl ?_
  refine J_iconst C dL_form_1 (rg_of (by decide)) ?_
  refine J_aload_n C dL_form_2 rfl rfl ?_
  refine J_iload_n C dL_form_3 rfl rfl ?_
  refine J_iload_n C dL_form_4 rfl rfl ?_
  obtain ⟨hK1, h⟩ := h
  refine K_VH C M.1 M.2.1 [vi x1, vi x2] [vi 0, vr (some x3)] mi_X8_form wg_806 wg_807 wg_808 ⟨rfl, by decide⟩ dL_form_5 hK1 rfl rfl (by decide) (Nat.le_of_ble_eq_true rfl) (c_X8_form (C.2.2.2.2.2.2.2) (by omega) h) (fun v9 S' F3 I4 hq9 => ?_) (fun E9 S9 F9 I9 hx9 => ?_) rfl
  · clear h
    obtain ⟨z2, rfl, rfl, h⟩ := hq9
    refine J_i2l C dL_form_8 ?_
    obtain ⟨hK5, h⟩ := h
    obtain ⟨h06, hn7, h⟩ := h
    refine J_last C dL_form_9 hK5 h06 hn7 ?_
    refine J_goto C dL_form_10 (tgt := 21) rfl ?_
    refine J_iconst C dL_form_21 (rg_of (by decide)) ?_
    exact J_iret C dL_form_22 M.2.2.1 ⟨_, rfl, h⟩
  · clear h
    rcases hx9 with ⟨rfl, h⟩ | ⟨rfl, h⟩
    · refine JX_catch (pre := []) (x := ⟨0, 10, 13, 13⟩) (suf := [⟨0, 10, 17, 17⟩]) (tgt := 13) C M.2.2.2 rfl kc0 rfl (by decide) wg_308 wt_324 rfl (fun q9 => ?_)
      refine K_astore C [vr (some x0), vi x1, vi x2, vr (some x3), vr (some q9)] dL_form_13 (Nat.le_of_ble_eq_true rfl) rfl ?_
      refine J_iconst C dL_form_15 (rg_of (by decide)) ?_
      exact J_iret C dL_form_16 M.2.2.1 ⟨_, rfl, h⟩
    · refine JX_catch (pre := [⟨0, 10, 13, 13⟩]) (x := ⟨0, 10, 17, 17⟩) (suf := []) (tgt := 17) C M.2.2.2 rfl (kc1 (by decide) wg_308 (by decide +kernel) kc0) rfl (by decide) wg_310 wt_425 rfl (fun q9 => ?_)
      refine K_astore C [vr (some x0), vi x1, vi x2, vr (some x3), vr (some q9)] dL_form_17 (Nat.le_of_ble_eq_true rfl) rfl ?_
      refine J_iconst C dL_form_19 (rg_of (by decide)) ?_
      exact J_iret C dL_form_20 M.2.2.1 ⟨_, rfl, h⟩
theorem c_L_form {l : Launch} {G : Gp} {d : Nat} {x0 : Nat} {x1 : Int} {x2 : Int} {x3 : Nat} {S : Shp} {F : Fl} {I : Il} {Q : Int → Shp → Fl → Il → Prop} (hl : l.stackTraces = false) (hd : 12 ≤ d) (h : V_L_form x0 x1 x2 x3 S F I Q) : CM l G d yL_form (.codeWith yL_form cL_form 5 (some .int) [(0, 10, 13, 13), (0, 10, 17, 17)]) [vr (some x0), vi x1, vi x2, vr (some x3)] S F I (qI fun z S' F' I' => Q z S' F' I') noX :=
  CM_ofH [vr (some x0), vi x1, vi x2, vr (some x3), vl 0] hl (by decide +kernel) (kn1 trivial (kn1 trivial (kn1 trivial (kn1 trivial kn0)))) (Nat.le_of_ble_eq_true rfl) rfl (fun X hX C M => S_L_form C M hd h)
set_option maxRecDepth 20000 in
set_option maxHeartbeats 4000000 in
theorem S_L_freeTracks {G : Gp} {X : Xt} {d : Nat}  {x0 : Nat} {x1 : Int} {x2 : Nat} {Q : Int → Shp → Fl → Il → Prop} {S : Shp} {F : Fl} {I : Il} (C : CO G RL cL_freeTracks 4 X) (M : MH d (some .int) [(0, 9, 12, 13)] X) (hd : 12 ≤ d)  (h : V_L_freeTracks x0 x1 x2 S F I Q) : J G X (QD X G (qI fun z S' F' I' => Q z S' F' I') noX) 0 [vr (some x0), vi x1, vr (some x2), vl 0] [] S F I := by
  unfold V_L_freeTracks at h
  obtain ⟨d, rfl⟩ : ∃ d9, d = d9 + 1 := ⟨d - 1, by omega⟩
  refine J_aload_n C dL_freeTracks_0 rfl rfl ?_
  refine J_iconst C dL_freeTracks_1 (rg_of (by decide)) ?_
  refine J_aload_n C dL_freeTracks_2 rfl rfl ?_
  refine J_iload_n C dL_freeTracks_3 rfl rfl ?_
  obtain ⟨hK1, h⟩ := h
  refine K_VH C M.1 M.2.1 [vi x1] [vi 0, vr (some x2)] mi_X8_freeTracks wg_1083 wg_1084 wg_1085 ⟨rfl, by decide⟩ dL_freeTracks_4 hK1 rfl rfl (by decide) (Nat.le_of_ble_eq_true rfl) (c_X8_freeTracks (C.2.2.2.2.2.2.2) (by omega) h) (fun v9 S' F' I' hq9 => ?_) (fun E9 S9 F9 I9 hx9 => ?_) rfl
  · clear h
    obtain ⟨z2, rfl, rfl, rfl, rfl, h⟩ := hq9
    refine J_i2l C dL_freeTracks_7 ?_
    obtain ⟨hK3, h⟩ := h
    obtain ⟨h04, hn5, h⟩ := h
    refine J_last C dL_freeTracks_8 hK3 h04 hn5 ?_
    refine J_goto C dL_freeTracks_9 (tgt := 15) rfl ?_
    refine J_iconst C dL_freeTracks_15 (rg_of (by decide)) ?_
    exact J_iret C dL_freeTracks_16 M.2.2.1 ⟨_, rfl, h⟩
  · clear h
    rcases hx9 with ⟨rfl, h⟩
    · refine JX_catch (pre := []) (x := ⟨0, 9, 12, 13⟩) (suf := []) (tgt := 12) C M.2.2.2 rfl kc0 rfl (by decide) wg_308 wt_324 rfl (fun q9 => ?_)
      refine K_astore_n C [vr (some x0), vi x1, vr (some x2), vr (some q9)] dL_freeTracks_12 rfl (Nat.le_of_ble_eq_true rfl) rfl ?_
      refine J_iconst C dL_freeTracks_13 (rg_of (by decide)) ?_
      exact J_iret C dL_freeTracks_14 M.2.2.1 ⟨_, rfl, h⟩
theorem c_L_freeTracks {l : Launch} {G : Gp} {d : Nat} {x0 : Nat} {x1 : Int} {x2 : Nat} {S : Shp} {F : Fl} {I : Il} {Q : Int → Shp → Fl → Il → Prop} (hl : l.stackTraces = false) (hd : 12 ≤ d) (h : V_L_freeTracks x0 x1 x2 S F I Q) : CM l G d yL_freeTracks (.codeWith yL_freeTracks cL_freeTracks 4 (some .int) [(0, 9, 12, 13)]) [vr (some x0), vi x1, vr (some x2)] S F I (qI fun z S' F' I' => Q z S' F' I') noX :=
  CM_ofH [vr (some x0), vi x1, vr (some x2), vl 0] hl (by decide +kernel) (kn1 trivial (kn1 trivial (kn1 trivial kn0))) (Nat.le_of_ble_eq_true rfl) rfl (fun X hX C M => S_L_freeTracks C M hd h)
set_option maxRecDepth 20000 in
set_option maxHeartbeats 4000000 in
theorem S_L_holder {G : Gp} {X : Xt} {d : Nat}  {x0 : Nat} {x1 : Int} {x2 : Nat} {Q : Int → Shp → Fl → Il → Prop} {S : Shp} {F : Fl} {I : Il} (C : CO G RL cL_holder 4 X) (M : MH d (some .int) [(0, 9, 12, 13)] X) (hd : 11 ≤ d)  (h : V_L_holder x0 x1 x2 S F I Q) : J G X (QD X G (qI fun z S' F' I' => Q z S' F' I') noX) 0 [vr (some x0), vi x1, vr (some x2), vl 0] [] S F I := by
  unfold V_L_holder at h
  obtain ⟨d, rfl⟩ : ∃ d9, d = d9 + 1 := ⟨d - 1, by omega⟩
  refine J_aload_n C dL_holder_0 rfl rfl ?_
  refine J_iconst C dL_holder_1 (rg_of (by decide)) ?_
  refine J_aload_n C dL_holder_2 rfl rfl ?_
  refine J_iload_n C dL_holder_3 rfl rfl ?_
  obtain ⟨hK1, h⟩ := h
  refine K_VH C M.1 M.2.1 [vi x1] [vi 0, vr (some x2)] mi_X8_holder wg_1090 wg_1091 wg_1092 ⟨rfl, by decide⟩ dL_holder_4 hK1 rfl rfl (by decide) (Nat.le_of_ble_eq_true rfl) (c_X8_holder (C.2.2.2.2.2.2.2) (by omega) h) (fun v9 S' F' I' hq9 => ?_) (fun E9 S9 F9 I9 hx9 => ?_) rfl
  · clear h
    obtain ⟨z2, rfl, rfl, rfl, rfl, h⟩ := hq9
    refine J_i2l C dL_holder_7 ?_
    obtain ⟨hK3, h⟩ := h
    obtain ⟨h04, hn5, h⟩ := h
    refine J_last C dL_holder_8 hK3 h04 hn5 ?_
    refine J_goto C dL_holder_9 (tgt := 15) rfl ?_
    refine J_iconst C dL_holder_15 (rg_of (by decide)) ?_
    exact J_iret C dL_holder_16 M.2.2.1 ⟨_, rfl, h⟩
  · clear h
    rcases hx9 with ⟨rfl, h⟩
    · refine JX_catch (pre := []) (x := ⟨0, 9, 12, 13⟩) (suf := []) (tgt := 12) C M.2.2.2 rfl kc0 rfl (by decide) wg_308 wt_324 rfl (fun q9 => ?_)
      refine K_astore_n C [vr (some x0), vi x1, vr (some x2), vr (some q9)] dL_holder_12 rfl (Nat.le_of_ble_eq_true rfl) rfl ?_
      refine J_iconst C dL_holder_13 (rg_of (by decide)) ?_
      exact J_iret C dL_holder_14 M.2.2.1 ⟨_, rfl, h⟩
theorem c_L_holder {l : Launch} {G : Gp} {d : Nat} {x0 : Nat} {x1 : Int} {x2 : Nat} {S : Shp} {F : Fl} {I : Il} {Q : Int → Shp → Fl → Il → Prop} (hl : l.stackTraces = false) (hd : 11 ≤ d) (h : V_L_holder x0 x1 x2 S F I Q) : CM l G d yL_holder (.codeWith yL_holder cL_holder 4 (some .int) [(0, 9, 12, 13)]) [vr (some x0), vi x1, vr (some x2)] S F I (qI fun z S' F' I' => Q z S' F' I') noX :=
  CM_ofH [vr (some x0), vi x1, vr (some x2), vl 0] hl (by decide +kernel) (kn1 trivial (kn1 trivial (kn1 trivial kn0))) (Nat.le_of_ble_eq_true rfl) rfl (fun X hX C M => S_L_holder C M hd h)
set_option maxRecDepth 20000 in
set_option maxHeartbeats 4000000 in
theorem S_L_holderByTrains {G : Gp} {X : Xt} {d : Nat}  {x0 : Nat} {x1 : Int} {x2 : Nat} {Q : Int → Shp → Fl → Il → Prop} {S : Shp} {F : Fl} {I : Il} (C : CO G RL cL_holderByTrains 4 X) (M : MH d (some .int) [(0, 9, 12, 13)] X) (hd : 11 ≤ d)  (h : V_L_holderByTrains x0 x1 x2 S F I Q) : J G X (QD X G (qI fun z S' F' I' => Q z S' F' I') noX) 0 [vr (some x0), vi x1, vr (some x2), vl 0] [] S F I := by
  unfold V_L_holderByTrains at h
  obtain ⟨d, rfl⟩ : ∃ d9, d = d9 + 1 := ⟨d - 1, by omega⟩
  refine J_aload_n C dL_holderByTrains_0 rfl rfl ?_
  refine J_iconst C dL_holderByTrains_1 (rg_of (by decide)) ?_
  refine J_aload_n C dL_holderByTrains_2 rfl rfl ?_
  refine J_iload_n C dL_holderByTrains_3 rfl rfl ?_
  obtain ⟨hK1, h⟩ := h
  refine K_VH C M.1 M.2.1 [vi x1] [vi 0, vr (some x2)] mi_X8_holderByTrains wg_1097 wg_1098 wg_1099 ⟨rfl, by decide⟩ dL_holderByTrains_4 hK1 rfl rfl (by decide) (Nat.le_of_ble_eq_true rfl) (c_X8_holderByTrains (C.2.2.2.2.2.2.2) (by omega) h) (fun v9 S' F' I' hq9 => ?_) (fun E9 S9 F9 I9 hx9 => ?_) rfl
  · clear h
    obtain ⟨z2, rfl, rfl, rfl, rfl, h⟩ := hq9
    refine J_i2l C dL_holderByTrains_7 ?_
    obtain ⟨hK3, h⟩ := h
    obtain ⟨h04, hn5, h⟩ := h
    refine J_last C dL_holderByTrains_8 hK3 h04 hn5 ?_
    refine J_goto C dL_holderByTrains_9 (tgt := 15) rfl ?_
    refine J_iconst C dL_holderByTrains_15 (rg_of (by decide)) ?_
    exact J_iret C dL_holderByTrains_16 M.2.2.1 ⟨_, rfl, h⟩
  · clear h
    rcases hx9 with ⟨rfl, h⟩
    · refine JX_catch (pre := []) (x := ⟨0, 9, 12, 13⟩) (suf := []) (tgt := 12) C M.2.2.2 rfl kc0 rfl (by decide) wg_308 wt_324 rfl (fun q9 => ?_)
      refine K_astore_n C [vr (some x0), vi x1, vr (some x2), vr (some q9)] dL_holderByTrains_12 rfl (Nat.le_of_ble_eq_true rfl) rfl ?_
      refine J_iconst C dL_holderByTrains_13 (rg_of (by decide)) ?_
      exact J_iret C dL_holderByTrains_14 M.2.2.1 ⟨_, rfl, h⟩
theorem c_L_holderByTrains {l : Launch} {G : Gp} {d : Nat} {x0 : Nat} {x1 : Int} {x2 : Nat} {S : Shp} {F : Fl} {I : Il} {Q : Int → Shp → Fl → Il → Prop} (hl : l.stackTraces = false) (hd : 11 ≤ d) (h : V_L_holderByTrains x0 x1 x2 S F I Q) : CM l G d yL_holderByTrains (.codeWith yL_holderByTrains cL_holderByTrains 4 (some .int) [(0, 9, 12, 13)]) [vr (some x0), vi x1, vr (some x2)] S F I (qI fun z S' F' I' => Q z S' F' I') noX :=
  CM_ofH [vr (some x0), vi x1, vr (some x2), vl 0] hl (by decide +kernel) (kn1 trivial (kn1 trivial (kn1 trivial kn0))) (Nat.le_of_ble_eq_true rfl) rfl (fun X hX C M => S_L_holderByTrains C M hd h)
set_option maxRecDepth 20000 in
set_option maxHeartbeats 4000000 in
theorem S_L_homeward {G : Gp} {X : Xt} {d : Nat}  {x0 : Nat} {x1 : Int} {x2 : Nat} {Q : Int → Shp → Fl → Il → Prop} {S : Shp} {F : Fl} {I : Il} (C : CO G RL cL_homeward 4 X) (M : MH d (some .int) [(0, 9, 12, 13)] X) (hd : 11 ≤ d)  (h : V_L_homeward x0 x1 x2 S F I Q) : J G X (QD X G (qI fun z S' F' I' => Q z S' F' I') noX) 0 [vr (some x0), vi x1, vr (some x2), vl 0] [] S F I := by
  unfold V_L_homeward at h
  obtain ⟨d, rfl⟩ : ∃ d9, d = d9 + 1 := ⟨d - 1, by omega⟩
  refine J_aload_n C dL_homeward_0 rfl rfl ?_
  refine J_iconst C dL_homeward_1 (rg_of (by decide)) ?_
  refine J_aload_n C dL_homeward_2 rfl rfl ?_
  refine J_iload_n C dL_homeward_3 rfl rfl ?_
  obtain ⟨hK1, h⟩ := h
  refine K_VH C M.1 M.2.1 [vi x1] [vi 0, vr (some x2)] mi_X8_homeward wg_1175 wg_1176 wg_1177 ⟨rfl, by decide⟩ dL_homeward_4 hK1 rfl rfl (by decide) (Nat.le_of_ble_eq_true rfl) (c_X8_homeward (C.2.2.2.2.2.2.2) (by omega) h) (fun v9 S' F' I3 hq9 => ?_) (fun E9 S9 F9 I9 hx9 => ?_) rfl
  · clear h
    obtain ⟨z2, rfl, rfl, rfl, h⟩ := hq9
    refine J_i2l C dL_homeward_7 ?_
    obtain ⟨hK4, h⟩ := h
    obtain ⟨h05, hn6, h⟩ := h
    refine J_last C dL_homeward_8 hK4 h05 hn6 ?_
    refine J_goto C dL_homeward_9 (tgt := 15) rfl ?_
    refine J_iconst C dL_homeward_15 (rg_of (by decide)) ?_
    exact J_iret C dL_homeward_16 M.2.2.1 ⟨_, rfl, h⟩
  · clear h
    rcases hx9 with ⟨rfl, h⟩
    · refine JX_catch (pre := []) (x := ⟨0, 9, 12, 13⟩) (suf := []) (tgt := 12) C M.2.2.2 rfl kc0 rfl (by decide) wg_308 wt_324 rfl (fun q9 => ?_)
      refine K_astore_n C [vr (some x0), vi x1, vr (some x2), vr (some q9)] dL_homeward_12 rfl (Nat.le_of_ble_eq_true rfl) rfl ?_
      refine J_iconst C dL_homeward_13 (rg_of (by decide)) ?_
      exact J_iret C dL_homeward_14 M.2.2.1 ⟨_, rfl, h⟩
theorem c_L_homeward {l : Launch} {G : Gp} {d : Nat} {x0 : Nat} {x1 : Int} {x2 : Nat} {S : Shp} {F : Fl} {I : Il} {Q : Int → Shp → Fl → Il → Prop} (hl : l.stackTraces = false) (hd : 11 ≤ d) (h : V_L_homeward x0 x1 x2 S F I Q) : CM l G d yL_homeward (.codeWith yL_homeward cL_homeward 4 (some .int) [(0, 9, 12, 13)]) [vr (some x0), vi x1, vr (some x2)] S F I (qI fun z S' F' I' => Q z S' F' I') noX :=
  CM_ofH [vr (some x0), vi x1, vr (some x2), vl 0] hl (by decide +kernel) (kn1 trivial (kn1 trivial (kn1 trivial kn0))) (Nat.le_of_ble_eq_true rfl) rfl (fun X hX C M => S_L_homeward C M hd h)
set_option maxRecDepth 20000 in
set_option maxHeartbeats 4000000 in
theorem S_L_hours {G : Gp} {X : Xt} {d : Nat}  {x0 : Nat} {x1 : Int} {x2 : Int} {x3 : Int} {Q : Int → Shp → Fl → Il → Prop} {S : Shp} {F : Fl} {I : Il} (C : CO G RL cL_hours 5 X) (M : MH d (some .int) [(0, 7, 10, 13), (0, 7, 14, 15)] X) (hd : 11 ≤ d)  (h : V_L_hours x0 x1 x2 x3 S F I Q) : J G X (QD X G (qI fun z S' F' I' => Q z S' F' I') noX) 0 [vr (some x0), vi x1, vi x2, vi x3, vl 0] [] S F I := by
  unfold V_L_hours at h
  obtain ⟨d, rfl⟩ : ∃ d9, d = d9 + 1 := ⟨d - 1, by omega⟩
  refine J_aload_n C dL_hours_0 rfl rfl ?_
  refine J_iload_n C dL_hours_1 rfl rfl ?_
  refine J_iload_n C dL_hours_2 rfl rfl ?_
  refine J_iload_n C dL_hours_3 rfl rfl ?_
  obtain ⟨hK1, h⟩ := h
  refine K_VH C M.1 M.2.1 [vi x1, vi x2, vi x3] [] mi_X8_hours wg_609 wg_610 wg_611 ⟨rfl, by decide⟩ dL_hours_4 hK1 rfl rfl (by decide) (Nat.le_of_ble_eq_true rfl) (c_X8_hours (C.2.2.2.2.2.2.2) (by omega) h) (fun v9 S' F2 I' hq9 => ?_) (fun E9 S9 F9 I9 hx9 => ?_) rfl
  · clear h
    obtain ⟨rfl, rfl, rfl, h⟩ := hq9
    refine J_goto C dL_hours_7 (tgt := 18) rfl ?_
    refine J_iconst C dL_hours_18 (rg_of (by decide)) ?_
    exact J_iret C dL_hours_19 M.2.2.1 ⟨_, rfl, h⟩
  · clear h
    rcases hx9 with ⟨rfl, h⟩ | ⟨rfl, h⟩
    · refine JX_catch (pre := []) (x := ⟨0, 7, 10, 13⟩) (suf := [⟨0, 7, 14, 15⟩]) (tgt := 10) C M.2.2.2 rfl kc0 rfl (by decide) wg_308 wt_324 rfl (fun q9 => ?_)
      refine K_astore C [vr (some x0), vi x1, vi x2, vi x3, vr (some q9)] dL_hours_10 (Nat.le_of_ble_eq_true rfl) rfl ?_
      refine J_iconst C dL_hours_12 (rg_of (by decide)) ?_
      exact J_iret C dL_hours_13 M.2.2.1 ⟨_, rfl, h⟩
    · refine JX_catch (pre := [⟨0, 7, 10, 13⟩]) (x := ⟨0, 7, 14, 15⟩) (suf := []) (tgt := 14) C M.2.2.2 rfl (kc1 (by decide) wg_308 (by decide +kernel) kc0) rfl (by decide) wg_309 wt_398 rfl (fun q9 => ?_)
      refine K_astore C [vr (some x0), vi x1, vi x2, vi x3, vr (some q9)] dL_hours_14 (Nat.le_of_ble_eq_true rfl) rfl ?_
      refine J_iconst C dL_hours_16 (rg_of (by decide)) ?_
      exact J_iret C dL_hours_17 M.2.2.1 ⟨_, rfl, h⟩
theorem c_L_hours {l : Launch} {G : Gp} {d : Nat} {x0 : Nat} {x1 : Int} {x2 : Int} {x3 : Int} {S : Shp} {F : Fl} {I : Il} {Q : Int → Shp → Fl → Il → Prop} (hl : l.stackTraces = false) (hd : 11 ≤ d) (h : V_L_hours x0 x1 x2 x3 S F I Q) : CM l G d yL_hours (.codeWith yL_hours cL_hours 5 (some .int) [(0, 7, 10, 13), (0, 7, 14, 15)]) [vr (some x0), vi x1, vi x2, vi x3] S F I (qI fun z S' F' I' => Q z S' F' I') noX :=
  CM_ofH [vr (some x0), vi x1, vi x2, vi x3, vl 0] hl (by decide +kernel) (kn1 trivial (kn1 trivial (kn1 trivial (kn1 trivial kn0)))) (Nat.le_of_ble_eq_true rfl) rfl (fun X hX C M => S_L_hours C M hd h)
set_option maxRecDepth 20000 in
set_option maxHeartbeats 4000000 in
theorem S_L_tracks {G : Gp} {X : Xt} {d : Nat}  {x0 : Nat} {x1 : Int} {x2 : Int} {x3 : Nat} {Q : Int → Shp → Fl → Il → Prop} {S : Shp} {F : Fl} {I : Il} (C : CO G RL cL_tracks 5 X) (M : MH d (some .int) [(0, 10, 13, 13), (0, 10, 17, 15), (0, 10, 21, 17)] X) (hd : 11 ≤ d)  (h : V_L_tracks x0 x1 x2 x3 S F I Q) : J G X (QD X G (qI fun z S' F' I' => Q z S' F' I') noX) 0 [vr (some x0), vi x1, vi x2, vr (some x3), vl 0] [] S F I := by
  unfold V_L_tracks at h
  obtain ⟨d, rfl⟩ : ∃ d9, d = d9 + 1 := ⟨d - 1, by omega⟩
  refine J_aload_n C dL_tracks_0 rfl rfl ?_
  refine J_iconst C dL_tracks_1 (rg_of (by decide)) ?_
  refine J_aload_n C dL_tracks_2 rfl rfl ?_
  refine J_iload_n C dL_tracks_3 rfl rfl ?_
  refine J_iload_n C dL_tracks_4 rfl rfl ?_
  obtain ⟨hK1, h⟩ := h
  refine K_VH C M.1 M.2.1 [vi x1, vi x2] [vi 0, vr (some x3)] mi_X8_tracks wg_311 wg_312 wg_313 ⟨rfl, by decide⟩ dL_tracks_5 hK1 rfl rfl (by decide) (Nat.le_of_ble_eq_true rfl) (c_X8_tracks (C.2.2.2.2.2.2.2) (by omega) h) (fun v9 S' F3 I' hq9 => ?_) (fun E9 S9 F9 I9 hx9 => ?_) rfl
  · clear h
    obtain ⟨z2, rfl, rfl, rfl, h⟩ := hq9
    refine J_i2l C dL_tracks_8 ?_
    obtain ⟨hK4, h⟩ := h
    obtain ⟨h05, hn6, h⟩ := h
    refine J_last C dL_tracks_9 hK4 h05 hn6 ?_
    refine J_goto C dL_tracks_10 (tgt := 25) rfl ?_
    refine J_iconst C dL_tracks_25 (rg_of (by decide)) ?_
    exact J_iret C dL_tracks_26 M.2.2.1 ⟨_, rfl, h⟩
  · clear h
    rcases hx9 with ⟨rfl, h⟩ | ⟨rfl, h⟩ | ⟨rfl, h⟩
    · refine JX_catch (pre := []) (x := ⟨0, 10, 13, 13⟩) (suf := [⟨0, 10, 17, 15⟩, ⟨0, 10, 21, 17⟩]) (tgt := 13) C M.2.2.2 rfl kc0 rfl (by decide) wg_308 wt_324 rfl (fun q9 => ?_)
      refine K_astore C [vr (some x0), vi x1, vi x2, vr (some x3), vr (some q9)] dL_tracks_13 (Nat.le_of_ble_eq_true rfl) rfl ?_
      refine J_iconst C dL_tracks_15 (rg_of (by decide)) ?_
      exact J_iret C dL_tracks_16 M.2.2.1 ⟨_, rfl, h⟩
    · refine JX_catch (pre := [⟨0, 10, 13, 13⟩]) (x := ⟨0, 10, 17, 15⟩) (suf := [⟨0, 10, 21, 17⟩]) (tgt := 17) C M.2.2.2 rfl (kc1 (by decide) wg_308 (by decide +kernel) kc0) rfl (by decide) wg_309 wt_398 rfl (fun q9 => ?_)
      refine K_astore C [vr (some x0), vi x1, vi x2, vr (some x3), vr (some q9)] dL_tracks_17 (Nat.le_of_ble_eq_true rfl) rfl ?_
      refine J_iconst C dL_tracks_19 (rg_of (by decide)) ?_
      exact J_iret C dL_tracks_20 M.2.2.1 ⟨_, rfl, h⟩
    · refine JX_catch (pre := [⟨0, 10, 13, 13⟩, ⟨0, 10, 17, 15⟩]) (x := ⟨0, 10, 21, 17⟩) (suf := []) (tgt := 21) C M.2.2.2 rfl (kc1 (by decide) wg_308 (by decide +kernel) (kc1 (by decide) wg_309 (by decide +kernel) kc0)) rfl (by decide) wg_310 wt_425 rfl (fun q9 => ?_)
      refine K_astore C [vr (some x0), vi x1, vi x2, vr (some x3), vr (some q9)] dL_tracks_21 (Nat.le_of_ble_eq_true rfl) rfl ?_
      refine J_iconst C dL_tracks_23 (rg_of (by decide)) ?_
      exact J_iret C dL_tracks_24 M.2.2.1 ⟨_, rfl, h⟩
theorem c_L_tracks {l : Launch} {G : Gp} {d : Nat} {x0 : Nat} {x1 : Int} {x2 : Int} {x3 : Nat} {S : Shp} {F : Fl} {I : Il} {Q : Int → Shp → Fl → Il → Prop} (hl : l.stackTraces = false) (hd : 11 ≤ d) (h : V_L_tracks x0 x1 x2 x3 S F I Q) : CM l G d yL_tracks (.codeWith yL_tracks cL_tracks 5 (some .int) [(0, 10, 13, 13), (0, 10, 17, 15), (0, 10, 21, 17)]) [vr (some x0), vi x1, vi x2, vr (some x3)] S F I (qI fun z S' F' I' => Q z S' F' I') noX :=
  CM_ofH [vr (some x0), vi x1, vi x2, vr (some x3), vl 0] hl (by decide +kernel) (kn1 trivial (kn1 trivial (kn1 trivial (kn1 trivial kn0)))) (Nat.le_of_ble_eq_true rfl) rfl (fun X hX C M => S_L_tracks C M hd h)
set_option maxRecDepth 20000 in
set_option maxHeartbeats 4000000 in
theorem S_L_lay {G : Gp} {X : Xt} {d : Nat}  {x0 : Nat} {x1 : Int} {x2 : Int} {x3 : Int} {x4 : Int} {x5 : Nat} {Q : Int → Shp → Fl → Il → Prop} {S : Shp} {F : Fl} {I : Il} (C : CO G RL cL_lay 7 X) (M : MH d (some .int) [(0, 14, 17, 13), (0, 14, 21, 15), (0, 14, 25, 17)] X) (hd : 11 ≤ d)  (h : V_L_lay G x0 x1 x2 x3 x4 x5 S F I Q) : J G X (QD X G (qI fun z S' F' I' => Q z S' F' I') noX) 0 [vr (some x0), vi x1, vi x2, vi x3, vi x4, vr (some x5), vl 0] [] S F I := by
  unfold V_L_lay at h
  obtain ⟨d, rfl⟩ : ∃ d9, d = d9 + 1 := ⟨d - 1, by omega⟩
  refine J_aload C dL_lay_0 rfl ?_
  refine J_iconst C dL_lay_2 (rg_of (by decide)) ?_
  refine J_aload_n C dL_lay_3 rfl rfl ?_
  refine J_iload_n C dL_lay_4 rfl rfl ?_
  refine J_iload_n C dL_lay_5 rfl rfl ?_
  refine J_iload_n C dL_lay_6 rfl rfl ?_
  refine J_iload C dL_lay_7 rfl ?_
  obtain ⟨hK1, h⟩ := h
  refine K_VH C M.1 M.2.1 [vi x1, vi x2, vi x3, vi x4] [vi 0, vr (some x5)] mi_X8_lay wg_442 wg_443 wg_444 ⟨rfl, by decide⟩ dL_lay_9 hK1 rfl rfl (by decide) (Nat.le_of_ble_eq_true rfl) (c_X8_lay (C.2.2.2.2.2.2.2) (by omega) h) (fun v9 S3 F4 I5 hq9 => ?_) (fun E9 S9 F9 I9 hx9 => ?_) rfl
  · clear h
    obtain ⟨z2, rfl, h⟩ := hq9
    refine J_i2l C dL_lay_12 ?_
    obtain ⟨hK6, h⟩ := h
    obtain ⟨h07, hn8, h⟩ := h
    refine J_last C dL_lay_13 hK6 h07 hn8 ?_
    refine J_goto C dL_lay_14 (tgt := 29) rfl ?_
    refine J_iconst C dL_lay_29 (rg_of (by decide)) ?_
    exact J_iret C dL_lay_30 M.2.2.1 ⟨_, rfl, h⟩
  · clear h
    rcases hx9 with ⟨rfl, h⟩ | ⟨rfl, h⟩ | ⟨rfl, h⟩
    · refine JX_catch (pre := []) (x := ⟨0, 14, 17, 13⟩) (suf := [⟨0, 14, 21, 15⟩, ⟨0, 14, 25, 17⟩]) (tgt := 17) C M.2.2.2 rfl kc0 rfl (by decide) wg_308 wt_324 rfl (fun q9 => ?_)
      refine K_astore C [vr (some x0), vi x1, vi x2, vi x3, vi x4, vr (some x5), vr (some q9)] dL_lay_17 (Nat.le_of_ble_eq_true rfl) rfl ?_
      refine J_iconst C dL_lay_19 (rg_of (by decide)) ?_
      exact J_iret C dL_lay_20 M.2.2.1 ⟨_, rfl, h⟩
    · refine JX_catch (pre := [⟨0, 14, 17, 13⟩]) (x := ⟨0, 14, 21, 15⟩) (suf := [⟨0, 14, 25, 17⟩]) (tgt := 21) C M.2.2.2 rfl (kc1 (by decide) wg_308 (by decide +kernel) kc0) rfl (by decide) wg_309 wt_398 rfl (fun q9 => ?_)
      refine K_astore C [vr (some x0), vi x1, vi x2, vi x3, vi x4, vr (some x5), vr (some q9)] dL_lay_21 (Nat.le_of_ble_eq_true rfl) rfl ?_
      refine J_iconst C dL_lay_23 (rg_of (by decide)) ?_
      exact J_iret C dL_lay_24 M.2.2.1 ⟨_, rfl, h⟩
    · refine JX_catch (pre := [⟨0, 14, 17, 13⟩, ⟨0, 14, 21, 15⟩]) (x := ⟨0, 14, 25, 17⟩) (suf := []) (tgt := 25) C M.2.2.2 rfl (kc1 (by decide) wg_308 (by decide +kernel) (kc1 (by decide) wg_309 (by decide +kernel) kc0)) rfl (by decide) wg_310 wt_425 rfl (fun q9 => ?_)
      refine K_astore C [vr (some x0), vi x1, vi x2, vi x3, vi x4, vr (some x5), vr (some q9)] dL_lay_25 (Nat.le_of_ble_eq_true rfl) rfl ?_
      refine J_iconst C dL_lay_27 (rg_of (by decide)) ?_
      exact J_iret C dL_lay_28 M.2.2.1 ⟨_, rfl, h⟩
theorem c_L_lay {l : Launch} {G : Gp} {d : Nat} {x0 : Nat} {x1 : Int} {x2 : Int} {x3 : Int} {x4 : Int} {x5 : Nat} {S : Shp} {F : Fl} {I : Il} {Q : Int → Shp → Fl → Il → Prop} (hl : l.stackTraces = false) (hd : 11 ≤ d) (h : V_L_lay G x0 x1 x2 x3 x4 x5 S F I Q) : CM l G d yL_lay (.codeWith yL_lay cL_lay 7 (some .int) [(0, 14, 17, 13), (0, 14, 21, 15), (0, 14, 25, 17)]) [vr (some x0), vi x1, vi x2, vi x3, vi x4, vr (some x5)] S F I (qI fun z S' F' I' => Q z S' F' I') noX :=
  CM_ofH [vr (some x0), vi x1, vi x2, vi x3, vi x4, vr (some x5), vl 0] hl (by decide +kernel) (kn1 trivial (kn1 trivial (kn1 trivial (kn1 trivial (kn1 trivial (kn1 trivial kn0)))))) (Nat.le_of_ble_eq_true rfl) rfl (fun X hX C M => S_L_lay C M hd h)
set_option maxRecDepth 20000 in
set_option maxHeartbeats 4000000 in
theorem S_L_repair {G : Gp} {X : Xt} {d : Nat}  {x0 : Nat} {x1 : Int} {x2 : Nat} {Q : Int → Shp → Fl → Il → Prop} {S : Shp} {F : Fl} {I : Il} (C : CO G RL cL_repair 4 X) (M : MH d (some .int) [(0, 9, 12, 13), (0, 9, 15, 17)] X) (hd : 11 ≤ d)  (h : V_L_repair x0 x1 x2 S F I Q) : J G X (QD X G (qI fun z S' F' I' => Q z S' F' I') noX) 0 [vr (some x0), vi x1, vr (some x2), vl 0] [] S F I := by
  unfold V_L_repair at h
  obtain ⟨d, rfl⟩ : ∃ d9, d = d9 + 1 := ⟨d - 1, by omega⟩
  refine J_aload_n C dL_repair_0 rfl rfl ?_
  refine J_iconst C dL_repair_1 (rg_of (by decide)) ?_
  refine J_aload_n C dL_repair_2 rfl rfl ?_
  refine J_iload_n C dL_repair_3 rfl rfl ?_
  obtain ⟨hK1, h⟩ := h
  refine K_VH C M.1 M.2.1 [vi x1] [vi 0, vr (some x2)] mi_X8_repair wg_616 wg_617 wg_618 ⟨rfl, by decide⟩ dL_repair_4 hK1 rfl rfl (by decide) (Nat.le_of_ble_eq_true rfl) (c_X8_repair (C.2.2.2.2.2.2.2) (by omega) h) (fun v9 S' F3 I' hq9 => ?_) (fun E9 S9 F9 I9 hx9 => ?_) rfl
  · clear h
    obtain ⟨z2, rfl, rfl, rfl, h⟩ := hq9
    refine J_i2l C dL_repair_7 ?_
    obtain ⟨hK4, h⟩ := h
    obtain ⟨h05, hn6, h⟩ := h
    refine J_last C dL_repair_8 hK4 h05 hn6 ?_
    refine J_goto C dL_repair_9 (tgt := 18) rfl ?_
    refine J_iconst C dL_repair_18 (rg_of (by decide)) ?_
    exact J_iret C dL_repair_19 M.2.2.1 ⟨_, rfl, h⟩
  · clear h
    rcases hx9 with ⟨rfl, h⟩ | ⟨rfl, h⟩
    · refine JX_catch (pre := []) (x := ⟨0, 9, 12, 13⟩) (suf := [⟨0, 9, 15, 17⟩]) (tgt := 12) C M.2.2.2 rfl kc0 rfl (by decide) wg_308 wt_324 rfl (fun q9 => ?_)
      refine K_astore_n C [vr (some x0), vi x1, vr (some x2), vr (some q9)] dL_repair_12 rfl (Nat.le_of_ble_eq_true rfl) rfl ?_
      refine J_iconst C dL_repair_13 (rg_of (by decide)) ?_
      exact J_iret C dL_repair_14 M.2.2.1 ⟨_, rfl, h⟩
    · refine JX_catch (pre := [⟨0, 9, 12, 13⟩]) (x := ⟨0, 9, 15, 17⟩) (suf := []) (tgt := 15) C M.2.2.2 rfl (kc1 (by decide) wg_308 (by decide +kernel) kc0) rfl (by decide) wg_310 wt_425 rfl (fun q9 => ?_)
      refine K_astore_n C [vr (some x0), vi x1, vr (some x2), vr (some q9)] dL_repair_15 rfl (Nat.le_of_ble_eq_true rfl) rfl ?_
      refine J_iconst C dL_repair_16 (rg_of (by decide)) ?_
      exact J_iret C dL_repair_17 M.2.2.1 ⟨_, rfl, h⟩
theorem c_L_repair {l : Launch} {G : Gp} {d : Nat} {x0 : Nat} {x1 : Int} {x2 : Nat} {S : Shp} {F : Fl} {I : Il} {Q : Int → Shp → Fl → Il → Prop} (hl : l.stackTraces = false) (hd : 11 ≤ d) (h : V_L_repair x0 x1 x2 S F I Q) : CM l G d yL_repair (.codeWith yL_repair cL_repair 4 (some .int) [(0, 9, 12, 13), (0, 9, 15, 17)]) [vr (some x0), vi x1, vr (some x2)] S F I (qI fun z S' F' I' => Q z S' F' I') noX :=
  CM_ofH [vr (some x0), vi x1, vr (some x2), vl 0] hl (by decide +kernel) (kn1 trivial (kn1 trivial (kn1 trivial kn0))) (Nat.le_of_ble_eq_true rfl) rfl (fun X hX C M => S_L_repair C M hd h)
set_option maxRecDepth 20000 in
set_option maxHeartbeats 4000000 in
theorem S_L_learn {G : Gp} {X : Xt} {d : Nat}  {x0 : Nat} {x1 : Int} {x2 : Int} {x3 : Nat} {Q : Int → Shp → Fl → Il → Prop} {S : Shp} {F : Fl} {I : Il} (C : CO G RL cL_learn 5 X) (M : MH d (some .int) [(0, 10, 13, 13)] X) (hd : 11 ≤ d)  (h : V_L_learn x0 x1 x2 x3 S F I Q) : J G X (QD X G (qI fun z S' F' I' => Q z S' F' I') noX) 0 [vr (some x0), vi x1, vi x2, vr (some x3), vl 0] [] S F I := by
  unfold V_L_learn at h
  obtain ⟨d, rfl⟩ : ∃ d9, d = d9 + 1 := ⟨d - 1, by omega⟩
  refine J_aload_n C dL_learn_0 rfl rfl ?_
  refine J_iconst C dL_learn_1 (rg_of (by decide)) ?_
  refine J_aload_n C dL_learn_2 rfl rfl ?_
  refine J_iload_n C dL_learn_3 rfl rfl ?_
  refine J_iload_n C dL_learn_4 rfl rfl ?_
  obtain ⟨hK1, h⟩ := h
  refine K_VH C M.1 M.2.1 [vi x1, vi x2] [vi 0, vr (some x3)] mi_X8_learn wg_691 wg_692 wg_693 ⟨rfl, by decide⟩ dL_learn_5 hK1 rfl rfl (by decide) (Nat.le_of_ble_eq_true rfl) (c_X8_learn (C.2.2.2.2.2.2.2) (by omega) h) (fun v9 S' F3 I' hq9 => ?_) (fun E9 S9 F9 I9 hx9 => ?_) rfl
  · clear h
    obtain ⟨z2, rfl, rfl, rfl, h⟩ := hq9
    refine J_i2l C dL_learn_8 ?_
    obtain ⟨hK4, h⟩ := h
    obtain ⟨h05, hn6, h⟩ := h
    refine J_last C dL_learn_9 hK4 h05 hn6 ?_
    refine J_goto C dL_learn_10 (tgt := 17) rfl ?_
    refine J_iconst C dL_learn_17 (rg_of (by decide)) ?_
    exact J_iret C dL_learn_18 M.2.2.1 ⟨_, rfl, h⟩
  · clear h
    rcases hx9 with ⟨rfl, h⟩
    · refine JX_catch (pre := []) (x := ⟨0, 10, 13, 13⟩) (suf := []) (tgt := 13) C M.2.2.2 rfl kc0 rfl (by decide) wg_308 wt_324 rfl (fun q9 => ?_)
      refine K_astore C [vr (some x0), vi x1, vi x2, vr (some x3), vr (some q9)] dL_learn_13 (Nat.le_of_ble_eq_true rfl) rfl ?_
      refine J_iconst C dL_learn_15 (rg_of (by decide)) ?_
      exact J_iret C dL_learn_16 M.2.2.1 ⟨_, rfl, h⟩
theorem c_L_learn {l : Launch} {G : Gp} {d : Nat} {x0 : Nat} {x1 : Int} {x2 : Int} {x3 : Nat} {S : Shp} {F : Fl} {I : Il} {Q : Int → Shp → Fl → Il → Prop} (hl : l.stackTraces = false) (hd : 11 ≤ d) (h : V_L_learn x0 x1 x2 x3 S F I Q) : CM l G d yL_learn (.codeWith yL_learn cL_learn 5 (some .int) [(0, 10, 13, 13)]) [vr (some x0), vi x1, vi x2, vr (some x3)] S F I (qI fun z S' F' I' => Q z S' F' I') noX :=
  CM_ofH [vr (some x0), vi x1, vi x2, vr (some x3), vl 0] hl (by decide +kernel) (kn1 trivial (kn1 trivial (kn1 trivial (kn1 trivial kn0)))) (Nat.le_of_ble_eq_true rfl) rfl (fun X hX C M => S_L_learn C M hd h)
set_option maxRecDepth 20000 in
set_option maxHeartbeats 4000000 in
theorem S_L_rest {G : Gp} {X : Xt} {d : Nat}  {x0 : Nat} {x1 : Int} {x2 : Nat} {Q : Int → Shp → Fl → Il → Prop} {S : Shp} {F : Fl} {I : Il} (C : CO G RL cL_rest 4 X) (M : MH d (some .int) [(0, 9, 12, 13), (0, 9, 15, 17)] X) (hd : 12 ≤ d)  (h : V_L_rest x0 x1 x2 S F I Q) : J G X (QD X G (qI fun z S' F' I' => Q z S' F' I') noX) 0 [vr (some x0), vi x1, vr (some x2), vl 0] [] S F I := by
  unfold V_L_rest at h
  obtain ⟨d, rfl⟩ : ∃ d9, d = d9 + 1 := ⟨d - 1, by omega⟩
  refine J_aload_n C dL_rest_0 rfl rfl ?_
  refine J_iconst C dL_rest_1 (rg_of (by decide)) ?_
  refine J_aload_n C dL_rest_2 rfl rfl ?_
  refine J_iload_n C dL_rest_3 rfl rfl ?_
  obtain ⟨hK1, h⟩ := h
  refine K_VH C M.1 M.2.1 [vi x1] [vi 0, vr (some x2)] mi_X8_rest wg_712 wg_713 wg_714 ⟨rfl, by decide⟩ dL_rest_4 hK1 rfl rfl (by decide) (Nat.le_of_ble_eq_true rfl) (c_X8_rest (C.2.2.2.2.2.2.2) (by omega) h) (fun v9 S' F3 I' hq9 => ?_) (fun E9 S9 F9 I9 hx9 => ?_) rfl
  · clear h
    obtain ⟨z2, rfl, rfl, rfl, h⟩ := hq9
    refine J_i2l C dL_rest_7 ?_
    obtain ⟨hK4, h⟩ := h
    obtain ⟨h05, hn6, h⟩ := h
    refine J_last C dL_rest_8 hK4 h05 hn6 ?_
    refine J_goto C dL_rest_9 (tgt := 18) rfl ?_
    refine J_iconst C dL_rest_18 (rg_of (by decide)) ?_
    exact J_iret C dL_rest_19 M.2.2.1 ⟨_, rfl, h⟩
  · clear h
    rcases hx9 with ⟨rfl, h⟩ | ⟨rfl, h⟩
    · refine JX_catch (pre := []) (x := ⟨0, 9, 12, 13⟩) (suf := [⟨0, 9, 15, 17⟩]) (tgt := 12) C M.2.2.2 rfl kc0 rfl (by decide) wg_308 wt_324 rfl (fun q9 => ?_)
      refine K_astore_n C [vr (some x0), vi x1, vr (some x2), vr (some q9)] dL_rest_12 rfl (Nat.le_of_ble_eq_true rfl) rfl ?_
      refine J_iconst C dL_rest_13 (rg_of (by decide)) ?_
      exact J_iret C dL_rest_14 M.2.2.1 ⟨_, rfl, h⟩
    · refine JX_catch (pre := [⟨0, 9, 12, 13⟩]) (x := ⟨0, 9, 15, 17⟩) (suf := []) (tgt := 15) C M.2.2.2 rfl (kc1 (by decide) wg_308 (by decide +kernel) kc0) rfl (by decide) wg_310 wt_425 rfl (fun q9 => ?_)
      refine K_astore_n C [vr (some x0), vi x1, vr (some x2), vr (some q9)] dL_rest_15 rfl (Nat.le_of_ble_eq_true rfl) rfl ?_
      refine J_iconst C dL_rest_16 (rg_of (by decide)) ?_
      exact J_iret C dL_rest_17 M.2.2.1 ⟨_, rfl, h⟩
theorem c_L_rest {l : Launch} {G : Gp} {d : Nat} {x0 : Nat} {x1 : Int} {x2 : Nat} {S : Shp} {F : Fl} {I : Il} {Q : Int → Shp → Fl → Il → Prop} (hl : l.stackTraces = false) (hd : 12 ≤ d) (h : V_L_rest x0 x1 x2 S F I Q) : CM l G d yL_rest (.codeWith yL_rest cL_rest 4 (some .int) [(0, 9, 12, 13), (0, 9, 15, 17)]) [vr (some x0), vi x1, vr (some x2)] S F I (qI fun z S' F' I' => Q z S' F' I') noX :=
  CM_ofH [vr (some x0), vi x1, vr (some x2), vl 0] hl (by decide +kernel) (kn1 trivial (kn1 trivial (kn1 trivial kn0))) (Nat.le_of_ble_eq_true rfl) rfl (fun X hX C M => S_L_rest C M hd h)
set_option maxRecDepth 20000 in
set_option maxHeartbeats 4000000 in
theorem S_L_repay {G : Gp} {X : Xt} {d : Nat}  {x0 : Nat} {x1 : Int} {x2 : Nat} {Q : Int → Shp → Fl → Il → Prop} {S : Shp} {F : Fl} {I : Il} (C : CO G RL cL_repay 4 X) (M : MH d (some .int) [(0, 9, 12, 15), (0, 9, 15, 17)] X) (hd : 11 ≤ d)  (h : V_L_repay x0 x1 x2 S F I Q) : J G X (QD X G (qI fun z S' F' I' => Q z S' F' I') noX) 0 [vr (some x0), vi x1, vr (some x2), vl 0] [] S F I := by
  unfold V_L_repay at h
  obtain ⟨d, rfl⟩ : ∃ d9, d = d9 + 1 := ⟨d - 1, by omega⟩
  refine J_aload_n C dL_repay_0 rfl rfl ?_
  refine J_iconst C dL_repay_1 (rg_of (by decide)) ?_
  refine J_aload_n C dL_repay_2 rfl rfl ?_
  refine J_iload_n C dL_repay_3 rfl rfl ?_
  obtain ⟨hK1, h⟩ := h
  refine K_VH C M.1 M.2.1 [vi x1] [vi 0, vr (some x2)] mi_X8_repay wg_799 wg_800 wg_801 ⟨rfl, by decide⟩ dL_repay_4 hK1 rfl rfl (by decide) (Nat.le_of_ble_eq_true rfl) (c_X8_repay (C.2.2.2.2.2.2.2) (by omega) h) (fun v9 S' F3 I' hq9 => ?_) (fun E9 S9 F9 I9 hx9 => ?_) rfl
  · clear h
    obtain ⟨z2, rfl, rfl, rfl, h⟩ := hq9
    refine J_i2l C dL_repay_7 ?_
    obtain ⟨hK4, h⟩ := h
    obtain ⟨h05, hn6, h⟩ := h
    refine J_last C dL_repay_8 hK4 h05 hn6 ?_
    refine J_goto C dL_repay_9 (tgt := 18) rfl ?_
    refine J_iconst C dL_repay_18 (rg_of (by decide)) ?_
    exact J_iret C dL_repay_19 M.2.2.1 ⟨_, rfl, h⟩
  · clear h
    rcases hx9 with ⟨rfl, h⟩ | ⟨rfl, h⟩
    · refine JX_catch (pre := []) (x := ⟨0, 9, 12, 15⟩) (suf := [⟨0, 9, 15, 17⟩]) (tgt := 12) C M.2.2.2 rfl kc0 rfl (by decide) wg_309 wt_398 rfl (fun q9 => ?_)
      refine K_astore_n C [vr (some x0), vi x1, vr (some x2), vr (some q9)] dL_repay_12 rfl (Nat.le_of_ble_eq_true rfl) rfl ?_
      refine J_iconst C dL_repay_13 (rg_of (by decide)) ?_
      exact J_iret C dL_repay_14 M.2.2.1 ⟨_, rfl, h⟩
    · refine JX_catch (pre := [⟨0, 9, 12, 15⟩]) (x := ⟨0, 9, 15, 17⟩) (suf := []) (tgt := 15) C M.2.2.2 rfl (kc1 (by decide) wg_309 (by decide +kernel) kc0) rfl (by decide) wg_310 wt_425 rfl (fun q9 => ?_)
      refine K_astore_n C [vr (some x0), vi x1, vr (some x2), vr (some q9)] dL_repay_15 rfl (Nat.le_of_ble_eq_true rfl) rfl ?_
      refine J_iconst C dL_repay_16 (rg_of (by decide)) ?_
      exact J_iret C dL_repay_17 M.2.2.1 ⟨_, rfl, h⟩
theorem c_L_repay {l : Launch} {G : Gp} {d : Nat} {x0 : Nat} {x1 : Int} {x2 : Nat} {S : Shp} {F : Fl} {I : Il} {Q : Int → Shp → Fl → Il → Prop} (hl : l.stackTraces = false) (hd : 11 ≤ d) (h : V_L_repay x0 x1 x2 S F I Q) : CM l G d yL_repay (.codeWith yL_repay cL_repay 4 (some .int) [(0, 9, 12, 15), (0, 9, 15, 17)]) [vr (some x0), vi x1, vr (some x2)] S F I (qI fun z S' F' I' => Q z S' F' I') noX :=
  CM_ofH [vr (some x0), vi x1, vr (some x2), vl 0] hl (by decide +kernel) (kn1 trivial (kn1 trivial (kn1 trivial kn0))) (Nat.le_of_ble_eq_true rfl) rfl (fun X hX C M => S_L_repay C M hd h)
set_option maxRecDepth 20000 in
set_option maxHeartbeats 4000000 in
theorem S_L_uncouple {G : Gp} {X : Xt} {d : Nat}  {x0 : Nat} {x1 : Int} {x2 : Int} {x3 : Nat} {Q : Int → Shp → Fl → Il → Prop} {S : Shp} {F : Fl} {I : Il} (C : CO G RL cL_uncouple 5 X) (M : MH d (some .int) [(0, 10, 13, 13), (0, 10, 17, 17)] X) (hd : 12 ≤ d)  (h : V_L_uncouple x0 x1 x2 x3 S F I Q) : J G X (QD X G (qI fun z S' F' I' => Q z S' F' I') noX) 0 [vr (some x0), vi x1, vi x2, vr (some x3), vl 0] [] S F I := by
  unfold V_L_uncouple at h
  obtain ⟨d, rfl⟩ : ∃ d9, d = d9 + 1 := ⟨d - 1, by omega⟩
  refine J_aload_n C dL_uncouple_0 rfl rfl ?_
  refine J_iconst C dL_uncouple_1 (rg_of (by decide)) ?_
  refine J_aload_n C dL_uncouple_2 rfl rfl ?_
  refine J_iload_n C dL_uncouple_3 rfl rfl ?_
  refine J_iload_n C dL_uncouple_4 rfl rfl ?_
  obtain ⟨hK1, h⟩ := h
  refine K_VH C M.1 M.2.1 [vi x1, vi x2] [vi 0, vr (some x3)] mi_X8_uncouple wg_868 wg_869 wg_870 ⟨rfl, by decide⟩ dL_uncouple_5 hK1 rfl rfl (by decide) (Nat.le_of_ble_eq_true rfl) (c_X8_uncouple (C.2.2.2.2.2.2.2) (by omega) h) (fun v9 S3 F4 I5 hq9 => ?_) (fun E9 S9 F9 I9 hx9 => ?_) rfl
  · clear h
    obtain ⟨z2, rfl, h⟩ := hq9
    refine J_i2l C dL_uncouple_8 ?_
    obtain ⟨hK6, h⟩ := h
    obtain ⟨h07, hn8, h⟩ := h
    refine J_last C dL_uncouple_9 hK6 h07 hn8 ?_
    refine J_goto C dL_uncouple_10 (tgt := 21) rfl ?_
    refine J_iconst C dL_uncouple_21 (rg_of (by decide)) ?_
    exact J_iret C dL_uncouple_22 M.2.2.1 ⟨_, rfl, h⟩
  · clear h
    rcases hx9 with ⟨rfl, h⟩ | ⟨rfl, h⟩
    · refine JX_catch (pre := []) (x := ⟨0, 10, 13, 13⟩) (suf := [⟨0, 10, 17, 17⟩]) (tgt := 13) C M.2.2.2 rfl kc0 rfl (by decide) wg_308 wt_324 rfl (fun q9 => ?_)
      refine K_astore C [vr (some x0), vi x1, vi x2, vr (some x3), vr (some q9)] dL_uncouple_13 (Nat.le_of_ble_eq_true rfl) rfl ?_
      refine J_iconst C dL_uncouple_15 (rg_of (by decide)) ?_
      exact J_iret C dL_uncouple_16 M.2.2.1 ⟨_, rfl, h⟩
    · refine JX_catch (pre := [⟨0, 10, 13, 13⟩]) (x := ⟨0, 10, 17, 17⟩) (suf := []) (tgt := 17) C M.2.2.2 rfl (kc1 (by decide) wg_308 (by decide +kernel) kc0) rfl (by decide) wg_310 wt_425 rfl (fun q9 => ?_)
      refine K_astore C [vr (some x0), vi x1, vi x2, vr (some x3), vr (some q9)] dL_uncouple_17 (Nat.le_of_ble_eq_true rfl) rfl ?_
      refine J_iconst C dL_uncouple_19 (rg_of (by decide)) ?_
      exact J_iret C dL_uncouple_20 M.2.2.1 ⟨_, rfl, h⟩
theorem c_L_uncouple {l : Launch} {G : Gp} {d : Nat} {x0 : Nat} {x1 : Int} {x2 : Int} {x3 : Nat} {S : Shp} {F : Fl} {I : Il} {Q : Int → Shp → Fl → Il → Prop} (hl : l.stackTraces = false) (hd : 12 ≤ d) (h : V_L_uncouple x0 x1 x2 x3 S F I Q) : CM l G d yL_uncouple (.codeWith yL_uncouple cL_uncouple 5 (some .int) [(0, 10, 13, 13), (0, 10, 17, 17)]) [vr (some x0), vi x1, vi x2, vr (some x3)] S F I (qI fun z S' F' I' => Q z S' F' I') noX :=
  CM_ofH [vr (some x0), vi x1, vi x2, vr (some x3), vl 0] hl (by decide +kernel) (kn1 trivial (kn1 trivial (kn1 trivial (kn1 trivial kn0)))) (Nat.le_of_ble_eq_true rfl) rfl (fun X hX C M => S_L_uncouple C M hd h)
set_option maxRecDepth 20000 in
set_option maxHeartbeats 4000000 in
theorem S_L_leg {G : Gp} {X : Xt} {d : Nat}  {x0 : Nat} {x1 : Int} {x2 : Nat} {Q : Int → Shp → Fl → Il → Prop} {S : Shp} {F : Fl} {I : Il} (C : CO G RL cL_leg 4 X) (M : MH d (some .int) [(0, 9, 12, 13), (0, 9, 15, 17)] X) (hd : 11 ≤ d)  (h : V_L_leg x0 x1 x2 S F I Q) : J G X (QD X G (qI fun z S' F' I' => Q z S' F' I') noX) 0 [vr (some x0), vi x1, vr (some x2), vl 0] [] S F I := by
  unfold V_L_leg at h
  obtain ⟨d, rfl⟩ : ∃ d9, d = d9 + 1 := ⟨d - 1, by omega⟩
  refine J_aload_n C dL_leg_0 rfl rfl ?_
  refine J_iconst C dL_leg_1 (rg_of (by decide)) ?_
  refine J_aload_n C dL_leg_2 rfl rfl ?_
  refine J_iload_n C dL_leg_3 rfl rfl ?_
  obtain ⟨hK1, h⟩ := h
  refine K_VH C M.1 M.2.1 [vi x1] [vi 0, vr (some x2)] mi_X8_leg wg_879 wg_880 wg_881 ⟨rfl, by decide⟩ dL_leg_4 hK1 rfl rfl (by decide) (Nat.le_of_ble_eq_true rfl) (c_X8_leg (C.2.2.2.2.2.2.2) (by omega) h) (fun v9 S3 F4 I5 hq9 => ?_) (fun E9 S9 F9 I9 hx9 => ?_) rfl
  · clear h
    obtain ⟨z2, rfl, h⟩ := hq9
    refine J_i2l C dL_leg_7 ?_
    obtain ⟨hK6, h⟩ := h
    obtain ⟨h07, hn8, h⟩ := h
    refine J_last C dL_leg_8 hK6 h07 hn8 ?_
    refine J_goto C dL_leg_9 (tgt := 18) rfl ?_
    refine J_iconst C dL_leg_18 (rg_of (by decide)) ?_
    exact J_iret C dL_leg_19 M.2.2.1 ⟨_, rfl, h⟩
  · clear h
    rcases hx9 with ⟨rfl, h⟩ | ⟨rfl, h⟩
    · refine JX_catch (pre := []) (x := ⟨0, 9, 12, 13⟩) (suf := [⟨0, 9, 15, 17⟩]) (tgt := 12) C M.2.2.2 rfl kc0 rfl (by decide) wg_308 wt_324 rfl (fun q9 => ?_)
      refine K_astore_n C [vr (some x0), vi x1, vr (some x2), vr (some q9)] dL_leg_12 rfl (Nat.le_of_ble_eq_true rfl) rfl ?_
      refine J_iconst C dL_leg_13 (rg_of (by decide)) ?_
      exact J_iret C dL_leg_14 M.2.2.1 ⟨_, rfl, h⟩
    · refine JX_catch (pre := [⟨0, 9, 12, 13⟩]) (x := ⟨0, 9, 15, 17⟩) (suf := []) (tgt := 15) C M.2.2.2 rfl (kc1 (by decide) wg_308 (by decide +kernel) kc0) rfl (by decide) wg_310 wt_425 rfl (fun q9 => ?_)
      refine K_astore_n C [vr (some x0), vi x1, vr (some x2), vr (some q9)] dL_leg_15 rfl (Nat.le_of_ble_eq_true rfl) rfl ?_
      refine J_iconst C dL_leg_16 (rg_of (by decide)) ?_
      exact J_iret C dL_leg_17 M.2.2.1 ⟨_, rfl, h⟩
theorem c_L_leg {l : Launch} {G : Gp} {d : Nat} {x0 : Nat} {x1 : Int} {x2 : Nat} {S : Shp} {F : Fl} {I : Il} {Q : Int → Shp → Fl → Il → Prop} (hl : l.stackTraces = false) (hd : 11 ≤ d) (h : V_L_leg x0 x1 x2 S F I Q) : CM l G d yL_leg (.codeWith yL_leg cL_leg 4 (some .int) [(0, 9, 12, 13), (0, 9, 15, 17)]) [vr (some x0), vi x1, vr (some x2)] S F I (qI fun z S' F' I' => Q z S' F' I') noX :=
  CM_ofH [vr (some x0), vi x1, vr (some x2), vl 0] hl (by decide +kernel) (kn1 trivial (kn1 trivial (kn1 trivial kn0))) (Nat.le_of_ble_eq_true rfl) rfl (fun X hX C M => S_L_leg C M hd h)
set_option maxRecDepth 20000 in
set_option maxHeartbeats 4000000 in
theorem S_L_plan {G : Gp} {X : Xt} {d : Nat}  {x0 : Nat} {x1 : Int} {x2 : Int} {x3 : Int} {x4 : Nat} {Q : Int → Shp → Fl → Il → Prop} {S : Shp} {F : Fl} {I : Il} (C : CO G RL cL_plan 6 X) (M : MH d (some .int) [(0, 12, 15, 13), (0, 12, 19, 15), (0, 12, 23, 17)] X) (hd : 12 ≤ d)  (h : V_L_plan x0 x1 x2 x3 x4 S F I Q) : J G X (QD X G (qI fun z S' F' I' => Q z S' F' I') noX) 0 [vr (some x0), vi x1, vi x2, vi x3, vr (some x4), vl 0] [] S F I := by
  unfold V_L_plan at h
  obtain ⟨d, rfl⟩ : ∃ d9, d = d9 + 1 := ⟨d - 1, by omega⟩
  refine J_aload C dL_plan_0 rfl ?_
  refine J_iconst C dL_plan_2 (rg_of (by decide)) ?_
  refine J_aload_n C dL_plan_3 rfl rfl ?_
  refine J_iload_n C dL_plan_4 rfl rfl ?_
  refine J_iload_n C dL_plan_5 rfl rfl ?_
  refine J_iload_n C dL_plan_6 rfl rfl ?_
  obtain ⟨hK1, h⟩ := h
  refine K_VH C M.1 M.2.1 [vi x1, vi x2, vi x3] [vi 0, vr (some x4)] mi_X8_plan wg_886 wg_887 wg_888 ⟨rfl, by decide⟩ dL_plan_7 hK1 rfl rfl (by decide) (Nat.le_of_ble_eq_true rfl) (c_X8_plan (C.2.2.2.2.2.2.2) (by omega) h) (fun v9 S3 F4 I5 hq9 => ?_) (fun E9 S9 F9 I9 hx9 => ?_) rfl
  · clear h
    obtain ⟨z2, rfl, h⟩ := hq9
    refine J_i2l C dL_plan_10 ?_
    obtain ⟨hK6, h⟩ := h
    obtain ⟨h07, hn8, h⟩ := h
    refine J_last C dL_plan_11 hK6 h07 hn8 ?_
    refine J_goto C dL_plan_12 (tgt := 27) rfl ?_
    refine J_iconst C dL_plan_27 (rg_of (by decide)) ?_
    exact J_iret C dL_plan_28 M.2.2.1 ⟨_, rfl, h⟩
  · clear h
    rcases hx9 with ⟨rfl, h⟩ | ⟨rfl, h⟩ | ⟨rfl, h⟩
    · refine JX_catch (pre := []) (x := ⟨0, 12, 15, 13⟩) (suf := [⟨0, 12, 19, 15⟩, ⟨0, 12, 23, 17⟩]) (tgt := 15) C M.2.2.2 rfl kc0 rfl (by decide) wg_308 wt_324 rfl (fun q9 => ?_)
      refine K_astore C [vr (some x0), vi x1, vi x2, vi x3, vr (some x4), vr (some q9)] dL_plan_15 (Nat.le_of_ble_eq_true rfl) rfl ?_
      refine J_iconst C dL_plan_17 (rg_of (by decide)) ?_
      exact J_iret C dL_plan_18 M.2.2.1 ⟨_, rfl, h⟩
    · refine JX_catch (pre := [⟨0, 12, 15, 13⟩]) (x := ⟨0, 12, 19, 15⟩) (suf := [⟨0, 12, 23, 17⟩]) (tgt := 19) C M.2.2.2 rfl (kc1 (by decide) wg_308 (by decide +kernel) kc0) rfl (by decide) wg_309 wt_398 rfl (fun q9 => ?_)
      refine K_astore C [vr (some x0), vi x1, vi x2, vi x3, vr (some x4), vr (some q9)] dL_plan_19 (Nat.le_of_ble_eq_true rfl) rfl ?_
      refine J_iconst C dL_plan_21 (rg_of (by decide)) ?_
      exact J_iret C dL_plan_22 M.2.2.1 ⟨_, rfl, h⟩
    · refine JX_catch (pre := [⟨0, 12, 15, 13⟩, ⟨0, 12, 19, 15⟩]) (x := ⟨0, 12, 23, 17⟩) (suf := []) (tgt := 23) C M.2.2.2 rfl (kc1 (by decide) wg_308 (by decide +kernel) (kc1 (by decide) wg_309 (by decide +kernel) kc0)) rfl (by decide) wg_310 wt_425 rfl (fun q9 => ?_)
      refine K_astore C [vr (some x0), vi x1, vi x2, vi x3, vr (some x4), vr (some q9)] dL_plan_23 (Nat.le_of_ble_eq_true rfl) rfl ?_
      refine J_iconst C dL_plan_25 (rg_of (by decide)) ?_
      exact J_iret C dL_plan_26 M.2.2.1 ⟨_, rfl, h⟩
theorem c_L_plan {l : Launch} {G : Gp} {d : Nat} {x0 : Nat} {x1 : Int} {x2 : Int} {x3 : Int} {x4 : Nat} {S : Shp} {F : Fl} {I : Il} {Q : Int → Shp → Fl → Il → Prop} (hl : l.stackTraces = false) (hd : 12 ≤ d) (h : V_L_plan x0 x1 x2 x3 x4 S F I Q) : CM l G d yL_plan (.codeWith yL_plan cL_plan 6 (some .int) [(0, 12, 15, 13), (0, 12, 19, 15), (0, 12, 23, 17)]) [vr (some x0), vi x1, vi x2, vi x3, vr (some x4)] S F I (qI fun z S' F' I' => Q z S' F' I') noX :=
  CM_ofH [vr (some x0), vi x1, vi x2, vi x3, vr (some x4), vl 0] hl (by decide +kernel) (kn1 trivial (kn1 trivial (kn1 trivial (kn1 trivial (kn1 trivial kn0))))) (Nat.le_of_ble_eq_true rfl) rfl (fun X hX C M => S_L_plan C M hd h)
set_option maxRecDepth 20000 in
set_option maxHeartbeats 4000000 in
theorem S_L_run {G : Gp} {X : Xt} {d : Nat}  {x0 : Nat} {x1 : Int} {x2 : Nat} {Q : Int → Shp → Fl → Il → Prop} {S : Shp} {F : Fl} {I : Il} (C : CO G RL cL_run 4 X) (M : MH d (some .int) [(0, 9, 12, 15), (0, 9, 15, 17)] X) (hd : 15 ≤ d)  (h : V_L_run x0 x1 x2 S F I Q) : J G X (QD X G (qI fun z S' F' I' => Q z S' F' I') noX) 0 [vr (some x0), vi x1, vr (some x2), vl 0] [] S F I := by
  unfold V_L_run at h
  obtain ⟨d, rfl⟩ : ∃ d9, d = d9 + 1 := ⟨d - 1, by omega⟩
  refine J_aload_n C dL_run_0 rfl rfl ?_
  refine J_iconst C dL_run_1 (rg_of (by decide)) ?_
  refine J_aload_n C dL_run_2 rfl rfl ?_
  refine J_iload_n C dL_run_3 rfl rfl ?_
  obtain ⟨hK1, h⟩ := h
  refine K_VH C M.1 M.2.1 [vi x1] [vi 0, vr (some x2)] mi_X8_run wg_920 wg_921 wg_922 ⟨rfl, by decide⟩ dL_run_4 hK1 rfl rfl (by decide) (Nat.le_of_ble_eq_true rfl) (c_X8_run (C.2.2.2.2.2.2.2) (by omega) h) (fun v9 S' F3 I4 hq9 => ?_) (fun E9 S9 F9 I9 hx9 => ?_) rfl
  · clear h
    obtain ⟨z2, rfl, rfl, h⟩ := hq9
    refine J_i2l C dL_run_7 ?_
    obtain ⟨hK5, h⟩ := h
    obtain ⟨h06, hn7, h⟩ := h
    refine J_last C dL_run_8 hK5 h06 hn7 ?_
    refine J_goto C dL_run_9 (tgt := 18) rfl ?_
    refine J_iconst C dL_run_18 (rg_of (by decide)) ?_
    exact J_iret C dL_run_19 M.2.2.1 ⟨_, rfl, h⟩
  · clear h
    rcases hx9 with ⟨rfl, h⟩ | ⟨rfl, h⟩
    · refine JX_catch (pre := []) (x := ⟨0, 9, 12, 15⟩) (suf := [⟨0, 9, 15, 17⟩]) (tgt := 12) C M.2.2.2 rfl kc0 rfl (by decide) wg_309 wt_398 rfl (fun q9 => ?_)
      refine K_astore_n C [vr (some x0), vi x1, vr (some x2), vr (some q9)] dL_run_12 rfl (Nat.le_of_ble_eq_true rfl) rfl ?_
      refine J_iconst C dL_run_13 (rg_of (by decide)) ?_
      exact J_iret C dL_run_14 M.2.2.1 ⟨_, rfl, h⟩
    · refine JX_catch (pre := [⟨0, 9, 12, 15⟩]) (x := ⟨0, 9, 15, 17⟩) (suf := []) (tgt := 15) C M.2.2.2 rfl (kc1 (by decide) wg_309 (by decide +kernel) kc0) rfl (by decide) wg_310 wt_425 rfl (fun q9 => ?_)
      refine K_astore_n C [vr (some x0), vi x1, vr (some x2), vr (some q9)] dL_run_15 rfl (Nat.le_of_ble_eq_true rfl) rfl ?_
      refine J_iconst C dL_run_16 (rg_of (by decide)) ?_
      exact J_iret C dL_run_17 M.2.2.1 ⟨_, rfl, h⟩
theorem c_L_run {l : Launch} {G : Gp} {d : Nat} {x0 : Nat} {x1 : Int} {x2 : Nat} {S : Shp} {F : Fl} {I : Il} {Q : Int → Shp → Fl → Il → Prop} (hl : l.stackTraces = false) (hd : 15 ≤ d) (h : V_L_run x0 x1 x2 S F I Q) : CM l G d yL_run (.codeWith yL_run cL_run 4 (some .int) [(0, 9, 12, 15), (0, 9, 15, 17)]) [vr (some x0), vi x1, vr (some x2)] S F I (qI fun z S' F' I' => Q z S' F' I') noX :=
  CM_ofH [vr (some x0), vi x1, vr (some x2), vl 0] hl (by decide +kernel) (kn1 trivial (kn1 trivial (kn1 trivial kn0))) (Nat.le_of_ble_eq_true rfl) rfl (fun X hX C M => S_L_run C M hd h)
set_option maxRecDepth 20000 in
set_option maxHeartbeats 4000000 in
theorem S_L_passSignal_15 {G : Gp} {X : Xt} {d : Nat}  {s0 : Int} {s1 : Int} {s2 : Nat} {Q : Int → Shp → Fl → Il → Prop} {S : Shp} {F : Fl} {I : Il} (C : CO G RL cL_passSignal 4 X) (M : MH d (some .int) [(0, 16, 19, 13), (0, 16, 22, 17)] X) (hd : 13 ≤ d)  (h : V_L_passSignal_15 s0 s1 s2 S F I Q) : J G X (QD X G (qI fun z S' F' I' => Q z S' F' I') noX) 15 [vl 0, vl 0, vl 0, vl 0] [vl s0, vi s1, vr (some s2)] S F I := by
  unfold V_L_passSignal_15 at h
  obtain ⟨hK1, h⟩ := h
  obtain ⟨h02, hn3, h⟩ := h
  refine J_last C dL_passSignal_15 hK1 h02 hn3 ?_
  refine J_goto C dL_passSignal_16 (tgt := 25) rfl ?_
  refine J_iconst C dL_passSignal_25 (rg_of (by decide)) ?_
  exact J_iret C dL_passSignal_26 M.2.2.1 ⟨_, rfl, h⟩
set_option maxRecDepth 20000 in
set_option maxHeartbeats 4000000 in
theorem S_L_passSignal {G : Gp} {X : Xt} {d : Nat}  {x0 : Nat} {x1 : Int} {x2 : Nat} {Q : Int → Shp → Fl → Il → Prop} {S : Shp} {F : Fl} {I : Il} (C : CO G RL cL_passSignal 4 X) (M : MH d (some .int) [(0, 16, 19, 13), (0, 16, 22, 17)] X) (hd : 13 ≤ d)  (h : V_L_passSignal x0 x1 x2 S F I Q) : J G X (QD X G (qI fun z S' F' I' => Q z S' F' I') noX) 0 [vr (some x0), vi x1, vr (some x2), vl 0] [] S F I := by
  unfold V_L_passSignal at h
  obtain ⟨d, rfl⟩ : ∃ d9, d = d9 + 1 := ⟨d - 1, by omega⟩
  refine J_aload_n C dL_passSignal_0 rfl rfl ?_
  refine J_iconst C dL_passSignal_1 (rg_of (by decide)) ?_
  refine J_aload_n C dL_passSignal_2 rfl rfl ?_
  refine J_iload_n C dL_passSignal_3 rfl rfl ?_
  obtain ⟨hK1, h⟩ := h
  refine K_VH C M.1 M.2.1 [vi x1] [vi 0, vr (some x2)] mi_X8_passSignal wg_992 wg_993 wg_994 ⟨rfl, by decide⟩ dL_passSignal_4 hK1 rfl rfl (by decide) (Nat.le_of_ble_eq_true rfl) (c_X8_passSignal (C.2.2.2.2.2.2.2) (by omega) h) (fun v9 S' F3 I' hq9 => ?_) (fun E9 S9 F9 I9 hx9 => ?_) rfl
  · clear h
    obtain ⟨z2, rfl, rfl, rfl, h⟩ := hq9
    refine J_if_eq C dL_passSignal_7 (tgt := 14) rfl (fun c7 => ?_) (fun c7 => ?_)
    · have h := h.1 c7
      refine J_lconst C dL_passSignal_14 (z := 0) (by decide +kernel) (rg_of (by decide)) ?_
      refine J_less [vl 0, vl 0, vl 0, vl 0] (by unfold lessL; simp [lessL]) ?_
      exact S_L_passSignal_15 C M (by omega)  h
    · have h := h.2 c7
      refine J_lconst C dL_passSignal_10 (z := 1) (by decide +kernel) (rg_of (by decide)) ?_
      refine J_goto C dL_passSignal_11 (tgt := 15) rfl ?_
      refine J_less [vl 0, vl 0, vl 0, vl 0] (by unfold lessL; simp [lessL]) ?_
      exact S_L_passSignal_15 C M (by omega)  h
  · clear h
    rcases hx9 with ⟨rfl, h⟩ | ⟨rfl, h⟩
    · refine JX_catch (pre := []) (x := ⟨0, 16, 19, 13⟩) (suf := [⟨0, 16, 22, 17⟩]) (tgt := 19) C M.2.2.2 rfl kc0 rfl (by decide) wg_308 wt_324 rfl (fun q9 => ?_)
      refine K_astore_n C [vr (some x0), vi x1, vr (some x2), vr (some q9)] dL_passSignal_19 rfl (Nat.le_of_ble_eq_true rfl) rfl ?_
      refine J_iconst C dL_passSignal_20 (rg_of (by decide)) ?_
      exact J_iret C dL_passSignal_21 M.2.2.1 ⟨_, rfl, h⟩
    · refine JX_catch (pre := [⟨0, 16, 19, 13⟩]) (x := ⟨0, 16, 22, 17⟩) (suf := []) (tgt := 22) C M.2.2.2 rfl (kc1 (by decide) wg_308 (by decide +kernel) kc0) rfl (by decide) wg_310 wt_425 rfl (fun q9 => ?_)
      refine K_astore_n C [vr (some x0), vi x1, vr (some x2), vr (some q9)] dL_passSignal_22 rfl (Nat.le_of_ble_eq_true rfl) rfl ?_
      refine J_iconst C dL_passSignal_23 (rg_of (by decide)) ?_
      exact J_iret C dL_passSignal_24 M.2.2.1 ⟨_, rfl, h⟩
theorem c_L_passSignal {l : Launch} {G : Gp} {d : Nat} {x0 : Nat} {x1 : Int} {x2 : Nat} {S : Shp} {F : Fl} {I : Il} {Q : Int → Shp → Fl → Il → Prop} (hl : l.stackTraces = false) (hd : 13 ≤ d) (h : V_L_passSignal x0 x1 x2 S F I Q) : CM l G d yL_passSignal (.codeWith yL_passSignal cL_passSignal 4 (some .int) [(0, 16, 19, 13), (0, 16, 22, 17)]) [vr (some x0), vi x1, vr (some x2)] S F I (qI fun z S' F' I' => Q z S' F' I') noX :=
  CM_ofH [vr (some x0), vi x1, vr (some x2), vl 0] hl (by decide +kernel) (kn1 trivial (kn1 trivial (kn1 trivial kn0))) (Nat.le_of_ble_eq_true rfl) rfl (fun X hX C M => S_L_passSignal C M hd h)
set_option maxRecDepth 20000 in
set_option maxHeartbeats 4000000 in
theorem S_L_rate {G : Gp} {X : Xt} {d : Nat}  {x0 : Nat} {x1 : Int} {x2 : Int} {x3 : Int} {x4 : Int} {x5 : Nat} {Q : Int → Shp → Fl → Il → Prop} {S : Shp} {F : Fl} {I : Il} (C : CO G RL cL_rate 7 X) (M : MH d (some .int) [(0, 14, 17, 13), (0, 14, 21, 15)] X) (hd : 11 ≤ d)  (h : V_L_rate x0 x1 x2 x3 x4 x5 S F I Q) : J G X (QD X G (qI fun z S' F' I' => Q z S' F' I') noX) 0 [vr (some x0), vi x1, vi x2, vi x3, vi x4, vr (some x5), vl 0] [] S F I := by
  unfold V_L_rate at h
  obtain ⟨d, rfl⟩ : ∃ d9, d = d9 + 1 := ⟨d - 1, by omega⟩
  refine J_aload C dL_rate_0 rfl ?_
  refine J_iconst C dL_rate_2 (rg_of (by decide)) ?_
  refine J_aload_n C dL_rate_3 rfl rfl ?_
  refine J_iload_n C dL_rate_4 rfl rfl ?_
  refine J_iload_n C dL_rate_5 rfl rfl ?_
  refine J_iload_n C dL_rate_6 rfl rfl ?_
  refine J_iload C dL_rate_7 rfl ?_
  obtain ⟨hK1, h⟩ := h
  refine K_VH C M.1 M.2.1 [vi x1, vi x2, vi x3, vi x4] [vi 0, vr (some x5)] mi_X8_rate wg_1018 wg_1019 wg_1020 ⟨rfl, by decide⟩ dL_rate_9 hK1 rfl rfl (by decide) (Nat.le_of_ble_eq_true rfl) (c_X8_rate (C.2.2.2.2.2.2.2) (by omega) h) (fun v9 S' F' I3 hq9 => ?_) (fun E9 S9 F9 I9 hx9 => ?_) rfl
  · clear h
    obtain ⟨z2, rfl, rfl, rfl, h⟩ := hq9
    refine J_i2l C dL_rate_12 ?_
    obtain ⟨hK4, h⟩ := h
    obtain ⟨h05, hn6, h⟩ := h
    refine J_last C dL_rate_13 hK4 h05 hn6 ?_
    refine J_goto C dL_rate_14 (tgt := 25) rfl ?_
    refine J_iconst C dL_rate_25 (rg_of (by decide)) ?_
    exact J_iret C dL_rate_26 M.2.2.1 ⟨_, rfl, h⟩
  · clear h
    rcases hx9 with ⟨rfl, h⟩ | ⟨rfl, h⟩
    · refine JX_catch (pre := []) (x := ⟨0, 14, 17, 13⟩) (suf := [⟨0, 14, 21, 15⟩]) (tgt := 17) C M.2.2.2 rfl kc0 rfl (by decide) wg_308 wt_324 rfl (fun q9 => ?_)
      refine K_astore C [vr (some x0), vi x1, vi x2, vi x3, vi x4, vr (some x5), vr (some q9)] dL_rate_17 (Nat.le_of_ble_eq_true rfl) rfl ?_
      refine J_iconst C dL_rate_19 (rg_of (by decide)) ?_
      exact J_iret C dL_rate_20 M.2.2.1 ⟨_, rfl, h⟩
    · refine JX_catch (pre := [⟨0, 14, 17, 13⟩]) (x := ⟨0, 14, 21, 15⟩) (suf := []) (tgt := 21) C M.2.2.2 rfl (kc1 (by decide) wg_308 (by decide +kernel) kc0) rfl (by decide) wg_309 wt_398 rfl (fun q9 => ?_)
      refine K_astore C [vr (some x0), vi x1, vi x2, vi x3, vi x4, vr (some x5), vr (some q9)] dL_rate_21 (Nat.le_of_ble_eq_true rfl) rfl ?_
      refine J_iconst C dL_rate_23 (rg_of (by decide)) ?_
      exact J_iret C dL_rate_24 M.2.2.1 ⟨_, rfl, h⟩
theorem c_L_rate {l : Launch} {G : Gp} {d : Nat} {x0 : Nat} {x1 : Int} {x2 : Int} {x3 : Int} {x4 : Int} {x5 : Nat} {S : Shp} {F : Fl} {I : Il} {Q : Int → Shp → Fl → Il → Prop} (hl : l.stackTraces = false) (hd : 11 ≤ d) (h : V_L_rate x0 x1 x2 x3 x4 x5 S F I Q) : CM l G d yL_rate (.codeWith yL_rate cL_rate 7 (some .int) [(0, 14, 17, 13), (0, 14, 21, 15)]) [vr (some x0), vi x1, vi x2, vi x3, vi x4, vr (some x5)] S F I (qI fun z S' F' I' => Q z S' F' I') noX :=
  CM_ofH [vr (some x0), vi x1, vi x2, vi x3, vi x4, vr (some x5), vl 0] hl (by decide +kernel) (kn1 trivial (kn1 trivial (kn1 trivial (kn1 trivial (kn1 trivial (kn1 trivial kn0)))))) (Nat.le_of_ble_eq_true rfl) rfl (fun X hX C M => S_L_rate C M hd h)
set_option maxRecDepth 20000 in
set_option maxHeartbeats 4000000 in
theorem S_L_offer {G : Gp} {X : Xt} {d : Nat}  {x0 : Nat} {x1 : Int} {x2 : Int} {x3 : Nat} {Q : Int → Shp → Fl → Il → Prop} {S : Shp} {F : Fl} {I : Il} (C : CO G RL cL_offer 5 X) (M : MH d (some .int) [(0, 10, 13, 13), (0, 10, 17, 15), (0, 10, 21, 17)] X) (hd : 11 ≤ d)  (h : V_L_offer G x0 x1 x2 x3 S F I Q) : J G X (QD X G (qI fun z S' F' I' => Q z S' F' I') noX) 0 [vr (some x0), vi x1, vi x2, vr (some x3), vl 0] [] S F I := by
  unfold V_L_offer at h
  obtain ⟨d, rfl⟩ : ∃ d9, d = d9 + 1 := ⟨d - 1, by omega⟩
  refine J_aload_n C dL_offer_0 rfl rfl ?_
  refine J_iconst C dL_offer_1 (rg_of (by decide)) ?_
  refine J_aload_n C dL_offer_2 rfl rfl ?_
  refine J_iload_n C dL_offer_3 rfl rfl ?_
  refine J_iload_n C dL_offer_4 rfl rfl ?_
  obtain ⟨hK1, h⟩ := h
  refine K_VH C M.1 M.2.1 [vi x1, vi x2] [vi 0, vr (some x3)] mi_X8_offer wg_1025 wg_1026 wg_1027 ⟨rfl, by decide⟩ dL_offer_5 hK1 rfl rfl (by decide) (Nat.le_of_ble_eq_true rfl) (c_X8_offer (C.2.2.2.2.2.2.2) (by omega) h) (fun v9 S3 F4 I5 hq9 => ?_) (fun E9 S9 F9 I9 hx9 => ?_) rfl
  · clear h
    obtain ⟨z2, rfl, h⟩ := hq9
    refine J_i2l C dL_offer_8 ?_
    obtain ⟨hK6, h⟩ := h
    obtain ⟨h07, hn8, h⟩ := h
    refine J_last C dL_offer_9 hK6 h07 hn8 ?_
    refine J_goto C dL_offer_10 (tgt := 25) rfl ?_
    refine J_iconst C dL_offer_25 (rg_of (by decide)) ?_
    exact J_iret C dL_offer_26 M.2.2.1 ⟨_, rfl, h⟩
  · clear h
    rcases hx9 with ⟨rfl, h⟩ | ⟨rfl, h⟩ | ⟨rfl, h⟩
    · refine JX_catch (pre := []) (x := ⟨0, 10, 13, 13⟩) (suf := [⟨0, 10, 17, 15⟩, ⟨0, 10, 21, 17⟩]) (tgt := 13) C M.2.2.2 rfl kc0 rfl (by decide) wg_308 wt_324 rfl (fun q9 => ?_)
      refine K_astore C [vr (some x0), vi x1, vi x2, vr (some x3), vr (some q9)] dL_offer_13 (Nat.le_of_ble_eq_true rfl) rfl ?_
      refine J_iconst C dL_offer_15 (rg_of (by decide)) ?_
      exact J_iret C dL_offer_16 M.2.2.1 ⟨_, rfl, h⟩
    · refine JX_catch (pre := [⟨0, 10, 13, 13⟩]) (x := ⟨0, 10, 17, 15⟩) (suf := [⟨0, 10, 21, 17⟩]) (tgt := 17) C M.2.2.2 rfl (kc1 (by decide) wg_308 (by decide +kernel) kc0) rfl (by decide) wg_309 wt_398 rfl (fun q9 => ?_)
      refine K_astore C [vr (some x0), vi x1, vi x2, vr (some x3), vr (some q9)] dL_offer_17 (Nat.le_of_ble_eq_true rfl) rfl ?_
      refine J_iconst C dL_offer_19 (rg_of (by decide)) ?_
      exact J_iret C dL_offer_20 M.2.2.1 ⟨_, rfl, h⟩
    · refine JX_catch (pre := [⟨0, 10, 13, 13⟩, ⟨0, 10, 17, 15⟩]) (x := ⟨0, 10, 21, 17⟩) (suf := []) (tgt := 21) C M.2.2.2 rfl (kc1 (by decide) wg_308 (by decide +kernel) (kc1 (by decide) wg_309 (by decide +kernel) kc0)) rfl (by decide) wg_310 wt_425 rfl (fun q9 => ?_)
      refine K_astore C [vr (some x0), vi x1, vi x2, vr (some x3), vr (some q9)] dL_offer_21 (Nat.le_of_ble_eq_true rfl) rfl ?_
      refine J_iconst C dL_offer_23 (rg_of (by decide)) ?_
      exact J_iret C dL_offer_24 M.2.2.1 ⟨_, rfl, h⟩
theorem c_L_offer {l : Launch} {G : Gp} {d : Nat} {x0 : Nat} {x1 : Int} {x2 : Int} {x3 : Nat} {S : Shp} {F : Fl} {I : Il} {Q : Int → Shp → Fl → Il → Prop} (hl : l.stackTraces = false) (hd : 11 ≤ d) (h : V_L_offer G x0 x1 x2 x3 S F I Q) : CM l G d yL_offer (.codeWith yL_offer cL_offer 5 (some .int) [(0, 10, 13, 13), (0, 10, 17, 15), (0, 10, 21, 17)]) [vr (some x0), vi x1, vi x2, vr (some x3)] S F I (qI fun z S' F' I' => Q z S' F' I') noX :=
  CM_ofH [vr (some x0), vi x1, vi x2, vr (some x3), vl 0] hl (by decide +kernel) (kn1 trivial (kn1 trivial (kn1 trivial (kn1 trivial kn0)))) (Nat.le_of_ble_eq_true rfl) rfl (fun X hX C M => S_L_offer C M hd h)
set_option maxRecDepth 20000 in
set_option maxHeartbeats 4000000 in
theorem S_L_load {G : Gp} {X : Xt} {d : Nat}  {x0 : Nat} {x1 : Int} {x2 : Int} {Q : Int → Shp → Fl → Il → Prop} {S : Shp} {F : Fl} {I : Il} (C : CO G RL cL_load 4 X) (M : MH d (some .int) [(0, 6, 9, 13), (0, 6, 12, 17)] X) (hd : 11 ≤ d)  (h : V_L_load x0 x1 x2 S F I Q) : J G X (QD X G (qI fun z S' F' I' => Q z S' F' I') noX) 0 [vr (some x0), vi x1, vi x2, vl 0] [] S F I := by
  unfold V_L_load at h
  obtain ⟨d, rfl⟩ : ∃ d9, d = d9 + 1 := ⟨d - 1, by omega⟩
  refine J_aload_n C dL_load_0 rfl rfl ?_
  refine J_iload_n C dL_load_1 rfl rfl ?_
  refine J_iload_n C dL_load_2 rfl rfl ?_
  obtain ⟨hK1, h⟩ := h
  refine K_VH C M.1 M.2.1 [vi x1, vi x2] [] mi_X8_load wg_1054 wg_1055 wg_1056 ⟨rfl, by decide⟩ dL_load_3 hK1 rfl rfl (by decide) (Nat.le_of_ble_eq_true rfl) (c_X8_load (C.2.2.2.2.2.2.2) (by omega) h) (fun v9 S2 F3 I4 hq9 => ?_) (fun E9 S9 F9 I9 hx9 => ?_) rfl
  · clear h
    obtain ⟨rfl, h⟩ := hq9
    refine J_goto C dL_load_6 (tgt := 15) rfl ?_
    refine J_iconst C dL_load_15 (rg_of (by decide)) ?_
    exact J_iret C dL_load_16 M.2.2.1 ⟨_, rfl, h⟩
  · clear h
    rcases hx9 with ⟨rfl, h⟩ | ⟨rfl, h⟩
    · refine JX_catch (pre := []) (x := ⟨0, 6, 9, 13⟩) (suf := [⟨0, 6, 12, 17⟩]) (tgt := 9) C M.2.2.2 rfl kc0 rfl (by decide) wg_308 wt_324 rfl (fun q9 => ?_)
      refine K_astore_n C [vr (some x0), vi x1, vi x2, vr (some q9)] dL_load_9 rfl (Nat.le_of_ble_eq_true rfl) rfl ?_
      refine J_iconst C dL_load_10 (rg_of (by decide)) ?_
      exact J_iret C dL_load_11 M.2.2.1 ⟨_, rfl, h⟩
    · refine JX_catch (pre := [⟨0, 6, 9, 13⟩]) (x := ⟨0, 6, 12, 17⟩) (suf := []) (tgt := 12) C M.2.2.2 rfl (kc1 (by decide) wg_308 (by decide +kernel) kc0) rfl (by decide) wg_310 wt_425 rfl (fun q9 => ?_)
      refine K_astore_n C [vr (some x0), vi x1, vi x2, vr (some q9)] dL_load_12 rfl (Nat.le_of_ble_eq_true rfl) rfl ?_
      refine J_iconst C dL_load_13 (rg_of (by decide)) ?_
      exact J_iret C dL_load_14 M.2.2.1 ⟨_, rfl, h⟩
theorem c_L_load {l : Launch} {G : Gp} {d : Nat} {x0 : Nat} {x1 : Int} {x2 : Int} {S : Shp} {F : Fl} {I : Il} {Q : Int → Shp → Fl → Il → Prop} (hl : l.stackTraces = false) (hd : 11 ≤ d) (h : V_L_load x0 x1 x2 S F I Q) : CM l G d yL_load (.codeWith yL_load cL_load 4 (some .int) [(0, 6, 9, 13), (0, 6, 12, 17)]) [vr (some x0), vi x1, vi x2] S F I (qI fun z S' F' I' => Q z S' F' I') noX :=
  CM_ofH [vr (some x0), vi x1, vi x2, vl 0] hl (by decide +kernel) (kn1 trivial (kn1 trivial (kn1 trivial kn0))) (Nat.le_of_ble_eq_true rfl) rfl (fun X hX C M => S_L_load C M hd h)
set_option maxRecDepth 20000 in
set_option maxHeartbeats 4000000 in
theorem S_L_unload {G : Gp} {X : Xt} {d : Nat}  {x0 : Nat} {x1 : Int} {x2 : Nat} {Q : Int → Shp → Fl → Il → Prop} {S : Shp} {F : Fl} {I : Il} (C : CO G RL cL_unload 4 X) (M : MH d (some .int) [(0, 9, 12, 13), (0, 9, 15, 17)] X) (hd : 11 ≤ d)  (h : V_L_unload x0 x1 x2 S F I Q) : J G X (QD X G (qI fun z S' F' I' => Q z S' F' I') noX) 0 [vr (some x0), vi x1, vr (some x2), vl 0] [] S F I := by
  unfold V_L_unload at h
  obtain ⟨d, rfl⟩ : ∃ d9, d = d9 + 1 := ⟨d - 1, by omega⟩
  refine J_aload_n C dL_unload_0 rfl rfl ?_
  refine J_iconst C dL_unload_1 (rg_of (by decide)) ?_
  refine J_aload_n C dL_unload_2 rfl rfl ?_
  refine J_iload_n C dL_unload_3 rfl rfl ?_
  obtain ⟨hK1, h⟩ := h
  refine K_VH C M.1 M.2.1 [vi x1] [vi 0, vr (some x2)] mi_X8_unload wg_1061 wg_1062 wg_1063 ⟨rfl, by decide⟩ dL_unload_4 hK1 rfl rfl (by decide) (Nat.le_of_ble_eq_true rfl) (c_X8_unload (C.2.2.2.2.2.2.2) (by omega) h) (fun v9 S3 F4 I5 hq9 => ?_) (fun E9 S9 F9 I9 hx9 => ?_) rfl
  · clear h
    obtain ⟨z2, rfl, h⟩ := hq9
    refine J_i2l C dL_unload_7 ?_
    obtain ⟨hK6, h⟩ := h
    obtain ⟨h07, hn8, h⟩ := h
    refine J_last C dL_unload_8 hK6 h07 hn8 ?_
    refine J_goto C dL_unload_9 (tgt := 18) rfl ?_
    refine J_iconst C dL_unload_18 (rg_of (by decide)) ?_
    exact J_iret C dL_unload_19 M.2.2.1 ⟨_, rfl, h⟩
  · clear h
    rcases hx9 with ⟨rfl, h⟩ | ⟨rfl, h⟩
    · refine JX_catch (pre := []) (x := ⟨0, 9, 12, 13⟩) (suf := [⟨0, 9, 15, 17⟩]) (tgt := 12) C M.2.2.2 rfl kc0 rfl (by decide) wg_308 wt_324 rfl (fun q9 => ?_)
      refine K_astore_n C [vr (some x0), vi x1, vr (some x2), vr (some q9)] dL_unload_12 rfl (Nat.le_of_ble_eq_true rfl) rfl ?_
      refine J_iconst C dL_unload_13 (rg_of (by decide)) ?_
      exact J_iret C dL_unload_14 M.2.2.1 ⟨_, rfl, h⟩
    · refine JX_catch (pre := [⟨0, 9, 12, 13⟩]) (x := ⟨0, 9, 15, 17⟩) (suf := []) (tgt := 15) C M.2.2.2 rfl (kc1 (by decide) wg_308 (by decide +kernel) kc0) rfl (by decide) wg_310 wt_425 rfl (fun q9 => ?_)
      refine K_astore_n C [vr (some x0), vi x1, vr (some x2), vr (some q9)] dL_unload_15 rfl (Nat.le_of_ble_eq_true rfl) rfl ?_
      refine J_iconst C dL_unload_16 (rg_of (by decide)) ?_
      exact J_iret C dL_unload_17 M.2.2.1 ⟨_, rfl, h⟩
theorem c_L_unload {l : Launch} {G : Gp} {d : Nat} {x0 : Nat} {x1 : Int} {x2 : Nat} {S : Shp} {F : Fl} {I : Il} {Q : Int → Shp → Fl → Il → Prop} (hl : l.stackTraces = false) (hd : 11 ≤ d) (h : V_L_unload x0 x1 x2 S F I Q) : CM l G d yL_unload (.codeWith yL_unload cL_unload 4 (some .int) [(0, 9, 12, 13), (0, 9, 15, 17)]) [vr (some x0), vi x1, vr (some x2)] S F I (qI fun z S' F' I' => Q z S' F' I') noX :=
  CM_ofH [vr (some x0), vi x1, vr (some x2), vl 0] hl (by decide +kernel) (kn1 trivial (kn1 trivial (kn1 trivial kn0))) (Nat.le_of_ble_eq_true rfl) rfl (fun X hX C M => S_L_unload C M hd h)
set_option maxRecDepth 20000 in
set_option maxHeartbeats 4000000 in
theorem S_L_sort {G : Gp} {X : Xt} {d : Nat}  {x0 : Nat} {x1 : Int} {x2 : Nat} {Q : Int → Shp → Fl → Il → Prop} {S : Shp} {F : Fl} {I : Il} (C : CO G RL cL_sort 4 X) (M : MH d (some .int) [(0, 9, 12, 13)] X) (hd : 13 ≤ d)  (h : V_L_sort x0 x1 x2 S F I Q) : J G X (QD X G (qI fun z S' F' I' => Q z S' F' I') noX) 0 [vr (some x0), vi x1, vr (some x2), vl 0] [] S F I := by
  unfold V_L_sort at h
  obtain ⟨d, rfl⟩ : ∃ d9, d = d9 + 1 := ⟨d - 1, by omega⟩
  refine J_aload_n C dL_sort_0 rfl rfl ?_
  refine J_iconst C dL_sort_1 (rg_of (by decide)) ?_
  refine J_aload_n C dL_sort_2 rfl rfl ?_
  refine J_iload_n C dL_sort_3 rfl rfl ?_
  obtain ⟨hK1, h⟩ := h
  refine K_VH C M.1 M.2.1 [vi x1] [vi 0, vr (some x2)] mi_X8_sort wg_1068 wg_1069 wg_1070 ⟨rfl, by decide⟩ dL_sort_4 hK1 rfl rfl (by decide) (Nat.le_of_ble_eq_true rfl) (c_X8_sort (C.2.2.2.2.2.2.2) (by omega) h) (fun v9 S3 F4 I5 hq9 => ?_) (fun E9 S9 F9 I9 hx9 => ?_) rfl
  · clear h
    obtain ⟨z2, rfl, h⟩ := hq9
    refine J_i2l C dL_sort_7 ?_
    obtain ⟨hK6, h⟩ := h
    obtain ⟨h07, hn8, h⟩ := h
    refine J_last C dL_sort_8 hK6 h07 hn8 ?_
    refine J_goto C dL_sort_9 (tgt := 15) rfl ?_
    refine J_iconst C dL_sort_15 (rg_of (by decide)) ?_
    exact J_iret C dL_sort_16 M.2.2.1 ⟨_, rfl, h⟩
  · clear h
    rcases hx9 with ⟨rfl, h⟩
    · refine JX_catch (pre := []) (x := ⟨0, 9, 12, 13⟩) (suf := []) (tgt := 12) C M.2.2.2 rfl kc0 rfl (by decide) wg_308 wt_324 rfl (fun q9 => ?_)
      refine K_astore_n C [vr (some x0), vi x1, vr (some x2), vr (some q9)] dL_sort_12 rfl (Nat.le_of_ble_eq_true rfl) rfl ?_
      refine J_iconst C dL_sort_13 (rg_of (by decide)) ?_
      exact J_iret C dL_sort_14 M.2.2.1 ⟨_, rfl, h⟩
theorem c_L_sort {l : Launch} {G : Gp} {d : Nat} {x0 : Nat} {x1 : Int} {x2 : Nat} {S : Shp} {F : Fl} {I : Il} {Q : Int → Shp → Fl → Il → Prop} (hl : l.stackTraces = false) (hd : 13 ≤ d) (h : V_L_sort x0 x1 x2 S F I Q) : CM l G d yL_sort (.codeWith yL_sort cL_sort 4 (some .int) [(0, 9, 12, 13)]) [vr (some x0), vi x1, vr (some x2)] S F I (qI fun z S' F' I' => Q z S' F' I') noX :=
  CM_ofH [vr (some x0), vi x1, vr (some x2), vl 0] hl (by decide +kernel) (kn1 trivial (kn1 trivial (kn1 trivial kn0))) (Nat.le_of_ble_eq_true rfl) rfl (fun X hX C M => S_L_sort C M hd h)
set_option maxRecDepth 20000 in
set_option maxHeartbeats 4000000 in
theorem S_L_train {G : Gp} {X : Xt} {d : Nat}  {x0 : Nat} {x1 : Int} {x2 : Int} {x3 : Nat} {Q : Int → Shp → Fl → Il → Prop} {S : Shp} {F : Fl} {I : Il} (C : CO G RL cL_train 5 X) (M : MH d (some .int) [(0, 10, 13, 13)] X) (hd : 12 ≤ d)  (h : V_L_train x0 x1 x2 x3 S F I Q) : J G X (QD X G (qI fun z S' F' I' => Q z S' F' I') noX) 0 [vr (some x0), vi x1, vi x2, vr (some x3), vl 0] [] S F I := by
  unfold V_L_train at h
  obtain ⟨d, rfl⟩ : ∃ d9, d = d9 + 1 := ⟨d - 1, by omega⟩
  refine J_aload_n C dL_train_0 rfl rfl ?_
  refine J_iconst C dL_train_1 (rg_of (by decide)) ?_
  refine J_aload_n C dL_train_2 rfl rfl ?_
  refine J_iload_n C dL_train_3 rfl rfl ?_
  refine J_iload_n C dL_train_4 rfl rfl ?_
  obtain ⟨hK1, h⟩ := h
  refine K_VH C M.1 M.2.1 [vi x1, vi x2] [vi 0, vr (some x3)] mi_X8_train wg_1115 wg_1116 wg_1117 ⟨rfl, by decide⟩ dL_train_5 hK1 rfl rfl (by decide) (Nat.le_of_ble_eq_true rfl) (c_X8_train (C.2.2.2.2.2.2.2) (by omega) h) (fun v9 S' F' I' hq9 => ?_) (fun E9 S9 F9 I9 hx9 => ?_) rfl
  · clear h
    obtain ⟨z2, rfl, rfl, rfl, rfl, h⟩ := hq9
    refine J_i2l C dL_train_8 ?_
    obtain ⟨hK3, h⟩ := h
    obtain ⟨h04, hn5, h⟩ := h
    refine J_last C dL_train_9 hK3 h04 hn5 ?_
    refine J_goto C dL_train_10 (tgt := 17) rfl ?_
    refine J_iconst C dL_train_17 (rg_of (by decide)) ?_
    exact J_iret C dL_train_18 M.2.2.1 ⟨_, rfl, h⟩
  · clear h
    rcases hx9 with ⟨rfl, h⟩
    · refine JX_catch (pre := []) (x := ⟨0, 10, 13, 13⟩) (suf := []) (tgt := 13) C M.2.2.2 rfl kc0 rfl (by decide) wg_308 wt_324 rfl (fun q9 => ?_)
      refine K_astore C [vr (some x0), vi x1, vi x2, vr (some x3), vr (some q9)] dL_train_13 (Nat.le_of_ble_eq_true rfl) rfl ?_
      refine J_iconst C dL_train_15 (rg_of (by decide)) ?_
      exact J_iret C dL_train_16 M.2.2.1 ⟨_, rfl, h⟩
theorem c_L_train {l : Launch} {G : Gp} {d : Nat} {x0 : Nat} {x1 : Int} {x2 : Int} {x3 : Nat} {S : Shp} {F : Fl} {I : Il} {Q : Int → Shp → Fl → Il → Prop} (hl : l.stackTraces = false) (hd : 12 ≤ d) (h : V_L_train x0 x1 x2 x3 S F I Q) : CM l G d yL_train (.codeWith yL_train cL_train 5 (some .int) [(0, 10, 13, 13)]) [vr (some x0), vi x1, vi x2, vr (some x3)] S F I (qI fun z S' F' I' => Q z S' F' I') noX :=
  CM_ofH [vr (some x0), vi x1, vi x2, vr (some x3), vl 0] hl (by decide +kernel) (kn1 trivial (kn1 trivial (kn1 trivial (kn1 trivial kn0)))) (Nat.le_of_ble_eq_true rfl) rfl (fun X hX C M => S_L_train C M hd h)
set_option maxRecDepth 20000 in
set_option maxHeartbeats 4000000 in
theorem S_L_paper {G : Gp} {X : Xt} {d : Nat}  {x0 : Nat} {x1 : Int} {x2 : Int} {x3 : Nat} {Q : Int → Shp → Fl → Il → Prop} {S : Shp} {F : Fl} {I : Il} (C : CO G RL cL_paper 5 X) (M : MH d (some .int) [(0, 10, 13, 13)] X) (hd : 11 ≤ d)  (h : V_L_paper x0 x1 x2 x3 S F I Q) : J G X (QD X G (qI fun z S' F' I' => Q z S' F' I') noX) 0 [vr (some x0), vi x1, vi x2, vr (some x3), vl 0] [] S F I := by
  unfold V_L_paper at h
  obtain ⟨d, rfl⟩ : ∃ d9, d = d9 + 1 := ⟨d - 1, by omega⟩
  refine J_aload_n C dL_paper_0 rfl rfl ?_
  refine J_iconst C dL_paper_1 (rg_of (by decide)) ?_
  refine J_aload_n C dL_paper_2 rfl rfl ?_
  refine J_iload_n C dL_paper_3 rfl rfl ?_
  refine J_iload_n C dL_paper_4 rfl rfl ?_
  obtain ⟨hK1, h⟩ := h
  refine K_VH C M.1 M.2.1 [vi x1, vi x2] [vi 0, vr (some x3)] mi_X8_paper wg_1157 wg_1158 wg_1159 ⟨rfl, by decide⟩ dL_paper_5 hK1 rfl rfl (by decide) (Nat.le_of_ble_eq_true rfl) (c_X8_paper (C.2.2.2.2.2.2.2) (by omega) h) (fun v9 S' F' I' hq9 => ?_) (fun E9 S9 F9 I9 hx9 => ?_) rfl
  · clear h
    obtain ⟨z2, rfl, rfl, rfl, rfl, h⟩ := hq9
    refine J_i2l C dL_paper_8 ?_
    obtain ⟨hK3, h⟩ := h
    obtain ⟨h04, hn5, h⟩ := h
    refine J_last C dL_paper_9 hK3 h04 hn5 ?_
    refine J_goto C dL_paper_10 (tgt := 17) rfl ?_
    refine J_iconst C dL_paper_17 (rg_of (by decide)) ?_
    exact J_iret C dL_paper_18 M.2.2.1 ⟨_, rfl, h⟩
  · clear h
    rcases hx9 with ⟨rfl, h⟩
    · refine JX_catch (pre := []) (x := ⟨0, 10, 13, 13⟩) (suf := []) (tgt := 13) C M.2.2.2 rfl kc0 rfl (by decide) wg_308 wt_324 rfl (fun q9 => ?_)
      refine K_astore C [vr (some x0), vi x1, vi x2, vr (some x3), vr (some q9)] dL_paper_13 (Nat.le_of_ble_eq_true rfl) rfl ?_
      refine J_iconst C dL_paper_15 (rg_of (by decide)) ?_
      exact J_iret C dL_paper_16 M.2.2.1 ⟨_, rfl, h⟩
theorem c_L_paper {l : Launch} {G : Gp} {d : Nat} {x0 : Nat} {x1 : Int} {x2 : Int} {x3 : Nat} {S : Shp} {F : Fl} {I : Il} {Q : Int → Shp → Fl → Il → Prop} (hl : l.stackTraces = false) (hd : 11 ≤ d) (h : V_L_paper x0 x1 x2 x3 S F I Q) : CM l G d yL_paper (.codeWith yL_paper cL_paper 5 (some .int) [(0, 10, 13, 13)]) [vr (some x0), vi x1, vi x2, vr (some x3)] S F I (qI fun z S' F' I' => Q z S' F' I') noX :=
  CM_ofH [vr (some x0), vi x1, vi x2, vr (some x3), vl 0] hl (by decide +kernel) (kn1 trivial (kn1 trivial (kn1 trivial (kn1 trivial kn0)))) (Nat.le_of_ble_eq_true rfl) rfl (fun X hX C M => S_L_paper C M hd h)
set_option maxRecDepth 20000 in
set_option maxHeartbeats 4000000 in
theorem S_L_yardAt {G : Gp} {X : Xt} {d : Nat}  {x0 : Nat} {x1 : Int} {x2 : Int} {x3 : Nat} {Q : Int → Shp → Fl → Il → Prop} {S : Shp} {F : Fl} {I : Il} (C : CO G RL cL_yardAt 5 X) (M : MH d (some .int) [(0, 10, 13, 13)] X) (hd : 11 ≤ d)  (h : V_L_yardAt x0 x1 x2 x3 S F I Q) : J G X (QD X G (qI fun z S' F' I' => Q z S' F' I') noX) 0 [vr (some x0), vi x1, vi x2, vr (some x3), vl 0] [] S F I := by
  unfold V_L_yardAt at h
  obtain ⟨d, rfl⟩ : ∃ d9, d = d9 + 1 := ⟨d - 1, by omega⟩
  refine J_aload_n C dL_yardAt_0 rfl rfl ?_
  refine J_iconst C dL_yardAt_1 (rg_of (by decide)) ?_
  refine J_aload_n C dL_yardAt_2 rfl rfl ?_
  refine J_iload_n C dL_yardAt_3 rfl rfl ?_
  refine J_iload_n C dL_yardAt_4 rfl rfl ?_
  obtain ⟨hK1, h⟩ := h
  refine K_VH C M.1 M.2.1 [vi x1, vi x2] [vi 0, vr (some x3)] mi_X8_yardAt wg_1168 wg_1169 wg_1170 ⟨rfl, by decide⟩ dL_yardAt_5 hK1 rfl rfl (by decide) (Nat.le_of_ble_eq_true rfl) (c_X8_yardAt (C.2.2.2.2.2.2.2) (by omega) h) (fun v9 S' F' I' hq9 => ?_) (fun E9 S9 F9 I9 hx9 => ?_) rfl
  · clear h
    obtain ⟨z2, rfl, rfl, rfl, rfl, h⟩ := hq9
    refine J_i2l C dL_yardAt_8 ?_
    obtain ⟨hK3, h⟩ := h
    obtain ⟨h04, hn5, h⟩ := h
    refine J_last C dL_yardAt_9 hK3 h04 hn5 ?_
    refine J_goto C dL_yardAt_10 (tgt := 17) rfl ?_
    refine J_iconst C dL_yardAt_17 (rg_of (by decide)) ?_
    exact J_iret C dL_yardAt_18 M.2.2.1 ⟨_, rfl, h⟩
  · clear h
    rcases hx9 with ⟨rfl, h⟩
    · refine JX_catch (pre := []) (x := ⟨0, 10, 13, 13⟩) (suf := []) (tgt := 13) C M.2.2.2 rfl kc0 rfl (by decide) wg_308 wt_324 rfl (fun q9 => ?_)
      refine K_astore C [vr (some x0), vi x1, vi x2, vr (some x3), vr (some q9)] dL_yardAt_13 (Nat.le_of_ble_eq_true rfl) rfl ?_
      refine J_iconst C dL_yardAt_15 (rg_of (by decide)) ?_
      exact J_iret C dL_yardAt_16 M.2.2.1 ⟨_, rfl, h⟩
theorem c_L_yardAt {l : Launch} {G : Gp} {d : Nat} {x0 : Nat} {x1 : Int} {x2 : Int} {x3 : Nat} {S : Shp} {F : Fl} {I : Il} {Q : Int → Shp → Fl → Il → Prop} (hl : l.stackTraces = false) (hd : 11 ≤ d) (h : V_L_yardAt x0 x1 x2 x3 S F I Q) : CM l G d yL_yardAt (.codeWith yL_yardAt cL_yardAt 5 (some .int) [(0, 10, 13, 13)]) [vr (some x0), vi x1, vi x2, vr (some x3)] S F I (qI fun z S' F' I' => Q z S' F' I') noX :=
  CM_ofH [vr (some x0), vi x1, vi x2, vr (some x3), vl 0] hl (by decide +kernel) (kn1 trivial (kn1 trivial (kn1 trivial (kn1 trivial kn0)))) (Nat.le_of_ble_eq_true rfl) rfl (fun X hX C M => S_L_yardAt C M hd h)
set_option maxRecDepth 20000 in
set_option maxHeartbeats 4000000 in
theorem S_L_law_2846 {G : Gp} {X : Xt} {d : Nat} {ln : Int} {scr : Int → Int} {bS : Nat} {k23 : Nat → Nat → Nat → Int → Shp → Fl → Il → Prop} {x1 : Nat} {x2 : Nat} {x3 : Nat} {x4 : Int} {Q : Int → Shp → Fl → Il → Prop} {S : Shp} {F : Fl} {I : Il} (HX : SXc G X bS ln scr) (C : CO G RL cL_law 7 X) (M : ML d (some .boolean) X) (hd : 16 ≤ d) (hk23 : ∀ (x1 : Nat) (x2 : Nat) (x3 : Nat) (x4 : Int) (S' : Shp) (F' : Fl) (I' : Il), k23 x1 x2 x3 x4 S' F' I' → J G X (QD X G (qI fun z S' F' I' => Q z S' F' I') noX) 23 [vr (some bS), vr (some x1), vr (some x2), vr (some x3), vi x4, vl 0, vl 0] [] S' F' I') (h : V_L_law_2846 G ln scr k23 x1 x2 x3 x4 S F I Q) : J G X (QD X G (qI fun z S' F' I' => Q z S' F' I') noX) 2846 [vr (some bS), vr (some x1), vr (some x2), vr (some x3), vi x4, vl 0, vl 0] [] S F I := by
  unfold V_L_law_2846 at h
  refine K_iinc C [vr (some bS), vr (some x1), vr (some x2), vr (some x3), vi (w32 (x4 + 5)), vl 0, vl 0] dL_law_2846 rfl rfl ?_
  refine J_goto C dL_law_2849 (tgt := 23) rfl ?_
  exact hk23 x1 x2 x3 (w32 (x4 + 5)) S F I h
set_option maxRecDepth 20000 in
set_option maxHeartbeats 4000000 in
theorem S_L_law_297 {G : Gp} {X : Xt} {d : Nat} {ln : Int} {scr : Int → Int} {bS : Nat} {k23 : Nat → Nat → Nat → Int → Shp → Fl → Il → Prop} {x1 : Nat} {x2 : Nat} {x3 : Nat} {x4 : Int} {Q : Int → Shp → Fl → Il → Prop} {S : Shp} {F : Fl} {I : Il} (HX : SXc G X bS ln scr) (C : CO G RL cL_law 7 X) (M : ML d (some .boolean) X) (hd : 16 ≤ d) (hk23 : ∀ (x1 : Nat) (x2 : Nat) (x3 : Nat) (x4 : Int) (S' : Shp) (F' : Fl) (I' : Il), k23 x1 x2 x3 x4 S' F' I' → J G X (QD X G (qI fun z S' F' I' => Q z S' F' I') noX) 23 [vr (some bS), vr (some x1), vr (some x2), vr (some x3), vi x4, vl 0, vl 0] [] S' F' I') (h : V_L_law_297 G ln scr k23 x1 x2 x3 x4 S F I Q) : J G X (QD X G (qI fun z S' F' I' => Q z S' F' I') noX) 297 [vr (some bS), vr (some x1), vr (some x2), vr (some x3), vi x4, vl 0, vl 0] [] S F I := by
  unfold V_L_law_297 at h
  refine J_goto C dL_law_297 (tgt := 2846) rfl ?_
  exact S_L_law_2846 HX C M (by omega) hk23 h
set_option maxRecDepth 20000 in
set_option maxHeartbeats 4000000 in
theorem S_L_law_232 {G : Gp} {X : Xt} {d : Nat} {ln : Int} {scr : Int → Int} {bS : Nat} {k23 : Nat → Nat → Nat → Int → Shp → Fl → Il → Prop} {x1 : Nat} {x2 : Nat} {x3 : Nat} {x4 : Int} {Q : Int → Shp → Fl → Il → Prop} {S : Shp} {F : Fl} {I : Il} (HX : SXc G X bS ln scr) (C : CO G RL cL_law 7 X) (M : ML d (some .boolean) X) (hd : 16 ≤ d) (hk23 : ∀ (x1 : Nat) (x2 : Nat) (x3 : Nat) (x4 : Int) (S' : Shp) (F' : Fl) (I' : Il), k23 x1 x2 x3 x4 S' F' I' → J G X (QD X G (qI fun z S' F' I' => Q z S' F' I') noX) 23 [vr (some bS), vr (some x1), vr (some x2), vr (some x3), vi x4, vl 0, vl 0] [] S' F' I') (h : V_L_law_232 G ln scr k23 x1 x2 x3 x4 S F I Q) : J G X (QD X G (qI fun z S' F' I' => Q z S' F' I') noX) 232 [vr (some bS), vr (some x1), vr (some x2), vr (some x3), vi x4, vl 0, vl 0] [] S F I := by
  unfold V_L_law_232 at h
  obtain ⟨d, rfl⟩ : ∃ d9, d = d9 + 1 := ⟨d - 1, by omega⟩
  refine J_aload_n C dL_law_232 rfl rfl ?_
  refine J_aload_n C dL_law_233 rfl rfl ?_
  refine J_iload C dL_law_234 rfl ?_
  refine J_iconst C dL_law_236 (rg_of (by decide)) ?_
  refine J_iadd C dL_law_237 ?_
  obtain ⟨h01, hn2, h⟩ := h
  refine K_sld C HX dL_law_238 h01 hn2 ?_
  refine J_aload_n C dL_law_239 rfl rfl ?_
  refine J_iload C dL_law_240 rfl ?_
  refine J_iconst C dL_law_242 (rg_of (by decide)) ?_
  refine J_iadd C dL_law_243 ?_
  obtain ⟨h03, hn4, h⟩ := h
  refine K_sld C HX dL_law_244 h03 hn4 ?_
  refine J_aload_n C dL_law_245 rfl rfl ?_
  refine K_SW C M.1 M.2.1 [vr (some x1), vi (scr (w32 (x4 + 1))), vi (scr (w32 (x4 + 2))), vr (some x3)] [] miw_L_tracks wg_305 wg_306 dL_law_246 rfl rfl (by decide) (Nat.le_of_ble_eq_true rfl) (c_L_tracks (C.2.2.2.2.2.2.2) (by omega) h) (fun v9 S6 F7 I8 hq9 => ?_) rfl
  clear h
  obtain ⟨z5, rfl, h⟩ := hq9
  refine K_istore C [vr (some bS), vr (some x1), vr (some x2), vr (some x3), vi x4, vi z5, vl 0] dL_law_249 (Nat.le_of_ble_eq_true rfl) rfl ?_
  refine J_aload_n C dL_law_251 rfl rfl ?_
  refine J_aload_n C dL_law_252 rfl rfl ?_
  refine J_iload C dL_law_253 rfl ?_
  refine J_iconst C dL_law_255 (rg_of (by decide)) ?_
  refine J_iadd C dL_law_256 ?_
  obtain ⟨h09, hn10, h⟩ := h
  refine K_sld C HX dL_law_257 h09 hn10 ?_
  refine J_aload_n C dL_law_258 rfl rfl ?_
  refine J_iload C dL_law_259 rfl ?_
  refine J_iconst C dL_law_261 (rg_of (by decide)) ?_
  refine J_iadd C dL_law_262 ?_
  obtain ⟨h011, hn12, h⟩ := h
  refine K_sld C HX dL_law_263 h011 hn12 ?_
  obtain ⟨hK13, h⟩ := h
  refine K_VH C M.1 M.2.1 [vi (scr (w32 (x4 + 1))), vi (scr (w32 (x4 + 2)))] [] mi_X9_tracks wg_1407 wg_1408 wg_1409 ⟨rfl, by decide⟩ dL_law_264 hK13 rfl rfl (by decide) (Nat.le_of_ble_eq_true rfl) (c_X9_tracks (C.2.2.2.2.2.2.2) (by omega) h) (fun v9 S' F15 I16 hq9 => ?_) K_no rfl
  clear h
  obtain ⟨z14, rfl, rfl, h⟩ := hq9
  refine K_istore C [vr (some bS), vr (some x1), vr (some x2), vr (some x3), vi x4, vi z5, vi z14] dL_law_267 (Nat.le_of_ble_eq_true rfl) rfl ?_
  refine J_aload_n C dL_law_269 rfl rfl ?_
  refine K_VH C M.1 M.2.1 [] [] mi_X9_thrown wg_1403 wg_1404 wg_1405 ⟨rfl, by decide⟩ dL_law_270 hK13 rfl rfl (by decide) (Nat.le_of_ble_eq_true rfl) (c_X9_thrown (C.2.2.2.2.2.2.2) (by omega) h) (fun v9 S' F' I' hq9 => ?_) K_no rfl
  clear h
  obtain ⟨z17, rfl, rfl, rfl, rfl, h⟩ := hq9
  refine J_iload C dL_law_273 rfl ?_
  refine J_icmp_eq C dL_law_275 (tgt := 280) rfl (fun c275 => ?_) (fun c275 => ?_)
  · have h := h.1 c275
    refine J_iload C dL_law_280 rfl ?_
    refine J_if_ne C dL_law_282 (tgt := 297) rfl (fun c282 => ?_) (fun c282 => ?_)
    · have h := h.1 c282
      refine J_less [vr (some bS), vr (some x1), vr (some x2), vr (some x3), vi x4, vl 0, vl 0] (by unfold lessL; simp [lessL]) ?_
      exact S_L_law_297 HX C M (by omega) hk23 h
    · have h := h.2 c282
      refine J_aload_n C dL_law_285 rfl rfl ?_
      refine J_iconst C dL_law_286 (rg_of (by decide)) ?_
      obtain ⟨hK18, h⟩ := h
      obtain ⟨h019, hn20, h⟩ := h
      refine J_lald C dL_law_287 hK18 h019 hn20 ?_
      refine J_iload C dL_law_288 rfl ?_
      refine J_i2l C dL_law_290 ?_
      refine J_lcmp C dL_law_291 ?_
      refine J_if_eq C dL_law_292 (tgt := 297) rfl (fun c292 => ?_) (fun c292 => ?_)
      · have h := h.1 c292
        refine J_less [vr (some bS), vr (some x1), vr (some x2), vr (some x3), vi x4, vl 0, vl 0] (by unfold lessL; simp [lessL]) ?_
        exact S_L_law_297 HX C M (by omega) hk23 h
      · have h := h.2 c292
        refine J_iconst C dL_law_295 (rg_of (by decide)) ?_
        exact J_zret C dL_law_296 M.2.2.1 (by decide) ⟨_, rfl, h⟩
  · have h := h.2 c275
    refine J_iconst C dL_law_278 (rg_of (by decide)) ?_
    exact J_zret C dL_law_279 M.2.2.1 (by decide) ⟨_, rfl, h⟩
set_option maxRecDepth 20000 in
set_option maxHeartbeats 4000000 in
theorem S_L_law_389 {G : Gp} {X : Xt} {d : Nat} {ln : Int} {scr : Int → Int} {bS : Nat} {k23 : Nat → Nat → Nat → Int → Shp → Fl → Il → Prop} {x1 : Nat} {x2 : Nat} {x3 : Nat} {x4 : Int} {Q : Int → Shp → Fl → Il → Prop} {S : Shp} {F : Fl} {I : Il} (HX : SXc G X bS ln scr) (C : CO G RL cL_law 7 X) (M : ML d (some .boolean) X) (hd : 16 ≤ d) (hk23 : ∀ (x1 : Nat) (x2 : Nat) (x3 : Nat) (x4 : Int) (S' : Shp) (F' : Fl) (I' : Il), k23 x1 x2 x3 x4 S' F' I' → J G X (QD X G (qI fun z S' F' I' => Q z S' F' I') noX) 23 [vr (some bS), vr (some x1), vr (some x2), vr (some x3), vi x4, vl 0, vl 0] [] S' F' I') (h : V_L_law_389 G ln scr k23 x1 x2 x3 x4 S F I Q) : J G X (QD X G (qI fun z S' F' I' => Q z S' F' I') noX) 389 [vr (some bS), vr (some x1), vr (some x2), vr (some x3), vi x4, vl 0, vl 0] [] S F I := by
  unfold V_L_law_389 at h
  refine J_goto C dL_law_389 (tgt := 2846) rfl ?_
  exact S_L_law_2846 HX C M (by omega) hk23 h
set_option maxRecDepth 20000 in
set_option maxHeartbeats 4000000 in
theorem S_L_law_300 {G : Gp} {X : Xt} {d : Nat} {ln : Int} {scr : Int → Int} {bS : Nat} {k23 : Nat → Nat → Nat → Int → Shp → Fl → Il → Prop} {x1 : Nat} {x2 : Nat} {x3 : Nat} {x4 : Int} {Q : Int → Shp → Fl → Il → Prop} {S : Shp} {F : Fl} {I : Il} (HX : SXc G X bS ln scr) (C : CO G RL cL_law 7 X) (M : ML d (some .boolean) X) (hd : 16 ≤ d) (hk23 : ∀ (x1 : Nat) (x2 : Nat) (x3 : Nat) (x4 : Int) (S' : Shp) (F' : Fl) (I' : Il), k23 x1 x2 x3 x4 S' F' I' → J G X (QD X G (qI fun z S' F' I' => Q z S' F' I') noX) 23 [vr (some bS), vr (some x1), vr (some x2), vr (some x3), vi x4, vl 0, vl 0] [] S' F' I') (h : V_L_law_300 G ln scr k23 x1 x2 x3 x4 S F I Q) : J G X (QD X G (qI fun z S' F' I' => Q z S' F' I') noX) 300 [vr (some bS), vr (some x1), vr (some x2), vr (some x3), vi x4, vl 0, vl 0] [] S F I := by
  unfold V_L_law_300 at h
  obtain ⟨d, rfl⟩ : ∃ d9, d = d9 + 1 := ⟨d - 1, by omega⟩
  refine J_aload_n C dL_law_300 rfl rfl ?_
  refine J_aload_n C dL_law_301 rfl rfl ?_
  refine J_iload C dL_law_302 rfl ?_
  refine J_iconst C dL_law_304 (rg_of (by decide)) ?_
  refine J_iadd C dL_law_305 ?_
  obtain ⟨h01, hn2, h⟩ := h
  refine K_sld C HX dL_law_306 h01 hn2 ?_
  refine J_aload_n C dL_law_307 rfl rfl ?_
  refine J_iload C dL_law_308 rfl ?_
  refine J_iconst C dL_law_310 (rg_of (by decide)) ?_
  refine J_iadd C dL_law_311 ?_
  obtain ⟨h03, hn4, h⟩ := h
  refine K_sld C HX dL_law_312 h03 hn4 ?_
  refine J_aload_n C dL_law_313 rfl rfl ?_
  refine J_iload C dL_law_314 rfl ?_
  refine J_iconst C dL_law_316 (rg_of (by decide)) ?_
  refine J_iadd C dL_law_317 ?_
  obtain ⟨h05, hn6, h⟩ := h
  refine K_sld C HX dL_law_318 h05 hn6 ?_
  refine J_aload_n C dL_law_319 rfl rfl ?_
  refine J_iload C dL_law_320 rfl ?_
  refine J_iconst C dL_law_322 (rg_of (by decide)) ?_
  refine J_iadd C dL_law_323 ?_
  obtain ⟨h07, hn8, h⟩ := h
  refine K_sld C HX dL_law_324 h07 hn8 ?_
  refine J_aload_n C dL_law_325 rfl rfl ?_
  refine K_SW C M.1 M.2.1 [vr (some x1), vi (scr (w32 (x4 + 1))), vi (scr (w32 (x4 + 2))), vi (scr (w32 (x4 + 3))), vi (scr (w32 (x4 + 4))), vr (some x3)] [] miw_L_lay wg_439 wg_440 dL_law_326 rfl rfl (by decide) (Nat.le_of_ble_eq_true rfl) (c_L_lay (C.2.2.2.2.2.2.2) (by omega) h) (fun v9 S10 F11 I12 hq9 => ?_) rfl
  clear h
  obtain ⟨z9, rfl, h⟩ := hq9
  refine K_istore C [vr (some bS), vr (some x1), vr (some x2), vr (some x3), vi x4, vi z9, vl 0] dL_law_329 (Nat.le_of_ble_eq_true rfl) rfl ?_
  refine J_aload_n C dL_law_331 rfl rfl ?_
  refine J_aload_n C dL_law_332 rfl rfl ?_
  refine J_iload C dL_law_333 rfl ?_
  refine J_iconst C dL_law_335 (rg_of (by decide)) ?_
  refine J_iadd C dL_law_336 ?_
  obtain ⟨h013, hn14, h⟩ := h
  refine K_sld C HX dL_law_337 h013 hn14 ?_
  refine J_aload_n C dL_law_338 rfl rfl ?_
  refine J_iload C dL_law_339 rfl ?_
  refine J_iconst C dL_law_341 (rg_of (by decide)) ?_
  refine J_iadd C dL_law_342 ?_
  obtain ⟨h015, hn16, h⟩ := h
  refine K_sld C HX dL_law_343 h015 hn16 ?_
  refine J_aload_n C dL_law_344 rfl rfl ?_
  refine J_iload C dL_law_345 rfl ?_
  refine J_iconst C dL_law_347 (rg_of (by decide)) ?_
  refine J_iadd C dL_law_348 ?_
  obtain ⟨h017, hn18, h⟩ := h
  refine K_sld C HX dL_law_349 h017 hn18 ?_
  refine J_aload_n C dL_law_350 rfl rfl ?_
  refine J_iload C dL_law_351 rfl ?_
  refine J_iconst C dL_law_353 (rg_of (by decide)) ?_
  refine J_iadd C dL_law_354 ?_
  obtain ⟨h019, hn20, h⟩ := h
  refine K_sld C HX dL_law_355 h019 hn20 ?_
  obtain ⟨hK21, h⟩ := h
  refine K_VH C M.1 M.2.1 [vi (scr (w32 (x4 + 1))), vi (scr (w32 (x4 + 2))), vi (scr (w32 (x4 + 3))), vi (scr (w32 (x4 + 4)))] [] mi_X9_lay wg_1421 wg_1422 wg_1423 ⟨rfl, by decide⟩ dL_law_356 hK21 rfl rfl (by decide) (Nat.le_of_ble_eq_true rfl) (c_X9_lay (C.2.2.2.2.2.2.2) (by omega) h) (fun v9 S' F23 I24 hq9 => ?_) K_no rfl
  clear h
  obtain ⟨z22, rfl, rfl, h⟩ := hq9
  refine K_istore C [vr (some bS), vr (some x1), vr (some x2), vr (some x3), vi x4, vi z9, vi z22] dL_law_359 (Nat.le_of_ble_eq_true rfl) rfl ?_
  refine J_aload_n C dL_law_361 rfl rfl ?_
  refine K_VH C M.1 M.2.1 [] [] mi_X9_thrown wg_1403 wg_1404 wg_1405 ⟨rfl, by decide⟩ dL_law_362 hK21 rfl rfl (by decide) (Nat.le_of_ble_eq_true rfl) (c_X9_thrown (C.2.2.2.2.2.2.2) (by omega) h) (fun v9 S' F' I' hq9 => ?_) K_no rfl
  clear h
  obtain ⟨z25, rfl, rfl, rfl, rfl, h⟩ := hq9
  refine J_iload C dL_law_365 rfl ?_
  refine J_icmp_eq C dL_law_367 (tgt := 372) rfl (fun c367 => ?_) (fun c367 => ?_)
  · have h := h.1 c367
    refine J_iload C dL_law_372 rfl ?_
    refine J_if_ne C dL_law_374 (tgt := 389) rfl (fun c374 => ?_) (fun c374 => ?_)
    · have h := h.1 c374
      refine J_less [vr (some bS), vr (some x1), vr (some x2), vr (some x3), vi x4, vl 0, vl 0] (by unfold lessL; simp [lessL]) ?_
      exact S_L_law_389 HX C M (by omega) hk23 h
    · have h := h.2 c374
      refine J_aload_n C dL_law_377 rfl rfl ?_
      refine J_iconst C dL_law_378 (rg_of (by decide)) ?_
      obtain ⟨hK26, h⟩ := h
      obtain ⟨h027, hn28, h⟩ := h
      refine J_lald C dL_law_379 hK26 h027 hn28 ?_
      refine J_iload C dL_law_380 rfl ?_
      refine J_i2l C dL_law_382 ?_
      refine J_lcmp C dL_law_383 ?_
      refine J_if_eq C dL_law_384 (tgt := 389) rfl (fun c384 => ?_) (fun c384 => ?_)
      · have h := h.1 c384
        refine J_less [vr (some bS), vr (some x1), vr (some x2), vr (some x3), vi x4, vl 0, vl 0] (by unfold lessL; simp [lessL]) ?_
        exact S_L_law_389 HX C M (by omega) hk23 h
      · have h := h.2 c384
        refine J_iconst C dL_law_387 (rg_of (by decide)) ?_
        exact J_zret C dL_law_388 M.2.2.1 (by decide) ⟨_, rfl, h⟩
  · have h := h.2 c367
    refine J_iconst C dL_law_370 (rg_of (by decide)) ?_
    exact J_zret C dL_law_371 M.2.2.1 (by decide) ⟨_, rfl, h⟩
set_option maxRecDepth 20000 in
set_option maxHeartbeats 4000000 in
theorem S_L_law_480 {G : Gp} {X : Xt} {d : Nat} {ln : Int} {scr : Int → Int} {bS : Nat} {k23 : Nat → Nat → Nat → Int → Shp → Fl → Il → Prop} {x1 : Nat} {x2 : Nat} {x3 : Nat} {x4 : Int} {Q : Int → Shp → Fl → Il → Prop} {S : Shp} {F : Fl} {I : Il} (HX : SXc G X bS ln scr) (C : CO G RL cL_law 7 X) (M : ML d (some .boolean) X) (hd : 16 ≤ d) (hk23 : ∀ (x1 : Nat) (x2 : Nat) (x3 : Nat) (x4 : Int) (S' : Shp) (F' : Fl) (I' : Il), k23 x1 x2 x3 x4 S' F' I' → J G X (QD X G (qI fun z S' F' I' => Q z S' F' I') noX) 23 [vr (some bS), vr (some x1), vr (some x2), vr (some x3), vi x4, vl 0, vl 0] [] S' F' I') (h : V_L_law_480 G ln scr k23 x1 x2 x3 x4 S F I Q) : J G X (QD X G (qI fun z S' F' I' => Q z S' F' I') noX) 480 [vr (some bS), vr (some x1), vr (some x2), vr (some x3), vi x4, vl 0, vl 0] [] S F I := by
  unfold V_L_law_480 at h
  refine J_goto C dL_law_480 (tgt := 2846) rfl ?_
  exact S_L_law_2846 HX C M (by omega) hk23 h
set_option maxRecDepth 20000 in
set_option maxHeartbeats 4000000 in
theorem S_L_law_474 {G : Gp} {X : Xt} {d : Nat} {ln : Int} {scr : Int → Int} {bS : Nat} {k23 : Nat → Nat → Nat → Int → Shp → Fl → Il → Prop} {x1 : Nat} {x2 : Nat} {x3 : Nat} {x4 : Int} {s0 : Int} {s1 : Int} {Q : Int → Shp → Fl → Il → Prop} {S : Shp} {F : Fl} {I : Il} (HX : SXc G X bS ln scr) (C : CO G RL cL_law 7 X) (M : ML d (some .boolean) X) (hd : 16 ≤ d) (hk23 : ∀ (x1 : Nat) (x2 : Nat) (x3 : Nat) (x4 : Int) (S' : Shp) (F' : Fl) (I' : Il), k23 x1 x2 x3 x4 S' F' I' → J G X (QD X G (qI fun z S' F' I' => Q z S' F' I') noX) 23 [vr (some bS), vr (some x1), vr (some x2), vr (some x3), vi x4, vl 0, vl 0] [] S' F' I') (h : V_L_law_474 G ln scr k23 x1 x2 x3 x4 s0 s1 S F I Q) : J G X (QD X G (qI fun z S' F' I' => Q z S' F' I') noX) 474 [vr (some bS), vr (some x1), vr (some x2), vr (some x3), vi x4, vl 0, vl 0] [vl s0, vl s1] S F I := by
  unfold V_L_law_474 at h
  refine J_lcmp C dL_law_474 ?_
  refine J_if_eq C dL_law_475 (tgt := 480) rfl (fun c475 => ?_) (fun c475 => ?_)
  · have h := h.1 c475
    exact S_L_law_480 HX C M (by omega) hk23 h
  · have h := h.2 c475
    refine J_iconst C dL_law_478 (rg_of (by decide)) ?_
    exact J_zret C dL_law_479 M.2.2.1 (by decide) ⟨_, rfl, h⟩
set_option maxRecDepth 20000 in
set_option maxHeartbeats 4000000 in
theorem S_L_law_440 {G : Gp} {X : Xt} {d : Nat} {ln : Int} {scr : Int → Int} {bS : Nat} {k23 : Nat → Nat → Nat → Int → Shp → Fl → Il → Prop} {x1 : Nat} {x2 : Nat} {x3 : Nat} {x4 : Int} {x5 : Int} {s0 : Int} {s1 : Int} {s2 : Nat} {Q : Int → Shp → Fl → Il → Prop} {S : Shp} {F : Fl} {I : Il} (HX : SXc G X bS ln scr) (C : CO G RL cL_law 7 X) (M : ML d (some .boolean) X) (hd : 16 ≤ d) (hk23 : ∀ (x1 : Nat) (x2 : Nat) (x3 : Nat) (x4 : Int) (S' : Shp) (F' : Fl) (I' : Il), k23 x1 x2 x3 x4 S' F' I' → J G X (QD X G (qI fun z S' F' I' => Q z S' F' I') noX) 23 [vr (some bS), vr (some x1), vr (some x2), vr (some x3), vi x4, vl 0, vl 0] [] S' F' I') (h : V_L_law_440 G ln scr k23 x1 x2 x3 x4 x5 s0 s1 s2 S F I Q) : J G X (QD X G (qI fun z S' F' I' => Q z S' F' I') noX) 440 [vr (some bS), vr (some x1), vr (some x2), vr (some x3), vi x4, vi x5, vl 0] [vi s0, vi s1, vr (some s2)] S F I := by
  unfold V_L_law_440 at h
  obtain ⟨d, rfl⟩ : ∃ d9, d = d9 + 1 := ⟨d - 1, by omega⟩
  obtain ⟨hK1, h⟩ := h
  refine K_VH C M.1 M.2.1 [vi s1, vi s0] [] mi_X9_fail wg_1425 wg_1426 wg_1427 ⟨rfl, by decide⟩ dL_law_440 hK1 rfl rfl (by decide) (Nat.le_of_ble_eq_true rfl) (c_X9_fail (C.2.2.2.2.2.2.2) (by omega) h) (fun v9 S' F3 I4 hq9 => ?_) K_no rfl
  clear h
  obtain ⟨z2, rfl, rfl, h⟩ := hq9
  refine K_istore C [vr (some bS), vr (some x1), vr (some x2), vr (some x3), vi x4, vi x5, vi z2] dL_law_443 (Nat.le_of_ble_eq_true rfl) rfl ?_
  refine J_aload_n C dL_law_445 rfl rfl ?_
  obtain ⟨hK5, h⟩ := h
  refine K_VH C M.1 M.2.1 [] [] mi_X9_thrown wg_1403 wg_1404 wg_1405 ⟨rfl, by decide⟩ dL_law_446 hK5 rfl rfl (by decide) (Nat.le_of_ble_eq_true rfl) (c_X9_thrown (C.2.2.2.2.2.2.2) (by omega) h) (fun v9 S' F' I' hq9 => ?_) K_no rfl
  clear h
  obtain ⟨z6, rfl, rfl, rfl, rfl, h⟩ := hq9
  refine J_iload C dL_law_449 rfl ?_
  refine J_icmp_eq C dL_law_451 (tgt := 456) rfl (fun c451 => ?_) (fun c451 => ?_)
  · have h := h.1 c451
    refine J_iload C dL_law_456 rfl ?_
    refine J_if_ne C dL_law_458 (tgt := 480) rfl (fun c458 => ?_) (fun c458 => ?_)
    · have h := h.1 c458
      refine J_less [vr (some bS), vr (some x1), vr (some x2), vr (some x3), vi x4, vl 0, vl 0] (by unfold lessL; simp [lessL]) ?_
      exact S_L_law_480 HX C M (by omega) hk23 h
    · have h := h.2 c458
      refine J_aload_n C dL_law_461 rfl rfl ?_
      refine J_iconst C dL_law_462 (rg_of (by decide)) ?_
      obtain ⟨hK7, h⟩ := h
      obtain ⟨h08, hn9, h⟩ := h
      refine J_lald C dL_law_463 hK7 h08 hn9 ?_
      refine J_iload C dL_law_464 rfl ?_
      refine J_if_eq C dL_law_466 (tgt := 473) rfl (fun c466 => ?_) (fun c466 => ?_)
      · have h := h.1 c466
        refine J_lconst C dL_law_473 (z := 0) (by decide +kernel) (rg_of (by decide)) ?_
        refine J_less [vr (some bS), vr (some x1), vr (some x2), vr (some x3), vi x4, vl 0, vl 0] (by unfold lessL; simp [lessL]) ?_
        exact S_L_law_474 HX C M (by omega) hk23 h
      · have h := h.2 c466
        refine J_lconst C dL_law_469 (z := 1) (by decide +kernel) (rg_of (by decide)) ?_
        refine J_goto C dL_law_470 (tgt := 474) rfl ?_
        refine J_less [vr (some bS), vr (some x1), vr (some x2), vr (some x3), vi x4, vl 0, vl 0] (by unfold lessL; simp [lessL]) ?_
        exact S_L_law_474 HX C M (by omega) hk23 h
  · have h := h.2 c451
    refine J_iconst C dL_law_454 (rg_of (by decide)) ?_
    exact J_zret C dL_law_455 M.2.2.1 (by decide) ⟨_, rfl, h⟩
set_option maxRecDepth 20000 in
set_option maxHeartbeats 4000000 in
theorem S_L_law_413 {G : Gp} {X : Xt} {d : Nat} {ln : Int} {scr : Int → Int} {bS : Nat} {k23 : Nat → Nat → Nat → Int → Shp → Fl → Il → Prop} {x1 : Nat} {x2 : Nat} {x3 : Nat} {x4 : Int} {s0 : Int} {s1 : Int} {s2 : Nat} {Q : Int → Shp → Fl → Il → Prop} {S : Shp} {F : Fl} {I : Il} (HX : SXc G X bS ln scr) (C : CO G RL cL_law 7 X) (M : ML d (some .boolean) X) (hd : 16 ≤ d) (hk23 : ∀ (x1 : Nat) (x2 : Nat) (x3 : Nat) (x4 : Int) (S' : Shp) (F' : Fl) (I' : Il), k23 x1 x2 x3 x4 S' F' I' → J G X (QD X G (qI fun z S' F' I' => Q z S' F' I') noX) 23 [vr (some bS), vr (some x1), vr (some x2), vr (some x3), vi x4, vl 0, vl 0] [] S' F' I') (h : V_L_law_413 G ln scr k23 x1 x2 x3 x4 s0 s1 s2 S F I Q) : J G X (QD X G (qI fun z S' F' I' => Q z S' F' I') noX) 413 [vr (some bS), vr (some x1), vr (some x2), vr (some x3), vi x4, vl 0, vl 0] [vi s0, vi s1, vr (some s2)] S F I := by
  unfold V_L_law_413 at h
  obtain ⟨d, rfl⟩ : ∃ d9, d = d9 + 1 := ⟨d - 1, by omega⟩
  refine J_aload_n C dL_law_413 rfl rfl ?_
  refine K_SW C M.1 M.2.1 [vr (some s2), vi s1, vi s0, vr (some x3)] [] miw_L_fail wg_574 wg_575 dL_law_414 rfl rfl (by decide) (Nat.le_of_ble_eq_true rfl) (c_L_fail (C.2.2.2.2.2.2.2) (by omega) h) (fun v9 S2 F3 I4 hq9 => ?_) rfl
  clear h
  obtain ⟨z1, rfl, h⟩ := hq9
  refine K_istore C [vr (some bS), vr (some x1), vr (some x2), vr (some x3), vi x4, vi z1, vl 0] dL_law_417 (Nat.le_of_ble_eq_true rfl) rfl ?_
  refine J_aload_n C dL_law_419 rfl rfl ?_
  refine J_aload_n C dL_law_420 rfl rfl ?_
  refine J_iload C dL_law_421 rfl ?_
  refine J_iconst C dL_law_423 (rg_of (by decide)) ?_
  refine J_iadd C dL_law_424 ?_
  obtain ⟨h05, hn6, h⟩ := h
  refine K_sld C HX dL_law_425 h05 hn6 ?_
  refine J_aload_n C dL_law_426 rfl rfl ?_
  refine J_iload C dL_law_427 rfl ?_
  refine J_iconst C dL_law_429 (rg_of (by decide)) ?_
  refine J_iadd C dL_law_430 ?_
  obtain ⟨h07, hn8, h⟩ := h
  refine K_sld C HX dL_law_431 h07 hn8 ?_
  refine J_if_eq C dL_law_432 (tgt := 439) rfl (fun c432 => ?_) (fun c432 => ?_)
  · have h := h.1 c432
    refine J_iconst C dL_law_439 (rg_of (by decide)) ?_
    exact S_L_law_440 HX C M (by omega) hk23 h
  · have h := h.2 c432
    refine J_iconst C dL_law_435 (rg_of (by decide)) ?_
    refine J_goto C dL_law_436 (tgt := 440) rfl ?_
    exact S_L_law_440 HX C M (by omega) hk23 h
set_option maxRecDepth 20000 in
set_option maxHeartbeats 4000000 in
theorem S_L_law_392 {G : Gp} {X : Xt} {d : Nat} {ln : Int} {scr : Int → Int} {bS : Nat} {k23 : Nat → Nat → Nat → Int → Shp → Fl → Il → Prop} {x1 : Nat} {x2 : Nat} {x3 : Nat} {x4 : Int} {Q : Int → Shp → Fl → Il → Prop} {S : Shp} {F : Fl} {I : Il} (HX : SXc G X bS ln scr) (C : CO G RL cL_law 7 X) (M : ML d (some .boolean) X) (hd : 16 ≤ d) (hk23 : ∀ (x1 : Nat) (x2 : Nat) (x3 : Nat) (x4 : Int) (S' : Shp) (F' : Fl) (I' : Il), k23 x1 x2 x3 x4 S' F' I' → J G X (QD X G (qI fun z S' F' I' => Q z S' F' I') noX) 23 [vr (some bS), vr (some x1), vr (some x2), vr (some x3), vi x4, vl 0, vl 0] [] S' F' I') (h : V_L_law_392 G ln scr k23 x1 x2 x3 x4 S F I Q) : J G X (QD X G (qI fun z S' F' I' => Q z S' F' I') noX) 392 [vr (some bS), vr (some x1), vr (some x2), vr (some x3), vi x4, vl 0, vl 0] [] S F I := by
  unfold V_L_law_392 at h
  refine J_aload_n C dL_law_392 rfl rfl ?_
  refine J_aload_n C dL_law_393 rfl rfl ?_
  refine J_iload C dL_law_394 rfl ?_
  refine J_iconst C dL_law_396 (rg_of (by decide)) ?_
  refine J_iadd C dL_law_397 ?_
  obtain ⟨h01, hn2, h⟩ := h
  refine K_sld C HX dL_law_398 h01 hn2 ?_
  refine J_aload_n C dL_law_399 rfl rfl ?_
  refine J_iload C dL_law_400 rfl ?_
  refine J_iconst C dL_law_402 (rg_of (by decide)) ?_
  refine J_iadd C dL_law_403 ?_
  obtain ⟨h03, hn4, h⟩ := h
  refine K_sld C HX dL_law_404 h03 hn4 ?_
  refine J_if_eq C dL_law_405 (tgt := 412) rfl (fun c405 => ?_) (fun c405 => ?_)
  · have h := h.1 c405
    refine J_iconst C dL_law_412 (rg_of (by decide)) ?_
    exact S_L_law_413 HX C M (by omega) hk23 h
  · have h := h.2 c405
    refine J_iconst C dL_law_408 (rg_of (by decide)) ?_
    refine J_goto C dL_law_409 (tgt := 413) rfl ?_
    exact S_L_law_413 HX C M (by omega) hk23 h
set_option maxRecDepth 20000 in
set_option maxHeartbeats 4000000 in
theorem S_L_law_483 {G : Gp} {X : Xt} {d : Nat} {ln : Int} {scr : Int → Int} {bS : Nat} {k23 : Nat → Nat → Nat → Int → Shp → Fl → Il → Prop} {x1 : Nat} {x2 : Nat} {x3 : Nat} {x4 : Int} {Q : Int → Shp → Fl → Il → Prop} {S : Shp} {F : Fl} {I : Il} (HX : SXc G X bS ln scr) (C : CO G RL cL_law 7 X) (M : ML d (some .boolean) X) (hd : 16 ≤ d) (hk23 : ∀ (x1 : Nat) (x2 : Nat) (x3 : Nat) (x4 : Int) (S' : Shp) (F' : Fl) (I' : Il), k23 x1 x2 x3 x4 S' F' I' → J G X (QD X G (qI fun z S' F' I' => Q z S' F' I') noX) 23 [vr (some bS), vr (some x1), vr (some x2), vr (some x3), vi x4, vl 0, vl 0] [] S' F' I') (h : V_L_law_483 G ln scr k23 x1 x2 x3 x4 S F I Q) : J G X (QD X G (qI fun z S' F' I' => Q z S' F' I') noX) 483 [vr (some bS), vr (some x1), vr (some x2), vr (some x3), vi x4, vl 0, vl 0] [] S F I := by
  unfold V_L_law_483 at h
  obtain ⟨d, rfl⟩ : ∃ d9, d = d9 + 1 := ⟨d - 1, by omega⟩
  refine J_aload_n C dL_law_483 rfl rfl ?_
  refine J_aload_n C dL_law_484 rfl rfl ?_
  refine J_iload C dL_law_485 rfl ?_
  refine J_iconst C dL_law_487 (rg_of (by decide)) ?_
  refine J_iadd C dL_law_488 ?_
  obtain ⟨h01, hn2, h⟩ := h
  refine K_sld C HX dL_law_489 h01 hn2 ?_
  refine K_SW C M.1 M.2.1 [vr (some x1), vi (scr (w32 (x4 + 1)))] [] miw_L_flag wg_599 wg_600 dL_law_490 rfl rfl (by decide) (Nat.le_of_ble_eq_true rfl) (c_L_flag (C.2.2.2.2.2.2.2) (by omega) h) (fun v9 S4 F5 I6 hq9 => ?_) rfl
  clear h
  obtain ⟨z3, rfl, h⟩ := hq9
  refine K_istore C [vr (some bS), vr (some x1), vr (some x2), vr (some x3), vi x4, vi z3, vl 0] dL_law_493 (Nat.le_of_ble_eq_true rfl) rfl ?_
  refine J_aload_n C dL_law_495 rfl rfl ?_
  refine J_aload_n C dL_law_496 rfl rfl ?_
  refine J_iload C dL_law_497 rfl ?_
  refine J_iconst C dL_law_499 (rg_of (by decide)) ?_
  refine J_iadd C dL_law_500 ?_
  obtain ⟨h07, hn8, h⟩ := h
  refine K_sld C HX dL_law_501 h07 hn8 ?_
  obtain ⟨hK9, h⟩ := h
  refine K_VH C M.1 M.2.1 [vi (scr (w32 (x4 + 1)))] [] mi_X9_flag wg_1433 wg_1434 wg_1435 ⟨rfl, by decide⟩ dL_law_502 hK9 rfl rfl (by decide) (Nat.le_of_ble_eq_true rfl) (c_X9_flag (C.2.2.2.2.2.2.2) (by omega) h) (fun v9 S' F10 I11 hq9 => ?_) K_no rfl
  clear h
  obtain ⟨rfl, rfl, h⟩ := hq9
  refine J_aload_n C dL_law_505 rfl rfl ?_
  refine K_VH C M.1 M.2.1 [] [] mi_X9_thrown wg_1403 wg_1404 wg_1405 ⟨rfl, by decide⟩ dL_law_506 hK9 rfl rfl (by decide) (Nat.le_of_ble_eq_true rfl) (c_X9_thrown (C.2.2.2.2.2.2.2) (by omega) h) (fun v9 S' F' I' hq9 => ?_) K_no rfl
  clear h
  obtain ⟨z12, rfl, rfl, rfl, rfl, h⟩ := hq9
  refine J_iload C dL_law_509 rfl ?_
  refine J_icmp_eq C dL_law_511 (tgt := 516) rfl (fun c511 => ?_) (fun c511 => ?_)
  · have h := h.1 c511
    refine J_goto C dL_law_516 (tgt := 2846) rfl ?_
    refine J_less [vr (some bS), vr (some x1), vr (some x2), vr (some x3), vi x4, vl 0, vl 0] (by unfold lessL; simp [lessL]) ?_
    exact S_L_law_2846 HX C M (by omega) hk23 h
  · have h := h.2 c511
    refine J_iconst C dL_law_514 (rg_of (by decide)) ?_
    exact J_zret C dL_law_515 M.2.2.1 (by decide) ⟨_, rfl, h⟩
set_option maxRecDepth 20000 in
set_option maxHeartbeats 4000000 in
theorem S_L_law_519 {G : Gp} {X : Xt} {d : Nat} {ln : Int} {scr : Int → Int} {bS : Nat} {k23 : Nat → Nat → Nat → Int → Shp → Fl → Il → Prop} {x1 : Nat} {x2 : Nat} {x3 : Nat} {x4 : Int} {Q : Int → Shp → Fl → Il → Prop} {S : Shp} {F : Fl} {I : Il} (HX : SXc G X bS ln scr) (C : CO G RL cL_law 7 X) (M : ML d (some .boolean) X) (hd : 16 ≤ d) (hk23 : ∀ (x1 : Nat) (x2 : Nat) (x3 : Nat) (x4 : Int) (S' : Shp) (F' : Fl) (I' : Il), k23 x1 x2 x3 x4 S' F' I' → J G X (QD X G (qI fun z S' F' I' => Q z S' F' I') noX) 23 [vr (some bS), vr (some x1), vr (some x2), vr (some x3), vi x4, vl 0, vl 0] [] S' F' I') (h : V_L_law_519 G ln scr k23 x1 x2 x3 x4 S F I Q) : J G X (QD X G (qI fun z S' F' I' => Q z S' F' I') noX) 519 [vr (some bS), vr (some x1), vr (some x2), vr (some x3), vi x4, vl 0, vl 0] [] S F I := by
  unfold V_L_law_519 at h
  obtain ⟨d, rfl⟩ : ∃ d9, d = d9 + 1 := ⟨d - 1, by omega⟩
  refine J_aload_n C dL_law_519 rfl rfl ?_
  refine J_aload_n C dL_law_520 rfl rfl ?_
  refine J_iload C dL_law_521 rfl ?_
  refine J_iconst C dL_law_523 (rg_of (by decide)) ?_
  refine J_iadd C dL_law_524 ?_
  obtain ⟨h01, hn2, h⟩ := h
  refine K_sld C HX dL_law_525 h01 hn2 ?_
  refine J_aload_n C dL_law_526 rfl rfl ?_
  refine J_iload C dL_law_527 rfl ?_
  refine J_iconst C dL_law_529 (rg_of (by decide)) ?_
  refine J_iadd C dL_law_530 ?_
  obtain ⟨h03, hn4, h⟩ := h
  refine K_sld C HX dL_law_531 h03 hn4 ?_
  refine J_aload_n C dL_law_532 rfl rfl ?_
  refine J_iload C dL_law_533 rfl ?_
  refine J_iconst C dL_law_535 (rg_of (by decide)) ?_
  refine J_iadd C dL_law_536 ?_
  obtain ⟨h05, hn6, h⟩ := h
  refine K_sld C HX dL_law_537 h05 hn6 ?_
  refine K_SW C M.1 M.2.1 [vr (some x1), vi (scr (w32 (x4 + 1))), vi (scr (w32 (x4 + 2))), vi (scr (w32 (x4 + 3)))] [] miw_L_hours wg_606 wg_607 dL_law_538 rfl rfl (by decide) (Nat.le_of_ble_eq_true rfl) (c_L_hours (C.2.2.2.2.2.2.2) (by omega) h) (fun v9 S8 F9 I10 hq9 => ?_) rfl
  clear h
  obtain ⟨z7, rfl, h⟩ := hq9
  refine K_istore C [vr (some bS), vr (some x1), vr (some x2), vr (some x3), vi x4, vi z7, vl 0] dL_law_541 (Nat.le_of_ble_eq_true rfl) rfl ?_
  refine J_aload_n C dL_law_543 rfl rfl ?_
  refine J_aload_n C dL_law_544 rfl rfl ?_
  refine J_iload C dL_law_545 rfl ?_
  refine J_iconst C dL_law_547 (rg_of (by decide)) ?_
  refine J_iadd C dL_law_548 ?_
  obtain ⟨h011, hn12, h⟩ := h
  refine K_sld C HX dL_law_549 h011 hn12 ?_
  refine J_aload_n C dL_law_550 rfl rfl ?_
  refine J_iload C dL_law_551 rfl ?_
  refine J_iconst C dL_law_553 (rg_of (by decide)) ?_
  refine J_iadd C dL_law_554 ?_
  obtain ⟨h013, hn14, h⟩ := h
  refine K_sld C HX dL_law_555 h013 hn14 ?_
  refine J_aload_n C dL_law_556 rfl rfl ?_
  refine J_iload C dL_law_557 rfl ?_
  refine J_iconst C dL_law_559 (rg_of (by decide)) ?_
  refine J_iadd C dL_law_560 ?_
  obtain ⟨h015, hn16, h⟩ := h
  refine K_sld C HX dL_law_561 h015 hn16 ?_
  obtain ⟨hK17, h⟩ := h
  refine K_VH C M.1 M.2.1 [vi (scr (w32 (x4 + 1))), vi (scr (w32 (x4 + 2))), vi (scr (w32 (x4 + 3)))] [] mi_X9_hours wg_1437 wg_1438 wg_1439 ⟨rfl, by decide⟩ dL_law_562 hK17 rfl rfl (by decide) (Nat.le_of_ble_eq_true rfl) (c_X9_hours (C.2.2.2.2.2.2.2) (by omega) h) (fun v9 S' F18 I19 hq9 => ?_) K_no rfl
  clear h
  obtain ⟨rfl, rfl, h⟩ := hq9
  refine J_aload_n C dL_law_565 rfl rfl ?_
  refine K_VH C M.1 M.2.1 [] [] mi_X9_thrown wg_1403 wg_1404 wg_1405 ⟨rfl, by decide⟩ dL_law_566 hK17 rfl rfl (by decide) (Nat.le_of_ble_eq_true rfl) (c_X9_thrown (C.2.2.2.2.2.2.2) (by omega) h) (fun v9 S' F' I' hq9 => ?_) K_no rfl
  clear h
  obtain ⟨z20, rfl, rfl, rfl, rfl, h⟩ := hq9
  refine J_iload C dL_law_569 rfl ?_
  refine J_icmp_eq C dL_law_571 (tgt := 576) rfl (fun c571 => ?_) (fun c571 => ?_)
  · have h := h.1 c571
    refine J_goto C dL_law_576 (tgt := 2846) rfl ?_
    refine J_less [vr (some bS), vr (some x1), vr (some x2), vr (some x3), vi x4, vl 0, vl 0] (by unfold lessL; simp [lessL]) ?_
    exact S_L_law_2846 HX C M (by omega) hk23 h
  · have h := h.2 c571
    refine J_iconst C dL_law_574 (rg_of (by decide)) ?_
    exact J_zret C dL_law_575 M.2.2.1 (by decide) ⟨_, rfl, h⟩
set_option maxRecDepth 20000 in
set_option maxHeartbeats 4000000 in
theorem S_L_law_632 {G : Gp} {X : Xt} {d : Nat} {ln : Int} {scr : Int → Int} {bS : Nat} {k23 : Nat → Nat → Nat → Int → Shp → Fl → Il → Prop} {x1 : Nat} {x2 : Nat} {x3 : Nat} {x4 : Int} {Q : Int → Shp → Fl → Il → Prop} {S : Shp} {F : Fl} {I : Il} (HX : SXc G X bS ln scr) (C : CO G RL cL_law 7 X) (M : ML d (some .boolean) X) (hd : 16 ≤ d) (hk23 : ∀ (x1 : Nat) (x2 : Nat) (x3 : Nat) (x4 : Int) (S' : Shp) (F' : Fl) (I' : Il), k23 x1 x2 x3 x4 S' F' I' → J G X (QD X G (qI fun z S' F' I' => Q z S' F' I') noX) 23 [vr (some bS), vr (some x1), vr (some x2), vr (some x3), vi x4, vl 0, vl 0] [] S' F' I') (h : V_L_law_632 G ln scr k23 x1 x2 x3 x4 S F I Q) : J G X (QD X G (qI fun z S' F' I' => Q z S' F' I') noX) 632 [vr (some bS), vr (some x1), vr (some x2), vr (some x3), vi x4, vl 0, vl 0] [] S F I := by
  unfold V_L_law_632 at h
  refine J_goto C dL_law_632 (tgt := 2846) rfl ?_
  exact S_L_law_2846 HX C M (by omega) hk23 h
set_option maxRecDepth 20000 in
set_option maxHeartbeats 4000000 in
theorem S_L_law_579 {G : Gp} {X : Xt} {d : Nat} {ln : Int} {scr : Int → Int} {bS : Nat} {k23 : Nat → Nat → Nat → Int → Shp → Fl → Il → Prop} {x1 : Nat} {x2 : Nat} {x3 : Nat} {x4 : Int} {Q : Int → Shp → Fl → Il → Prop} {S : Shp} {F : Fl} {I : Il} (HX : SXc G X bS ln scr) (C : CO G RL cL_law 7 X) (M : ML d (some .boolean) X) (hd : 16 ≤ d) (hk23 : ∀ (x1 : Nat) (x2 : Nat) (x3 : Nat) (x4 : Int) (S' : Shp) (F' : Fl) (I' : Il), k23 x1 x2 x3 x4 S' F' I' → J G X (QD X G (qI fun z S' F' I' => Q z S' F' I') noX) 23 [vr (some bS), vr (some x1), vr (some x2), vr (some x3), vi x4, vl 0, vl 0] [] S' F' I') (h : V_L_law_579 G ln scr k23 x1 x2 x3 x4 S F I Q) : J G X (QD X G (qI fun z S' F' I' => Q z S' F' I') noX) 579 [vr (some bS), vr (some x1), vr (some x2), vr (some x3), vi x4, vl 0, vl 0] [] S F I := by
  unfold V_L_law_579 at h
  obtain ⟨d, rfl⟩ : ∃ d9, d = d9 + 1 := ⟨d - 1, by omega⟩
  refine J_aload_n C dL_law_579 rfl rfl ?_
  refine J_aload_n C dL_law_580 rfl rfl ?_
  refine J_iload C dL_law_581 rfl ?_
  refine J_iconst C dL_law_583 (rg_of (by decide)) ?_
  refine J_iadd C dL_law_584 ?_
  obtain ⟨h01, hn2, h⟩ := h
  refine K_sld C HX dL_law_585 h01 hn2 ?_
  refine J_aload_n C dL_law_586 rfl rfl ?_
  refine K_SW C M.1 M.2.1 [vr (some x1), vi (scr (w32 (x4 + 1))), vr (some x3)] [] miw_L_repair wg_613 wg_614 dL_law_587 rfl rfl (by decide) (Nat.le_of_ble_eq_true rfl) (c_L_repair (C.2.2.2.2.2.2.2) (by omega) h) (fun v9 S4 F5 I6 hq9 => ?_) rfl
  clear h
  obtain ⟨z3, rfl, h⟩ := hq9
  refine K_istore C [vr (some bS), vr (some x1), vr (some x2), vr (some x3), vi x4, vi z3, vl 0] dL_law_590 (Nat.le_of_ble_eq_true rfl) rfl ?_
  refine J_aload_n C dL_law_592 rfl rfl ?_
  refine J_aload_n C dL_law_593 rfl rfl ?_
  refine J_iload C dL_law_594 rfl ?_
  refine J_iconst C dL_law_596 (rg_of (by decide)) ?_
  refine J_iadd C dL_law_597 ?_
  obtain ⟨h07, hn8, h⟩ := h
  refine K_sld C HX dL_law_598 h07 hn8 ?_
  obtain ⟨hK9, h⟩ := h
  refine K_VH C M.1 M.2.1 [vi (scr (w32 (x4 + 1)))] [] mi_X9_repair wg_1441 wg_1442 wg_1443 ⟨rfl, by decide⟩ dL_law_599 hK9 rfl rfl (by decide) (Nat.le_of_ble_eq_true rfl) (c_X9_repair (C.2.2.2.2.2.2.2) (by omega) h) (fun v9 S' F11 I12 hq9 => ?_) K_no rfl
  clear h
  obtain ⟨z10, rfl, rfl, h⟩ := hq9
  refine K_istore C [vr (some bS), vr (some x1), vr (some x2), vr (some x3), vi x4, vi z3, vi z10] dL_law_602 (Nat.le_of_ble_eq_true rfl) rfl ?_
  refine J_aload_n C dL_law_604 rfl rfl ?_
  refine K_VH C M.1 M.2.1 [] [] mi_X9_thrown wg_1403 wg_1404 wg_1405 ⟨rfl, by decide⟩ dL_law_605 hK9 rfl rfl (by decide) (Nat.le_of_ble_eq_true rfl) (c_X9_thrown (C.2.2.2.2.2.2.2) (by omega) h) (fun v9 S' F' I' hq9 => ?_) K_no rfl
  clear h
  obtain ⟨z13, rfl, rfl, rfl, rfl, h⟩ := hq9
  refine J_iload C dL_law_608 rfl ?_
  refine J_icmp_eq C dL_law_610 (tgt := 615) rfl (fun c610 => ?_) (fun c610 => ?_)
  · have h := h.1 c610
    refine J_iload C dL_law_615 rfl ?_
    refine J_if_ne C dL_law_617 (tgt := 632) rfl (fun c617 => ?_) (fun c617 => ?_)
    · have h := h.1 c617
      refine J_less [vr (some bS), vr (some x1), vr (some x2), vr (some x3), vi x4, vl 0, vl 0] (by unfold lessL; simp [lessL]) ?_
      exact S_L_law_632 HX C M (by omega) hk23 h
    · have h := h.2 c617
      refine J_aload_n C dL_law_620 rfl rfl ?_
      refine J_iconst C dL_law_621 (rg_of (by decide)) ?_
      obtain ⟨hK14, h⟩ := h
      obtain ⟨h015, hn16, h⟩ := h
      refine J_lald C dL_law_622 hK14 h015 hn16 ?_
      refine J_iload C dL_law_623 rfl ?_
      refine J_i2l C dL_law_625 ?_
      refine J_lcmp C dL_law_626 ?_
      refine J_if_eq C dL_law_627 (tgt := 632) rfl (fun c627 => ?_) (fun c627 => ?_)
      · have h := h.1 c627
        refine J_less [vr (some bS), vr (some x1), vr (some x2), vr (some x3), vi x4, vl 0, vl 0] (by unfold lessL; simp [lessL]) ?_
        exact S_L_law_632 HX C M (by omega) hk23 h
      · have h := h.2 c627
        refine J_iconst C dL_law_630 (rg_of (by decide)) ?_
        exact J_zret C dL_law_631 M.2.2.1 (by decide) ⟨_, rfl, h⟩
  · have h := h.2 c610
    refine J_iconst C dL_law_613 (rg_of (by decide)) ?_
    exact J_zret C dL_law_614 M.2.2.1 (by decide) ⟨_, rfl, h⟩
set_option maxRecDepth 20000 in
set_option maxHeartbeats 4000000 in
theorem S_L_law_700 {G : Gp} {X : Xt} {d : Nat} {ln : Int} {scr : Int → Int} {bS : Nat} {k23 : Nat → Nat → Nat → Int → Shp → Fl → Il → Prop} {x1 : Nat} {x2 : Nat} {x3 : Nat} {x4 : Int} {Q : Int → Shp → Fl → Il → Prop} {S : Shp} {F : Fl} {I : Il} (HX : SXc G X bS ln scr) (C : CO G RL cL_law 7 X) (M : ML d (some .boolean) X) (hd : 16 ≤ d) (hk23 : ∀ (x1 : Nat) (x2 : Nat) (x3 : Nat) (x4 : Int) (S' : Shp) (F' : Fl) (I' : Il), k23 x1 x2 x3 x4 S' F' I' → J G X (QD X G (qI fun z S' F' I' => Q z S' F' I') noX) 23 [vr (some bS), vr (some x1), vr (some x2), vr (some x3), vi x4, vl 0, vl 0] [] S' F' I') (h : V_L_law_700 G ln scr k23 x1 x2 x3 x4 S F I Q) : J G X (QD X G (qI fun z S' F' I' => Q z S' F' I') noX) 700 [vr (some bS), vr (some x1), vr (some x2), vr (some x3), vi x4, vl 0, vl 0] [] S F I := by
  unfold V_L_law_700 at h
  refine J_goto C dL_law_700 (tgt := 2846) rfl ?_
  exact S_L_law_2846 HX C M (by omega) hk23 h
set_option maxRecDepth 20000 in
set_option maxHeartbeats 4000000 in
theorem S_L_law_635 {G : Gp} {X : Xt} {d : Nat} {ln : Int} {scr : Int → Int} {bS : Nat} {k23 : Nat → Nat → Nat → Int → Shp → Fl → Il → Prop} {x1 : Nat} {x2 : Nat} {x3 : Nat} {x4 : Int} {Q : Int → Shp → Fl → Il → Prop} {S : Shp} {F : Fl} {I : Il} (HX : SXc G X bS ln scr) (C : CO G RL cL_law 7 X) (M : ML d (some .boolean) X) (hd : 16 ≤ d) (hk23 : ∀ (x1 : Nat) (x2 : Nat) (x3 : Nat) (x4 : Int) (S' : Shp) (F' : Fl) (I' : Il), k23 x1 x2 x3 x4 S' F' I' → J G X (QD X G (qI fun z S' F' I' => Q z S' F' I') noX) 23 [vr (some bS), vr (some x1), vr (some x2), vr (some x3), vi x4, vl 0, vl 0] [] S' F' I') (h : V_L_law_635 G ln scr k23 x1 x2 x3 x4 S F I Q) : J G X (QD X G (qI fun z S' F' I' => Q z S' F' I') noX) 635 [vr (some bS), vr (some x1), vr (some x2), vr (some x3), vi x4, vl 0, vl 0] [] S F I := by
  unfold V_L_law_635 at h
  obtain ⟨d, rfl⟩ : ∃ d9, d = d9 + 1 := ⟨d - 1, by omega⟩
  refine J_aload_n C dL_law_635 rfl rfl ?_
  refine J_aload_n C dL_law_636 rfl rfl ?_
  refine J_iload C dL_law_637 rfl ?_
  refine J_iconst C dL_law_639 (rg_of (by decide)) ?_
  refine J_iadd C dL_law_640 ?_
  obtain ⟨h01, hn2, h⟩ := h
  refine K_sld C HX dL_law_641 h01 hn2 ?_
  refine J_aload_n C dL_law_642 rfl rfl ?_
  refine J_iload C dL_law_643 rfl ?_
  refine J_iconst C dL_law_645 (rg_of (by decide)) ?_
  refine J_iadd C dL_law_646 ?_
  obtain ⟨h03, hn4, h⟩ := h
  refine K_sld C HX dL_law_647 h03 hn4 ?_
  refine J_aload_n C dL_law_648 rfl rfl ?_
  refine K_SW C M.1 M.2.1 [vr (some x1), vi (scr (w32 (x4 + 1))), vi (scr (w32 (x4 + 2))), vr (some x3)] [] miw_L_engine wg_628 wg_629 dL_law_649 rfl rfl (by decide) (Nat.le_of_ble_eq_true rfl) (c_L_engine (C.2.2.2.2.2.2.2) (by omega) h) (fun v9 S6 F7 I8 hq9 => ?_) rfl
  clear h
  obtain ⟨z5, rfl, h⟩ := hq9
  refine K_istore C [vr (some bS), vr (some x1), vr (some x2), vr (some x3), vi x4, vi z5, vl 0] dL_law_652 (Nat.le_of_ble_eq_true rfl) rfl ?_
  refine J_aload_n C dL_law_654 rfl rfl ?_
  refine J_aload_n C dL_law_655 rfl rfl ?_
  refine J_iload C dL_law_656 rfl ?_
  refine J_iconst C dL_law_658 (rg_of (by decide)) ?_
  refine J_iadd C dL_law_659 ?_
  obtain ⟨h09, hn10, h⟩ := h
  refine K_sld C HX dL_law_660 h09 hn10 ?_
  refine J_aload_n C dL_law_661 rfl rfl ?_
  refine J_iload C dL_law_662 rfl ?_
  refine J_iconst C dL_law_664 (rg_of (by decide)) ?_
  refine J_iadd C dL_law_665 ?_
  obtain ⟨h011, hn12, h⟩ := h
  refine K_sld C HX dL_law_666 h011 hn12 ?_
  obtain ⟨hK13, h⟩ := h
  refine K_VH C M.1 M.2.1 [vi (scr (w32 (x4 + 1))), vi (scr (w32 (x4 + 2)))] [] mi_X9_engine wg_1449 wg_1450 wg_1451 ⟨rfl, by decide⟩ dL_law_667 hK13 rfl rfl (by decide) (Nat.le_of_ble_eq_true rfl) (c_X9_engine (C.2.2.2.2.2.2.2) (by omega) h) (fun v9 S' F15 I16 hq9 => ?_) K_no rfl
  clear h
  obtain ⟨z14, rfl, rfl, h⟩ := hq9
  refine K_istore C [vr (some bS), vr (some x1), vr (some x2), vr (some x3), vi x4, vi z5, vi z14] dL_law_670 (Nat.le_of_ble_eq_true rfl) rfl ?_
  refine J_aload_n C dL_law_672 rfl rfl ?_
  refine K_VH C M.1 M.2.1 [] [] mi_X9_thrown wg_1403 wg_1404 wg_1405 ⟨rfl, by decide⟩ dL_law_673 hK13 rfl rfl (by decide) (Nat.le_of_ble_eq_true rfl) (c_X9_thrown (C.2.2.2.2.2.2.2) (by omega) h) (fun v9 S' F' I' hq9 => ?_) K_no rfl
  clear h
  obtain ⟨z17, rfl, rfl, rfl, rfl, h⟩ := hq9
  refine J_iload C dL_law_676 rfl ?_
  refine J_icmp_eq C dL_law_678 (tgt := 683) rfl (fun c678 => ?_) (fun c678 => ?_)
  · have h := h.1 c678
    refine J_iload C dL_law_683 rfl ?_
    refine J_if_ne C dL_law_685 (tgt := 700) rfl (fun c685 => ?_) (fun c685 => ?_)
    · have h := h.1 c685
      refine J_less [vr (some bS), vr (some x1), vr (some x2), vr (some x3), vi x4, vl 0, vl 0] (by unfold lessL; simp [lessL]) ?_
      exact S_L_law_700 HX C M (by omega) hk23 h
    · have h := h.2 c685
      refine J_aload_n C dL_law_688 rfl rfl ?_
      refine J_iconst C dL_law_689 (rg_of (by decide)) ?_
      obtain ⟨hK18, h⟩ := h
      obtain ⟨h019, hn20, h⟩ := h
      refine J_lald C dL_law_690 hK18 h019 hn20 ?_
      refine J_iload C dL_law_691 rfl ?_
      refine J_i2l C dL_law_693 ?_
      refine J_lcmp C dL_law_694 ?_
      refine J_if_eq C dL_law_695 (tgt := 700) rfl (fun c695 => ?_) (fun c695 => ?_)
      · have h := h.1 c695
        refine J_less [vr (some bS), vr (some x1), vr (some x2), vr (some x3), vi x4, vl 0, vl 0] (by unfold lessL; simp [lessL]) ?_
        exact S_L_law_700 HX C M (by omega) hk23 h
      · have h := h.2 c695
        refine J_iconst C dL_law_698 (rg_of (by decide)) ?_
        exact J_zret C dL_law_699 M.2.2.1 (by decide) ⟨_, rfl, h⟩
  · have h := h.2 c678
    refine J_iconst C dL_law_681 (rg_of (by decide)) ?_
    exact J_zret C dL_law_682 M.2.2.1 (by decide) ⟨_, rfl, h⟩
set_option maxRecDepth 20000 in
set_option maxHeartbeats 4000000 in
theorem S_L_law_756 {G : Gp} {X : Xt} {d : Nat} {ln : Int} {scr : Int → Int} {bS : Nat} {k23 : Nat → Nat → Nat → Int → Shp → Fl → Il → Prop} {x1 : Nat} {x2 : Nat} {x3 : Nat} {x4 : Int} {Q : Int → Shp → Fl → Il → Prop} {S : Shp} {F : Fl} {I : Il} (HX : SXc G X bS ln scr) (C : CO G RL cL_law 7 X) (M : ML d (some .boolean) X) (hd : 16 ≤ d) (hk23 : ∀ (x1 : Nat) (x2 : Nat) (x3 : Nat) (x4 : Int) (S' : Shp) (F' : Fl) (I' : Il), k23 x1 x2 x3 x4 S' F' I' → J G X (QD X G (qI fun z S' F' I' => Q z S' F' I') noX) 23 [vr (some bS), vr (some x1), vr (some x2), vr (some x3), vi x4, vl 0, vl 0] [] S' F' I') (h : V_L_law_756 G ln scr k23 x1 x2 x3 x4 S F I Q) : J G X (QD X G (qI fun z S' F' I' => Q z S' F' I') noX) 756 [vr (some bS), vr (some x1), vr (some x2), vr (some x3), vi x4, vl 0, vl 0] [] S F I := by
  unfold V_L_law_756 at h
  refine J_goto C dL_law_756 (tgt := 2846) rfl ?_
  exact S_L_law_2846 HX C M (by omega) hk23 h
set_option maxRecDepth 20000 in
set_option maxHeartbeats 4000000 in
theorem S_L_law_703 {G : Gp} {X : Xt} {d : Nat} {ln : Int} {scr : Int → Int} {bS : Nat} {k23 : Nat → Nat → Nat → Int → Shp → Fl → Il → Prop} {x1 : Nat} {x2 : Nat} {x3 : Nat} {x4 : Int} {Q : Int → Shp → Fl → Il → Prop} {S : Shp} {F : Fl} {I : Il} (HX : SXc G X bS ln scr) (C : CO G RL cL_law 7 X) (M : ML d (some .boolean) X) (hd : 16 ≤ d) (hk23 : ∀ (x1 : Nat) (x2 : Nat) (x3 : Nat) (x4 : Int) (S' : Shp) (F' : Fl) (I' : Il), k23 x1 x2 x3 x4 S' F' I' → J G X (QD X G (qI fun z S' F' I' => Q z S' F' I') noX) 23 [vr (some bS), vr (some x1), vr (some x2), vr (some x3), vi x4, vl 0, vl 0] [] S' F' I') (h : V_L_law_703 G ln scr k23 x1 x2 x3 x4 S F I Q) : J G X (QD X G (qI fun z S' F' I' => Q z S' F' I') noX) 703 [vr (some bS), vr (some x1), vr (some x2), vr (some x3), vi x4, vl 0, vl 0] [] S F I := by
  unfold V_L_law_703 at h
  obtain ⟨d, rfl⟩ : ∃ d9, d = d9 + 1 := ⟨d - 1, by omega⟩
  refine J_aload_n C dL_law_703 rfl rfl ?_
  refine J_aload_n C dL_law_704 rfl rfl ?_
  refine J_iload C dL_law_705 rfl ?_
  refine J_iconst C dL_law_707 (rg_of (by decide)) ?_
  refine J_iadd C dL_law_708 ?_
  obtain ⟨h01, hn2, h⟩ := h
  refine K_sld C HX dL_law_709 h01 hn2 ?_
  refine J_aload_n C dL_law_710 rfl rfl ?_
  refine K_SW C M.1 M.2.1 [vr (some x1), vi (scr (w32 (x4 + 1))), vr (some x3)] [] miw_L_crew wg_654 wg_655 dL_law_711 rfl rfl (by decide) (Nat.le_of_ble_eq_true rfl) (c_L_crew (C.2.2.2.2.2.2.2) (by omega) h) (fun v9 S4 F5 I6 hq9 => ?_) rfl
  clear h
  obtain ⟨z3, rfl, h⟩ := hq9
  refine K_istore C [vr (some bS), vr (some x1), vr (some x2), vr (some x3), vi x4, vi z3, vl 0] dL_law_714 (Nat.le_of_ble_eq_true rfl) rfl ?_
  refine J_aload_n C dL_law_716 rfl rfl ?_
  refine J_aload_n C dL_law_717 rfl rfl ?_
  refine J_iload C dL_law_718 rfl ?_
  refine J_iconst C dL_law_720 (rg_of (by decide)) ?_
  refine J_iadd C dL_law_721 ?_
  obtain ⟨h07, hn8, h⟩ := h
  refine K_sld C HX dL_law_722 h07 hn8 ?_
  obtain ⟨hK9, h⟩ := h
  refine K_VH C M.1 M.2.1 [vi (scr (w32 (x4 + 1)))] [] mi_X9_crew wg_1453 wg_1454 wg_1455 ⟨rfl, by decide⟩ dL_law_723 hK9 rfl rfl (by decide) (Nat.le_of_ble_eq_true rfl) (c_X9_crew (C.2.2.2.2.2.2.2) (by omega) h) (fun v9 S' F11 I12 hq9 => ?_) K_no rfl
  clear h
  obtain ⟨z10, rfl, rfl, h⟩ := hq9
  refine K_istore C [vr (some bS), vr (some x1), vr (some x2), vr (some x3), vi x4, vi z3, vi z10] dL_law_726 (Nat.le_of_ble_eq_true rfl) rfl ?_
  refine J_aload_n C dL_law_728 rfl rfl ?_
  refine K_VH C M.1 M.2.1 [] [] mi_X9_thrown wg_1403 wg_1404 wg_1405 ⟨rfl, by decide⟩ dL_law_729 hK9 rfl rfl (by decide) (Nat.le_of_ble_eq_true rfl) (c_X9_thrown (C.2.2.2.2.2.2.2) (by omega) h) (fun v9 S' F' I' hq9 => ?_) K_no rfl
  clear h
  obtain ⟨z13, rfl, rfl, rfl, rfl, h⟩ := hq9
  refine J_iload C dL_law_732 rfl ?_
  refine J_icmp_eq C dL_law_734 (tgt := 739) rfl (fun c734 => ?_) (fun c734 => ?_)
  · have h := h.1 c734
    refine J_iload C dL_law_739 rfl ?_
    refine J_if_ne C dL_law_741 (tgt := 756) rfl (fun c741 => ?_) (fun c741 => ?_)
    · have h := h.1 c741
      refine J_less [vr (some bS), vr (some x1), vr (some x2), vr (some x3), vi x4, vl 0, vl 0] (by unfold lessL; simp [lessL]) ?_
      exact S_L_law_756 HX C M (by omega) hk23 h
    · have h := h.2 c741
      refine J_aload_n C dL_law_744 rfl rfl ?_
      refine J_iconst C dL_law_745 (rg_of (by decide)) ?_
      obtain ⟨hK14, h⟩ := h
      obtain ⟨h015, hn16, h⟩ := h
      refine J_lald C dL_law_746 hK14 h015 hn16 ?_
      refine J_iload C dL_law_747 rfl ?_
      refine J_i2l C dL_law_749 ?_
      refine J_lcmp C dL_law_750 ?_
      refine J_if_eq C dL_law_751 (tgt := 756) rfl (fun c751 => ?_) (fun c751 => ?_)
      · have h := h.1 c751
        refine J_less [vr (some bS), vr (some x1), vr (some x2), vr (some x3), vi x4, vl 0, vl 0] (by unfold lessL; simp [lessL]) ?_
        exact S_L_law_756 HX C M (by omega) hk23 h
      · have h := h.2 c751
        refine J_iconst C dL_law_754 (rg_of (by decide)) ?_
        exact J_zret C dL_law_755 M.2.2.1 (by decide) ⟨_, rfl, h⟩
  · have h := h.2 c734
    refine J_iconst C dL_law_737 (rg_of (by decide)) ?_
    exact J_zret C dL_law_738 M.2.2.1 (by decide) ⟨_, rfl, h⟩
set_option maxRecDepth 20000 in
set_option maxHeartbeats 4000000 in
theorem S_L_law_824 {G : Gp} {X : Xt} {d : Nat} {ln : Int} {scr : Int → Int} {bS : Nat} {k23 : Nat → Nat → Nat → Int → Shp → Fl → Il → Prop} {x1 : Nat} {x2 : Nat} {x3 : Nat} {x4 : Int} {Q : Int → Shp → Fl → Il → Prop} {S : Shp} {F : Fl} {I : Il} (HX : SXc G X bS ln scr) (C : CO G RL cL_law 7 X) (M : ML d (some .boolean) X) (hd : 16 ≤ d) (hk23 : ∀ (x1 : Nat) (x2 : Nat) (x3 : Nat) (x4 : Int) (S' : Shp) (F' : Fl) (I' : Il), k23 x1 x2 x3 x4 S' F' I' → J G X (QD X G (qI fun z S' F' I' => Q z S' F' I') noX) 23 [vr (some bS), vr (some x1), vr (some x2), vr (some x3), vi x4, vl 0, vl 0] [] S' F' I') (h : V_L_law_824 G ln scr k23 x1 x2 x3 x4 S F I Q) : J G X (QD X G (qI fun z S' F' I' => Q z S' F' I') noX) 824 [vr (some bS), vr (some x1), vr (some x2), vr (some x3), vi x4, vl 0, vl 0] [] S F I := by
  unfold V_L_law_824 at h
  refine J_goto C dL_law_824 (tgt := 2846) rfl ?_
  exact S_L_law_2846 HX C M (by omega) hk23 h
set_option maxRecDepth 20000 in
set_option maxHeartbeats 4000000 in
theorem S_L_law_759 {G : Gp} {X : Xt} {d : Nat} {ln : Int} {scr : Int → Int} {bS : Nat} {k23 : Nat → Nat → Nat → Int → Shp → Fl → Il → Prop} {x1 : Nat} {x2 : Nat} {x3 : Nat} {x4 : Int} {Q : Int → Shp → Fl → Il → Prop} {S : Shp} {F : Fl} {I : Il} (HX : SXc G X bS ln scr) (C : CO G RL cL_law 7 X) (M : ML d (some .boolean) X) (hd : 16 ≤ d) (hk23 : ∀ (x1 : Nat) (x2 : Nat) (x3 : Nat) (x4 : Int) (S' : Shp) (F' : Fl) (I' : Il), k23 x1 x2 x3 x4 S' F' I' → J G X (QD X G (qI fun z S' F' I' => Q z S' F' I') noX) 23 [vr (some bS), vr (some x1), vr (some x2), vr (some x3), vi x4, vl 0, vl 0] [] S' F' I') (h : V_L_law_759 G ln scr k23 x1 x2 x3 x4 S F I Q) : J G X (QD X G (qI fun z S' F' I' => Q z S' F' I') noX) 759 [vr (some bS), vr (some x1), vr (some x2), vr (some x3), vi x4, vl 0, vl 0] [] S F I := by
  unfold V_L_law_759 at h
  obtain ⟨d, rfl⟩ : ∃ d9, d = d9 + 1 := ⟨d - 1, by omega⟩
  refine J_aload_n C dL_law_759 rfl rfl ?_
  refine J_aload_n C dL_law_760 rfl rfl ?_
  refine J_iload C dL_law_761 rfl ?_
  refine J_iconst C dL_law_763 (rg_of (by decide)) ?_
  refine J_iadd C dL_law_764 ?_
  obtain ⟨h01, hn2, h⟩ := h
  refine K_sld C HX dL_law_765 h01 hn2 ?_
  refine J_aload_n C dL_law_766 rfl rfl ?_
  refine J_iload C dL_law_767 rfl ?_
  refine J_iconst C dL_law_769 (rg_of (by decide)) ?_
  refine J_iadd C dL_law_770 ?_
  obtain ⟨h03, hn4, h⟩ := h
  refine K_sld C HX dL_law_771 h03 hn4 ?_
  refine J_aload_n C dL_law_772 rfl rfl ?_
  refine K_SW C M.1 M.2.1 [vr (some x1), vi (scr (w32 (x4 + 1))), vi (scr (w32 (x4 + 2))), vr (some x3)] [] miw_L_learn wg_688 wg_689 dL_law_773 rfl rfl (by decide) (Nat.le_of_ble_eq_true rfl) (c_L_learn (C.2.2.2.2.2.2.2) (by omega) h) (fun v9 S6 F7 I8 hq9 => ?_) rfl
  clear h
  obtain ⟨z5, rfl, h⟩ := hq9
  refine K_istore C [vr (some bS), vr (some x1), vr (some x2), vr (some x3), vi x4, vi z5, vl 0] dL_law_776 (Nat.le_of_ble_eq_true rfl) rfl ?_
  refine J_aload_n C dL_law_778 rfl rfl ?_
  refine J_aload_n C dL_law_779 rfl rfl ?_
  refine J_iload C dL_law_780 rfl ?_
  refine J_iconst C dL_law_782 (rg_of (by decide)) ?_
  refine J_iadd C dL_law_783 ?_
  obtain ⟨h09, hn10, h⟩ := h
  refine K_sld C HX dL_law_784 h09 hn10 ?_
  refine J_aload_n C dL_law_785 rfl rfl ?_
  refine J_iload C dL_law_786 rfl ?_
  refine J_iconst C dL_law_788 (rg_of (by decide)) ?_
  refine J_iadd C dL_law_789 ?_
  obtain ⟨h011, hn12, h⟩ := h
  refine K_sld C HX dL_law_790 h011 hn12 ?_
  obtain ⟨hK13, h⟩ := h
  refine K_VH C M.1 M.2.1 [vi (scr (w32 (x4 + 1))), vi (scr (w32 (x4 + 2)))] [] mi_X9_learn wg_1457 wg_1458 wg_1459 ⟨rfl, by decide⟩ dL_law_791 hK13 rfl rfl (by decide) (Nat.le_of_ble_eq_true rfl) (c_X9_learn (C.2.2.2.2.2.2.2) (by omega) h) (fun v9 S' F15 I16 hq9 => ?_) K_no rfl
  clear h
  obtain ⟨z14, rfl, rfl, h⟩ := hq9
  refine K_istore C [vr (some bS), vr (some x1), vr (some x2), vr (some x3), vi x4, vi z5, vi z14] dL_law_794 (Nat.le_of_ble_eq_true rfl) rfl ?_
  refine J_aload_n C dL_law_796 rfl rfl ?_
  refine K_VH C M.1 M.2.1 [] [] mi_X9_thrown wg_1403 wg_1404 wg_1405 ⟨rfl, by decide⟩ dL_law_797 hK13 rfl rfl (by decide) (Nat.le_of_ble_eq_true rfl) (c_X9_thrown (C.2.2.2.2.2.2.2) (by omega) h) (fun v9 S' F' I' hq9 => ?_) K_no rfl
  clear h
  obtain ⟨z17, rfl, rfl, rfl, rfl, h⟩ := hq9
  refine J_iload C dL_law_800 rfl ?_
  refine J_icmp_eq C dL_law_802 (tgt := 807) rfl (fun c802 => ?_) (fun c802 => ?_)
  · have h := h.1 c802
    refine J_iload C dL_law_807 rfl ?_
    refine J_if_ne C dL_law_809 (tgt := 824) rfl (fun c809 => ?_) (fun c809 => ?_)
    · have h := h.1 c809
      refine J_less [vr (some bS), vr (some x1), vr (some x2), vr (some x3), vi x4, vl 0, vl 0] (by unfold lessL; simp [lessL]) ?_
      exact S_L_law_824 HX C M (by omega) hk23 h
    · have h := h.2 c809
      refine J_aload_n C dL_law_812 rfl rfl ?_
      refine J_iconst C dL_law_813 (rg_of (by decide)) ?_
      obtain ⟨hK18, h⟩ := h
      obtain ⟨h019, hn20, h⟩ := h
      refine J_lald C dL_law_814 hK18 h019 hn20 ?_
      refine J_iload C dL_law_815 rfl ?_
      refine J_i2l C dL_law_817 ?_
      refine J_lcmp C dL_law_818 ?_
      refine J_if_eq C dL_law_819 (tgt := 824) rfl (fun c819 => ?_) (fun c819 => ?_)
      · have h := h.1 c819
        refine J_less [vr (some bS), vr (some x1), vr (some x2), vr (some x3), vi x4, vl 0, vl 0] (by unfold lessL; simp [lessL]) ?_
        exact S_L_law_824 HX C M (by omega) hk23 h
      · have h := h.2 c819
        refine J_iconst C dL_law_822 (rg_of (by decide)) ?_
        exact J_zret C dL_law_823 M.2.2.1 (by decide) ⟨_, rfl, h⟩
  · have h := h.2 c802
    refine J_iconst C dL_law_805 (rg_of (by decide)) ?_
    exact J_zret C dL_law_806 M.2.2.1 (by decide) ⟨_, rfl, h⟩
set_option maxRecDepth 20000 in
set_option maxHeartbeats 4000000 in
theorem S_L_law_880 {G : Gp} {X : Xt} {d : Nat} {ln : Int} {scr : Int → Int} {bS : Nat} {k23 : Nat → Nat → Nat → Int → Shp → Fl → Il → Prop} {x1 : Nat} {x2 : Nat} {x3 : Nat} {x4 : Int} {Q : Int → Shp → Fl → Il → Prop} {S : Shp} {F : Fl} {I : Il} (HX : SXc G X bS ln scr) (C : CO G RL cL_law 7 X) (M : ML d (some .boolean) X) (hd : 16 ≤ d) (hk23 : ∀ (x1 : Nat) (x2 : Nat) (x3 : Nat) (x4 : Int) (S' : Shp) (F' : Fl) (I' : Il), k23 x1 x2 x3 x4 S' F' I' → J G X (QD X G (qI fun z S' F' I' => Q z S' F' I') noX) 23 [vr (some bS), vr (some x1), vr (some x2), vr (some x3), vi x4, vl 0, vl 0] [] S' F' I') (h : V_L_law_880 G ln scr k23 x1 x2 x3 x4 S F I Q) : J G X (QD X G (qI fun z S' F' I' => Q z S' F' I') noX) 880 [vr (some bS), vr (some x1), vr (some x2), vr (some x3), vi x4, vl 0, vl 0] [] S F I := by
  unfold V_L_law_880 at h
  refine J_goto C dL_law_880 (tgt := 2846) rfl ?_
  exact S_L_law_2846 HX C M (by omega) hk23 h
set_option maxRecDepth 20000 in
set_option maxHeartbeats 4000000 in
theorem S_L_law_827 {G : Gp} {X : Xt} {d : Nat} {ln : Int} {scr : Int → Int} {bS : Nat} {k23 : Nat → Nat → Nat → Int → Shp → Fl → Il → Prop} {x1 : Nat} {x2 : Nat} {x3 : Nat} {x4 : Int} {Q : Int → Shp → Fl → Il → Prop} {S : Shp} {F : Fl} {I : Il} (HX : SXc G X bS ln scr) (C : CO G RL cL_law 7 X) (M : ML d (some .boolean) X) (hd : 16 ≤ d) (hk23 : ∀ (x1 : Nat) (x2 : Nat) (x3 : Nat) (x4 : Int) (S' : Shp) (F' : Fl) (I' : Il), k23 x1 x2 x3 x4 S' F' I' → J G X (QD X G (qI fun z S' F' I' => Q z S' F' I') noX) 23 [vr (some bS), vr (some x1), vr (some x2), vr (some x3), vi x4, vl 0, vl 0] [] S' F' I') (h : V_L_law_827 G ln scr k23 x1 x2 x3 x4 S F I Q) : J G X (QD X G (qI fun z S' F' I' => Q z S' F' I') noX) 827 [vr (some bS), vr (some x1), vr (some x2), vr (some x3), vi x4, vl 0, vl 0] [] S F I := by
  unfold V_L_law_827 at h
  obtain ⟨d, rfl⟩ : ∃ d9, d = d9 + 1 := ⟨d - 1, by omega⟩
  refine J_aload_n C dL_law_827 rfl rfl ?_
  refine J_aload_n C dL_law_828 rfl rfl ?_
  refine J_iload C dL_law_829 rfl ?_
  refine J_iconst C dL_law_831 (rg_of (by decide)) ?_
  refine J_iadd C dL_law_832 ?_
  obtain ⟨h01, hn2, h⟩ := h
  refine K_sld C HX dL_law_833 h01 hn2 ?_
  refine J_aload_n C dL_law_834 rfl rfl ?_
  refine K_SW C M.1 M.2.1 [vr (some x1), vi (scr (w32 (x4 + 1))), vr (some x3)] [] miw_L_rest wg_709 wg_710 dL_law_835 rfl rfl (by decide) (Nat.le_of_ble_eq_true rfl) (c_L_rest (C.2.2.2.2.2.2.2) (by omega) h) (fun v9 S4 F5 I6 hq9 => ?_) rfl
  clear h
  obtain ⟨z3, rfl, h⟩ := hq9
  refine K_istore C [vr (some bS), vr (some x1), vr (some x2), vr (some x3), vi x4, vi z3, vl 0] dL_law_838 (Nat.le_of_ble_eq_true rfl) rfl ?_
  refine J_aload_n C dL_law_840 rfl rfl ?_
  refine J_aload_n C dL_law_841 rfl rfl ?_
  refine J_iload C dL_law_842 rfl ?_
  refine J_iconst C dL_law_844 (rg_of (by decide)) ?_
  refine J_iadd C dL_law_845 ?_
  obtain ⟨h07, hn8, h⟩ := h
  refine K_sld C HX dL_law_846 h07 hn8 ?_
  obtain ⟨hK9, h⟩ := h
  refine K_VH C M.1 M.2.1 [vi (scr (w32 (x4 + 1)))] [] mi_X9_rest wg_1465 wg_1466 wg_1467 ⟨rfl, by decide⟩ dL_law_847 hK9 rfl rfl (by decide) (Nat.le_of_ble_eq_true rfl) (c_X9_rest (C.2.2.2.2.2.2.2) (by omega) h) (fun v9 S' F11 I12 hq9 => ?_) K_no rfl
  clear h
  obtain ⟨z10, rfl, rfl, h⟩ := hq9
  refine K_istore C [vr (some bS), vr (some x1), vr (some x2), vr (some x3), vi x4, vi z3, vi z10] dL_law_850 (Nat.le_of_ble_eq_true rfl) rfl ?_
  refine J_aload_n C dL_law_852 rfl rfl ?_
  refine K_VH C M.1 M.2.1 [] [] mi_X9_thrown wg_1403 wg_1404 wg_1405 ⟨rfl, by decide⟩ dL_law_853 hK9 rfl rfl (by decide) (Nat.le_of_ble_eq_true rfl) (c_X9_thrown (C.2.2.2.2.2.2.2) (by omega) h) (fun v9 S' F' I' hq9 => ?_) K_no rfl
  clear h
  obtain ⟨z13, rfl, rfl, rfl, rfl, h⟩ := hq9
  refine J_iload C dL_law_856 rfl ?_
  refine J_icmp_eq C dL_law_858 (tgt := 863) rfl (fun c858 => ?_) (fun c858 => ?_)
  · have h := h.1 c858
    refine J_iload C dL_law_863 rfl ?_
    refine J_if_ne C dL_law_865 (tgt := 880) rfl (fun c865 => ?_) (fun c865 => ?_)
    · have h := h.1 c865
      refine J_less [vr (some bS), vr (some x1), vr (some x2), vr (some x3), vi x4, vl 0, vl 0] (by unfold lessL; simp [lessL]) ?_
      exact S_L_law_880 HX C M (by omega) hk23 h
    · have h := h.2 c865
      refine J_aload_n C dL_law_868 rfl rfl ?_
      refine J_iconst C dL_law_869 (rg_of (by decide)) ?_
      obtain ⟨hK14, h⟩ := h
      obtain ⟨h015, hn16, h⟩ := h
      refine J_lald C dL_law_870 hK14 h015 hn16 ?_
      refine J_iload C dL_law_871 rfl ?_
      refine J_i2l C dL_law_873 ?_
      refine J_lcmp C dL_law_874 ?_
      refine J_if_eq C dL_law_875 (tgt := 880) rfl (fun c875 => ?_) (fun c875 => ?_)
      · have h := h.1 c875
        refine J_less [vr (some bS), vr (some x1), vr (some x2), vr (some x3), vi x4, vl 0, vl 0] (by unfold lessL; simp [lessL]) ?_
        exact S_L_law_880 HX C M (by omega) hk23 h
      · have h := h.2 c875
        refine J_iconst C dL_law_878 (rg_of (by decide)) ?_
        exact J_zret C dL_law_879 M.2.2.1 (by decide) ⟨_, rfl, h⟩
  · have h := h.2 c858
    refine J_iconst C dL_law_861 (rg_of (by decide)) ?_
    exact J_zret C dL_law_862 M.2.2.1 (by decide) ⟨_, rfl, h⟩
set_option maxRecDepth 20000 in
set_option maxHeartbeats 4000000 in
theorem S_L_law_936 {G : Gp} {X : Xt} {d : Nat} {ln : Int} {scr : Int → Int} {bS : Nat} {k23 : Nat → Nat → Nat → Int → Shp → Fl → Il → Prop} {x1 : Nat} {x2 : Nat} {x3 : Nat} {x4 : Int} {Q : Int → Shp → Fl → Il → Prop} {S : Shp} {F : Fl} {I : Il} (HX : SXc G X bS ln scr) (C : CO G RL cL_law 7 X) (M : ML d (some .boolean) X) (hd : 16 ≤ d) (hk23 : ∀ (x1 : Nat) (x2 : Nat) (x3 : Nat) (x4 : Int) (S' : Shp) (F' : Fl) (I' : Il), k23 x1 x2 x3 x4 S' F' I' → J G X (QD X G (qI fun z S' F' I' => Q z S' F' I') noX) 23 [vr (some bS), vr (some x1), vr (some x2), vr (some x3), vi x4, vl 0, vl 0] [] S' F' I') (h : V_L_law_936 G ln scr k23 x1 x2 x3 x4 S F I Q) : J G X (QD X G (qI fun z S' F' I' => Q z S' F' I') noX) 936 [vr (some bS), vr (some x1), vr (some x2), vr (some x3), vi x4, vl 0, vl 0] [] S F I := by
  unfold V_L_law_936 at h
  refine J_goto C dL_law_936 (tgt := 2846) rfl ?_
  exact S_L_law_2846 HX C M (by omega) hk23 h
set_option maxRecDepth 20000 in
set_option maxHeartbeats 4000000 in
theorem S_L_law_883 {G : Gp} {X : Xt} {d : Nat} {ln : Int} {scr : Int → Int} {bS : Nat} {k23 : Nat → Nat → Nat → Int → Shp → Fl → Il → Prop} {x1 : Nat} {x2 : Nat} {x3 : Nat} {x4 : Int} {Q : Int → Shp → Fl → Il → Prop} {S : Shp} {F : Fl} {I : Il} (HX : SXc G X bS ln scr) (C : CO G RL cL_law 7 X) (M : ML d (some .boolean) X) (hd : 16 ≤ d) (hk23 : ∀ (x1 : Nat) (x2 : Nat) (x3 : Nat) (x4 : Int) (S' : Shp) (F' : Fl) (I' : Il), k23 x1 x2 x3 x4 S' F' I' → J G X (QD X G (qI fun z S' F' I' => Q z S' F' I') noX) 23 [vr (some bS), vr (some x1), vr (some x2), vr (some x3), vi x4, vl 0, vl 0] [] S' F' I') (h : V_L_law_883 G ln scr k23 x1 x2 x3 x4 S F I Q) : J G X (QD X G (qI fun z S' F' I' => Q z S' F' I') noX) 883 [vr (some bS), vr (some x1), vr (some x2), vr (some x3), vi x4, vl 0, vl 0] [] S F I := by
  unfold V_L_law_883 at h
  obtain ⟨d, rfl⟩ : ∃ d9, d = d9 + 1 := ⟨d - 1, by omega⟩
  refine J_aload_n C dL_law_883 rfl rfl ?_
  refine J_aload_n C dL_law_884 rfl rfl ?_
  refine J_iload C dL_law_885 rfl ?_
  refine J_iconst C dL_law_887 (rg_of (by decide)) ?_
  refine J_iadd C dL_law_888 ?_
  obtain ⟨h01, hn2, h⟩ := h
  refine K_sld C HX dL_law_889 h01 hn2 ?_
  refine J_aload_n C dL_law_890 rfl rfl ?_
  refine K_SW C M.1 M.2.1 [vr (some x1), vi (scr (w32 (x4 + 1))), vr (some x3)] [] miw_L_car wg_733 wg_734 dL_law_891 rfl rfl (by decide) (Nat.le_of_ble_eq_true rfl) (c_L_car (C.2.2.2.2.2.2.2) (by omega) h) (fun v9 S4 F5 I6 hq9 => ?_) rfl
  clear h
  obtain ⟨z3, rfl, h⟩ := hq9
  refine K_istore C [vr (some bS), vr (some x1), vr (some x2), vr (some x3), vi x4, vi z3, vl 0] dL_law_894 (Nat.le_of_ble_eq_true rfl) rfl ?_
  refine J_aload_n C dL_law_896 rfl rfl ?_
  refine J_aload_n C dL_law_897 rfl rfl ?_
  refine J_iload C dL_law_898 rfl ?_
  refine J_iconst C dL_law_900 (rg_of (by decide)) ?_
  refine J_iadd C dL_law_901 ?_
  obtain ⟨h07, hn8, h⟩ := h
  refine K_sld C HX dL_law_902 h07 hn8 ?_
  obtain ⟨hK9, h⟩ := h
  refine K_VH C M.1 M.2.1 [vi (scr (w32 (x4 + 1)))] [] mi_X9_car wg_1477 wg_1478 wg_1479 ⟨rfl, by decide⟩ dL_law_903 hK9 rfl rfl (by decide) (Nat.le_of_ble_eq_true rfl) (c_X9_car (C.2.2.2.2.2.2.2) (by omega) h) (fun v9 S' F11 I12 hq9 => ?_) K_no rfl
  clear h
  obtain ⟨z10, rfl, rfl, h⟩ := hq9
  refine K_istore C [vr (some bS), vr (some x1), vr (some x2), vr (some x3), vi x4, vi z3, vi z10] dL_law_906 (Nat.le_of_ble_eq_true rfl) rfl ?_
  refine J_aload_n C dL_law_908 rfl rfl ?_
  refine K_VH C M.1 M.2.1 [] [] mi_X9_thrown wg_1403 wg_1404 wg_1405 ⟨rfl, by decide⟩ dL_law_909 hK9 rfl rfl (by decide) (Nat.le_of_ble_eq_true rfl) (c_X9_thrown (C.2.2.2.2.2.2.2) (by omega) h) (fun v9 S' F' I' hq9 => ?_) K_no rfl
  clear h
  obtain ⟨z13, rfl, rfl, rfl, rfl, h⟩ := hq9
  refine J_iload C dL_law_912 rfl ?_
  refine J_icmp_eq C dL_law_914 (tgt := 919) rfl (fun c914 => ?_) (fun c914 => ?_)
  · have h := h.1 c914
    refine J_iload C dL_law_919 rfl ?_
    refine J_if_ne C dL_law_921 (tgt := 936) rfl (fun c921 => ?_) (fun c921 => ?_)
    · have h := h.1 c921
      refine J_less [vr (some bS), vr (some x1), vr (some x2), vr (some x3), vi x4, vl 0, vl 0] (by unfold lessL; simp [lessL]) ?_
      exact S_L_law_936 HX C M (by omega) hk23 h
    · have h := h.2 c921
      refine J_aload_n C dL_law_924 rfl rfl ?_
      refine J_iconst C dL_law_925 (rg_of (by decide)) ?_
      obtain ⟨hK14, h⟩ := h
      obtain ⟨h015, hn16, h⟩ := h
      refine J_lald C dL_law_926 hK14 h015 hn16 ?_
      refine J_iload C dL_law_927 rfl ?_
      refine J_i2l C dL_law_929 ?_
      refine J_lcmp C dL_law_930 ?_
      refine J_if_eq C dL_law_931 (tgt := 936) rfl (fun c931 => ?_) (fun c931 => ?_)
      · have h := h.1 c931
        refine J_less [vr (some bS), vr (some x1), vr (some x2), vr (some x3), vi x4, vl 0, vl 0] (by unfold lessL; simp [lessL]) ?_
        exact S_L_law_936 HX C M (by omega) hk23 h
      · have h := h.2 c931
        refine J_iconst C dL_law_934 (rg_of (by decide)) ?_
        exact J_zret C dL_law_935 M.2.2.1 (by decide) ⟨_, rfl, h⟩
  · have h := h.2 c914
    refine J_iconst C dL_law_917 (rg_of (by decide)) ?_
    exact J_zret C dL_law_918 M.2.2.1 (by decide) ⟨_, rfl, h⟩
set_option maxRecDepth 20000 in
set_option maxHeartbeats 4000000 in
theorem S_L_law_992 {G : Gp} {X : Xt} {d : Nat} {ln : Int} {scr : Int → Int} {bS : Nat} {k23 : Nat → Nat → Nat → Int → Shp → Fl → Il → Prop} {x1 : Nat} {x2 : Nat} {x3 : Nat} {x4 : Int} {Q : Int → Shp → Fl → Il → Prop} {S : Shp} {F : Fl} {I : Il} (HX : SXc G X bS ln scr) (C : CO G RL cL_law 7 X) (M : ML d (some .boolean) X) (hd : 16 ≤ d) (hk23 : ∀ (x1 : Nat) (x2 : Nat) (x3 : Nat) (x4 : Int) (S' : Shp) (F' : Fl) (I' : Il), k23 x1 x2 x3 x4 S' F' I' → J G X (QD X G (qI fun z S' F' I' => Q z S' F' I') noX) 23 [vr (some bS), vr (some x1), vr (some x2), vr (some x3), vi x4, vl 0, vl 0] [] S' F' I') (h : V_L_law_992 G ln scr k23 x1 x2 x3 x4 S F I Q) : J G X (QD X G (qI fun z S' F' I' => Q z S' F' I') noX) 992 [vr (some bS), vr (some x1), vr (some x2), vr (some x3), vi x4, vl 0, vl 0] [] S F I := by
  unfold V_L_law_992 at h
  refine J_goto C dL_law_992 (tgt := 2846) rfl ?_
  exact S_L_law_2846 HX C M (by omega) hk23 h
set_option maxRecDepth 20000 in
set_option maxHeartbeats 4000000 in
theorem S_L_law_939 {G : Gp} {X : Xt} {d : Nat} {ln : Int} {scr : Int → Int} {bS : Nat} {k23 : Nat → Nat → Nat → Int → Shp → Fl → Il → Prop} {x1 : Nat} {x2 : Nat} {x3 : Nat} {x4 : Int} {Q : Int → Shp → Fl → Il → Prop} {S : Shp} {F : Fl} {I : Il} (HX : SXc G X bS ln scr) (C : CO G RL cL_law 7 X) (M : ML d (some .boolean) X) (hd : 16 ≤ d) (hk23 : ∀ (x1 : Nat) (x2 : Nat) (x3 : Nat) (x4 : Int) (S' : Shp) (F' : Fl) (I' : Il), k23 x1 x2 x3 x4 S' F' I' → J G X (QD X G (qI fun z S' F' I' => Q z S' F' I') noX) 23 [vr (some bS), vr (some x1), vr (some x2), vr (some x3), vi x4, vl 0, vl 0] [] S' F' I') (h : V_L_law_939 G ln scr k23 x1 x2 x3 x4 S F I Q) : J G X (QD X G (qI fun z S' F' I' => Q z S' F' I') noX) 939 [vr (some bS), vr (some x1), vr (some x2), vr (some x3), vi x4, vl 0, vl 0] [] S F I := by
  unfold V_L_law_939 at h
  obtain ⟨d, rfl⟩ : ∃ d9, d = d9 + 1 := ⟨d - 1, by omega⟩
  refine J_aload_n C dL_law_939 rfl rfl ?_
  refine J_aload_n C dL_law_940 rfl rfl ?_
  refine J_iload C dL_law_941 rfl ?_
  refine J_iconst C dL_law_943 (rg_of (by decide)) ?_
  refine J_iadd C dL_law_944 ?_
  obtain ⟨h01, hn2, h⟩ := h
  refine K_sld C HX dL_law_945 h01 hn2 ?_
  refine J_aload_n C dL_law_946 rfl rfl ?_
  refine K_SW C M.1 M.2.1 [vr (some x1), vi (scr (w32 (x4 + 1))), vr (some x3)] [] miw_L_borrow wg_788 wg_789 dL_law_947 rfl rfl (by decide) (Nat.le_of_ble_eq_true rfl) (c_L_borrow (C.2.2.2.2.2.2.2) (by omega) h) (fun v9 S4 F5 I6 hq9 => ?_) rfl
  clear h
  obtain ⟨z3, rfl, h⟩ := hq9
  refine K_istore C [vr (some bS), vr (some x1), vr (some x2), vr (some x3), vi x4, vi z3, vl 0] dL_law_950 (Nat.le_of_ble_eq_true rfl) rfl ?_
  refine J_aload_n C dL_law_952 rfl rfl ?_
  refine J_aload_n C dL_law_953 rfl rfl ?_
  refine J_iload C dL_law_954 rfl ?_
  refine J_iconst C dL_law_956 (rg_of (by decide)) ?_
  refine J_iadd C dL_law_957 ?_
  obtain ⟨h07, hn8, h⟩ := h
  refine K_sld C HX dL_law_958 h07 hn8 ?_
  obtain ⟨hK9, h⟩ := h
  refine K_VH C M.1 M.2.1 [vi (scr (w32 (x4 + 1)))] [] mi_X9_borrow wg_1489 wg_1490 wg_1491 ⟨rfl, by decide⟩ dL_law_959 hK9 rfl rfl (by decide) (Nat.le_of_ble_eq_true rfl) (c_X9_borrow (C.2.2.2.2.2.2.2) (by omega) h) (fun v9 S' F11 I' hq9 => ?_) K_no rfl
  clear h
  obtain ⟨z10, rfl, rfl, rfl, h⟩ := hq9
  refine K_istore C [vr (some bS), vr (some x1), vr (some x2), vr (some x3), vi x4, vi z3, vi z10] dL_law_962 (Nat.le_of_ble_eq_true rfl) rfl ?_
  refine J_aload_n C dL_law_964 rfl rfl ?_
  refine K_VH C M.1 M.2.1 [] [] mi_X9_thrown wg_1403 wg_1404 wg_1405 ⟨rfl, by decide⟩ dL_law_965 hK9 rfl rfl (by decide) (Nat.le_of_ble_eq_true rfl) (c_X9_thrown (C.2.2.2.2.2.2.2) (by omega) h) (fun v9 S' F' I' hq9 => ?_) K_no rfl
  clear h
  obtain ⟨z12, rfl, rfl, rfl, rfl, h⟩ := hq9
  refine J_iload C dL_law_968 rfl ?_
  refine J_icmp_eq C dL_law_970 (tgt := 975) rfl (fun c970 => ?_) (fun c970 => ?_)
  · have h := h.1 c970
    refine J_iload C dL_law_975 rfl ?_
    refine J_if_ne C dL_law_977 (tgt := 992) rfl (fun c977 => ?_) (fun c977 => ?_)
    · have h := h.1 c977
      refine J_less [vr (some bS), vr (some x1), vr (some x2), vr (some x3), vi x4, vl 0, vl 0] (by unfold lessL; simp [lessL]) ?_
      exact S_L_law_992 HX C M (by omega) hk23 h
    · have h := h.2 c977
      refine J_aload_n C dL_law_980 rfl rfl ?_
      refine J_iconst C dL_law_981 (rg_of (by decide)) ?_
      obtain ⟨hK13, h⟩ := h
      obtain ⟨h014, hn15, h⟩ := h
      refine J_lald C dL_law_982 hK13 h014 hn15 ?_
      refine J_iload C dL_law_983 rfl ?_
      refine J_i2l C dL_law_985 ?_
      refine J_lcmp C dL_law_986 ?_
      refine J_if_eq C dL_law_987 (tgt := 992) rfl (fun c987 => ?_) (fun c987 => ?_)
      · have h := h.1 c987
        refine J_less [vr (some bS), vr (some x1), vr (some x2), vr (some x3), vi x4, vl 0, vl 0] (by unfold lessL; simp [lessL]) ?_
        exact S_L_law_992 HX C M (by omega) hk23 h
      · have h := h.2 c987
        refine J_iconst C dL_law_990 (rg_of (by decide)) ?_
        exact J_zret C dL_law_991 M.2.2.1 (by decide) ⟨_, rfl, h⟩
  · have h := h.2 c970
    refine J_iconst C dL_law_973 (rg_of (by decide)) ?_
    exact J_zret C dL_law_974 M.2.2.1 (by decide) ⟨_, rfl, h⟩
set_option maxRecDepth 20000 in
set_option maxHeartbeats 4000000 in
theorem S_L_law_1048 {G : Gp} {X : Xt} {d : Nat} {ln : Int} {scr : Int → Int} {bS : Nat} {k23 : Nat → Nat → Nat → Int → Shp → Fl → Il → Prop} {x1 : Nat} {x2 : Nat} {x3 : Nat} {x4 : Int} {Q : Int → Shp → Fl → Il → Prop} {S : Shp} {F : Fl} {I : Il} (HX : SXc G X bS ln scr) (C : CO G RL cL_law 7 X) (M : ML d (some .boolean) X) (hd : 16 ≤ d) (hk23 : ∀ (x1 : Nat) (x2 : Nat) (x3 : Nat) (x4 : Int) (S' : Shp) (F' : Fl) (I' : Il), k23 x1 x2 x3 x4 S' F' I' → J G X (QD X G (qI fun z S' F' I' => Q z S' F' I') noX) 23 [vr (some bS), vr (some x1), vr (some x2), vr (some x3), vi x4, vl 0, vl 0] [] S' F' I') (h : V_L_law_1048 G ln scr k23 x1 x2 x3 x4 S F I Q) : J G X (QD X G (qI fun z S' F' I' => Q z S' F' I') noX) 1048 [vr (some bS), vr (some x1), vr (some x2), vr (some x3), vi x4, vl 0, vl 0] [] S F I := by
  unfold V_L_law_1048 at h
  refine J_goto C dL_law_1048 (tgt := 2846) rfl ?_
  exact S_L_law_2846 HX C M (by omega) hk23 h
set_option maxRecDepth 20000 in
set_option maxHeartbeats 4000000 in
theorem S_L_law_995 {G : Gp} {X : Xt} {d : Nat} {ln : Int} {scr : Int → Int} {bS : Nat} {k23 : Nat → Nat → Nat → Int → Shp → Fl → Il → Prop} {x1 : Nat} {x2 : Nat} {x3 : Nat} {x4 : Int} {Q : Int → Shp → Fl → Il → Prop} {S : Shp} {F : Fl} {I : Il} (HX : SXc G X bS ln scr) (C : CO G RL cL_law 7 X) (M : ML d (some .boolean) X) (hd : 16 ≤ d) (hk23 : ∀ (x1 : Nat) (x2 : Nat) (x3 : Nat) (x4 : Int) (S' : Shp) (F' : Fl) (I' : Il), k23 x1 x2 x3 x4 S' F' I' → J G X (QD X G (qI fun z S' F' I' => Q z S' F' I') noX) 23 [vr (some bS), vr (some x1), vr (some x2), vr (some x3), vi x4, vl 0, vl 0] [] S' F' I') (h : V_L_law_995 G ln scr k23 x1 x2 x3 x4 S F I Q) : J G X (QD X G (qI fun z S' F' I' => Q z S' F' I') noX) 995 [vr (some bS), vr (some x1), vr (some x2), vr (some x3), vi x4, vl 0, vl 0] [] S F I := by
  unfold V_L_law_995 at h
  obtain ⟨d, rfl⟩ : ∃ d9, d = d9 + 1 := ⟨d - 1, by omega⟩
  refine J_aload_n C dL_law_995 rfl rfl ?_
  refine J_aload_n C dL_law_996 rfl rfl ?_
  refine J_iload C dL_law_997 rfl ?_
  refine J_iconst C dL_law_999 (rg_of (by decide)) ?_
  refine J_iadd C dL_law_1000 ?_
  obtain ⟨h01, hn2, h⟩ := h
  refine K_sld C HX dL_law_1001 h01 hn2 ?_
  refine J_aload_n C dL_law_1002 rfl rfl ?_
  refine K_SW C M.1 M.2.1 [vr (some x1), vi (scr (w32 (x4 + 1))), vr (some x3)] [] miw_L_repay wg_796 wg_797 dL_law_1003 rfl rfl (by decide) (Nat.le_of_ble_eq_true rfl) (c_L_repay (C.2.2.2.2.2.2.2) (by omega) h) (fun v9 S4 F5 I6 hq9 => ?_) rfl
  clear h
  obtain ⟨z3, rfl, h⟩ := hq9
  refine K_istore C [vr (some bS), vr (some x1), vr (some x2), vr (some x3), vi x4, vi z3, vl 0] dL_law_1006 (Nat.le_of_ble_eq_true rfl) rfl ?_
  refine J_aload_n C dL_law_1008 rfl rfl ?_
  refine J_aload_n C dL_law_1009 rfl rfl ?_
  refine J_iload C dL_law_1010 rfl ?_
  refine J_iconst C dL_law_1012 (rg_of (by decide)) ?_
  refine J_iadd C dL_law_1013 ?_
  obtain ⟨h07, hn8, h⟩ := h
  refine K_sld C HX dL_law_1014 h07 hn8 ?_
  obtain ⟨hK9, h⟩ := h
  refine K_VH C M.1 M.2.1 [vi (scr (w32 (x4 + 1)))] [] mi_X9_repay wg_1494 wg_1495 wg_1496 ⟨rfl, by decide⟩ dL_law_1015 hK9 rfl rfl (by decide) (Nat.le_of_ble_eq_true rfl) (c_X9_repay (C.2.2.2.2.2.2.2) (by omega) h) (fun v9 S' F11 I' hq9 => ?_) K_no rfl
  clear h
  obtain ⟨z10, rfl, rfl, rfl, h⟩ := hq9
  refine K_istore C [vr (some bS), vr (some x1), vr (some x2), vr (some x3), vi x4, vi z3, vi z10] dL_law_1018 (Nat.le_of_ble_eq_true rfl) rfl ?_
  refine J_aload_n C dL_law_1020 rfl rfl ?_
  refine K_VH C M.1 M.2.1 [] [] mi_X9_thrown wg_1403 wg_1404 wg_1405 ⟨rfl, by decide⟩ dL_law_1021 hK9 rfl rfl (by decide) (Nat.le_of_ble_eq_true rfl) (c_X9_thrown (C.2.2.2.2.2.2.2) (by omega) h) (fun v9 S' F' I' hq9 => ?_) K_no rfl
  clear h
  obtain ⟨z12, rfl, rfl, rfl, rfl, h⟩ := hq9
  refine J_iload C dL_law_1024 rfl ?_
  refine J_icmp_eq C dL_law_1026 (tgt := 1031) rfl (fun c1026 => ?_) (fun c1026 => ?_)
  · have h := h.1 c1026
    refine J_iload C dL_law_1031 rfl ?_
    refine J_if_ne C dL_law_1033 (tgt := 1048) rfl (fun c1033 => ?_) (fun c1033 => ?_)
    · have h := h.1 c1033
      refine J_less [vr (some bS), vr (some x1), vr (some x2), vr (some x3), vi x4, vl 0, vl 0] (by unfold lessL; simp [lessL]) ?_
      exact S_L_law_1048 HX C M (by omega) hk23 h
    · have h := h.2 c1033
      refine J_aload_n C dL_law_1036 rfl rfl ?_
      refine J_iconst C dL_law_1037 (rg_of (by decide)) ?_
      obtain ⟨hK13, h⟩ := h
      obtain ⟨h014, hn15, h⟩ := h
      refine J_lald C dL_law_1038 hK13 h014 hn15 ?_
      refine J_iload C dL_law_1039 rfl ?_
      refine J_i2l C dL_law_1041 ?_
      refine J_lcmp C dL_law_1042 ?_
      refine J_if_eq C dL_law_1043 (tgt := 1048) rfl (fun c1043 => ?_) (fun c1043 => ?_)
      · have h := h.1 c1043
        refine J_less [vr (some bS), vr (some x1), vr (some x2), vr (some x3), vi x4, vl 0, vl 0] (by unfold lessL; simp [lessL]) ?_
        exact S_L_law_1048 HX C M (by omega) hk23 h
      · have h := h.2 c1043
        refine J_iconst C dL_law_1046 (rg_of (by decide)) ?_
        exact J_zret C dL_law_1047 M.2.2.1 (by decide) ⟨_, rfl, h⟩
  · have h := h.2 c1026
    refine J_iconst C dL_law_1029 (rg_of (by decide)) ?_
    exact J_zret C dL_law_1030 M.2.2.1 (by decide) ⟨_, rfl, h⟩
set_option maxRecDepth 20000 in
set_option maxHeartbeats 4000000 in
theorem S_L_law_1116 {G : Gp} {X : Xt} {d : Nat} {ln : Int} {scr : Int → Int} {bS : Nat} {k23 : Nat → Nat → Nat → Int → Shp → Fl → Il → Prop} {x1 : Nat} {x2 : Nat} {x3 : Nat} {x4 : Int} {Q : Int → Shp → Fl → Il → Prop} {S : Shp} {F : Fl} {I : Il} (HX : SXc G X bS ln scr) (C : CO G RL cL_law 7 X) (M : ML d (some .boolean) X) (hd : 16 ≤ d) (hk23 : ∀ (x1 : Nat) (x2 : Nat) (x3 : Nat) (x4 : Int) (S' : Shp) (F' : Fl) (I' : Il), k23 x1 x2 x3 x4 S' F' I' → J G X (QD X G (qI fun z S' F' I' => Q z S' F' I') noX) 23 [vr (some bS), vr (some x1), vr (some x2), vr (some x3), vi x4, vl 0, vl 0] [] S' F' I') (h : V_L_law_1116 G ln scr k23 x1 x2 x3 x4 S F I Q) : J G X (QD X G (qI fun z S' F' I' => Q z S' F' I') noX) 1116 [vr (some bS), vr (some x1), vr (some x2), vr (some x3), vi x4, vl 0, vl 0] [] S F I := by
  unfold V_L_law_1116 at h
  refine J_goto C dL_law_1116 (tgt := 2846) rfl ?_
  exact S_L_law_2846 HX C M (by omega) hk23 h
set_option maxRecDepth 20000 in
set_option maxHeartbeats 4000000 in
theorem S_L_law_1051 {G : Gp} {X : Xt} {d : Nat} {ln : Int} {scr : Int → Int} {bS : Nat} {k23 : Nat → Nat → Nat → Int → Shp → Fl → Il → Prop} {x1 : Nat} {x2 : Nat} {x3 : Nat} {x4 : Int} {Q : Int → Shp → Fl → Il → Prop} {S : Shp} {F : Fl} {I : Il} (HX : SXc G X bS ln scr) (C : CO G RL cL_law 7 X) (M : ML d (some .boolean) X) (hd : 16 ≤ d) (hk23 : ∀ (x1 : Nat) (x2 : Nat) (x3 : Nat) (x4 : Int) (S' : Shp) (F' : Fl) (I' : Il), k23 x1 x2 x3 x4 S' F' I' → J G X (QD X G (qI fun z S' F' I' => Q z S' F' I') noX) 23 [vr (some bS), vr (some x1), vr (some x2), vr (some x3), vi x4, vl 0, vl 0] [] S' F' I') (h : V_L_law_1051 G ln scr k23 x1 x2 x3 x4 S F I Q) : J G X (QD X G (qI fun z S' F' I' => Q z S' F' I') noX) 1051 [vr (some bS), vr (some x1), vr (some x2), vr (some x3), vi x4, vl 0, vl 0] [] S F I := by
  unfold V_L_law_1051 at h
  obtain ⟨d, rfl⟩ : ∃ d9, d = d9 + 1 := ⟨d - 1, by omega⟩
  refine J_aload_n C dL_law_1051 rfl rfl ?_
  refine J_aload_n C dL_law_1052 rfl rfl ?_
  refine J_iload C dL_law_1053 rfl ?_
  refine J_iconst C dL_law_1055 (rg_of (by decide)) ?_
  refine J_iadd C dL_law_1056 ?_
  obtain ⟨h01, hn2, h⟩ := h
  refine K_sld C HX dL_law_1057 h01 hn2 ?_
  refine J_aload_n C dL_law_1058 rfl rfl ?_
  refine J_iload C dL_law_1059 rfl ?_
  refine J_iconst C dL_law_1061 (rg_of (by decide)) ?_
  refine J_iadd C dL_law_1062 ?_
  obtain ⟨h03, hn4, h⟩ := h
  refine K_sld C HX dL_law_1063 h03 hn4 ?_
  refine J_aload_n C dL_law_1064 rfl rfl ?_
  refine K_SW C M.1 M.2.1 [vr (some x1), vi (scr (w32 (x4 + 1))), vi (scr (w32 (x4 + 2))), vr (some x3)] [] miw_L_form wg_803 wg_804 dL_law_1065 rfl rfl (by decide) (Nat.le_of_ble_eq_true rfl) (c_L_form (C.2.2.2.2.2.2.2) (by omega) h) (fun v9 S6 F7 I8 hq9 => ?_) rfl
  clear h
  obtain ⟨z5, rfl, h⟩ := hq9
  refine K_istore C [vr (some bS), vr (some x1), vr (some x2), vr (some x3), vi x4, vi z5, vl 0] dL_law_1068 (Nat.le_of_ble_eq_true rfl) rfl ?_
  refine J_aload_n C dL_law_1070 rfl rfl ?_
  refine J_aload_n C dL_law_1071 rfl rfl ?_
  refine J_iload C dL_law_1072 rfl ?_
  refine J_iconst C dL_law_1074 (rg_of (by decide)) ?_
  refine J_iadd C dL_law_1075 ?_
  obtain ⟨h09, hn10, h⟩ := h
  refine K_sld C HX dL_law_1076 h09 hn10 ?_
  refine J_aload_n C dL_law_1077 rfl rfl ?_
  refine J_iload C dL_law_1078 rfl ?_
  refine J_iconst C dL_law_1080 (rg_of (by decide)) ?_
  refine J_iadd C dL_law_1081 ?_
  obtain ⟨h011, hn12, h⟩ := h
  refine K_sld C HX dL_law_1082 h011 hn12 ?_
  obtain ⟨hK13, h⟩ := h
  refine K_VH C M.1 M.2.1 [vi (scr (w32 (x4 + 1))), vi (scr (w32 (x4 + 2)))] [] mi_X9_form wg_1498 wg_1499 wg_1500 ⟨rfl, by decide⟩ dL_law_1083 hK13 rfl rfl (by decide) (Nat.le_of_ble_eq_true rfl) (c_X9_form (C.2.2.2.2.2.2.2) (by omega) h) (fun v9 S' F15 I16 hq9 => ?_) K_no rfl
  clear h
  obtain ⟨z14, rfl, rfl, h⟩ := hq9
  refine K_istore C [vr (some bS), vr (some x1), vr (some x2), vr (some x3), vi x4, vi z5, vi z14] dL_law_1086 (Nat.le_of_ble_eq_true rfl) rfl ?_
  refine J_aload_n C dL_law_1088 rfl rfl ?_
  refine K_VH C M.1 M.2.1 [] [] mi_X9_thrown wg_1403 wg_1404 wg_1405 ⟨rfl, by decide⟩ dL_law_1089 hK13 rfl rfl (by decide) (Nat.le_of_ble_eq_true rfl) (c_X9_thrown (C.2.2.2.2.2.2.2) (by omega) h) (fun v9 S' F' I' hq9 => ?_) K_no rfl
  clear h
  obtain ⟨z17, rfl, rfl, rfl, rfl, h⟩ := hq9
  refine J_iload C dL_law_1092 rfl ?_
  refine J_icmp_eq C dL_law_1094 (tgt := 1099) rfl (fun c1094 => ?_) (fun c1094 => ?_)
  · have h := h.1 c1094
    refine J_iload C dL_law_1099 rfl ?_
    refine J_if_ne C dL_law_1101 (tgt := 1116) rfl (fun c1101 => ?_) (fun c1101 => ?_)
    · have h := h.1 c1101
      refine J_less [vr (some bS), vr (some x1), vr (some x2), vr (some x3), vi x4, vl 0, vl 0] (by unfold lessL; simp [lessL]) ?_
      exact S_L_law_1116 HX C M (by omega) hk23 h
    · have h := h.2 c1101
      refine J_aload_n C dL_law_1104 rfl rfl ?_
      refine J_iconst C dL_law_1105 (rg_of (by decide)) ?_
      obtain ⟨hK18, h⟩ := h
      obtain ⟨h019, hn20, h⟩ := h
      refine J_lald C dL_law_1106 hK18 h019 hn20 ?_
      refine J_iload C dL_law_1107 rfl ?_
      refine J_i2l C dL_law_1109 ?_
      refine J_lcmp C dL_law_1110 ?_
      refine J_if_eq C dL_law_1111 (tgt := 1116) rfl (fun c1111 => ?_) (fun c1111 => ?_)
      · have h := h.1 c1111
        refine J_less [vr (some bS), vr (some x1), vr (some x2), vr (some x3), vi x4, vl 0, vl 0] (by unfold lessL; simp [lessL]) ?_
        exact S_L_law_1116 HX C M (by omega) hk23 h
      · have h := h.2 c1111
        refine J_iconst C dL_law_1114 (rg_of (by decide)) ?_
        exact J_zret C dL_law_1115 M.2.2.1 (by decide) ⟨_, rfl, h⟩
  · have h := h.2 c1094
    refine J_iconst C dL_law_1097 (rg_of (by decide)) ?_
    exact J_zret C dL_law_1098 M.2.2.1 (by decide) ⟨_, rfl, h⟩
set_option maxRecDepth 20000 in
set_option maxHeartbeats 4000000 in
theorem S_L_law_1172 {G : Gp} {X : Xt} {d : Nat} {ln : Int} {scr : Int → Int} {bS : Nat} {k23 : Nat → Nat → Nat → Int → Shp → Fl → Il → Prop} {x1 : Nat} {x2 : Nat} {x3 : Nat} {x4 : Int} {Q : Int → Shp → Fl → Il → Prop} {S : Shp} {F : Fl} {I : Il} (HX : SXc G X bS ln scr) (C : CO G RL cL_law 7 X) (M : ML d (some .boolean) X) (hd : 16 ≤ d) (hk23 : ∀ (x1 : Nat) (x2 : Nat) (x3 : Nat) (x4 : Int) (S' : Shp) (F' : Fl) (I' : Il), k23 x1 x2 x3 x4 S' F' I' → J G X (QD X G (qI fun z S' F' I' => Q z S' F' I') noX) 23 [vr (some bS), vr (some x1), vr (some x2), vr (some x3), vi x4, vl 0, vl 0] [] S' F' I') (h : V_L_law_1172 G ln scr k23 x1 x2 x3 x4 S F I Q) : J G X (QD X G (qI fun z S' F' I' => Q z S' F' I') noX) 1172 [vr (some bS), vr (some x1), vr (some x2), vr (some x3), vi x4, vl 0, vl 0] [] S F I := by
  unfold V_L_law_1172 at h
  refine J_goto C dL_law_1172 (tgt := 2846) rfl ?_
  exact S_L_law_2846 HX C M (by omega) hk23 h
set_option maxRecDepth 20000 in
set_option maxHeartbeats 4000000 in
theorem S_L_law_1119 {G : Gp} {X : Xt} {d : Nat} {ln : Int} {scr : Int → Int} {bS : Nat} {k23 : Nat → Nat → Nat → Int → Shp → Fl → Il → Prop} {x1 : Nat} {x2 : Nat} {x3 : Nat} {x4 : Int} {Q : Int → Shp → Fl → Il → Prop} {S : Shp} {F : Fl} {I : Il} (HX : SXc G X bS ln scr) (C : CO G RL cL_law 7 X) (M : ML d (some .boolean) X) (hd : 16 ≤ d) (hk23 : ∀ (x1 : Nat) (x2 : Nat) (x3 : Nat) (x4 : Int) (S' : Shp) (F' : Fl) (I' : Il), k23 x1 x2 x3 x4 S' F' I' → J G X (QD X G (qI fun z S' F' I' => Q z S' F' I') noX) 23 [vr (some bS), vr (some x1), vr (some x2), vr (some x3), vi x4, vl 0, vl 0] [] S' F' I') (h : V_L_law_1119 G ln scr k23 x1 x2 x3 x4 S F I Q) : J G X (QD X G (qI fun z S' F' I' => Q z S' F' I') noX) 1119 [vr (some bS), vr (some x1), vr (some x2), vr (some x3), vi x4, vl 0, vl 0] [] S F I := by
  unfold V_L_law_1119 at h
  obtain ⟨d, rfl⟩ : ∃ d9, d = d9 + 1 := ⟨d - 1, by omega⟩
  refine J_aload_n C dL_law_1119 rfl rfl ?_
  refine J_aload_n C dL_law_1120 rfl rfl ?_
  refine J_iload C dL_law_1121 rfl ?_
  refine J_iconst C dL_law_1123 (rg_of (by decide)) ?_
  refine J_iadd C dL_law_1124 ?_
  obtain ⟨h01, hn2, h⟩ := h
  refine K_sld C HX dL_law_1125 h01 hn2 ?_
  refine J_aload_n C dL_law_1126 rfl rfl ?_
  refine K_SW C M.1 M.2.1 [vr (some x1), vi (scr (w32 (x4 + 1))), vr (some x3)] [] miw_L_dissolve wg_831 wg_832 dL_law_1127 rfl rfl (by decide) (Nat.le_of_ble_eq_true rfl) (c_L_dissolve (C.2.2.2.2.2.2.2) (by omega) h) (fun v9 S4 F5 I6 hq9 => ?_) rfl
  clear h
  obtain ⟨z3, rfl, h⟩ := hq9
  refine K_istore C [vr (some bS), vr (some x1), vr (some x2), vr (some x3), vi x4, vi z3, vl 0] dL_law_1130 (Nat.le_of_ble_eq_true rfl) rfl ?_
  refine J_aload_n C dL_law_1132 rfl rfl ?_
  refine J_aload_n C dL_law_1133 rfl rfl ?_
  refine J_iload C dL_law_1134 rfl ?_
  refine J_iconst C dL_law_1136 (rg_of (by decide)) ?_
  refine J_iadd C dL_law_1137 ?_
  obtain ⟨h07, hn8, h⟩ := h
  refine K_sld C HX dL_law_1138 h07 hn8 ?_
  obtain ⟨hK9, h⟩ := h
  refine K_VH C M.1 M.2.1 [vi (scr (w32 (x4 + 1)))] [] mi_X9_dissolve wg_1506 wg_1507 wg_1508 ⟨rfl, by decide⟩ dL_law_1139 hK9 rfl rfl (by decide) (Nat.le_of_ble_eq_true rfl) (c_X9_dissolve (C.2.2.2.2.2.2.2) (by omega) h) (fun v9 S' F11 I12 hq9 => ?_) K_no rfl
  clear h
  obtain ⟨z10, rfl, rfl, h⟩ := hq9
  refine K_istore C [vr (some bS), vr (some x1), vr (some x2), vr (some x3), vi x4, vi z3, vi z10] dL_law_1142 (Nat.le_of_ble_eq_true rfl) rfl ?_
  refine J_aload_n C dL_law_1144 rfl rfl ?_
  refine K_VH C M.1 M.2.1 [] [] mi_X9_thrown wg_1403 wg_1404 wg_1405 ⟨rfl, by decide⟩ dL_law_1145 hK9 rfl rfl (by decide) (Nat.le_of_ble_eq_true rfl) (c_X9_thrown (C.2.2.2.2.2.2.2) (by omega) h) (fun v9 S' F' I' hq9 => ?_) K_no rfl
  clear h
  obtain ⟨z13, rfl, rfl, rfl, rfl, h⟩ := hq9
  refine J_iload C dL_law_1148 rfl ?_
  refine J_icmp_eq C dL_law_1150 (tgt := 1155) rfl (fun c1150 => ?_) (fun c1150 => ?_)
  · have h := h.1 c1150
    refine J_iload C dL_law_1155 rfl ?_
    refine J_if_ne C dL_law_1157 (tgt := 1172) rfl (fun c1157 => ?_) (fun c1157 => ?_)
    · have h := h.1 c1157
      refine J_less [vr (some bS), vr (some x1), vr (some x2), vr (some x3), vi x4, vl 0, vl 0] (by unfold lessL; simp [lessL]) ?_
      exact S_L_law_1172 HX C M (by omega) hk23 h
    · have h := h.2 c1157
      refine J_aload_n C dL_law_1160 rfl rfl ?_
      refine J_iconst C dL_law_1161 (rg_of (by decide)) ?_
      obtain ⟨hK14, h⟩ := h
      obtain ⟨h015, hn16, h⟩ := h
      refine J_lald C dL_law_1162 hK14 h015 hn16 ?_
      refine J_iload C dL_law_1163 rfl ?_
      refine J_i2l C dL_law_1165 ?_
      refine J_lcmp C dL_law_1166 ?_
      refine J_if_eq C dL_law_1167 (tgt := 1172) rfl (fun c1167 => ?_) (fun c1167 => ?_)
      · have h := h.1 c1167
        refine J_less [vr (some bS), vr (some x1), vr (some x2), vr (some x3), vi x4, vl 0, vl 0] (by unfold lessL; simp [lessL]) ?_
        exact S_L_law_1172 HX C M (by omega) hk23 h
      · have h := h.2 c1167
        refine J_iconst C dL_law_1170 (rg_of (by decide)) ?_
        exact J_zret C dL_law_1171 M.2.2.1 (by decide) ⟨_, rfl, h⟩
  · have h := h.2 c1150
    refine J_iconst C dL_law_1153 (rg_of (by decide)) ?_
    exact J_zret C dL_law_1154 M.2.2.1 (by decide) ⟨_, rfl, h⟩
set_option maxRecDepth 20000 in
set_option maxHeartbeats 4000000 in
theorem S_L_law_1240 {G : Gp} {X : Xt} {d : Nat} {ln : Int} {scr : Int → Int} {bS : Nat} {k23 : Nat → Nat → Nat → Int → Shp → Fl → Il → Prop} {x1 : Nat} {x2 : Nat} {x3 : Nat} {x4 : Int} {Q : Int → Shp → Fl → Il → Prop} {S : Shp} {F : Fl} {I : Il} (HX : SXc G X bS ln scr) (C : CO G RL cL_law 7 X) (M : ML d (some .boolean) X) (hd : 16 ≤ d) (hk23 : ∀ (x1 : Nat) (x2 : Nat) (x3 : Nat) (x4 : Int) (S' : Shp) (F' : Fl) (I' : Il), k23 x1 x2 x3 x4 S' F' I' → J G X (QD X G (qI fun z S' F' I' => Q z S' F' I') noX) 23 [vr (some bS), vr (some x1), vr (some x2), vr (some x3), vi x4, vl 0, vl 0] [] S' F' I') (h : V_L_law_1240 G ln scr k23 x1 x2 x3 x4 S F I Q) : J G X (QD X G (qI fun z S' F' I' => Q z S' F' I') noX) 1240 [vr (some bS), vr (some x1), vr (some x2), vr (some x3), vi x4, vl 0, vl 0] [] S F I := by
  unfold V_L_law_1240 at h
  refine J_goto C dL_law_1240 (tgt := 2846) rfl ?_
  exact S_L_law_2846 HX C M (by omega) hk23 h
set_option maxRecDepth 20000 in
set_option maxHeartbeats 4000000 in
theorem S_L_law_1175 {G : Gp} {X : Xt} {d : Nat} {ln : Int} {scr : Int → Int} {bS : Nat} {k23 : Nat → Nat → Nat → Int → Shp → Fl → Il → Prop} {x1 : Nat} {x2 : Nat} {x3 : Nat} {x4 : Int} {Q : Int → Shp → Fl → Il → Prop} {S : Shp} {F : Fl} {I : Il} (HX : SXc G X bS ln scr) (C : CO G RL cL_law 7 X) (M : ML d (some .boolean) X) (hd : 16 ≤ d) (hk23 : ∀ (x1 : Nat) (x2 : Nat) (x3 : Nat) (x4 : Int) (S' : Shp) (F' : Fl) (I' : Il), k23 x1 x2 x3 x4 S' F' I' → J G X (QD X G (qI fun z S' F' I' => Q z S' F' I') noX) 23 [vr (some bS), vr (some x1), vr (some x2), vr (some x3), vi x4, vl 0, vl 0] [] S' F' I') (h : V_L_law_1175 G ln scr k23 x1 x2 x3 x4 S F I Q) : J G X (QD X G (qI fun z S' F' I' => Q z S' F' I') noX) 1175 [vr (some bS), vr (some x1), vr (some x2), vr (some x3), vi x4, vl 0, vl 0] [] S F I := by
  unfold V_L_law_1175 at h
  obtain ⟨d, rfl⟩ : ∃ d9, d = d9 + 1 := ⟨d - 1, by omega⟩
  refine J_aload_n C dL_law_1175 rfl rfl ?_
  refine J_aload_n C dL_law_1176 rfl rfl ?_
  refine J_iload C dL_law_1177 rfl ?_
  refine J_iconst C dL_law_1179 (rg_of (by decide)) ?_
  refine J_iadd C dL_law_1180 ?_
  obtain ⟨h01, hn2, h⟩ := h
  refine K_sld C HX dL_law_1181 h01 hn2 ?_
  refine J_aload_n C dL_law_1182 rfl rfl ?_
  refine J_iload C dL_law_1183 rfl ?_
  refine J_iconst C dL_law_1185 (rg_of (by decide)) ?_
  refine J_iadd C dL_law_1186 ?_
  obtain ⟨h03, hn4, h⟩ := h
  refine K_sld C HX dL_law_1187 h03 hn4 ?_
  refine J_aload_n C dL_law_1188 rfl rfl ?_
  refine K_SW C M.1 M.2.1 [vr (some x1), vi (scr (w32 (x4 + 1))), vi (scr (w32 (x4 + 2))), vr (some x3)] [] miw_L_couple wg_846 wg_847 dL_law_1189 rfl rfl (by decide) (Nat.le_of_ble_eq_true rfl) (c_L_couple (C.2.2.2.2.2.2.2) (by omega) h) (fun v9 S6 F7 I8 hq9 => ?_) rfl
  clear h
  obtain ⟨z5, rfl, h⟩ := hq9
  refine K_istore C [vr (some bS), vr (some x1), vr (some x2), vr (some x3), vi x4, vi z5, vl 0] dL_law_1192 (Nat.le_of_ble_eq_true rfl) rfl ?_
  refine J_aload_n C dL_law_1194 rfl rfl ?_
  refine J_aload_n C dL_law_1195 rfl rfl ?_
  refine J_iload C dL_law_1196 rfl ?_
  refine J_iconst C dL_law_1198 (rg_of (by decide)) ?_
  refine J_iadd C dL_law_1199 ?_
  obtain ⟨h09, hn10, h⟩ := h
  refine K_sld C HX dL_law_1200 h09 hn10 ?_
  refine J_aload_n C dL_law_1201 rfl rfl ?_
  refine J_iload C dL_law_1202 rfl ?_
  refine J_iconst C dL_law_1204 (rg_of (by decide)) ?_
  refine J_iadd C dL_law_1205 ?_
  obtain ⟨h011, hn12, h⟩ := h
  refine K_sld C HX dL_law_1206 h011 hn12 ?_
  obtain ⟨hK13, h⟩ := h
  refine K_VH C M.1 M.2.1 [vi (scr (w32 (x4 + 1))), vi (scr (w32 (x4 + 2)))] [] mi_X9_couple wg_1522 wg_1523 wg_1524 ⟨rfl, by decide⟩ dL_law_1207 hK13 rfl rfl (by decide) (Nat.le_of_ble_eq_true rfl) (c_X9_couple (C.2.2.2.2.2.2.2) (by omega) h) (fun v9 S' F15 I16 hq9 => ?_) K_no rfl
  clear h
  obtain ⟨z14, rfl, rfl, h⟩ := hq9
  refine K_istore C [vr (some bS), vr (some x1), vr (some x2), vr (some x3), vi x4, vi z5, vi z14] dL_law_1210 (Nat.le_of_ble_eq_true rfl) rfl ?_
  refine J_aload_n C dL_law_1212 rfl rfl ?_
  refine K_VH C M.1 M.2.1 [] [] mi_X9_thrown wg_1403 wg_1404 wg_1405 ⟨rfl, by decide⟩ dL_law_1213 hK13 rfl rfl (by decide) (Nat.le_of_ble_eq_true rfl) (c_X9_thrown (C.2.2.2.2.2.2.2) (by omega) h) (fun v9 S' F' I' hq9 => ?_) K_no rfl
  clear h
  obtain ⟨z17, rfl, rfl, rfl, rfl, h⟩ := hq9
  refine J_iload C dL_law_1216 rfl ?_
  refine J_icmp_eq C dL_law_1218 (tgt := 1223) rfl (fun c1218 => ?_) (fun c1218 => ?_)
  · have h := h.1 c1218
    refine J_iload C dL_law_1223 rfl ?_
    refine J_if_ne C dL_law_1225 (tgt := 1240) rfl (fun c1225 => ?_) (fun c1225 => ?_)
    · have h := h.1 c1225
      refine J_less [vr (some bS), vr (some x1), vr (some x2), vr (some x3), vi x4, vl 0, vl 0] (by unfold lessL; simp [lessL]) ?_
      exact S_L_law_1240 HX C M (by omega) hk23 h
    · have h := h.2 c1225
      refine J_aload_n C dL_law_1228 rfl rfl ?_
      refine J_iconst C dL_law_1229 (rg_of (by decide)) ?_
      obtain ⟨hK18, h⟩ := h
      obtain ⟨h019, hn20, h⟩ := h
      refine J_lald C dL_law_1230 hK18 h019 hn20 ?_
      refine J_iload C dL_law_1231 rfl ?_
      refine J_i2l C dL_law_1233 ?_
      refine J_lcmp C dL_law_1234 ?_
      refine J_if_eq C dL_law_1235 (tgt := 1240) rfl (fun c1235 => ?_) (fun c1235 => ?_)
      · have h := h.1 c1235
        refine J_less [vr (some bS), vr (some x1), vr (some x2), vr (some x3), vi x4, vl 0, vl 0] (by unfold lessL; simp [lessL]) ?_
        exact S_L_law_1240 HX C M (by omega) hk23 h
      · have h := h.2 c1235
        refine J_iconst C dL_law_1238 (rg_of (by decide)) ?_
        exact J_zret C dL_law_1239 M.2.2.1 (by decide) ⟨_, rfl, h⟩
  · have h := h.2 c1218
    refine J_iconst C dL_law_1221 (rg_of (by decide)) ?_
    exact J_zret C dL_law_1222 M.2.2.1 (by decide) ⟨_, rfl, h⟩
set_option maxRecDepth 20000 in
set_option maxHeartbeats 4000000 in
theorem S_L_law_1308 {G : Gp} {X : Xt} {d : Nat} {ln : Int} {scr : Int → Int} {bS : Nat} {k23 : Nat → Nat → Nat → Int → Shp → Fl → Il → Prop} {x1 : Nat} {x2 : Nat} {x3 : Nat} {x4 : Int} {Q : Int → Shp → Fl → Il → Prop} {S : Shp} {F : Fl} {I : Il} (HX : SXc G X bS ln scr) (C : CO G RL cL_law 7 X) (M : ML d (some .boolean) X) (hd : 16 ≤ d) (hk23 : ∀ (x1 : Nat) (x2 : Nat) (x3 : Nat) (x4 : Int) (S' : Shp) (F' : Fl) (I' : Il), k23 x1 x2 x3 x4 S' F' I' → J G X (QD X G (qI fun z S' F' I' => Q z S' F' I') noX) 23 [vr (some bS), vr (some x1), vr (some x2), vr (some x3), vi x4, vl 0, vl 0] [] S' F' I') (h : V_L_law_1308 G ln scr k23 x1 x2 x3 x4 S F I Q) : J G X (QD X G (qI fun z S' F' I' => Q z S' F' I') noX) 1308 [vr (some bS), vr (some x1), vr (some x2), vr (some x3), vi x4, vl 0, vl 0] [] S F I := by
  unfold V_L_law_1308 at h
  refine J_goto C dL_law_1308 (tgt := 2846) rfl ?_
  exact S_L_law_2846 HX C M (by omega) hk23 h
set_option maxRecDepth 20000 in
set_option maxHeartbeats 4000000 in
theorem S_L_law_1243 {G : Gp} {X : Xt} {d : Nat} {ln : Int} {scr : Int → Int} {bS : Nat} {k23 : Nat → Nat → Nat → Int → Shp → Fl → Il → Prop} {x1 : Nat} {x2 : Nat} {x3 : Nat} {x4 : Int} {Q : Int → Shp → Fl → Il → Prop} {S : Shp} {F : Fl} {I : Il} (HX : SXc G X bS ln scr) (C : CO G RL cL_law 7 X) (M : ML d (some .boolean) X) (hd : 16 ≤ d) (hk23 : ∀ (x1 : Nat) (x2 : Nat) (x3 : Nat) (x4 : Int) (S' : Shp) (F' : Fl) (I' : Il), k23 x1 x2 x3 x4 S' F' I' → J G X (QD X G (qI fun z S' F' I' => Q z S' F' I') noX) 23 [vr (some bS), vr (some x1), vr (some x2), vr (some x3), vi x4, vl 0, vl 0] [] S' F' I') (h : V_L_law_1243 G ln scr k23 x1 x2 x3 x4 S F I Q) : J G X (QD X G (qI fun z S' F' I' => Q z S' F' I') noX) 1243 [vr (some bS), vr (some x1), vr (some x2), vr (some x3), vi x4, vl 0, vl 0] [] S F I := by
  unfold V_L_law_1243 at h
  obtain ⟨d, rfl⟩ : ∃ d9, d = d9 + 1 := ⟨d - 1, by omega⟩
  refine J_aload_n C dL_law_1243 rfl rfl ?_
  refine J_aload_n C dL_law_1244 rfl rfl ?_
  refine J_iload C dL_law_1245 rfl ?_
  refine J_iconst C dL_law_1247 (rg_of (by decide)) ?_
  refine J_iadd C dL_law_1248 ?_
  obtain ⟨h01, hn2, h⟩ := h
  refine K_sld C HX dL_law_1249 h01 hn2 ?_
  refine J_aload_n C dL_law_1250 rfl rfl ?_
  refine J_iload C dL_law_1251 rfl ?_
  refine J_iconst C dL_law_1253 (rg_of (by decide)) ?_
  refine J_iadd C dL_law_1254 ?_
  obtain ⟨h03, hn4, h⟩ := h
  refine K_sld C HX dL_law_1255 h03 hn4 ?_
  refine J_aload_n C dL_law_1256 rfl rfl ?_
  refine K_SW C M.1 M.2.1 [vr (some x1), vi (scr (w32 (x4 + 1))), vi (scr (w32 (x4 + 2))), vr (some x3)] [] miw_L_uncouple wg_865 wg_866 dL_law_1257 rfl rfl (by decide) (Nat.le_of_ble_eq_true rfl) (c_L_uncouple (C.2.2.2.2.2.2.2) (by omega) h) (fun v9 S6 F7 I8 hq9 => ?_) rfl
  clear h
  obtain ⟨z5, rfl, h⟩ := hq9
  refine K_istore C [vr (some bS), vr (some x1), vr (some x2), vr (some x3), vi x4, vi z5, vl 0] dL_law_1260 (Nat.le_of_ble_eq_true rfl) rfl ?_
  refine J_aload_n C dL_law_1262 rfl rfl ?_
  refine J_aload_n C dL_law_1263 rfl rfl ?_
  refine J_iload C dL_law_1264 rfl ?_
  refine J_iconst C dL_law_1266 (rg_of (by decide)) ?_
  refine J_iadd C dL_law_1267 ?_
  obtain ⟨h09, hn10, h⟩ := h
  refine K_sld C HX dL_law_1268 h09 hn10 ?_
  refine J_aload_n C dL_law_1269 rfl rfl ?_
  refine J_iload C dL_law_1270 rfl ?_
  refine J_iconst C dL_law_1272 (rg_of (by decide)) ?_
  refine J_iadd C dL_law_1273 ?_
  obtain ⟨h011, hn12, h⟩ := h
  refine K_sld C HX dL_law_1274 h011 hn12 ?_
  obtain ⟨hK13, h⟩ := h
  refine K_VH C M.1 M.2.1 [vi (scr (w32 (x4 + 1))), vi (scr (w32 (x4 + 2)))] [] mi_X9_uncouple wg_1530 wg_1531 wg_1532 ⟨rfl, by decide⟩ dL_law_1275 hK13 rfl rfl (by decide) (Nat.le_of_ble_eq_true rfl) (c_X9_uncouple (C.2.2.2.2.2.2.2) (by omega) h) (fun v9 S' F15 I16 hq9 => ?_) K_no rfl
  clear h
  obtain ⟨z14, rfl, rfl, h⟩ := hq9
  refine K_istore C [vr (some bS), vr (some x1), vr (some x2), vr (some x3), vi x4, vi z5, vi z14] dL_law_1278 (Nat.le_of_ble_eq_true rfl) rfl ?_
  refine J_aload_n C dL_law_1280 rfl rfl ?_
  refine K_VH C M.1 M.2.1 [] [] mi_X9_thrown wg_1403 wg_1404 wg_1405 ⟨rfl, by decide⟩ dL_law_1281 hK13 rfl rfl (by decide) (Nat.le_of_ble_eq_true rfl) (c_X9_thrown (C.2.2.2.2.2.2.2) (by omega) h) (fun v9 S' F' I' hq9 => ?_) K_no rfl
  clear h
  obtain ⟨z17, rfl, rfl, rfl, rfl, h⟩ := hq9
  refine J_iload C dL_law_1284 rfl ?_
  refine J_icmp_eq C dL_law_1286 (tgt := 1291) rfl (fun c1286 => ?_) (fun c1286 => ?_)
  · have h := h.1 c1286
    refine J_iload C dL_law_1291 rfl ?_
    refine J_if_ne C dL_law_1293 (tgt := 1308) rfl (fun c1293 => ?_) (fun c1293 => ?_)
    · have h := h.1 c1293
      refine J_less [vr (some bS), vr (some x1), vr (some x2), vr (some x3), vi x4, vl 0, vl 0] (by unfold lessL; simp [lessL]) ?_
      exact S_L_law_1308 HX C M (by omega) hk23 h
    · have h := h.2 c1293
      refine J_aload_n C dL_law_1296 rfl rfl ?_
      refine J_iconst C dL_law_1297 (rg_of (by decide)) ?_
      obtain ⟨hK18, h⟩ := h
      obtain ⟨h019, hn20, h⟩ := h
      refine J_lald C dL_law_1298 hK18 h019 hn20 ?_
      refine J_iload C dL_law_1299 rfl ?_
      refine J_i2l C dL_law_1301 ?_
      refine J_lcmp C dL_law_1302 ?_
      refine J_if_eq C dL_law_1303 (tgt := 1308) rfl (fun c1303 => ?_) (fun c1303 => ?_)
      · have h := h.1 c1303
        refine J_less [vr (some bS), vr (some x1), vr (some x2), vr (some x3), vi x4, vl 0, vl 0] (by unfold lessL; simp [lessL]) ?_
        exact S_L_law_1308 HX C M (by omega) hk23 h
      · have h := h.2 c1303
        refine J_iconst C dL_law_1306 (rg_of (by decide)) ?_
        exact J_zret C dL_law_1307 M.2.2.1 (by decide) ⟨_, rfl, h⟩
  · have h := h.2 c1286
    refine J_iconst C dL_law_1289 (rg_of (by decide)) ?_
    exact J_zret C dL_law_1290 M.2.2.1 (by decide) ⟨_, rfl, h⟩
set_option maxRecDepth 20000 in
set_option maxHeartbeats 4000000 in
theorem S_L_law_1364 {G : Gp} {X : Xt} {d : Nat} {ln : Int} {scr : Int → Int} {bS : Nat} {k23 : Nat → Nat → Nat → Int → Shp → Fl → Il → Prop} {x1 : Nat} {x2 : Nat} {x3 : Nat} {x4 : Int} {Q : Int → Shp → Fl → Il → Prop} {S : Shp} {F : Fl} {I : Il} (HX : SXc G X bS ln scr) (C : CO G RL cL_law 7 X) (M : ML d (some .boolean) X) (hd : 16 ≤ d) (hk23 : ∀ (x1 : Nat) (x2 : Nat) (x3 : Nat) (x4 : Int) (S' : Shp) (F' : Fl) (I' : Il), k23 x1 x2 x3 x4 S' F' I' → J G X (QD X G (qI fun z S' F' I' => Q z S' F' I') noX) 23 [vr (some bS), vr (some x1), vr (some x2), vr (some x3), vi x4, vl 0, vl 0] [] S' F' I') (h : V_L_law_1364 G ln scr k23 x1 x2 x3 x4 S F I Q) : J G X (QD X G (qI fun z S' F' I' => Q z S' F' I') noX) 1364 [vr (some bS), vr (some x1), vr (some x2), vr (some x3), vi x4, vl 0, vl 0] [] S F I := by
  unfold V_L_law_1364 at h
  refine J_goto C dL_law_1364 (tgt := 2846) rfl ?_
  exact S_L_law_2846 HX C M (by omega) hk23 h
set_option maxRecDepth 20000 in
set_option maxHeartbeats 4000000 in
theorem S_L_law_1311 {G : Gp} {X : Xt} {d : Nat} {ln : Int} {scr : Int → Int} {bS : Nat} {k23 : Nat → Nat → Nat → Int → Shp → Fl → Il → Prop} {x1 : Nat} {x2 : Nat} {x3 : Nat} {x4 : Int} {Q : Int → Shp → Fl → Il → Prop} {S : Shp} {F : Fl} {I : Il} (HX : SXc G X bS ln scr) (C : CO G RL cL_law 7 X) (M : ML d (some .boolean) X) (hd : 16 ≤ d) (hk23 : ∀ (x1 : Nat) (x2 : Nat) (x3 : Nat) (x4 : Int) (S' : Shp) (F' : Fl) (I' : Il), k23 x1 x2 x3 x4 S' F' I' → J G X (QD X G (qI fun z S' F' I' => Q z S' F' I') noX) 23 [vr (some bS), vr (some x1), vr (some x2), vr (some x3), vi x4, vl 0, vl 0] [] S' F' I') (h : V_L_law_1311 G ln scr k23 x1 x2 x3 x4 S F I Q) : J G X (QD X G (qI fun z S' F' I' => Q z S' F' I') noX) 1311 [vr (some bS), vr (some x1), vr (some x2), vr (some x3), vi x4, vl 0, vl 0] [] S F I := by
  unfold V_L_law_1311 at h
  obtain ⟨d, rfl⟩ : ∃ d9, d = d9 + 1 := ⟨d - 1, by omega⟩
  refine J_aload_n C dL_law_1311 rfl rfl ?_
  refine J_aload_n C dL_law_1312 rfl rfl ?_
  refine J_iload C dL_law_1313 rfl ?_
  refine J_iconst C dL_law_1315 (rg_of (by decide)) ?_
  refine J_iadd C dL_law_1316 ?_
  obtain ⟨h01, hn2, h⟩ := h
  refine K_sld C HX dL_law_1317 h01 hn2 ?_
  refine J_aload_n C dL_law_1318 rfl rfl ?_
  refine K_SW C M.1 M.2.1 [vr (some x1), vi (scr (w32 (x4 + 1))), vr (some x3)] [] miw_L_leg wg_876 wg_877 dL_law_1319 rfl rfl (by decide) (Nat.le_of_ble_eq_true rfl) (c_L_leg (C.2.2.2.2.2.2.2) (by omega) h) (fun v9 S4 F5 I6 hq9 => ?_) rfl
  clear h
  obtain ⟨z3, rfl, h⟩ := hq9
  refine K_istore C [vr (some bS), vr (some x1), vr (some x2), vr (some x3), vi x4, vi z3, vl 0] dL_law_1322 (Nat.le_of_ble_eq_true rfl) rfl ?_
  refine J_aload_n C dL_law_1324 rfl rfl ?_
  refine J_aload_n C dL_law_1325 rfl rfl ?_
  refine J_iload C dL_law_1326 rfl ?_
  refine J_iconst C dL_law_1328 (rg_of (by decide)) ?_
  refine J_iadd C dL_law_1329 ?_
  obtain ⟨h07, hn8, h⟩ := h
  refine K_sld C HX dL_law_1330 h07 hn8 ?_
  obtain ⟨hK9, h⟩ := h
  refine K_VH C M.1 M.2.1 [vi (scr (w32 (x4 + 1)))] [] mi_X9_leg wg_1534 wg_1535 wg_1536 ⟨rfl, by decide⟩ dL_law_1331 hK9 rfl rfl (by decide) (Nat.le_of_ble_eq_true rfl) (c_X9_leg (C.2.2.2.2.2.2.2) (by omega) h) (fun v9 S' F11 I12 hq9 => ?_) K_no rfl
  clear h
  obtain ⟨z10, rfl, rfl, h⟩ := hq9
  refine K_istore C [vr (some bS), vr (some x1), vr (some x2), vr (some x3), vi x4, vi z3, vi z10] dL_law_1334 (Nat.le_of_ble_eq_true rfl) rfl ?_
  refine J_aload_n C dL_law_1336 rfl rfl ?_
  refine K_VH C M.1 M.2.1 [] [] mi_X9_thrown wg_1403 wg_1404 wg_1405 ⟨rfl, by decide⟩ dL_law_1337 hK9 rfl rfl (by decide) (Nat.le_of_ble_eq_true rfl) (c_X9_thrown (C.2.2.2.2.2.2.2) (by omega) h) (fun v9 S' F' I' hq9 => ?_) K_no rfl
  clear h
  obtain ⟨z13, rfl, rfl, rfl, rfl, h⟩ := hq9
  refine J_iload C dL_law_1340 rfl ?_
  refine J_icmp_eq C dL_law_1342 (tgt := 1347) rfl (fun c1342 => ?_) (fun c1342 => ?_)
  · have h := h.1 c1342
    refine J_iload C dL_law_1347 rfl ?_
    refine J_if_ne C dL_law_1349 (tgt := 1364) rfl (fun c1349 => ?_) (fun c1349 => ?_)
    · have h := h.1 c1349
      refine J_less [vr (some bS), vr (some x1), vr (some x2), vr (some x3), vi x4, vl 0, vl 0] (by unfold lessL; simp [lessL]) ?_
      exact S_L_law_1364 HX C M (by omega) hk23 h
    · have h := h.2 c1349
      refine J_aload_n C dL_law_1352 rfl rfl ?_
      refine J_iconst C dL_law_1353 (rg_of (by decide)) ?_
      obtain ⟨hK14, h⟩ := h
      obtain ⟨h015, hn16, h⟩ := h
      refine J_lald C dL_law_1354 hK14 h015 hn16 ?_
      refine J_iload C dL_law_1355 rfl ?_
      refine J_i2l C dL_law_1357 ?_
      refine J_lcmp C dL_law_1358 ?_
      refine J_if_eq C dL_law_1359 (tgt := 1364) rfl (fun c1359 => ?_) (fun c1359 => ?_)
      · have h := h.1 c1359
        refine J_less [vr (some bS), vr (some x1), vr (some x2), vr (some x3), vi x4, vl 0, vl 0] (by unfold lessL; simp [lessL]) ?_
        exact S_L_law_1364 HX C M (by omega) hk23 h
      · have h := h.2 c1359
        refine J_iconst C dL_law_1362 (rg_of (by decide)) ?_
        exact J_zret C dL_law_1363 M.2.2.1 (by decide) ⟨_, rfl, h⟩
  · have h := h.2 c1342
    refine J_iconst C dL_law_1345 (rg_of (by decide)) ?_
    exact J_zret C dL_law_1346 M.2.2.1 (by decide) ⟨_, rfl, h⟩
set_option maxRecDepth 20000 in
set_option maxHeartbeats 4000000 in
theorem S_L_law_1444 {G : Gp} {X : Xt} {d : Nat} {ln : Int} {scr : Int → Int} {bS : Nat} {k23 : Nat → Nat → Nat → Int → Shp → Fl → Il → Prop} {x1 : Nat} {x2 : Nat} {x3 : Nat} {x4 : Int} {Q : Int → Shp → Fl → Il → Prop} {S : Shp} {F : Fl} {I : Il} (HX : SXc G X bS ln scr) (C : CO G RL cL_law 7 X) (M : ML d (some .boolean) X) (hd : 16 ≤ d) (hk23 : ∀ (x1 : Nat) (x2 : Nat) (x3 : Nat) (x4 : Int) (S' : Shp) (F' : Fl) (I' : Il), k23 x1 x2 x3 x4 S' F' I' → J G X (QD X G (qI fun z S' F' I' => Q z S' F' I') noX) 23 [vr (some bS), vr (some x1), vr (some x2), vr (some x3), vi x4, vl 0, vl 0] [] S' F' I') (h : V_L_law_1444 G ln scr k23 x1 x2 x3 x4 S F I Q) : J G X (QD X G (qI fun z S' F' I' => Q z S' F' I') noX) 1444 [vr (some bS), vr (some x1), vr (some x2), vr (some x3), vi x4, vl 0, vl 0] [] S F I := by
  unfold V_L_law_1444 at h
  refine J_goto C dL_law_1444 (tgt := 2846) rfl ?_
  exact S_L_law_2846 HX C M (by omega) hk23 h
set_option maxRecDepth 20000 in
set_option maxHeartbeats 4000000 in
theorem S_L_law_1367 {G : Gp} {X : Xt} {d : Nat} {ln : Int} {scr : Int → Int} {bS : Nat} {k23 : Nat → Nat → Nat → Int → Shp → Fl → Il → Prop} {x1 : Nat} {x2 : Nat} {x3 : Nat} {x4 : Int} {Q : Int → Shp → Fl → Il → Prop} {S : Shp} {F : Fl} {I : Il} (HX : SXc G X bS ln scr) (C : CO G RL cL_law 7 X) (M : ML d (some .boolean) X) (hd : 16 ≤ d) (hk23 : ∀ (x1 : Nat) (x2 : Nat) (x3 : Nat) (x4 : Int) (S' : Shp) (F' : Fl) (I' : Il), k23 x1 x2 x3 x4 S' F' I' → J G X (QD X G (qI fun z S' F' I' => Q z S' F' I') noX) 23 [vr (some bS), vr (some x1), vr (some x2), vr (some x3), vi x4, vl 0, vl 0] [] S' F' I') (h : V_L_law_1367 G ln scr k23 x1 x2 x3 x4 S F I Q) : J G X (QD X G (qI fun z S' F' I' => Q z S' F' I') noX) 1367 [vr (some bS), vr (some x1), vr (some x2), vr (some x3), vi x4, vl 0, vl 0] [] S F I := by
  unfold V_L_law_1367 at h
  obtain ⟨d, rfl⟩ : ∃ d9, d = d9 + 1 := ⟨d - 1, by omega⟩
  refine J_aload_n C dL_law_1367 rfl rfl ?_
  refine J_aload_n C dL_law_1368 rfl rfl ?_
  refine J_iload C dL_law_1369 rfl ?_
  refine J_iconst C dL_law_1371 (rg_of (by decide)) ?_
  refine J_iadd C dL_law_1372 ?_
  obtain ⟨h01, hn2, h⟩ := h
  refine K_sld C HX dL_law_1373 h01 hn2 ?_
  refine J_aload_n C dL_law_1374 rfl rfl ?_
  refine J_iload C dL_law_1375 rfl ?_
  refine J_iconst C dL_law_1377 (rg_of (by decide)) ?_
  refine J_iadd C dL_law_1378 ?_
  obtain ⟨h03, hn4, h⟩ := h
  refine K_sld C HX dL_law_1379 h03 hn4 ?_
  refine J_aload_n C dL_law_1380 rfl rfl ?_
  refine J_iload C dL_law_1381 rfl ?_
  refine J_iconst C dL_law_1383 (rg_of (by decide)) ?_
  refine J_iadd C dL_law_1384 ?_
  obtain ⟨h05, hn6, h⟩ := h
  refine K_sld C HX dL_law_1385 h05 hn6 ?_
  refine J_aload_n C dL_law_1386 rfl rfl ?_
  refine K_SW C M.1 M.2.1 [vr (some x1), vi (scr (w32 (x4 + 1))), vi (scr (w32 (x4 + 2))), vi (scr (w32 (x4 + 3))), vr (some x3)] [] miw_L_plan wg_883 wg_884 dL_law_1387 rfl rfl (by decide) (Nat.le_of_ble_eq_true rfl) (c_L_plan (C.2.2.2.2.2.2.2) (by omega) h) (fun v9 S8 F9 I10 hq9 => ?_) rfl
  clear h
  obtain ⟨z7, rfl, h⟩ := hq9
  refine K_istore C [vr (some bS), vr (some x1), vr (some x2), vr (some x3), vi x4, vi z7, vl 0] dL_law_1390 (Nat.le_of_ble_eq_true rfl) rfl ?_
  refine J_aload_n C dL_law_1392 rfl rfl ?_
  refine J_aload_n C dL_law_1393 rfl rfl ?_
  refine J_iload C dL_law_1394 rfl ?_
  refine J_iconst C dL_law_1396 (rg_of (by decide)) ?_
  refine J_iadd C dL_law_1397 ?_
  obtain ⟨h011, hn12, h⟩ := h
  refine K_sld C HX dL_law_1398 h011 hn12 ?_
  refine J_aload_n C dL_law_1399 rfl rfl ?_
  refine J_iload C dL_law_1400 rfl ?_
  refine J_iconst C dL_law_1402 (rg_of (by decide)) ?_
  refine J_iadd C dL_law_1403 ?_
  obtain ⟨h013, hn14, h⟩ := h
  refine K_sld C HX dL_law_1404 h013 hn14 ?_
  refine J_aload_n C dL_law_1405 rfl rfl ?_
  refine J_iload C dL_law_1406 rfl ?_
  refine J_iconst C dL_law_1408 (rg_of (by decide)) ?_
  refine J_iadd C dL_law_1409 ?_
  obtain ⟨h015, hn16, h⟩ := h
  refine K_sld C HX dL_law_1410 h015 hn16 ?_
  obtain ⟨hK17, h⟩ := h
  refine K_VH C M.1 M.2.1 [vi (scr (w32 (x4 + 1))), vi (scr (w32 (x4 + 2))), vi (scr (w32 (x4 + 3)))] [] mi_X9_plan wg_1538 wg_1539 wg_1540 ⟨rfl, by decide⟩ dL_law_1411 hK17 rfl rfl (by decide) (Nat.le_of_ble_eq_true rfl) (c_X9_plan (C.2.2.2.2.2.2.2) (by omega) h) (fun v9 S' F19 I20 hq9 => ?_) K_no rfl
  clear h
  obtain ⟨z18, rfl, rfl, h⟩ := hq9
  refine K_istore C [vr (some bS), vr (some x1), vr (some x2), vr (some x3), vi x4, vi z7, vi z18] dL_law_1414 (Nat.le_of_ble_eq_true rfl) rfl ?_
  refine J_aload_n C dL_law_1416 rfl rfl ?_
  refine K_VH C M.1 M.2.1 [] [] mi_X9_thrown wg_1403 wg_1404 wg_1405 ⟨rfl, by decide⟩ dL_law_1417 hK17 rfl rfl (by decide) (Nat.le_of_ble_eq_true rfl) (c_X9_thrown (C.2.2.2.2.2.2.2) (by omega) h) (fun v9 S' F' I' hq9 => ?_) K_no rfl
  clear h
  obtain ⟨z21, rfl, rfl, rfl, rfl, h⟩ := hq9
  refine J_iload C dL_law_1420 rfl ?_
  refine J_icmp_eq C dL_law_1422 (tgt := 1427) rfl (fun c1422 => ?_) (fun c1422 => ?_)
  · have h := h.1 c1422
    refine J_iload C dL_law_1427 rfl ?_
    refine J_if_ne C dL_law_1429 (tgt := 1444) rfl (fun c1429 => ?_) (fun c1429 => ?_)
    · have h := h.1 c1429
      refine J_less [vr (some bS), vr (some x1), vr (some x2), vr (some x3), vi x4, vl 0, vl 0] (by unfold lessL; simp [lessL]) ?_
      exact S_L_law_1444 HX C M (by omega) hk23 h
    · have h := h.2 c1429
      refine J_aload_n C dL_law_1432 rfl rfl ?_
      refine J_iconst C dL_law_1433 (rg_of (by decide)) ?_
      obtain ⟨hK22, h⟩ := h
      obtain ⟨h023, hn24, h⟩ := h
      refine J_lald C dL_law_1434 hK22 h023 hn24 ?_
      refine J_iload C dL_law_1435 rfl ?_
      refine J_i2l C dL_law_1437 ?_
      refine J_lcmp C dL_law_1438 ?_
      refine J_if_eq C dL_law_1439 (tgt := 1444) rfl (fun c1439 => ?_) (fun c1439 => ?_)
      · have h := h.1 c1439
        refine J_less [vr (some bS), vr (some x1), vr (some x2), vr (some x3), vi x4, vl 0, vl 0] (by unfold lessL; simp [lessL]) ?_
        exact S_L_law_1444 HX C M (by omega) hk23 h
      · have h := h.2 c1439
        refine J_iconst C dL_law_1442 (rg_of (by decide)) ?_
        exact J_zret C dL_law_1443 M.2.2.1 (by decide) ⟨_, rfl, h⟩
  · have h := h.2 c1422
    refine J_iconst C dL_law_1425 (rg_of (by decide)) ?_
    exact J_zret C dL_law_1426 M.2.2.1 (by decide) ⟨_, rfl, h⟩
set_option maxRecDepth 20000 in
set_option maxHeartbeats 4000000 in
theorem S_L_law_1447 {G : Gp} {X : Xt} {d : Nat} {ln : Int} {scr : Int → Int} {bS : Nat} {k23 : Nat → Nat → Nat → Int → Shp → Fl → Il → Prop} {x1 : Nat} {x2 : Nat} {x3 : Nat} {x4 : Int} {Q : Int → Shp → Fl → Il → Prop} {S : Shp} {F : Fl} {I : Il} (HX : SXc G X bS ln scr) (C : CO G RL cL_law 7 X) (M : ML d (some .boolean) X) (hd : 16 ≤ d) (hk23 : ∀ (x1 : Nat) (x2 : Nat) (x3 : Nat) (x4 : Int) (S' : Shp) (F' : Fl) (I' : Il), k23 x1 x2 x3 x4 S' F' I' → J G X (QD X G (qI fun z S' F' I' => Q z S' F' I') noX) 23 [vr (some bS), vr (some x1), vr (some x2), vr (some x3), vi x4, vl 0, vl 0] [] S' F' I') (h : V_L_law_1447 G ln scr k23 x1 x2 x3 x4 S F I Q) : J G X (QD X G (qI fun z S' F' I' => Q z S' F' I') noX) 1447 [vr (some bS), vr (some x1), vr (some x2), vr (some x3), vi x4, vl 0, vl 0] [] S F I := by
  unfold V_L_law_1447 at h
  obtain ⟨d, rfl⟩ : ∃ d9, d = d9 + 1 := ⟨d - 1, by omega⟩
  refine J_aload_n C dL_law_1447 rfl rfl ?_
  refine J_aload_n C dL_law_1448 rfl rfl ?_
  refine J_iload C dL_law_1449 rfl ?_
  refine J_iconst C dL_law_1451 (rg_of (by decide)) ?_
  refine J_iadd C dL_law_1452 ?_
  obtain ⟨h01, hn2, h⟩ := h
  refine K_sld C HX dL_law_1453 h01 hn2 ?_
  refine J_aload_n C dL_law_1454 rfl rfl ?_
  refine J_iload C dL_law_1455 rfl ?_
  refine J_iconst C dL_law_1457 (rg_of (by decide)) ?_
  refine J_iadd C dL_law_1458 ?_
  obtain ⟨h03, hn4, h⟩ := h
  refine K_sld C HX dL_law_1459 h03 hn4 ?_
  refine J_aload_n C dL_law_1460 rfl rfl ?_
  refine J_iload C dL_law_1461 rfl ?_
  refine J_iconst C dL_law_1463 (rg_of (by decide)) ?_
  refine J_iadd C dL_law_1464 ?_
  obtain ⟨h05, hn6, h⟩ := h
  refine K_sld C HX dL_law_1465 h05 hn6 ?_
  refine K_SW C M.1 M.2.1 [vr (some x1), vi (scr (w32 (x4 + 1))), vi (scr (w32 (x4 + 2))), vi (scr (w32 (x4 + 3)))] [] miw_L_await wg_910 wg_911 dL_law_1466 rfl rfl (by decide) (Nat.le_of_ble_eq_true rfl) (c_L_await (C.2.2.2.2.2.2.2) (by omega) h) (fun v9 S8 F9 I10 hq9 => ?_) rfl
  clear h
  obtain ⟨z7, rfl, h⟩ := hq9
  refine K_istore C [vr (some bS), vr (some x1), vr (some x2), vr (some x3), vi x4, vi z7, vl 0] dL_law_1469 (Nat.le_of_ble_eq_true rfl) rfl ?_
  refine J_aload_n C dL_law_1471 rfl rfl ?_
  refine J_aload_n C dL_law_1472 rfl rfl ?_
  refine J_iload C dL_law_1473 rfl ?_
  refine J_iconst C dL_law_1475 (rg_of (by decide)) ?_
  refine J_iadd C dL_law_1476 ?_
  obtain ⟨h011, hn12, h⟩ := h
  refine K_sld C HX dL_law_1477 h011 hn12 ?_
  refine J_aload_n C dL_law_1478 rfl rfl ?_
  refine J_iload C dL_law_1479 rfl ?_
  refine J_iconst C dL_law_1481 (rg_of (by decide)) ?_
  refine J_iadd C dL_law_1482 ?_
  obtain ⟨h013, hn14, h⟩ := h
  refine K_sld C HX dL_law_1483 h013 hn14 ?_
  refine J_aload_n C dL_law_1484 rfl rfl ?_
  refine J_iload C dL_law_1485 rfl ?_
  refine J_iconst C dL_law_1487 (rg_of (by decide)) ?_
  refine J_iadd C dL_law_1488 ?_
  obtain ⟨h015, hn16, h⟩ := h
  refine K_sld C HX dL_law_1489 h015 hn16 ?_
  obtain ⟨hK17, h⟩ := h
  refine K_VH C M.1 M.2.1 [vi (scr (w32 (x4 + 1))), vi (scr (w32 (x4 + 2))), vi (scr (w32 (x4 + 3)))] [] mi_X9_await wg_1546 wg_1547 wg_1548 ⟨rfl, by decide⟩ dL_law_1490 hK17 rfl rfl (by decide) (Nat.le_of_ble_eq_true rfl) (c_X9_await (C.2.2.2.2.2.2.2) (by omega) h) (fun v9 S' F18 I19 hq9 => ?_) K_no rfl
  clear h
  obtain ⟨rfl, rfl, h⟩ := hq9
  refine J_aload_n C dL_law_1493 rfl rfl ?_
  refine K_VH C M.1 M.2.1 [] [] mi_X9_thrown wg_1403 wg_1404 wg_1405 ⟨rfl, by decide⟩ dL_law_1494 hK17 rfl rfl (by decide) (Nat.le_of_ble_eq_true rfl) (c_X9_thrown (C.2.2.2.2.2.2.2) (by omega) h) (fun v9 S' F' I' hq9 => ?_) K_no rfl
  clear h
  obtain ⟨z20, rfl, rfl, rfl, rfl, h⟩ := hq9
  refine J_iload C dL_law_1497 rfl ?_
  refine J_icmp_eq C dL_law_1499 (tgt := 1504) rfl (fun c1499 => ?_) (fun c1499 => ?_)
  · have h := h.1 c1499
    refine J_goto C dL_law_1504 (tgt := 2846) rfl ?_
    refine J_less [vr (some bS), vr (some x1), vr (some x2), vr (some x3), vi x4, vl 0, vl 0] (by unfold lessL; simp [lessL]) ?_
    exact S_L_law_2846 HX C M (by omega) hk23 h
  · have h := h.2 c1499
    refine J_iconst C dL_law_1502 (rg_of (by decide)) ?_
    exact J_zret C dL_law_1503 M.2.2.1 (by decide) ⟨_, rfl, h⟩
set_option maxRecDepth 20000 in
set_option maxHeartbeats 4000000 in
theorem S_L_law_1560 {G : Gp} {X : Xt} {d : Nat} {ln : Int} {scr : Int → Int} {bS : Nat} {k23 : Nat → Nat → Nat → Int → Shp → Fl → Il → Prop} {x1 : Nat} {x2 : Nat} {x3 : Nat} {x4 : Int} {Q : Int → Shp → Fl → Il → Prop} {S : Shp} {F : Fl} {I : Il} (HX : SXc G X bS ln scr) (C : CO G RL cL_law 7 X) (M : ML d (some .boolean) X) (hd : 16 ≤ d) (hk23 : ∀ (x1 : Nat) (x2 : Nat) (x3 : Nat) (x4 : Int) (S' : Shp) (F' : Fl) (I' : Il), k23 x1 x2 x3 x4 S' F' I' → J G X (QD X G (qI fun z S' F' I' => Q z S' F' I') noX) 23 [vr (some bS), vr (some x1), vr (some x2), vr (some x3), vi x4, vl 0, vl 0] [] S' F' I') (h : V_L_law_1560 G ln scr k23 x1 x2 x3 x4 S F I Q) : J G X (QD X G (qI fun z S' F' I' => Q z S' F' I') noX) 1560 [vr (some bS), vr (some x1), vr (some x2), vr (some x3), vi x4, vl 0, vl 0] [] S F I := by
  unfold V_L_law_1560 at h
  refine J_goto C dL_law_1560 (tgt := 2846) rfl ?_
  exact S_L_law_2846 HX C M (by omega) hk23 h
set_option maxRecDepth 20000 in
set_option maxHeartbeats 4000000 in
theorem S_L_law_1507 {G : Gp} {X : Xt} {d : Nat} {ln : Int} {scr : Int → Int} {bS : Nat} {k23 : Nat → Nat → Nat → Int → Shp → Fl → Il → Prop} {x1 : Nat} {x2 : Nat} {x3 : Nat} {x4 : Int} {Q : Int → Shp → Fl → Il → Prop} {S : Shp} {F : Fl} {I : Il} (HX : SXc G X bS ln scr) (C : CO G RL cL_law 7 X) (M : ML d (some .boolean) X) (hd : 16 ≤ d) (hk23 : ∀ (x1 : Nat) (x2 : Nat) (x3 : Nat) (x4 : Int) (S' : Shp) (F' : Fl) (I' : Il), k23 x1 x2 x3 x4 S' F' I' → J G X (QD X G (qI fun z S' F' I' => Q z S' F' I') noX) 23 [vr (some bS), vr (some x1), vr (some x2), vr (some x3), vi x4, vl 0, vl 0] [] S' F' I') (h : V_L_law_1507 G ln scr k23 x1 x2 x3 x4 S F I Q) : J G X (QD X G (qI fun z S' F' I' => Q z S' F' I') noX) 1507 [vr (some bS), vr (some x1), vr (some x2), vr (some x3), vi x4, vl 0, vl 0] [] S F I := by
  unfold V_L_law_1507 at h
  obtain ⟨d, rfl⟩ : ∃ d9, d = d9 + 1 := ⟨d - 1, by omega⟩
  refine J_aload_n C dL_law_1507 rfl rfl ?_
  refine J_aload_n C dL_law_1508 rfl rfl ?_
  refine J_iload C dL_law_1509 rfl ?_
  refine J_iconst C dL_law_1511 (rg_of (by decide)) ?_
  refine J_iadd C dL_law_1512 ?_
  obtain ⟨h01, hn2, h⟩ := h
  refine K_sld C HX dL_law_1513 h01 hn2 ?_
  refine J_aload_n C dL_law_1514 rfl rfl ?_
  refine K_SW C M.1 M.2.1 [vr (some x1), vi (scr (w32 (x4 + 1))), vr (some x3)] [] miw_L_run wg_917 wg_918 dL_law_1515 rfl rfl (by decide) (Nat.le_of_ble_eq_true rfl) (c_L_run (C.2.2.2.2.2.2.2) (by omega) h) (fun v9 S4 F5 I6 hq9 => ?_) rfl
  clear h
  obtain ⟨z3, rfl, h⟩ := hq9
  refine K_istore C [vr (some bS), vr (some x1), vr (some x2), vr (some x3), vi x4, vi z3, vl 0] dL_law_1518 (Nat.le_of_ble_eq_true rfl) rfl ?_
  refine J_aload_n C dL_law_1520 rfl rfl ?_
  refine J_aload_n C dL_law_1521 rfl rfl ?_
  refine J_iload C dL_law_1522 rfl ?_
  refine J_iconst C dL_law_1524 (rg_of (by decide)) ?_
  refine J_iadd C dL_law_1525 ?_
  obtain ⟨h07, hn8, h⟩ := h
  refine K_sld C HX dL_law_1526 h07 hn8 ?_
  obtain ⟨hK9, h⟩ := h
  refine K_VH C M.1 M.2.1 [vi (scr (w32 (x4 + 1)))] [] mi_X9_run wg_1550 wg_1551 wg_1552 ⟨rfl, by decide⟩ dL_law_1527 hK9 rfl rfl (by decide) (Nat.le_of_ble_eq_true rfl) (c_X9_run (C.2.2.2.2.2.2.2) (by omega) h) (fun v9 S' F11 I12 hq9 => ?_) K_no rfl
  clear h
  obtain ⟨z10, rfl, rfl, h⟩ := hq9
  refine K_istore C [vr (some bS), vr (some x1), vr (some x2), vr (some x3), vi x4, vi z3, vi z10] dL_law_1530 (Nat.le_of_ble_eq_true rfl) rfl ?_
  refine J_aload_n C dL_law_1532 rfl rfl ?_
  refine K_VH C M.1 M.2.1 [] [] mi_X9_thrown wg_1403 wg_1404 wg_1405 ⟨rfl, by decide⟩ dL_law_1533 hK9 rfl rfl (by decide) (Nat.le_of_ble_eq_true rfl) (c_X9_thrown (C.2.2.2.2.2.2.2) (by omega) h) (fun v9 S' F' I' hq9 => ?_) K_no rfl
  clear h
  obtain ⟨z13, rfl, rfl, rfl, rfl, h⟩ := hq9
  refine J_iload C dL_law_1536 rfl ?_
  refine J_icmp_eq C dL_law_1538 (tgt := 1543) rfl (fun c1538 => ?_) (fun c1538 => ?_)
  · have h := h.1 c1538
    refine J_iload C dL_law_1543 rfl ?_
    refine J_if_ne C dL_law_1545 (tgt := 1560) rfl (fun c1545 => ?_) (fun c1545 => ?_)
    · have h := h.1 c1545
      refine J_less [vr (some bS), vr (some x1), vr (some x2), vr (some x3), vi x4, vl 0, vl 0] (by unfold lessL; simp [lessL]) ?_
      exact S_L_law_1560 HX C M (by omega) hk23 h
    · have h := h.2 c1545
      refine J_aload_n C dL_law_1548 rfl rfl ?_
      refine J_iconst C dL_law_1549 (rg_of (by decide)) ?_
      obtain ⟨hK14, h⟩ := h
      obtain ⟨h015, hn16, h⟩ := h
      refine J_lald C dL_law_1550 hK14 h015 hn16 ?_
      refine J_iload C dL_law_1551 rfl ?_
      refine J_i2l C dL_law_1553 ?_
      refine J_lcmp C dL_law_1554 ?_
      refine J_if_eq C dL_law_1555 (tgt := 1560) rfl (fun c1555 => ?_) (fun c1555 => ?_)
      · have h := h.1 c1555
        refine J_less [vr (some bS), vr (some x1), vr (some x2), vr (some x3), vi x4, vl 0, vl 0] (by unfold lessL; simp [lessL]) ?_
        exact S_L_law_1560 HX C M (by omega) hk23 h
      · have h := h.2 c1555
        refine J_iconst C dL_law_1558 (rg_of (by decide)) ?_
        exact J_zret C dL_law_1559 M.2.2.1 (by decide) ⟨_, rfl, h⟩
  · have h := h.2 c1538
    refine J_iconst C dL_law_1541 (rg_of (by decide)) ?_
    exact J_zret C dL_law_1542 M.2.2.1 (by decide) ⟨_, rfl, h⟩
set_option maxRecDepth 20000 in
set_option maxHeartbeats 4000000 in
theorem S_L_law_1623 {G : Gp} {X : Xt} {d : Nat} {ln : Int} {scr : Int → Int} {bS : Nat} {k23 : Nat → Nat → Nat → Int → Shp → Fl → Il → Prop} {x1 : Nat} {x2 : Nat} {x3 : Nat} {x4 : Int} {Q : Int → Shp → Fl → Il → Prop} {S : Shp} {F : Fl} {I : Il} (HX : SXc G X bS ln scr) (C : CO G RL cL_law 7 X) (M : ML d (some .boolean) X) (hd : 16 ≤ d) (hk23 : ∀ (x1 : Nat) (x2 : Nat) (x3 : Nat) (x4 : Int) (S' : Shp) (F' : Fl) (I' : Il), k23 x1 x2 x3 x4 S' F' I' → J G X (QD X G (qI fun z S' F' I' => Q z S' F' I') noX) 23 [vr (some bS), vr (some x1), vr (some x2), vr (some x3), vi x4, vl 0, vl 0] [] S' F' I') (h : V_L_law_1623 G ln scr k23 x1 x2 x3 x4 S F I Q) : J G X (QD X G (qI fun z S' F' I' => Q z S' F' I') noX) 1623 [vr (some bS), vr (some x1), vr (some x2), vr (some x3), vi x4, vl 0, vl 0] [] S F I := by
  unfold V_L_law_1623 at h
  refine J_goto C dL_law_1623 (tgt := 2846) rfl ?_
  exact S_L_law_2846 HX C M (by omega) hk23 h
set_option maxRecDepth 20000 in
set_option maxHeartbeats 4000000 in
theorem S_L_law_1617 {G : Gp} {X : Xt} {d : Nat} {ln : Int} {scr : Int → Int} {bS : Nat} {k23 : Nat → Nat → Nat → Int → Shp → Fl → Il → Prop} {x1 : Nat} {x2 : Nat} {x3 : Nat} {x4 : Int} {s0 : Int} {s1 : Int} {Q : Int → Shp → Fl → Il → Prop} {S : Shp} {F : Fl} {I : Il} (HX : SXc G X bS ln scr) (C : CO G RL cL_law 7 X) (M : ML d (some .boolean) X) (hd : 16 ≤ d) (hk23 : ∀ (x1 : Nat) (x2 : Nat) (x3 : Nat) (x4 : Int) (S' : Shp) (F' : Fl) (I' : Il), k23 x1 x2 x3 x4 S' F' I' → J G X (QD X G (qI fun z S' F' I' => Q z S' F' I') noX) 23 [vr (some bS), vr (some x1), vr (some x2), vr (some x3), vi x4, vl 0, vl 0] [] S' F' I') (h : V_L_law_1617 G ln scr k23 x1 x2 x3 x4 s0 s1 S F I Q) : J G X (QD X G (qI fun z S' F' I' => Q z S' F' I') noX) 1617 [vr (some bS), vr (some x1), vr (some x2), vr (some x3), vi x4, vl 0, vl 0] [vl s0, vl s1] S F I := by
  unfold V_L_law_1617 at h
  refine J_lcmp C dL_law_1617 ?_
  refine J_if_eq C dL_law_1618 (tgt := 1623) rfl (fun c1618 => ?_) (fun c1618 => ?_)
  · have h := h.1 c1618
    exact S_L_law_1623 HX C M (by omega) hk23 h
  · have h := h.2 c1618
    refine J_iconst C dL_law_1621 (rg_of (by decide)) ?_
    exact J_zret C dL_law_1622 M.2.2.1 (by decide) ⟨_, rfl, h⟩
set_option maxRecDepth 20000 in
set_option maxHeartbeats 4000000 in
theorem S_L_law_1563 {G : Gp} {X : Xt} {d : Nat} {ln : Int} {scr : Int → Int} {bS : Nat} {k23 : Nat → Nat → Nat → Int → Shp → Fl → Il → Prop} {x1 : Nat} {x2 : Nat} {x3 : Nat} {x4 : Int} {Q : Int → Shp → Fl → Il → Prop} {S : Shp} {F : Fl} {I : Il} (HX : SXc G X bS ln scr) (C : CO G RL cL_law 7 X) (M : ML d (some .boolean) X) (hd : 16 ≤ d) (hk23 : ∀ (x1 : Nat) (x2 : Nat) (x3 : Nat) (x4 : Int) (S' : Shp) (F' : Fl) (I' : Il), k23 x1 x2 x3 x4 S' F' I' → J G X (QD X G (qI fun z S' F' I' => Q z S' F' I') noX) 23 [vr (some bS), vr (some x1), vr (some x2), vr (some x3), vi x4, vl 0, vl 0] [] S' F' I') (h : V_L_law_1563 G ln scr k23 x1 x2 x3 x4 S F I Q) : J G X (QD X G (qI fun z S' F' I' => Q z S' F' I') noX) 1563 [vr (some bS), vr (some x1), vr (some x2), vr (some x3), vi x4, vl 0, vl 0] [] S F I := by
  unfold V_L_law_1563 at h
  obtain ⟨d, rfl⟩ : ∃ d9, d = d9 + 1 := ⟨d - 1, by omega⟩
  refine J_aload_n C dL_law_1563 rfl rfl ?_
  refine J_aload_n C dL_law_1564 rfl rfl ?_
  refine J_iload C dL_law_1565 rfl ?_
  refine J_iconst C dL_law_1567 (rg_of (by decide)) ?_
  refine J_iadd C dL_law_1568 ?_
  obtain ⟨h01, hn2, h⟩ := h
  refine K_sld C HX dL_law_1569 h01 hn2 ?_
  refine J_aload_n C dL_law_1570 rfl rfl ?_
  refine K_SW C M.1 M.2.1 [vr (some x1), vi (scr (w32 (x4 + 1))), vr (some x3)] [] miw_L_passSignal wg_989 wg_990 dL_law_1571 rfl rfl (by decide) (Nat.le_of_ble_eq_true rfl) (c_L_passSignal (C.2.2.2.2.2.2.2) (by omega) h) (fun v9 S4 F5 I6 hq9 => ?_) rfl
  clear h
  obtain ⟨z3, rfl, h⟩ := hq9
  refine K_istore C [vr (some bS), vr (some x1), vr (some x2), vr (some x3), vi x4, vi z3, vl 0] dL_law_1574 (Nat.le_of_ble_eq_true rfl) rfl ?_
  refine J_aload_n C dL_law_1576 rfl rfl ?_
  refine J_aload_n C dL_law_1577 rfl rfl ?_
  refine J_iload C dL_law_1578 rfl ?_
  refine J_iconst C dL_law_1580 (rg_of (by decide)) ?_
  refine J_iadd C dL_law_1581 ?_
  obtain ⟨h07, hn8, h⟩ := h
  refine K_sld C HX dL_law_1582 h07 hn8 ?_
  obtain ⟨hK9, h⟩ := h
  refine K_VH C M.1 M.2.1 [vi (scr (w32 (x4 + 1)))] [] mi_X9_passSignal wg_1594 wg_1595 wg_1596 ⟨rfl, by decide⟩ dL_law_1583 hK9 rfl rfl (by decide) (Nat.le_of_ble_eq_true rfl) (c_X9_passSignal (C.2.2.2.2.2.2.2) (by omega) h) (fun v9 S' F11 I12 hq9 => ?_) K_no rfl
  clear h
  obtain ⟨z10, rfl, rfl, h⟩ := hq9
  refine K_istore C [vr (some bS), vr (some x1), vr (some x2), vr (some x3), vi x4, vi z3, vi z10] dL_law_1586 (Nat.le_of_ble_eq_true rfl) rfl ?_
  refine J_aload_n C dL_law_1588 rfl rfl ?_
  refine K_VH C M.1 M.2.1 [] [] mi_X9_thrown wg_1403 wg_1404 wg_1405 ⟨rfl, by decide⟩ dL_law_1589 hK9 rfl rfl (by decide) (Nat.le_of_ble_eq_true rfl) (c_X9_thrown (C.2.2.2.2.2.2.2) (by omega) h) (fun v9 S' F' I' hq9 => ?_) K_no rfl
  clear h
  obtain ⟨z13, rfl, rfl, rfl, rfl, h⟩ := hq9
  refine J_iload C dL_law_1592 rfl ?_
  refine J_icmp_eq C dL_law_1594 (tgt := 1599) rfl (fun c1594 => ?_) (fun c1594 => ?_)
  · have h := h.1 c1594
    refine J_iload C dL_law_1599 rfl ?_
    refine J_if_ne C dL_law_1601 (tgt := 1623) rfl (fun c1601 => ?_) (fun c1601 => ?_)
    · have h := h.1 c1601
      refine J_less [vr (some bS), vr (some x1), vr (some x2), vr (some x3), vi x4, vl 0, vl 0] (by unfold lessL; simp [lessL]) ?_
      exact S_L_law_1623 HX C M (by omega) hk23 h
    · have h := h.2 c1601
      refine J_aload_n C dL_law_1604 rfl rfl ?_
      refine J_iconst C dL_law_1605 (rg_of (by decide)) ?_
      obtain ⟨hK14, h⟩ := h
      obtain ⟨h015, hn16, h⟩ := h
      refine J_lald C dL_law_1606 hK14 h015 hn16 ?_
      refine J_iload C dL_law_1607 rfl ?_
      refine J_if_eq C dL_law_1609 (tgt := 1616) rfl (fun c1609 => ?_) (fun c1609 => ?_)
      · have h := h.1 c1609
        refine J_lconst C dL_law_1616 (z := 0) (by decide +kernel) (rg_of (by decide)) ?_
        refine J_less [vr (some bS), vr (some x1), vr (some x2), vr (some x3), vi x4, vl 0, vl 0] (by unfold lessL; simp [lessL]) ?_
        exact S_L_law_1617 HX C M (by omega) hk23 h
      · have h := h.2 c1609
        refine J_lconst C dL_law_1612 (z := 1) (by decide +kernel) (rg_of (by decide)) ?_
        refine J_goto C dL_law_1613 (tgt := 1617) rfl ?_
        refine J_less [vr (some bS), vr (some x1), vr (some x2), vr (some x3), vi x4, vl 0, vl 0] (by unfold lessL; simp [lessL]) ?_
        exact S_L_law_1617 HX C M (by omega) hk23 h
  · have h := h.2 c1594
    refine J_iconst C dL_law_1597 (rg_of (by decide)) ?_
    exact J_zret C dL_law_1598 M.2.2.1 (by decide) ⟨_, rfl, h⟩
set_option maxRecDepth 20000 in
set_option maxHeartbeats 4000000 in
theorem S_L_law_1679 {G : Gp} {X : Xt} {d : Nat} {ln : Int} {scr : Int → Int} {bS : Nat} {k23 : Nat → Nat → Nat → Int → Shp → Fl → Il → Prop} {x1 : Nat} {x2 : Nat} {x3 : Nat} {x4 : Int} {Q : Int → Shp → Fl → Il → Prop} {S : Shp} {F : Fl} {I : Il} (HX : SXc G X bS ln scr) (C : CO G RL cL_law 7 X) (M : ML d (some .boolean) X) (hd : 16 ≤ d) (hk23 : ∀ (x1 : Nat) (x2 : Nat) (x3 : Nat) (x4 : Int) (S' : Shp) (F' : Fl) (I' : Il), k23 x1 x2 x3 x4 S' F' I' → J G X (QD X G (qI fun z S' F' I' => Q z S' F' I') noX) 23 [vr (some bS), vr (some x1), vr (some x2), vr (some x3), vi x4, vl 0, vl 0] [] S' F' I') (h : V_L_law_1679 G ln scr k23 x1 x2 x3 x4 S F I Q) : J G X (QD X G (qI fun z S' F' I' => Q z S' F' I') noX) 1679 [vr (some bS), vr (some x1), vr (some x2), vr (some x3), vi x4, vl 0, vl 0] [] S F I := by
  unfold V_L_law_1679 at h
  refine J_goto C dL_law_1679 (tgt := 2846) rfl ?_
  exact S_L_law_2846 HX C M (by omega) hk23 h
set_option maxRecDepth 20000 in
set_option maxHeartbeats 4000000 in
theorem S_L_law_1626 {G : Gp} {X : Xt} {d : Nat} {ln : Int} {scr : Int → Int} {bS : Nat} {k23 : Nat → Nat → Nat → Int → Shp → Fl → Il → Prop} {x1 : Nat} {x2 : Nat} {x3 : Nat} {x4 : Int} {Q : Int → Shp → Fl → Il → Prop} {S : Shp} {F : Fl} {I : Il} (HX : SXc G X bS ln scr) (C : CO G RL cL_law 7 X) (M : ML d (some .boolean) X) (hd : 16 ≤ d) (hk23 : ∀ (x1 : Nat) (x2 : Nat) (x3 : Nat) (x4 : Int) (S' : Shp) (F' : Fl) (I' : Il), k23 x1 x2 x3 x4 S' F' I' → J G X (QD X G (qI fun z S' F' I' => Q z S' F' I') noX) 23 [vr (some bS), vr (some x1), vr (some x2), vr (some x3), vi x4, vl 0, vl 0] [] S' F' I') (h : V_L_law_1626 G ln scr k23 x1 x2 x3 x4 S F I Q) : J G X (QD X G (qI fun z S' F' I' => Q z S' F' I') noX) 1626 [vr (some bS), vr (some x1), vr (some x2), vr (some x3), vi x4, vl 0, vl 0] [] S F I := by
  unfold V_L_law_1626 at h
  obtain ⟨d, rfl⟩ : ∃ d9, d = d9 + 1 := ⟨d - 1, by omega⟩
  refine J_aload_n C dL_law_1626 rfl rfl ?_
  refine J_aload_n C dL_law_1627 rfl rfl ?_
  refine J_iload C dL_law_1628 rfl ?_
  refine J_iconst C dL_law_1630 (rg_of (by decide)) ?_
  refine J_iadd C dL_law_1631 ?_
  obtain ⟨h01, hn2, h⟩ := h
  refine K_sld C HX dL_law_1632 h01 hn2 ?_
  refine J_aload_n C dL_law_1633 rfl rfl ?_
  refine K_SW C M.1 M.2.1 [vr (some x1), vi (scr (w32 (x4 + 1))), vr (some x3)] [] miw_L_clear wg_1004 wg_1005 dL_law_1634 rfl rfl (by decide) (Nat.le_of_ble_eq_true rfl) (c_L_clear (C.2.2.2.2.2.2.2) (by omega) h) (fun v9 S4 F5 I6 hq9 => ?_) rfl
  clear h
  obtain ⟨z3, rfl, h⟩ := hq9
  refine K_istore C [vr (some bS), vr (some x1), vr (some x2), vr (some x3), vi x4, vi z3, vl 0] dL_law_1637 (Nat.le_of_ble_eq_true rfl) rfl ?_
  refine J_aload_n C dL_law_1639 rfl rfl ?_
  refine J_aload_n C dL_law_1640 rfl rfl ?_
  refine J_iload C dL_law_1641 rfl ?_
  refine J_iconst C dL_law_1643 (rg_of (by decide)) ?_
  refine J_iadd C dL_law_1644 ?_
  obtain ⟨h07, hn8, h⟩ := h
  refine K_sld C HX dL_law_1645 h07 hn8 ?_
  obtain ⟨hK9, h⟩ := h
  refine K_VH C M.1 M.2.1 [vi (scr (w32 (x4 + 1)))] [] mi_X9_clear wg_1602 wg_1603 wg_1604 ⟨rfl, by decide⟩ dL_law_1646 hK9 rfl rfl (by decide) (Nat.le_of_ble_eq_true rfl) (c_X9_clear (C.2.2.2.2.2.2.2) (by omega) h) (fun v9 S' F11 I12 hq9 => ?_) K_no rfl
  clear h
  obtain ⟨z10, rfl, rfl, h⟩ := hq9
  refine K_istore C [vr (some bS), vr (some x1), vr (some x2), vr (some x3), vi x4, vi z3, vi z10] dL_law_1649 (Nat.le_of_ble_eq_true rfl) rfl ?_
  refine J_aload_n C dL_law_1651 rfl rfl ?_
  refine K_VH C M.1 M.2.1 [] [] mi_X9_thrown wg_1403 wg_1404 wg_1405 ⟨rfl, by decide⟩ dL_law_1652 hK9 rfl rfl (by decide) (Nat.le_of_ble_eq_true rfl) (c_X9_thrown (C.2.2.2.2.2.2.2) (by omega) h) (fun v9 S' F' I' hq9 => ?_) K_no rfl
  clear h
  obtain ⟨z13, rfl, rfl, rfl, rfl, h⟩ := hq9
  refine J_iload C dL_law_1655 rfl ?_
  refine J_icmp_eq C dL_law_1657 (tgt := 1662) rfl (fun c1657 => ?_) (fun c1657 => ?_)
  · have h := h.1 c1657
    refine J_iload C dL_law_1662 rfl ?_
    refine J_if_ne C dL_law_1664 (tgt := 1679) rfl (fun c1664 => ?_) (fun c1664 => ?_)
    · have h := h.1 c1664
      refine J_less [vr (some bS), vr (some x1), vr (some x2), vr (some x3), vi x4, vl 0, vl 0] (by unfold lessL; simp [lessL]) ?_
      exact S_L_law_1679 HX C M (by omega) hk23 h
    · have h := h.2 c1664
      refine J_aload_n C dL_law_1667 rfl rfl ?_
      refine J_iconst C dL_law_1668 (rg_of (by decide)) ?_
      obtain ⟨hK14, h⟩ := h
      obtain ⟨h015, hn16, h⟩ := h
      refine J_lald C dL_law_1669 hK14 h015 hn16 ?_
      refine J_iload C dL_law_1670 rfl ?_
      refine J_i2l C dL_law_1672 ?_
      refine J_lcmp C dL_law_1673 ?_
      refine J_if_eq C dL_law_1674 (tgt := 1679) rfl (fun c1674 => ?_) (fun c1674 => ?_)
      · have h := h.1 c1674
        refine J_less [vr (some bS), vr (some x1), vr (some x2), vr (some x3), vi x4, vl 0, vl 0] (by unfold lessL; simp [lessL]) ?_
        exact S_L_law_1679 HX C M (by omega) hk23 h
      · have h := h.2 c1674
        refine J_iconst C dL_law_1677 (rg_of (by decide)) ?_
        exact J_zret C dL_law_1678 M.2.2.1 (by decide) ⟨_, rfl, h⟩
  · have h := h.2 c1657
    refine J_iconst C dL_law_1660 (rg_of (by decide)) ?_
    exact J_zret C dL_law_1661 M.2.2.1 (by decide) ⟨_, rfl, h⟩
set_option maxRecDepth 20000 in
set_option maxHeartbeats 4000000 in
theorem S_L_law_1787 {G : Gp} {X : Xt} {d : Nat} {ln : Int} {scr : Int → Int} {bS : Nat} {k23 : Nat → Nat → Nat → Int → Shp → Fl → Il → Prop} {x1 : Nat} {x2 : Nat} {x3 : Nat} {x4 : Int} {Q : Int → Shp → Fl → Il → Prop} {S : Shp} {F : Fl} {I : Il} (HX : SXc G X bS ln scr) (C : CO G RL cL_law 7 X) (M : ML d (some .boolean) X) (hd : 16 ≤ d) (hk23 : ∀ (x1 : Nat) (x2 : Nat) (x3 : Nat) (x4 : Int) (S' : Shp) (F' : Fl) (I' : Il), k23 x1 x2 x3 x4 S' F' I' → J G X (QD X G (qI fun z S' F' I' => Q z S' F' I') noX) 23 [vr (some bS), vr (some x1), vr (some x2), vr (some x3), vi x4, vl 0, vl 0] [] S' F' I') (h : V_L_law_1787 G ln scr k23 x1 x2 x3 x4 S F I Q) : J G X (QD X G (qI fun z S' F' I' => Q z S' F' I') noX) 1787 [vr (some bS), vr (some x1), vr (some x2), vr (some x3), vi x4, vl 0, vl 0] [] S F I := by
  unfold V_L_law_1787 at h
  refine J_goto C dL_law_1787 (tgt := 2846) rfl ?_
  exact S_L_law_2846 HX C M (by omega) hk23 h
set_option maxRecDepth 20000 in
set_option maxHeartbeats 4000000 in
theorem S_L_law_1748 {G : Gp} {X : Xt} {d : Nat} {ln : Int} {scr : Int → Int} {bS : Nat} {k23 : Nat → Nat → Nat → Int → Shp → Fl → Il → Prop} {x1 : Nat} {x2 : Nat} {x3 : Nat} {x4 : Int} {x5 : Int} {s0 : Int} {s1 : Int} {s2 : Int} {s3 : Nat} {Q : Int → Shp → Fl → Il → Prop} {S : Shp} {F : Fl} {I : Il} (HX : SXc G X bS ln scr) (C : CO G RL cL_law 7 X) (M : ML d (some .boolean) X) (hd : 16 ≤ d) (hk23 : ∀ (x1 : Nat) (x2 : Nat) (x3 : Nat) (x4 : Int) (S' : Shp) (F' : Fl) (I' : Il), k23 x1 x2 x3 x4 S' F' I' → J G X (QD X G (qI fun z S' F' I' => Q z S' F' I') noX) 23 [vr (some bS), vr (some x1), vr (some x2), vr (some x3), vi x4, vl 0, vl 0] [] S' F' I') (h : V_L_law_1748 G ln scr k23 x1 x2 x3 x4 x5 s0 s1 s2 s3 S F I Q) : J G X (QD X G (qI fun z S' F' I' => Q z S' F' I') noX) 1748 [vr (some bS), vr (some x1), vr (some x2), vr (some x3), vi x4, vi x5, vl 0] [vi s0, vi s1, vi s2, vr (some s3)] S F I := by
  unfold V_L_law_1748 at h
  obtain ⟨d, rfl⟩ : ∃ d9, d = d9 + 1 := ⟨d - 1, by omega⟩
  refine J_aload_n C dL_law_1748 rfl rfl ?_
  refine J_iload C dL_law_1749 rfl ?_
  refine J_iconst C dL_law_1751 (rg_of (by decide)) ?_
  refine J_iadd C dL_law_1752 ?_
  obtain ⟨h01, hn2, h⟩ := h
  refine K_sld C HX dL_law_1753 h01 hn2 ?_
  obtain ⟨hK3, h⟩ := h
  refine K_VH C M.1 M.2.1 [vi s2, vi s1, vi s0, vi (scr (w32 (x4 + 4)))] [] mi_X9_rate wg_1606 wg_1607 wg_1608 ⟨rfl, by decide⟩ dL_law_1754 hK3 rfl rfl (by decide) (Nat.le_of_ble_eq_true rfl) (c_X9_rate (C.2.2.2.2.2.2.2) (by omega) h) (fun v9 S' F5 I6 hq9 => ?_) K_no rfl
  clear h
  obtain ⟨z4, rfl, rfl, h⟩ := hq9
  refine K_istore C [vr (some bS), vr (some x1), vr (some x2), vr (some x3), vi x4, vi x5, vi z4] dL_law_1757 (Nat.le_of_ble_eq_true rfl) rfl ?_
  refine J_aload_n C dL_law_1759 rfl rfl ?_
  obtain ⟨hK7, h⟩ := h
  refine K_VH C M.1 M.2.1 [] [] mi_X9_thrown wg_1403 wg_1404 wg_1405 ⟨rfl, by decide⟩ dL_law_1760 hK7 rfl rfl (by decide) (Nat.le_of_ble_eq_true rfl) (c_X9_thrown (C.2.2.2.2.2.2.2) (by omega) h) (fun v9 S' F' I' hq9 => ?_) K_no rfl
  clear h
  obtain ⟨z8, rfl, rfl, rfl, rfl, h⟩ := hq9
  refine J_iload C dL_law_1763 rfl ?_
  refine J_icmp_eq C dL_law_1765 (tgt := 1770) rfl (fun c1765 => ?_) (fun c1765 => ?_)
  · have h := h.1 c1765
    refine J_iload C dL_law_1770 rfl ?_
    refine J_if_ne C dL_law_1772 (tgt := 1787) rfl (fun c1772 => ?_) (fun c1772 => ?_)
    · have h := h.1 c1772
      refine J_less [vr (some bS), vr (some x1), vr (some x2), vr (some x3), vi x4, vl 0, vl 0] (by unfold lessL; simp [lessL]) ?_
      exact S_L_law_1787 HX C M (by omega) hk23 h
    · have h := h.2 c1772
      refine J_aload_n C dL_law_1775 rfl rfl ?_
      refine J_iconst C dL_law_1776 (rg_of (by decide)) ?_
      obtain ⟨hK9, h⟩ := h
      obtain ⟨h010, hn11, h⟩ := h
      refine J_lald C dL_law_1777 hK9 h010 hn11 ?_
      refine J_iload C dL_law_1778 rfl ?_
      refine J_i2l C dL_law_1780 ?_
      refine J_lcmp C dL_law_1781 ?_
      refine J_if_eq C dL_law_1782 (tgt := 1787) rfl (fun c1782 => ?_) (fun c1782 => ?_)
      · have h := h.1 c1782
        refine J_less [vr (some bS), vr (some x1), vr (some x2), vr (some x3), vi x4, vl 0, vl 0] (by unfold lessL; simp [lessL]) ?_
        exact S_L_law_1787 HX C M (by omega) hk23 h
      · have h := h.2 c1782
        refine J_iconst C dL_law_1785 (rg_of (by decide)) ?_
        exact J_zret C dL_law_1786 M.2.2.1 (by decide) ⟨_, rfl, h⟩
  · have h := h.2 c1765
    refine J_iconst C dL_law_1768 (rg_of (by decide)) ?_
    exact J_zret C dL_law_1769 M.2.2.1 (by decide) ⟨_, rfl, h⟩
set_option maxRecDepth 20000 in
set_option maxHeartbeats 4000000 in
theorem S_L_law_1709 {G : Gp} {X : Xt} {d : Nat} {ln : Int} {scr : Int → Int} {bS : Nat} {k23 : Nat → Nat → Nat → Int → Shp → Fl → Il → Prop} {x1 : Nat} {x2 : Nat} {x3 : Nat} {x4 : Int} {s0 : Int} {s1 : Int} {s2 : Int} {s3 : Nat} {Q : Int → Shp → Fl → Il → Prop} {S : Shp} {F : Fl} {I : Il} (HX : SXc G X bS ln scr) (C : CO G RL cL_law 7 X) (M : ML d (some .boolean) X) (hd : 16 ≤ d) (hk23 : ∀ (x1 : Nat) (x2 : Nat) (x3 : Nat) (x4 : Int) (S' : Shp) (F' : Fl) (I' : Il), k23 x1 x2 x3 x4 S' F' I' → J G X (QD X G (qI fun z S' F' I' => Q z S' F' I') noX) 23 [vr (some bS), vr (some x1), vr (some x2), vr (some x3), vi x4, vl 0, vl 0] [] S' F' I') (h : V_L_law_1709 G ln scr k23 x1 x2 x3 x4 s0 s1 s2 s3 S F I Q) : J G X (QD X G (qI fun z S' F' I' => Q z S' F' I') noX) 1709 [vr (some bS), vr (some x1), vr (some x2), vr (some x3), vi x4, vl 0, vl 0] [vi s0, vi s1, vi s2, vr (some s3)] S F I := by
  unfold V_L_law_1709 at h
  obtain ⟨d, rfl⟩ : ∃ d9, d = d9 + 1 := ⟨d - 1, by omega⟩
  refine J_aload_n C dL_law_1709 rfl rfl ?_
  refine J_iload C dL_law_1710 rfl ?_
  refine J_iconst C dL_law_1712 (rg_of (by decide)) ?_
  refine J_iadd C dL_law_1713 ?_
  obtain ⟨h01, hn2, h⟩ := h
  refine K_sld C HX dL_law_1714 h01 hn2 ?_
  refine J_aload_n C dL_law_1715 rfl rfl ?_
  refine K_SW C M.1 M.2.1 [vr (some s3), vi s2, vi s1, vi s0, vi (scr (w32 (x4 + 4))), vr (some x3)] [] miw_L_rate wg_1015 wg_1016 dL_law_1716 rfl rfl (by decide) (Nat.le_of_ble_eq_true rfl) (c_L_rate (C.2.2.2.2.2.2.2) (by omega) h) (fun v9 S4 F5 I6 hq9 => ?_) rfl
  clear h
  obtain ⟨z3, rfl, h⟩ := hq9
  refine K_istore C [vr (some bS), vr (some x1), vr (some x2), vr (some x3), vi x4, vi z3, vl 0] dL_law_1719 (Nat.le_of_ble_eq_true rfl) rfl ?_
  refine J_aload_n C dL_law_1721 rfl rfl ?_
  refine J_aload_n C dL_law_1722 rfl rfl ?_
  refine J_iload C dL_law_1723 rfl ?_
  refine J_iconst C dL_law_1725 (rg_of (by decide)) ?_
  refine J_iadd C dL_law_1726 ?_
  obtain ⟨h07, hn8, h⟩ := h
  refine K_sld C HX dL_law_1727 h07 hn8 ?_
  refine J_aload_n C dL_law_1728 rfl rfl ?_
  refine J_iload C dL_law_1729 rfl ?_
  refine J_iconst C dL_law_1731 (rg_of (by decide)) ?_
  refine J_iadd C dL_law_1732 ?_
  obtain ⟨h09, hn10, h⟩ := h
  refine K_sld C HX dL_law_1733 h09 hn10 ?_
  refine J_aload_n C dL_law_1734 rfl rfl ?_
  refine J_iload C dL_law_1735 rfl ?_
  refine J_iconst C dL_law_1737 (rg_of (by decide)) ?_
  refine J_iadd C dL_law_1738 ?_
  obtain ⟨h011, hn12, h⟩ := h
  refine K_sld C HX dL_law_1739 h011 hn12 ?_
  refine J_if_eq C dL_law_1740 (tgt := 1747) rfl (fun c1740 => ?_) (fun c1740 => ?_)
  · have h := h.1 c1740
    refine J_iconst C dL_law_1747 (rg_of (by decide)) ?_
    exact S_L_law_1748 HX C M (by omega) hk23 h
  · have h := h.2 c1740
    refine J_iconst C dL_law_1743 (rg_of (by decide)) ?_
    refine J_goto C dL_law_1744 (tgt := 1748) rfl ?_
    exact S_L_law_1748 HX C M (by omega) hk23 h
set_option maxRecDepth 20000 in
set_option maxHeartbeats 4000000 in
theorem S_L_law_1682 {G : Gp} {X : Xt} {d : Nat} {ln : Int} {scr : Int → Int} {bS : Nat} {k23 : Nat → Nat → Nat → Int → Shp → Fl → Il → Prop} {x1 : Nat} {x2 : Nat} {x3 : Nat} {x4 : Int} {Q : Int → Shp → Fl → Il → Prop} {S : Shp} {F : Fl} {I : Il} (HX : SXc G X bS ln scr) (C : CO G RL cL_law 7 X) (M : ML d (some .boolean) X) (hd : 16 ≤ d) (hk23 : ∀ (x1 : Nat) (x2 : Nat) (x3 : Nat) (x4 : Int) (S' : Shp) (F' : Fl) (I' : Il), k23 x1 x2 x3 x4 S' F' I' → J G X (QD X G (qI fun z S' F' I' => Q z S' F' I') noX) 23 [vr (some bS), vr (some x1), vr (some x2), vr (some x3), vi x4, vl 0, vl 0] [] S' F' I') (h : V_L_law_1682 G ln scr k23 x1 x2 x3 x4 S F I Q) : J G X (QD X G (qI fun z S' F' I' => Q z S' F' I') noX) 1682 [vr (some bS), vr (some x1), vr (some x2), vr (some x3), vi x4, vl 0, vl 0] [] S F I := by
  unfold V_L_law_1682 at h
  refine J_aload_n C dL_law_1682 rfl rfl ?_
  refine J_aload_n C dL_law_1683 rfl rfl ?_
  refine J_iload C dL_law_1684 rfl ?_
  refine J_iconst C dL_law_1686 (rg_of (by decide)) ?_
  refine J_iadd C dL_law_1687 ?_
  obtain ⟨h01, hn2, h⟩ := h
  refine K_sld C HX dL_law_1688 h01 hn2 ?_
  refine J_aload_n C dL_law_1689 rfl rfl ?_
  refine J_iload C dL_law_1690 rfl ?_
  refine J_iconst C dL_law_1692 (rg_of (by decide)) ?_
  refine J_iadd C dL_law_1693 ?_
  obtain ⟨h03, hn4, h⟩ := h
  refine K_sld C HX dL_law_1694 h03 hn4 ?_
  refine J_aload_n C dL_law_1695 rfl rfl ?_
  refine J_iload C dL_law_1696 rfl ?_
  refine J_iconst C dL_law_1698 (rg_of (by decide)) ?_
  refine J_iadd C dL_law_1699 ?_
  obtain ⟨h05, hn6, h⟩ := h
  refine K_sld C HX dL_law_1700 h05 hn6 ?_
  refine J_if_eq C dL_law_1701 (tgt := 1708) rfl (fun c1701 => ?_) (fun c1701 => ?_)
  · have h := h.1 c1701
    refine J_iconst C dL_law_1708 (rg_of (by decide)) ?_
    exact S_L_law_1709 HX C M (by omega) hk23 h
  · have h := h.2 c1701
    refine J_iconst C dL_law_1704 (rg_of (by decide)) ?_
    refine J_goto C dL_law_1705 (tgt := 1709) rfl ?_
    exact S_L_law_1709 HX C M (by omega) hk23 h
set_option maxRecDepth 20000 in
set_option maxHeartbeats 4000000 in
theorem S_L_law_1855 {G : Gp} {X : Xt} {d : Nat} {ln : Int} {scr : Int → Int} {bS : Nat} {k23 : Nat → Nat → Nat → Int → Shp → Fl → Il → Prop} {x1 : Nat} {x2 : Nat} {x3 : Nat} {x4 : Int} {Q : Int → Shp → Fl → Il → Prop} {S : Shp} {F : Fl} {I : Il} (HX : SXc G X bS ln scr) (C : CO G RL cL_law 7 X) (M : ML d (some .boolean) X) (hd : 16 ≤ d) (hk23 : ∀ (x1 : Nat) (x2 : Nat) (x3 : Nat) (x4 : Int) (S' : Shp) (F' : Fl) (I' : Il), k23 x1 x2 x3 x4 S' F' I' → J G X (QD X G (qI fun z S' F' I' => Q z S' F' I') noX) 23 [vr (some bS), vr (some x1), vr (some x2), vr (some x3), vi x4, vl 0, vl 0] [] S' F' I') (h : V_L_law_1855 G ln scr k23 x1 x2 x3 x4 S F I Q) : J G X (QD X G (qI fun z S' F' I' => Q z S' F' I') noX) 1855 [vr (some bS), vr (some x1), vr (some x2), vr (some x3), vi x4, vl 0, vl 0] [] S F I := by
  unfold V_L_law_1855 at h
  refine J_goto C dL_law_1855 (tgt := 2846) rfl ?_
  exact S_L_law_2846 HX C M (by omega) hk23 h
set_option maxRecDepth 20000 in
set_option maxHeartbeats 4000000 in
theorem S_L_law_1790 {G : Gp} {X : Xt} {d : Nat} {ln : Int} {scr : Int → Int} {bS : Nat} {k23 : Nat → Nat → Nat → Int → Shp → Fl → Il → Prop} {x1 : Nat} {x2 : Nat} {x3 : Nat} {x4 : Int} {Q : Int → Shp → Fl → Il → Prop} {S : Shp} {F : Fl} {I : Il} (HX : SXc G X bS ln scr) (C : CO G RL cL_law 7 X) (M : ML d (some .boolean) X) (hd : 16 ≤ d) (hk23 : ∀ (x1 : Nat) (x2 : Nat) (x3 : Nat) (x4 : Int) (S' : Shp) (F' : Fl) (I' : Il), k23 x1 x2 x3 x4 S' F' I' → J G X (QD X G (qI fun z S' F' I' => Q z S' F' I') noX) 23 [vr (some bS), vr (some x1), vr (some x2), vr (some x3), vi x4, vl 0, vl 0] [] S' F' I') (h : V_L_law_1790 G ln scr k23 x1 x2 x3 x4 S F I Q) : J G X (QD X G (qI fun z S' F' I' => Q z S' F' I') noX) 1790 [vr (some bS), vr (some x1), vr (some x2), vr (some x3), vi x4, vl 0, vl 0] [] S F I := by
  unfold V_L_law_1790 at h
  obtain ⟨d, rfl⟩ : ∃ d9, d = d9 + 1 := ⟨d - 1, by omega⟩
  refine J_aload_n C dL_law_1790 rfl rfl ?_
  refine J_aload_n C dL_law_1791 rfl rfl ?_
  refine J_iload C dL_law_1792 rfl ?_
  refine J_iconst C dL_law_1794 (rg_of (by decide)) ?_
  refine J_iadd C dL_law_1795 ?_
  obtain ⟨h01, hn2, h⟩ := h
  refine K_sld C HX dL_law_1796 h01 hn2 ?_
  refine J_aload_n C dL_law_1797 rfl rfl ?_
  refine J_iload C dL_law_1798 rfl ?_
  refine J_iconst C dL_law_1800 (rg_of (by decide)) ?_
  refine J_iadd C dL_law_1801 ?_
  obtain ⟨h03, hn4, h⟩ := h
  refine K_sld C HX dL_law_1802 h03 hn4 ?_
  refine J_aload_n C dL_law_1803 rfl rfl ?_
  refine K_SW C M.1 M.2.1 [vr (some x1), vi (scr (w32 (x4 + 1))), vi (scr (w32 (x4 + 2))), vr (some x3)] [] miw_L_offer wg_1022 wg_1023 dL_law_1804 rfl rfl (by decide) (Nat.le_of_ble_eq_true rfl) (c_L_offer (C.2.2.2.2.2.2.2) (by omega) h) (fun v9 S6 F7 I8 hq9 => ?_) rfl
  clear h
  obtain ⟨z5, rfl, h⟩ := hq9
  refine K_istore C [vr (some bS), vr (some x1), vr (some x2), vr (some x3), vi x4, vi z5, vl 0] dL_law_1807 (Nat.le_of_ble_eq_true rfl) rfl ?_
  refine J_aload_n C dL_law_1809 rfl rfl ?_
  refine J_aload_n C dL_law_1810 rfl rfl ?_
  refine J_iload C dL_law_1811 rfl ?_
  refine J_iconst C dL_law_1813 (rg_of (by decide)) ?_
  refine J_iadd C dL_law_1814 ?_
  obtain ⟨h09, hn10, h⟩ := h
  refine K_sld C HX dL_law_1815 h09 hn10 ?_
  refine J_aload_n C dL_law_1816 rfl rfl ?_
  refine J_iload C dL_law_1817 rfl ?_
  refine J_iconst C dL_law_1819 (rg_of (by decide)) ?_
  refine J_iadd C dL_law_1820 ?_
  obtain ⟨h011, hn12, h⟩ := h
  refine K_sld C HX dL_law_1821 h011 hn12 ?_
  obtain ⟨hK13, h⟩ := h
  refine K_VH C M.1 M.2.1 [vi (scr (w32 (x4 + 1))), vi (scr (w32 (x4 + 2)))] [] mi_X9_offer wg_1610 wg_1611 wg_1612 ⟨rfl, by decide⟩ dL_law_1822 hK13 rfl rfl (by decide) (Nat.le_of_ble_eq_true rfl) (c_X9_offer (C.2.2.2.2.2.2.2) (by omega) h) (fun v9 S' F15 I16 hq9 => ?_) K_no rfl
  clear h
  obtain ⟨z14, rfl, rfl, h⟩ := hq9
  refine K_istore C [vr (some bS), vr (some x1), vr (some x2), vr (some x3), vi x4, vi z5, vi z14] dL_law_1825 (Nat.le_of_ble_eq_true rfl) rfl ?_
  refine J_aload_n C dL_law_1827 rfl rfl ?_
  refine K_VH C M.1 M.2.1 [] [] mi_X9_thrown wg_1403 wg_1404 wg_1405 ⟨rfl, by decide⟩ dL_law_1828 hK13 rfl rfl (by decide) (Nat.le_of_ble_eq_true rfl) (c_X9_thrown (C.2.2.2.2.2.2.2) (by omega) h) (fun v9 S' F' I' hq9 => ?_) K_no rfl
  clear h
  obtain ⟨z17, rfl, rfl, rfl, rfl, h⟩ := hq9
  refine J_iload C dL_law_1831 rfl ?_
  refine J_icmp_eq C dL_law_1833 (tgt := 1838) rfl (fun c1833 => ?_) (fun c1833 => ?_)
  · have h := h.1 c1833
    refine J_iload C dL_law_1838 rfl ?_
    refine J_if_ne C dL_law_1840 (tgt := 1855) rfl (fun c1840 => ?_) (fun c1840 => ?_)
    · have h := h.1 c1840
      refine J_less [vr (some bS), vr (some x1), vr (some x2), vr (some x3), vi x4, vl 0, vl 0] (by unfold lessL; simp [lessL]) ?_
      exact S_L_law_1855 HX C M (by omega) hk23 h
    · have h := h.2 c1840
      refine J_aload_n C dL_law_1843 rfl rfl ?_
      refine J_iconst C dL_law_1844 (rg_of (by decide)) ?_
      obtain ⟨hK18, h⟩ := h
      obtain ⟨h019, hn20, h⟩ := h
      refine J_lald C dL_law_1845 hK18 h019 hn20 ?_
      refine J_iload C dL_law_1846 rfl ?_
      refine J_i2l C dL_law_1848 ?_
      refine J_lcmp C dL_law_1849 ?_
      refine J_if_eq C dL_law_1850 (tgt := 1855) rfl (fun c1850 => ?_) (fun c1850 => ?_)
      · have h := h.1 c1850
        refine J_less [vr (some bS), vr (some x1), vr (some x2), vr (some x3), vi x4, vl 0, vl 0] (by unfold lessL; simp [lessL]) ?_
        exact S_L_law_1855 HX C M (by omega) hk23 h
      · have h := h.2 c1850
        refine J_iconst C dL_law_1853 (rg_of (by decide)) ?_
        exact J_zret C dL_law_1854 M.2.2.1 (by decide) ⟨_, rfl, h⟩
  · have h := h.2 c1833
    refine J_iconst C dL_law_1836 (rg_of (by decide)) ?_
    exact J_zret C dL_law_1837 M.2.2.1 (by decide) ⟨_, rfl, h⟩
set_option maxRecDepth 20000 in
set_option maxHeartbeats 4000000 in
theorem S_L_law_1858 {G : Gp} {X : Xt} {d : Nat} {ln : Int} {scr : Int → Int} {bS : Nat} {k23 : Nat → Nat → Nat → Int → Shp → Fl → Il → Prop} {x1 : Nat} {x2 : Nat} {x3 : Nat} {x4 : Int} {Q : Int → Shp → Fl → Il → Prop} {S : Shp} {F : Fl} {I : Il} (HX : SXc G X bS ln scr) (C : CO G RL cL_law 7 X) (M : ML d (some .boolean) X) (hd : 16 ≤ d) (hk23 : ∀ (x1 : Nat) (x2 : Nat) (x3 : Nat) (x4 : Int) (S' : Shp) (F' : Fl) (I' : Il), k23 x1 x2 x3 x4 S' F' I' → J G X (QD X G (qI fun z S' F' I' => Q z S' F' I') noX) 23 [vr (some bS), vr (some x1), vr (some x2), vr (some x3), vi x4, vl 0, vl 0] [] S' F' I') (h : V_L_law_1858 G ln scr k23 x1 x2 x3 x4 S F I Q) : J G X (QD X G (qI fun z S' F' I' => Q z S' F' I') noX) 1858 [vr (some bS), vr (some x1), vr (some x2), vr (some x3), vi x4, vl 0, vl 0] [] S F I := by
  unfold V_L_law_1858 at h
  obtain ⟨d, rfl⟩ : ∃ d9, d = d9 + 1 := ⟨d - 1, by omega⟩
  refine J_aload_n C dL_law_1858 rfl rfl ?_
  refine J_aload_n C dL_law_1859 rfl rfl ?_
  refine J_iload C dL_law_1860 rfl ?_
  refine J_iconst C dL_law_1862 (rg_of (by decide)) ?_
  refine J_iadd C dL_law_1863 ?_
  obtain ⟨h01, hn2, h⟩ := h
  refine K_sld C HX dL_law_1864 h01 hn2 ?_
  refine J_aload_n C dL_law_1865 rfl rfl ?_
  refine J_iload C dL_law_1866 rfl ?_
  refine J_iconst C dL_law_1868 (rg_of (by decide)) ?_
  refine J_iadd C dL_law_1869 ?_
  obtain ⟨h03, hn4, h⟩ := h
  refine K_sld C HX dL_law_1870 h03 hn4 ?_
  refine K_SW C M.1 M.2.1 [vr (some x1), vi (scr (w32 (x4 + 1))), vi (scr (w32 (x4 + 2)))] [] miw_L_load wg_1051 wg_1052 dL_law_1871 rfl rfl (by decide) (Nat.le_of_ble_eq_true rfl) (c_L_load (C.2.2.2.2.2.2.2) (by omega) h) (fun v9 S6 F7 I8 hq9 => ?_) rfl
  clear h
  obtain ⟨z5, rfl, h⟩ := hq9
  refine K_istore C [vr (some bS), vr (some x1), vr (some x2), vr (some x3), vi x4, vi z5, vl 0] dL_law_1874 (Nat.le_of_ble_eq_true rfl) rfl ?_
  refine J_aload_n C dL_law_1876 rfl rfl ?_
  refine J_aload_n C dL_law_1877 rfl rfl ?_
  refine J_iload C dL_law_1878 rfl ?_
  refine J_iconst C dL_law_1880 (rg_of (by decide)) ?_
  refine J_iadd C dL_law_1881 ?_
  obtain ⟨h09, hn10, h⟩ := h
  refine K_sld C HX dL_law_1882 h09 hn10 ?_
  refine J_aload_n C dL_law_1883 rfl rfl ?_
  refine J_iload C dL_law_1884 rfl ?_
  refine J_iconst C dL_law_1886 (rg_of (by decide)) ?_
  refine J_iadd C dL_law_1887 ?_
  obtain ⟨h011, hn12, h⟩ := h
  refine K_sld C HX dL_law_1888 h011 hn12 ?_
  obtain ⟨hK13, h⟩ := h
  refine K_VH C M.1 M.2.1 [vi (scr (w32 (x4 + 1))), vi (scr (w32 (x4 + 2)))] [] mi_X9_load wg_1614 wg_1615 wg_1616 ⟨rfl, by decide⟩ dL_law_1889 hK13 rfl rfl (by decide) (Nat.le_of_ble_eq_true rfl) (c_X9_load (C.2.2.2.2.2.2.2) (by omega) h) (fun v9 S' F14 I15 hq9 => ?_) K_no rfl
  clear h
  obtain ⟨rfl, rfl, h⟩ := hq9
  refine J_aload_n C dL_law_1892 rfl rfl ?_
  refine K_VH C M.1 M.2.1 [] [] mi_X9_thrown wg_1403 wg_1404 wg_1405 ⟨rfl, by decide⟩ dL_law_1893 hK13 rfl rfl (by decide) (Nat.le_of_ble_eq_true rfl) (c_X9_thrown (C.2.2.2.2.2.2.2) (by omega) h) (fun v9 S' F' I' hq9 => ?_) K_no rfl
  clear h
  obtain ⟨z16, rfl, rfl, rfl, rfl, h⟩ := hq9
  refine J_iload C dL_law_1896 rfl ?_
  refine J_icmp_eq C dL_law_1898 (tgt := 1903) rfl (fun c1898 => ?_) (fun c1898 => ?_)
  · have h := h.1 c1898
    refine J_goto C dL_law_1903 (tgt := 2846) rfl ?_
    refine J_less [vr (some bS), vr (some x1), vr (some x2), vr (some x3), vi x4, vl 0, vl 0] (by unfold lessL; simp [lessL]) ?_
    exact S_L_law_2846 HX C M (by omega) hk23 h
  · have h := h.2 c1898
    refine J_iconst C dL_law_1901 (rg_of (by decide)) ?_
    exact J_zret C dL_law_1902 M.2.2.1 (by decide) ⟨_, rfl, h⟩
set_option maxRecDepth 20000 in
set_option maxHeartbeats 4000000 in
theorem S_L_law_1959 {G : Gp} {X : Xt} {d : Nat} {ln : Int} {scr : Int → Int} {bS : Nat} {k23 : Nat → Nat → Nat → Int → Shp → Fl → Il → Prop} {x1 : Nat} {x2 : Nat} {x3 : Nat} {x4 : Int} {Q : Int → Shp → Fl → Il → Prop} {S : Shp} {F : Fl} {I : Il} (HX : SXc G X bS ln scr) (C : CO G RL cL_law 7 X) (M : ML d (some .boolean) X) (hd : 16 ≤ d) (hk23 : ∀ (x1 : Nat) (x2 : Nat) (x3 : Nat) (x4 : Int) (S' : Shp) (F' : Fl) (I' : Il), k23 x1 x2 x3 x4 S' F' I' → J G X (QD X G (qI fun z S' F' I' => Q z S' F' I') noX) 23 [vr (some bS), vr (some x1), vr (some x2), vr (some x3), vi x4, vl 0, vl 0] [] S' F' I') (h : V_L_law_1959 G ln scr k23 x1 x2 x3 x4 S F I Q) : J G X (QD X G (qI fun z S' F' I' => Q z S' F' I') noX) 1959 [vr (some bS), vr (some x1), vr (some x2), vr (some x3), vi x4, vl 0, vl 0] [] S F I := by
  unfold V_L_law_1959 at h
  refine J_goto C dL_law_1959 (tgt := 2846) rfl ?_
  exact S_L_law_2846 HX C M (by omega) hk23 h
set_option maxRecDepth 20000 in
set_option maxHeartbeats 4000000 in
theorem S_L_law_1906 {G : Gp} {X : Xt} {d : Nat} {ln : Int} {scr : Int → Int} {bS : Nat} {k23 : Nat → Nat → Nat → Int → Shp → Fl → Il → Prop} {x1 : Nat} {x2 : Nat} {x3 : Nat} {x4 : Int} {Q : Int → Shp → Fl → Il → Prop} {S : Shp} {F : Fl} {I : Il} (HX : SXc G X bS ln scr) (C : CO G RL cL_law 7 X) (M : ML d (some .boolean) X) (hd : 16 ≤ d) (hk23 : ∀ (x1 : Nat) (x2 : Nat) (x3 : Nat) (x4 : Int) (S' : Shp) (F' : Fl) (I' : Il), k23 x1 x2 x3 x4 S' F' I' → J G X (QD X G (qI fun z S' F' I' => Q z S' F' I') noX) 23 [vr (some bS), vr (some x1), vr (some x2), vr (some x3), vi x4, vl 0, vl 0] [] S' F' I') (h : V_L_law_1906 G ln scr k23 x1 x2 x3 x4 S F I Q) : J G X (QD X G (qI fun z S' F' I' => Q z S' F' I') noX) 1906 [vr (some bS), vr (some x1), vr (some x2), vr (some x3), vi x4, vl 0, vl 0] [] S F I := by
  unfold V_L_law_1906 at h
  obtain ⟨d, rfl⟩ : ∃ d9, d = d9 + 1 := ⟨d - 1, by omega⟩
  refine J_aload_n C dL_law_1906 rfl rfl ?_
  refine J_aload_n C dL_law_1907 rfl rfl ?_
  refine J_iload C dL_law_1908 rfl ?_
  refine J_iconst C dL_law_1910 (rg_of (by decide)) ?_
  refine J_iadd C dL_law_1911 ?_
  obtain ⟨h01, hn2, h⟩ := h
  refine K_sld C HX dL_law_1912 h01 hn2 ?_
  refine J_aload_n C dL_law_1913 rfl rfl ?_
  refine K_SW C M.1 M.2.1 [vr (some x1), vi (scr (w32 (x4 + 1))), vr (some x3)] [] miw_L_unload wg_1058 wg_1059 dL_law_1914 rfl rfl (by decide) (Nat.le_of_ble_eq_true rfl) (c_L_unload (C.2.2.2.2.2.2.2) (by omega) h) (fun v9 S4 F5 I6 hq9 => ?_) rfl
  clear h
  obtain ⟨z3, rfl, h⟩ := hq9
  refine K_istore C [vr (some bS), vr (some x1), vr (some x2), vr (some x3), vi x4, vi z3, vl 0] dL_law_1917 (Nat.le_of_ble_eq_true rfl) rfl ?_
  refine J_aload_n C dL_law_1919 rfl rfl ?_
  refine J_aload_n C dL_law_1920 rfl rfl ?_
  refine J_iload C dL_law_1921 rfl ?_
  refine J_iconst C dL_law_1923 (rg_of (by decide)) ?_
  refine J_iadd C dL_law_1924 ?_
  obtain ⟨h07, hn8, h⟩ := h
  refine K_sld C HX dL_law_1925 h07 hn8 ?_
  obtain ⟨hK9, h⟩ := h
  refine K_VH C M.1 M.2.1 [vi (scr (w32 (x4 + 1)))] [] mi_X9_unload wg_1618 wg_1619 wg_1620 ⟨rfl, by decide⟩ dL_law_1926 hK9 rfl rfl (by decide) (Nat.le_of_ble_eq_true rfl) (c_X9_unload (C.2.2.2.2.2.2.2) (by omega) h) (fun v9 S' F11 I12 hq9 => ?_) K_no rfl
  clear h
  obtain ⟨z10, rfl, rfl, h⟩ := hq9
  refine K_istore C [vr (some bS), vr (some x1), vr (some x2), vr (some x3), vi x4, vi z3, vi z10] dL_law_1929 (Nat.le_of_ble_eq_true rfl) rfl ?_
  refine J_aload_n C dL_law_1931 rfl rfl ?_
  refine K_VH C M.1 M.2.1 [] [] mi_X9_thrown wg_1403 wg_1404 wg_1405 ⟨rfl, by decide⟩ dL_law_1932 hK9 rfl rfl (by decide) (Nat.le_of_ble_eq_true rfl) (c_X9_thrown (C.2.2.2.2.2.2.2) (by omega) h) (fun v9 S' F' I' hq9 => ?_) K_no rfl
  clear h
  obtain ⟨z13, rfl, rfl, rfl, rfl, h⟩ := hq9
  refine J_iload C dL_law_1935 rfl ?_
  refine J_icmp_eq C dL_law_1937 (tgt := 1942) rfl (fun c1937 => ?_) (fun c1937 => ?_)
  · have h := h.1 c1937
    refine J_iload C dL_law_1942 rfl ?_
    refine J_if_ne C dL_law_1944 (tgt := 1959) rfl (fun c1944 => ?_) (fun c1944 => ?_)
    · have h := h.1 c1944
      refine J_less [vr (some bS), vr (some x1), vr (some x2), vr (some x3), vi x4, vl 0, vl 0] (by unfold lessL; simp [lessL]) ?_
      exact S_L_law_1959 HX C M (by omega) hk23 h
    · have h := h.2 c1944
      refine J_aload_n C dL_law_1947 rfl rfl ?_
      refine J_iconst C dL_law_1948 (rg_of (by decide)) ?_
      obtain ⟨hK14, h⟩ := h
      obtain ⟨h015, hn16, h⟩ := h
      refine J_lald C dL_law_1949 hK14 h015 hn16 ?_
      refine J_iload C dL_law_1950 rfl ?_
      refine J_i2l C dL_law_1952 ?_
      refine J_lcmp C dL_law_1953 ?_
      refine J_if_eq C dL_law_1954 (tgt := 1959) rfl (fun c1954 => ?_) (fun c1954 => ?_)
      · have h := h.1 c1954
        refine J_less [vr (some bS), vr (some x1), vr (some x2), vr (some x3), vi x4, vl 0, vl 0] (by unfold lessL; simp [lessL]) ?_
        exact S_L_law_1959 HX C M (by omega) hk23 h
      · have h := h.2 c1954
        refine J_iconst C dL_law_1957 (rg_of (by decide)) ?_
        exact J_zret C dL_law_1958 M.2.2.1 (by decide) ⟨_, rfl, h⟩
  · have h := h.2 c1937
    refine J_iconst C dL_law_1940 (rg_of (by decide)) ?_
    exact J_zret C dL_law_1941 M.2.2.1 (by decide) ⟨_, rfl, h⟩
set_option maxRecDepth 20000 in
set_option maxHeartbeats 4000000 in
theorem S_L_law_2015 {G : Gp} {X : Xt} {d : Nat} {ln : Int} {scr : Int → Int} {bS : Nat} {k23 : Nat → Nat → Nat → Int → Shp → Fl → Il → Prop} {x1 : Nat} {x2 : Nat} {x3 : Nat} {x4 : Int} {Q : Int → Shp → Fl → Il → Prop} {S : Shp} {F : Fl} {I : Il} (HX : SXc G X bS ln scr) (C : CO G RL cL_law 7 X) (M : ML d (some .boolean) X) (hd : 16 ≤ d) (hk23 : ∀ (x1 : Nat) (x2 : Nat) (x3 : Nat) (x4 : Int) (S' : Shp) (F' : Fl) (I' : Il), k23 x1 x2 x3 x4 S' F' I' → J G X (QD X G (qI fun z S' F' I' => Q z S' F' I') noX) 23 [vr (some bS), vr (some x1), vr (some x2), vr (some x3), vi x4, vl 0, vl 0] [] S' F' I') (h : V_L_law_2015 G ln scr k23 x1 x2 x3 x4 S F I Q) : J G X (QD X G (qI fun z S' F' I' => Q z S' F' I') noX) 2015 [vr (some bS), vr (some x1), vr (some x2), vr (some x3), vi x4, vl 0, vl 0] [] S F I := by
  unfold V_L_law_2015 at h
  refine J_goto C dL_law_2015 (tgt := 2846) rfl ?_
  exact S_L_law_2846 HX C M (by omega) hk23 h
set_option maxRecDepth 20000 in
set_option maxHeartbeats 4000000 in
theorem S_L_law_1962 {G : Gp} {X : Xt} {d : Nat} {ln : Int} {scr : Int → Int} {bS : Nat} {k23 : Nat → Nat → Nat → Int → Shp → Fl → Il → Prop} {x1 : Nat} {x2 : Nat} {x3 : Nat} {x4 : Int} {Q : Int → Shp → Fl → Il → Prop} {S : Shp} {F : Fl} {I : Il} (HX : SXc G X bS ln scr) (C : CO G RL cL_law 7 X) (M : ML d (some .boolean) X) (hd : 16 ≤ d) (hk23 : ∀ (x1 : Nat) (x2 : Nat) (x3 : Nat) (x4 : Int) (S' : Shp) (F' : Fl) (I' : Il), k23 x1 x2 x3 x4 S' F' I' → J G X (QD X G (qI fun z S' F' I' => Q z S' F' I') noX) 23 [vr (some bS), vr (some x1), vr (some x2), vr (some x3), vi x4, vl 0, vl 0] [] S' F' I') (h : V_L_law_1962 G ln scr k23 x1 x2 x3 x4 S F I Q) : J G X (QD X G (qI fun z S' F' I' => Q z S' F' I') noX) 1962 [vr (some bS), vr (some x1), vr (some x2), vr (some x3), vi x4, vl 0, vl 0] [] S F I := by
  unfold V_L_law_1962 at h
  obtain ⟨d, rfl⟩ : ∃ d9, d = d9 + 1 := ⟨d - 1, by omega⟩
  refine J_aload_n C dL_law_1962 rfl rfl ?_
  refine J_aload_n C dL_law_1963 rfl rfl ?_
  refine J_iload C dL_law_1964 rfl ?_
  refine J_iconst C dL_law_1966 (rg_of (by decide)) ?_
  refine J_iadd C dL_law_1967 ?_
  obtain ⟨h01, hn2, h⟩ := h
  refine K_sld C HX dL_law_1968 h01 hn2 ?_
  refine J_aload_n C dL_law_1969 rfl rfl ?_
  refine K_SW C M.1 M.2.1 [vr (some x1), vi (scr (w32 (x4 + 1))), vr (some x3)] [] miw_L_sort wg_1065 wg_1066 dL_law_1970 rfl rfl (by decide) (Nat.le_of_ble_eq_true rfl) (c_L_sort (C.2.2.2.2.2.2.2) (by omega) h) (fun v9 S4 F5 I6 hq9 => ?_) rfl
  clear h
  obtain ⟨z3, rfl, h⟩ := hq9
  refine K_istore C [vr (some bS), vr (some x1), vr (some x2), vr (some x3), vi x4, vi z3, vl 0] dL_law_1973 (Nat.le_of_ble_eq_true rfl) rfl ?_
  refine J_aload_n C dL_law_1975 rfl rfl ?_
  refine J_aload_n C dL_law_1976 rfl rfl ?_
  refine J_iload C dL_law_1977 rfl ?_
  refine J_iconst C dL_law_1979 (rg_of (by decide)) ?_
  refine J_iadd C dL_law_1980 ?_
  obtain ⟨h07, hn8, h⟩ := h
  refine K_sld C HX dL_law_1981 h07 hn8 ?_
  obtain ⟨hK9, h⟩ := h
  refine K_VH C M.1 M.2.1 [vi (scr (w32 (x4 + 1)))] [] mi_X9_sort wg_1622 wg_1623 wg_1624 ⟨rfl, by decide⟩ dL_law_1982 hK9 rfl rfl (by decide) (Nat.le_of_ble_eq_true rfl) (c_X9_sort (C.2.2.2.2.2.2.2) (by omega) h) (fun v9 S' F11 I12 hq9 => ?_) K_no rfl
  clear h
  obtain ⟨z10, rfl, rfl, h⟩ := hq9
  refine K_istore C [vr (some bS), vr (some x1), vr (some x2), vr (some x3), vi x4, vi z3, vi z10] dL_law_1985 (Nat.le_of_ble_eq_true rfl) rfl ?_
  refine J_aload_n C dL_law_1987 rfl rfl ?_
  refine K_VH C M.1 M.2.1 [] [] mi_X9_thrown wg_1403 wg_1404 wg_1405 ⟨rfl, by decide⟩ dL_law_1988 hK9 rfl rfl (by decide) (Nat.le_of_ble_eq_true rfl) (c_X9_thrown (C.2.2.2.2.2.2.2) (by omega) h) (fun v9 S' F' I' hq9 => ?_) K_no rfl
  clear h
  obtain ⟨z13, rfl, rfl, rfl, rfl, h⟩ := hq9
  refine J_iload C dL_law_1991 rfl ?_
  refine J_icmp_eq C dL_law_1993 (tgt := 1998) rfl (fun c1993 => ?_) (fun c1993 => ?_)
  · have h := h.1 c1993
    refine J_iload C dL_law_1998 rfl ?_
    refine J_if_ne C dL_law_2000 (tgt := 2015) rfl (fun c2000 => ?_) (fun c2000 => ?_)
    · have h := h.1 c2000
      refine J_less [vr (some bS), vr (some x1), vr (some x2), vr (some x3), vi x4, vl 0, vl 0] (by unfold lessL; simp [lessL]) ?_
      exact S_L_law_2015 HX C M (by omega) hk23 h
    · have h := h.2 c2000
      refine J_aload_n C dL_law_2003 rfl rfl ?_
      refine J_iconst C dL_law_2004 (rg_of (by decide)) ?_
      obtain ⟨hK14, h⟩ := h
      obtain ⟨h015, hn16, h⟩ := h
      refine J_lald C dL_law_2005 hK14 h015 hn16 ?_
      refine J_iload C dL_law_2006 rfl ?_
      refine J_i2l C dL_law_2008 ?_
      refine J_lcmp C dL_law_2009 ?_
      refine J_if_eq C dL_law_2010 (tgt := 2015) rfl (fun c2010 => ?_) (fun c2010 => ?_)
      · have h := h.1 c2010
        refine J_less [vr (some bS), vr (some x1), vr (some x2), vr (some x3), vi x4, vl 0, vl 0] (by unfold lessL; simp [lessL]) ?_
        exact S_L_law_2015 HX C M (by omega) hk23 h
      · have h := h.2 c2010
        refine J_iconst C dL_law_2013 (rg_of (by decide)) ?_
        exact J_zret C dL_law_2014 M.2.2.1 (by decide) ⟨_, rfl, h⟩
  · have h := h.2 c1993
    refine J_iconst C dL_law_1996 (rg_of (by decide)) ?_
    exact J_zret C dL_law_1997 M.2.2.1 (by decide) ⟨_, rfl, h⟩
set_option maxRecDepth 20000 in
set_option maxHeartbeats 4000000 in
theorem S_L_law_2018 {G : Gp} {X : Xt} {d : Nat} {ln : Int} {scr : Int → Int} {bS : Nat} {k23 : Nat → Nat → Nat → Int → Shp → Fl → Il → Prop} {x1 : Nat} {x2 : Nat} {x3 : Nat} {x4 : Int} {Q : Int → Shp → Fl → Il → Prop} {S : Shp} {F : Fl} {I : Il} (HX : SXc G X bS ln scr) (C : CO G RL cL_law 7 X) (M : ML d (some .boolean) X) (hd : 16 ≤ d) (hk23 : ∀ (x1 : Nat) (x2 : Nat) (x3 : Nat) (x4 : Int) (S' : Shp) (F' : Fl) (I' : Il), k23 x1 x2 x3 x4 S' F' I' → J G X (QD X G (qI fun z S' F' I' => Q z S' F' I') noX) 23 [vr (some bS), vr (some x1), vr (some x2), vr (some x3), vi x4, vl 0, vl 0] [] S' F' I') (h : V_L_law_2018 G ln scr k23 x1 x2 x3 x4 S F I Q) : J G X (QD X G (qI fun z S' F' I' => Q z S' F' I') noX) 2018 [vr (some bS), vr (some x1), vr (some x2), vr (some x3), vi x4, vl 0, vl 0] [] S F I := by
  unfold V_L_law_2018 at h
  obtain ⟨d, rfl⟩ : ∃ d9, d = d9 + 1 := ⟨d - 1, by omega⟩
  refine J_aload_n C dL_law_2018 rfl rfl ?_
  obtain ⟨hK1, h⟩ := h
  refine K_VH C M.1 M.2.1 [] [] mi_X8_clock wg_289 wg_290 wg_291 ⟨rfl, by decide⟩ dL_law_2019 hK1 rfl rfl (by decide) (Nat.le_of_ble_eq_true rfl) (c_X8_clock (C.2.2.2.2.2.2.2) (by omega) h) (fun v9 S' F' I' hq9 => ?_) K_no rfl
  clear h
  obtain ⟨z2, rfl, rfl, rfl, rfl, h⟩ := hq9
  refine J_aload_n C dL_law_2022 rfl rfl ?_
  obtain ⟨hK3, h⟩ := h
  refine K_VH C M.1 M.2.1 [] [vi z2] mi_X9_clock wg_1630 wg_1631 wg_1632 ⟨rfl, by decide⟩ dL_law_2023 hK3 rfl rfl (by decide) (Nat.le_of_ble_eq_true rfl) (c_X9_clock (C.2.2.2.2.2.2.2) (by omega) h) (fun v9 S' F5 I' hq9 => ?_) K_no rfl
  clear h
  obtain ⟨z4, rfl, rfl, rfl, h⟩ := hq9
  refine J_icmp_eq C dL_law_2026 (tgt := 2846) rfl (fun c2026 => ?_) (fun c2026 => ?_)
  · have h := h.1 c2026
    exact S_L_law_2846 HX C M (by omega) hk23 h
  · have h := h.2 c2026
    refine J_iconst C dL_law_2029 (rg_of (by decide)) ?_
    exact J_zret C dL_law_2030 M.2.2.1 (by decide) ⟨_, rfl, h⟩
set_option maxRecDepth 20000 in
set_option maxHeartbeats 4000000 in
theorem S_L_law_2031 {G : Gp} {X : Xt} {d : Nat} {ln : Int} {scr : Int → Int} {bS : Nat} {k23 : Nat → Nat → Nat → Int → Shp → Fl → Il → Prop} {x1 : Nat} {x2 : Nat} {x3 : Nat} {x4 : Int} {Q : Int → Shp → Fl → Il → Prop} {S : Shp} {F : Fl} {I : Il} (HX : SXc G X bS ln scr) (C : CO G RL cL_law 7 X) (M : ML d (some .boolean) X) (hd : 16 ≤ d) (hk23 : ∀ (x1 : Nat) (x2 : Nat) (x3 : Nat) (x4 : Int) (S' : Shp) (F' : Fl) (I' : Il), k23 x1 x2 x3 x4 S' F' I' → J G X (QD X G (qI fun z S' F' I' => Q z S' F' I') noX) 23 [vr (some bS), vr (some x1), vr (some x2), vr (some x3), vi x4, vl 0, vl 0] [] S' F' I') (h : V_L_law_2031 G ln scr k23 x1 x2 x3 x4 S F I Q) : J G X (QD X G (qI fun z S' F' I' => Q z S' F' I') noX) 2031 [vr (some bS), vr (some x1), vr (some x2), vr (some x3), vi x4, vl 0, vl 0] [] S F I := by
  unfold V_L_law_2031 at h
  obtain ⟨d, rfl⟩ : ∃ d9, d = d9 + 1 := ⟨d - 1, by omega⟩
  refine J_aload_n C dL_law_2031 rfl rfl ?_
  obtain ⟨hK1, h⟩ := h
  refine K_VH C M.1 M.2.1 [] [] mi_X8_cash wg_293 wg_294 wg_295 ⟨rfl, by decide⟩ dL_law_2032 hK1 rfl rfl (by decide) (Nat.le_of_ble_eq_true rfl) (c_X8_cash (C.2.2.2.2.2.2.2) (by omega) h) (fun v9 S' F' I' hq9 => ?_) K_no rfl
  clear h
  obtain ⟨z2, rfl, rfl, rfl, rfl, h⟩ := hq9
  refine J_aload_n C dL_law_2035 rfl rfl ?_
  obtain ⟨hK3, h⟩ := h
  refine K_VH C M.1 M.2.1 [] [vi z2] mi_X9_cash wg_1634 wg_1635 wg_1636 ⟨rfl, by decide⟩ dL_law_2036 hK3 rfl rfl (by decide) (Nat.le_of_ble_eq_true rfl) (c_X9_cash (C.2.2.2.2.2.2.2) (by omega) h) (fun v9 S' F5 I' hq9 => ?_) K_no rfl
  clear h
  obtain ⟨z4, rfl, rfl, rfl, h⟩ := hq9
  refine J_icmp_eq C dL_law_2039 (tgt := 2846) rfl (fun c2039 => ?_) (fun c2039 => ?_)
  · have h := h.1 c2039
    exact S_L_law_2846 HX C M (by omega) hk23 h
  · have h := h.2 c2039
    refine J_iconst C dL_law_2042 (rg_of (by decide)) ?_
    exact J_zret C dL_law_2043 M.2.2.1 (by decide) ⟨_, rfl, h⟩
set_option maxRecDepth 20000 in
set_option maxHeartbeats 4000000 in
theorem S_L_law_2044 {G : Gp} {X : Xt} {d : Nat} {ln : Int} {scr : Int → Int} {bS : Nat} {k23 : Nat → Nat → Nat → Int → Shp → Fl → Il → Prop} {x1 : Nat} {x2 : Nat} {x3 : Nat} {x4 : Int} {Q : Int → Shp → Fl → Il → Prop} {S : Shp} {F : Fl} {I : Il} (HX : SXc G X bS ln scr) (C : CO G RL cL_law 7 X) (M : ML d (some .boolean) X) (hd : 16 ≤ d) (hk23 : ∀ (x1 : Nat) (x2 : Nat) (x3 : Nat) (x4 : Int) (S' : Shp) (F' : Fl) (I' : Il), k23 x1 x2 x3 x4 S' F' I' → J G X (QD X G (qI fun z S' F' I' => Q z S' F' I') noX) 23 [vr (some bS), vr (some x1), vr (some x2), vr (some x3), vi x4, vl 0, vl 0] [] S' F' I') (h : V_L_law_2044 G ln scr k23 x1 x2 x3 x4 S F I Q) : J G X (QD X G (qI fun z S' F' I' => Q z S' F' I') noX) 2044 [vr (some bS), vr (some x1), vr (some x2), vr (some x3), vi x4, vl 0, vl 0] [] S F I := by
  unfold V_L_law_2044 at h
  obtain ⟨d, rfl⟩ : ∃ d9, d = d9 + 1 := ⟨d - 1, by omega⟩
  refine J_aload_n C dL_law_2044 rfl rfl ?_
  obtain ⟨hK1, h⟩ := h
  refine K_VH C M.1 M.2.1 [] [] mi_X8_debt wg_297 wg_298 wg_299 ⟨rfl, by decide⟩ dL_law_2045 hK1 rfl rfl (by decide) (Nat.le_of_ble_eq_true rfl) (c_X8_debt (C.2.2.2.2.2.2.2) (by omega) h) (fun v9 S' F' I' hq9 => ?_) K_no rfl
  clear h
  obtain ⟨z2, rfl, rfl, rfl, rfl, h⟩ := hq9
  refine J_aload_n C dL_law_2048 rfl rfl ?_
  obtain ⟨hK3, h⟩ := h
  refine K_VH C M.1 M.2.1 [] [vi z2] mi_X9_debt wg_1638 wg_1639 wg_1640 ⟨rfl, by decide⟩ dL_law_2049 hK3 rfl rfl (by decide) (Nat.le_of_ble_eq_true rfl) (c_X9_debt (C.2.2.2.2.2.2.2) (by omega) h) (fun v9 S' F5 I' hq9 => ?_) K_no rfl
  clear h
  obtain ⟨z4, rfl, rfl, rfl, h⟩ := hq9
  refine J_icmp_eq C dL_law_2052 (tgt := 2846) rfl (fun c2052 => ?_) (fun c2052 => ?_)
  · have h := h.1 c2052
    exact S_L_law_2846 HX C M (by omega) hk23 h
  · have h := h.2 c2052
    refine J_iconst C dL_law_2055 (rg_of (by decide)) ?_
    exact J_zret C dL_law_2056 M.2.2.1 (by decide) ⟨_, rfl, h⟩
set_option maxRecDepth 20000 in
set_option maxHeartbeats 4000000 in
theorem S_L_law_2057 {G : Gp} {X : Xt} {d : Nat} {ln : Int} {scr : Int → Int} {bS : Nat} {k23 : Nat → Nat → Nat → Int → Shp → Fl → Il → Prop} {x1 : Nat} {x2 : Nat} {x3 : Nat} {x4 : Int} {Q : Int → Shp → Fl → Il → Prop} {S : Shp} {F : Fl} {I : Il} (HX : SXc G X bS ln scr) (C : CO G RL cL_law 7 X) (M : ML d (some .boolean) X) (hd : 16 ≤ d) (hk23 : ∀ (x1 : Nat) (x2 : Nat) (x3 : Nat) (x4 : Int) (S' : Shp) (F' : Fl) (I' : Il), k23 x1 x2 x3 x4 S' F' I' → J G X (QD X G (qI fun z S' F' I' => Q z S' F' I') noX) 23 [vr (some bS), vr (some x1), vr (some x2), vr (some x3), vi x4, vl 0, vl 0] [] S' F' I') (h : V_L_law_2057 G ln scr k23 x1 x2 x3 x4 S F I Q) : J G X (QD X G (qI fun z S' F' I' => Q z S' F' I') noX) 2057 [vr (some bS), vr (some x1), vr (some x2), vr (some x3), vi x4, vl 0, vl 0] [] S F I := by
  unfold V_L_law_2057 at h
  obtain ⟨d, rfl⟩ : ∃ d9, d = d9 + 1 := ⟨d - 1, by omega⟩
  refine J_aload_n C dL_law_2057 rfl rfl ?_
  obtain ⟨hK1, h⟩ := h
  refine K_VH C M.1 M.2.1 [] [] mi_X8_broken wg_301 wg_302 wg_303 ⟨rfl, by decide⟩ dL_law_2058 hK1 rfl rfl (by decide) (Nat.le_of_ble_eq_true rfl) (c_X8_broken (C.2.2.2.2.2.2.2) (by omega) h) (fun v9 S' F' I' hq9 => ?_) K_no rfl
  clear h
  obtain ⟨z2, rfl, rfl, rfl, rfl, h⟩ := hq9
  refine J_aload_n C dL_law_2061 rfl rfl ?_
  obtain ⟨hK3, h⟩ := h
  refine K_VH C M.1 M.2.1 [] [vi z2] mi_X9_broken wg_1642 wg_1643 wg_1644 ⟨rfl, by decide⟩ dL_law_2062 hK3 rfl rfl (by decide) (Nat.le_of_ble_eq_true rfl) (c_X9_broken (C.2.2.2.2.2.2.2) (by omega) h) (fun v9 S' F5 I' hq9 => ?_) K_no rfl
  clear h
  obtain ⟨z4, rfl, rfl, rfl, h⟩ := hq9
  refine J_icmp_eq C dL_law_2065 (tgt := 2846) rfl (fun c2065 => ?_) (fun c2065 => ?_)
  · have h := h.1 c2065
    exact S_L_law_2846 HX C M (by omega) hk23 h
  · have h := h.2 c2065
    refine J_iconst C dL_law_2068 (rg_of (by decide)) ?_
    exact J_zret C dL_law_2069 M.2.2.1 (by decide) ⟨_, rfl, h⟩
set_option maxRecDepth 20000 in
set_option maxHeartbeats 4000000 in
theorem S_L_law_2123 {G : Gp} {X : Xt} {d : Nat} {ln : Int} {scr : Int → Int} {bS : Nat} {k23 : Nat → Nat → Nat → Int → Shp → Fl → Il → Prop} {x1 : Nat} {x2 : Nat} {x3 : Nat} {x4 : Int} {Q : Int → Shp → Fl → Il → Prop} {S : Shp} {F : Fl} {I : Il} (HX : SXc G X bS ln scr) (C : CO G RL cL_law 7 X) (M : ML d (some .boolean) X) (hd : 16 ≤ d) (hk23 : ∀ (x1 : Nat) (x2 : Nat) (x3 : Nat) (x4 : Int) (S' : Shp) (F' : Fl) (I' : Il), k23 x1 x2 x3 x4 S' F' I' → J G X (QD X G (qI fun z S' F' I' => Q z S' F' I') noX) 23 [vr (some bS), vr (some x1), vr (some x2), vr (some x3), vi x4, vl 0, vl 0] [] S' F' I') (h : V_L_law_2123 G ln scr k23 x1 x2 x3 x4 S F I Q) : J G X (QD X G (qI fun z S' F' I' => Q z S' F' I') noX) 2123 [vr (some bS), vr (some x1), vr (some x2), vr (some x3), vi x4, vl 0, vl 0] [] S F I := by
  unfold V_L_law_2123 at h
  refine J_goto C dL_law_2123 (tgt := 2846) rfl ?_
  exact S_L_law_2846 HX C M (by omega) hk23 h
set_option maxRecDepth 20000 in
set_option maxHeartbeats 4000000 in
theorem S_L_law_2070 {G : Gp} {X : Xt} {d : Nat} {ln : Int} {scr : Int → Int} {bS : Nat} {k23 : Nat → Nat → Nat → Int → Shp → Fl → Il → Prop} {x1 : Nat} {x2 : Nat} {x3 : Nat} {x4 : Int} {Q : Int → Shp → Fl → Il → Prop} {S : Shp} {F : Fl} {I : Il} (HX : SXc G X bS ln scr) (C : CO G RL cL_law 7 X) (M : ML d (some .boolean) X) (hd : 16 ≤ d) (hk23 : ∀ (x1 : Nat) (x2 : Nat) (x3 : Nat) (x4 : Int) (S' : Shp) (F' : Fl) (I' : Il), k23 x1 x2 x3 x4 S' F' I' → J G X (QD X G (qI fun z S' F' I' => Q z S' F' I') noX) 23 [vr (some bS), vr (some x1), vr (some x2), vr (some x3), vi x4, vl 0, vl 0] [] S' F' I') (h : V_L_law_2070 G ln scr k23 x1 x2 x3 x4 S F I Q) : J G X (QD X G (qI fun z S' F' I' => Q z S' F' I') noX) 2070 [vr (some bS), vr (some x1), vr (some x2), vr (some x3), vi x4, vl 0, vl 0] [] S F I := by
  unfold V_L_law_2070 at h
  obtain ⟨d, rfl⟩ : ∃ d9, d = d9 + 1 := ⟨d - 1, by omega⟩
  refine J_aload_n C dL_law_2070 rfl rfl ?_
  refine J_aload_n C dL_law_2071 rfl rfl ?_
  refine J_iload C dL_law_2072 rfl ?_
  refine J_iconst C dL_law_2074 (rg_of (by decide)) ?_
  refine J_iadd C dL_law_2075 ?_
  obtain ⟨h01, hn2, h⟩ := h
  refine K_sld C HX dL_law_2076 h01 hn2 ?_
  refine J_aload_n C dL_law_2077 rfl rfl ?_
  refine K_SW C M.1 M.2.1 [vr (some x1), vi (scr (w32 (x4 + 1))), vr (some x3)] [] miw_L_freeTracks wg_1080 wg_1081 dL_law_2078 rfl rfl (by decide) (Nat.le_of_ble_eq_true rfl) (c_L_freeTracks (C.2.2.2.2.2.2.2) (by omega) h) (fun v9 S4 F5 I6 hq9 => ?_) rfl
  clear h
  obtain ⟨z3, rfl, h⟩ := hq9
  refine K_istore C [vr (some bS), vr (some x1), vr (some x2), vr (some x3), vi x4, vi z3, vl 0] dL_law_2081 (Nat.le_of_ble_eq_true rfl) rfl ?_
  refine J_aload_n C dL_law_2083 rfl rfl ?_
  refine J_aload_n C dL_law_2084 rfl rfl ?_
  refine J_iload C dL_law_2085 rfl ?_
  refine J_iconst C dL_law_2087 (rg_of (by decide)) ?_
  refine J_iadd C dL_law_2088 ?_
  obtain ⟨h07, hn8, h⟩ := h
  refine K_sld C HX dL_law_2089 h07 hn8 ?_
  obtain ⟨hK9, h⟩ := h
  refine K_VH C M.1 M.2.1 [vi (scr (w32 (x4 + 1)))] [] mi_X9_freeTracks wg_1646 wg_1647 wg_1648 ⟨rfl, by decide⟩ dL_law_2090 hK9 rfl rfl (by decide) (Nat.le_of_ble_eq_true rfl) (c_X9_freeTracks (C.2.2.2.2.2.2.2) (by omega) h) (fun v9 S' F11 I' hq9 => ?_) K_no rfl
  clear h
  obtain ⟨z10, rfl, rfl, rfl, h⟩ := hq9
  refine K_istore C [vr (some bS), vr (some x1), vr (some x2), vr (some x3), vi x4, vi z3, vi z10] dL_law_2093 (Nat.le_of_ble_eq_true rfl) rfl ?_
  refine J_aload_n C dL_law_2095 rfl rfl ?_
  refine K_VH C M.1 M.2.1 [] [] mi_X9_thrown wg_1403 wg_1404 wg_1405 ⟨rfl, by decide⟩ dL_law_2096 hK9 rfl rfl (by decide) (Nat.le_of_ble_eq_true rfl) (c_X9_thrown (C.2.2.2.2.2.2.2) (by omega) h) (fun v9 S' F' I' hq9 => ?_) K_no rfl
  clear h
  obtain ⟨z12, rfl, rfl, rfl, rfl, h⟩ := hq9
  refine J_iload C dL_law_2099 rfl ?_
  refine J_icmp_eq C dL_law_2101 (tgt := 2106) rfl (fun c2101 => ?_) (fun c2101 => ?_)
  · have h := h.1 c2101
    refine J_iload C dL_law_2106 rfl ?_
    refine J_if_ne C dL_law_2108 (tgt := 2123) rfl (fun c2108 => ?_) (fun c2108 => ?_)
    · have h := h.1 c2108
      refine J_less [vr (some bS), vr (some x1), vr (some x2), vr (some x3), vi x4, vl 0, vl 0] (by unfold lessL; simp [lessL]) ?_
      exact S_L_law_2123 HX C M (by omega) hk23 h
    · have h := h.2 c2108
      refine J_aload_n C dL_law_2111 rfl rfl ?_
      refine J_iconst C dL_law_2112 (rg_of (by decide)) ?_
      obtain ⟨hK13, h⟩ := h
      obtain ⟨h014, hn15, h⟩ := h
      refine J_lald C dL_law_2113 hK13 h014 hn15 ?_
      refine J_iload C dL_law_2114 rfl ?_
      refine J_i2l C dL_law_2116 ?_
      refine J_lcmp C dL_law_2117 ?_
      refine J_if_eq C dL_law_2118 (tgt := 2123) rfl (fun c2118 => ?_) (fun c2118 => ?_)
      · have h := h.1 c2118
        refine J_less [vr (some bS), vr (some x1), vr (some x2), vr (some x3), vi x4, vl 0, vl 0] (by unfold lessL; simp [lessL]) ?_
        exact S_L_law_2123 HX C M (by omega) hk23 h
      · have h := h.2 c2118
        refine J_iconst C dL_law_2121 (rg_of (by decide)) ?_
        exact J_zret C dL_law_2122 M.2.2.1 (by decide) ⟨_, rfl, h⟩
  · have h := h.2 c2101
    refine J_iconst C dL_law_2104 (rg_of (by decide)) ?_
    exact J_zret C dL_law_2105 M.2.2.1 (by decide) ⟨_, rfl, h⟩
set_option maxRecDepth 20000 in
set_option maxHeartbeats 4000000 in
theorem S_L_law_2179 {G : Gp} {X : Xt} {d : Nat} {ln : Int} {scr : Int → Int} {bS : Nat} {k23 : Nat → Nat → Nat → Int → Shp → Fl → Il → Prop} {x1 : Nat} {x2 : Nat} {x3 : Nat} {x4 : Int} {Q : Int → Shp → Fl → Il → Prop} {S : Shp} {F : Fl} {I : Il} (HX : SXc G X bS ln scr) (C : CO G RL cL_law 7 X) (M : ML d (some .boolean) X) (hd : 16 ≤ d) (hk23 : ∀ (x1 : Nat) (x2 : Nat) (x3 : Nat) (x4 : Int) (S' : Shp) (F' : Fl) (I' : Il), k23 x1 x2 x3 x4 S' F' I' → J G X (QD X G (qI fun z S' F' I' => Q z S' F' I') noX) 23 [vr (some bS), vr (some x1), vr (some x2), vr (some x3), vi x4, vl 0, vl 0] [] S' F' I') (h : V_L_law_2179 G ln scr k23 x1 x2 x3 x4 S F I Q) : J G X (QD X G (qI fun z S' F' I' => Q z S' F' I') noX) 2179 [vr (some bS), vr (some x1), vr (some x2), vr (some x3), vi x4, vl 0, vl 0] [] S F I := by
  unfold V_L_law_2179 at h
  refine J_goto C dL_law_2179 (tgt := 2846) rfl ?_
  exact S_L_law_2846 HX C M (by omega) hk23 h
set_option maxRecDepth 20000 in
set_option maxHeartbeats 4000000 in
theorem S_L_law_2126 {G : Gp} {X : Xt} {d : Nat} {ln : Int} {scr : Int → Int} {bS : Nat} {k23 : Nat → Nat → Nat → Int → Shp → Fl → Il → Prop} {x1 : Nat} {x2 : Nat} {x3 : Nat} {x4 : Int} {Q : Int → Shp → Fl → Il → Prop} {S : Shp} {F : Fl} {I : Il} (HX : SXc G X bS ln scr) (C : CO G RL cL_law 7 X) (M : ML d (some .boolean) X) (hd : 16 ≤ d) (hk23 : ∀ (x1 : Nat) (x2 : Nat) (x3 : Nat) (x4 : Int) (S' : Shp) (F' : Fl) (I' : Il), k23 x1 x2 x3 x4 S' F' I' → J G X (QD X G (qI fun z S' F' I' => Q z S' F' I') noX) 23 [vr (some bS), vr (some x1), vr (some x2), vr (some x3), vi x4, vl 0, vl 0] [] S' F' I') (h : V_L_law_2126 G ln scr k23 x1 x2 x3 x4 S F I Q) : J G X (QD X G (qI fun z S' F' I' => Q z S' F' I') noX) 2126 [vr (some bS), vr (some x1), vr (some x2), vr (some x3), vi x4, vl 0, vl 0] [] S F I := by
  unfold V_L_law_2126 at h
  obtain ⟨d, rfl⟩ : ∃ d9, d = d9 + 1 := ⟨d - 1, by omega⟩
  refine J_aload_n C dL_law_2126 rfl rfl ?_
  refine J_aload_n C dL_law_2127 rfl rfl ?_
  refine J_iload C dL_law_2128 rfl ?_
  refine J_iconst C dL_law_2130 (rg_of (by decide)) ?_
  refine J_iadd C dL_law_2131 ?_
  obtain ⟨h01, hn2, h⟩ := h
  refine K_sld C HX dL_law_2132 h01 hn2 ?_
  refine J_aload_n C dL_law_2133 rfl rfl ?_
  refine K_SW C M.1 M.2.1 [vr (some x1), vi (scr (w32 (x4 + 1))), vr (some x3)] [] miw_L_holder wg_1087 wg_1088 dL_law_2134 rfl rfl (by decide) (Nat.le_of_ble_eq_true rfl) (c_L_holder (C.2.2.2.2.2.2.2) (by omega) h) (fun v9 S4 F5 I6 hq9 => ?_) rfl
  clear h
  obtain ⟨z3, rfl, h⟩ := hq9
  refine K_istore C [vr (some bS), vr (some x1), vr (some x2), vr (some x3), vi x4, vi z3, vl 0] dL_law_2137 (Nat.le_of_ble_eq_true rfl) rfl ?_
  refine J_aload_n C dL_law_2139 rfl rfl ?_
  refine J_aload_n C dL_law_2140 rfl rfl ?_
  refine J_iload C dL_law_2141 rfl ?_
  refine J_iconst C dL_law_2143 (rg_of (by decide)) ?_
  refine J_iadd C dL_law_2144 ?_
  obtain ⟨h07, hn8, h⟩ := h
  refine K_sld C HX dL_law_2145 h07 hn8 ?_
  obtain ⟨hK9, h⟩ := h
  refine K_VH C M.1 M.2.1 [vi (scr (w32 (x4 + 1)))] [] mi_X9_holder wg_1650 wg_1651 wg_1652 ⟨rfl, by decide⟩ dL_law_2146 hK9 rfl rfl (by decide) (Nat.le_of_ble_eq_true rfl) (c_X9_holder (C.2.2.2.2.2.2.2) (by omega) h) (fun v9 S' F11 I' hq9 => ?_) K_no rfl
  clear h
  obtain ⟨z10, rfl, rfl, rfl, h⟩ := hq9
  refine K_istore C [vr (some bS), vr (some x1), vr (some x2), vr (some x3), vi x4, vi z3, vi z10] dL_law_2149 (Nat.le_of_ble_eq_true rfl) rfl ?_
  refine J_aload_n C dL_law_2151 rfl rfl ?_
  refine K_VH C M.1 M.2.1 [] [] mi_X9_thrown wg_1403 wg_1404 wg_1405 ⟨rfl, by decide⟩ dL_law_2152 hK9 rfl rfl (by decide) (Nat.le_of_ble_eq_true rfl) (c_X9_thrown (C.2.2.2.2.2.2.2) (by omega) h) (fun v9 S' F' I' hq9 => ?_) K_no rfl
  clear h
  obtain ⟨z12, rfl, rfl, rfl, rfl, h⟩ := hq9
  refine J_iload C dL_law_2155 rfl ?_
  refine J_icmp_eq C dL_law_2157 (tgt := 2162) rfl (fun c2157 => ?_) (fun c2157 => ?_)
  · have h := h.1 c2157
    refine J_iload C dL_law_2162 rfl ?_
    refine J_if_ne C dL_law_2164 (tgt := 2179) rfl (fun c2164 => ?_) (fun c2164 => ?_)
    · have h := h.1 c2164
      refine J_less [vr (some bS), vr (some x1), vr (some x2), vr (some x3), vi x4, vl 0, vl 0] (by unfold lessL; simp [lessL]) ?_
      exact S_L_law_2179 HX C M (by omega) hk23 h
    · have h := h.2 c2164
      refine J_aload_n C dL_law_2167 rfl rfl ?_
      refine J_iconst C dL_law_2168 (rg_of (by decide)) ?_
      obtain ⟨hK13, h⟩ := h
      obtain ⟨h014, hn15, h⟩ := h
      refine J_lald C dL_law_2169 hK13 h014 hn15 ?_
      refine J_iload C dL_law_2170 rfl ?_
      refine J_i2l C dL_law_2172 ?_
      refine J_lcmp C dL_law_2173 ?_
      refine J_if_eq C dL_law_2174 (tgt := 2179) rfl (fun c2174 => ?_) (fun c2174 => ?_)
      · have h := h.1 c2174
        refine J_less [vr (some bS), vr (some x1), vr (some x2), vr (some x3), vi x4, vl 0, vl 0] (by unfold lessL; simp [lessL]) ?_
        exact S_L_law_2179 HX C M (by omega) hk23 h
      · have h := h.2 c2174
        refine J_iconst C dL_law_2177 (rg_of (by decide)) ?_
        exact J_zret C dL_law_2178 M.2.2.1 (by decide) ⟨_, rfl, h⟩
  · have h := h.2 c2157
    refine J_iconst C dL_law_2160 (rg_of (by decide)) ?_
    exact J_zret C dL_law_2161 M.2.2.1 (by decide) ⟨_, rfl, h⟩
set_option maxRecDepth 20000 in
set_option maxHeartbeats 4000000 in
theorem S_L_law_2235 {G : Gp} {X : Xt} {d : Nat} {ln : Int} {scr : Int → Int} {bS : Nat} {k23 : Nat → Nat → Nat → Int → Shp → Fl → Il → Prop} {x1 : Nat} {x2 : Nat} {x3 : Nat} {x4 : Int} {Q : Int → Shp → Fl → Il → Prop} {S : Shp} {F : Fl} {I : Il} (HX : SXc G X bS ln scr) (C : CO G RL cL_law 7 X) (M : ML d (some .boolean) X) (hd : 16 ≤ d) (hk23 : ∀ (x1 : Nat) (x2 : Nat) (x3 : Nat) (x4 : Int) (S' : Shp) (F' : Fl) (I' : Il), k23 x1 x2 x3 x4 S' F' I' → J G X (QD X G (qI fun z S' F' I' => Q z S' F' I') noX) 23 [vr (some bS), vr (some x1), vr (some x2), vr (some x3), vi x4, vl 0, vl 0] [] S' F' I') (h : V_L_law_2235 G ln scr k23 x1 x2 x3 x4 S F I Q) : J G X (QD X G (qI fun z S' F' I' => Q z S' F' I') noX) 2235 [vr (some bS), vr (some x1), vr (some x2), vr (some x3), vi x4, vl 0, vl 0] [] S F I := by
  unfold V_L_law_2235 at h
  refine J_goto C dL_law_2235 (tgt := 2846) rfl ?_
  exact S_L_law_2846 HX C M (by omega) hk23 h
set_option maxRecDepth 20000 in
set_option maxHeartbeats 4000000 in
theorem S_L_law_2182 {G : Gp} {X : Xt} {d : Nat} {ln : Int} {scr : Int → Int} {bS : Nat} {k23 : Nat → Nat → Nat → Int → Shp → Fl → Il → Prop} {x1 : Nat} {x2 : Nat} {x3 : Nat} {x4 : Int} {Q : Int → Shp → Fl → Il → Prop} {S : Shp} {F : Fl} {I : Il} (HX : SXc G X bS ln scr) (C : CO G RL cL_law 7 X) (M : ML d (some .boolean) X) (hd : 16 ≤ d) (hk23 : ∀ (x1 : Nat) (x2 : Nat) (x3 : Nat) (x4 : Int) (S' : Shp) (F' : Fl) (I' : Il), k23 x1 x2 x3 x4 S' F' I' → J G X (QD X G (qI fun z S' F' I' => Q z S' F' I') noX) 23 [vr (some bS), vr (some x1), vr (some x2), vr (some x3), vi x4, vl 0, vl 0] [] S' F' I') (h : V_L_law_2182 G ln scr k23 x1 x2 x3 x4 S F I Q) : J G X (QD X G (qI fun z S' F' I' => Q z S' F' I') noX) 2182 [vr (some bS), vr (some x1), vr (some x2), vr (some x3), vi x4, vl 0, vl 0] [] S F I := by
  unfold V_L_law_2182 at h
  obtain ⟨d, rfl⟩ : ∃ d9, d = d9 + 1 := ⟨d - 1, by omega⟩
  refine J_aload_n C dL_law_2182 rfl rfl ?_
  refine J_aload_n C dL_law_2183 rfl rfl ?_
  refine J_iload C dL_law_2184 rfl ?_
  refine J_iconst C dL_law_2186 (rg_of (by decide)) ?_
  refine J_iadd C dL_law_2187 ?_
  obtain ⟨h01, hn2, h⟩ := h
  refine K_sld C HX dL_law_2188 h01 hn2 ?_
  refine J_aload_n C dL_law_2189 rfl rfl ?_
  refine K_SW C M.1 M.2.1 [vr (some x1), vi (scr (w32 (x4 + 1))), vr (some x3)] [] miw_L_holderByTrains wg_1094 wg_1095 dL_law_2190 rfl rfl (by decide) (Nat.le_of_ble_eq_true rfl) (c_L_holderByTrains (C.2.2.2.2.2.2.2) (by omega) h) (fun v9 S4 F5 I6 hq9 => ?_) rfl
  clear h
  obtain ⟨z3, rfl, h⟩ := hq9
  refine K_istore C [vr (some bS), vr (some x1), vr (some x2), vr (some x3), vi x4, vi z3, vl 0] dL_law_2193 (Nat.le_of_ble_eq_true rfl) rfl ?_
  refine J_aload_n C dL_law_2195 rfl rfl ?_
  refine J_aload_n C dL_law_2196 rfl rfl ?_
  refine J_iload C dL_law_2197 rfl ?_
  refine J_iconst C dL_law_2199 (rg_of (by decide)) ?_
  refine J_iadd C dL_law_2200 ?_
  obtain ⟨h07, hn8, h⟩ := h
  refine K_sld C HX dL_law_2201 h07 hn8 ?_
  obtain ⟨hK9, h⟩ := h
  refine K_VH C M.1 M.2.1 [vi (scr (w32 (x4 + 1)))] [] mi_X9_holderByTrains wg_1654 wg_1655 wg_1656 ⟨rfl, by decide⟩ dL_law_2202 hK9 rfl rfl (by decide) (Nat.le_of_ble_eq_true rfl) (c_X9_holderByTrains (C.2.2.2.2.2.2.2) (by omega) h) (fun v9 S' F11 I' hq9 => ?_) K_no rfl
  clear h
  obtain ⟨z10, rfl, rfl, rfl, h⟩ := hq9
  refine K_istore C [vr (some bS), vr (some x1), vr (some x2), vr (some x3), vi x4, vi z3, vi z10] dL_law_2205 (Nat.le_of_ble_eq_true rfl) rfl ?_
  refine J_aload_n C dL_law_2207 rfl rfl ?_
  refine K_VH C M.1 M.2.1 [] [] mi_X9_thrown wg_1403 wg_1404 wg_1405 ⟨rfl, by decide⟩ dL_law_2208 hK9 rfl rfl (by decide) (Nat.le_of_ble_eq_true rfl) (c_X9_thrown (C.2.2.2.2.2.2.2) (by omega) h) (fun v9 S' F' I' hq9 => ?_) K_no rfl
  clear h
  obtain ⟨z12, rfl, rfl, rfl, rfl, h⟩ := hq9
  refine J_iload C dL_law_2211 rfl ?_
  refine J_icmp_eq C dL_law_2213 (tgt := 2218) rfl (fun c2213 => ?_) (fun c2213 => ?_)
  · have h := h.1 c2213
    refine J_iload C dL_law_2218 rfl ?_
    refine J_if_ne C dL_law_2220 (tgt := 2235) rfl (fun c2220 => ?_) (fun c2220 => ?_)
    · have h := h.1 c2220
      refine J_less [vr (some bS), vr (some x1), vr (some x2), vr (some x3), vi x4, vl 0, vl 0] (by unfold lessL; simp [lessL]) ?_
      exact S_L_law_2235 HX C M (by omega) hk23 h
    · have h := h.2 c2220
      refine J_aload_n C dL_law_2223 rfl rfl ?_
      refine J_iconst C dL_law_2224 (rg_of (by decide)) ?_
      obtain ⟨hK13, h⟩ := h
      obtain ⟨h014, hn15, h⟩ := h
      refine J_lald C dL_law_2225 hK13 h014 hn15 ?_
      refine J_iload C dL_law_2226 rfl ?_
      refine J_i2l C dL_law_2228 ?_
      refine J_lcmp C dL_law_2229 ?_
      refine J_if_eq C dL_law_2230 (tgt := 2235) rfl (fun c2230 => ?_) (fun c2230 => ?_)
      · have h := h.1 c2230
        refine J_less [vr (some bS), vr (some x1), vr (some x2), vr (some x3), vi x4, vl 0, vl 0] (by unfold lessL; simp [lessL]) ?_
        exact S_L_law_2235 HX C M (by omega) hk23 h
      · have h := h.2 c2230
        refine J_iconst C dL_law_2233 (rg_of (by decide)) ?_
        exact J_zret C dL_law_2234 M.2.2.1 (by decide) ⟨_, rfl, h⟩
  · have h := h.2 c2213
    refine J_iconst C dL_law_2216 (rg_of (by decide)) ?_
    exact J_zret C dL_law_2217 M.2.2.1 (by decide) ⟨_, rfl, h⟩
set_option maxRecDepth 20000 in
set_option maxHeartbeats 4000000 in
theorem S_L_law_2303 {G : Gp} {X : Xt} {d : Nat} {ln : Int} {scr : Int → Int} {bS : Nat} {k23 : Nat → Nat → Nat → Int → Shp → Fl → Il → Prop} {x1 : Nat} {x2 : Nat} {x3 : Nat} {x4 : Int} {Q : Int → Shp → Fl → Il → Prop} {S : Shp} {F : Fl} {I : Il} (HX : SXc G X bS ln scr) (C : CO G RL cL_law 7 X) (M : ML d (some .boolean) X) (hd : 16 ≤ d) (hk23 : ∀ (x1 : Nat) (x2 : Nat) (x3 : Nat) (x4 : Int) (S' : Shp) (F' : Fl) (I' : Il), k23 x1 x2 x3 x4 S' F' I' → J G X (QD X G (qI fun z S' F' I' => Q z S' F' I') noX) 23 [vr (some bS), vr (some x1), vr (some x2), vr (some x3), vi x4, vl 0, vl 0] [] S' F' I') (h : V_L_law_2303 G ln scr k23 x1 x2 x3 x4 S F I Q) : J G X (QD X G (qI fun z S' F' I' => Q z S' F' I') noX) 2303 [vr (some bS), vr (some x1), vr (some x2), vr (some x3), vi x4, vl 0, vl 0] [] S F I := by
  unfold V_L_law_2303 at h
  refine J_goto C dL_law_2303 (tgt := 2846) rfl ?_
  exact S_L_law_2846 HX C M (by omega) hk23 h
set_option maxRecDepth 20000 in
set_option maxHeartbeats 4000000 in
theorem S_L_law_2238 {G : Gp} {X : Xt} {d : Nat} {ln : Int} {scr : Int → Int} {bS : Nat} {k23 : Nat → Nat → Nat → Int → Shp → Fl → Il → Prop} {x1 : Nat} {x2 : Nat} {x3 : Nat} {x4 : Int} {Q : Int → Shp → Fl → Il → Prop} {S : Shp} {F : Fl} {I : Il} (HX : SXc G X bS ln scr) (C : CO G RL cL_law 7 X) (M : ML d (some .boolean) X) (hd : 16 ≤ d) (hk23 : ∀ (x1 : Nat) (x2 : Nat) (x3 : Nat) (x4 : Int) (S' : Shp) (F' : Fl) (I' : Il), k23 x1 x2 x3 x4 S' F' I' → J G X (QD X G (qI fun z S' F' I' => Q z S' F' I') noX) 23 [vr (some bS), vr (some x1), vr (some x2), vr (some x3), vi x4, vl 0, vl 0] [] S' F' I') (h : V_L_law_2238 G ln scr k23 x1 x2 x3 x4 S F I Q) : J G X (QD X G (qI fun z S' F' I' => Q z S' F' I') noX) 2238 [vr (some bS), vr (some x1), vr (some x2), vr (some x3), vi x4, vl 0, vl 0] [] S F I := by
  unfold V_L_law_2238 at h
  obtain ⟨d, rfl⟩ : ∃ d9, d = d9 + 1 := ⟨d - 1, by omega⟩
  refine J_aload_n C dL_law_2238 rfl rfl ?_
  refine J_aload_n C dL_law_2239 rfl rfl ?_
  refine J_iload C dL_law_2240 rfl ?_
  refine J_iconst C dL_law_2242 (rg_of (by decide)) ?_
  refine J_iadd C dL_law_2243 ?_
  obtain ⟨h01, hn2, h⟩ := h
  refine K_sld C HX dL_law_2244 h01 hn2 ?_
  refine J_aload_n C dL_law_2245 rfl rfl ?_
  refine J_iload C dL_law_2246 rfl ?_
  refine J_iconst C dL_law_2248 (rg_of (by decide)) ?_
  refine J_iadd C dL_law_2249 ?_
  obtain ⟨h03, hn4, h⟩ := h
  refine K_sld C HX dL_law_2250 h03 hn4 ?_
  refine J_aload_n C dL_law_2251 rfl rfl ?_
  refine K_SW C M.1 M.2.1 [vr (some x1), vi (scr (w32 (x4 + 1))), vi (scr (w32 (x4 + 2))), vr (some x3)] [] miw_L_block wg_1105 wg_1106 dL_law_2252 rfl rfl (by decide) (Nat.le_of_ble_eq_true rfl) (c_L_block (C.2.2.2.2.2.2.2) (by omega) h) (fun v9 S6 F7 I8 hq9 => ?_) rfl
  clear h
  obtain ⟨z5, rfl, h⟩ := hq9
  refine K_istore C [vr (some bS), vr (some x1), vr (some x2), vr (some x3), vi x4, vi z5, vl 0] dL_law_2255 (Nat.le_of_ble_eq_true rfl) rfl ?_
  refine J_aload_n C dL_law_2257 rfl rfl ?_
  refine J_aload_n C dL_law_2258 rfl rfl ?_
  refine J_iload C dL_law_2259 rfl ?_
  refine J_iconst C dL_law_2261 (rg_of (by decide)) ?_
  refine J_iadd C dL_law_2262 ?_
  obtain ⟨h09, hn10, h⟩ := h
  refine K_sld C HX dL_law_2263 h09 hn10 ?_
  refine J_aload_n C dL_law_2264 rfl rfl ?_
  refine J_iload C dL_law_2265 rfl ?_
  refine J_iconst C dL_law_2267 (rg_of (by decide)) ?_
  refine J_iadd C dL_law_2268 ?_
  obtain ⟨h011, hn12, h⟩ := h
  refine K_sld C HX dL_law_2269 h011 hn12 ?_
  obtain ⟨hK13, h⟩ := h
  refine K_VH C M.1 M.2.1 [vi (scr (w32 (x4 + 1))), vi (scr (w32 (x4 + 2)))] [] mi_X9_block wg_1659 wg_1660 wg_1661 ⟨rfl, by decide⟩ dL_law_2270 hK13 rfl rfl (by decide) (Nat.le_of_ble_eq_true rfl) (c_X9_block (C.2.2.2.2.2.2.2) (by omega) h) (fun v9 S' F15 I' hq9 => ?_) K_no rfl
  clear h
  obtain ⟨z14, rfl, rfl, rfl, h⟩ := hq9
  refine K_istore C [vr (some bS), vr (some x1), vr (some x2), vr (some x3), vi x4, vi z5, vi z14] dL_law_2273 (Nat.le_of_ble_eq_true rfl) rfl ?_
  refine J_aload_n C dL_law_2275 rfl rfl ?_
  refine K_VH C M.1 M.2.1 [] [] mi_X9_thrown wg_1403 wg_1404 wg_1405 ⟨rfl, by decide⟩ dL_law_2276 hK13 rfl rfl (by decide) (Nat.le_of_ble_eq_true rfl) (c_X9_thrown (C.2.2.2.2.2.2.2) (by omega) h) (fun v9 S' F' I' hq9 => ?_) K_no rfl
  clear h
  obtain ⟨z16, rfl, rfl, rfl, rfl, h⟩ := hq9
  refine J_iload C dL_law_2279 rfl ?_
  refine J_icmp_eq C dL_law_2281 (tgt := 2286) rfl (fun c2281 => ?_) (fun c2281 => ?_)
  · have h := h.1 c2281
    refine J_iload C dL_law_2286 rfl ?_
    refine J_if_ne C dL_law_2288 (tgt := 2303) rfl (fun c2288 => ?_) (fun c2288 => ?_)
    · have h := h.1 c2288
      refine J_less [vr (some bS), vr (some x1), vr (some x2), vr (some x3), vi x4, vl 0, vl 0] (by unfold lessL; simp [lessL]) ?_
      exact S_L_law_2303 HX C M (by omega) hk23 h
    · have h := h.2 c2288
      refine J_aload_n C dL_law_2291 rfl rfl ?_
      refine J_iconst C dL_law_2292 (rg_of (by decide)) ?_
      obtain ⟨hK17, h⟩ := h
      obtain ⟨h018, hn19, h⟩ := h
      refine J_lald C dL_law_2293 hK17 h018 hn19 ?_
      refine J_iload C dL_law_2294 rfl ?_
      refine J_i2l C dL_law_2296 ?_
      refine J_lcmp C dL_law_2297 ?_
      refine J_if_eq C dL_law_2298 (tgt := 2303) rfl (fun c2298 => ?_) (fun c2298 => ?_)
      · have h := h.1 c2298
        refine J_less [vr (some bS), vr (some x1), vr (some x2), vr (some x3), vi x4, vl 0, vl 0] (by unfold lessL; simp [lessL]) ?_
        exact S_L_law_2303 HX C M (by omega) hk23 h
      · have h := h.2 c2298
        refine J_iconst C dL_law_2301 (rg_of (by decide)) ?_
        exact J_zret C dL_law_2302 M.2.2.1 (by decide) ⟨_, rfl, h⟩
  · have h := h.2 c2281
    refine J_iconst C dL_law_2284 (rg_of (by decide)) ?_
    exact J_zret C dL_law_2285 M.2.2.1 (by decide) ⟨_, rfl, h⟩
set_option maxRecDepth 20000 in
set_option maxHeartbeats 4000000 in
theorem S_L_law_2371 {G : Gp} {X : Xt} {d : Nat} {ln : Int} {scr : Int → Int} {bS : Nat} {k23 : Nat → Nat → Nat → Int → Shp → Fl → Il → Prop} {x1 : Nat} {x2 : Nat} {x3 : Nat} {x4 : Int} {Q : Int → Shp → Fl → Il → Prop} {S : Shp} {F : Fl} {I : Il} (HX : SXc G X bS ln scr) (C : CO G RL cL_law 7 X) (M : ML d (some .boolean) X) (hd : 16 ≤ d) (hk23 : ∀ (x1 : Nat) (x2 : Nat) (x3 : Nat) (x4 : Int) (S' : Shp) (F' : Fl) (I' : Il), k23 x1 x2 x3 x4 S' F' I' → J G X (QD X G (qI fun z S' F' I' => Q z S' F' I') noX) 23 [vr (some bS), vr (some x1), vr (some x2), vr (some x3), vi x4, vl 0, vl 0] [] S' F' I') (h : V_L_law_2371 G ln scr k23 x1 x2 x3 x4 S F I Q) : J G X (QD X G (qI fun z S' F' I' => Q z S' F' I') noX) 2371 [vr (some bS), vr (some x1), vr (some x2), vr (some x3), vi x4, vl 0, vl 0] [] S F I := by
  unfold V_L_law_2371 at h
  refine J_goto C dL_law_2371 (tgt := 2846) rfl ?_
  exact S_L_law_2846 HX C M (by omega) hk23 h
set_option maxRecDepth 20000 in
set_option maxHeartbeats 4000000 in
theorem S_L_law_2306 {G : Gp} {X : Xt} {d : Nat} {ln : Int} {scr : Int → Int} {bS : Nat} {k23 : Nat → Nat → Nat → Int → Shp → Fl → Il → Prop} {x1 : Nat} {x2 : Nat} {x3 : Nat} {x4 : Int} {Q : Int → Shp → Fl → Il → Prop} {S : Shp} {F : Fl} {I : Il} (HX : SXc G X bS ln scr) (C : CO G RL cL_law 7 X) (M : ML d (some .boolean) X) (hd : 16 ≤ d) (hk23 : ∀ (x1 : Nat) (x2 : Nat) (x3 : Nat) (x4 : Int) (S' : Shp) (F' : Fl) (I' : Il), k23 x1 x2 x3 x4 S' F' I' → J G X (QD X G (qI fun z S' F' I' => Q z S' F' I') noX) 23 [vr (some bS), vr (some x1), vr (some x2), vr (some x3), vi x4, vl 0, vl 0] [] S' F' I') (h : V_L_law_2306 G ln scr k23 x1 x2 x3 x4 S F I Q) : J G X (QD X G (qI fun z S' F' I' => Q z S' F' I') noX) 2306 [vr (some bS), vr (some x1), vr (some x2), vr (some x3), vi x4, vl 0, vl 0] [] S F I := by
  unfold V_L_law_2306 at h
  obtain ⟨d, rfl⟩ : ∃ d9, d = d9 + 1 := ⟨d - 1, by omega⟩
  refine J_aload_n C dL_law_2306 rfl rfl ?_
  refine J_aload_n C dL_law_2307 rfl rfl ?_
  refine J_iload C dL_law_2308 rfl ?_
  refine J_iconst C dL_law_2310 (rg_of (by decide)) ?_
  refine J_iadd C dL_law_2311 ?_
  obtain ⟨h01, hn2, h⟩ := h
  refine K_sld C HX dL_law_2312 h01 hn2 ?_
  refine J_aload_n C dL_law_2313 rfl rfl ?_
  refine J_iload C dL_law_2314 rfl ?_
  refine J_iconst C dL_law_2316 (rg_of (by decide)) ?_
  refine J_iadd C dL_law_2317 ?_
  obtain ⟨h03, hn4, h⟩ := h
  refine K_sld C HX dL_law_2318 h03 hn4 ?_
  refine J_aload_n C dL_law_2319 rfl rfl ?_
  refine K_SW C M.1 M.2.1 [vr (some x1), vi (scr (w32 (x4 + 1))), vi (scr (w32 (x4 + 2))), vr (some x3)] [] miw_L_train wg_1112 wg_1113 dL_law_2320 rfl rfl (by decide) (Nat.le_of_ble_eq_true rfl) (c_L_train (C.2.2.2.2.2.2.2) (by omega) h) (fun v9 S6 F7 I8 hq9 => ?_) rfl
  clear h
  obtain ⟨z5, rfl, h⟩ := hq9
  refine K_istore C [vr (some bS), vr (some x1), vr (some x2), vr (some x3), vi x4, vi z5, vl 0] dL_law_2323 (Nat.le_of_ble_eq_true rfl) rfl ?_
  refine J_aload_n C dL_law_2325 rfl rfl ?_
  refine J_aload_n C dL_law_2326 rfl rfl ?_
  refine J_iload C dL_law_2327 rfl ?_
  refine J_iconst C dL_law_2329 (rg_of (by decide)) ?_
  refine J_iadd C dL_law_2330 ?_
  obtain ⟨h09, hn10, h⟩ := h
  refine K_sld C HX dL_law_2331 h09 hn10 ?_
  refine J_aload_n C dL_law_2332 rfl rfl ?_
  refine J_iload C dL_law_2333 rfl ?_
  refine J_iconst C dL_law_2335 (rg_of (by decide)) ?_
  refine J_iadd C dL_law_2336 ?_
  obtain ⟨h011, hn12, h⟩ := h
  refine K_sld C HX dL_law_2337 h011 hn12 ?_
  obtain ⟨hK13, h⟩ := h
  refine K_VH C M.1 M.2.1 [vi (scr (w32 (x4 + 1))), vi (scr (w32 (x4 + 2)))] [] mi_X9_train wg_1663 wg_1664 wg_1665 ⟨rfl, by decide⟩ dL_law_2338 hK13 rfl rfl (by decide) (Nat.le_of_ble_eq_true rfl) (c_X9_train (C.2.2.2.2.2.2.2) (by omega) h) (fun v9 S' F15 I' hq9 => ?_) K_no rfl
  clear h
  obtain ⟨z14, rfl, rfl, rfl, h⟩ := hq9
  refine K_istore C [vr (some bS), vr (some x1), vr (some x2), vr (some x3), vi x4, vi z5, vi z14] dL_law_2341 (Nat.le_of_ble_eq_true rfl) rfl ?_
  refine J_aload_n C dL_law_2343 rfl rfl ?_
  refine K_VH C M.1 M.2.1 [] [] mi_X9_thrown wg_1403 wg_1404 wg_1405 ⟨rfl, by decide⟩ dL_law_2344 hK13 rfl rfl (by decide) (Nat.le_of_ble_eq_true rfl) (c_X9_thrown (C.2.2.2.2.2.2.2) (by omega) h) (fun v9 S' F' I' hq9 => ?_) K_no rfl
  clear h
  obtain ⟨z16, rfl, rfl, rfl, rfl, h⟩ := hq9
  refine J_iload C dL_law_2347 rfl ?_
  refine J_icmp_eq C dL_law_2349 (tgt := 2354) rfl (fun c2349 => ?_) (fun c2349 => ?_)
  · have h := h.1 c2349
    refine J_iload C dL_law_2354 rfl ?_
    refine J_if_ne C dL_law_2356 (tgt := 2371) rfl (fun c2356 => ?_) (fun c2356 => ?_)
    · have h := h.1 c2356
      refine J_less [vr (some bS), vr (some x1), vr (some x2), vr (some x3), vi x4, vl 0, vl 0] (by unfold lessL; simp [lessL]) ?_
      exact S_L_law_2371 HX C M (by omega) hk23 h
    · have h := h.2 c2356
      refine J_aload_n C dL_law_2359 rfl rfl ?_
      refine J_iconst C dL_law_2360 (rg_of (by decide)) ?_
      obtain ⟨hK17, h⟩ := h
      obtain ⟨h018, hn19, h⟩ := h
      refine J_lald C dL_law_2361 hK17 h018 hn19 ?_
      refine J_iload C dL_law_2362 rfl ?_
      refine J_i2l C dL_law_2364 ?_
      refine J_lcmp C dL_law_2365 ?_
      refine J_if_eq C dL_law_2366 (tgt := 2371) rfl (fun c2366 => ?_) (fun c2366 => ?_)
      · have h := h.1 c2366
        refine J_less [vr (some bS), vr (some x1), vr (some x2), vr (some x3), vi x4, vl 0, vl 0] (by unfold lessL; simp [lessL]) ?_
        exact S_L_law_2371 HX C M (by omega) hk23 h
      · have h := h.2 c2366
        refine J_iconst C dL_law_2369 (rg_of (by decide)) ?_
        exact J_zret C dL_law_2370 M.2.2.1 (by decide) ⟨_, rfl, h⟩
  · have h := h.2 c2349
    refine J_iconst C dL_law_2352 (rg_of (by decide)) ?_
    exact J_zret C dL_law_2353 M.2.2.1 (by decide) ⟨_, rfl, h⟩
set_option maxRecDepth 20000 in
set_option maxHeartbeats 4000000 in
theorem S_L_law_2427 {G : Gp} {X : Xt} {d : Nat} {ln : Int} {scr : Int → Int} {bS : Nat} {k23 : Nat → Nat → Nat → Int → Shp → Fl → Il → Prop} {x1 : Nat} {x2 : Nat} {x3 : Nat} {x4 : Int} {Q : Int → Shp → Fl → Il → Prop} {S : Shp} {F : Fl} {I : Il} (HX : SXc G X bS ln scr) (C : CO G RL cL_law 7 X) (M : ML d (some .boolean) X) (hd : 16 ≤ d) (hk23 : ∀ (x1 : Nat) (x2 : Nat) (x3 : Nat) (x4 : Int) (S' : Shp) (F' : Fl) (I' : Il), k23 x1 x2 x3 x4 S' F' I' → J G X (QD X G (qI fun z S' F' I' => Q z S' F' I') noX) 23 [vr (some bS), vr (some x1), vr (some x2), vr (some x3), vi x4, vl 0, vl 0] [] S' F' I') (h : V_L_law_2427 G ln scr k23 x1 x2 x3 x4 S F I Q) : J G X (QD X G (qI fun z S' F' I' => Q z S' F' I') noX) 2427 [vr (some bS), vr (some x1), vr (some x2), vr (some x3), vi x4, vl 0, vl 0] [] S F I := by
  unfold V_L_law_2427 at h
  refine J_goto C dL_law_2427 (tgt := 2846) rfl ?_
  exact S_L_law_2846 HX C M (by omega) hk23 h
set_option maxRecDepth 20000 in
set_option maxHeartbeats 4000000 in
theorem S_L_law_2374 {G : Gp} {X : Xt} {d : Nat} {ln : Int} {scr : Int → Int} {bS : Nat} {k23 : Nat → Nat → Nat → Int → Shp → Fl → Il → Prop} {x1 : Nat} {x2 : Nat} {x3 : Nat} {x4 : Int} {Q : Int → Shp → Fl → Il → Prop} {S : Shp} {F : Fl} {I : Il} (HX : SXc G X bS ln scr) (C : CO G RL cL_law 7 X) (M : ML d (some .boolean) X) (hd : 16 ≤ d) (hk23 : ∀ (x1 : Nat) (x2 : Nat) (x3 : Nat) (x4 : Int) (S' : Shp) (F' : Fl) (I' : Il), k23 x1 x2 x3 x4 S' F' I' → J G X (QD X G (qI fun z S' F' I' => Q z S' F' I') noX) 23 [vr (some bS), vr (some x1), vr (some x2), vr (some x3), vi x4, vl 0, vl 0] [] S' F' I') (h : V_L_law_2374 G ln scr k23 x1 x2 x3 x4 S F I Q) : J G X (QD X G (qI fun z S' F' I' => Q z S' F' I') noX) 2374 [vr (some bS), vr (some x1), vr (some x2), vr (some x3), vi x4, vl 0, vl 0] [] S F I := by
  unfold V_L_law_2374 at h
  obtain ⟨d, rfl⟩ : ∃ d9, d = d9 + 1 := ⟨d - 1, by omega⟩
  refine J_aload_n C dL_law_2374 rfl rfl ?_
  refine J_aload_n C dL_law_2375 rfl rfl ?_
  refine J_iload C dL_law_2376 rfl ?_
  refine J_iconst C dL_law_2378 (rg_of (by decide)) ?_
  refine J_iadd C dL_law_2379 ?_
  obtain ⟨h01, hn2, h⟩ := h
  refine K_sld C HX dL_law_2380 h01 hn2 ?_
  refine J_aload_n C dL_law_2381 rfl rfl ?_
  refine K_SW C M.1 M.2.1 [vr (some x1), vi (scr (w32 (x4 + 1))), vr (some x3)] [] miw_L_barred wg_1119 wg_1120 dL_law_2382 rfl rfl (by decide) (Nat.le_of_ble_eq_true rfl) (c_L_barred (C.2.2.2.2.2.2.2) (by omega) h) (fun v9 S4 F5 I6 hq9 => ?_) rfl
  clear h
  obtain ⟨z3, rfl, h⟩ := hq9
  refine K_istore C [vr (some bS), vr (some x1), vr (some x2), vr (some x3), vi x4, vi z3, vl 0] dL_law_2385 (Nat.le_of_ble_eq_true rfl) rfl ?_
  refine J_aload_n C dL_law_2387 rfl rfl ?_
  refine J_aload_n C dL_law_2388 rfl rfl ?_
  refine J_iload C dL_law_2389 rfl ?_
  refine J_iconst C dL_law_2391 (rg_of (by decide)) ?_
  refine J_iadd C dL_law_2392 ?_
  obtain ⟨h07, hn8, h⟩ := h
  refine K_sld C HX dL_law_2393 h07 hn8 ?_
  obtain ⟨hK9, h⟩ := h
  refine K_VH C M.1 M.2.1 [vi (scr (w32 (x4 + 1)))] [] mi_X9_barred wg_1667 wg_1668 wg_1669 ⟨rfl, by decide⟩ dL_law_2394 hK9 rfl rfl (by decide) (Nat.le_of_ble_eq_true rfl) (c_X9_barred (C.2.2.2.2.2.2.2) (by omega) h) (fun v9 S' F11 I' hq9 => ?_) K_no rfl
  clear h
  obtain ⟨z10, rfl, rfl, rfl, h⟩ := hq9
  refine K_istore C [vr (some bS), vr (some x1), vr (some x2), vr (some x3), vi x4, vi z3, vi z10] dL_law_2397 (Nat.le_of_ble_eq_true rfl) rfl ?_
  refine J_aload_n C dL_law_2399 rfl rfl ?_
  refine K_VH C M.1 M.2.1 [] [] mi_X9_thrown wg_1403 wg_1404 wg_1405 ⟨rfl, by decide⟩ dL_law_2400 hK9 rfl rfl (by decide) (Nat.le_of_ble_eq_true rfl) (c_X9_thrown (C.2.2.2.2.2.2.2) (by omega) h) (fun v9 S' F' I' hq9 => ?_) K_no rfl
  clear h
  obtain ⟨z12, rfl, rfl, rfl, rfl, h⟩ := hq9
  refine J_iload C dL_law_2403 rfl ?_
  refine J_icmp_eq C dL_law_2405 (tgt := 2410) rfl (fun c2405 => ?_) (fun c2405 => ?_)
  · have h := h.1 c2405
    refine J_iload C dL_law_2410 rfl ?_
    refine J_if_ne C dL_law_2412 (tgt := 2427) rfl (fun c2412 => ?_) (fun c2412 => ?_)
    · have h := h.1 c2412
      refine J_less [vr (some bS), vr (some x1), vr (some x2), vr (some x3), vi x4, vl 0, vl 0] (by unfold lessL; simp [lessL]) ?_
      exact S_L_law_2427 HX C M (by omega) hk23 h
    · have h := h.2 c2412
      refine J_aload_n C dL_law_2415 rfl rfl ?_
      refine J_iconst C dL_law_2416 (rg_of (by decide)) ?_
      obtain ⟨hK13, h⟩ := h
      obtain ⟨h014, hn15, h⟩ := h
      refine J_lald C dL_law_2417 hK13 h014 hn15 ?_
      refine J_iload C dL_law_2418 rfl ?_
      refine J_i2l C dL_law_2420 ?_
      refine J_lcmp C dL_law_2421 ?_
      refine J_if_eq C dL_law_2422 (tgt := 2427) rfl (fun c2422 => ?_) (fun c2422 => ?_)
      · have h := h.1 c2422
        refine J_less [vr (some bS), vr (some x1), vr (some x2), vr (some x3), vi x4, vl 0, vl 0] (by unfold lessL; simp [lessL]) ?_
        exact S_L_law_2427 HX C M (by omega) hk23 h
      · have h := h.2 c2422
        refine J_iconst C dL_law_2425 (rg_of (by decide)) ?_
        exact J_zret C dL_law_2426 M.2.2.1 (by decide) ⟨_, rfl, h⟩
  · have h := h.2 c2405
    refine J_iconst C dL_law_2408 (rg_of (by decide)) ?_
    exact J_zret C dL_law_2409 M.2.2.1 (by decide) ⟨_, rfl, h⟩
set_option maxRecDepth 20000 in
set_option maxHeartbeats 4000000 in
theorem S_L_law_2483 {G : Gp} {X : Xt} {d : Nat} {ln : Int} {scr : Int → Int} {bS : Nat} {k23 : Nat → Nat → Nat → Int → Shp → Fl → Il → Prop} {x1 : Nat} {x2 : Nat} {x3 : Nat} {x4 : Int} {Q : Int → Shp → Fl → Il → Prop} {S : Shp} {F : Fl} {I : Il} (HX : SXc G X bS ln scr) (C : CO G RL cL_law 7 X) (M : ML d (some .boolean) X) (hd : 16 ≤ d) (hk23 : ∀ (x1 : Nat) (x2 : Nat) (x3 : Nat) (x4 : Int) (S' : Shp) (F' : Fl) (I' : Il), k23 x1 x2 x3 x4 S' F' I' → J G X (QD X G (qI fun z S' F' I' => Q z S' F' I') noX) 23 [vr (some bS), vr (some x1), vr (some x2), vr (some x3), vi x4, vl 0, vl 0] [] S' F' I') (h : V_L_law_2483 G ln scr k23 x1 x2 x3 x4 S F I Q) : J G X (QD X G (qI fun z S' F' I' => Q z S' F' I') noX) 2483 [vr (some bS), vr (some x1), vr (some x2), vr (some x3), vi x4, vl 0, vl 0] [] S F I := by
  unfold V_L_law_2483 at h
  refine J_goto C dL_law_2483 (tgt := 2846) rfl ?_
  exact S_L_law_2846 HX C M (by omega) hk23 h
set_option maxRecDepth 20000 in
set_option maxHeartbeats 4000000 in
theorem S_L_law_2430 {G : Gp} {X : Xt} {d : Nat} {ln : Int} {scr : Int → Int} {bS : Nat} {k23 : Nat → Nat → Nat → Int → Shp → Fl → Il → Prop} {x1 : Nat} {x2 : Nat} {x3 : Nat} {x4 : Int} {Q : Int → Shp → Fl → Il → Prop} {S : Shp} {F : Fl} {I : Il} (HX : SXc G X bS ln scr) (C : CO G RL cL_law 7 X) (M : ML d (some .boolean) X) (hd : 16 ≤ d) (hk23 : ∀ (x1 : Nat) (x2 : Nat) (x3 : Nat) (x4 : Int) (S' : Shp) (F' : Fl) (I' : Il), k23 x1 x2 x3 x4 S' F' I' → J G X (QD X G (qI fun z S' F' I' => Q z S' F' I') noX) 23 [vr (some bS), vr (some x1), vr (some x2), vr (some x3), vi x4, vl 0, vl 0] [] S' F' I') (h : V_L_law_2430 G ln scr k23 x1 x2 x3 x4 S F I Q) : J G X (QD X G (qI fun z S' F' I' => Q z S' F' I') noX) 2430 [vr (some bS), vr (some x1), vr (some x2), vr (some x3), vi x4, vl 0, vl 0] [] S F I := by
  unfold V_L_law_2430 at h
  obtain ⟨d, rfl⟩ : ∃ d9, d = d9 + 1 := ⟨d - 1, by omega⟩
  refine J_aload_n C dL_law_2430 rfl rfl ?_
  refine J_aload_n C dL_law_2431 rfl rfl ?_
  refine J_iload C dL_law_2432 rfl ?_
  refine J_iconst C dL_law_2434 (rg_of (by decide)) ?_
  refine J_iadd C dL_law_2435 ?_
  obtain ⟨h01, hn2, h⟩ := h
  refine K_sld C HX dL_law_2436 h01 hn2 ?_
  refine J_aload_n C dL_law_2437 rfl rfl ?_
  refine K_SW C M.1 M.2.1 [vr (some x1), vi (scr (w32 (x4 + 1))), vr (some x3)] [] miw_L_duty wg_1126 wg_1127 dL_law_2438 rfl rfl (by decide) (Nat.le_of_ble_eq_true rfl) (c_L_duty (C.2.2.2.2.2.2.2) (by omega) h) (fun v9 S4 F5 I6 hq9 => ?_) rfl
  clear h
  obtain ⟨z3, rfl, h⟩ := hq9
  refine K_istore C [vr (some bS), vr (some x1), vr (some x2), vr (some x3), vi x4, vi z3, vl 0] dL_law_2441 (Nat.le_of_ble_eq_true rfl) rfl ?_
  refine J_aload_n C dL_law_2443 rfl rfl ?_
  refine J_aload_n C dL_law_2444 rfl rfl ?_
  refine J_iload C dL_law_2445 rfl ?_
  refine J_iconst C dL_law_2447 (rg_of (by decide)) ?_
  refine J_iadd C dL_law_2448 ?_
  obtain ⟨h07, hn8, h⟩ := h
  refine K_sld C HX dL_law_2449 h07 hn8 ?_
  obtain ⟨hK9, h⟩ := h
  refine K_VH C M.1 M.2.1 [vi (scr (w32 (x4 + 1)))] [] mi_X9_duty wg_1671 wg_1672 wg_1673 ⟨rfl, by decide⟩ dL_law_2450 hK9 rfl rfl (by decide) (Nat.le_of_ble_eq_true rfl) (c_X9_duty (C.2.2.2.2.2.2.2) (by omega) h) (fun v9 S' F11 I' hq9 => ?_) K_no rfl
  clear h
  obtain ⟨z10, rfl, rfl, rfl, h⟩ := hq9
  refine K_istore C [vr (some bS), vr (some x1), vr (some x2), vr (some x3), vi x4, vi z3, vi z10] dL_law_2453 (Nat.le_of_ble_eq_true rfl) rfl ?_
  refine J_aload_n C dL_law_2455 rfl rfl ?_
  refine K_VH C M.1 M.2.1 [] [] mi_X9_thrown wg_1403 wg_1404 wg_1405 ⟨rfl, by decide⟩ dL_law_2456 hK9 rfl rfl (by decide) (Nat.le_of_ble_eq_true rfl) (c_X9_thrown (C.2.2.2.2.2.2.2) (by omega) h) (fun v9 S' F' I' hq9 => ?_) K_no rfl
  clear h
  obtain ⟨z12, rfl, rfl, rfl, rfl, h⟩ := hq9
  refine J_iload C dL_law_2459 rfl ?_
  refine J_icmp_eq C dL_law_2461 (tgt := 2466) rfl (fun c2461 => ?_) (fun c2461 => ?_)
  · have h := h.1 c2461
    refine J_iload C dL_law_2466 rfl ?_
    refine J_if_ne C dL_law_2468 (tgt := 2483) rfl (fun c2468 => ?_) (fun c2468 => ?_)
    · have h := h.1 c2468
      refine J_less [vr (some bS), vr (some x1), vr (some x2), vr (some x3), vi x4, vl 0, vl 0] (by unfold lessL; simp [lessL]) ?_
      exact S_L_law_2483 HX C M (by omega) hk23 h
    · have h := h.2 c2468
      refine J_aload_n C dL_law_2471 rfl rfl ?_
      refine J_iconst C dL_law_2472 (rg_of (by decide)) ?_
      obtain ⟨hK13, h⟩ := h
      obtain ⟨h014, hn15, h⟩ := h
      refine J_lald C dL_law_2473 hK13 h014 hn15 ?_
      refine J_iload C dL_law_2474 rfl ?_
      refine J_i2l C dL_law_2476 ?_
      refine J_lcmp C dL_law_2477 ?_
      refine J_if_eq C dL_law_2478 (tgt := 2483) rfl (fun c2478 => ?_) (fun c2478 => ?_)
      · have h := h.1 c2478
        refine J_less [vr (some bS), vr (some x1), vr (some x2), vr (some x3), vi x4, vl 0, vl 0] (by unfold lessL; simp [lessL]) ?_
        exact S_L_law_2483 HX C M (by omega) hk23 h
      · have h := h.2 c2478
        refine J_iconst C dL_law_2481 (rg_of (by decide)) ?_
        exact J_zret C dL_law_2482 M.2.2.1 (by decide) ⟨_, rfl, h⟩
  · have h := h.2 c2461
    refine J_iconst C dL_law_2464 (rg_of (by decide)) ?_
    exact J_zret C dL_law_2465 M.2.2.1 (by decide) ⟨_, rfl, h⟩
set_option maxRecDepth 20000 in
set_option maxHeartbeats 4000000 in
theorem S_L_law_2539 {G : Gp} {X : Xt} {d : Nat} {ln : Int} {scr : Int → Int} {bS : Nat} {k23 : Nat → Nat → Nat → Int → Shp → Fl → Il → Prop} {x1 : Nat} {x2 : Nat} {x3 : Nat} {x4 : Int} {Q : Int → Shp → Fl → Il → Prop} {S : Shp} {F : Fl} {I : Il} (HX : SXc G X bS ln scr) (C : CO G RL cL_law 7 X) (M : ML d (some .boolean) X) (hd : 16 ≤ d) (hk23 : ∀ (x1 : Nat) (x2 : Nat) (x3 : Nat) (x4 : Int) (S' : Shp) (F' : Fl) (I' : Il), k23 x1 x2 x3 x4 S' F' I' → J G X (QD X G (qI fun z S' F' I' => Q z S' F' I') noX) 23 [vr (some bS), vr (some x1), vr (some x2), vr (some x3), vi x4, vl 0, vl 0] [] S' F' I') (h : V_L_law_2539 G ln scr k23 x1 x2 x3 x4 S F I Q) : J G X (QD X G (qI fun z S' F' I' => Q z S' F' I') noX) 2539 [vr (some bS), vr (some x1), vr (some x2), vr (some x3), vi x4, vl 0, vl 0] [] S F I := by
  unfold V_L_law_2539 at h
  refine J_goto C dL_law_2539 (tgt := 2846) rfl ?_
  exact S_L_law_2846 HX C M (by omega) hk23 h
set_option maxRecDepth 20000 in
set_option maxHeartbeats 4000000 in
theorem S_L_law_2486 {G : Gp} {X : Xt} {d : Nat} {ln : Int} {scr : Int → Int} {bS : Nat} {k23 : Nat → Nat → Nat → Int → Shp → Fl → Il → Prop} {x1 : Nat} {x2 : Nat} {x3 : Nat} {x4 : Int} {Q : Int → Shp → Fl → Il → Prop} {S : Shp} {F : Fl} {I : Il} (HX : SXc G X bS ln scr) (C : CO G RL cL_law 7 X) (M : ML d (some .boolean) X) (hd : 16 ≤ d) (hk23 : ∀ (x1 : Nat) (x2 : Nat) (x3 : Nat) (x4 : Int) (S' : Shp) (F' : Fl) (I' : Il), k23 x1 x2 x3 x4 S' F' I' → J G X (QD X G (qI fun z S' F' I' => Q z S' F' I') noX) 23 [vr (some bS), vr (some x1), vr (some x2), vr (some x3), vi x4, vl 0, vl 0] [] S' F' I') (h : V_L_law_2486 G ln scr k23 x1 x2 x3 x4 S F I Q) : J G X (QD X G (qI fun z S' F' I' => Q z S' F' I') noX) 2486 [vr (some bS), vr (some x1), vr (some x2), vr (some x3), vi x4, vl 0, vl 0] [] S F I := by
  unfold V_L_law_2486 at h
  obtain ⟨d, rfl⟩ : ∃ d9, d = d9 + 1 := ⟨d - 1, by omega⟩
  refine J_aload_n C dL_law_2486 rfl rfl ?_
  refine J_aload_n C dL_law_2487 rfl rfl ?_
  refine J_iload C dL_law_2488 rfl ?_
  refine J_iconst C dL_law_2490 (rg_of (by decide)) ?_
  refine J_iadd C dL_law_2491 ?_
  obtain ⟨h01, hn2, h⟩ := h
  refine K_sld C HX dL_law_2492 h01 hn2 ?_
  refine J_aload_n C dL_law_2493 rfl rfl ?_
  refine K_SW C M.1 M.2.1 [vr (some x1), vi (scr (w32 (x4 + 1))), vr (some x3)] [] miw_L_carAt wg_1133 wg_1134 dL_law_2494 rfl rfl (by decide) (Nat.le_of_ble_eq_true rfl) (c_L_carAt (C.2.2.2.2.2.2.2) (by omega) h) (fun v9 S4 F5 I6 hq9 => ?_) rfl
  clear h
  obtain ⟨z3, rfl, h⟩ := hq9
  refine K_istore C [vr (some bS), vr (some x1), vr (some x2), vr (some x3), vi x4, vi z3, vl 0] dL_law_2497 (Nat.le_of_ble_eq_true rfl) rfl ?_
  refine J_aload_n C dL_law_2499 rfl rfl ?_
  refine J_aload_n C dL_law_2500 rfl rfl ?_
  refine J_iload C dL_law_2501 rfl ?_
  refine J_iconst C dL_law_2503 (rg_of (by decide)) ?_
  refine J_iadd C dL_law_2504 ?_
  obtain ⟨h07, hn8, h⟩ := h
  refine K_sld C HX dL_law_2505 h07 hn8 ?_
  obtain ⟨hK9, h⟩ := h
  refine K_VH C M.1 M.2.1 [vi (scr (w32 (x4 + 1)))] [] mi_X9_carAt wg_1675 wg_1676 wg_1677 ⟨rfl, by decide⟩ dL_law_2506 hK9 rfl rfl (by decide) (Nat.le_of_ble_eq_true rfl) (c_X9_carAt (C.2.2.2.2.2.2.2) (by omega) h) (fun v9 S' F11 I' hq9 => ?_) K_no rfl
  clear h
  obtain ⟨z10, rfl, rfl, rfl, h⟩ := hq9
  refine K_istore C [vr (some bS), vr (some x1), vr (some x2), vr (some x3), vi x4, vi z3, vi z10] dL_law_2509 (Nat.le_of_ble_eq_true rfl) rfl ?_
  refine J_aload_n C dL_law_2511 rfl rfl ?_
  refine K_VH C M.1 M.2.1 [] [] mi_X9_thrown wg_1403 wg_1404 wg_1405 ⟨rfl, by decide⟩ dL_law_2512 hK9 rfl rfl (by decide) (Nat.le_of_ble_eq_true rfl) (c_X9_thrown (C.2.2.2.2.2.2.2) (by omega) h) (fun v9 S' F' I' hq9 => ?_) K_no rfl
  clear h
  obtain ⟨z12, rfl, rfl, rfl, rfl, h⟩ := hq9
  refine J_iload C dL_law_2515 rfl ?_
  refine J_icmp_eq C dL_law_2517 (tgt := 2522) rfl (fun c2517 => ?_) (fun c2517 => ?_)
  · have h := h.1 c2517
    refine J_iload C dL_law_2522 rfl ?_
    refine J_if_ne C dL_law_2524 (tgt := 2539) rfl (fun c2524 => ?_) (fun c2524 => ?_)
    · have h := h.1 c2524
      refine J_less [vr (some bS), vr (some x1), vr (some x2), vr (some x3), vi x4, vl 0, vl 0] (by unfold lessL; simp [lessL]) ?_
      exact S_L_law_2539 HX C M (by omega) hk23 h
    · have h := h.2 c2524
      refine J_aload_n C dL_law_2527 rfl rfl ?_
      refine J_iconst C dL_law_2528 (rg_of (by decide)) ?_
      obtain ⟨hK13, h⟩ := h
      obtain ⟨h014, hn15, h⟩ := h
      refine J_lald C dL_law_2529 hK13 h014 hn15 ?_
      refine J_iload C dL_law_2530 rfl ?_
      refine J_i2l C dL_law_2532 ?_
      refine J_lcmp C dL_law_2533 ?_
      refine J_if_eq C dL_law_2534 (tgt := 2539) rfl (fun c2534 => ?_) (fun c2534 => ?_)
      · have h := h.1 c2534
        refine J_less [vr (some bS), vr (some x1), vr (some x2), vr (some x3), vi x4, vl 0, vl 0] (by unfold lessL; simp [lessL]) ?_
        exact S_L_law_2539 HX C M (by omega) hk23 h
      · have h := h.2 c2534
        refine J_iconst C dL_law_2537 (rg_of (by decide)) ?_
        exact J_zret C dL_law_2538 M.2.2.1 (by decide) ⟨_, rfl, h⟩
  · have h := h.2 c2517
    refine J_iconst C dL_law_2520 (rg_of (by decide)) ?_
    exact J_zret C dL_law_2521 M.2.2.1 (by decide) ⟨_, rfl, h⟩
set_option maxRecDepth 20000 in
set_option maxHeartbeats 4000000 in
theorem S_L_law_2595 {G : Gp} {X : Xt} {d : Nat} {ln : Int} {scr : Int → Int} {bS : Nat} {k23 : Nat → Nat → Nat → Int → Shp → Fl → Il → Prop} {x1 : Nat} {x2 : Nat} {x3 : Nat} {x4 : Int} {Q : Int → Shp → Fl → Il → Prop} {S : Shp} {F : Fl} {I : Il} (HX : SXc G X bS ln scr) (C : CO G RL cL_law 7 X) (M : ML d (some .boolean) X) (hd : 16 ≤ d) (hk23 : ∀ (x1 : Nat) (x2 : Nat) (x3 : Nat) (x4 : Int) (S' : Shp) (F' : Fl) (I' : Il), k23 x1 x2 x3 x4 S' F' I' → J G X (QD X G (qI fun z S' F' I' => Q z S' F' I') noX) 23 [vr (some bS), vr (some x1), vr (some x2), vr (some x3), vi x4, vl 0, vl 0] [] S' F' I') (h : V_L_law_2595 G ln scr k23 x1 x2 x3 x4 S F I Q) : J G X (QD X G (qI fun z S' F' I' => Q z S' F' I') noX) 2595 [vr (some bS), vr (some x1), vr (some x2), vr (some x3), vi x4, vl 0, vl 0] [] S F I := by
  unfold V_L_law_2595 at h
  refine J_goto C dL_law_2595 (tgt := 2846) rfl ?_
  exact S_L_law_2846 HX C M (by omega) hk23 h
set_option maxRecDepth 20000 in
set_option maxHeartbeats 4000000 in
theorem S_L_law_2542 {G : Gp} {X : Xt} {d : Nat} {ln : Int} {scr : Int → Int} {bS : Nat} {k23 : Nat → Nat → Nat → Int → Shp → Fl → Il → Prop} {x1 : Nat} {x2 : Nat} {x3 : Nat} {x4 : Int} {Q : Int → Shp → Fl → Il → Prop} {S : Shp} {F : Fl} {I : Il} (HX : SXc G X bS ln scr) (C : CO G RL cL_law 7 X) (M : ML d (some .boolean) X) (hd : 16 ≤ d) (hk23 : ∀ (x1 : Nat) (x2 : Nat) (x3 : Nat) (x4 : Int) (S' : Shp) (F' : Fl) (I' : Il), k23 x1 x2 x3 x4 S' F' I' → J G X (QD X G (qI fun z S' F' I' => Q z S' F' I') noX) 23 [vr (some bS), vr (some x1), vr (some x2), vr (some x3), vi x4, vl 0, vl 0] [] S' F' I') (h : V_L_law_2542 G ln scr k23 x1 x2 x3 x4 S F I Q) : J G X (QD X G (qI fun z S' F' I' => Q z S' F' I') noX) 2542 [vr (some bS), vr (some x1), vr (some x2), vr (some x3), vi x4, vl 0, vl 0] [] S F I := by
  unfold V_L_law_2542 at h
  obtain ⟨d, rfl⟩ : ∃ d9, d = d9 + 1 := ⟨d - 1, by omega⟩
  refine J_aload_n C dL_law_2542 rfl rfl ?_
  refine J_aload_n C dL_law_2543 rfl rfl ?_
  refine J_iload C dL_law_2544 rfl ?_
  refine J_iconst C dL_law_2546 (rg_of (by decide)) ?_
  refine J_iadd C dL_law_2547 ?_
  obtain ⟨h01, hn2, h⟩ := h
  refine K_sld C HX dL_law_2548 h01 hn2 ?_
  refine J_aload_n C dL_law_2549 rfl rfl ?_
  refine K_SW C M.1 M.2.1 [vr (some x1), vi (scr (w32 (x4 + 1))), vr (some x3)] [] miw_L_carByPapers wg_1140 wg_1141 dL_law_2550 rfl rfl (by decide) (Nat.le_of_ble_eq_true rfl) (c_L_carByPapers (C.2.2.2.2.2.2.2) (by omega) h) (fun v9 S4 F5 I6 hq9 => ?_) rfl
  clear h
  obtain ⟨z3, rfl, h⟩ := hq9
  refine K_istore C [vr (some bS), vr (some x1), vr (some x2), vr (some x3), vi x4, vi z3, vl 0] dL_law_2553 (Nat.le_of_ble_eq_true rfl) rfl ?_
  refine J_aload_n C dL_law_2555 rfl rfl ?_
  refine J_aload_n C dL_law_2556 rfl rfl ?_
  refine J_iload C dL_law_2557 rfl ?_
  refine J_iconst C dL_law_2559 (rg_of (by decide)) ?_
  refine J_iadd C dL_law_2560 ?_
  obtain ⟨h07, hn8, h⟩ := h
  refine K_sld C HX dL_law_2561 h07 hn8 ?_
  obtain ⟨hK9, h⟩ := h
  refine K_VH C M.1 M.2.1 [vi (scr (w32 (x4 + 1)))] [] mi_X9_carByPapers wg_1679 wg_1680 wg_1681 ⟨rfl, by decide⟩ dL_law_2562 hK9 rfl rfl (by decide) (Nat.le_of_ble_eq_true rfl) (c_X9_carByPapers (C.2.2.2.2.2.2.2) (by omega) h) (fun v9 S' F11 I' hq9 => ?_) K_no rfl
  clear h
  obtain ⟨z10, rfl, rfl, rfl, h⟩ := hq9
  refine K_istore C [vr (some bS), vr (some x1), vr (some x2), vr (some x3), vi x4, vi z3, vi z10] dL_law_2565 (Nat.le_of_ble_eq_true rfl) rfl ?_
  refine J_aload_n C dL_law_2567 rfl rfl ?_
  refine K_VH C M.1 M.2.1 [] [] mi_X9_thrown wg_1403 wg_1404 wg_1405 ⟨rfl, by decide⟩ dL_law_2568 hK9 rfl rfl (by decide) (Nat.le_of_ble_eq_true rfl) (c_X9_thrown (C.2.2.2.2.2.2.2) (by omega) h) (fun v9 S' F' I' hq9 => ?_) K_no rfl
  clear h
  obtain ⟨z12, rfl, rfl, rfl, rfl, h⟩ := hq9
  refine J_iload C dL_law_2571 rfl ?_
  refine J_icmp_eq C dL_law_2573 (tgt := 2578) rfl (fun c2573 => ?_) (fun c2573 => ?_)
  · have h := h.1 c2573
    refine J_iload C dL_law_2578 rfl ?_
    refine J_if_ne C dL_law_2580 (tgt := 2595) rfl (fun c2580 => ?_) (fun c2580 => ?_)
    · have h := h.1 c2580
      refine J_less [vr (some bS), vr (some x1), vr (some x2), vr (some x3), vi x4, vl 0, vl 0] (by unfold lessL; simp [lessL]) ?_
      exact S_L_law_2595 HX C M (by omega) hk23 h
    · have h := h.2 c2580
      refine J_aload_n C dL_law_2583 rfl rfl ?_
      refine J_iconst C dL_law_2584 (rg_of (by decide)) ?_
      obtain ⟨hK13, h⟩ := h
      obtain ⟨h014, hn15, h⟩ := h
      refine J_lald C dL_law_2585 hK13 h014 hn15 ?_
      refine J_iload C dL_law_2586 rfl ?_
      refine J_i2l C dL_law_2588 ?_
      refine J_lcmp C dL_law_2589 ?_
      refine J_if_eq C dL_law_2590 (tgt := 2595) rfl (fun c2590 => ?_) (fun c2590 => ?_)
      · have h := h.1 c2590
        refine J_less [vr (some bS), vr (some x1), vr (some x2), vr (some x3), vi x4, vl 0, vl 0] (by unfold lessL; simp [lessL]) ?_
        exact S_L_law_2595 HX C M (by omega) hk23 h
      · have h := h.2 c2590
        refine J_iconst C dL_law_2593 (rg_of (by decide)) ?_
        exact J_zret C dL_law_2594 M.2.2.1 (by decide) ⟨_, rfl, h⟩
  · have h := h.2 c2573
    refine J_iconst C dL_law_2576 (rg_of (by decide)) ?_
    exact J_zret C dL_law_2577 M.2.2.1 (by decide) ⟨_, rfl, h⟩
set_option maxRecDepth 20000 in
set_option maxHeartbeats 4000000 in
theorem S_L_law_2651 {G : Gp} {X : Xt} {d : Nat} {ln : Int} {scr : Int → Int} {bS : Nat} {k23 : Nat → Nat → Nat → Int → Shp → Fl → Il → Prop} {x1 : Nat} {x2 : Nat} {x3 : Nat} {x4 : Int} {Q : Int → Shp → Fl → Il → Prop} {S : Shp} {F : Fl} {I : Il} (HX : SXc G X bS ln scr) (C : CO G RL cL_law 7 X) (M : ML d (some .boolean) X) (hd : 16 ≤ d) (hk23 : ∀ (x1 : Nat) (x2 : Nat) (x3 : Nat) (x4 : Int) (S' : Shp) (F' : Fl) (I' : Il), k23 x1 x2 x3 x4 S' F' I' → J G X (QD X G (qI fun z S' F' I' => Q z S' F' I') noX) 23 [vr (some bS), vr (some x1), vr (some x2), vr (some x3), vi x4, vl 0, vl 0] [] S' F' I') (h : V_L_law_2651 G ln scr k23 x1 x2 x3 x4 S F I Q) : J G X (QD X G (qI fun z S' F' I' => Q z S' F' I') noX) 2651 [vr (some bS), vr (some x1), vr (some x2), vr (some x3), vi x4, vl 0, vl 0] [] S F I := by
  unfold V_L_law_2651 at h
  refine J_goto C dL_law_2651 (tgt := 2846) rfl ?_
  exact S_L_law_2846 HX C M (by omega) hk23 h
set_option maxRecDepth 20000 in
set_option maxHeartbeats 4000000 in
theorem S_L_law_2598 {G : Gp} {X : Xt} {d : Nat} {ln : Int} {scr : Int → Int} {bS : Nat} {k23 : Nat → Nat → Nat → Int → Shp → Fl → Il → Prop} {x1 : Nat} {x2 : Nat} {x3 : Nat} {x4 : Int} {Q : Int → Shp → Fl → Il → Prop} {S : Shp} {F : Fl} {I : Il} (HX : SXc G X bS ln scr) (C : CO G RL cL_law 7 X) (M : ML d (some .boolean) X) (hd : 16 ≤ d) (hk23 : ∀ (x1 : Nat) (x2 : Nat) (x3 : Nat) (x4 : Int) (S' : Shp) (F' : Fl) (I' : Il), k23 x1 x2 x3 x4 S' F' I' → J G X (QD X G (qI fun z S' F' I' => Q z S' F' I') noX) 23 [vr (some bS), vr (some x1), vr (some x2), vr (some x3), vi x4, vl 0, vl 0] [] S' F' I') (h : V_L_law_2598 G ln scr k23 x1 x2 x3 x4 S F I Q) : J G X (QD X G (qI fun z S' F' I' => Q z S' F' I') noX) 2598 [vr (some bS), vr (some x1), vr (some x2), vr (some x3), vi x4, vl 0, vl 0] [] S F I := by
  unfold V_L_law_2598 at h
  obtain ⟨d, rfl⟩ : ∃ d9, d = d9 + 1 := ⟨d - 1, by omega⟩
  refine J_aload_n C dL_law_2598 rfl rfl ?_
  refine J_aload_n C dL_law_2599 rfl rfl ?_
  refine J_iload C dL_law_2600 rfl ?_
  refine J_iconst C dL_law_2602 (rg_of (by decide)) ?_
  refine J_iadd C dL_law_2603 ?_
  obtain ⟨h01, hn2, h⟩ := h
  refine K_sld C HX dL_law_2604 h01 hn2 ?_
  refine J_aload_n C dL_law_2605 rfl rfl ?_
  refine K_SW C M.1 M.2.1 [vr (some x1), vi (scr (w32 (x4 + 1))), vr (some x3)] [] miw_L_billOf wg_1147 wg_1148 dL_law_2606 rfl rfl (by decide) (Nat.le_of_ble_eq_true rfl) (c_L_billOf (C.2.2.2.2.2.2.2) (by omega) h) (fun v9 S4 F5 I6 hq9 => ?_) rfl
  clear h
  obtain ⟨z3, rfl, h⟩ := hq9
  refine K_istore C [vr (some bS), vr (some x1), vr (some x2), vr (some x3), vi x4, vi z3, vl 0] dL_law_2609 (Nat.le_of_ble_eq_true rfl) rfl ?_
  refine J_aload_n C dL_law_2611 rfl rfl ?_
  refine J_aload_n C dL_law_2612 rfl rfl ?_
  refine J_iload C dL_law_2613 rfl ?_
  refine J_iconst C dL_law_2615 (rg_of (by decide)) ?_
  refine J_iadd C dL_law_2616 ?_
  obtain ⟨h07, hn8, h⟩ := h
  refine K_sld C HX dL_law_2617 h07 hn8 ?_
  obtain ⟨hK9, h⟩ := h
  refine K_VH C M.1 M.2.1 [vi (scr (w32 (x4 + 1)))] [] mi_X9_billOf wg_1684 wg_1685 wg_1686 ⟨rfl, by decide⟩ dL_law_2618 hK9 rfl rfl (by decide) (Nat.le_of_ble_eq_true rfl) (c_X9_billOf (C.2.2.2.2.2.2.2) (by omega) h) (fun v9 S' F11 I' hq9 => ?_) K_no rfl
  clear h
  obtain ⟨z10, rfl, rfl, rfl, h⟩ := hq9
  refine K_istore C [vr (some bS), vr (some x1), vr (some x2), vr (some x3), vi x4, vi z3, vi z10] dL_law_2621 (Nat.le_of_ble_eq_true rfl) rfl ?_
  refine J_aload_n C dL_law_2623 rfl rfl ?_
  refine K_VH C M.1 M.2.1 [] [] mi_X9_thrown wg_1403 wg_1404 wg_1405 ⟨rfl, by decide⟩ dL_law_2624 hK9 rfl rfl (by decide) (Nat.le_of_ble_eq_true rfl) (c_X9_thrown (C.2.2.2.2.2.2.2) (by omega) h) (fun v9 S' F' I' hq9 => ?_) K_no rfl
  clear h
  obtain ⟨z12, rfl, rfl, rfl, rfl, h⟩ := hq9
  refine J_iload C dL_law_2627 rfl ?_
  refine J_icmp_eq C dL_law_2629 (tgt := 2634) rfl (fun c2629 => ?_) (fun c2629 => ?_)
  · have h := h.1 c2629
    refine J_iload C dL_law_2634 rfl ?_
    refine J_if_ne C dL_law_2636 (tgt := 2651) rfl (fun c2636 => ?_) (fun c2636 => ?_)
    · have h := h.1 c2636
      refine J_less [vr (some bS), vr (some x1), vr (some x2), vr (some x3), vi x4, vl 0, vl 0] (by unfold lessL; simp [lessL]) ?_
      exact S_L_law_2651 HX C M (by omega) hk23 h
    · have h := h.2 c2636
      refine J_aload_n C dL_law_2639 rfl rfl ?_
      refine J_iconst C dL_law_2640 (rg_of (by decide)) ?_
      obtain ⟨hK13, h⟩ := h
      obtain ⟨h014, hn15, h⟩ := h
      refine J_lald C dL_law_2641 hK13 h014 hn15 ?_
      refine J_iload C dL_law_2642 rfl ?_
      refine J_i2l C dL_law_2644 ?_
      refine J_lcmp C dL_law_2645 ?_
      refine J_if_eq C dL_law_2646 (tgt := 2651) rfl (fun c2646 => ?_) (fun c2646 => ?_)
      · have h := h.1 c2646
        refine J_less [vr (some bS), vr (some x1), vr (some x2), vr (some x3), vi x4, vl 0, vl 0] (by unfold lessL; simp [lessL]) ?_
        exact S_L_law_2651 HX C M (by omega) hk23 h
      · have h := h.2 c2646
        refine J_iconst C dL_law_2649 (rg_of (by decide)) ?_
        exact J_zret C dL_law_2650 M.2.2.1 (by decide) ⟨_, rfl, h⟩
  · have h := h.2 c2629
    refine J_iconst C dL_law_2632 (rg_of (by decide)) ?_
    exact J_zret C dL_law_2633 M.2.2.1 (by decide) ⟨_, rfl, h⟩
set_option maxRecDepth 20000 in
set_option maxHeartbeats 4000000 in
theorem S_L_law_2719 {G : Gp} {X : Xt} {d : Nat} {ln : Int} {scr : Int → Int} {bS : Nat} {k23 : Nat → Nat → Nat → Int → Shp → Fl → Il → Prop} {x1 : Nat} {x2 : Nat} {x3 : Nat} {x4 : Int} {Q : Int → Shp → Fl → Il → Prop} {S : Shp} {F : Fl} {I : Il} (HX : SXc G X bS ln scr) (C : CO G RL cL_law 7 X) (M : ML d (some .boolean) X) (hd : 16 ≤ d) (hk23 : ∀ (x1 : Nat) (x2 : Nat) (x3 : Nat) (x4 : Int) (S' : Shp) (F' : Fl) (I' : Il), k23 x1 x2 x3 x4 S' F' I' → J G X (QD X G (qI fun z S' F' I' => Q z S' F' I') noX) 23 [vr (some bS), vr (some x1), vr (some x2), vr (some x3), vi x4, vl 0, vl 0] [] S' F' I') (h : V_L_law_2719 G ln scr k23 x1 x2 x3 x4 S F I Q) : J G X (QD X G (qI fun z S' F' I' => Q z S' F' I') noX) 2719 [vr (some bS), vr (some x1), vr (some x2), vr (some x3), vi x4, vl 0, vl 0] [] S F I := by
  unfold V_L_law_2719 at h
  refine J_goto C dL_law_2719 (tgt := 2846) rfl ?_
  exact S_L_law_2846 HX C M (by omega) hk23 h
set_option maxRecDepth 20000 in
set_option maxHeartbeats 4000000 in
theorem S_L_law_2654 {G : Gp} {X : Xt} {d : Nat} {ln : Int} {scr : Int → Int} {bS : Nat} {k23 : Nat → Nat → Nat → Int → Shp → Fl → Il → Prop} {x1 : Nat} {x2 : Nat} {x3 : Nat} {x4 : Int} {Q : Int → Shp → Fl → Il → Prop} {S : Shp} {F : Fl} {I : Il} (HX : SXc G X bS ln scr) (C : CO G RL cL_law 7 X) (M : ML d (some .boolean) X) (hd : 16 ≤ d) (hk23 : ∀ (x1 : Nat) (x2 : Nat) (x3 : Nat) (x4 : Int) (S' : Shp) (F' : Fl) (I' : Il), k23 x1 x2 x3 x4 S' F' I' → J G X (QD X G (qI fun z S' F' I' => Q z S' F' I') noX) 23 [vr (some bS), vr (some x1), vr (some x2), vr (some x3), vi x4, vl 0, vl 0] [] S' F' I') (h : V_L_law_2654 G ln scr k23 x1 x2 x3 x4 S F I Q) : J G X (QD X G (qI fun z S' F' I' => Q z S' F' I') noX) 2654 [vr (some bS), vr (some x1), vr (some x2), vr (some x3), vi x4, vl 0, vl 0] [] S F I := by
  unfold V_L_law_2654 at h
  obtain ⟨d, rfl⟩ : ∃ d9, d = d9 + 1 := ⟨d - 1, by omega⟩
  refine J_aload_n C dL_law_2654 rfl rfl ?_
  refine J_aload_n C dL_law_2655 rfl rfl ?_
  refine J_iload C dL_law_2656 rfl ?_
  refine J_iconst C dL_law_2658 (rg_of (by decide)) ?_
  refine J_iadd C dL_law_2659 ?_
  obtain ⟨h01, hn2, h⟩ := h
  refine K_sld C HX dL_law_2660 h01 hn2 ?_
  refine J_aload_n C dL_law_2661 rfl rfl ?_
  refine J_iload C dL_law_2662 rfl ?_
  refine J_iconst C dL_law_2664 (rg_of (by decide)) ?_
  refine J_iadd C dL_law_2665 ?_
  obtain ⟨h03, hn4, h⟩ := h
  refine K_sld C HX dL_law_2666 h03 hn4 ?_
  refine J_aload_n C dL_law_2667 rfl rfl ?_
  refine K_SW C M.1 M.2.1 [vr (some x1), vi (scr (w32 (x4 + 1))), vi (scr (w32 (x4 + 2))), vr (some x3)] [] miw_L_paper wg_1154 wg_1155 dL_law_2668 rfl rfl (by decide) (Nat.le_of_ble_eq_true rfl) (c_L_paper (C.2.2.2.2.2.2.2) (by omega) h) (fun v9 S6 F7 I8 hq9 => ?_) rfl
  clear h
  obtain ⟨z5, rfl, h⟩ := hq9
  refine K_istore C [vr (some bS), vr (some x1), vr (some x2), vr (some x3), vi x4, vi z5, vl 0] dL_law_2671 (Nat.le_of_ble_eq_true rfl) rfl ?_
  refine J_aload_n C dL_law_2673 rfl rfl ?_
  refine J_aload_n C dL_law_2674 rfl rfl ?_
  refine J_iload C dL_law_2675 rfl ?_
  refine J_iconst C dL_law_2677 (rg_of (by decide)) ?_
  refine J_iadd C dL_law_2678 ?_
  obtain ⟨h09, hn10, h⟩ := h
  refine K_sld C HX dL_law_2679 h09 hn10 ?_
  refine J_aload_n C dL_law_2680 rfl rfl ?_
  refine J_iload C dL_law_2681 rfl ?_
  refine J_iconst C dL_law_2683 (rg_of (by decide)) ?_
  refine J_iadd C dL_law_2684 ?_
  obtain ⟨h011, hn12, h⟩ := h
  refine K_sld C HX dL_law_2685 h011 hn12 ?_
  obtain ⟨hK13, h⟩ := h
  refine K_VH C M.1 M.2.1 [vi (scr (w32 (x4 + 1))), vi (scr (w32 (x4 + 2)))] [] mi_X9_paper wg_1688 wg_1689 wg_1690 ⟨rfl, by decide⟩ dL_law_2686 hK13 rfl rfl (by decide) (Nat.le_of_ble_eq_true rfl) (c_X9_paper (C.2.2.2.2.2.2.2) (by omega) h) (fun v9 S' F15 I' hq9 => ?_) K_no rfl
  clear h
  obtain ⟨z14, rfl, rfl, rfl, h⟩ := hq9
  refine K_istore C [vr (some bS), vr (some x1), vr (some x2), vr (some x3), vi x4, vi z5, vi z14] dL_law_2689 (Nat.le_of_ble_eq_true rfl) rfl ?_
  refine J_aload_n C dL_law_2691 rfl rfl ?_
  refine K_VH C M.1 M.2.1 [] [] mi_X9_thrown wg_1403 wg_1404 wg_1405 ⟨rfl, by decide⟩ dL_law_2692 hK13 rfl rfl (by decide) (Nat.le_of_ble_eq_true rfl) (c_X9_thrown (C.2.2.2.2.2.2.2) (by omega) h) (fun v9 S' F' I' hq9 => ?_) K_no rfl
  clear h
  obtain ⟨z16, rfl, rfl, rfl, rfl, h⟩ := hq9
  refine J_iload C dL_law_2695 rfl ?_
  refine J_icmp_eq C dL_law_2697 (tgt := 2702) rfl (fun c2697 => ?_) (fun c2697 => ?_)
  · have h := h.1 c2697
    refine J_iload C dL_law_2702 rfl ?_
    refine J_if_ne C dL_law_2704 (tgt := 2719) rfl (fun c2704 => ?_) (fun c2704 => ?_)
    · have h := h.1 c2704
      refine J_less [vr (some bS), vr (some x1), vr (some x2), vr (some x3), vi x4, vl 0, vl 0] (by unfold lessL; simp [lessL]) ?_
      exact S_L_law_2719 HX C M (by omega) hk23 h
    · have h := h.2 c2704
      refine J_aload_n C dL_law_2707 rfl rfl ?_
      refine J_iconst C dL_law_2708 (rg_of (by decide)) ?_
      obtain ⟨hK17, h⟩ := h
      obtain ⟨h018, hn19, h⟩ := h
      refine J_lald C dL_law_2709 hK17 h018 hn19 ?_
      refine J_iload C dL_law_2710 rfl ?_
      refine J_i2l C dL_law_2712 ?_
      refine J_lcmp C dL_law_2713 ?_
      refine J_if_eq C dL_law_2714 (tgt := 2719) rfl (fun c2714 => ?_) (fun c2714 => ?_)
      · have h := h.1 c2714
        refine J_less [vr (some bS), vr (some x1), vr (some x2), vr (some x3), vi x4, vl 0, vl 0] (by unfold lessL; simp [lessL]) ?_
        exact S_L_law_2719 HX C M (by omega) hk23 h
      · have h := h.2 c2714
        refine J_iconst C dL_law_2717 (rg_of (by decide)) ?_
        exact J_zret C dL_law_2718 M.2.2.1 (by decide) ⟨_, rfl, h⟩
  · have h := h.2 c2697
    refine J_iconst C dL_law_2700 (rg_of (by decide)) ?_
    exact J_zret C dL_law_2701 M.2.2.1 (by decide) ⟨_, rfl, h⟩
set_option maxRecDepth 20000 in
set_option maxHeartbeats 4000000 in
theorem S_L_law_2787 {G : Gp} {X : Xt} {d : Nat} {ln : Int} {scr : Int → Int} {bS : Nat} {k23 : Nat → Nat → Nat → Int → Shp → Fl → Il → Prop} {x1 : Nat} {x2 : Nat} {x3 : Nat} {x4 : Int} {Q : Int → Shp → Fl → Il → Prop} {S : Shp} {F : Fl} {I : Il} (HX : SXc G X bS ln scr) (C : CO G RL cL_law 7 X) (M : ML d (some .boolean) X) (hd : 16 ≤ d) (hk23 : ∀ (x1 : Nat) (x2 : Nat) (x3 : Nat) (x4 : Int) (S' : Shp) (F' : Fl) (I' : Il), k23 x1 x2 x3 x4 S' F' I' → J G X (QD X G (qI fun z S' F' I' => Q z S' F' I') noX) 23 [vr (some bS), vr (some x1), vr (some x2), vr (some x3), vi x4, vl 0, vl 0] [] S' F' I') (h : V_L_law_2787 G ln scr k23 x1 x2 x3 x4 S F I Q) : J G X (QD X G (qI fun z S' F' I' => Q z S' F' I') noX) 2787 [vr (some bS), vr (some x1), vr (some x2), vr (some x3), vi x4, vl 0, vl 0] [] S F I := by
  unfold V_L_law_2787 at h
  refine J_goto C dL_law_2787 (tgt := 2846) rfl ?_
  exact S_L_law_2846 HX C M (by omega) hk23 h
set_option maxRecDepth 20000 in
set_option maxHeartbeats 4000000 in
theorem S_L_law_2722 {G : Gp} {X : Xt} {d : Nat} {ln : Int} {scr : Int → Int} {bS : Nat} {k23 : Nat → Nat → Nat → Int → Shp → Fl → Il → Prop} {x1 : Nat} {x2 : Nat} {x3 : Nat} {x4 : Int} {Q : Int → Shp → Fl → Il → Prop} {S : Shp} {F : Fl} {I : Il} (HX : SXc G X bS ln scr) (C : CO G RL cL_law 7 X) (M : ML d (some .boolean) X) (hd : 16 ≤ d) (hk23 : ∀ (x1 : Nat) (x2 : Nat) (x3 : Nat) (x4 : Int) (S' : Shp) (F' : Fl) (I' : Il), k23 x1 x2 x3 x4 S' F' I' → J G X (QD X G (qI fun z S' F' I' => Q z S' F' I') noX) 23 [vr (some bS), vr (some x1), vr (some x2), vr (some x3), vi x4, vl 0, vl 0] [] S' F' I') (h : V_L_law_2722 G ln scr k23 x1 x2 x3 x4 S F I Q) : J G X (QD X G (qI fun z S' F' I' => Q z S' F' I') noX) 2722 [vr (some bS), vr (some x1), vr (some x2), vr (some x3), vi x4, vl 0, vl 0] [] S F I := by
  unfold V_L_law_2722 at h
  obtain ⟨d, rfl⟩ : ∃ d9, d = d9 + 1 := ⟨d - 1, by omega⟩
  refine J_aload_n C dL_law_2722 rfl rfl ?_
  refine J_aload_n C dL_law_2723 rfl rfl ?_
  refine J_iload C dL_law_2724 rfl ?_
  refine J_iconst C dL_law_2726 (rg_of (by decide)) ?_
  refine J_iadd C dL_law_2727 ?_
  obtain ⟨h01, hn2, h⟩ := h
  refine K_sld C HX dL_law_2728 h01 hn2 ?_
  refine J_aload_n C dL_law_2729 rfl rfl ?_
  refine J_iload C dL_law_2730 rfl ?_
  refine J_iconst C dL_law_2732 (rg_of (by decide)) ?_
  refine J_iadd C dL_law_2733 ?_
  obtain ⟨h03, hn4, h⟩ := h
  refine K_sld C HX dL_law_2734 h03 hn4 ?_
  refine J_aload_n C dL_law_2735 rfl rfl ?_
  refine K_SW C M.1 M.2.1 [vr (some x1), vi (scr (w32 (x4 + 1))), vi (scr (w32 (x4 + 2))), vr (some x3)] [] miw_L_yardAt wg_1165 wg_1166 dL_law_2736 rfl rfl (by decide) (Nat.le_of_ble_eq_true rfl) (c_L_yardAt (C.2.2.2.2.2.2.2) (by omega) h) (fun v9 S6 F7 I8 hq9 => ?_) rfl
  clear h
  obtain ⟨z5, rfl, h⟩ := hq9
  refine K_istore C [vr (some bS), vr (some x1), vr (some x2), vr (some x3), vi x4, vi z5, vl 0] dL_law_2739 (Nat.le_of_ble_eq_true rfl) rfl ?_
  refine J_aload_n C dL_law_2741 rfl rfl ?_
  refine J_aload_n C dL_law_2742 rfl rfl ?_
  refine J_iload C dL_law_2743 rfl ?_
  refine J_iconst C dL_law_2745 (rg_of (by decide)) ?_
  refine J_iadd C dL_law_2746 ?_
  obtain ⟨h09, hn10, h⟩ := h
  refine K_sld C HX dL_law_2747 h09 hn10 ?_
  refine J_aload_n C dL_law_2748 rfl rfl ?_
  refine J_iload C dL_law_2749 rfl ?_
  refine J_iconst C dL_law_2751 (rg_of (by decide)) ?_
  refine J_iadd C dL_law_2752 ?_
  obtain ⟨h011, hn12, h⟩ := h
  refine K_sld C HX dL_law_2753 h011 hn12 ?_
  obtain ⟨hK13, h⟩ := h
  refine K_VH C M.1 M.2.1 [vi (scr (w32 (x4 + 1))), vi (scr (w32 (x4 + 2)))] [] mi_X9_yardAt wg_1692 wg_1693 wg_1694 ⟨rfl, by decide⟩ dL_law_2754 hK13 rfl rfl (by decide) (Nat.le_of_ble_eq_true rfl) (c_X9_yardAt (C.2.2.2.2.2.2.2) (by omega) h) (fun v9 S' F15 I' hq9 => ?_) K_no rfl
  clear h
  obtain ⟨z14, rfl, rfl, rfl, h⟩ := hq9
  refine K_istore C [vr (some bS), vr (some x1), vr (some x2), vr (some x3), vi x4, vi z5, vi z14] dL_law_2757 (Nat.le_of_ble_eq_true rfl) rfl ?_
  refine J_aload_n C dL_law_2759 rfl rfl ?_
  refine K_VH C M.1 M.2.1 [] [] mi_X9_thrown wg_1403 wg_1404 wg_1405 ⟨rfl, by decide⟩ dL_law_2760 hK13 rfl rfl (by decide) (Nat.le_of_ble_eq_true rfl) (c_X9_thrown (C.2.2.2.2.2.2.2) (by omega) h) (fun v9 S' F' I' hq9 => ?_) K_no rfl
  clear h
  obtain ⟨z16, rfl, rfl, rfl, rfl, h⟩ := hq9
  refine J_iload C dL_law_2763 rfl ?_
  refine J_icmp_eq C dL_law_2765 (tgt := 2770) rfl (fun c2765 => ?_) (fun c2765 => ?_)
  · have h := h.1 c2765
    refine J_iload C dL_law_2770 rfl ?_
    refine J_if_ne C dL_law_2772 (tgt := 2787) rfl (fun c2772 => ?_) (fun c2772 => ?_)
    · have h := h.1 c2772
      refine J_less [vr (some bS), vr (some x1), vr (some x2), vr (some x3), vi x4, vl 0, vl 0] (by unfold lessL; simp [lessL]) ?_
      exact S_L_law_2787 HX C M (by omega) hk23 h
    · have h := h.2 c2772
      refine J_aload_n C dL_law_2775 rfl rfl ?_
      refine J_iconst C dL_law_2776 (rg_of (by decide)) ?_
      obtain ⟨hK17, h⟩ := h
      obtain ⟨h018, hn19, h⟩ := h
      refine J_lald C dL_law_2777 hK17 h018 hn19 ?_
      refine J_iload C dL_law_2778 rfl ?_
      refine J_i2l C dL_law_2780 ?_
      refine J_lcmp C dL_law_2781 ?_
      refine J_if_eq C dL_law_2782 (tgt := 2787) rfl (fun c2782 => ?_) (fun c2782 => ?_)
      · have h := h.1 c2782
        refine J_less [vr (some bS), vr (some x1), vr (some x2), vr (some x3), vi x4, vl 0, vl 0] (by unfold lessL; simp [lessL]) ?_
        exact S_L_law_2787 HX C M (by omega) hk23 h
      · have h := h.2 c2782
        refine J_iconst C dL_law_2785 (rg_of (by decide)) ?_
        exact J_zret C dL_law_2786 M.2.2.1 (by decide) ⟨_, rfl, h⟩
  · have h := h.2 c2765
    refine J_iconst C dL_law_2768 (rg_of (by decide)) ?_
    exact J_zret C dL_law_2769 M.2.2.1 (by decide) ⟨_, rfl, h⟩
set_option maxRecDepth 20000 in
set_option maxHeartbeats 4000000 in
theorem S_L_law_2843 {G : Gp} {X : Xt} {d : Nat} {ln : Int} {scr : Int → Int} {bS : Nat} {k23 : Nat → Nat → Nat → Int → Shp → Fl → Il → Prop} {x1 : Nat} {x2 : Nat} {x3 : Nat} {x4 : Int} {Q : Int → Shp → Fl → Il → Prop} {S : Shp} {F : Fl} {I : Il} (HX : SXc G X bS ln scr) (C : CO G RL cL_law 7 X) (M : ML d (some .boolean) X) (hd : 16 ≤ d) (hk23 : ∀ (x1 : Nat) (x2 : Nat) (x3 : Nat) (x4 : Int) (S' : Shp) (F' : Fl) (I' : Il), k23 x1 x2 x3 x4 S' F' I' → J G X (QD X G (qI fun z S' F' I' => Q z S' F' I') noX) 23 [vr (some bS), vr (some x1), vr (some x2), vr (some x3), vi x4, vl 0, vl 0] [] S' F' I') (h : V_L_law_2843 G ln scr k23 x1 x2 x3 x4 S F I Q) : J G X (QD X G (qI fun z S' F' I' => Q z S' F' I') noX) 2843 [vr (some bS), vr (some x1), vr (some x2), vr (some x3), vi x4, vl 0, vl 0] [] S F I := by
  unfold V_L_law_2843 at h
  refine J_goto C dL_law_2843 (tgt := 2846) rfl ?_
  exact S_L_law_2846 HX C M (by omega) hk23 h
set_option maxRecDepth 20000 in
set_option maxHeartbeats 4000000 in
theorem S_L_law_2790 {G : Gp} {X : Xt} {d : Nat} {ln : Int} {scr : Int → Int} {bS : Nat} {k23 : Nat → Nat → Nat → Int → Shp → Fl → Il → Prop} {x1 : Nat} {x2 : Nat} {x3 : Nat} {x4 : Int} {Q : Int → Shp → Fl → Il → Prop} {S : Shp} {F : Fl} {I : Il} (HX : SXc G X bS ln scr) (C : CO G RL cL_law 7 X) (M : ML d (some .boolean) X) (hd : 16 ≤ d) (hk23 : ∀ (x1 : Nat) (x2 : Nat) (x3 : Nat) (x4 : Int) (S' : Shp) (F' : Fl) (I' : Il), k23 x1 x2 x3 x4 S' F' I' → J G X (QD X G (qI fun z S' F' I' => Q z S' F' I') noX) 23 [vr (some bS), vr (some x1), vr (some x2), vr (some x3), vi x4, vl 0, vl 0] [] S' F' I') (h : V_L_law_2790 G ln scr k23 x1 x2 x3 x4 S F I Q) : J G X (QD X G (qI fun z S' F' I' => Q z S' F' I') noX) 2790 [vr (some bS), vr (some x1), vr (some x2), vr (some x3), vi x4, vl 0, vl 0] [] S F I := by
  unfold V_L_law_2790 at h
  obtain ⟨d, rfl⟩ : ∃ d9, d = d9 + 1 := ⟨d - 1, by omega⟩
  refine J_aload_n C dL_law_2790 rfl rfl ?_
  refine J_aload_n C dL_law_2791 rfl rfl ?_
  refine J_iload C dL_law_2792 rfl ?_
  refine J_iconst C dL_law_2794 (rg_of (by decide)) ?_
  refine J_iadd C dL_law_2795 ?_
  obtain ⟨h01, hn2, h⟩ := h
  refine K_sld C HX dL_law_2796 h01 hn2 ?_
  refine J_aload_n C dL_law_2797 rfl rfl ?_
  refine K_SW C M.1 M.2.1 [vr (some x1), vi (scr (w32 (x4 + 1))), vr (some x3)] [] miw_L_homeward wg_1172 wg_1173 dL_law_2798 rfl rfl (by decide) (Nat.le_of_ble_eq_true rfl) (c_L_homeward (C.2.2.2.2.2.2.2) (by omega) h) (fun v9 S4 F5 I6 hq9 => ?_) rfl
  clear h
  obtain ⟨z3, rfl, h⟩ := hq9
  refine K_istore C [vr (some bS), vr (some x1), vr (some x2), vr (some x3), vi x4, vi z3, vl 0] dL_law_2801 (Nat.le_of_ble_eq_true rfl) rfl ?_
  refine J_aload_n C dL_law_2803 rfl rfl ?_
  refine J_aload_n C dL_law_2804 rfl rfl ?_
  refine J_iload C dL_law_2805 rfl ?_
  refine J_iconst C dL_law_2807 (rg_of (by decide)) ?_
  refine J_iadd C dL_law_2808 ?_
  obtain ⟨h07, hn8, h⟩ := h
  refine K_sld C HX dL_law_2809 h07 hn8 ?_
  obtain ⟨hK9, h⟩ := h
  refine K_VH C M.1 M.2.1 [vi (scr (w32 (x4 + 1)))] [] mi_X9_homeward wg_1696 wg_1697 wg_1698 ⟨rfl, by decide⟩ dL_law_2810 hK9 rfl rfl (by decide) (Nat.le_of_ble_eq_true rfl) (c_X9_homeward (C.2.2.2.2.2.2.2) (by omega) h) (fun v9 S' F11 I12 hq9 => ?_) K_no rfl
  clear h
  obtain ⟨z10, rfl, rfl, h⟩ := hq9
  refine K_istore C [vr (some bS), vr (some x1), vr (some x2), vr (some x3), vi x4, vi z3, vi z10] dL_law_2813 (Nat.le_of_ble_eq_true rfl) rfl ?_
  refine J_aload_n C dL_law_2815 rfl rfl ?_
  refine K_VH C M.1 M.2.1 [] [] mi_X9_thrown wg_1403 wg_1404 wg_1405 ⟨rfl, by decide⟩ dL_law_2816 hK9 rfl rfl (by decide) (Nat.le_of_ble_eq_true rfl) (c_X9_thrown (C.2.2.2.2.2.2.2) (by omega) h) (fun v9 S' F' I' hq9 => ?_) K_no rfl
  clear h
  obtain ⟨z13, rfl, rfl, rfl, rfl, h⟩ := hq9
  refine J_iload C dL_law_2819 rfl ?_
  refine J_icmp_eq C dL_law_2821 (tgt := 2826) rfl (fun c2821 => ?_) (fun c2821 => ?_)
  · have h := h.1 c2821
    refine J_iload C dL_law_2826 rfl ?_
    refine J_if_ne C dL_law_2828 (tgt := 2843) rfl (fun c2828 => ?_) (fun c2828 => ?_)
    · have h := h.1 c2828
      refine J_less [vr (some bS), vr (some x1), vr (some x2), vr (some x3), vi x4, vl 0, vl 0] (by unfold lessL; simp [lessL]) ?_
      exact S_L_law_2843 HX C M (by omega) hk23 h
    · have h := h.2 c2828
      refine J_aload_n C dL_law_2831 rfl rfl ?_
      refine J_iconst C dL_law_2832 (rg_of (by decide)) ?_
      obtain ⟨hK14, h⟩ := h
      obtain ⟨h015, hn16, h⟩ := h
      refine J_lald C dL_law_2833 hK14 h015 hn16 ?_
      refine J_iload C dL_law_2834 rfl ?_
      refine J_i2l C dL_law_2836 ?_
      refine J_lcmp C dL_law_2837 ?_
      refine J_if_eq C dL_law_2838 (tgt := 2843) rfl (fun c2838 => ?_) (fun c2838 => ?_)
      · have h := h.1 c2838
        refine J_less [vr (some bS), vr (some x1), vr (some x2), vr (some x3), vi x4, vl 0, vl 0] (by unfold lessL; simp [lessL]) ?_
        exact S_L_law_2843 HX C M (by omega) hk23 h
      · have h := h.2 c2838
        refine J_iconst C dL_law_2841 (rg_of (by decide)) ?_
        exact J_zret C dL_law_2842 M.2.2.1 (by decide) ⟨_, rfl, h⟩
  · have h := h.2 c2821
    refine J_iconst C dL_law_2824 (rg_of (by decide)) ?_
    exact J_zret C dL_law_2825 M.2.2.1 (by decide) ⟨_, rfl, h⟩
set_option maxRecDepth 20000 in
set_option maxHeartbeats 4000000 in
theorem S_L_law_23 {G : Gp} {X : Xt} {d : Nat} {ln : Int} {scr : Int → Int} {bS : Nat}   {Q : Int → Shp → Fl → Il → Prop} (HX : SXc G X bS ln scr) (C : CO G RL cL_law 7 X) (M : ML d (some .boolean) X) (hd : 16 ≤ d) (n9 : Nat)  : ∀ (x1 : Nat) (x2 : Nat) (x3 : Nat) (x4 : Int) (S : Shp) (F : Fl) (I : Il), V_L_law_23 G ln scr n9 x1 x2 x3 x4 S F I Q → J G X (QD X G (qI fun z S' F' I' => Q z S' F' I') noX) 23 [vr (some bS), vr (some x1), vr (some x2), vr (some x3), vi x4, vl 0, vl 0] [] S F I := by
  induction n9 with
  | zero => intro x1 x2 x3 x4 S F I h; exact h.elim
  | succ n ih =>
    intro x1 x2 x3 x4 S F I h
    unfold V_L_law_23 at h
    refine J_iload C dL_law_23 rfl ?_
    refine J_aload_n C dL_law_25 rfl rfl ?_
    refine K_slen C HX dL_law_26 ?_
    refine J_iconst C dL_law_27 (rg_of (by decide)) ?_
    refine J_isub C dL_law_28 ?_
    refine J_icmp_gt C dL_law_29 (tgt := 2852) rfl (fun c29 => ?_) (fun c29 => ?_)
    · have h := h.1 c29
      refine J_iconst C dL_law_2852 (rg_of (by decide)) ?_
      exact J_zret C dL_law_2853 M.2.2.1 (by decide) ⟨_, rfl, h⟩
    · have h := h.2 c29
      refine J_aload_n C dL_law_32 rfl rfl ?_
      refine J_iload C dL_law_33 rfl ?_
      obtain ⟨h01, hn2, h⟩ := h
      refine K_sld C HX dL_law_35 h01 hn2 ?_
      refine J_bipush C dL_law_36 (by decide +kernel) (rg_of (by decide)) ?_
      refine J_iand C dL_law_38 ?_
      by_cases c39_0 : iand (scr x4) 63 = 0
      · have h := h.1 c39_0
        refine J_tableIn C dL_law_39 (by omega) (by omega) (off := 193) (tgt := 232) (by rw [c39_0]; rfl) rfl ?_
        exact S_L_law_232 HX C M (by omega) (fun y0 y1 y2 y3 S' F' I' h9 => ih y0 y1 y2 y3 S' F' I' h9) h
      by_cases c39_1 : iand (scr x4) 63 = 1
      · have h := h.2.1 c39_1
        refine J_tableIn C dL_law_39 (by omega) (by omega) (off := 261) (tgt := 300) (by rw [c39_1]; rfl) rfl ?_
        exact S_L_law_300 HX C M (by omega) (fun y0 y1 y2 y3 S' F' I' h9 => ih y0 y1 y2 y3 S' F' I' h9) h
      by_cases c39_2 : iand (scr x4) 63 = 2
      · have h := h.2.2.1 c39_2
        refine J_tableIn C dL_law_39 (by omega) (by omega) (off := 353) (tgt := 392) (by rw [c39_2]; rfl) rfl ?_
        exact S_L_law_392 HX C M (by omega) (fun y0 y1 y2 y3 S' F' I' h9 => ih y0 y1 y2 y3 S' F' I' h9) h
      by_cases c39_3 : iand (scr x4) 63 = 3
      · have h := h.2.2.2.1 c39_3
        refine J_tableIn C dL_law_39 (by omega) (by omega) (off := 444) (tgt := 483) (by rw [c39_3]; rfl) rfl ?_
        exact S_L_law_483 HX C M (by omega) (fun y0 y1 y2 y3 S' F' I' h9 => ih y0 y1 y2 y3 S' F' I' h9) h
      by_cases c39_4 : iand (scr x4) 63 = 4
      · have h := h.2.2.2.2.1 c39_4
        refine J_tableIn C dL_law_39 (by omega) (by omega) (off := 480) (tgt := 519) (by rw [c39_4]; rfl) rfl ?_
        exact S_L_law_519 HX C M (by omega) (fun y0 y1 y2 y3 S' F' I' h9 => ih y0 y1 y2 y3 S' F' I' h9) h
      by_cases c39_5 : iand (scr x4) 63 = 5
      · have h := h.2.2.2.2.2.1 c39_5
        refine J_tableIn C dL_law_39 (by omega) (by omega) (off := 540) (tgt := 579) (by rw [c39_5]; rfl) rfl ?_
        exact S_L_law_579 HX C M (by omega) (fun y0 y1 y2 y3 S' F' I' h9 => ih y0 y1 y2 y3 S' F' I' h9) h
      by_cases c39_6 : iand (scr x4) 63 = 6
      · have h := h.2.2.2.2.2.2.1 c39_6
        refine J_tableIn C dL_law_39 (by omega) (by omega) (off := 596) (tgt := 635) (by rw [c39_6]; rfl) rfl ?_
        exact S_L_law_635 HX C M (by omega) (fun y0 y1 y2 y3 S' F' I' h9 => ih y0 y1 y2 y3 S' F' I' h9) h
      by_cases c39_7 : iand (scr x4) 63 = 7
      · have h := h.2.2.2.2.2.2.2.1 c39_7
        refine J_tableIn C dL_law_39 (by omega) (by omega) (off := 664) (tgt := 703) (by rw [c39_7]; rfl) rfl ?_
        exact S_L_law_703 HX C M (by omega) (fun y0 y1 y2 y3 S' F' I' h9 => ih y0 y1 y2 y3 S' F' I' h9) h
      by_cases c39_8 : iand (scr x4) 63 = 8
      · have h := h.2.2.2.2.2.2.2.2.1 c39_8
        refine J_tableIn C dL_law_39 (by omega) (by omega) (off := 720) (tgt := 759) (by rw [c39_8]; rfl) rfl ?_
        exact S_L_law_759 HX C M (by omega) (fun y0 y1 y2 y3 S' F' I' h9 => ih y0 y1 y2 y3 S' F' I' h9) h
      by_cases c39_9 : iand (scr x4) 63 = 9
      · have h := h.2.2.2.2.2.2.2.2.2.1 c39_9
        refine J_tableIn C dL_law_39 (by omega) (by omega) (off := 788) (tgt := 827) (by rw [c39_9]; rfl) rfl ?_
        exact S_L_law_827 HX C M (by omega) (fun y0 y1 y2 y3 S' F' I' h9 => ih y0 y1 y2 y3 S' F' I' h9) h
      by_cases c39_10 : iand (scr x4) 63 = 10
      · have h := h.2.2.2.2.2.2.2.2.2.2.1 c39_10
        refine J_tableIn C dL_law_39 (by omega) (by omega) (off := 844) (tgt := 883) (by rw [c39_10]; rfl) rfl ?_
        exact S_L_law_883 HX C M (by omega) (fun y0 y1 y2 y3 S' F' I' h9 => ih y0 y1 y2 y3 S' F' I' h9) h
      by_cases c39_11 : iand (scr x4) 63 = 11
      · have h := h.2.2.2.2.2.2.2.2.2.2.2.1 c39_11
        refine J_tableIn C dL_law_39 (by omega) (by omega) (off := 900) (tgt := 939) (by rw [c39_11]; rfl) rfl ?_
        exact S_L_law_939 HX C M (by omega) (fun y0 y1 y2 y3 S' F' I' h9 => ih y0 y1 y2 y3 S' F' I' h9) h
      by_cases c39_12 : iand (scr x4) 63 = 12
      · have h := h.2.2.2.2.2.2.2.2.2.2.2.2.1 c39_12
        refine J_tableIn C dL_law_39 (by omega) (by omega) (off := 956) (tgt := 995) (by rw [c39_12]; rfl) rfl ?_
        exact S_L_law_995 HX C M (by omega) (fun y0 y1 y2 y3 S' F' I' h9 => ih y0 y1 y2 y3 S' F' I' h9) h
      by_cases c39_13 : iand (scr x4) 63 = 13
      · have h := h.2.2.2.2.2.2.2.2.2.2.2.2.2.1 c39_13
        refine J_tableIn C dL_law_39 (by omega) (by omega) (off := 1012) (tgt := 1051) (by rw [c39_13]; rfl) rfl ?_
        exact S_L_law_1051 HX C M (by omega) (fun y0 y1 y2 y3 S' F' I' h9 => ih y0 y1 y2 y3 S' F' I' h9) h
      by_cases c39_14 : iand (scr x4) 63 = 14
      · have h := h.2.2.2.2.2.2.2.2.2.2.2.2.2.2.1 c39_14
        refine J_tableIn C dL_law_39 (by omega) (by omega) (off := 1080) (tgt := 1119) (by rw [c39_14]; rfl) rfl ?_
        exact S_L_law_1119 HX C M (by omega) (fun y0 y1 y2 y3 S' F' I' h9 => ih y0 y1 y2 y3 S' F' I' h9) h
      by_cases c39_15 : iand (scr x4) 63 = 15
      · have h := h.2.2.2.2.2.2.2.2.2.2.2.2.2.2.2.1 c39_15
        refine J_tableIn C dL_law_39 (by omega) (by omega) (off := 1136) (tgt := 1175) (by rw [c39_15]; rfl) rfl ?_
        exact S_L_law_1175 HX C M (by omega) (fun y0 y1 y2 y3 S' F' I' h9 => ih y0 y1 y2 y3 S' F' I' h9) h
      by_cases c39_16 : iand (scr x4) 63 = 16
      · have h := h.2.2.2.2.2.2.2.2.2.2.2.2.2.2.2.2.1 c39_16
        refine J_tableIn C dL_law_39 (by omega) (by omega) (off := 1204) (tgt := 1243) (by rw [c39_16]; rfl) rfl ?_
        exact S_L_law_1243 HX C M (by omega) (fun y0 y1 y2 y3 S' F' I' h9 => ih y0 y1 y2 y3 S' F' I' h9) h
      by_cases c39_17 : iand (scr x4) 63 = 17
      · have h := h.2.2.2.2.2.2.2.2.2.2.2.2.2.2.2.2.2.1 c39_17
        refine J_tableIn C dL_law_39 (by omega) (by omega) (off := 1272) (tgt := 1311) (by rw [c39_17]; rfl) rfl ?_
        exact S_L_law_1311 HX C M (by omega) (fun y0 y1 y2 y3 S' F' I' h9 => ih y0 y1 y2 y3 S' F' I' h9) h
      by_cases c39_18 : iand (scr x4) 63 = 18
      · have h := h.2.2.2.2.2.2.2.2.2.2.2.2.2.2.2.2.2.2.1 c39_18
        refine J_tableIn C dL_law_39 (by omega) (by omega) (off := 1328) (tgt := 1367) (by rw [c39_18]; rfl) rfl ?_
        exact S_L_law_1367 HX C M (by omega) (fun y0 y1 y2 y3 S' F' I' h9 => ih y0 y1 y2 y3 S' F' I' h9) h
      by_cases c39_19 : iand (scr x4) 63 = 19
      · have h := h.2.2.2.2.2.2.2.2.2.2.2.2.2.2.2.2.2.2.2.1 c39_19
        refine J_tableIn C dL_law_39 (by omega) (by omega) (off := 1408) (tgt := 1447) (by rw [c39_19]; rfl) rfl ?_
        exact S_L_law_1447 HX C M (by omega) (fun y0 y1 y2 y3 S' F' I' h9 => ih y0 y1 y2 y3 S' F' I' h9) h
      by_cases c39_20 : iand (scr x4) 63 = 20
      · have h := h.2.2.2.2.2.2.2.2.2.2.2.2.2.2.2.2.2.2.2.2.1 c39_20
        refine J_tableIn C dL_law_39 (by omega) (by omega) (off := 1468) (tgt := 1507) (by rw [c39_20]; rfl) rfl ?_
        exact S_L_law_1507 HX C M (by omega) (fun y0 y1 y2 y3 S' F' I' h9 => ih y0 y1 y2 y3 S' F' I' h9) h
      by_cases c39_21 : iand (scr x4) 63 = 21
      · have h := h.2.2.2.2.2.2.2.2.2.2.2.2.2.2.2.2.2.2.2.2.2.1 c39_21
        refine J_tableIn C dL_law_39 (by omega) (by omega) (off := 1524) (tgt := 1563) (by rw [c39_21]; rfl) rfl ?_
        exact S_L_law_1563 HX C M (by omega) (fun y0 y1 y2 y3 S' F' I' h9 => ih y0 y1 y2 y3 S' F' I' h9) h
      by_cases c39_22 : iand (scr x4) 63 = 22
      · have h := h.2.2.2.2.2.2.2.2.2.2.2.2.2.2.2.2.2.2.2.2.2.2.1 c39_22
        refine J_tableIn C dL_law_39 (by omega) (by omega) (off := 1587) (tgt := 1626) (by rw [c39_22]; rfl) rfl ?_
        exact S_L_law_1626 HX C M (by omega) (fun y0 y1 y2 y3 S' F' I' h9 => ih y0 y1 y2 y3 S' F' I' h9) h
      by_cases c39_23 : iand (scr x4) 63 = 23
      · have h := h.2.2.2.2.2.2.2.2.2.2.2.2.2.2.2.2.2.2.2.2.2.2.2.1 c39_23
        refine J_tableIn C dL_law_39 (by omega) (by omega) (off := 1643) (tgt := 1682) (by rw [c39_23]; rfl) rfl ?_
        exact S_L_law_1682 HX C M (by omega) (fun y0 y1 y2 y3 S' F' I' h9 => ih y0 y1 y2 y3 S' F' I' h9) h
      by_cases c39_24 : iand (scr x4) 63 = 24
      · have h := h.2.2.2.2.2.2.2.2.2.2.2.2.2.2.2.2.2.2.2.2.2.2.2.2.1 c39_24
        refine J_tableIn C dL_law_39 (by omega) (by omega) (off := 1751) (tgt := 1790) (by rw [c39_24]; rfl) rfl ?_
        exact S_L_law_1790 HX C M (by omega) (fun y0 y1 y2 y3 S' F' I' h9 => ih y0 y1 y2 y3 S' F' I' h9) h
      by_cases c39_25 : iand (scr x4) 63 = 25
      · have h := h.2.2.2.2.2.2.2.2.2.2.2.2.2.2.2.2.2.2.2.2.2.2.2.2.2.1 c39_25
        refine J_tableIn C dL_law_39 (by omega) (by omega) (off := 1819) (tgt := 1858) (by rw [c39_25]; rfl) rfl ?_
        exact S_L_law_1858 HX C M (by omega) (fun y0 y1 y2 y3 S' F' I' h9 => ih y0 y1 y2 y3 S' F' I' h9) h
      by_cases c39_26 : iand (scr x4) 63 = 26
      · have h := h.2.2.2.2.2.2.2.2.2.2.2.2.2.2.2.2.2.2.2.2.2.2.2.2.2.2.1 c39_26
        refine J_tableIn C dL_law_39 (by omega) (by omega) (off := 1867) (tgt := 1906) (by rw [c39_26]; rfl) rfl ?_
        exact S_L_law_1906 HX C M (by omega) (fun y0 y1 y2 y3 S' F' I' h9 => ih y0 y1 y2 y3 S' F' I' h9) h
      by_cases c39_27 : iand (scr x4) 63 = 27
      · have h := h.2.2.2.2.2.2.2.2.2.2.2.2.2.2.2.2.2.2.2.2.2.2.2.2.2.2.2.1 c39_27
        refine J_tableIn C dL_law_39 (by omega) (by omega) (off := 1923) (tgt := 1962) (by rw [c39_27]; rfl) rfl ?_
        exact S_L_law_1962 HX C M (by omega) (fun y0 y1 y2 y3 S' F' I' h9 => ih y0 y1 y2 y3 S' F' I' h9) h
      by_cases c39_28 : iand (scr x4) 63 = 28
      · have h := h.2.2.2.2.2.2.2.2.2.2.2.2.2.2.2.2.2.2.2.2.2.2.2.2.2.2.2.2.1 c39_28
        refine J_tableIn C dL_law_39 (by omega) (by omega) (off := 1979) (tgt := 2018) (by rw [c39_28]; rfl) rfl ?_
        exact S_L_law_2018 HX C M (by omega) (fun y0 y1 y2 y3 S' F' I' h9 => ih y0 y1 y2 y3 S' F' I' h9) h
      by_cases c39_29 : iand (scr x4) 63 = 29
      · have h := h.2.2.2.2.2.2.2.2.2.2.2.2.2.2.2.2.2.2.2.2.2.2.2.2.2.2.2.2.2.1 c39_29
        refine J_tableIn C dL_law_39 (by omega) (by omega) (off := 1992) (tgt := 2031) (by rw [c39_29]; rfl) rfl ?_
        exact S_L_law_2031 HX C M (by omega) (fun y0 y1 y2 y3 S' F' I' h9 => ih y0 y1 y2 y3 S' F' I' h9) h
      by_cases c39_30 : iand (scr x4) 63 = 30
      · have h := h.2.2.2.2.2.2.2.2.2.2.2.2.2.2.2.2.2.2.2.2.2.2.2.2.2.2.2.2.2.2.1 c39_30
        refine J_tableIn C dL_law_39 (by omega) (by omega) (off := 2005) (tgt := 2044) (by rw [c39_30]; rfl) rfl ?_
        exact S_L_law_2044 HX C M (by omega) (fun y0 y1 y2 y3 S' F' I' h9 => ih y0 y1 y2 y3 S' F' I' h9) h
      by_cases c39_31 : iand (scr x4) 63 = 31
      · have h := h.2.2.2.2.2.2.2.2.2.2.2.2.2.2.2.2.2.2.2.2.2.2.2.2.2.2.2.2.2.2.2.1 c39_31
        refine J_tableIn C dL_law_39 (by omega) (by omega) (off := 2018) (tgt := 2057) (by rw [c39_31]; rfl) rfl ?_
        exact S_L_law_2057 HX C M (by omega) (fun y0 y1 y2 y3 S' F' I' h9 => ih y0 y1 y2 y3 S' F' I' h9) h
      by_cases c39_32 : iand (scr x4) 63 = 32
      · have h := h.2.2.2.2.2.2.2.2.2.2.2.2.2.2.2.2.2.2.2.2.2.2.2.2.2.2.2.2.2.2.2.2.1 c39_32
        refine J_tableIn C dL_law_39 (by omega) (by omega) (off := 2031) (tgt := 2070) (by rw [c39_32]; rfl) rfl ?_
        exact S_L_law_2070 HX C M (by omega) (fun y0 y1 y2 y3 S' F' I' h9 => ih y0 y1 y2 y3 S' F' I' h9) h
      by_cases c39_33 : iand (scr x4) 63 = 33
      · have h := h.2.2.2.2.2.2.2.2.2.2.2.2.2.2.2.2.2.2.2.2.2.2.2.2.2.2.2.2.2.2.2.2.2.1 c39_33
        refine J_tableIn C dL_law_39 (by omega) (by omega) (off := 2087) (tgt := 2126) (by rw [c39_33]; rfl) rfl ?_
        exact S_L_law_2126 HX C M (by omega) (fun y0 y1 y2 y3 S' F' I' h9 => ih y0 y1 y2 y3 S' F' I' h9) h
      by_cases c39_34 : iand (scr x4) 63 = 34
      · have h := h.2.2.2.2.2.2.2.2.2.2.2.2.2.2.2.2.2.2.2.2.2.2.2.2.2.2.2.2.2.2.2.2.2.2.1 c39_34
        refine J_tableIn C dL_law_39 (by omega) (by omega) (off := 2143) (tgt := 2182) (by rw [c39_34]; rfl) rfl ?_
        exact S_L_law_2182 HX C M (by omega) (fun y0 y1 y2 y3 S' F' I' h9 => ih y0 y1 y2 y3 S' F' I' h9) h
      by_cases c39_35 : iand (scr x4) 63 = 35
      · have h := h.2.2.2.2.2.2.2.2.2.2.2.2.2.2.2.2.2.2.2.2.2.2.2.2.2.2.2.2.2.2.2.2.2.2.2.1 c39_35
        refine J_tableIn C dL_law_39 (by omega) (by omega) (off := 2199) (tgt := 2238) (by rw [c39_35]; rfl) rfl ?_
        exact S_L_law_2238 HX C M (by omega) (fun y0 y1 y2 y3 S' F' I' h9 => ih y0 y1 y2 y3 S' F' I' h9) h
      by_cases c39_36 : iand (scr x4) 63 = 36
      · have h := h.2.2.2.2.2.2.2.2.2.2.2.2.2.2.2.2.2.2.2.2.2.2.2.2.2.2.2.2.2.2.2.2.2.2.2.2.1 c39_36
        refine J_tableIn C dL_law_39 (by omega) (by omega) (off := 2267) (tgt := 2306) (by rw [c39_36]; rfl) rfl ?_
        exact S_L_law_2306 HX C M (by omega) (fun y0 y1 y2 y3 S' F' I' h9 => ih y0 y1 y2 y3 S' F' I' h9) h
      by_cases c39_37 : iand (scr x4) 63 = 37
      · have h := h.2.2.2.2.2.2.2.2.2.2.2.2.2.2.2.2.2.2.2.2.2.2.2.2.2.2.2.2.2.2.2.2.2.2.2.2.2.1 c39_37
        refine J_tableIn C dL_law_39 (by omega) (by omega) (off := 2335) (tgt := 2374) (by rw [c39_37]; rfl) rfl ?_
        exact S_L_law_2374 HX C M (by omega) (fun y0 y1 y2 y3 S' F' I' h9 => ih y0 y1 y2 y3 S' F' I' h9) h
      by_cases c39_38 : iand (scr x4) 63 = 38
      · have h := h.2.2.2.2.2.2.2.2.2.2.2.2.2.2.2.2.2.2.2.2.2.2.2.2.2.2.2.2.2.2.2.2.2.2.2.2.2.2.1 c39_38
        refine J_tableIn C dL_law_39 (by omega) (by omega) (off := 2391) (tgt := 2430) (by rw [c39_38]; rfl) rfl ?_
        exact S_L_law_2430 HX C M (by omega) (fun y0 y1 y2 y3 S' F' I' h9 => ih y0 y1 y2 y3 S' F' I' h9) h
      by_cases c39_39 : iand (scr x4) 63 = 39
      · have h := h.2.2.2.2.2.2.2.2.2.2.2.2.2.2.2.2.2.2.2.2.2.2.2.2.2.2.2.2.2.2.2.2.2.2.2.2.2.2.2.1 c39_39
        refine J_tableIn C dL_law_39 (by omega) (by omega) (off := 2447) (tgt := 2486) (by rw [c39_39]; rfl) rfl ?_
        exact S_L_law_2486 HX C M (by omega) (fun y0 y1 y2 y3 S' F' I' h9 => ih y0 y1 y2 y3 S' F' I' h9) h
      by_cases c39_40 : iand (scr x4) 63 = 40
      · have h := h.2.2.2.2.2.2.2.2.2.2.2.2.2.2.2.2.2.2.2.2.2.2.2.2.2.2.2.2.2.2.2.2.2.2.2.2.2.2.2.2.1 c39_40
        refine J_tableIn C dL_law_39 (by omega) (by omega) (off := 2503) (tgt := 2542) (by rw [c39_40]; rfl) rfl ?_
        exact S_L_law_2542 HX C M (by omega) (fun y0 y1 y2 y3 S' F' I' h9 => ih y0 y1 y2 y3 S' F' I' h9) h
      by_cases c39_41 : iand (scr x4) 63 = 41
      · have h := h.2.2.2.2.2.2.2.2.2.2.2.2.2.2.2.2.2.2.2.2.2.2.2.2.2.2.2.2.2.2.2.2.2.2.2.2.2.2.2.2.2.1 c39_41
        refine J_tableIn C dL_law_39 (by omega) (by omega) (off := 2559) (tgt := 2598) (by rw [c39_41]; rfl) rfl ?_
        exact S_L_law_2598 HX C M (by omega) (fun y0 y1 y2 y3 S' F' I' h9 => ih y0 y1 y2 y3 S' F' I' h9) h
      by_cases c39_42 : iand (scr x4) 63 = 42
      · have h := h.2.2.2.2.2.2.2.2.2.2.2.2.2.2.2.2.2.2.2.2.2.2.2.2.2.2.2.2.2.2.2.2.2.2.2.2.2.2.2.2.2.2.1 c39_42
        refine J_tableIn C dL_law_39 (by omega) (by omega) (off := 2615) (tgt := 2654) (by rw [c39_42]; rfl) rfl ?_
        exact S_L_law_2654 HX C M (by omega) (fun y0 y1 y2 y3 S' F' I' h9 => ih y0 y1 y2 y3 S' F' I' h9) h
      by_cases c39_43 : iand (scr x4) 63 = 43
      · have h := h.2.2.2.2.2.2.2.2.2.2.2.2.2.2.2.2.2.2.2.2.2.2.2.2.2.2.2.2.2.2.2.2.2.2.2.2.2.2.2.2.2.2.2.1 c39_43
        refine J_tableIn C dL_law_39 (by omega) (by omega) (off := 2683) (tgt := 2722) (by rw [c39_43]; rfl) rfl ?_
        exact S_L_law_2722 HX C M (by omega) (fun y0 y1 y2 y3 S' F' I' h9 => ih y0 y1 y2 y3 S' F' I' h9) h
      by_cases c39_44 : iand (scr x4) 63 = 44
      · have h := h.2.2.2.2.2.2.2.2.2.2.2.2.2.2.2.2.2.2.2.2.2.2.2.2.2.2.2.2.2.2.2.2.2.2.2.2.2.2.2.2.2.2.2.2.1 c39_44
        refine J_tableIn C dL_law_39 (by omega) (by omega) (off := 2751) (tgt := 2790) (by rw [c39_44]; rfl) rfl ?_
        exact S_L_law_2790 HX C M (by omega) (fun y0 y1 y2 y3 S' F' I' h9 => ih y0 y1 y2 y3 S' F' I' h9) h
      have c39 : iand (scr x4) 63 < 0 ∨ 44 < iand (scr x4) 63 := by omega
      have h := h.2.2.2.2.2.2.2.2.2.2.2.2.2.2.2.2.2.2.2.2.2.2.2.2.2.2.2.2.2.2.2.2.2.2.2.2.2.2.2.2.2.2.2.2.2 c39
      refine J_tableOut C dL_law_39 c39 (tgt := 2846) rfl ?_
      exact S_L_law_2846 HX C M (by omega) (fun y0 y1 y2 y3 S' F' I' h9 => ih y0 y1 y2 y3 S' F' I' h9) h
set_option maxRecDepth 20000 in
set_option maxHeartbeats 4000000 in
theorem S_L_law {G : Gp} {X : Xt} {d : Nat} {ln : Int} {scr : Int → Int} {bS : Nat}   {Q : Int → Shp → Fl → Il → Prop} {S : Shp} {F : Fl} {I : Il} (HX : SXc G X bS ln scr) (C : CO G RL cL_law 7 X) (M : ML d (some .boolean) X) (hd : 16 ≤ d)  (h : V_L_law G ln scr S F I Q) : J G X (QD X G (qI fun z S' F' I' => Q z S' F' I') noX) 0 [vr (some bS), vl 0, vl 0, vl 0, vl 0, vl 0, vl 0] [] S F I := by
  unfold V_L_law at h
  obtain ⟨d, rfl⟩ : ∃ d9, d = d9 + 1 := ⟨d - 1, by omega⟩
  obtain ⟨ha3, hb4, h⟩ := h
  refine J_new C fn_9 fp_9.1 fd_9 wg_92 wg_93 wg_66 dL_law_0 ha3 hb4 (fun q1 hq2 => ?_)
  have h := h q1 hq2
  refine J_dup C dL_law_3 trivial ?_
  refine K_IH C M.1 M.2.1 [] [vr (some q1)] mi_X8_init rfl wg_94 wg_95 dL_law_4 rfl rfl (by decide) (Nat.le_of_ble_eq_true rfl) (c_X8_init (C.2.2.2.2.2.2.2) (by omega) h) (fun v9 S5 F6 I7 hq9 => ?_) K_no rfl
  clear h
  obtain ⟨rfl, h⟩ := hq9
  refine K_astore_n C [vr (some bS), vr (some q1), vl 0, vl 0, vl 0, vl 0, vl 0] dL_law_7 rfl (Nat.le_of_ble_eq_true rfl) rfl ?_
  obtain ⟨ha10, hb11, h⟩ := h
  refine J_new C fn_10 fp_10.1 fd_10 wg_1200 wg_1201 wg_74 dL_law_8 ha10 hb11 (fun q8 hq9 => ?_)
  have h := h q8 hq9
  refine J_dup C dL_law_11 trivial ?_
  refine K_IH C M.1 M.2.1 [] [vr (some q8)] mi_X9_init rfl wg_1202 wg_1203 dL_law_12 rfl rfl (by decide) (Nat.le_of_ble_eq_true rfl) (c_X9_init (C.2.2.2.2.2.2.2) (by omega) h) (fun v9 S12 F13 I14 hq9 => ?_) K_no rfl
  clear h
  obtain ⟨rfl, h⟩ := hq9
  refine K_astore_n C [vr (some bS), vr (some q1), vr (some q8), vl 0, vl 0, vl 0, vl 0] dL_law_15 rfl (Nat.le_of_ble_eq_true rfl) rfl ?_
  refine J_iconst C dL_law_16 (rg_of (by decide)) ?_
  obtain ⟨ha17, hb18, h⟩ := h
  refine J_newL C (n := 1) rfl wg_1701 dL_law_17 (by decide) ha17 hb18 (fun q15 hq16 => ?_)
  have h := h q15 hq16
  refine K_astore_n C [vr (some bS), vr (some q1), vr (some q8), vr (some q15), vl 0, vl 0, vl 0] dL_law_19 rfl (Nat.le_of_ble_eq_true rfl) rfl ?_
  refine J_iconst C dL_law_20 (rg_of (by decide)) ?_
  refine K_istore C [vr (some bS), vr (some q1), vr (some q8), vr (some q15), vi 0, vl 0, vl 0] dL_law_21 (Nat.le_of_ble_eq_true rfl) rfl ?_
  obtain ⟨n9, h⟩ := h
  exact S_L_law_23 HX C M (by omega) n9  _ _ _ _ _ _ _ h
