set_option maxRecDepth 20000 in
set_option maxHeartbeats 4000000 in
theorem S_X9_arrives {G : Gp} {X : Xt} {d : Nat}  {x0 : Nat} {x1 : Int} {Q : Il → Prop} {S : Shp} {F : Fl} {I : Il} (C : CO G RX9 cX9_arrives 3 X) (M : MX d none "arrives" X) (hd : 1 ≤ d)  (h : V_X9_arrives x0 x1 S F I Q) : J G X (QD X G (qV fun S' F' I' => S = S' ∧ F = F' ∧ Q I') noX) 0 [vr (some x0), vi x1, vl 0] [] S F I := by
  unfold V_X9_arrives at h
  refine J_aload_n C dX9_arrives_0 rfl rfl ?_
  obtain ⟨hK1, h⟩ := h
  obtain ⟨r2, hr3, h⟩ := h
  refine J_getR C fo_10_41 rfl fl_RX9_111 dX9_arrives_1 hK1 hr3 ?_
  refine J_iload_n C dX9_arrives_4 rfl rfl ?_
  obtain ⟨hK4, h⟩ := h
  obtain ⟨h05, hn6, h⟩ := h
  refine J_iald C dX9_arrives_5 hK4 h05 hn6 ?_
  refine K_istore_n C [vr (some x0), vi x1, vi (I r2 x1)] dX9_arrives_6 rfl (Nat.le_of_ble_eq_true rfl) rfl ?_
  refine J_aload_n C dX9_arrives_7 rfl rfl ?_
  obtain ⟨r7, hr8, h⟩ := h
  refine J_getR C fo_10_10 rfl fl_RX9_26 dX9_arrives_8 hK1 hr8 ?_
  refine J_iload_n C dX9_arrives_11 rfl rfl ?_
  refine J_dup2 C dX9_arrives_12 trivial trivial ?_
  obtain ⟨hK9, h⟩ := h
  obtain ⟨h010, hn11, h⟩ := h
  refine J_iald C dX9_arrives_13 hK9 h010 hn11 ?_
  refine J_iconst C dX9_arrives_14 (rg_of (by decide)) ?_
  refine J_aload_n C dX9_arrives_15 rfl rfl ?_
  obtain ⟨r12, hr13, h⟩ := h
  refine J_getR C fo_10_44 rfl fl_RX9_120 dX9_arrives_16 hK1 hr13 ?_
  refine J_iload_n C dX9_arrives_19 rfl rfl ?_
  obtain ⟨hK14, h⟩ := h
  obtain ⟨h015, hn16, h⟩ := h
  refine J_iald C dX9_arrives_20 hK14 h015 hn16 ?_
  refine J_iadd C dX9_arrives_21 ?_
  refine J_iadd C dX9_arrives_22 ?_
  obtain ⟨h017, hn18, h⟩ := h
  refine J_iast C dX9_arrives_23 hK9 h017 hn18 ?_
  refine J_aload_n C dX9_arrives_24 rfl rfl ?_
  refine J_getR C fo_10_41 rfl fl_RX9_111 dX9_arrives_25 hK1 hr3 ?_
  refine J_iload_n C dX9_arrives_28 rfl rfl ?_
  refine J_iconst C dX9_arrives_29 (rg_of (by decide)) ?_
  obtain ⟨h019, hn20, h⟩ := h
  refine J_iast C dX9_arrives_30 hK4 h019 hn20 ?_
  refine J_aload_n C dX9_arrives_31 rfl rfl ?_
  obtain ⟨r21, hr22, h⟩ := h
  refine J_getR C fo_10_39 rfl fl_RX9_105 dX9_arrives_32 hK1 hr22 ?_
  refine J_iload_n C dX9_arrives_35 rfl rfl ?_
  refine J_aload_n C dX9_arrives_36 rfl rfl ?_
  obtain ⟨r23, hr24, h⟩ := h
  refine J_getR C fo_10_46 rfl fl_RX9_126 dX9_arrives_37 hK1 hr24 ?_
  refine J_iload_n C dX9_arrives_40 rfl rfl ?_
  obtain ⟨hK25, h⟩ := h
  obtain ⟨h026, hn27, h⟩ := h
  refine J_iald C dX9_arrives_41 hK25 h026 hn27 ?_
  refine J_aload_n C dX9_arrives_42 rfl rfl ?_
  obtain ⟨r28, hr29, h⟩ := h
  refine J_getR C fo_10_47 rfl fl_RX9_129 dX9_arrives_43 hK1 hr29 ?_
  refine J_iload_n C dX9_arrives_46 rfl rfl ?_
  obtain ⟨hK30, h⟩ := h
  obtain ⟨h031, hn32, h⟩ := h
  refine J_iald C dX9_arrives_47 hK30 h031 hn32 ?_
  refine J_icmp_ge C dX9_arrives_48 (tgt := 55) rfl (fun c48 => ?_) (fun c48 => ?_)
  · have h := h.1 c48
    refine J_iconst C dX9_arrives_55 (rg_of (by decide)) ?_
    obtain ⟨hK33, h⟩ := h
    obtain ⟨h034, hn35, h⟩ := h
    refine J_iast C dX9_arrives_56 hK33 h034 hn35 ?_
    exact J_vret C dX9_arrives_57 M.2.2.1 ⟨rfl, rfl, rfl, h⟩
  · have h := h.2 c48
    refine J_iconst C dX9_arrives_51 (rg_of (by decide)) ?_
    refine J_goto C dX9_arrives_52 (tgt := 56) rfl ?_
    obtain ⟨hK36, h⟩ := h
    obtain ⟨h037, hn38, h⟩ := h
    refine J_iast C dX9_arrives_56 hK36 h037 hn38 ?_
    exact J_vret C dX9_arrives_57 M.2.2.1 ⟨rfl, rfl, rfl, h⟩
theorem c_X9_arrives {l : Launch} {G : Gp} {d : Nat} {x0 : Nat} {x1 : Int} {S : Shp} {F : Fl} {I : Il} {Q : Il → Prop} (hl : l.stackTraces = false) (hd : 1 ≤ d) (h : V_X9_arrives x0 x1 S F I Q) : CM l G d yX9_arrives (.code yX9_arrives cX9_arrives 3 none) [vr (some x0), vi x1] S F I (qV fun S' F' I' => S = S' ∧ F = F' ∧ Q I') noX :=
  CM_ofM [vr (some x0), vi x1, vl 0] hl (by decide +kernel) (kn1 trivial (kn1 trivial kn0)) (Nat.le_of_ble_eq_true rfl) rfl (fun X hX C M => S_X9_arrives C M hd h)
set_option maxRecDepth 20000 in
set_option maxHeartbeats 4000000 in
theorem S_X9_in {G : Gp} {X : Xt} {d : Nat}  {x0 : Int} {x1 : Int} {x2 : Int} {Q : Int → Prop} {S : Shp} {F : Fl} {I : Il} (C : CO G RX9 cX9_in 3 X) (M : MX d (some .boolean) "in" X) (hd : 1 ≤ d)  (h : V_X9_in x0 x1 x2 S F I Q) : J G X (QD X G (qI fun z S' F' I' => S = S' ∧ F = F' ∧ I = I' ∧ Q z) noX) 0 [vi x0, vi x1, vi x2] [] S F I := by
  unfold V_X9_in at h
  refine J_iload_n C dX9_in_0 rfl rfl ?_
  refine J_iload_n C dX9_in_1 rfl rfl ?_
  refine J_icmp_lt C dX9_in_2 (tgt := 14) rfl (fun c2 => ?_) (fun c2 => ?_)
  · have h := h.1 c2
    refine J_iconst C dX9_in_14 (rg_of (by decide)) ?_
    exact J_zret C dX9_in_15 M.2.2.1 (by decide) ⟨_, rfl, rfl, rfl, rfl, h⟩
  · have h := h.2 c2
    refine J_iload_n C dX9_in_5 rfl rfl ?_
    refine J_iload_n C dX9_in_6 rfl rfl ?_
    refine J_icmp_gt C dX9_in_7 (tgt := 14) rfl (fun c7 => ?_) (fun c7 => ?_)
    · have h := h.1 c7
      refine J_iconst C dX9_in_14 (rg_of (by decide)) ?_
      exact J_zret C dX9_in_15 M.2.2.1 (by decide) ⟨_, rfl, rfl, rfl, rfl, h⟩
    · have h := h.2 c7
      refine J_iconst C dX9_in_10 (rg_of (by decide)) ?_
      refine J_goto C dX9_in_11 (tgt := 15) rfl ?_
      exact J_zret C dX9_in_15 M.2.2.1 (by decide) ⟨_, rfl, rfl, rfl, rfl, h⟩
theorem c_X9_in {l : Launch} {G : Gp} {d : Nat} {x0 : Int} {x1 : Int} {x2 : Int} {S : Shp} {F : Fl} {I : Il} {Q : Int → Prop} (hl : l.stackTraces = false) (hd : 1 ≤ d) (h : V_X9_in x0 x1 x2 S F I Q) : CM l G d yX9_in (.code yX9_in cX9_in 3 (some .boolean)) [vi x0, vi x1, vi x2] S F I (qI fun z S' F' I' => S = S' ∧ F = F' ∧ I = I' ∧ Q z) noX :=
  CM_ofM [vi x0, vi x1, vi x2] hl (by decide +kernel) (kn1 trivial (kn1 trivial (kn1 trivial kn0))) (Nat.le_of_ble_eq_true rfl) rfl (fun X hX C M => S_X9_in C M hd h)
set_option maxRecDepth 20000 in
set_option maxHeartbeats 4000000 in
theorem S_X9_isTrain {G : Gp} {X : Xt} {d : Nat}  {x0 : Nat} {x1 : Int} {Q : Int → Prop} {S : Shp} {F : Fl} {I : Il} (C : CO G RX9 cX9_isTrain 2 X) (M : MX d (some .boolean) "isTrain" X) (hd : 2 ≤ d)  (h : V_X9_isTrain x0 x1 S F I Q) : J G X (QD X G (qI fun z S' F' I' => S = S' ∧ F = F' ∧ I = I' ∧ Q z) noX) 0 [vr (some x0), vi x1] [] S F I := by
  unfold V_X9_isTrain at h
  obtain ⟨d, rfl⟩ : ∃ d9, d = d9 + 1 := ⟨d - 1, by omega⟩
  refine J_iload_n C dX9_isTrain_0 rfl rfl ?_
  refine J_iconst C dX9_isTrain_1 (rg_of (by decide)) ?_
  refine J_iconst C dX9_isTrain_2 (rg_of (by decide)) ?_
  refine K_S C M [vi x1, vi 0, vi 5] [] mi_X9_in wg_1414 wg_1415 dX9_isTrain_3 rfl rfl (by decide) (Nat.le_of_ble_eq_true rfl) (c_X9_in (C.2.2.2.2.2.2.2) (by omega) h) (fun v9 S' F' I' hq9 => ?_) K_no rfl
  clear h
  obtain ⟨z1, rfl, rfl, rfl, rfl, h⟩ := hq9
  refine J_if_eq C dX9_isTrain_6 (tgt := 22) rfl (fun c6 => ?_) (fun c6 => ?_)
  · have h := h.1 c6
    refine J_iconst C dX9_isTrain_22 (rg_of (by decide)) ?_
    exact J_zret C dX9_isTrain_23 M.2.2.1 (by decide) ⟨_, rfl, rfl, rfl, rfl, h⟩
  · have h := h.2 c6
    refine J_aload_n C dX9_isTrain_9 rfl rfl ?_
    obtain ⟨hK2, h⟩ := h
    obtain ⟨r3, hr4, h⟩ := h
    refine J_getR C fo_10_36 rfl fl_RX9_96 dX9_isTrain_10 hK2 hr4 ?_
    refine J_iload_n C dX9_isTrain_13 rfl rfl ?_
    obtain ⟨hK5, h⟩ := h
    obtain ⟨h06, hn7, h⟩ := h
    refine J_zald C dX9_isTrain_14 hK5 h06 hn7 ?_
    refine J_if_eq C dX9_isTrain_15 (tgt := 22) rfl (fun c15 => ?_) (fun c15 => ?_)
    · have h := h.1 c15
      refine J_iconst C dX9_isTrain_22 (rg_of (by decide)) ?_
      exact J_zret C dX9_isTrain_23 M.2.2.1 (by decide) ⟨_, rfl, rfl, rfl, rfl, h⟩
    · have h := h.2 c15
      refine J_iconst C dX9_isTrain_18 (rg_of (by decide)) ?_
      refine J_goto C dX9_isTrain_19 (tgt := 23) rfl ?_
      exact J_zret C dX9_isTrain_23 M.2.2.1 (by decide) ⟨_, rfl, rfl, rfl, rfl, h⟩
theorem c_X9_isTrain {l : Launch} {G : Gp} {d : Nat} {x0 : Nat} {x1 : Int} {S : Shp} {F : Fl} {I : Il} {Q : Int → Prop} (hl : l.stackTraces = false) (hd : 2 ≤ d) (h : V_X9_isTrain x0 x1 S F I Q) : CM l G d yX9_isTrain (.code yX9_isTrain cX9_isTrain 2 (some .boolean)) [vr (some x0), vi x1] S F I (qI fun z S' F' I' => S = S' ∧ F = F' ∧ I = I' ∧ Q z) noX :=
  CM_ofM [vr (some x0), vi x1] hl (by decide +kernel) (kn1 trivial (kn1 trivial kn0)) (Nat.le_of_ble_eq_true rfl) rfl (fun X hX C M => S_X9_isTrain C M hd h)
set_option maxRecDepth 20000 in
set_option maxHeartbeats 4000000 in
theorem S_X9_isStation {G : Gp} {X : Xt} {d : Nat}  {x0 : Int} {Q : Int → Prop} {S : Shp} {F : Fl} {I : Il} (C : CO G RX9 cX9_isStation 1 X) (M : MX d (some .boolean) "isStation" X) (hd : 2 ≤ d)  (h : V_X9_isStation x0 S F I Q) : J G X (QD X G (qI fun z S' F' I' => S = S' ∧ F = F' ∧ I = I' ∧ Q z) noX) 0 [vi x0] [] S F I := by
  unfold V_X9_isStation at h
  obtain ⟨d, rfl⟩ : ∃ d9, d = d9 + 1 := ⟨d - 1, by omega⟩
  refine J_iload_n C dX9_isStation_0 rfl rfl ?_
  refine J_iconst C dX9_isStation_1 (rg_of (by decide)) ?_
  refine J_bipush C dX9_isStation_2 (by decide +kernel) (rg_of (by decide)) ?_
  refine K_S C M [vi x0, vi 0, vi 7] [] mi_X9_in wg_1414 wg_1415 dX9_isStation_4 rfl rfl (by decide) (Nat.le_of_ble_eq_true rfl) (c_X9_in (C.2.2.2.2.2.2.2) (by omega) h) (fun v9 S' F' I' hq9 => ?_) K_no rfl
  clear h
  obtain ⟨z1, rfl, rfl, rfl, rfl, h⟩ := hq9
  obtain ⟨hb, h⟩ := h
  exact J_zret C dX9_isStation_7 M.2.2.1 hb ⟨_, rfl, rfl, rfl, rfl, h⟩
theorem c_X9_isStation {l : Launch} {G : Gp} {d : Nat} {x0 : Int} {S : Shp} {F : Fl} {I : Il} {Q : Int → Prop} (hl : l.stackTraces = false) (hd : 2 ≤ d) (h : V_X9_isStation x0 S F I Q) : CM l G d yX9_isStation (.code yX9_isStation cX9_isStation 1 (some .boolean)) [vi x0] S F I (qI fun z S' F' I' => S = S' ∧ F = F' ∧ I = I' ∧ Q z) noX :=
  CM_ofM [vi x0] hl (by decide +kernel) (kn1 trivial kn0) (Nat.le_of_ble_eq_true rfl) rfl (fun X hX C M => S_X9_isStation C M hd h)
set_option maxRecDepth 20000 in
set_option maxHeartbeats 4000000 in
theorem S_X9_await_43 {G : Gp} {X : Xt} {d : Nat}  {x0 : Nat} {x1 : Int} {x2 : Int} {x3 : Int} {s0 : Int} {s1 : Nat} {Q : Fl → Il → Prop} {S : Shp} {F : Fl} {I : Il} (C : CO G RX9 cX9_await 4 X) (M : MX d none "await" X) (hd : 3 ≤ d)  (h : V_X9_await_43 x0 x1 x2 x3 s0 s1 S F I Q) : J G X (QD X G (qV fun S' F' I' => S = S' ∧ Q F' I') noX) 43 [vr (some x0), vi x1, vi x2, vi x3] [vi s0, vr (some s1)] S F I := by
  unfold V_X9_await_43 at h
  obtain ⟨hK1, h⟩ := h
  refine J_putI C fo_10_0 fp_10 fl_RX9_174 (Or.inl rfl) (Or.inl rfl) dX9_await_43 hK1 ?_
  refine J_aload_n C dX9_await_46 rfl rfl ?_
  obtain ⟨hK2, h⟩ := h
  refine J_getI C fo_10_0 rfl fl_RX9_174 dX9_await_47 hK2 ?_
  refine J_if_ne C dX9_await_50 (tgt := 67) rfl (fun c50 => ?_) (fun c50 => ?_)
  · have h := h.1 c50
    exact J_vret C dX9_await_67 M.2.2.1 ⟨rfl, rfl, h⟩
  · have h := h.2 c50
    refine J_aload_n C dX9_await_53 rfl rfl ?_
    obtain ⟨r3, hr4, h⟩ := h
    refine J_getR C fo_10_50 rfl fl_RX9_138 dX9_await_54 hK2 hr4 ?_
    refine J_iload_n C dX9_await_57 rfl rfl ?_
    refine J_iload_n C dX9_await_58 rfl rfl ?_
    obtain ⟨hK5, h⟩ := h
    obtain ⟨h06, hn7, h⟩ := h
    refine J_iast C dX9_await_59 hK5 h06 hn7 ?_
    refine J_aload_n C dX9_await_60 rfl rfl ?_
    obtain ⟨r8, hr9, h⟩ := h
    refine J_getR C fo_10_51 rfl fl_RX9_141 dX9_await_61 hK2 hr9 ?_
    refine J_iload_n C dX9_await_64 rfl rfl ?_
    refine J_iload_n C dX9_await_65 rfl rfl ?_
    obtain ⟨hK10, h⟩ := h
    obtain ⟨h011, hn12, h⟩ := h
    refine J_iast C dX9_await_66 hK10 h011 hn12 ?_
    exact J_vret C dX9_await_67 M.2.2.1 ⟨rfl, rfl, h⟩
set_option maxRecDepth 20000 in
set_option maxHeartbeats 4000000 in
theorem S_X9_await_29 {G : Gp} {X : Xt} {d : Nat}  {x0 : Nat} {x1 : Int} {x2 : Int} {x3 : Int} {s0 : Nat} {Q : Fl → Il → Prop} {S : Shp} {F : Fl} {I : Il} (C : CO G RX9 cX9_await 4 X) (M : MX d none "await" X) (hd : 3 ≤ d)  (h : V_X9_await_29 x0 x1 x2 x3 s0 S F I Q) : J G X (QD X G (qV fun S' F' I' => S = S' ∧ Q F' I') noX) 29 [vr (some x0), vi x1, vi x2, vi x3] [vr (some s0)] S F I := by
  unfold V_X9_await_29 at h
  refine J_iconst C dX9_await_29 (rg_of (by decide)) ?_
  refine J_goto C dX9_await_30 (tgt := 43) rfl ?_
  exact S_X9_await_43 C M (by omega)  h
set_option maxRecDepth 20000 in
set_option maxHeartbeats 4000000 in
theorem S_X9_await_22 {G : Gp} {X : Xt} {d : Nat}  {x0 : Nat} {x1 : Int} {x2 : Int} {x3 : Int} {s0 : Nat} {Q : Fl → Il → Prop} {S : Shp} {F : Fl} {I : Il} (C : CO G RX9 cX9_await 4 X) (M : MX d none "await" X) (hd : 3 ≤ d)  (h : V_X9_await_22 x0 x1 x2 x3 s0 S F I Q) : J G X (QD X G (qV fun S' F' I' => S = S' ∧ Q F' I') noX) 22 [vr (some x0), vi x1, vi x2, vi x3] [vr (some s0)] S F I := by
  unfold V_X9_await_22 at h
  obtain ⟨d, rfl⟩ : ∃ d9, d = d9 + 1 := ⟨d - 1, by omega⟩
  refine J_iload_n C dX9_await_22 rfl rfl ?_
  refine K_S C M [vi x3] [vr (some s0)] mi_X9_isStation wg_1411 wg_1412 dX9_await_23 rfl rfl (by decide) (Nat.le_of_ble_eq_true rfl) (c_X9_isStation (C.2.2.2.2.2.2.2) (by omega) h) (fun v9 S' F' I' hq9 => ?_) K_no rfl
  clear h
  obtain ⟨z1, rfl, rfl, rfl, rfl, h⟩ := hq9
  refine J_if_ne C dX9_await_26 (tgt := 33) rfl (fun c26 => ?_) (fun c26 => ?_)
  · have h := h.1 c26
    refine J_iload_n C dX9_await_33 rfl rfl ?_
    refine J_iload_n C dX9_await_34 rfl rfl ?_
    refine J_icmp_ne C dX9_await_35 (tgt := 42) rfl (fun c35 => ?_) (fun c35 => ?_)
    · have h := h.1 c35
      refine J_iconst C dX9_await_42 (rg_of (by decide)) ?_
      exact S_X9_await_43 C M (by omega)  h
    · have h := h.2 c35
      refine J_iconst C dX9_await_38 (rg_of (by decide)) ?_
      refine J_goto C dX9_await_39 (tgt := 43) rfl ?_
      exact S_X9_await_43 C M (by omega)  h
  · have h := h.2 c26
    exact S_X9_await_29 C M (by omega)  h
set_option maxRecDepth 20000 in
set_option maxHeartbeats 4000000 in
theorem S_X9_await {G : Gp} {X : Xt} {d : Nat}  {x0 : Nat} {x1 : Int} {x2 : Int} {x3 : Int} {Q : Fl → Il → Prop} {S : Shp} {F : Fl} {I : Il} (C : CO G RX9 cX9_await 4 X) (M : MX d none "await" X) (hd : 3 ≤ d)  (h : V_X9_await x0 x1 x2 x3 S F I Q) : J G X (QD X G (qV fun S' F' I' => S = S' ∧ Q F' I') noX) 0 [vr (some x0), vi x1, vi x2, vi x3] [] S F I := by
  unfold V_X9_await at h
  obtain ⟨d, rfl⟩ : ∃ d9, d = d9 + 1 := ⟨d - 1, by omega⟩
  refine J_aload_n C dX9_await_0 rfl rfl ?_
  refine J_aload_n C dX9_await_1 rfl rfl ?_
  refine J_iload_n C dX9_await_2 rfl rfl ?_
  obtain ⟨hK1, h⟩ := h
  refine K_V C M [vi x1] [vr (some x0)] mi_X9_isTrain wg_1510 wg_1512 wg_48 ⟨rfl, by decide⟩ dX9_await_3 hK1 rfl rfl (by decide) (Nat.le_of_ble_eq_true rfl) (c_X9_isTrain (C.2.2.2.2.2.2.2) (by omega) h) (fun v9 S' F' I' hq9 => ?_) K_no rfl
  clear h
  obtain ⟨z2, rfl, rfl, rfl, rfl, h⟩ := hq9
  refine J_if_eq C dX9_await_6 (tgt := 29) rfl (fun c6 => ?_) (fun c6 => ?_)
  · have h := h.1 c6
    exact S_X9_await_29 C M (by omega)  h
  · have h := h.2 c6
    refine J_iload_n C dX9_await_9 rfl rfl ?_
    refine J_iconst C dX9_await_10 (rg_of (by decide)) ?_
    refine J_icmp_eq C dX9_await_11 (tgt := 22) rfl (fun c11 => ?_) (fun c11 => ?_)
    · have h := h.1 c11
      exact S_X9_await_22 C M (by omega)  h
    · have h := h.2 c11
      refine J_aload_n C dX9_await_14 rfl rfl ?_
      refine J_iload_n C dX9_await_15 rfl rfl ?_
      refine K_V C M [vi x2] [vr (some x0)] mi_X9_isTrain wg_1510 wg_1512 wg_48 ⟨rfl, by decide⟩ dX9_await_16 hK1 rfl rfl (by decide) (Nat.le_of_ble_eq_true rfl) (c_X9_isTrain (C.2.2.2.2.2.2.2) (by omega) h) (fun v9 S' F' I' hq9 => ?_) K_no rfl
      clear h
      obtain ⟨z3, rfl, rfl, rfl, rfl, h⟩ := hq9
      refine J_if_eq C dX9_await_19 (tgt := 29) rfl (fun c19 => ?_) (fun c19 => ?_)
      · have h := h.1 c19
        exact S_X9_await_29 C M (by omega)  h
      · have h := h.2 c19
        exact S_X9_await_22 C M (by omega)  h
theorem c_X9_await {l : Launch} {G : Gp} {d : Nat} {x0 : Nat} {x1 : Int} {x2 : Int} {x3 : Int} {S : Shp} {F : Fl} {I : Il} {Q : Fl → Il → Prop} (hl : l.stackTraces = false) (hd : 3 ≤ d) (h : V_X9_await x0 x1 x2 x3 S F I Q) : CM l G d yX9_await (.code yX9_await cX9_await 4 none) [vr (some x0), vi x1, vi x2, vi x3] S F I (qV fun S' F' I' => S = S' ∧ Q F' I') noX :=
  CM_ofM [vr (some x0), vi x1, vi x2, vi x3] hl (by decide +kernel) (kn1 trivial (kn1 trivial (kn1 trivial (kn1 trivial kn0)))) (Nat.le_of_ble_eq_true rfl) rfl (fun X hX C M => S_X9_await C M hd h)
set_option maxRecDepth 20000 in
set_option maxHeartbeats 4000000 in
theorem S_X9_other {G : Gp} {X : Xt} {d : Nat}  {x0 : Nat} {x1 : Int} {x2 : Int} {Q : Int → Prop} {S : Shp} {F : Fl} {I : Il} (C : CO G RX9 cX9_other 3 X) (M : MX d (some .int) "other" X) (hd : 1 ≤ d)  (h : V_X9_other x0 x1 x2 S F I Q) : J G X (QD X G (qI fun z S' F' I' => S = S' ∧ F = F' ∧ I = I' ∧ Q z) noX) 0 [vr (some x0), vi x1, vi x2] [] S F I := by
  unfold V_X9_other at h
  refine J_aload_n C dX9_other_0 rfl rfl ?_
  obtain ⟨hK1, h⟩ := h
  obtain ⟨r2, hr3, h⟩ := h
  refine J_getR C fo_10_7 rfl fl_RX9_17 dX9_other_1 hK1 hr3 ?_
  refine J_iconst C dX9_other_4 (rg_of (by decide)) ?_
  refine J_iload_n C dX9_other_5 rfl rfl ?_
  refine J_imul C dX9_other_6 ?_
  obtain ⟨hK4, h⟩ := h
  obtain ⟨h05, hn6, h⟩ := h
  refine J_iald C dX9_other_7 hK4 h05 hn6 ?_
  refine J_iload_n C dX9_other_8 rfl rfl ?_
  refine J_icmp_ne C dX9_other_9 (tgt := 25) rfl (fun c9 => ?_) (fun c9 => ?_)
  · have h := h.1 c9
    refine J_aload_n C dX9_other_25 rfl rfl ?_
    refine J_getR C fo_10_7 rfl fl_RX9_17 dX9_other_26 hK1 hr3 ?_
    refine J_iconst C dX9_other_29 (rg_of (by decide)) ?_
    refine J_iload_n C dX9_other_30 rfl rfl ?_
    refine J_imul C dX9_other_31 ?_
    refine J_iconst C dX9_other_32 (rg_of (by decide)) ?_
    refine J_iadd C dX9_other_33 ?_
    obtain ⟨h07, hn8, h⟩ := h
    refine J_iald C dX9_other_34 hK4 h07 hn8 ?_
    refine J_iload_n C dX9_other_35 rfl rfl ?_
    refine J_icmp_ne C dX9_other_36 (tgt := 50) rfl (fun c36 => ?_) (fun c36 => ?_)
    · have h := h.1 c36
      refine J_iconst C dX9_other_50 (rg_of (by decide)) ?_
      exact J_iret C dX9_other_51 M.2.2.1 ⟨_, rfl, rfl, rfl, rfl, h⟩
    · have h := h.2 c36
      refine J_aload_n C dX9_other_39 rfl rfl ?_
      refine J_getR C fo_10_7 rfl fl_RX9_17 dX9_other_40 hK1 hr3 ?_
      refine J_iconst C dX9_other_43 (rg_of (by decide)) ?_
      refine J_iload_n C dX9_other_44 rfl rfl ?_
      refine J_imul C dX9_other_45 ?_
      obtain ⟨h09, hn10, h⟩ := h
      refine J_iald C dX9_other_46 hK4 h09 hn10 ?_
      refine J_goto C dX9_other_47 (tgt := 51) rfl ?_
      exact J_iret C dX9_other_51 M.2.2.1 ⟨_, rfl, rfl, rfl, rfl, h⟩
  · have h := h.2 c9
    refine J_aload_n C dX9_other_12 rfl rfl ?_
    refine J_getR C fo_10_7 rfl fl_RX9_17 dX9_other_13 hK1 hr3 ?_
    refine J_iconst C dX9_other_16 (rg_of (by decide)) ?_
    refine J_iload_n C dX9_other_17 rfl rfl ?_
    refine J_imul C dX9_other_18 ?_
    refine J_iconst C dX9_other_19 (rg_of (by decide)) ?_
    refine J_iadd C dX9_other_20 ?_
    obtain ⟨h011, hn12, h⟩ := h
    refine J_iald C dX9_other_21 hK4 h011 hn12 ?_
    refine J_goto C dX9_other_22 (tgt := 51) rfl ?_
    exact J_iret C dX9_other_51 M.2.2.1 ⟨_, rfl, rfl, rfl, rfl, h⟩
theorem c_X9_other {l : Launch} {G : Gp} {d : Nat} {x0 : Nat} {x1 : Int} {x2 : Int} {S : Shp} {F : Fl} {I : Il} {Q : Int → Prop} (hl : l.stackTraces = false) (hd : 1 ≤ d) (h : V_X9_other x0 x1 x2 S F I Q) : CM l G d yX9_other (.code yX9_other cX9_other 3 (some .int)) [vr (some x0), vi x1, vi x2] S F I (qI fun z S' F' I' => S = S' ∧ F = F' ∧ I = I' ∧ Q z) noX :=
  CM_ofM [vr (some x0), vi x1, vi x2] hl (by decide +kernel) (kn1 trivial (kn1 trivial (kn1 trivial kn0))) (Nat.le_of_ble_eq_true rfl) rfl (fun X hX C M => S_X9_other C M hd h)
set_option maxRecDepth 20000 in
set_option maxHeartbeats 4000000 in
theorem S_X9_stands {G : Gp} {X : Xt} {d : Nat}  {x0 : Nat} {x1 : Int} {Q : Int → Prop} {S : Shp} {F : Fl} {I : Il} (C : CO G RX9 cX9_stands 2 X) (M : MX d (some .boolean) "stands" X) (hd : 1 ≤ d)  (h : V_X9_stands x0 x1 S F I Q) : J G X (QD X G (qI fun z S' F' I' => S = S' ∧ F = F' ∧ I = I' ∧ Q z) noX) 0 [vr (some x0), vi x1] [] S F I := by
  unfold V_X9_stands at h
  refine J_aload_n C dX9_stands_0 rfl rfl ?_
  obtain ⟨hK1, h⟩ := h
  obtain ⟨r2, hr3, h⟩ := h
  refine J_getR C fo_10_39 rfl fl_RX9_105 dX9_stands_1 hK1 hr3 ?_
  refine J_iload_n C dX9_stands_4 rfl rfl ?_
  obtain ⟨hK4, h⟩ := h
  obtain ⟨h05, hn6, h⟩ := h
  refine J_iald C dX9_stands_5 hK4 h05 hn6 ?_
  refine J_if_eq C dX9_stands_6 (tgt := 19) rfl (fun c6 => ?_) (fun c6 => ?_)
  · have h := h.1 c6
    refine J_iconst C dX9_stands_19 (rg_of (by decide)) ?_
    refine J_goto C dX9_stands_20 (tgt := 24) rfl ?_
    exact J_zret C dX9_stands_24 M.2.2.1 (by decide) ⟨_, rfl, rfl, rfl, rfl, h⟩
  · have h := h.2 c6
    refine J_aload_n C dX9_stands_9 rfl rfl ?_
    refine J_getR C fo_10_39 rfl fl_RX9_105 dX9_stands_10 hK1 hr3 ?_
    refine J_iload_n C dX9_stands_13 rfl rfl ?_
    obtain ⟨h07, hn8, h⟩ := h
    refine J_iald C dX9_stands_14 hK4 h07 hn8 ?_
    refine J_iconst C dX9_stands_15 (rg_of (by decide)) ?_
    refine J_icmp_ne C dX9_stands_16 (tgt := 23) rfl (fun c16 => ?_) (fun c16 => ?_)
    · have h := h.1 c16
      refine J_iconst C dX9_stands_23 (rg_of (by decide)) ?_
      exact J_zret C dX9_stands_24 M.2.2.1 (by decide) ⟨_, rfl, rfl, rfl, rfl, h⟩
    · have h := h.2 c16
      refine J_iconst C dX9_stands_19 (rg_of (by decide)) ?_
      refine J_goto C dX9_stands_20 (tgt := 24) rfl ?_
      exact J_zret C dX9_stands_24 M.2.2.1 (by decide) ⟨_, rfl, rfl, rfl, rfl, h⟩
theorem c_X9_stands {l : Launch} {G : Gp} {d : Nat} {x0 : Nat} {x1 : Int} {S : Shp} {F : Fl} {I : Il} {Q : Int → Prop} (hl : l.stackTraces = false) (hd : 1 ≤ d) (h : V_X9_stands x0 x1 S F I Q) : CM l G d yX9_stands (.code yX9_stands cX9_stands 2 (some .boolean)) [vr (some x0), vi x1] S F I (qI fun z S' F' I' => S = S' ∧ F = F' ∧ I = I' ∧ Q z) noX :=
  CM_ofM [vr (some x0), vi x1] hl (by decide +kernel) (kn1 trivial (kn1 trivial kn0)) (Nat.le_of_ble_eq_true rfl) rfl (fun X hX C M => S_X9_stands C M hd h)
set_option maxRecDepth 20000 in
set_option maxHeartbeats 4000000 in
theorem S_X9_isClosed {G : Gp} {X : Xt} {d : Nat}  {x0 : Nat} {x1 : Int} {Q : Int → Prop} {S : Shp} {F : Fl} {I : Il} (C : CO G RX9 cX9_isClosed 2 X) (M : MX d (some .boolean) "isClosed" X) (hd : 1 ≤ d)  (h : V_X9_isClosed x0 x1 S F I Q) : J G X (QD X G (qI fun z S' F' I' => S = S' ∧ F = F' ∧ I = I' ∧ Q z) noX) 0 [vr (some x0), vi x1] [] S F I := by
  unfold V_X9_isClosed at h
  refine J_aload_n C dX9_isClosed_0 rfl rfl ?_
  obtain ⟨hK1, h⟩ := h
  obtain ⟨r2, hr3, h⟩ := h
  refine J_getR C fo_10_12 rfl fl_RX9_32 dX9_isClosed_1 hK1 hr3 ?_
  refine J_iload_n C dX9_isClosed_4 rfl rfl ?_
  obtain ⟨hK4, h⟩ := h
  obtain ⟨h05, hn6, h⟩ := h
  refine J_zald C dX9_isClosed_5 hK4 h05 hn6 ?_
  refine J_if_ne C dX9_isClosed_6 (tgt := 22) rfl (fun c6 => ?_) (fun c6 => ?_)
  · have h := h.1 c6
    refine J_iconst C dX9_isClosed_22 (rg_of (by decide)) ?_
    refine J_goto C dX9_isClosed_23 (tgt := 27) rfl ?_
    exact J_zret C dX9_isClosed_27 M.2.2.1 (by decide) ⟨_, rfl, rfl, rfl, rfl, h⟩
  · have h := h.2 c6
    refine J_aload_n C dX9_isClosed_9 rfl rfl ?_
    obtain ⟨r7, hr8, h⟩ := h
    refine J_getR C fo_10_11 rfl fl_RX9_29 dX9_isClosed_10 hK1 hr8 ?_
    refine J_iload_n C dX9_isClosed_13 rfl rfl ?_
    obtain ⟨hK9, h⟩ := h
    obtain ⟨h010, hn11, h⟩ := h
    refine J_iald C dX9_isClosed_14 hK9 h010 hn11 ?_
    refine J_aload_n C dX9_isClosed_15 rfl rfl ?_
    refine J_getI C fo_10_1 rfl fl_RX9_187 dX9_isClosed_16 hK1 ?_
    refine J_icmp_le C dX9_isClosed_19 (tgt := 26) rfl (fun c19 => ?_) (fun c19 => ?_)
    · have h := h.1 c19
      refine J_iconst C dX9_isClosed_26 (rg_of (by decide)) ?_
      exact J_zret C dX9_isClosed_27 M.2.2.1 (by decide) ⟨_, rfl, rfl, rfl, rfl, h⟩
    · have h := h.2 c19
      refine J_iconst C dX9_isClosed_22 (rg_of (by decide)) ?_
      refine J_goto C dX9_isClosed_23 (tgt := 27) rfl ?_
      exact J_zret C dX9_isClosed_27 M.2.2.1 (by decide) ⟨_, rfl, rfl, rfl, rfl, h⟩
theorem c_X9_isClosed {l : Launch} {G : Gp} {d : Nat} {x0 : Nat} {x1 : Int} {S : Shp} {F : Fl} {I : Il} {Q : Int → Prop} (hl : l.stackTraces = false) (hd : 1 ≤ d) (h : V_X9_isClosed x0 x1 S F I Q) : CM l G d yX9_isClosed (.code yX9_isClosed cX9_isClosed 2 (some .boolean)) [vr (some x0), vi x1] S F I (qI fun z S' F' I' => S = S' ∧ F = F' ∧ I = I' ∧ Q z) noX :=
  CM_ofM [vr (some x0), vi x1] hl (by decide +kernel) (kn1 trivial (kn1 trivial kn0)) (Nat.le_of_ble_eq_true rfl) rfl (fun X hX C M => S_X9_isClosed C M hd h)
set_option maxRecDepth 20000 in
set_option maxHeartbeats 4000000 in
theorem S_X9_weight_43 {G : Gp} {X : Xt} {d : Nat} {k7 : Nat → Int → Int → Int → Prop} {x0 : Nat} {x1 : Int} {x3 : Int} {s0 : Int} {s1 : Int} {Q : Int → Prop} {S : Shp} {F : Fl} {I : Il} (C : CO G RX9 cX9_weight 4 X) (M : MX d (some .int) "weight" X) (hd : 1 ≤ d) (hk7 : ∀ (x0 : Nat) (x1 : Int) (x2 : Int) (x3 : Int), k7 x0 x1 x2 x3 → J G X (QD X G (qI fun z S' F' I' => S = S' ∧ F = F' ∧ I = I' ∧ Q z) noX) 7 [vr (some x0), vi x1, vi x2, vi x3] [] S F I) (h : V_X9_weight_43 k7 x0 x1 x3 s0 s1 S F I Q) : J G X (QD X G (qI fun z S' F' I' => S = S' ∧ F = F' ∧ I = I' ∧ Q z) noX) 43 [vr (some x0), vi x1, vl 0, vi x3] [vi s0, vi s1] S F I := by
  unfold V_X9_weight_43 at h
  refine J_iadd C dX9_weight_43 ?_
  refine K_istore_n C [vr (some x0), vi x1, vi (w32 (s1 + s0)), vi x3] dX9_weight_44 rfl (Nat.le_of_ble_eq_true rfl) rfl ?_
  refine K_iinc C [vr (some x0), vi x1, vi (w32 (s1 + s0)), vi (w32 (x3 + 1))] dX9_weight_45 rfl rfl ?_
  refine J_goto C dX9_weight_48 (tgt := 7) rfl ?_
  exact hk7 x0 x1 (w32 (s1 + s0)) (w32 (x3 + 1)) h
set_option maxRecDepth 20000 in
set_option maxHeartbeats 4000000 in
theorem S_X9_weight_7 {G : Gp} {X : Xt} {d : Nat}  {S : Shp} {F : Fl} {I : Il} {Q : Int → Prop} (C : CO G RX9 cX9_weight 4 X) (M : MX d (some .int) "weight" X) (hd : 1 ≤ d) (n9 : Nat)  : ∀ (x0 : Nat) (x1 : Int) (x2 : Int) (x3 : Int) , V_X9_weight_7 n9 x0 x1 x2 x3 S F I Q → J G X (QD X G (qI fun z S' F' I' => S = S' ∧ F = F' ∧ I = I' ∧ Q z) noX) 7 [vr (some x0), vi x1, vi x2, vi x3] [] S F I := by
  induction n9 with
  | zero => intro x0 x1 x2 x3 h; exact h.elim
  | succ n ih =>
    intro x0 x1 x2 x3 h
    unfold V_X9_weight_7 at h
    refine J_iload_n C dX9_weight_7 rfl rfl ?_
    refine J_bipush C dX9_weight_8 (by decide +kernel) (rg_of (by decide)) ?_
    refine J_iload_n C dX9_weight_10 rfl rfl ?_
    refine J_imul C dX9_weight_11 ?_
    refine J_aload_n C dX9_weight_12 rfl rfl ?_
    obtain ⟨hK1, h⟩ := h
    obtain ⟨r2, hr3, h⟩ := h
    refine J_getR C fo_10_44 rfl fl_RX9_120 dX9_weight_13 hK1 hr3 ?_
    refine J_iload_n C dX9_weight_16 rfl rfl ?_
    obtain ⟨hK4, h⟩ := h
    obtain ⟨h05, hn6, h⟩ := h
    refine J_iald C dX9_weight_17 hK4 h05 hn6 ?_
    refine J_iadd C dX9_weight_18 ?_
    refine J_icmp_ge C dX9_weight_19 (tgt := 51) rfl (fun c19 => ?_) (fun c19 => ?_)
    · have h := h.1 c19
      refine J_iload_n C dX9_weight_51 rfl rfl ?_
      exact J_iret C dX9_weight_52 M.2.2.1 ⟨_, rfl, rfl, rfl, rfl, h⟩
    · have h := h.2 c19
      refine J_iload_n C dX9_weight_22 rfl rfl ?_
      refine J_aload_n C dX9_weight_23 rfl rfl ?_
      obtain ⟨r7, hr8, h⟩ := h
      refine J_getR C fo_10_33 rfl fl_RX9_87 dX9_weight_24 hK1 hr8 ?_
      refine J_aload_n C dX9_weight_27 rfl rfl ?_
      obtain ⟨r9, hr10, h⟩ := h
      refine J_getR C fo_10_43 rfl fl_RX9_117 dX9_weight_28 hK1 hr10 ?_
      refine J_iload_n C dX9_weight_31 rfl rfl ?_
      obtain ⟨hK11, h⟩ := h
      obtain ⟨h012, hn13, h⟩ := h
      refine J_iald C dX9_weight_32 hK11 h012 hn13 ?_
      obtain ⟨hK14, h⟩ := h
      obtain ⟨h015, hn16, h⟩ := h
      refine J_iald C dX9_weight_33 hK14 h015 hn16 ?_
      refine J_iconst C dX9_weight_34 (rg_of (by decide)) ?_
      refine J_icmp_ne C dX9_weight_35 (tgt := 42) rfl (fun c35 => ?_) (fun c35 => ?_)
      · have h := h.1 c35
        refine J_iconst C dX9_weight_42 (rg_of (by decide)) ?_
        refine J_less [vr (some x0), vi x1, vl 0, vi x3] (by unfold lessL; simp [lessL]) ?_
        exact S_X9_weight_43 C M (by omega) (fun y0 y1 y2 y3 h9 => ih y0 y1 y2 y3 h9) h
      · have h := h.2 c35
        refine J_iconst C dX9_weight_38 (rg_of (by decide)) ?_
        refine J_goto C dX9_weight_39 (tgt := 43) rfl ?_
        refine J_less [vr (some x0), vi x1, vl 0, vi x3] (by unfold lessL; simp [lessL]) ?_
        exact S_X9_weight_43 C M (by omega) (fun y0 y1 y2 y3 h9 => ih y0 y1 y2 y3 h9) h
set_option maxRecDepth 20000 in
set_option maxHeartbeats 4000000 in
theorem S_X9_weight {G : Gp} {X : Xt} {d : Nat}  {x0 : Nat} {x1 : Int} {Q : Int → Prop} {S : Shp} {F : Fl} {I : Il} (C : CO G RX9 cX9_weight 4 X) (M : MX d (some .int) "weight" X) (hd : 1 ≤ d)  (h : V_X9_weight x0 x1 S F I Q) : J G X (QD X G (qI fun z S' F' I' => S = S' ∧ F = F' ∧ I = I' ∧ Q z) noX) 0 [vr (some x0), vi x1, vl 0, vl 0] [] S F I := by
  unfold V_X9_weight at h
  refine J_iconst C dX9_weight_0 (rg_of (by decide)) ?_
  refine K_istore_n C [vr (some x0), vi x1, vi 0, vl 0] dX9_weight_1 rfl (Nat.le_of_ble_eq_true rfl) rfl ?_
  refine J_bipush C dX9_weight_2 (by decide +kernel) (rg_of (by decide)) ?_
  refine J_iload_n C dX9_weight_4 rfl rfl ?_
  refine J_imul C dX9_weight_5 ?_
  refine K_istore_n C [vr (some x0), vi x1, vi 0, vi (w32 (10 * x1))] dX9_weight_6 rfl (Nat.le_of_ble_eq_true rfl) rfl ?_
  obtain ⟨n9, h⟩ := h
  exact S_X9_weight_7 C M (by omega) n9  _ _ _ _ h
theorem c_X9_weight {l : Launch} {G : Gp} {d : Nat} {x0 : Nat} {x1 : Int} {S : Shp} {F : Fl} {I : Il} {Q : Int → Prop} (hl : l.stackTraces = false) (hd : 1 ≤ d) (h : V_X9_weight x0 x1 S F I Q) : CM l G d yX9_weight (.code yX9_weight cX9_weight 4 (some .int)) [vr (some x0), vi x1] S F I (qI fun z S' F' I' => S = S' ∧ F = F' ∧ I = I' ∧ Q z) noX :=
  CM_ofM [vr (some x0), vi x1, vl 0, vl 0] hl (by decide +kernel) (kn1 trivial (kn1 trivial kn0)) (Nat.le_of_ble_eq_true rfl) rfl (fun X hX C M => S_X9_weight C M hd h)
set_option maxRecDepth 20000 in
set_option maxHeartbeats 4000000 in
theorem S_X9_runs_55 {G : Gp} {X : Xt} {d : Nat}  {x0 : Nat} {x2 : Int} {s0 : Int} {s1 : Int} {Q : Int → Prop} {S : Shp} {F : Fl} {I : Il} (C : CO G RX9 cX9_runs 4 X) (M : MX d (some .int) "runs" X) (hd : 2 ≤ d)  (h : V_X9_runs_55 x0 x2 s0 s1 S F I Q) : J G X (QD X G (qI fun z S' F' I' => S = S' ∧ F = F' ∧ I = I' ∧ Q z) noX) 55 [vr (some x0), vl 0, vi x2, vl 0] [vi s0, vi s1] S F I := by
  unfold V_X9_runs_55 at h
  refine J_iadd C dX9_runs_55 ?_
  refine K_istore_n C [vr (some x0), vl 0, vi x2, vi (w32 (s1 + s0))] dX9_runs_56 rfl (Nat.le_of_ble_eq_true rfl) rfl ?_
  refine J_aload_n C dX9_runs_57 rfl rfl ?_
  obtain ⟨hK1, h⟩ := h
  obtain ⟨r2, hr3, h⟩ := h
  refine J_getR C fo_10_13 rfl fl_RX9_36 dX9_runs_58 hK1 hr3 ?_
  refine J_iload_n C dX9_runs_61 rfl rfl ?_
  obtain ⟨hK4, h⟩ := h
  obtain ⟨h05, hn6, h⟩ := h
  refine J_zald C dX9_runs_62 hK4 h05 hn6 ?_
  refine J_if_eq C dX9_runs_63 (tgt := 72) rfl (fun c63 => ?_) (fun c63 => ?_)
  · have h := h.1 c63
    refine J_iload_n C dX9_runs_72 rfl rfl ?_
    exact J_iret C dX9_runs_73 M.2.2.1 ⟨_, rfl, rfl, rfl, rfl, h⟩
  · have h := h.2 c63
    refine J_iconst C dX9_runs_66 (rg_of (by decide)) ?_
    refine J_iload_n C dX9_runs_67 rfl rfl ?_
    refine J_imul C dX9_runs_68 ?_
    refine J_goto C dX9_runs_69 (tgt := 73) rfl ?_
    exact J_iret C dX9_runs_73 M.2.2.1 ⟨_, rfl, rfl, rfl, rfl, h⟩
set_option maxRecDepth 20000 in
set_option maxHeartbeats 4000000 in
theorem S_X9_runs {G : Gp} {X : Xt} {d : Nat}  {x0 : Nat} {x1 : Int} {x2 : Int} {Q : Int → Prop} {S : Shp} {F : Fl} {I : Il} (C : CO G RX9 cX9_runs 4 X) (M : MX d (some .int) "runs" X) (hd : 2 ≤ d)  (h : V_X9_runs x0 x1 x2 S F I Q) : J G X (QD X G (qI fun z S' F' I' => S = S' ∧ F = F' ∧ I = I' ∧ Q z) noX) 0 [vr (some x0), vi x1, vi x2, vl 0] [] S F I := by
  unfold V_X9_runs at h
  obtain ⟨d, rfl⟩ : ∃ d9, d = d9 + 1 := ⟨d - 1, by omega⟩
  refine J_aload_n C dX9_runs_0 rfl rfl ?_
  obtain ⟨hK1, h⟩ := h
  obtain ⟨r2, hr3, h⟩ := h
  refine J_getR C fo_10_8 rfl fl_RX9_20 dX9_runs_1 hK1 hr3 ?_
  refine J_iload_n C dX9_runs_4 rfl rfl ?_
  obtain ⟨hK4, h⟩ := h
  obtain ⟨h05, hn6, h⟩ := h
  refine J_iald C dX9_runs_5 hK4 h05 hn6 ?_
  refine J_aload_n C dX9_runs_6 rfl rfl ?_
  refine J_getR C fo_10_8 rfl fl_RX9_20 dX9_runs_7 hK1 hr3 ?_
  refine J_iload_n C dX9_runs_10 rfl rfl ?_
  obtain ⟨h07, hn8, h⟩ := h
  refine J_iald C dX9_runs_11 hK4 h07 hn8 ?_
  refine J_aload_n C dX9_runs_12 rfl rfl ?_
  refine J_iload_n C dX9_runs_13 rfl rfl ?_
  refine K_V C M [vi x1] [vi (I r2 x2), vi (I r2 x2)] mi_X9_weight wg_1586 wg_1588 wg_61 ⟨rfl, by decide⟩ dX9_runs_14 hK1 rfl rfl (by decide) (Nat.le_of_ble_eq_true rfl) (c_X9_weight (C.2.2.2.2.2.2.2) (by omega) h) (fun v9 S' F' I' hq9 => ?_) K_no rfl
  clear h
  obtain ⟨z9, rfl, rfl, rfl, rfl, h⟩ := hq9
  refine J_imul C dX9_runs_17 ?_
  refine J_bipush C dX9_runs_18 (by decide +kernel) (rg_of (by decide)) ?_
  refine J_aload_n C dX9_runs_20 rfl rfl ?_
  obtain ⟨r10, hr11, h⟩ := h
  refine J_getR C fo_10_20 rfl fl_RX9_54 dX9_runs_21 hK1 hr11 ?_
  refine J_aload_n C dX9_runs_24 rfl rfl ?_
  obtain ⟨r12, hr13, h⟩ := h
  refine J_getR C fo_10_37 rfl fl_RX9_99 dX9_runs_25 hK1 hr13 ?_
  refine J_iload_n C dX9_runs_28 rfl rfl ?_
  obtain ⟨hK14, h⟩ := h
  obtain ⟨h015, hn16, h⟩ := h
  refine J_iald C dX9_runs_29 hK14 h015 hn16 ?_
  obtain ⟨hK17, h⟩ := h
  obtain ⟨h018, hn19, h⟩ := h
  refine J_iald C dX9_runs_30 hK17 h018 hn19 ?_
  refine J_imul C dX9_runs_31 ?_
  obtain ⟨hz20, h⟩ := h
  refine J_idiv C dX9_runs_32 hz20 ?_
  refine J_iadd C dX9_runs_33 ?_
  refine J_aload_n C dX9_runs_34 rfl rfl ?_
  obtain ⟨r21, hr22, h⟩ := h
  refine J_getR C fo_10_10 rfl fl_RX9_26 dX9_runs_35 hK1 hr22 ?_
  refine J_iload_n C dX9_runs_38 rfl rfl ?_
  obtain ⟨hK23, h⟩ := h
  obtain ⟨h024, hn25, h⟩ := h
  refine J_iald C dX9_runs_39 hK23 h024 hn25 ?_
  refine J_bipush C dX9_runs_40 (by decide +kernel) (rg_of (by decide)) ?_
  refine J_icmp_lt C dX9_runs_42 (tgt := 54) rfl (fun c42 => ?_) (fun c42 => ?_)
  · have h := h.1 c42
    refine J_iconst C dX9_runs_54 (rg_of (by decide)) ?_
    refine J_less [vr (some x0), vl 0, vi x2, vl 0] (by unfold lessL; simp [lessL]) ?_
    exact S_X9_runs_55 C M (by omega)  h
  · have h := h.2 c42
    refine J_aload_n C dX9_runs_45 rfl rfl ?_
    refine J_getR C fo_10_8 rfl fl_RX9_20 dX9_runs_46 hK1 hr3 ?_
    refine J_iload_n C dX9_runs_49 rfl rfl ?_
    obtain ⟨h026, hn27, h⟩ := h
    refine J_iald C dX9_runs_50 hK4 h026 hn27 ?_
    refine J_goto C dX9_runs_51 (tgt := 55) rfl ?_
    refine J_less [vr (some x0), vl 0, vi x2, vl 0] (by unfold lessL; simp [lessL]) ?_
    exact S_X9_runs_55 C M (by omega)  h
theorem c_X9_runs {l : Launch} {G : Gp} {d : Nat} {x0 : Nat} {x1 : Int} {x2 : Int} {S : Shp} {F : Fl} {I : Il} {Q : Int → Prop} (hl : l.stackTraces = false) (hd : 2 ≤ d) (h : V_X9_runs x0 x1 x2 S F I Q) : CM l G d yX9_runs (.code yX9_runs cX9_runs 4 (some .int)) [vr (some x0), vi x1, vi x2] S F I (qI fun z S' F' I' => S = S' ∧ F = F' ∧ I = I' ∧ Q z) noX :=
  CM_ofM [vr (some x0), vi x1, vi x2, vl 0] hl (by decide +kernel) (kn1 trivial (kn1 trivial (kn1 trivial kn0))) (Nat.le_of_ble_eq_true rfl) rfl (fun X hX C M => S_X9_runs C M hd h)
set_option maxRecDepth 20000 in
set_option maxHeartbeats 4000000 in
theorem S_X9_clears {G : Gp} {X : Xt} {d : Nat}  {x0 : Nat} {x1 : Int} {x2 : Int} {Q : Int → Prop} {S : Shp} {F : Fl} {I : Il} (C : CO G RX9 cX9_clears 3 X) (M : MX d (some .int) "clears" X) (hd : 3 ≤ d)  (h : V_X9_clears x0 x1 x2 S F I Q) : J G X (QD X G (qI fun z S' F' I' => S = S' ∧ F = F' ∧ I = I' ∧ Q z) noX) 0 [vr (some x0), vi x1, vi x2] [] S F I := by
  unfold V_X9_clears at h
  obtain ⟨d, rfl⟩ : ∃ d9, d = d9 + 1 := ⟨d - 1, by omega⟩
  refine J_aload_n C dX9_clears_0 rfl rfl ?_
  obtain ⟨hK1, h⟩ := h
  refine J_getI C fo_10_1 rfl fl_RX9_187 dX9_clears_1 hK1 ?_
  refine J_aload_n C dX9_clears_4 rfl rfl ?_
  refine J_iload_n C dX9_clears_5 rfl rfl ?_
  refine J_iload_n C dX9_clears_6 rfl rfl ?_
  refine K_V C M [vi x1, vi x2] [vi (F 1001 x0)] mi_X9_runs wg_1582 wg_1584 wg_60 ⟨rfl, by decide⟩ dX9_clears_7 hK1 rfl rfl (by decide) (Nat.le_of_ble_eq_true rfl) (c_X9_runs (C.2.2.2.2.2.2.2) (by omega) h) (fun v9 S' F' I' hq9 => ?_) K_no rfl
  clear h
  obtain ⟨z2, rfl, rfl, rfl, rfl, h⟩ := hq9
  refine J_iadd C dX9_clears_10 ?_
  refine J_iconst C dX9_clears_11 (rg_of (by decide)) ?_
  refine J_iadd C dX9_clears_12 ?_
  refine J_aload_n C dX9_clears_13 rfl rfl ?_
  obtain ⟨r3, hr4, h⟩ := h
  refine J_getR C fo_10_44 rfl fl_RX9_120 dX9_clears_14 hK1 hr4 ?_
  refine J_iload_n C dX9_clears_17 rfl rfl ?_
  obtain ⟨hK5, h⟩ := h
  obtain ⟨h06, hn7, h⟩ := h
  refine J_iald C dX9_clears_18 hK5 h06 hn7 ?_
  refine J_iconst C dX9_clears_19 (rg_of (by decide)) ?_
  refine J_idiv C dX9_clears_20 (by decide) ?_
  refine J_iadd C dX9_clears_21 ?_
  exact J_iret C dX9_clears_22 M.2.2.1 ⟨_, rfl, rfl, rfl, rfl, h⟩
theorem c_X9_clears {l : Launch} {G : Gp} {d : Nat} {x0 : Nat} {x1 : Int} {x2 : Int} {S : Shp} {F : Fl} {I : Il} {Q : Int → Prop} (hl : l.stackTraces = false) (hd : 3 ≤ d) (h : V_X9_clears x0 x1 x2 S F I Q) : CM l G d yX9_clears (.code yX9_clears cX9_clears 3 (some .int)) [vr (some x0), vi x1, vi x2] S F I (qI fun z S' F' I' => S = S' ∧ F = F' ∧ I = I' ∧ Q z) noX :=
  CM_ofM [vr (some x0), vi x1, vi x2] hl (by decide +kernel) (kn1 trivial (kn1 trivial (kn1 trivial kn0))) (Nat.le_of_ble_eq_true rfl) rfl (fun X hX C M => S_X9_clears C M hd h)
set_option maxRecDepth 20000 in
set_option maxHeartbeats 4000000 in
theorem S_X9_isOthers_54 {G : Gp} {X : Xt} {d : Nat} {k8 : Nat → Int → Int → Int → Int → Prop} {x0 : Nat} {x1 : Int} {x2 : Int} {x4 : Int} {s0 : Int} {Q : Int → Prop} {S : Shp} {F : Fl} {I : Il} (C : CO G RX9 cX9_isOthers 5 X) (M : MX d (some .boolean) "isOthers" X) (hd : 4 ≤ d) (hk8 : ∀ (x0 : Nat) (x1 : Int) (x2 : Int) (x3 : Int) (x4 : Int), k8 x0 x1 x2 x3 x4 → J G X (QD X G (qI fun z S' F' I' => S = S' ∧ F = F' ∧ I = I' ∧ Q z) noX) 8 [vr (some x0), vi x1, vi x2, vi x3, vi x4] [] S F I) (h : V_X9_isOthers_54 k8 x0 x1 x2 x4 s0 S F I Q) : J G X (QD X G (qI fun z S' F' I' => S = S' ∧ F = F' ∧ I = I' ∧ Q z) noX) 54 [vr (some x0), vi x1, vi x2, vl 0, vi x4] [vi s0] S F I := by
  unfold V_X9_isOthers_54 at h
  refine K_istore_n C [vr (some x0), vi x1, vi x2, vi s0, vi x4] dX9_isOthers_54 rfl (Nat.le_of_ble_eq_true rfl) rfl ?_
  refine K_iinc C [vr (some x0), vi x1, vi x2, vi s0, vi (w32 (x4 + 1))] dX9_isOthers_55 rfl rfl ?_
  refine J_goto C dX9_isOthers_58 (tgt := 8) rfl ?_
  exact hk8 x0 x1 x2 s0 (w32 (x4 + 1)) h
set_option maxRecDepth 20000 in
set_option maxHeartbeats 4000000 in
theorem S_X9_isOthers_49 {G : Gp} {X : Xt} {d : Nat} {k8 : Nat → Int → Int → Int → Int → Prop} {x0 : Nat} {x1 : Int} {x2 : Int} {x4 : Int} {Q : Int → Prop} {S : Shp} {F : Fl} {I : Il} (C : CO G RX9 cX9_isOthers 5 X) (M : MX d (some .boolean) "isOthers" X) (hd : 4 ≤ d) (hk8 : ∀ (x0 : Nat) (x1 : Int) (x2 : Int) (x3 : Int) (x4 : Int), k8 x0 x1 x2 x3 x4 → J G X (QD X G (qI fun z S' F' I' => S = S' ∧ F = F' ∧ I = I' ∧ Q z) noX) 8 [vr (some x0), vi x1, vi x2, vi x3, vi x4] [] S F I) (h : V_X9_isOthers_49 k8 x0 x1 x2 x4 S F I Q) : J G X (QD X G (qI fun z S' F' I' => S = S' ∧ F = F' ∧ I = I' ∧ Q z) noX) 49 [vr (some x0), vi x1, vi x2, vl 0, vi x4] [] S F I := by
  unfold V_X9_isOthers_49 at h
  refine J_iconst C dX9_isOthers_49 (rg_of (by decide)) ?_
  refine J_goto C dX9_isOthers_50 (tgt := 54) rfl ?_
  exact S_X9_isOthers_54 C M (by omega) hk8 h
set_option maxRecDepth 20000 in
set_option maxHeartbeats 4000000 in
theorem S_X9_isOthers_8 {G : Gp} {X : Xt} {d : Nat}  {S : Shp} {F : Fl} {I : Il} {Q : Int → Prop} (C : CO G RX9 cX9_isOthers 5 X) (M : MX d (some .boolean) "isOthers" X) (hd : 4 ≤ d) (n9 : Nat)  : ∀ (x0 : Nat) (x1 : Int) (x2 : Int) (x3 : Int) (x4 : Int) , V_X9_isOthers_8 n9 x0 x1 x2 x3 x4 S F I Q → J G X (QD X G (qI fun z S' F' I' => S = S' ∧ F = F' ∧ I = I' ∧ Q z) noX) 8 [vr (some x0), vi x1, vi x2, vi x3, vi x4] [] S F I := by
  obtain ⟨d, rfl⟩ : ∃ d9, d = d9 + 1 := ⟨d - 1, by omega⟩
  induction n9 with
  | zero => intro x0 x1 x2 x3 x4 h; exact h.elim
  | succ n ih =>
    intro x0 x1 x2 x3 x4 h
    unfold V_X9_isOthers_8 at h
    refine J_iload C dX9_isOthers_8 rfl ?_
    refine J_aload_n C dX9_isOthers_10 rfl rfl ?_
    refine J_iload_n C dX9_isOthers_11 rfl rfl ?_
    refine J_iload_n C dX9_isOthers_12 rfl rfl ?_
    obtain ⟨hK1, h⟩ := h
    refine K_V C M [vi x1, vi x2] [vi x4] mi_X9_clears wg_1578 wg_1580 wg_59 ⟨rfl, by decide⟩ dX9_isOthers_13 hK1 rfl rfl (by decide) (Nat.le_of_ble_eq_true rfl) (c_X9_clears (C.2.2.2.2.2.2.2) (by omega) h) (fun v9 S' F' I' hq9 => ?_) K_no rfl
    clear h
    obtain ⟨z2, rfl, rfl, rfl, rfl, h⟩ := hq9
    refine J_icmp_ge C dX9_isOthers_16 (tgt := 61) rfl (fun c16 => ?_) (fun c16 => ?_)
    · have h := h.1 c16
      refine J_iload_n C dX9_isOthers_61 rfl rfl ?_
      obtain ⟨hb, h⟩ := h
      exact J_zret C dX9_isOthers_62 M.2.2.1 hb ⟨_, rfl, rfl, rfl, rfl, h⟩
    · have h := h.2 c16
      refine J_iload_n C dX9_isOthers_19 rfl rfl ?_
      refine J_if_ne C dX9_isOthers_20 (tgt := 49) rfl (fun c20 => ?_) (fun c20 => ?_)
      · have h := h.1 c20
        refine J_less [vr (some x0), vi x1, vi x2, vl 0, vi x4] (by unfold lessL; simp [lessL]) ?_
        exact S_X9_isOthers_49 C M (by omega) (fun y0 y1 y2 y3 y4 h9 => ih y0 y1 y2 y3 y4 h9) h
      · have h := h.2 c20
        refine J_iload C dX9_isOthers_23 rfl ?_
        refine J_sipush C dX9_isOthers_25 (by decide +kernel) (rg_of (by decide)) ?_
        refine J_irem C dX9_isOthers_28 (by decide) ?_
        refine J_aload_n C dX9_isOthers_29 rfl rfl ?_
        obtain ⟨r3, hr4, h⟩ := h
        refine J_getR C fo_10_15 rfl fl_RX9_42 dX9_isOthers_30 hK1 hr4 ?_
        refine J_iload_n C dX9_isOthers_33 rfl rfl ?_
        obtain ⟨hK5, h⟩ := h
        obtain ⟨h06, hn7, h⟩ := h
        refine J_iald C dX9_isOthers_34 hK5 h06 hn7 ?_
        refine J_aload_n C dX9_isOthers_35 rfl rfl ?_
        obtain ⟨r8, hr9, h⟩ := h
        refine J_getR C fo_10_16 rfl fl_RX9_45 dX9_isOthers_36 hK1 hr9 ?_
        refine J_iload_n C dX9_isOthers_39 rfl rfl ?_
        obtain ⟨hK10, h⟩ := h
        obtain ⟨h011, hn12, h⟩ := h
        refine J_iald C dX9_isOthers_40 hK10 h011 hn12 ?_
        refine J_iconst C dX9_isOthers_41 (rg_of (by decide)) ?_
        refine J_isub C dX9_isOthers_42 ?_
        refine K_S C M [vi (w32 (Int.tmod x4 1440)), vi (I r3 x2), vi (w32 ((I r8 x2) - 1))] [] mi_X9_in wg_1414 wg_1415 dX9_isOthers_43 rfl rfl (by decide) (Nat.le_of_ble_eq_true rfl) (c_X9_in (C.2.2.2.2.2.2.2) (by omega) h) (fun v9 S' F' I' hq9 => ?_) K_no rfl
        clear h
        obtain ⟨z13, rfl, rfl, rfl, rfl, h⟩ := hq9
        refine J_if_eq C dX9_isOthers_46 (tgt := 53) rfl (fun c46 => ?_) (fun c46 => ?_)
        · have h := h.1 c46
          refine J_iconst C dX9_isOthers_53 (rg_of (by decide)) ?_
          refine J_less [vr (some x0), vi x1, vi x2, vl 0, vi x4] (by unfold lessL; simp [lessL]) ?_
          exact S_X9_isOthers_54 C M (by omega) (fun y0 y1 y2 y3 y4 h9 => ih y0 y1 y2 y3 y4 h9) h
        · have h := h.2 c46
          refine J_less [vr (some x0), vi x1, vi x2, vl 0, vi x4] (by unfold lessL; simp [lessL]) ?_
          exact S_X9_isOthers_49 C M (by omega) (fun y0 y1 y2 y3 y4 h9 => ih y0 y1 y2 y3 y4 h9) h
set_option maxRecDepth 20000 in
set_option maxHeartbeats 4000000 in
theorem S_X9_isOthers {G : Gp} {X : Xt} {d : Nat}  {x0 : Nat} {x1 : Int} {x2 : Int} {Q : Int → Prop} {S : Shp} {F : Fl} {I : Il} (C : CO G RX9 cX9_isOthers 5 X) (M : MX d (some .boolean) "isOthers" X) (hd : 4 ≤ d)  (h : V_X9_isOthers x0 x1 x2 S F I Q) : J G X (QD X G (qI fun z S' F' I' => S = S' ∧ F = F' ∧ I = I' ∧ Q z) noX) 0 [vr (some x0), vi x1, vi x2, vl 0, vl 0] [] S F I := by
  unfold V_X9_isOthers at h
  refine J_iconst C dX9_isOthers_0 (rg_of (by decide)) ?_
  refine K_istore_n C [vr (some x0), vi x1, vi x2, vi 0, vl 0] dX9_isOthers_1 rfl (Nat.le_of_ble_eq_true rfl) rfl ?_
  refine J_aload_n C dX9_isOthers_2 rfl rfl ?_
  obtain ⟨hK1, h⟩ := h
  refine J_getI C fo_10_1 rfl fl_RX9_187 dX9_isOthers_3 hK1 ?_
  refine K_istore C [vr (some x0), vi x1, vi x2, vi 0, vi (F 1001 x0)] dX9_isOthers_6 (Nat.le_of_ble_eq_true rfl) rfl ?_
  obtain ⟨n9, h⟩ := h
  exact S_X9_isOthers_8 C M (by omega) n9  _ _ _ _ _ h
theorem c_X9_isOthers {l : Launch} {G : Gp} {d : Nat} {x0 : Nat} {x1 : Int} {x2 : Int} {S : Shp} {F : Fl} {I : Il} {Q : Int → Prop} (hl : l.stackTraces = false) (hd : 4 ≤ d) (h : V_X9_isOthers x0 x1 x2 S F I Q) : CM l G d yX9_isOthers (.code yX9_isOthers cX9_isOthers 5 (some .boolean)) [vr (some x0), vi x1, vi x2] S F I (qI fun z S' F' I' => S = S' ∧ F = F' ∧ I = I' ∧ Q z) noX :=
  CM_ofM [vr (some x0), vi x1, vi x2, vl 0, vl 0] hl (by decide +kernel) (kn1 trivial (kn1 trivial (kn1 trivial kn0))) (Nat.le_of_ble_eq_true rfl) rfl (fun X hX C M => S_X9_isOthers C M hd h)
set_option maxRecDepth 20000 in
set_option maxHeartbeats 4000000 in
theorem S_X9_rests {G : Gp} {X : Xt} {d : Nat}  {x0 : Nat} {x1 : Int} {Q : Int → Prop} {S : Shp} {F : Fl} {I : Il} (C : CO G RX9 cX9_rests 2 X) (M : MX d (some .boolean) "rests" X) (hd : 1 ≤ d)  (h : V_X9_rests x0 x1 S F I Q) : J G X (QD X G (qI fun z S' F' I' => S = S' ∧ F = F' ∧ I = I' ∧ Q z) noX) 0 [vr (some x0), vi x1] [] S F I := by
  unfold V_X9_rests at h
  refine J_aload_n C dX9_rests_0 rfl rfl ?_
  obtain ⟨hK1, h⟩ := h
  obtain ⟨r2, hr3, h⟩ := h
  refine J_getR C fo_10_27 rfl fl_RX9_72 dX9_rests_1 hK1 hr3 ?_
  refine J_iload_n C dX9_rests_4 rfl rfl ?_
  obtain ⟨hK4, h⟩ := h
  obtain ⟨h05, hn6, h⟩ := h
  refine J_iald C dX9_rests_5 hK4 h05 hn6 ?_
  refine J_aload_n C dX9_rests_6 rfl rfl ?_
  refine J_getI C fo_10_1 rfl fl_RX9_187 dX9_rests_7 hK1 ?_
  refine J_icmp_le C dX9_rests_10 (tgt := 17) rfl (fun c10 => ?_) (fun c10 => ?_)
  · have h := h.1 c10
    refine J_iconst C dX9_rests_17 (rg_of (by decide)) ?_
    exact J_zret C dX9_rests_18 M.2.2.1 (by decide) ⟨_, rfl, rfl, rfl, rfl, h⟩
  · have h := h.2 c10
    refine J_iconst C dX9_rests_13 (rg_of (by decide)) ?_
    refine J_goto C dX9_rests_14 (tgt := 18) rfl ?_
    exact J_zret C dX9_rests_18 M.2.2.1 (by decide) ⟨_, rfl, rfl, rfl, rfl, h⟩
theorem c_X9_rests {l : Launch} {G : Gp} {d : Nat} {x0 : Nat} {x1 : Int} {S : Shp} {F : Fl} {I : Il} {Q : Int → Prop} (hl : l.stackTraces = false) (hd : 1 ≤ d) (h : V_X9_rests x0 x1 S F I Q) : CM l G d yX9_rests (.code yX9_rests cX9_rests 2 (some .boolean)) [vr (some x0), vi x1] S F I (qI fun z S' F' I' => S = S' ∧ F = F' ∧ I = I' ∧ Q z) noX :=
  CM_ofM [vr (some x0), vi x1] hl (by decide +kernel) (kn1 trivial (kn1 trivial kn0)) (Nat.le_of_ble_eq_true rfl) rfl (fun X hX C M => S_X9_rests C M hd h)
set_option maxRecDepth 20000 in
set_option maxHeartbeats 4000000 in
theorem S_X9_taken_45 {G : Gp} {X : Xt} {d : Nat} {k4 : Nat → Int → Int → Int → Prop} {x0 : Nat} {x1 : Int} {x3 : Int} {s0 : Int} {s1 : Int} {Q : Int → Prop} {S : Shp} {F : Fl} {I : Il} (C : CO G RX9 cX9_taken 4 X) (M : MX d (some .int) "taken" X) (hd : 1 ≤ d) (hk4 : ∀ (x0 : Nat) (x1 : Int) (x2 : Int) (x3 : Int), k4 x0 x1 x2 x3 → J G X (QD X G (qI fun z S' F' I' => S = S' ∧ F = F' ∧ I = I' ∧ Q z) noX) 4 [vr (some x0), vi x1, vi x2, vi x3] [] S F I) (h : V_X9_taken_45 k4 x0 x1 x3 s0 s1 S F I Q) : J G X (QD X G (qI fun z S' F' I' => S = S' ∧ F = F' ∧ I = I' ∧ Q z) noX) 45 [vr (some x0), vi x1, vl 0, vi x3] [vi s0, vi s1] S F I := by
  unfold V_X9_taken_45 at h
  refine J_iadd C dX9_taken_45 ?_
  refine K_istore_n C [vr (some x0), vi x1, vi (w32 (s1 + s0)), vi x3] dX9_taken_46 rfl (Nat.le_of_ble_eq_true rfl) rfl ?_
  refine K_iinc C [vr (some x0), vi x1, vi (w32 (s1 + s0)), vi (w32 (x3 + 1))] dX9_taken_47 rfl rfl ?_
  refine J_goto C dX9_taken_50 (tgt := 4) rfl ?_
  exact hk4 x0 x1 (w32 (s1 + s0)) (w32 (x3 + 1)) h
set_option maxRecDepth 20000 in
set_option maxHeartbeats 4000000 in
theorem S_X9_taken_44 {G : Gp} {X : Xt} {d : Nat} {k4 : Nat → Int → Int → Int → Prop} {x0 : Nat} {x1 : Int} {x3 : Int} {s0 : Int} {Q : Int → Prop} {S : Shp} {F : Fl} {I : Il} (C : CO G RX9 cX9_taken 4 X) (M : MX d (some .int) "taken" X) (hd : 1 ≤ d) (hk4 : ∀ (x0 : Nat) (x1 : Int) (x2 : Int) (x3 : Int), k4 x0 x1 x2 x3 → J G X (QD X G (qI fun z S' F' I' => S = S' ∧ F = F' ∧ I = I' ∧ Q z) noX) 4 [vr (some x0), vi x1, vi x2, vi x3] [] S F I) (h : V_X9_taken_44 k4 x0 x1 x3 s0 S F I Q) : J G X (QD X G (qI fun z S' F' I' => S = S' ∧ F = F' ∧ I = I' ∧ Q z) noX) 44 [vr (some x0), vi x1, vl 0, vi x3] [vi s0] S F I := by
  unfold V_X9_taken_44 at h
  refine J_iconst C dX9_taken_44 (rg_of (by decide)) ?_
  exact S_X9_taken_45 C M (by omega) hk4 h
set_option maxRecDepth 20000 in
set_option maxHeartbeats 4000000 in
theorem S_X9_taken_4 {G : Gp} {X : Xt} {d : Nat}  {S : Shp} {F : Fl} {I : Il} {Q : Int → Prop} (C : CO G RX9 cX9_taken 4 X) (M : MX d (some .int) "taken" X) (hd : 1 ≤ d) (n9 : Nat)  : ∀ (x0 : Nat) (x1 : Int) (x2 : Int) (x3 : Int) , V_X9_taken_4 n9 x0 x1 x2 x3 S F I Q → J G X (QD X G (qI fun z S' F' I' => S = S' ∧ F = F' ∧ I = I' ∧ Q z) noX) 4 [vr (some x0), vi x1, vi x2, vi x3] [] S F I := by
  induction n9 with
  | zero => intro x0 x1 x2 x3 h; exact h.elim
  | succ n ih =>
    intro x0 x1 x2 x3 h
    unfold V_X9_taken_4 at h
    refine J_iload_n C dX9_taken_4 rfl rfl ?_
    refine J_bipush C dX9_taken_5 (by decide +kernel) (rg_of (by decide)) ?_
    refine J_icmp_ge C dX9_taken_7 (tgt := 53) rfl (fun c7 => ?_) (fun c7 => ?_)
    · have h := h.1 c7
      refine J_iload_n C dX9_taken_53 rfl rfl ?_
      exact J_iret C dX9_taken_54 M.2.2.1 ⟨_, rfl, rfl, rfl, rfl, h⟩
    · have h := h.2 c7
      refine J_iload_n C dX9_taken_10 rfl rfl ?_
      refine J_aload_n C dX9_taken_11 rfl rfl ?_
      obtain ⟨hK1, h⟩ := h
      obtain ⟨r2, hr3, h⟩ := h
      refine J_getR C fo_10_36 rfl fl_RX9_96 dX9_taken_12 hK1 hr3 ?_
      refine J_iload_n C dX9_taken_15 rfl rfl ?_
      obtain ⟨hK4, h⟩ := h
      obtain ⟨h05, hn6, h⟩ := h
      refine J_zald C dX9_taken_16 hK4 h05 hn6 ?_
      refine J_if_eq C dX9_taken_17 (tgt := 44) rfl (fun c17 => ?_) (fun c17 => ?_)
      · have h := h.1 c17
        refine J_less [vr (some x0), vi x1, vl 0, vi x3] (by unfold lessL; simp [lessL]) ?_
        exact S_X9_taken_44 C M (by omega) (fun y0 y1 y2 y3 h9 => ih y0 y1 y2 y3 h9) h
      · have h := h.2 c17
        refine J_aload_n C dX9_taken_20 rfl rfl ?_
        obtain ⟨r7, hr8, h⟩ := h
        refine J_getR C fo_10_39 rfl fl_RX9_105 dX9_taken_21 hK1 hr8 ?_
        refine J_iload_n C dX9_taken_24 rfl rfl ?_
        obtain ⟨hK9, h⟩ := h
        obtain ⟨h010, hn11, h⟩ := h
        refine J_iald C dX9_taken_25 hK9 h010 hn11 ?_
        refine J_iconst C dX9_taken_26 (rg_of (by decide)) ?_
        refine J_icmp_eq C dX9_taken_27 (tgt := 44) rfl (fun c27 => ?_) (fun c27 => ?_)
        · have h := h.1 c27
          refine J_less [vr (some x0), vi x1, vl 0, vi x3] (by unfold lessL; simp [lessL]) ?_
          exact S_X9_taken_44 C M (by omega) (fun y0 y1 y2 y3 h9 => ih y0 y1 y2 y3 h9) h
        · have h := h.2 c27
          refine J_aload_n C dX9_taken_30 rfl rfl ?_
          obtain ⟨r12, hr13, h⟩ := h
          refine J_getR C fo_10_40 rfl fl_RX9_108 dX9_taken_31 hK1 hr13 ?_
          refine J_iload_n C dX9_taken_34 rfl rfl ?_
          obtain ⟨hK14, h⟩ := h
          obtain ⟨h015, hn16, h⟩ := h
          refine J_iald C dX9_taken_35 hK14 h015 hn16 ?_
          refine J_iload_n C dX9_taken_36 rfl rfl ?_
          refine J_icmp_ne C dX9_taken_37 (tgt := 44) rfl (fun c37 => ?_) (fun c37 => ?_)
          · have h := h.1 c37
            refine J_less [vr (some x0), vi x1, vl 0, vi x3] (by unfold lessL; simp [lessL]) ?_
            exact S_X9_taken_44 C M (by omega) (fun y0 y1 y2 y3 h9 => ih y0 y1 y2 y3 h9) h
          · have h := h.2 c37
            refine J_iconst C dX9_taken_40 (rg_of (by decide)) ?_
            refine J_goto C dX9_taken_41 (tgt := 45) rfl ?_
            refine J_less [vr (some x0), vi x1, vl 0, vi x3] (by unfold lessL; simp [lessL]) ?_
            exact S_X9_taken_45 C M (by omega) (fun y0 y1 y2 y3 h9 => ih y0 y1 y2 y3 h9) h
set_option maxRecDepth 20000 in
set_option maxHeartbeats 4000000 in
theorem S_X9_taken {G : Gp} {X : Xt} {d : Nat}  {x0 : Nat} {x1 : Int} {Q : Int → Prop} {S : Shp} {F : Fl} {I : Il} (C : CO G RX9 cX9_taken 4 X) (M : MX d (some .int) "taken" X) (hd : 1 ≤ d)  (h : V_X9_taken x0 x1 S F I Q) : J G X (QD X G (qI fun z S' F' I' => S = S' ∧ F = F' ∧ I = I' ∧ Q z) noX) 0 [vr (some x0), vi x1, vl 0, vl 0] [] S F I := by
  unfold V_X9_taken at h
  refine J_iconst C dX9_taken_0 (rg_of (by decide)) ?_
  refine K_istore_n C [vr (some x0), vi x1, vi 0, vl 0] dX9_taken_1 rfl (Nat.le_of_ble_eq_true rfl) rfl ?_
  refine J_iconst C dX9_taken_2 (rg_of (by decide)) ?_
  refine K_istore_n C [vr (some x0), vi x1, vi 0, vi 0] dX9_taken_3 rfl (Nat.le_of_ble_eq_true rfl) rfl ?_
  obtain ⟨n9, h⟩ := h
  exact S_X9_taken_4 C M (by omega) n9  _ _ _ _ h
theorem c_X9_taken {l : Launch} {G : Gp} {d : Nat} {x0 : Nat} {x1 : Int} {S : Shp} {F : Fl} {I : Il} {Q : Int → Prop} (hl : l.stackTraces = false) (hd : 1 ≤ d) (h : V_X9_taken x0 x1 S F I Q) : CM l G d yX9_taken (.code yX9_taken cX9_taken 4 (some .int)) [vr (some x0), vi x1] S F I (qI fun z S' F' I' => S = S' ∧ F = F' ∧ I = I' ∧ Q z) noX :=
  CM_ofM [vr (some x0), vi x1, vl 0, vl 0] hl (by decide +kernel) (kn1 trivial (kn1 trivial kn0)) (Nat.le_of_ble_eq_true rfl) rfl (fun X hX C M => S_X9_taken C M hd h)
set_option maxRecDepth 20000 in
set_option maxHeartbeats 4000000 in
theorem S_X9_bars {G : Gp} {X : Xt} {d : Nat}  {x0 : Nat} {x1 : Int} {x2 : Int} {Q : Int → Prop} {S : Shp} {F : Fl} {I : Il} (C : CO G RX9 cX9_bars 7 X) (M : MX d (some .boolean) "bars" X) (hd : 5 ≤ d)  (h : V_X9_bars x0 x1 x2 S F I Q) : J G X (QD X G (qI fun z S' F' I' => S = S' ∧ F = F' ∧ I = I' ∧ Q z) noX) 0 [vr (some x0), vi x1, vi x2, vl 0, vl 0, vl 0, vl 0] [] S F I := by
  unfold V_X9_bars at h
  obtain ⟨d, rfl⟩ : ∃ d9, d = d9 + 1 := ⟨d - 1, by omega⟩
  refine J_aload_n C dX9_bars_0 rfl rfl ?_
  obtain ⟨hK1, h⟩ := h
  obtain ⟨r2, hr3, h⟩ := h
  refine J_getR C fo_10_45 rfl fl_RX9_123 dX9_bars_1 hK1 hr3 ?_
  refine J_bipush C dX9_bars_4 (by decide +kernel) (rg_of (by decide)) ?_
  refine J_iload_n C dX9_bars_6 rfl rfl ?_
  refine J_imul C dX9_bars_7 ?_
  refine J_aload_n C dX9_bars_8 rfl rfl ?_
  obtain ⟨r4, hr5, h⟩ := h
  refine J_getR C fo_10_46 rfl fl_RX9_126 dX9_bars_9 hK1 hr5 ?_
  refine J_iload_n C dX9_bars_12 rfl rfl ?_
  obtain ⟨hK6, h⟩ := h
  obtain ⟨h07, hn8, h⟩ := h
  refine J_iald C dX9_bars_13 hK6 h07 hn8 ?_
  refine J_iadd C dX9_bars_14 ?_
  obtain ⟨hK9, h⟩ := h
  obtain ⟨h010, hn11, h⟩ := h
  refine J_iald C dX9_bars_15 hK9 h010 hn11 ?_
  refine K_istore_n C [vr (some x0), vi x1, vi x2, vi (I r2 (w32 ((w32 (8 * x1)) + (I r4 x1)))), vl 0, vl 0, vl 0] dX9_bars_16 rfl (Nat.le_of_ble_eq_true rfl) rfl ?_
  refine J_aload_n C dX9_bars_17 rfl rfl ?_
  obtain ⟨r12, hr13, h⟩ := h
  refine J_getR C fo_10_38 rfl fl_RX9_102 dX9_bars_18 hK1 hr13 ?_
  refine J_iload_n C dX9_bars_21 rfl rfl ?_
  obtain ⟨hK14, h⟩ := h
  obtain ⟨h015, hn16, h⟩ := h
  refine J_iald C dX9_bars_22 hK14 h015 hn16 ?_
  refine K_istore C [vr (some x0), vi x1, vi x2, vi (I r2 (w32 ((w32 (8 * x1)) + (I r4 x1)))), vi (I r12 x1), vl 0, vl 0] dX9_bars_23 (Nat.le_of_ble_eq_true rfl) rfl ?_
  refine J_aload_n C dX9_bars_25 rfl rfl ?_
  obtain ⟨r17, hr18, h⟩ := h
  refine J_getR C fo_10_50 rfl fl_RX9_138 dX9_bars_26 hK1 hr18 ?_
  refine J_iload_n C dX9_bars_29 rfl rfl ?_
  obtain ⟨hK19, h⟩ := h
  obtain ⟨h020, hn21, h⟩ := h
  refine J_iald C dX9_bars_30 hK19 h020 hn21 ?_
  refine K_istore C [vr (some x0), vi x1, vi x2, vi (I r2 (w32 ((w32 (8 * x1)) + (I r4 x1)))), vi (I r12 x1), vi (I r17 x1), vl 0] dX9_bars_31 (Nat.le_of_ble_eq_true rfl) rfl ?_
  refine J_aload_n C dX9_bars_33 rfl rfl ?_
  refine J_iload_n C dX9_bars_34 rfl rfl ?_
  refine J_aload_n C dX9_bars_35 rfl rfl ?_
  obtain ⟨r22, hr23, h⟩ := h
  refine J_getR C fo_10_40 rfl fl_RX9_108 dX9_bars_36 hK1 hr23 ?_
  refine J_iload_n C dX9_bars_39 rfl rfl ?_
  obtain ⟨hK24, h⟩ := h
  obtain ⟨h025, hn26, h⟩ := h
  refine J_iald C dX9_bars_40 hK24 h025 hn26 ?_
  refine K_V C M [vi (I r2 (w32 ((w32 (8 * x1)) + (I r4 x1)))), vi (I r22 x1)] [] mi_X9_other wg_1542 wg_1544 wg_52 ⟨rfl, by decide⟩ dX9_bars_41 hK1 rfl rfl (by decide) (Nat.le_of_ble_eq_true rfl) (c_X9_other (C.2.2.2.2.2.2.2) (by omega) h) (fun v9 S' F' I' hq9 => ?_) K_no rfl
  clear h
  obtain ⟨z27, rfl, rfl, rfl, rfl, h⟩ := hq9
  refine K_istore C [vr (some x0), vi x1, vi x2, vi (I r2 (w32 ((w32 (8 * x1)) + (I r4 x1)))), vi (I r12 x1), vi (I r17 x1), vi z27] dX9_bars_44 (Nat.le_of_ble_eq_true rfl) rfl ?_
  refine J_iload_n C dX9_bars_46 rfl rfl ?_
  by_cases c47_0 : x2 = 1
  · have h := h.1 c47_0
    refine J_tableIn C dX9_bars_47 (by omega) (by omega) (off := 49) (tgt := 96) (by rw [c47_0]; rfl) rfl ?_
    refine J_aload_n C dX9_bars_96 rfl rfl ?_
    refine J_getR C fo_10_46 rfl fl_RX9_126 dX9_bars_97 hK1 hr5 ?_
    refine J_iload_n C dX9_bars_100 rfl rfl ?_
    obtain ⟨h028, hn29, h⟩ := h
    refine J_iald C dX9_bars_101 hK6 h028 hn29 ?_
    refine J_if_ne C dX9_bars_102 (tgt := 122) rfl (fun c102 => ?_) (fun c102 => ?_)
    · have h := h.1 c102
      refine J_iconst C dX9_bars_122 (rg_of (by decide)) ?_
      exact J_zret C dX9_bars_123 M.2.2.1 (by decide) ⟨_, rfl, rfl, rfl, rfl, h⟩
    · have h := h.2 c102
      refine J_aload_n C dX9_bars_105 rfl rfl ?_
      refine J_getI C fo_10_1 rfl fl_RX9_187 dX9_bars_106 hK1 ?_
      refine J_aload_n C dX9_bars_109 rfl rfl ?_
      obtain ⟨r30, hr31, h⟩ := h
      refine J_getR C fo_10_48 rfl fl_RX9_132 dX9_bars_110 hK1 hr31 ?_
      refine J_iload_n C dX9_bars_113 rfl rfl ?_
      obtain ⟨hK32, h⟩ := h
      obtain ⟨h033, hn34, h⟩ := h
      refine J_iald C dX9_bars_114 hK32 h033 hn34 ?_
      refine J_icmp_ge C dX9_bars_115 (tgt := 122) rfl (fun c115 => ?_) (fun c115 => ?_)
      · have h := h.1 c115
        refine J_iconst C dX9_bars_122 (rg_of (by decide)) ?_
        exact J_zret C dX9_bars_123 M.2.2.1 (by decide) ⟨_, rfl, rfl, rfl, rfl, h⟩
      · have h := h.2 c115
        refine J_iconst C dX9_bars_118 (rg_of (by decide)) ?_
        refine J_goto C dX9_bars_119 (tgt := 123) rfl ?_
        exact J_zret C dX9_bars_123 M.2.2.1 (by decide) ⟨_, rfl, rfl, rfl, rfl, h⟩
  by_cases c47_1 : x2 = 2
  · have h := h.2.1 c47_1
    refine J_tableIn C dX9_bars_47 (by omega) (by omega) (off := 77) (tgt := 124) (by rw [c47_1]; rfl) rfl ?_
    refine J_iload C dX9_bars_124 rfl ?_
    refine J_iconst C dX9_bars_126 (rg_of (by decide)) ?_
    refine J_icmp_eq C dX9_bars_127 (tgt := 184) rfl (fun c127 => ?_) (fun c127 => ?_)
    · have h := h.1 c127
      refine J_iconst C dX9_bars_184 (rg_of (by decide)) ?_
      exact J_zret C dX9_bars_185 M.2.2.1 (by decide) ⟨_, rfl, rfl, rfl, rfl, h⟩
    · have h := h.2 c127
      refine J_aload_n C dX9_bars_130 rfl rfl ?_
      obtain ⟨r35, hr36, h⟩ := h
      refine J_getR C fo_10_51 rfl fl_RX9_141 dX9_bars_131 hK1 hr36 ?_
      refine J_iload_n C dX9_bars_134 rfl rfl ?_
      obtain ⟨hK37, h⟩ := h
      obtain ⟨h038, hn39, h⟩ := h
      refine J_iald C dX9_bars_135 hK37 h038 hn39 ?_
      refine J_aload_n C dX9_bars_136 rfl rfl ?_
      refine J_getR C fo_10_40 rfl fl_RX9_108 dX9_bars_137 hK1 hr23 ?_
      refine J_iload_n C dX9_bars_140 rfl rfl ?_
      obtain ⟨h040, hn41, h⟩ := h
      refine J_iald C dX9_bars_141 hK24 h040 hn41 ?_
      refine J_icmp_ne C dX9_bars_142 (tgt := 184) rfl (fun c142 => ?_) (fun c142 => ?_)
      · have h := h.1 c142
        refine J_iconst C dX9_bars_184 (rg_of (by decide)) ?_
        exact J_zret C dX9_bars_185 M.2.2.1 (by decide) ⟨_, rfl, rfl, rfl, rfl, h⟩
      · have h := h.2 c142
        refine J_aload_n C dX9_bars_145 rfl rfl ?_
        obtain ⟨r42, hr43, h⟩ := h
        refine J_getR C fo_10_36 rfl fl_RX9_96 dX9_bars_146 hK1 hr43 ?_
        refine J_iload C dX9_bars_149 rfl ?_
        obtain ⟨hK44, h⟩ := h
        obtain ⟨h045, hn46, h⟩ := h
        refine J_zald C dX9_bars_151 hK44 h045 hn46 ?_
        refine J_if_eq C dX9_bars_152 (tgt := 180) rfl (fun c152 => ?_) (fun c152 => ?_)
        · have h := h.1 c152
          refine J_iconst C dX9_bars_180 (rg_of (by decide)) ?_
          refine J_goto C dX9_bars_181 (tgt := 185) rfl ?_
          exact J_zret C dX9_bars_185 M.2.2.1 (by decide) ⟨_, rfl, rfl, rfl, rfl, h⟩
        · have h := h.2 c152
          refine J_aload_n C dX9_bars_155 rfl rfl ?_
          refine J_iload C dX9_bars_156 rfl ?_
          refine K_V C M [vi (I r17 x1)] [] mi_X9_stands wg_1473 wg_1475 wg_44 ⟨rfl, by decide⟩ dX9_bars_158 hK1 rfl rfl (by decide) (Nat.le_of_ble_eq_true rfl) (c_X9_stands (C.2.2.2.2.2.2.2) (by omega) h) (fun v9 S' F' I' hq9 => ?_) K_no rfl
          clear h
          obtain ⟨z47, rfl, rfl, rfl, rfl, h⟩ := hq9
          refine J_if_eq C dX9_bars_161 (tgt := 180) rfl (fun c161 => ?_) (fun c161 => ?_)
          · have h := h.1 c161
            refine J_iconst C dX9_bars_180 (rg_of (by decide)) ?_
            refine J_goto C dX9_bars_181 (tgt := 185) rfl ?_
            exact J_zret C dX9_bars_185 M.2.2.1 (by decide) ⟨_, rfl, rfl, rfl, rfl, h⟩
          · have h := h.2 c161
            refine J_aload_n C dX9_bars_164 rfl rfl ?_
            refine J_getR C fo_10_40 rfl fl_RX9_108 dX9_bars_165 hK1 hr23 ?_
            refine J_iload C dX9_bars_168 rfl ?_
            obtain ⟨h048, hn49, h⟩ := h
            refine J_iald C dX9_bars_170 hK24 h048 hn49 ?_
            refine J_aload_n C dX9_bars_171 rfl rfl ?_
            refine J_getR C fo_10_40 rfl fl_RX9_108 dX9_bars_172 hK1 hr23 ?_
            refine J_iload_n C dX9_bars_175 rfl rfl ?_
            obtain ⟨h050, hn51, h⟩ := h
            refine J_iald C dX9_bars_176 hK24 h050 hn51 ?_
            refine J_icmp_eq C dX9_bars_177 (tgt := 184) rfl (fun c177 => ?_) (fun c177 => ?_)
            · have h := h.1 c177
              refine J_iconst C dX9_bars_184 (rg_of (by decide)) ?_
              exact J_zret C dX9_bars_185 M.2.2.1 (by decide) ⟨_, rfl, rfl, rfl, rfl, h⟩
            · have h := h.2 c177
              refine J_iconst C dX9_bars_180 (rg_of (by decide)) ?_
              refine J_goto C dX9_bars_181 (tgt := 185) rfl ?_
              exact J_zret C dX9_bars_185 M.2.2.1 (by decide) ⟨_, rfl, rfl, rfl, rfl, h⟩
  by_cases c47_2 : x2 = 3
  · have h := h.2.2.1 c47_2
    refine J_tableIn C dX9_bars_47 (by omega) (by omega) (off := 139) (tgt := 186) (by rw [c47_2]; rfl) rfl ?_
    refine J_aload_n C dX9_bars_186 rfl rfl ?_
    obtain ⟨r52, hr53, h⟩ := h
    refine J_getR C fo_10_17 rfl fl_RX9_48 dX9_bars_187 hK1 hr53 ?_
    refine J_iload_n C dX9_bars_190 rfl rfl ?_
    obtain ⟨hK54, h⟩ := h
    obtain ⟨h055, hn56, h⟩ := h
    refine J_iald C dX9_bars_191 hK54 h055 hn56 ?_
    refine J_iconst C dX9_bars_192 (rg_of (by decide)) ?_
    refine J_icmp_eq C dX9_bars_193 (tgt := 200) rfl (fun c193 => ?_) (fun c193 => ?_)
    · have h := h.1 c193
      refine J_iconst C dX9_bars_200 (rg_of (by decide)) ?_
      exact J_zret C dX9_bars_201 M.2.2.1 (by decide) ⟨_, rfl, rfl, rfl, rfl, h⟩
    · have h := h.2 c193
      refine J_iconst C dX9_bars_196 (rg_of (by decide)) ?_
      refine J_goto C dX9_bars_197 (tgt := 201) rfl ?_
      exact J_zret C dX9_bars_201 M.2.2.1 (by decide) ⟨_, rfl, rfl, rfl, rfl, h⟩
  by_cases c47_3 : x2 = 4
  · have h := h.2.2.2.1 c47_3
    refine J_tableIn C dX9_bars_47 (by omega) (by omega) (off := 155) (tgt := 202) (by rw [c47_3]; rfl) rfl ?_
    refine J_aload_n C dX9_bars_202 rfl rfl ?_
    refine J_iload_n C dX9_bars_203 rfl rfl ?_
    refine K_V C M [vi (I r2 (w32 ((w32 (8 * x1)) + (I r4 x1))))] [] mi_X9_isClosed wg_1445 wg_1447 wg_41 ⟨rfl, by decide⟩ dX9_bars_204 hK1 rfl rfl (by decide) (Nat.le_of_ble_eq_true rfl) (c_X9_isClosed (C.2.2.2.2.2.2.2) (by omega) h) (fun v9 S' F' I' hq9 => ?_) K_no rfl
    clear h
    obtain ⟨z57, rfl, rfl, rfl, rfl, h⟩ := hq9
    obtain ⟨hb, h⟩ := h
    exact J_zret C dX9_bars_207 M.2.2.1 hb ⟨_, rfl, rfl, rfl, rfl, h⟩
  by_cases c47_4 : x2 = 5
  · have h := h.2.2.2.2.1 c47_4
    refine J_tableIn C dX9_bars_47 (by omega) (by omega) (off := 161) (tgt := 208) (by rw [c47_4]; rfl) rfl ?_
    refine J_aload_n C dX9_bars_208 rfl rfl ?_
    obtain ⟨r58, hr59, h⟩ := h
    refine J_getR C fo_10_13 rfl fl_RX9_36 dX9_bars_209 hK1 hr59 ?_
    refine J_iload_n C dX9_bars_212 rfl rfl ?_
    obtain ⟨hK60, h⟩ := h
    obtain ⟨h061, hn62, h⟩ := h
    refine J_zald C dX9_bars_213 hK60 h061 hn62 ?_
    refine J_if_eq C dX9_bars_214 (tgt := 230) rfl (fun c214 => ?_) (fun c214 => ?_)
    · have h := h.1 c214
      refine J_iconst C dX9_bars_230 (rg_of (by decide)) ?_
      exact J_zret C dX9_bars_231 M.2.2.1 (by decide) ⟨_, rfl, rfl, rfl, rfl, h⟩
    · have h := h.2 c214
      refine J_aload_n C dX9_bars_217 rfl rfl ?_
      obtain ⟨r63, hr64, h⟩ := h
      refine J_getR C fo_10_14 rfl fl_RX9_39 dX9_bars_218 hK1 hr64 ?_
      refine J_iload_n C dX9_bars_221 rfl rfl ?_
      obtain ⟨hK65, h⟩ := h
      obtain ⟨h066, hn67, h⟩ := h
      refine J_zald C dX9_bars_222 hK65 h066 hn67 ?_
      refine J_if_ne C dX9_bars_223 (tgt := 230) rfl (fun c223 => ?_) (fun c223 => ?_)
      · have h := h.1 c223
        refine J_iconst C dX9_bars_230 (rg_of (by decide)) ?_
        exact J_zret C dX9_bars_231 M.2.2.1 (by decide) ⟨_, rfl, rfl, rfl, rfl, h⟩
      · have h := h.2 c223
        refine J_iconst C dX9_bars_226 (rg_of (by decide)) ?_
        refine J_goto C dX9_bars_227 (tgt := 231) rfl ?_
        exact J_zret C dX9_bars_231 M.2.2.1 (by decide) ⟨_, rfl, rfl, rfl, rfl, h⟩
  by_cases c47_5 : x2 = 6
  · have h := h.2.2.2.2.2.1 c47_5
    refine J_tableIn C dX9_bars_47 (by omega) (by omega) (off := 185) (tgt := 232) (by rw [c47_5]; rfl) rfl ?_
    refine J_aload_n C dX9_bars_232 rfl rfl ?_
    refine J_iload_n C dX9_bars_233 rfl rfl ?_
    refine J_iload_n C dX9_bars_234 rfl rfl ?_
    refine K_V C M [vi x1, vi (I r2 (w32 ((w32 (8 * x1)) + (I r4 x1))))] [] mi_X9_isOthers wg_1574 wg_1576 wg_58 ⟨rfl, by decide⟩ dX9_bars_235 hK1 rfl rfl (by decide) (Nat.le_of_ble_eq_true rfl) (c_X9_isOthers (C.2.2.2.2.2.2.2) (by omega) h) (fun v9 S' F' I' hq9 => ?_) K_no rfl
    clear h
    obtain ⟨z68, rfl, rfl, rfl, rfl, h⟩ := hq9
    obtain ⟨hb, h⟩ := h
    exact J_zret C dX9_bars_238 M.2.2.1 hb ⟨_, rfl, rfl, rfl, rfl, h⟩
  by_cases c47_6 : x2 = 7
  · have h := h.2.2.2.2.2.2.1 c47_6
    refine J_tableIn C dX9_bars_47 (by omega) (by omega) (off := 192) (tgt := 239) (by rw [c47_6]; rfl) rfl ?_
    refine J_aload_n C dX9_bars_239 rfl rfl ?_
    refine J_iload_n C dX9_bars_240 rfl rfl ?_
    refine K_V C M [vi x1] [] mi_X9_weight wg_1586 wg_1588 wg_61 ⟨rfl, by decide⟩ dX9_bars_241 hK1 rfl rfl (by decide) (Nat.le_of_ble_eq_true rfl) (c_X9_weight (C.2.2.2.2.2.2.2) (by omega) h) (fun v9 S' F' I' hq9 => ?_) K_no rfl
    clear h
    obtain ⟨z69, rfl, rfl, rfl, rfl, h⟩ := hq9
    refine J_aload_n C dX9_bars_244 rfl rfl ?_
    obtain ⟨r70, hr71, h⟩ := h
    refine J_getR C fo_10_20 rfl fl_RX9_54 dX9_bars_245 hK1 hr71 ?_
    refine J_aload_n C dX9_bars_248 rfl rfl ?_
    obtain ⟨r72, hr73, h⟩ := h
    refine J_getR C fo_10_37 rfl fl_RX9_99 dX9_bars_249 hK1 hr73 ?_
    refine J_iload_n C dX9_bars_252 rfl rfl ?_
    obtain ⟨hK74, h⟩ := h
    obtain ⟨h075, hn76, h⟩ := h
    refine J_iald C dX9_bars_253 hK74 h075 hn76 ?_
    obtain ⟨hK77, h⟩ := h
    obtain ⟨h078, hn79, h⟩ := h
    refine J_iald C dX9_bars_254 hK77 h078 hn79 ?_
    refine J_bipush C dX9_bars_255 (by decide +kernel) (rg_of (by decide)) ?_
    refine J_iconst C dX9_bars_257 (rg_of (by decide)) ?_
    refine J_aload_n C dX9_bars_258 rfl rfl ?_
    obtain ⟨r80, hr81, h⟩ := h
    refine J_getR C fo_10_9 rfl fl_RX9_23 dX9_bars_259 hK1 hr81 ?_
    refine J_iload_n C dX9_bars_262 rfl rfl ?_
    obtain ⟨hK82, h⟩ := h
    obtain ⟨h083, hn84, h⟩ := h
    refine J_iald C dX9_bars_263 hK82 h083 hn84 ?_
    refine J_imul C dX9_bars_264 ?_
    refine J_isub C dX9_bars_265 ?_
    refine J_imul C dX9_bars_266 ?_
    refine J_icmp_le C dX9_bars_267 (tgt := 274) rfl (fun c267 => ?_) (fun c267 => ?_)
    · have h := h.1 c267
      refine J_iconst C dX9_bars_274 (rg_of (by decide)) ?_
      exact J_zret C dX9_bars_275 M.2.2.1 (by decide) ⟨_, rfl, rfl, rfl, rfl, h⟩
    · have h := h.2 c267
      refine J_iconst C dX9_bars_270 (rg_of (by decide)) ?_
      refine J_goto C dX9_bars_271 (tgt := 275) rfl ?_
      exact J_zret C dX9_bars_275 M.2.2.1 (by decide) ⟨_, rfl, rfl, rfl, rfl, h⟩
  by_cases c47_7 : x2 = 8
  · have h := h.2.2.2.2.2.2.2.1 c47_7
    refine J_tableIn C dX9_bars_47 (by omega) (by omega) (off := 229) (tgt := 276) (by rw [c47_7]; rfl) rfl ?_
    refine J_aload_n C dX9_bars_276 rfl rfl ?_
    obtain ⟨r85, hr86, h⟩ := h
    refine J_getR C fo_10_28 rfl fl_RX9_75 dX9_bars_277 hK1 hr86 ?_
    refine J_bipush C dX9_bars_280 (by decide +kernel) (rg_of (by decide)) ?_
    refine J_iload C dX9_bars_282 rfl ?_
    refine J_imul C dX9_bars_284 ?_
    refine J_iload_n C dX9_bars_285 rfl rfl ?_
    refine J_iadd C dX9_bars_286 ?_
    obtain ⟨hK87, h⟩ := h
    obtain ⟨h088, hn89, h⟩ := h
    refine J_zald C dX9_bars_287 hK87 h088 hn89 ?_
    refine J_if_ne C dX9_bars_288 (tgt := 295) rfl (fun c288 => ?_) (fun c288 => ?_)
    · have h := h.1 c288
      refine J_iconst C dX9_bars_295 (rg_of (by decide)) ?_
      exact J_zret C dX9_bars_296 M.2.2.1 (by decide) ⟨_, rfl, rfl, rfl, rfl, h⟩
    · have h := h.2 c288
      refine J_iconst C dX9_bars_291 (rg_of (by decide)) ?_
      refine J_goto C dX9_bars_292 (tgt := 296) rfl ?_
      exact J_zret C dX9_bars_296 M.2.2.1 (by decide) ⟨_, rfl, rfl, rfl, rfl, h⟩
  by_cases c47_8 : x2 = 9
  · have h := h.2.2.2.2.2.2.2.2.1 c47_8
    refine J_tableIn C dX9_bars_47 (by omega) (by omega) (off := 250) (tgt := 297) (by rw [c47_8]; rfl) rfl ?_
    refine J_aload_n C dX9_bars_297 rfl rfl ?_
    refine J_iload C dX9_bars_298 rfl ?_
    refine K_V C M [vi (I r12 x1)] [] mi_X9_rests wg_1469 wg_1471 wg_43 ⟨rfl, by decide⟩ dX9_bars_300 hK1 rfl rfl (by decide) (Nat.le_of_ble_eq_true rfl) (c_X9_rests (C.2.2.2.2.2.2.2) (by omega) h) (fun v9 S' F' I' hq9 => ?_) K_no rfl
    clear h
    obtain ⟨z90, rfl, rfl, rfl, rfl, h⟩ := hq9
    refine J_if_ne C dX9_bars_303 (tgt := 326) rfl (fun c303 => ?_) (fun c303 => ?_)
    · have h := h.1 c303
      refine J_iconst C dX9_bars_326 (rg_of (by decide)) ?_
      refine J_goto C dX9_bars_327 (tgt := 331) rfl ?_
      exact J_zret C dX9_bars_331 M.2.2.1 (by decide) ⟨_, rfl, rfl, rfl, rfl, h⟩
    · have h := h.2 c303
      refine J_aload_n C dX9_bars_306 rfl rfl ?_
      obtain ⟨r91, hr92, h⟩ := h
      refine J_getR C fo_10_26 rfl fl_RX9_69 dX9_bars_307 hK1 hr92 ?_
      refine J_iload C dX9_bars_310 rfl ?_
      obtain ⟨hK93, h⟩ := h
      obtain ⟨h094, hn95, h⟩ := h
      refine J_iald C dX9_bars_312 hK93 h094 hn95 ?_
      refine J_aload_n C dX9_bars_313 rfl rfl ?_
      refine J_iload_n C dX9_bars_314 rfl rfl ?_
      refine J_iload_n C dX9_bars_315 rfl rfl ?_
      refine K_V C M [vi x1, vi (I r2 (w32 ((w32 (8 * x1)) + (I r4 x1))))] [vi (I r91 (I r12 x1))] mi_X9_runs wg_1582 wg_1584 wg_60 ⟨rfl, by decide⟩ dX9_bars_316 hK1 rfl rfl (by decide) (Nat.le_of_ble_eq_true rfl) (c_X9_runs (C.2.2.2.2.2.2.2) (by omega) h) (fun v9 S' F' I' hq9 => ?_) K_no rfl
      clear h
      obtain ⟨z96, rfl, rfl, rfl, rfl, h⟩ := hq9
      refine J_iadd C dX9_bars_319 ?_
      refine J_sipush C dX9_bars_320 (by decide +kernel) (rg_of (by decide)) ?_
      refine J_icmp_le C dX9_bars_323 (tgt := 330) rfl (fun c323 => ?_) (fun c323 => ?_)
      · have h := h.1 c323
        refine J_iconst C dX9_bars_330 (rg_of (by decide)) ?_
        exact J_zret C dX9_bars_331 M.2.2.1 (by decide) ⟨_, rfl, rfl, rfl, rfl, h⟩
      · have h := h.2 c323
        refine J_iconst C dX9_bars_326 (rg_of (by decide)) ?_
        refine J_goto C dX9_bars_327 (tgt := 331) rfl ?_
        exact J_zret C dX9_bars_331 M.2.2.1 (by decide) ⟨_, rfl, rfl, rfl, rfl, h⟩
  have c47 : x2 < 1 ∨ 9 < x2 := by omega
  have h := h.2.2.2.2.2.2.2.2.2 c47
  refine J_tableOut C dX9_bars_47 c47 (tgt := 332) rfl ?_
  refine J_aload_n C dX9_bars_332 rfl rfl ?_
  refine J_iload C dX9_bars_333 rfl ?_
  refine K_V C M [vi z27] [] mi_X9_taken wg_1417 wg_1419 wg_39 ⟨rfl, by decide⟩ dX9_bars_335 hK1 rfl rfl (by decide) (Nat.le_of_ble_eq_true rfl) (c_X9_taken (C.2.2.2.2.2.2.2) (by omega) h) (fun v9 S' F' I' hq9 => ?_) K_no rfl
  clear h
  obtain ⟨z97, rfl, rfl, rfl, rfl, h⟩ := hq9
  refine J_aload_n C dX9_bars_338 rfl rfl ?_
  obtain ⟨r98, hr99, h⟩ := h
  refine J_getR C fo_10_5 rfl fl_RX9_13 dX9_bars_339 hK1 hr99 ?_
  refine J_iload C dX9_bars_342 rfl ?_
  obtain ⟨hK100, h⟩ := h
  obtain ⟨h0101, hn102, h⟩ := h
  refine J_iald C dX9_bars_344 hK100 h0101 hn102 ?_
  refine J_icmp_lt C dX9_bars_345 (tgt := 352) rfl (fun c345 => ?_) (fun c345 => ?_)
  · have h := h.1 c345
    refine J_iconst C dX9_bars_352 (rg_of (by decide)) ?_
    exact J_zret C dX9_bars_353 M.2.2.1 (by decide) ⟨_, rfl, rfl, rfl, rfl, h⟩
  · have h := h.2 c345
    refine J_iconst C dX9_bars_348 (rg_of (by decide)) ?_
    refine J_goto C dX9_bars_349 (tgt := 353) rfl ?_
    exact J_zret C dX9_bars_353 M.2.2.1 (by decide) ⟨_, rfl, rfl, rfl, rfl, h⟩
theorem c_X9_bars {l : Launch} {G : Gp} {d : Nat} {x0 : Nat} {x1 : Int} {x2 : Int} {S : Shp} {F : Fl} {I : Il} {Q : Int → Prop} (hl : l.stackTraces = false) (hd : 5 ≤ d) (h : V_X9_bars x0 x1 x2 S F I Q) : CM l G d yX9_bars (.code yX9_bars cX9_bars 7 (some .boolean)) [vr (some x0), vi x1, vi x2] S F I (qI fun z S' F' I' => S = S' ∧ F = F' ∧ I = I' ∧ Q z) noX :=
  CM_ofM [vr (some x0), vi x1, vi x2, vl 0, vl 0, vl 0, vl 0] hl (by decide +kernel) (kn1 trivial (kn1 trivial (kn1 trivial kn0))) (Nat.le_of_ble_eq_true rfl) rfl (fun X hX C M => S_X9_bars C M hd h)
set_option maxRecDepth 20000 in
set_option maxHeartbeats 4000000 in
theorem S_X9_bar_32 {G : Gp} {X : Xt} {d : Nat} {k5 : Nat → Int → Int → Int → Prop} {x0 : Nat} {x1 : Int} {x4 : Int} {s0 : Int} {Q : Int → Prop} {S : Shp} {F : Fl} {I : Il} (C : CO G RX9 cX9_bar 5 X) (M : MX d (some .int) "bar" X) (hd : 6 ≤ d) (hk5 : ∀ (x0 : Nat) (x1 : Int) (x3 : Int) (x4 : Int), k5 x0 x1 x3 x4 → J G X (QD X G (qI fun z S' F' I' => S = S' ∧ F = F' ∧ I = I' ∧ Q z) noX) 5 [vr (some x0), vi x1, vl 0, vi x3, vi x4] [] S F I) (h : V_X9_bar_32 k5 x0 x1 x4 s0 S F I Q) : J G X (QD X G (qI fun z S' F' I' => S = S' ∧ F = F' ∧ I = I' ∧ Q z) noX) 32 [vr (some x0), vi x1, vl 0, vl 0, vi x4] [vi s0] S F I := by
  unfold V_X9_bar_32 at h
  refine K_istore_n C [vr (some x0), vi x1, vl 0, vi s0, vi x4] dX9_bar_32 rfl (Nat.le_of_ble_eq_true rfl) rfl ?_
  refine K_iinc C [vr (some x0), vi x1, vl 0, vi s0, vi (w32 (x4 + 1))] dX9_bar_33 rfl rfl ?_
  refine J_goto C dX9_bar_36 (tgt := 5) rfl ?_
  exact hk5 x0 x1 s0 (w32 (x4 + 1)) h
set_option maxRecDepth 20000 in
set_option maxHeartbeats 4000000 in
theorem S_X9_bar_5 {G : Gp} {X : Xt} {d : Nat}  {S : Shp} {F : Fl} {I : Il} {Q : Int → Prop} (C : CO G RX9 cX9_bar 5 X) (M : MX d (some .int) "bar" X) (hd : 6 ≤ d) (n9 : Nat)  : ∀ (x0 : Nat) (x1 : Int) (x3 : Int) (x4 : Int) , V_X9_bar_5 n9 x0 x1 x3 x4 S F I Q → J G X (QD X G (qI fun z S' F' I' => S = S' ∧ F = F' ∧ I = I' ∧ Q z) noX) 5 [vr (some x0), vi x1, vl 0, vi x3, vi x4] [] S F I := by
  obtain ⟨d, rfl⟩ : ∃ d9, d = d9 + 1 := ⟨d - 1, by omega⟩
  induction n9 with
  | zero => intro x0 x1 x3 x4 h; exact h.elim
  | succ n ih =>
    intro x0 x1 x3 x4 h
    unfold V_X9_bar_5 at h
    refine J_iload C dX9_bar_5 rfl ?_
    refine J_bipush C dX9_bar_7 (by decide +kernel) (rg_of (by decide)) ?_
    refine J_icmp_gt C dX9_bar_9 (tgt := 39) rfl (fun c9 => ?_) (fun c9 => ?_)
    · have h := h.1 c9
      refine J_iload_n C dX9_bar_39 rfl rfl ?_
      exact J_iret C dX9_bar_40 M.2.2.1 ⟨_, rfl, rfl, rfl, rfl, h⟩
    · have h := h.2 c9
      refine J_iload_n C dX9_bar_12 rfl rfl ?_
      refine J_if_ne C dX9_bar_13 (tgt := 39) rfl (fun c13 => ?_) (fun c13 => ?_)
      · have h := h.1 c13
        refine J_iload_n C dX9_bar_39 rfl rfl ?_
        exact J_iret C dX9_bar_40 M.2.2.1 ⟨_, rfl, rfl, rfl, rfl, h⟩
      · have h := h.2 c13
        refine J_aload_n C dX9_bar_16 rfl rfl ?_
        refine J_iload_n C dX9_bar_17 rfl rfl ?_
        refine J_iload C dX9_bar_18 rfl ?_
        obtain ⟨hK1, h⟩ := h
        refine K_V C M [vi x1, vi x4] [] mi_X9_bars wg_1570 wg_1572 wg_57 ⟨rfl, by decide⟩ dX9_bar_20 hK1 rfl rfl (by decide) (Nat.le_of_ble_eq_true rfl) (c_X9_bars (C.2.2.2.2.2.2.2) (by omega) h) (fun v9 S' F' I' hq9 => ?_) K_no rfl
        clear h
        obtain ⟨z2, rfl, rfl, rfl, rfl, h⟩ := hq9
        refine J_if_eq C dX9_bar_23 (tgt := 31) rfl (fun c23 => ?_) (fun c23 => ?_)
        · have h := h.1 c23
          refine J_iconst C dX9_bar_31 (rg_of (by decide)) ?_
          refine J_less [vr (some x0), vi x1, vl 0, vl 0, vi x4] (by unfold lessL; simp [lessL]) ?_
          exact S_X9_bar_32 C M (by omega) (fun y0 y1 y2 y3 h9 => ih y0 y1 y2 y3 h9) h
        · have h := h.2 c23
          refine J_iload C dX9_bar_26 rfl ?_
          refine J_goto C dX9_bar_28 (tgt := 32) rfl ?_
          refine J_less [vr (some x0), vi x1, vl 0, vl 0, vi x4] (by unfold lessL; simp [lessL]) ?_
          exact S_X9_bar_32 C M (by omega) (fun y0 y1 y2 y3 h9 => ih y0 y1 y2 y3 h9) h
set_option maxRecDepth 20000 in
set_option maxHeartbeats 4000000 in
theorem S_X9_bar {G : Gp} {X : Xt} {d : Nat}  {x0 : Nat} {x1 : Int} {x2 : Int} {Q : Int → Prop} {S : Shp} {F : Fl} {I : Il} (C : CO G RX9 cX9_bar 5 X) (M : MX d (some .int) "bar" X) (hd : 6 ≤ d)  (h : V_X9_bar x0 x1 x2 S F I Q) : J G X (QD X G (qI fun z S' F' I' => S = S' ∧ F = F' ∧ I = I' ∧ Q z) noX) 0 [vr (some x0), vi x1, vi x2, vl 0, vl 0] [] S F I := by
  unfold V_X9_bar at h
  refine J_iconst C dX9_bar_0 (rg_of (by decide)) ?_
  refine K_istore_n C [vr (some x0), vi x1, vi x2, vi 0, vl 0] dX9_bar_1 rfl (Nat.le_of_ble_eq_true rfl) rfl ?_
  refine J_iload_n C dX9_bar_2 rfl rfl ?_
  refine K_istore C [vr (some x0), vi x1, vi x2, vi 0, vi x2] dX9_bar_3 (Nat.le_of_ble_eq_true rfl) rfl ?_
  refine J_less [vr (some x0), vi x1, vl 0, vi 0, vi x2] (by unfold lessL; simp [lessL]) ?_
  obtain ⟨n9, h⟩ := h
  exact S_X9_bar_5 C M (by omega) n9  _ _ _ _ h
theorem c_X9_bar {l : Launch} {G : Gp} {d : Nat} {x0 : Nat} {x1 : Int} {x2 : Int} {S : Shp} {F : Fl} {I : Il} {Q : Int → Prop} (hl : l.stackTraces = false) (hd : 6 ≤ d) (h : V_X9_bar x0 x1 x2 S F I Q) : CM l G d yX9_bar (.code yX9_bar cX9_bar 5 (some .int)) [vr (some x0), vi x1, vi x2] S F I (qI fun z S' F' I' => S = S' ∧ F = F' ∧ I = I' ∧ Q z) noX :=
  CM_ofM [vr (some x0), vi x1, vi x2, vl 0, vl 0] hl (by decide +kernel) (kn1 trivial (kn1 trivial (kn1 trivial kn0))) (Nat.le_of_ble_eq_true rfl) rfl (fun X hX C M => S_X9_bar C M hd h)
set_option maxRecDepth 20000 in
set_option maxHeartbeats 4000000 in
theorem S_X9_barred_14 {G : Gp} {X : Xt} {d : Nat}  {x0 : Nat} {x1 : Int} {s0 : Int} {s1 : Nat} {Q : Int → Fl → Prop} {S : Shp} {F : Fl} {I : Il} (C : CO G RX9 cX9_barred 2 X) (M : MX d (some .int) "barred" X) (hd : 7 ≤ d)  (h : V_X9_barred_14 x0 x1 s0 s1 S F I Q) : J G X (QD X G (qI fun z S' F' I' => S = S' ∧ I = I' ∧ Q z F') noX) 14 [vr (some x0), vi x1] [vi s0, vr (some s1)] S F I := by
  unfold V_X9_barred_14 at h
  obtain ⟨d, rfl⟩ : ∃ d9, d = d9 + 1 := ⟨d - 1, by omega⟩
  obtain ⟨hK1, h⟩ := h
  refine J_putI C fo_10_0 fp_10 fl_RX9_174 (Or.inl rfl) (Or.inl rfl) dX9_barred_14 hK1 ?_
  refine J_aload_n C dX9_barred_17 rfl rfl ?_
  obtain ⟨hK2, h⟩ := h
  refine J_getI C fo_10_0 rfl fl_RX9_174 dX9_barred_18 hK2 ?_
  refine J_if_le C dX9_barred_21 (tgt := 28) rfl (fun c21 => ?_) (fun c21 => ?_)
  · have h := h.1 c21
    refine J_aload_n C dX9_barred_28 rfl rfl ?_
    obtain ⟨r3, hr4, h⟩ := h
    refine J_getR C fo_10_39 rfl fl_RX9_105 dX9_barred_29 hK2 hr4 ?_
    refine J_iload_n C dX9_barred_32 rfl rfl ?_
    obtain ⟨hK5, h⟩ := h
    obtain ⟨h06, hn7, h⟩ := h
    refine J_iald C dX9_barred_33 hK5 h06 hn7 ?_
    refine J_iconst C dX9_barred_34 (rg_of (by decide)) ?_
    refine J_icmp_eq C dX9_barred_35 (tgt := 42) rfl (fun c35 => ?_) (fun c35 => ?_)
    · have h := h.1 c35
      refine J_aload_n C dX9_barred_42 rfl rfl ?_
      refine J_iload_n C dX9_barred_43 rfl rfl ?_
      refine J_iconst C dX9_barred_44 (rg_of (by decide)) ?_
      refine K_V C M [vi x1, vi 1] [] mi_X9_bar wg_1566 wg_1568 wg_56 ⟨rfl, by decide⟩ dX9_barred_45 hK2 rfl rfl (by decide) (Nat.le_of_ble_eq_true rfl) (c_X9_bar (C.2.2.2.2.2.2.2) (by omega) h) (fun v9 S' F' I' hq9 => ?_) K_no rfl
      clear h
      obtain ⟨z8, rfl, rfl, rfl, rfl, h⟩ := hq9
      exact J_iret C dX9_barred_48 M.2.2.1 ⟨_, rfl, rfl, rfl, h⟩
    · have h := h.2 c35
      refine J_iconst C dX9_barred_38 (rg_of (by decide)) ?_
      refine J_goto C dX9_barred_39 (tgt := 48) rfl ?_
      exact J_iret C dX9_barred_48 M.2.2.1 ⟨_, rfl, rfl, rfl, h⟩
  · have h := h.2 c21
    refine J_iconst C dX9_barred_24 (rg_of (by decide)) ?_
    refine J_goto C dX9_barred_25 (tgt := 48) rfl ?_
    exact J_iret C dX9_barred_48 M.2.2.1 ⟨_, rfl, rfl, rfl, h⟩
set_option maxRecDepth 20000 in
set_option maxHeartbeats 4000000 in
theorem S_X9_barred {G : Gp} {X : Xt} {d : Nat}  {x0 : Nat} {x1 : Int} {Q : Int → Fl → Prop} {S : Shp} {F : Fl} {I : Il} (C : CO G RX9 cX9_barred 2 X) (M : MX d (some .int) "barred" X) (hd : 7 ≤ d)  (h : V_X9_barred x0 x1 S F I Q) : J G X (QD X G (qI fun z S' F' I' => S = S' ∧ I = I' ∧ Q z F') noX) 0 [vr (some x0), vi x1] [] S F I := by
  unfold V_X9_barred at h
  obtain ⟨d, rfl⟩ : ∃ d9, d = d9 + 1 := ⟨d - 1, by omega⟩
  refine J_aload_n C dX9_barred_0 rfl rfl ?_
  refine J_aload_n C dX9_barred_1 rfl rfl ?_
  refine J_iload_n C dX9_barred_2 rfl rfl ?_
  obtain ⟨hK1, h⟩ := h
  refine K_V C M [vi x1] [vr (some x0)] mi_X9_isTrain wg_1510 wg_1512 wg_48 ⟨rfl, by decide⟩ dX9_barred_3 hK1 rfl rfl (by decide) (Nat.le_of_ble_eq_true rfl) (c_X9_isTrain (C.2.2.2.2.2.2.2) (by omega) h) (fun v9 S' F' I' hq9 => ?_) K_no rfl
  clear h
  obtain ⟨z2, rfl, rfl, rfl, rfl, h⟩ := hq9
  refine J_if_eq C dX9_barred_6 (tgt := 13) rfl (fun c6 => ?_) (fun c6 => ?_)
  · have h := h.1 c6
    refine J_iconst C dX9_barred_13 (rg_of (by decide)) ?_
    exact S_X9_barred_14 C M (by omega)  h
  · have h := h.2 c6
    refine J_iconst C dX9_barred_9 (rg_of (by decide)) ?_
    refine J_goto C dX9_barred_10 (tgt := 14) rfl ?_
    exact S_X9_barred_14 C M (by omega)  h
theorem c_X9_barred {l : Launch} {G : Gp} {d : Nat} {x0 : Nat} {x1 : Int} {S : Shp} {F : Fl} {I : Il} {Q : Int → Fl → Prop} (hl : l.stackTraces = false) (hd : 7 ≤ d) (h : V_X9_barred x0 x1 S F I Q) : CM l G d yX9_barred (.code yX9_barred cX9_barred 2 (some .int)) [vr (some x0), vi x1] S F I (qI fun z S' F' I' => S = S' ∧ I = I' ∧ Q z F') noX :=
  CM_ofM [vr (some x0), vi x1] hl (by decide +kernel) (kn1 trivial (kn1 trivial kn0)) (Nat.le_of_ble_eq_true rfl) rfl (fun X hX C M => S_X9_barred C M hd h)
set_option maxRecDepth 20000 in
set_option maxHeartbeats 4000000 in
theorem S_X9_isCar {G : Gp} {X : Xt} {d : Nat}  {x0 : Nat} {x1 : Int} {Q : Int → Prop} {S : Shp} {F : Fl} {I : Il} (C : CO G RX9 cX9_isCar 2 X) (M : MX d (some .boolean) "isCar" X) (hd : 2 ≤ d)  (h : V_X9_isCar x0 x1 S F I Q) : J G X (QD X G (qI fun z S' F' I' => S = S' ∧ F = F' ∧ I = I' ∧ Q z) noX) 0 [vr (some x0), vi x1] [] S F I := by
  unfold V_X9_isCar at h
  obtain ⟨d, rfl⟩ : ∃ d9, d = d9 + 1 := ⟨d - 1, by omega⟩
  refine J_iload_n C dX9_isCar_0 rfl rfl ?_
  refine J_iconst C dX9_isCar_1 (rg_of (by decide)) ?_
  refine J_aload_n C dX9_isCar_2 rfl rfl ?_
  obtain ⟨hK1, h⟩ := h
  refine J_getI C fo_10_29 rfl fl_RX9_184 dX9_isCar_3 hK1 ?_
  refine J_iconst C dX9_isCar_6 (rg_of (by decide)) ?_
  refine J_isub C dX9_isCar_7 ?_
  refine K_S C M [vi x1, vi 0, vi (w32 ((F 1029 x0) - 1))] [] mi_X9_in wg_1414 wg_1415 dX9_isCar_8 rfl rfl (by decide) (Nat.le_of_ble_eq_true rfl) (c_X9_in (C.2.2.2.2.2.2.2) (by omega) h) (fun v9 S' F' I' hq9 => ?_) K_no rfl
  clear h
  obtain ⟨z2, rfl, rfl, rfl, rfl, h⟩ := hq9
  obtain ⟨hb, h⟩ := h
  exact J_zret C dX9_isCar_11 M.2.2.1 hb ⟨_, rfl, rfl, rfl, rfl, h⟩
theorem c_X9_isCar {l : Launch} {G : Gp} {d : Nat} {x0 : Nat} {x1 : Int} {S : Shp} {F : Fl} {I : Il} {Q : Int → Prop} (hl : l.stackTraces = false) (hd : 2 ≤ d) (h : V_X9_isCar x0 x1 S F I Q) : CM l G d yX9_isCar (.code yX9_isCar cX9_isCar 2 (some .boolean)) [vr (some x0), vi x1] S F I (qI fun z S' F' I' => S = S' ∧ F = F' ∧ I = I' ∧ Q z) noX :=
  CM_ofM [vr (some x0), vi x1] hl (by decide +kernel) (kn1 trivial (kn1 trivial kn0)) (Nat.le_of_ble_eq_true rfl) rfl (fun X hX C M => S_X9_isCar C M hd h)
set_option maxRecDepth 20000 in
set_option maxHeartbeats 4000000 in
theorem S_X9_billOf_14 {G : Gp} {X : Xt} {d : Nat}  {x0 : Nat} {x1 : Int} {s0 : Int} {s1 : Nat} {Q : Int → Fl → Prop} {S : Shp} {F : Fl} {I : Il} (C : CO G RX9 cX9_billOf 2 X) (M : MX d (some .int) "billOf" X) (hd : 3 ≤ d)  (h : V_X9_billOf_14 x0 x1 s0 s1 S F I Q) : J G X (QD X G (qI fun z S' F' I' => S = S' ∧ I = I' ∧ Q z F') noX) 14 [vr (some x0), vi x1] [vi s0, vr (some s1)] S F I := by
  unfold V_X9_billOf_14 at h
  obtain ⟨hK1, h⟩ := h
  refine J_putI C fo_10_0 fp_10 fl_RX9_174 (Or.inl rfl) (Or.inl rfl) dX9_billOf_14 hK1 ?_
  refine J_aload_n C dX9_billOf_17 rfl rfl ?_
  obtain ⟨hK2, h⟩ := h
  refine J_getI C fo_10_0 rfl fl_RX9_174 dX9_billOf_18 hK2 ?_
  refine J_if_le C dX9_billOf_21 (tgt := 28) rfl (fun c21 => ?_) (fun c21 => ?_)
  · have h := h.1 c21
    refine J_aload_n C dX9_billOf_28 rfl rfl ?_
    obtain ⟨r3, hr4, h⟩ := h
    refine J_getR C fo_10_33 rfl fl_RX9_87 dX9_billOf_29 hK2 hr4 ?_
    refine J_iload_n C dX9_billOf_32 rfl rfl ?_
    obtain ⟨hK5, h⟩ := h
    obtain ⟨h06, hn7, h⟩ := h
    refine J_iald C dX9_billOf_33 hK5 h06 hn7 ?_
    exact J_iret C dX9_billOf_34 M.2.2.1 ⟨_, rfl, rfl, rfl, h⟩
  · have h := h.2 c21
    refine J_iconst C dX9_billOf_24 (rg_of (by decide)) ?_
    refine J_goto C dX9_billOf_25 (tgt := 34) rfl ?_
    exact J_iret C dX9_billOf_34 M.2.2.1 ⟨_, rfl, rfl, rfl, h⟩
set_option maxRecDepth 20000 in
set_option maxHeartbeats 4000000 in
theorem S_X9_billOf {G : Gp} {X : Xt} {d : Nat}  {x0 : Nat} {x1 : Int} {Q : Int → Fl → Prop} {S : Shp} {F : Fl} {I : Il} (C : CO G RX9 cX9_billOf 2 X) (M : MX d (some .int) "billOf" X) (hd : 3 ≤ d)  (h : V_X9_billOf x0 x1 S F I Q) : J G X (QD X G (qI fun z S' F' I' => S = S' ∧ I = I' ∧ Q z F') noX) 0 [vr (some x0), vi x1] [] S F I := by
  unfold V_X9_billOf at h
  obtain ⟨d, rfl⟩ : ∃ d9, d = d9 + 1 := ⟨d - 1, by omega⟩
  refine J_aload_n C dX9_billOf_0 rfl rfl ?_
  refine J_aload_n C dX9_billOf_1 rfl rfl ?_
  refine J_iload_n C dX9_billOf_2 rfl rfl ?_
  obtain ⟨hK1, h⟩ := h
  refine K_V C M [vi x1] [vr (some x0)] mi_X9_isCar wg_1526 wg_1528 wg_51 ⟨rfl, by decide⟩ dX9_billOf_3 hK1 rfl rfl (by decide) (Nat.le_of_ble_eq_true rfl) (c_X9_isCar (C.2.2.2.2.2.2.2) (by omega) h) (fun v9 S' F' I' hq9 => ?_) K_no rfl
  clear h
  obtain ⟨z2, rfl, rfl, rfl, rfl, h⟩ := hq9
  refine J_if_eq C dX9_billOf_6 (tgt := 13) rfl (fun c6 => ?_) (fun c6 => ?_)
  · have h := h.1 c6
    refine J_iconst C dX9_billOf_13 (rg_of (by decide)) ?_
    exact S_X9_billOf_14 C M (by omega)  h
  · have h := h.2 c6
    refine J_iconst C dX9_billOf_9 (rg_of (by decide)) ?_
    refine J_goto C dX9_billOf_10 (tgt := 14) rfl ?_
    exact S_X9_billOf_14 C M (by omega)  h
theorem c_X9_billOf {l : Launch} {G : Gp} {d : Nat} {x0 : Nat} {x1 : Int} {S : Shp} {F : Fl} {I : Il} {Q : Int → Fl → Prop} (hl : l.stackTraces = false) (hd : 3 ≤ d) (h : V_X9_billOf x0 x1 S F I Q) : CM l G d yX9_billOf (.code yX9_billOf cX9_billOf 2 (some .int)) [vr (some x0), vi x1] S F I (qI fun z S' F' I' => S = S' ∧ I = I' ∧ Q z F') noX :=
  CM_ofM [vr (some x0), vi x1] hl (by decide +kernel) (kn1 trivial (kn1 trivial kn0)) (Nat.le_of_ble_eq_true rfl) rfl (fun X hX C M => S_X9_billOf C M hd h)
set_option maxRecDepth 20000 in
set_option maxHeartbeats 4000000 in
theorem S_X9_isBlock {G : Gp} {X : Xt} {d : Nat}  {x0 : Nat} {x1 : Int} {Q : Int → Prop} {S : Shp} {F : Fl} {I : Il} (C : CO G RX9 cX9_isBlock 2 X) (M : MX d (some .boolean) "isBlock" X) (hd : 2 ≤ d)  (h : V_X9_isBlock x0 x1 S F I Q) : J G X (QD X G (qI fun z S' F' I' => S = S' ∧ F = F' ∧ I = I' ∧ Q z) noX) 0 [vr (some x0), vi x1] [] S F I := by
  unfold V_X9_isBlock at h
  obtain ⟨d, rfl⟩ : ∃ d9, d = d9 + 1 := ⟨d - 1, by omega⟩
  refine J_iload_n C dX9_isBlock_0 rfl rfl ?_
  refine J_iconst C dX9_isBlock_1 (rg_of (by decide)) ?_
  refine J_aload_n C dX9_isBlock_2 rfl rfl ?_
  obtain ⟨hK1, h⟩ := h
  refine J_getI C fo_10_6 rfl fl_RX9_181 dX9_isBlock_3 hK1 ?_
  refine J_iconst C dX9_isBlock_6 (rg_of (by decide)) ?_
  refine J_isub C dX9_isBlock_7 ?_
  refine K_S C M [vi x1, vi 0, vi (w32 ((F 1006 x0) - 1))] [] mi_X9_in wg_1414 wg_1415 dX9_isBlock_8 rfl rfl (by decide) (Nat.le_of_ble_eq_true rfl) (c_X9_in (C.2.2.2.2.2.2.2) (by omega) h) (fun v9 S' F' I' hq9 => ?_) K_no rfl
  clear h
  obtain ⟨z2, rfl, rfl, rfl, rfl, h⟩ := hq9
  obtain ⟨hb, h⟩ := h
  exact J_zret C dX9_isBlock_11 M.2.2.1 hb ⟨_, rfl, rfl, rfl, rfl, h⟩
theorem c_X9_isBlock {l : Launch} {G : Gp} {d : Nat} {x0 : Nat} {x1 : Int} {S : Shp} {F : Fl} {I : Il} {Q : Int → Prop} (hl : l.stackTraces = false) (hd : 2 ≤ d) (h : V_X9_isBlock x0 x1 S F I Q) : CM l G d yX9_isBlock (.code yX9_isBlock cX9_isBlock 2 (some .boolean)) [vr (some x0), vi x1] S F I (qI fun z S' F' I' => S = S' ∧ F = F' ∧ I = I' ∧ Q z) noX :=
  CM_ofM [vr (some x0), vi x1] hl (by decide +kernel) (kn1 trivial (kn1 trivial kn0)) (Nat.le_of_ble_eq_true rfl) rfl (fun X hX C M => S_X9_isBlock C M hd h)
set_option maxRecDepth 20000 in
set_option maxHeartbeats 4000000 in
theorem S_X9_block_23 {G : Gp} {X : Xt} {d : Nat}  {x0 : Nat} {x1 : Int} {x2 : Int} {s0 : Int} {s1 : Nat} {Q : Int → Fl → Prop} {S : Shp} {F : Fl} {I : Il} (C : CO G RX9 cX9_block 3 X) (M : MX d (some .int) "block" X) (hd : 3 ≤ d)  (h : V_X9_block_23 x0 x1 x2 s0 s1 S F I Q) : J G X (QD X G (qI fun z S' F' I' => S = S' ∧ I = I' ∧ Q z F') noX) 23 [vr (some x0), vi x1, vi x2] [vi s0, vr (some s1)] S F I := by
  unfold V_X9_block_23 at h
  obtain ⟨d, rfl⟩ : ∃ d9, d = d9 + 1 := ⟨d - 1, by omega⟩
  obtain ⟨hK1, h⟩ := h
  refine J_putI C fo_10_0 fp_10 fl_RX9_174 (Or.inl rfl) (Or.inl rfl) dX9_block_23 hK1 ?_
  refine J_aload_n C dX9_block_26 rfl rfl ?_
  obtain ⟨hK2, h⟩ := h
  refine J_getI C fo_10_0 rfl fl_RX9_174 dX9_block_27 hK2 ?_
  refine J_if_le C dX9_block_30 (tgt := 37) rfl (fun c30 => ?_) (fun c30 => ?_)
  · have h := h.1 c30
    refine J_iload_n C dX9_block_37 rfl rfl ?_
    refine J_if_ne C dX9_block_38 (tgt := 50) rfl (fun c38 => ?_) (fun c38 => ?_)
    · have h := h.1 c38
      refine J_iload_n C dX9_block_50 rfl rfl ?_
      refine J_iconst C dX9_block_51 (rg_of (by decide)) ?_
      refine J_icmp_ne C dX9_block_52 (tgt := 71) rfl (fun c52 => ?_) (fun c52 => ?_)
      · have h := h.1 c52
        refine J_aload_n C dX9_block_71 rfl rfl ?_
        obtain ⟨r3, hr4, h⟩ := h
        refine J_getR C fo_10_14 rfl fl_RX9_39 dX9_block_72 hK2 hr4 ?_
        refine J_iload_n C dX9_block_75 rfl rfl ?_
        obtain ⟨hK5, h⟩ := h
        obtain ⟨h06, hn7, h⟩ := h
        refine J_zald C dX9_block_76 hK5 h06 hn7 ?_
        refine J_if_eq C dX9_block_77 (tgt := 84) rfl (fun c77 => ?_) (fun c77 => ?_)
        · have h := h.1 c77
          refine J_iconst C dX9_block_84 (rg_of (by decide)) ?_
          exact J_iret C dX9_block_85 M.2.2.1 ⟨_, rfl, rfl, rfl, h⟩
        · have h := h.2 c77
          refine J_iconst C dX9_block_80 (rg_of (by decide)) ?_
          refine J_goto C dX9_block_81 (tgt := 85) rfl ?_
          exact J_iret C dX9_block_85 M.2.2.1 ⟨_, rfl, rfl, rfl, h⟩
      · have h := h.2 c52
        refine J_aload_n C dX9_block_55 rfl rfl ?_
        refine J_iload_n C dX9_block_56 rfl rfl ?_
        refine K_V C M [vi x1] [] mi_X9_isClosed wg_1445 wg_1447 wg_41 ⟨rfl, by decide⟩ dX9_block_57 hK2 rfl rfl (by decide) (Nat.le_of_ble_eq_true rfl) (c_X9_isClosed (C.2.2.2.2.2.2.2) (by omega) h) (fun v9 S' F' I' hq9 => ?_) K_no rfl
        clear h
        obtain ⟨z8, rfl, rfl, rfl, rfl, h⟩ := hq9
        refine J_if_eq C dX9_block_60 (tgt := 67) rfl (fun c60 => ?_) (fun c60 => ?_)
        · have h := h.1 c60
          refine J_iconst C dX9_block_67 (rg_of (by decide)) ?_
          refine J_goto C dX9_block_68 (tgt := 85) rfl ?_
          exact J_iret C dX9_block_85 M.2.2.1 ⟨_, rfl, rfl, rfl, h⟩
        · have h := h.2 c60
          refine J_iconst C dX9_block_63 (rg_of (by decide)) ?_
          refine J_goto C dX9_block_64 (tgt := 85) rfl ?_
          exact J_iret C dX9_block_85 M.2.2.1 ⟨_, rfl, rfl, rfl, h⟩
    · have h := h.2 c38
      refine J_aload_n C dX9_block_41 rfl rfl ?_
      obtain ⟨r9, hr10, h⟩ := h
      refine J_getR C fo_10_10 rfl fl_RX9_26 dX9_block_42 hK2 hr10 ?_
      refine J_iload_n C dX9_block_45 rfl rfl ?_
      obtain ⟨hK11, h⟩ := h
      obtain ⟨h012, hn13, h⟩ := h
      refine J_iald C dX9_block_46 hK11 h012 hn13 ?_
      refine J_goto C dX9_block_47 (tgt := 85) rfl ?_
      exact J_iret C dX9_block_85 M.2.2.1 ⟨_, rfl, rfl, rfl, h⟩
  · have h := h.2 c30
    refine J_iconst C dX9_block_33 (rg_of (by decide)) ?_
    refine J_goto C dX9_block_34 (tgt := 85) rfl ?_
    exact J_iret C dX9_block_85 M.2.2.1 ⟨_, rfl, rfl, rfl, h⟩
set_option maxRecDepth 20000 in
set_option maxHeartbeats 4000000 in
theorem S_X9_block_22 {G : Gp} {X : Xt} {d : Nat}  {x0 : Nat} {x1 : Int} {x2 : Int} {s0 : Nat} {Q : Int → Fl → Prop} {S : Shp} {F : Fl} {I : Il} (C : CO G RX9 cX9_block 3 X) (M : MX d (some .int) "block" X) (hd : 3 ≤ d)  (h : V_X9_block_22 x0 x1 x2 s0 S F I Q) : J G X (QD X G (qI fun z S' F' I' => S = S' ∧ I = I' ∧ Q z F') noX) 22 [vr (some x0), vi x1, vi x2] [vr (some s0)] S F I := by
  unfold V_X9_block_22 at h
  refine J_iconst C dX9_block_22 (rg_of (by decide)) ?_
  exact S_X9_block_23 C M (by omega)  h
set_option maxRecDepth 20000 in
set_option maxHeartbeats 4000000 in
theorem S_X9_block {G : Gp} {X : Xt} {d : Nat}  {x0 : Nat} {x1 : Int} {x2 : Int} {Q : Int → Fl → Prop} {S : Shp} {F : Fl} {I : Il} (C : CO G RX9 cX9_block 3 X) (M : MX d (some .int) "block" X) (hd : 3 ≤ d)  (h : V_X9_block x0 x1 x2 S F I Q) : J G X (QD X G (qI fun z S' F' I' => S = S' ∧ I = I' ∧ Q z F') noX) 0 [vr (some x0), vi x1, vi x2] [] S F I := by
  unfold V_X9_block at h
  obtain ⟨d, rfl⟩ : ∃ d9, d = d9 + 1 := ⟨d - 1, by omega⟩
  refine J_aload_n C dX9_block_0 rfl rfl ?_
  refine J_aload_n C dX9_block_1 rfl rfl ?_
  refine J_iload_n C dX9_block_2 rfl rfl ?_
  obtain ⟨hK1, h⟩ := h
  refine K_V C M [vi x1] [vr (some x0)] mi_X9_isBlock wg_1429 wg_1431 wg_40 ⟨rfl, by decide⟩ dX9_block_3 hK1 rfl rfl (by decide) (Nat.le_of_ble_eq_true rfl) (c_X9_isBlock (C.2.2.2.2.2.2.2) (by omega) h) (fun v9 S' F' I' hq9 => ?_) K_no rfl
  clear h
  obtain ⟨z2, rfl, rfl, rfl, rfl, h⟩ := hq9
  refine J_if_eq C dX9_block_6 (tgt := 22) rfl (fun c6 => ?_) (fun c6 => ?_)
  · have h := h.1 c6
    exact S_X9_block_22 C M (by omega)  h
  · have h := h.2 c6
    refine J_iload_n C dX9_block_9 rfl rfl ?_
    refine J_iconst C dX9_block_10 (rg_of (by decide)) ?_
    refine J_iconst C dX9_block_11 (rg_of (by decide)) ?_
    refine K_S C M [vi x2, vi 0, vi 2] [vr (some x0)] mi_X9_in wg_1414 wg_1415 dX9_block_12 rfl rfl (by decide) (Nat.le_of_ble_eq_true rfl) (c_X9_in (C.2.2.2.2.2.2.2) (by omega) h) (fun v9 S' F' I' hq9 => ?_) K_no rfl
    clear h
    obtain ⟨z3, rfl, rfl, rfl, rfl, h⟩ := hq9
    refine J_if_eq C dX9_block_15 (tgt := 22) rfl (fun c15 => ?_) (fun c15 => ?_)
    · have h := h.1 c15
      exact S_X9_block_22 C M (by omega)  h
    · have h := h.2 c15
      refine J_iconst C dX9_block_18 (rg_of (by decide)) ?_
      refine J_goto C dX9_block_19 (tgt := 23) rfl ?_
      exact S_X9_block_23 C M (by omega)  h
theorem c_X9_block {l : Launch} {G : Gp} {d : Nat} {x0 : Nat} {x1 : Int} {x2 : Int} {S : Shp} {F : Fl} {I : Il} {Q : Int → Fl → Prop} (hl : l.stackTraces = false) (hd : 3 ≤ d) (h : V_X9_block x0 x1 x2 S F I Q) : CM l G d yX9_block (.code yX9_block cX9_block 3 (some .int)) [vr (some x0), vi x1, vi x2] S F I (qI fun z S' F' I' => S = S' ∧ I = I' ∧ Q z F') noX :=
  CM_ofM [vr (some x0), vi x1, vi x2] hl (by decide +kernel) (kn1 trivial (kn1 trivial (kn1 trivial kn0))) (Nat.le_of_ble_eq_true rfl) rfl (fun X hX C M => S_X9_block C M hd h)
set_option maxRecDepth 20000 in
set_option maxHeartbeats 4000000 in
theorem S_X9_borrow_32 {G : Gp} {X : Xt} {d : Nat}  {x0 : Nat} {x1 : Int} {s0 : Int} {s1 : Nat} {Q : Int → Fl → Prop} {S : Shp} {F : Fl} {I : Il} (C : CO G RX9 cX9_borrow 2 X) (M : MX d (some .int) "borrow" X) (hd : 2 ≤ d)  (h : V_X9_borrow_32 x0 x1 s0 s1 S F I Q) : J G X (QD X G (qI fun z S' F' I' => S = S' ∧ I = I' ∧ Q z F') noX) 32 [vr (some x0), vi x1] [vi s0, vr (some s1)] S F I := by
  unfold V_X9_borrow_32 at h
  obtain ⟨hK1, h⟩ := h
  refine J_putI C fo_10_0 fp_10 fl_RX9_174 (Or.inl rfl) (Or.inl rfl) dX9_borrow_32 hK1 ?_
  refine J_aload_n C dX9_borrow_35 rfl rfl ?_
  obtain ⟨hK2, h⟩ := h
  refine J_getI C fo_10_0 rfl fl_RX9_174 dX9_borrow_36 hK2 ?_
  refine J_if_le C dX9_borrow_39 (tgt := 44) rfl (fun c39 => ?_) (fun c39 => ?_)
  · have h := h.1 c39
    refine J_aload_n C dX9_borrow_44 rfl rfl ?_
    refine J_dup C dX9_borrow_45 trivial ?_
    refine J_getI C fo_10_2 rfl fl_RX9_7 dX9_borrow_46 hK2 ?_
    refine J_iload_n C dX9_borrow_49 rfl rfl ?_
    refine J_iadd C dX9_borrow_50 ?_
    refine J_putI C fo_10_2 fp_10 fl_RX9_7 (Or.inl rfl) (Or.inl rfl) dX9_borrow_51 hK2 ?_
    refine J_aload_n C dX9_borrow_54 rfl rfl ?_
    refine J_dup C dX9_borrow_55 trivial ?_
    refine J_getI C fo_10_3 rfl fl_RX9_230 dX9_borrow_56 hK2 ?_
    refine J_iload_n C dX9_borrow_59 rfl rfl ?_
    refine J_iadd C dX9_borrow_60 ?_
    refine J_putI C fo_10_3 fp_10 fl_RX9_230 (Or.inl rfl) (Or.inl rfl) dX9_borrow_61 hK2 ?_
    refine J_aload_n C dX9_borrow_64 rfl rfl ?_
    refine J_getI C fo_10_3 rfl fl_RX9_230 dX9_borrow_65 hK2 ?_
    exact J_iret C dX9_borrow_68 M.2.2.1 ⟨_, rfl, rfl, rfl, h⟩
  · have h := h.2 c39
    refine J_iconst C dX9_borrow_42 (rg_of (by decide)) ?_
    exact J_iret C dX9_borrow_43 M.2.2.1 ⟨_, rfl, rfl, rfl, h⟩
set_option maxRecDepth 20000 in
set_option maxHeartbeats 4000000 in
theorem S_X9_borrow {G : Gp} {X : Xt} {d : Nat}  {x0 : Nat} {x1 : Int} {Q : Int → Fl → Prop} {S : Shp} {F : Fl} {I : Il} (C : CO G RX9 cX9_borrow 2 X) (M : MX d (some .int) "borrow" X) (hd : 2 ≤ d)  (h : V_X9_borrow x0 x1 S F I Q) : J G X (QD X G (qI fun z S' F' I' => S = S' ∧ I = I' ∧ Q z F') noX) 0 [vr (some x0), vi x1] [] S F I := by
  unfold V_X9_borrow at h
  obtain ⟨d, rfl⟩ : ∃ d9, d = d9 + 1 := ⟨d - 1, by omega⟩
  refine J_aload_n C dX9_borrow_0 rfl rfl ?_
  refine J_iload_n C dX9_borrow_1 rfl rfl ?_
  refine J_iconst C dX9_borrow_2 (rg_of (by decide)) ?_
  refine J_sipush C dX9_borrow_3 (by decide +kernel) (rg_of (by decide)) ?_
  refine K_S C M [vi x1, vi 1, vi 20000] [vr (some x0)] mi_X9_in wg_1414 wg_1415 dX9_borrow_6 rfl rfl (by decide) (Nat.le_of_ble_eq_true rfl) (c_X9_in (C.2.2.2.2.2.2.2) (by omega) h) (fun v9 S' F' I' hq9 => ?_) K_no rfl
  clear h
  obtain ⟨z1, rfl, rfl, rfl, rfl, h⟩ := hq9
  refine J_if_ne C dX9_borrow_9 (tgt := 16) rfl (fun c9 => ?_) (fun c9 => ?_)
  · have h := h.1 c9
    refine J_aload_n C dX9_borrow_16 rfl rfl ?_
    obtain ⟨hK2, h⟩ := h
    refine J_getI C fo_10_3 rfl fl_RX9_230 dX9_borrow_17 hK2 ?_
    refine J_iload_n C dX9_borrow_20 rfl rfl ?_
    refine J_iadd C dX9_borrow_21 ?_
    refine J_ldc C dX9_borrow_22 (z := 50000) wg_1493 (by decide +kernel) (rg_of (by decide)) ?_
    refine J_icmp_le C dX9_borrow_24 (tgt := 31) rfl (fun c24 => ?_) (fun c24 => ?_)
    · have h := h.1 c24
      refine J_iconst C dX9_borrow_31 (rg_of (by decide)) ?_
      exact S_X9_borrow_32 C M (by omega)  h
    · have h := h.2 c24
      refine J_iconst C dX9_borrow_27 (rg_of (by decide)) ?_
      refine J_goto C dX9_borrow_28 (tgt := 32) rfl ?_
      exact S_X9_borrow_32 C M (by omega)  h
  · have h := h.2 c9
    refine J_iconst C dX9_borrow_12 (rg_of (by decide)) ?_
    refine J_goto C dX9_borrow_13 (tgt := 32) rfl ?_
    exact S_X9_borrow_32 C M (by omega)  h
theorem c_X9_borrow {l : Launch} {G : Gp} {d : Nat} {x0 : Nat} {x1 : Int} {S : Shp} {F : Fl} {I : Il} {Q : Int → Fl → Prop} (hl : l.stackTraces = false) (hd : 2 ≤ d) (h : V_X9_borrow x0 x1 S F I Q) : CM l G d yX9_borrow (.code yX9_borrow cX9_borrow 2 (some .int)) [vr (some x0), vi x1] S F I (qI fun z S' F' I' => S = S' ∧ I = I' ∧ Q z F') noX :=
  CM_ofM [vr (some x0), vi x1] hl (by decide +kernel) (kn1 trivial (kn1 trivial kn0)) (Nat.le_of_ble_eq_true rfl) rfl (fun X hX C M => S_X9_borrow C M hd h)
set_option maxRecDepth 20000 in
set_option maxHeartbeats 4000000 in
theorem S_X9_broken {G : Gp} {X : Xt} {d : Nat}  {x0 : Nat} {Q : Int → Fl → Prop} {S : Shp} {F : Fl} {I : Il} (C : CO G RX9 cX9_broken 1 X) (M : MX d (some .int) "broken" X) (hd : 1 ≤ d)  (h : V_X9_broken x0 S F I Q) : J G X (QD X G (qI fun z S' F' I' => S = S' ∧ I = I' ∧ Q z F') noX) 0 [vr (some x0)] [] S F I := by
  unfold V_X9_broken at h
  refine J_aload_n C dX9_broken_0 rfl rfl ?_
  refine J_iconst C dX9_broken_1 (rg_of (by decide)) ?_
  obtain ⟨hK1, h⟩ := h
  refine J_putI C fo_10_0 fp_10 fl_RX9_174 (Or.inl rfl) (Or.inl rfl) dX9_broken_2 hK1 ?_
  refine J_aload_n C dX9_broken_5 rfl rfl ?_
  refine J_getI C fo_10_4 rfl fl_RX9_288 dX9_broken_6 hK1 ?_
  exact J_iret C dX9_broken_9 M.2.2.1 ⟨_, rfl, rfl, rfl, h⟩
theorem c_X9_broken {l : Launch} {G : Gp} {d : Nat} {x0 : Nat} {S : Shp} {F : Fl} {I : Il} {Q : Int → Fl → Prop} (hl : l.stackTraces = false) (hd : 1 ≤ d) (h : V_X9_broken x0 S F I Q) : CM l G d yX9_broken (.code yX9_broken cX9_broken 1 (some .int)) [vr (some x0)] S F I (qI fun z S' F' I' => S = S' ∧ I = I' ∧ Q z F') noX :=
  CM_ofM [vr (some x0)] hl (by decide +kernel) (kn1 trivial kn0) (Nat.le_of_ble_eq_true rfl) rfl (fun X hX C M => S_X9_broken C M hd h)
set_option maxRecDepth 20000 in
set_option maxHeartbeats 4000000 in
theorem S_X9_writes {G : Gp} {X : Xt} {d : Nat}  {x0 : Nat} {x1 : Int} {x2 : Int} {x3 : Int} {Q : Fl → Il → Prop} {S : Shp} {F : Fl} {I : Il} (C : CO G RX9 cX9_writes 4 X) (M : MX d none "writes" X) (hd : 1 ≤ d)  (h : V_X9_writes x0 x1 x2 x3 S F I Q) : J G X (QD X G (qV fun S' F' I' => S = S' ∧ Q F' I') noX) 0 [vr (some x0), vi x1, vi x2, vi x3] [] S F I := by
  unfold V_X9_writes at h
  refine J_aload_n C dX9_writes_0 rfl rfl ?_
  obtain ⟨hK1, h⟩ := h
  obtain ⟨r2, hr3, h⟩ := h
  refine J_getR C fo_10_61 rfl fl_RX9_162 dX9_writes_1 hK1 hr3 ?_
  refine J_aload_n C dX9_writes_4 rfl rfl ?_
  refine J_getI C fo_10_60 rfl fl_RX9_190 dX9_writes_5 hK1 ?_
  refine J_iload_n C dX9_writes_8 rfl rfl ?_
  obtain ⟨hK4, h⟩ := h
  obtain ⟨h05, hn6, h⟩ := h
  refine J_iast C dX9_writes_9 hK4 h05 hn6 ?_
  refine J_aload_n C dX9_writes_10 rfl rfl ?_
  obtain ⟨r7, hr8, h⟩ := h
  refine J_getR C fo_10_62 rfl fl_RX9_165 dX9_writes_11 hK1 hr8 ?_
  refine J_aload_n C dX9_writes_14 rfl rfl ?_
  refine J_getI C fo_10_60 rfl fl_RX9_190 dX9_writes_15 hK1 ?_
  refine J_bipush C dX9_writes_18 (by decide +kernel) (rg_of (by decide)) ?_
  refine J_iload_n C dX9_writes_20 rfl rfl ?_
  refine J_imul C dX9_writes_21 ?_
  refine J_iload_n C dX9_writes_22 rfl rfl ?_
  refine J_iadd C dX9_writes_23 ?_
  obtain ⟨hK9, h⟩ := h
  obtain ⟨h010, hn11, h⟩ := h
  refine J_iast C dX9_writes_24 hK9 h010 hn11 ?_
  refine J_aload_n C dX9_writes_25 rfl rfl ?_
  refine J_dup C dX9_writes_26 trivial ?_
  refine J_getI C fo_10_60 rfl fl_RX9_190 dX9_writes_27 hK1 ?_
  refine J_iconst C dX9_writes_30 (rg_of (by decide)) ?_
  refine J_iadd C dX9_writes_31 ?_
  refine J_putI C fo_10_60 fp_10 fl_RX9_190 (Or.inl rfl) (Or.inl rfl) dX9_writes_32 hK1 ?_
  exact J_vret C dX9_writes_35 M.2.2.1 ⟨rfl, rfl, h⟩
theorem c_X9_writes {l : Launch} {G : Gp} {d : Nat} {x0 : Nat} {x1 : Int} {x2 : Int} {x3 : Int} {S : Shp} {F : Fl} {I : Il} {Q : Fl → Il → Prop} (hl : l.stackTraces = false) (hd : 1 ≤ d) (h : V_X9_writes x0 x1 x2 x3 S F I Q) : CM l G d yX9_writes (.code yX9_writes cX9_writes 4 none) [vr (some x0), vi x1, vi x2, vi x3] S F I (qV fun S' F' I' => S = S' ∧ Q F' I') noX :=
  CM_ofM [vr (some x0), vi x1, vi x2, vi x3] hl (by decide +kernel) (kn1 trivial (kn1 trivial (kn1 trivial (kn1 trivial kn0)))) (Nat.le_of_ble_eq_true rfl) rfl (fun X hX C M => S_X9_writes C M hd h)
set_option maxRecDepth 20000 in
set_option maxHeartbeats 4000000 in
theorem S_X9_comes {G : Gp} {X : Xt} {d : Nat}  {x0 : Nat} {x1 : Int} {x2 : Int} {Q : Fl → Il → Prop} {S : Shp} {F : Fl} {I : Il} (C : CO G RX9 cX9_comes 3 X) (M : MX d none "comes" X) (hd : 2 ≤ d)  (h : V_X9_comes x0 x1 x2 S F I Q) : J G X (QD X G (qV fun S' F' I' => S = S' ∧ Q F' I') noX) 0 [vr (some x0), vi x1, vi x2] [] S F I := by
  unfold V_X9_comes at h
  obtain ⟨d, rfl⟩ : ∃ d9, d = d9 + 1 := ⟨d - 1, by omega⟩
  refine J_aload_n C dX9_comes_0 rfl rfl ?_
  obtain ⟨hK1, h⟩ := h
  obtain ⟨r2, hr3, h⟩ := h
  refine J_getR C fo_10_32 rfl fl_RX9_84 dX9_comes_1 hK1 hr3 ?_
  refine J_iload_n C dX9_comes_4 rfl rfl ?_
  refine J_iconst C dX9_comes_5 (rg_of (by decide)) ?_
  obtain ⟨hK4, h⟩ := h
  obtain ⟨h05, hn6, h⟩ := h
  refine J_iast C dX9_comes_6 hK4 h05 hn6 ?_
  refine J_aload_n C dX9_comes_7 rfl rfl ?_
  obtain ⟨r7, hr8, h⟩ := h
  refine J_getR C fo_10_31 rfl fl_RX9_81 dX9_comes_8 hK1 hr8 ?_
  refine J_iload_n C dX9_comes_11 rfl rfl ?_
  refine J_iload_n C dX9_comes_12 rfl rfl ?_
  obtain ⟨hK9, h⟩ := h
  obtain ⟨h010, hn11, h⟩ := h
  refine J_iast C dX9_comes_13 hK9 h010 hn11 ?_
  refine J_aload_n C dX9_comes_14 rfl rfl ?_
  obtain ⟨r12, hr13, h⟩ := h
  refine J_getR C fo_10_34 rfl fl_RX9_90 dX9_comes_15 hK1 hr13 ?_
  refine J_bipush C dX9_comes_18 (by decide +kernel) (rg_of (by decide)) ?_
  refine J_iload_n C dX9_comes_20 rfl rfl ?_
  refine J_imul C dX9_comes_21 ?_
  refine J_aload_n C dX9_comes_22 rfl rfl ?_
  obtain ⟨r14, hr15, h⟩ := h
  refine J_getR C fo_10_35 rfl fl_RX9_93 dX9_comes_23 hK1 hr15 ?_
  refine J_iload_n C dX9_comes_26 rfl rfl ?_
  obtain ⟨hK16, h⟩ := h
  obtain ⟨h017, hn18, h⟩ := h
  refine J_iald C dX9_comes_27 hK16 h017 hn18 ?_
  refine J_iadd C dX9_comes_28 ?_
  refine J_iload_n C dX9_comes_29 rfl rfl ?_
  obtain ⟨hK19, h⟩ := h
  obtain ⟨h020, hn21, h⟩ := h
  refine J_iast C dX9_comes_30 hK19 h020 hn21 ?_
  refine J_aload_n C dX9_comes_31 rfl rfl ?_
  refine J_getR C fo_10_35 rfl fl_RX9_93 dX9_comes_32 hK1 hr15 ?_
  refine J_iload_n C dX9_comes_35 rfl rfl ?_
  refine J_dup2 C dX9_comes_36 trivial trivial ?_
  obtain ⟨h022, hn23, h⟩ := h
  refine J_iald C dX9_comes_37 hK16 h022 hn23 ?_
  refine J_iconst C dX9_comes_38 (rg_of (by decide)) ?_
  refine J_iadd C dX9_comes_39 ?_
  obtain ⟨h024, hn25, h⟩ := h
  refine J_iast C dX9_comes_40 hK16 h024 hn25 ?_
  refine J_aload_n C dX9_comes_41 rfl rfl ?_
  refine J_iload_n C dX9_comes_42 rfl rfl ?_
  refine J_iconst C dX9_comes_43 (rg_of (by decide)) ?_
  refine J_iload_n C dX9_comes_44 rfl rfl ?_
  refine K_V C M [vi x1, vi 0, vi x2] [] mi_X9_writes wg_1485 wg_1487 wg_46 ⟨rfl, by decide⟩ dX9_comes_45 hK1 rfl rfl (by decide) (Nat.le_of_ble_eq_true rfl) (c_X9_writes (C.2.2.2.2.2.2.2) (by omega) h) (fun v9 S' F26 I27 hq9 => ?_) K_no rfl
  clear h
  obtain ⟨rfl, rfl, h⟩ := hq9
  exact J_vret C dX9_comes_48 M.2.2.1 ⟨rfl, rfl, h⟩
theorem c_X9_comes {l : Launch} {G : Gp} {d : Nat} {x0 : Nat} {x1 : Int} {x2 : Int} {S : Shp} {F : Fl} {I : Il} {Q : Fl → Il → Prop} (hl : l.stackTraces = false) (hd : 2 ≤ d) (h : V_X9_comes x0 x1 x2 S F I Q) : CM l G d yX9_comes (.code yX9_comes cX9_comes 3 none) [vr (some x0), vi x1, vi x2] S F I (qV fun S' F' I' => S = S' ∧ Q F' I') noX :=
  CM_ofM [vr (some x0), vi x1, vi x2] hl (by decide +kernel) (kn1 trivial (kn1 trivial (kn1 trivial kn0))) (Nat.le_of_ble_eq_true rfl) rfl (fun X hX C M => S_X9_comes C M hd h)
set_option maxRecDepth 20000 in
set_option maxHeartbeats 4000000 in
theorem S_X9_car_26 {G : Gp} {X : Xt} {d : Nat}  {x0 : Nat} {x1 : Int} {s0 : Int} {s1 : Nat} {Q : Int → Fl → Il → Prop} {S : Shp} {F : Fl} {I : Il} (C : CO G RX9 cX9_car 3 X) (M : MX d (some .int) "car" X) (hd : 3 ≤ d)  (h : V_X9_car_26 x0 x1 s0 s1 S F I Q) : J G X (QD X G (qI fun z S' F' I' => S = S' ∧ Q z F' I') noX) 26 [vr (some x0), vi x1, vl 0] [vi s0, vr (some s1)] S F I := by
  unfold V_X9_car_26 at h
  obtain ⟨d, rfl⟩ : ∃ d9, d = d9 + 1 := ⟨d - 1, by omega⟩
  obtain ⟨hK1, h⟩ := h
  refine J_putI C fo_10_0 fp_10 fl_RX9_174 (Or.inl rfl) (Or.inl rfl) dX9_car_26 hK1 ?_
  refine J_aload_n C dX9_car_29 rfl rfl ?_
  obtain ⟨hK2, h⟩ := h
  refine J_getI C fo_10_0 rfl fl_RX9_174 dX9_car_30 hK2 ?_
  refine J_if_le C dX9_car_33 (tgt := 38) rfl (fun c33 => ?_) (fun c33 => ?_)
  · have h := h.1 c33
    refine J_aload_n C dX9_car_38 rfl rfl ?_
    refine J_getI C fo_10_29 rfl fl_RX9_184 dX9_car_39 hK2 ?_
    refine K_istore_n C [vr (some x0), vi x1, vi ((u2 F 1000 s1 s0) 1029 x0)] dX9_car_42 rfl (Nat.le_of_ble_eq_true rfl) rfl ?_
    refine J_aload_n C dX9_car_43 rfl rfl ?_
    refine J_dup C dX9_car_44 trivial ?_
    refine J_getI C fo_10_29 rfl fl_RX9_184 dX9_car_45 hK2 ?_
    refine J_iconst C dX9_car_48 (rg_of (by decide)) ?_
    refine J_iadd C dX9_car_49 ?_
    refine J_putI C fo_10_29 fp_10 fl_RX9_184 (Or.inl rfl) (Or.inl rfl) dX9_car_50 hK2 ?_
    refine J_aload_n C dX9_car_53 rfl rfl ?_
    obtain ⟨r3, hr4, h⟩ := h
    refine J_getR C fo_10_30 rfl fl_RX9_78 dX9_car_54 hK2 hr4 ?_
    refine J_iload_n C dX9_car_57 rfl rfl ?_
    refine J_iload_n C dX9_car_58 rfl rfl ?_
    obtain ⟨hK5, h⟩ := h
    obtain ⟨h06, hn7, h⟩ := h
    refine J_iast C dX9_car_59 hK5 h06 hn7 ?_
    refine J_aload_n C dX9_car_60 rfl rfl ?_
    obtain ⟨r8, hr9, h⟩ := h
    refine J_getR C fo_10_33 rfl fl_RX9_87 dX9_car_61 hK2 hr9 ?_
    refine J_iload_n C dX9_car_64 rfl rfl ?_
    refine J_iconst C dX9_car_65 (rg_of (by decide)) ?_
    obtain ⟨hK10, h⟩ := h
    obtain ⟨h011, hn12, h⟩ := h
    refine J_iast C dX9_car_66 hK10 h011 hn12 ?_
    refine J_aload_n C dX9_car_67 rfl rfl ?_
    refine J_dup C dX9_car_68 trivial ?_
    refine J_getI C fo_10_2 rfl fl_RX9_7 dX9_car_69 hK2 ?_
    refine J_bipush C dX9_car_72 (by decide +kernel) (rg_of (by decide)) ?_
    refine J_isub C dX9_car_74 ?_
    refine J_putI C fo_10_2 fp_10 fl_RX9_7 (Or.inl rfl) (Or.inl rfl) dX9_car_75 hK2 ?_
    refine J_aload_n C dX9_car_78 rfl rfl ?_
    refine J_iload_n C dX9_car_79 rfl rfl ?_
    refine J_iload_n C dX9_car_80 rfl rfl ?_
    refine K_V C M [vi ((u2 F 1000 s1 s0) 1029 x0), vi x1] [] mi_X9_comes wg_1481 wg_1483 wg_45 ⟨rfl, by decide⟩ dX9_car_81 hK2 rfl rfl (by decide) (Nat.le_of_ble_eq_true rfl) (c_X9_comes (C.2.2.2.2.2.2.2) (by omega) h) (fun v9 S' F13 I14 hq9 => ?_) K_no rfl
    clear h
    obtain ⟨rfl, rfl, h⟩ := hq9
    refine J_iload_n C dX9_car_84 rfl rfl ?_
    exact J_iret C dX9_car_85 M.2.2.1 ⟨_, rfl, rfl, h⟩
  · have h := h.2 c33
    refine J_iconst C dX9_car_36 (rg_of (by decide)) ?_
    exact J_iret C dX9_car_37 M.2.2.1 ⟨_, rfl, rfl, h⟩
set_option maxRecDepth 20000 in
set_option maxHeartbeats 4000000 in
theorem S_X9_car {G : Gp} {X : Xt} {d : Nat}  {x0 : Nat} {x1 : Int} {Q : Int → Fl → Il → Prop} {S : Shp} {F : Fl} {I : Il} (C : CO G RX9 cX9_car 3 X) (M : MX d (some .int) "car" X) (hd : 3 ≤ d)  (h : V_X9_car x0 x1 S F I Q) : J G X (QD X G (qI fun z S' F' I' => S = S' ∧ Q z F' I') noX) 0 [vr (some x0), vi x1, vl 0] [] S F I := by
  unfold V_X9_car at h
  obtain ⟨d, rfl⟩ : ∃ d9, d = d9 + 1 := ⟨d - 1, by omega⟩
  refine J_aload_n C dX9_car_0 rfl rfl ?_
  refine J_iload_n C dX9_car_1 rfl rfl ?_
  refine K_S C M [vi x1] [vr (some x0)] mi_X9_isStation wg_1411 wg_1412 dX9_car_2 rfl rfl (by decide) (Nat.le_of_ble_eq_true rfl) (c_X9_isStation (C.2.2.2.2.2.2.2) (by omega) h) (fun v9 S' F' I' hq9 => ?_) K_no rfl
  clear h
  obtain ⟨z1, rfl, rfl, rfl, rfl, h⟩ := hq9
  refine J_if_ne C dX9_car_5 (tgt := 12) rfl (fun c5 => ?_) (fun c5 => ?_)
  · have h := h.1 c5
    refine J_aload_n C dX9_car_12 rfl rfl ?_
    obtain ⟨hK2, h⟩ := h
    refine J_getI C fo_10_29 rfl fl_RX9_184 dX9_car_13 hK2 ?_
    refine J_bipush C dX9_car_16 (by decide +kernel) (rg_of (by decide)) ?_
    refine J_icmp_ne C dX9_car_18 (tgt := 25) rfl (fun c18 => ?_) (fun c18 => ?_)
    · have h := h.1 c18
      refine J_iconst C dX9_car_25 (rg_of (by decide)) ?_
      exact S_X9_car_26 C M (by omega)  h
    · have h := h.2 c18
      refine J_iconst C dX9_car_21 (rg_of (by decide)) ?_
      refine J_goto C dX9_car_22 (tgt := 26) rfl ?_
      exact S_X9_car_26 C M (by omega)  h
  · have h := h.2 c5
    refine J_iconst C dX9_car_8 (rg_of (by decide)) ?_
    refine J_goto C dX9_car_9 (tgt := 26) rfl ?_
    exact S_X9_car_26 C M (by omega)  h
theorem c_X9_car {l : Launch} {G : Gp} {d : Nat} {x0 : Nat} {x1 : Int} {S : Shp} {F : Fl} {I : Il} {Q : Int → Fl → Il → Prop} (hl : l.stackTraces = false) (hd : 3 ≤ d) (h : V_X9_car x0 x1 S F I Q) : CM l G d yX9_car (.code yX9_car cX9_car 3 (some .int)) [vr (some x0), vi x1] S F I (qI fun z S' F' I' => S = S' ∧ Q z F' I') noX :=
  CM_ofM [vr (some x0), vi x1, vl 0] hl (by decide +kernel) (kn1 trivial (kn1 trivial kn0)) (Nat.le_of_ble_eq_true rfl) rfl (fun X hX C M => S_X9_car C M hd h)
set_option maxRecDepth 20000 in
set_option maxHeartbeats 4000000 in
theorem S_X9_carAt_14 {G : Gp} {X : Xt} {d : Nat}  {x0 : Nat} {x1 : Int} {s0 : Int} {s1 : Nat} {Q : Int → Fl → Prop} {S : Shp} {F : Fl} {I : Il} (C : CO G RX9 cX9_carAt 2 X) (M : MX d (some .int) "carAt" X) (hd : 3 ≤ d)  (h : V_X9_carAt_14 x0 x1 s0 s1 S F I Q) : J G X (QD X G (qI fun z S' F' I' => S = S' ∧ I = I' ∧ Q z F') noX) 14 [vr (some x0), vi x1] [vi s0, vr (some s1)] S F I := by
  unfold V_X9_carAt_14 at h
  obtain ⟨hK1, h⟩ := h
  refine J_putI C fo_10_0 fp_10 fl_RX9_174 (Or.inl rfl) (Or.inl rfl) dX9_carAt_14 hK1 ?_
  refine J_aload_n C dX9_carAt_17 rfl rfl ?_
  obtain ⟨hK2, h⟩ := h
  refine J_getI C fo_10_0 rfl fl_RX9_174 dX9_carAt_18 hK2 ?_
  refine J_if_le C dX9_carAt_21 (tgt := 28) rfl (fun c21 => ?_) (fun c21 => ?_)
  · have h := h.1 c21
    refine J_aload_n C dX9_carAt_28 rfl rfl ?_
    obtain ⟨r3, hr4, h⟩ := h
    refine J_getR C fo_10_32 rfl fl_RX9_84 dX9_carAt_29 hK2 hr4 ?_
    refine J_iload_n C dX9_carAt_32 rfl rfl ?_
    obtain ⟨hK5, h⟩ := h
    obtain ⟨h06, hn7, h⟩ := h
    refine J_iald C dX9_carAt_33 hK5 h06 hn7 ?_
    refine J_iconst C dX9_carAt_34 (rg_of (by decide)) ?_
    refine J_icmp_eq C dX9_carAt_35 (tgt := 50) rfl (fun c35 => ?_) (fun c35 => ?_)
    · have h := h.1 c35
      refine J_aload_n C dX9_carAt_50 rfl rfl ?_
      obtain ⟨r8, hr9, h⟩ := h
      refine J_getR C fo_10_31 rfl fl_RX9_81 dX9_carAt_51 hK2 hr9 ?_
      refine J_iload_n C dX9_carAt_54 rfl rfl ?_
      obtain ⟨hK10, h⟩ := h
      obtain ⟨h011, hn12, h⟩ := h
      refine J_iald C dX9_carAt_55 hK10 h011 hn12 ?_
      exact J_iret C dX9_carAt_56 M.2.2.1 ⟨_, rfl, rfl, rfl, h⟩
    · have h := h.2 c35
      refine J_bipush C dX9_carAt_38 (by decide +kernel) (rg_of (by decide)) ?_
      refine J_aload_n C dX9_carAt_40 rfl rfl ?_
      refine J_getR C fo_10_32 rfl fl_RX9_84 dX9_carAt_41 hK2 hr4 ?_
      refine J_iload_n C dX9_carAt_44 rfl rfl ?_
      obtain ⟨h013, hn14, h⟩ := h
      refine J_iald C dX9_carAt_45 hK5 h013 hn14 ?_
      refine J_iadd C dX9_carAt_46 ?_
      refine J_goto C dX9_carAt_47 (tgt := 56) rfl ?_
      exact J_iret C dX9_carAt_56 M.2.2.1 ⟨_, rfl, rfl, rfl, h⟩
  · have h := h.2 c21
    refine J_iconst C dX9_carAt_24 (rg_of (by decide)) ?_
    refine J_goto C dX9_carAt_25 (tgt := 56) rfl ?_
    exact J_iret C dX9_carAt_56 M.2.2.1 ⟨_, rfl, rfl, rfl, h⟩
set_option maxRecDepth 20000 in
set_option maxHeartbeats 4000000 in
theorem S_X9_carAt {G : Gp} {X : Xt} {d : Nat}  {x0 : Nat} {x1 : Int} {Q : Int → Fl → Prop} {S : Shp} {F : Fl} {I : Il} (C : CO G RX9 cX9_carAt 2 X) (M : MX d (some .int) "carAt" X) (hd : 3 ≤ d)  (h : V_X9_carAt x0 x1 S F I Q) : J G X (QD X G (qI fun z S' F' I' => S = S' ∧ I = I' ∧ Q z F') noX) 0 [vr (some x0), vi x1] [] S F I := by
  unfold V_X9_carAt at h
  obtain ⟨d, rfl⟩ : ∃ d9, d = d9 + 1 := ⟨d - 1, by omega⟩
  refine J_aload_n C dX9_carAt_0 rfl rfl ?_
  refine J_aload_n C dX9_carAt_1 rfl rfl ?_
  refine J_iload_n C dX9_carAt_2 rfl rfl ?_
  obtain ⟨hK1, h⟩ := h
  refine K_V C M [vi x1] [vr (some x0)] mi_X9_isCar wg_1526 wg_1528 wg_51 ⟨rfl, by decide⟩ dX9_carAt_3 hK1 rfl rfl (by decide) (Nat.le_of_ble_eq_true rfl) (c_X9_isCar (C.2.2.2.2.2.2.2) (by omega) h) (fun v9 S' F' I' hq9 => ?_) K_no rfl
  clear h
  obtain ⟨z2, rfl, rfl, rfl, rfl, h⟩ := hq9
  refine J_if_eq C dX9_carAt_6 (tgt := 13) rfl (fun c6 => ?_) (fun c6 => ?_)
  · have h := h.1 c6
    refine J_iconst C dX9_carAt_13 (rg_of (by decide)) ?_
    exact S_X9_carAt_14 C M (by omega)  h
  · have h := h.2 c6
    refine J_iconst C dX9_carAt_9 (rg_of (by decide)) ?_
    refine J_goto C dX9_carAt_10 (tgt := 14) rfl ?_
    exact S_X9_carAt_14 C M (by omega)  h
theorem c_X9_carAt {l : Launch} {G : Gp} {d : Nat} {x0 : Nat} {x1 : Int} {S : Shp} {F : Fl} {I : Il} {Q : Int → Fl → Prop} (hl : l.stackTraces = false) (hd : 3 ≤ d) (h : V_X9_carAt x0 x1 S F I Q) : CM l G d yX9_carAt (.code yX9_carAt cX9_carAt 2 (some .int)) [vr (some x0), vi x1] S F I (qI fun z S' F' I' => S = S' ∧ I = I' ∧ Q z F') noX :=
  CM_ofM [vr (some x0), vi x1] hl (by decide +kernel) (kn1 trivial (kn1 trivial kn0)) (Nat.le_of_ble_eq_true rfl) rfl (fun X hX C M => S_X9_carAt C M hd h)
set_option maxRecDepth 20000 in
set_option maxHeartbeats 4000000 in
theorem S_X9_carByPapers {G : Gp} {X : Xt} {d : Nat}  {x0 : Nat} {x1 : Int} {Q : Int → Fl → Prop} {S : Shp} {F : Fl} {I : Il} (C : CO G RX9 cX9_carByPapers 2 X) (M : MX d (some .int) "carByPapers" X) (hd : 4 ≤ d)  (h : V_X9_carByPapers x0 x1 S F I Q) : J G X (QD X G (qI fun z S' F' I' => S = S' ∧ I = I' ∧ Q z F') noX) 0 [vr (some x0), vi x1] [] S F I := by
  unfold V_X9_carByPapers at h
  obtain ⟨d, rfl⟩ : ∃ d9, d = d9 + 1 := ⟨d - 1, by omega⟩
  refine J_aload_n C dX9_carByPapers_0 rfl rfl ?_
  refine J_iload_n C dX9_carByPapers_1 rfl rfl ?_
  obtain ⟨hK1, h⟩ := h
  refine K_V C M [vi x1] [] mi_X9_carAt wg_1683 wg_1676 wg_1677 ⟨rfl, by decide⟩ dX9_carByPapers_2 hK1 rfl rfl (by decide) (Nat.le_of_ble_eq_true rfl) (c_X9_carAt (C.2.2.2.2.2.2.2) (by omega) h) (fun v9 S' F3 I' hq9 => ?_) K_no rfl
  clear h
  obtain ⟨z2, rfl, rfl, rfl, h⟩ := hq9
  exact J_iret C dX9_carByPapers_5 M.2.2.1 ⟨_, rfl, rfl, rfl, h⟩
theorem c_X9_carByPapers {l : Launch} {G : Gp} {d : Nat} {x0 : Nat} {x1 : Int} {S : Shp} {F : Fl} {I : Il} {Q : Int → Fl → Prop} (hl : l.stackTraces = false) (hd : 4 ≤ d) (h : V_X9_carByPapers x0 x1 S F I Q) : CM l G d yX9_carByPapers (.code yX9_carByPapers cX9_carByPapers 2 (some .int)) [vr (some x0), vi x1] S F I (qI fun z S' F' I' => S = S' ∧ I = I' ∧ Q z F') noX :=
  CM_ofM [vr (some x0), vi x1] hl (by decide +kernel) (kn1 trivial (kn1 trivial kn0)) (Nat.le_of_ble_eq_true rfl) rfl (fun X hX C M => S_X9_carByPapers C M hd h)
set_option maxRecDepth 20000 in
set_option maxHeartbeats 4000000 in
theorem S_X9_cash {G : Gp} {X : Xt} {d : Nat}  {x0 : Nat} {Q : Int → Fl → Prop} {S : Shp} {F : Fl} {I : Il} (C : CO G RX9 cX9_cash 1 X) (M : MX d (some .int) "cash" X) (hd : 1 ≤ d)  (h : V_X9_cash x0 S F I Q) : J G X (QD X G (qI fun z S' F' I' => S = S' ∧ I = I' ∧ Q z F') noX) 0 [vr (some x0)] [] S F I := by
  unfold V_X9_cash at h
  refine J_aload_n C dX9_cash_0 rfl rfl ?_
  refine J_iconst C dX9_cash_1 (rg_of (by decide)) ?_
  obtain ⟨hK1, h⟩ := h
  refine J_putI C fo_10_0 fp_10 fl_RX9_174 (Or.inl rfl) (Or.inl rfl) dX9_cash_2 hK1 ?_
  refine J_aload_n C dX9_cash_5 rfl rfl ?_
  refine J_getI C fo_10_2 rfl fl_RX9_7 dX9_cash_6 hK1 ?_
  exact J_iret C dX9_cash_9 M.2.2.1 ⟨_, rfl, rfl, rfl, h⟩
theorem c_X9_cash {l : Launch} {G : Gp} {d : Nat} {x0 : Nat} {S : Shp} {F : Fl} {I : Il} {Q : Int → Fl → Prop} (hl : l.stackTraces = false) (hd : 1 ≤ d) (h : V_X9_cash x0 S F I Q) : CM l G d yX9_cash (.code yX9_cash cX9_cash 1 (some .int)) [vr (some x0)] S F I (qI fun z S' F' I' => S = S' ∧ I = I' ∧ Q z F') noX :=
  CM_ofM [vr (some x0)] hl (by decide +kernel) (kn1 trivial kn0) (Nat.le_of_ble_eq_true rfl) rfl (fun X hX C M => S_X9_cash C M hd h)
set_option maxRecDepth 20000 in
set_option maxHeartbeats 4000000 in
theorem S_X9_ends {G : Gp} {X : Xt} {d : Nat}  {x0 : Nat} {x1 : Int} {x2 : Int} {Q : Il → Prop} {S : Shp} {F : Fl} {I : Il} (C : CO G RX9 cX9_ends 3 X) (M : MX d none "ends" X) (hd : 1 ≤ d)  (h : V_X9_ends x0 x1 x2 S F I Q) : J G X (QD X G (qV fun S' F' I' => S = S' ∧ F = F' ∧ Q I') noX) 0 [vr (some x0), vi x1, vi x2] [] S F I := by
  unfold V_X9_ends at h
  refine J_aload_n C dX9_ends_0 rfl rfl ?_
  obtain ⟨hK1, h⟩ := h
  obtain ⟨r2, hr3, h⟩ := h
  refine J_getR C fo_10_36 rfl fl_RX9_96 dX9_ends_1 hK1 hr3 ?_
  refine J_iload_n C dX9_ends_4 rfl rfl ?_
  refine J_iconst C dX9_ends_5 (rg_of (by decide)) ?_
  obtain ⟨hK4, h⟩ := h
  obtain ⟨h05, hn6, h⟩ := h
  refine J_zast C dX9_ends_6 hK4 h05 hn6 (by decide) ?_
  refine J_aload_n C dX9_ends_7 rfl rfl ?_
  obtain ⟨r7, hr8, h⟩ := h
  refine J_getR C fo_10_22 rfl fl_RX9_60 dX9_ends_8 hK1 hr8 ?_
  refine J_aload_n C dX9_ends_11 rfl rfl ?_
  obtain ⟨r9, hr10, h⟩ := h
  refine J_getR C fo_10_37 rfl fl_RX9_99 dX9_ends_12 hK1 hr10 ?_
  refine J_iload_n C dX9_ends_15 rfl rfl ?_
  obtain ⟨hK11, h⟩ := h
  obtain ⟨h012, hn13, h⟩ := h
  refine J_iald C dX9_ends_16 hK11 h012 hn13 ?_
  refine J_iconst C dX9_ends_17 (rg_of (by decide)) ?_
  obtain ⟨hK14, h⟩ := h
  obtain ⟨h015, hn16, h⟩ := h
  refine J_iast C dX9_ends_18 hK14 h015 hn16 ?_
  refine J_aload_n C dX9_ends_19 rfl rfl ?_
  obtain ⟨r17, hr18, h⟩ := h
  refine J_getR C fo_10_21 rfl fl_RX9_57 dX9_ends_20 hK1 hr18 ?_
  refine J_aload_n C dX9_ends_23 rfl rfl ?_
  refine J_getR C fo_10_37 rfl fl_RX9_99 dX9_ends_24 hK1 hr10 ?_
  refine J_iload_n C dX9_ends_27 rfl rfl ?_
  obtain ⟨h019, hn20, h⟩ := h
  refine J_iald C dX9_ends_28 hK11 h019 hn20 ?_
  refine J_iload_n C dX9_ends_29 rfl rfl ?_
  obtain ⟨hK21, h⟩ := h
  obtain ⟨h022, hn23, h⟩ := h
  refine J_iast C dX9_ends_30 hK21 h022 hn23 ?_
  refine J_aload_n C dX9_ends_31 rfl rfl ?_
  obtain ⟨r24, hr25, h⟩ := h
  refine J_getR C fo_10_25 rfl fl_RX9_66 dX9_ends_32 hK1 hr25 ?_
  refine J_aload_n C dX9_ends_35 rfl rfl ?_
  obtain ⟨r26, hr27, h⟩ := h
  refine J_getR C fo_10_38 rfl fl_RX9_102 dX9_ends_36 hK1 hr27 ?_
  refine J_iload_n C dX9_ends_39 rfl rfl ?_
  obtain ⟨hK28, h⟩ := h
  obtain ⟨h029, hn30, h⟩ := h
  refine J_iald C dX9_ends_40 hK28 h029 hn30 ?_
  refine J_iconst C dX9_ends_41 (rg_of (by decide)) ?_
  obtain ⟨hK31, h⟩ := h
  obtain ⟨h032, hn33, h⟩ := h
  refine J_iast C dX9_ends_42 hK31 h032 hn33 ?_
  refine J_aload_n C dX9_ends_43 rfl rfl ?_
  obtain ⟨r34, hr35, h⟩ := h
  refine J_getR C fo_10_24 rfl fl_RX9_63 dX9_ends_44 hK1 hr35 ?_
  refine J_aload_n C dX9_ends_47 rfl rfl ?_
  refine J_getR C fo_10_38 rfl fl_RX9_102 dX9_ends_48 hK1 hr27 ?_
  refine J_iload_n C dX9_ends_51 rfl rfl ?_
  obtain ⟨h036, hn37, h⟩ := h
  refine J_iald C dX9_ends_52 hK28 h036 hn37 ?_
  refine J_iload_n C dX9_ends_53 rfl rfl ?_
  obtain ⟨hK38, h⟩ := h
  obtain ⟨h039, hn40, h⟩ := h
  refine J_iast C dX9_ends_54 hK38 h039 hn40 ?_
  exact J_vret C dX9_ends_55 M.2.2.1 ⟨rfl, rfl, rfl, h⟩
theorem c_X9_ends {l : Launch} {G : Gp} {d : Nat} {x0 : Nat} {x1 : Int} {x2 : Int} {S : Shp} {F : Fl} {I : Il} {Q : Il → Prop} (hl : l.stackTraces = false) (hd : 1 ≤ d) (h : V_X9_ends x0 x1 x2 S F I Q) : CM l G d yX9_ends (.code yX9_ends cX9_ends 3 none) [vr (some x0), vi x1, vi x2] S F I (qV fun S' F' I' => S = S' ∧ F = F' ∧ Q I') noX :=
  CM_ofM [vr (some x0), vi x1, vi x2] hl (by decide +kernel) (kn1 trivial (kn1 trivial (kn1 trivial kn0))) (Nat.le_of_ble_eq_true rfl) rfl (fun X hX C M => S_X9_ends C M hd h)
set_option maxRecDepth 20000 in
set_option maxHeartbeats 4000000 in
theorem S_X9_clear_164 {G : Gp} {X : Xt} {d : Nat} {k69 : Nat → Int → Int → Int → Fl → Il → Prop} {x0 : Nat} {x1 : Int} {x2 : Int} {x3 : Int} {Q : Int → Fl → Il → Prop} {S : Shp} {F : Fl} {I : Il} (C : CO G RX9 cX9_clear 5 X) (M : MX d (some .int) "clear" X) (hd : 3 ≤ d) (hk69 : ∀ (x0 : Nat) (x1 : Int) (x2 : Int) (x3 : Int) (F' : Fl) (I' : Il), k69 x0 x1 x2 x3 F' I' → J G X (QD X G (qI fun z S' F' I' => S = S' ∧ Q z F' I') noX) 69 [vr (some x0), vi x1, vi x2, vi x3, vl 0] [] S F' I') (h : V_X9_clear_164 k69 x0 x1 x2 x3 S F I Q) : J G X (QD X G (qI fun z S' F' I' => S = S' ∧ Q z F' I') noX) 164 [vr (some x0), vi x1, vi x2, vi x3, vl 0] [] S F I := by
  unfold V_X9_clear_164 at h
  refine K_iinc C [vr (some x0), vi x1, vi x2, vi (w32 (x3 + 1)), vl 0] dX9_clear_164 rfl rfl ?_
  refine J_goto C dX9_clear_167 (tgt := 69) rfl ?_
  exact hk69 x0 x1 x2 (w32 (x3 + 1)) F I h
set_option maxRecDepth 20000 in
set_option maxHeartbeats 4000000 in
theorem S_X9_clear_120 {G : Gp} {X : Xt} {d : Nat} {k69 : Nat → Int → Int → Int → Fl → Il → Prop} {S : Shp} {Q : Int → Fl → Il → Prop} (C : CO G RX9 cX9_clear 5 X) (M : MX d (some .int) "clear" X) (hd : 3 ≤ d) (n9 : Nat) (hk69 : ∀ (x0 : Nat) (x1 : Int) (x2 : Int) (x3 : Int) (F' : Fl) (I' : Il), k69 x0 x1 x2 x3 F' I' → J G X (QD X G (qI fun z S' F' I' => S = S' ∧ Q z F' I') noX) 69 [vr (some x0), vi x1, vi x2, vi x3, vl 0] [] S F' I') : ∀ (x0 : Nat) (x1 : Int) (x2 : Int) (x3 : Int) (x4 : Int) (F : Fl) (I : Il), V_X9_clear_120 n9 k69 x0 x1 x2 x3 x4 S F I Q → J G X (QD X G (qI fun z S' F' I' => S = S' ∧ Q z F' I') noX) 120 [vr (some x0), vi x1, vi x2, vi x3, vi x4] [] S F I := by
  obtain ⟨d, rfl⟩ : ∃ d9, d = d9 + 1 := ⟨d - 1, by omega⟩
  induction n9 with
  | zero => intro x0 x1 x2 x3 x4 F I h; exact h.elim
  | succ n ih =>
    intro x0 x1 x2 x3 x4 F I h
    unfold V_X9_clear_120 at h
    refine J_iload C dX9_clear_120 rfl ?_
    refine J_aload_n C dX9_clear_122 rfl rfl ?_
    obtain ⟨hK1, h⟩ := h
    obtain ⟨r2, hr3, h⟩ := h
    refine J_getR C fo_10_44 rfl fl_RX9_120 dX9_clear_123 hK1 hr3 ?_
    refine J_iload_n C dX9_clear_126 rfl rfl ?_
    obtain ⟨hK4, h⟩ := h
    obtain ⟨h05, hn6, h⟩ := h
    refine J_iald C dX9_clear_127 hK4 h05 hn6 ?_
    refine J_icmp_ge C dX9_clear_128 (tgt := 161) rfl (fun c128 => ?_) (fun c128 => ?_)
    · have h := h.1 c128
      refine K_iinc C [vr (some x0), vi x1, vi (w32 (x2 + 1)), vi x3, vi x4] dX9_clear_161 rfl rfl ?_
      refine J_less [vr (some x0), vi x1, vi (w32 (x2 + 1)), vi x3, vl 0] (by unfold lessL; simp [lessL]) ?_
      exact S_X9_clear_164 C M (by omega) hk69 h
    · have h := h.2 c128
      refine J_aload_n C dX9_clear_131 rfl rfl ?_
      refine J_aload_n C dX9_clear_132 rfl rfl ?_
      obtain ⟨r7, hr8, h⟩ := h
      refine J_getR C fo_10_43 rfl fl_RX9_117 dX9_clear_133 hK1 hr8 ?_
      refine J_bipush C dX9_clear_136 (by decide +kernel) (rg_of (by decide)) ?_
      refine J_iload_n C dX9_clear_138 rfl rfl ?_
      refine J_imul C dX9_clear_139 ?_
      refine J_iload C dX9_clear_140 rfl ?_
      refine J_iadd C dX9_clear_142 ?_
      obtain ⟨hK9, h⟩ := h
      obtain ⟨h010, hn11, h⟩ := h
      refine J_iald C dX9_clear_143 hK9 h010 hn11 ?_
      refine J_aload_n C dX9_clear_144 rfl rfl ?_
      obtain ⟨r12, hr13, h⟩ := h
      refine J_getR C fo_10_7 rfl fl_RX9_17 dX9_clear_145 hK1 hr13 ?_
      refine J_iconst C dX9_clear_148 (rg_of (by decide)) ?_
      refine J_iload_n C dX9_clear_149 rfl rfl ?_
      refine J_imul C dX9_clear_150 ?_
      obtain ⟨hK14, h⟩ := h
      obtain ⟨h015, hn16, h⟩ := h
      refine J_iald C dX9_clear_151 hK14 h015 hn16 ?_
      refine K_V C M [vi (I r7 (w32 ((w32 (10 * x3)) + x4))), vi (I r12 (w32 (2 * x1)))] [] mi_X9_comes wg_1481 wg_1483 wg_45 ⟨rfl, by decide⟩ dX9_clear_152 hK1 rfl rfl (by decide) (Nat.le_of_ble_eq_true rfl) (c_X9_comes (C.2.2.2.2.2.2.2) (by omega) h) (fun v9 S' F17 I18 hq9 => ?_) K_no rfl
      clear h
      obtain ⟨rfl, rfl, h⟩ := hq9
      refine K_iinc C [vr (some x0), vi x1, vi x2, vi x3, vi (w32 (x4 + 1))] dX9_clear_155 rfl rfl ?_
      refine J_goto C dX9_clear_158 (tgt := 120) rfl ?_
      exact ih _ _ _ _ _ _ _ h
set_option maxRecDepth 20000 in
set_option maxHeartbeats 4000000 in
theorem S_X9_clear_69 {G : Gp} {X : Xt} {d : Nat}  {S : Shp} {Q : Int → Fl → Il → Prop} (C : CO G RX9 cX9_clear 5 X) (M : MX d (some .int) "clear" X) (hd : 3 ≤ d) (n9 : Nat)  : ∀ (x0 : Nat) (x1 : Int) (x2 : Int) (x3 : Int) (F : Fl) (I : Il), V_X9_clear_69 n9 x0 x1 x2 x3 S F I Q → J G X (QD X G (qI fun z S' F' I' => S = S' ∧ Q z F' I') noX) 69 [vr (some x0), vi x1, vi x2, vi x3, vl 0] [] S F I := by
  obtain ⟨d, rfl⟩ : ∃ d9, d = d9 + 1 := ⟨d - 1, by omega⟩
  induction n9 with
  | zero => intro x0 x1 x2 x3 F I h; exact h.elim
  | succ n ih =>
    intro x0 x1 x2 x3 F I h
    unfold V_X9_clear_69 at h
    refine J_iload_n C dX9_clear_69 rfl rfl ?_
    refine J_bipush C dX9_clear_70 (by decide +kernel) (rg_of (by decide)) ?_
    refine J_icmp_ge C dX9_clear_72 (tgt := 170) rfl (fun c72 => ?_) (fun c72 => ?_)
    · have h := h.1 c72
      refine J_iload_n C dX9_clear_170 rfl rfl ?_
      exact J_iret C dX9_clear_171 M.2.2.1 ⟨_, rfl, rfl, h⟩
    · have h := h.2 c72
      refine J_aload_n C dX9_clear_75 rfl rfl ?_
      obtain ⟨hK1, h⟩ := h
      obtain ⟨r2, hr3, h⟩ := h
      refine J_getR C fo_10_36 rfl fl_RX9_96 dX9_clear_76 hK1 hr3 ?_
      refine J_iload_n C dX9_clear_79 rfl rfl ?_
      obtain ⟨hK4, h⟩ := h
      obtain ⟨h05, hn6, h⟩ := h
      refine J_zald C dX9_clear_80 hK4 h05 hn6 ?_
      refine J_if_eq C dX9_clear_81 (tgt := 164) rfl (fun c81 => ?_) (fun c81 => ?_)
      · have h := h.1 c81
        exact S_X9_clear_164 C M (by omega) (fun y0 y1 y2 y3 F' I' h9 => ih y0 y1 y2 y3 F' I' h9) h
      · have h := h.2 c81
        refine J_aload_n C dX9_clear_84 rfl rfl ?_
        obtain ⟨r7, hr8, h⟩ := h
        refine J_getR C fo_10_39 rfl fl_RX9_105 dX9_clear_85 hK1 hr8 ?_
        refine J_iload_n C dX9_clear_88 rfl rfl ?_
        obtain ⟨hK9, h⟩ := h
        obtain ⟨h010, hn11, h⟩ := h
        refine J_iald C dX9_clear_89 hK9 h010 hn11 ?_
        refine J_iconst C dX9_clear_90 (rg_of (by decide)) ?_
        refine J_icmp_ne C dX9_clear_91 (tgt := 164) rfl (fun c91 => ?_) (fun c91 => ?_)
        · have h := h.1 c91
          exact S_X9_clear_164 C M (by omega) (fun y0 y1 y2 y3 F' I' h9 => ih y0 y1 y2 y3 F' I' h9) h
        · have h := h.2 c91
          refine J_aload_n C dX9_clear_94 rfl rfl ?_
          obtain ⟨r12, hr13, h⟩ := h
          refine J_getR C fo_10_41 rfl fl_RX9_111 dX9_clear_95 hK1 hr13 ?_
          refine J_iload_n C dX9_clear_98 rfl rfl ?_
          obtain ⟨hK14, h⟩ := h
          obtain ⟨h015, hn16, h⟩ := h
          refine J_iald C dX9_clear_99 hK14 h015 hn16 ?_
          refine J_iload_n C dX9_clear_100 rfl rfl ?_
          refine J_icmp_ne C dX9_clear_101 (tgt := 164) rfl (fun c101 => ?_) (fun c101 => ?_)
          · have h := h.1 c101
            exact S_X9_clear_164 C M (by omega) (fun y0 y1 y2 y3 F' I' h9 => ih y0 y1 y2 y3 F' I' h9) h
          · have h := h.2 c101
            refine J_aload_n C dX9_clear_104 rfl rfl ?_
            refine J_iload_n C dX9_clear_105 rfl rfl ?_
            refine J_aload_n C dX9_clear_106 rfl rfl ?_
            obtain ⟨r17, hr18, h⟩ := h
            refine J_getR C fo_10_7 rfl fl_RX9_17 dX9_clear_107 hK1 hr18 ?_
            refine J_iconst C dX9_clear_110 (rg_of (by decide)) ?_
            refine J_iload_n C dX9_clear_111 rfl rfl ?_
            refine J_imul C dX9_clear_112 ?_
            obtain ⟨hK19, h⟩ := h
            obtain ⟨h020, hn21, h⟩ := h
            refine J_iald C dX9_clear_113 hK19 h020 hn21 ?_
            refine K_V C M [vi x3, vi (I r17 (w32 (2 * x1)))] [] mi_X9_ends wg_1518 wg_1520 wg_50 ⟨rfl, by decide⟩ dX9_clear_114 hK1 rfl rfl (by decide) (Nat.le_of_ble_eq_true rfl) (c_X9_ends (C.2.2.2.2.2.2.2) (by omega) h) (fun v9 S' F' I22 hq9 => ?_) K_no rfl
            clear h
            obtain ⟨rfl, rfl, rfl, h⟩ := hq9
            refine J_iconst C dX9_clear_117 (rg_of (by decide)) ?_
            refine K_istore C [vr (some x0), vi x1, vi x2, vi x3, vi 0] dX9_clear_118 (Nat.le_of_ble_eq_true rfl) rfl ?_
            obtain ⟨n9, h⟩ := h
            exact S_X9_clear_120 C M (by omega) n9 (fun y0 y1 y2 y3 F' I' h9 => ih y0 y1 y2 y3 F' I' h9) _ _ _ _ _ _ _ h
set_option maxRecDepth 20000 in
set_option maxHeartbeats 4000000 in
theorem S_X9_clear_27 {G : Gp} {X : Xt} {d : Nat}  {x0 : Nat} {x1 : Int} {s0 : Int} {s1 : Nat} {Q : Int → Fl → Il → Prop} {S : Shp} {F : Fl} {I : Il} (C : CO G RX9 cX9_clear 5 X) (M : MX d (some .int) "clear" X) (hd : 3 ≤ d)  (h : V_X9_clear_27 x0 x1 s0 s1 S F I Q) : J G X (QD X G (qI fun z S' F' I' => S = S' ∧ Q z F' I') noX) 27 [vr (some x0), vi x1, vl 0, vl 0, vl 0] [vi s0, vr (some s1)] S F I := by
  unfold V_X9_clear_27 at h
  obtain ⟨hK1, h⟩ := h
  refine J_putI C fo_10_0 fp_10 fl_RX9_174 (Or.inl rfl) (Or.inl rfl) dX9_clear_27 hK1 ?_
  refine J_aload_n C dX9_clear_30 rfl rfl ?_
  obtain ⟨hK2, h⟩ := h
  refine J_getI C fo_10_0 rfl fl_RX9_174 dX9_clear_31 hK2 ?_
  refine J_if_le C dX9_clear_34 (tgt := 39) rfl (fun c34 => ?_) (fun c34 => ?_)
  · have h := h.1 c34
    refine J_iconst C dX9_clear_39 (rg_of (by decide)) ?_
    refine K_istore_n C [vr (some x0), vi x1, vi 0, vl 0, vl 0] dX9_clear_40 rfl (Nat.le_of_ble_eq_true rfl) rfl ?_
    refine J_aload_n C dX9_clear_41 rfl rfl ?_
    refine J_dup C dX9_clear_42 trivial ?_
    refine J_getI C fo_10_2 rfl fl_RX9_7 dX9_clear_43 hK2 ?_
    refine J_sipush C dX9_clear_46 (by decide +kernel) (rg_of (by decide)) ?_
    refine J_isub C dX9_clear_49 ?_
    refine J_putI C fo_10_2 fp_10 fl_RX9_7 (Or.inl rfl) (Or.inl rfl) dX9_clear_50 hK2 ?_
    refine J_aload_n C dX9_clear_53 rfl rfl ?_
    obtain ⟨r3, hr4, h⟩ := h
    refine J_getR C fo_10_12 rfl fl_RX9_32 dX9_clear_54 hK2 hr4 ?_
    refine J_iload_n C dX9_clear_57 rfl rfl ?_
    refine J_iconst C dX9_clear_58 (rg_of (by decide)) ?_
    obtain ⟨hK5, h⟩ := h
    obtain ⟨h06, hn7, h⟩ := h
    refine J_zast C dX9_clear_59 hK5 h06 hn7 (by decide) ?_
    refine J_aload_n C dX9_clear_60 rfl rfl ?_
    obtain ⟨r8, hr9, h⟩ := h
    refine J_getR C fo_10_11 rfl fl_RX9_29 dX9_clear_61 hK2 hr9 ?_
    refine J_iload_n C dX9_clear_64 rfl rfl ?_
    refine J_iconst C dX9_clear_65 (rg_of (by decide)) ?_
    obtain ⟨hK10, h⟩ := h
    obtain ⟨h011, hn12, h⟩ := h
    refine J_iast C dX9_clear_66 hK10 h011 hn12 ?_
    refine J_iconst C dX9_clear_67 (rg_of (by decide)) ?_
    refine K_istore_n C [vr (some x0), vi x1, vi 0, vi 0, vl 0] dX9_clear_68 rfl (Nat.le_of_ble_eq_true rfl) rfl ?_
    obtain ⟨n9, h⟩ := h
    exact S_X9_clear_69 C M (by omega) n9  _ _ _ _ _ _ h
  · have h := h.2 c34
    refine J_iconst C dX9_clear_37 (rg_of (by decide)) ?_
    exact J_iret C dX9_clear_38 M.2.2.1 ⟨_, rfl, rfl, h⟩
set_option maxRecDepth 20000 in
set_option maxHeartbeats 4000000 in
theorem S_X9_clear {G : Gp} {X : Xt} {d : Nat}  {x0 : Nat} {x1 : Int} {Q : Int → Fl → Il → Prop} {S : Shp} {F : Fl} {I : Il} (C : CO G RX9 cX9_clear 5 X) (M : MX d (some .int) "clear" X) (hd : 3 ≤ d)  (h : V_X9_clear x0 x1 S F I Q) : J G X (QD X G (qI fun z S' F' I' => S = S' ∧ Q z F' I') noX) 0 [vr (some x0), vi x1, vl 0, vl 0, vl 0] [] S F I := by
  unfold V_X9_clear at h
  obtain ⟨d, rfl⟩ : ∃ d9, d = d9 + 1 := ⟨d - 1, by omega⟩
  refine J_aload_n C dX9_clear_0 rfl rfl ?_
  refine J_aload_n C dX9_clear_1 rfl rfl ?_
  refine J_iload_n C dX9_clear_2 rfl rfl ?_
  obtain ⟨hK1, h⟩ := h
  refine K_V C M [vi x1] [vr (some x0)] mi_X9_isBlock wg_1429 wg_1431 wg_40 ⟨rfl, by decide⟩ dX9_clear_3 hK1 rfl rfl (by decide) (Nat.le_of_ble_eq_true rfl) (c_X9_isBlock (C.2.2.2.2.2.2.2) (by omega) h) (fun v9 S' F' I' hq9 => ?_) K_no rfl
  clear h
  obtain ⟨z2, rfl, rfl, rfl, rfl, h⟩ := hq9
  refine J_if_ne C dX9_clear_6 (tgt := 13) rfl (fun c6 => ?_) (fun c6 => ?_)
  · have h := h.1 c6
    refine J_aload_n C dX9_clear_13 rfl rfl ?_
    obtain ⟨r3, hr4, h⟩ := h
    refine J_getR C fo_10_12 rfl fl_RX9_32 dX9_clear_14 hK1 hr4 ?_
    refine J_iload_n C dX9_clear_17 rfl rfl ?_
    obtain ⟨hK5, h⟩ := h
    obtain ⟨h06, hn7, h⟩ := h
    refine J_zald C dX9_clear_18 hK5 h06 hn7 ?_
    refine J_if_ne C dX9_clear_19 (tgt := 26) rfl (fun c19 => ?_) (fun c19 => ?_)
    · have h := h.1 c19
      refine J_iconst C dX9_clear_26 (rg_of (by decide)) ?_
      exact S_X9_clear_27 C M (by omega)  h
    · have h := h.2 c19
      refine J_iconst C dX9_clear_22 (rg_of (by decide)) ?_
      refine J_goto C dX9_clear_23 (tgt := 27) rfl ?_
      exact S_X9_clear_27 C M (by omega)  h
  · have h := h.2 c6
    refine J_iconst C dX9_clear_9 (rg_of (by decide)) ?_
    refine J_goto C dX9_clear_10 (tgt := 27) rfl ?_
    exact S_X9_clear_27 C M (by omega)  h
theorem c_X9_clear {l : Launch} {G : Gp} {d : Nat} {x0 : Nat} {x1 : Int} {S : Shp} {F : Fl} {I : Il} {Q : Int → Fl → Il → Prop} (hl : l.stackTraces = false) (hd : 3 ≤ d) (h : V_X9_clear x0 x1 S F I Q) : CM l G d yX9_clear (.code yX9_clear cX9_clear 5 (some .int)) [vr (some x0), vi x1] S F I (qI fun z S' F' I' => S = S' ∧ Q z F' I') noX :=
  CM_ofM [vr (some x0), vi x1, vl 0, vl 0, vl 0] hl (by decide +kernel) (kn1 trivial (kn1 trivial kn0)) (Nat.le_of_ble_eq_true rfl) rfl (fun X hX C M => S_X9_clear C M hd h)
set_option maxRecDepth 20000 in
set_option maxHeartbeats 4000000 in
theorem S_X9_clock {G : Gp} {X : Xt} {d : Nat}  {x0 : Nat} {Q : Int → Fl → Prop} {S : Shp} {F : Fl} {I : Il} (C : CO G RX9 cX9_clock 1 X) (M : MX d (some .int) "clock" X) (hd : 1 ≤ d)  (h : V_X9_clock x0 S F I Q) : J G X (QD X G (qI fun z S' F' I' => S = S' ∧ I = I' ∧ Q z F') noX) 0 [vr (some x0)] [] S F I := by
  unfold V_X9_clock at h
  refine J_aload_n C dX9_clock_0 rfl rfl ?_
  refine J_iconst C dX9_clock_1 (rg_of (by decide)) ?_
  obtain ⟨hK1, h⟩ := h
  refine J_putI C fo_10_0 fp_10 fl_RX9_174 (Or.inl rfl) (Or.inl rfl) dX9_clock_2 hK1 ?_
  refine J_aload_n C dX9_clock_5 rfl rfl ?_
  refine J_getI C fo_10_1 rfl fl_RX9_187 dX9_clock_6 hK1 ?_
  exact J_iret C dX9_clock_9 M.2.2.1 ⟨_, rfl, rfl, rfl, h⟩
theorem c_X9_clock {l : Launch} {G : Gp} {d : Nat} {x0 : Nat} {S : Shp} {F : Fl} {I : Il} {Q : Int → Fl → Prop} (hl : l.stackTraces = false) (hd : 1 ≤ d) (h : V_X9_clock x0 S F I Q) : CM l G d yX9_clock (.code yX9_clock cX9_clock 1 (some .int)) [vr (some x0)] S F I (qI fun z S' F' I' => S = S' ∧ I = I' ∧ Q z F') noX :=
  CM_ofM [vr (some x0)] hl (by decide +kernel) (kn1 trivial kn0) (Nat.le_of_ble_eq_true rfl) rfl (fun X hX C M => S_X9_clock C M hd h)
set_option maxRecDepth 20000 in
set_option maxHeartbeats 4000000 in
theorem S_X9_couple_153 {G : Gp} {X : Xt} {d : Nat} {k95 : Nat → Int → Int → Int → Int → Int → Fl → Il → Prop} {x0 : Nat} {x1 : Int} {x2 : Int} {x3 : Int} {x5 : Int} {s0 : Int} {s1 : Int} {Q : Int → Fl → Il → Prop} {S : Shp} {F : Fl} {I : Il} (C : CO G RX9 cX9_couple 6 X) (M : MX d (some .int) "couple" X) (hd : 3 ≤ d) (hk95 : ∀ (x0 : Nat) (x1 : Int) (x2 : Int) (x3 : Int) (x4 : Int) (x5 : Int) (F' : Fl) (I' : Il), k95 x0 x1 x2 x3 x4 x5 F' I' → J G X (QD X G (qI fun z S' F' I' => S = S' ∧ Q z F' I') noX) 95 [vr (some x0), vi x1, vi x2, vi x3, vi x4, vi x5] [] S F' I') (h : V_X9_couple_153 k95 x0 x1 x2 x3 x5 s0 s1 S F I Q) : J G X (QD X G (qI fun z S' F' I' => S = S' ∧ Q z F' I') noX) 153 [vr (some x0), vi x1, vi x2, vi x3, vl 0, vi x5] [vi s0, vi s1] S F I := by
  unfold V_X9_couple_153 at h
  refine J_iadd C dX9_couple_153 ?_
  refine K_istore C [vr (some x0), vi x1, vi x2, vi x3, vi (w32 (s1 + s0)), vi x5] dX9_couple_154 (Nat.le_of_ble_eq_true rfl) rfl ?_
  refine K_iinc C [vr (some x0), vi x1, vi x2, vi x3, vi (w32 (s1 + s0)), vi (w32 (x5 + 1))] dX9_couple_156 rfl rfl ?_
  refine J_goto C dX9_couple_159 (tgt := 95) rfl ?_
  exact hk95 x0 x1 x2 x3 (w32 (s1 + s0)) (w32 (x5 + 1)) F I h
set_option maxRecDepth 20000 in
set_option maxHeartbeats 4000000 in
theorem S_X9_couple_95 {G : Gp} {X : Xt} {d : Nat}  {S : Shp} {Q : Int → Fl → Il → Prop} (C : CO G RX9 cX9_couple 6 X) (M : MX d (some .int) "couple" X) (hd : 3 ≤ d) (n9 : Nat)  : ∀ (x0 : Nat) (x1 : Int) (x2 : Int) (x3 : Int) (x4 : Int) (x5 : Int) (F : Fl) (I : Il), V_X9_couple_95 n9 x0 x1 x2 x3 x4 x5 S F I Q → J G X (QD X G (qI fun z S' F' I' => S = S' ∧ Q z F' I') noX) 95 [vr (some x0), vi x1, vi x2, vi x3, vi x4, vi x5] [] S F I := by
  obtain ⟨d, rfl⟩ : ∃ d9, d = d9 + 1 := ⟨d - 1, by omega⟩
  induction n9 with
  | zero => intro x0 x1 x2 x3 x4 x5 F I h; exact h.elim
  | succ n ih =>
    intro x0 x1 x2 x3 x4 x5 F I h
    unfold V_X9_couple_95 at h
    refine J_iload C dX9_couple_95 rfl ?_
    refine J_aload_n C dX9_couple_97 rfl rfl ?_
    obtain ⟨hK1, h⟩ := h
    obtain ⟨r2, hr3, h⟩ := h
    refine J_getR C fo_10_35 rfl fl_RX9_93 dX9_couple_98 hK1 hr3 ?_
    refine J_iload_n C dX9_couple_101 rfl rfl ?_
    obtain ⟨hK4, h⟩ := h
    obtain ⟨h05, hn6, h⟩ := h
    refine J_iald C dX9_couple_102 hK4 h05 hn6 ?_
    refine J_icmp_ge C dX9_couple_103 (tgt := 162) rfl (fun c103 => ?_) (fun c103 => ?_)
    · have h := h.1 c103
      refine J_aload_n C dX9_couple_162 rfl rfl ?_
      refine J_getR C fo_10_35 rfl fl_RX9_93 dX9_couple_163 hK1 hr3 ?_
      refine J_iload_n C dX9_couple_166 rfl rfl ?_
      refine J_iload C dX9_couple_167 rfl ?_
      obtain ⟨h07, hn8, h⟩ := h
      refine J_iast C dX9_couple_169 hK4 h07 hn8 ?_
      refine J_aload_n C dX9_couple_170 rfl rfl ?_
      obtain ⟨r9, hr10, h⟩ := h
      refine J_getR C fo_10_32 rfl fl_RX9_84 dX9_couple_171 hK1 hr10 ?_
      refine J_iload_n C dX9_couple_174 rfl rfl ?_
      refine J_iload_n C dX9_couple_175 rfl rfl ?_
      obtain ⟨hK11, h⟩ := h
      obtain ⟨h012, hn13, h⟩ := h
      refine J_iast C dX9_couple_176 hK11 h012 hn13 ?_
      refine J_aload_n C dX9_couple_177 rfl rfl ?_
      obtain ⟨r14, hr15, h⟩ := h
      refine J_getR C fo_10_43 rfl fl_RX9_117 dX9_couple_178 hK1 hr15 ?_
      refine J_bipush C dX9_couple_181 (by decide +kernel) (rg_of (by decide)) ?_
      refine J_iload_n C dX9_couple_183 rfl rfl ?_
      refine J_imul C dX9_couple_184 ?_
      refine J_aload_n C dX9_couple_185 rfl rfl ?_
      obtain ⟨r16, hr17, h⟩ := h
      refine J_getR C fo_10_44 rfl fl_RX9_120 dX9_couple_186 hK1 hr17 ?_
      refine J_iload_n C dX9_couple_189 rfl rfl ?_
      obtain ⟨hK18, h⟩ := h
      obtain ⟨h019, hn20, h⟩ := h
      refine J_iald C dX9_couple_190 hK18 h019 hn20 ?_
      refine J_iadd C dX9_couple_191 ?_
      refine J_iload_n C dX9_couple_192 rfl rfl ?_
      obtain ⟨hK21, h⟩ := h
      obtain ⟨h022, hn23, h⟩ := h
      refine J_iast C dX9_couple_193 hK21 h022 hn23 ?_
      refine J_aload_n C dX9_couple_194 rfl rfl ?_
      refine J_getR C fo_10_44 rfl fl_RX9_120 dX9_couple_195 hK1 hr17 ?_
      refine J_iload_n C dX9_couple_198 rfl rfl ?_
      refine J_dup2 C dX9_couple_199 trivial trivial ?_
      obtain ⟨h024, hn25, h⟩ := h
      refine J_iald C dX9_couple_200 hK18 h024 hn25 ?_
      refine J_iconst C dX9_couple_201 (rg_of (by decide)) ?_
      refine J_iadd C dX9_couple_202 ?_
      obtain ⟨h026, hn27, h⟩ := h
      refine J_iast C dX9_couple_203 hK18 h026 hn27 ?_
      refine J_aload_n C dX9_couple_204 rfl rfl ?_
      refine J_iload_n C dX9_couple_205 rfl rfl ?_
      refine J_iconst C dX9_couple_206 (rg_of (by decide)) ?_
      refine J_iload_n C dX9_couple_207 rfl rfl ?_
      refine K_V C M [vi x2, vi 1, vi x1] [] mi_X9_writes wg_1485 wg_1487 wg_46 ⟨rfl, by decide⟩ dX9_couple_208 hK1 rfl rfl (by decide) (Nat.le_of_ble_eq_true rfl) (c_X9_writes (C.2.2.2.2.2.2.2) (by omega) h) (fun v9 S' F28 I29 hq9 => ?_) K_no rfl
      clear h
      obtain ⟨rfl, rfl, h⟩ := hq9
      refine J_aload_n C dX9_couple_211 rfl rfl ?_
      refine J_getR C fo_10_44 rfl fl_RX9_120 dX9_couple_212 hK1 hr17 ?_
      refine J_iload_n C dX9_couple_215 rfl rfl ?_
      obtain ⟨h030, hn31, h⟩ := h
      refine J_iald C dX9_couple_216 hK18 h030 hn31 ?_
      exact J_iret C dX9_couple_217 M.2.2.1 ⟨_, rfl, rfl, h⟩
    · have h := h.2 c103
      refine J_aload_n C dX9_couple_106 rfl rfl ?_
      obtain ⟨r32, hr33, h⟩ := h
      refine J_getR C fo_10_34 rfl fl_RX9_90 dX9_couple_107 hK1 hr33 ?_
      refine J_bipush C dX9_couple_110 (by decide +kernel) (rg_of (by decide)) ?_
      refine J_iload_n C dX9_couple_112 rfl rfl ?_
      refine J_imul C dX9_couple_113 ?_
      refine J_iload C dX9_couple_114 rfl ?_
      refine J_iadd C dX9_couple_116 ?_
      refine J_aload_n C dX9_couple_117 rfl rfl ?_
      refine J_getR C fo_10_34 rfl fl_RX9_90 dX9_couple_118 hK1 hr33 ?_
      refine J_bipush C dX9_couple_121 (by decide +kernel) (rg_of (by decide)) ?_
      refine J_iload_n C dX9_couple_123 rfl rfl ?_
      refine J_imul C dX9_couple_124 ?_
      refine J_iload C dX9_couple_125 rfl ?_
      refine J_iadd C dX9_couple_127 ?_
      obtain ⟨hK34, h⟩ := h
      obtain ⟨h035, hn36, h⟩ := h
      refine J_iald C dX9_couple_128 hK34 h035 hn36 ?_
      obtain ⟨h037, hn38, h⟩ := h
      refine J_iast C dX9_couple_129 hK34 h037 hn38 ?_
      refine J_iload C dX9_couple_130 rfl ?_
      refine J_aload_n C dX9_couple_132 rfl rfl ?_
      refine J_getR C fo_10_34 rfl fl_RX9_90 dX9_couple_133 hK1 hr33 ?_
      refine J_bipush C dX9_couple_136 (by decide +kernel) (rg_of (by decide)) ?_
      refine J_iload_n C dX9_couple_138 rfl rfl ?_
      refine J_imul C dX9_couple_139 ?_
      refine J_iload C dX9_couple_140 rfl ?_
      refine J_iadd C dX9_couple_142 ?_
      obtain ⟨h039, hn40, h⟩ := h
      refine J_iald C dX9_couple_143 hK34 h039 hn40 ?_
      refine J_iload_n C dX9_couple_144 rfl rfl ?_
      refine J_icmp_ne C dX9_couple_145 (tgt := 152) rfl (fun c145 => ?_) (fun c145 => ?_)
      · have h := h.1 c145
        refine J_iconst C dX9_couple_152 (rg_of (by decide)) ?_
        refine J_less [vr (some x0), vi x1, vi x2, vi x3, vl 0, vi x5] (by unfold lessL; simp [lessL]) ?_
        exact S_X9_couple_153 C M (by omega) (fun y0 y1 y2 y3 y4 y5 F' I' h9 => ih y0 y1 y2 y3 y4 y5 F' I' h9) h
      · have h := h.2 c145
        refine J_iconst C dX9_couple_148 (rg_of (by decide)) ?_
        refine J_goto C dX9_couple_149 (tgt := 153) rfl ?_
        refine J_less [vr (some x0), vi x1, vi x2, vi x3, vl 0, vi x5] (by unfold lessL; simp [lessL]) ?_
        exact S_X9_couple_153 C M (by omega) (fun y0 y1 y2 y3 y4 y5 F' I' h9 => ih y0 y1 y2 y3 y4 y5 F' I' h9) h
set_option maxRecDepth 20000 in
set_option maxHeartbeats 4000000 in
theorem S_X9_couple_70 {G : Gp} {X : Xt} {d : Nat}  {x0 : Nat} {x1 : Int} {x2 : Int} {s0 : Int} {s1 : Nat} {Q : Int → Fl → Il → Prop} {S : Shp} {F : Fl} {I : Il} (C : CO G RX9 cX9_couple 6 X) (M : MX d (some .int) "couple" X) (hd : 3 ≤ d)  (h : V_X9_couple_70 x0 x1 x2 s0 s1 S F I Q) : J G X (QD X G (qI fun z S' F' I' => S = S' ∧ Q z F' I') noX) 70 [vr (some x0), vi x1, vi x2, vl 0, vl 0, vl 0] [vi s0, vr (some s1)] S F I := by
  unfold V_X9_couple_70 at h
  obtain ⟨hK1, h⟩ := h
  refine J_putI C fo_10_0 fp_10 fl_RX9_174 (Or.inl rfl) (Or.inl rfl) dX9_couple_70 hK1 ?_
  refine J_aload_n C dX9_couple_73 rfl rfl ?_
  obtain ⟨hK2, h⟩ := h
  refine J_getI C fo_10_0 rfl fl_RX9_174 dX9_couple_74 hK2 ?_
  refine J_if_le C dX9_couple_77 (tgt := 82) rfl (fun c77 => ?_) (fun c77 => ?_)
  · have h := h.1 c77
    refine J_aload_n C dX9_couple_82 rfl rfl ?_
    obtain ⟨r3, hr4, h⟩ := h
    refine J_getR C fo_10_40 rfl fl_RX9_108 dX9_couple_83 hK2 hr4 ?_
    refine J_iload_n C dX9_couple_86 rfl rfl ?_
    obtain ⟨hK5, h⟩ := h
    obtain ⟨h06, hn7, h⟩ := h
    refine J_iald C dX9_couple_87 hK5 h06 hn7 ?_
    refine K_istore_n C [vr (some x0), vi x1, vi x2, vi (I r3 x1), vl 0, vl 0] dX9_couple_88 rfl (Nat.le_of_ble_eq_true rfl) rfl ?_
    refine J_iconst C dX9_couple_89 (rg_of (by decide)) ?_
    refine K_istore C [vr (some x0), vi x1, vi x2, vi (I r3 x1), vi 0, vl 0] dX9_couple_90 (Nat.le_of_ble_eq_true rfl) rfl ?_
    refine J_iconst C dX9_couple_92 (rg_of (by decide)) ?_
    refine K_istore C [vr (some x0), vi x1, vi x2, vi (I r3 x1), vi 0, vi 0] dX9_couple_93 (Nat.le_of_ble_eq_true rfl) rfl ?_
    obtain ⟨n9, h⟩ := h
    exact S_X9_couple_95 C M (by omega) n9  _ _ _ _ _ _ _ _ h
  · have h := h.2 c77
    refine J_iconst C dX9_couple_80 (rg_of (by decide)) ?_
    exact J_iret C dX9_couple_81 M.2.2.1 ⟨_, rfl, rfl, h⟩
set_option maxRecDepth 20000 in
set_option maxHeartbeats 4000000 in
theorem S_X9_couple_17 {G : Gp} {X : Xt} {d : Nat}  {x0 : Nat} {x1 : Int} {x2 : Int} {s0 : Nat} {Q : Int → Fl → Il → Prop} {S : Shp} {F : Fl} {I : Il} (C : CO G RX9 cX9_couple 6 X) (M : MX d (some .int) "couple" X) (hd : 3 ≤ d)  (h : V_X9_couple_17 x0 x1 x2 s0 S F I Q) : J G X (QD X G (qI fun z S' F' I' => S = S' ∧ Q z F' I') noX) 17 [vr (some x0), vi x1, vi x2, vl 0, vl 0, vl 0] [vr (some s0)] S F I := by
  unfold V_X9_couple_17 at h
  refine J_iconst C dX9_couple_17 (rg_of (by decide)) ?_
  refine J_goto C dX9_couple_18 (tgt := 70) rfl ?_
  exact S_X9_couple_70 C M (by omega)  h
set_option maxRecDepth 20000 in
set_option maxHeartbeats 4000000 in
theorem S_X9_couple_65 {G : Gp} {X : Xt} {d : Nat}  {x0 : Nat} {x1 : Int} {x2 : Int} {s0 : Nat} {Q : Int → Fl → Il → Prop} {S : Shp} {F : Fl} {I : Il} (C : CO G RX9 cX9_couple 6 X) (M : MX d (some .int) "couple" X) (hd : 3 ≤ d)  (h : V_X9_couple_65 x0 x1 x2 s0 S F I Q) : J G X (QD X G (qI fun z S' F' I' => S = S' ∧ Q z F' I') noX) 65 [vr (some x0), vi x1, vi x2, vl 0, vl 0, vl 0] [vr (some s0)] S F I := by
  unfold V_X9_couple_65 at h
  refine J_iconst C dX9_couple_65 (rg_of (by decide)) ?_
  refine J_goto C dX9_couple_66 (tgt := 70) rfl ?_
  exact S_X9_couple_70 C M (by omega)  h
set_option maxRecDepth 20000 in
set_option maxHeartbeats 4000000 in
theorem S_X9_couple {G : Gp} {X : Xt} {d : Nat}  {x0 : Nat} {x1 : Int} {x2 : Int} {Q : Int → Fl → Il → Prop} {S : Shp} {F : Fl} {I : Il} (C : CO G RX9 cX9_couple 6 X) (M : MX d (some .int) "couple" X) (hd : 3 ≤ d)  (h : V_X9_couple x0 x1 x2 S F I Q) : J G X (QD X G (qI fun z S' F' I' => S = S' ∧ Q z F' I') noX) 0 [vr (some x0), vi x1, vi x2, vl 0, vl 0, vl 0] [] S F I := by
  unfold V_X9_couple at h
  obtain ⟨d, rfl⟩ : ∃ d9, d = d9 + 1 := ⟨d - 1, by omega⟩
  refine J_aload_n C dX9_couple_0 rfl rfl ?_
  refine J_aload_n C dX9_couple_1 rfl rfl ?_
  refine J_iload_n C dX9_couple_2 rfl rfl ?_
  obtain ⟨hK1, h⟩ := h
  refine K_V C M [vi x1] [vr (some x0)] mi_X9_isTrain wg_1510 wg_1512 wg_48 ⟨rfl, by decide⟩ dX9_couple_3 hK1 rfl rfl (by decide) (Nat.le_of_ble_eq_true rfl) (c_X9_isTrain (C.2.2.2.2.2.2.2) (by omega) h) (fun v9 S' F' I' hq9 => ?_) K_no rfl
  clear h
  obtain ⟨z2, rfl, rfl, rfl, rfl, h⟩ := hq9
  refine J_if_eq C dX9_couple_6 (tgt := 17) rfl (fun c6 => ?_) (fun c6 => ?_)
  · have h := h.1 c6
    exact S_X9_couple_17 C M (by omega)  h
  · have h := h.2 c6
    refine J_aload_n C dX9_couple_9 rfl rfl ?_
    refine J_iload_n C dX9_couple_10 rfl rfl ?_
    refine K_V C M [vi x2] [vr (some x0)] mi_X9_isCar wg_1526 wg_1528 wg_51 ⟨rfl, by decide⟩ dX9_couple_11 hK1 rfl rfl (by decide) (Nat.le_of_ble_eq_true rfl) (c_X9_isCar (C.2.2.2.2.2.2.2) (by omega) h) (fun v9 S' F' I' hq9 => ?_) K_no rfl
    clear h
    obtain ⟨z3, rfl, rfl, rfl, rfl, h⟩ := hq9
    refine J_if_ne C dX9_couple_14 (tgt := 21) rfl (fun c14 => ?_) (fun c14 => ?_)
    · have h := h.1 c14
      refine J_aload_n C dX9_couple_21 rfl rfl ?_
      refine J_iload_n C dX9_couple_22 rfl rfl ?_
      refine K_V C M [vi x1] [vr (some x0)] mi_X9_stands wg_1473 wg_1475 wg_44 ⟨rfl, by decide⟩ dX9_couple_23 hK1 rfl rfl (by decide) (Nat.le_of_ble_eq_true rfl) (c_X9_stands (C.2.2.2.2.2.2.2) (by omega) h) (fun v9 S' F' I' hq9 => ?_) K_no rfl
      clear h
      obtain ⟨z4, rfl, rfl, rfl, rfl, h⟩ := hq9
      refine J_if_eq C dX9_couple_26 (tgt := 65) rfl (fun c26 => ?_) (fun c26 => ?_)
      · have h := h.1 c26
        exact S_X9_couple_65 C M (by omega)  h
      · have h := h.2 c26
        refine J_aload_n C dX9_couple_29 rfl rfl ?_
        obtain ⟨r5, hr6, h⟩ := h
        refine J_getR C fo_10_44 rfl fl_RX9_120 dX9_couple_30 hK1 hr6 ?_
        refine J_iload_n C dX9_couple_33 rfl rfl ?_
        obtain ⟨hK7, h⟩ := h
        obtain ⟨h08, hn9, h⟩ := h
        refine J_iald C dX9_couple_34 hK7 h08 hn9 ?_
        refine J_bipush C dX9_couple_35 (by decide +kernel) (rg_of (by decide)) ?_
        refine J_icmp_eq C dX9_couple_37 (tgt := 65) rfl (fun c37 => ?_) (fun c37 => ?_)
        · have h := h.1 c37
          exact S_X9_couple_65 C M (by omega)  h
        · have h := h.2 c37
          refine J_aload_n C dX9_couple_40 rfl rfl ?_
          obtain ⟨r10, hr11, h⟩ := h
          refine J_getR C fo_10_32 rfl fl_RX9_84 dX9_couple_41 hK1 hr11 ?_
          refine J_iload_n C dX9_couple_44 rfl rfl ?_
          obtain ⟨hK12, h⟩ := h
          obtain ⟨h013, hn14, h⟩ := h
          refine J_iald C dX9_couple_45 hK12 h013 hn14 ?_
          refine J_iconst C dX9_couple_46 (rg_of (by decide)) ?_
          refine J_icmp_ne C dX9_couple_47 (tgt := 65) rfl (fun c47 => ?_) (fun c47 => ?_)
          · have h := h.1 c47
            exact S_X9_couple_65 C M (by omega)  h
          · have h := h.2 c47
            refine J_aload_n C dX9_couple_50 rfl rfl ?_
            obtain ⟨r15, hr16, h⟩ := h
            refine J_getR C fo_10_31 rfl fl_RX9_81 dX9_couple_51 hK1 hr16 ?_
            refine J_iload_n C dX9_couple_54 rfl rfl ?_
            obtain ⟨hK17, h⟩ := h
            obtain ⟨h018, hn19, h⟩ := h
            refine J_iald C dX9_couple_55 hK17 h018 hn19 ?_
            refine J_aload_n C dX9_couple_56 rfl rfl ?_
            obtain ⟨r20, hr21, h⟩ := h
            refine J_getR C fo_10_40 rfl fl_RX9_108 dX9_couple_57 hK1 hr21 ?_
            refine J_iload_n C dX9_couple_60 rfl rfl ?_
            obtain ⟨hK22, h⟩ := h
            obtain ⟨h023, hn24, h⟩ := h
            refine J_iald C dX9_couple_61 hK22 h023 hn24 ?_
            refine J_icmp_eq C dX9_couple_62 (tgt := 69) rfl (fun c62 => ?_) (fun c62 => ?_)
            · have h := h.1 c62
              refine J_iconst C dX9_couple_69 (rg_of (by decide)) ?_
              exact S_X9_couple_70 C M (by omega)  h
            · have h := h.2 c62
              exact S_X9_couple_65 C M (by omega)  h
    · have h := h.2 c14
      exact S_X9_couple_17 C M (by omega)  h
theorem c_X9_couple {l : Launch} {G : Gp} {d : Nat} {x0 : Nat} {x1 : Int} {x2 : Int} {S : Shp} {F : Fl} {I : Il} {Q : Int → Fl → Il → Prop} (hl : l.stackTraces = false) (hd : 3 ≤ d) (h : V_X9_couple x0 x1 x2 S F I Q) : CM l G d yX9_couple (.code yX9_couple cX9_couple 6 (some .int)) [vr (some x0), vi x1, vi x2] S F I (qI fun z S' F' I' => S = S' ∧ Q z F' I') noX :=
  CM_ofM [vr (some x0), vi x1, vi x2, vl 0, vl 0, vl 0] hl (by decide +kernel) (kn1 trivial (kn1 trivial (kn1 trivial kn0))) (Nat.le_of_ble_eq_true rfl) rfl (fun X hX C M => S_X9_couple C M hd h)
set_option maxRecDepth 20000 in
set_option maxHeartbeats 4000000 in
theorem S_X9_crew_26 {G : Gp} {X : Xt} {d : Nat}  {x0 : Nat} {x1 : Int} {s0 : Int} {s1 : Nat} {Q : Int → Fl → Il → Prop} {S : Shp} {F : Fl} {I : Il} (C : CO G RX9 cX9_crew 2 X) (M : MX d (some .int) "crew" X) (hd : 3 ≤ d)  (h : V_X9_crew_26 x0 x1 s0 s1 S F I Q) : J G X (QD X G (qI fun z S' F' I' => S = S' ∧ Q z F' I') noX) 26 [vr (some x0), vi x1] [vi s0, vr (some s1)] S F I := by
  unfold V_X9_crew_26 at h
  obtain ⟨hK1, h⟩ := h
  refine J_putI C fo_10_0 fp_10 fl_RX9_174 (Or.inl rfl) (Or.inl rfl) dX9_crew_26 hK1 ?_
  refine J_aload_n C dX9_crew_29 rfl rfl ?_
  obtain ⟨hK2, h⟩ := h
  refine J_getI C fo_10_0 rfl fl_RX9_174 dX9_crew_30 hK2 ?_
  refine J_if_le C dX9_crew_33 (tgt := 38) rfl (fun c33 => ?_) (fun c33 => ?_)
  · have h := h.1 c33
    refine J_aload_n C dX9_crew_38 rfl rfl ?_
    obtain ⟨r3, hr4, h⟩ := h
    refine J_getR C fo_10_24 rfl fl_RX9_63 dX9_crew_39 hK2 hr4 ?_
    refine J_aload_n C dX9_crew_42 rfl rfl ?_
    refine J_getI C fo_10_23 rfl fl_RX9_210 dX9_crew_43 hK2 ?_
    refine J_iload_n C dX9_crew_46 rfl rfl ?_
    obtain ⟨hK5, h⟩ := h
    obtain ⟨h06, hn7, h⟩ := h
    refine J_iast C dX9_crew_47 hK5 h06 hn7 ?_
    refine J_aload_n C dX9_crew_48 rfl rfl ?_
    obtain ⟨r8, hr9, h⟩ := h
    refine J_getR C fo_10_25 rfl fl_RX9_66 dX9_crew_49 hK2 hr9 ?_
    refine J_aload_n C dX9_crew_52 rfl rfl ?_
    refine J_getI C fo_10_23 rfl fl_RX9_210 dX9_crew_53 hK2 ?_
    refine J_iconst C dX9_crew_56 (rg_of (by decide)) ?_
    obtain ⟨hK10, h⟩ := h
    obtain ⟨h011, hn12, h⟩ := h
    refine J_iast C dX9_crew_57 hK10 h011 hn12 ?_
    refine J_aload_n C dX9_crew_58 rfl rfl ?_
    refine J_dup C dX9_crew_59 trivial ?_
    refine J_getI C fo_10_23 rfl fl_RX9_210 dX9_crew_60 hK2 ?_
    refine J_iconst C dX9_crew_63 (rg_of (by decide)) ?_
    refine J_iadd C dX9_crew_64 ?_
    refine J_putI C fo_10_23 fp_10 fl_RX9_210 (Or.inl rfl) (Or.inl rfl) dX9_crew_65 hK2 ?_
    refine J_aload_n C dX9_crew_68 rfl rfl ?_
    refine J_getI C fo_10_23 rfl fl_RX9_210 dX9_crew_69 hK2 ?_
    refine J_iconst C dX9_crew_72 (rg_of (by decide)) ?_
    refine J_isub C dX9_crew_73 ?_
    exact J_iret C dX9_crew_74 M.2.2.1 ⟨_, rfl, rfl, h⟩
  · have h := h.2 c33
    refine J_iconst C dX9_crew_36 (rg_of (by decide)) ?_
    exact J_iret C dX9_crew_37 M.2.2.1 ⟨_, rfl, rfl, h⟩
set_option maxRecDepth 20000 in
set_option maxHeartbeats 4000000 in
theorem S_X9_crew {G : Gp} {X : Xt} {d : Nat}  {x0 : Nat} {x1 : Int} {Q : Int → Fl → Il → Prop} {S : Shp} {F : Fl} {I : Il} (C : CO G RX9 cX9_crew 2 X) (M : MX d (some .int) "crew" X) (hd : 3 ≤ d)  (h : V_X9_crew x0 x1 S F I Q) : J G X (QD X G (qI fun z S' F' I' => S = S' ∧ Q z F' I') noX) 0 [vr (some x0), vi x1] [] S F I := by
  unfold V_X9_crew at h
  obtain ⟨d, rfl⟩ : ∃ d9, d = d9 + 1 := ⟨d - 1, by omega⟩
  refine J_aload_n C dX9_crew_0 rfl rfl ?_
  refine J_iload_n C dX9_crew_1 rfl rfl ?_
  refine K_S C M [vi x1] [vr (some x0)] mi_X9_isStation wg_1411 wg_1412 dX9_crew_2 rfl rfl (by decide) (Nat.le_of_ble_eq_true rfl) (c_X9_isStation (C.2.2.2.2.2.2.2) (by omega) h) (fun v9 S' F' I' hq9 => ?_) K_no rfl
  clear h
  obtain ⟨z1, rfl, rfl, rfl, rfl, h⟩ := hq9
  refine J_if_ne C dX9_crew_5 (tgt := 12) rfl (fun c5 => ?_) (fun c5 => ?_)
  · have h := h.1 c5
    refine J_aload_n C dX9_crew_12 rfl rfl ?_
    obtain ⟨hK2, h⟩ := h
    refine J_getI C fo_10_23 rfl fl_RX9_210 dX9_crew_13 hK2 ?_
    refine J_bipush C dX9_crew_16 (by decide +kernel) (rg_of (by decide)) ?_
    refine J_icmp_ne C dX9_crew_18 (tgt := 25) rfl (fun c18 => ?_) (fun c18 => ?_)
    · have h := h.1 c18
      refine J_iconst C dX9_crew_25 (rg_of (by decide)) ?_
      exact S_X9_crew_26 C M (by omega)  h
    · have h := h.2 c18
      refine J_iconst C dX9_crew_21 (rg_of (by decide)) ?_
      refine J_goto C dX9_crew_22 (tgt := 26) rfl ?_
      exact S_X9_crew_26 C M (by omega)  h
  · have h := h.2 c5
    refine J_iconst C dX9_crew_8 (rg_of (by decide)) ?_
    refine J_goto C dX9_crew_9 (tgt := 26) rfl ?_
    exact S_X9_crew_26 C M (by omega)  h
theorem c_X9_crew {l : Launch} {G : Gp} {d : Nat} {x0 : Nat} {x1 : Int} {S : Shp} {F : Fl} {I : Il} {Q : Int → Fl → Il → Prop} (hl : l.stackTraces = false) (hd : 3 ≤ d) (h : V_X9_crew x0 x1 S F I Q) : CM l G d yX9_crew (.code yX9_crew cX9_crew 2 (some .int)) [vr (some x0), vi x1] S F I (qI fun z S' F' I' => S = S' ∧ Q z F' I') noX :=
  CM_ofM [vr (some x0), vi x1] hl (by decide +kernel) (kn1 trivial (kn1 trivial kn0)) (Nat.le_of_ble_eq_true rfl) rfl (fun X hX C M => S_X9_crew C M hd h)
set_option maxRecDepth 20000 in
set_option maxHeartbeats 4000000 in
theorem S_X9_debt {G : Gp} {X : Xt} {d : Nat}  {x0 : Nat} {Q : Int → Fl → Prop} {S : Shp} {F : Fl} {I : Il} (C : CO G RX9 cX9_debt 1 X) (M : MX d (some .int) "debt" X) (hd : 1 ≤ d)  (h : V_X9_debt x0 S F I Q) : J G X (QD X G (qI fun z S' F' I' => S = S' ∧ I = I' ∧ Q z F') noX) 0 [vr (some x0)] [] S F I := by
  unfold V_X9_debt at h
  refine J_aload_n C dX9_debt_0 rfl rfl ?_
  refine J_iconst C dX9_debt_1 (rg_of (by decide)) ?_
  obtain ⟨hK1, h⟩ := h
  refine J_putI C fo_10_0 fp_10 fl_RX9_174 (Or.inl rfl) (Or.inl rfl) dX9_debt_2 hK1 ?_
  refine J_aload_n C dX9_debt_5 rfl rfl ?_
  refine J_getI C fo_10_3 rfl fl_RX9_230 dX9_debt_6 hK1 ?_
  exact J_iret C dX9_debt_9 M.2.2.1 ⟨_, rfl, rfl, rfl, h⟩
theorem c_X9_debt {l : Launch} {G : Gp} {d : Nat} {x0 : Nat} {S : Shp} {F : Fl} {I : Il} {Q : Int → Fl → Prop} (hl : l.stackTraces = false) (hd : 1 ≤ d) (h : V_X9_debt x0 S F I Q) : CM l G d yX9_debt (.code yX9_debt cX9_debt 1 (some .int)) [vr (some x0)] S F I (qI fun z S' F' I' => S = S' ∧ I = I' ∧ Q z F') noX :=
  CM_ofM [vr (some x0)] hl (by decide +kernel) (kn1 trivial kn0) (Nat.le_of_ble_eq_true rfl) rfl (fun X hX C M => S_X9_debt C M hd h)
set_option maxRecDepth 20000 in
set_option maxHeartbeats 4000000 in
theorem S_X9_holds_31 {G : Gp} {X : Xt} {d : Nat} {k4 : Nat → Int → Int → Int → Prop} {x0 : Nat} {x1 : Int} {x3 : Int} {s0 : Int} {Q : Int → Prop} {S : Shp} {F : Fl} {I : Il} (C : CO G RX9 cX9_holds 4 X) (M : MX d (some .boolean) "holds" X) (hd : 1 ≤ d) (hk4 : ∀ (x0 : Nat) (x1 : Int) (x2 : Int) (x3 : Int), k4 x0 x1 x2 x3 → J G X (QD X G (qI fun z S' F' I' => S = S' ∧ F = F' ∧ I = I' ∧ Q z) noX) 4 [vr (some x0), vi x1, vi x2, vi x3] [] S F I) (h : V_X9_holds_31 k4 x0 x1 x3 s0 S F I Q) : J G X (QD X G (qI fun z S' F' I' => S = S' ∧ F = F' ∧ I = I' ∧ Q z) noX) 31 [vr (some x0), vi x1, vl 0, vi x3] [vi s0] S F I := by
  unfold V_X9_holds_31 at h
  refine K_istore_n C [vr (some x0), vi x1, vi s0, vi x3] dX9_holds_31 rfl (Nat.le_of_ble_eq_true rfl) rfl ?_
  refine K_iinc C [vr (some x0), vi x1, vi s0, vi (w32 (x3 + 1))] dX9_holds_32 rfl rfl ?_
  refine J_goto C dX9_holds_35 (tgt := 4) rfl ?_
  exact hk4 x0 x1 s0 (w32 (x3 + 1)) h
set_option maxRecDepth 20000 in
set_option maxHeartbeats 4000000 in
theorem S_X9_holds_26 {G : Gp} {X : Xt} {d : Nat} {k4 : Nat → Int → Int → Int → Prop} {x0 : Nat} {x1 : Int} {x3 : Int} {Q : Int → Prop} {S : Shp} {F : Fl} {I : Il} (C : CO G RX9 cX9_holds 4 X) (M : MX d (some .boolean) "holds" X) (hd : 1 ≤ d) (hk4 : ∀ (x0 : Nat) (x1 : Int) (x2 : Int) (x3 : Int), k4 x0 x1 x2 x3 → J G X (QD X G (qI fun z S' F' I' => S = S' ∧ F = F' ∧ I = I' ∧ Q z) noX) 4 [vr (some x0), vi x1, vi x2, vi x3] [] S F I) (h : V_X9_holds_26 k4 x0 x1 x3 S F I Q) : J G X (QD X G (qI fun z S' F' I' => S = S' ∧ F = F' ∧ I = I' ∧ Q z) noX) 26 [vr (some x0), vi x1, vl 0, vi x3] [] S F I := by
  unfold V_X9_holds_26 at h
  refine J_iconst C dX9_holds_26 (rg_of (by decide)) ?_
  refine J_goto C dX9_holds_27 (tgt := 31) rfl ?_
  exact S_X9_holds_31 C M (by omega) hk4 h
set_option maxRecDepth 20000 in
set_option maxHeartbeats 4000000 in
theorem S_X9_holds_4 {G : Gp} {X : Xt} {d : Nat}  {S : Shp} {F : Fl} {I : Il} {Q : Int → Prop} (C : CO G RX9 cX9_holds 4 X) (M : MX d (some .boolean) "holds" X) (hd : 1 ≤ d) (n9 : Nat)  : ∀ (x0 : Nat) (x1 : Int) (x2 : Int) (x3 : Int) , V_X9_holds_4 n9 x0 x1 x2 x3 S F I Q → J G X (QD X G (qI fun z S' F' I' => S = S' ∧ F = F' ∧ I = I' ∧ Q z) noX) 4 [vr (some x0), vi x1, vi x2, vi x3] [] S F I := by
  induction n9 with
  | zero => intro x0 x1 x2 x3 h; exact h.elim
  | succ n ih =>
    intro x0 x1 x2 x3 h
    unfold V_X9_holds_4 at h
    refine J_iload_n C dX9_holds_4 rfl rfl ?_
    refine J_aload_n C dX9_holds_5 rfl rfl ?_
    obtain ⟨hK1, h⟩ := h
    refine J_getI C fo_10_6 rfl fl_RX9_181 dX9_holds_6 hK1 ?_
    refine J_icmp_ge C dX9_holds_9 (tgt := 38) rfl (fun c9 => ?_) (fun c9 => ?_)
    · have h := h.1 c9
      refine J_iload_n C dX9_holds_38 rfl rfl ?_
      obtain ⟨hb, h⟩ := h
      exact J_zret C dX9_holds_39 M.2.2.1 hb ⟨_, rfl, rfl, rfl, rfl, h⟩
    · have h := h.2 c9
      refine J_iload_n C dX9_holds_12 rfl rfl ?_
      refine J_if_ne C dX9_holds_13 (tgt := 26) rfl (fun c13 => ?_) (fun c13 => ?_)
      · have h := h.1 c13
        refine J_less [vr (some x0), vi x1, vl 0, vi x3] (by unfold lessL; simp [lessL]) ?_
        exact S_X9_holds_26 C M (by omega) (fun y0 y1 y2 y3 h9 => ih y0 y1 y2 y3 h9) h
      · have h := h.2 c13
        refine J_aload_n C dX9_holds_16 rfl rfl ?_
        obtain ⟨r2, hr3, h⟩ := h
        refine J_getR C fo_10_17 rfl fl_RX9_48 dX9_holds_17 hK1 hr3 ?_
        refine J_iload_n C dX9_holds_20 rfl rfl ?_
        obtain ⟨hK4, h⟩ := h
        obtain ⟨h05, hn6, h⟩ := h
        refine J_iald C dX9_holds_21 hK4 h05 hn6 ?_
        refine J_iload_n C dX9_holds_22 rfl rfl ?_
        refine J_icmp_ne C dX9_holds_23 (tgt := 30) rfl (fun c23 => ?_) (fun c23 => ?_)
        · have h := h.1 c23
          refine J_iconst C dX9_holds_30 (rg_of (by decide)) ?_
          refine J_less [vr (some x0), vi x1, vl 0, vi x3] (by unfold lessL; simp [lessL]) ?_
          exact S_X9_holds_31 C M (by omega) (fun y0 y1 y2 y3 h9 => ih y0 y1 y2 y3 h9) h
        · have h := h.2 c23
          refine J_less [vr (some x0), vi x1, vl 0, vi x3] (by unfold lessL; simp [lessL]) ?_
          exact S_X9_holds_26 C M (by omega) (fun y0 y1 y2 y3 h9 => ih y0 y1 y2 y3 h9) h
set_option maxRecDepth 20000 in
set_option maxHeartbeats 4000000 in
theorem S_X9_holds {G : Gp} {X : Xt} {d : Nat}  {x0 : Nat} {x1 : Int} {Q : Int → Prop} {S : Shp} {F : Fl} {I : Il} (C : CO G RX9 cX9_holds 4 X) (M : MX d (some .boolean) "holds" X) (hd : 1 ≤ d)  (h : V_X9_holds x0 x1 S F I Q) : J G X (QD X G (qI fun z S' F' I' => S = S' ∧ F = F' ∧ I = I' ∧ Q z) noX) 0 [vr (some x0), vi x1, vl 0, vl 0] [] S F I := by
  unfold V_X9_holds at h
  refine J_iconst C dX9_holds_0 (rg_of (by decide)) ?_
  refine K_istore_n C [vr (some x0), vi x1, vi 0, vl 0] dX9_holds_1 rfl (Nat.le_of_ble_eq_true rfl) rfl ?_
  refine J_iconst C dX9_holds_2 (rg_of (by decide)) ?_
  refine K_istore_n C [vr (some x0), vi x1, vi 0, vi 0] dX9_holds_3 rfl (Nat.le_of_ble_eq_true rfl) rfl ?_
  obtain ⟨n9, h⟩ := h
  exact S_X9_holds_4 C M (by omega) n9  _ _ _ _ h
theorem c_X9_holds {l : Launch} {G : Gp} {d : Nat} {x0 : Nat} {x1 : Int} {S : Shp} {F : Fl} {I : Il} {Q : Int → Prop} (hl : l.stackTraces = false) (hd : 1 ≤ d) (h : V_X9_holds x0 x1 S F I Q) : CM l G d yX9_holds (.code yX9_holds cX9_holds 4 (some .boolean)) [vr (some x0), vi x1] S F I (qI fun z S' F' I' => S = S' ∧ F = F' ∧ I = I' ∧ Q z) noX :=
  CM_ofM [vr (some x0), vi x1, vl 0, vl 0] hl (by decide +kernel) (kn1 trivial (kn1 trivial kn0)) (Nat.le_of_ble_eq_true rfl) rfl (fun X hX C M => S_X9_holds C M hd h)
set_option maxRecDepth 20000 in
set_option maxHeartbeats 4000000 in
theorem S_X9_dissolve_43 {G : Gp} {X : Xt} {d : Nat}  {x0 : Nat} {x1 : Int} {s0 : Int} {s1 : Nat} {Q : Int → Fl → Il → Prop} {S : Shp} {F : Fl} {I : Il} (C : CO G RX9 cX9_dissolve 2 X) (M : MX d (some .int) "dissolve" X) (hd : 3 ≤ d)  (h : V_X9_dissolve_43 x0 x1 s0 s1 S F I Q) : J G X (QD X G (qI fun z S' F' I' => S = S' ∧ Q z F' I') noX) 43 [vr (some x0), vi x1] [vi s0, vr (some s1)] S F I := by
  unfold V_X9_dissolve_43 at h
  obtain ⟨d, rfl⟩ : ∃ d9, d = d9 + 1 := ⟨d - 1, by omega⟩
  obtain ⟨hK1, h⟩ := h
  refine J_putI C fo_10_0 fp_10 fl_RX9_174 (Or.inl rfl) (Or.inl rfl) dX9_dissolve_43 hK1 ?_
  refine J_aload_n C dX9_dissolve_46 rfl rfl ?_
  obtain ⟨hK2, h⟩ := h
  refine J_getI C fo_10_0 rfl fl_RX9_174 dX9_dissolve_47 hK2 ?_
  refine J_if_le C dX9_dissolve_50 (tgt := 55) rfl (fun c50 => ?_) (fun c50 => ?_)
  · have h := h.1 c50
    refine J_aload_n C dX9_dissolve_55 rfl rfl ?_
    refine J_iload_n C dX9_dissolve_56 rfl rfl ?_
    refine J_aload_n C dX9_dissolve_57 rfl rfl ?_
    obtain ⟨r3, hr4, h⟩ := h
    refine J_getR C fo_10_40 rfl fl_RX9_108 dX9_dissolve_58 hK2 hr4 ?_
    refine J_iload_n C dX9_dissolve_61 rfl rfl ?_
    obtain ⟨hK5, h⟩ := h
    obtain ⟨h06, hn7, h⟩ := h
    refine J_iald C dX9_dissolve_62 hK5 h06 hn7 ?_
    refine K_V C M [vi x1, vi (I r3 x1)] [] mi_X9_ends wg_1518 wg_1520 wg_50 ⟨rfl, by decide⟩ dX9_dissolve_63 hK2 rfl rfl (by decide) (Nat.le_of_ble_eq_true rfl) (c_X9_ends (C.2.2.2.2.2.2.2) (by omega) h) (fun v9 S' F' I8 hq9 => ?_) K_no rfl
    clear h
    obtain ⟨rfl, rfl, rfl, h⟩ := hq9
    refine J_aload_n C dX9_dissolve_66 rfl rfl ?_
    refine J_getR C fo_10_40 rfl fl_RX9_108 dX9_dissolve_67 hK2 hr4 ?_
    refine J_iload_n C dX9_dissolve_70 rfl rfl ?_
    obtain ⟨h09, hn10, h⟩ := h
    refine J_iald C dX9_dissolve_71 hK5 h09 hn10 ?_
    exact J_iret C dX9_dissolve_72 M.2.2.1 ⟨_, rfl, rfl, h⟩
  · have h := h.2 c50
    refine J_iconst C dX9_dissolve_53 (rg_of (by decide)) ?_
    exact J_iret C dX9_dissolve_54 M.2.2.1 ⟨_, rfl, rfl, h⟩
set_option maxRecDepth 20000 in
set_option maxHeartbeats 4000000 in
theorem S_X9_dissolve_38 {G : Gp} {X : Xt} {d : Nat}  {x0 : Nat} {x1 : Int} {s0 : Nat} {Q : Int → Fl → Il → Prop} {S : Shp} {F : Fl} {I : Il} (C : CO G RX9 cX9_dissolve 2 X) (M : MX d (some .int) "dissolve" X) (hd : 3 ≤ d)  (h : V_X9_dissolve_38 x0 x1 s0 S F I Q) : J G X (QD X G (qI fun z S' F' I' => S = S' ∧ Q z F' I') noX) 38 [vr (some x0), vi x1] [vr (some s0)] S F I := by
  unfold V_X9_dissolve_38 at h
  refine J_iconst C dX9_dissolve_38 (rg_of (by decide)) ?_
  refine J_goto C dX9_dissolve_39 (tgt := 43) rfl ?_
  exact S_X9_dissolve_43 C M (by omega)  h
set_option maxRecDepth 20000 in
set_option maxHeartbeats 4000000 in
theorem S_X9_dissolve {G : Gp} {X : Xt} {d : Nat}  {x0 : Nat} {x1 : Int} {Q : Int → Fl → Il → Prop} {S : Shp} {F : Fl} {I : Il} (C : CO G RX9 cX9_dissolve 2 X) (M : MX d (some .int) "dissolve" X) (hd : 3 ≤ d)  (h : V_X9_dissolve x0 x1 S F I Q) : J G X (QD X G (qI fun z S' F' I' => S = S' ∧ Q z F' I') noX) 0 [vr (some x0), vi x1] [] S F I := by
  unfold V_X9_dissolve at h
  obtain ⟨d, rfl⟩ : ∃ d9, d = d9 + 1 := ⟨d - 1, by omega⟩
  refine J_aload_n C dX9_dissolve_0 rfl rfl ?_
  refine J_aload_n C dX9_dissolve_1 rfl rfl ?_
  refine J_iload_n C dX9_dissolve_2 rfl rfl ?_
  obtain ⟨hK1, h⟩ := h
  refine K_V C M [vi x1] [vr (some x0)] mi_X9_isTrain wg_1510 wg_1512 wg_48 ⟨rfl, by decide⟩ dX9_dissolve_3 hK1 rfl rfl (by decide) (Nat.le_of_ble_eq_true rfl) (c_X9_isTrain (C.2.2.2.2.2.2.2) (by omega) h) (fun v9 S' F' I' hq9 => ?_) K_no rfl
  clear h
  obtain ⟨z2, rfl, rfl, rfl, rfl, h⟩ := hq9
  refine J_if_ne C dX9_dissolve_6 (tgt := 13) rfl (fun c6 => ?_) (fun c6 => ?_)
  · have h := h.1 c6
    refine J_aload_n C dX9_dissolve_13 rfl rfl ?_
    refine J_iload_n C dX9_dissolve_14 rfl rfl ?_
    refine K_V C M [vi x1] [vr (some x0)] mi_X9_stands wg_1473 wg_1475 wg_44 ⟨rfl, by decide⟩ dX9_dissolve_15 hK1 rfl rfl (by decide) (Nat.le_of_ble_eq_true rfl) (c_X9_stands (C.2.2.2.2.2.2.2) (by omega) h) (fun v9 S' F' I' hq9 => ?_) K_no rfl
    clear h
    obtain ⟨z3, rfl, rfl, rfl, rfl, h⟩ := hq9
    refine J_if_eq C dX9_dissolve_18 (tgt := 38) rfl (fun c18 => ?_) (fun c18 => ?_)
    · have h := h.1 c18
      exact S_X9_dissolve_38 C M (by omega)  h
    · have h := h.2 c18
      refine J_aload_n C dX9_dissolve_21 rfl rfl ?_
      obtain ⟨r4, hr5, h⟩ := h
      refine J_getR C fo_10_44 rfl fl_RX9_120 dX9_dissolve_22 hK1 hr5 ?_
      refine J_iload_n C dX9_dissolve_25 rfl rfl ?_
      obtain ⟨hK6, h⟩ := h
      obtain ⟨h07, hn8, h⟩ := h
      refine J_iald C dX9_dissolve_26 hK6 h07 hn8 ?_
      refine J_if_gt C dX9_dissolve_27 (tgt := 38) rfl (fun c27 => ?_) (fun c27 => ?_)
      · have h := h.1 c27
        exact S_X9_dissolve_38 C M (by omega)  h
      · have h := h.2 c27
        refine J_aload_n C dX9_dissolve_30 rfl rfl ?_
        refine J_iload_n C dX9_dissolve_31 rfl rfl ?_
        refine K_V C M [vi x1] [vr (some x0)] mi_X9_holds wg_1514 wg_1516 wg_49 ⟨rfl, by decide⟩ dX9_dissolve_32 hK1 rfl rfl (by decide) (Nat.le_of_ble_eq_true rfl) (c_X9_holds (C.2.2.2.2.2.2.2) (by omega) h) (fun v9 S' F' I' hq9 => ?_) K_no rfl
        clear h
        obtain ⟨z9, rfl, rfl, rfl, rfl, h⟩ := hq9
        refine J_if_eq C dX9_dissolve_35 (tgt := 42) rfl (fun c35 => ?_) (fun c35 => ?_)
        · have h := h.1 c35
          refine J_iconst C dX9_dissolve_42 (rg_of (by decide)) ?_
          exact S_X9_dissolve_43 C M (by omega)  h
        · have h := h.2 c35
          exact S_X9_dissolve_38 C M (by omega)  h
  · have h := h.2 c6
    refine J_iconst C dX9_dissolve_9 (rg_of (by decide)) ?_
    refine J_goto C dX9_dissolve_10 (tgt := 43) rfl ?_
    exact S_X9_dissolve_43 C M (by omega)  h
theorem c_X9_dissolve {l : Launch} {G : Gp} {d : Nat} {x0 : Nat} {x1 : Int} {S : Shp} {F : Fl} {I : Il} {Q : Int → Fl → Il → Prop} (hl : l.stackTraces = false) (hd : 3 ≤ d) (h : V_X9_dissolve x0 x1 S F I Q) : CM l G d yX9_dissolve (.code yX9_dissolve cX9_dissolve 2 (some .int)) [vr (some x0), vi x1] S F I (qI fun z S' F' I' => S = S' ∧ Q z F' I') noX :=
  CM_ofM [vr (some x0), vi x1] hl (by decide +kernel) (kn1 trivial (kn1 trivial kn0)) (Nat.le_of_ble_eq_true rfl) rfl (fun X hX C M => S_X9_dissolve C M hd h)
set_option maxRecDepth 20000 in
set_option maxHeartbeats 4000000 in
theorem S_X9_isCrew {G : Gp} {X : Xt} {d : Nat}  {x0 : Nat} {x1 : Int} {Q : Int → Prop} {S : Shp} {F : Fl} {I : Il} (C : CO G RX9 cX9_isCrew 2 X) (M : MX d (some .boolean) "isCrew" X) (hd : 2 ≤ d)  (h : V_X9_isCrew x0 x1 S F I Q) : J G X (QD X G (qI fun z S' F' I' => S = S' ∧ F = F' ∧ I = I' ∧ Q z) noX) 0 [vr (some x0), vi x1] [] S F I := by
  unfold V_X9_isCrew at h
  obtain ⟨d, rfl⟩ : ∃ d9, d = d9 + 1 := ⟨d - 1, by omega⟩
  refine J_iload_n C dX9_isCrew_0 rfl rfl ?_
  refine J_iconst C dX9_isCrew_1 (rg_of (by decide)) ?_
  refine J_aload_n C dX9_isCrew_2 rfl rfl ?_
  obtain ⟨hK1, h⟩ := h
  refine J_getI C fo_10_23 rfl fl_RX9_210 dX9_isCrew_3 hK1 ?_
  refine J_iconst C dX9_isCrew_6 (rg_of (by decide)) ?_
  refine J_isub C dX9_isCrew_7 ?_
  refine K_S C M [vi x1, vi 0, vi (w32 ((F 1023 x0) - 1))] [] mi_X9_in wg_1414 wg_1415 dX9_isCrew_8 rfl rfl (by decide) (Nat.le_of_ble_eq_true rfl) (c_X9_in (C.2.2.2.2.2.2.2) (by omega) h) (fun v9 S' F' I' hq9 => ?_) K_no rfl
  clear h
  obtain ⟨z2, rfl, rfl, rfl, rfl, h⟩ := hq9
  obtain ⟨hb, h⟩ := h
  exact J_zret C dX9_isCrew_11 M.2.2.1 hb ⟨_, rfl, rfl, rfl, rfl, h⟩
theorem c_X9_isCrew {l : Launch} {G : Gp} {d : Nat} {x0 : Nat} {x1 : Int} {S : Shp} {F : Fl} {I : Il} {Q : Int → Prop} (hl : l.stackTraces = false) (hd : 2 ≤ d) (h : V_X9_isCrew x0 x1 S F I Q) : CM l G d yX9_isCrew (.code yX9_isCrew cX9_isCrew 2 (some .boolean)) [vr (some x0), vi x1] S F I (qI fun z S' F' I' => S = S' ∧ F = F' ∧ I = I' ∧ Q z) noX :=
  CM_ofM [vr (some x0), vi x1] hl (by decide +kernel) (kn1 trivial (kn1 trivial kn0)) (Nat.le_of_ble_eq_true rfl) rfl (fun X hX C M => S_X9_isCrew C M hd h)
set_option maxRecDepth 20000 in
set_option maxHeartbeats 4000000 in
theorem S_X9_duty_14 {G : Gp} {X : Xt} {d : Nat}  {x0 : Nat} {x1 : Int} {s0 : Int} {s1 : Nat} {Q : Int → Fl → Prop} {S : Shp} {F : Fl} {I : Il} (C : CO G RX9 cX9_duty 2 X) (M : MX d (some .int) "duty" X) (hd : 3 ≤ d)  (h : V_X9_duty_14 x0 x1 s0 s1 S F I Q) : J G X (QD X G (qI fun z S' F' I' => S = S' ∧ I = I' ∧ Q z F') noX) 14 [vr (some x0), vi x1] [vi s0, vr (some s1)] S F I := by
  unfold V_X9_duty_14 at h
  obtain ⟨d, rfl⟩ : ∃ d9, d = d9 + 1 := ⟨d - 1, by omega⟩
  obtain ⟨hK1, h⟩ := h
  refine J_putI C fo_10_0 fp_10 fl_RX9_174 (Or.inl rfl) (Or.inl rfl) dX9_duty_14 hK1 ?_
  refine J_aload_n C dX9_duty_17 rfl rfl ?_
  obtain ⟨hK2, h⟩ := h
  refine J_getI C fo_10_0 rfl fl_RX9_174 dX9_duty_18 hK2 ?_
  refine J_if_le C dX9_duty_21 (tgt := 28) rfl (fun c21 => ?_) (fun c21 => ?_)
  · have h := h.1 c21
    refine J_aload_n C dX9_duty_28 rfl rfl ?_
    refine J_iload_n C dX9_duty_29 rfl rfl ?_
    refine K_V C M [vi x1] [] mi_X9_rests wg_1469 wg_1471 wg_43 ⟨rfl, by decide⟩ dX9_duty_30 hK2 rfl rfl (by decide) (Nat.le_of_ble_eq_true rfl) (c_X9_rests (C.2.2.2.2.2.2.2) (by omega) h) (fun v9 S' F' I' hq9 => ?_) K_no rfl
    clear h
    obtain ⟨z3, rfl, rfl, rfl, rfl, h⟩ := hq9
    refine J_if_eq C dX9_duty_33 (tgt := 40) rfl (fun c33 => ?_) (fun c33 => ?_)
    · have h := h.1 c33
      refine J_aload_n C dX9_duty_40 rfl rfl ?_
      obtain ⟨r4, hr5, h⟩ := h
      refine J_getR C fo_10_26 rfl fl_RX9_69 dX9_duty_41 hK2 hr5 ?_
      refine J_iload_n C dX9_duty_44 rfl rfl ?_
      obtain ⟨hK6, h⟩ := h
      obtain ⟨h07, hn8, h⟩ := h
      refine J_iald C dX9_duty_45 hK6 h07 hn8 ?_
      exact J_iret C dX9_duty_46 M.2.2.1 ⟨_, rfl, rfl, rfl, h⟩
    · have h := h.2 c33
      refine J_iconst C dX9_duty_36 (rg_of (by decide)) ?_
      refine J_goto C dX9_duty_37 (tgt := 46) rfl ?_
      exact J_iret C dX9_duty_46 M.2.2.1 ⟨_, rfl, rfl, rfl, h⟩
  · have h := h.2 c21
    refine J_iconst C dX9_duty_24 (rg_of (by decide)) ?_
    refine J_goto C dX9_duty_25 (tgt := 46) rfl ?_
    exact J_iret C dX9_duty_46 M.2.2.1 ⟨_, rfl, rfl, rfl, h⟩
set_option maxRecDepth 20000 in
set_option maxHeartbeats 4000000 in
theorem S_X9_duty {G : Gp} {X : Xt} {d : Nat}  {x0 : Nat} {x1 : Int} {Q : Int → Fl → Prop} {S : Shp} {F : Fl} {I : Il} (C : CO G RX9 cX9_duty 2 X) (M : MX d (some .int) "duty" X) (hd : 3 ≤ d)  (h : V_X9_duty x0 x1 S F I Q) : J G X (QD X G (qI fun z S' F' I' => S = S' ∧ I = I' ∧ Q z F') noX) 0 [vr (some x0), vi x1] [] S F I := by
  unfold V_X9_duty at h
  obtain ⟨d, rfl⟩ : ∃ d9, d = d9 + 1 := ⟨d - 1, by omega⟩
  refine J_aload_n C dX9_duty_0 rfl rfl ?_
  refine J_aload_n C dX9_duty_1 rfl rfl ?_
  refine J_iload_n C dX9_duty_2 rfl rfl ?_
  obtain ⟨hK1, h⟩ := h
  refine K_V C M [vi x1] [vr (some x0)] mi_X9_isCrew wg_1461 wg_1463 wg_42 ⟨rfl, by decide⟩ dX9_duty_3 hK1 rfl rfl (by decide) (Nat.le_of_ble_eq_true rfl) (c_X9_isCrew (C.2.2.2.2.2.2.2) (by omega) h) (fun v9 S' F' I' hq9 => ?_) K_no rfl
  clear h
  obtain ⟨z2, rfl, rfl, rfl, rfl, h⟩ := hq9
  refine J_if_eq C dX9_duty_6 (tgt := 13) rfl (fun c6 => ?_) (fun c6 => ?_)
  · have h := h.1 c6
    refine J_iconst C dX9_duty_13 (rg_of (by decide)) ?_
    exact S_X9_duty_14 C M (by omega)  h
  · have h := h.2 c6
    refine J_iconst C dX9_duty_9 (rg_of (by decide)) ?_
    refine J_goto C dX9_duty_10 (tgt := 14) rfl ?_
    exact S_X9_duty_14 C M (by omega)  h
theorem c_X9_duty {l : Launch} {G : Gp} {d : Nat} {x0 : Nat} {x1 : Int} {S : Shp} {F : Fl} {I : Il} {Q : Int → Fl → Prop} (hl : l.stackTraces = false) (hd : 3 ≤ d) (h : V_X9_duty x0 x1 S F I Q) : CM l G d yX9_duty (.code yX9_duty cX9_duty 2 (some .int)) [vr (some x0), vi x1] S F I (qI fun z S' F' I' => S = S' ∧ I = I' ∧ Q z F') noX :=
  CM_ofM [vr (some x0), vi x1] hl (by decide +kernel) (kn1 trivial (kn1 trivial kn0)) (Nat.le_of_ble_eq_true rfl) rfl (fun X hX C M => S_X9_duty C M hd h)
set_option maxRecDepth 20000 in
set_option maxHeartbeats 4000000 in
theorem S_X9_engine_40 {G : Gp} {X : Xt} {d : Nat}  {x0 : Nat} {x1 : Int} {x2 : Int} {s0 : Int} {s1 : Nat} {Q : Int → Fl → Il → Prop} {S : Shp} {F : Fl} {I : Il} (C : CO G RX9 cX9_engine 3 X) (M : MX d (some .int) "engine" X) (hd : 3 ≤ d)  (h : V_X9_engine_40 x0 x1 x2 s0 s1 S F I Q) : J G X (QD X G (qI fun z S' F' I' => S = S' ∧ Q z F' I') noX) 40 [vr (some x0), vi x1, vi x2] [vi s0, vr (some s1)] S F I := by
  unfold V_X9_engine_40 at h
  obtain ⟨hK1, h⟩ := h
  refine J_putI C fo_10_0 fp_10 fl_RX9_174 (Or.inl rfl) (Or.inl rfl) dX9_engine_40 hK1 ?_
  refine J_aload_n C dX9_engine_43 rfl rfl ?_
  obtain ⟨hK2, h⟩ := h
  refine J_getI C fo_10_0 rfl fl_RX9_174 dX9_engine_44 hK2 ?_
  refine J_if_le C dX9_engine_47 (tgt := 52) rfl (fun c47 => ?_) (fun c47 => ?_)
  · have h := h.1 c47
    refine J_aload_n C dX9_engine_52 rfl rfl ?_
    obtain ⟨r3, hr4, h⟩ := h
    refine J_getR C fo_10_20 rfl fl_RX9_54 dX9_engine_53 hK2 hr4 ?_
    refine J_aload_n C dX9_engine_56 rfl rfl ?_
    refine J_getI C fo_10_19 rfl fl_RX9_207 dX9_engine_57 hK2 ?_
    refine J_iload_n C dX9_engine_60 rfl rfl ?_
    obtain ⟨hK5, h⟩ := h
    obtain ⟨h06, hn7, h⟩ := h
    refine J_iast C dX9_engine_61 hK5 h06 hn7 ?_
    refine J_aload_n C dX9_engine_62 rfl rfl ?_
    obtain ⟨r8, hr9, h⟩ := h
    refine J_getR C fo_10_21 rfl fl_RX9_57 dX9_engine_63 hK2 hr9 ?_
    refine J_aload_n C dX9_engine_66 rfl rfl ?_
    refine J_getI C fo_10_19 rfl fl_RX9_207 dX9_engine_67 hK2 ?_
    refine J_iload_n C dX9_engine_70 rfl rfl ?_
    obtain ⟨hK10, h⟩ := h
    obtain ⟨h011, hn12, h⟩ := h
    refine J_iast C dX9_engine_71 hK10 h011 hn12 ?_
    refine J_aload_n C dX9_engine_72 rfl rfl ?_
    obtain ⟨r13, hr14, h⟩ := h
    refine J_getR C fo_10_22 rfl fl_RX9_60 dX9_engine_73 hK2 hr14 ?_
    refine J_aload_n C dX9_engine_76 rfl rfl ?_
    refine J_getI C fo_10_19 rfl fl_RX9_207 dX9_engine_77 hK2 ?_
    refine J_iconst C dX9_engine_80 (rg_of (by decide)) ?_
    obtain ⟨hK15, h⟩ := h
    obtain ⟨h016, hn17, h⟩ := h
    refine J_iast C dX9_engine_81 hK15 h016 hn17 ?_
    refine J_aload_n C dX9_engine_82 rfl rfl ?_
    refine J_dup C dX9_engine_83 trivial ?_
    refine J_getI C fo_10_2 rfl fl_RX9_7 dX9_engine_84 hK2 ?_
    refine J_bipush C dX9_engine_87 (by decide +kernel) (rg_of (by decide)) ?_
    refine J_iload_n C dX9_engine_89 rfl rfl ?_
    refine J_imul C dX9_engine_90 ?_
    refine J_isub C dX9_engine_91 ?_
    refine J_putI C fo_10_2 fp_10 fl_RX9_7 (Or.inl rfl) (Or.inl rfl) dX9_engine_92 hK2 ?_
    refine J_aload_n C dX9_engine_95 rfl rfl ?_
    refine J_dup C dX9_engine_96 trivial ?_
    refine J_getI C fo_10_19 rfl fl_RX9_207 dX9_engine_97 hK2 ?_
    refine J_iconst C dX9_engine_100 (rg_of (by decide)) ?_
    refine J_iadd C dX9_engine_101 ?_
    refine J_putI C fo_10_19 fp_10 fl_RX9_207 (Or.inl rfl) (Or.inl rfl) dX9_engine_102 hK2 ?_
    refine J_aload_n C dX9_engine_105 rfl rfl ?_
    refine J_getI C fo_10_19 rfl fl_RX9_207 dX9_engine_106 hK2 ?_
    refine J_iconst C dX9_engine_109 (rg_of (by decide)) ?_
    refine J_isub C dX9_engine_110 ?_
    exact J_iret C dX9_engine_111 M.2.2.1 ⟨_, rfl, rfl, h⟩
  · have h := h.2 c47
    refine J_iconst C dX9_engine_50 (rg_of (by decide)) ?_
    exact J_iret C dX9_engine_51 M.2.2.1 ⟨_, rfl, rfl, h⟩
set_option maxRecDepth 20000 in
set_option maxHeartbeats 4000000 in
theorem S_X9_engine {G : Gp} {X : Xt} {d : Nat}  {x0 : Nat} {x1 : Int} {x2 : Int} {Q : Int → Fl → Il → Prop} {S : Shp} {F : Fl} {I : Il} (C : CO G RX9 cX9_engine 3 X) (M : MX d (some .int) "engine" X) (hd : 3 ≤ d)  (h : V_X9_engine x0 x1 x2 S F I Q) : J G X (QD X G (qI fun z S' F' I' => S = S' ∧ Q z F' I') noX) 0 [vr (some x0), vi x1, vi x2] [] S F I := by
  unfold V_X9_engine at h
  obtain ⟨d, rfl⟩ : ∃ d9, d = d9 + 1 := ⟨d - 1, by omega⟩
  refine J_aload_n C dX9_engine_0 rfl rfl ?_
  refine J_iload_n C dX9_engine_1 rfl rfl ?_
  refine K_S C M [vi x1] [vr (some x0)] mi_X9_isStation wg_1411 wg_1412 dX9_engine_2 rfl rfl (by decide) (Nat.le_of_ble_eq_true rfl) (c_X9_isStation (C.2.2.2.2.2.2.2) (by omega) h) (fun v9 S' F' I' hq9 => ?_) K_no rfl
  clear h
  obtain ⟨z1, rfl, rfl, rfl, rfl, h⟩ := hq9
  refine J_if_ne C dX9_engine_5 (tgt := 12) rfl (fun c5 => ?_) (fun c5 => ?_)
  · have h := h.1 c5
    refine J_iload_n C dX9_engine_12 rfl rfl ?_
    refine J_iconst C dX9_engine_13 (rg_of (by decide)) ?_
    refine J_bipush C dX9_engine_14 (by decide +kernel) (rg_of (by decide)) ?_
    refine K_S C M [vi x2, vi 1, vi 9] [vr (some x0)] mi_X9_in wg_1414 wg_1415 dX9_engine_16 rfl rfl (by decide) (Nat.le_of_ble_eq_true rfl) (c_X9_in (C.2.2.2.2.2.2.2) (by omega) h) (fun v9 S' F' I' hq9 => ?_) K_no rfl
    clear h
    obtain ⟨z2, rfl, rfl, rfl, rfl, h⟩ := hq9
    refine J_if_ne C dX9_engine_19 (tgt := 26) rfl (fun c19 => ?_) (fun c19 => ?_)
    · have h := h.1 c19
      refine J_aload_n C dX9_engine_26 rfl rfl ?_
      obtain ⟨hK3, h⟩ := h
      refine J_getI C fo_10_19 rfl fl_RX9_207 dX9_engine_27 hK3 ?_
      refine J_bipush C dX9_engine_30 (by decide +kernel) (rg_of (by decide)) ?_
      refine J_icmp_ne C dX9_engine_32 (tgt := 39) rfl (fun c32 => ?_) (fun c32 => ?_)
      · have h := h.1 c32
        refine J_iconst C dX9_engine_39 (rg_of (by decide)) ?_
        exact S_X9_engine_40 C M (by omega)  h
      · have h := h.2 c32
        refine J_iconst C dX9_engine_35 (rg_of (by decide)) ?_
        refine J_goto C dX9_engine_36 (tgt := 40) rfl ?_
        exact S_X9_engine_40 C M (by omega)  h
    · have h := h.2 c19
      refine J_iconst C dX9_engine_22 (rg_of (by decide)) ?_
      refine J_goto C dX9_engine_23 (tgt := 40) rfl ?_
      exact S_X9_engine_40 C M (by omega)  h
  · have h := h.2 c5
    refine J_iconst C dX9_engine_8 (rg_of (by decide)) ?_
    refine J_goto C dX9_engine_9 (tgt := 40) rfl ?_
    exact S_X9_engine_40 C M (by omega)  h
theorem c_X9_engine {l : Launch} {G : Gp} {d : Nat} {x0 : Nat} {x1 : Int} {x2 : Int} {S : Shp} {F : Fl} {I : Il} {Q : Int → Fl → Il → Prop} (hl : l.stackTraces = false) (hd : 3 ≤ d) (h : V_X9_engine x0 x1 x2 S F I Q) : CM l G d yX9_engine (.code yX9_engine cX9_engine 3 (some .int)) [vr (some x0), vi x1, vi x2] S F I (qI fun z S' F' I' => S = S' ∧ Q z F' I') noX :=
  CM_ofM [vr (some x0), vi x1, vi x2] hl (by decide +kernel) (kn1 trivial (kn1 trivial (kn1 trivial kn0))) (Nat.le_of_ble_eq_true rfl) rfl (fun X hX C M => S_X9_engine C M hd h)
set_option maxRecDepth 20000 in
set_option maxHeartbeats 4000000 in
theorem S_X9_enters_107 {G : Gp} {X : Xt} {d : Nat}  {x0 : Nat} {x1 : Int} {x2 : Int} {s0 : Int} {s1 : Int} {s2 : Nat} {Q : Il → Prop} {S : Shp} {F : Fl} {I : Il} (C : CO G RX9 cX9_enters 4 X) (M : MX d none "enters" X) (hd : 4 ≤ d)  (h : V_X9_enters_107 x0 x1 x2 s0 s1 s2 S F I Q) : J G X (QD X G (qV fun S' F' I' => S = S' ∧ F = F' ∧ Q I') noX) 107 [vr (some x0), vi x1, vi x2, vl 0] [vi s0, vi s1, vr (some s2)] S F I := by
  unfold V_X9_enters_107 at h
  obtain ⟨d, rfl⟩ : ∃ d9, d = d9 + 1 := ⟨d - 1, by omega⟩
  obtain ⟨hK1, h⟩ := h
  obtain ⟨h02, hn3, h⟩ := h
  refine J_iast C dX9_enters_107 hK1 h02 hn3 ?_
  refine J_aload_n C dX9_enters_108 rfl rfl ?_
  obtain ⟨hK4, h⟩ := h
  obtain ⟨r5, hr6, h⟩ := h
  refine J_getR C fo_10_40 rfl fl_RX9_108 dX9_enters_109 hK4 hr6 ?_
  refine J_iload_n C dX9_enters_112 rfl rfl ?_
  refine J_aload_n C dX9_enters_113 rfl rfl ?_
  refine J_iload_n C dX9_enters_114 rfl rfl ?_
  refine J_aload_n C dX9_enters_115 rfl rfl ?_
  refine J_getR C fo_10_40 rfl fl_RX9_108 dX9_enters_116 hK4 hr6 ?_
  refine J_iload_n C dX9_enters_119 rfl rfl ?_
  obtain ⟨hK7, h⟩ := h
  obtain ⟨h08, hn9, h⟩ := h
  refine J_iald C dX9_enters_120 hK7 h08 hn9 ?_
  refine K_V C M [vi x2, vi ((ui I s2 s1 s0) r5 x1)] [vi x1, vr (some r5)] mi_X9_other wg_1542 wg_1544 wg_52 ⟨rfl, by decide⟩ dX9_enters_121 hK4 rfl rfl (by decide) (Nat.le_of_ble_eq_true rfl) (c_X9_other (C.2.2.2.2.2.2.2) (by omega) h) (fun v9 S' F' I' hq9 => ?_) K_no rfl
  clear h
  obtain ⟨z10, rfl, rfl, rfl, rfl, h⟩ := hq9
  obtain ⟨h011, hn12, h⟩ := h
  refine J_iast C dX9_enters_124 hK7 h011 hn12 ?_
  refine J_aload_n C dX9_enters_125 rfl rfl ?_
  obtain ⟨r13, hr14, h⟩ := h
  refine J_getR C fo_10_41 rfl fl_RX9_111 dX9_enters_126 hK4 hr14 ?_
  refine J_iload_n C dX9_enters_129 rfl rfl ?_
  refine J_iload_n C dX9_enters_130 rfl rfl ?_
  obtain ⟨hK15, h⟩ := h
  obtain ⟨h016, hn17, h⟩ := h
  refine J_iast C dX9_enters_131 hK15 h016 hn17 ?_
  refine J_aload_n C dX9_enters_132 rfl rfl ?_
  obtain ⟨r18, hr19, h⟩ := h
  refine J_getR C fo_10_39 rfl fl_RX9_105 dX9_enters_133 hK4 hr19 ?_
  refine J_iload_n C dX9_enters_136 rfl rfl ?_
  refine J_iconst C dX9_enters_137 (rg_of (by decide)) ?_
  obtain ⟨hK20, h⟩ := h
  obtain ⟨h021, hn22, h⟩ := h
  refine J_iast C dX9_enters_138 hK20 h021 hn22 ?_
  refine J_aload_n C dX9_enters_139 rfl rfl ?_
  obtain ⟨r23, hr24, h⟩ := h
  refine J_getR C fo_10_46 rfl fl_RX9_126 dX9_enters_140 hK4 hr24 ?_
  refine J_iload_n C dX9_enters_143 rfl rfl ?_
  refine J_dup2 C dX9_enters_144 trivial trivial ?_
  obtain ⟨hK25, h⟩ := h
  obtain ⟨h026, hn27, h⟩ := h
  refine J_iald C dX9_enters_145 hK25 h026 hn27 ?_
  refine J_iconst C dX9_enters_146 (rg_of (by decide)) ?_
  refine J_iadd C dX9_enters_147 ?_
  obtain ⟨h028, hn29, h⟩ := h
  refine J_iast C dX9_enters_148 hK25 h028 hn29 ?_
  exact J_vret C dX9_enters_149 M.2.2.1 ⟨rfl, rfl, rfl, h⟩
set_option maxRecDepth 20000 in
set_option maxHeartbeats 4000000 in
theorem S_X9_enters {G : Gp} {X : Xt} {d : Nat}  {x0 : Nat} {x1 : Int} {Q : Il → Prop} {S : Shp} {F : Fl} {I : Il} (C : CO G RX9 cX9_enters 4 X) (M : MX d none "enters" X) (hd : 4 ≤ d)  (h : V_X9_enters x0 x1 S F I Q) : J G X (QD X G (qV fun S' F' I' => S = S' ∧ F = F' ∧ Q I') noX) 0 [vr (some x0), vi x1, vl 0, vl 0] [] S F I := by
  unfold V_X9_enters at h
  obtain ⟨d, rfl⟩ : ∃ d9, d = d9 + 1 := ⟨d - 1, by omega⟩
  refine J_aload_n C dX9_enters_0 rfl rfl ?_
  obtain ⟨hK1, h⟩ := h
  obtain ⟨r2, hr3, h⟩ := h
  refine J_getR C fo_10_45 rfl fl_RX9_123 dX9_enters_1 hK1 hr3 ?_
  refine J_bipush C dX9_enters_4 (by decide +kernel) (rg_of (by decide)) ?_
  refine J_iload_n C dX9_enters_6 rfl rfl ?_
  refine J_imul C dX9_enters_7 ?_
  refine J_aload_n C dX9_enters_8 rfl rfl ?_
  obtain ⟨r4, hr5, h⟩ := h
  refine J_getR C fo_10_46 rfl fl_RX9_126 dX9_enters_9 hK1 hr5 ?_
  refine J_iload_n C dX9_enters_12 rfl rfl ?_
  obtain ⟨hK6, h⟩ := h
  obtain ⟨h07, hn8, h⟩ := h
  refine J_iald C dX9_enters_13 hK6 h07 hn8 ?_
  refine J_iadd C dX9_enters_14 ?_
  obtain ⟨hK9, h⟩ := h
  obtain ⟨h010, hn11, h⟩ := h
  refine J_iald C dX9_enters_15 hK9 h010 hn11 ?_
  refine K_istore_n C [vr (some x0), vi x1, vi (I r2 (w32 ((w32 (8 * x1)) + (I r4 x1)))), vl 0] dX9_enters_16 rfl (Nat.le_of_ble_eq_true rfl) rfl ?_
  refine J_aload_n C dX9_enters_17 rfl rfl ?_
  refine J_iload_n C dX9_enters_18 rfl rfl ?_
  refine J_iload_n C dX9_enters_19 rfl rfl ?_
  refine K_V C M [vi x1, vi (I r2 (w32 ((w32 (8 * x1)) + (I r4 x1))))] [] mi_X9_runs wg_1582 wg_1584 wg_60 ⟨rfl, by decide⟩ dX9_enters_20 hK1 rfl rfl (by decide) (Nat.le_of_ble_eq_true rfl) (c_X9_runs (C.2.2.2.2.2.2.2) (by omega) h) (fun v9 S' F' I' hq9 => ?_) K_no rfl
  clear h
  obtain ⟨z12, rfl, rfl, rfl, rfl, h⟩ := hq9
  refine K_istore_n C [vr (some x0), vi x1, vi (I r2 (w32 ((w32 (8 * x1)) + (I r4 x1)))), vi z12] dX9_enters_23 rfl (Nat.le_of_ble_eq_true rfl) rfl ?_
  refine J_aload_n C dX9_enters_24 rfl rfl ?_
  obtain ⟨r13, hr14, h⟩ := h
  refine J_getR C fo_10_17 rfl fl_RX9_48 dX9_enters_25 hK1 hr14 ?_
  refine J_iload_n C dX9_enters_28 rfl rfl ?_
  refine J_iload_n C dX9_enters_29 rfl rfl ?_
  obtain ⟨hK15, h⟩ := h
  obtain ⟨h016, hn17, h⟩ := h
  refine J_iast C dX9_enters_30 hK15 h016 hn17 ?_
  refine J_aload_n C dX9_enters_31 rfl rfl ?_
  obtain ⟨r18, hr19, h⟩ := h
  refine J_getR C fo_10_18 rfl fl_RX9_51 dX9_enters_32 hK1 hr19 ?_
  refine J_iload_n C dX9_enters_35 rfl rfl ?_
  refine J_aload_n C dX9_enters_36 rfl rfl ?_
  refine J_iload_n C dX9_enters_37 rfl rfl ?_
  refine J_iload_n C dX9_enters_38 rfl rfl ?_
  refine K_V C M [vi x1, vi (I r2 (w32 ((w32 (8 * x1)) + (I r4 x1))))] [vi (I r2 (w32 ((w32 (8 * x1)) + (I r4 x1)))), vr (some r18)] mi_X9_clears wg_1578 wg_1580 wg_59 ⟨rfl, by decide⟩ dX9_enters_39 hK1 rfl rfl (by decide) (Nat.le_of_ble_eq_true rfl) (c_X9_clears (C.2.2.2.2.2.2.2) (by omega) h) (fun v9 S' F' I' hq9 => ?_) K_no rfl
  clear h
  obtain ⟨z20, rfl, rfl, rfl, rfl, h⟩ := hq9
  obtain ⟨hK21, h⟩ := h
  obtain ⟨h022, hn23, h⟩ := h
  refine J_iast C dX9_enters_42 hK21 h022 hn23 ?_
  refine J_aload_n C dX9_enters_43 rfl rfl ?_
  obtain ⟨r24, hr25, h⟩ := h
  refine J_getR C fo_10_14 rfl fl_RX9_39 dX9_enters_44 hK1 hr25 ?_
  refine J_iload_n C dX9_enters_47 rfl rfl ?_
  refine J_iconst C dX9_enters_48 (rg_of (by decide)) ?_
  obtain ⟨hK26, h⟩ := h
  obtain ⟨h027, hn28, h⟩ := h
  refine J_zast C dX9_enters_49 hK26 h027 hn28 (by decide) ?_
  refine J_aload_n C dX9_enters_50 rfl rfl ?_
  obtain ⟨r29, hr30, h⟩ := h
  refine J_getR C fo_10_26 rfl fl_RX9_69 dX9_enters_51 hK1 hr30 ?_
  refine J_aload_n C dX9_enters_54 rfl rfl ?_
  obtain ⟨r31, hr32, h⟩ := h
  refine J_getR C fo_10_38 rfl fl_RX9_102 dX9_enters_55 hK1 hr32 ?_
  refine J_iload_n C dX9_enters_58 rfl rfl ?_
  obtain ⟨hK33, h⟩ := h
  obtain ⟨h034, hn35, h⟩ := h
  refine J_iald C dX9_enters_59 hK33 h034 hn35 ?_
  refine J_dup2 C dX9_enters_60 trivial trivial ?_
  obtain ⟨hK36, h⟩ := h
  obtain ⟨h037, hn38, h⟩ := h
  refine J_iald C dX9_enters_61 hK36 h037 hn38 ?_
  refine J_iload_n C dX9_enters_62 rfl rfl ?_
  refine J_iadd C dX9_enters_63 ?_
  obtain ⟨h039, hn40, h⟩ := h
  refine J_iast C dX9_enters_64 hK36 h039 hn40 ?_
  refine J_aload_n C dX9_enters_65 rfl rfl ?_
  obtain ⟨r41, hr42, h⟩ := h
  refine J_getR C fo_10_42 rfl fl_RX9_114 dX9_enters_66 hK1 hr42 ?_
  refine J_iload_n C dX9_enters_69 rfl rfl ?_
  refine J_aload_n C dX9_enters_70 rfl rfl ?_
  refine J_getI C fo_10_1 rfl fl_RX9_187 dX9_enters_71 hK1 ?_
  refine J_iload_n C dX9_enters_74 rfl rfl ?_
  refine J_iadd C dX9_enters_75 ?_
  obtain ⟨hK43, h⟩ := h
  obtain ⟨h044, hn45, h⟩ := h
  refine J_iast C dX9_enters_76 hK43 h044 hn45 ?_
  refine J_aload_n C dX9_enters_77 rfl rfl ?_
  obtain ⟨r46, hr47, h⟩ := h
  refine J_getR C fo_10_50 rfl fl_RX9_138 dX9_enters_78 hK1 hr47 ?_
  refine J_iload_n C dX9_enters_81 rfl rfl ?_
  refine J_aload_n C dX9_enters_82 rfl rfl ?_
  obtain ⟨r48, hr49, h⟩ := h
  refine J_getR C fo_10_51 rfl fl_RX9_141 dX9_enters_83 hK1 hr49 ?_
  refine J_iload_n C dX9_enters_86 rfl rfl ?_
  obtain ⟨hK50, h⟩ := h
  obtain ⟨h051, hn52, h⟩ := h
  refine J_iald C dX9_enters_87 hK50 h051 hn52 ?_
  refine J_aload_n C dX9_enters_88 rfl rfl ?_
  obtain ⟨r53, hr54, h⟩ := h
  refine J_getR C fo_10_40 rfl fl_RX9_108 dX9_enters_89 hK1 hr54 ?_
  refine J_iload_n C dX9_enters_92 rfl rfl ?_
  obtain ⟨hK55, h⟩ := h
  obtain ⟨h056, hn57, h⟩ := h
  refine J_iald C dX9_enters_93 hK55 h056 hn57 ?_
  refine J_icmp_ne C dX9_enters_94 (tgt := 101) rfl (fun c94 => ?_) (fun c94 => ?_)
  · have h := h.1 c94
    refine J_aload_n C dX9_enters_101 rfl rfl ?_
    refine J_getR C fo_10_50 rfl fl_RX9_138 dX9_enters_102 hK1 hr47 ?_
    refine J_iload_n C dX9_enters_105 rfl rfl ?_
    obtain ⟨hK58, h⟩ := h
    obtain ⟨h059, hn60, h⟩ := h
    refine J_iald C dX9_enters_106 hK58 h059 hn60 ?_
    refine J_less [vr (some x0), vi x1, vi (I r2 (w32 ((w32 (8 * x1)) + (I r4 x1)))), vl 0] (by unfold lessL; simp [lessL]) ?_
    exact S_X9_enters_107 C M (by omega)  h
  · have h := h.2 c94
    refine J_iconst C dX9_enters_97 (rg_of (by decide)) ?_
    refine J_goto C dX9_enters_98 (tgt := 107) rfl ?_
    refine J_less [vr (some x0), vi x1, vi (I r2 (w32 ((w32 (8 * x1)) + (I r4 x1)))), vl 0] (by unfold lessL; simp [lessL]) ?_
    exact S_X9_enters_107 C M (by omega)  h
theorem c_X9_enters {l : Launch} {G : Gp} {d : Nat} {x0 : Nat} {x1 : Int} {S : Shp} {F : Fl} {I : Il} {Q : Il → Prop} (hl : l.stackTraces = false) (hd : 4 ≤ d) (h : V_X9_enters x0 x1 S F I Q) : CM l G d yX9_enters (.code yX9_enters cX9_enters 4 none) [vr (some x0), vi x1] S F I (qV fun S' F' I' => S = S' ∧ F = F' ∧ Q I') noX :=
  CM_ofM [vr (some x0), vi x1, vl 0, vl 0] hl (by decide +kernel) (kn1 trivial (kn1 trivial kn0)) (Nat.le_of_ble_eq_true rfl) rfl (fun X hX C M => S_X9_enters C M hd h)
set_option maxRecDepth 20000 in
set_option maxHeartbeats 4000000 in
theorem S_X9_fail_14 {G : Gp} {X : Xt} {d : Nat}  {x0 : Nat} {x1 : Int} {x2 : Int} {s0 : Int} {s1 : Nat} {Q : Int → Fl → Il → Prop} {S : Shp} {F : Fl} {I : Il} (C : CO G RX9 cX9_fail 4 X) (M : MX d (some .boolean) "fail" X) (hd : 3 ≤ d)  (h : V_X9_fail_14 x0 x1 x2 s0 s1 S F I Q) : J G X (QD X G (qI fun z S' F' I' => S = S' ∧ Q z F' I') noX) 14 [vr (some x0), vi x1, vi x2, vl 0] [vi s0, vr (some s1)] S F I := by
  unfold V_X9_fail_14 at h
  obtain ⟨hK1, h⟩ := h
  refine J_putI C fo_10_0 fp_10 fl_RX9_174 (Or.inl rfl) (Or.inl rfl) dX9_fail_14 hK1 ?_
  refine J_aload_n C dX9_fail_17 rfl rfl ?_
  obtain ⟨hK2, h⟩ := h
  refine J_getI C fo_10_0 rfl fl_RX9_174 dX9_fail_18 hK2 ?_
  refine J_if_le C dX9_fail_21 (tgt := 26) rfl (fun c21 => ?_) (fun c21 => ?_)
  · have h := h.1 c21
    refine J_aload_n C dX9_fail_26 rfl rfl ?_
    obtain ⟨r3, hr4, h⟩ := h
    refine J_getR C fo_10_13 rfl fl_RX9_36 dX9_fail_27 hK2 hr4 ?_
    refine J_iload_n C dX9_fail_30 rfl rfl ?_
    obtain ⟨hK5, h⟩ := h
    obtain ⟨h06, hn7, h⟩ := h
    refine J_zald C dX9_fail_31 hK5 h06 hn7 ?_
    refine K_istore_n C [vr (some x0), vi x1, vi x2, vi (I r3 x1)] dX9_fail_32 rfl (Nat.le_of_ble_eq_true rfl) rfl ?_
    refine J_aload_n C dX9_fail_33 rfl rfl ?_
    refine J_getR C fo_10_13 rfl fl_RX9_36 dX9_fail_34 hK2 hr4 ?_
    refine J_iload_n C dX9_fail_37 rfl rfl ?_
    refine J_iload_n C dX9_fail_38 rfl rfl ?_
    obtain ⟨h08, hn9, h⟩ := h
    obtain ⟨hb10, h⟩ := h
    refine J_zast C dX9_fail_39 hK5 h08 hn9 hb10 ?_
    refine J_aload_n C dX9_fail_40 rfl rfl ?_
    obtain ⟨r11, hr12, h⟩ := h
    refine J_getR C fo_10_14 rfl fl_RX9_39 dX9_fail_41 hK2 hr12 ?_
    refine J_iload_n C dX9_fail_44 rfl rfl ?_
    refine J_iconst C dX9_fail_45 (rg_of (by decide)) ?_
    obtain ⟨hK13, h⟩ := h
    obtain ⟨h014, hn15, h⟩ := h
    refine J_zast C dX9_fail_46 hK13 h014 hn15 (by decide) ?_
    refine J_iload_n C dX9_fail_47 rfl rfl ?_
    obtain ⟨hb, h⟩ := h
    exact J_zret C dX9_fail_48 M.2.2.1 hb ⟨_, rfl, rfl, h⟩
  · have h := h.2 c21
    refine J_iconst C dX9_fail_24 (rg_of (by decide)) ?_
    exact J_zret C dX9_fail_25 M.2.2.1 (by decide) ⟨_, rfl, rfl, h⟩
set_option maxRecDepth 20000 in
set_option maxHeartbeats 4000000 in
theorem S_X9_fail {G : Gp} {X : Xt} {d : Nat}  {x0 : Nat} {x1 : Int} {x2 : Int} {Q : Int → Fl → Il → Prop} {S : Shp} {F : Fl} {I : Il} (C : CO G RX9 cX9_fail 4 X) (M : MX d (some .boolean) "fail" X) (hd : 3 ≤ d)  (h : V_X9_fail x0 x1 x2 S F I Q) : J G X (QD X G (qI fun z S' F' I' => S = S' ∧ Q z F' I') noX) 0 [vr (some x0), vi x1, vi x2, vl 0] [] S F I := by
  unfold V_X9_fail at h
  obtain ⟨d, rfl⟩ : ∃ d9, d = d9 + 1 := ⟨d - 1, by omega⟩
  refine J_aload_n C dX9_fail_0 rfl rfl ?_
  refine J_aload_n C dX9_fail_1 rfl rfl ?_
  refine J_iload_n C dX9_fail_2 rfl rfl ?_
  obtain ⟨hK1, h⟩ := h
  refine K_V C M [vi x1] [vr (some x0)] mi_X9_isBlock wg_1429 wg_1431 wg_40 ⟨rfl, by decide⟩ dX9_fail_3 hK1 rfl rfl (by decide) (Nat.le_of_ble_eq_true rfl) (c_X9_isBlock (C.2.2.2.2.2.2.2) (by omega) h) (fun v9 S' F' I' hq9 => ?_) K_no rfl
  clear h
  obtain ⟨z2, rfl, rfl, rfl, rfl, h⟩ := hq9
  refine J_if_eq C dX9_fail_6 (tgt := 13) rfl (fun c6 => ?_) (fun c6 => ?_)
  · have h := h.1 c6
    refine J_iconst C dX9_fail_13 (rg_of (by decide)) ?_
    exact S_X9_fail_14 C M (by omega)  h
  · have h := h.2 c6
    refine J_iconst C dX9_fail_9 (rg_of (by decide)) ?_
    refine J_goto C dX9_fail_10 (tgt := 14) rfl ?_
    exact S_X9_fail_14 C M (by omega)  h
theorem c_X9_fail {l : Launch} {G : Gp} {d : Nat} {x0 : Nat} {x1 : Int} {x2 : Int} {S : Shp} {F : Fl} {I : Il} {Q : Int → Fl → Il → Prop} (hl : l.stackTraces = false) (hd : 3 ≤ d) (h : V_X9_fail x0 x1 x2 S F I Q) : CM l G d yX9_fail (.code yX9_fail cX9_fail 4 (some .boolean)) [vr (some x0), vi x1, vi x2] S F I (qI fun z S' F' I' => S = S' ∧ Q z F' I') noX :=
  CM_ofM [vr (some x0), vi x1, vi x2, vl 0] hl (by decide +kernel) (kn1 trivial (kn1 trivial (kn1 trivial kn0))) (Nat.le_of_ble_eq_true rfl) rfl (fun X hX C M => S_X9_fail C M hd h)
set_option maxRecDepth 20000 in
set_option maxHeartbeats 4000000 in
theorem S_X9_fails {G : Gp} {X : Xt} {d : Nat}  {x0 : Nat} {x1 : Int} {Q : Int → Fl → Prop} {S : Shp} {F : Fl} {I : Il} (C : CO G RX9 cX9_fails 2 X) (M : MX d (some .int) "fails" X) (hd : 1 ≤ d)  (h : V_X9_fails x0 x1 S F I Q) : J G X (QD X G (qI fun z S' F' I' => S = S' ∧ I = I' ∧ Q z F') noX) 0 [vr (some x0), vi x1] [] S F I := by
  unfold V_X9_fails at h
  refine J_aload_n C dX9_fails_0 rfl rfl ?_
  refine J_iload_n C dX9_fails_1 rfl rfl ?_
  obtain ⟨hK1, h⟩ := h
  refine J_putI C fo_10_0 fp_10 fl_RX9_174 (Or.inl rfl) (Or.inl rfl) dX9_fails_2 hK1 ?_
  refine J_iconst C dX9_fails_5 (rg_of (by decide)) ?_
  exact J_iret C dX9_fails_6 M.2.2.1 ⟨_, rfl, rfl, rfl, h⟩
theorem c_X9_fails {l : Launch} {G : Gp} {d : Nat} {x0 : Nat} {x1 : Int} {S : Shp} {F : Fl} {I : Il} {Q : Int → Fl → Prop} (hl : l.stackTraces = false) (hd : 1 ≤ d) (h : V_X9_fails x0 x1 S F I Q) : CM l G d yX9_fails (.code yX9_fails cX9_fails 2 (some .int)) [vr (some x0), vi x1] S F I (qI fun z S' F' I' => S = S' ∧ I = I' ∧ Q z F') noX :=
  CM_ofM [vr (some x0), vi x1] hl (by decide +kernel) (kn1 trivial (kn1 trivial kn0)) (Nat.le_of_ble_eq_true rfl) rfl (fun X hX C M => S_X9_fails C M hd h)
set_option maxRecDepth 20000 in
set_option maxHeartbeats 4000000 in
theorem S_X9_flag_36 {G : Gp} {X : Xt} {d : Nat}  {x0 : Nat} {x1 : Int} {s0 : Int} {s1 : Nat} {Q : Fl → Il → Prop} {S : Shp} {F : Fl} {I : Il} (C : CO G RX9 cX9_flag 2 X) (M : MX d none "flag" X) (hd : 3 ≤ d)  (h : V_X9_flag_36 x0 x1 s0 s1 S F I Q) : J G X (QD X G (qV fun S' F' I' => S = S' ∧ Q F' I') noX) 36 [vr (some x0), vi x1] [vi s0, vr (some s1)] S F I := by
  unfold V_X9_flag_36 at h
  obtain ⟨hK1, h⟩ := h
  refine J_putI C fo_10_0 fp_10 fl_RX9_174 (Or.inl rfl) (Or.inl rfl) dX9_flag_36 hK1 ?_
  refine J_aload_n C dX9_flag_39 rfl rfl ?_
  obtain ⟨hK2, h⟩ := h
  refine J_getI C fo_10_0 rfl fl_RX9_174 dX9_flag_40 hK2 ?_
  refine J_if_ne C dX9_flag_43 (tgt := 53) rfl (fun c43 => ?_) (fun c43 => ?_)
  · have h := h.1 c43
    exact J_vret C dX9_flag_53 M.2.2.1 ⟨rfl, rfl, h⟩
  · have h := h.2 c43
    refine J_aload_n C dX9_flag_46 rfl rfl ?_
    obtain ⟨r3, hr4, h⟩ := h
    refine J_getR C fo_10_14 rfl fl_RX9_39 dX9_flag_47 hK2 hr4 ?_
    refine J_iload_n C dX9_flag_50 rfl rfl ?_
    refine J_iconst C dX9_flag_51 (rg_of (by decide)) ?_
    obtain ⟨hK5, h⟩ := h
    obtain ⟨h06, hn7, h⟩ := h
    refine J_zast C dX9_flag_52 hK5 h06 hn7 (by decide) ?_
    exact J_vret C dX9_flag_53 M.2.2.1 ⟨rfl, rfl, h⟩
set_option maxRecDepth 20000 in
set_option maxHeartbeats 4000000 in
theorem S_X9_flag_31 {G : Gp} {X : Xt} {d : Nat}  {x0 : Nat} {x1 : Int} {s0 : Nat} {Q : Fl → Il → Prop} {S : Shp} {F : Fl} {I : Il} (C : CO G RX9 cX9_flag 2 X) (M : MX d none "flag" X) (hd : 3 ≤ d)  (h : V_X9_flag_31 x0 x1 s0 S F I Q) : J G X (QD X G (qV fun S' F' I' => S = S' ∧ Q F' I') noX) 31 [vr (some x0), vi x1] [vr (some s0)] S F I := by
  unfold V_X9_flag_31 at h
  refine J_iconst C dX9_flag_31 (rg_of (by decide)) ?_
  refine J_goto C dX9_flag_32 (tgt := 36) rfl ?_
  exact S_X9_flag_36 C M (by omega)  h
set_option maxRecDepth 20000 in
set_option maxHeartbeats 4000000 in
theorem S_X9_flag {G : Gp} {X : Xt} {d : Nat}  {x0 : Nat} {x1 : Int} {Q : Fl → Il → Prop} {S : Shp} {F : Fl} {I : Il} (C : CO G RX9 cX9_flag 2 X) (M : MX d none "flag" X) (hd : 3 ≤ d)  (h : V_X9_flag x0 x1 S F I Q) : J G X (QD X G (qV fun S' F' I' => S = S' ∧ Q F' I') noX) 0 [vr (some x0), vi x1] [] S F I := by
  unfold V_X9_flag at h
  obtain ⟨d, rfl⟩ : ∃ d9, d = d9 + 1 := ⟨d - 1, by omega⟩
  refine J_aload_n C dX9_flag_0 rfl rfl ?_
  refine J_aload_n C dX9_flag_1 rfl rfl ?_
  refine J_iload_n C dX9_flag_2 rfl rfl ?_
  obtain ⟨hK1, h⟩ := h
  refine K_V C M [vi x1] [vr (some x0)] mi_X9_isBlock wg_1429 wg_1431 wg_40 ⟨rfl, by decide⟩ dX9_flag_3 hK1 rfl rfl (by decide) (Nat.le_of_ble_eq_true rfl) (c_X9_isBlock (C.2.2.2.2.2.2.2) (by omega) h) (fun v9 S' F' I' hq9 => ?_) K_no rfl
  clear h
  obtain ⟨z2, rfl, rfl, rfl, rfl, h⟩ := hq9
  refine J_if_ne C dX9_flag_6 (tgt := 13) rfl (fun c6 => ?_) (fun c6 => ?_)
  · have h := h.1 c6
    refine J_aload_n C dX9_flag_13 rfl rfl ?_
    obtain ⟨r3, hr4, h⟩ := h
    refine J_getR C fo_10_13 rfl fl_RX9_36 dX9_flag_14 hK1 hr4 ?_
    refine J_iload_n C dX9_flag_17 rfl rfl ?_
    obtain ⟨hK5, h⟩ := h
    obtain ⟨h06, hn7, h⟩ := h
    refine J_zald C dX9_flag_18 hK5 h06 hn7 ?_
    refine J_if_eq C dX9_flag_19 (tgt := 31) rfl (fun c19 => ?_) (fun c19 => ?_)
    · have h := h.1 c19
      exact S_X9_flag_31 C M (by omega)  h
    · have h := h.2 c19
      refine J_aload_n C dX9_flag_22 rfl rfl ?_
      obtain ⟨r8, hr9, h⟩ := h
      refine J_getR C fo_10_14 rfl fl_RX9_39 dX9_flag_23 hK1 hr9 ?_
      refine J_iload_n C dX9_flag_26 rfl rfl ?_
      obtain ⟨hK10, h⟩ := h
      obtain ⟨h011, hn12, h⟩ := h
      refine J_zald C dX9_flag_27 hK10 h011 hn12 ?_
      refine J_if_eq C dX9_flag_28 (tgt := 35) rfl (fun c28 => ?_) (fun c28 => ?_)
      · have h := h.1 c28
        refine J_iconst C dX9_flag_35 (rg_of (by decide)) ?_
        exact S_X9_flag_36 C M (by omega)  h
      · have h := h.2 c28
        exact S_X9_flag_31 C M (by omega)  h
  · have h := h.2 c6
    refine J_iconst C dX9_flag_9 (rg_of (by decide)) ?_
    refine J_goto C dX9_flag_10 (tgt := 36) rfl ?_
    exact S_X9_flag_36 C M (by omega)  h
theorem c_X9_flag {l : Launch} {G : Gp} {d : Nat} {x0 : Nat} {x1 : Int} {S : Shp} {F : Fl} {I : Il} {Q : Fl → Il → Prop} (hl : l.stackTraces = false) (hd : 3 ≤ d) (h : V_X9_flag x0 x1 S F I Q) : CM l G d yX9_flag (.code yX9_flag cX9_flag 2 none) [vr (some x0), vi x1] S F I (qV fun S' F' I' => S = S' ∧ Q F' I') noX :=
  CM_ofM [vr (some x0), vi x1] hl (by decide +kernel) (kn1 trivial (kn1 trivial kn0)) (Nat.le_of_ble_eq_true rfl) rfl (fun X hX C M => S_X9_flag C M hd h)
set_option maxRecDepth 20000 in
set_option maxHeartbeats 4000000 in
theorem S_X9_form_141 {G : Gp} {X : Xt} {d : Nat}  {x0 : Nat} {x1 : Int} {x2 : Int} {x3 : Int} {s0 : Int} {Q : Int → Fl → Il → Prop} {S : Shp} {F : Fl} {I : Il} (C : CO G RX9 cX9_form 5 X) (M : MX d (some .int) "form" X) (hd : 3 ≤ d)  (h : V_X9_form_141 x0 x1 x2 x3 s0 S F I Q) : J G X (QD X G (qI fun z S' F' I' => S = S' ∧ Q z F' I') noX) 141 [vr (some x0), vi x1, vi x2, vi x3, vl 0] [vi s0] S F I := by
  unfold V_X9_form_141 at h
  obtain ⟨d, rfl⟩ : ∃ d9, d = d9 + 1 := ⟨d - 1, by omega⟩
  refine K_istore C [vr (some x0), vi x1, vi x2, vi x3, vi s0] dX9_form_141 (Nat.le_of_ble_eq_true rfl) rfl ?_
  refine J_iload C dX9_form_143 rfl ?_
  refine J_if_ne C dX9_form_145 (tgt := 154) rfl (fun c145 => ?_) (fun c145 => ?_)
  · have h := h.1 c145
    refine J_aload_n C dX9_form_154 rfl rfl ?_
    obtain ⟨hK1, h⟩ := h
    obtain ⟨r2, hr3, h⟩ := h
    refine J_getR C fo_10_36 rfl fl_RX9_96 dX9_form_155 hK1 hr3 ?_
    refine J_iload_n C dX9_form_158 rfl rfl ?_
    refine J_iconst C dX9_form_159 (rg_of (by decide)) ?_
    obtain ⟨hK4, h⟩ := h
    obtain ⟨h05, hn6, h⟩ := h
    refine J_zast C dX9_form_160 hK4 h05 hn6 (by decide) ?_
    refine J_aload_n C dX9_form_161 rfl rfl ?_
    obtain ⟨r7, hr8, h⟩ := h
    refine J_getR C fo_10_37 rfl fl_RX9_99 dX9_form_162 hK1 hr8 ?_
    refine J_iload_n C dX9_form_165 rfl rfl ?_
    refine J_iload_n C dX9_form_166 rfl rfl ?_
    obtain ⟨hK9, h⟩ := h
    obtain ⟨h010, hn11, h⟩ := h
    refine J_iast C dX9_form_167 hK9 h010 hn11 ?_
    refine J_aload_n C dX9_form_168 rfl rfl ?_
    obtain ⟨r12, hr13, h⟩ := h
    refine J_getR C fo_10_38 rfl fl_RX9_102 dX9_form_169 hK1 hr13 ?_
    refine J_iload_n C dX9_form_172 rfl rfl ?_
    refine J_iload_n C dX9_form_173 rfl rfl ?_
    obtain ⟨hK14, h⟩ := h
    obtain ⟨h015, hn16, h⟩ := h
    refine J_iast C dX9_form_174 hK14 h015 hn16 ?_
    refine J_aload_n C dX9_form_175 rfl rfl ?_
    obtain ⟨r17, hr18, h⟩ := h
    refine J_getR C fo_10_22 rfl fl_RX9_60 dX9_form_176 hK1 hr18 ?_
    refine J_iload_n C dX9_form_179 rfl rfl ?_
    refine J_iload_n C dX9_form_180 rfl rfl ?_
    obtain ⟨hK19, h⟩ := h
    obtain ⟨h020, hn21, h⟩ := h
    refine J_iast C dX9_form_181 hK19 h020 hn21 ?_
    refine J_aload_n C dX9_form_182 rfl rfl ?_
    obtain ⟨r22, hr23, h⟩ := h
    refine J_getR C fo_10_25 rfl fl_RX9_66 dX9_form_183 hK1 hr23 ?_
    refine J_iload_n C dX9_form_186 rfl rfl ?_
    refine J_iload_n C dX9_form_187 rfl rfl ?_
    obtain ⟨hK24, h⟩ := h
    obtain ⟨h025, hn26, h⟩ := h
    refine J_iast C dX9_form_188 hK24 h025 hn26 ?_
    refine J_aload_n C dX9_form_189 rfl rfl ?_
    obtain ⟨r27, hr28, h⟩ := h
    refine J_getR C fo_10_39 rfl fl_RX9_105 dX9_form_190 hK1 hr28 ?_
    refine J_iload_n C dX9_form_193 rfl rfl ?_
    refine J_iconst C dX9_form_194 (rg_of (by decide)) ?_
    obtain ⟨hK29, h⟩ := h
    obtain ⟨h030, hn31, h⟩ := h
    refine J_iast C dX9_form_195 hK29 h030 hn31 ?_
    refine J_aload_n C dX9_form_196 rfl rfl ?_
    obtain ⟨r32, hr33, h⟩ := h
    refine J_getR C fo_10_40 rfl fl_RX9_108 dX9_form_197 hK1 hr33 ?_
    refine J_iload_n C dX9_form_200 rfl rfl ?_
    refine J_aload_n C dX9_form_201 rfl rfl ?_
    obtain ⟨r34, hr35, h⟩ := h
    refine J_getR C fo_10_21 rfl fl_RX9_57 dX9_form_202 hK1 hr35 ?_
    refine J_iload_n C dX9_form_205 rfl rfl ?_
    obtain ⟨hK36, h⟩ := h
    obtain ⟨h037, hn38, h⟩ := h
    refine J_iald C dX9_form_206 hK36 h037 hn38 ?_
    obtain ⟨hK39, h⟩ := h
    obtain ⟨h040, hn41, h⟩ := h
    refine J_iast C dX9_form_207 hK39 h040 hn41 ?_
    refine J_aload_n C dX9_form_208 rfl rfl ?_
    obtain ⟨r42, hr43, h⟩ := h
    refine J_getR C fo_10_41 rfl fl_RX9_111 dX9_form_209 hK1 hr43 ?_
    refine J_iload_n C dX9_form_212 rfl rfl ?_
    refine J_iconst C dX9_form_213 (rg_of (by decide)) ?_
    obtain ⟨hK44, h⟩ := h
    obtain ⟨h045, hn46, h⟩ := h
    refine J_iast C dX9_form_214 hK44 h045 hn46 ?_
    refine J_aload_n C dX9_form_215 rfl rfl ?_
    obtain ⟨r47, hr48, h⟩ := h
    refine J_getR C fo_10_44 rfl fl_RX9_120 dX9_form_216 hK1 hr48 ?_
    refine J_iload_n C dX9_form_219 rfl rfl ?_
    refine J_iconst C dX9_form_220 (rg_of (by decide)) ?_
    obtain ⟨hK49, h⟩ := h
    obtain ⟨h050, hn51, h⟩ := h
    refine J_iast C dX9_form_221 hK49 h050 hn51 ?_
    refine J_aload_n C dX9_form_222 rfl rfl ?_
    obtain ⟨r52, hr53, h⟩ := h
    refine J_getR C fo_10_46 rfl fl_RX9_126 dX9_form_223 hK1 hr53 ?_
    refine J_iload_n C dX9_form_226 rfl rfl ?_
    refine J_iconst C dX9_form_227 (rg_of (by decide)) ?_
    obtain ⟨hK54, h⟩ := h
    obtain ⟨h055, hn56, h⟩ := h
    refine J_iast C dX9_form_228 hK54 h055 hn56 ?_
    refine J_aload_n C dX9_form_229 rfl rfl ?_
    obtain ⟨r57, hr58, h⟩ := h
    refine J_getR C fo_10_47 rfl fl_RX9_129 dX9_form_230 hK1 hr58 ?_
    refine J_iload_n C dX9_form_233 rfl rfl ?_
    refine J_iconst C dX9_form_234 (rg_of (by decide)) ?_
    obtain ⟨hK59, h⟩ := h
    obtain ⟨h060, hn61, h⟩ := h
    refine J_iast C dX9_form_235 hK59 h060 hn61 ?_
    refine J_aload_n C dX9_form_236 rfl rfl ?_
    obtain ⟨r62, hr63, h⟩ := h
    refine J_getR C fo_10_50 rfl fl_RX9_138 dX9_form_237 hK1 hr63 ?_
    refine J_iload_n C dX9_form_240 rfl rfl ?_
    refine J_iconst C dX9_form_241 (rg_of (by decide)) ?_
    obtain ⟨hK64, h⟩ := h
    obtain ⟨h065, hn66, h⟩ := h
    refine J_iast C dX9_form_242 hK64 h065 hn66 ?_
    refine J_iload_n C dX9_form_243 rfl rfl ?_
    exact J_iret C dX9_form_244 M.2.2.1 ⟨_, rfl, rfl, h⟩
  · have h := h.2 c145
    refine J_aload_n C dX9_form_148 rfl rfl ?_
    refine J_iconst C dX9_form_149 (rg_of (by decide)) ?_
    obtain ⟨hK67, h⟩ := h
    refine K_V C M [vi 2] [] mi_X9_fails wg_1502 wg_1504 wg_47 ⟨rfl, by decide⟩ dX9_form_150 hK67 rfl rfl (by decide) (Nat.le_of_ble_eq_true rfl) (c_X9_fails (C.2.2.2.2.2.2.2) (by omega) h) (fun v9 S' F69 I' hq9 => ?_) K_no rfl
    clear h
    obtain ⟨z68, rfl, rfl, rfl, h⟩ := hq9
    exact J_iret C dX9_form_153 M.2.2.1 ⟨_, rfl, rfl, h⟩
set_option maxRecDepth 20000 in
set_option maxHeartbeats 4000000 in
theorem S_X9_form_140 {G : Gp} {X : Xt} {d : Nat}  {x0 : Nat} {x1 : Int} {x2 : Int} {x3 : Int} {Q : Int → Fl → Il → Prop} {S : Shp} {F : Fl} {I : Il} (C : CO G RX9 cX9_form 5 X) (M : MX d (some .int) "form" X) (hd : 3 ≤ d)  (h : V_X9_form_140 x0 x1 x2 x3 S F I Q) : J G X (QD X G (qI fun z S' F' I' => S = S' ∧ Q z F' I') noX) 140 [vr (some x0), vi x1, vi x2, vi x3, vl 0] [] S F I := by
  unfold V_X9_form_140 at h
  refine J_iconst C dX9_form_140 (rg_of (by decide)) ?_
  exact S_X9_form_141 C M (by omega)  h
set_option maxRecDepth 20000 in
set_option maxHeartbeats 4000000 in
theorem S_X9_form_63 {G : Gp} {X : Xt} {d : Nat}  {x0 : Nat} {x1 : Int} {x2 : Int} {x3 : Int} {Q : Int → Fl → Il → Prop} {S : Shp} {F : Fl} {I : Il} (C : CO G RX9 cX9_form 5 X) (M : MX d (some .int) "form" X) (hd : 3 ≤ d)  (h : V_X9_form_63 x0 x1 x2 x3 S F I Q) : J G X (QD X G (qI fun z S' F' I' => S = S' ∧ Q z F' I') noX) 63 [vr (some x0), vi x1, vi x2, vi x3, vl 0] [] S F I := by
  unfold V_X9_form_63 at h
  obtain ⟨d, rfl⟩ : ∃ d9, d = d9 + 1 := ⟨d - 1, by omega⟩
  refine J_iload_n C dX9_form_63 rfl rfl ?_
  refine J_bipush C dX9_form_64 (by decide +kernel) (rg_of (by decide)) ?_
  refine J_icmp_ge C dX9_form_66 (tgt := 140) rfl (fun c66 => ?_) (fun c66 => ?_)
  · have h := h.1 c66
    exact S_X9_form_140 C M (by omega)  h
  · have h := h.2 c66
    refine J_aload_n C dX9_form_69 rfl rfl ?_
    obtain ⟨hK1, h⟩ := h
    obtain ⟨r2, hr3, h⟩ := h
    refine J_getR C fo_10_22 rfl fl_RX9_60 dX9_form_70 hK1 hr3 ?_
    refine J_iload_n C dX9_form_73 rfl rfl ?_
    obtain ⟨hK4, h⟩ := h
    obtain ⟨h05, hn6, h⟩ := h
    refine J_iald C dX9_form_74 hK4 h05 hn6 ?_
    refine J_iconst C dX9_form_75 (rg_of (by decide)) ?_
    refine J_icmp_ne C dX9_form_76 (tgt := 140) rfl (fun c76 => ?_) (fun c76 => ?_)
    · have h := h.1 c76
      exact S_X9_form_140 C M (by omega)  h
    · have h := h.2 c76
      refine J_aload_n C dX9_form_79 rfl rfl ?_
      obtain ⟨r7, hr8, h⟩ := h
      refine J_getR C fo_10_25 rfl fl_RX9_66 dX9_form_80 hK1 hr8 ?_
      refine J_iload_n C dX9_form_83 rfl rfl ?_
      obtain ⟨hK9, h⟩ := h
      obtain ⟨h010, hn11, h⟩ := h
      refine J_iald C dX9_form_84 hK9 h010 hn11 ?_
      refine J_iconst C dX9_form_85 (rg_of (by decide)) ?_
      refine J_icmp_ne C dX9_form_86 (tgt := 140) rfl (fun c86 => ?_) (fun c86 => ?_)
      · have h := h.1 c86
        exact S_X9_form_140 C M (by omega)  h
      · have h := h.2 c86
        refine J_aload_n C dX9_form_89 rfl rfl ?_
        obtain ⟨r12, hr13, h⟩ := h
        refine J_getR C fo_10_21 rfl fl_RX9_57 dX9_form_90 hK1 hr13 ?_
        refine J_iload_n C dX9_form_93 rfl rfl ?_
        obtain ⟨hK14, h⟩ := h
        obtain ⟨h015, hn16, h⟩ := h
        refine J_iald C dX9_form_94 hK14 h015 hn16 ?_
        refine J_aload_n C dX9_form_95 rfl rfl ?_
        obtain ⟨r17, hr18, h⟩ := h
        refine J_getR C fo_10_24 rfl fl_RX9_63 dX9_form_96 hK1 hr18 ?_
        refine J_iload_n C dX9_form_99 rfl rfl ?_
        obtain ⟨hK19, h⟩ := h
        obtain ⟨h020, hn21, h⟩ := h
        refine J_iald C dX9_form_100 hK19 h020 hn21 ?_
        refine J_icmp_ne C dX9_form_101 (tgt := 140) rfl (fun c101 => ?_) (fun c101 => ?_)
        · have h := h.1 c101
          exact S_X9_form_140 C M (by omega)  h
        · have h := h.2 c101
          refine J_aload_n C dX9_form_104 rfl rfl ?_
          refine J_iload_n C dX9_form_105 rfl rfl ?_
          refine K_V C M [vi x2] [] mi_X9_rests wg_1469 wg_1471 wg_43 ⟨rfl, by decide⟩ dX9_form_106 hK1 rfl rfl (by decide) (Nat.le_of_ble_eq_true rfl) (c_X9_rests (C.2.2.2.2.2.2.2) (by omega) h) (fun v9 S' F' I' hq9 => ?_) K_no rfl
          clear h
          obtain ⟨z22, rfl, rfl, rfl, rfl, h⟩ := hq9
          refine J_if_ne C dX9_form_109 (tgt := 140) rfl (fun c109 => ?_) (fun c109 => ?_)
          · have h := h.1 c109
            exact S_X9_form_140 C M (by omega)  h
          · have h := h.2 c109
            refine J_aload_n C dX9_form_112 rfl rfl ?_
            refine J_aload_n C dX9_form_113 rfl rfl ?_
            refine J_getR C fo_10_21 rfl fl_RX9_57 dX9_form_114 hK1 hr13 ?_
            refine J_iload_n C dX9_form_117 rfl rfl ?_
            obtain ⟨h023, hn24, h⟩ := h
            refine J_iald C dX9_form_118 hK14 h023 hn24 ?_
            refine K_V C M [vi (I r12 x1)] [] mi_X9_taken wg_1417 wg_1419 wg_39 ⟨rfl, by decide⟩ dX9_form_119 hK1 rfl rfl (by decide) (Nat.le_of_ble_eq_true rfl) (c_X9_taken (C.2.2.2.2.2.2.2) (by omega) h) (fun v9 S' F' I' hq9 => ?_) K_no rfl
            clear h
            obtain ⟨z25, rfl, rfl, rfl, rfl, h⟩ := hq9
            refine J_aload_n C dX9_form_122 rfl rfl ?_
            obtain ⟨r26, hr27, h⟩ := h
            refine J_getR C fo_10_5 rfl fl_RX9_13 dX9_form_123 hK1 hr27 ?_
            refine J_aload_n C dX9_form_126 rfl rfl ?_
            refine J_getR C fo_10_21 rfl fl_RX9_57 dX9_form_127 hK1 hr13 ?_
            refine J_iload_n C dX9_form_130 rfl rfl ?_
            obtain ⟨h028, hn29, h⟩ := h
            refine J_iald C dX9_form_131 hK14 h028 hn29 ?_
            obtain ⟨hK30, h⟩ := h
            obtain ⟨h031, hn32, h⟩ := h
            refine J_iald C dX9_form_132 hK30 h031 hn32 ?_
            refine J_icmp_ge C dX9_form_133 (tgt := 140) rfl (fun c133 => ?_) (fun c133 => ?_)
            · have h := h.1 c133
              exact S_X9_form_140 C M (by omega)  h
            · have h := h.2 c133
              refine J_iconst C dX9_form_136 (rg_of (by decide)) ?_
              refine J_goto C dX9_form_137 (tgt := 141) rfl ?_
              exact S_X9_form_141 C M (by omega)  h
set_option maxRecDepth 20000 in
set_option maxHeartbeats 4000000 in
theorem S_X9_form_42 {G : Gp} {X : Xt} {d : Nat}  {S : Shp} {Q : Int → Fl → Il → Prop} (C : CO G RX9 cX9_form 5 X) (M : MX d (some .int) "form" X) (hd : 3 ≤ d) (n9 : Nat)  : ∀ (x0 : Nat) (x1 : Int) (x2 : Int) (x3 : Int) (F : Fl) (I : Il), V_X9_form_42 n9 x0 x1 x2 x3 S F I Q → J G X (QD X G (qI fun z S' F' I' => S = S' ∧ Q z F' I') noX) 42 [vr (some x0), vi x1, vi x2, vi x3, vl 0] [] S F I := by
  induction n9 with
  | zero => intro x0 x1 x2 x3 F I h; exact h.elim
  | succ n ih =>
    intro x0 x1 x2 x3 F I h
    unfold V_X9_form_42 at h
    refine J_iload_n C dX9_form_42 rfl rfl ?_
    refine J_bipush C dX9_form_43 (by decide +kernel) (rg_of (by decide)) ?_
    refine J_icmp_ge C dX9_form_45 (tgt := 63) rfl (fun c45 => ?_) (fun c45 => ?_)
    · have h := h.1 c45
      exact S_X9_form_63 C M (by omega)  h
    · have h := h.2 c45
      refine J_aload_n C dX9_form_48 rfl rfl ?_
      obtain ⟨hK1, h⟩ := h
      obtain ⟨r2, hr3, h⟩ := h
      refine J_getR C fo_10_36 rfl fl_RX9_96 dX9_form_49 hK1 hr3 ?_
      refine J_iload_n C dX9_form_52 rfl rfl ?_
      obtain ⟨hK4, h⟩ := h
      obtain ⟨h05, hn6, h⟩ := h
      refine J_zald C dX9_form_53 hK4 h05 hn6 ?_
      refine J_if_eq C dX9_form_54 (tgt := 63) rfl (fun c54 => ?_) (fun c54 => ?_)
      · have h := h.1 c54
        exact S_X9_form_63 C M (by omega)  h
      · have h := h.2 c54
        refine K_iinc C [vr (some x0), vi x1, vi x2, vi (w32 (x3 + 1)), vl 0] dX9_form_57 rfl rfl ?_
        refine J_goto C dX9_form_60 (tgt := 42) rfl ?_
        exact ih _ _ _ _ _ _ h
set_option maxRecDepth 20000 in
set_option maxHeartbeats 4000000 in
theorem S_X9_form_28 {G : Gp} {X : Xt} {d : Nat}  {x0 : Nat} {x1 : Int} {x2 : Int} {s0 : Int} {s1 : Nat} {Q : Int → Fl → Il → Prop} {S : Shp} {F : Fl} {I : Il} (C : CO G RX9 cX9_form 5 X) (M : MX d (some .int) "form" X) (hd : 3 ≤ d)  (h : V_X9_form_28 x0 x1 x2 s0 s1 S F I Q) : J G X (QD X G (qI fun z S' F' I' => S = S' ∧ Q z F' I') noX) 28 [vr (some x0), vi x1, vi x2, vl 0, vl 0] [vi s0, vr (some s1)] S F I := by
  unfold V_X9_form_28 at h
  obtain ⟨hK1, h⟩ := h
  refine J_putI C fo_10_0 fp_10 fl_RX9_174 (Or.inl rfl) (Or.inl rfl) dX9_form_28 hK1 ?_
  refine J_aload_n C dX9_form_31 rfl rfl ?_
  obtain ⟨hK2, h⟩ := h
  refine J_getI C fo_10_0 rfl fl_RX9_174 dX9_form_32 hK2 ?_
  refine J_if_le C dX9_form_35 (tgt := 40) rfl (fun c35 => ?_) (fun c35 => ?_)
  · have h := h.1 c35
    refine J_iconst C dX9_form_40 (rg_of (by decide)) ?_
    refine K_istore_n C [vr (some x0), vi x1, vi x2, vi 0, vl 0] dX9_form_41 rfl (Nat.le_of_ble_eq_true rfl) rfl ?_
    obtain ⟨n9, h⟩ := h
    exact S_X9_form_42 C M (by omega) n9  _ _ _ _ _ _ h
  · have h := h.2 c35
    refine J_iconst C dX9_form_38 (rg_of (by decide)) ?_
    exact J_iret C dX9_form_39 M.2.2.1 ⟨_, rfl, rfl, h⟩
set_option maxRecDepth 20000 in
set_option maxHeartbeats 4000000 in
theorem S_X9_form_27 {G : Gp} {X : Xt} {d : Nat}  {x0 : Nat} {x1 : Int} {x2 : Int} {s0 : Nat} {Q : Int → Fl → Il → Prop} {S : Shp} {F : Fl} {I : Il} (C : CO G RX9 cX9_form 5 X) (M : MX d (some .int) "form" X) (hd : 3 ≤ d)  (h : V_X9_form_27 x0 x1 x2 s0 S F I Q) : J G X (QD X G (qI fun z S' F' I' => S = S' ∧ Q z F' I') noX) 27 [vr (some x0), vi x1, vi x2, vl 0, vl 0] [vr (some s0)] S F I := by
  unfold V_X9_form_27 at h
  refine J_iconst C dX9_form_27 (rg_of (by decide)) ?_
  exact S_X9_form_28 C M (by omega)  h
set_option maxRecDepth 20000 in
set_option maxHeartbeats 4000000 in
theorem S_X9_form {G : Gp} {X : Xt} {d : Nat}  {x0 : Nat} {x1 : Int} {x2 : Int} {Q : Int → Fl → Il → Prop} {S : Shp} {F : Fl} {I : Il} (C : CO G RX9 cX9_form 5 X) (M : MX d (some .int) "form" X) (hd : 3 ≤ d)  (h : V_X9_form x0 x1 x2 S F I Q) : J G X (QD X G (qI fun z S' F' I' => S = S' ∧ Q z F' I') noX) 0 [vr (some x0), vi x1, vi x2, vl 0, vl 0] [] S F I := by
  unfold V_X9_form at h
  obtain ⟨d, rfl⟩ : ∃ d9, d = d9 + 1 := ⟨d - 1, by omega⟩
  refine J_aload_n C dX9_form_0 rfl rfl ?_
  refine J_iload_n C dX9_form_1 rfl rfl ?_
  refine J_iconst C dX9_form_2 (rg_of (by decide)) ?_
  refine J_aload_n C dX9_form_3 rfl rfl ?_
  obtain ⟨hK1, h⟩ := h
  refine J_getI C fo_10_19 rfl fl_RX9_207 dX9_form_4 hK1 ?_
  refine J_iconst C dX9_form_7 (rg_of (by decide)) ?_
  refine J_isub C dX9_form_8 ?_
  refine K_S C M [vi x1, vi 0, vi (w32 ((F 1019 x0) - 1))] [vr (some x0)] mi_X9_in wg_1414 wg_1415 dX9_form_9 rfl rfl (by decide) (Nat.le_of_ble_eq_true rfl) (c_X9_in (C.2.2.2.2.2.2.2) (by omega) h) (fun v9 S' F' I' hq9 => ?_) K_no rfl
  clear h
  obtain ⟨z2, rfl, rfl, rfl, rfl, h⟩ := hq9
  refine J_if_eq C dX9_form_12 (tgt := 27) rfl (fun c12 => ?_) (fun c12 => ?_)
  · have h := h.1 c12
    exact S_X9_form_27 C M (by omega)  h
  · have h := h.2 c12
    refine J_aload_n C dX9_form_15 rfl rfl ?_
    refine J_iload_n C dX9_form_16 rfl rfl ?_
    refine K_V C M [vi x2] [vr (some x0)] mi_X9_isCrew wg_1461 wg_1463 wg_42 ⟨rfl, by decide⟩ dX9_form_17 hK1 rfl rfl (by decide) (Nat.le_of_ble_eq_true rfl) (c_X9_isCrew (C.2.2.2.2.2.2.2) (by omega) h) (fun v9 S' F' I' hq9 => ?_) K_no rfl
    clear h
    obtain ⟨z3, rfl, rfl, rfl, rfl, h⟩ := hq9
    refine J_if_eq C dX9_form_20 (tgt := 27) rfl (fun c20 => ?_) (fun c20 => ?_)
    · have h := h.1 c20
      exact S_X9_form_27 C M (by omega)  h
    · have h := h.2 c20
      refine J_iconst C dX9_form_23 (rg_of (by decide)) ?_
      refine J_goto C dX9_form_24 (tgt := 28) rfl ?_
      exact S_X9_form_28 C M (by omega)  h
theorem c_X9_form {l : Launch} {G : Gp} {d : Nat} {x0 : Nat} {x1 : Int} {x2 : Int} {S : Shp} {F : Fl} {I : Il} {Q : Int → Fl → Il → Prop} (hl : l.stackTraces = false) (hd : 3 ≤ d) (h : V_X9_form x0 x1 x2 S F I Q) : CM l G d yX9_form (.code yX9_form cX9_form 5 (some .int)) [vr (some x0), vi x1, vi x2] S F I (qI fun z S' F' I' => S = S' ∧ Q z F' I') noX :=
  CM_ofM [vr (some x0), vi x1, vi x2, vl 0, vl 0] hl (by decide +kernel) (kn1 trivial (kn1 trivial (kn1 trivial kn0))) (Nat.le_of_ble_eq_true rfl) rfl (fun X hX C M => S_X9_form C M hd h)
set_option maxRecDepth 20000 in
set_option maxHeartbeats 4000000 in
theorem S_X9_freeTracks_13 {G : Gp} {X : Xt} {d : Nat}  {x0 : Nat} {x1 : Int} {s0 : Int} {s1 : Nat} {Q : Int → Fl → Prop} {S : Shp} {F : Fl} {I : Il} (C : CO G RX9 cX9_freeTracks 2 X) (M : MX d (some .int) "freeTracks" X) (hd : 3 ≤ d)  (h : V_X9_freeTracks_13 x0 x1 s0 s1 S F I Q) : J G X (QD X G (qI fun z S' F' I' => S = S' ∧ I = I' ∧ Q z F') noX) 13 [vr (some x0), vi x1] [vi s0, vr (some s1)] S F I := by
  unfold V_X9_freeTracks_13 at h
  obtain ⟨d, rfl⟩ : ∃ d9, d = d9 + 1 := ⟨d - 1, by omega⟩
  obtain ⟨hK1, h⟩ := h
  refine J_putI C fo_10_0 fp_10 fl_RX9_174 (Or.inl rfl) (Or.inl rfl) dX9_freeTracks_13 hK1 ?_
  refine J_aload_n C dX9_freeTracks_16 rfl rfl ?_
  obtain ⟨hK2, h⟩ := h
  refine J_getI C fo_10_0 rfl fl_RX9_174 dX9_freeTracks_17 hK2 ?_
  refine J_if_le C dX9_freeTracks_20 (tgt := 27) rfl (fun c20 => ?_) (fun c20 => ?_)
  · have h := h.1 c20
    refine J_aload_n C dX9_freeTracks_27 rfl rfl ?_
    obtain ⟨r3, hr4, h⟩ := h
    refine J_getR C fo_10_5 rfl fl_RX9_13 dX9_freeTracks_28 hK2 hr4 ?_
    refine J_iload_n C dX9_freeTracks_31 rfl rfl ?_
    obtain ⟨hK5, h⟩ := h
    obtain ⟨h06, hn7, h⟩ := h
    refine J_iald C dX9_freeTracks_32 hK5 h06 hn7 ?_
    refine J_aload_n C dX9_freeTracks_33 rfl rfl ?_
    refine J_iload_n C dX9_freeTracks_34 rfl rfl ?_
    refine K_V C M [vi x1] [vi (I r3 x1)] mi_X9_taken wg_1417 wg_1419 wg_39 ⟨rfl, by decide⟩ dX9_freeTracks_35 hK2 rfl rfl (by decide) (Nat.le_of_ble_eq_true rfl) (c_X9_taken (C.2.2.2.2.2.2.2) (by omega) h) (fun v9 S' F' I' hq9 => ?_) K_no rfl
    clear h
    obtain ⟨z8, rfl, rfl, rfl, rfl, h⟩ := hq9
    refine J_isub C dX9_freeTracks_38 ?_
    exact J_iret C dX9_freeTracks_39 M.2.2.1 ⟨_, rfl, rfl, rfl, h⟩
  · have h := h.2 c20
    refine J_iconst C dX9_freeTracks_23 (rg_of (by decide)) ?_
    refine J_goto C dX9_freeTracks_24 (tgt := 39) rfl ?_
    exact J_iret C dX9_freeTracks_39 M.2.2.1 ⟨_, rfl, rfl, rfl, h⟩
set_option maxRecDepth 20000 in
set_option maxHeartbeats 4000000 in
theorem S_X9_freeTracks {G : Gp} {X : Xt} {d : Nat}  {x0 : Nat} {x1 : Int} {Q : Int → Fl → Prop} {S : Shp} {F : Fl} {I : Il} (C : CO G RX9 cX9_freeTracks 2 X) (M : MX d (some .int) "freeTracks" X) (hd : 3 ≤ d)  (h : V_X9_freeTracks x0 x1 S F I Q) : J G X (QD X G (qI fun z S' F' I' => S = S' ∧ I = I' ∧ Q z F') noX) 0 [vr (some x0), vi x1] [] S F I := by
  unfold V_X9_freeTracks at h
  obtain ⟨d, rfl⟩ : ∃ d9, d = d9 + 1 := ⟨d - 1, by omega⟩
  refine J_aload_n C dX9_freeTracks_0 rfl rfl ?_
  refine J_iload_n C dX9_freeTracks_1 rfl rfl ?_
  refine K_S C M [vi x1] [vr (some x0)] mi_X9_isStation wg_1411 wg_1412 dX9_freeTracks_2 rfl rfl (by decide) (Nat.le_of_ble_eq_true rfl) (c_X9_isStation (C.2.2.2.2.2.2.2) (by omega) h) (fun v9 S' F' I' hq9 => ?_) K_no rfl
  clear h
  obtain ⟨z1, rfl, rfl, rfl, rfl, h⟩ := hq9
  refine J_if_eq C dX9_freeTracks_5 (tgt := 12) rfl (fun c5 => ?_) (fun c5 => ?_)
  · have h := h.1 c5
    refine J_iconst C dX9_freeTracks_12 (rg_of (by decide)) ?_
    exact S_X9_freeTracks_13 C M (by omega)  h
  · have h := h.2 c5
    refine J_iconst C dX9_freeTracks_8 (rg_of (by decide)) ?_
    refine J_goto C dX9_freeTracks_9 (tgt := 13) rfl ?_
    exact S_X9_freeTracks_13 C M (by omega)  h
theorem c_X9_freeTracks {l : Launch} {G : Gp} {d : Nat} {x0 : Nat} {x1 : Int} {S : Shp} {F : Fl} {I : Il} {Q : Int → Fl → Prop} (hl : l.stackTraces = false) (hd : 3 ≤ d) (h : V_X9_freeTracks x0 x1 S F I Q) : CM l G d yX9_freeTracks (.code yX9_freeTracks cX9_freeTracks 2 (some .int)) [vr (some x0), vi x1] S F I (qI fun z S' F' I' => S = S' ∧ I = I' ∧ Q z F') noX :=
  CM_ofM [vr (some x0), vi x1] hl (by decide +kernel) (kn1 trivial (kn1 trivial kn0)) (Nat.le_of_ble_eq_true rfl) rfl (fun X hX C M => S_X9_freeTracks C M hd h)
set_option maxRecDepth 20000 in
set_option maxHeartbeats 4000000 in
theorem S_X9_goal {G : Gp} {X : Xt} {d : Nat}  {x0 : Nat} {x1 : Int} {Q : Int → Prop} {S : Shp} {F : Fl} {I : Il} (C : CO G RX9 cX9_goal 2 X) (M : MX d (some .int) "goal" X) (hd : 1 ≤ d)  (h : V_X9_goal x0 x1 S F I Q) : J G X (QD X G (qI fun z S' F' I' => S = S' ∧ F = F' ∧ I = I' ∧ Q z) noX) 0 [vr (some x0), vi x1] [] S F I := by
  unfold V_X9_goal at h
  refine J_aload_n C dX9_goal_0 rfl rfl ?_
  obtain ⟨hK1, h⟩ := h
  obtain ⟨r2, hr3, h⟩ := h
  refine J_getR C fo_10_33 rfl fl_RX9_87 dX9_goal_1 hK1 hr3 ?_
  refine J_iload_n C dX9_goal_4 rfl rfl ?_
  obtain ⟨hK4, h⟩ := h
  obtain ⟨h05, hn6, h⟩ := h
  refine J_iald C dX9_goal_5 hK4 h05 hn6 ?_
  refine J_iconst C dX9_goal_6 (rg_of (by decide)) ?_
  refine J_icmp_ne C dX9_goal_7 (tgt := 19) rfl (fun c7 => ?_) (fun c7 => ?_)
  · have h := h.1 c7
    refine J_aload_n C dX9_goal_19 rfl rfl ?_
    obtain ⟨r7, hr8, h⟩ := h
    refine J_getR C fo_10_56 rfl fl_RX9_150 dX9_goal_20 hK1 hr8 ?_
    refine J_aload_n C dX9_goal_23 rfl rfl ?_
    refine J_getR C fo_10_33 rfl fl_RX9_87 dX9_goal_24 hK1 hr3 ?_
    refine J_iload_n C dX9_goal_27 rfl rfl ?_
    obtain ⟨h09, hn10, h⟩ := h
    refine J_iald C dX9_goal_28 hK4 h09 hn10 ?_
    obtain ⟨hK11, h⟩ := h
    obtain ⟨h012, hn13, h⟩ := h
    refine J_iald C dX9_goal_29 hK11 h012 hn13 ?_
    exact J_iret C dX9_goal_30 M.2.2.1 ⟨_, rfl, rfl, rfl, rfl, h⟩
  · have h := h.2 c7
    refine J_aload_n C dX9_goal_10 rfl rfl ?_
    obtain ⟨r14, hr15, h⟩ := h
    refine J_getR C fo_10_30 rfl fl_RX9_78 dX9_goal_11 hK1 hr15 ?_
    refine J_iload_n C dX9_goal_14 rfl rfl ?_
    obtain ⟨hK16, h⟩ := h
    obtain ⟨h017, hn18, h⟩ := h
    refine J_iald C dX9_goal_15 hK16 h017 hn18 ?_
    refine J_goto C dX9_goal_16 (tgt := 30) rfl ?_
    exact J_iret C dX9_goal_30 M.2.2.1 ⟨_, rfl, rfl, rfl, rfl, h⟩
theorem c_X9_goal {l : Launch} {G : Gp} {d : Nat} {x0 : Nat} {x1 : Int} {S : Shp} {F : Fl} {I : Il} {Q : Int → Prop} (hl : l.stackTraces = false) (hd : 1 ≤ d) (h : V_X9_goal x0 x1 S F I Q) : CM l G d yX9_goal (.code yX9_goal cX9_goal 2 (some .int)) [vr (some x0), vi x1] S F I (qI fun z S' F' I' => S = S' ∧ F = F' ∧ I = I' ∧ Q z) noX :=
  CM_ofM [vr (some x0), vi x1] hl (by decide +kernel) (kn1 trivial (kn1 trivial kn0)) (Nat.le_of_ble_eq_true rfl) rfl (fun X hX C M => S_X9_goal C M hd h)
set_option maxRecDepth 20000 in
set_option maxHeartbeats 4000000 in
theorem S_X9_holder_14 {G : Gp} {X : Xt} {d : Nat}  {x0 : Nat} {x1 : Int} {s0 : Int} {s1 : Nat} {Q : Int → Fl → Prop} {S : Shp} {F : Fl} {I : Il} (C : CO G RX9 cX9_holder 2 X) (M : MX d (some .int) "holder" X) (hd : 3 ≤ d)  (h : V_X9_holder_14 x0 x1 s0 s1 S F I Q) : J G X (QD X G (qI fun z S' F' I' => S = S' ∧ I = I' ∧ Q z F') noX) 14 [vr (some x0), vi x1] [vi s0, vr (some s1)] S F I := by
  unfold V_X9_holder_14 at h
  obtain ⟨hK1, h⟩ := h
  refine J_putI C fo_10_0 fp_10 fl_RX9_174 (Or.inl rfl) (Or.inl rfl) dX9_holder_14 hK1 ?_
  refine J_aload_n C dX9_holder_17 rfl rfl ?_
  obtain ⟨hK2, h⟩ := h
  refine J_getI C fo_10_0 rfl fl_RX9_174 dX9_holder_18 hK2 ?_
  refine J_if_le C dX9_holder_21 (tgt := 28) rfl (fun c21 => ?_) (fun c21 => ?_)
  · have h := h.1 c21
    refine J_aload_n C dX9_holder_28 rfl rfl ?_
    obtain ⟨r3, hr4, h⟩ := h
    refine J_getR C fo_10_17 rfl fl_RX9_48 dX9_holder_29 hK2 hr4 ?_
    refine J_iload_n C dX9_holder_32 rfl rfl ?_
    obtain ⟨hK5, h⟩ := h
    obtain ⟨h06, hn7, h⟩ := h
    refine J_iald C dX9_holder_33 hK5 h06 hn7 ?_
    exact J_iret C dX9_holder_34 M.2.2.1 ⟨_, rfl, rfl, rfl, h⟩
  · have h := h.2 c21
    refine J_iconst C dX9_holder_24 (rg_of (by decide)) ?_
    refine J_goto C dX9_holder_25 (tgt := 34) rfl ?_
    exact J_iret C dX9_holder_34 M.2.2.1 ⟨_, rfl, rfl, rfl, h⟩
set_option maxRecDepth 20000 in
set_option maxHeartbeats 4000000 in
theorem S_X9_holder {G : Gp} {X : Xt} {d : Nat}  {x0 : Nat} {x1 : Int} {Q : Int → Fl → Prop} {S : Shp} {F : Fl} {I : Il} (C : CO G RX9 cX9_holder 2 X) (M : MX d (some .int) "holder" X) (hd : 3 ≤ d)  (h : V_X9_holder x0 x1 S F I Q) : J G X (QD X G (qI fun z S' F' I' => S = S' ∧ I = I' ∧ Q z F') noX) 0 [vr (some x0), vi x1] [] S F I := by
  unfold V_X9_holder at h
  obtain ⟨d, rfl⟩ : ∃ d9, d = d9 + 1 := ⟨d - 1, by omega⟩
  refine J_aload_n C dX9_holder_0 rfl rfl ?_
  refine J_aload_n C dX9_holder_1 rfl rfl ?_
  refine J_iload_n C dX9_holder_2 rfl rfl ?_
  obtain ⟨hK1, h⟩ := h
  refine K_V C M [vi x1] [vr (some x0)] mi_X9_isBlock wg_1429 wg_1431 wg_40 ⟨rfl, by decide⟩ dX9_holder_3 hK1 rfl rfl (by decide) (Nat.le_of_ble_eq_true rfl) (c_X9_isBlock (C.2.2.2.2.2.2.2) (by omega) h) (fun v9 S' F' I' hq9 => ?_) K_no rfl
  clear h
  obtain ⟨z2, rfl, rfl, rfl, rfl, h⟩ := hq9
  refine J_if_eq C dX9_holder_6 (tgt := 13) rfl (fun c6 => ?_) (fun c6 => ?_)
  · have h := h.1 c6
    refine J_iconst C dX9_holder_13 (rg_of (by decide)) ?_
    exact S_X9_holder_14 C M (by omega)  h
  · have h := h.2 c6
    refine J_iconst C dX9_holder_9 (rg_of (by decide)) ?_
    refine J_goto C dX9_holder_10 (tgt := 14) rfl ?_
    exact S_X9_holder_14 C M (by omega)  h
theorem c_X9_holder {l : Launch} {G : Gp} {d : Nat} {x0 : Nat} {x1 : Int} {S : Shp} {F : Fl} {I : Il} {Q : Int → Fl → Prop} (hl : l.stackTraces = false) (hd : 3 ≤ d) (h : V_X9_holder x0 x1 S F I Q) : CM l G d yX9_holder (.code yX9_holder cX9_holder 2 (some .int)) [vr (some x0), vi x1] S F I (qI fun z S' F' I' => S = S' ∧ I = I' ∧ Q z F') noX :=
  CM_ofM [vr (some x0), vi x1] hl (by decide +kernel) (kn1 trivial (kn1 trivial kn0)) (Nat.le_of_ble_eq_true rfl) rfl (fun X hX C M => S_X9_holder C M hd h)
set_option maxRecDepth 20000 in
set_option maxHeartbeats 4000000 in
theorem S_X9_holderByTrains {G : Gp} {X : Xt} {d : Nat}  {x0 : Nat} {x1 : Int} {Q : Int → Fl → Prop} {S : Shp} {F : Fl} {I : Il} (C : CO G RX9 cX9_holderByTrains 2 X) (M : MX d (some .int) "holderByTrains" X) (hd : 4 ≤ d)  (h : V_X9_holderByTrains x0 x1 S F I Q) : J G X (QD X G (qI fun z S' F' I' => S = S' ∧ I = I' ∧ Q z F') noX) 0 [vr (some x0), vi x1] [] S F I := by
  unfold V_X9_holderByTrains at h
  obtain ⟨d, rfl⟩ : ∃ d9, d = d9 + 1 := ⟨d - 1, by omega⟩
  refine J_aload_n C dX9_holderByTrains_0 rfl rfl ?_
  refine J_iload_n C dX9_holderByTrains_1 rfl rfl ?_
  obtain ⟨hK1, h⟩ := h
  refine K_V C M [vi x1] [] mi_X9_holder wg_1658 wg_1651 wg_1652 ⟨rfl, by decide⟩ dX9_holderByTrains_2 hK1 rfl rfl (by decide) (Nat.le_of_ble_eq_true rfl) (c_X9_holder (C.2.2.2.2.2.2.2) (by omega) h) (fun v9 S' F3 I' hq9 => ?_) K_no rfl
  clear h
  obtain ⟨z2, rfl, rfl, rfl, h⟩ := hq9
  exact J_iret C dX9_holderByTrains_5 M.2.2.1 ⟨_, rfl, rfl, rfl, h⟩
theorem c_X9_holderByTrains {l : Launch} {G : Gp} {d : Nat} {x0 : Nat} {x1 : Int} {S : Shp} {F : Fl} {I : Il} {Q : Int → Fl → Prop} (hl : l.stackTraces = false) (hd : 4 ≤ d) (h : V_X9_holderByTrains x0 x1 S F I Q) : CM l G d yX9_holderByTrains (.code yX9_holderByTrains cX9_holderByTrains 2 (some .int)) [vr (some x0), vi x1] S F I (qI fun z S' F' I' => S = S' ∧ I = I' ∧ Q z F') noX :=
  CM_ofM [vr (some x0), vi x1] hl (by decide +kernel) (kn1 trivial (kn1 trivial kn0)) (Nat.le_of_ble_eq_true rfl) rfl (fun X hX C M => S_X9_holderByTrains C M hd h)
set_option maxRecDepth 20000 in
set_option maxHeartbeats 4000000 in
theorem S_X9_homeward_374 {G : Gp} {X : Xt} {d : Nat} {k292 : Nat → Int → Int → Int → Fl → Il → Prop} {x0 : Nat} {x2 : Int} {x4 : Int} {s0 : Int} {Q : Int → Fl → Il → Prop} {S : Shp} {F : Fl} {I : Il} (C : CO G RX9 cX9_homeward 7 X) (M : MX d (some .int) "homeward" X) (hd : 3 ≤ d) (hk292 : ∀ (x0 : Nat) (x2 : Int) (x3 : Int) (x4 : Int) (F' : Fl) (I' : Il), k292 x0 x2 x3 x4 F' I' → J G X (QD X G (qI fun z S' F' I' => S = S' ∧ Q z F' I') noX) 292 [vr (some x0), vl 0, vi x2, vi x3, vi x4, vl 0, vl 0] [] S F' I') (h : V_X9_homeward_374 k292 x0 x2 x4 s0 S F I Q) : J G X (QD X G (qI fun z S' F' I' => S = S' ∧ Q z F' I') noX) 374 [vr (some x0), vl 0, vi x2, vl 0, vi x4, vl 0, vl 0] [vi s0] S F I := by
  unfold V_X9_homeward_374 at h
  refine K_istore_n C [vr (some x0), vl 0, vi x2, vi s0, vi x4, vl 0, vl 0] dX9_homeward_374 rfl (Nat.le_of_ble_eq_true rfl) rfl ?_
  refine K_iinc C [vr (some x0), vl 0, vi x2, vi s0, vi (w32 (x4 + (-1))), vl 0, vl 0] dX9_homeward_375 rfl rfl ?_
  refine J_goto C dX9_homeward_378 (tgt := 292) rfl ?_
  exact hk292 x0 x2 s0 (w32 (x4 + (-1))) F I h
set_option maxRecDepth 20000 in
set_option maxHeartbeats 4000000 in
theorem S_X9_homeward_373 {G : Gp} {X : Xt} {d : Nat} {k292 : Nat → Int → Int → Int → Fl → Il → Prop} {x0 : Nat} {x2 : Int} {x3 : Int} {x4 : Int} {Q : Int → Fl → Il → Prop} {S : Shp} {F : Fl} {I : Il} (C : CO G RX9 cX9_homeward 7 X) (M : MX d (some .int) "homeward" X) (hd : 3 ≤ d) (hk292 : ∀ (x0 : Nat) (x2 : Int) (x3 : Int) (x4 : Int) (F' : Fl) (I' : Il), k292 x0 x2 x3 x4 F' I' → J G X (QD X G (qI fun z S' F' I' => S = S' ∧ Q z F' I') noX) 292 [vr (some x0), vl 0, vi x2, vi x3, vi x4, vl 0, vl 0] [] S F' I') (h : V_X9_homeward_373 k292 x0 x2 x3 x4 S F I Q) : J G X (QD X G (qI fun z S' F' I' => S = S' ∧ Q z F' I') noX) 373 [vr (some x0), vl 0, vi x2, vi x3, vi x4, vl 0, vl 0] [] S F I := by
  unfold V_X9_homeward_373 at h
  refine J_iload_n C dX9_homeward_373 rfl rfl ?_
  refine J_less [vr (some x0), vl 0, vi x2, vl 0, vi x4, vl 0, vl 0] (by unfold lessL; simp [lessL]) ?_
  exact S_X9_homeward_374 C M (by omega) hk292 h
set_option maxRecDepth 20000 in
set_option maxHeartbeats 4000000 in
theorem S_X9_homeward_292 {G : Gp} {X : Xt} {d : Nat}  {S : Shp} {Q : Int → Fl → Il → Prop} (C : CO G RX9 cX9_homeward 7 X) (M : MX d (some .int) "homeward" X) (hd : 3 ≤ d) (n9 : Nat)  : ∀ (x0 : Nat) (x2 : Int) (x3 : Int) (x4 : Int) (F : Fl) (I : Il), V_X9_homeward_292 n9 x0 x2 x3 x4 S F I Q → J G X (QD X G (qI fun z S' F' I' => S = S' ∧ Q z F' I') noX) 292 [vr (some x0), vl 0, vi x2, vi x3, vi x4, vl 0, vl 0] [] S F I := by
  obtain ⟨d, rfl⟩ : ∃ d9, d = d9 + 1 := ⟨d - 1, by omega⟩
  induction n9 with
  | zero => intro x0 x2 x3 x4 F I h; exact h.elim
  | succ n ih =>
    intro x0 x2 x3 x4 F I h
    unfold V_X9_homeward_292 at h
    refine J_iload C dX9_homeward_292 rfl ?_
    refine J_if_lt C dX9_homeward_294 (tgt := 381) rfl (fun c294 => ?_) (fun c294 => ?_)
    · have h := h.1 c294
      refine J_iload_n C dX9_homeward_381 rfl rfl ?_
      exact J_iret C dX9_homeward_382 M.2.2.1 ⟨_, rfl, rfl, h⟩
    · have h := h.2 c294
      refine J_aload_n C dX9_homeward_297 rfl rfl ?_
      refine J_iload C dX9_homeward_298 rfl ?_
      refine J_iload_n C dX9_homeward_300 rfl rfl ?_
      obtain ⟨hK1, h⟩ := h
      refine K_V C M [vi x4, vi x2] [] mi_X9_other wg_1542 wg_1544 wg_52 ⟨rfl, by decide⟩ dX9_homeward_301 hK1 rfl rfl (by decide) (Nat.le_of_ble_eq_true rfl) (c_X9_other (C.2.2.2.2.2.2.2) (by omega) h) (fun v9 S' F' I' hq9 => ?_) K_no rfl
      clear h
      obtain ⟨z2, rfl, rfl, rfl, rfl, h⟩ := hq9
      refine K_istore C [vr (some x0), vl 0, vi x2, vi x3, vi x4, vi z2, vl 0] dX9_homeward_304 (Nat.le_of_ble_eq_true rfl) rfl ?_
      refine J_iload C dX9_homeward_306 rfl ?_
      refine J_iconst C dX9_homeward_308 (rg_of (by decide)) ?_
      refine J_icmp_eq C dX9_homeward_309 (tgt := 373) rfl (fun c309 => ?_) (fun c309 => ?_)
      · have h := h.1 c309
        refine J_less [vr (some x0), vl 0, vi x2, vi x3, vi x4, vl 0, vl 0] (by unfold lessL; simp [lessL]) ?_
        exact S_X9_homeward_373 C M (by omega) (fun y0 y1 y2 y3 F' I' h9 => ih y0 y1 y2 y3 F' I' h9) h
      · have h := h.2 c309
        refine J_aload_n C dX9_homeward_312 rfl rfl ?_
        obtain ⟨r3, hr4, h⟩ := h
        refine J_getR C fo_10_17 rfl fl_RX9_48 dX9_homeward_313 hK1 hr4 ?_
        refine J_iload C dX9_homeward_316 rfl ?_
        obtain ⟨hK5, h⟩ := h
        obtain ⟨h06, hn7, h⟩ := h
        refine J_iald C dX9_homeward_318 hK5 h06 hn7 ?_
        refine J_iconst C dX9_homeward_319 (rg_of (by decide)) ?_
        refine J_icmp_ne C dX9_homeward_320 (tgt := 373) rfl (fun c320 => ?_) (fun c320 => ?_)
        · have h := h.1 c320
          refine J_less [vr (some x0), vl 0, vi x2, vi x3, vi x4, vl 0, vl 0] (by unfold lessL; simp [lessL]) ?_
          exact S_X9_homeward_373 C M (by omega) (fun y0 y1 y2 y3 F' I' h9 => ih y0 y1 y2 y3 F' I' h9) h
        · have h := h.2 c320
          refine J_aload_n C dX9_homeward_323 rfl rfl ?_
          refine J_iload C dX9_homeward_324 rfl ?_
          refine K_V C M [vi x4] [] mi_X9_isClosed wg_1445 wg_1447 wg_41 ⟨rfl, by decide⟩ dX9_homeward_326 hK1 rfl rfl (by decide) (Nat.le_of_ble_eq_true rfl) (c_X9_isClosed (C.2.2.2.2.2.2.2) (by omega) h) (fun v9 S' F' I' hq9 => ?_) K_no rfl
          clear h
          obtain ⟨z8, rfl, rfl, rfl, rfl, h⟩ := hq9
          refine J_if_ne C dX9_homeward_329 (tgt := 373) rfl (fun c329 => ?_) (fun c329 => ?_)
          · have h := h.1 c329
            refine J_less [vr (some x0), vl 0, vi x2, vi x3, vi x4, vl 0, vl 0] (by unfold lessL; simp [lessL]) ?_
            exact S_X9_homeward_373 C M (by omega) (fun y0 y1 y2 y3 F' I' h9 => ih y0 y1 y2 y3 F' I' h9) h
          · have h := h.2 c329
            refine J_aload_n C dX9_homeward_332 rfl rfl ?_
            obtain ⟨r9, hr10, h⟩ := h
            refine J_getR C fo_10_63 rfl fl_RX9_168 dX9_homeward_333 hK1 hr10 ?_
            refine J_iload_n C dX9_homeward_336 rfl rfl ?_
            obtain ⟨hK11, h⟩ := h
            obtain ⟨h012, hn13, h⟩ := h
            refine J_iald C dX9_homeward_337 hK11 h012 hn13 ?_
            refine J_ldcw C dX9_homeward_338 (z := 1000000) wg_1700 (by decide +kernel) (rg_of (by decide)) ?_
            refine J_icmp_ge C dX9_homeward_341 (tgt := 373) rfl (fun c341 => ?_) (fun c341 => ?_)
            · have h := h.1 c341
              refine J_less [vr (some x0), vl 0, vi x2, vi x3, vi x4, vl 0, vl 0] (by unfold lessL; simp [lessL]) ?_
              exact S_X9_homeward_373 C M (by omega) (fun y0 y1 y2 y3 F' I' h9 => ih y0 y1 y2 y3 F' I' h9) h
            · have h := h.2 c341
              refine J_aload_n C dX9_homeward_344 rfl rfl ?_
              refine J_getR C fo_10_63 rfl fl_RX9_168 dX9_homeward_345 hK1 hr10 ?_
              refine J_iload C dX9_homeward_348 rfl ?_
              obtain ⟨h014, hn15, h⟩ := h
              refine J_iald C dX9_homeward_350 hK11 h014 hn15 ?_
              refine J_aload_n C dX9_homeward_351 rfl rfl ?_
              obtain ⟨r16, hr17, h⟩ := h
              refine J_getR C fo_10_8 rfl fl_RX9_20 dX9_homeward_352 hK1 hr17 ?_
              refine J_iload C dX9_homeward_355 rfl ?_
              obtain ⟨hK18, h⟩ := h
              obtain ⟨h019, hn20, h⟩ := h
              refine J_iald C dX9_homeward_357 hK18 h019 hn20 ?_
              refine J_iadd C dX9_homeward_358 ?_
              refine J_aload_n C dX9_homeward_359 rfl rfl ?_
              refine J_getR C fo_10_63 rfl fl_RX9_168 dX9_homeward_360 hK1 hr10 ?_
              refine J_iload_n C dX9_homeward_363 rfl rfl ?_
              obtain ⟨h021, hn22, h⟩ := h
              refine J_iald C dX9_homeward_364 hK11 h021 hn22 ?_
              refine J_icmp_ne C dX9_homeward_365 (tgt := 373) rfl (fun c365 => ?_) (fun c365 => ?_)
              · have h := h.1 c365
                refine J_less [vr (some x0), vl 0, vi x2, vi x3, vi x4, vl 0, vl 0] (by unfold lessL; simp [lessL]) ?_
                exact S_X9_homeward_373 C M (by omega) (fun y0 y1 y2 y3 F' I' h9 => ih y0 y1 y2 y3 F' I' h9) h
              · have h := h.2 c365
                refine J_iload C dX9_homeward_368 rfl ?_
                refine J_goto C dX9_homeward_370 (tgt := 374) rfl ?_
                refine J_less [vr (some x0), vl 0, vi x2, vl 0, vi x4, vl 0, vl 0] (by unfold lessL; simp [lessL]) ?_
                exact S_X9_homeward_374 C M (by omega) (fun y0 y1 y2 y3 F' I' h9 => ih y0 y1 y2 y3 F' I' h9) h
set_option maxRecDepth 20000 in
set_option maxHeartbeats 4000000 in
theorem S_X9_homeward_270 {G : Gp} {X : Xt} {d : Nat} {k94 : Nat → Int → Int → Fl → Il → Prop} {k103 : Nat → Int → Int → Int → Fl → Il → Prop} {x0 : Nat} {x2 : Int} {x3 : Int} {x4 : Int} {Q : Int → Fl → Il → Prop} {S : Shp} {F : Fl} {I : Il} (C : CO G RX9 cX9_homeward 7 X) (M : MX d (some .int) "homeward" X) (hd : 3 ≤ d) (hk94 : ∀ (x0 : Nat) (x2 : Int) (x3 : Int) (F' : Fl) (I' : Il), k94 x0 x2 x3 F' I' → J G X (QD X G (qI fun z S' F' I' => S = S' ∧ Q z F' I') noX) 94 [vr (some x0), vl 0, vi x2, vi x3, vl 0, vl 0, vl 0] [] S F' I') (hk103 : ∀ (x0 : Nat) (x2 : Int) (x3 : Int) (x4 : Int) (F' : Fl) (I' : Il), k103 x0 x2 x3 x4 F' I' → J G X (QD X G (qI fun z S' F' I' => S = S' ∧ Q z F' I') noX) 103 [vr (some x0), vl 0, vi x2, vi x3, vi x4, vl 0, vl 0] [] S F' I') (h : V_X9_homeward_270 k94 k103 x0 x2 x3 x4 S F I Q) : J G X (QD X G (qI fun z S' F' I' => S = S' ∧ Q z F' I') noX) 270 [vr (some x0), vl 0, vi x2, vi x3, vi x4, vl 0, vl 0] [] S F I := by
  unfold V_X9_homeward_270 at h
  refine K_iinc C [vr (some x0), vl 0, vi x2, vi x3, vi (w32 (x4 + 1)), vl 0, vl 0] dX9_homeward_270 rfl rfl ?_
  refine J_goto C dX9_homeward_273 (tgt := 103) rfl ?_
  exact hk103 x0 x2 x3 (w32 (x4 + 1)) F I h
set_option maxRecDepth 20000 in
set_option maxHeartbeats 4000000 in
theorem S_X9_homeward_269 {G : Gp} {X : Xt} {d : Nat} {k94 : Nat → Int → Int → Fl → Il → Prop} {k103 : Nat → Int → Int → Int → Fl → Il → Prop} {x0 : Nat} {x2 : Int} {x3 : Int} {x4 : Int} {s0 : Int} {s1 : Int} {s2 : Nat} {Q : Int → Fl → Il → Prop} {S : Shp} {F : Fl} {I : Il} (C : CO G RX9 cX9_homeward 7 X) (M : MX d (some .int) "homeward" X) (hd : 3 ≤ d) (hk94 : ∀ (x0 : Nat) (x2 : Int) (x3 : Int) (F' : Fl) (I' : Il), k94 x0 x2 x3 F' I' → J G X (QD X G (qI fun z S' F' I' => S = S' ∧ Q z F' I') noX) 94 [vr (some x0), vl 0, vi x2, vi x3, vl 0, vl 0, vl 0] [] S F' I') (hk103 : ∀ (x0 : Nat) (x2 : Int) (x3 : Int) (x4 : Int) (F' : Fl) (I' : Il), k103 x0 x2 x3 x4 F' I' → J G X (QD X G (qI fun z S' F' I' => S = S' ∧ Q z F' I') noX) 103 [vr (some x0), vl 0, vi x2, vi x3, vi x4, vl 0, vl 0] [] S F' I') (h : V_X9_homeward_269 k94 k103 x0 x2 x3 x4 s0 s1 s2 S F I Q) : J G X (QD X G (qI fun z S' F' I' => S = S' ∧ Q z F' I') noX) 269 [vr (some x0), vl 0, vi x2, vi x3, vi x4, vl 0, vl 0] [vi s0, vi s1, vr (some s2)] S F I := by
  unfold V_X9_homeward_269 at h
  obtain ⟨hK1, h⟩ := h
  obtain ⟨h02, hn3, h⟩ := h
  refine J_iast C dX9_homeward_269 hK1 h02 hn3 ?_
  exact S_X9_homeward_270 C M (by omega) hk94 hk103 h
set_option maxRecDepth 20000 in
set_option maxHeartbeats 4000000 in
theorem S_X9_homeward_212 {G : Gp} {X : Xt} {d : Nat} {k94 : Nat → Int → Int → Fl → Il → Prop} {k103 : Nat → Int → Int → Int → Fl → Il → Prop} {x0 : Nat} {x2 : Int} {x3 : Int} {x4 : Int} {x5 : Int} {x6 : Int} {s0 : Int} {s1 : Int} {s2 : Nat} {Q : Int → Fl → Il → Prop} {S : Shp} {F : Fl} {I : Il} (C : CO G RX9 cX9_homeward 7 X) (M : MX d (some .int) "homeward" X) (hd : 3 ≤ d) (hk94 : ∀ (x0 : Nat) (x2 : Int) (x3 : Int) (F' : Fl) (I' : Il), k94 x0 x2 x3 F' I' → J G X (QD X G (qI fun z S' F' I' => S = S' ∧ Q z F' I') noX) 94 [vr (some x0), vl 0, vi x2, vi x3, vl 0, vl 0, vl 0] [] S F' I') (hk103 : ∀ (x0 : Nat) (x2 : Int) (x3 : Int) (x4 : Int) (F' : Fl) (I' : Il), k103 x0 x2 x3 x4 F' I' → J G X (QD X G (qI fun z S' F' I' => S = S' ∧ Q z F' I') noX) 103 [vr (some x0), vl 0, vi x2, vi x3, vi x4, vl 0, vl 0] [] S F' I') (h : V_X9_homeward_212 k94 k103 x0 x2 x3 x4 x5 x6 s0 s1 s2 S F I Q) : J G X (QD X G (qI fun z S' F' I' => S = S' ∧ Q z F' I') noX) 212 [vr (some x0), vl 0, vi x2, vi x3, vi x4, vi x5, vi x6] [vi s0, vi s1, vr (some s2)] S F I := by
  unfold V_X9_homeward_212 at h
  obtain ⟨hK1, h⟩ := h
  obtain ⟨h02, hn3, h⟩ := h
  refine J_iast C dX9_homeward_212 hK1 h02 hn3 ?_
  refine J_aload_n C dX9_homeward_213 rfl rfl ?_
  obtain ⟨hK4, h⟩ := h
  obtain ⟨r5, hr6, h⟩ := h
  refine J_getR C fo_10_63 rfl fl_RX9_168 dX9_homeward_214 hK4 hr6 ?_
  refine J_iload C dX9_homeward_217 rfl ?_
  refine J_aload_n C dX9_homeward_219 rfl rfl ?_
  refine J_getR C fo_10_63 rfl fl_RX9_168 dX9_homeward_220 hK4 hr6 ?_
  refine J_iload C dX9_homeward_223 rfl ?_
  obtain ⟨hK7, h⟩ := h
  obtain ⟨h08, hn9, h⟩ := h
  refine J_iald C dX9_homeward_225 hK7 h08 hn9 ?_
  refine J_aload_n C dX9_homeward_226 rfl rfl ?_
  obtain ⟨r10, hr11, h⟩ := h
  refine J_getR C fo_10_8 rfl fl_RX9_20 dX9_homeward_227 hK4 hr11 ?_
  refine J_iload C dX9_homeward_230 rfl ?_
  obtain ⟨hK12, h⟩ := h
  obtain ⟨h013, hn14, h⟩ := h
  refine J_iald C dX9_homeward_232 hK12 h013 hn14 ?_
  refine J_iadd C dX9_homeward_233 ?_
  refine J_aload_n C dX9_homeward_234 rfl rfl ?_
  refine J_getR C fo_10_63 rfl fl_RX9_168 dX9_homeward_235 hK4 hr6 ?_
  refine J_iload C dX9_homeward_238 rfl ?_
  obtain ⟨h015, hn16, h⟩ := h
  refine J_iald C dX9_homeward_240 hK7 h015 hn16 ?_
  refine J_icmp_ge C dX9_homeward_241 (tgt := 262) rfl (fun c241 => ?_) (fun c241 => ?_)
  · have h := h.1 c241
    refine J_aload_n C dX9_homeward_262 rfl rfl ?_
    refine J_getR C fo_10_63 rfl fl_RX9_168 dX9_homeward_263 hK4 hr6 ?_
    refine J_iload C dX9_homeward_266 rfl ?_
    obtain ⟨h017, hn18, h⟩ := h
    refine J_iald C dX9_homeward_268 hK7 h017 hn18 ?_
    refine J_less [vr (some x0), vl 0, vi x2, vi x3, vi x4, vl 0, vl 0] (by unfold lessL; simp [lessL]) ?_
    exact S_X9_homeward_269 C M (by omega) hk94 hk103 h
  · have h := h.2 c241
    refine J_aload_n C dX9_homeward_244 rfl rfl ?_
    refine J_getR C fo_10_63 rfl fl_RX9_168 dX9_homeward_245 hK4 hr6 ?_
    refine J_iload C dX9_homeward_248 rfl ?_
    obtain ⟨h019, hn20, h⟩ := h
    refine J_iald C dX9_homeward_250 hK7 h019 hn20 ?_
    refine J_aload_n C dX9_homeward_251 rfl rfl ?_
    refine J_getR C fo_10_8 rfl fl_RX9_20 dX9_homeward_252 hK4 hr11 ?_
    refine J_iload C dX9_homeward_255 rfl ?_
    obtain ⟨h021, hn22, h⟩ := h
    refine J_iald C dX9_homeward_257 hK12 h021 hn22 ?_
    refine J_iadd C dX9_homeward_258 ?_
    refine J_goto C dX9_homeward_259 (tgt := 269) rfl ?_
    refine J_less [vr (some x0), vl 0, vi x2, vi x3, vi x4, vl 0, vl 0] (by unfold lessL; simp [lessL]) ?_
    exact S_X9_homeward_269 C M (by omega) hk94 hk103 h
set_option maxRecDepth 20000 in
set_option maxHeartbeats 4000000 in
theorem S_X9_homeward_103 {G : Gp} {X : Xt} {d : Nat} {k94 : Nat → Int → Int → Fl → Il → Prop} {S : Shp} {Q : Int → Fl → Il → Prop} (C : CO G RX9 cX9_homeward 7 X) (M : MX d (some .int) "homeward" X) (hd : 3 ≤ d) (n9 : Nat) (hk94 : ∀ (x0 : Nat) (x2 : Int) (x3 : Int) (F' : Fl) (I' : Il), k94 x0 x2 x3 F' I' → J G X (QD X G (qI fun z S' F' I' => S = S' ∧ Q z F' I') noX) 94 [vr (some x0), vl 0, vi x2, vi x3, vl 0, vl 0, vl 0] [] S F' I') : ∀ (x0 : Nat) (x2 : Int) (x3 : Int) (x4 : Int) (F : Fl) (I : Il), V_X9_homeward_103 n9 k94 x0 x2 x3 x4 S F I Q → J G X (QD X G (qI fun z S' F' I' => S = S' ∧ Q z F' I') noX) 103 [vr (some x0), vl 0, vi x2, vi x3, vi x4, vl 0, vl 0] [] S F I := by
  obtain ⟨d, rfl⟩ : ∃ d9, d = d9 + 1 := ⟨d - 1, by omega⟩
  induction n9 with
  | zero => intro x0 x2 x3 x4 F I h; exact h.elim
  | succ n ih =>
    intro x0 x2 x3 x4 F I h
    unfold V_X9_homeward_103 at h
    refine J_iload C dX9_homeward_103 rfl ?_
    refine J_aload_n C dX9_homeward_105 rfl rfl ?_
    obtain ⟨hK1, h⟩ := h
    refine J_getI C fo_10_6 rfl fl_RX9_181 dX9_homeward_106 hK1 ?_
    refine J_icmp_ge C dX9_homeward_109 (tgt := 276) rfl (fun c109 => ?_) (fun c109 => ?_)
    · have h := h.1 c109
      refine K_iinc C [vr (some x0), vl 0, vi x2, vi (w32 (x3 + 1)), vi x4, vl 0, vl 0] dX9_homeward_276 rfl rfl ?_
      refine J_goto C dX9_homeward_279 (tgt := 94) rfl ?_
      refine J_less [vr (some x0), vl 0, vi x2, vi (w32 (x3 + 1)), vl 0, vl 0, vl 0] (by unfold lessL; simp [lessL]) ?_
      exact hk94 x0 x2 (w32 (x3 + 1)) F I h
    · have h := h.2 c109
      refine J_aload_n C dX9_homeward_112 rfl rfl ?_
      obtain ⟨r2, hr3, h⟩ := h
      refine J_getR C fo_10_17 rfl fl_RX9_48 dX9_homeward_113 hK1 hr3 ?_
      refine J_iload C dX9_homeward_116 rfl ?_
      obtain ⟨hK4, h⟩ := h
      obtain ⟨h05, hn6, h⟩ := h
      refine J_iald C dX9_homeward_118 hK4 h05 hn6 ?_
      refine J_iconst C dX9_homeward_119 (rg_of (by decide)) ?_
      refine J_icmp_ne C dX9_homeward_120 (tgt := 270) rfl (fun c120 => ?_) (fun c120 => ?_)
      · have h := h.1 c120
        exact S_X9_homeward_270 C M (by omega) hk94 (fun y0 y1 y2 y3 F' I' h9 => ih y0 y1 y2 y3 F' I' h9) h
      · have h := h.2 c120
        refine J_aload_n C dX9_homeward_123 rfl rfl ?_
        refine J_iload C dX9_homeward_124 rfl ?_
        refine K_V C M [vi x4] [] mi_X9_isClosed wg_1445 wg_1447 wg_41 ⟨rfl, by decide⟩ dX9_homeward_126 hK1 rfl rfl (by decide) (Nat.le_of_ble_eq_true rfl) (c_X9_isClosed (C.2.2.2.2.2.2.2) (by omega) h) (fun v9 S' F' I' hq9 => ?_) K_no rfl
        clear h
        obtain ⟨z7, rfl, rfl, rfl, rfl, h⟩ := hq9
        refine J_if_ne C dX9_homeward_129 (tgt := 270) rfl (fun c129 => ?_) (fun c129 => ?_)
        · have h := h.1 c129
          exact S_X9_homeward_270 C M (by omega) hk94 (fun y0 y1 y2 y3 F' I' h9 => ih y0 y1 y2 y3 F' I' h9) h
        · have h := h.2 c129
          refine J_aload_n C dX9_homeward_132 rfl rfl ?_
          obtain ⟨r8, hr9, h⟩ := h
          refine J_getR C fo_10_7 rfl fl_RX9_17 dX9_homeward_133 hK1 hr9 ?_
          refine J_iconst C dX9_homeward_136 (rg_of (by decide)) ?_
          refine J_iload C dX9_homeward_137 rfl ?_
          refine J_imul C dX9_homeward_139 ?_
          obtain ⟨hK10, h⟩ := h
          obtain ⟨h011, hn12, h⟩ := h
          refine J_iald C dX9_homeward_140 hK10 h011 hn12 ?_
          refine K_istore C [vr (some x0), vl 0, vi x2, vi x3, vi x4, vi (I r8 (w32 (2 * x4))), vl 0] dX9_homeward_141 (Nat.le_of_ble_eq_true rfl) rfl ?_
          refine J_aload_n C dX9_homeward_143 rfl rfl ?_
          refine J_getR C fo_10_7 rfl fl_RX9_17 dX9_homeward_144 hK1 hr9 ?_
          refine J_iconst C dX9_homeward_147 (rg_of (by decide)) ?_
          refine J_iload C dX9_homeward_148 rfl ?_
          refine J_imul C dX9_homeward_150 ?_
          refine J_iconst C dX9_homeward_151 (rg_of (by decide)) ?_
          refine J_iadd C dX9_homeward_152 ?_
          obtain ⟨h013, hn14, h⟩ := h
          refine J_iald C dX9_homeward_153 hK10 h013 hn14 ?_
          refine K_istore C [vr (some x0), vl 0, vi x2, vi x3, vi x4, vi (I r8 (w32 (2 * x4))), vi (I r8 (w32 ((w32 (2 * x4)) + 1)))] dX9_homeward_154 (Nat.le_of_ble_eq_true rfl) rfl ?_
          refine J_aload_n C dX9_homeward_156 rfl rfl ?_
          obtain ⟨r15, hr16, h⟩ := h
          refine J_getR C fo_10_63 rfl fl_RX9_168 dX9_homeward_157 hK1 hr16 ?_
          refine J_iload C dX9_homeward_160 rfl ?_
          refine J_aload_n C dX9_homeward_162 rfl rfl ?_
          refine J_getR C fo_10_63 rfl fl_RX9_168 dX9_homeward_163 hK1 hr16 ?_
          refine J_iload C dX9_homeward_166 rfl ?_
          obtain ⟨hK17, h⟩ := h
          obtain ⟨h018, hn19, h⟩ := h
          refine J_iald C dX9_homeward_168 hK17 h018 hn19 ?_
          refine J_aload_n C dX9_homeward_169 rfl rfl ?_
          obtain ⟨r20, hr21, h⟩ := h
          refine J_getR C fo_10_8 rfl fl_RX9_20 dX9_homeward_170 hK1 hr21 ?_
          refine J_iload C dX9_homeward_173 rfl ?_
          obtain ⟨hK22, h⟩ := h
          obtain ⟨h023, hn24, h⟩ := h
          refine J_iald C dX9_homeward_175 hK22 h023 hn24 ?_
          refine J_iadd C dX9_homeward_176 ?_
          refine J_aload_n C dX9_homeward_177 rfl rfl ?_
          refine J_getR C fo_10_63 rfl fl_RX9_168 dX9_homeward_178 hK1 hr16 ?_
          refine J_iload C dX9_homeward_181 rfl ?_
          obtain ⟨h025, hn26, h⟩ := h
          refine J_iald C dX9_homeward_183 hK17 h025 hn26 ?_
          refine J_icmp_ge C dX9_homeward_184 (tgt := 205) rfl (fun c184 => ?_) (fun c184 => ?_)
          · have h := h.1 c184
            refine J_aload_n C dX9_homeward_205 rfl rfl ?_
            refine J_getR C fo_10_63 rfl fl_RX9_168 dX9_homeward_206 hK1 hr16 ?_
            refine J_iload C dX9_homeward_209 rfl ?_
            obtain ⟨h027, hn28, h⟩ := h
            refine J_iald C dX9_homeward_211 hK17 h027 hn28 ?_
            exact S_X9_homeward_212 C M (by omega) hk94 (fun y0 y1 y2 y3 F' I' h9 => ih y0 y1 y2 y3 F' I' h9) h
          · have h := h.2 c184
            refine J_aload_n C dX9_homeward_187 rfl rfl ?_
            refine J_getR C fo_10_63 rfl fl_RX9_168 dX9_homeward_188 hK1 hr16 ?_
            refine J_iload C dX9_homeward_191 rfl ?_
            obtain ⟨h029, hn30, h⟩ := h
            refine J_iald C dX9_homeward_193 hK17 h029 hn30 ?_
            refine J_aload_n C dX9_homeward_194 rfl rfl ?_
            refine J_getR C fo_10_8 rfl fl_RX9_20 dX9_homeward_195 hK1 hr21 ?_
            refine J_iload C dX9_homeward_198 rfl ?_
            obtain ⟨h031, hn32, h⟩ := h
            refine J_iald C dX9_homeward_200 hK22 h031 hn32 ?_
            refine J_iadd C dX9_homeward_201 ?_
            refine J_goto C dX9_homeward_202 (tgt := 212) rfl ?_
            exact S_X9_homeward_212 C M (by omega) hk94 (fun y0 y1 y2 y3 F' I' h9 => ih y0 y1 y2 y3 F' I' h9) h
set_option maxRecDepth 20000 in
set_option maxHeartbeats 4000000 in
theorem S_X9_homeward_94 {G : Gp} {X : Xt} {d : Nat}  {S : Shp} {Q : Int → Fl → Il → Prop} (C : CO G RX9 cX9_homeward 7 X) (M : MX d (some .int) "homeward" X) (hd : 3 ≤ d) (n9 : Nat)  : ∀ (x0 : Nat) (x2 : Int) (x3 : Int) (F : Fl) (I : Il), V_X9_homeward_94 n9 x0 x2 x3 S F I Q → J G X (QD X G (qI fun z S' F' I' => S = S' ∧ Q z F' I') noX) 94 [vr (some x0), vl 0, vi x2, vi x3, vl 0, vl 0, vl 0] [] S F I := by
  induction n9 with
  | zero => intro x0 x2 x3 F I h; exact h.elim
  | succ n ih =>
    intro x0 x2 x3 F I h
    unfold V_X9_homeward_94 at h
    refine J_iload_n C dX9_homeward_94 rfl rfl ?_
    refine J_bipush C dX9_homeward_95 (by decide +kernel) (rg_of (by decide)) ?_
    refine J_icmp_ge C dX9_homeward_97 (tgt := 282) rfl (fun c97 => ?_) (fun c97 => ?_)
    · have h := h.1 c97
      refine J_iconst C dX9_homeward_282 (rg_of (by decide)) ?_
      refine K_istore_n C [vr (some x0), vl 0, vi x2, vi (-1), vl 0, vl 0, vl 0] dX9_homeward_283 rfl (Nat.le_of_ble_eq_true rfl) rfl ?_
      refine J_aload_n C dX9_homeward_284 rfl rfl ?_
      obtain ⟨hK1, h⟩ := h
      refine J_getI C fo_10_6 rfl fl_RX9_181 dX9_homeward_285 hK1 ?_
      refine J_iconst C dX9_homeward_288 (rg_of (by decide)) ?_
      refine J_isub C dX9_homeward_289 ?_
      refine K_istore C [vr (some x0), vl 0, vi x2, vi (-1), vi (w32 ((F 1006 x0) - 1)), vl 0, vl 0] dX9_homeward_290 (Nat.le_of_ble_eq_true rfl) rfl ?_
      obtain ⟨n9, h⟩ := h
      exact S_X9_homeward_292 C M (by omega) n9  _ _ _ _ _ _ h
    · have h := h.2 c97
      refine J_iconst C dX9_homeward_100 (rg_of (by decide)) ?_
      refine K_istore C [vr (some x0), vl 0, vi x2, vi x3, vi 0, vl 0, vl 0] dX9_homeward_101 (Nat.le_of_ble_eq_true rfl) rfl ?_
      obtain ⟨n9, h⟩ := h
      exact S_X9_homeward_103 C M (by omega) n9 (fun y0 y1 y2 F' I' h9 => ih y0 y1 y2 F' I' h9) _ _ _ _ _ _ h
set_option maxRecDepth 20000 in
set_option maxHeartbeats 4000000 in
theorem S_X9_homeward_85 {G : Gp} {X : Xt} {d : Nat} {k57 : Nat → Int → Int → Int → Fl → Il → Prop} {x0 : Nat} {x1 : Int} {x2 : Int} {x3 : Int} {s0 : Int} {s1 : Int} {s2 : Nat} {Q : Int → Fl → Il → Prop} {S : Shp} {F : Fl} {I : Il} (C : CO G RX9 cX9_homeward 7 X) (M : MX d (some .int) "homeward" X) (hd : 3 ≤ d) (hk57 : ∀ (x0 : Nat) (x1 : Int) (x2 : Int) (x3 : Int) (F' : Fl) (I' : Il), k57 x0 x1 x2 x3 F' I' → J G X (QD X G (qI fun z S' F' I' => S = S' ∧ Q z F' I') noX) 57 [vr (some x0), vi x1, vi x2, vi x3, vl 0, vl 0, vl 0] [] S F' I') (h : V_X9_homeward_85 k57 x0 x1 x2 x3 s0 s1 s2 S F I Q) : J G X (QD X G (qI fun z S' F' I' => S = S' ∧ Q z F' I') noX) 85 [vr (some x0), vi x1, vi x2, vi x3, vl 0, vl 0, vl 0] [vi s0, vi s1, vr (some s2)] S F I := by
  unfold V_X9_homeward_85 at h
  obtain ⟨hK1, h⟩ := h
  obtain ⟨h02, hn3, h⟩ := h
  refine J_iast C dX9_homeward_85 hK1 h02 hn3 ?_
  refine K_iinc C [vr (some x0), vi x1, vi x2, vi (w32 (x3 + 1)), vl 0, vl 0, vl 0] dX9_homeward_86 rfl rfl ?_
  refine J_goto C dX9_homeward_89 (tgt := 57) rfl ?_
  exact hk57 x0 x1 x2 (w32 (x3 + 1)) F (ui I s2 s1 s0) h
set_option maxRecDepth 20000 in
set_option maxHeartbeats 4000000 in
theorem S_X9_homeward_57 {G : Gp} {X : Xt} {d : Nat}  {S : Shp} {Q : Int → Fl → Il → Prop} (C : CO G RX9 cX9_homeward 7 X) (M : MX d (some .int) "homeward" X) (hd : 3 ≤ d) (n9 : Nat)  : ∀ (x0 : Nat) (x1 : Int) (x2 : Int) (x3 : Int) (F : Fl) (I : Il), V_X9_homeward_57 n9 x0 x1 x2 x3 S F I Q → J G X (QD X G (qI fun z S' F' I' => S = S' ∧ Q z F' I') noX) 57 [vr (some x0), vi x1, vi x2, vi x3, vl 0, vl 0, vl 0] [] S F I := by
  induction n9 with
  | zero => intro x0 x1 x2 x3 F I h; exact h.elim
  | succ n ih =>
    intro x0 x1 x2 x3 F I h
    unfold V_X9_homeward_57 at h
    refine J_iload_n C dX9_homeward_57 rfl rfl ?_
    refine J_bipush C dX9_homeward_58 (by decide +kernel) (rg_of (by decide)) ?_
    refine J_icmp_ge C dX9_homeward_60 (tgt := 92) rfl (fun c60 => ?_) (fun c60 => ?_)
    · have h := h.1 c60
      refine J_iconst C dX9_homeward_92 (rg_of (by decide)) ?_
      refine K_istore_n C [vr (some x0), vi x1, vi x2, vi 0, vl 0, vl 0, vl 0] dX9_homeward_93 rfl (Nat.le_of_ble_eq_true rfl) rfl ?_
      refine J_less [vr (some x0), vl 0, vi x2, vi 0, vl 0, vl 0, vl 0] (by unfold lessL; simp [lessL]) ?_
      obtain ⟨n9, h⟩ := h
      exact S_X9_homeward_94 C M (by omega) n9  _ _ _ _ _ h
    · have h := h.2 c60
      refine J_aload_n C dX9_homeward_63 rfl rfl ?_
      obtain ⟨hK1, h⟩ := h
      obtain ⟨r2, hr3, h⟩ := h
      refine J_getR C fo_10_63 rfl fl_RX9_168 dX9_homeward_64 hK1 hr3 ?_
      refine J_iload_n C dX9_homeward_67 rfl rfl ?_
      refine J_iload_n C dX9_homeward_68 rfl rfl ?_
      refine J_aload_n C dX9_homeward_69 rfl rfl ?_
      obtain ⟨r4, hr5, h⟩ := h
      refine J_getR C fo_10_30 rfl fl_RX9_78 dX9_homeward_70 hK1 hr5 ?_
      refine J_iload_n C dX9_homeward_73 rfl rfl ?_
      obtain ⟨hK6, h⟩ := h
      obtain ⟨h07, hn8, h⟩ := h
      refine J_iald C dX9_homeward_74 hK6 h07 hn8 ?_
      refine J_icmp_ne C dX9_homeward_75 (tgt := 82) rfl (fun c75 => ?_) (fun c75 => ?_)
      · have h := h.1 c75
        refine J_ldcw C dX9_homeward_82 (z := 1000000) wg_1700 (by decide +kernel) (rg_of (by decide)) ?_
        exact S_X9_homeward_85 C M (by omega) (fun y0 y1 y2 y3 F' I' h9 => ih y0 y1 y2 y3 F' I' h9) h
      · have h := h.2 c75
        refine J_iconst C dX9_homeward_78 (rg_of (by decide)) ?_
        refine J_goto C dX9_homeward_79 (tgt := 85) rfl ?_
        exact S_X9_homeward_85 C M (by omega) (fun y0 y1 y2 y3 F' I' h9 => ih y0 y1 y2 y3 F' I' h9) h
set_option maxRecDepth 20000 in
set_option maxHeartbeats 4000000 in
theorem S_X9_homeward_14 {G : Gp} {X : Xt} {d : Nat}  {x0 : Nat} {x1 : Int} {s0 : Int} {s1 : Nat} {Q : Int → Fl → Il → Prop} {S : Shp} {F : Fl} {I : Il} (C : CO G RX9 cX9_homeward 7 X) (M : MX d (some .int) "homeward" X) (hd : 3 ≤ d)  (h : V_X9_homeward_14 x0 x1 s0 s1 S F I Q) : J G X (QD X G (qI fun z S' F' I' => S = S' ∧ Q z F' I') noX) 14 [vr (some x0), vi x1, vl 0, vl 0, vl 0, vl 0, vl 0] [vi s0, vr (some s1)] S F I := by
  unfold V_X9_homeward_14 at h
  obtain ⟨hK1, h⟩ := h
  refine J_putI C fo_10_0 fp_10 fl_RX9_174 (Or.inl rfl) (Or.inl rfl) dX9_homeward_14 hK1 ?_
  refine J_aload_n C dX9_homeward_17 rfl rfl ?_
  obtain ⟨hK2, h⟩ := h
  refine J_getI C fo_10_0 rfl fl_RX9_174 dX9_homeward_18 hK2 ?_
  refine J_if_le C dX9_homeward_21 (tgt := 26) rfl (fun c21 => ?_) (fun c21 => ?_)
  · have h := h.1 c21
    refine J_aload_n C dX9_homeward_26 rfl rfl ?_
    obtain ⟨r3, hr4, h⟩ := h
    refine J_getR C fo_10_31 rfl fl_RX9_81 dX9_homeward_27 hK2 hr4 ?_
    refine J_iload_n C dX9_homeward_30 rfl rfl ?_
    obtain ⟨hK5, h⟩ := h
    obtain ⟨h06, hn7, h⟩ := h
    refine J_iald C dX9_homeward_31 hK5 h06 hn7 ?_
    refine K_istore_n C [vr (some x0), vi x1, vi (I r3 x1), vl 0, vl 0, vl 0, vl 0] dX9_homeward_32 rfl (Nat.le_of_ble_eq_true rfl) rfl ?_
    refine J_aload_n C dX9_homeward_33 rfl rfl ?_
    obtain ⟨r8, hr9, h⟩ := h
    refine J_getR C fo_10_32 rfl fl_RX9_84 dX9_homeward_34 hK2 hr9 ?_
    refine J_iload_n C dX9_homeward_37 rfl rfl ?_
    obtain ⟨hK10, h⟩ := h
    obtain ⟨h011, hn12, h⟩ := h
    refine J_iald C dX9_homeward_38 hK10 h011 hn12 ?_
    refine J_iconst C dX9_homeward_39 (rg_of (by decide)) ?_
    refine J_icmp_ne C dX9_homeward_40 (tgt := 53) rfl (fun c40 => ?_) (fun c40 => ?_)
    · have h := h.1 c40
      refine J_iconst C dX9_homeward_53 (rg_of (by decide)) ?_
      exact J_iret C dX9_homeward_54 M.2.2.1 ⟨_, rfl, rfl, h⟩
    · have h := h.2 c40
      refine J_iload_n C dX9_homeward_43 rfl rfl ?_
      refine J_aload_n C dX9_homeward_44 rfl rfl ?_
      obtain ⟨r13, hr14, h⟩ := h
      refine J_getR C fo_10_30 rfl fl_RX9_78 dX9_homeward_45 hK2 hr14 ?_
      refine J_iload_n C dX9_homeward_48 rfl rfl ?_
      obtain ⟨hK15, h⟩ := h
      obtain ⟨h016, hn17, h⟩ := h
      refine J_iald C dX9_homeward_49 hK15 h016 hn17 ?_
      refine J_icmp_ne C dX9_homeward_50 (tgt := 55) rfl (fun c50 => ?_) (fun c50 => ?_)
      · have h := h.1 c50
        refine J_iconst C dX9_homeward_55 (rg_of (by decide)) ?_
        refine K_istore_n C [vr (some x0), vi x1, vi (I r3 x1), vi 0, vl 0, vl 0, vl 0] dX9_homeward_56 rfl (Nat.le_of_ble_eq_true rfl) rfl ?_
        obtain ⟨n9, h⟩ := h
        exact S_X9_homeward_57 C M (by omega) n9  _ _ _ _ _ _ h
      · have h := h.2 c50
        refine J_iconst C dX9_homeward_53 (rg_of (by decide)) ?_
        exact J_iret C dX9_homeward_54 M.2.2.1 ⟨_, rfl, rfl, h⟩
  · have h := h.2 c21
    refine J_iconst C dX9_homeward_24 (rg_of (by decide)) ?_
    exact J_iret C dX9_homeward_25 M.2.2.1 ⟨_, rfl, rfl, h⟩
set_option maxRecDepth 20000 in
set_option maxHeartbeats 4000000 in
theorem S_X9_homeward {G : Gp} {X : Xt} {d : Nat}  {x0 : Nat} {x1 : Int} {Q : Int → Fl → Il → Prop} {S : Shp} {F : Fl} {I : Il} (C : CO G RX9 cX9_homeward 7 X) (M : MX d (some .int) "homeward" X) (hd : 3 ≤ d)  (h : V_X9_homeward x0 x1 S F I Q) : J G X (QD X G (qI fun z S' F' I' => S = S' ∧ Q z F' I') noX) 0 [vr (some x0), vi x1, vl 0, vl 0, vl 0, vl 0, vl 0] [] S F I := by
  unfold V_X9_homeward at h
  obtain ⟨d, rfl⟩ : ∃ d9, d = d9 + 1 := ⟨d - 1, by omega⟩
  refine J_aload_n C dX9_homeward_0 rfl rfl ?_
  refine J_aload_n C dX9_homeward_1 rfl rfl ?_
  refine J_iload_n C dX9_homeward_2 rfl rfl ?_
  obtain ⟨hK1, h⟩ := h
  refine K_V C M [vi x1] [vr (some x0)] mi_X9_isCar wg_1526 wg_1528 wg_51 ⟨rfl, by decide⟩ dX9_homeward_3 hK1 rfl rfl (by decide) (Nat.le_of_ble_eq_true rfl) (c_X9_isCar (C.2.2.2.2.2.2.2) (by omega) h) (fun v9 S' F' I' hq9 => ?_) K_no rfl
  clear h
  obtain ⟨z2, rfl, rfl, rfl, rfl, h⟩ := hq9
  refine J_if_eq C dX9_homeward_6 (tgt := 13) rfl (fun c6 => ?_) (fun c6 => ?_)
  · have h := h.1 c6
    refine J_iconst C dX9_homeward_13 (rg_of (by decide)) ?_
    exact S_X9_homeward_14 C M (by omega)  h
  · have h := h.2 c6
    refine J_iconst C dX9_homeward_9 (rg_of (by decide)) ?_
    refine J_goto C dX9_homeward_10 (tgt := 14) rfl ?_
    exact S_X9_homeward_14 C M (by omega)  h
theorem c_X9_homeward {l : Launch} {G : Gp} {d : Nat} {x0 : Nat} {x1 : Int} {S : Shp} {F : Fl} {I : Il} {Q : Int → Fl → Il → Prop} (hl : l.stackTraces = false) (hd : 3 ≤ d) (h : V_X9_homeward x0 x1 S F I Q) : CM l G d yX9_homeward (.code yX9_homeward cX9_homeward 7 (some .int)) [vr (some x0), vi x1] S F I (qI fun z S' F' I' => S = S' ∧ Q z F' I') noX :=
  CM_ofM [vr (some x0), vi x1, vl 0, vl 0, vl 0, vl 0, vl 0] hl (by decide +kernel) (kn1 trivial (kn1 trivial kn0)) (Nat.le_of_ble_eq_true rfl) rfl (fun X hX C M => S_X9_homeward C M hd h)
set_option maxRecDepth 20000 in
set_option maxHeartbeats 4000000 in
theorem S_X9_hours_40 {G : Gp} {X : Xt} {d : Nat}  {x0 : Nat} {x1 : Int} {x2 : Int} {x3 : Int} {s0 : Int} {s1 : Nat} {Q : Fl → Il → Prop} {S : Shp} {F : Fl} {I : Il} (C : CO G RX9 cX9_hours 4 X) (M : MX d none "hours" X) (hd : 3 ≤ d)  (h : V_X9_hours_40 x0 x1 x2 x3 s0 s1 S F I Q) : J G X (QD X G (qV fun S' F' I' => S = S' ∧ Q F' I') noX) 40 [vr (some x0), vi x1, vi x2, vi x3] [vi s0, vr (some s1)] S F I := by
  unfold V_X9_hours_40 at h
  obtain ⟨hK1, h⟩ := h
  refine J_putI C fo_10_0 fp_10 fl_RX9_174 (Or.inl rfl) (Or.inl rfl) dX9_hours_40 hK1 ?_
  refine J_aload_n C dX9_hours_43 rfl rfl ?_
  obtain ⟨hK2, h⟩ := h
  refine J_getI C fo_10_0 rfl fl_RX9_174 dX9_hours_44 hK2 ?_
  refine J_if_ne C dX9_hours_47 (tgt := 64) rfl (fun c47 => ?_) (fun c47 => ?_)
  · have h := h.1 c47
    exact J_vret C dX9_hours_64 M.2.2.1 ⟨rfl, rfl, h⟩
  · have h := h.2 c47
    refine J_aload_n C dX9_hours_50 rfl rfl ?_
    obtain ⟨r3, hr4, h⟩ := h
    refine J_getR C fo_10_15 rfl fl_RX9_42 dX9_hours_51 hK2 hr4 ?_
    refine J_iload_n C dX9_hours_54 rfl rfl ?_
    refine J_iload_n C dX9_hours_55 rfl rfl ?_
    obtain ⟨hK5, h⟩ := h
    obtain ⟨h06, hn7, h⟩ := h
    refine J_iast C dX9_hours_56 hK5 h06 hn7 ?_
    refine J_aload_n C dX9_hours_57 rfl rfl ?_
    obtain ⟨r8, hr9, h⟩ := h
    refine J_getR C fo_10_16 rfl fl_RX9_45 dX9_hours_58 hK2 hr9 ?_
    refine J_iload_n C dX9_hours_61 rfl rfl ?_
    refine J_iload_n C dX9_hours_62 rfl rfl ?_
    obtain ⟨hK10, h⟩ := h
    obtain ⟨h011, hn12, h⟩ := h
    refine J_iast C dX9_hours_63 hK10 h011 hn12 ?_
    exact J_vret C dX9_hours_64 M.2.2.1 ⟨rfl, rfl, h⟩
set_option maxRecDepth 20000 in
set_option maxHeartbeats 4000000 in
theorem S_X9_hours_35 {G : Gp} {X : Xt} {d : Nat}  {x0 : Nat} {x1 : Int} {x2 : Int} {x3 : Int} {s0 : Nat} {Q : Fl → Il → Prop} {S : Shp} {F : Fl} {I : Il} (C : CO G RX9 cX9_hours 4 X) (M : MX d none "hours" X) (hd : 3 ≤ d)  (h : V_X9_hours_35 x0 x1 x2 x3 s0 S F I Q) : J G X (QD X G (qV fun S' F' I' => S = S' ∧ Q F' I') noX) 35 [vr (some x0), vi x1, vi x2, vi x3] [vr (some s0)] S F I := by
  unfold V_X9_hours_35 at h
  refine J_iconst C dX9_hours_35 (rg_of (by decide)) ?_
  refine J_goto C dX9_hours_36 (tgt := 40) rfl ?_
  exact S_X9_hours_40 C M (by omega)  h
set_option maxRecDepth 20000 in
set_option maxHeartbeats 4000000 in
theorem S_X9_hours {G : Gp} {X : Xt} {d : Nat}  {x0 : Nat} {x1 : Int} {x2 : Int} {x3 : Int} {Q : Fl → Il → Prop} {S : Shp} {F : Fl} {I : Il} (C : CO G RX9 cX9_hours 4 X) (M : MX d none "hours" X) (hd : 3 ≤ d)  (h : V_X9_hours x0 x1 x2 x3 S F I Q) : J G X (QD X G (qV fun S' F' I' => S = S' ∧ Q F' I') noX) 0 [vr (some x0), vi x1, vi x2, vi x3] [] S F I := by
  unfold V_X9_hours at h
  obtain ⟨d, rfl⟩ : ∃ d9, d = d9 + 1 := ⟨d - 1, by omega⟩
  refine J_aload_n C dX9_hours_0 rfl rfl ?_
  refine J_aload_n C dX9_hours_1 rfl rfl ?_
  refine J_iload_n C dX9_hours_2 rfl rfl ?_
  obtain ⟨hK1, h⟩ := h
  refine K_V C M [vi x1] [vr (some x0)] mi_X9_isBlock wg_1429 wg_1431 wg_40 ⟨rfl, by decide⟩ dX9_hours_3 hK1 rfl rfl (by decide) (Nat.le_of_ble_eq_true rfl) (c_X9_isBlock (C.2.2.2.2.2.2.2) (by omega) h) (fun v9 S' F' I' hq9 => ?_) K_no rfl
  clear h
  obtain ⟨z2, rfl, rfl, rfl, rfl, h⟩ := hq9
  refine J_if_ne C dX9_hours_6 (tgt := 13) rfl (fun c6 => ?_) (fun c6 => ?_)
  · have h := h.1 c6
    refine J_iload_n C dX9_hours_13 rfl rfl ?_
    refine J_iconst C dX9_hours_14 (rg_of (by decide)) ?_
    refine J_sipush C dX9_hours_15 (by decide +kernel) (rg_of (by decide)) ?_
    refine K_S C M [vi x2, vi 0, vi 1440] [vr (some x0)] mi_X9_in wg_1414 wg_1415 dX9_hours_18 rfl rfl (by decide) (Nat.le_of_ble_eq_true rfl) (c_X9_in (C.2.2.2.2.2.2.2) (by omega) h) (fun v9 S' F' I' hq9 => ?_) K_no rfl
    clear h
    obtain ⟨z3, rfl, rfl, rfl, rfl, h⟩ := hq9
    refine J_if_eq C dX9_hours_21 (tgt := 35) rfl (fun c21 => ?_) (fun c21 => ?_)
    · have h := h.1 c21
      exact S_X9_hours_35 C M (by omega)  h
    · have h := h.2 c21
      refine J_iload_n C dX9_hours_24 rfl rfl ?_
      refine J_iload_n C dX9_hours_25 rfl rfl ?_
      refine J_sipush C dX9_hours_26 (by decide +kernel) (rg_of (by decide)) ?_
      refine K_S C M [vi x3, vi x2, vi 1440] [vr (some x0)] mi_X9_in wg_1414 wg_1415 dX9_hours_29 rfl rfl (by decide) (Nat.le_of_ble_eq_true rfl) (c_X9_in (C.2.2.2.2.2.2.2) (by omega) h) (fun v9 S' F' I' hq9 => ?_) K_no rfl
      clear h
      obtain ⟨z4, rfl, rfl, rfl, rfl, h⟩ := hq9
      refine J_if_ne C dX9_hours_32 (tgt := 39) rfl (fun c32 => ?_) (fun c32 => ?_)
      · have h := h.1 c32
        refine J_iconst C dX9_hours_39 (rg_of (by decide)) ?_
        exact S_X9_hours_40 C M (by omega)  h
      · have h := h.2 c32
        exact S_X9_hours_35 C M (by omega)  h
  · have h := h.2 c6
    refine J_iconst C dX9_hours_9 (rg_of (by decide)) ?_
    refine J_goto C dX9_hours_10 (tgt := 40) rfl ?_
    exact S_X9_hours_40 C M (by omega)  h
theorem c_X9_hours {l : Launch} {G : Gp} {d : Nat} {x0 : Nat} {x1 : Int} {x2 : Int} {x3 : Int} {S : Shp} {F : Fl} {I : Il} {Q : Fl → Il → Prop} (hl : l.stackTraces = false) (hd : 3 ≤ d) (h : V_X9_hours x0 x1 x2 x3 S F I Q) : CM l G d yX9_hours (.code yX9_hours cX9_hours 4 none) [vr (some x0), vi x1, vi x2, vi x3] S F I (qV fun S' F' I' => S = S' ∧ Q F' I') noX :=
  CM_ofM [vr (some x0), vi x1, vi x2, vi x3] hl (by decide +kernel) (kn1 trivial (kn1 trivial (kn1 trivial (kn1 trivial kn0)))) (Nat.le_of_ble_eq_true rfl) rfl (fun X hX C M => S_X9_hours C M hd h)
set_option maxRecDepth 20000 in
set_option maxHeartbeats 4000000 in
theorem S_X9_init_475 {G : Gp} {X : Xt} {d : Nat}   {Q : Shp → Fl → Il → Prop} (C : CO G RX9 cX9_init 2 X) (M : MX d none "<init>" X) (hd : 2 ≤ d) (n9 : Nat)  : ∀ (x0 : Nat) (x1 : Int) (S : Shp) (F : Fl) (I : Il), V_X9_init_475 n9 x0 x1 S F I Q → J G X (QD X G (qV fun S' F' I' => Q S' F' I') noX) 475 [vr (some x0), vi x1] [] S F I := by
  induction n9 with
  | zero => intro x0 x1 S F I h; exact h.elim
  | succ n ih =>
    intro x0 x1 S F I h
    unfold V_X9_init_475 at h
    refine J_iload_n C dX9_init_475 rfl rfl ?_
    refine J_sipush C dX9_init_476 (by decide +kernel) (rg_of (by decide)) ?_
    refine J_icmp_ge C dX9_init_479 (tgt := 496) rfl (fun c479 => ?_) (fun c479 => ?_)
    · have h := h.1 c479
      exact J_vret C dX9_init_496 M.2.2.1 ⟨rfl, h⟩
    · have h := h.2 c479
      refine J_aload_n C dX9_init_482 rfl rfl ?_
      obtain ⟨hK1, h⟩ := h
      obtain ⟨r2, hr3, h⟩ := h
      refine J_getR C fo_10_59 rfl fl_RX9_159 dX9_init_483 hK1 hr3 ?_
      refine J_iload_n C dX9_init_486 rfl rfl ?_
      refine J_bipush C dX9_init_487 (by decide +kernel) (rg_of (by decide)) ?_
      obtain ⟨hK4, h⟩ := h
      obtain ⟨h05, hn6, h⟩ := h
      refine J_iast C dX9_init_489 hK4 h05 hn6 ?_
      refine K_iinc C [vr (some x0), vi (w32 (x1 + 1))] dX9_init_490 rfl rfl ?_
      refine J_goto C dX9_init_493 (tgt := 475) rfl ?_
      exact ih _ _ _ _ _ h
set_option maxRecDepth 20000 in
set_option maxHeartbeats 4000000 in
theorem S_X9_init_473 {G : Gp} {X : Xt} {d : Nat}  {x0 : Nat} {Q : Shp → Fl → Il → Prop} {S : Shp} {F : Fl} {I : Il} (C : CO G RX9 cX9_init 2 X) (M : MX d none "<init>" X) (hd : 2 ≤ d)  (h : V_X9_init_473 x0 S F I Q) : J G X (QD X G (qV fun S' F' I' => Q S' F' I') noX) 473 [vr (some x0), vl 0] [] S F I := by
  unfold V_X9_init_473 at h
  refine J_iconst C dX9_init_473 (rg_of (by decide)) ?_
  refine K_istore_n C [vr (some x0), vi 0] dX9_init_474 rfl (Nat.le_of_ble_eq_true rfl) rfl ?_
  obtain ⟨n9, h⟩ := h
  exact S_X9_init_475 C M (by omega) n9  _ _ _ _ _ h
set_option maxRecDepth 20000 in
set_option maxHeartbeats 4000000 in
theorem S_X9_init_465 {G : Gp} {X : Xt} {d : Nat}  {x0 : Nat} {Q : Shp → Fl → Il → Prop} {S : Shp} {F : Fl} {I : Il} (C : CO G RX9 cX9_init 2 X) (M : MX d none "<init>" X) (hd : 2 ≤ d)  (h : V_X9_init_465 x0 S F I Q) : J G X (QD X G (qV fun S' F' I' => Q S' F' I') noX) 465 [vr (some x0), vl 0] [] S F I := by
  unfold V_X9_init_465 at h
  refine J_aload_n C dX9_init_465 rfl rfl ?_
  refine J_bipush C dX9_init_466 (by decide +kernel) (rg_of (by decide)) ?_
  obtain ⟨ha3, hb4, h⟩ := h
  refine J_newI C (n := 20) rfl wg_145 dX9_init_468 (by decide) ha3 hb4 (fun q1 hq2 => ?_)
  have h := h q1 hq2
  obtain ⟨hK5, h⟩ := h
  refine J_putR C fo_10_64 fp_10 rfl wg_1270 rfl (Or.inr ⟨M.2.2.2.1, rfl⟩) dX9_init_470 hK5 ?_
  exact S_X9_init_473 C M (by omega)  h
set_option maxRecDepth 20000 in
set_option maxHeartbeats 4000000 in
theorem S_X9_init_457 {G : Gp} {X : Xt} {d : Nat}  {x0 : Nat} {Q : Shp → Fl → Il → Prop} {S : Shp} {F : Fl} {I : Il} (C : CO G RX9 cX9_init 2 X) (M : MX d none "<init>" X) (hd : 2 ≤ d)  (h : V_X9_init_457 x0 S F I Q) : J G X (QD X G (qV fun S' F' I' => Q S' F' I') noX) 457 [vr (some x0), vl 0] [] S F I := by
  unfold V_X9_init_457 at h
  refine J_aload_n C dX9_init_457 rfl rfl ?_
  refine J_bipush C dX9_init_458 (by decide +kernel) (rg_of (by decide)) ?_
  obtain ⟨ha3, hb4, h⟩ := h
  refine J_newI C (n := 8) rfl wg_145 dX9_init_460 (by decide) ha3 hb4 (fun q1 hq2 => ?_)
  have h := h q1 hq2
  obtain ⟨hK5, h⟩ := h
  refine J_putR C fo_10_63 fp_10 rfl wg_1269 rfl (Or.inr ⟨M.2.2.2.1, rfl⟩) dX9_init_462 hK5 ?_
  exact S_X9_init_465 C M (by omega)  h
set_option maxRecDepth 20000 in
set_option maxHeartbeats 4000000 in
theorem S_X9_init_448 {G : Gp} {X : Xt} {d : Nat}  {x0 : Nat} {Q : Shp → Fl → Il → Prop} {S : Shp} {F : Fl} {I : Il} (C : CO G RX9 cX9_init 2 X) (M : MX d none "<init>" X) (hd : 2 ≤ d)  (h : V_X9_init_448 x0 S F I Q) : J G X (QD X G (qV fun S' F' I' => Q S' F' I') noX) 448 [vr (some x0), vl 0] [] S F I := by
  unfold V_X9_init_448 at h
  refine J_aload_n C dX9_init_448 rfl rfl ?_
  refine J_sipush C dX9_init_449 (by decide +kernel) (rg_of (by decide)) ?_
  obtain ⟨ha3, hb4, h⟩ := h
  refine J_newI C (n := 4000) rfl wg_145 dX9_init_452 (by decide) ha3 hb4 (fun q1 hq2 => ?_)
  have h := h q1 hq2
  obtain ⟨hK5, h⟩ := h
  refine J_putR C fo_10_62 fp_10 rfl wg_1268 rfl (Or.inr ⟨M.2.2.2.1, rfl⟩) dX9_init_454 hK5 ?_
  exact S_X9_init_457 C M (by omega)  h
set_option maxRecDepth 20000 in
set_option maxHeartbeats 4000000 in
theorem S_X9_init_439 {G : Gp} {X : Xt} {d : Nat}  {x0 : Nat} {Q : Shp → Fl → Il → Prop} {S : Shp} {F : Fl} {I : Il} (C : CO G RX9 cX9_init 2 X) (M : MX d none "<init>" X) (hd : 2 ≤ d)  (h : V_X9_init_439 x0 S F I Q) : J G X (QD X G (qV fun S' F' I' => Q S' F' I') noX) 439 [vr (some x0), vl 0] [] S F I := by
  unfold V_X9_init_439 at h
  refine J_aload_n C dX9_init_439 rfl rfl ?_
  refine J_sipush C dX9_init_440 (by decide +kernel) (rg_of (by decide)) ?_
  obtain ⟨ha3, hb4, h⟩ := h
  refine J_newI C (n := 4000) rfl wg_145 dX9_init_443 (by decide) ha3 hb4 (fun q1 hq2 => ?_)
  have h := h q1 hq2
  obtain ⟨hK5, h⟩ := h
  refine J_putR C fo_10_61 fp_10 rfl wg_1267 rfl (Or.inr ⟨M.2.2.2.1, rfl⟩) dX9_init_445 hK5 ?_
  exact S_X9_init_448 C M (by omega)  h
set_option maxRecDepth 20000 in
set_option maxHeartbeats 4000000 in
theorem S_X9_init_430 {G : Gp} {X : Xt} {d : Nat}  {x0 : Nat} {Q : Shp → Fl → Il → Prop} {S : Shp} {F : Fl} {I : Il} (C : CO G RX9 cX9_init 2 X) (M : MX d none "<init>" X) (hd : 2 ≤ d)  (h : V_X9_init_430 x0 S F I Q) : J G X (QD X G (qV fun S' F' I' => Q S' F' I') noX) 430 [vr (some x0), vl 0] [] S F I := by
  unfold V_X9_init_430 at h
  refine J_aload_n C dX9_init_430 rfl rfl ?_
  refine J_sipush C dX9_init_431 (by decide +kernel) (rg_of (by decide)) ?_
  obtain ⟨ha3, hb4, h⟩ := h
  refine J_newI C (n := 128) rfl wg_145 dX9_init_434 (by decide) ha3 hb4 (fun q1 hq2 => ?_)
  have h := h q1 hq2
  obtain ⟨hK5, h⟩ := h
  refine J_putR C fo_10_59 fp_10 rfl wg_1265 rfl (Or.inr ⟨M.2.2.2.1, rfl⟩) dX9_init_436 hK5 ?_
  exact S_X9_init_439 C M (by omega)  h
set_option maxRecDepth 20000 in
set_option maxHeartbeats 4000000 in
theorem S_X9_init_422 {G : Gp} {X : Xt} {d : Nat}  {x0 : Nat} {Q : Shp → Fl → Il → Prop} {S : Shp} {F : Fl} {I : Il} (C : CO G RX9 cX9_init 2 X) (M : MX d none "<init>" X) (hd : 2 ≤ d)  (h : V_X9_init_422 x0 S F I Q) : J G X (QD X G (qV fun S' F' I' => Q S' F' I') noX) 422 [vr (some x0), vl 0] [] S F I := by
  unfold V_X9_init_422 at h
  refine J_aload_n C dX9_init_422 rfl rfl ?_
  refine J_bipush C dX9_init_423 (by decide +kernel) (rg_of (by decide)) ?_
  obtain ⟨ha3, hb4, h⟩ := h
  refine J_newZ C (n := 40) rfl wg_1402 dX9_init_425 (by decide) ha3 hb4 (fun q1 hq2 => ?_)
  have h := h q1 hq2
  obtain ⟨hK5, h⟩ := h
  refine J_putR C fo_10_58 fp_10 rfl wg_1264 rfl (Or.inr ⟨M.2.2.2.1, rfl⟩) dX9_init_427 hK5 ?_
  exact S_X9_init_430 C M (by omega)  h
set_option maxRecDepth 20000 in
set_option maxHeartbeats 4000000 in
theorem S_X9_init_414 {G : Gp} {X : Xt} {d : Nat}  {x0 : Nat} {Q : Shp → Fl → Il → Prop} {S : Shp} {F : Fl} {I : Il} (C : CO G RX9 cX9_init 2 X) (M : MX d none "<init>" X) (hd : 2 ≤ d)  (h : V_X9_init_414 x0 S F I Q) : J G X (QD X G (qV fun S' F' I' => Q S' F' I') noX) 414 [vr (some x0), vl 0] [] S F I := by
  unfold V_X9_init_414 at h
  refine J_aload_n C dX9_init_414 rfl rfl ?_
  refine J_bipush C dX9_init_415 (by decide +kernel) (rg_of (by decide)) ?_
  obtain ⟨ha3, hb4, h⟩ := h
  refine J_newI C (n := 40) rfl wg_145 dX9_init_417 (by decide) ha3 hb4 (fun q1 hq2 => ?_)
  have h := h q1 hq2
  obtain ⟨hK5, h⟩ := h
  refine J_putR C fo_10_57 fp_10 rfl wg_1263 rfl (Or.inr ⟨M.2.2.2.1, rfl⟩) dX9_init_419 hK5 ?_
  exact S_X9_init_422 C M (by omega)  h
set_option maxRecDepth 20000 in
set_option maxHeartbeats 4000000 in
theorem S_X9_init_406 {G : Gp} {X : Xt} {d : Nat}  {x0 : Nat} {Q : Shp → Fl → Il → Prop} {S : Shp} {F : Fl} {I : Il} (C : CO G RX9 cX9_init 2 X) (M : MX d none "<init>" X) (hd : 2 ≤ d)  (h : V_X9_init_406 x0 S F I Q) : J G X (QD X G (qV fun S' F' I' => Q S' F' I') noX) 406 [vr (some x0), vl 0] [] S F I := by
  unfold V_X9_init_406 at h
  refine J_aload_n C dX9_init_406 rfl rfl ?_
  refine J_bipush C dX9_init_407 (by decide +kernel) (rg_of (by decide)) ?_
  obtain ⟨ha3, hb4, h⟩ := h
  refine J_newI C (n := 40) rfl wg_145 dX9_init_409 (by decide) ha3 hb4 (fun q1 hq2 => ?_)
  have h := h q1 hq2
  obtain ⟨hK5, h⟩ := h
  refine J_putR C fo_10_56 fp_10 rfl wg_1262 rfl (Or.inr ⟨M.2.2.2.1, rfl⟩) dX9_init_411 hK5 ?_
  exact S_X9_init_414 C M (by omega)  h
set_option maxRecDepth 20000 in
set_option maxHeartbeats 4000000 in
theorem S_X9_init_398 {G : Gp} {X : Xt} {d : Nat}  {x0 : Nat} {Q : Shp → Fl → Il → Prop} {S : Shp} {F : Fl} {I : Il} (C : CO G RX9 cX9_init 2 X) (M : MX d none "<init>" X) (hd : 2 ≤ d)  (h : V_X9_init_398 x0 S F I Q) : J G X (QD X G (qV fun S' F' I' => Q S' F' I') noX) 398 [vr (some x0), vl 0] [] S F I := by
  unfold V_X9_init_398 at h
  refine J_aload_n C dX9_init_398 rfl rfl ?_
  refine J_bipush C dX9_init_399 (by decide +kernel) (rg_of (by decide)) ?_
  obtain ⟨ha3, hb4, h⟩ := h
  refine J_newI C (n := 40) rfl wg_145 dX9_init_401 (by decide) ha3 hb4 (fun q1 hq2 => ?_)
  have h := h q1 hq2
  obtain ⟨hK5, h⟩ := h
  refine J_putR C fo_10_55 fp_10 rfl wg_1261 rfl (Or.inr ⟨M.2.2.2.1, rfl⟩) dX9_init_403 hK5 ?_
  exact S_X9_init_406 C M (by omega)  h
set_option maxRecDepth 20000 in
set_option maxHeartbeats 4000000 in
theorem S_X9_init_390 {G : Gp} {X : Xt} {d : Nat}  {x0 : Nat} {Q : Shp → Fl → Il → Prop} {S : Shp} {F : Fl} {I : Il} (C : CO G RX9 cX9_init 2 X) (M : MX d none "<init>" X) (hd : 2 ≤ d)  (h : V_X9_init_390 x0 S F I Q) : J G X (QD X G (qV fun S' F' I' => Q S' F' I') noX) 390 [vr (some x0), vl 0] [] S F I := by
  unfold V_X9_init_390 at h
  refine J_aload_n C dX9_init_390 rfl rfl ?_
  refine J_bipush C dX9_init_391 (by decide +kernel) (rg_of (by decide)) ?_
  obtain ⟨ha3, hb4, h⟩ := h
  refine J_newI C (n := 8) rfl wg_145 dX9_init_393 (by decide) ha3 hb4 (fun q1 hq2 => ?_)
  have h := h q1 hq2
  obtain ⟨hK5, h⟩ := h
  refine J_putR C fo_10_53 fp_10 rfl wg_1259 rfl (Or.inr ⟨M.2.2.2.1, rfl⟩) dX9_init_395 hK5 ?_
  exact S_X9_init_398 C M (by omega)  h
set_option maxRecDepth 20000 in
set_option maxHeartbeats 4000000 in
theorem S_X9_init_382 {G : Gp} {X : Xt} {d : Nat}  {x0 : Nat} {Q : Shp → Fl → Il → Prop} {S : Shp} {F : Fl} {I : Il} (C : CO G RX9 cX9_init 2 X) (M : MX d none "<init>" X) (hd : 2 ≤ d)  (h : V_X9_init_382 x0 S F I Q) : J G X (QD X G (qV fun S' F' I' => Q S' F' I') noX) 382 [vr (some x0), vl 0] [] S F I := by
  unfold V_X9_init_382 at h
  refine J_aload_n C dX9_init_382 rfl rfl ?_
  refine J_bipush C dX9_init_383 (by decide +kernel) (rg_of (by decide)) ?_
  obtain ⟨ha3, hb4, h⟩ := h
  refine J_newI C (n := 6) rfl wg_145 dX9_init_385 (by decide) ha3 hb4 (fun q1 hq2 => ?_)
  have h := h q1 hq2
  obtain ⟨hK5, h⟩ := h
  refine J_putR C fo_10_51 fp_10 rfl wg_1257 rfl (Or.inr ⟨M.2.2.2.1, rfl⟩) dX9_init_387 hK5 ?_
  exact S_X9_init_390 C M (by omega)  h
set_option maxRecDepth 20000 in
set_option maxHeartbeats 4000000 in
theorem S_X9_init_374 {G : Gp} {X : Xt} {d : Nat}  {x0 : Nat} {Q : Shp → Fl → Il → Prop} {S : Shp} {F : Fl} {I : Il} (C : CO G RX9 cX9_init 2 X) (M : MX d none "<init>" X) (hd : 2 ≤ d)  (h : V_X9_init_374 x0 S F I Q) : J G X (QD X G (qV fun S' F' I' => Q S' F' I') noX) 374 [vr (some x0), vl 0] [] S F I := by
  unfold V_X9_init_374 at h
  refine J_aload_n C dX9_init_374 rfl rfl ?_
  refine J_bipush C dX9_init_375 (by decide +kernel) (rg_of (by decide)) ?_
  obtain ⟨ha3, hb4, h⟩ := h
  refine J_newI C (n := 6) rfl wg_145 dX9_init_377 (by decide) ha3 hb4 (fun q1 hq2 => ?_)
  have h := h q1 hq2
  obtain ⟨hK5, h⟩ := h
  refine J_putR C fo_10_50 fp_10 rfl wg_1256 rfl (Or.inr ⟨M.2.2.2.1, rfl⟩) dX9_init_379 hK5 ?_
  exact S_X9_init_382 C M (by omega)  h
set_option maxRecDepth 20000 in
set_option maxHeartbeats 4000000 in
theorem S_X9_init_366 {G : Gp} {X : Xt} {d : Nat}  {x0 : Nat} {Q : Shp → Fl → Il → Prop} {S : Shp} {F : Fl} {I : Il} (C : CO G RX9 cX9_init 2 X) (M : MX d none "<init>" X) (hd : 2 ≤ d)  (h : V_X9_init_366 x0 S F I Q) : J G X (QD X G (qV fun S' F' I' => Q S' F' I') noX) 366 [vr (some x0), vl 0] [] S F I := by
  unfold V_X9_init_366 at h
  refine J_aload_n C dX9_init_366 rfl rfl ?_
  refine J_bipush C dX9_init_367 (by decide +kernel) (rg_of (by decide)) ?_
  obtain ⟨ha3, hb4, h⟩ := h
  refine J_newI C (n := 6) rfl wg_145 dX9_init_369 (by decide) ha3 hb4 (fun q1 hq2 => ?_)
  have h := h q1 hq2
  obtain ⟨hK5, h⟩ := h
  refine J_putR C fo_10_49 fp_10 rfl wg_1255 rfl (Or.inr ⟨M.2.2.2.1, rfl⟩) dX9_init_371 hK5 ?_
  exact S_X9_init_374 C M (by omega)  h
set_option maxRecDepth 20000 in
set_option maxHeartbeats 4000000 in
theorem S_X9_init_358 {G : Gp} {X : Xt} {d : Nat}  {x0 : Nat} {Q : Shp → Fl → Il → Prop} {S : Shp} {F : Fl} {I : Il} (C : CO G RX9 cX9_init 2 X) (M : MX d none "<init>" X) (hd : 2 ≤ d)  (h : V_X9_init_358 x0 S F I Q) : J G X (QD X G (qV fun S' F' I' => Q S' F' I') noX) 358 [vr (some x0), vl 0] [] S F I := by
  unfold V_X9_init_358 at h
  refine J_aload_n C dX9_init_358 rfl rfl ?_
  refine J_bipush C dX9_init_359 (by decide +kernel) (rg_of (by decide)) ?_
  obtain ⟨ha3, hb4, h⟩ := h
  refine J_newI C (n := 6) rfl wg_145 dX9_init_361 (by decide) ha3 hb4 (fun q1 hq2 => ?_)
  have h := h q1 hq2
  obtain ⟨hK5, h⟩ := h
  refine J_putR C fo_10_48 fp_10 rfl wg_1254 rfl (Or.inr ⟨M.2.2.2.1, rfl⟩) dX9_init_363 hK5 ?_
  exact S_X9_init_366 C M (by omega)  h
set_option maxRecDepth 20000 in
set_option maxHeartbeats 4000000 in
theorem S_X9_init_350 {G : Gp} {X : Xt} {d : Nat}  {x0 : Nat} {Q : Shp → Fl → Il → Prop} {S : Shp} {F : Fl} {I : Il} (C : CO G RX9 cX9_init 2 X) (M : MX d none "<init>" X) (hd : 2 ≤ d)  (h : V_X9_init_350 x0 S F I Q) : J G X (QD X G (qV fun S' F' I' => Q S' F' I') noX) 350 [vr (some x0), vl 0] [] S F I := by
  unfold V_X9_init_350 at h
  refine J_aload_n C dX9_init_350 rfl rfl ?_
  refine J_bipush C dX9_init_351 (by decide +kernel) (rg_of (by decide)) ?_
  obtain ⟨ha3, hb4, h⟩ := h
  refine J_newI C (n := 6) rfl wg_145 dX9_init_353 (by decide) ha3 hb4 (fun q1 hq2 => ?_)
  have h := h q1 hq2
  obtain ⟨hK5, h⟩ := h
  refine J_putR C fo_10_47 fp_10 rfl wg_1253 rfl (Or.inr ⟨M.2.2.2.1, rfl⟩) dX9_init_355 hK5 ?_
  exact S_X9_init_358 C M (by omega)  h
set_option maxRecDepth 20000 in
set_option maxHeartbeats 4000000 in
theorem S_X9_init_342 {G : Gp} {X : Xt} {d : Nat}  {x0 : Nat} {Q : Shp → Fl → Il → Prop} {S : Shp} {F : Fl} {I : Il} (C : CO G RX9 cX9_init 2 X) (M : MX d none "<init>" X) (hd : 2 ≤ d)  (h : V_X9_init_342 x0 S F I Q) : J G X (QD X G (qV fun S' F' I' => Q S' F' I') noX) 342 [vr (some x0), vl 0] [] S F I := by
  unfold V_X9_init_342 at h
  refine J_aload_n C dX9_init_342 rfl rfl ?_
  refine J_bipush C dX9_init_343 (by decide +kernel) (rg_of (by decide)) ?_
  obtain ⟨ha3, hb4, h⟩ := h
  refine J_newI C (n := 6) rfl wg_145 dX9_init_345 (by decide) ha3 hb4 (fun q1 hq2 => ?_)
  have h := h q1 hq2
  obtain ⟨hK5, h⟩ := h
  refine J_putR C fo_10_46 fp_10 rfl wg_1252 rfl (Or.inr ⟨M.2.2.2.1, rfl⟩) dX9_init_347 hK5 ?_
  exact S_X9_init_350 C M (by omega)  h
set_option maxRecDepth 20000 in
set_option maxHeartbeats 4000000 in
theorem S_X9_init_334 {G : Gp} {X : Xt} {d : Nat}  {x0 : Nat} {Q : Shp → Fl → Il → Prop} {S : Shp} {F : Fl} {I : Il} (C : CO G RX9 cX9_init 2 X) (M : MX d none "<init>" X) (hd : 2 ≤ d)  (h : V_X9_init_334 x0 S F I Q) : J G X (QD X G (qV fun S' F' I' => Q S' F' I') noX) 334 [vr (some x0), vl 0] [] S F I := by
  unfold V_X9_init_334 at h
  refine J_aload_n C dX9_init_334 rfl rfl ?_
  refine J_bipush C dX9_init_335 (by decide +kernel) (rg_of (by decide)) ?_
  obtain ⟨ha3, hb4, h⟩ := h
  refine J_newI C (n := 48) rfl wg_145 dX9_init_337 (by decide) ha3 hb4 (fun q1 hq2 => ?_)
  have h := h q1 hq2
  obtain ⟨hK5, h⟩ := h
  refine J_putR C fo_10_45 fp_10 rfl wg_1251 rfl (Or.inr ⟨M.2.2.2.1, rfl⟩) dX9_init_339 hK5 ?_
  exact S_X9_init_342 C M (by omega)  h
set_option maxRecDepth 20000 in
set_option maxHeartbeats 4000000 in
theorem S_X9_init_326 {G : Gp} {X : Xt} {d : Nat}  {x0 : Nat} {Q : Shp → Fl → Il → Prop} {S : Shp} {F : Fl} {I : Il} (C : CO G RX9 cX9_init 2 X) (M : MX d none "<init>" X) (hd : 2 ≤ d)  (h : V_X9_init_326 x0 S F I Q) : J G X (QD X G (qV fun S' F' I' => Q S' F' I') noX) 326 [vr (some x0), vl 0] [] S F I := by
  unfold V_X9_init_326 at h
  refine J_aload_n C dX9_init_326 rfl rfl ?_
  refine J_bipush C dX9_init_327 (by decide +kernel) (rg_of (by decide)) ?_
  obtain ⟨ha3, hb4, h⟩ := h
  refine J_newI C (n := 6) rfl wg_145 dX9_init_329 (by decide) ha3 hb4 (fun q1 hq2 => ?_)
  have h := h q1 hq2
  obtain ⟨hK5, h⟩ := h
  refine J_putR C fo_10_44 fp_10 rfl wg_1250 rfl (Or.inr ⟨M.2.2.2.1, rfl⟩) dX9_init_331 hK5 ?_
  exact S_X9_init_334 C M (by omega)  h
set_option maxRecDepth 20000 in
set_option maxHeartbeats 4000000 in
theorem S_X9_init_318 {G : Gp} {X : Xt} {d : Nat}  {x0 : Nat} {Q : Shp → Fl → Il → Prop} {S : Shp} {F : Fl} {I : Il} (C : CO G RX9 cX9_init 2 X) (M : MX d none "<init>" X) (hd : 2 ≤ d)  (h : V_X9_init_318 x0 S F I Q) : J G X (QD X G (qV fun S' F' I' => Q S' F' I') noX) 318 [vr (some x0), vl 0] [] S F I := by
  unfold V_X9_init_318 at h
  refine J_aload_n C dX9_init_318 rfl rfl ?_
  refine J_bipush C dX9_init_319 (by decide +kernel) (rg_of (by decide)) ?_
  obtain ⟨ha3, hb4, h⟩ := h
  refine J_newI C (n := 60) rfl wg_145 dX9_init_321 (by decide) ha3 hb4 (fun q1 hq2 => ?_)
  have h := h q1 hq2
  obtain ⟨hK5, h⟩ := h
  refine J_putR C fo_10_43 fp_10 rfl wg_1249 rfl (Or.inr ⟨M.2.2.2.1, rfl⟩) dX9_init_323 hK5 ?_
  exact S_X9_init_326 C M (by omega)  h
set_option maxRecDepth 20000 in
set_option maxHeartbeats 4000000 in
theorem S_X9_init_310 {G : Gp} {X : Xt} {d : Nat}  {x0 : Nat} {Q : Shp → Fl → Il → Prop} {S : Shp} {F : Fl} {I : Il} (C : CO G RX9 cX9_init 2 X) (M : MX d none "<init>" X) (hd : 2 ≤ d)  (h : V_X9_init_310 x0 S F I Q) : J G X (QD X G (qV fun S' F' I' => Q S' F' I') noX) 310 [vr (some x0), vl 0] [] S F I := by
  unfold V_X9_init_310 at h
  refine J_aload_n C dX9_init_310 rfl rfl ?_
  refine J_bipush C dX9_init_311 (by decide +kernel) (rg_of (by decide)) ?_
  obtain ⟨ha3, hb4, h⟩ := h
  refine J_newI C (n := 6) rfl wg_145 dX9_init_313 (by decide) ha3 hb4 (fun q1 hq2 => ?_)
  have h := h q1 hq2
  obtain ⟨hK5, h⟩ := h
  refine J_putR C fo_10_42 fp_10 rfl wg_1248 rfl (Or.inr ⟨M.2.2.2.1, rfl⟩) dX9_init_315 hK5 ?_
  exact S_X9_init_318 C M (by omega)  h
set_option maxRecDepth 20000 in
set_option maxHeartbeats 4000000 in
theorem S_X9_init_302 {G : Gp} {X : Xt} {d : Nat}  {x0 : Nat} {Q : Shp → Fl → Il → Prop} {S : Shp} {F : Fl} {I : Il} (C : CO G RX9 cX9_init 2 X) (M : MX d none "<init>" X) (hd : 2 ≤ d)  (h : V_X9_init_302 x0 S F I Q) : J G X (QD X G (qV fun S' F' I' => Q S' F' I') noX) 302 [vr (some x0), vl 0] [] S F I := by
  unfold V_X9_init_302 at h
  refine J_aload_n C dX9_init_302 rfl rfl ?_
  refine J_bipush C dX9_init_303 (by decide +kernel) (rg_of (by decide)) ?_
  obtain ⟨ha3, hb4, h⟩ := h
  refine J_newI C (n := 6) rfl wg_145 dX9_init_305 (by decide) ha3 hb4 (fun q1 hq2 => ?_)
  have h := h q1 hq2
  obtain ⟨hK5, h⟩ := h
  refine J_putR C fo_10_41 fp_10 rfl wg_1247 rfl (Or.inr ⟨M.2.2.2.1, rfl⟩) dX9_init_307 hK5 ?_
  exact S_X9_init_310 C M (by omega)  h
set_option maxRecDepth 20000 in
set_option maxHeartbeats 4000000 in
theorem S_X9_init_294 {G : Gp} {X : Xt} {d : Nat}  {x0 : Nat} {Q : Shp → Fl → Il → Prop} {S : Shp} {F : Fl} {I : Il} (C : CO G RX9 cX9_init 2 X) (M : MX d none "<init>" X) (hd : 2 ≤ d)  (h : V_X9_init_294 x0 S F I Q) : J G X (QD X G (qV fun S' F' I' => Q S' F' I') noX) 294 [vr (some x0), vl 0] [] S F I := by
  unfold V_X9_init_294 at h
  refine J_aload_n C dX9_init_294 rfl rfl ?_
  refine J_bipush C dX9_init_295 (by decide +kernel) (rg_of (by decide)) ?_
  obtain ⟨ha3, hb4, h⟩ := h
  refine J_newI C (n := 6) rfl wg_145 dX9_init_297 (by decide) ha3 hb4 (fun q1 hq2 => ?_)
  have h := h q1 hq2
  obtain ⟨hK5, h⟩ := h
  refine J_putR C fo_10_40 fp_10 rfl wg_1246 rfl (Or.inr ⟨M.2.2.2.1, rfl⟩) dX9_init_299 hK5 ?_
  exact S_X9_init_302 C M (by omega)  h
set_option maxRecDepth 20000 in
set_option maxHeartbeats 4000000 in
theorem S_X9_init_286 {G : Gp} {X : Xt} {d : Nat}  {x0 : Nat} {Q : Shp → Fl → Il → Prop} {S : Shp} {F : Fl} {I : Il} (C : CO G RX9 cX9_init 2 X) (M : MX d none "<init>" X) (hd : 2 ≤ d)  (h : V_X9_init_286 x0 S F I Q) : J G X (QD X G (qV fun S' F' I' => Q S' F' I') noX) 286 [vr (some x0), vl 0] [] S F I := by
  unfold V_X9_init_286 at h
  refine J_aload_n C dX9_init_286 rfl rfl ?_
  refine J_bipush C dX9_init_287 (by decide +kernel) (rg_of (by decide)) ?_
  obtain ⟨ha3, hb4, h⟩ := h
  refine J_newI C (n := 6) rfl wg_145 dX9_init_289 (by decide) ha3 hb4 (fun q1 hq2 => ?_)
  have h := h q1 hq2
  obtain ⟨hK5, h⟩ := h
  refine J_putR C fo_10_39 fp_10 rfl wg_1245 rfl (Or.inr ⟨M.2.2.2.1, rfl⟩) dX9_init_291 hK5 ?_
  exact S_X9_init_294 C M (by omega)  h
set_option maxRecDepth 20000 in
set_option maxHeartbeats 4000000 in
theorem S_X9_init_278 {G : Gp} {X : Xt} {d : Nat}  {x0 : Nat} {Q : Shp → Fl → Il → Prop} {S : Shp} {F : Fl} {I : Il} (C : CO G RX9 cX9_init 2 X) (M : MX d none "<init>" X) (hd : 2 ≤ d)  (h : V_X9_init_278 x0 S F I Q) : J G X (QD X G (qV fun S' F' I' => Q S' F' I') noX) 278 [vr (some x0), vl 0] [] S F I := by
  unfold V_X9_init_278 at h
  refine J_aload_n C dX9_init_278 rfl rfl ?_
  refine J_bipush C dX9_init_279 (by decide +kernel) (rg_of (by decide)) ?_
  obtain ⟨ha3, hb4, h⟩ := h
  refine J_newI C (n := 6) rfl wg_145 dX9_init_281 (by decide) ha3 hb4 (fun q1 hq2 => ?_)
  have h := h q1 hq2
  obtain ⟨hK5, h⟩ := h
  refine J_putR C fo_10_38 fp_10 rfl wg_1244 rfl (Or.inr ⟨M.2.2.2.1, rfl⟩) dX9_init_283 hK5 ?_
  exact S_X9_init_286 C M (by omega)  h
set_option maxRecDepth 20000 in
set_option maxHeartbeats 4000000 in
theorem S_X9_init_270 {G : Gp} {X : Xt} {d : Nat}  {x0 : Nat} {Q : Shp → Fl → Il → Prop} {S : Shp} {F : Fl} {I : Il} (C : CO G RX9 cX9_init 2 X) (M : MX d none "<init>" X) (hd : 2 ≤ d)  (h : V_X9_init_270 x0 S F I Q) : J G X (QD X G (qV fun S' F' I' => Q S' F' I') noX) 270 [vr (some x0), vl 0] [] S F I := by
  unfold V_X9_init_270 at h
  refine J_aload_n C dX9_init_270 rfl rfl ?_
  refine J_bipush C dX9_init_271 (by decide +kernel) (rg_of (by decide)) ?_
  obtain ⟨ha3, hb4, h⟩ := h
  refine J_newI C (n := 6) rfl wg_145 dX9_init_273 (by decide) ha3 hb4 (fun q1 hq2 => ?_)
  have h := h q1 hq2
  obtain ⟨hK5, h⟩ := h
  refine J_putR C fo_10_37 fp_10 rfl wg_1243 rfl (Or.inr ⟨M.2.2.2.1, rfl⟩) dX9_init_275 hK5 ?_
  exact S_X9_init_278 C M (by omega)  h
set_option maxRecDepth 20000 in
set_option maxHeartbeats 4000000 in
theorem S_X9_init_262 {G : Gp} {X : Xt} {d : Nat}  {x0 : Nat} {Q : Shp → Fl → Il → Prop} {S : Shp} {F : Fl} {I : Il} (C : CO G RX9 cX9_init 2 X) (M : MX d none "<init>" X) (hd : 2 ≤ d)  (h : V_X9_init_262 x0 S F I Q) : J G X (QD X G (qV fun S' F' I' => Q S' F' I') noX) 262 [vr (some x0), vl 0] [] S F I := by
  unfold V_X9_init_262 at h
  refine J_aload_n C dX9_init_262 rfl rfl ?_
  refine J_bipush C dX9_init_263 (by decide +kernel) (rg_of (by decide)) ?_
  obtain ⟨ha3, hb4, h⟩ := h
  refine J_newZ C (n := 6) rfl wg_1402 dX9_init_265 (by decide) ha3 hb4 (fun q1 hq2 => ?_)
  have h := h q1 hq2
  obtain ⟨hK5, h⟩ := h
  refine J_putR C fo_10_36 fp_10 rfl wg_1242 rfl (Or.inr ⟨M.2.2.2.1, rfl⟩) dX9_init_267 hK5 ?_
  exact S_X9_init_270 C M (by omega)  h
set_option maxRecDepth 20000 in
set_option maxHeartbeats 4000000 in
theorem S_X9_init_254 {G : Gp} {X : Xt} {d : Nat}  {x0 : Nat} {Q : Shp → Fl → Il → Prop} {S : Shp} {F : Fl} {I : Il} (C : CO G RX9 cX9_init 2 X) (M : MX d none "<init>" X) (hd : 2 ≤ d)  (h : V_X9_init_254 x0 S F I Q) : J G X (QD X G (qV fun S' F' I' => Q S' F' I') noX) 254 [vr (some x0), vl 0] [] S F I := by
  unfold V_X9_init_254 at h
  refine J_aload_n C dX9_init_254 rfl rfl ?_
  refine J_bipush C dX9_init_255 (by decide +kernel) (rg_of (by decide)) ?_
  obtain ⟨ha3, hb4, h⟩ := h
  refine J_newI C (n := 8) rfl wg_145 dX9_init_257 (by decide) ha3 hb4 (fun q1 hq2 => ?_)
  have h := h q1 hq2
  obtain ⟨hK5, h⟩ := h
  refine J_putR C fo_10_35 fp_10 rfl wg_1241 rfl (Or.inr ⟨M.2.2.2.1, rfl⟩) dX9_init_259 hK5 ?_
  exact S_X9_init_262 C M (by omega)  h
set_option maxRecDepth 20000 in
set_option maxHeartbeats 4000000 in
theorem S_X9_init_245 {G : Gp} {X : Xt} {d : Nat}  {x0 : Nat} {Q : Shp → Fl → Il → Prop} {S : Shp} {F : Fl} {I : Il} (C : CO G RX9 cX9_init 2 X) (M : MX d none "<init>" X) (hd : 2 ≤ d)  (h : V_X9_init_245 x0 S F I Q) : J G X (QD X G (qV fun S' F' I' => Q S' F' I') noX) 245 [vr (some x0), vl 0] [] S F I := by
  unfold V_X9_init_245 at h
  refine J_aload_n C dX9_init_245 rfl rfl ?_
  refine J_sipush C dX9_init_246 (by decide +kernel) (rg_of (by decide)) ?_
  obtain ⟨ha3, hb4, h⟩ := h
  refine J_newI C (n := 160) rfl wg_145 dX9_init_249 (by decide) ha3 hb4 (fun q1 hq2 => ?_)
  have h := h q1 hq2
  obtain ⟨hK5, h⟩ := h
  refine J_putR C fo_10_34 fp_10 rfl wg_1240 rfl (Or.inr ⟨M.2.2.2.1, rfl⟩) dX9_init_251 hK5 ?_
  exact S_X9_init_254 C M (by omega)  h
set_option maxRecDepth 20000 in
set_option maxHeartbeats 4000000 in
theorem S_X9_init_237 {G : Gp} {X : Xt} {d : Nat}  {x0 : Nat} {Q : Shp → Fl → Il → Prop} {S : Shp} {F : Fl} {I : Il} (C : CO G RX9 cX9_init 2 X) (M : MX d none "<init>" X) (hd : 2 ≤ d)  (h : V_X9_init_237 x0 S F I Q) : J G X (QD X G (qV fun S' F' I' => Q S' F' I') noX) 237 [vr (some x0), vl 0] [] S F I := by
  unfold V_X9_init_237 at h
  refine J_aload_n C dX9_init_237 rfl rfl ?_
  refine J_bipush C dX9_init_238 (by decide +kernel) (rg_of (by decide)) ?_
  obtain ⟨ha3, hb4, h⟩ := h
  refine J_newI C (n := 20) rfl wg_145 dX9_init_240 (by decide) ha3 hb4 (fun q1 hq2 => ?_)
  have h := h q1 hq2
  obtain ⟨hK5, h⟩ := h
  refine J_putR C fo_10_33 fp_10 rfl wg_1239 rfl (Or.inr ⟨M.2.2.2.1, rfl⟩) dX9_init_242 hK5 ?_
  exact S_X9_init_245 C M (by omega)  h
set_option maxRecDepth 20000 in
set_option maxHeartbeats 4000000 in
theorem S_X9_init_229 {G : Gp} {X : Xt} {d : Nat}  {x0 : Nat} {Q : Shp → Fl → Il → Prop} {S : Shp} {F : Fl} {I : Il} (C : CO G RX9 cX9_init 2 X) (M : MX d none "<init>" X) (hd : 2 ≤ d)  (h : V_X9_init_229 x0 S F I Q) : J G X (QD X G (qV fun S' F' I' => Q S' F' I') noX) 229 [vr (some x0), vl 0] [] S F I := by
  unfold V_X9_init_229 at h
  refine J_aload_n C dX9_init_229 rfl rfl ?_
  refine J_bipush C dX9_init_230 (by decide +kernel) (rg_of (by decide)) ?_
  obtain ⟨ha3, hb4, h⟩ := h
  refine J_newI C (n := 20) rfl wg_145 dX9_init_232 (by decide) ha3 hb4 (fun q1 hq2 => ?_)
  have h := h q1 hq2
  obtain ⟨hK5, h⟩ := h
  refine J_putR C fo_10_32 fp_10 rfl wg_1238 rfl (Or.inr ⟨M.2.2.2.1, rfl⟩) dX9_init_234 hK5 ?_
  exact S_X9_init_237 C M (by omega)  h
set_option maxRecDepth 20000 in
set_option maxHeartbeats 4000000 in
theorem S_X9_init_221 {G : Gp} {X : Xt} {d : Nat}  {x0 : Nat} {Q : Shp → Fl → Il → Prop} {S : Shp} {F : Fl} {I : Il} (C : CO G RX9 cX9_init 2 X) (M : MX d none "<init>" X) (hd : 2 ≤ d)  (h : V_X9_init_221 x0 S F I Q) : J G X (QD X G (qV fun S' F' I' => Q S' F' I') noX) 221 [vr (some x0), vl 0] [] S F I := by
  unfold V_X9_init_221 at h
  refine J_aload_n C dX9_init_221 rfl rfl ?_
  refine J_bipush C dX9_init_222 (by decide +kernel) (rg_of (by decide)) ?_
  obtain ⟨ha3, hb4, h⟩ := h
  refine J_newI C (n := 20) rfl wg_145 dX9_init_224 (by decide) ha3 hb4 (fun q1 hq2 => ?_)
  have h := h q1 hq2
  obtain ⟨hK5, h⟩ := h
  refine J_putR C fo_10_31 fp_10 rfl wg_1237 rfl (Or.inr ⟨M.2.2.2.1, rfl⟩) dX9_init_226 hK5 ?_
  exact S_X9_init_229 C M (by omega)  h
set_option maxRecDepth 20000 in
set_option maxHeartbeats 4000000 in
theorem S_X9_init_213 {G : Gp} {X : Xt} {d : Nat}  {x0 : Nat} {Q : Shp → Fl → Il → Prop} {S : Shp} {F : Fl} {I : Il} (C : CO G RX9 cX9_init 2 X) (M : MX d none "<init>" X) (hd : 2 ≤ d)  (h : V_X9_init_213 x0 S F I Q) : J G X (QD X G (qV fun S' F' I' => Q S' F' I') noX) 213 [vr (some x0), vl 0] [] S F I := by
  unfold V_X9_init_213 at h
  refine J_aload_n C dX9_init_213 rfl rfl ?_
  refine J_bipush C dX9_init_214 (by decide +kernel) (rg_of (by decide)) ?_
  obtain ⟨ha3, hb4, h⟩ := h
  refine J_newI C (n := 20) rfl wg_145 dX9_init_216 (by decide) ha3 hb4 (fun q1 hq2 => ?_)
  have h := h q1 hq2
  obtain ⟨hK5, h⟩ := h
  refine J_putR C fo_10_30 fp_10 rfl wg_1236 rfl (Or.inr ⟨M.2.2.2.1, rfl⟩) dX9_init_218 hK5 ?_
  exact S_X9_init_221 C M (by omega)  h
set_option maxRecDepth 20000 in
set_option maxHeartbeats 4000000 in
theorem S_X9_init_205 {G : Gp} {X : Xt} {d : Nat}  {x0 : Nat} {Q : Shp → Fl → Il → Prop} {S : Shp} {F : Fl} {I : Il} (C : CO G RX9 cX9_init 2 X) (M : MX d none "<init>" X) (hd : 2 ≤ d)  (h : V_X9_init_205 x0 S F I Q) : J G X (QD X G (qV fun S' F' I' => Q S' F' I') noX) 205 [vr (some x0), vl 0] [] S F I := by
  unfold V_X9_init_205 at h
  refine J_aload_n C dX9_init_205 rfl rfl ?_
  refine J_bipush C dX9_init_206 (by decide +kernel) (rg_of (by decide)) ?_
  obtain ⟨ha3, hb4, h⟩ := h
  refine J_newZ C (n := 96) rfl wg_1402 dX9_init_208 (by decide) ha3 hb4 (fun q1 hq2 => ?_)
  have h := h q1 hq2
  obtain ⟨hK5, h⟩ := h
  refine J_putR C fo_10_28 fp_10 rfl wg_1234 rfl (Or.inr ⟨M.2.2.2.1, rfl⟩) dX9_init_210 hK5 ?_
  exact S_X9_init_213 C M (by omega)  h
set_option maxRecDepth 20000 in
set_option maxHeartbeats 4000000 in
theorem S_X9_init_197 {G : Gp} {X : Xt} {d : Nat}  {x0 : Nat} {Q : Shp → Fl → Il → Prop} {S : Shp} {F : Fl} {I : Il} (C : CO G RX9 cX9_init 2 X) (M : MX d none "<init>" X) (hd : 2 ≤ d)  (h : V_X9_init_197 x0 S F I Q) : J G X (QD X G (qV fun S' F' I' => Q S' F' I') noX) 197 [vr (some x0), vl 0] [] S F I := by
  unfold V_X9_init_197 at h
  refine J_aload_n C dX9_init_197 rfl rfl ?_
  refine J_bipush C dX9_init_198 (by decide +kernel) (rg_of (by decide)) ?_
  obtain ⟨ha3, hb4, h⟩ := h
  refine J_newI C (n := 6) rfl wg_145 dX9_init_200 (by decide) ha3 hb4 (fun q1 hq2 => ?_)
  have h := h q1 hq2
  obtain ⟨hK5, h⟩ := h
  refine J_putR C fo_10_27 fp_10 rfl wg_1233 rfl (Or.inr ⟨M.2.2.2.1, rfl⟩) dX9_init_202 hK5 ?_
  exact S_X9_init_205 C M (by omega)  h
set_option maxRecDepth 20000 in
set_option maxHeartbeats 4000000 in
theorem S_X9_init_189 {G : Gp} {X : Xt} {d : Nat}  {x0 : Nat} {Q : Shp → Fl → Il → Prop} {S : Shp} {F : Fl} {I : Il} (C : CO G RX9 cX9_init 2 X) (M : MX d none "<init>" X) (hd : 2 ≤ d)  (h : V_X9_init_189 x0 S F I Q) : J G X (QD X G (qV fun S' F' I' => Q S' F' I') noX) 189 [vr (some x0), vl 0] [] S F I := by
  unfold V_X9_init_189 at h
  refine J_aload_n C dX9_init_189 rfl rfl ?_
  refine J_bipush C dX9_init_190 (by decide +kernel) (rg_of (by decide)) ?_
  obtain ⟨ha3, hb4, h⟩ := h
  refine J_newI C (n := 6) rfl wg_145 dX9_init_192 (by decide) ha3 hb4 (fun q1 hq2 => ?_)
  have h := h q1 hq2
  obtain ⟨hK5, h⟩ := h
  refine J_putR C fo_10_26 fp_10 rfl wg_1232 rfl (Or.inr ⟨M.2.2.2.1, rfl⟩) dX9_init_194 hK5 ?_
  exact S_X9_init_197 C M (by omega)  h
set_option maxRecDepth 20000 in
set_option maxHeartbeats 4000000 in
theorem S_X9_init_181 {G : Gp} {X : Xt} {d : Nat}  {x0 : Nat} {Q : Shp → Fl → Il → Prop} {S : Shp} {F : Fl} {I : Il} (C : CO G RX9 cX9_init 2 X) (M : MX d none "<init>" X) (hd : 2 ≤ d)  (h : V_X9_init_181 x0 S F I Q) : J G X (QD X G (qV fun S' F' I' => Q S' F' I') noX) 181 [vr (some x0), vl 0] [] S F I := by
  unfold V_X9_init_181 at h
  refine J_aload_n C dX9_init_181 rfl rfl ?_
  refine J_bipush C dX9_init_182 (by decide +kernel) (rg_of (by decide)) ?_
  obtain ⟨ha3, hb4, h⟩ := h
  refine J_newI C (n := 6) rfl wg_145 dX9_init_184 (by decide) ha3 hb4 (fun q1 hq2 => ?_)
  have h := h q1 hq2
  obtain ⟨hK5, h⟩ := h
  refine J_putR C fo_10_25 fp_10 rfl wg_1231 rfl (Or.inr ⟨M.2.2.2.1, rfl⟩) dX9_init_186 hK5 ?_
  exact S_X9_init_189 C M (by omega)  h
set_option maxRecDepth 20000 in
set_option maxHeartbeats 4000000 in
theorem S_X9_init_173 {G : Gp} {X : Xt} {d : Nat}  {x0 : Nat} {Q : Shp → Fl → Il → Prop} {S : Shp} {F : Fl} {I : Il} (C : CO G RX9 cX9_init 2 X) (M : MX d none "<init>" X) (hd : 2 ≤ d)  (h : V_X9_init_173 x0 S F I Q) : J G X (QD X G (qV fun S' F' I' => Q S' F' I') noX) 173 [vr (some x0), vl 0] [] S F I := by
  unfold V_X9_init_173 at h
  refine J_aload_n C dX9_init_173 rfl rfl ?_
  refine J_bipush C dX9_init_174 (by decide +kernel) (rg_of (by decide)) ?_
  obtain ⟨ha3, hb4, h⟩ := h
  refine J_newI C (n := 6) rfl wg_145 dX9_init_176 (by decide) ha3 hb4 (fun q1 hq2 => ?_)
  have h := h q1 hq2
  obtain ⟨hK5, h⟩ := h
  refine J_putR C fo_10_24 fp_10 rfl wg_1230 rfl (Or.inr ⟨M.2.2.2.1, rfl⟩) dX9_init_178 hK5 ?_
  exact S_X9_init_181 C M (by omega)  h
set_option maxRecDepth 20000 in
set_option maxHeartbeats 4000000 in
theorem S_X9_init_165 {G : Gp} {X : Xt} {d : Nat}  {x0 : Nat} {Q : Shp → Fl → Il → Prop} {S : Shp} {F : Fl} {I : Il} (C : CO G RX9 cX9_init 2 X) (M : MX d none "<init>" X) (hd : 2 ≤ d)  (h : V_X9_init_165 x0 S F I Q) : J G X (QD X G (qV fun S' F' I' => Q S' F' I') noX) 165 [vr (some x0), vl 0] [] S F I := by
  unfold V_X9_init_165 at h
  refine J_aload_n C dX9_init_165 rfl rfl ?_
  refine J_bipush C dX9_init_166 (by decide +kernel) (rg_of (by decide)) ?_
  obtain ⟨ha3, hb4, h⟩ := h
  refine J_newI C (n := 6) rfl wg_145 dX9_init_168 (by decide) ha3 hb4 (fun q1 hq2 => ?_)
  have h := h q1 hq2
  obtain ⟨hK5, h⟩ := h
  refine J_putR C fo_10_22 fp_10 rfl wg_1228 rfl (Or.inr ⟨M.2.2.2.1, rfl⟩) dX9_init_170 hK5 ?_
  exact S_X9_init_173 C M (by omega)  h
set_option maxRecDepth 20000 in
set_option maxHeartbeats 4000000 in
theorem S_X9_init_157 {G : Gp} {X : Xt} {d : Nat}  {x0 : Nat} {Q : Shp → Fl → Il → Prop} {S : Shp} {F : Fl} {I : Il} (C : CO G RX9 cX9_init 2 X) (M : MX d none "<init>" X) (hd : 2 ≤ d)  (h : V_X9_init_157 x0 S F I Q) : J G X (QD X G (qV fun S' F' I' => Q S' F' I') noX) 157 [vr (some x0), vl 0] [] S F I := by
  unfold V_X9_init_157 at h
  refine J_aload_n C dX9_init_157 rfl rfl ?_
  refine J_bipush C dX9_init_158 (by decide +kernel) (rg_of (by decide)) ?_
  obtain ⟨ha3, hb4, h⟩ := h
  refine J_newI C (n := 6) rfl wg_145 dX9_init_160 (by decide) ha3 hb4 (fun q1 hq2 => ?_)
  have h := h q1 hq2
  obtain ⟨hK5, h⟩ := h
  refine J_putR C fo_10_21 fp_10 rfl wg_1227 rfl (Or.inr ⟨M.2.2.2.1, rfl⟩) dX9_init_162 hK5 ?_
  exact S_X9_init_165 C M (by omega)  h
set_option maxRecDepth 20000 in
set_option maxHeartbeats 4000000 in
theorem S_X9_init_149 {G : Gp} {X : Xt} {d : Nat}  {x0 : Nat} {Q : Shp → Fl → Il → Prop} {S : Shp} {F : Fl} {I : Il} (C : CO G RX9 cX9_init 2 X) (M : MX d none "<init>" X) (hd : 2 ≤ d)  (h : V_X9_init_149 x0 S F I Q) : J G X (QD X G (qV fun S' F' I' => Q S' F' I') noX) 149 [vr (some x0), vl 0] [] S F I := by
  unfold V_X9_init_149 at h
  refine J_aload_n C dX9_init_149 rfl rfl ?_
  refine J_bipush C dX9_init_150 (by decide +kernel) (rg_of (by decide)) ?_
  obtain ⟨ha3, hb4, h⟩ := h
  refine J_newI C (n := 6) rfl wg_145 dX9_init_152 (by decide) ha3 hb4 (fun q1 hq2 => ?_)
  have h := h q1 hq2
  obtain ⟨hK5, h⟩ := h
  refine J_putR C fo_10_20 fp_10 rfl wg_1226 rfl (Or.inr ⟨M.2.2.2.1, rfl⟩) dX9_init_154 hK5 ?_
  exact S_X9_init_157 C M (by omega)  h
set_option maxRecDepth 20000 in
set_option maxHeartbeats 4000000 in
theorem S_X9_init_141 {G : Gp} {X : Xt} {d : Nat}  {x0 : Nat} {Q : Shp → Fl → Il → Prop} {S : Shp} {F : Fl} {I : Il} (C : CO G RX9 cX9_init 2 X) (M : MX d none "<init>" X) (hd : 2 ≤ d)  (h : V_X9_init_141 x0 S F I Q) : J G X (QD X G (qV fun S' F' I' => Q S' F' I') noX) 141 [vr (some x0), vl 0] [] S F I := by
  unfold V_X9_init_141 at h
  refine J_aload_n C dX9_init_141 rfl rfl ?_
  refine J_bipush C dX9_init_142 (by decide +kernel) (rg_of (by decide)) ?_
  obtain ⟨ha3, hb4, h⟩ := h
  refine J_newI C (n := 16) rfl wg_145 dX9_init_144 (by decide) ha3 hb4 (fun q1 hq2 => ?_)
  have h := h q1 hq2
  obtain ⟨hK5, h⟩ := h
  refine J_putR C fo_10_18 fp_10 rfl wg_1224 rfl (Or.inr ⟨M.2.2.2.1, rfl⟩) dX9_init_146 hK5 ?_
  exact S_X9_init_149 C M (by omega)  h
set_option maxRecDepth 20000 in
set_option maxHeartbeats 4000000 in
theorem S_X9_init_133 {G : Gp} {X : Xt} {d : Nat}  {x0 : Nat} {Q : Shp → Fl → Il → Prop} {S : Shp} {F : Fl} {I : Il} (C : CO G RX9 cX9_init 2 X) (M : MX d none "<init>" X) (hd : 2 ≤ d)  (h : V_X9_init_133 x0 S F I Q) : J G X (QD X G (qV fun S' F' I' => Q S' F' I') noX) 133 [vr (some x0), vl 0] [] S F I := by
  unfold V_X9_init_133 at h
  refine J_aload_n C dX9_init_133 rfl rfl ?_
  refine J_bipush C dX9_init_134 (by decide +kernel) (rg_of (by decide)) ?_
  obtain ⟨ha3, hb4, h⟩ := h
  refine J_newI C (n := 16) rfl wg_145 dX9_init_136 (by decide) ha3 hb4 (fun q1 hq2 => ?_)
  have h := h q1 hq2
  obtain ⟨hK5, h⟩ := h
  refine J_putR C fo_10_17 fp_10 rfl wg_1223 rfl (Or.inr ⟨M.2.2.2.1, rfl⟩) dX9_init_138 hK5 ?_
  exact S_X9_init_141 C M (by omega)  h
set_option maxRecDepth 20000 in
set_option maxHeartbeats 4000000 in
theorem S_X9_init_125 {G : Gp} {X : Xt} {d : Nat}  {x0 : Nat} {Q : Shp → Fl → Il → Prop} {S : Shp} {F : Fl} {I : Il} (C : CO G RX9 cX9_init 2 X) (M : MX d none "<init>" X) (hd : 2 ≤ d)  (h : V_X9_init_125 x0 S F I Q) : J G X (QD X G (qV fun S' F' I' => Q S' F' I') noX) 125 [vr (some x0), vl 0] [] S F I := by
  unfold V_X9_init_125 at h
  refine J_aload_n C dX9_init_125 rfl rfl ?_
  refine J_bipush C dX9_init_126 (by decide +kernel) (rg_of (by decide)) ?_
  obtain ⟨ha3, hb4, h⟩ := h
  refine J_newI C (n := 16) rfl wg_145 dX9_init_128 (by decide) ha3 hb4 (fun q1 hq2 => ?_)
  have h := h q1 hq2
  obtain ⟨hK5, h⟩ := h
  refine J_putR C fo_10_16 fp_10 rfl wg_1222 rfl (Or.inr ⟨M.2.2.2.1, rfl⟩) dX9_init_130 hK5 ?_
  exact S_X9_init_133 C M (by omega)  h
set_option maxRecDepth 20000 in
set_option maxHeartbeats 4000000 in
theorem S_X9_init_117 {G : Gp} {X : Xt} {d : Nat}  {x0 : Nat} {Q : Shp → Fl → Il → Prop} {S : Shp} {F : Fl} {I : Il} (C : CO G RX9 cX9_init 2 X) (M : MX d none "<init>" X) (hd : 2 ≤ d)  (h : V_X9_init_117 x0 S F I Q) : J G X (QD X G (qV fun S' F' I' => Q S' F' I') noX) 117 [vr (some x0), vl 0] [] S F I := by
  unfold V_X9_init_117 at h
  refine J_aload_n C dX9_init_117 rfl rfl ?_
  refine J_bipush C dX9_init_118 (by decide +kernel) (rg_of (by decide)) ?_
  obtain ⟨ha3, hb4, h⟩ := h
  refine J_newI C (n := 16) rfl wg_145 dX9_init_120 (by decide) ha3 hb4 (fun q1 hq2 => ?_)
  have h := h q1 hq2
  obtain ⟨hK5, h⟩ := h
  refine J_putR C fo_10_15 fp_10 rfl wg_1221 rfl (Or.inr ⟨M.2.2.2.1, rfl⟩) dX9_init_122 hK5 ?_
  exact S_X9_init_125 C M (by omega)  h
set_option maxRecDepth 20000 in
set_option maxHeartbeats 4000000 in
theorem S_X9_init_109 {G : Gp} {X : Xt} {d : Nat}  {x0 : Nat} {Q : Shp → Fl → Il → Prop} {S : Shp} {F : Fl} {I : Il} (C : CO G RX9 cX9_init 2 X) (M : MX d none "<init>" X) (hd : 2 ≤ d)  (h : V_X9_init_109 x0 S F I Q) : J G X (QD X G (qV fun S' F' I' => Q S' F' I') noX) 109 [vr (some x0), vl 0] [] S F I := by
  unfold V_X9_init_109 at h
  refine J_aload_n C dX9_init_109 rfl rfl ?_
  refine J_bipush C dX9_init_110 (by decide +kernel) (rg_of (by decide)) ?_
  obtain ⟨ha3, hb4, h⟩ := h
  refine J_newZ C (n := 16) rfl wg_1402 dX9_init_112 (by decide) ha3 hb4 (fun q1 hq2 => ?_)
  have h := h q1 hq2
  obtain ⟨hK5, h⟩ := h
  refine J_putR C fo_10_14 fp_10 rfl wg_1220 rfl (Or.inr ⟨M.2.2.2.1, rfl⟩) dX9_init_114 hK5 ?_
  exact S_X9_init_117 C M (by omega)  h
set_option maxRecDepth 20000 in
set_option maxHeartbeats 4000000 in
theorem S_X9_init_101 {G : Gp} {X : Xt} {d : Nat}  {x0 : Nat} {Q : Shp → Fl → Il → Prop} {S : Shp} {F : Fl} {I : Il} (C : CO G RX9 cX9_init 2 X) (M : MX d none "<init>" X) (hd : 2 ≤ d)  (h : V_X9_init_101 x0 S F I Q) : J G X (QD X G (qV fun S' F' I' => Q S' F' I') noX) 101 [vr (some x0), vl 0] [] S F I := by
  unfold V_X9_init_101 at h
  refine J_aload_n C dX9_init_101 rfl rfl ?_
  refine J_bipush C dX9_init_102 (by decide +kernel) (rg_of (by decide)) ?_
  obtain ⟨ha3, hb4, h⟩ := h
  refine J_newZ C (n := 16) rfl wg_1402 dX9_init_104 (by decide) ha3 hb4 (fun q1 hq2 => ?_)
  have h := h q1 hq2
  obtain ⟨hK5, h⟩ := h
  refine J_putR C fo_10_13 fp_10 rfl wg_1219 rfl (Or.inr ⟨M.2.2.2.1, rfl⟩) dX9_init_106 hK5 ?_
  exact S_X9_init_109 C M (by omega)  h
set_option maxRecDepth 20000 in
set_option maxHeartbeats 4000000 in
theorem S_X9_init_93 {G : Gp} {X : Xt} {d : Nat}  {x0 : Nat} {Q : Shp → Fl → Il → Prop} {S : Shp} {F : Fl} {I : Il} (C : CO G RX9 cX9_init 2 X) (M : MX d none "<init>" X) (hd : 2 ≤ d)  (h : V_X9_init_93 x0 S F I Q) : J G X (QD X G (qV fun S' F' I' => Q S' F' I') noX) 93 [vr (some x0), vl 0] [] S F I := by
  unfold V_X9_init_93 at h
  refine J_aload_n C dX9_init_93 rfl rfl ?_
  refine J_bipush C dX9_init_94 (by decide +kernel) (rg_of (by decide)) ?_
  obtain ⟨ha3, hb4, h⟩ := h
  refine J_newZ C (n := 16) rfl wg_1402 dX9_init_96 (by decide) ha3 hb4 (fun q1 hq2 => ?_)
  have h := h q1 hq2
  obtain ⟨hK5, h⟩ := h
  refine J_putR C fo_10_12 fp_10 rfl wg_1218 rfl (Or.inr ⟨M.2.2.2.1, rfl⟩) dX9_init_98 hK5 ?_
  exact S_X9_init_101 C M (by omega)  h
set_option maxRecDepth 20000 in
set_option maxHeartbeats 4000000 in
theorem S_X9_init_85 {G : Gp} {X : Xt} {d : Nat}  {x0 : Nat} {Q : Shp → Fl → Il → Prop} {S : Shp} {F : Fl} {I : Il} (C : CO G RX9 cX9_init 2 X) (M : MX d none "<init>" X) (hd : 2 ≤ d)  (h : V_X9_init_85 x0 S F I Q) : J G X (QD X G (qV fun S' F' I' => Q S' F' I') noX) 85 [vr (some x0), vl 0] [] S F I := by
  unfold V_X9_init_85 at h
  refine J_aload_n C dX9_init_85 rfl rfl ?_
  refine J_bipush C dX9_init_86 (by decide +kernel) (rg_of (by decide)) ?_
  obtain ⟨ha3, hb4, h⟩ := h
  refine J_newI C (n := 16) rfl wg_145 dX9_init_88 (by decide) ha3 hb4 (fun q1 hq2 => ?_)
  have h := h q1 hq2
  obtain ⟨hK5, h⟩ := h
  refine J_putR C fo_10_11 fp_10 rfl wg_1217 rfl (Or.inr ⟨M.2.2.2.1, rfl⟩) dX9_init_90 hK5 ?_
  exact S_X9_init_93 C M (by omega)  h
set_option maxRecDepth 20000 in
set_option maxHeartbeats 4000000 in
theorem S_X9_init_77 {G : Gp} {X : Xt} {d : Nat}  {x0 : Nat} {Q : Shp → Fl → Il → Prop} {S : Shp} {F : Fl} {I : Il} (C : CO G RX9 cX9_init 2 X) (M : MX d none "<init>" X) (hd : 2 ≤ d)  (h : V_X9_init_77 x0 S F I Q) : J G X (QD X G (qV fun S' F' I' => Q S' F' I') noX) 77 [vr (some x0), vl 0] [] S F I := by
  unfold V_X9_init_77 at h
  refine J_aload_n C dX9_init_77 rfl rfl ?_
  refine J_bipush C dX9_init_78 (by decide +kernel) (rg_of (by decide)) ?_
  obtain ⟨ha3, hb4, h⟩ := h
  refine J_newI C (n := 16) rfl wg_145 dX9_init_80 (by decide) ha3 hb4 (fun q1 hq2 => ?_)
  have h := h q1 hq2
  obtain ⟨hK5, h⟩ := h
  refine J_putR C fo_10_10 fp_10 rfl wg_1216 rfl (Or.inr ⟨M.2.2.2.1, rfl⟩) dX9_init_82 hK5 ?_
  exact S_X9_init_85 C M (by omega)  h
set_option maxRecDepth 20000 in
set_option maxHeartbeats 4000000 in
theorem S_X9_init_69 {G : Gp} {X : Xt} {d : Nat}  {x0 : Nat} {Q : Shp → Fl → Il → Prop} {S : Shp} {F : Fl} {I : Il} (C : CO G RX9 cX9_init 2 X) (M : MX d none "<init>" X) (hd : 2 ≤ d)  (h : V_X9_init_69 x0 S F I Q) : J G X (QD X G (qV fun S' F' I' => Q S' F' I') noX) 69 [vr (some x0), vl 0] [] S F I := by
  unfold V_X9_init_69 at h
  refine J_aload_n C dX9_init_69 rfl rfl ?_
  refine J_bipush C dX9_init_70 (by decide +kernel) (rg_of (by decide)) ?_
  obtain ⟨ha3, hb4, h⟩ := h
  refine J_newI C (n := 16) rfl wg_145 dX9_init_72 (by decide) ha3 hb4 (fun q1 hq2 => ?_)
  have h := h q1 hq2
  obtain ⟨hK5, h⟩ := h
  refine J_putR C fo_10_9 fp_10 rfl wg_1215 rfl (Or.inr ⟨M.2.2.2.1, rfl⟩) dX9_init_74 hK5 ?_
  exact S_X9_init_77 C M (by omega)  h
set_option maxRecDepth 20000 in
set_option maxHeartbeats 4000000 in
theorem S_X9_init_61 {G : Gp} {X : Xt} {d : Nat}  {x0 : Nat} {Q : Shp → Fl → Il → Prop} {S : Shp} {F : Fl} {I : Il} (C : CO G RX9 cX9_init 2 X) (M : MX d none "<init>" X) (hd : 2 ≤ d)  (h : V_X9_init_61 x0 S F I Q) : J G X (QD X G (qV fun S' F' I' => Q S' F' I') noX) 61 [vr (some x0), vl 0] [] S F I := by
  unfold V_X9_init_61 at h
  refine J_aload_n C dX9_init_61 rfl rfl ?_
  refine J_bipush C dX9_init_62 (by decide +kernel) (rg_of (by decide)) ?_
  obtain ⟨ha3, hb4, h⟩ := h
  refine J_newI C (n := 16) rfl wg_145 dX9_init_64 (by decide) ha3 hb4 (fun q1 hq2 => ?_)
  have h := h q1 hq2
  obtain ⟨hK5, h⟩ := h
  refine J_putR C fo_10_8 fp_10 rfl wg_1214 rfl (Or.inr ⟨M.2.2.2.1, rfl⟩) dX9_init_66 hK5 ?_
  exact S_X9_init_69 C M (by omega)  h
set_option maxRecDepth 20000 in
set_option maxHeartbeats 4000000 in
theorem S_X9_init_53 {G : Gp} {X : Xt} {d : Nat}  {x0 : Nat} {Q : Shp → Fl → Il → Prop} {S : Shp} {F : Fl} {I : Il} (C : CO G RX9 cX9_init 2 X) (M : MX d none "<init>" X) (hd : 2 ≤ d)  (h : V_X9_init_53 x0 S F I Q) : J G X (QD X G (qV fun S' F' I' => Q S' F' I') noX) 53 [vr (some x0), vl 0] [] S F I := by
  unfold V_X9_init_53 at h
  refine J_aload_n C dX9_init_53 rfl rfl ?_
  refine J_bipush C dX9_init_54 (by decide +kernel) (rg_of (by decide)) ?_
  obtain ⟨ha3, hb4, h⟩ := h
  refine J_newI C (n := 32) rfl wg_145 dX9_init_56 (by decide) ha3 hb4 (fun q1 hq2 => ?_)
  have h := h q1 hq2
  obtain ⟨hK5, h⟩ := h
  refine J_putR C fo_10_7 fp_10 rfl wg_1213 rfl (Or.inr ⟨M.2.2.2.1, rfl⟩) dX9_init_58 hK5 ?_
  exact S_X9_init_61 C M (by omega)  h
set_option maxRecDepth 20000 in
set_option maxHeartbeats 4000000 in
theorem S_X9_init_11 {G : Gp} {X : Xt} {d : Nat}  {x0 : Nat} {Q : Shp → Fl → Il → Prop} {S : Shp} {F : Fl} {I : Il} (C : CO G RX9 cX9_init 2 X) (M : MX d none "<init>" X) (hd : 2 ≤ d)  (h : V_X9_init_11 x0 S F I Q) : J G X (QD X G (qV fun S' F' I' => Q S' F' I') noX) 11 [vr (some x0), vl 0] [] S F I := by
  unfold V_X9_init_11 at h
  refine J_aload_n C dX9_init_11 rfl rfl ?_
  refine J_bipush C dX9_init_12 (by decide +kernel) (rg_of (by decide)) ?_
  obtain ⟨ha3, hb4, h⟩ := h
  refine J_newI C (n := 8) rfl wg_145 dX9_init_14 (by decide) ha3 hb4 (fun q1 hq2 => ?_)
  have h := h q1 hq2
  refine J_dup C dX9_init_16 trivial ?_
  refine J_iconst C dX9_init_17 (rg_of (by decide)) ?_
  refine J_iconst C dX9_init_18 (rg_of (by decide)) ?_
  obtain ⟨hK5, h⟩ := h
  obtain ⟨h06, hn7, h⟩ := h
  refine J_iast C dX9_init_19 hK5 h06 hn7 ?_
  refine J_dup C dX9_init_20 trivial ?_
  refine J_iconst C dX9_init_21 (rg_of (by decide)) ?_
  refine J_iconst C dX9_init_22 (rg_of (by decide)) ?_
  obtain ⟨h08, hn9, h⟩ := h
  refine J_iast C dX9_init_23 hK5 h08 hn9 ?_
  refine J_dup C dX9_init_24 trivial ?_
  refine J_iconst C dX9_init_25 (rg_of (by decide)) ?_
  refine J_iconst C dX9_init_26 (rg_of (by decide)) ?_
  obtain ⟨h010, hn11, h⟩ := h
  refine J_iast C dX9_init_27 hK5 h010 hn11 ?_
  refine J_dup C dX9_init_28 trivial ?_
  refine J_iconst C dX9_init_29 (rg_of (by decide)) ?_
  refine J_iconst C dX9_init_30 (rg_of (by decide)) ?_
  obtain ⟨h012, hn13, h⟩ := h
  refine J_iast C dX9_init_31 hK5 h012 hn13 ?_
  refine J_dup C dX9_init_32 trivial ?_
  refine J_iconst C dX9_init_33 (rg_of (by decide)) ?_
  refine J_iconst C dX9_init_34 (rg_of (by decide)) ?_
  obtain ⟨h014, hn15, h⟩ := h
  refine J_iast C dX9_init_35 hK5 h014 hn15 ?_
  refine J_dup C dX9_init_36 trivial ?_
  refine J_iconst C dX9_init_37 (rg_of (by decide)) ?_
  refine J_iconst C dX9_init_38 (rg_of (by decide)) ?_
  obtain ⟨h016, hn17, h⟩ := h
  refine J_iast C dX9_init_39 hK5 h016 hn17 ?_
  refine J_dup C dX9_init_40 trivial ?_
  refine J_bipush C dX9_init_41 (by decide +kernel) (rg_of (by decide)) ?_
  refine J_iconst C dX9_init_43 (rg_of (by decide)) ?_
  obtain ⟨h018, hn19, h⟩ := h
  refine J_iast C dX9_init_44 hK5 h018 hn19 ?_
  refine J_dup C dX9_init_45 trivial ?_
  refine J_bipush C dX9_init_46 (by decide +kernel) (rg_of (by decide)) ?_
  refine J_iconst C dX9_init_48 (rg_of (by decide)) ?_
  obtain ⟨h020, hn21, h⟩ := h
  refine J_iast C dX9_init_49 hK5 h020 hn21 ?_
  obtain ⟨hK22, h⟩ := h
  refine J_putR C fo_10_5 fp_10 rfl wg_1211 rfl (Or.inr ⟨M.2.2.2.1, rfl⟩) dX9_init_50 hK22 ?_
  exact S_X9_init_53 C M (by omega)  h
set_option maxRecDepth 20000 in
set_option maxHeartbeats 4000000 in
theorem S_X9_init {G : Gp} {X : Xt} {d : Nat}  {x0 : Nat} {Q : Shp → Fl → Il → Prop} {S : Shp} {F : Fl} {I : Il} (C : CO G RX9 cX9_init 2 X) (M : MX d none "<init>" X) (hd : 2 ≤ d)  (h : V_X9_init x0 S F I Q) : J G X (QD X G (qV fun S' F' I' => Q S' F' I') noX) 0 [vr (some x0), vl 0] [] S F I := by
  unfold V_X9_init at h
  obtain ⟨d, rfl⟩ : ∃ d9, d = d9 + 1 := ⟨d - 1, by omega⟩
  refine J_aload_n C dX9_init_0 rfl rfl ?_
  refine K_objInit C M wg_1205 wg_98 wg_99 rfl dX9_init_1 (Nat.le_of_ble_eq_true rfl) ?_
  refine J_aload_n C dX9_init_4 rfl rfl ?_
  refine J_sipush C dX9_init_5 (by decide +kernel) (rg_of (by decide)) ?_
  obtain ⟨hK1, h⟩ := h
  refine J_putI C fo_10_2 fp_10 fl_RX9_7 (Or.inl rfl) (Or.inl rfl) dX9_init_8 hK1 ?_
  exact S_X9_init_11 C M (by omega)  h
theorem c_X9_init {l : Launch} {G : Gp} {d : Nat} {x0 : Nat} {S : Shp} {F : Fl} {I : Il} {Q : Shp → Fl → Il → Prop} (hl : l.stackTraces = false) (hd : 2 ≤ d) (h : V_X9_init x0 S F I Q) : CM l G d yX9_init (.code yX9_init cX9_init 2 none) [vr (some x0)] S F I (qV fun S' F' I' => Q S' F' I') noX :=
  CM_ofM [vr (some x0), vl 0] hl (by decide +kernel) (kn1 trivial kn0) (Nat.le_of_ble_eq_true rfl) rfl (fun X hX C M => S_X9_init C M hd h)
set_option maxRecDepth 20000 in
set_option maxHeartbeats 4000000 in
theorem S_X9_lay_62 {G : Gp} {X : Xt} {d : Nat}  {x0 : Nat} {x1 : Int} {x2 : Int} {x3 : Int} {x4 : Int} {s0 : Int} {s1 : Nat} {Q : Int → Fl → Il → Prop} {S : Shp} {F : Fl} {I : Il} (C : CO G RX9 cX9_lay 5 X) (M : MX d (some .int) "lay" X) (hd : 3 ≤ d)  (h : V_X9_lay_62 x0 x1 x2 x3 x4 s0 s1 S F I Q) : J G X (QD X G (qI fun z S' F' I' => S = S' ∧ Q z F' I') noX) 62 [vr (some x0), vi x1, vi x2, vi x3, vi x4] [vi s0, vr (some s1)] S F I := by
  unfold V_X9_lay_62 at h
  obtain ⟨hK1, h⟩ := h
  refine J_putI C fo_10_0 fp_10 fl_RX9_174 (Or.inl rfl) (Or.inl rfl) dX9_lay_62 hK1 ?_
  refine J_aload_n C dX9_lay_65 rfl rfl ?_
  obtain ⟨hK2, h⟩ := h
  refine J_getI C fo_10_0 rfl fl_RX9_174 dX9_lay_66 hK2 ?_
  refine J_if_le C dX9_lay_69 (tgt := 74) rfl (fun c69 => ?_) (fun c69 => ?_)
  · have h := h.1 c69
    refine J_aload_n C dX9_lay_74 rfl rfl ?_
    obtain ⟨r3, hr4, h⟩ := h
    refine J_getR C fo_10_7 rfl fl_RX9_17 dX9_lay_75 hK2 hr4 ?_
    refine J_iconst C dX9_lay_78 (rg_of (by decide)) ?_
    refine J_aload_n C dX9_lay_79 rfl rfl ?_
    refine J_getI C fo_10_6 rfl fl_RX9_181 dX9_lay_80 hK2 ?_
    refine J_imul C dX9_lay_83 ?_
    refine J_iload_n C dX9_lay_84 rfl rfl ?_
    obtain ⟨hK5, h⟩ := h
    obtain ⟨h06, hn7, h⟩ := h
    refine J_iast C dX9_lay_85 hK5 h06 hn7 ?_
    refine J_aload_n C dX9_lay_86 rfl rfl ?_
    refine J_getR C fo_10_7 rfl fl_RX9_17 dX9_lay_87 hK2 hr4 ?_
    refine J_iconst C dX9_lay_90 (rg_of (by decide)) ?_
    refine J_aload_n C dX9_lay_91 rfl rfl ?_
    refine J_getI C fo_10_6 rfl fl_RX9_181 dX9_lay_92 hK2 ?_
    refine J_imul C dX9_lay_95 ?_
    refine J_iconst C dX9_lay_96 (rg_of (by decide)) ?_
    refine J_iadd C dX9_lay_97 ?_
    refine J_iload_n C dX9_lay_98 rfl rfl ?_
    obtain ⟨h08, hn9, h⟩ := h
    refine J_iast C dX9_lay_99 hK5 h08 hn9 ?_
    refine J_aload_n C dX9_lay_100 rfl rfl ?_
    obtain ⟨r10, hr11, h⟩ := h
    refine J_getR C fo_10_8 rfl fl_RX9_20 dX9_lay_101 hK2 hr11 ?_
    refine J_aload_n C dX9_lay_104 rfl rfl ?_
    refine J_getI C fo_10_6 rfl fl_RX9_181 dX9_lay_105 hK2 ?_
    refine J_iload_n C dX9_lay_108 rfl rfl ?_
    obtain ⟨hK12, h⟩ := h
    obtain ⟨h013, hn14, h⟩ := h
    refine J_iast C dX9_lay_109 hK12 h013 hn14 ?_
    refine J_aload_n C dX9_lay_110 rfl rfl ?_
    obtain ⟨r15, hr16, h⟩ := h
    refine J_getR C fo_10_9 rfl fl_RX9_23 dX9_lay_111 hK2 hr16 ?_
    refine J_aload_n C dX9_lay_114 rfl rfl ?_
    refine J_getI C fo_10_6 rfl fl_RX9_181 dX9_lay_115 hK2 ?_
    refine J_iload C dX9_lay_118 rfl ?_
    obtain ⟨hK17, h⟩ := h
    obtain ⟨h018, hn19, h⟩ := h
    refine J_iast C dX9_lay_120 hK17 h018 hn19 ?_
    refine J_aload_n C dX9_lay_121 rfl rfl ?_
    obtain ⟨r20, hr21, h⟩ := h
    refine J_getR C fo_10_17 rfl fl_RX9_48 dX9_lay_122 hK2 hr21 ?_
    refine J_aload_n C dX9_lay_125 rfl rfl ?_
    refine J_getI C fo_10_6 rfl fl_RX9_181 dX9_lay_126 hK2 ?_
    refine J_iconst C dX9_lay_129 (rg_of (by decide)) ?_
    obtain ⟨hK22, h⟩ := h
    obtain ⟨h023, hn24, h⟩ := h
    refine J_iast C dX9_lay_130 hK22 h023 hn24 ?_
    refine J_aload_n C dX9_lay_131 rfl rfl ?_
    refine J_dup C dX9_lay_132 trivial ?_
    refine J_getI C fo_10_2 rfl fl_RX9_7 dX9_lay_133 hK2 ?_
    refine J_bipush C dX9_lay_136 (by decide +kernel) (rg_of (by decide)) ?_
    refine J_iload_n C dX9_lay_138 rfl rfl ?_
    refine J_imul C dX9_lay_139 ?_
    refine J_isub C dX9_lay_140 ?_
    refine J_putI C fo_10_2 fp_10 fl_RX9_7 (Or.inl rfl) (Or.inl rfl) dX9_lay_141 hK2 ?_
    refine J_aload_n C dX9_lay_144 rfl rfl ?_
    refine J_dup C dX9_lay_145 trivial ?_
    refine J_getI C fo_10_6 rfl fl_RX9_181 dX9_lay_146 hK2 ?_
    refine J_iconst C dX9_lay_149 (rg_of (by decide)) ?_
    refine J_iadd C dX9_lay_150 ?_
    refine J_putI C fo_10_6 fp_10 fl_RX9_181 (Or.inl rfl) (Or.inl rfl) dX9_lay_151 hK2 ?_
    refine J_aload_n C dX9_lay_154 rfl rfl ?_
    refine J_getI C fo_10_6 rfl fl_RX9_181 dX9_lay_155 hK2 ?_
    refine J_iconst C dX9_lay_158 (rg_of (by decide)) ?_
    refine J_isub C dX9_lay_159 ?_
    exact J_iret C dX9_lay_160 M.2.2.1 ⟨_, rfl, rfl, h⟩
  · have h := h.2 c69
    refine J_iconst C dX9_lay_72 (rg_of (by decide)) ?_
    exact J_iret C dX9_lay_73 M.2.2.1 ⟨_, rfl, rfl, h⟩
set_option maxRecDepth 20000 in
set_option maxHeartbeats 4000000 in
theorem S_X9_lay_15 {G : Gp} {X : Xt} {d : Nat}  {x0 : Nat} {x1 : Int} {x2 : Int} {x3 : Int} {x4 : Int} {s0 : Nat} {Q : Int → Fl → Il → Prop} {S : Shp} {F : Fl} {I : Il} (C : CO G RX9 cX9_lay 5 X) (M : MX d (some .int) "lay" X) (hd : 3 ≤ d)  (h : V_X9_lay_15 x0 x1 x2 x3 x4 s0 S F I Q) : J G X (QD X G (qI fun z S' F' I' => S = S' ∧ Q z F' I') noX) 15 [vr (some x0), vi x1, vi x2, vi x3, vi x4] [vr (some s0)] S F I := by
  unfold V_X9_lay_15 at h
  refine J_iconst C dX9_lay_15 (rg_of (by decide)) ?_
  refine J_goto C dX9_lay_16 (tgt := 62) rfl ?_
  exact S_X9_lay_62 C M (by omega)  h
set_option maxRecDepth 20000 in
set_option maxHeartbeats 4000000 in
theorem S_X9_lay_44 {G : Gp} {X : Xt} {d : Nat}  {x0 : Nat} {x1 : Int} {x2 : Int} {x3 : Int} {x4 : Int} {s0 : Nat} {Q : Int → Fl → Il → Prop} {S : Shp} {F : Fl} {I : Il} (C : CO G RX9 cX9_lay 5 X) (M : MX d (some .int) "lay" X) (hd : 3 ≤ d)  (h : V_X9_lay_44 x0 x1 x2 x3 x4 s0 S F I Q) : J G X (QD X G (qI fun z S' F' I' => S = S' ∧ Q z F' I') noX) 44 [vr (some x0), vi x1, vi x2, vi x3, vi x4] [vr (some s0)] S F I := by
  unfold V_X9_lay_44 at h
  refine J_iconst C dX9_lay_44 (rg_of (by decide)) ?_
  refine J_goto C dX9_lay_45 (tgt := 62) rfl ?_
  exact S_X9_lay_62 C M (by omega)  h
set_option maxRecDepth 20000 in
set_option maxHeartbeats 4000000 in
theorem S_X9_lay {G : Gp} {X : Xt} {d : Nat}  {x0 : Nat} {x1 : Int} {x2 : Int} {x3 : Int} {x4 : Int} {Q : Int → Fl → Il → Prop} {S : Shp} {F : Fl} {I : Il} (C : CO G RX9 cX9_lay 5 X) (M : MX d (some .int) "lay" X) (hd : 3 ≤ d)  (h : V_X9_lay x0 x1 x2 x3 x4 S F I Q) : J G X (QD X G (qI fun z S' F' I' => S = S' ∧ Q z F' I') noX) 0 [vr (some x0), vi x1, vi x2, vi x3, vi x4] [] S F I := by
  unfold V_X9_lay at h
  obtain ⟨d, rfl⟩ : ∃ d9, d = d9 + 1 := ⟨d - 1, by omega⟩
  refine J_aload_n C dX9_lay_0 rfl rfl ?_
  refine J_iload_n C dX9_lay_1 rfl rfl ?_
  refine K_S C M [vi x1] [vr (some x0)] mi_X9_isStation wg_1411 wg_1412 dX9_lay_2 rfl rfl (by decide) (Nat.le_of_ble_eq_true rfl) (c_X9_isStation (C.2.2.2.2.2.2.2) (by omega) h) (fun v9 S' F' I' hq9 => ?_) K_no rfl
  clear h
  obtain ⟨z1, rfl, rfl, rfl, rfl, h⟩ := hq9
  refine J_if_eq C dX9_lay_5 (tgt := 15) rfl (fun c5 => ?_) (fun c5 => ?_)
  · have h := h.1 c5
    exact S_X9_lay_15 C M (by omega)  h
  · have h := h.2 c5
    refine J_iload_n C dX9_lay_8 rfl rfl ?_
    refine K_S C M [vi x2] [vr (some x0)] mi_X9_isStation wg_1411 wg_1412 dX9_lay_9 rfl rfl (by decide) (Nat.le_of_ble_eq_true rfl) (c_X9_isStation (C.2.2.2.2.2.2.2) (by omega) h) (fun v9 S' F' I' hq9 => ?_) K_no rfl
    clear h
    obtain ⟨z2, rfl, rfl, rfl, rfl, h⟩ := hq9
    refine J_if_ne C dX9_lay_12 (tgt := 19) rfl (fun c12 => ?_) (fun c12 => ?_)
    · have h := h.1 c12
      refine J_iload_n C dX9_lay_19 rfl rfl ?_
      refine J_iload_n C dX9_lay_20 rfl rfl ?_
      refine J_icmp_eq C dX9_lay_21 (tgt := 44) rfl (fun c21 => ?_) (fun c21 => ?_)
      · have h := h.1 c21
        exact S_X9_lay_44 C M (by omega)  h
      · have h := h.2 c21
        refine J_iload_n C dX9_lay_24 rfl rfl ?_
        refine J_iconst C dX9_lay_25 (rg_of (by decide)) ?_
        refine J_bipush C dX9_lay_26 (by decide +kernel) (rg_of (by decide)) ?_
        refine K_S C M [vi x3, vi 2, vi 60] [vr (some x0)] mi_X9_in wg_1414 wg_1415 dX9_lay_28 rfl rfl (by decide) (Nat.le_of_ble_eq_true rfl) (c_X9_in (C.2.2.2.2.2.2.2) (by omega) h) (fun v9 S' F' I' hq9 => ?_) K_no rfl
        clear h
        obtain ⟨z3, rfl, rfl, rfl, rfl, h⟩ := hq9
        refine J_if_eq C dX9_lay_31 (tgt := 44) rfl (fun c31 => ?_) (fun c31 => ?_)
        · have h := h.1 c31
          exact S_X9_lay_44 C M (by omega)  h
        · have h := h.2 c31
          refine J_iload C dX9_lay_34 rfl ?_
          refine J_iconst C dX9_lay_36 (rg_of (by decide)) ?_
          refine J_iconst C dX9_lay_37 (rg_of (by decide)) ?_
          refine K_S C M [vi x4, vi 0, vi 3] [vr (some x0)] mi_X9_in wg_1414 wg_1415 dX9_lay_38 rfl rfl (by decide) (Nat.le_of_ble_eq_true rfl) (c_X9_in (C.2.2.2.2.2.2.2) (by omega) h) (fun v9 S' F' I' hq9 => ?_) K_no rfl
          clear h
          obtain ⟨z4, rfl, rfl, rfl, rfl, h⟩ := hq9
          refine J_if_ne C dX9_lay_41 (tgt := 48) rfl (fun c41 => ?_) (fun c41 => ?_)
          · have h := h.1 c41
            refine J_aload_n C dX9_lay_48 rfl rfl ?_
            obtain ⟨hK5, h⟩ := h
            refine J_getI C fo_10_6 rfl fl_RX9_181 dX9_lay_49 hK5 ?_
            refine J_bipush C dX9_lay_52 (by decide +kernel) (rg_of (by decide)) ?_
            refine J_icmp_ne C dX9_lay_54 (tgt := 61) rfl (fun c54 => ?_) (fun c54 => ?_)
            · have h := h.1 c54
              refine J_iconst C dX9_lay_61 (rg_of (by decide)) ?_
              exact S_X9_lay_62 C M (by omega)  h
            · have h := h.2 c54
              refine J_iconst C dX9_lay_57 (rg_of (by decide)) ?_
              refine J_goto C dX9_lay_58 (tgt := 62) rfl ?_
              exact S_X9_lay_62 C M (by omega)  h
          · have h := h.2 c41
            exact S_X9_lay_44 C M (by omega)  h
    · have h := h.2 c12
      exact S_X9_lay_15 C M (by omega)  h
theorem c_X9_lay {l : Launch} {G : Gp} {d : Nat} {x0 : Nat} {x1 : Int} {x2 : Int} {x3 : Int} {x4 : Int} {S : Shp} {F : Fl} {I : Il} {Q : Int → Fl → Il → Prop} (hl : l.stackTraces = false) (hd : 3 ≤ d) (h : V_X9_lay x0 x1 x2 x3 x4 S F I Q) : CM l G d yX9_lay (.code yX9_lay cX9_lay 5 (some .int)) [vr (some x0), vi x1, vi x2, vi x3, vi x4] S F I (qI fun z S' F' I' => S = S' ∧ Q z F' I') noX :=
  CM_ofM [vr (some x0), vi x1, vi x2, vi x3, vi x4] hl (by decide +kernel) (kn1 trivial (kn1 trivial (kn1 trivial (kn1 trivial (kn1 trivial kn0))))) (Nat.le_of_ble_eq_true rfl) rfl (fun X hX C M => S_X9_lay C M hd h)
set_option maxRecDepth 20000 in
set_option maxHeartbeats 4000000 in
theorem S_X9_learn_82 {G : Gp} {X : Xt} {d : Nat} {k54 : Nat → Int → Int → Int → Fl → Il → Prop} {x0 : Nat} {x1 : Int} {x4 : Int} {s0 : Int} {s1 : Int} {Q : Int → Fl → Il → Prop} {S : Shp} {F : Fl} {I : Il} (C : CO G RX9 cX9_learn 5 X) (M : MX d (some .int) "learn" X) (hd : 3 ≤ d) (hk54 : ∀ (x0 : Nat) (x1 : Int) (x3 : Int) (x4 : Int) (F' : Fl) (I' : Il), k54 x0 x1 x3 x4 F' I' → J G X (QD X G (qI fun z S' F' I' => S = S' ∧ Q z F' I') noX) 54 [vr (some x0), vi x1, vl 0, vi x3, vi x4] [] S F' I') (h : V_X9_learn_82 k54 x0 x1 x4 s0 s1 S F I Q) : J G X (QD X G (qI fun z S' F' I' => S = S' ∧ Q z F' I') noX) 82 [vr (some x0), vi x1, vl 0, vl 0, vi x4] [vi s0, vi s1] S F I := by
  unfold V_X9_learn_82 at h
  refine J_iadd C dX9_learn_82 ?_
  refine K_istore_n C [vr (some x0), vi x1, vl 0, vi (w32 (s1 + s0)), vi x4] dX9_learn_83 rfl (Nat.le_of_ble_eq_true rfl) rfl ?_
  refine K_iinc C [vr (some x0), vi x1, vl 0, vi (w32 (s1 + s0)), vi (w32 (x4 + 1))] dX9_learn_84 rfl rfl ?_
  refine J_goto C dX9_learn_87 (tgt := 54) rfl ?_
  exact hk54 x0 x1 (w32 (s1 + s0)) (w32 (x4 + 1)) F I h
set_option maxRecDepth 20000 in
set_option maxHeartbeats 4000000 in
theorem S_X9_learn_54 {G : Gp} {X : Xt} {d : Nat}  {S : Shp} {Q : Int → Fl → Il → Prop} (C : CO G RX9 cX9_learn 5 X) (M : MX d (some .int) "learn" X) (hd : 3 ≤ d) (n9 : Nat)  : ∀ (x0 : Nat) (x1 : Int) (x3 : Int) (x4 : Int) (F : Fl) (I : Il), V_X9_learn_54 n9 x0 x1 x3 x4 S F I Q → J G X (QD X G (qI fun z S' F' I' => S = S' ∧ Q z F' I') noX) 54 [vr (some x0), vi x1, vl 0, vi x3, vi x4] [] S F I := by
  induction n9 with
  | zero => intro x0 x1 x3 x4 F I h; exact h.elim
  | succ n ih =>
    intro x0 x1 x3 x4 F I h
    unfold V_X9_learn_54 at h
    refine J_iload C dX9_learn_54 rfl ?_
    refine J_bipush C dX9_learn_56 (by decide +kernel) (rg_of (by decide)) ?_
    refine J_iload_n C dX9_learn_58 rfl rfl ?_
    refine J_imul C dX9_learn_59 ?_
    refine J_bipush C dX9_learn_60 (by decide +kernel) (rg_of (by decide)) ?_
    refine J_iadd C dX9_learn_62 ?_
    refine J_icmp_ge C dX9_learn_63 (tgt := 90) rfl (fun c63 => ?_) (fun c63 => ?_)
    · have h := h.1 c63
      refine J_iload_n C dX9_learn_90 rfl rfl ?_
      exact J_iret C dX9_learn_91 M.2.2.1 ⟨_, rfl, rfl, h⟩
    · have h := h.2 c63
      refine J_iload_n C dX9_learn_66 rfl rfl ?_
      refine J_aload_n C dX9_learn_67 rfl rfl ?_
      obtain ⟨hK1, h⟩ := h
      obtain ⟨r2, hr3, h⟩ := h
      refine J_getR C fo_10_28 rfl fl_RX9_75 dX9_learn_68 hK1 hr3 ?_
      refine J_iload C dX9_learn_71 rfl ?_
      obtain ⟨hK4, h⟩ := h
      obtain ⟨h05, hn6, h⟩ := h
      refine J_zald C dX9_learn_73 hK4 h05 hn6 ?_
      refine J_if_eq C dX9_learn_74 (tgt := 81) rfl (fun c74 => ?_) (fun c74 => ?_)
      · have h := h.1 c74
        refine J_iconst C dX9_learn_81 (rg_of (by decide)) ?_
        refine J_less [vr (some x0), vi x1, vl 0, vl 0, vi x4] (by unfold lessL; simp [lessL]) ?_
        exact S_X9_learn_82 C M (by omega) (fun y0 y1 y2 y3 F' I' h9 => ih y0 y1 y2 y3 F' I' h9) h
      · have h := h.2 c74
        refine J_iconst C dX9_learn_77 (rg_of (by decide)) ?_
        refine J_goto C dX9_learn_78 (tgt := 82) rfl ?_
        refine J_less [vr (some x0), vi x1, vl 0, vl 0, vi x4] (by unfold lessL; simp [lessL]) ?_
        exact S_X9_learn_82 C M (by omega) (fun y0 y1 y2 y3 F' I' h9 => ih y0 y1 y2 y3 F' I' h9) h
set_option maxRecDepth 20000 in
set_option maxHeartbeats 4000000 in
theorem S_X9_learn_22 {G : Gp} {X : Xt} {d : Nat}  {x0 : Nat} {x1 : Int} {x2 : Int} {s0 : Int} {s1 : Nat} {Q : Int → Fl → Il → Prop} {S : Shp} {F : Fl} {I : Il} (C : CO G RX9 cX9_learn 5 X) (M : MX d (some .int) "learn" X) (hd : 3 ≤ d)  (h : V_X9_learn_22 x0 x1 x2 s0 s1 S F I Q) : J G X (QD X G (qI fun z S' F' I' => S = S' ∧ Q z F' I') noX) 22 [vr (some x0), vi x1, vi x2, vl 0, vl 0] [vi s0, vr (some s1)] S F I := by
  unfold V_X9_learn_22 at h
  obtain ⟨hK1, h⟩ := h
  refine J_putI C fo_10_0 fp_10 fl_RX9_174 (Or.inl rfl) (Or.inl rfl) dX9_learn_22 hK1 ?_
  refine J_aload_n C dX9_learn_25 rfl rfl ?_
  obtain ⟨hK2, h⟩ := h
  refine J_getI C fo_10_0 rfl fl_RX9_174 dX9_learn_26 hK2 ?_
  refine J_if_le C dX9_learn_29 (tgt := 34) rfl (fun c29 => ?_) (fun c29 => ?_)
  · have h := h.1 c29
    refine J_aload_n C dX9_learn_34 rfl rfl ?_
    obtain ⟨r3, hr4, h⟩ := h
    refine J_getR C fo_10_28 rfl fl_RX9_75 dX9_learn_35 hK2 hr4 ?_
    refine J_bipush C dX9_learn_38 (by decide +kernel) (rg_of (by decide)) ?_
    refine J_iload_n C dX9_learn_40 rfl rfl ?_
    refine J_imul C dX9_learn_41 ?_
    refine J_iload_n C dX9_learn_42 rfl rfl ?_
    refine J_iadd C dX9_learn_43 ?_
    refine J_iconst C dX9_learn_44 (rg_of (by decide)) ?_
    obtain ⟨hK5, h⟩ := h
    obtain ⟨h06, hn7, h⟩ := h
    refine J_zast C dX9_learn_45 hK5 h06 hn7 (by decide) ?_
    refine J_iconst C dX9_learn_46 (rg_of (by decide)) ?_
    refine K_istore_n C [vr (some x0), vi x1, vi x2, vi 0, vl 0] dX9_learn_47 rfl (Nat.le_of_ble_eq_true rfl) rfl ?_
    refine J_bipush C dX9_learn_48 (by decide +kernel) (rg_of (by decide)) ?_
    refine J_iload_n C dX9_learn_50 rfl rfl ?_
    refine J_imul C dX9_learn_51 ?_
    refine K_istore C [vr (some x0), vi x1, vi x2, vi 0, vi (w32 (16 * x1))] dX9_learn_52 (Nat.le_of_ble_eq_true rfl) rfl ?_
    refine J_less [vr (some x0), vi x1, vl 0, vi 0, vi (w32 (16 * x1))] (by unfold lessL; simp [lessL]) ?_
    obtain ⟨n9, h⟩ := h
    exact S_X9_learn_54 C M (by omega) n9  _ _ _ _ _ _ h
  · have h := h.2 c29
    refine J_iconst C dX9_learn_32 (rg_of (by decide)) ?_
    exact J_iret C dX9_learn_33 M.2.2.1 ⟨_, rfl, rfl, h⟩
set_option maxRecDepth 20000 in
set_option maxHeartbeats 4000000 in
theorem S_X9_learn_21 {G : Gp} {X : Xt} {d : Nat}  {x0 : Nat} {x1 : Int} {x2 : Int} {s0 : Nat} {Q : Int → Fl → Il → Prop} {S : Shp} {F : Fl} {I : Il} (C : CO G RX9 cX9_learn 5 X) (M : MX d (some .int) "learn" X) (hd : 3 ≤ d)  (h : V_X9_learn_21 x0 x1 x2 s0 S F I Q) : J G X (QD X G (qI fun z S' F' I' => S = S' ∧ Q z F' I') noX) 21 [vr (some x0), vi x1, vi x2, vl 0, vl 0] [vr (some s0)] S F I := by
  unfold V_X9_learn_21 at h
  refine J_iconst C dX9_learn_21 (rg_of (by decide)) ?_
  exact S_X9_learn_22 C M (by omega)  h
set_option maxRecDepth 20000 in
set_option maxHeartbeats 4000000 in
theorem S_X9_learn {G : Gp} {X : Xt} {d : Nat}  {x0 : Nat} {x1 : Int} {x2 : Int} {Q : Int → Fl → Il → Prop} {S : Shp} {F : Fl} {I : Il} (C : CO G RX9 cX9_learn 5 X) (M : MX d (some .int) "learn" X) (hd : 3 ≤ d)  (h : V_X9_learn x0 x1 x2 S F I Q) : J G X (QD X G (qI fun z S' F' I' => S = S' ∧ Q z F' I') noX) 0 [vr (some x0), vi x1, vi x2, vl 0, vl 0] [] S F I := by
  unfold V_X9_learn at h
  obtain ⟨d, rfl⟩ : ∃ d9, d = d9 + 1 := ⟨d - 1, by omega⟩
  refine J_aload_n C dX9_learn_0 rfl rfl ?_
  refine J_aload_n C dX9_learn_1 rfl rfl ?_
  refine J_iload_n C dX9_learn_2 rfl rfl ?_
  obtain ⟨hK1, h⟩ := h
  refine K_V C M [vi x1] [vr (some x0)] mi_X9_isCrew wg_1461 wg_1463 wg_42 ⟨rfl, by decide⟩ dX9_learn_3 hK1 rfl rfl (by decide) (Nat.le_of_ble_eq_true rfl) (c_X9_isCrew (C.2.2.2.2.2.2.2) (by omega) h) (fun v9 S' F' I' hq9 => ?_) K_no rfl
  clear h
  obtain ⟨z2, rfl, rfl, rfl, rfl, h⟩ := hq9
  refine J_if_eq C dX9_learn_6 (tgt := 21) rfl (fun c6 => ?_) (fun c6 => ?_)
  · have h := h.1 c6
    exact S_X9_learn_21 C M (by omega)  h
  · have h := h.2 c6
    refine J_aload_n C dX9_learn_9 rfl rfl ?_
    refine J_iload_n C dX9_learn_10 rfl rfl ?_
    refine K_V C M [vi x2] [vr (some x0)] mi_X9_isBlock wg_1429 wg_1431 wg_40 ⟨rfl, by decide⟩ dX9_learn_11 hK1 rfl rfl (by decide) (Nat.le_of_ble_eq_true rfl) (c_X9_isBlock (C.2.2.2.2.2.2.2) (by omega) h) (fun v9 S' F' I' hq9 => ?_) K_no rfl
    clear h
    obtain ⟨z3, rfl, rfl, rfl, rfl, h⟩ := hq9
    refine J_if_eq C dX9_learn_14 (tgt := 21) rfl (fun c14 => ?_) (fun c14 => ?_)
    · have h := h.1 c14
      exact S_X9_learn_21 C M (by omega)  h
    · have h := h.2 c14
      refine J_iconst C dX9_learn_17 (rg_of (by decide)) ?_
      refine J_goto C dX9_learn_18 (tgt := 22) rfl ?_
      exact S_X9_learn_22 C M (by omega)  h
theorem c_X9_learn {l : Launch} {G : Gp} {d : Nat} {x0 : Nat} {x1 : Int} {x2 : Int} {S : Shp} {F : Fl} {I : Il} {Q : Int → Fl → Il → Prop} (hl : l.stackTraces = false) (hd : 3 ≤ d) (h : V_X9_learn x0 x1 x2 S F I Q) : CM l G d yX9_learn (.code yX9_learn cX9_learn 5 (some .int)) [vr (some x0), vi x1, vi x2] S F I (qI fun z S' F' I' => S = S' ∧ Q z F' I') noX :=
  CM_ofM [vr (some x0), vi x1, vi x2, vl 0, vl 0] hl (by decide +kernel) (kn1 trivial (kn1 trivial (kn1 trivial kn0))) (Nat.le_of_ble_eq_true rfl) rfl (fun X hX C M => S_X9_learn C M hd h)
set_option maxRecDepth 20000 in
set_option maxHeartbeats 4000000 in
theorem S_X9_leg_27 {G : Gp} {X : Xt} {d : Nat}  {x0 : Nat} {x1 : Int} {s0 : Int} {s1 : Nat} {Q : Int → Fl → Il → Prop} {S : Shp} {F : Fl} {I : Il} (C : CO G RX9 cX9_leg 2 X) (M : MX d (some .int) "leg" X) (hd : 3 ≤ d)  (h : V_X9_leg_27 x0 x1 s0 s1 S F I Q) : J G X (QD X G (qI fun z S' F' I' => S = S' ∧ Q z F' I') noX) 27 [vr (some x0), vi x1] [vi s0, vr (some s1)] S F I := by
  unfold V_X9_leg_27 at h
  obtain ⟨hK1, h⟩ := h
  refine J_putI C fo_10_0 fp_10 fl_RX9_174 (Or.inl rfl) (Or.inl rfl) dX9_leg_27 hK1 ?_
  refine J_aload_n C dX9_leg_30 rfl rfl ?_
  obtain ⟨hK2, h⟩ := h
  refine J_getI C fo_10_0 rfl fl_RX9_174 dX9_leg_31 hK2 ?_
  refine J_if_le C dX9_leg_34 (tgt := 39) rfl (fun c34 => ?_) (fun c34 => ?_)
  · have h := h.1 c34
    refine J_aload_n C dX9_leg_39 rfl rfl ?_
    obtain ⟨r3, hr4, h⟩ := h
    refine J_getR C fo_10_53 rfl fl_RX9_144 dX9_leg_40 hK2 hr4 ?_
    refine J_aload_n C dX9_leg_43 rfl rfl ?_
    refine J_getI C fo_10_52 rfl fl_RX9_249 dX9_leg_44 hK2 ?_
    refine J_iload_n C dX9_leg_47 rfl rfl ?_
    obtain ⟨hK5, h⟩ := h
    obtain ⟨h06, hn7, h⟩ := h
    refine J_iast C dX9_leg_48 hK5 h06 hn7 ?_
    refine J_aload_n C dX9_leg_49 rfl rfl ?_
    refine J_dup C dX9_leg_50 trivial ?_
    refine J_getI C fo_10_52 rfl fl_RX9_249 dX9_leg_51 hK2 ?_
    refine J_iconst C dX9_leg_54 (rg_of (by decide)) ?_
    refine J_iadd C dX9_leg_55 ?_
    refine J_putI C fo_10_52 fp_10 fl_RX9_249 (Or.inl rfl) (Or.inl rfl) dX9_leg_56 hK2 ?_
    refine J_aload_n C dX9_leg_59 rfl rfl ?_
    refine J_getI C fo_10_52 rfl fl_RX9_249 dX9_leg_60 hK2 ?_
    exact J_iret C dX9_leg_63 M.2.2.1 ⟨_, rfl, rfl, h⟩
  · have h := h.2 c34
    refine J_iconst C dX9_leg_37 (rg_of (by decide)) ?_
    exact J_iret C dX9_leg_38 M.2.2.1 ⟨_, rfl, rfl, h⟩
set_option maxRecDepth 20000 in
set_option maxHeartbeats 4000000 in
theorem S_X9_leg {G : Gp} {X : Xt} {d : Nat}  {x0 : Nat} {x1 : Int} {Q : Int → Fl → Il → Prop} {S : Shp} {F : Fl} {I : Il} (C : CO G RX9 cX9_leg 2 X) (M : MX d (some .int) "leg" X) (hd : 3 ≤ d)  (h : V_X9_leg x0 x1 S F I Q) : J G X (QD X G (qI fun z S' F' I' => S = S' ∧ Q z F' I') noX) 0 [vr (some x0), vi x1] [] S F I := by
  unfold V_X9_leg at h
  obtain ⟨d, rfl⟩ : ∃ d9, d = d9 + 1 := ⟨d - 1, by omega⟩
  refine J_aload_n C dX9_leg_0 rfl rfl ?_
  refine J_aload_n C dX9_leg_1 rfl rfl ?_
  refine J_iload_n C dX9_leg_2 rfl rfl ?_
  obtain ⟨hK1, h⟩ := h
  refine K_V C M [vi x1] [vr (some x0)] mi_X9_isBlock wg_1429 wg_1431 wg_40 ⟨rfl, by decide⟩ dX9_leg_3 hK1 rfl rfl (by decide) (Nat.le_of_ble_eq_true rfl) (c_X9_isBlock (C.2.2.2.2.2.2.2) (by omega) h) (fun v9 S' F' I' hq9 => ?_) K_no rfl
  clear h
  obtain ⟨z2, rfl, rfl, rfl, rfl, h⟩ := hq9
  refine J_if_ne C dX9_leg_6 (tgt := 13) rfl (fun c6 => ?_) (fun c6 => ?_)
  · have h := h.1 c6
    refine J_aload_n C dX9_leg_13 rfl rfl ?_
    refine J_getI C fo_10_52 rfl fl_RX9_249 dX9_leg_14 hK1 ?_
    refine J_bipush C dX9_leg_17 (by decide +kernel) (rg_of (by decide)) ?_
    refine J_icmp_ne C dX9_leg_19 (tgt := 26) rfl (fun c19 => ?_) (fun c19 => ?_)
    · have h := h.1 c19
      refine J_iconst C dX9_leg_26 (rg_of (by decide)) ?_
      exact S_X9_leg_27 C M (by omega)  h
    · have h := h.2 c19
      refine J_iconst C dX9_leg_22 (rg_of (by decide)) ?_
      refine J_goto C dX9_leg_23 (tgt := 27) rfl ?_
      exact S_X9_leg_27 C M (by omega)  h
  · have h := h.2 c6
    refine J_iconst C dX9_leg_9 (rg_of (by decide)) ?_
    refine J_goto C dX9_leg_10 (tgt := 27) rfl ?_
    exact S_X9_leg_27 C M (by omega)  h
theorem c_X9_leg {l : Launch} {G : Gp} {d : Nat} {x0 : Nat} {x1 : Int} {S : Shp} {F : Fl} {I : Il} {Q : Int → Fl → Il → Prop} (hl : l.stackTraces = false) (hd : 3 ≤ d) (h : V_X9_leg x0 x1 S F I Q) : CM l G d yX9_leg (.code yX9_leg cX9_leg 2 (some .int)) [vr (some x0), vi x1] S F I (qI fun z S' F' I' => S = S' ∧ Q z F' I') noX :=
  CM_ofM [vr (some x0), vi x1] hl (by decide +kernel) (kn1 trivial (kn1 trivial kn0)) (Nat.le_of_ble_eq_true rfl) rfl (fun X hX C M => S_X9_leg C M hd h)
set_option maxRecDepth 20000 in
set_option maxHeartbeats 4000000 in
theorem S_X9_load_76 {G : Gp} {X : Xt} {d : Nat}  {x0 : Nat} {x1 : Int} {x2 : Int} {s0 : Int} {s1 : Nat} {Q : Fl → Il → Prop} {S : Shp} {F : Fl} {I : Il} (C : CO G RX9 cX9_load 3 X) (M : MX d none "load" X) (hd : 3 ≤ d)  (h : V_X9_load_76 x0 x1 x2 s0 s1 S F I Q) : J G X (QD X G (qV fun S' F' I' => S = S' ∧ Q F' I') noX) 76 [vr (some x0), vi x1, vi x2] [vi s0, vr (some s1)] S F I := by
  unfold V_X9_load_76 at h
  obtain ⟨d, rfl⟩ : ∃ d9, d = d9 + 1 := ⟨d - 1, by omega⟩
  obtain ⟨hK1, h⟩ := h
  refine J_putI C fo_10_0 fp_10 fl_RX9_174 (Or.inl rfl) (Or.inl rfl) dX9_load_76 hK1 ?_
  refine J_aload_n C dX9_load_79 rfl rfl ?_
  obtain ⟨hK2, h⟩ := h
  refine J_getI C fo_10_0 rfl fl_RX9_174 dX9_load_80 hK2 ?_
  refine J_if_ne C dX9_load_83 (tgt := 107) rfl (fun c83 => ?_) (fun c83 => ?_)
  · have h := h.1 c83
    exact J_vret C dX9_load_107 M.2.2.1 ⟨rfl, rfl, h⟩
  · have h := h.2 c83
    refine J_aload_n C dX9_load_86 rfl rfl ?_
    obtain ⟨r3, hr4, h⟩ := h
    refine J_getR C fo_10_33 rfl fl_RX9_87 dX9_load_87 hK2 hr4 ?_
    refine J_iload_n C dX9_load_90 rfl rfl ?_
    refine J_iload_n C dX9_load_91 rfl rfl ?_
    obtain ⟨hK5, h⟩ := h
    obtain ⟨h06, hn7, h⟩ := h
    refine J_iast C dX9_load_92 hK5 h06 hn7 ?_
    refine J_aload_n C dX9_load_93 rfl rfl ?_
    obtain ⟨r8, hr9, h⟩ := h
    refine J_getR C fo_10_58 rfl fl_RX9_156 dX9_load_94 hK2 hr9 ?_
    refine J_iload_n C dX9_load_97 rfl rfl ?_
    refine J_iconst C dX9_load_98 (rg_of (by decide)) ?_
    obtain ⟨hK10, h⟩ := h
    obtain ⟨h011, hn12, h⟩ := h
    refine J_zast C dX9_load_99 hK10 h011 hn12 (by decide) ?_
    refine J_aload_n C dX9_load_100 rfl rfl ?_
    refine J_iload_n C dX9_load_101 rfl rfl ?_
    refine J_iconst C dX9_load_102 (rg_of (by decide)) ?_
    refine J_iload_n C dX9_load_103 rfl rfl ?_
    refine K_V C M [vi x1, vi 2, vi x2] [] mi_X9_writes wg_1485 wg_1487 wg_46 ⟨rfl, by decide⟩ dX9_load_104 hK2 rfl rfl (by decide) (Nat.le_of_ble_eq_true rfl) (c_X9_writes (C.2.2.2.2.2.2.2) (by omega) h) (fun v9 S' F13 I14 hq9 => ?_) K_no rfl
    clear h
    obtain ⟨rfl, rfl, h⟩ := hq9
    exact J_vret C dX9_load_107 M.2.2.1 ⟨rfl, rfl, h⟩
set_option maxRecDepth 20000 in
set_option maxHeartbeats 4000000 in
theorem S_X9_load_23 {G : Gp} {X : Xt} {d : Nat}  {x0 : Nat} {x1 : Int} {x2 : Int} {s0 : Nat} {Q : Fl → Il → Prop} {S : Shp} {F : Fl} {I : Il} (C : CO G RX9 cX9_load 3 X) (M : MX d none "load" X) (hd : 3 ≤ d)  (h : V_X9_load_23 x0 x1 x2 s0 S F I Q) : J G X (QD X G (qV fun S' F' I' => S = S' ∧ Q F' I') noX) 23 [vr (some x0), vi x1, vi x2] [vr (some s0)] S F I := by
  unfold V_X9_load_23 at h
  refine J_iconst C dX9_load_23 (rg_of (by decide)) ?_
  refine J_goto C dX9_load_24 (tgt := 76) rfl ?_
  exact S_X9_load_76 C M (by omega)  h
set_option maxRecDepth 20000 in
set_option maxHeartbeats 4000000 in
theorem S_X9_load_71 {G : Gp} {X : Xt} {d : Nat}  {x0 : Nat} {x1 : Int} {x2 : Int} {s0 : Nat} {Q : Fl → Il → Prop} {S : Shp} {F : Fl} {I : Il} (C : CO G RX9 cX9_load 3 X) (M : MX d none "load" X) (hd : 3 ≤ d)  (h : V_X9_load_71 x0 x1 x2 s0 S F I Q) : J G X (QD X G (qV fun S' F' I' => S = S' ∧ Q F' I') noX) 71 [vr (some x0), vi x1, vi x2] [vr (some s0)] S F I := by
  unfold V_X9_load_71 at h
  refine J_iconst C dX9_load_71 (rg_of (by decide)) ?_
  refine J_goto C dX9_load_72 (tgt := 76) rfl ?_
  exact S_X9_load_76 C M (by omega)  h
set_option maxRecDepth 20000 in
set_option maxHeartbeats 4000000 in
theorem S_X9_load {G : Gp} {X : Xt} {d : Nat}  {x0 : Nat} {x1 : Int} {x2 : Int} {Q : Fl → Il → Prop} {S : Shp} {F : Fl} {I : Il} (C : CO G RX9 cX9_load 3 X) (M : MX d none "load" X) (hd : 3 ≤ d)  (h : V_X9_load x0 x1 x2 S F I Q) : J G X (QD X G (qV fun S' F' I' => S = S' ∧ Q F' I') noX) 0 [vr (some x0), vi x1, vi x2] [] S F I := by
  unfold V_X9_load at h
  obtain ⟨d, rfl⟩ : ∃ d9, d = d9 + 1 := ⟨d - 1, by omega⟩
  refine J_aload_n C dX9_load_0 rfl rfl ?_
  refine J_aload_n C dX9_load_1 rfl rfl ?_
  refine J_iload_n C dX9_load_2 rfl rfl ?_
  obtain ⟨hK1, h⟩ := h
  refine K_V C M [vi x1] [vr (some x0)] mi_X9_isCar wg_1526 wg_1528 wg_51 ⟨rfl, by decide⟩ dX9_load_3 hK1 rfl rfl (by decide) (Nat.le_of_ble_eq_true rfl) (c_X9_isCar (C.2.2.2.2.2.2.2) (by omega) h) (fun v9 S' F' I' hq9 => ?_) K_no rfl
  clear h
  obtain ⟨z2, rfl, rfl, rfl, rfl, h⟩ := hq9
  refine J_if_eq C dX9_load_6 (tgt := 23) rfl (fun c6 => ?_) (fun c6 => ?_)
  · have h := h.1 c6
    exact S_X9_load_23 C M (by omega)  h
  · have h := h.2 c6
    refine J_iload_n C dX9_load_9 rfl rfl ?_
    refine J_iconst C dX9_load_10 (rg_of (by decide)) ?_
    refine J_aload_n C dX9_load_11 rfl rfl ?_
    refine J_getI C fo_10_54 rfl fl_RX9_294 dX9_load_12 hK1 ?_
    refine J_iconst C dX9_load_15 (rg_of (by decide)) ?_
    refine J_isub C dX9_load_16 ?_
    refine K_S C M [vi x2, vi 0, vi (w32 ((F 1054 x0) - 1))] [vr (some x0)] mi_X9_in wg_1414 wg_1415 dX9_load_17 rfl rfl (by decide) (Nat.le_of_ble_eq_true rfl) (c_X9_in (C.2.2.2.2.2.2.2) (by omega) h) (fun v9 S' F' I' hq9 => ?_) K_no rfl
    clear h
    obtain ⟨z3, rfl, rfl, rfl, rfl, h⟩ := hq9
    refine J_if_ne C dX9_load_20 (tgt := 27) rfl (fun c20 => ?_) (fun c20 => ?_)
    · have h := h.1 c20
      refine J_aload_n C dX9_load_27 rfl rfl ?_
      obtain ⟨r4, hr5, h⟩ := h
      refine J_getR C fo_10_32 rfl fl_RX9_84 dX9_load_28 hK1 hr5 ?_
      refine J_iload_n C dX9_load_31 rfl rfl ?_
      obtain ⟨hK6, h⟩ := h
      obtain ⟨h07, hn8, h⟩ := h
      refine J_iald C dX9_load_32 hK6 h07 hn8 ?_
      refine J_iconst C dX9_load_33 (rg_of (by decide)) ?_
      refine J_icmp_ne C dX9_load_34 (tgt := 71) rfl (fun c34 => ?_) (fun c34 => ?_)
      · have h := h.1 c34
        exact S_X9_load_71 C M (by omega)  h
      · have h := h.2 c34
        refine J_aload_n C dX9_load_37 rfl rfl ?_
        obtain ⟨r9, hr10, h⟩ := h
        refine J_getR C fo_10_33 rfl fl_RX9_87 dX9_load_38 hK1 hr10 ?_
        refine J_iload_n C dX9_load_41 rfl rfl ?_
        obtain ⟨hK11, h⟩ := h
        obtain ⟨h012, hn13, h⟩ := h
        refine J_iald C dX9_load_42 hK11 h012 hn13 ?_
        refine J_iconst C dX9_load_43 (rg_of (by decide)) ?_
        refine J_icmp_ne C dX9_load_44 (tgt := 71) rfl (fun c44 => ?_) (fun c44 => ?_)
        · have h := h.1 c44
          exact S_X9_load_71 C M (by omega)  h
        · have h := h.2 c44
          refine J_aload_n C dX9_load_47 rfl rfl ?_
          obtain ⟨r14, hr15, h⟩ := h
          refine J_getR C fo_10_58 rfl fl_RX9_156 dX9_load_48 hK1 hr15 ?_
          refine J_iload_n C dX9_load_51 rfl rfl ?_
          obtain ⟨hK16, h⟩ := h
          obtain ⟨h017, hn18, h⟩ := h
          refine J_zald C dX9_load_52 hK16 h017 hn18 ?_
          refine J_if_ne C dX9_load_53 (tgt := 71) rfl (fun c53 => ?_) (fun c53 => ?_)
          · have h := h.1 c53
            exact S_X9_load_71 C M (by omega)  h
          · have h := h.2 c53
            refine J_aload_n C dX9_load_56 rfl rfl ?_
            obtain ⟨r19, hr20, h⟩ := h
            refine J_getR C fo_10_31 rfl fl_RX9_81 dX9_load_57 hK1 hr20 ?_
            refine J_iload_n C dX9_load_60 rfl rfl ?_
            obtain ⟨hK21, h⟩ := h
            obtain ⟨h022, hn23, h⟩ := h
            refine J_iald C dX9_load_61 hK21 h022 hn23 ?_
            refine J_aload_n C dX9_load_62 rfl rfl ?_
            obtain ⟨r24, hr25, h⟩ := h
            refine J_getR C fo_10_55 rfl fl_RX9_147 dX9_load_63 hK1 hr25 ?_
            refine J_iload_n C dX9_load_66 rfl rfl ?_
            obtain ⟨hK26, h⟩ := h
            obtain ⟨h027, hn28, h⟩ := h
            refine J_iald C dX9_load_67 hK26 h027 hn28 ?_
            refine J_icmp_eq C dX9_load_68 (tgt := 75) rfl (fun c68 => ?_) (fun c68 => ?_)
            · have h := h.1 c68
              refine J_iconst C dX9_load_75 (rg_of (by decide)) ?_
              exact S_X9_load_76 C M (by omega)  h
            · have h := h.2 c68
              exact S_X9_load_71 C M (by omega)  h
    · have h := h.2 c20
      exact S_X9_load_23 C M (by omega)  h
theorem c_X9_load {l : Launch} {G : Gp} {d : Nat} {x0 : Nat} {x1 : Int} {x2 : Int} {S : Shp} {F : Fl} {I : Il} {Q : Fl → Il → Prop} (hl : l.stackTraces = false) (hd : 3 ≤ d) (h : V_X9_load x0 x1 x2 S F I Q) : CM l G d yX9_load (.code yX9_load cX9_load 3 none) [vr (some x0), vi x1, vi x2] S F I (qV fun S' F' I' => S = S' ∧ Q F' I') noX :=
  CM_ofM [vr (some x0), vi x1, vi x2] hl (by decide +kernel) (kn1 trivial (kn1 trivial (kn1 trivial kn0))) (Nat.le_of_ble_eq_true rfl) rfl (fun X hX C M => S_X9_load C M hd h)
set_option maxRecDepth 20000 in
set_option maxHeartbeats 4000000 in
theorem S_X9_offer_42 {G : Gp} {X : Xt} {d : Nat}  {x0 : Nat} {x1 : Int} {x2 : Int} {s0 : Int} {s1 : Nat} {Q : Int → Fl → Il → Prop} {S : Shp} {F : Fl} {I : Il} (C : CO G RX9 cX9_offer 3 X) (M : MX d (some .int) "offer" X) (hd : 3 ≤ d)  (h : V_X9_offer_42 x0 x1 x2 s0 s1 S F I Q) : J G X (QD X G (qI fun z S' F' I' => S = S' ∧ Q z F' I') noX) 42 [vr (some x0), vi x1, vi x2] [vi s0, vr (some s1)] S F I := by
  unfold V_X9_offer_42 at h
  obtain ⟨hK1, h⟩ := h
  refine J_putI C fo_10_0 fp_10 fl_RX9_174 (Or.inl rfl) (Or.inl rfl) dX9_offer_42 hK1 ?_
  refine J_aload_n C dX9_offer_45 rfl rfl ?_
  obtain ⟨hK2, h⟩ := h
  refine J_getI C fo_10_0 rfl fl_RX9_174 dX9_offer_46 hK2 ?_
  refine J_if_le C dX9_offer_49 (tgt := 54) rfl (fun c49 => ?_) (fun c49 => ?_)
  · have h := h.1 c49
    refine J_aload_n C dX9_offer_54 rfl rfl ?_
    obtain ⟨r3, hr4, h⟩ := h
    refine J_getR C fo_10_59 rfl fl_RX9_159 dX9_offer_55 hK2 hr4 ?_
    refine J_bipush C dX9_offer_58 (by decide +kernel) (rg_of (by decide)) ?_
    refine J_iload_n C dX9_offer_60 rfl rfl ?_
    refine J_imul C dX9_offer_61 ?_
    refine J_iload_n C dX9_offer_62 rfl rfl ?_
    refine J_iadd C dX9_offer_63 ?_
    obtain ⟨hK5, h⟩ := h
    obtain ⟨h06, hn7, h⟩ := h
    refine J_iald C dX9_offer_64 hK5 h06 hn7 ?_
    refine J_aload_n C dX9_offer_65 rfl rfl ?_
    refine J_getR C fo_10_59 rfl fl_RX9_159 dX9_offer_66 hK2 hr4 ?_
    refine J_bipush C dX9_offer_69 (by decide +kernel) (rg_of (by decide)) ?_
    refine J_bipush C dX9_offer_71 (by decide +kernel) (rg_of (by decide)) ?_
    refine J_iload_n C dX9_offer_73 rfl rfl ?_
    refine J_imul C dX9_offer_74 ?_
    refine J_iadd C dX9_offer_75 ?_
    refine J_iload_n C dX9_offer_76 rfl rfl ?_
    refine J_iadd C dX9_offer_77 ?_
    obtain ⟨h08, hn9, h⟩ := h
    refine J_iald C dX9_offer_78 hK5 h08 hn9 ?_
    refine J_icmp_le C dX9_offer_79 (tgt := 84) rfl (fun c79 => ?_) (fun c79 => ?_)
    · have h := h.1 c79
      refine J_aload_n C dX9_offer_84 rfl rfl ?_
      obtain ⟨r10, hr11, h⟩ := h
      refine J_getR C fo_10_55 rfl fl_RX9_147 dX9_offer_85 hK2 hr11 ?_
      refine J_aload_n C dX9_offer_88 rfl rfl ?_
      refine J_getI C fo_10_54 rfl fl_RX9_294 dX9_offer_89 hK2 ?_
      refine J_iload_n C dX9_offer_92 rfl rfl ?_
      obtain ⟨hK12, h⟩ := h
      obtain ⟨h013, hn14, h⟩ := h
      refine J_iast C dX9_offer_93 hK12 h013 hn14 ?_
      refine J_aload_n C dX9_offer_94 rfl rfl ?_
      obtain ⟨r15, hr16, h⟩ := h
      refine J_getR C fo_10_56 rfl fl_RX9_150 dX9_offer_95 hK2 hr16 ?_
      refine J_aload_n C dX9_offer_98 rfl rfl ?_
      refine J_getI C fo_10_54 rfl fl_RX9_294 dX9_offer_99 hK2 ?_
      refine J_iload_n C dX9_offer_102 rfl rfl ?_
      obtain ⟨hK17, h⟩ := h
      obtain ⟨h018, hn19, h⟩ := h
      refine J_iast C dX9_offer_103 hK17 h018 hn19 ?_
      refine J_aload_n C dX9_offer_104 rfl rfl ?_
      obtain ⟨r20, hr21, h⟩ := h
      refine J_getR C fo_10_57 rfl fl_RX9_153 dX9_offer_105 hK2 hr21 ?_
      refine J_aload_n C dX9_offer_108 rfl rfl ?_
      refine J_getI C fo_10_54 rfl fl_RX9_294 dX9_offer_109 hK2 ?_
      refine J_aload_n C dX9_offer_112 rfl rfl ?_
      refine J_getR C fo_10_59 rfl fl_RX9_159 dX9_offer_113 hK2 hr4 ?_
      refine J_bipush C dX9_offer_116 (by decide +kernel) (rg_of (by decide)) ?_
      refine J_iload_n C dX9_offer_118 rfl rfl ?_
      refine J_imul C dX9_offer_119 ?_
      refine J_iload_n C dX9_offer_120 rfl rfl ?_
      refine J_iadd C dX9_offer_121 ?_
      obtain ⟨h022, hn23, h⟩ := h
      refine J_iald C dX9_offer_122 hK5 h022 hn23 ?_
      obtain ⟨hK24, h⟩ := h
      obtain ⟨h025, hn26, h⟩ := h
      refine J_iast C dX9_offer_123 hK24 h025 hn26 ?_
      refine J_aload_n C dX9_offer_124 rfl rfl ?_
      refine J_dup C dX9_offer_125 trivial ?_
      refine J_getI C fo_10_54 rfl fl_RX9_294 dX9_offer_126 hK2 ?_
      refine J_iconst C dX9_offer_129 (rg_of (by decide)) ?_
      refine J_iadd C dX9_offer_130 ?_
      refine J_putI C fo_10_54 fp_10 fl_RX9_294 (Or.inl rfl) (Or.inl rfl) dX9_offer_131 hK2 ?_
      refine J_aload_n C dX9_offer_134 rfl rfl ?_
      refine J_getI C fo_10_54 rfl fl_RX9_294 dX9_offer_135 hK2 ?_
      refine J_iconst C dX9_offer_138 (rg_of (by decide)) ?_
      refine J_isub C dX9_offer_139 ?_
      exact J_iret C dX9_offer_140 M.2.2.1 ⟨_, rfl, rfl, h⟩
    · have h := h.2 c79
      refine J_iconst C dX9_offer_82 (rg_of (by decide)) ?_
      exact J_iret C dX9_offer_83 M.2.2.1 ⟨_, rfl, rfl, h⟩
  · have h := h.2 c49
    refine J_iconst C dX9_offer_52 (rg_of (by decide)) ?_
    exact J_iret C dX9_offer_53 M.2.2.1 ⟨_, rfl, rfl, h⟩
set_option maxRecDepth 20000 in
set_option maxHeartbeats 4000000 in
theorem S_X9_offer_15 {G : Gp} {X : Xt} {d : Nat}  {x0 : Nat} {x1 : Int} {x2 : Int} {s0 : Nat} {Q : Int → Fl → Il → Prop} {S : Shp} {F : Fl} {I : Il} (C : CO G RX9 cX9_offer 3 X) (M : MX d (some .int) "offer" X) (hd : 3 ≤ d)  (h : V_X9_offer_15 x0 x1 x2 s0 S F I Q) : J G X (QD X G (qI fun z S' F' I' => S = S' ∧ Q z F' I') noX) 15 [vr (some x0), vi x1, vi x2] [vr (some s0)] S F I := by
  unfold V_X9_offer_15 at h
  refine J_iconst C dX9_offer_15 (rg_of (by decide)) ?_
  refine J_goto C dX9_offer_16 (tgt := 42) rfl ?_
  exact S_X9_offer_42 C M (by omega)  h
set_option maxRecDepth 20000 in
set_option maxHeartbeats 4000000 in
theorem S_X9_offer {G : Gp} {X : Xt} {d : Nat}  {x0 : Nat} {x1 : Int} {x2 : Int} {Q : Int → Fl → Il → Prop} {S : Shp} {F : Fl} {I : Il} (C : CO G RX9 cX9_offer 3 X) (M : MX d (some .int) "offer" X) (hd : 3 ≤ d)  (h : V_X9_offer x0 x1 x2 S F I Q) : J G X (QD X G (qI fun z S' F' I' => S = S' ∧ Q z F' I') noX) 0 [vr (some x0), vi x1, vi x2] [] S F I := by
  unfold V_X9_offer at h
  obtain ⟨d, rfl⟩ : ∃ d9, d = d9 + 1 := ⟨d - 1, by omega⟩
  refine J_aload_n C dX9_offer_0 rfl rfl ?_
  refine J_iload_n C dX9_offer_1 rfl rfl ?_
  refine K_S C M [vi x1] [vr (some x0)] mi_X9_isStation wg_1411 wg_1412 dX9_offer_2 rfl rfl (by decide) (Nat.le_of_ble_eq_true rfl) (c_X9_isStation (C.2.2.2.2.2.2.2) (by omega) h) (fun v9 S' F' I' hq9 => ?_) K_no rfl
  clear h
  obtain ⟨z1, rfl, rfl, rfl, rfl, h⟩ := hq9
  refine J_if_eq C dX9_offer_5 (tgt := 15) rfl (fun c5 => ?_) (fun c5 => ?_)
  · have h := h.1 c5
    exact S_X9_offer_15 C M (by omega)  h
  · have h := h.2 c5
    refine J_iload_n C dX9_offer_8 rfl rfl ?_
    refine K_S C M [vi x2] [vr (some x0)] mi_X9_isStation wg_1411 wg_1412 dX9_offer_9 rfl rfl (by decide) (Nat.le_of_ble_eq_true rfl) (c_X9_isStation (C.2.2.2.2.2.2.2) (by omega) h) (fun v9 S' F' I' hq9 => ?_) K_no rfl
    clear h
    obtain ⟨z2, rfl, rfl, rfl, rfl, h⟩ := hq9
    refine J_if_ne C dX9_offer_12 (tgt := 19) rfl (fun c12 => ?_) (fun c12 => ?_)
    · have h := h.1 c12
      refine J_iload_n C dX9_offer_19 rfl rfl ?_
      refine J_iload_n C dX9_offer_20 rfl rfl ?_
      refine J_icmp_ne C dX9_offer_21 (tgt := 28) rfl (fun c21 => ?_) (fun c21 => ?_)
      · have h := h.1 c21
        refine J_aload_n C dX9_offer_28 rfl rfl ?_
        obtain ⟨hK3, h⟩ := h
        refine J_getI C fo_10_54 rfl fl_RX9_294 dX9_offer_29 hK3 ?_
        refine J_bipush C dX9_offer_32 (by decide +kernel) (rg_of (by decide)) ?_
        refine J_icmp_ne C dX9_offer_34 (tgt := 41) rfl (fun c34 => ?_) (fun c34 => ?_)
        · have h := h.1 c34
          refine J_iconst C dX9_offer_41 (rg_of (by decide)) ?_
          exact S_X9_offer_42 C M (by omega)  h
        · have h := h.2 c34
          refine J_iconst C dX9_offer_37 (rg_of (by decide)) ?_
          refine J_goto C dX9_offer_38 (tgt := 42) rfl ?_
          exact S_X9_offer_42 C M (by omega)  h
      · have h := h.2 c21
        refine J_iconst C dX9_offer_24 (rg_of (by decide)) ?_
        refine J_goto C dX9_offer_25 (tgt := 42) rfl ?_
        exact S_X9_offer_42 C M (by omega)  h
    · have h := h.2 c12
      exact S_X9_offer_15 C M (by omega)  h
theorem c_X9_offer {l : Launch} {G : Gp} {d : Nat} {x0 : Nat} {x1 : Int} {x2 : Int} {S : Shp} {F : Fl} {I : Il} {Q : Int → Fl → Il → Prop} (hl : l.stackTraces = false) (hd : 3 ≤ d) (h : V_X9_offer x0 x1 x2 S F I Q) : CM l G d yX9_offer (.code yX9_offer cX9_offer 3 (some .int)) [vr (some x0), vi x1, vi x2] S F I (qI fun z S' F' I' => S = S' ∧ Q z F' I') noX :=
  CM_ofM [vr (some x0), vi x1, vi x2] hl (by decide +kernel) (kn1 trivial (kn1 trivial (kn1 trivial kn0))) (Nat.le_of_ble_eq_true rfl) rfl (fun X hX C M => S_X9_offer C M hd h)
set_option maxRecDepth 20000 in
set_option maxHeartbeats 4000000 in
theorem S_X9_paper_71 {G : Gp} {X : Xt} {d : Nat} {k35 : Nat → Int → Int → Int → Int → Fl → Prop} {x0 : Nat} {x1 : Int} {x2 : Int} {x3 : Int} {x4 : Int} {Q : Int → Fl → Prop} {S : Shp} {F : Fl} {I : Il} (C : CO G RX9 cX9_paper 5 X) (M : MX d (some .int) "paper" X) (hd : 3 ≤ d) (hk35 : ∀ (x0 : Nat) (x1 : Int) (x2 : Int) (x3 : Int) (x4 : Int) (F' : Fl), k35 x0 x1 x2 x3 x4 F' → J G X (QD X G (qI fun z S' F' I' => S = S' ∧ I = I' ∧ Q z F') noX) 35 [vr (some x0), vi x1, vi x2, vi x3, vi x4] [] S F' I) (h : V_X9_paper_71 k35 x0 x1 x2 x3 x4 S F I Q) : J G X (QD X G (qI fun z S' F' I' => S = S' ∧ I = I' ∧ Q z F') noX) 71 [vr (some x0), vi x1, vi x2, vi x3, vi x4] [] S F I := by
  unfold V_X9_paper_71 at h
  refine K_iinc C [vr (some x0), vi x1, vi x2, vi x3, vi (w32 (x4 + 1))] dX9_paper_71 rfl rfl ?_
  refine J_goto C dX9_paper_74 (tgt := 35) rfl ?_
  exact hk35 x0 x1 x2 x3 (w32 (x4 + 1)) F h
set_option maxRecDepth 20000 in
set_option maxHeartbeats 4000000 in
theorem S_X9_paper_35 {G : Gp} {X : Xt} {d : Nat}  {S : Shp} {I : Il} {Q : Int → Fl → Prop} (C : CO G RX9 cX9_paper 5 X) (M : MX d (some .int) "paper" X) (hd : 3 ≤ d) (n9 : Nat)  : ∀ (x0 : Nat) (x1 : Int) (x2 : Int) (x3 : Int) (x4 : Int) (F : Fl), V_X9_paper_35 n9 x0 x1 x2 x3 x4 S F I Q → J G X (QD X G (qI fun z S' F' I' => S = S' ∧ I = I' ∧ Q z F') noX) 35 [vr (some x0), vi x1, vi x2, vi x3, vi x4] [] S F I := by
  induction n9 with
  | zero => intro x0 x1 x2 x3 x4 F h; exact h.elim
  | succ n ih =>
    intro x0 x1 x2 x3 x4 F h
    unfold V_X9_paper_35 at h
    refine J_iload C dX9_paper_35 rfl ?_
    refine J_aload_n C dX9_paper_37 rfl rfl ?_
    obtain ⟨hK1, h⟩ := h
    refine J_getI C fo_10_60 rfl fl_RX9_190 dX9_paper_38 hK1 ?_
    refine J_icmp_ge C dX9_paper_41 (tgt := 77) rfl (fun c41 => ?_) (fun c41 => ?_)
    · have h := h.1 c41
      refine J_iconst C dX9_paper_77 (rg_of (by decide)) ?_
      exact J_iret C dX9_paper_78 M.2.2.1 ⟨_, rfl, rfl, rfl, h⟩
    · have h := h.2 c41
      refine J_aload_n C dX9_paper_44 rfl rfl ?_
      obtain ⟨r2, hr3, h⟩ := h
      refine J_getR C fo_10_61 rfl fl_RX9_162 dX9_paper_45 hK1 hr3 ?_
      refine J_iload C dX9_paper_48 rfl ?_
      obtain ⟨hK4, h⟩ := h
      obtain ⟨h05, hn6, h⟩ := h
      refine J_iald C dX9_paper_50 hK4 h05 hn6 ?_
      refine J_iload_n C dX9_paper_51 rfl rfl ?_
      refine J_icmp_ne C dX9_paper_52 (tgt := 71) rfl (fun c52 => ?_) (fun c52 => ?_)
      · have h := h.1 c52
        exact S_X9_paper_71 C M (by omega) (fun y0 y1 y2 y3 y4 F' h9 => ih y0 y1 y2 y3 y4 F' h9) h
      · have h := h.2 c52
        refine J_iload_n C dX9_paper_55 rfl rfl ?_
        refine J_iload_n C dX9_paper_56 rfl rfl ?_
        refine J_icmp_ne C dX9_paper_57 (tgt := 68) rfl (fun c57 => ?_) (fun c57 => ?_)
        · have h := h.1 c57
          refine K_iinc C [vr (some x0), vi x1, vi x2, vi (w32 (x3 + 1)), vi x4] dX9_paper_68 rfl rfl ?_
          exact S_X9_paper_71 C M (by omega) (fun y0 y1 y2 y3 y4 F' h9 => ih y0 y1 y2 y3 y4 F' h9) h
        · have h := h.2 c57
          refine J_aload_n C dX9_paper_60 rfl rfl ?_
          obtain ⟨r7, hr8, h⟩ := h
          refine J_getR C fo_10_62 rfl fl_RX9_165 dX9_paper_61 hK1 hr8 ?_
          refine J_iload C dX9_paper_64 rfl ?_
          obtain ⟨hK9, h⟩ := h
          obtain ⟨h010, hn11, h⟩ := h
          refine J_iald C dX9_paper_66 hK9 h010 hn11 ?_
          exact J_iret C dX9_paper_67 M.2.2.1 ⟨_, rfl, rfl, rfl, h⟩
set_option maxRecDepth 20000 in
set_option maxHeartbeats 4000000 in
theorem S_X9_paper_18 {G : Gp} {X : Xt} {d : Nat}  {x0 : Nat} {x1 : Int} {x2 : Int} {s0 : Int} {s1 : Nat} {Q : Int → Fl → Prop} {S : Shp} {F : Fl} {I : Il} (C : CO G RX9 cX9_paper 5 X) (M : MX d (some .int) "paper" X) (hd : 3 ≤ d)  (h : V_X9_paper_18 x0 x1 x2 s0 s1 S F I Q) : J G X (QD X G (qI fun z S' F' I' => S = S' ∧ I = I' ∧ Q z F') noX) 18 [vr (some x0), vi x1, vi x2, vl 0, vl 0] [vi s0, vr (some s1)] S F I := by
  unfold V_X9_paper_18 at h
  obtain ⟨hK1, h⟩ := h
  refine J_putI C fo_10_0 fp_10 fl_RX9_174 (Or.inl rfl) (Or.inl rfl) dX9_paper_18 hK1 ?_
  refine J_aload_n C dX9_paper_21 rfl rfl ?_
  obtain ⟨hK2, h⟩ := h
  refine J_getI C fo_10_0 rfl fl_RX9_174 dX9_paper_22 hK2 ?_
  refine J_if_le C dX9_paper_25 (tgt := 30) rfl (fun c25 => ?_) (fun c25 => ?_)
  · have h := h.1 c25
    refine J_iconst C dX9_paper_30 (rg_of (by decide)) ?_
    refine K_istore_n C [vr (some x0), vi x1, vi x2, vi 0, vl 0] dX9_paper_31 rfl (Nat.le_of_ble_eq_true rfl) rfl ?_
    refine J_iconst C dX9_paper_32 (rg_of (by decide)) ?_
    refine K_istore C [vr (some x0), vi x1, vi x2, vi 0, vi 0] dX9_paper_33 (Nat.le_of_ble_eq_true rfl) rfl ?_
    obtain ⟨n9, h⟩ := h
    exact S_X9_paper_35 C M (by omega) n9  _ _ _ _ _ _ h
  · have h := h.2 c25
    refine J_iconst C dX9_paper_28 (rg_of (by decide)) ?_
    exact J_iret C dX9_paper_29 M.2.2.1 ⟨_, rfl, rfl, rfl, h⟩
set_option maxRecDepth 20000 in
set_option maxHeartbeats 4000000 in
theorem S_X9_paper_17 {G : Gp} {X : Xt} {d : Nat}  {x0 : Nat} {x1 : Int} {x2 : Int} {s0 : Nat} {Q : Int → Fl → Prop} {S : Shp} {F : Fl} {I : Il} (C : CO G RX9 cX9_paper 5 X) (M : MX d (some .int) "paper" X) (hd : 3 ≤ d)  (h : V_X9_paper_17 x0 x1 x2 s0 S F I Q) : J G X (QD X G (qI fun z S' F' I' => S = S' ∧ I = I' ∧ Q z F') noX) 17 [vr (some x0), vi x1, vi x2, vl 0, vl 0] [vr (some s0)] S F I := by
  unfold V_X9_paper_17 at h
  refine J_iconst C dX9_paper_17 (rg_of (by decide)) ?_
  exact S_X9_paper_18 C M (by omega)  h
set_option maxRecDepth 20000 in
set_option maxHeartbeats 4000000 in
theorem S_X9_paper {G : Gp} {X : Xt} {d : Nat}  {x0 : Nat} {x1 : Int} {x2 : Int} {Q : Int → Fl → Prop} {S : Shp} {F : Fl} {I : Il} (C : CO G RX9 cX9_paper 5 X) (M : MX d (some .int) "paper" X) (hd : 3 ≤ d)  (h : V_X9_paper x0 x1 x2 S F I Q) : J G X (QD X G (qI fun z S' F' I' => S = S' ∧ I = I' ∧ Q z F') noX) 0 [vr (some x0), vi x1, vi x2, vl 0, vl 0] [] S F I := by
  unfold V_X9_paper at h
  obtain ⟨d, rfl⟩ : ∃ d9, d = d9 + 1 := ⟨d - 1, by omega⟩
  refine J_aload_n C dX9_paper_0 rfl rfl ?_
  refine J_aload_n C dX9_paper_1 rfl rfl ?_
  refine J_iload_n C dX9_paper_2 rfl rfl ?_
  obtain ⟨hK1, h⟩ := h
  refine K_V C M [vi x1] [vr (some x0)] mi_X9_isCar wg_1526 wg_1528 wg_51 ⟨rfl, by decide⟩ dX9_paper_3 hK1 rfl rfl (by decide) (Nat.le_of_ble_eq_true rfl) (c_X9_isCar (C.2.2.2.2.2.2.2) (by omega) h) (fun v9 S' F' I' hq9 => ?_) K_no rfl
  clear h
  obtain ⟨z2, rfl, rfl, rfl, rfl, h⟩ := hq9
  refine J_if_eq C dX9_paper_6 (tgt := 17) rfl (fun c6 => ?_) (fun c6 => ?_)
  · have h := h.1 c6
    exact S_X9_paper_17 C M (by omega)  h
  · have h := h.2 c6
    refine J_iload_n C dX9_paper_9 rfl rfl ?_
    refine J_if_lt C dX9_paper_10 (tgt := 17) rfl (fun c10 => ?_) (fun c10 => ?_)
    · have h := h.1 c10
      exact S_X9_paper_17 C M (by omega)  h
    · have h := h.2 c10
      refine J_iconst C dX9_paper_13 (rg_of (by decide)) ?_
      refine J_goto C dX9_paper_14 (tgt := 18) rfl ?_
      exact S_X9_paper_18 C M (by omega)  h
theorem c_X9_paper {l : Launch} {G : Gp} {d : Nat} {x0 : Nat} {x1 : Int} {x2 : Int} {S : Shp} {F : Fl} {I : Il} {Q : Int → Fl → Prop} (hl : l.stackTraces = false) (hd : 3 ≤ d) (h : V_X9_paper x0 x1 x2 S F I Q) : CM l G d yX9_paper (.code yX9_paper cX9_paper 5 (some .int)) [vr (some x0), vi x1, vi x2] S F I (qI fun z S' F' I' => S = S' ∧ I = I' ∧ Q z F') noX :=
  CM_ofM [vr (some x0), vi x1, vi x2, vl 0, vl 0] hl (by decide +kernel) (kn1 trivial (kn1 trivial (kn1 trivial kn0))) (Nat.le_of_ble_eq_true rfl) rfl (fun X hX C M => S_X9_paper C M hd h)
set_option maxRecDepth 20000 in
set_option maxHeartbeats 4000000 in
theorem S_X9_wrecks_61 {G : Gp} {X : Xt} {d : Nat} {k28 : Nat → Int → Int → Il → Prop} {x0 : Nat} {x1 : Int} {x3 : Int} {s0 : Int} {s1 : Int} {s2 : Nat} {Q : Il → Prop} {S : Shp} {F : Fl} {I : Il} (C : CO G RX9 cX9_wrecks 4 X) (M : MX d none "wrecks" X) (hd : 1 ≤ d) (hk28 : ∀ (x0 : Nat) (x1 : Int) (x3 : Int) (I' : Il), k28 x0 x1 x3 I' → J G X (QD X G (qV fun S' F' I' => S = S' ∧ F = F' ∧ Q I') noX) 28 [vr (some x0), vi x1, vl 0, vi x3] [] S F I') (h : V_X9_wrecks_61 k28 x0 x1 x3 s0 s1 s2 S F I Q) : J G X (QD X G (qV fun S' F' I' => S = S' ∧ F = F' ∧ Q I') noX) 61 [vr (some x0), vi x1, vl 0, vi x3] [vi s0, vi s1, vr (some s2)] S F I := by
  unfold V_X9_wrecks_61 at h
  obtain ⟨hK1, h⟩ := h
  obtain ⟨h02, hn3, h⟩ := h
  refine J_iast C dX9_wrecks_61 hK1 h02 hn3 ?_
  refine K_iinc C [vr (some x0), vi x1, vl 0, vi (w32 (x3 + 1))] dX9_wrecks_62 rfl rfl ?_
  refine J_goto C dX9_wrecks_65 (tgt := 28) rfl ?_
  exact hk28 x0 x1 (w32 (x3 + 1)) (ui I s2 s1 s0) h
set_option maxRecDepth 20000 in
set_option maxHeartbeats 4000000 in
theorem S_X9_wrecks_28 {G : Gp} {X : Xt} {d : Nat}  {S : Shp} {F : Fl} {Q : Il → Prop} (C : CO G RX9 cX9_wrecks 4 X) (M : MX d none "wrecks" X) (hd : 1 ≤ d) (n9 : Nat)  : ∀ (x0 : Nat) (x1 : Int) (x3 : Int) (I : Il), V_X9_wrecks_28 n9 x0 x1 x3 S F I Q → J G X (QD X G (qV fun S' F' I' => S = S' ∧ F = F' ∧ Q I') noX) 28 [vr (some x0), vi x1, vl 0, vi x3] [] S F I := by
  induction n9 with
  | zero => intro x0 x1 x3 I h; exact h.elim
  | succ n ih =>
    intro x0 x1 x3 I h
    unfold V_X9_wrecks_28 at h
    refine J_iload_n C dX9_wrecks_28 rfl rfl ?_
    refine J_aload_n C dX9_wrecks_29 rfl rfl ?_
    obtain ⟨hK1, h⟩ := h
    refine J_getI C fo_10_6 rfl fl_RX9_181 dX9_wrecks_30 hK1 ?_
    refine J_icmp_ge C dX9_wrecks_33 (tgt := 68) rfl (fun c33 => ?_) (fun c33 => ?_)
    · have h := h.1 c33
      exact J_vret C dX9_wrecks_68 M.2.2.1 ⟨rfl, rfl, rfl, h⟩
    · have h := h.2 c33
      refine J_aload_n C dX9_wrecks_36 rfl rfl ?_
      obtain ⟨r2, hr3, h⟩ := h
      refine J_getR C fo_10_17 rfl fl_RX9_48 dX9_wrecks_37 hK1 hr3 ?_
      refine J_iload_n C dX9_wrecks_40 rfl rfl ?_
      refine J_aload_n C dX9_wrecks_41 rfl rfl ?_
      refine J_getR C fo_10_17 rfl fl_RX9_48 dX9_wrecks_42 hK1 hr3 ?_
      refine J_iload_n C dX9_wrecks_45 rfl rfl ?_
      obtain ⟨hK4, h⟩ := h
      obtain ⟨h05, hn6, h⟩ := h
      refine J_iald C dX9_wrecks_46 hK4 h05 hn6 ?_
      refine J_iload_n C dX9_wrecks_47 rfl rfl ?_
      refine J_icmp_ne C dX9_wrecks_48 (tgt := 55) rfl (fun c48 => ?_) (fun c48 => ?_)
      · have h := h.1 c48
        refine J_aload_n C dX9_wrecks_55 rfl rfl ?_
        refine J_getR C fo_10_17 rfl fl_RX9_48 dX9_wrecks_56 hK1 hr3 ?_
        refine J_iload_n C dX9_wrecks_59 rfl rfl ?_
        obtain ⟨h07, hn8, h⟩ := h
        refine J_iald C dX9_wrecks_60 hK4 h07 hn8 ?_
        exact S_X9_wrecks_61 C M (by omega) (fun y0 y1 y2 I' h9 => ih y0 y1 y2 I' h9) h
      · have h := h.2 c48
        refine J_iconst C dX9_wrecks_51 (rg_of (by decide)) ?_
        refine J_goto C dX9_wrecks_52 (tgt := 61) rfl ?_
        exact S_X9_wrecks_61 C M (by omega) (fun y0 y1 y2 I' h9 => ih y0 y1 y2 I' h9) h
set_option maxRecDepth 20000 in
set_option maxHeartbeats 4000000 in
theorem S_X9_wrecks {G : Gp} {X : Xt} {d : Nat}  {x0 : Nat} {x1 : Int} {x2 : Int} {Q : Il → Prop} {S : Shp} {F : Fl} {I : Il} (C : CO G RX9 cX9_wrecks 4 X) (M : MX d none "wrecks" X) (hd : 1 ≤ d)  (h : V_X9_wrecks x0 x1 x2 S F I Q) : J G X (QD X G (qV fun S' F' I' => S = S' ∧ F = F' ∧ Q I') noX) 0 [vr (some x0), vi x1, vi x2, vl 0] [] S F I := by
  unfold V_X9_wrecks at h
  refine J_aload_n C dX9_wrecks_0 rfl rfl ?_
  obtain ⟨hK1, h⟩ := h
  obtain ⟨r2, hr3, h⟩ := h
  refine J_getR C fo_10_39 rfl fl_RX9_105 dX9_wrecks_1 hK1 hr3 ?_
  refine J_iload_n C dX9_wrecks_4 rfl rfl ?_
  refine J_iconst C dX9_wrecks_5 (rg_of (by decide)) ?_
  obtain ⟨hK4, h⟩ := h
  obtain ⟨h05, hn6, h⟩ := h
  refine J_iast C dX9_wrecks_6 hK4 h05 hn6 ?_
  refine J_aload_n C dX9_wrecks_7 rfl rfl ?_
  obtain ⟨r7, hr8, h⟩ := h
  refine J_getR C fo_10_41 rfl fl_RX9_111 dX9_wrecks_8 hK1 hr8 ?_
  refine J_iload_n C dX9_wrecks_11 rfl rfl ?_
  refine J_iload_n C dX9_wrecks_12 rfl rfl ?_
  obtain ⟨hK9, h⟩ := h
  obtain ⟨h010, hn11, h⟩ := h
  refine J_iast C dX9_wrecks_13 hK9 h010 hn11 ?_
  refine J_aload_n C dX9_wrecks_14 rfl rfl ?_
  obtain ⟨r12, hr13, h⟩ := h
  refine J_getR C fo_10_46 rfl fl_RX9_126 dX9_wrecks_15 hK1 hr13 ?_
  refine J_iload_n C dX9_wrecks_18 rfl rfl ?_
  refine J_aload_n C dX9_wrecks_19 rfl rfl ?_
  obtain ⟨r14, hr15, h⟩ := h
  refine J_getR C fo_10_47 rfl fl_RX9_129 dX9_wrecks_20 hK1 hr15 ?_
  refine J_iload_n C dX9_wrecks_23 rfl rfl ?_
  obtain ⟨hK16, h⟩ := h
  obtain ⟨h017, hn18, h⟩ := h
  refine J_iald C dX9_wrecks_24 hK16 h017 hn18 ?_
  obtain ⟨hK19, h⟩ := h
  obtain ⟨h020, hn21, h⟩ := h
  refine J_iast C dX9_wrecks_25 hK19 h020 hn21 ?_
  refine J_iconst C dX9_wrecks_26 (rg_of (by decide)) ?_
  refine K_istore_n C [vr (some x0), vi x1, vi x2, vi 0] dX9_wrecks_27 rfl (Nat.le_of_ble_eq_true rfl) rfl ?_
  refine J_less [vr (some x0), vi x1, vl 0, vi 0] (by unfold lessL; simp [lessL]) ?_
  obtain ⟨n9, h⟩ := h
  exact S_X9_wrecks_28 C M (by omega) n9  _ _ _ _ h
theorem c_X9_wrecks {l : Launch} {G : Gp} {d : Nat} {x0 : Nat} {x1 : Int} {x2 : Int} {S : Shp} {F : Fl} {I : Il} {Q : Il → Prop} (hl : l.stackTraces = false) (hd : 1 ≤ d) (h : V_X9_wrecks x0 x1 x2 S F I Q) : CM l G d yX9_wrecks (.code yX9_wrecks cX9_wrecks 4 none) [vr (some x0), vi x1, vi x2] S F I (qV fun S' F' I' => S = S' ∧ F = F' ∧ Q I') noX :=
  CM_ofM [vr (some x0), vi x1, vi x2, vl 0] hl (by decide +kernel) (kn1 trivial (kn1 trivial (kn1 trivial kn0))) (Nat.le_of_ble_eq_true rfl) rfl (fun X hX C M => S_X9_wrecks C M hd h)
set_option maxRecDepth 20000 in
set_option maxHeartbeats 4000000 in
theorem S_X9_passSignal_116 {G : Gp} {X : Xt} {d : Nat}  {x0 : Nat} {Q : Int → Fl → Il → Prop} {S : Shp} {F : Fl} {I : Il} (C : CO G RX9 cX9_passSignal 4 X) (M : MX d (some .boolean) "passSignal" X) (hd : 7 ≤ d)  (h : V_X9_passSignal_116 x0 S F I Q) : J G X (QD X G (qI fun z S' F' I' => S = S' ∧ Q z F' I') noX) 116 [vr (some x0), vl 0, vl 0, vl 0] [] S F I := by
  unfold V_X9_passSignal_116 at h
  refine J_aload_n C dX9_passSignal_116 rfl rfl ?_
  refine J_iconst C dX9_passSignal_117 (rg_of (by decide)) ?_
  obtain ⟨hK1, h⟩ := h
  refine J_putI C fo_10_0 fp_10 fl_RX9_174 (Or.inl rfl) (Or.inl rfl) dX9_passSignal_118 hK1 ?_
  refine J_iconst C dX9_passSignal_121 (rg_of (by decide)) ?_
  exact J_zret C dX9_passSignal_122 M.2.2.1 (by decide) ⟨_, rfl, rfl, h⟩
set_option maxRecDepth 20000 in
set_option maxHeartbeats 4000000 in
theorem S_X9_passSignal_77 {G : Gp} {X : Xt} {d : Nat}  {x0 : Nat} {x1 : Int} {x2 : Int} {s0 : Int} {Q : Int → Fl → Il → Prop} {S : Shp} {F : Fl} {I : Il} (C : CO G RX9 cX9_passSignal 4 X) (M : MX d (some .boolean) "passSignal" X) (hd : 7 ≤ d)  (h : V_X9_passSignal_77 x0 x1 x2 s0 S F I Q) : J G X (QD X G (qI fun z S' F' I' => S = S' ∧ Q z F' I') noX) 77 [vr (some x0), vi x1, vi x2, vl 0] [vi s0] S F I := by
  unfold V_X9_passSignal_77 at h
  obtain ⟨d, rfl⟩ : ∃ d9, d = d9 + 1 := ⟨d - 1, by omega⟩
  refine K_istore_n C [vr (some x0), vi x1, vi x2, vi s0] dX9_passSignal_77 rfl (Nat.le_of_ble_eq_true rfl) rfl ?_
  refine J_iload_n C dX9_passSignal_78 rfl rfl ?_
  refine J_iconst C dX9_passSignal_79 (rg_of (by decide)) ?_
  refine J_iconst C dX9_passSignal_80 (rg_of (by decide)) ?_
  refine K_S C M [vi x2, vi 3, vi 5] [] mi_X9_in wg_1414 wg_1415 dX9_passSignal_81 rfl rfl (by decide) (Nat.le_of_ble_eq_true rfl) (c_X9_in (C.2.2.2.2.2.2.2) (by omega) h) (fun v9 S' F' I' hq9 => ?_) K_no rfl
  clear h
  obtain ⟨z1, rfl, rfl, rfl, rfl, h⟩ := hq9
  refine J_if_eq C dX9_passSignal_84 (tgt := 116) rfl (fun c84 => ?_) (fun c84 => ?_)
  · have h := h.1 c84
    refine J_less [vr (some x0), vl 0, vl 0, vl 0] (by unfold lessL; simp [lessL]) ?_
    exact S_X9_passSignal_116 C M (by omega)  h
  · have h := h.2 c84
    refine J_aload_n C dX9_passSignal_87 rfl rfl ?_
    refine J_iload_n C dX9_passSignal_88 rfl rfl ?_
    refine J_bipush C dX9_passSignal_89 (by decide +kernel) (rg_of (by decide)) ?_
    obtain ⟨hK2, h⟩ := h
    refine K_V C M [vi x1, vi 6] [] mi_X9_bar wg_1566 wg_1568 wg_56 ⟨rfl, by decide⟩ dX9_passSignal_91 hK2 rfl rfl (by decide) (Nat.le_of_ble_eq_true rfl) (c_X9_bar (C.2.2.2.2.2.2.2) (by omega) h) (fun v9 S' F' I' hq9 => ?_) K_no rfl
    clear h
    obtain ⟨z3, rfl, rfl, rfl, rfl, h⟩ := hq9
    refine J_if_gt C dX9_passSignal_94 (tgt := 116) rfl (fun c94 => ?_) (fun c94 => ?_)
    · have h := h.1 c94
      refine J_less [vr (some x0), vl 0, vl 0, vl 0] (by unfold lessL; simp [lessL]) ?_
      exact S_X9_passSignal_116 C M (by omega)  h
    · have h := h.2 c94
      refine J_aload_n C dX9_passSignal_97 rfl rfl ?_
      obtain ⟨r4, hr5, h⟩ := h
      refine J_getR C fo_10_17 rfl fl_RX9_48 dX9_passSignal_98 hK2 hr5 ?_
      refine J_iload_n C dX9_passSignal_101 rfl rfl ?_
      obtain ⟨hK6, h⟩ := h
      obtain ⟨h07, hn8, h⟩ := h
      refine J_iald C dX9_passSignal_102 hK6 h07 hn8 ?_
      refine J_iload_n C dX9_passSignal_103 rfl rfl ?_
      refine J_icmp_eq C dX9_passSignal_104 (tgt := 116) rfl (fun c104 => ?_) (fun c104 => ?_)
      · have h := h.1 c104
        refine J_less [vr (some x0), vl 0, vl 0, vl 0] (by unfold lessL; simp [lessL]) ?_
        exact S_X9_passSignal_116 C M (by omega)  h
      · have h := h.2 c104
        refine J_aload_n C dX9_passSignal_107 rfl rfl ?_
        obtain ⟨r9, hr10, h⟩ := h
        refine J_getR C fo_10_12 rfl fl_RX9_32 dX9_passSignal_108 hK2 hr10 ?_
        refine J_iload_n C dX9_passSignal_111 rfl rfl ?_
        obtain ⟨hK11, h⟩ := h
        obtain ⟨h012, hn13, h⟩ := h
        refine J_zald C dX9_passSignal_112 hK11 h012 hn13 ?_
        refine J_if_eq C dX9_passSignal_113 (tgt := 123) rfl (fun c113 => ?_) (fun c113 => ?_)
        · have h := h.1 c113
          refine J_aload_n C dX9_passSignal_123 rfl rfl ?_
          refine J_dup C dX9_passSignal_124 trivial ?_
          refine J_getI C fo_10_2 rfl fl_RX9_7 dX9_passSignal_125 hK2 ?_
          refine J_bipush C dX9_passSignal_128 (by decide +kernel) (rg_of (by decide)) ?_
          refine J_isub C dX9_passSignal_130 ?_
          refine J_putI C fo_10_2 fp_10 fl_RX9_7 (Or.inl rfl) (Or.inl rfl) dX9_passSignal_131 hK2 ?_
          refine J_aload_n C dX9_passSignal_134 rfl rfl ?_
          refine J_iload_n C dX9_passSignal_135 rfl rfl ?_
          refine J_putI C fo_10_4 fp_10 fl_RX9_288 (Or.inl rfl) (Or.inl rfl) dX9_passSignal_136 hK2 ?_
          refine J_aload_n C dX9_passSignal_139 rfl rfl ?_
          refine J_getR C fo_10_17 rfl fl_RX9_48 dX9_passSignal_140 hK2 hr5 ?_
          refine J_iload_n C dX9_passSignal_143 rfl rfl ?_
          obtain ⟨h014, hn15, h⟩ := h
          refine J_iald C dX9_passSignal_144 hK6 h014 hn15 ?_
          refine J_iconst C dX9_passSignal_145 (rg_of (by decide)) ?_
          refine J_icmp_ne C dX9_passSignal_146 (tgt := 156) rfl (fun c146 => ?_) (fun c146 => ?_)
          · have h := h.1 c146
            refine J_aload_n C dX9_passSignal_156 rfl rfl ?_
            refine J_aload_n C dX9_passSignal_157 rfl rfl ?_
            refine J_getR C fo_10_17 rfl fl_RX9_48 dX9_passSignal_158 hK2 hr5 ?_
            refine J_iload_n C dX9_passSignal_161 rfl rfl ?_
            obtain ⟨h016, hn17, h⟩ := h
            refine J_iald C dX9_passSignal_162 hK6 h016 hn17 ?_
            refine J_iload_n C dX9_passSignal_163 rfl rfl ?_
            refine K_V C M [vi (I r4 s0), vi s0] [] mi_X9_wrecks wg_1598 wg_1600 wg_63 ⟨rfl, by decide⟩ dX9_passSignal_164 hK2 rfl rfl (by decide) (Nat.le_of_ble_eq_true rfl) (c_X9_wrecks (C.2.2.2.2.2.2.2) (by omega) h) (fun v9 S' F' I18 hq9 => ?_) K_no rfl
            clear h
            obtain ⟨rfl, rfl, rfl, h⟩ := hq9
            refine J_aload_n C dX9_passSignal_167 rfl rfl ?_
            refine J_iload_n C dX9_passSignal_168 rfl rfl ?_
            refine J_iload_n C dX9_passSignal_169 rfl rfl ?_
            refine K_V C M [vi x1, vi s0] [] mi_X9_wrecks wg_1598 wg_1600 wg_63 ⟨rfl, by decide⟩ dX9_passSignal_170 hK2 rfl rfl (by decide) (Nat.le_of_ble_eq_true rfl) (c_X9_wrecks (C.2.2.2.2.2.2.2) (by omega) h) (fun v9 S' F' I19 hq9 => ?_) K_no rfl
            clear h
            obtain ⟨rfl, rfl, rfl, h⟩ := hq9
            refine J_aload_n C dX9_passSignal_173 rfl rfl ?_
            refine J_getR C fo_10_12 rfl fl_RX9_32 dX9_passSignal_174 hK2 hr10 ?_
            refine J_iload_n C dX9_passSignal_177 rfl rfl ?_
            refine J_iconst C dX9_passSignal_178 (rg_of (by decide)) ?_
            obtain ⟨h020, hn21, h⟩ := h
            refine J_zast C dX9_passSignal_179 hK11 h020 hn21 (by decide) ?_
            refine J_iconst C dX9_passSignal_180 (rg_of (by decide)) ?_
            exact J_zret C dX9_passSignal_181 M.2.2.1 (by decide) ⟨_, rfl, rfl, h⟩
          · have h := h.2 c146
            refine J_aload_n C dX9_passSignal_149 rfl rfl ?_
            refine J_iload_n C dX9_passSignal_150 rfl rfl ?_
            refine K_V C M [vi x1] [] mi_X9_enters wg_1590 wg_1592 wg_62 ⟨rfl, by decide⟩ dX9_passSignal_151 hK2 rfl rfl (by decide) (Nat.le_of_ble_eq_true rfl) (c_X9_enters (C.2.2.2.2.2.2.2) (by omega) h) (fun v9 S' F' I22 hq9 => ?_) K_no rfl
            clear h
            obtain ⟨rfl, rfl, rfl, h⟩ := hq9
            refine J_iconst C dX9_passSignal_154 (rg_of (by decide)) ?_
            exact J_zret C dX9_passSignal_155 M.2.2.1 (by decide) ⟨_, rfl, rfl, h⟩
        · have h := h.2 c113
          refine J_less [vr (some x0), vl 0, vl 0, vl 0] (by unfold lessL; simp [lessL]) ?_
          exact S_X9_passSignal_116 C M (by omega)  h
set_option maxRecDepth 20000 in
set_option maxHeartbeats 4000000 in
theorem S_X9_passSignal_46 {G : Gp} {X : Xt} {d : Nat}  {x0 : Nat} {x1 : Int} {s0 : Int} {Q : Int → Fl → Il → Prop} {S : Shp} {F : Fl} {I : Il} (C : CO G RX9 cX9_passSignal 4 X) (M : MX d (some .boolean) "passSignal" X) (hd : 7 ≤ d)  (h : V_X9_passSignal_46 x0 x1 s0 S F I Q) : J G X (QD X G (qI fun z S' F' I' => S = S' ∧ Q z F' I') noX) 46 [vr (some x0), vi x1, vl 0, vl 0] [vi s0] S F I := by
  unfold V_X9_passSignal_46 at h
  refine K_istore_n C [vr (some x0), vi x1, vi s0, vl 0] dX9_passSignal_46 rfl (Nat.le_of_ble_eq_true rfl) rfl ?_
  refine J_aload_n C dX9_passSignal_47 rfl rfl ?_
  obtain ⟨hK1, h⟩ := h
  obtain ⟨r2, hr3, h⟩ := h
  refine J_getR C fo_10_39 rfl fl_RX9_105 dX9_passSignal_48 hK1 hr3 ?_
  refine J_iload_n C dX9_passSignal_51 rfl rfl ?_
  obtain ⟨hK4, h⟩ := h
  obtain ⟨h05, hn6, h⟩ := h
  refine J_iald C dX9_passSignal_52 hK4 h05 hn6 ?_
  refine J_iconst C dX9_passSignal_53 (rg_of (by decide)) ?_
  refine J_icmp_ne C dX9_passSignal_54 (tgt := 76) rfl (fun c54 => ?_) (fun c54 => ?_)
  · have h := h.1 c54
    refine J_iconst C dX9_passSignal_76 (rg_of (by decide)) ?_
    exact S_X9_passSignal_77 C M (by omega)  h
  · have h := h.2 c54
    refine J_aload_n C dX9_passSignal_57 rfl rfl ?_
    obtain ⟨r7, hr8, h⟩ := h
    refine J_getR C fo_10_45 rfl fl_RX9_123 dX9_passSignal_58 hK1 hr8 ?_
    refine J_bipush C dX9_passSignal_61 (by decide +kernel) (rg_of (by decide)) ?_
    refine J_iload_n C dX9_passSignal_63 rfl rfl ?_
    refine J_imul C dX9_passSignal_64 ?_
    refine J_aload_n C dX9_passSignal_65 rfl rfl ?_
    obtain ⟨r9, hr10, h⟩ := h
    refine J_getR C fo_10_46 rfl fl_RX9_126 dX9_passSignal_66 hK1 hr10 ?_
    refine J_iload_n C dX9_passSignal_69 rfl rfl ?_
    obtain ⟨hK11, h⟩ := h
    obtain ⟨h012, hn13, h⟩ := h
    refine J_iald C dX9_passSignal_70 hK11 h012 hn13 ?_
    refine J_iadd C dX9_passSignal_71 ?_
    obtain ⟨hK14, h⟩ := h
    obtain ⟨h015, hn16, h⟩ := h
    refine J_iald C dX9_passSignal_72 hK14 h015 hn16 ?_
    refine J_goto C dX9_passSignal_73 (tgt := 77) rfl ?_
    exact S_X9_passSignal_77 C M (by omega)  h
set_option maxRecDepth 20000 in
set_option maxHeartbeats 4000000 in
theorem S_X9_passSignal_14 {G : Gp} {X : Xt} {d : Nat}  {x0 : Nat} {x1 : Int} {s0 : Int} {s1 : Nat} {Q : Int → Fl → Il → Prop} {S : Shp} {F : Fl} {I : Il} (C : CO G RX9 cX9_passSignal 4 X) (M : MX d (some .boolean) "passSignal" X) (hd : 7 ≤ d)  (h : V_X9_passSignal_14 x0 x1 s0 s1 S F I Q) : J G X (QD X G (qI fun z S' F' I' => S = S' ∧ Q z F' I') noX) 14 [vr (some x0), vi x1, vl 0, vl 0] [vi s0, vr (some s1)] S F I := by
  unfold V_X9_passSignal_14 at h
  obtain ⟨d, rfl⟩ : ∃ d9, d = d9 + 1 := ⟨d - 1, by omega⟩
  obtain ⟨hK1, h⟩ := h
  refine J_putI C fo_10_0 fp_10 fl_RX9_174 (Or.inl rfl) (Or.inl rfl) dX9_passSignal_14 hK1 ?_
  refine J_aload_n C dX9_passSignal_17 rfl rfl ?_
  obtain ⟨hK2, h⟩ := h
  refine J_getI C fo_10_0 rfl fl_RX9_174 dX9_passSignal_18 hK2 ?_
  refine J_if_le C dX9_passSignal_21 (tgt := 26) rfl (fun c21 => ?_) (fun c21 => ?_)
  · have h := h.1 c21
    refine J_aload_n C dX9_passSignal_26 rfl rfl ?_
    obtain ⟨r3, hr4, h⟩ := h
    refine J_getR C fo_10_39 rfl fl_RX9_105 dX9_passSignal_27 hK2 hr4 ?_
    refine J_iload_n C dX9_passSignal_30 rfl rfl ?_
    obtain ⟨hK5, h⟩ := h
    obtain ⟨h06, hn7, h⟩ := h
    refine J_iald C dX9_passSignal_31 hK5 h06 hn7 ?_
    refine J_iconst C dX9_passSignal_32 (rg_of (by decide)) ?_
    refine J_icmp_ne C dX9_passSignal_33 (tgt := 45) rfl (fun c33 => ?_) (fun c33 => ?_)
    · have h := h.1 c33
      refine J_iconst C dX9_passSignal_45 (rg_of (by decide)) ?_
      exact S_X9_passSignal_46 C M (by omega)  h
    · have h := h.2 c33
      refine J_aload_n C dX9_passSignal_36 rfl rfl ?_
      refine J_iload_n C dX9_passSignal_37 rfl rfl ?_
      refine J_iconst C dX9_passSignal_38 (rg_of (by decide)) ?_
      refine K_V C M [vi x1, vi 1] [] mi_X9_bar wg_1566 wg_1568 wg_56 ⟨rfl, by decide⟩ dX9_passSignal_39 hK2 rfl rfl (by decide) (Nat.le_of_ble_eq_true rfl) (c_X9_bar (C.2.2.2.2.2.2.2) (by omega) h) (fun v9 S' F' I' hq9 => ?_) K_no rfl
      clear h
      obtain ⟨z8, rfl, rfl, rfl, rfl, h⟩ := hq9
      refine J_goto C dX9_passSignal_42 (tgt := 46) rfl ?_
      exact S_X9_passSignal_46 C M (by omega)  h
  · have h := h.2 c21
    refine J_iconst C dX9_passSignal_24 (rg_of (by decide)) ?_
    exact J_zret C dX9_passSignal_25 M.2.2.1 (by decide) ⟨_, rfl, rfl, h⟩
set_option maxRecDepth 20000 in
set_option maxHeartbeats 4000000 in
theorem S_X9_passSignal {G : Gp} {X : Xt} {d : Nat}  {x0 : Nat} {x1 : Int} {Q : Int → Fl → Il → Prop} {S : Shp} {F : Fl} {I : Il} (C : CO G RX9 cX9_passSignal 4 X) (M : MX d (some .boolean) "passSignal" X) (hd : 7 ≤ d)  (h : V_X9_passSignal x0 x1 S F I Q) : J G X (QD X G (qI fun z S' F' I' => S = S' ∧ Q z F' I') noX) 0 [vr (some x0), vi x1, vl 0, vl 0] [] S F I := by
  unfold V_X9_passSignal at h
  obtain ⟨d, rfl⟩ : ∃ d9, d = d9 + 1 := ⟨d - 1, by omega⟩
  refine J_aload_n C dX9_passSignal_0 rfl rfl ?_
  refine J_aload_n C dX9_passSignal_1 rfl rfl ?_
  refine J_iload_n C dX9_passSignal_2 rfl rfl ?_
  obtain ⟨hK1, h⟩ := h
  refine K_V C M [vi x1] [vr (some x0)] mi_X9_isTrain wg_1510 wg_1512 wg_48 ⟨rfl, by decide⟩ dX9_passSignal_3 hK1 rfl rfl (by decide) (Nat.le_of_ble_eq_true rfl) (c_X9_isTrain (C.2.2.2.2.2.2.2) (by omega) h) (fun v9 S' F' I' hq9 => ?_) K_no rfl
  clear h
  obtain ⟨z2, rfl, rfl, rfl, rfl, h⟩ := hq9
  refine J_if_eq C dX9_passSignal_6 (tgt := 13) rfl (fun c6 => ?_) (fun c6 => ?_)
  · have h := h.1 c6
    refine J_iconst C dX9_passSignal_13 (rg_of (by decide)) ?_
    exact S_X9_passSignal_14 C M (by omega)  h
  · have h := h.2 c6
    refine J_iconst C dX9_passSignal_9 (rg_of (by decide)) ?_
    refine J_goto C dX9_passSignal_10 (tgt := 14) rfl ?_
    exact S_X9_passSignal_14 C M (by omega)  h
theorem c_X9_passSignal {l : Launch} {G : Gp} {d : Nat} {x0 : Nat} {x1 : Int} {S : Shp} {F : Fl} {I : Il} {Q : Int → Fl → Il → Prop} (hl : l.stackTraces = false) (hd : 7 ≤ d) (h : V_X9_passSignal x0 x1 S F I Q) : CM l G d yX9_passSignal (.code yX9_passSignal cX9_passSignal 4 (some .boolean)) [vr (some x0), vi x1] S F I (qI fun z S' F' I' => S = S' ∧ Q z F' I') noX :=
  CM_ofM [vr (some x0), vi x1, vl 0, vl 0] hl (by decide +kernel) (kn1 trivial (kn1 trivial kn0)) (Nat.le_of_ble_eq_true rfl) rfl (fun X hX C M => S_X9_passSignal C M hd h)
set_option maxRecDepth 20000 in
set_option maxHeartbeats 4000000 in
theorem S_X9_pays_77 {G : Gp} {X : Xt} {d : Nat} {k19 : Nat → Int → Fl → Prop} {x0 : Nat} {x1 : Int} {s0 : Int} {s1 : Int} {s2 : Nat} {Q : Fl → Prop} {S : Shp} {F : Fl} {I : Il} (C : CO G RX9 cX9_pays 2 X) (M : MX d none "pays" X) (hd : 1 ≤ d) (hk19 : ∀ (x0 : Nat) (x1 : Int) (F' : Fl), k19 x0 x1 F' → J G X (QD X G (qV fun S' F' I' => S = S' ∧ I = I' ∧ Q F') noX) 19 [vr (some x0), vi x1] [] S F' I) (h : V_X9_pays_77 k19 x0 x1 s0 s1 s2 S F I Q) : J G X (QD X G (qV fun S' F' I' => S = S' ∧ I = I' ∧ Q F') noX) 77 [vr (some x0), vi x1] [vi s0, vi s1, vr (some s2)] S F I := by
  unfold V_X9_pays_77 at h
  refine J_iadd C dX9_pays_77 ?_
  obtain ⟨hK1, h⟩ := h
  refine J_putI C fo_10_2 fp_10 fl_RX9_7 (Or.inl rfl) (Or.inl rfl) dX9_pays_78 hK1 ?_
  refine K_iinc C [vr (some x0), vi (w32 (x1 + 1))] dX9_pays_81 rfl rfl ?_
  refine J_goto C dX9_pays_84 (tgt := 19) rfl ?_
  exact hk19 x0 (w32 (x1 + 1)) (u2 F 1002 s2 (w32 (s1 + s0))) h
set_option maxRecDepth 20000 in
set_option maxHeartbeats 4000000 in
theorem S_X9_pays_76 {G : Gp} {X : Xt} {d : Nat} {k19 : Nat → Int → Fl → Prop} {x0 : Nat} {x1 : Int} {s0 : Int} {s1 : Nat} {Q : Fl → Prop} {S : Shp} {F : Fl} {I : Il} (C : CO G RX9 cX9_pays 2 X) (M : MX d none "pays" X) (hd : 1 ≤ d) (hk19 : ∀ (x0 : Nat) (x1 : Int) (F' : Fl), k19 x0 x1 F' → J G X (QD X G (qV fun S' F' I' => S = S' ∧ I = I' ∧ Q F') noX) 19 [vr (some x0), vi x1] [] S F' I) (h : V_X9_pays_76 k19 x0 x1 s0 s1 S F I Q) : J G X (QD X G (qV fun S' F' I' => S = S' ∧ I = I' ∧ Q F') noX) 76 [vr (some x0), vi x1] [vi s0, vr (some s1)] S F I := by
  unfold V_X9_pays_76 at h
  refine J_iconst C dX9_pays_76 (rg_of (by decide)) ?_
  exact S_X9_pays_77 C M (by omega) hk19 h
set_option maxRecDepth 20000 in
set_option maxHeartbeats 4000000 in
theorem S_X9_pays_19 {G : Gp} {X : Xt} {d : Nat}  {S : Shp} {I : Il} {Q : Fl → Prop} (C : CO G RX9 cX9_pays 2 X) (M : MX d none "pays" X) (hd : 1 ≤ d) (n9 : Nat)  : ∀ (x0 : Nat) (x1 : Int) (F : Fl), V_X9_pays_19 n9 x0 x1 S F I Q → J G X (QD X G (qV fun S' F' I' => S = S' ∧ I = I' ∧ Q F') noX) 19 [vr (some x0), vi x1] [] S F I := by
  induction n9 with
  | zero => intro x0 x1 F h; exact h.elim
  | succ n ih =>
    intro x0 x1 F h
    unfold V_X9_pays_19 at h
    refine J_iload_n C dX9_pays_19 rfl rfl ?_
    refine J_aload_n C dX9_pays_20 rfl rfl ?_
    obtain ⟨hK1, h⟩ := h
    refine J_getI C fo_10_29 rfl fl_RX9_184 dX9_pays_21 hK1 ?_
    refine J_icmp_ge C dX9_pays_24 (tgt := 87) rfl (fun c24 => ?_) (fun c24 => ?_)
    · have h := h.1 c24
      exact J_vret C dX9_pays_87 M.2.2.1 ⟨rfl, rfl, rfl, h⟩
    · have h := h.2 c24
      refine J_aload_n C dX9_pays_27 rfl rfl ?_
      refine J_dup C dX9_pays_28 trivial ?_
      refine J_getI C fo_10_2 rfl fl_RX9_7 dX9_pays_29 hK1 ?_
      refine J_aload_n C dX9_pays_32 rfl rfl ?_
      obtain ⟨r2, hr3, h⟩ := h
      refine J_getR C fo_10_33 rfl fl_RX9_87 dX9_pays_33 hK1 hr3 ?_
      refine J_iload_n C dX9_pays_36 rfl rfl ?_
      obtain ⟨hK4, h⟩ := h
      obtain ⟨h05, hn6, h⟩ := h
      refine J_iald C dX9_pays_37 hK4 h05 hn6 ?_
      refine J_iconst C dX9_pays_38 (rg_of (by decide)) ?_
      refine J_icmp_eq C dX9_pays_39 (tgt := 76) rfl (fun c39 => ?_) (fun c39 => ?_)
      · have h := h.1 c39
        exact S_X9_pays_76 C M (by omega) (fun y0 y1 F' h9 => ih y0 y1 F' h9) h
      · have h := h.2 c39
        refine J_aload_n C dX9_pays_42 rfl rfl ?_
        obtain ⟨r7, hr8, h⟩ := h
        refine J_getR C fo_10_32 rfl fl_RX9_84 dX9_pays_43 hK1 hr8 ?_
        refine J_iload_n C dX9_pays_46 rfl rfl ?_
        obtain ⟨hK9, h⟩ := h
        obtain ⟨h010, hn11, h⟩ := h
        refine J_iald C dX9_pays_47 hK9 h010 hn11 ?_
        refine J_iconst C dX9_pays_48 (rg_of (by decide)) ?_
        refine J_icmp_ne C dX9_pays_49 (tgt := 76) rfl (fun c49 => ?_) (fun c49 => ?_)
        · have h := h.1 c49
          exact S_X9_pays_76 C M (by omega) (fun y0 y1 F' h9 => ih y0 y1 F' h9) h
        · have h := h.2 c49
          refine J_aload_n C dX9_pays_52 rfl rfl ?_
          obtain ⟨r12, hr13, h⟩ := h
          refine J_getR C fo_10_56 rfl fl_RX9_150 dX9_pays_53 hK1 hr13 ?_
          refine J_aload_n C dX9_pays_56 rfl rfl ?_
          refine J_getR C fo_10_33 rfl fl_RX9_87 dX9_pays_57 hK1 hr3 ?_
          refine J_iload_n C dX9_pays_60 rfl rfl ?_
          obtain ⟨h014, hn15, h⟩ := h
          refine J_iald C dX9_pays_61 hK4 h014 hn15 ?_
          obtain ⟨hK16, h⟩ := h
          obtain ⟨h017, hn18, h⟩ := h
          refine J_iald C dX9_pays_62 hK16 h017 hn18 ?_
          refine J_aload_n C dX9_pays_63 rfl rfl ?_
          obtain ⟨r19, hr20, h⟩ := h
          refine J_getR C fo_10_31 rfl fl_RX9_81 dX9_pays_64 hK1 hr20 ?_
          refine J_iload_n C dX9_pays_67 rfl rfl ?_
          obtain ⟨hK21, h⟩ := h
          obtain ⟨h022, hn23, h⟩ := h
          refine J_iald C dX9_pays_68 hK21 h022 hn23 ?_
          refine J_icmp_ne C dX9_pays_69 (tgt := 76) rfl (fun c69 => ?_) (fun c69 => ?_)
          · have h := h.1 c69
            exact S_X9_pays_76 C M (by omega) (fun y0 y1 F' h9 => ih y0 y1 F' h9) h
          · have h := h.2 c69
            refine J_iconst C dX9_pays_72 (rg_of (by decide)) ?_
            refine J_goto C dX9_pays_73 (tgt := 77) rfl ?_
            exact S_X9_pays_77 C M (by omega) (fun y0 y1 F' h9 => ih y0 y1 F' h9) h
set_option maxRecDepth 20000 in
set_option maxHeartbeats 4000000 in
theorem S_X9_pays {G : Gp} {X : Xt} {d : Nat}  {x0 : Nat} {Q : Fl → Prop} {S : Shp} {F : Fl} {I : Il} (C : CO G RX9 cX9_pays 2 X) (M : MX d none "pays" X) (hd : 1 ≤ d)  (h : V_X9_pays x0 S F I Q) : J G X (QD X G (qV fun S' F' I' => S = S' ∧ I = I' ∧ Q F') noX) 0 [vr (some x0), vl 0] [] S F I := by
  unfold V_X9_pays at h
  refine J_aload_n C dX9_pays_0 rfl rfl ?_
  refine J_dup C dX9_pays_1 trivial ?_
  obtain ⟨hK1, h⟩ := h
  refine J_getI C fo_10_2 rfl fl_RX9_7 dX9_pays_2 hK1 ?_
  refine J_aload_n C dX9_pays_5 rfl rfl ?_
  refine J_getI C fo_10_3 rfl fl_RX9_230 dX9_pays_6 hK1 ?_
  refine J_sipush C dX9_pays_9 (by decide +kernel) (rg_of (by decide)) ?_
  refine J_idiv C dX9_pays_12 (by decide) ?_
  refine J_isub C dX9_pays_13 ?_
  refine J_putI C fo_10_2 fp_10 fl_RX9_7 (Or.inl rfl) (Or.inl rfl) dX9_pays_14 hK1 ?_
  refine J_iconst C dX9_pays_17 (rg_of (by decide)) ?_
  refine K_istore_n C [vr (some x0), vi 0] dX9_pays_18 rfl (Nat.le_of_ble_eq_true rfl) rfl ?_
  obtain ⟨n9, h⟩ := h
  exact S_X9_pays_19 C M (by omega) n9  _ _ _ h
theorem c_X9_pays {l : Launch} {G : Gp} {d : Nat} {x0 : Nat} {S : Shp} {F : Fl} {I : Il} {Q : Fl → Prop} (hl : l.stackTraces = false) (hd : 1 ≤ d) (h : V_X9_pays x0 S F I Q) : CM l G d yX9_pays (.code yX9_pays cX9_pays 2 none) [vr (some x0)] S F I (qV fun S' F' I' => S = S' ∧ I = I' ∧ Q F') noX :=
  CM_ofM [vr (some x0), vl 0] hl (by decide +kernel) (kn1 trivial kn0) (Nat.le_of_ble_eq_true rfl) rfl (fun X hX C M => S_X9_pays C M hd h)
set_option maxRecDepth 20000 in
set_option maxHeartbeats 4000000 in
theorem S_X9_plan_119 {G : Gp} {X : Xt} {d : Nat}  {x0 : Nat} {Q : Int → Fl → Il → Prop} {S : Shp} {F : Fl} {I : Il} (C : CO G RX9 cX9_plan 6 X) (M : MX d (some .int) "plan" X) (hd : 3 ≤ d)  (h : V_X9_plan_119 x0 S F I Q) : J G X (QD X G (qI fun z S' F' I' => S = S' ∧ Q z F' I') noX) 119 [vr (some x0), vl 0, vl 0, vl 0, vl 0, vl 0] [] S F I := by
  unfold V_X9_plan_119 at h
  obtain ⟨d, rfl⟩ : ∃ d9, d = d9 + 1 := ⟨d - 1, by omega⟩
  refine J_aload_n C dX9_plan_119 rfl rfl ?_
  refine J_iconst C dX9_plan_120 (rg_of (by decide)) ?_
  obtain ⟨hK1, h⟩ := h
  refine K_V C M [vi 3] [] mi_X9_fails wg_1502 wg_1504 wg_47 ⟨rfl, by decide⟩ dX9_plan_121 hK1 rfl rfl (by decide) (Nat.le_of_ble_eq_true rfl) (c_X9_fails (C.2.2.2.2.2.2.2) (by omega) h) (fun v9 S' F3 I' hq9 => ?_) K_no rfl
  clear h
  obtain ⟨z2, rfl, rfl, rfl, h⟩ := hq9
  exact J_iret C dX9_plan_124 M.2.2.1 ⟨_, rfl, rfl, h⟩
set_option maxRecDepth 20000 in
set_option maxHeartbeats 4000000 in
theorem S_X9_plan_128 {G : Gp} {X : Xt} {d : Nat}  {S : Shp} {Q : Int → Fl → Il → Prop} (C : CO G RX9 cX9_plan 6 X) (M : MX d (some .int) "plan" X) (hd : 3 ≤ d) (n9 : Nat)  : ∀ (x0 : Nat) (x1 : Int) (x2 : Int) (x3 : Int) (x4 : Int) (x5 : Int) (F : Fl) (I : Il), V_X9_plan_128 n9 x0 x1 x2 x3 x4 x5 S F I Q → J G X (QD X G (qI fun z S' F' I' => S = S' ∧ Q z F' I') noX) 128 [vr (some x0), vi x1, vi x2, vi x3, vi x4, vi x5] [] S F I := by
  induction n9 with
  | zero => intro x0 x1 x2 x3 x4 x5 F I h; exact h.elim
  | succ n ih =>
    intro x0 x1 x2 x3 x4 x5 F I h
    unfold V_X9_plan_128 at h
    refine J_iload C dX9_plan_128 rfl ?_
    refine J_aload_n C dX9_plan_130 rfl rfl ?_
    obtain ⟨hK1, h⟩ := h
    refine J_getI C fo_10_52 rfl fl_RX9_249 dX9_plan_131 hK1 ?_
    refine J_icmp_ge C dX9_plan_134 (tgt := 162) rfl (fun c134 => ?_) (fun c134 => ?_)
    · have h := h.1 c134
      refine J_aload_n C dX9_plan_162 rfl rfl ?_
      obtain ⟨r2, hr3, h⟩ := h
      refine J_getR C fo_10_46 rfl fl_RX9_126 dX9_plan_163 hK1 hr3 ?_
      refine J_iload_n C dX9_plan_166 rfl rfl ?_
      refine J_iconst C dX9_plan_167 (rg_of (by decide)) ?_
      obtain ⟨hK4, h⟩ := h
      obtain ⟨h05, hn6, h⟩ := h
      refine J_iast C dX9_plan_168 hK4 h05 hn6 ?_
      refine J_aload_n C dX9_plan_169 rfl rfl ?_
      obtain ⟨r7, hr8, h⟩ := h
      refine J_getR C fo_10_47 rfl fl_RX9_129 dX9_plan_170 hK1 hr8 ?_
      refine J_iload_n C dX9_plan_173 rfl rfl ?_
      refine J_aload_n C dX9_plan_174 rfl rfl ?_
      refine J_getI C fo_10_52 rfl fl_RX9_249 dX9_plan_175 hK1 ?_
      obtain ⟨hK9, h⟩ := h
      obtain ⟨h010, hn11, h⟩ := h
      refine J_iast C dX9_plan_178 hK9 h010 hn11 ?_
      refine J_aload_n C dX9_plan_179 rfl rfl ?_
      obtain ⟨r12, hr13, h⟩ := h
      refine J_getR C fo_10_48 rfl fl_RX9_132 dX9_plan_180 hK1 hr13 ?_
      refine J_iload_n C dX9_plan_183 rfl rfl ?_
      refine J_iload_n C dX9_plan_184 rfl rfl ?_
      obtain ⟨hK14, h⟩ := h
      obtain ⟨h015, hn16, h⟩ := h
      refine J_iast C dX9_plan_185 hK14 h015 hn16 ?_
      refine J_aload_n C dX9_plan_186 rfl rfl ?_
      obtain ⟨r17, hr18, h⟩ := h
      refine J_getR C fo_10_49 rfl fl_RX9_135 dX9_plan_187 hK1 hr18 ?_
      refine J_iload_n C dX9_plan_190 rfl rfl ?_
      refine J_iload_n C dX9_plan_191 rfl rfl ?_
      obtain ⟨hK19, h⟩ := h
      obtain ⟨h020, hn21, h⟩ := h
      refine J_iast C dX9_plan_192 hK19 h020 hn21 ?_
      refine J_aload_n C dX9_plan_193 rfl rfl ?_
      obtain ⟨r22, hr23, h⟩ := h
      refine J_getR C fo_10_39 rfl fl_RX9_105 dX9_plan_194 hK1 hr23 ?_
      refine J_iload_n C dX9_plan_197 rfl rfl ?_
      refine J_iconst C dX9_plan_198 (rg_of (by decide)) ?_
      obtain ⟨hK24, h⟩ := h
      obtain ⟨h025, hn26, h⟩ := h
      refine J_iast C dX9_plan_199 hK24 h025 hn26 ?_
      refine J_aload_n C dX9_plan_200 rfl rfl ?_
      refine J_iconst C dX9_plan_201 (rg_of (by decide)) ?_
      refine J_putI C fo_10_52 fp_10 fl_RX9_249 (Or.inl rfl) (Or.inl rfl) dX9_plan_202 hK1 ?_
      refine J_iload C dX9_plan_205 rfl ?_
      exact J_iret C dX9_plan_207 M.2.2.1 ⟨_, rfl, rfl, h⟩
    · have h := h.2 c134
      refine J_aload_n C dX9_plan_137 rfl rfl ?_
      obtain ⟨r27, hr28, h⟩ := h
      refine J_getR C fo_10_45 rfl fl_RX9_123 dX9_plan_138 hK1 hr28 ?_
      refine J_bipush C dX9_plan_141 (by decide +kernel) (rg_of (by decide)) ?_
      refine J_iload_n C dX9_plan_143 rfl rfl ?_
      refine J_imul C dX9_plan_144 ?_
      refine J_iload C dX9_plan_145 rfl ?_
      refine J_iadd C dX9_plan_147 ?_
      refine J_aload_n C dX9_plan_148 rfl rfl ?_
      obtain ⟨r29, hr30, h⟩ := h
      refine J_getR C fo_10_53 rfl fl_RX9_144 dX9_plan_149 hK1 hr30 ?_
      refine J_iload C dX9_plan_152 rfl ?_
      obtain ⟨hK31, h⟩ := h
      obtain ⟨h032, hn33, h⟩ := h
      refine J_iald C dX9_plan_154 hK31 h032 hn33 ?_
      obtain ⟨hK34, h⟩ := h
      obtain ⟨h035, hn36, h⟩ := h
      refine J_iast C dX9_plan_155 hK34 h035 hn36 ?_
      refine K_iinc C [vr (some x0), vi x1, vi x2, vi x3, vi x4, vi (w32 (x5 + 1))] dX9_plan_156 rfl rfl ?_
      refine J_goto C dX9_plan_159 (tgt := 128) rfl ?_
      exact ih _ _ _ _ _ _ _ _ h
set_option maxRecDepth 20000 in
set_option maxHeartbeats 4000000 in
theorem S_X9_plan_98 {G : Gp} {X : Xt} {d : Nat}  {x0 : Nat} {x1 : Int} {x2 : Int} {x3 : Int} {x4 : Int} {Q : Int → Fl → Il → Prop} {S : Shp} {F : Fl} {I : Il} (C : CO G RX9 cX9_plan 6 X) (M : MX d (some .int) "plan" X) (hd : 3 ≤ d)  (h : V_X9_plan_98 x0 x1 x2 x3 x4 S F I Q) : J G X (QD X G (qI fun z S' F' I' => S = S' ∧ Q z F' I') noX) 98 [vr (some x0), vi x1, vi x2, vi x3, vi x4, vl 0] [] S F I := by
  unfold V_X9_plan_98 at h
  obtain ⟨d, rfl⟩ : ∃ d9, d = d9 + 1 := ⟨d - 1, by omega⟩
  refine J_aload_n C dX9_plan_98 rfl rfl ?_
  refine J_iload_n C dX9_plan_99 rfl rfl ?_
  obtain ⟨hK1, h⟩ := h
  refine K_V C M [vi x1] [] mi_X9_stands wg_1473 wg_1475 wg_44 ⟨rfl, by decide⟩ dX9_plan_100 hK1 rfl rfl (by decide) (Nat.le_of_ble_eq_true rfl) (c_X9_stands (C.2.2.2.2.2.2.2) (by omega) h) (fun v9 S' F' I' hq9 => ?_) K_no rfl
  clear h
  obtain ⟨z2, rfl, rfl, rfl, rfl, h⟩ := hq9
  refine J_if_eq C dX9_plan_103 (tgt := 119) rfl (fun c103 => ?_) (fun c103 => ?_)
  · have h := h.1 c103
    refine J_less [vr (some x0), vl 0, vl 0, vl 0, vl 0, vl 0] (by unfold lessL; simp [lessL]) ?_
    exact S_X9_plan_119 C M (by omega)  h
  · have h := h.2 c103
    refine J_aload_n C dX9_plan_106 rfl rfl ?_
    refine J_getI C fo_10_52 rfl fl_RX9_249 dX9_plan_107 hK1 ?_
    refine J_if_eq C dX9_plan_110 (tgt := 119) rfl (fun c110 => ?_) (fun c110 => ?_)
    · have h := h.1 c110
      refine J_less [vr (some x0), vl 0, vl 0, vl 0, vl 0, vl 0] (by unfold lessL; simp [lessL]) ?_
      exact S_X9_plan_119 C M (by omega)  h
    · have h := h.2 c110
      refine J_iload C dX9_plan_113 rfl ?_
      refine J_iconst C dX9_plan_115 (rg_of (by decide)) ?_
      refine J_icmp_ne C dX9_plan_116 (tgt := 125) rfl (fun c116 => ?_) (fun c116 => ?_)
      · have h := h.1 c116
        refine J_iconst C dX9_plan_125 (rg_of (by decide)) ?_
        refine K_istore C [vr (some x0), vi x1, vi x2, vi x3, vi x4, vi 0] dX9_plan_126 (Nat.le_of_ble_eq_true rfl) rfl ?_
        obtain ⟨n9, h⟩ := h
        exact S_X9_plan_128 C M (by omega) n9  _ _ _ _ _ _ _ _ h
      · have h := h.2 c116
        refine J_less [vr (some x0), vl 0, vl 0, vl 0, vl 0, vl 0] (by unfold lessL; simp [lessL]) ?_
        exact S_X9_plan_119 C M (by omega)  h
set_option maxRecDepth 20000 in
set_option maxHeartbeats 4000000 in
theorem S_X9_plan_62 {G : Gp} {X : Xt} {d : Nat}  {S : Shp} {Q : Int → Fl → Il → Prop} (C : CO G RX9 cX9_plan 6 X) (M : MX d (some .int) "plan" X) (hd : 3 ≤ d) (n9 : Nat)  : ∀ (x0 : Nat) (x1 : Int) (x2 : Int) (x3 : Int) (x4 : Int) (x5 : Int) (F : Fl) (I : Il), V_X9_plan_62 n9 x0 x1 x2 x3 x4 x5 S F I Q → J G X (QD X G (qI fun z S' F' I' => S = S' ∧ Q z F' I') noX) 62 [vr (some x0), vi x1, vi x2, vi x3, vi x4, vi x5] [] S F I := by
  obtain ⟨d, rfl⟩ : ∃ d9, d = d9 + 1 := ⟨d - 1, by omega⟩
  induction n9 with
  | zero => intro x0 x1 x2 x3 x4 x5 F I h; exact h.elim
  | succ n ih =>
    intro x0 x1 x2 x3 x4 x5 F I h
    unfold V_X9_plan_62 at h
    refine J_iload C dX9_plan_62 rfl ?_
    refine J_aload_n C dX9_plan_64 rfl rfl ?_
    obtain ⟨hK1, h⟩ := h
    refine J_getI C fo_10_52 rfl fl_RX9_249 dX9_plan_65 hK1 ?_
    refine J_icmp_ge C dX9_plan_68 (tgt := 98) rfl (fun c68 => ?_) (fun c68 => ?_)
    · have h := h.1 c68
      refine J_less [vr (some x0), vi x1, vi x2, vi x3, vi x4, vl 0] (by unfold lessL; simp [lessL]) ?_
      exact S_X9_plan_98 C M (by omega)  h
    · have h := h.2 c68
      refine J_iload C dX9_plan_71 rfl ?_
      refine J_iconst C dX9_plan_73 (rg_of (by decide)) ?_
      refine J_icmp_eq C dX9_plan_74 (tgt := 98) rfl (fun c74 => ?_) (fun c74 => ?_)
      · have h := h.1 c74
        refine J_less [vr (some x0), vi x1, vi x2, vi x3, vi x4, vl 0] (by unfold lessL; simp [lessL]) ?_
        exact S_X9_plan_98 C M (by omega)  h
      · have h := h.2 c74
        refine J_aload_n C dX9_plan_77 rfl rfl ?_
        refine J_aload_n C dX9_plan_78 rfl rfl ?_
        obtain ⟨r2, hr3, h⟩ := h
        refine J_getR C fo_10_53 rfl fl_RX9_144 dX9_plan_79 hK1 hr3 ?_
        refine J_iload C dX9_plan_82 rfl ?_
        obtain ⟨hK4, h⟩ := h
        obtain ⟨h05, hn6, h⟩ := h
        refine J_iald C dX9_plan_84 hK4 h05 hn6 ?_
        refine J_iload C dX9_plan_85 rfl ?_
        refine K_V C M [vi (I r2 x5), vi x4] [] mi_X9_other wg_1542 wg_1544 wg_52 ⟨rfl, by decide⟩ dX9_plan_87 hK1 rfl rfl (by decide) (Nat.le_of_ble_eq_true rfl) (c_X9_other (C.2.2.2.2.2.2.2) (by omega) h) (fun v9 S' F' I' hq9 => ?_) K_no rfl
        clear h
        obtain ⟨z7, rfl, rfl, rfl, rfl, h⟩ := hq9
        refine K_istore C [vr (some x0), vi x1, vi x2, vi x3, vi z7, vi x5] dX9_plan_90 (Nat.le_of_ble_eq_true rfl) rfl ?_
        refine K_iinc C [vr (some x0), vi x1, vi x2, vi x3, vi z7, vi (w32 (x5 + 1))] dX9_plan_92 rfl rfl ?_
        refine J_goto C dX9_plan_95 (tgt := 62) rfl ?_
        exact ih _ _ _ _ _ _ _ _ h
set_option maxRecDepth 20000 in
set_option maxHeartbeats 4000000 in
theorem S_X9_plan_39 {G : Gp} {X : Xt} {d : Nat}  {x0 : Nat} {x1 : Int} {x2 : Int} {x3 : Int} {s0 : Int} {s1 : Nat} {Q : Int → Fl → Il → Prop} {S : Shp} {F : Fl} {I : Il} (C : CO G RX9 cX9_plan 6 X) (M : MX d (some .int) "plan" X) (hd : 3 ≤ d)  (h : V_X9_plan_39 x0 x1 x2 x3 s0 s1 S F I Q) : J G X (QD X G (qI fun z S' F' I' => S = S' ∧ Q z F' I') noX) 39 [vr (some x0), vi x1, vi x2, vi x3, vl 0, vl 0] [vi s0, vr (some s1)] S F I := by
  unfold V_X9_plan_39 at h
  obtain ⟨hK1, h⟩ := h
  refine J_putI C fo_10_0 fp_10 fl_RX9_174 (Or.inl rfl) (Or.inl rfl) dX9_plan_39 hK1 ?_
  refine J_aload_n C dX9_plan_42 rfl rfl ?_
  obtain ⟨hK2, h⟩ := h
  refine J_getI C fo_10_0 rfl fl_RX9_174 dX9_plan_43 hK2 ?_
  refine J_if_le C dX9_plan_46 (tgt := 51) rfl (fun c46 => ?_) (fun c46 => ?_)
  · have h := h.1 c46
    refine J_aload_n C dX9_plan_51 rfl rfl ?_
    obtain ⟨r3, hr4, h⟩ := h
    refine J_getR C fo_10_40 rfl fl_RX9_108 dX9_plan_52 hK2 hr4 ?_
    refine J_iload_n C dX9_plan_55 rfl rfl ?_
    obtain ⟨hK5, h⟩ := h
    obtain ⟨h06, hn7, h⟩ := h
    refine J_iald C dX9_plan_56 hK5 h06 hn7 ?_
    refine K_istore C [vr (some x0), vi x1, vi x2, vi x3, vi (I r3 x1), vl 0] dX9_plan_57 (Nat.le_of_ble_eq_true rfl) rfl ?_
    refine J_iconst C dX9_plan_59 (rg_of (by decide)) ?_
    refine K_istore C [vr (some x0), vi x1, vi x2, vi x3, vi (I r3 x1), vi 0] dX9_plan_60 (Nat.le_of_ble_eq_true rfl) rfl ?_
    obtain ⟨n9, h⟩ := h
    exact S_X9_plan_62 C M (by omega) n9  _ _ _ _ _ _ _ _ h
  · have h := h.2 c46
    refine J_iconst C dX9_plan_49 (rg_of (by decide)) ?_
    exact J_iret C dX9_plan_50 M.2.2.1 ⟨_, rfl, rfl, h⟩
set_option maxRecDepth 20000 in
set_option maxHeartbeats 4000000 in
theorem S_X9_plan_34 {G : Gp} {X : Xt} {d : Nat}  {x0 : Nat} {x1 : Int} {x2 : Int} {x3 : Int} {s0 : Nat} {Q : Int → Fl → Il → Prop} {S : Shp} {F : Fl} {I : Il} (C : CO G RX9 cX9_plan 6 X) (M : MX d (some .int) "plan" X) (hd : 3 ≤ d)  (h : V_X9_plan_34 x0 x1 x2 x3 s0 S F I Q) : J G X (QD X G (qI fun z S' F' I' => S = S' ∧ Q z F' I') noX) 34 [vr (some x0), vi x1, vi x2, vi x3, vl 0, vl 0] [vr (some s0)] S F I := by
  unfold V_X9_plan_34 at h
  refine J_iconst C dX9_plan_34 (rg_of (by decide)) ?_
  refine J_goto C dX9_plan_35 (tgt := 39) rfl ?_
  exact S_X9_plan_39 C M (by omega)  h
set_option maxRecDepth 20000 in
set_option maxHeartbeats 4000000 in
theorem S_X9_plan {G : Gp} {X : Xt} {d : Nat}  {x0 : Nat} {x1 : Int} {x2 : Int} {x3 : Int} {Q : Int → Fl → Il → Prop} {S : Shp} {F : Fl} {I : Il} (C : CO G RX9 cX9_plan 6 X) (M : MX d (some .int) "plan" X) (hd : 3 ≤ d)  (h : V_X9_plan x0 x1 x2 x3 S F I Q) : J G X (QD X G (qI fun z S' F' I' => S = S' ∧ Q z F' I') noX) 0 [vr (some x0), vi x1, vi x2, vi x3, vl 0, vl 0] [] S F I := by
  unfold V_X9_plan at h
  obtain ⟨d, rfl⟩ : ∃ d9, d = d9 + 1 := ⟨d - 1, by omega⟩
  refine J_aload_n C dX9_plan_0 rfl rfl ?_
  refine J_aload_n C dX9_plan_1 rfl rfl ?_
  refine J_iload_n C dX9_plan_2 rfl rfl ?_
  obtain ⟨hK1, h⟩ := h
  refine K_V C M [vi x1] [vr (some x0)] mi_X9_isTrain wg_1510 wg_1512 wg_48 ⟨rfl, by decide⟩ dX9_plan_3 hK1 rfl rfl (by decide) (Nat.le_of_ble_eq_true rfl) (c_X9_isTrain (C.2.2.2.2.2.2.2) (by omega) h) (fun v9 S' F' I' hq9 => ?_) K_no rfl
  clear h
  obtain ⟨z2, rfl, rfl, rfl, rfl, h⟩ := hq9
  refine J_if_ne C dX9_plan_6 (tgt := 13) rfl (fun c6 => ?_) (fun c6 => ?_)
  · have h := h.1 c6
    refine J_iload_n C dX9_plan_13 rfl rfl ?_
    refine J_iconst C dX9_plan_14 (rg_of (by decide)) ?_
    refine J_sipush C dX9_plan_15 (by decide +kernel) (rg_of (by decide)) ?_
    refine K_S C M [vi x2, vi 0, vi 20000] [vr (some x0)] mi_X9_in wg_1414 wg_1415 dX9_plan_18 rfl rfl (by decide) (Nat.le_of_ble_eq_true rfl) (c_X9_in (C.2.2.2.2.2.2.2) (by omega) h) (fun v9 S' F' I' hq9 => ?_) K_no rfl
    clear h
    obtain ⟨z3, rfl, rfl, rfl, rfl, h⟩ := hq9
    refine J_if_eq C dX9_plan_21 (tgt := 34) rfl (fun c21 => ?_) (fun c21 => ?_)
    · have h := h.1 c21
      exact S_X9_plan_34 C M (by omega)  h
    · have h := h.2 c21
      refine J_iload_n C dX9_plan_24 rfl rfl ?_
      refine J_iconst C dX9_plan_25 (rg_of (by decide)) ?_
      refine J_bipush C dX9_plan_26 (by decide +kernel) (rg_of (by decide)) ?_
      refine K_S C M [vi x3, vi 0, vi 9] [vr (some x0)] mi_X9_in wg_1414 wg_1415 dX9_plan_28 rfl rfl (by decide) (Nat.le_of_ble_eq_true rfl) (c_X9_in (C.2.2.2.2.2.2.2) (by omega) h) (fun v9 S' F' I' hq9 => ?_) K_no rfl
      clear h
      obtain ⟨z4, rfl, rfl, rfl, rfl, h⟩ := hq9
      refine J_if_ne C dX9_plan_31 (tgt := 38) rfl (fun c31 => ?_) (fun c31 => ?_)
      · have h := h.1 c31
        refine J_iconst C dX9_plan_38 (rg_of (by decide)) ?_
        exact S_X9_plan_39 C M (by omega)  h
      · have h := h.2 c31
        exact S_X9_plan_34 C M (by omega)  h
  · have h := h.2 c6
    refine J_iconst C dX9_plan_9 (rg_of (by decide)) ?_
    refine J_goto C dX9_plan_10 (tgt := 39) rfl ?_
    exact S_X9_plan_39 C M (by omega)  h
theorem c_X9_plan {l : Launch} {G : Gp} {d : Nat} {x0 : Nat} {x1 : Int} {x2 : Int} {x3 : Int} {S : Shp} {F : Fl} {I : Il} {Q : Int → Fl → Il → Prop} (hl : l.stackTraces = false) (hd : 3 ≤ d) (h : V_X9_plan x0 x1 x2 x3 S F I Q) : CM l G d yX9_plan (.code yX9_plan cX9_plan 6 (some .int)) [vr (some x0), vi x1, vi x2, vi x3] S F I (qI fun z S' F' I' => S = S' ∧ Q z F' I') noX :=
  CM_ofM [vr (some x0), vi x1, vi x2, vi x3, vl 0, vl 0] hl (by decide +kernel) (kn1 trivial (kn1 trivial (kn1 trivial (kn1 trivial kn0)))) (Nat.le_of_ble_eq_true rfl) rfl (fun X hX C M => S_X9_plan C M hd h)
set_option maxRecDepth 20000 in
set_option maxHeartbeats 4000000 in
theorem S_X9_rate_58 {G : Gp} {X : Xt} {d : Nat}  {x0 : Nat} {x1 : Int} {x2 : Int} {x4 : Int} {s0 : Int} {Q : Int → Fl → Il → Prop} {S : Shp} {F : Fl} {I : Il} (C : CO G RX9 cX9_rate 7 X) (M : MX d (some .int) "rate" X) (hd : 3 ≤ d)  (h : V_X9_rate_58 x0 x1 x2 x4 s0 S F I Q) : J G X (QD X G (qI fun z S' F' I' => S = S' ∧ Q z F' I') noX) 58 [vr (some x0), vi x1, vi x2, vl 0, vi x4, vl 0, vl 0] [vi s0] S F I := by
  unfold V_X9_rate_58 at h
  refine J_bipush C dX9_rate_58 (by decide +kernel) (rg_of (by decide)) ?_
  refine J_iload_n C dX9_rate_60 rfl rfl ?_
  refine J_imul C dX9_rate_61 ?_
  refine J_iadd C dX9_rate_62 ?_
  refine J_iload_n C dX9_rate_63 rfl rfl ?_
  refine J_iadd C dX9_rate_64 ?_
  refine K_istore C [vr (some x0), vi x1, vi x2, vl 0, vi x4, vi (w32 ((w32 (s0 + (w32 (8 * x1)))) + x2)), vl 0] dX9_rate_65 (Nat.le_of_ble_eq_true rfl) rfl ?_
  refine J_aload_n C dX9_rate_67 rfl rfl ?_
  obtain ⟨hK1, h⟩ := h
  obtain ⟨r2, hr3, h⟩ := h
  refine J_getR C fo_10_59 rfl fl_RX9_159 dX9_rate_68 hK1 hr3 ?_
  refine J_iload C dX9_rate_71 rfl ?_
  obtain ⟨hK4, h⟩ := h
  obtain ⟨h05, hn6, h⟩ := h
  refine J_iald C dX9_rate_73 hK4 h05 hn6 ?_
  refine K_istore C [vr (some x0), vi x1, vi x2, vl 0, vi x4, vi (w32 ((w32 (s0 + (w32 (8 * x1)))) + x2)), vi (I r2 (w32 ((w32 (s0 + (w32 (8 * x1)))) + x2)))] dX9_rate_74 (Nat.le_of_ble_eq_true rfl) rfl ?_
  refine J_aload_n C dX9_rate_76 rfl rfl ?_
  refine J_getR C fo_10_59 rfl fl_RX9_159 dX9_rate_77 hK1 hr3 ?_
  refine J_iload C dX9_rate_80 rfl ?_
  refine J_iload C dX9_rate_82 rfl ?_
  obtain ⟨h07, hn8, h⟩ := h
  refine J_iast C dX9_rate_84 hK4 h07 hn8 ?_
  refine J_iload C dX9_rate_85 rfl ?_
  exact J_iret C dX9_rate_87 M.2.2.1 ⟨_, rfl, rfl, h⟩
set_option maxRecDepth 20000 in
set_option maxHeartbeats 4000000 in
theorem S_X9_rate_36 {G : Gp} {X : Xt} {d : Nat}  {x0 : Nat} {x1 : Int} {x2 : Int} {x3 : Int} {x4 : Int} {s0 : Int} {s1 : Nat} {Q : Int → Fl → Il → Prop} {S : Shp} {F : Fl} {I : Il} (C : CO G RX9 cX9_rate 7 X) (M : MX d (some .int) "rate" X) (hd : 3 ≤ d)  (h : V_X9_rate_36 x0 x1 x2 x3 x4 s0 s1 S F I Q) : J G X (QD X G (qI fun z S' F' I' => S = S' ∧ Q z F' I') noX) 36 [vr (some x0), vi x1, vi x2, vi x3, vi x4, vl 0, vl 0] [vi s0, vr (some s1)] S F I := by
  unfold V_X9_rate_36 at h
  obtain ⟨hK1, h⟩ := h
  refine J_putI C fo_10_0 fp_10 fl_RX9_174 (Or.inl rfl) (Or.inl rfl) dX9_rate_36 hK1 ?_
  refine J_aload_n C dX9_rate_39 rfl rfl ?_
  obtain ⟨hK2, h⟩ := h
  refine J_getI C fo_10_0 rfl fl_RX9_174 dX9_rate_40 hK2 ?_
  refine J_if_le C dX9_rate_43 (tgt := 48) rfl (fun c43 => ?_) (fun c43 => ?_)
  · have h := h.1 c43
    refine J_iload_n C dX9_rate_48 rfl rfl ?_
    refine J_if_eq C dX9_rate_49 (tgt := 57) rfl (fun c49 => ?_) (fun c49 => ?_)
    · have h := h.1 c49
      refine J_iconst C dX9_rate_57 (rg_of (by decide)) ?_
      refine J_less [vr (some x0), vi x1, vi x2, vl 0, vi x4, vl 0, vl 0] (by unfold lessL; simp [lessL]) ?_
      exact S_X9_rate_58 C M (by omega)  h
    · have h := h.2 c49
      refine J_bipush C dX9_rate_52 (by decide +kernel) (rg_of (by decide)) ?_
      refine J_goto C dX9_rate_54 (tgt := 58) rfl ?_
      refine J_less [vr (some x0), vi x1, vi x2, vl 0, vi x4, vl 0, vl 0] (by unfold lessL; simp [lessL]) ?_
      exact S_X9_rate_58 C M (by omega)  h
  · have h := h.2 c43
    refine J_iconst C dX9_rate_46 (rg_of (by decide)) ?_
    exact J_iret C dX9_rate_47 M.2.2.1 ⟨_, rfl, rfl, h⟩
set_option maxRecDepth 20000 in
set_option maxHeartbeats 4000000 in
theorem S_X9_rate_15 {G : Gp} {X : Xt} {d : Nat}  {x0 : Nat} {x1 : Int} {x2 : Int} {x3 : Int} {x4 : Int} {s0 : Nat} {Q : Int → Fl → Il → Prop} {S : Shp} {F : Fl} {I : Il} (C : CO G RX9 cX9_rate 7 X) (M : MX d (some .int) "rate" X) (hd : 3 ≤ d)  (h : V_X9_rate_15 x0 x1 x2 x3 x4 s0 S F I Q) : J G X (QD X G (qI fun z S' F' I' => S = S' ∧ Q z F' I') noX) 15 [vr (some x0), vi x1, vi x2, vi x3, vi x4, vl 0, vl 0] [vr (some s0)] S F I := by
  unfold V_X9_rate_15 at h
  refine J_iconst C dX9_rate_15 (rg_of (by decide)) ?_
  refine J_goto C dX9_rate_16 (tgt := 36) rfl ?_
  exact S_X9_rate_36 C M (by omega)  h
set_option maxRecDepth 20000 in
set_option maxHeartbeats 4000000 in
theorem S_X9_rate {G : Gp} {X : Xt} {d : Nat}  {x0 : Nat} {x1 : Int} {x2 : Int} {x3 : Int} {x4 : Int} {Q : Int → Fl → Il → Prop} {S : Shp} {F : Fl} {I : Il} (C : CO G RX9 cX9_rate 7 X) (M : MX d (some .int) "rate" X) (hd : 3 ≤ d)  (h : V_X9_rate x0 x1 x2 x3 x4 S F I Q) : J G X (QD X G (qI fun z S' F' I' => S = S' ∧ Q z F' I') noX) 0 [vr (some x0), vi x1, vi x2, vi x3, vi x4, vl 0, vl 0] [] S F I := by
  unfold V_X9_rate at h
  obtain ⟨d, rfl⟩ : ∃ d9, d = d9 + 1 := ⟨d - 1, by omega⟩
  refine J_aload_n C dX9_rate_0 rfl rfl ?_
  refine J_iload_n C dX9_rate_1 rfl rfl ?_
  refine K_S C M [vi x1] [vr (some x0)] mi_X9_isStation wg_1411 wg_1412 dX9_rate_2 rfl rfl (by decide) (Nat.le_of_ble_eq_true rfl) (c_X9_isStation (C.2.2.2.2.2.2.2) (by omega) h) (fun v9 S' F' I' hq9 => ?_) K_no rfl
  clear h
  obtain ⟨z1, rfl, rfl, rfl, rfl, h⟩ := hq9
  refine J_if_eq C dX9_rate_5 (tgt := 15) rfl (fun c5 => ?_) (fun c5 => ?_)
  · have h := h.1 c5
    exact S_X9_rate_15 C M (by omega)  h
  · have h := h.2 c5
    refine J_iload_n C dX9_rate_8 rfl rfl ?_
    refine K_S C M [vi x2] [vr (some x0)] mi_X9_isStation wg_1411 wg_1412 dX9_rate_9 rfl rfl (by decide) (Nat.le_of_ble_eq_true rfl) (c_X9_isStation (C.2.2.2.2.2.2.2) (by omega) h) (fun v9 S' F' I' hq9 => ?_) K_no rfl
    clear h
    obtain ⟨z2, rfl, rfl, rfl, rfl, h⟩ := hq9
    refine J_if_ne C dX9_rate_12 (tgt := 19) rfl (fun c12 => ?_) (fun c12 => ?_)
    · have h := h.1 c12
      refine J_iload C dX9_rate_19 rfl ?_
      refine J_iconst C dX9_rate_21 (rg_of (by decide)) ?_
      refine J_sipush C dX9_rate_22 (by decide +kernel) (rg_of (by decide)) ?_
      refine K_S C M [vi x4, vi 1, vi 999] [vr (some x0)] mi_X9_in wg_1414 wg_1415 dX9_rate_25 rfl rfl (by decide) (Nat.le_of_ble_eq_true rfl) (c_X9_in (C.2.2.2.2.2.2.2) (by omega) h) (fun v9 S' F' I' hq9 => ?_) K_no rfl
      clear h
      obtain ⟨z3, rfl, rfl, rfl, rfl, h⟩ := hq9
      refine J_if_ne C dX9_rate_28 (tgt := 35) rfl (fun c28 => ?_) (fun c28 => ?_)
      · have h := h.1 c28
        refine J_iconst C dX9_rate_35 (rg_of (by decide)) ?_
        exact S_X9_rate_36 C M (by omega)  h
      · have h := h.2 c28
        refine J_iconst C dX9_rate_31 (rg_of (by decide)) ?_
        refine J_goto C dX9_rate_32 (tgt := 36) rfl ?_
        exact S_X9_rate_36 C M (by omega)  h
    · have h := h.2 c12
      exact S_X9_rate_15 C M (by omega)  h
theorem c_X9_rate {l : Launch} {G : Gp} {d : Nat} {x0 : Nat} {x1 : Int} {x2 : Int} {x3 : Int} {x4 : Int} {S : Shp} {F : Fl} {I : Il} {Q : Int → Fl → Il → Prop} (hl : l.stackTraces = false) (hd : 3 ≤ d) (h : V_X9_rate x0 x1 x2 x3 x4 S F I Q) : CM l G d yX9_rate (.code yX9_rate cX9_rate 7 (some .int)) [vr (some x0), vi x1, vi x2, vi x3, vi x4] S F I (qI fun z S' F' I' => S = S' ∧ Q z F' I') noX :=
  CM_ofM [vr (some x0), vi x1, vi x2, vi x3, vi x4, vl 0, vl 0] hl (by decide +kernel) (kn1 trivial (kn1 trivial (kn1 trivial (kn1 trivial (kn1 trivial kn0))))) (Nat.le_of_ble_eq_true rfl) rfl (fun X hX C M => S_X9_rate C M hd h)
set_option maxRecDepth 20000 in
set_option maxHeartbeats 4000000 in
theorem S_X9_repair_36 {G : Gp} {X : Xt} {d : Nat}  {x0 : Nat} {x1 : Int} {s0 : Int} {s1 : Nat} {Q : Int → Fl → Il → Prop} {S : Shp} {F : Fl} {I : Il} (C : CO G RX9 cX9_repair 3 X) (M : MX d (some .int) "repair" X) (hd : 3 ≤ d)  (h : V_X9_repair_36 x0 x1 s0 s1 S F I Q) : J G X (QD X G (qI fun z S' F' I' => S = S' ∧ Q z F' I') noX) 36 [vr (some x0), vi x1, vl 0] [vi s0, vr (some s1)] S F I := by
  unfold V_X9_repair_36 at h
  obtain ⟨hK1, h⟩ := h
  refine J_putI C fo_10_0 fp_10 fl_RX9_174 (Or.inl rfl) (Or.inl rfl) dX9_repair_36 hK1 ?_
  refine J_aload_n C dX9_repair_39 rfl rfl ?_
  obtain ⟨hK2, h⟩ := h
  refine J_getI C fo_10_0 rfl fl_RX9_174 dX9_repair_40 hK2 ?_
  refine J_if_le C dX9_repair_43 (tgt := 48) rfl (fun c43 => ?_) (fun c43 => ?_)
  · have h := h.1 c43
    refine J_iconst C dX9_repair_48 (rg_of (by decide)) ?_
    refine J_aload_n C dX9_repair_49 rfl rfl ?_
    obtain ⟨r3, hr4, h⟩ := h
    refine J_getR C fo_10_10 rfl fl_RX9_26 dX9_repair_50 hK2 hr4 ?_
    refine J_iload_n C dX9_repair_53 rfl rfl ?_
    obtain ⟨hK5, h⟩ := h
    obtain ⟨h06, hn7, h⟩ := h
    refine J_iald C dX9_repair_54 hK5 h06 hn7 ?_
    refine J_imul C dX9_repair_55 ?_
    refine K_istore_n C [vr (some x0), vi x1, vi (w32 (5 * (I r3 x1)))] dX9_repair_56 rfl (Nat.le_of_ble_eq_true rfl) rfl ?_
    refine J_aload_n C dX9_repair_57 rfl rfl ?_
    refine J_dup C dX9_repair_58 trivial ?_
    refine J_getI C fo_10_2 rfl fl_RX9_7 dX9_repair_59 hK2 ?_
    refine J_iload_n C dX9_repair_62 rfl rfl ?_
    refine J_isub C dX9_repair_63 ?_
    refine J_putI C fo_10_2 fp_10 fl_RX9_7 (Or.inl rfl) (Or.inl rfl) dX9_repair_64 hK2 ?_
    refine J_aload_n C dX9_repair_67 rfl rfl ?_
    refine J_getR C fo_10_10 rfl fl_RX9_26 dX9_repair_68 hK2 hr4 ?_
    refine J_iload_n C dX9_repair_71 rfl rfl ?_
    refine J_iconst C dX9_repair_72 (rg_of (by decide)) ?_
    obtain ⟨h08, hn9, h⟩ := h
    refine J_iast C dX9_repair_73 hK5 h08 hn9 ?_
    refine J_aload_n C dX9_repair_74 rfl rfl ?_
    obtain ⟨r10, hr11, h⟩ := h
    refine J_getR C fo_10_11 rfl fl_RX9_29 dX9_repair_75 hK2 hr11 ?_
    refine J_iload_n C dX9_repair_78 rfl rfl ?_
    refine J_aload_n C dX9_repair_79 rfl rfl ?_
    refine J_getI C fo_10_1 rfl fl_RX9_187 dX9_repair_80 hK2 ?_
    refine J_bipush C dX9_repair_83 (by decide +kernel) (rg_of (by decide)) ?_
    refine J_iadd C dX9_repair_85 ?_
    obtain ⟨hK12, h⟩ := h
    obtain ⟨h013, hn14, h⟩ := h
    refine J_iast C dX9_repair_86 hK12 h013 hn14 ?_
    refine J_iload_n C dX9_repair_87 rfl rfl ?_
    exact J_iret C dX9_repair_88 M.2.2.1 ⟨_, rfl, rfl, h⟩
  · have h := h.2 c43
    refine J_iconst C dX9_repair_46 (rg_of (by decide)) ?_
    exact J_iret C dX9_repair_47 M.2.2.1 ⟨_, rfl, rfl, h⟩
set_option maxRecDepth 20000 in
set_option maxHeartbeats 4000000 in
theorem S_X9_repair_31 {G : Gp} {X : Xt} {d : Nat}  {x0 : Nat} {x1 : Int} {s0 : Nat} {Q : Int → Fl → Il → Prop} {S : Shp} {F : Fl} {I : Il} (C : CO G RX9 cX9_repair 3 X) (M : MX d (some .int) "repair" X) (hd : 3 ≤ d)  (h : V_X9_repair_31 x0 x1 s0 S F I Q) : J G X (QD X G (qI fun z S' F' I' => S = S' ∧ Q z F' I') noX) 31 [vr (some x0), vi x1, vl 0] [vr (some s0)] S F I := by
  unfold V_X9_repair_31 at h
  refine J_iconst C dX9_repair_31 (rg_of (by decide)) ?_
  refine J_goto C dX9_repair_32 (tgt := 36) rfl ?_
  exact S_X9_repair_36 C M (by omega)  h
set_option maxRecDepth 20000 in
set_option maxHeartbeats 4000000 in
theorem S_X9_repair {G : Gp} {X : Xt} {d : Nat}  {x0 : Nat} {x1 : Int} {Q : Int → Fl → Il → Prop} {S : Shp} {F : Fl} {I : Il} (C : CO G RX9 cX9_repair 3 X) (M : MX d (some .int) "repair" X) (hd : 3 ≤ d)  (h : V_X9_repair x0 x1 S F I Q) : J G X (QD X G (qI fun z S' F' I' => S = S' ∧ Q z F' I') noX) 0 [vr (some x0), vi x1, vl 0] [] S F I := by
  unfold V_X9_repair at h
  obtain ⟨d, rfl⟩ : ∃ d9, d = d9 + 1 := ⟨d - 1, by omega⟩
  refine J_aload_n C dX9_repair_0 rfl rfl ?_
  refine J_aload_n C dX9_repair_1 rfl rfl ?_
  refine J_iload_n C dX9_repair_2 rfl rfl ?_
  obtain ⟨hK1, h⟩ := h
  refine K_V C M [vi x1] [vr (some x0)] mi_X9_isBlock wg_1429 wg_1431 wg_40 ⟨rfl, by decide⟩ dX9_repair_3 hK1 rfl rfl (by decide) (Nat.le_of_ble_eq_true rfl) (c_X9_isBlock (C.2.2.2.2.2.2.2) (by omega) h) (fun v9 S' F' I' hq9 => ?_) K_no rfl
  clear h
  obtain ⟨z2, rfl, rfl, rfl, rfl, h⟩ := hq9
  refine J_if_ne C dX9_repair_6 (tgt := 13) rfl (fun c6 => ?_) (fun c6 => ?_)
  · have h := h.1 c6
    refine J_aload_n C dX9_repair_13 rfl rfl ?_
    obtain ⟨r3, hr4, h⟩ := h
    refine J_getR C fo_10_17 rfl fl_RX9_48 dX9_repair_14 hK1 hr4 ?_
    refine J_iload_n C dX9_repair_17 rfl rfl ?_
    obtain ⟨hK5, h⟩ := h
    obtain ⟨h06, hn7, h⟩ := h
    refine J_iald C dX9_repair_18 hK5 h06 hn7 ?_
    refine J_iconst C dX9_repair_19 (rg_of (by decide)) ?_
    refine J_icmp_ne C dX9_repair_20 (tgt := 31) rfl (fun c20 => ?_) (fun c20 => ?_)
    · have h := h.1 c20
      exact S_X9_repair_31 C M (by omega)  h
    · have h := h.2 c20
      refine J_aload_n C dX9_repair_23 rfl rfl ?_
      refine J_iload_n C dX9_repair_24 rfl rfl ?_
      refine K_V C M [vi x1] [vr (some x0)] mi_X9_isClosed wg_1445 wg_1447 wg_41 ⟨rfl, by decide⟩ dX9_repair_25 hK1 rfl rfl (by decide) (Nat.le_of_ble_eq_true rfl) (c_X9_isClosed (C.2.2.2.2.2.2.2) (by omega) h) (fun v9 S' F' I' hq9 => ?_) K_no rfl
      clear h
      obtain ⟨z8, rfl, rfl, rfl, rfl, h⟩ := hq9
      refine J_if_eq C dX9_repair_28 (tgt := 35) rfl (fun c28 => ?_) (fun c28 => ?_)
      · have h := h.1 c28
        refine J_iconst C dX9_repair_35 (rg_of (by decide)) ?_
        exact S_X9_repair_36 C M (by omega)  h
      · have h := h.2 c28
        exact S_X9_repair_31 C M (by omega)  h
  · have h := h.2 c6
    refine J_iconst C dX9_repair_9 (rg_of (by decide)) ?_
    refine J_goto C dX9_repair_10 (tgt := 36) rfl ?_
    exact S_X9_repair_36 C M (by omega)  h
theorem c_X9_repair {l : Launch} {G : Gp} {d : Nat} {x0 : Nat} {x1 : Int} {S : Shp} {F : Fl} {I : Il} {Q : Int → Fl → Il → Prop} (hl : l.stackTraces = false) (hd : 3 ≤ d) (h : V_X9_repair x0 x1 S F I Q) : CM l G d yX9_repair (.code yX9_repair cX9_repair 3 (some .int)) [vr (some x0), vi x1] S F I (qI fun z S' F' I' => S = S' ∧ Q z F' I') noX :=
  CM_ofM [vr (some x0), vi x1, vl 0] hl (by decide +kernel) (kn1 trivial (kn1 trivial kn0)) (Nat.le_of_ble_eq_true rfl) rfl (fun X hX C M => S_X9_repair C M hd h)
set_option maxRecDepth 20000 in
set_option maxHeartbeats 4000000 in
theorem S_X9_repay_36 {G : Gp} {X : Xt} {d : Nat}  {x0 : Nat} {x1 : Int} {s0 : Int} {s1 : Nat} {Q : Int → Fl → Prop} {S : Shp} {F : Fl} {I : Il} (C : CO G RX9 cX9_repay 2 X) (M : MX d (some .int) "repay" X) (hd : 2 ≤ d)  (h : V_X9_repay_36 x0 x1 s0 s1 S F I Q) : J G X (QD X G (qI fun z S' F' I' => S = S' ∧ I = I' ∧ Q z F') noX) 36 [vr (some x0), vi x1] [vi s0, vr (some s1)] S F I := by
  unfold V_X9_repay_36 at h
  obtain ⟨hK1, h⟩ := h
  refine J_putI C fo_10_0 fp_10 fl_RX9_174 (Or.inl rfl) (Or.inl rfl) dX9_repay_36 hK1 ?_
  refine J_aload_n C dX9_repay_39 rfl rfl ?_
  obtain ⟨hK2, h⟩ := h
  refine J_getI C fo_10_0 rfl fl_RX9_174 dX9_repay_40 hK2 ?_
  refine J_if_le C dX9_repay_43 (tgt := 48) rfl (fun c43 => ?_) (fun c43 => ?_)
  · have h := h.1 c43
    refine J_aload_n C dX9_repay_48 rfl rfl ?_
    refine J_dup C dX9_repay_49 trivial ?_
    refine J_getI C fo_10_2 rfl fl_RX9_7 dX9_repay_50 hK2 ?_
    refine J_iload_n C dX9_repay_53 rfl rfl ?_
    refine J_isub C dX9_repay_54 ?_
    refine J_putI C fo_10_2 fp_10 fl_RX9_7 (Or.inl rfl) (Or.inl rfl) dX9_repay_55 hK2 ?_
    refine J_aload_n C dX9_repay_58 rfl rfl ?_
    refine J_dup C dX9_repay_59 trivial ?_
    refine J_getI C fo_10_3 rfl fl_RX9_230 dX9_repay_60 hK2 ?_
    refine J_iload_n C dX9_repay_63 rfl rfl ?_
    refine J_isub C dX9_repay_64 ?_
    refine J_putI C fo_10_3 fp_10 fl_RX9_230 (Or.inl rfl) (Or.inl rfl) dX9_repay_65 hK2 ?_
    refine J_aload_n C dX9_repay_68 rfl rfl ?_
    refine J_getI C fo_10_3 rfl fl_RX9_230 dX9_repay_69 hK2 ?_
    exact J_iret C dX9_repay_72 M.2.2.1 ⟨_, rfl, rfl, rfl, h⟩
  · have h := h.2 c43
    refine J_iconst C dX9_repay_46 (rg_of (by decide)) ?_
    exact J_iret C dX9_repay_47 M.2.2.1 ⟨_, rfl, rfl, rfl, h⟩
set_option maxRecDepth 20000 in
set_option maxHeartbeats 4000000 in
theorem S_X9_repay_31 {G : Gp} {X : Xt} {d : Nat}  {x0 : Nat} {x1 : Int} {s0 : Nat} {Q : Int → Fl → Prop} {S : Shp} {F : Fl} {I : Il} (C : CO G RX9 cX9_repay 2 X) (M : MX d (some .int) "repay" X) (hd : 2 ≤ d)  (h : V_X9_repay_31 x0 x1 s0 S F I Q) : J G X (QD X G (qI fun z S' F' I' => S = S' ∧ I = I' ∧ Q z F') noX) 31 [vr (some x0), vi x1] [vr (some s0)] S F I := by
  unfold V_X9_repay_31 at h
  refine J_iconst C dX9_repay_31 (rg_of (by decide)) ?_
  refine J_goto C dX9_repay_32 (tgt := 36) rfl ?_
  exact S_X9_repay_36 C M (by omega)  h
set_option maxRecDepth 20000 in
set_option maxHeartbeats 4000000 in
theorem S_X9_repay {G : Gp} {X : Xt} {d : Nat}  {x0 : Nat} {x1 : Int} {Q : Int → Fl → Prop} {S : Shp} {F : Fl} {I : Il} (C : CO G RX9 cX9_repay 2 X) (M : MX d (some .int) "repay" X) (hd : 2 ≤ d)  (h : V_X9_repay x0 x1 S F I Q) : J G X (QD X G (qI fun z S' F' I' => S = S' ∧ I = I' ∧ Q z F') noX) 0 [vr (some x0), vi x1] [] S F I := by
  unfold V_X9_repay at h
  obtain ⟨d, rfl⟩ : ∃ d9, d = d9 + 1 := ⟨d - 1, by omega⟩
  refine J_aload_n C dX9_repay_0 rfl rfl ?_
  refine J_iload_n C dX9_repay_1 rfl rfl ?_
  refine J_iconst C dX9_repay_2 (rg_of (by decide)) ?_
  refine J_ldc C dX9_repay_3 (z := 50000) wg_1493 (by decide +kernel) (rg_of (by decide)) ?_
  refine K_S C M [vi x1, vi 1, vi 50000] [vr (some x0)] mi_X9_in wg_1414 wg_1415 dX9_repay_5 rfl rfl (by decide) (Nat.le_of_ble_eq_true rfl) (c_X9_in (C.2.2.2.2.2.2.2) (by omega) h) (fun v9 S' F' I' hq9 => ?_) K_no rfl
  clear h
  obtain ⟨z1, rfl, rfl, rfl, rfl, h⟩ := hq9
  refine J_if_ne C dX9_repay_8 (tgt := 15) rfl (fun c8 => ?_) (fun c8 => ?_)
  · have h := h.1 c8
    refine J_iload_n C dX9_repay_15 rfl rfl ?_
    refine J_aload_n C dX9_repay_16 rfl rfl ?_
    obtain ⟨hK2, h⟩ := h
    refine J_getI C fo_10_3 rfl fl_RX9_230 dX9_repay_17 hK2 ?_
    refine J_icmp_gt C dX9_repay_20 (tgt := 31) rfl (fun c20 => ?_) (fun c20 => ?_)
    · have h := h.1 c20
      exact S_X9_repay_31 C M (by omega)  h
    · have h := h.2 c20
      refine J_iload_n C dX9_repay_23 rfl rfl ?_
      refine J_aload_n C dX9_repay_24 rfl rfl ?_
      refine J_getI C fo_10_2 rfl fl_RX9_7 dX9_repay_25 hK2 ?_
      refine J_icmp_le C dX9_repay_28 (tgt := 35) rfl (fun c28 => ?_) (fun c28 => ?_)
      · have h := h.1 c28
        refine J_iconst C dX9_repay_35 (rg_of (by decide)) ?_
        exact S_X9_repay_36 C M (by omega)  h
      · have h := h.2 c28
        exact S_X9_repay_31 C M (by omega)  h
  · have h := h.2 c8
    refine J_iconst C dX9_repay_11 (rg_of (by decide)) ?_
    refine J_goto C dX9_repay_12 (tgt := 36) rfl ?_
    exact S_X9_repay_36 C M (by omega)  h
theorem c_X9_repay {l : Launch} {G : Gp} {d : Nat} {x0 : Nat} {x1 : Int} {S : Shp} {F : Fl} {I : Il} {Q : Int → Fl → Prop} (hl : l.stackTraces = false) (hd : 2 ≤ d) (h : V_X9_repay x0 x1 S F I Q) : CM l G d yX9_repay (.code yX9_repay cX9_repay 2 (some .int)) [vr (some x0), vi x1] S F I (qI fun z S' F' I' => S = S' ∧ I = I' ∧ Q z F') noX :=
  CM_ofM [vr (some x0), vi x1] hl (by decide +kernel) (kn1 trivial (kn1 trivial kn0)) (Nat.le_of_ble_eq_true rfl) rfl (fun X hX C M => S_X9_repay C M hd h)
set_option maxRecDepth 20000 in
set_option maxHeartbeats 4000000 in
theorem S_X9_rest_49 {G : Gp} {X : Xt} {d : Nat}  {x0 : Nat} {x1 : Int} {s0 : Int} {s1 : Nat} {Q : Int → Fl → Il → Prop} {S : Shp} {F : Fl} {I : Il} (C : CO G RX9 cX9_rest 2 X) (M : MX d (some .int) "rest" X) (hd : 3 ≤ d)  (h : V_X9_rest_49 x0 x1 s0 s1 S F I Q) : J G X (QD X G (qI fun z S' F' I' => S = S' ∧ Q z F' I') noX) 49 [vr (some x0), vi x1] [vi s0, vr (some s1)] S F I := by
  unfold V_X9_rest_49 at h
  obtain ⟨hK1, h⟩ := h
  refine J_putI C fo_10_0 fp_10 fl_RX9_174 (Or.inl rfl) (Or.inl rfl) dX9_rest_49 hK1 ?_
  refine J_aload_n C dX9_rest_52 rfl rfl ?_
  obtain ⟨hK2, h⟩ := h
  refine J_getI C fo_10_0 rfl fl_RX9_174 dX9_rest_53 hK2 ?_
  refine J_if_le C dX9_rest_56 (tgt := 61) rfl (fun c56 => ?_) (fun c56 => ?_)
  · have h := h.1 c56
    refine J_aload_n C dX9_rest_61 rfl rfl ?_
    obtain ⟨r3, hr4, h⟩ := h
    refine J_getR C fo_10_27 rfl fl_RX9_72 dX9_rest_62 hK2 hr4 ?_
    refine J_iload_n C dX9_rest_65 rfl rfl ?_
    refine J_aload_n C dX9_rest_66 rfl rfl ?_
    refine J_getI C fo_10_1 rfl fl_RX9_187 dX9_rest_67 hK2 ?_
    refine J_sipush C dX9_rest_70 (by decide +kernel) (rg_of (by decide)) ?_
    refine J_iadd C dX9_rest_73 ?_
    obtain ⟨hK5, h⟩ := h
    obtain ⟨h06, hn7, h⟩ := h
    refine J_iast C dX9_rest_74 hK5 h06 hn7 ?_
    refine J_aload_n C dX9_rest_75 rfl rfl ?_
    obtain ⟨r8, hr9, h⟩ := h
    refine J_getR C fo_10_26 rfl fl_RX9_69 dX9_rest_76 hK2 hr9 ?_
    refine J_iload_n C dX9_rest_79 rfl rfl ?_
    refine J_iconst C dX9_rest_80 (rg_of (by decide)) ?_
    obtain ⟨hK10, h⟩ := h
    obtain ⟨h011, hn12, h⟩ := h
    refine J_iast C dX9_rest_81 hK10 h011 hn12 ?_
    refine J_aload_n C dX9_rest_82 rfl rfl ?_
    refine J_getR C fo_10_27 rfl fl_RX9_72 dX9_rest_83 hK2 hr4 ?_
    refine J_iload_n C dX9_rest_86 rfl rfl ?_
    obtain ⟨h013, hn14, h⟩ := h
    refine J_iald C dX9_rest_87 hK5 h013 hn14 ?_
    exact J_iret C dX9_rest_88 M.2.2.1 ⟨_, rfl, rfl, h⟩
  · have h := h.2 c56
    refine J_iconst C dX9_rest_59 (rg_of (by decide)) ?_
    exact J_iret C dX9_rest_60 M.2.2.1 ⟨_, rfl, rfl, h⟩
set_option maxRecDepth 20000 in
set_option maxHeartbeats 4000000 in
theorem S_X9_rest_44 {G : Gp} {X : Xt} {d : Nat}  {x0 : Nat} {x1 : Int} {s0 : Nat} {Q : Int → Fl → Il → Prop} {S : Shp} {F : Fl} {I : Il} (C : CO G RX9 cX9_rest 2 X) (M : MX d (some .int) "rest" X) (hd : 3 ≤ d)  (h : V_X9_rest_44 x0 x1 s0 S F I Q) : J G X (QD X G (qI fun z S' F' I' => S = S' ∧ Q z F' I') noX) 44 [vr (some x0), vi x1] [vr (some s0)] S F I := by
  unfold V_X9_rest_44 at h
  refine J_iconst C dX9_rest_44 (rg_of (by decide)) ?_
  refine J_goto C dX9_rest_45 (tgt := 49) rfl ?_
  exact S_X9_rest_49 C M (by omega)  h
set_option maxRecDepth 20000 in
set_option maxHeartbeats 4000000 in
theorem S_X9_rest_48 {G : Gp} {X : Xt} {d : Nat}  {x0 : Nat} {x1 : Int} {s0 : Nat} {Q : Int → Fl → Il → Prop} {S : Shp} {F : Fl} {I : Il} (C : CO G RX9 cX9_rest 2 X) (M : MX d (some .int) "rest" X) (hd : 3 ≤ d)  (h : V_X9_rest_48 x0 x1 s0 S F I Q) : J G X (QD X G (qI fun z S' F' I' => S = S' ∧ Q z F' I') noX) 48 [vr (some x0), vi x1] [vr (some s0)] S F I := by
  unfold V_X9_rest_48 at h
  refine J_iconst C dX9_rest_48 (rg_of (by decide)) ?_
  exact S_X9_rest_49 C M (by omega)  h
set_option maxRecDepth 20000 in
set_option maxHeartbeats 4000000 in
theorem S_X9_rest {G : Gp} {X : Xt} {d : Nat}  {x0 : Nat} {x1 : Int} {Q : Int → Fl → Il → Prop} {S : Shp} {F : Fl} {I : Il} (C : CO G RX9 cX9_rest 2 X) (M : MX d (some .int) "rest" X) (hd : 3 ≤ d)  (h : V_X9_rest x0 x1 S F I Q) : J G X (QD X G (qI fun z S' F' I' => S = S' ∧ Q z F' I') noX) 0 [vr (some x0), vi x1] [] S F I := by
  unfold V_X9_rest at h
  obtain ⟨d, rfl⟩ : ∃ d9, d = d9 + 1 := ⟨d - 1, by omega⟩
  refine J_aload_n C dX9_rest_0 rfl rfl ?_
  refine J_aload_n C dX9_rest_1 rfl rfl ?_
  refine J_iload_n C dX9_rest_2 rfl rfl ?_
  obtain ⟨hK1, h⟩ := h
  refine K_V C M [vi x1] [vr (some x0)] mi_X9_isCrew wg_1461 wg_1463 wg_42 ⟨rfl, by decide⟩ dX9_rest_3 hK1 rfl rfl (by decide) (Nat.le_of_ble_eq_true rfl) (c_X9_isCrew (C.2.2.2.2.2.2.2) (by omega) h) (fun v9 S' F' I' hq9 => ?_) K_no rfl
  clear h
  obtain ⟨z2, rfl, rfl, rfl, rfl, h⟩ := hq9
  refine J_if_ne C dX9_rest_6 (tgt := 13) rfl (fun c6 => ?_) (fun c6 => ?_)
  · have h := h.1 c6
    refine J_aload_n C dX9_rest_13 rfl rfl ?_
    refine J_iload_n C dX9_rest_14 rfl rfl ?_
    refine K_V C M [vi x1] [vr (some x0)] mi_X9_rests wg_1469 wg_1471 wg_43 ⟨rfl, by decide⟩ dX9_rest_15 hK1 rfl rfl (by decide) (Nat.le_of_ble_eq_true rfl) (c_X9_rests (C.2.2.2.2.2.2.2) (by omega) h) (fun v9 S' F' I' hq9 => ?_) K_no rfl
    clear h
    obtain ⟨z3, rfl, rfl, rfl, rfl, h⟩ := hq9
    refine J_if_ne C dX9_rest_18 (tgt := 44) rfl (fun c18 => ?_) (fun c18 => ?_)
    · have h := h.1 c18
      exact S_X9_rest_44 C M (by omega)  h
    · have h := h.2 c18
      refine J_aload_n C dX9_rest_21 rfl rfl ?_
      obtain ⟨r4, hr5, h⟩ := h
      refine J_getR C fo_10_25 rfl fl_RX9_66 dX9_rest_22 hK1 hr5 ?_
      refine J_iload_n C dX9_rest_25 rfl rfl ?_
      obtain ⟨hK6, h⟩ := h
      obtain ⟨h07, hn8, h⟩ := h
      refine J_iald C dX9_rest_26 hK6 h07 hn8 ?_
      refine J_iconst C dX9_rest_27 (rg_of (by decide)) ?_
      refine J_icmp_eq C dX9_rest_28 (tgt := 48) rfl (fun c28 => ?_) (fun c28 => ?_)
      · have h := h.1 c28
        exact S_X9_rest_48 C M (by omega)  h
      · have h := h.2 c28
        refine J_aload_n C dX9_rest_31 rfl rfl ?_
        refine J_aload_n C dX9_rest_32 rfl rfl ?_
        refine J_getR C fo_10_25 rfl fl_RX9_66 dX9_rest_33 hK1 hr5 ?_
        refine J_iload_n C dX9_rest_36 rfl rfl ?_
        obtain ⟨h09, hn10, h⟩ := h
        refine J_iald C dX9_rest_37 hK6 h09 hn10 ?_
        refine K_V C M [vi (I r4 x1)] [vr (some x0)] mi_X9_stands wg_1473 wg_1475 wg_44 ⟨rfl, by decide⟩ dX9_rest_38 hK1 rfl rfl (by decide) (Nat.le_of_ble_eq_true rfl) (c_X9_stands (C.2.2.2.2.2.2.2) (by omega) h) (fun v9 S' F' I' hq9 => ?_) K_no rfl
        clear h
        obtain ⟨z11, rfl, rfl, rfl, rfl, h⟩ := hq9
        refine J_if_ne C dX9_rest_41 (tgt := 48) rfl (fun c41 => ?_) (fun c41 => ?_)
        · have h := h.1 c41
          exact S_X9_rest_48 C M (by omega)  h
        · have h := h.2 c41
          exact S_X9_rest_44 C M (by omega)  h
  · have h := h.2 c6
    refine J_iconst C dX9_rest_9 (rg_of (by decide)) ?_
    refine J_goto C dX9_rest_10 (tgt := 49) rfl ?_
    exact S_X9_rest_49 C M (by omega)  h
theorem c_X9_rest {l : Launch} {G : Gp} {d : Nat} {x0 : Nat} {x1 : Int} {S : Shp} {F : Fl} {I : Il} {Q : Int → Fl → Il → Prop} (hl : l.stackTraces = false) (hd : 3 ≤ d) (h : V_X9_rest x0 x1 S F I Q) : CM l G d yX9_rest (.code yX9_rest cX9_rest 2 (some .int)) [vr (some x0), vi x1] S F I (qI fun z S' F' I' => S = S' ∧ Q z F' I') noX :=
  CM_ofM [vr (some x0), vi x1] hl (by decide +kernel) (kn1 trivial (kn1 trivial kn0)) (Nat.le_of_ble_eq_true rfl) rfl (fun X hX C M => S_X9_rest C M hd h)
set_option maxRecDepth 20000 in
set_option maxHeartbeats 4000000 in
theorem S_X9_ticks_194 {G : Gp} {X : Xt} {d : Nat} {k136 : Nat → Int → Int → Fl → Il → Prop} {k142 : Nat → Int → Int → Int → Fl → Il → Prop} {x0 : Nat} {x1 : Int} {x2 : Int} {x3 : Int} {Q : Int → Fl → Il → Prop} {S : Shp} {F : Fl} {I : Il} (C : CO G RX9 cX9_ticks 4 X) (M : MX d (some .int) "ticks" X) (hd : 7 ≤ d) (hk136 : ∀ (x0 : Nat) (x1 : Int) (x2 : Int) (F' : Fl) (I' : Il), k136 x0 x1 x2 F' I' → J G X (QD X G (qI fun z S' F' I' => S = S' ∧ Q z F' I') noX) 136 [vr (some x0), vi x1, vi x2, vl 0] [] S F' I') (hk142 : ∀ (x0 : Nat) (x1 : Int) (x2 : Int) (x3 : Int) (F' : Fl) (I' : Il), k142 x0 x1 x2 x3 F' I' → J G X (QD X G (qI fun z S' F' I' => S = S' ∧ Q z F' I') noX) 142 [vr (some x0), vi x1, vi x2, vi x3] [] S F' I') (h : V_X9_ticks_194 k136 k142 x0 x1 x2 x3 S F I Q) : J G X (QD X G (qI fun z S' F' I' => S = S' ∧ Q z F' I') noX) 194 [vr (some x0), vi x1, vi x2, vi x3] [] S F I := by
  unfold V_X9_ticks_194 at h
  refine K_iinc C [vr (some x0), vi x1, vi x2, vi (w32 (x3 + 1))] dX9_ticks_194 rfl rfl ?_
  refine J_goto C dX9_ticks_197 (tgt := 142) rfl ?_
  exact hk142 x0 x1 x2 (w32 (x3 + 1)) F I h
set_option maxRecDepth 20000 in
set_option maxHeartbeats 4000000 in
theorem S_X9_ticks_142 {G : Gp} {X : Xt} {d : Nat} {k136 : Nat → Int → Int → Fl → Il → Prop} {S : Shp} {Q : Int → Fl → Il → Prop} (C : CO G RX9 cX9_ticks 4 X) (M : MX d (some .int) "ticks" X) (hd : 7 ≤ d) (n9 : Nat) (hk136 : ∀ (x0 : Nat) (x1 : Int) (x2 : Int) (F' : Fl) (I' : Il), k136 x0 x1 x2 F' I' → J G X (QD X G (qI fun z S' F' I' => S = S' ∧ Q z F' I') noX) 136 [vr (some x0), vi x1, vi x2, vl 0] [] S F' I') : ∀ (x0 : Nat) (x1 : Int) (x2 : Int) (x3 : Int) (F : Fl) (I : Il), V_X9_ticks_142 n9 k136 x0 x1 x2 x3 S F I Q → J G X (QD X G (qI fun z S' F' I' => S = S' ∧ Q z F' I') noX) 142 [vr (some x0), vi x1, vi x2, vi x3] [] S F I := by
  obtain ⟨d, rfl⟩ : ∃ d9, d = d9 + 1 := ⟨d - 1, by omega⟩
  induction n9 with
  | zero => intro x0 x1 x2 x3 F I h; exact h.elim
  | succ n ih =>
    intro x0 x1 x2 x3 F I h
    unfold V_X9_ticks_142 at h
    refine J_iload_n C dX9_ticks_142 rfl rfl ?_
    refine J_bipush C dX9_ticks_143 (by decide +kernel) (rg_of (by decide)) ?_
    refine J_icmp_ge C dX9_ticks_145 (tgt := 200) rfl (fun c145 => ?_) (fun c145 => ?_)
    · have h := h.1 c145
      refine K_iinc C [vr (some x0), vi x1, vi (w32 (x2 + (-1))), vi x3] dX9_ticks_200 rfl rfl ?_
      refine J_goto C dX9_ticks_203 (tgt := 136) rfl ?_
      refine J_less [vr (some x0), vi x1, vi (w32 (x2 + (-1))), vl 0] (by unfold lessL; simp [lessL]) ?_
      exact hk136 x0 x1 (w32 (x2 + (-1))) F I h
    · have h := h.2 c145
      refine J_aload_n C dX9_ticks_148 rfl rfl ?_
      obtain ⟨hK1, h⟩ := h
      obtain ⟨r2, hr3, h⟩ := h
      refine J_getR C fo_10_36 rfl fl_RX9_96 dX9_ticks_149 hK1 hr3 ?_
      refine J_iload_n C dX9_ticks_152 rfl rfl ?_
      obtain ⟨hK4, h⟩ := h
      obtain ⟨h05, hn6, h⟩ := h
      refine J_zald C dX9_ticks_153 hK4 h05 hn6 ?_
      refine J_if_eq C dX9_ticks_154 (tgt := 194) rfl (fun c154 => ?_) (fun c154 => ?_)
      · have h := h.1 c154
        exact S_X9_ticks_194 C M (by omega) hk136 (fun y0 y1 y2 y3 F' I' h9 => ih y0 y1 y2 y3 F' I' h9) h
      · have h := h.2 c154
        refine J_aload_n C dX9_ticks_157 rfl rfl ?_
        obtain ⟨r7, hr8, h⟩ := h
        refine J_getR C fo_10_39 rfl fl_RX9_105 dX9_ticks_158 hK1 hr8 ?_
        refine J_iload_n C dX9_ticks_161 rfl rfl ?_
        obtain ⟨hK9, h⟩ := h
        obtain ⟨h010, hn11, h⟩ := h
        refine J_iald C dX9_ticks_162 hK9 h010 hn11 ?_
        refine J_iconst C dX9_ticks_163 (rg_of (by decide)) ?_
        refine J_icmp_ne C dX9_ticks_164 (tgt := 194) rfl (fun c164 => ?_) (fun c164 => ?_)
        · have h := h.1 c164
          exact S_X9_ticks_194 C M (by omega) hk136 (fun y0 y1 y2 y3 F' I' h9 => ih y0 y1 y2 y3 F' I' h9) h
        · have h := h.2 c164
          refine J_aload_n C dX9_ticks_167 rfl rfl ?_
          obtain ⟨r12, hr13, h⟩ := h
          refine J_getR C fo_10_49 rfl fl_RX9_135 dX9_ticks_168 hK1 hr13 ?_
          refine J_iload_n C dX9_ticks_171 rfl rfl ?_
          obtain ⟨hK14, h⟩ := h
          obtain ⟨h015, hn16, h⟩ := h
          refine J_iald C dX9_ticks_172 hK14 h015 hn16 ?_
          refine J_iload_n C dX9_ticks_173 rfl rfl ?_
          refine J_icmp_ne C dX9_ticks_174 (tgt := 194) rfl (fun c174 => ?_) (fun c174 => ?_)
          · have h := h.1 c174
            exact S_X9_ticks_194 C M (by omega) hk136 (fun y0 y1 y2 y3 F' I' h9 => ih y0 y1 y2 y3 F' I' h9) h
          · have h := h.2 c174
            refine J_aload_n C dX9_ticks_177 rfl rfl ?_
            refine J_iload_n C dX9_ticks_178 rfl rfl ?_
            refine J_iconst C dX9_ticks_179 (rg_of (by decide)) ?_
            refine K_V C M [vi x3, vi 1] [] mi_X9_bar wg_1566 wg_1568 wg_56 ⟨rfl, by decide⟩ dX9_ticks_180 hK1 rfl rfl (by decide) (Nat.le_of_ble_eq_true rfl) (c_X9_bar (C.2.2.2.2.2.2.2) (by omega) h) (fun v9 S' F' I' hq9 => ?_) K_no rfl
            clear h
            obtain ⟨z17, rfl, rfl, rfl, rfl, h⟩ := hq9
            refine J_if_ne C dX9_ticks_183 (tgt := 194) rfl (fun c183 => ?_) (fun c183 => ?_)
            · have h := h.1 c183
              exact S_X9_ticks_194 C M (by omega) hk136 (fun y0 y1 y2 y3 F' I' h9 => ih y0 y1 y2 y3 F' I' h9) h
            · have h := h.2 c183
              refine J_aload_n C dX9_ticks_186 rfl rfl ?_
              refine J_iload_n C dX9_ticks_187 rfl rfl ?_
              refine K_V C M [vi x3] [] mi_X9_enters wg_1590 wg_1592 wg_62 ⟨rfl, by decide⟩ dX9_ticks_188 hK1 rfl rfl (by decide) (Nat.le_of_ble_eq_true rfl) (c_X9_enters (C.2.2.2.2.2.2.2) (by omega) h) (fun v9 S' F' I18 hq9 => ?_) K_no rfl
              clear h
              obtain ⟨rfl, rfl, rfl, h⟩ := hq9
              refine K_iinc C [vr (some x0), vi (w32 (x1 + 1)), vi x2, vi x3] dX9_ticks_191 rfl rfl ?_
              exact S_X9_ticks_194 C M (by omega) hk136 (fun y0 y1 y2 y3 F' I' h9 => ih y0 y1 y2 y3 F' I' h9) h
set_option maxRecDepth 20000 in
set_option maxHeartbeats 4000000 in
theorem S_X9_ticks_136 {G : Gp} {X : Xt} {d : Nat}  {S : Shp} {Q : Int → Fl → Il → Prop} (C : CO G RX9 cX9_ticks 4 X) (M : MX d (some .int) "ticks" X) (hd : 7 ≤ d) (n9 : Nat)  : ∀ (x0 : Nat) (x1 : Int) (x2 : Int) (F : Fl) (I : Il), V_X9_ticks_136 n9 x0 x1 x2 S F I Q → J G X (QD X G (qI fun z S' F' I' => S = S' ∧ Q z F' I') noX) 136 [vr (some x0), vi x1, vi x2, vl 0] [] S F I := by
  induction n9 with
  | zero => intro x0 x1 x2 F I h; exact h.elim
  | succ n ih =>
    intro x0 x1 x2 F I h
    unfold V_X9_ticks_136 at h
    refine J_iload_n C dX9_ticks_136 rfl rfl ?_
    refine J_if_lt C dX9_ticks_137 (tgt := 206) rfl (fun c137 => ?_) (fun c137 => ?_)
    · have h := h.1 c137
      refine J_iload_n C dX9_ticks_206 rfl rfl ?_
      exact J_iret C dX9_ticks_207 M.2.2.1 ⟨_, rfl, rfl, h⟩
    · have h := h.2 c137
      refine J_iconst C dX9_ticks_140 (rg_of (by decide)) ?_
      refine K_istore_n C [vr (some x0), vi x1, vi x2, vi 0] dX9_ticks_141 rfl (Nat.le_of_ble_eq_true rfl) rfl ?_
      obtain ⟨n9, h⟩ := h
      exact S_X9_ticks_142 C M (by omega) n9 (fun y0 y1 y2 F' I' h9 => ih y0 y1 y2 F' I' h9) _ _ _ _ _ _ h
set_option maxRecDepth 20000 in
set_option maxHeartbeats 4000000 in
theorem S_X9_ticks_131 {G : Gp} {X : Xt} {d : Nat}  {x0 : Nat} {Q : Int → Fl → Il → Prop} {S : Shp} {F : Fl} {I : Il} (C : CO G RX9 cX9_ticks 4 X) (M : MX d (some .int) "ticks" X) (hd : 7 ≤ d)  (h : V_X9_ticks_131 x0 S F I Q) : J G X (QD X G (qI fun z S' F' I' => S = S' ∧ Q z F' I') noX) 131 [vr (some x0), vl 0, vl 0, vl 0] [] S F I := by
  unfold V_X9_ticks_131 at h
  refine J_iconst C dX9_ticks_131 (rg_of (by decide)) ?_
  refine K_istore_n C [vr (some x0), vi 0, vl 0, vl 0] dX9_ticks_132 rfl (Nat.le_of_ble_eq_true rfl) rfl ?_
  refine J_bipush C dX9_ticks_133 (by decide +kernel) (rg_of (by decide)) ?_
  refine K_istore_n C [vr (some x0), vi 0, vi 9, vl 0] dX9_ticks_135 rfl (Nat.le_of_ble_eq_true rfl) rfl ?_
  obtain ⟨n9, h⟩ := h
  exact S_X9_ticks_136 C M (by omega) n9  _ _ _ _ _ h
set_option maxRecDepth 20000 in
set_option maxHeartbeats 4000000 in
theorem S_X9_ticks_110 {G : Gp} {X : Xt} {d : Nat} {k67 : Nat → Int → Fl → Il → Prop} {x0 : Nat} {x1 : Int} {Q : Int → Fl → Il → Prop} {S : Shp} {F : Fl} {I : Il} (C : CO G RX9 cX9_ticks 4 X) (M : MX d (some .int) "ticks" X) (hd : 7 ≤ d) (hk67 : ∀ (x0 : Nat) (x1 : Int) (F' : Fl) (I' : Il), k67 x0 x1 F' I' → J G X (QD X G (qI fun z S' F' I' => S = S' ∧ Q z F' I') noX) 67 [vr (some x0), vi x1, vl 0, vl 0] [] S F' I') (h : V_X9_ticks_110 k67 x0 x1 S F I Q) : J G X (QD X G (qI fun z S' F' I' => S = S' ∧ Q z F' I') noX) 110 [vr (some x0), vi x1, vl 0, vl 0] [] S F I := by
  unfold V_X9_ticks_110 at h
  refine K_iinc C [vr (some x0), vi (w32 (x1 + 1)), vl 0, vl 0] dX9_ticks_110 rfl rfl ?_
  refine J_goto C dX9_ticks_113 (tgt := 67) rfl ?_
  exact hk67 x0 (w32 (x1 + 1)) F I h
set_option maxRecDepth 20000 in
set_option maxHeartbeats 4000000 in
theorem S_X9_ticks_67 {G : Gp} {X : Xt} {d : Nat}  {S : Shp} {Q : Int → Fl → Il → Prop} (C : CO G RX9 cX9_ticks 4 X) (M : MX d (some .int) "ticks" X) (hd : 7 ≤ d) (n9 : Nat)  : ∀ (x0 : Nat) (x1 : Int) (F : Fl) (I : Il), V_X9_ticks_67 n9 x0 x1 S F I Q → J G X (QD X G (qI fun z S' F' I' => S = S' ∧ Q z F' I') noX) 67 [vr (some x0), vi x1, vl 0, vl 0] [] S F I := by
  obtain ⟨d, rfl⟩ : ∃ d9, d = d9 + 1 := ⟨d - 1, by omega⟩
  induction n9 with
  | zero => intro x0 x1 F I h; exact h.elim
  | succ n ih =>
    intro x0 x1 F I h
    unfold V_X9_ticks_67 at h
    refine J_iload_n C dX9_ticks_67 rfl rfl ?_
    refine J_bipush C dX9_ticks_68 (by decide +kernel) (rg_of (by decide)) ?_
    refine J_icmp_ge C dX9_ticks_70 (tgt := 116) rfl (fun c70 => ?_) (fun c70 => ?_)
    · have h := h.1 c70
      refine J_aload_n C dX9_ticks_116 rfl rfl ?_
      obtain ⟨hK1, h⟩ := h
      refine J_getI C fo_10_1 rfl fl_RX9_187 dX9_ticks_117 hK1 ?_
      refine J_sipush C dX9_ticks_120 (by decide +kernel) (rg_of (by decide)) ?_
      refine J_irem C dX9_ticks_123 (by decide) ?_
      refine J_if_ne C dX9_ticks_124 (tgt := 131) rfl (fun c124 => ?_) (fun c124 => ?_)
      · have h := h.1 c124
        refine J_less [vr (some x0), vl 0, vl 0, vl 0] (by unfold lessL; simp [lessL]) ?_
        exact S_X9_ticks_131 C M (by omega)  h
      · have h := h.2 c124
        refine J_aload_n C dX9_ticks_127 rfl rfl ?_
        refine K_V C M [] [] mi_X9_pays wg_1562 wg_1564 wg_55 ⟨rfl, by decide⟩ dX9_ticks_128 hK1 rfl rfl (by decide) (Nat.le_of_ble_eq_true rfl) (c_X9_pays (C.2.2.2.2.2.2.2) (by omega) h) (fun v9 S' F2 I' hq9 => ?_) K_no rfl
        clear h
        obtain ⟨rfl, rfl, rfl, h⟩ := hq9
        refine J_less [vr (some x0), vl 0, vl 0, vl 0] (by unfold lessL; simp [lessL]) ?_
        exact S_X9_ticks_131 C M (by omega)  h
    · have h := h.2 c70
      refine J_aload_n C dX9_ticks_73 rfl rfl ?_
      obtain ⟨hK3, h⟩ := h
      obtain ⟨r4, hr5, h⟩ := h
      refine J_getR C fo_10_36 rfl fl_RX9_96 dX9_ticks_74 hK3 hr5 ?_
      refine J_iload_n C dX9_ticks_77 rfl rfl ?_
      obtain ⟨hK6, h⟩ := h
      obtain ⟨h07, hn8, h⟩ := h
      refine J_zald C dX9_ticks_78 hK6 h07 hn8 ?_
      refine J_if_eq C dX9_ticks_79 (tgt := 110) rfl (fun c79 => ?_) (fun c79 => ?_)
      · have h := h.1 c79
        exact S_X9_ticks_110 C M (by omega) (fun y0 y1 F' I' h9 => ih y0 y1 F' I' h9) h
      · have h := h.2 c79
        refine J_aload_n C dX9_ticks_82 rfl rfl ?_
        obtain ⟨r9, hr10, h⟩ := h
        refine J_getR C fo_10_39 rfl fl_RX9_105 dX9_ticks_83 hK3 hr10 ?_
        refine J_iload_n C dX9_ticks_86 rfl rfl ?_
        obtain ⟨hK11, h⟩ := h
        obtain ⟨h012, hn13, h⟩ := h
        refine J_iald C dX9_ticks_87 hK11 h012 hn13 ?_
        refine J_iconst C dX9_ticks_88 (rg_of (by decide)) ?_
        refine J_icmp_ne C dX9_ticks_89 (tgt := 110) rfl (fun c89 => ?_) (fun c89 => ?_)
        · have h := h.1 c89
          exact S_X9_ticks_110 C M (by omega) (fun y0 y1 F' I' h9 => ih y0 y1 F' I' h9) h
        · have h := h.2 c89
          refine J_aload_n C dX9_ticks_92 rfl rfl ?_
          obtain ⟨r14, hr15, h⟩ := h
          refine J_getR C fo_10_42 rfl fl_RX9_114 dX9_ticks_93 hK3 hr15 ?_
          refine J_iload_n C dX9_ticks_96 rfl rfl ?_
          obtain ⟨hK16, h⟩ := h
          obtain ⟨h017, hn18, h⟩ := h
          refine J_iald C dX9_ticks_97 hK16 h017 hn18 ?_
          refine J_aload_n C dX9_ticks_98 rfl rfl ?_
          refine J_getI C fo_10_1 rfl fl_RX9_187 dX9_ticks_99 hK3 ?_
          refine J_icmp_ne C dX9_ticks_102 (tgt := 110) rfl (fun c102 => ?_) (fun c102 => ?_)
          · have h := h.1 c102
            exact S_X9_ticks_110 C M (by omega) (fun y0 y1 F' I' h9 => ih y0 y1 F' I' h9) h
          · have h := h.2 c102
            refine J_aload_n C dX9_ticks_105 rfl rfl ?_
            refine J_iload_n C dX9_ticks_106 rfl rfl ?_
            refine K_V C M [vi x1] [] mi_X9_arrives wg_1558 wg_1560 wg_54 ⟨rfl, by decide⟩ dX9_ticks_107 hK3 rfl rfl (by decide) (Nat.le_of_ble_eq_true rfl) (c_X9_arrives (C.2.2.2.2.2.2.2) (by omega) h) (fun v9 S' F' I19 hq9 => ?_) K_no rfl
            clear h
            obtain ⟨rfl, rfl, rfl, h⟩ := hq9
            exact S_X9_ticks_110 C M (by omega) (fun y0 y1 F' I' h9 => ih y0 y1 F' I' h9) h
set_option maxRecDepth 20000 in
set_option maxHeartbeats 4000000 in
theorem S_X9_ticks_58 {G : Gp} {X : Xt} {d : Nat} {k12 : Nat → Int → Fl → Il → Prop} {x0 : Nat} {x1 : Int} {s0 : Int} {s1 : Int} {s2 : Nat} {Q : Int → Fl → Il → Prop} {S : Shp} {F : Fl} {I : Il} (C : CO G RX9 cX9_ticks 4 X) (M : MX d (some .int) "ticks" X) (hd : 7 ≤ d) (hk12 : ∀ (x0 : Nat) (x1 : Int) (F' : Fl) (I' : Il), k12 x0 x1 F' I' → J G X (QD X G (qI fun z S' F' I' => S = S' ∧ Q z F' I') noX) 12 [vr (some x0), vi x1, vl 0, vl 0] [] S F' I') (h : V_X9_ticks_58 k12 x0 x1 s0 s1 s2 S F I Q) : J G X (QD X G (qI fun z S' F' I' => S = S' ∧ Q z F' I') noX) 58 [vr (some x0), vi x1, vl 0, vl 0] [vi s0, vi s1, vr (some s2)] S F I := by
  unfold V_X9_ticks_58 at h
  obtain ⟨hK1, h⟩ := h
  obtain ⟨h02, hn3, h⟩ := h
  refine J_iast C dX9_ticks_58 hK1 h02 hn3 ?_
  refine K_iinc C [vr (some x0), vi (w32 (x1 + 1)), vl 0, vl 0] dX9_ticks_59 rfl rfl ?_
  refine J_goto C dX9_ticks_62 (tgt := 12) rfl ?_
  exact hk12 x0 (w32 (x1 + 1)) F (ui I s2 s1 s0) h
set_option maxRecDepth 20000 in
set_option maxHeartbeats 4000000 in
theorem S_X9_ticks_52 {G : Gp} {X : Xt} {d : Nat} {k12 : Nat → Int → Fl → Il → Prop} {x0 : Nat} {x1 : Int} {s0 : Int} {s1 : Nat} {Q : Int → Fl → Il → Prop} {S : Shp} {F : Fl} {I : Il} (C : CO G RX9 cX9_ticks 4 X) (M : MX d (some .int) "ticks" X) (hd : 7 ≤ d) (hk12 : ∀ (x0 : Nat) (x1 : Int) (F' : Fl) (I' : Il), k12 x0 x1 F' I' → J G X (QD X G (qI fun z S' F' I' => S = S' ∧ Q z F' I') noX) 12 [vr (some x0), vi x1, vl 0, vl 0] [] S F' I') (h : V_X9_ticks_52 k12 x0 x1 s0 s1 S F I Q) : J G X (QD X G (qI fun z S' F' I' => S = S' ∧ Q z F' I') noX) 52 [vr (some x0), vi x1, vl 0, vl 0] [vi s0, vr (some s1)] S F I := by
  unfold V_X9_ticks_52 at h
  refine J_aload_n C dX9_ticks_52 rfl rfl ?_
  obtain ⟨hK1, h⟩ := h
  obtain ⟨r2, hr3, h⟩ := h
  refine J_getR C fo_10_17 rfl fl_RX9_48 dX9_ticks_53 hK1 hr3 ?_
  refine J_iload_n C dX9_ticks_56 rfl rfl ?_
  obtain ⟨hK4, h⟩ := h
  obtain ⟨h05, hn6, h⟩ := h
  refine J_iald C dX9_ticks_57 hK4 h05 hn6 ?_
  exact S_X9_ticks_58 C M (by omega) hk12 h
set_option maxRecDepth 20000 in
set_option maxHeartbeats 4000000 in
theorem S_X9_ticks_12 {G : Gp} {X : Xt} {d : Nat}  {S : Shp} {Q : Int → Fl → Il → Prop} (C : CO G RX9 cX9_ticks 4 X) (M : MX d (some .int) "ticks" X) (hd : 7 ≤ d) (n9 : Nat)  : ∀ (x0 : Nat) (x1 : Int) (F : Fl) (I : Il), V_X9_ticks_12 n9 x0 x1 S F I Q → J G X (QD X G (qI fun z S' F' I' => S = S' ∧ Q z F' I') noX) 12 [vr (some x0), vi x1, vl 0, vl 0] [] S F I := by
  induction n9 with
  | zero => intro x0 x1 F I h; exact h.elim
  | succ n ih =>
    intro x0 x1 F I h
    unfold V_X9_ticks_12 at h
    refine J_iload_n C dX9_ticks_12 rfl rfl ?_
    refine J_aload_n C dX9_ticks_13 rfl rfl ?_
    obtain ⟨hK1, h⟩ := h
    refine J_getI C fo_10_6 rfl fl_RX9_181 dX9_ticks_14 hK1 ?_
    refine J_icmp_ge C dX9_ticks_17 (tgt := 65) rfl (fun c17 => ?_) (fun c17 => ?_)
    · have h := h.1 c17
      refine J_iconst C dX9_ticks_65 (rg_of (by decide)) ?_
      refine K_istore_n C [vr (some x0), vi 0, vl 0, vl 0] dX9_ticks_66 rfl (Nat.le_of_ble_eq_true rfl) rfl ?_
      obtain ⟨n9, h⟩ := h
      exact S_X9_ticks_67 C M (by omega) n9  _ _ _ _ h
    · have h := h.2 c17
      refine J_aload_n C dX9_ticks_20 rfl rfl ?_
      obtain ⟨r2, hr3, h⟩ := h
      refine J_getR C fo_10_17 rfl fl_RX9_48 dX9_ticks_21 hK1 hr3 ?_
      refine J_iload_n C dX9_ticks_24 rfl rfl ?_
      refine J_aload_n C dX9_ticks_25 rfl rfl ?_
      refine J_getR C fo_10_17 rfl fl_RX9_48 dX9_ticks_26 hK1 hr3 ?_
      refine J_iload_n C dX9_ticks_29 rfl rfl ?_
      obtain ⟨hK4, h⟩ := h
      obtain ⟨h05, hn6, h⟩ := h
      refine J_iald C dX9_ticks_30 hK4 h05 hn6 ?_
      refine J_iconst C dX9_ticks_31 (rg_of (by decide)) ?_
      refine J_icmp_eq C dX9_ticks_32 (tgt := 52) rfl (fun c32 => ?_) (fun c32 => ?_)
      · have h := h.1 c32
        exact S_X9_ticks_52 C M (by omega) (fun y0 y1 F' I' h9 => ih y0 y1 F' I' h9) h
      · have h := h.2 c32
        refine J_aload_n C dX9_ticks_35 rfl rfl ?_
        obtain ⟨r7, hr8, h⟩ := h
        refine J_getR C fo_10_18 rfl fl_RX9_51 dX9_ticks_36 hK1 hr8 ?_
        refine J_iload_n C dX9_ticks_39 rfl rfl ?_
        obtain ⟨hK9, h⟩ := h
        obtain ⟨h010, hn11, h⟩ := h
        refine J_iald C dX9_ticks_40 hK9 h010 hn11 ?_
        refine J_aload_n C dX9_ticks_41 rfl rfl ?_
        refine J_getI C fo_10_1 rfl fl_RX9_187 dX9_ticks_42 hK1 ?_
        refine J_icmp_gt C dX9_ticks_45 (tgt := 52) rfl (fun c45 => ?_) (fun c45 => ?_)
        · have h := h.1 c45
          exact S_X9_ticks_52 C M (by omega) (fun y0 y1 F' I' h9 => ih y0 y1 F' I' h9) h
        · have h := h.2 c45
          refine J_iconst C dX9_ticks_48 (rg_of (by decide)) ?_
          refine J_goto C dX9_ticks_49 (tgt := 58) rfl ?_
          exact S_X9_ticks_58 C M (by omega) (fun y0 y1 F' I' h9 => ih y0 y1 F' I' h9) h
set_option maxRecDepth 20000 in
set_option maxHeartbeats 4000000 in
theorem S_X9_ticks {G : Gp} {X : Xt} {d : Nat}  {x0 : Nat} {Q : Int → Fl → Il → Prop} {S : Shp} {F : Fl} {I : Il} (C : CO G RX9 cX9_ticks 4 X) (M : MX d (some .int) "ticks" X) (hd : 7 ≤ d)  (h : V_X9_ticks x0 S F I Q) : J G X (QD X G (qI fun z S' F' I' => S = S' ∧ Q z F' I') noX) 0 [vr (some x0), vl 0, vl 0, vl 0] [] S F I := by
  unfold V_X9_ticks at h
  refine J_aload_n C dX9_ticks_0 rfl rfl ?_
  refine J_dup C dX9_ticks_1 trivial ?_
  obtain ⟨hK1, h⟩ := h
  refine J_getI C fo_10_1 rfl fl_RX9_187 dX9_ticks_2 hK1 ?_
  refine J_iconst C dX9_ticks_5 (rg_of (by decide)) ?_
  refine J_iadd C dX9_ticks_6 ?_
  refine J_putI C fo_10_1 fp_10 fl_RX9_187 (Or.inl rfl) (Or.inl rfl) dX9_ticks_7 hK1 ?_
  refine J_iconst C dX9_ticks_10 (rg_of (by decide)) ?_
  refine K_istore_n C [vr (some x0), vi 0, vl 0, vl 0] dX9_ticks_11 rfl (Nat.le_of_ble_eq_true rfl) rfl ?_
  obtain ⟨n9, h⟩ := h
  exact S_X9_ticks_12 C M (by omega) n9  _ _ _ _ h
theorem c_X9_ticks {l : Launch} {G : Gp} {d : Nat} {x0 : Nat} {S : Shp} {F : Fl} {I : Il} {Q : Int → Fl → Il → Prop} (hl : l.stackTraces = false) (hd : 7 ≤ d) (h : V_X9_ticks x0 S F I Q) : CM l G d yX9_ticks (.code yX9_ticks cX9_ticks 4 (some .int)) [vr (some x0)] S F I (qI fun z S' F' I' => S = S' ∧ Q z F' I') noX :=
  CM_ofM [vr (some x0), vl 0, vl 0, vl 0] hl (by decide +kernel) (kn1 trivial kn0) (Nat.le_of_ble_eq_true rfl) rfl (fun X hX C M => S_X9_ticks C M hd h)
set_option maxRecDepth 20000 in
set_option maxHeartbeats 4000000 in
theorem S_X9_run_40 {G : Gp} {X : Xt} {d : Nat}  {S : Shp} {Q : Int → Fl → Il → Prop} (C : CO G RX9 cX9_run 4 X) (M : MX d (some .int) "run" X) (hd : 8 ≤ d) (n9 : Nat)  : ∀ (x0 : Nat) (x1 : Int) (x2 : Int) (x3 : Int) (F : Fl) (I : Il), V_X9_run_40 n9 x0 x1 x2 x3 S F I Q → J G X (QD X G (qI fun z S' F' I' => S = S' ∧ Q z F' I') noX) 40 [vr (some x0), vi x1, vi x2, vi x3] [] S F I := by
  obtain ⟨d, rfl⟩ : ∃ d9, d = d9 + 1 := ⟨d - 1, by omega⟩
  induction n9 with
  | zero => intro x0 x1 x2 x3 F I h; exact h.elim
  | succ n ih =>
    intro x0 x1 x2 x3 F I h
    unfold V_X9_run_40 at h
    refine J_iload_n C dX9_run_40 rfl rfl ?_
    refine J_iload_n C dX9_run_41 rfl rfl ?_
    refine J_icmp_ge C dX9_run_42 (tgt := 65) rfl (fun c42 => ?_) (fun c42 => ?_)
    · have h := h.1 c42
      refine J_iload_n C dX9_run_65 rfl rfl ?_
      exact J_iret C dX9_run_66 M.2.2.1 ⟨_, rfl, rfl, h⟩
    · have h := h.2 c42
      refine J_aload_n C dX9_run_45 rfl rfl ?_
      obtain ⟨hK1, h⟩ := h
      refine J_getI C fo_10_0 rfl fl_RX9_174 dX9_run_46 hK1 ?_
      refine J_if_ne C dX9_run_49 (tgt := 65) rfl (fun c49 => ?_) (fun c49 => ?_)
      · have h := h.1 c49
        refine J_iload_n C dX9_run_65 rfl rfl ?_
        exact J_iret C dX9_run_66 M.2.2.1 ⟨_, rfl, rfl, h⟩
      · have h := h.2 c49
        refine J_iload_n C dX9_run_52 rfl rfl ?_
        refine J_aload_n C dX9_run_53 rfl rfl ?_
        refine K_V C M [] [vi x2] mi_X9_ticks wg_1554 wg_1556 wg_53 ⟨rfl, by decide⟩ dX9_run_54 hK1 rfl rfl (by decide) (Nat.le_of_ble_eq_true rfl) (c_X9_ticks (C.2.2.2.2.2.2.2) (by omega) h) (fun v9 S' F3 I4 hq9 => ?_) K_no rfl
        clear h
        obtain ⟨z2, rfl, rfl, h⟩ := hq9
        refine J_iadd C dX9_run_57 ?_
        refine K_istore_n C [vr (some x0), vi x1, vi (w32 (x2 + z2)), vi x3] dX9_run_58 rfl (Nat.le_of_ble_eq_true rfl) rfl ?_
        refine K_iinc C [vr (some x0), vi x1, vi (w32 (x2 + z2)), vi (w32 (x3 + 1))] dX9_run_59 rfl rfl ?_
        refine J_goto C dX9_run_62 (tgt := 40) rfl ?_
        exact ih _ _ _ _ _ _ h
set_option maxRecDepth 20000 in
set_option maxHeartbeats 4000000 in
theorem S_X9_run_33 {G : Gp} {X : Xt} {d : Nat}  {x0 : Nat} {x1 : Int} {s0 : Int} {s1 : Nat} {Q : Int → Fl → Il → Prop} {S : Shp} {F : Fl} {I : Il} (C : CO G RX9 cX9_run 4 X) (M : MX d (some .int) "run" X) (hd : 8 ≤ d)  (h : V_X9_run_33 x0 x1 s0 s1 S F I Q) : J G X (QD X G (qI fun z S' F' I' => S = S' ∧ Q z F' I') noX) 33 [vr (some x0), vi x1, vl 0, vl 0] [vi s0, vr (some s1)] S F I := by
  unfold V_X9_run_33 at h
  obtain ⟨hK1, h⟩ := h
  refine J_putI C fo_10_0 fp_10 fl_RX9_174 (Or.inl rfl) (Or.inl rfl) dX9_run_33 hK1 ?_
  refine J_iconst C dX9_run_36 (rg_of (by decide)) ?_
  refine K_istore_n C [vr (some x0), vi x1, vi 0, vl 0] dX9_run_37 rfl (Nat.le_of_ble_eq_true rfl) rfl ?_
  refine J_iconst C dX9_run_38 (rg_of (by decide)) ?_
  refine K_istore_n C [vr (some x0), vi x1, vi 0, vi 0] dX9_run_39 rfl (Nat.le_of_ble_eq_true rfl) rfl ?_
  obtain ⟨n9, h⟩ := h
  exact S_X9_run_40 C M (by omega) n9  _ _ _ _ _ _ h
set_option maxRecDepth 20000 in
set_option maxHeartbeats 4000000 in
theorem S_X9_run {G : Gp} {X : Xt} {d : Nat}  {x0 : Nat} {x1 : Int} {Q : Int → Fl → Il → Prop} {S : Shp} {F : Fl} {I : Il} (C : CO G RX9 cX9_run 4 X) (M : MX d (some .int) "run" X) (hd : 8 ≤ d)  (h : V_X9_run x0 x1 S F I Q) : J G X (QD X G (qI fun z S' F' I' => S = S' ∧ Q z F' I') noX) 0 [vr (some x0), vi x1, vl 0, vl 0] [] S F I := by
  unfold V_X9_run at h
  obtain ⟨d, rfl⟩ : ∃ d9, d = d9 + 1 := ⟨d - 1, by omega⟩
  refine J_aload_n C dX9_run_0 rfl rfl ?_
  refine J_iload_n C dX9_run_1 rfl rfl ?_
  refine J_iconst C dX9_run_2 (rg_of (by decide)) ?_
  refine J_sipush C dX9_run_3 (by decide +kernel) (rg_of (by decide)) ?_
  refine K_S C M [vi x1, vi 1, vi 300] [vr (some x0)] mi_X9_in wg_1414 wg_1415 dX9_run_6 rfl rfl (by decide) (Nat.le_of_ble_eq_true rfl) (c_X9_in (C.2.2.2.2.2.2.2) (by omega) h) (fun v9 S' F' I' hq9 => ?_) K_no rfl
  clear h
  obtain ⟨z1, rfl, rfl, rfl, rfl, h⟩ := hq9
  refine J_if_ne C dX9_run_9 (tgt := 16) rfl (fun c9 => ?_) (fun c9 => ?_)
  · have h := h.1 c9
    refine J_aload_n C dX9_run_16 rfl rfl ?_
    obtain ⟨hK2, h⟩ := h
    refine J_getI C fo_10_1 rfl fl_RX9_187 dX9_run_17 hK2 ?_
    refine J_iload_n C dX9_run_20 rfl rfl ?_
    refine J_iadd C dX9_run_21 ?_
    refine J_sipush C dX9_run_22 (by decide +kernel) (rg_of (by decide)) ?_
    refine J_icmp_le C dX9_run_25 (tgt := 32) rfl (fun c25 => ?_) (fun c25 => ?_)
    · have h := h.1 c25
      refine J_iconst C dX9_run_32 (rg_of (by decide)) ?_
      exact S_X9_run_33 C M (by omega)  h
    · have h := h.2 c25
      refine J_iconst C dX9_run_28 (rg_of (by decide)) ?_
      refine J_goto C dX9_run_29 (tgt := 33) rfl ?_
      exact S_X9_run_33 C M (by omega)  h
  · have h := h.2 c9
    refine J_iconst C dX9_run_12 (rg_of (by decide)) ?_
    refine J_goto C dX9_run_13 (tgt := 33) rfl ?_
    exact S_X9_run_33 C M (by omega)  h
theorem c_X9_run {l : Launch} {G : Gp} {d : Nat} {x0 : Nat} {x1 : Int} {S : Shp} {F : Fl} {I : Il} {Q : Int → Fl → Il → Prop} (hl : l.stackTraces = false) (hd : 8 ≤ d) (h : V_X9_run x0 x1 S F I Q) : CM l G d yX9_run (.code yX9_run cX9_run 4 (some .int)) [vr (some x0), vi x1] S F I (qI fun z S' F' I' => S = S' ∧ Q z F' I') noX :=
  CM_ofM [vr (some x0), vi x1, vl 0, vl 0] hl (by decide +kernel) (kn1 trivial (kn1 trivial kn0)) (Nat.le_of_ble_eq_true rfl) rfl (fun X hX C M => S_X9_run C M hd h)
set_option maxRecDepth 20000 in
set_option maxHeartbeats 4000000 in
theorem S_X9_sort_149 {G : Gp} {X : Xt} {d : Nat} {k110 : Nat → Int → Int → Int → Fl → Il → Prop} {x0 : Nat} {x1 : Int} {x4 : Int} {s0 : Int} {s1 : Int} {Q : Int → Fl → Il → Prop} {S : Shp} {F : Fl} {I : Il} (C : CO G RX9 cX9_sort 6 X) (M : MX d (some .int) "sort" X) (hd : 3 ≤ d) (hk110 : ∀ (x0 : Nat) (x1 : Int) (x3 : Int) (x4 : Int) (F' : Fl) (I' : Il), k110 x0 x1 x3 x4 F' I' → J G X (QD X G (qI fun z S' F' I' => S = S' ∧ Q z F' I') noX) 110 [vr (some x0), vi x1, vl 0, vi x3, vi x4, vl 0] [] S F' I') (h : V_X9_sort_149 k110 x0 x1 x4 s0 s1 S F I Q) : J G X (QD X G (qI fun z S' F' I' => S = S' ∧ Q z F' I') noX) 149 [vr (some x0), vi x1, vl 0, vl 0, vi x4, vl 0] [vi s0, vi s1] S F I := by
  unfold V_X9_sort_149 at h
  refine J_iadd C dX9_sort_149 ?_
  refine K_istore_n C [vr (some x0), vi x1, vl 0, vi (w32 (s1 + s0)), vi x4, vl 0] dX9_sort_150 rfl (Nat.le_of_ble_eq_true rfl) rfl ?_
  refine J_aload_n C dX9_sort_151 rfl rfl ?_
  obtain ⟨hK1, h⟩ := h
  obtain ⟨r2, hr3, h⟩ := h
  refine J_getR C fo_10_34 rfl fl_RX9_90 dX9_sort_152 hK1 hr3 ?_
  refine J_bipush C dX9_sort_155 (by decide +kernel) (rg_of (by decide)) ?_
  refine J_iload_n C dX9_sort_157 rfl rfl ?_
  refine J_imul C dX9_sort_158 ?_
  refine J_iload C dX9_sort_159 rfl ?_
  refine J_iadd C dX9_sort_161 ?_
  refine J_aload_n C dX9_sort_162 rfl rfl ?_
  obtain ⟨r4, hr5, h⟩ := h
  refine J_getR C fo_10_64 rfl fl_RX9_171 dX9_sort_163 hK1 hr5 ?_
  refine J_iload C dX9_sort_166 rfl ?_
  obtain ⟨hK6, h⟩ := h
  obtain ⟨h07, hn8, h⟩ := h
  refine J_iald C dX9_sort_168 hK6 h07 hn8 ?_
  obtain ⟨hK9, h⟩ := h
  obtain ⟨h010, hn11, h⟩ := h
  refine J_iast C dX9_sort_169 hK9 h010 hn11 ?_
  refine K_iinc C [vr (some x0), vi x1, vl 0, vi (w32 (s1 + s0)), vi (w32 (x4 + 1)), vl 0] dX9_sort_170 rfl rfl ?_
  refine J_goto C dX9_sort_173 (tgt := 110) rfl ?_
  exact hk110 x0 x1 (w32 (s1 + s0)) (w32 (x4 + 1)) F (ui I r2 (w32 ((w32 (20 * x1)) + x4)) (I r4 x4)) h
set_option maxRecDepth 20000 in
set_option maxHeartbeats 4000000 in
theorem S_X9_sort_110 {G : Gp} {X : Xt} {d : Nat}  {S : Shp} {Q : Int → Fl → Il → Prop} (C : CO G RX9 cX9_sort 6 X) (M : MX d (some .int) "sort" X) (hd : 3 ≤ d) (n9 : Nat)  : ∀ (x0 : Nat) (x1 : Int) (x3 : Int) (x4 : Int) (F : Fl) (I : Il), V_X9_sort_110 n9 x0 x1 x3 x4 S F I Q → J G X (QD X G (qI fun z S' F' I' => S = S' ∧ Q z F' I') noX) 110 [vr (some x0), vi x1, vl 0, vi x3, vi x4, vl 0] [] S F I := by
  induction n9 with
  | zero => intro x0 x1 x3 x4 F I h; exact h.elim
  | succ n ih =>
    intro x0 x1 x3 x4 F I h
    unfold V_X9_sort_110 at h
    refine J_iload C dX9_sort_110 rfl ?_
    refine J_aload_n C dX9_sort_112 rfl rfl ?_
    obtain ⟨hK1, h⟩ := h
    obtain ⟨r2, hr3, h⟩ := h
    refine J_getR C fo_10_35 rfl fl_RX9_93 dX9_sort_113 hK1 hr3 ?_
    refine J_iload_n C dX9_sort_116 rfl rfl ?_
    obtain ⟨hK4, h⟩ := h
    obtain ⟨h05, hn6, h⟩ := h
    refine J_iald C dX9_sort_117 hK4 h05 hn6 ?_
    refine J_icmp_ge C dX9_sort_118 (tgt := 176) rfl (fun c118 => ?_) (fun c118 => ?_)
    · have h := h.1 c118
      refine J_iload_n C dX9_sort_176 rfl rfl ?_
      exact J_iret C dX9_sort_177 M.2.2.1 ⟨_, rfl, rfl, h⟩
    · have h := h.2 c118
      refine J_iload_n C dX9_sort_121 rfl rfl ?_
      refine J_aload_n C dX9_sort_122 rfl rfl ?_
      obtain ⟨r7, hr8, h⟩ := h
      refine J_getR C fo_10_64 rfl fl_RX9_171 dX9_sort_123 hK1 hr8 ?_
      refine J_iload C dX9_sort_126 rfl ?_
      obtain ⟨hK9, h⟩ := h
      obtain ⟨h010, hn11, h⟩ := h
      refine J_iald C dX9_sort_128 hK9 h010 hn11 ?_
      refine J_aload_n C dX9_sort_129 rfl rfl ?_
      obtain ⟨r12, hr13, h⟩ := h
      refine J_getR C fo_10_34 rfl fl_RX9_90 dX9_sort_130 hK1 hr13 ?_
      refine J_bipush C dX9_sort_133 (by decide +kernel) (rg_of (by decide)) ?_
      refine J_iload_n C dX9_sort_135 rfl rfl ?_
      refine J_imul C dX9_sort_136 ?_
      refine J_iload C dX9_sort_137 rfl ?_
      refine J_iadd C dX9_sort_139 ?_
      obtain ⟨hK14, h⟩ := h
      obtain ⟨h015, hn16, h⟩ := h
      refine J_iald C dX9_sort_140 hK14 h015 hn16 ?_
      refine J_icmp_eq C dX9_sort_141 (tgt := 148) rfl (fun c141 => ?_) (fun c141 => ?_)
      · have h := h.1 c141
        refine J_iconst C dX9_sort_148 (rg_of (by decide)) ?_
        refine J_less [vr (some x0), vi x1, vl 0, vl 0, vi x4, vl 0] (by unfold lessL; simp [lessL]) ?_
        exact S_X9_sort_149 C M (by omega) (fun y0 y1 y2 y3 F' I' h9 => ih y0 y1 y2 y3 F' I' h9) h
      · have h := h.2 c141
        refine J_iconst C dX9_sort_144 (rg_of (by decide)) ?_
        refine J_goto C dX9_sort_145 (tgt := 149) rfl ?_
        refine J_less [vr (some x0), vi x1, vl 0, vl 0, vi x4, vl 0] (by unfold lessL; simp [lessL]) ?_
        exact S_X9_sort_149 C M (by omega) (fun y0 y1 y2 y3 F' I' h9 => ih y0 y1 y2 y3 F' I' h9) h
set_option maxRecDepth 20000 in
set_option maxHeartbeats 4000000 in
theorem S_X9_sort_95 {G : Gp} {X : Xt} {d : Nat} {k32 : Nat → Int → Int → Int → Int → Fl → Il → Prop} {k42 : Nat → Int → Int → Int → Int → Int → Fl → Il → Prop} {x0 : Nat} {x1 : Int} {x2 : Int} {x3 : Int} {x4 : Int} {x5 : Int} {Q : Int → Fl → Il → Prop} {S : Shp} {F : Fl} {I : Il} (C : CO G RX9 cX9_sort 6 X) (M : MX d (some .int) "sort" X) (hd : 3 ≤ d) (hk32 : ∀ (x0 : Nat) (x1 : Int) (x2 : Int) (x3 : Int) (x4 : Int) (F' : Fl) (I' : Il), k32 x0 x1 x2 x3 x4 F' I' → J G X (QD X G (qI fun z S' F' I' => S = S' ∧ Q z F' I') noX) 32 [vr (some x0), vi x1, vi x2, vi x3, vi x4, vl 0] [] S F' I') (hk42 : ∀ (x0 : Nat) (x1 : Int) (x2 : Int) (x3 : Int) (x4 : Int) (x5 : Int) (F' : Fl) (I' : Il), k42 x0 x1 x2 x3 x4 x5 F' I' → J G X (QD X G (qI fun z S' F' I' => S = S' ∧ Q z F' I') noX) 42 [vr (some x0), vi x1, vi x2, vi x3, vi x4, vi x5] [] S F' I') (h : V_X9_sort_95 k32 k42 x0 x1 x2 x3 x4 x5 S F I Q) : J G X (QD X G (qI fun z S' F' I' => S = S' ∧ Q z F' I') noX) 95 [vr (some x0), vi x1, vi x2, vi x3, vi x4, vi x5] [] S F I := by
  unfold V_X9_sort_95 at h
  refine K_iinc C [vr (some x0), vi x1, vi x2, vi x3, vi x4, vi (w32 (x5 + 1))] dX9_sort_95 rfl rfl ?_
  refine J_goto C dX9_sort_98 (tgt := 42) rfl ?_
  exact hk42 x0 x1 x2 x3 x4 (w32 (x5 + 1)) F I h
set_option maxRecDepth 20000 in
set_option maxHeartbeats 4000000 in
theorem S_X9_sort_42 {G : Gp} {X : Xt} {d : Nat} {k32 : Nat → Int → Int → Int → Int → Fl → Il → Prop} {S : Shp} {Q : Int → Fl → Il → Prop} (C : CO G RX9 cX9_sort 6 X) (M : MX d (some .int) "sort" X) (hd : 3 ≤ d) (n9 : Nat) (hk32 : ∀ (x0 : Nat) (x1 : Int) (x2 : Int) (x3 : Int) (x4 : Int) (F' : Fl) (I' : Il), k32 x0 x1 x2 x3 x4 F' I' → J G X (QD X G (qI fun z S' F' I' => S = S' ∧ Q z F' I') noX) 32 [vr (some x0), vi x1, vi x2, vi x3, vi x4, vl 0] [] S F' I') : ∀ (x0 : Nat) (x1 : Int) (x2 : Int) (x3 : Int) (x4 : Int) (x5 : Int) (F : Fl) (I : Il), V_X9_sort_42 n9 k32 x0 x1 x2 x3 x4 x5 S F I Q → J G X (QD X G (qI fun z S' F' I' => S = S' ∧ Q z F' I') noX) 42 [vr (some x0), vi x1, vi x2, vi x3, vi x4, vi x5] [] S F I := by
  obtain ⟨d, rfl⟩ : ∃ d9, d = d9 + 1 := ⟨d - 1, by omega⟩
  induction n9 with
  | zero => intro x0 x1 x2 x3 x4 x5 F I h; exact h.elim
  | succ n ih =>
    intro x0 x1 x2 x3 x4 x5 F I h
    unfold V_X9_sort_42 at h
    refine J_iload C dX9_sort_42 rfl ?_
    refine J_aload_n C dX9_sort_44 rfl rfl ?_
    obtain ⟨hK1, h⟩ := h
    obtain ⟨r2, hr3, h⟩ := h
    refine J_getR C fo_10_35 rfl fl_RX9_93 dX9_sort_45 hK1 hr3 ?_
    refine J_iload_n C dX9_sort_48 rfl rfl ?_
    obtain ⟨hK4, h⟩ := h
    obtain ⟨h05, hn6, h⟩ := h
    refine J_iald C dX9_sort_49 hK4 h05 hn6 ?_
    refine J_icmp_ge C dX9_sort_50 (tgt := 101) rfl (fun c50 => ?_) (fun c50 => ?_)
    · have h := h.1 c50
      refine K_iinc C [vr (some x0), vi x1, vi x2, vi x3, vi (w32 (x4 + 1)), vi x5] dX9_sort_101 rfl rfl ?_
      refine J_goto C dX9_sort_104 (tgt := 32) rfl ?_
      refine J_less [vr (some x0), vi x1, vi x2, vi x3, vi (w32 (x4 + 1)), vl 0] (by unfold lessL; simp [lessL]) ?_
      exact hk32 x0 x1 x2 x3 (w32 (x4 + 1)) F I h
    · have h := h.2 c50
      refine J_aload_n C dX9_sort_53 rfl rfl ?_
      refine J_aload_n C dX9_sort_54 rfl rfl ?_
      obtain ⟨r7, hr8, h⟩ := h
      refine J_getR C fo_10_34 rfl fl_RX9_90 dX9_sort_55 hK1 hr8 ?_
      refine J_bipush C dX9_sort_58 (by decide +kernel) (rg_of (by decide)) ?_
      refine J_iload_n C dX9_sort_60 rfl rfl ?_
      refine J_imul C dX9_sort_61 ?_
      refine J_iload C dX9_sort_62 rfl ?_
      refine J_iadd C dX9_sort_64 ?_
      obtain ⟨hK9, h⟩ := h
      obtain ⟨h010, hn11, h⟩ := h
      refine J_iald C dX9_sort_65 hK9 h010 hn11 ?_
      refine K_V C M [vi (I r7 (w32 ((w32 (20 * x1)) + x5)))] [] mi_X9_goal wg_1626 wg_1628 wg_64 ⟨rfl, by decide⟩ dX9_sort_66 hK1 rfl rfl (by decide) (Nat.le_of_ble_eq_true rfl) (c_X9_goal (C.2.2.2.2.2.2.2) (by omega) h) (fun v9 S' F' I' hq9 => ?_) K_no rfl
      clear h
      obtain ⟨z12, rfl, rfl, rfl, rfl, h⟩ := hq9
      refine J_iload C dX9_sort_69 rfl ?_
      refine J_icmp_ne C dX9_sort_71 (tgt := 95) rfl (fun c71 => ?_) (fun c71 => ?_)
      · have h := h.1 c71
        exact S_X9_sort_95 C M (by omega) hk32 (fun y0 y1 y2 y3 y4 y5 F' I' h9 => ih y0 y1 y2 y3 y4 y5 F' I' h9) h
      · have h := h.2 c71
        refine J_aload_n C dX9_sort_74 rfl rfl ?_
        obtain ⟨r13, hr14, h⟩ := h
        refine J_getR C fo_10_64 rfl fl_RX9_171 dX9_sort_75 hK1 hr14 ?_
        refine J_iload_n C dX9_sort_78 rfl rfl ?_
        refine J_aload_n C dX9_sort_79 rfl rfl ?_
        refine J_getR C fo_10_34 rfl fl_RX9_90 dX9_sort_80 hK1 hr8 ?_
        refine J_bipush C dX9_sort_83 (by decide +kernel) (rg_of (by decide)) ?_
        refine J_iload_n C dX9_sort_85 rfl rfl ?_
        refine J_imul C dX9_sort_86 ?_
        refine J_iload C dX9_sort_87 rfl ?_
        refine J_iadd C dX9_sort_89 ?_
        obtain ⟨h015, hn16, h⟩ := h
        refine J_iald C dX9_sort_90 hK9 h015 hn16 ?_
        obtain ⟨hK17, h⟩ := h
        obtain ⟨h018, hn19, h⟩ := h
        refine J_iast C dX9_sort_91 hK17 h018 hn19 ?_
        refine K_iinc C [vr (some x0), vi x1, vi (w32 (x2 + 1)), vi x3, vi x4, vi x5] dX9_sort_92 rfl rfl ?_
        exact S_X9_sort_95 C M (by omega) hk32 (fun y0 y1 y2 y3 y4 y5 F' I' h9 => ih y0 y1 y2 y3 y4 y5 F' I' h9) h
set_option maxRecDepth 20000 in
set_option maxHeartbeats 4000000 in
theorem S_X9_sort_32 {G : Gp} {X : Xt} {d : Nat}  {S : Shp} {Q : Int → Fl → Il → Prop} (C : CO G RX9 cX9_sort 6 X) (M : MX d (some .int) "sort" X) (hd : 3 ≤ d) (n9 : Nat)  : ∀ (x0 : Nat) (x1 : Int) (x2 : Int) (x3 : Int) (x4 : Int) (F : Fl) (I : Il), V_X9_sort_32 n9 x0 x1 x2 x3 x4 S F I Q → J G X (QD X G (qI fun z S' F' I' => S = S' ∧ Q z F' I') noX) 32 [vr (some x0), vi x1, vi x2, vi x3, vi x4, vl 0] [] S F I := by
  induction n9 with
  | zero => intro x0 x1 x2 x3 x4 F I h; exact h.elim
  | succ n ih =>
    intro x0 x1 x2 x3 x4 F I h
    unfold V_X9_sort_32 at h
    refine J_iload C dX9_sort_32 rfl ?_
    refine J_bipush C dX9_sort_34 (by decide +kernel) (rg_of (by decide)) ?_
    refine J_icmp_ge C dX9_sort_36 (tgt := 107) rfl (fun c36 => ?_) (fun c36 => ?_)
    · have h := h.1 c36
      refine J_iconst C dX9_sort_107 (rg_of (by decide)) ?_
      refine K_istore C [vr (some x0), vi x1, vi x2, vi x3, vi 0, vl 0] dX9_sort_108 (Nat.le_of_ble_eq_true rfl) rfl ?_
      refine J_less [vr (some x0), vi x1, vl 0, vi x3, vi 0, vl 0] (by unfold lessL; simp [lessL]) ?_
      obtain ⟨n9, h⟩ := h
      exact S_X9_sort_110 C M (by omega) n9  _ _ _ _ _ _ h
    · have h := h.2 c36
      refine J_iconst C dX9_sort_39 (rg_of (by decide)) ?_
      refine K_istore C [vr (some x0), vi x1, vi x2, vi x3, vi x4, vi 0] dX9_sort_40 (Nat.le_of_ble_eq_true rfl) rfl ?_
      obtain ⟨n9, h⟩ := h
      exact S_X9_sort_42 C M (by omega) n9 (fun y0 y1 y2 y3 y4 F' I' h9 => ih y0 y1 y2 y3 y4 F' I' h9) _ _ _ _ _ _ _ _ h
set_option maxRecDepth 20000 in
set_option maxHeartbeats 4000000 in
theorem S_X9_sort_13 {G : Gp} {X : Xt} {d : Nat}  {x0 : Nat} {x1 : Int} {s0 : Int} {s1 : Nat} {Q : Int → Fl → Il → Prop} {S : Shp} {F : Fl} {I : Il} (C : CO G RX9 cX9_sort 6 X) (M : MX d (some .int) "sort" X) (hd : 3 ≤ d)  (h : V_X9_sort_13 x0 x1 s0 s1 S F I Q) : J G X (QD X G (qI fun z S' F' I' => S = S' ∧ Q z F' I') noX) 13 [vr (some x0), vi x1, vl 0, vl 0, vl 0, vl 0] [vi s0, vr (some s1)] S F I := by
  unfold V_X9_sort_13 at h
  obtain ⟨hK1, h⟩ := h
  refine J_putI C fo_10_0 fp_10 fl_RX9_174 (Or.inl rfl) (Or.inl rfl) dX9_sort_13 hK1 ?_
  refine J_aload_n C dX9_sort_16 rfl rfl ?_
  obtain ⟨hK2, h⟩ := h
  refine J_getI C fo_10_0 rfl fl_RX9_174 dX9_sort_17 hK2 ?_
  refine J_if_le C dX9_sort_20 (tgt := 25) rfl (fun c20 => ?_) (fun c20 => ?_)
  · have h := h.1 c20
    refine J_iconst C dX9_sort_25 (rg_of (by decide)) ?_
    refine K_istore_n C [vr (some x0), vi x1, vi 0, vl 0, vl 0, vl 0] dX9_sort_26 rfl (Nat.le_of_ble_eq_true rfl) rfl ?_
    refine J_iconst C dX9_sort_27 (rg_of (by decide)) ?_
    refine K_istore_n C [vr (some x0), vi x1, vi 0, vi 0, vl 0, vl 0] dX9_sort_28 rfl (Nat.le_of_ble_eq_true rfl) rfl ?_
    refine J_iconst C dX9_sort_29 (rg_of (by decide)) ?_
    refine K_istore C [vr (some x0), vi x1, vi 0, vi 0, vi 0, vl 0] dX9_sort_30 (Nat.le_of_ble_eq_true rfl) rfl ?_
    obtain ⟨n9, h⟩ := h
    exact S_X9_sort_32 C M (by omega) n9  _ _ _ _ _ _ _ h
  · have h := h.2 c20
    refine J_iconst C dX9_sort_23 (rg_of (by decide)) ?_
    exact J_iret C dX9_sort_24 M.2.2.1 ⟨_, rfl, rfl, h⟩
set_option maxRecDepth 20000 in
set_option maxHeartbeats 4000000 in
theorem S_X9_sort {G : Gp} {X : Xt} {d : Nat}  {x0 : Nat} {x1 : Int} {Q : Int → Fl → Il → Prop} {S : Shp} {F : Fl} {I : Il} (C : CO G RX9 cX9_sort 6 X) (M : MX d (some .int) "sort" X) (hd : 3 ≤ d)  (h : V_X9_sort x0 x1 S F I Q) : J G X (QD X G (qI fun z S' F' I' => S = S' ∧ Q z F' I') noX) 0 [vr (some x0), vi x1, vl 0, vl 0, vl 0, vl 0] [] S F I := by
  unfold V_X9_sort at h
  obtain ⟨d, rfl⟩ : ∃ d9, d = d9 + 1 := ⟨d - 1, by omega⟩
  refine J_aload_n C dX9_sort_0 rfl rfl ?_
  refine J_iload_n C dX9_sort_1 rfl rfl ?_
  refine K_S C M [vi x1] [vr (some x0)] mi_X9_isStation wg_1411 wg_1412 dX9_sort_2 rfl rfl (by decide) (Nat.le_of_ble_eq_true rfl) (c_X9_isStation (C.2.2.2.2.2.2.2) (by omega) h) (fun v9 S' F' I' hq9 => ?_) K_no rfl
  clear h
  obtain ⟨z1, rfl, rfl, rfl, rfl, h⟩ := hq9
  refine J_if_eq C dX9_sort_5 (tgt := 12) rfl (fun c5 => ?_) (fun c5 => ?_)
  · have h := h.1 c5
    refine J_iconst C dX9_sort_12 (rg_of (by decide)) ?_
    exact S_X9_sort_13 C M (by omega)  h
  · have h := h.2 c5
    refine J_iconst C dX9_sort_8 (rg_of (by decide)) ?_
    refine J_goto C dX9_sort_9 (tgt := 13) rfl ?_
    exact S_X9_sort_13 C M (by omega)  h
theorem c_X9_sort {l : Launch} {G : Gp} {d : Nat} {x0 : Nat} {x1 : Int} {S : Shp} {F : Fl} {I : Il} {Q : Int → Fl → Il → Prop} (hl : l.stackTraces = false) (hd : 3 ≤ d) (h : V_X9_sort x0 x1 S F I Q) : CM l G d yX9_sort (.code yX9_sort cX9_sort 6 (some .int)) [vr (some x0), vi x1] S F I (qI fun z S' F' I' => S = S' ∧ Q z F' I') noX :=
  CM_ofM [vr (some x0), vi x1, vl 0, vl 0, vl 0, vl 0] hl (by decide +kernel) (kn1 trivial (kn1 trivial kn0)) (Nat.le_of_ble_eq_true rfl) rfl (fun X hX C M => S_X9_sort C M hd h)
set_option maxRecDepth 20000 in
set_option maxHeartbeats 4000000 in
theorem S_X9_thrown {G : Gp} {X : Xt} {d : Nat}  {x0 : Nat} {Q : Int → Prop} {S : Shp} {F : Fl} {I : Il} (C : CO G RX9 cX9_thrown 1 X) (M : MX d (some .int) "thrown" X) (hd : 1 ≤ d)  (h : V_X9_thrown x0 S F I Q) : J G X (QD X G (qI fun z S' F' I' => S = S' ∧ F = F' ∧ I = I' ∧ Q z) noX) 0 [vr (some x0)] [] S F I := by
  unfold V_X9_thrown at h
  refine J_aload_n C dX9_thrown_0 rfl rfl ?_
  obtain ⟨hK1, h⟩ := h
  refine J_getI C fo_10_0 rfl fl_RX9_174 dX9_thrown_1 hK1 ?_
  exact J_iret C dX9_thrown_4 M.2.2.1 ⟨_, rfl, rfl, rfl, rfl, h⟩
theorem c_X9_thrown {l : Launch} {G : Gp} {d : Nat} {x0 : Nat} {S : Shp} {F : Fl} {I : Il} {Q : Int → Prop} (hl : l.stackTraces = false) (hd : 1 ≤ d) (h : V_X9_thrown x0 S F I Q) : CM l G d yX9_thrown (.code yX9_thrown cX9_thrown 1 (some .int)) [vr (some x0)] S F I (qI fun z S' F' I' => S = S' ∧ F = F' ∧ I = I' ∧ Q z) noX :=
  CM_ofM [vr (some x0)] hl (by decide +kernel) (kn1 trivial kn0) (Nat.le_of_ble_eq_true rfl) rfl (fun X hX C M => S_X9_thrown C M hd h)
set_option maxRecDepth 20000 in
set_option maxHeartbeats 4000000 in
theorem S_X9_tracks_39 {G : Gp} {X : Xt} {d : Nat}  {x0 : Nat} {x1 : Int} {x2 : Int} {s0 : Int} {s1 : Nat} {Q : Int → Fl → Il → Prop} {S : Shp} {F : Fl} {I : Il} (C : CO G RX9 cX9_tracks 4 X) (M : MX d (some .int) "tracks" X) (hd : 3 ≤ d)  (h : V_X9_tracks_39 x0 x1 x2 s0 s1 S F I Q) : J G X (QD X G (qI fun z S' F' I' => S = S' ∧ Q z F' I') noX) 39 [vr (some x0), vi x1, vi x2, vl 0] [vi s0, vr (some s1)] S F I := by
  unfold V_X9_tracks_39 at h
  obtain ⟨hK1, h⟩ := h
  refine J_putI C fo_10_0 fp_10 fl_RX9_174 (Or.inl rfl) (Or.inl rfl) dX9_tracks_39 hK1 ?_
  refine J_aload_n C dX9_tracks_42 rfl rfl ?_
  obtain ⟨hK2, h⟩ := h
  refine J_getI C fo_10_0 rfl fl_RX9_174 dX9_tracks_43 hK2 ?_
  refine J_if_le C dX9_tracks_46 (tgt := 51) rfl (fun c46 => ?_) (fun c46 => ?_)
  · have h := h.1 c46
    refine J_aload_n C dX9_tracks_51 rfl rfl ?_
    obtain ⟨r3, hr4, h⟩ := h
    refine J_getR C fo_10_5 rfl fl_RX9_13 dX9_tracks_52 hK2 hr4 ?_
    refine J_iload_n C dX9_tracks_55 rfl rfl ?_
    obtain ⟨hK5, h⟩ := h
    obtain ⟨h06, hn7, h⟩ := h
    refine J_iald C dX9_tracks_56 hK5 h06 hn7 ?_
    refine K_istore_n C [vr (some x0), vi x1, vi x2, vi (I r3 x1)] dX9_tracks_57 rfl (Nat.le_of_ble_eq_true rfl) rfl ?_
    refine J_aload_n C dX9_tracks_58 rfl rfl ?_
    refine J_getR C fo_10_5 rfl fl_RX9_13 dX9_tracks_59 hK2 hr4 ?_
    refine J_iload_n C dX9_tracks_62 rfl rfl ?_
    refine J_iload_n C dX9_tracks_63 rfl rfl ?_
    obtain ⟨h08, hn9, h⟩ := h
    refine J_iast C dX9_tracks_64 hK5 h08 hn9 ?_
    refine J_iload_n C dX9_tracks_65 rfl rfl ?_
    exact J_iret C dX9_tracks_66 M.2.2.1 ⟨_, rfl, rfl, h⟩
  · have h := h.2 c46
    refine J_iconst C dX9_tracks_49 (rg_of (by decide)) ?_
    exact J_iret C dX9_tracks_50 M.2.2.1 ⟨_, rfl, rfl, h⟩
set_option maxRecDepth 20000 in
set_option maxHeartbeats 4000000 in
theorem S_X9_tracks {G : Gp} {X : Xt} {d : Nat}  {x0 : Nat} {x1 : Int} {x2 : Int} {Q : Int → Fl → Il → Prop} {S : Shp} {F : Fl} {I : Il} (C : CO G RX9 cX9_tracks 4 X) (M : MX d (some .int) "tracks" X) (hd : 3 ≤ d)  (h : V_X9_tracks x0 x1 x2 S F I Q) : J G X (QD X G (qI fun z S' F' I' => S = S' ∧ Q z F' I') noX) 0 [vr (some x0), vi x1, vi x2, vl 0] [] S F I := by
  unfold V_X9_tracks at h
  obtain ⟨d, rfl⟩ : ∃ d9, d = d9 + 1 := ⟨d - 1, by omega⟩
  refine J_aload_n C dX9_tracks_0 rfl rfl ?_
  refine J_iload_n C dX9_tracks_1 rfl rfl ?_
  refine K_S C M [vi x1] [vr (some x0)] mi_X9_isStation wg_1411 wg_1412 dX9_tracks_2 rfl rfl (by decide) (Nat.le_of_ble_eq_true rfl) (c_X9_isStation (C.2.2.2.2.2.2.2) (by omega) h) (fun v9 S' F' I' hq9 => ?_) K_no rfl
  clear h
  obtain ⟨z1, rfl, rfl, rfl, rfl, h⟩ := hq9
  refine J_if_ne C dX9_tracks_5 (tgt := 12) rfl (fun c5 => ?_) (fun c5 => ?_)
  · have h := h.1 c5
    refine J_iload_n C dX9_tracks_12 rfl rfl ?_
    refine J_iconst C dX9_tracks_13 (rg_of (by decide)) ?_
    refine J_iconst C dX9_tracks_14 (rg_of (by decide)) ?_
    refine K_S C M [vi x2, vi 1, vi 4] [vr (some x0)] mi_X9_in wg_1414 wg_1415 dX9_tracks_15 rfl rfl (by decide) (Nat.le_of_ble_eq_true rfl) (c_X9_in (C.2.2.2.2.2.2.2) (by omega) h) (fun v9 S' F' I' hq9 => ?_) K_no rfl
    clear h
    obtain ⟨z2, rfl, rfl, rfl, rfl, h⟩ := hq9
    refine J_if_ne C dX9_tracks_18 (tgt := 25) rfl (fun c18 => ?_) (fun c18 => ?_)
    · have h := h.1 c18
      refine J_aload_n C dX9_tracks_25 rfl rfl ?_
      refine J_iload_n C dX9_tracks_26 rfl rfl ?_
      obtain ⟨hK3, h⟩ := h
      refine K_V C M [vi x1] [vr (some x0)] mi_X9_taken wg_1417 wg_1419 wg_39 ⟨rfl, by decide⟩ dX9_tracks_27 hK3 rfl rfl (by decide) (Nat.le_of_ble_eq_true rfl) (c_X9_taken (C.2.2.2.2.2.2.2) (by omega) h) (fun v9 S' F' I' hq9 => ?_) K_no rfl
      clear h
      obtain ⟨z4, rfl, rfl, rfl, rfl, h⟩ := hq9
      refine J_iload_n C dX9_tracks_30 rfl rfl ?_
      refine J_icmp_le C dX9_tracks_31 (tgt := 38) rfl (fun c31 => ?_) (fun c31 => ?_)
      · have h := h.1 c31
        refine J_iconst C dX9_tracks_38 (rg_of (by decide)) ?_
        exact S_X9_tracks_39 C M (by omega)  h
      · have h := h.2 c31
        refine J_iconst C dX9_tracks_34 (rg_of (by decide)) ?_
        refine J_goto C dX9_tracks_35 (tgt := 39) rfl ?_
        exact S_X9_tracks_39 C M (by omega)  h
    · have h := h.2 c18
      refine J_iconst C dX9_tracks_21 (rg_of (by decide)) ?_
      refine J_goto C dX9_tracks_22 (tgt := 39) rfl ?_
      exact S_X9_tracks_39 C M (by omega)  h
  · have h := h.2 c5
    refine J_iconst C dX9_tracks_8 (rg_of (by decide)) ?_
    refine J_goto C dX9_tracks_9 (tgt := 39) rfl ?_
    exact S_X9_tracks_39 C M (by omega)  h
theorem c_X9_tracks {l : Launch} {G : Gp} {d : Nat} {x0 : Nat} {x1 : Int} {x2 : Int} {S : Shp} {F : Fl} {I : Il} {Q : Int → Fl → Il → Prop} (hl : l.stackTraces = false) (hd : 3 ≤ d) (h : V_X9_tracks x0 x1 x2 S F I Q) : CM l G d yX9_tracks (.code yX9_tracks cX9_tracks 4 (some .int)) [vr (some x0), vi x1, vi x2] S F I (qI fun z S' F' I' => S = S' ∧ Q z F' I') noX :=
  CM_ofM [vr (some x0), vi x1, vi x2, vl 0] hl (by decide +kernel) (kn1 trivial (kn1 trivial (kn1 trivial kn0))) (Nat.le_of_ble_eq_true rfl) rfl (fun X hX C M => S_X9_tracks C M hd h)
set_option maxRecDepth 20000 in
set_option maxHeartbeats 4000000 in
theorem S_X9_train_24 {G : Gp} {X : Xt} {d : Nat}  {x0 : Nat} {x1 : Int} {x2 : Int} {s0 : Int} {s1 : Nat} {Q : Int → Fl → Prop} {S : Shp} {F : Fl} {I : Il} (C : CO G RX9 cX9_train 3 X) (M : MX d (some .int) "train" X) (hd : 3 ≤ d)  (h : V_X9_train_24 x0 x1 x2 s0 s1 S F I Q) : J G X (QD X G (qI fun z S' F' I' => S = S' ∧ I = I' ∧ Q z F') noX) 24 [vr (some x0), vi x1, vi x2] [vi s0, vr (some s1)] S F I := by
  unfold V_X9_train_24 at h
  obtain ⟨d, rfl⟩ : ∃ d9, d = d9 + 1 := ⟨d - 1, by omega⟩
  obtain ⟨hK1, h⟩ := h
  refine J_putI C fo_10_0 fp_10 fl_RX9_174 (Or.inl rfl) (Or.inl rfl) dX9_train_24 hK1 ?_
  refine J_aload_n C dX9_train_27 rfl rfl ?_
  obtain ⟨hK2, h⟩ := h
  refine J_getI C fo_10_0 rfl fl_RX9_174 dX9_train_28 hK2 ?_
  refine J_if_le C dX9_train_31 (tgt := 36) rfl (fun c31 => ?_) (fun c31 => ?_)
  · have h := h.1 c31
    refine J_iload_n C dX9_train_36 rfl rfl ?_
    by_cases c37_0 : x2 = 0
    · have h := h.1 c37_0
      refine J_tableIn C dX9_train_37 (by omega) (by omega) (off := 39) (tgt := 76) (by rw [c37_0]; rfl) rfl ?_
      refine J_aload_n C dX9_train_76 rfl rfl ?_
      obtain ⟨r3, hr4, h⟩ := h
      refine J_getR C fo_10_39 rfl fl_RX9_105 dX9_train_77 hK2 hr4 ?_
      refine J_iload_n C dX9_train_80 rfl rfl ?_
      obtain ⟨hK5, h⟩ := h
      obtain ⟨h06, hn7, h⟩ := h
      refine J_iald C dX9_train_81 hK5 h06 hn7 ?_
      exact J_iret C dX9_train_82 M.2.2.1 ⟨_, rfl, rfl, rfl, h⟩
    by_cases c37_1 : x2 = 1
    · have h := h.2.1 c37_1
      refine J_tableIn C dX9_train_37 (by omega) (by omega) (off := 46) (tgt := 83) (by rw [c37_1]; rfl) rfl ?_
      refine J_aload_n C dX9_train_83 rfl rfl ?_
      obtain ⟨r8, hr9, h⟩ := h
      refine J_getR C fo_10_39 rfl fl_RX9_105 dX9_train_84 hK2 hr9 ?_
      refine J_iload_n C dX9_train_87 rfl rfl ?_
      obtain ⟨hK10, h⟩ := h
      obtain ⟨h011, hn12, h⟩ := h
      refine J_iald C dX9_train_88 hK10 h011 hn12 ?_
      refine J_iconst C dX9_train_89 (rg_of (by decide)) ?_
      refine J_icmp_ne C dX9_train_90 (tgt := 97) rfl (fun c90 => ?_) (fun c90 => ?_)
      · have h := h.1 c90
        refine J_aload_n C dX9_train_97 rfl rfl ?_
        obtain ⟨r13, hr14, h⟩ := h
        refine J_getR C fo_10_40 rfl fl_RX9_108 dX9_train_98 hK2 hr14 ?_
        refine J_iload_n C dX9_train_101 rfl rfl ?_
        obtain ⟨hK15, h⟩ := h
        obtain ⟨h016, hn17, h⟩ := h
        refine J_iald C dX9_train_102 hK15 h016 hn17 ?_
        exact J_iret C dX9_train_103 M.2.2.1 ⟨_, rfl, rfl, rfl, h⟩
      · have h := h.2 c90
        refine J_iconst C dX9_train_93 (rg_of (by decide)) ?_
        refine J_goto C dX9_train_94 (tgt := 103) rfl ?_
        exact J_iret C dX9_train_103 M.2.2.1 ⟨_, rfl, rfl, rfl, h⟩
    by_cases c37_2 : x2 = 2
    · have h := h.2.2.1 c37_2
      refine J_tableIn C dX9_train_37 (by omega) (by omega) (off := 67) (tgt := 104) (by rw [c37_2]; rfl) rfl ?_
      refine J_aload_n C dX9_train_104 rfl rfl ?_
      obtain ⟨r18, hr19, h⟩ := h
      refine J_getR C fo_10_41 rfl fl_RX9_111 dX9_train_105 hK2 hr19 ?_
      refine J_iload_n C dX9_train_108 rfl rfl ?_
      obtain ⟨hK20, h⟩ := h
      obtain ⟨h021, hn22, h⟩ := h
      refine J_iald C dX9_train_109 hK20 h021 hn22 ?_
      exact J_iret C dX9_train_110 M.2.2.1 ⟨_, rfl, rfl, rfl, h⟩
    by_cases c37_3 : x2 = 3
    · have h := h.2.2.2.1 c37_3
      refine J_tableIn C dX9_train_37 (by omega) (by omega) (off := 74) (tgt := 111) (by rw [c37_3]; rfl) rfl ?_
      refine J_aload_n C dX9_train_111 rfl rfl ?_
      refine J_iload_n C dX9_train_112 rfl rfl ?_
      refine K_V C M [vi x1] [] mi_X9_weight wg_1586 wg_1588 wg_61 ⟨rfl, by decide⟩ dX9_train_113 hK2 rfl rfl (by decide) (Nat.le_of_ble_eq_true rfl) (c_X9_weight (C.2.2.2.2.2.2.2) (by omega) h) (fun v9 S' F' I' hq9 => ?_) K_no rfl
      clear h
      obtain ⟨z23, rfl, rfl, rfl, rfl, h⟩ := hq9
      exact J_iret C dX9_train_116 M.2.2.1 ⟨_, rfl, rfl, rfl, h⟩
    by_cases c37_4 : x2 = 4
    · have h := h.2.2.2.2.1 c37_4
      refine J_tableIn C dX9_train_37 (by omega) (by omega) (off := 80) (tgt := 117) (by rw [c37_4]; rfl) rfl ?_
      refine J_aload_n C dX9_train_117 rfl rfl ?_
      obtain ⟨r24, hr25, h⟩ := h
      refine J_getR C fo_10_44 rfl fl_RX9_120 dX9_train_118 hK2 hr25 ?_
      refine J_iload_n C dX9_train_121 rfl rfl ?_
      obtain ⟨hK26, h⟩ := h
      obtain ⟨h027, hn28, h⟩ := h
      refine J_iald C dX9_train_122 hK26 h027 hn28 ?_
      exact J_iret C dX9_train_123 M.2.2.1 ⟨_, rfl, rfl, rfl, h⟩
    by_cases c37_5 : x2 = 5
    · have h := h.2.2.2.2.2.1 c37_5
      refine J_tableIn C dX9_train_37 (by omega) (by omega) (off := 87) (tgt := 124) (by rw [c37_5]; rfl) rfl ?_
      refine J_aload_n C dX9_train_124 rfl rfl ?_
      obtain ⟨r29, hr30, h⟩ := h
      refine J_getR C fo_10_47 rfl fl_RX9_129 dX9_train_125 hK2 hr30 ?_
      refine J_iload_n C dX9_train_128 rfl rfl ?_
      obtain ⟨hK31, h⟩ := h
      obtain ⟨h032, hn33, h⟩ := h
      refine J_iald C dX9_train_129 hK31 h032 hn33 ?_
      refine J_aload_n C dX9_train_130 rfl rfl ?_
      obtain ⟨r34, hr35, h⟩ := h
      refine J_getR C fo_10_46 rfl fl_RX9_126 dX9_train_131 hK2 hr35 ?_
      refine J_iload_n C dX9_train_134 rfl rfl ?_
      obtain ⟨hK36, h⟩ := h
      obtain ⟨h037, hn38, h⟩ := h
      refine J_iald C dX9_train_135 hK36 h037 hn38 ?_
      refine J_isub C dX9_train_136 ?_
      exact J_iret C dX9_train_137 M.2.2.1 ⟨_, rfl, rfl, rfl, h⟩
    have c37 : x2 < 0 ∨ 5 < x2 := by omega
    have h := h.2.2.2.2.2.2 c37
    refine J_tableOut C dX9_train_37 c37 (tgt := 138) rfl ?_
    refine J_aload_n C dX9_train_138 rfl rfl ?_
    obtain ⟨r39, hr40, h⟩ := h
    refine J_getR C fo_10_39 rfl fl_RX9_105 dX9_train_139 hK2 hr40 ?_
    refine J_iload_n C dX9_train_142 rfl rfl ?_
    obtain ⟨hK41, h⟩ := h
    obtain ⟨h042, hn43, h⟩ := h
    refine J_iald C dX9_train_143 hK41 h042 hn43 ?_
    refine J_iconst C dX9_train_144 (rg_of (by decide)) ?_
    refine J_icmp_ne C dX9_train_145 (tgt := 157) rfl (fun c145 => ?_) (fun c145 => ?_)
    · have h := h.1 c145
      refine J_iconst C dX9_train_157 (rg_of (by decide)) ?_
      exact J_iret C dX9_train_158 M.2.2.1 ⟨_, rfl, rfl, rfl, h⟩
    · have h := h.2 c145
      refine J_aload_n C dX9_train_148 rfl rfl ?_
      obtain ⟨r44, hr45, h⟩ := h
      refine J_getR C fo_10_42 rfl fl_RX9_114 dX9_train_149 hK2 hr45 ?_
      refine J_iload_n C dX9_train_152 rfl rfl ?_
      obtain ⟨hK46, h⟩ := h
      obtain ⟨h047, hn48, h⟩ := h
      refine J_iald C dX9_train_153 hK46 h047 hn48 ?_
      refine J_goto C dX9_train_154 (tgt := 158) rfl ?_
      exact J_iret C dX9_train_158 M.2.2.1 ⟨_, rfl, rfl, rfl, h⟩
  · have h := h.2 c31
    refine J_iconst C dX9_train_34 (rg_of (by decide)) ?_
    exact J_iret C dX9_train_35 M.2.2.1 ⟨_, rfl, rfl, rfl, h⟩
set_option maxRecDepth 20000 in
set_option maxHeartbeats 4000000 in
theorem S_X9_train_23 {G : Gp} {X : Xt} {d : Nat}  {x0 : Nat} {x1 : Int} {x2 : Int} {s0 : Nat} {Q : Int → Fl → Prop} {S : Shp} {F : Fl} {I : Il} (C : CO G RX9 cX9_train 3 X) (M : MX d (some .int) "train" X) (hd : 3 ≤ d)  (h : V_X9_train_23 x0 x1 x2 s0 S F I Q) : J G X (QD X G (qI fun z S' F' I' => S = S' ∧ I = I' ∧ Q z F') noX) 23 [vr (some x0), vi x1, vi x2] [vr (some s0)] S F I := by
  unfold V_X9_train_23 at h
  refine J_iconst C dX9_train_23 (rg_of (by decide)) ?_
  exact S_X9_train_24 C M (by omega)  h
set_option maxRecDepth 20000 in
set_option maxHeartbeats 4000000 in
theorem S_X9_train {G : Gp} {X : Xt} {d : Nat}  {x0 : Nat} {x1 : Int} {x2 : Int} {Q : Int → Fl → Prop} {S : Shp} {F : Fl} {I : Il} (C : CO G RX9 cX9_train 3 X) (M : MX d (some .int) "train" X) (hd : 3 ≤ d)  (h : V_X9_train x0 x1 x2 S F I Q) : J G X (QD X G (qI fun z S' F' I' => S = S' ∧ I = I' ∧ Q z F') noX) 0 [vr (some x0), vi x1, vi x2] [] S F I := by
  unfold V_X9_train at h
  obtain ⟨d, rfl⟩ : ∃ d9, d = d9 + 1 := ⟨d - 1, by omega⟩
  refine J_aload_n C dX9_train_0 rfl rfl ?_
  refine J_aload_n C dX9_train_1 rfl rfl ?_
  refine J_iload_n C dX9_train_2 rfl rfl ?_
  obtain ⟨hK1, h⟩ := h
  refine K_V C M [vi x1] [vr (some x0)] mi_X9_isTrain wg_1510 wg_1512 wg_48 ⟨rfl, by decide⟩ dX9_train_3 hK1 rfl rfl (by decide) (Nat.le_of_ble_eq_true rfl) (c_X9_isTrain (C.2.2.2.2.2.2.2) (by omega) h) (fun v9 S' F' I' hq9 => ?_) K_no rfl
  clear h
  obtain ⟨z2, rfl, rfl, rfl, rfl, h⟩ := hq9
  refine J_if_eq C dX9_train_6 (tgt := 23) rfl (fun c6 => ?_) (fun c6 => ?_)
  · have h := h.1 c6
    exact S_X9_train_23 C M (by omega)  h
  · have h := h.2 c6
    refine J_iload_n C dX9_train_9 rfl rfl ?_
    refine J_iconst C dX9_train_10 (rg_of (by decide)) ?_
    refine J_bipush C dX9_train_11 (by decide +kernel) (rg_of (by decide)) ?_
    refine K_S C M [vi x2, vi 0, vi 6] [vr (some x0)] mi_X9_in wg_1414 wg_1415 dX9_train_13 rfl rfl (by decide) (Nat.le_of_ble_eq_true rfl) (c_X9_in (C.2.2.2.2.2.2.2) (by omega) h) (fun v9 S' F' I' hq9 => ?_) K_no rfl
    clear h
    obtain ⟨z3, rfl, rfl, rfl, rfl, h⟩ := hq9
    refine J_if_eq C dX9_train_16 (tgt := 23) rfl (fun c16 => ?_) (fun c16 => ?_)
    · have h := h.1 c16
      exact S_X9_train_23 C M (by omega)  h
    · have h := h.2 c16
      refine J_iconst C dX9_train_19 (rg_of (by decide)) ?_
      refine J_goto C dX9_train_20 (tgt := 24) rfl ?_
      exact S_X9_train_24 C M (by omega)  h
theorem c_X9_train {l : Launch} {G : Gp} {d : Nat} {x0 : Nat} {x1 : Int} {x2 : Int} {S : Shp} {F : Fl} {I : Il} {Q : Int → Fl → Prop} (hl : l.stackTraces = false) (hd : 3 ≤ d) (h : V_X9_train x0 x1 x2 S F I Q) : CM l G d yX9_train (.code yX9_train cX9_train 3 (some .int)) [vr (some x0), vi x1, vi x2] S F I (qI fun z S' F' I' => S = S' ∧ I = I' ∧ Q z F') noX :=
  CM_ofM [vr (some x0), vi x1, vi x2] hl (by decide +kernel) (kn1 trivial (kn1 trivial (kn1 trivial kn0))) (Nat.le_of_ble_eq_true rfl) rfl (fun X hX C M => S_X9_train C M hd h)
set_option maxRecDepth 20000 in
set_option maxHeartbeats 4000000 in
theorem S_X9_uncouple_117 {G : Gp} {X : Xt} {d : Nat} {k61 : Nat → Int → Int → Int → Int → Fl → Il → Prop} {x0 : Nat} {x1 : Int} {x2 : Int} {x4 : Int} {s0 : Int} {s1 : Int} {Q : Int → Fl → Il → Prop} {S : Shp} {F : Fl} {I : Il} (C : CO G RX9 cX9_uncouple 5 X) (M : MX d (some .int) "uncouple" X) (hd : 3 ≤ d) (hk61 : ∀ (x0 : Nat) (x1 : Int) (x2 : Int) (x3 : Int) (x4 : Int) (F' : Fl) (I' : Il), k61 x0 x1 x2 x3 x4 F' I' → J G X (QD X G (qI fun z S' F' I' => S = S' ∧ Q z F' I') noX) 61 [vr (some x0), vi x1, vi x2, vi x3, vi x4] [] S F' I') (h : V_X9_uncouple_117 k61 x0 x1 x2 x4 s0 s1 S F I Q) : J G X (QD X G (qI fun z S' F' I' => S = S' ∧ Q z F' I') noX) 117 [vr (some x0), vi x1, vi x2, vl 0, vi x4] [vi s0, vi s1] S F I := by
  unfold V_X9_uncouple_117 at h
  refine J_iadd C dX9_uncouple_117 ?_
  refine K_istore_n C [vr (some x0), vi x1, vi x2, vi (w32 (s1 + s0)), vi x4] dX9_uncouple_118 rfl (Nat.le_of_ble_eq_true rfl) rfl ?_
  refine K_iinc C [vr (some x0), vi x1, vi x2, vi (w32 (s1 + s0)), vi (w32 (x4 + 1))] dX9_uncouple_119 rfl rfl ?_
  refine J_goto C dX9_uncouple_122 (tgt := 61) rfl ?_
  exact hk61 x0 x1 x2 (w32 (s1 + s0)) (w32 (x4 + 1)) F I h
set_option maxRecDepth 20000 in
set_option maxHeartbeats 4000000 in
theorem S_X9_uncouple_61 {G : Gp} {X : Xt} {d : Nat}  {S : Shp} {Q : Int → Fl → Il → Prop} (C : CO G RX9 cX9_uncouple 5 X) (M : MX d (some .int) "uncouple" X) (hd : 3 ≤ d) (n9 : Nat)  : ∀ (x0 : Nat) (x1 : Int) (x2 : Int) (x3 : Int) (x4 : Int) (F : Fl) (I : Il), V_X9_uncouple_61 n9 x0 x1 x2 x3 x4 S F I Q → J G X (QD X G (qI fun z S' F' I' => S = S' ∧ Q z F' I') noX) 61 [vr (some x0), vi x1, vi x2, vi x3, vi x4] [] S F I := by
  obtain ⟨d, rfl⟩ : ∃ d9, d = d9 + 1 := ⟨d - 1, by omega⟩
  induction n9 with
  | zero => intro x0 x1 x2 x3 x4 F I h; exact h.elim
  | succ n ih =>
    intro x0 x1 x2 x3 x4 F I h
    unfold V_X9_uncouple_61 at h
    refine J_iload C dX9_uncouple_61 rfl ?_
    refine J_aload_n C dX9_uncouple_63 rfl rfl ?_
    obtain ⟨hK1, h⟩ := h
    obtain ⟨r2, hr3, h⟩ := h
    refine J_getR C fo_10_44 rfl fl_RX9_120 dX9_uncouple_64 hK1 hr3 ?_
    refine J_iload_n C dX9_uncouple_67 rfl rfl ?_
    obtain ⟨hK4, h⟩ := h
    obtain ⟨h05, hn6, h⟩ := h
    refine J_iald C dX9_uncouple_68 hK4 h05 hn6 ?_
    refine J_icmp_ge C dX9_uncouple_69 (tgt := 125) rfl (fun c69 => ?_) (fun c69 => ?_)
    · have h := h.1 c69
      refine J_aload_n C dX9_uncouple_125 rfl rfl ?_
      refine J_getR C fo_10_44 rfl fl_RX9_120 dX9_uncouple_126 hK1 hr3 ?_
      refine J_iload_n C dX9_uncouple_129 rfl rfl ?_
      refine J_iload_n C dX9_uncouple_130 rfl rfl ?_
      obtain ⟨h07, hn8, h⟩ := h
      refine J_iast C dX9_uncouple_131 hK4 h07 hn8 ?_
      refine J_aload_n C dX9_uncouple_132 rfl rfl ?_
      refine J_iload_n C dX9_uncouple_133 rfl rfl ?_
      refine J_aload_n C dX9_uncouple_134 rfl rfl ?_
      obtain ⟨r9, hr10, h⟩ := h
      refine J_getR C fo_10_40 rfl fl_RX9_108 dX9_uncouple_135 hK1 hr10 ?_
      refine J_iload_n C dX9_uncouple_138 rfl rfl ?_
      obtain ⟨hK11, h⟩ := h
      obtain ⟨h012, hn13, h⟩ := h
      refine J_iald C dX9_uncouple_139 hK11 h012 hn13 ?_
      refine K_V C M [vi x2, vi ((ui I r2 x1 x3) r9 x1)] [] mi_X9_comes wg_1481 wg_1483 wg_45 ⟨rfl, by decide⟩ dX9_uncouple_140 hK1 rfl rfl (by decide) (Nat.le_of_ble_eq_true rfl) (c_X9_comes (C.2.2.2.2.2.2.2) (by omega) h) (fun v9 S' F14 I15 hq9 => ?_) K_no rfl
      clear h
      obtain ⟨rfl, rfl, h⟩ := hq9
      refine J_aload_n C dX9_uncouple_143 rfl rfl ?_
      refine J_getR C fo_10_44 rfl fl_RX9_120 dX9_uncouple_144 hK1 hr3 ?_
      refine J_iload_n C dX9_uncouple_147 rfl rfl ?_
      obtain ⟨h016, hn17, h⟩ := h
      refine J_iald C dX9_uncouple_148 hK4 h016 hn17 ?_
      exact J_iret C dX9_uncouple_149 M.2.2.1 ⟨_, rfl, rfl, h⟩
    · have h := h.2 c69
      refine J_aload_n C dX9_uncouple_72 rfl rfl ?_
      obtain ⟨r18, hr19, h⟩ := h
      refine J_getR C fo_10_43 rfl fl_RX9_117 dX9_uncouple_73 hK1 hr19 ?_
      refine J_bipush C dX9_uncouple_76 (by decide +kernel) (rg_of (by decide)) ?_
      refine J_iload_n C dX9_uncouple_78 rfl rfl ?_
      refine J_imul C dX9_uncouple_79 ?_
      refine J_iload_n C dX9_uncouple_80 rfl rfl ?_
      refine J_iadd C dX9_uncouple_81 ?_
      refine J_aload_n C dX9_uncouple_82 rfl rfl ?_
      refine J_getR C fo_10_43 rfl fl_RX9_117 dX9_uncouple_83 hK1 hr19 ?_
      refine J_bipush C dX9_uncouple_86 (by decide +kernel) (rg_of (by decide)) ?_
      refine J_iload_n C dX9_uncouple_88 rfl rfl ?_
      refine J_imul C dX9_uncouple_89 ?_
      refine J_iload C dX9_uncouple_90 rfl ?_
      refine J_iadd C dX9_uncouple_92 ?_
      obtain ⟨hK20, h⟩ := h
      obtain ⟨h021, hn22, h⟩ := h
      refine J_iald C dX9_uncouple_93 hK20 h021 hn22 ?_
      obtain ⟨h023, hn24, h⟩ := h
      refine J_iast C dX9_uncouple_94 hK20 h023 hn24 ?_
      refine J_iload_n C dX9_uncouple_95 rfl rfl ?_
      refine J_aload_n C dX9_uncouple_96 rfl rfl ?_
      refine J_getR C fo_10_43 rfl fl_RX9_117 dX9_uncouple_97 hK1 hr19 ?_
      refine J_bipush C dX9_uncouple_100 (by decide +kernel) (rg_of (by decide)) ?_
      refine J_iload_n C dX9_uncouple_102 rfl rfl ?_
      refine J_imul C dX9_uncouple_103 ?_
      refine J_iload C dX9_uncouple_104 rfl ?_
      refine J_iadd C dX9_uncouple_106 ?_
      obtain ⟨h025, hn26, h⟩ := h
      refine J_iald C dX9_uncouple_107 hK20 h025 hn26 ?_
      refine J_iload_n C dX9_uncouple_108 rfl rfl ?_
      refine J_icmp_ne C dX9_uncouple_109 (tgt := 116) rfl (fun c109 => ?_) (fun c109 => ?_)
      · have h := h.1 c109
        refine J_iconst C dX9_uncouple_116 (rg_of (by decide)) ?_
        refine J_less [vr (some x0), vi x1, vi x2, vl 0, vi x4] (by unfold lessL; simp [lessL]) ?_
        exact S_X9_uncouple_117 C M (by omega) (fun y0 y1 y2 y3 y4 F' I' h9 => ih y0 y1 y2 y3 y4 F' I' h9) h
      · have h := h.2 c109
        refine J_iconst C dX9_uncouple_112 (rg_of (by decide)) ?_
        refine J_goto C dX9_uncouple_113 (tgt := 117) rfl ?_
        refine J_less [vr (some x0), vi x1, vi x2, vl 0, vi x4] (by unfold lessL; simp [lessL]) ?_
        exact S_X9_uncouple_117 C M (by omega) (fun y0 y1 y2 y3 y4 F' I' h9 => ih y0 y1 y2 y3 y4 F' I' h9) h
set_option maxRecDepth 20000 in
set_option maxHeartbeats 4000000 in
theorem S_X9_uncouple_44 {G : Gp} {X : Xt} {d : Nat}  {x0 : Nat} {x1 : Int} {x2 : Int} {s0 : Int} {s1 : Nat} {Q : Int → Fl → Il → Prop} {S : Shp} {F : Fl} {I : Il} (C : CO G RX9 cX9_uncouple 5 X) (M : MX d (some .int) "uncouple" X) (hd : 3 ≤ d)  (h : V_X9_uncouple_44 x0 x1 x2 s0 s1 S F I Q) : J G X (QD X G (qI fun z S' F' I' => S = S' ∧ Q z F' I') noX) 44 [vr (some x0), vi x1, vi x2, vl 0, vl 0] [vi s0, vr (some s1)] S F I := by
  unfold V_X9_uncouple_44 at h
  obtain ⟨hK1, h⟩ := h
  refine J_putI C fo_10_0 fp_10 fl_RX9_174 (Or.inl rfl) (Or.inl rfl) dX9_uncouple_44 hK1 ?_
  refine J_aload_n C dX9_uncouple_47 rfl rfl ?_
  obtain ⟨hK2, h⟩ := h
  refine J_getI C fo_10_0 rfl fl_RX9_174 dX9_uncouple_48 hK2 ?_
  refine J_if_le C dX9_uncouple_51 (tgt := 56) rfl (fun c51 => ?_) (fun c51 => ?_)
  · have h := h.1 c51
    refine J_iconst C dX9_uncouple_56 (rg_of (by decide)) ?_
    refine K_istore_n C [vr (some x0), vi x1, vi x2, vi 0, vl 0] dX9_uncouple_57 rfl (Nat.le_of_ble_eq_true rfl) rfl ?_
    refine J_iconst C dX9_uncouple_58 (rg_of (by decide)) ?_
    refine K_istore C [vr (some x0), vi x1, vi x2, vi 0, vi 0] dX9_uncouple_59 (Nat.le_of_ble_eq_true rfl) rfl ?_
    obtain ⟨n9, h⟩ := h
    exact S_X9_uncouple_61 C M (by omega) n9  _ _ _ _ _ _ _ h
  · have h := h.2 c51
    refine J_iconst C dX9_uncouple_54 (rg_of (by decide)) ?_
    exact J_iret C dX9_uncouple_55 M.2.2.1 ⟨_, rfl, rfl, h⟩
set_option maxRecDepth 20000 in
set_option maxHeartbeats 4000000 in
theorem S_X9_uncouple_17 {G : Gp} {X : Xt} {d : Nat}  {x0 : Nat} {x1 : Int} {x2 : Int} {s0 : Nat} {Q : Int → Fl → Il → Prop} {S : Shp} {F : Fl} {I : Il} (C : CO G RX9 cX9_uncouple 5 X) (M : MX d (some .int) "uncouple" X) (hd : 3 ≤ d)  (h : V_X9_uncouple_17 x0 x1 x2 s0 S F I Q) : J G X (QD X G (qI fun z S' F' I' => S = S' ∧ Q z F' I') noX) 17 [vr (some x0), vi x1, vi x2, vl 0, vl 0] [vr (some s0)] S F I := by
  unfold V_X9_uncouple_17 at h
  refine J_iconst C dX9_uncouple_17 (rg_of (by decide)) ?_
  refine J_goto C dX9_uncouple_18 (tgt := 44) rfl ?_
  exact S_X9_uncouple_44 C M (by omega)  h
set_option maxRecDepth 20000 in
set_option maxHeartbeats 4000000 in
theorem S_X9_uncouple_39 {G : Gp} {X : Xt} {d : Nat}  {x0 : Nat} {x1 : Int} {x2 : Int} {s0 : Nat} {Q : Int → Fl → Il → Prop} {S : Shp} {F : Fl} {I : Il} (C : CO G RX9 cX9_uncouple 5 X) (M : MX d (some .int) "uncouple" X) (hd : 3 ≤ d)  (h : V_X9_uncouple_39 x0 x1 x2 s0 S F I Q) : J G X (QD X G (qI fun z S' F' I' => S = S' ∧ Q z F' I') noX) 39 [vr (some x0), vi x1, vi x2, vl 0, vl 0] [vr (some s0)] S F I := by
  unfold V_X9_uncouple_39 at h
  refine J_iconst C dX9_uncouple_39 (rg_of (by decide)) ?_
  refine J_goto C dX9_uncouple_40 (tgt := 44) rfl ?_
  exact S_X9_uncouple_44 C M (by omega)  h
set_option maxRecDepth 20000 in
set_option maxHeartbeats 4000000 in
theorem S_X9_uncouple {G : Gp} {X : Xt} {d : Nat}  {x0 : Nat} {x1 : Int} {x2 : Int} {Q : Int → Fl → Il → Prop} {S : Shp} {F : Fl} {I : Il} (C : CO G RX9 cX9_uncouple 5 X) (M : MX d (some .int) "uncouple" X) (hd : 3 ≤ d)  (h : V_X9_uncouple x0 x1 x2 S F I Q) : J G X (QD X G (qI fun z S' F' I' => S = S' ∧ Q z F' I') noX) 0 [vr (some x0), vi x1, vi x2, vl 0, vl 0] [] S F I := by
  unfold V_X9_uncouple at h
  obtain ⟨d, rfl⟩ : ∃ d9, d = d9 + 1 := ⟨d - 1, by omega⟩
  refine J_aload_n C dX9_uncouple_0 rfl rfl ?_
  refine J_aload_n C dX9_uncouple_1 rfl rfl ?_
  refine J_iload_n C dX9_uncouple_2 rfl rfl ?_
  obtain ⟨hK1, h⟩ := h
  refine K_V C M [vi x1] [vr (some x0)] mi_X9_isTrain wg_1510 wg_1512 wg_48 ⟨rfl, by decide⟩ dX9_uncouple_3 hK1 rfl rfl (by decide) (Nat.le_of_ble_eq_true rfl) (c_X9_isTrain (C.2.2.2.2.2.2.2) (by omega) h) (fun v9 S' F' I' hq9 => ?_) K_no rfl
  clear h
  obtain ⟨z2, rfl, rfl, rfl, rfl, h⟩ := hq9
  refine J_if_eq C dX9_uncouple_6 (tgt := 17) rfl (fun c6 => ?_) (fun c6 => ?_)
  · have h := h.1 c6
    exact S_X9_uncouple_17 C M (by omega)  h
  · have h := h.2 c6
    refine J_aload_n C dX9_uncouple_9 rfl rfl ?_
    refine J_iload_n C dX9_uncouple_10 rfl rfl ?_
    refine K_V C M [vi x2] [vr (some x0)] mi_X9_isCar wg_1526 wg_1528 wg_51 ⟨rfl, by decide⟩ dX9_uncouple_11 hK1 rfl rfl (by decide) (Nat.le_of_ble_eq_true rfl) (c_X9_isCar (C.2.2.2.2.2.2.2) (by omega) h) (fun v9 S' F' I' hq9 => ?_) K_no rfl
    clear h
    obtain ⟨z3, rfl, rfl, rfl, rfl, h⟩ := hq9
    refine J_if_ne C dX9_uncouple_14 (tgt := 21) rfl (fun c14 => ?_) (fun c14 => ?_)
    · have h := h.1 c14
      refine J_aload_n C dX9_uncouple_21 rfl rfl ?_
      refine J_iload_n C dX9_uncouple_22 rfl rfl ?_
      refine K_V C M [vi x1] [vr (some x0)] mi_X9_stands wg_1473 wg_1475 wg_44 ⟨rfl, by decide⟩ dX9_uncouple_23 hK1 rfl rfl (by decide) (Nat.le_of_ble_eq_true rfl) (c_X9_stands (C.2.2.2.2.2.2.2) (by omega) h) (fun v9 S' F' I' hq9 => ?_) K_no rfl
      clear h
      obtain ⟨z4, rfl, rfl, rfl, rfl, h⟩ := hq9
      refine J_if_eq C dX9_uncouple_26 (tgt := 39) rfl (fun c26 => ?_) (fun c26 => ?_)
      · have h := h.1 c26
        exact S_X9_uncouple_39 C M (by omega)  h
      · have h := h.2 c26
        refine J_aload_n C dX9_uncouple_29 rfl rfl ?_
        obtain ⟨r5, hr6, h⟩ := h
        refine J_getR C fo_10_32 rfl fl_RX9_84 dX9_uncouple_30 hK1 hr6 ?_
        refine J_iload_n C dX9_uncouple_33 rfl rfl ?_
        obtain ⟨hK7, h⟩ := h
        obtain ⟨h08, hn9, h⟩ := h
        refine J_iald C dX9_uncouple_34 hK7 h08 hn9 ?_
        refine J_iload_n C dX9_uncouple_35 rfl rfl ?_
        refine J_icmp_eq C dX9_uncouple_36 (tgt := 43) rfl (fun c36 => ?_) (fun c36 => ?_)
        · have h := h.1 c36
          refine J_iconst C dX9_uncouple_43 (rg_of (by decide)) ?_
          exact S_X9_uncouple_44 C M (by omega)  h
        · have h := h.2 c36
          exact S_X9_uncouple_39 C M (by omega)  h
    · have h := h.2 c14
      exact S_X9_uncouple_17 C M (by omega)  h
theorem c_X9_uncouple {l : Launch} {G : Gp} {d : Nat} {x0 : Nat} {x1 : Int} {x2 : Int} {S : Shp} {F : Fl} {I : Il} {Q : Int → Fl → Il → Prop} (hl : l.stackTraces = false) (hd : 3 ≤ d) (h : V_X9_uncouple x0 x1 x2 S F I Q) : CM l G d yX9_uncouple (.code yX9_uncouple cX9_uncouple 5 (some .int)) [vr (some x0), vi x1, vi x2] S F I (qI fun z S' F' I' => S = S' ∧ Q z F' I') noX :=
  CM_ofM [vr (some x0), vi x1, vi x2, vl 0, vl 0] hl (by decide +kernel) (kn1 trivial (kn1 trivial (kn1 trivial kn0))) (Nat.le_of_ble_eq_true rfl) rfl (fun X hX C M => S_X9_uncouple C M hd h)
set_option maxRecDepth 20000 in
set_option maxHeartbeats 4000000 in
theorem S_X9_unload_58 {G : Gp} {X : Xt} {d : Nat}  {x0 : Nat} {x1 : Int} {s0 : Int} {s1 : Nat} {Q : Int → Fl → Il → Prop} {S : Shp} {F : Fl} {I : Il} (C : CO G RX9 cX9_unload 3 X) (M : MX d (some .int) "unload" X) (hd : 3 ≤ d)  (h : V_X9_unload_58 x0 x1 s0 s1 S F I Q) : J G X (QD X G (qI fun z S' F' I' => S = S' ∧ Q z F' I') noX) 58 [vr (some x0), vi x1, vl 0] [vi s0, vr (some s1)] S F I := by
  unfold V_X9_unload_58 at h
  obtain ⟨d, rfl⟩ : ∃ d9, d = d9 + 1 := ⟨d - 1, by omega⟩
  obtain ⟨hK1, h⟩ := h
  refine J_putI C fo_10_0 fp_10 fl_RX9_174 (Or.inl rfl) (Or.inl rfl) dX9_unload_58 hK1 ?_
  refine J_aload_n C dX9_unload_61 rfl rfl ?_
  obtain ⟨hK2, h⟩ := h
  refine J_getI C fo_10_0 rfl fl_RX9_174 dX9_unload_62 hK2 ?_
  refine J_if_le C dX9_unload_65 (tgt := 70) rfl (fun c65 => ?_) (fun c65 => ?_)
  · have h := h.1 c65
    refine J_aload_n C dX9_unload_70 rfl rfl ?_
    obtain ⟨r3, hr4, h⟩ := h
    refine J_getR C fo_10_33 rfl fl_RX9_87 dX9_unload_71 hK2 hr4 ?_
    refine J_iload_n C dX9_unload_74 rfl rfl ?_
    obtain ⟨hK5, h⟩ := h
    obtain ⟨h06, hn7, h⟩ := h
    refine J_iald C dX9_unload_75 hK5 h06 hn7 ?_
    refine K_istore_n C [vr (some x0), vi x1, vi (I r3 x1)] dX9_unload_76 rfl (Nat.le_of_ble_eq_true rfl) rfl ?_
    refine J_aload_n C dX9_unload_77 rfl rfl ?_
    refine J_getR C fo_10_33 rfl fl_RX9_87 dX9_unload_78 hK2 hr4 ?_
    refine J_iload_n C dX9_unload_81 rfl rfl ?_
    refine J_iconst C dX9_unload_82 (rg_of (by decide)) ?_
    obtain ⟨h08, hn9, h⟩ := h
    refine J_iast C dX9_unload_83 hK5 h08 hn9 ?_
    refine J_aload_n C dX9_unload_84 rfl rfl ?_
    refine J_dup C dX9_unload_85 trivial ?_
    refine J_getI C fo_10_2 rfl fl_RX9_7 dX9_unload_86 hK2 ?_
    refine J_aload_n C dX9_unload_89 rfl rfl ?_
    obtain ⟨r10, hr11, h⟩ := h
    refine J_getR C fo_10_57 rfl fl_RX9_153 dX9_unload_90 hK2 hr11 ?_
    refine J_iload_n C dX9_unload_93 rfl rfl ?_
    obtain ⟨hK12, h⟩ := h
    obtain ⟨h013, hn14, h⟩ := h
    refine J_iald C dX9_unload_94 hK12 h013 hn14 ?_
    refine J_iadd C dX9_unload_95 ?_
    refine J_putI C fo_10_2 fp_10 fl_RX9_7 (Or.inl rfl) (Or.inl rfl) dX9_unload_96 hK2 ?_
    refine J_aload_n C dX9_unload_99 rfl rfl ?_
    refine J_iload_n C dX9_unload_100 rfl rfl ?_
    refine J_iconst C dX9_unload_101 (rg_of (by decide)) ?_
    refine J_iload_n C dX9_unload_102 rfl rfl ?_
    refine K_V C M [vi x1, vi 3, vi (I r3 x1)] [] mi_X9_writes wg_1485 wg_1487 wg_46 ⟨rfl, by decide⟩ dX9_unload_103 hK2 rfl rfl (by decide) (Nat.le_of_ble_eq_true rfl) (c_X9_writes (C.2.2.2.2.2.2.2) (by omega) h) (fun v9 S' F15 I16 hq9 => ?_) K_no rfl
    clear h
    obtain ⟨rfl, rfl, h⟩ := hq9
    refine J_aload_n C dX9_unload_106 rfl rfl ?_
    refine J_getR C fo_10_57 rfl fl_RX9_153 dX9_unload_107 hK2 hr11 ?_
    refine J_iload_n C dX9_unload_110 rfl rfl ?_
    obtain ⟨h017, hn18, h⟩ := h
    refine J_iald C dX9_unload_111 hK12 h017 hn18 ?_
    exact J_iret C dX9_unload_112 M.2.2.1 ⟨_, rfl, rfl, h⟩
  · have h := h.2 c65
    refine J_iconst C dX9_unload_68 (rg_of (by decide)) ?_
    exact J_iret C dX9_unload_69 M.2.2.1 ⟨_, rfl, rfl, h⟩
set_option maxRecDepth 20000 in
set_option maxHeartbeats 4000000 in
theorem S_X9_unload_53 {G : Gp} {X : Xt} {d : Nat}  {x0 : Nat} {x1 : Int} {s0 : Nat} {Q : Int → Fl → Il → Prop} {S : Shp} {F : Fl} {I : Il} (C : CO G RX9 cX9_unload 3 X) (M : MX d (some .int) "unload" X) (hd : 3 ≤ d)  (h : V_X9_unload_53 x0 x1 s0 S F I Q) : J G X (QD X G (qI fun z S' F' I' => S = S' ∧ Q z F' I') noX) 53 [vr (some x0), vi x1, vl 0] [vr (some s0)] S F I := by
  unfold V_X9_unload_53 at h
  refine J_iconst C dX9_unload_53 (rg_of (by decide)) ?_
  refine J_goto C dX9_unload_54 (tgt := 58) rfl ?_
  exact S_X9_unload_58 C M (by omega)  h
set_option maxRecDepth 20000 in
set_option maxHeartbeats 4000000 in
theorem S_X9_unload {G : Gp} {X : Xt} {d : Nat}  {x0 : Nat} {x1 : Int} {Q : Int → Fl → Il → Prop} {S : Shp} {F : Fl} {I : Il} (C : CO G RX9 cX9_unload 3 X) (M : MX d (some .int) "unload" X) (hd : 3 ≤ d)  (h : V_X9_unload x0 x1 S F I Q) : J G X (QD X G (qI fun z S' F' I' => S = S' ∧ Q z F' I') noX) 0 [vr (some x0), vi x1, vl 0] [] S F I := by
  unfold V_X9_unload at h
  obtain ⟨d, rfl⟩ : ∃ d9, d = d9 + 1 := ⟨d - 1, by omega⟩
  refine J_aload_n C dX9_unload_0 rfl rfl ?_
  refine J_aload_n C dX9_unload_1 rfl rfl ?_
  refine J_iload_n C dX9_unload_2 rfl rfl ?_
  obtain ⟨hK1, h⟩ := h
  refine K_V C M [vi x1] [vr (some x0)] mi_X9_isCar wg_1526 wg_1528 wg_51 ⟨rfl, by decide⟩ dX9_unload_3 hK1 rfl rfl (by decide) (Nat.le_of_ble_eq_true rfl) (c_X9_isCar (C.2.2.2.2.2.2.2) (by omega) h) (fun v9 S' F' I' hq9 => ?_) K_no rfl
  clear h
  obtain ⟨z2, rfl, rfl, rfl, rfl, h⟩ := hq9
  refine J_if_ne C dX9_unload_6 (tgt := 13) rfl (fun c6 => ?_) (fun c6 => ?_)
  · have h := h.1 c6
    refine J_aload_n C dX9_unload_13 rfl rfl ?_
    obtain ⟨r3, hr4, h⟩ := h
    refine J_getR C fo_10_32 rfl fl_RX9_84 dX9_unload_14 hK1 hr4 ?_
    refine J_iload_n C dX9_unload_17 rfl rfl ?_
    obtain ⟨hK5, h⟩ := h
    obtain ⟨h06, hn7, h⟩ := h
    refine J_iald C dX9_unload_18 hK5 h06 hn7 ?_
    refine J_iconst C dX9_unload_19 (rg_of (by decide)) ?_
    refine J_icmp_ne C dX9_unload_20 (tgt := 53) rfl (fun c20 => ?_) (fun c20 => ?_)
    · have h := h.1 c20
      exact S_X9_unload_53 C M (by omega)  h
    · have h := h.2 c20
      refine J_aload_n C dX9_unload_23 rfl rfl ?_
      obtain ⟨r8, hr9, h⟩ := h
      refine J_getR C fo_10_33 rfl fl_RX9_87 dX9_unload_24 hK1 hr9 ?_
      refine J_iload_n C dX9_unload_27 rfl rfl ?_
      obtain ⟨hK10, h⟩ := h
      obtain ⟨h011, hn12, h⟩ := h
      refine J_iald C dX9_unload_28 hK10 h011 hn12 ?_
      refine J_iconst C dX9_unload_29 (rg_of (by decide)) ?_
      refine J_icmp_eq C dX9_unload_30 (tgt := 53) rfl (fun c30 => ?_) (fun c30 => ?_)
      · have h := h.1 c30
        exact S_X9_unload_53 C M (by omega)  h
      · have h := h.2 c30
        refine J_aload_n C dX9_unload_33 rfl rfl ?_
        obtain ⟨r13, hr14, h⟩ := h
        refine J_getR C fo_10_31 rfl fl_RX9_81 dX9_unload_34 hK1 hr14 ?_
        refine J_iload_n C dX9_unload_37 rfl rfl ?_
        obtain ⟨hK15, h⟩ := h
        obtain ⟨h016, hn17, h⟩ := h
        refine J_iald C dX9_unload_38 hK15 h016 hn17 ?_
        refine J_aload_n C dX9_unload_39 rfl rfl ?_
        obtain ⟨r18, hr19, h⟩ := h
        refine J_getR C fo_10_56 rfl fl_RX9_150 dX9_unload_40 hK1 hr19 ?_
        refine J_aload_n C dX9_unload_43 rfl rfl ?_
        refine J_getR C fo_10_33 rfl fl_RX9_87 dX9_unload_44 hK1 hr9 ?_
        refine J_iload_n C dX9_unload_47 rfl rfl ?_
        obtain ⟨h020, hn21, h⟩ := h
        refine J_iald C dX9_unload_48 hK10 h020 hn21 ?_
        obtain ⟨hK22, h⟩ := h
        obtain ⟨h023, hn24, h⟩ := h
        refine J_iald C dX9_unload_49 hK22 h023 hn24 ?_
        refine J_icmp_eq C dX9_unload_50 (tgt := 57) rfl (fun c50 => ?_) (fun c50 => ?_)
        · have h := h.1 c50
          refine J_iconst C dX9_unload_57 (rg_of (by decide)) ?_
          exact S_X9_unload_58 C M (by omega)  h
        · have h := h.2 c50
          exact S_X9_unload_53 C M (by omega)  h
  · have h := h.2 c6
    refine J_iconst C dX9_unload_9 (rg_of (by decide)) ?_
    refine J_goto C dX9_unload_10 (tgt := 58) rfl ?_
    exact S_X9_unload_58 C M (by omega)  h
theorem c_X9_unload {l : Launch} {G : Gp} {d : Nat} {x0 : Nat} {x1 : Int} {S : Shp} {F : Fl} {I : Il} {Q : Int → Fl → Il → Prop} (hl : l.stackTraces = false) (hd : 3 ≤ d) (h : V_X9_unload x0 x1 S F I Q) : CM l G d yX9_unload (.code yX9_unload cX9_unload 3 (some .int)) [vr (some x0), vi x1] S F I (qI fun z S' F' I' => S = S' ∧ Q z F' I') noX :=
  CM_ofM [vr (some x0), vi x1, vl 0] hl (by decide +kernel) (kn1 trivial (kn1 trivial kn0)) (Nat.le_of_ble_eq_true rfl) rfl (fun X hX C M => S_X9_unload C M hd h)
set_option maxRecDepth 20000 in
set_option maxHeartbeats 4000000 in
theorem S_X9_yardAt_17 {G : Gp} {X : Xt} {d : Nat}  {x0 : Nat} {x1 : Int} {x2 : Int} {s0 : Int} {s1 : Nat} {Q : Int → Fl → Prop} {S : Shp} {F : Fl} {I : Il} (C : CO G RX9 cX9_yardAt 3 X) (M : MX d (some .int) "yardAt" X) (hd : 3 ≤ d)  (h : V_X9_yardAt_17 x0 x1 x2 s0 s1 S F I Q) : J G X (QD X G (qI fun z S' F' I' => S = S' ∧ I = I' ∧ Q z F') noX) 17 [vr (some x0), vi x1, vi x2] [vi s0, vr (some s1)] S F I := by
  unfold V_X9_yardAt_17 at h
  obtain ⟨hK1, h⟩ := h
  refine J_putI C fo_10_0 fp_10 fl_RX9_174 (Or.inl rfl) (Or.inl rfl) dX9_yardAt_17 hK1 ?_
  refine J_aload_n C dX9_yardAt_20 rfl rfl ?_
  obtain ⟨hK2, h⟩ := h
  refine J_getI C fo_10_0 rfl fl_RX9_174 dX9_yardAt_21 hK2 ?_
  refine J_if_le C dX9_yardAt_24 (tgt := 31) rfl (fun c24 => ?_) (fun c24 => ?_)
  · have h := h.1 c24
    refine J_iload_n C dX9_yardAt_31 rfl rfl ?_
    refine J_aload_n C dX9_yardAt_32 rfl rfl ?_
    obtain ⟨r3, hr4, h⟩ := h
    refine J_getR C fo_10_35 rfl fl_RX9_93 dX9_yardAt_33 hK2 hr4 ?_
    refine J_iload_n C dX9_yardAt_36 rfl rfl ?_
    obtain ⟨hK5, h⟩ := h
    obtain ⟨h06, hn7, h⟩ := h
    refine J_iald C dX9_yardAt_37 hK5 h06 hn7 ?_
    refine J_icmp_ge C dX9_yardAt_38 (tgt := 55) rfl (fun c38 => ?_) (fun c38 => ?_)
    · have h := h.1 c38
      refine J_iconst C dX9_yardAt_55 (rg_of (by decide)) ?_
      exact J_iret C dX9_yardAt_56 M.2.2.1 ⟨_, rfl, rfl, rfl, h⟩
    · have h := h.2 c38
      refine J_aload_n C dX9_yardAt_41 rfl rfl ?_
      obtain ⟨r8, hr9, h⟩ := h
      refine J_getR C fo_10_34 rfl fl_RX9_90 dX9_yardAt_42 hK2 hr9 ?_
      refine J_bipush C dX9_yardAt_45 (by decide +kernel) (rg_of (by decide)) ?_
      refine J_iload_n C dX9_yardAt_47 rfl rfl ?_
      refine J_imul C dX9_yardAt_48 ?_
      refine J_iload_n C dX9_yardAt_49 rfl rfl ?_
      refine J_iadd C dX9_yardAt_50 ?_
      obtain ⟨hK10, h⟩ := h
      obtain ⟨h011, hn12, h⟩ := h
      refine J_iald C dX9_yardAt_51 hK10 h011 hn12 ?_
      refine J_goto C dX9_yardAt_52 (tgt := 56) rfl ?_
      exact J_iret C dX9_yardAt_56 M.2.2.1 ⟨_, rfl, rfl, rfl, h⟩
  · have h := h.2 c24
    refine J_iconst C dX9_yardAt_27 (rg_of (by decide)) ?_
    refine J_goto C dX9_yardAt_28 (tgt := 56) rfl ?_
    exact J_iret C dX9_yardAt_56 M.2.2.1 ⟨_, rfl, rfl, rfl, h⟩
set_option maxRecDepth 20000 in
set_option maxHeartbeats 4000000 in
theorem S_X9_yardAt_16 {G : Gp} {X : Xt} {d : Nat}  {x0 : Nat} {x1 : Int} {x2 : Int} {s0 : Nat} {Q : Int → Fl → Prop} {S : Shp} {F : Fl} {I : Il} (C : CO G RX9 cX9_yardAt 3 X) (M : MX d (some .int) "yardAt" X) (hd : 3 ≤ d)  (h : V_X9_yardAt_16 x0 x1 x2 s0 S F I Q) : J G X (QD X G (qI fun z S' F' I' => S = S' ∧ I = I' ∧ Q z F') noX) 16 [vr (some x0), vi x1, vi x2] [vr (some s0)] S F I := by
  unfold V_X9_yardAt_16 at h
  refine J_iconst C dX9_yardAt_16 (rg_of (by decide)) ?_
  exact S_X9_yardAt_17 C M (by omega)  h
set_option maxRecDepth 20000 in
set_option maxHeartbeats 4000000 in
theorem S_X9_yardAt {G : Gp} {X : Xt} {d : Nat}  {x0 : Nat} {x1 : Int} {x2 : Int} {Q : Int → Fl → Prop} {S : Shp} {F : Fl} {I : Il} (C : CO G RX9 cX9_yardAt 3 X) (M : MX d (some .int) "yardAt" X) (hd : 3 ≤ d)  (h : V_X9_yardAt x0 x1 x2 S F I Q) : J G X (QD X G (qI fun z S' F' I' => S = S' ∧ I = I' ∧ Q z F') noX) 0 [vr (some x0), vi x1, vi x2] [] S F I := by
  unfold V_X9_yardAt at h
  obtain ⟨d, rfl⟩ : ∃ d9, d = d9 + 1 := ⟨d - 1, by omega⟩
  refine J_aload_n C dX9_yardAt_0 rfl rfl ?_
  refine J_iload_n C dX9_yardAt_1 rfl rfl ?_
  refine K_S C M [vi x1] [vr (some x0)] mi_X9_isStation wg_1411 wg_1412 dX9_yardAt_2 rfl rfl (by decide) (Nat.le_of_ble_eq_true rfl) (c_X9_isStation (C.2.2.2.2.2.2.2) (by omega) h) (fun v9 S' F' I' hq9 => ?_) K_no rfl
  clear h
  obtain ⟨z1, rfl, rfl, rfl, rfl, h⟩ := hq9
  refine J_if_eq C dX9_yardAt_5 (tgt := 16) rfl (fun c5 => ?_) (fun c5 => ?_)
  · have h := h.1 c5
    exact S_X9_yardAt_16 C M (by omega)  h
  · have h := h.2 c5
    refine J_iload_n C dX9_yardAt_8 rfl rfl ?_
    refine J_if_lt C dX9_yardAt_9 (tgt := 16) rfl (fun c9 => ?_) (fun c9 => ?_)
    · have h := h.1 c9
      exact S_X9_yardAt_16 C M (by omega)  h
    · have h := h.2 c9
      refine J_iconst C dX9_yardAt_12 (rg_of (by decide)) ?_
      refine J_goto C dX9_yardAt_13 (tgt := 17) rfl ?_
      exact S_X9_yardAt_17 C M (by omega)  h
theorem c_X9_yardAt {l : Launch} {G : Gp} {d : Nat} {x0 : Nat} {x1 : Int} {x2 : Int} {S : Shp} {F : Fl} {I : Il} {Q : Int → Fl → Prop} (hl : l.stackTraces = false) (hd : 3 ≤ d) (h : V_X9_yardAt x0 x1 x2 S F I Q) : CM l G d yX9_yardAt (.code yX9_yardAt cX9_yardAt 3 (some .int)) [vr (some x0), vi x1, vi x2] S F I (qI fun z S' F' I' => S = S' ∧ I = I' ∧ Q z F') noX :=
  CM_ofM [vr (some x0), vi x1, vi x2] hl (by decide +kernel) (kn1 trivial (kn1 trivial (kn1 trivial kn0))) (Nat.le_of_ble_eq_true rfl) rfl (fun X hX C M => S_X9_yardAt C M hd h)
