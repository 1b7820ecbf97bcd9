set_option maxRecDepth 20000 in
set_option maxHeartbeats 4000000 in
theorem S_X1_holderAt {G : Gp} {X : Xt} {d : Nat}  {x0 : Nat} {x1 : Int} {Q : Int → Prop} {S : Shp} {F : Fl} {I : Il} (C : CO G RX1 cX1_holderAt 2 X) (M : MX d (some .int) "holderAt" X) (hd : 1 ≤ d)  (h : V_X1_holderAt x0 x1 S F I Q) : J G X (QD X G (qI fun z S' F' I' => S = S' ∧ F = F' ∧ I = I' ∧ Q z) noX) 0 [vr (some x0), vi x1] [] S F I := by
  unfold V_X1_holderAt at h
  refine J_iload_n C dX1_holderAt_0 rfl rfl ?_
  refine J_aload_n C dX1_holderAt_1 rfl rfl ?_
  obtain ⟨hK1, h⟩ := h
  refine J_getI C fo_2_12 rfl fl_RX1_37 dX1_holderAt_2 hK1 ?_
  refine J_icmp_ge C dX1_holderAt_5 (tgt := 15) rfl (fun c5 => ?_) (fun c5 => ?_)
  · have h := h.1 c5
    refine J_iconst C dX1_holderAt_15 (rg_of (by decide)) ?_
    exact J_iret C dX1_holderAt_16 M.2.2.1 ⟨_, rfl, rfl, rfl, rfl, h⟩
  · have h := h.2 c5
    refine J_aload_n C dX1_holderAt_8 rfl rfl ?_
    refine J_getI C fo_2_11 rfl fl_RX1_34 dX1_holderAt_9 hK1 ?_
    refine J_goto C dX1_holderAt_12 (tgt := 16) rfl ?_
    exact J_iret C dX1_holderAt_16 M.2.2.1 ⟨_, rfl, rfl, rfl, rfl, h⟩
theorem c_X1_holderAt {l : Launch} {G : Gp} {d : Nat} {x0 : Nat} {x1 : Int} {S : Shp} {F : Fl} {I : Il} {Q : Int → Prop} (hl : l.stackTraces = false) (hd : 1 ≤ d) (h : V_X1_holderAt x0 x1 S F I Q) : CM l G d yX1_holderAt (.code yX1_holderAt cX1_holderAt 2 (some .int)) [vr (some x0), vi x1] S F I (qI fun z S' F' I' => S = S' ∧ F = F' ∧ I = I' ∧ Q z) noX :=
  CM_ofM [vr (some x0), vi x1] hl (by decide +kernel) (kn1 trivial (kn1 trivial kn0)) (Nat.le_of_ble_eq_true rfl) rfl (fun X hX C M => S_X1_holderAt C M hd h)
set_option maxRecDepth 20000 in
set_option maxHeartbeats 4000000 in
theorem S_X1_init {G : Gp} {X : Xt} {d : Nat}  {x0 : Nat} {x1 : Int} {x2 : Int} {x3 : Int} {x4 : Int} {Q : Fl → Prop} {S : Shp} {F : Fl} {I : Il} (C : CO G RX1 cX1_init 5 X) (M : MX d none "<init>" X) (hd : 2 ≤ d)  (h : V_X1_init x0 x1 x2 x3 x4 S F I Q) : J G X (QD X G (qV fun S' F' I' => S = S' ∧ I = I' ∧ Q F') noX) 0 [vr (some x0), vi x1, vi x2, vi x3, vi x4] [] S F I := by
  unfold V_X1_init at h
  obtain ⟨d, rfl⟩ : ∃ d9, d = d9 + 1 := ⟨d - 1, by omega⟩
  refine J_aload_n C dX1_init_0 rfl rfl ?_
  refine K_objInit C M wg_378 wg_59 wg_60 rfl dX1_init_1 (Nat.le_of_ble_eq_true rfl) ?_
  refine J_aload_n C dX1_init_4 rfl rfl ?_
  refine J_iconst C dX1_init_5 (rg_of (by decide)) ?_
  obtain ⟨hK1, h⟩ := h
  refine J_putI C fo_2_4 fp_2 fl_RX1_9 (Or.inl rfl) (Or.inl rfl) dX1_init_6 hK1 ?_
  refine J_aload_n C dX1_init_9 rfl rfl ?_
  refine J_iconst C dX1_init_10 (rg_of (by decide)) ?_
  refine J_putI C fo_2_5 fp_2 fl_RX1_15 (Or.inl rfl) (Or.inr ⟨rfl, by decide⟩) dX1_init_11 hK1 ?_
  refine J_aload_n C dX1_init_14 rfl rfl ?_
  refine J_iconst C dX1_init_15 (rg_of (by decide)) ?_
  refine J_putI C fo_2_6 fp_2 fl_RX1_19 (Or.inl rfl) (Or.inr ⟨rfl, by decide⟩) dX1_init_16 hK1 ?_
  refine J_aload_n C dX1_init_19 rfl rfl ?_
  refine J_iconst C dX1_init_20 (rg_of (by decide)) ?_
  refine J_putI C fo_2_7 fp_2 fl_RX1_22 (Or.inl rfl) (Or.inl rfl) dX1_init_21 hK1 ?_
  refine J_aload_n C dX1_init_24 rfl rfl ?_
  refine J_iconst C dX1_init_25 (rg_of (by decide)) ?_
  refine J_putI C fo_2_8 fp_2 fl_RX1_25 (Or.inl rfl) (Or.inl rfl) dX1_init_26 hK1 ?_
  refine J_aload_n C dX1_init_29 rfl rfl ?_
  refine J_iconst C dX1_init_30 (rg_of (by decide)) ?_
  refine J_putI C fo_2_9 fp_2 fl_RX1_28 (Or.inl rfl) (Or.inl rfl) dX1_init_31 hK1 ?_
  refine J_aload_n C dX1_init_34 rfl rfl ?_
  refine J_iconst C dX1_init_35 (rg_of (by decide)) ?_
  refine J_putI C fo_2_10 fp_2 fl_RX1_31 (Or.inl rfl) (Or.inr ⟨rfl, by decide⟩) dX1_init_36 hK1 ?_
  refine J_aload_n C dX1_init_39 rfl rfl ?_
  refine J_iconst C dX1_init_40 (rg_of (by decide)) ?_
  refine J_putI C fo_2_11 fp_2 fl_RX1_34 (Or.inl rfl) (Or.inl rfl) dX1_init_41 hK1 ?_
  refine J_aload_n C dX1_init_44 rfl rfl ?_
  refine J_iconst C dX1_init_45 (rg_of (by decide)) ?_
  refine J_putI C fo_2_12 fp_2 fl_RX1_37 (Or.inl rfl) (Or.inl rfl) dX1_init_46 hK1 ?_
  refine J_aload_n C dX1_init_49 rfl rfl ?_
  refine J_iload_n C dX1_init_50 rfl rfl ?_
  refine J_putI C fo_2_0 fp_2 fl_RX1_40 (Or.inr ⟨M.2.2.2.1, rfl⟩) (Or.inl rfl) dX1_init_51 hK1 ?_
  refine J_aload_n C dX1_init_54 rfl rfl ?_
  refine J_iload_n C dX1_init_55 rfl rfl ?_
  refine J_putI C fo_2_1 fp_2 fl_RX1_43 (Or.inr ⟨M.2.2.2.1, rfl⟩) (Or.inl rfl) dX1_init_56 hK1 ?_
  refine J_aload_n C dX1_init_59 rfl rfl ?_
  refine J_iload_n C dX1_init_60 rfl rfl ?_
  refine J_putI C fo_2_2 fp_2 fl_RX1_46 (Or.inr ⟨M.2.2.2.1, rfl⟩) (Or.inl rfl) dX1_init_61 hK1 ?_
  refine J_aload_n C dX1_init_64 rfl rfl ?_
  refine J_iload C dX1_init_65 rfl ?_
  refine J_putI C fo_2_3 fp_2 fl_RX1_49 (Or.inr ⟨M.2.2.2.1, rfl⟩) (Or.inl rfl) dX1_init_67 hK1 ?_
  exact J_vret C dX1_init_70 M.2.2.1 ⟨rfl, rfl, rfl, h⟩
theorem c_X1_init {l : Launch} {G : Gp} {d : Nat} {x0 : Nat} {x1 : Int} {x2 : Int} {x3 : Int} {x4 : Int} {S : Shp} {F : Fl} {I : Il} {Q : Fl → Prop} (hl : l.stackTraces = false) (hd : 2 ≤ d) (h : V_X1_init x0 x1 x2 x3 x4 S F I Q) : CM l G d yX1_init (.code yX1_init cX1_init 5 none) [vr (some x0), vi x1, vi x2, vi x3, vi x4] S F I (qV fun S' F' I' => S = S' ∧ I = I' ∧ Q F') noX :=
  CM_ofM [vr (some x0), vi x1, vi x2, vi x3, vi x4] hl (by decide +kernel) (kn1 trivial (kn1 trivial (kn1 trivial (kn1 trivial (kn1 trivial kn0))))) (Nat.le_of_ble_eq_true rfl) rfl (fun X hX C M => S_X1_init C M hd h)
set_option maxRecDepth 20000 in
set_option maxHeartbeats 4000000 in
theorem S_X1_isClosedAt {G : Gp} {X : Xt} {d : Nat}  {x0 : Nat} {x1 : Int} {Q : Int → Prop} {S : Shp} {F : Fl} {I : Il} (C : CO G RX1 cX1_isClosedAt 2 X) (M : MX d (some .boolean) "isClosedAt" X) (hd : 1 ≤ d)  (h : V_X1_isClosedAt x0 x1 S F I Q) : J G X (QD X G (qI fun z S' F' I' => S = S' ∧ F = F' ∧ I = I' ∧ Q z) noX) 0 [vr (some x0), vi x1] [] S F I := by
  unfold V_X1_isClosedAt at h
  refine J_aload_n C dX1_isClosedAt_0 rfl rfl ?_
  obtain ⟨hK1, h⟩ := h
  refine J_getI C fo_2_10 rfl fl_RX1_31 dX1_isClosedAt_1 hK1 ?_
  refine J_if_ne C dX1_isClosedAt_4 (tgt := 15) rfl (fun c4 => ?_) (fun c4 => ?_)
  · have h := h.1 c4
    refine J_iconst C dX1_isClosedAt_15 (rg_of (by decide)) ?_
    refine J_goto C dX1_isClosedAt_16 (tgt := 20) rfl ?_
    exact J_zret C dX1_isClosedAt_20 M.2.2.1 (by decide) ⟨_, rfl, rfl, rfl, rfl, h⟩
  · have h := h.2 c4
    refine J_iload_n C dX1_isClosedAt_7 rfl rfl ?_
    refine J_aload_n C dX1_isClosedAt_8 rfl rfl ?_
    refine J_getI C fo_2_9 rfl fl_RX1_28 dX1_isClosedAt_9 hK1 ?_
    refine J_icmp_ge C dX1_isClosedAt_12 (tgt := 19) rfl (fun c12 => ?_) (fun c12 => ?_)
    · have h := h.1 c12
      refine J_iconst C dX1_isClosedAt_19 (rg_of (by decide)) ?_
      exact J_zret C dX1_isClosedAt_20 M.2.2.1 (by decide) ⟨_, rfl, rfl, rfl, rfl, h⟩
    · have h := h.2 c12
      refine J_iconst C dX1_isClosedAt_15 (rg_of (by decide)) ?_
      refine J_goto C dX1_isClosedAt_16 (tgt := 20) rfl ?_
      exact J_zret C dX1_isClosedAt_20 M.2.2.1 (by decide) ⟨_, rfl, rfl, rfl, rfl, h⟩
theorem c_X1_isClosedAt {l : Launch} {G : Gp} {d : Nat} {x0 : Nat} {x1 : Int} {S : Shp} {F : Fl} {I : Il} {Q : Int → Prop} (hl : l.stackTraces = false) (hd : 1 ≤ d) (h : V_X1_isClosedAt x0 x1 S F I Q) : CM l G d yX1_isClosedAt (.code yX1_isClosedAt cX1_isClosedAt 2 (some .boolean)) [vr (some x0), vi x1] S F I (qI fun z S' F' I' => S = S' ∧ F = F' ∧ I = I' ∧ Q z) noX :=
  CM_ofM [vr (some x0), vi x1] hl (by decide +kernel) (kn1 trivial (kn1 trivial kn0)) (Nat.le_of_ble_eq_true rfl) rfl (fun X hX C M => S_X1_isClosedAt C M hd h)
set_option maxRecDepth 20000 in
set_option maxHeartbeats 4000000 in
theorem S_X1_isOfOthers_43 {G : Gp} {X : Xt} {d : Nat}  {x0 : Nat} {x3 : Int} {x4 : Int} {Q : Int → Prop} {S : Shp} {F : Fl} {I : Il} (C : CO G RX1 cX1_isOfOthers 5 X) (M : MX d (some .boolean) "isOfOthers" X) (hd : 1 ≤ d)  (h : V_X1_isOfOthers_43 x0 x3 x4 S F I Q) : J G X (QD X G (qI fun z S' F' I' => S = S' ∧ F = F' ∧ I = I' ∧ Q z) noX) 43 [vr (some x0), vl 0, vl 0, vi x3, vi x4] [] S F I := by
  unfold V_X1_isOfOthers_43 at h
  refine J_iload_n C dX1_isOfOthers_43 rfl rfl ?_
  refine J_aload_n C dX1_isOfOthers_44 rfl rfl ?_
  obtain ⟨hK1, h⟩ := h
  refine J_getI C fo_2_8 rfl fl_RX1_25 dX1_isOfOthers_45 hK1 ?_
  refine J_sipush C dX1_isOfOthers_48 (by decide +kernel) (rg_of (by decide)) ?_
  refine J_iadd C dX1_isOfOthers_51 ?_
  refine J_icmp_ge C dX1_isOfOthers_52 (tgt := 72) rfl (fun c52 => ?_) (fun c52 => ?_)
  · have h := h.1 c52
    refine J_iconst C dX1_isOfOthers_72 (rg_of (by decide)) ?_
    exact J_zret C dX1_isOfOthers_73 M.2.2.1 (by decide) ⟨_, rfl, rfl, rfl, rfl, h⟩
  · have h := h.2 c52
    refine J_aload_n C dX1_isOfOthers_55 rfl rfl ?_
    refine J_getI C fo_2_7 rfl fl_RX1_22 dX1_isOfOthers_56 hK1 ?_
    refine J_sipush C dX1_isOfOthers_59 (by decide +kernel) (rg_of (by decide)) ?_
    refine J_iadd C dX1_isOfOthers_62 ?_
    refine J_iload C dX1_isOfOthers_63 rfl ?_
    refine J_icmp_ge C dX1_isOfOthers_65 (tgt := 72) rfl (fun c65 => ?_) (fun c65 => ?_)
    · have h := h.1 c65
      refine J_iconst C dX1_isOfOthers_72 (rg_of (by decide)) ?_
      exact J_zret C dX1_isOfOthers_73 M.2.2.1 (by decide) ⟨_, rfl, rfl, rfl, rfl, h⟩
    · have h := h.2 c65
      refine J_iconst C dX1_isOfOthers_68 (rg_of (by decide)) ?_
      refine J_goto C dX1_isOfOthers_69 (tgt := 73) rfl ?_
      exact J_zret C dX1_isOfOthers_73 M.2.2.1 (by decide) ⟨_, rfl, rfl, rfl, rfl, h⟩
set_option maxRecDepth 20000 in
set_option maxHeartbeats 4000000 in
theorem S_X1_isOfOthers {G : Gp} {X : Xt} {d : Nat}  {x0 : Nat} {x1 : Int} {x2 : Int} {Q : Int → Prop} {S : Shp} {F : Fl} {I : Il} (C : CO G RX1 cX1_isOfOthers 5 X) (M : MX d (some .boolean) "isOfOthers" X) (hd : 1 ≤ d)  (h : V_X1_isOfOthers x0 x1 x2 S F I Q) : J G X (QD X G (qI fun z S' F' I' => S = S' ∧ F = F' ∧ I = I' ∧ Q z) noX) 0 [vr (some x0), vi x1, vi x2, vl 0, vl 0] [] S F I := by
  unfold V_X1_isOfOthers at h
  refine J_aload_n C dX1_isOfOthers_0 rfl rfl ?_
  obtain ⟨hK1, h⟩ := h
  refine J_getI C fo_2_7 rfl fl_RX1_22 dX1_isOfOthers_1 hK1 ?_
  refine J_aload_n C dX1_isOfOthers_4 rfl rfl ?_
  refine J_getI C fo_2_8 rfl fl_RX1_25 dX1_isOfOthers_5 hK1 ?_
  refine J_icmp_lt C dX1_isOfOthers_8 (tgt := 13) rfl (fun c8 => ?_) (fun c8 => ?_)
  · have h := h.1 c8
    refine J_iload_n C dX1_isOfOthers_13 rfl rfl ?_
    refine J_sipush C dX1_isOfOthers_14 (by decide +kernel) (rg_of (by decide)) ?_
    refine J_irem C dX1_isOfOthers_17 (by decide) ?_
    refine K_istore_n C [vr (some x0), vi x1, vi x2, vi (w32 (Int.tmod x1 1440)), vl 0] dX1_isOfOthers_18 rfl (Nat.le_of_ble_eq_true rfl) rfl ?_
    refine J_iload_n C dX1_isOfOthers_19 rfl rfl ?_
    refine J_iload_n C dX1_isOfOthers_20 rfl rfl ?_
    refine J_iadd C dX1_isOfOthers_21 ?_
    refine J_iload_n C dX1_isOfOthers_22 rfl rfl ?_
    refine J_isub C dX1_isOfOthers_23 ?_
    refine K_istore C [vr (some x0), vi x1, vi x2, vi (w32 (Int.tmod x1 1440)), vi (w32 ((w32 ((w32 (Int.tmod x1 1440)) + x2)) - x1))] dX1_isOfOthers_24 (Nat.le_of_ble_eq_true rfl) rfl ?_
    refine J_iload_n C dX1_isOfOthers_26 rfl rfl ?_
    refine J_aload_n C dX1_isOfOthers_27 rfl rfl ?_
    refine J_getI C fo_2_8 rfl fl_RX1_25 dX1_isOfOthers_28 hK1 ?_
    refine J_icmp_ge C dX1_isOfOthers_31 (tgt := 43) rfl (fun c31 => ?_) (fun c31 => ?_)
    · have h := h.1 c31
      refine J_less [vr (some x0), vl 0, vl 0, vi (w32 (Int.tmod x1 1440)), vi (w32 ((w32 ((w32 (Int.tmod x1 1440)) + x2)) - x1))] (by unfold lessL; simp [lessL]) ?_
      exact S_X1_isOfOthers_43 C M (by omega)  h
    · have h := h.2 c31
      refine J_aload_n C dX1_isOfOthers_34 rfl rfl ?_
      refine J_getI C fo_2_7 rfl fl_RX1_22 dX1_isOfOthers_35 hK1 ?_
      refine J_iload C dX1_isOfOthers_38 rfl ?_
      refine J_icmp_lt C dX1_isOfOthers_40 (tgt := 68) rfl (fun c40 => ?_) (fun c40 => ?_)
      · have h := h.1 c40
        refine J_iconst C dX1_isOfOthers_68 (rg_of (by decide)) ?_
        refine J_goto C dX1_isOfOthers_69 (tgt := 73) rfl ?_
        exact J_zret C dX1_isOfOthers_73 M.2.2.1 (by decide) ⟨_, rfl, rfl, rfl, rfl, h⟩
      · have h := h.2 c40
        refine J_less [vr (some x0), vl 0, vl 0, vi (w32 (Int.tmod x1 1440)), vi (w32 ((w32 ((w32 (Int.tmod x1 1440)) + x2)) - x1))] (by unfold lessL; simp [lessL]) ?_
        exact S_X1_isOfOthers_43 C M (by omega)  h
  · have h := h.2 c8
    refine J_iconst C dX1_isOfOthers_11 (rg_of (by decide)) ?_
    exact J_zret C dX1_isOfOthers_12 M.2.2.1 (by decide) ⟨_, rfl, rfl, rfl, rfl, h⟩
theorem c_X1_isOfOthers {l : Launch} {G : Gp} {d : Nat} {x0 : Nat} {x1 : Int} {x2 : Int} {S : Shp} {F : Fl} {I : Il} {Q : Int → Prop} (hl : l.stackTraces = false) (hd : 1 ≤ d) (h : V_X1_isOfOthers x0 x1 x2 S F I Q) : CM l G d yX1_isOfOthers (.code yX1_isOfOthers cX1_isOfOthers 5 (some .boolean)) [vr (some x0), vi x1, vi x2] S F I (qI fun z S' F' I' => S = S' ∧ F = F' ∧ I = I' ∧ Q z) noX :=
  CM_ofM [vr (some x0), vi x1, vi x2, vl 0, vl 0] hl (by decide +kernel) (kn1 trivial (kn1 trivial (kn1 trivial kn0))) (Nat.le_of_ble_eq_true rfl) rfl (fun X hX C M => S_X1_isOfOthers C M hd h)
set_option maxRecDepth 20000 in
set_option maxHeartbeats 4000000 in
theorem S_X1_otherEnd {G : Gp} {X : Xt} {d : Nat}  {x0 : Nat} {x1 : Int} {Q : Int → Prop} {S : Shp} {F : Fl} {I : Il} (C : CO G RX1 cX1_otherEnd 2 X) (M : MX d (some .int) "otherEnd" X) (hd : 1 ≤ d)  (h : V_X1_otherEnd x0 x1 S F I Q) : J G X (QD X G (qI fun z S' F' I' => S = S' ∧ F = F' ∧ I = I' ∧ Q z) noX) 0 [vr (some x0), vi x1] [] S F I := by
  unfold V_X1_otherEnd at h
  refine J_iload_n C dX1_otherEnd_0 rfl rfl ?_
  refine J_aload_n C dX1_otherEnd_1 rfl rfl ?_
  obtain ⟨hK1, h⟩ := h
  refine J_getI C fo_2_0 rfl fl_RX1_40 dX1_otherEnd_2 hK1 ?_
  refine J_icmp_ne C dX1_otherEnd_5 (tgt := 13) rfl (fun c5 => ?_) (fun c5 => ?_)
  · have h := h.1 c5
    refine J_iload_n C dX1_otherEnd_13 rfl rfl ?_
    refine J_aload_n C dX1_otherEnd_14 rfl rfl ?_
    refine J_getI C fo_2_1 rfl fl_RX1_43 dX1_otherEnd_15 hK1 ?_
    refine J_icmp_ne C dX1_otherEnd_18 (tgt := 28) rfl (fun c18 => ?_) (fun c18 => ?_)
    · have h := h.1 c18
      refine J_iconst C dX1_otherEnd_28 (rg_of (by decide)) ?_
      exact J_iret C dX1_otherEnd_29 M.2.2.1 ⟨_, rfl, rfl, rfl, rfl, h⟩
    · have h := h.2 c18
      refine J_aload_n C dX1_otherEnd_21 rfl rfl ?_
      refine J_getI C fo_2_0 rfl fl_RX1_40 dX1_otherEnd_22 hK1 ?_
      refine J_goto C dX1_otherEnd_25 (tgt := 29) rfl ?_
      exact J_iret C dX1_otherEnd_29 M.2.2.1 ⟨_, rfl, rfl, rfl, rfl, h⟩
  · have h := h.2 c5
    refine J_aload_n C dX1_otherEnd_8 rfl rfl ?_
    refine J_getI C fo_2_1 rfl fl_RX1_43 dX1_otherEnd_9 hK1 ?_
    exact J_iret C dX1_otherEnd_12 M.2.2.1 ⟨_, rfl, rfl, rfl, rfl, h⟩
theorem c_X1_otherEnd {l : Launch} {G : Gp} {d : Nat} {x0 : Nat} {x1 : Int} {S : Shp} {F : Fl} {I : Il} {Q : Int → Prop} (hl : l.stackTraces = false) (hd : 1 ≤ d) (h : V_X1_otherEnd x0 x1 S F I Q) : CM l G d yX1_otherEnd (.code yX1_otherEnd cX1_otherEnd 2 (some .int)) [vr (some x0), vi x1] S F I (qI fun z S' F' I' => S = S' ∧ F = F' ∧ I = I' ∧ Q z) noX :=
  CM_ofM [vr (some x0), vi x1] hl (by decide +kernel) (kn1 trivial (kn1 trivial kn0)) (Nat.le_of_ble_eq_true rfl) rfl (fun X hX C M => S_X1_otherEnd C M hd h)
set_option maxRecDepth 20000 in
set_option maxHeartbeats 4000000 in
theorem S_X5_init {G : Gp} {X : Xt} {d : Nat}  {x0 : Nat} {x1 : Int} {Q : Shp → Fl → Il → Prop} {S : Shp} {F : Fl} {I : Il} (C : CO G RX5 cX5_init 2 X) (M : MX d none "<init>" X) (hd : 2 ≤ d)  (h : V_X5_init x0 x1 S F I Q) : J G X (QD X G (qV fun S' F' I' => Q S' F' I') noX) 0 [vr (some x0), vi x1] [] S F I := by
  unfold V_X5_init at h
  obtain ⟨d, rfl⟩ : ∃ d9, d = d9 + 1 := ⟨d - 1, by omega⟩
  refine J_aload_n C dX5_init_0 rfl rfl ?_
  refine K_objInit C M wg_96 wg_59 wg_60 rfl dX5_init_1 (Nat.le_of_ble_eq_true rfl) ?_
  refine J_aload_n C dX5_init_4 rfl rfl ?_
  refine J_iconst C dX5_init_5 (rg_of (by decide)) ?_
  obtain ⟨hK1, h⟩ := h
  refine J_putI C fo_6_1 fp_6 fl_RX5_9 (Or.inl rfl) (Or.inl rfl) dX5_init_6 hK1 ?_
  refine J_aload_n C dX5_init_9 rfl rfl ?_
  refine J_iload_n C dX5_init_10 rfl rfl ?_
  refine J_if_le C dX5_init_11 (tgt := 18) rfl (fun c11 => ?_) (fun c11 => ?_)
  · have h := h.1 c11
    refine J_iconst C dX5_init_18 (rg_of (by decide)) ?_
    obtain ⟨ha4, hb5, h⟩ := h
    refine J_newI C (n := 1) rfl wg_106 dX5_init_19 (by decide) ha4 hb5 (fun q2 hq3 => ?_)
    have h := h q2 hq3
    obtain ⟨hK6, h⟩ := h
    refine J_putR C fo_6_0 fp_6 rfl wg_97 rfl (Or.inl rfl) dX5_init_21 hK6 ?_
    exact J_vret C dX5_init_24 M.2.2.1 ⟨rfl, h⟩
  · have h := h.2 c11
    refine J_iload_n C dX5_init_14 rfl rfl ?_
    refine J_goto C dX5_init_15 (tgt := 19) rfl ?_
    obtain ⟨n11, hz12, hl13, ha9, hb10, h⟩ := h
    refine J_newI C (n := n11) hz12 wg_106 dX5_init_19 hl13 ha9 hb10 (fun q7 hq8 => ?_)
    have h := h q7 hq8
    obtain ⟨hK14, h⟩ := h
    refine J_putR C fo_6_0 fp_6 rfl wg_97 rfl (Or.inl rfl) dX5_init_21 hK14 ?_
    exact J_vret C dX5_init_24 M.2.2.1 ⟨rfl, h⟩
theorem c_X5_init {l : Launch} {G : Gp} {d : Nat} {x0 : Nat} {x1 : Int} {S : Shp} {F : Fl} {I : Il} {Q : Shp → Fl → Il → Prop} (hl : l.stackTraces = false) (hd : 2 ≤ d) (h : V_X5_init x0 x1 S F I Q) : CM l G d yX5_init (.code yX5_init cX5_init 2 none) [vr (some x0), vi x1] S F I (qV fun S' F' I' => Q S' F' I') noX :=
  CM_ofM [vr (some x0), vi x1] hl (by decide +kernel) (kn1 trivial (kn1 trivial kn0)) (Nat.le_of_ble_eq_true rfl) rfl (fun X hX C M => S_X5_init C M hd h)
set_option maxRecDepth 20000 in
set_option maxHeartbeats 4000000 in
theorem S_X2_init {G : Gp} {X : Xt} {d : Nat}  {x0 : Nat} {x1 : Int} {Q : Shp → Fl → Il → Prop} {S : Shp} {F : Fl} {I : Il} (C : CO G RX2 cX2_init 2 X) (M : MX d none "<init>" X) (hd : 3 ≤ d)  (h : V_X2_init x0 x1 S F I Q) : J G X (QD X G (qV fun S' F' I' => Q S' F' I') noX) 0 [vr (some x0), vi x1] [] S F I := by
  unfold V_X2_init at h
  obtain ⟨d, rfl⟩ : ∃ d9, d = d9 + 1 := ⟨d - 1, by omega⟩
  refine J_aload_n C dX2_init_0 rfl rfl ?_
  refine K_objInit C M wg_603 wg_59 wg_60 rfl dX2_init_1 (Nat.le_of_ble_eq_true rfl) ?_
  refine J_aload_n C dX2_init_4 rfl rfl ?_
  refine J_iconst C dX2_init_5 (rg_of (by decide)) ?_
  obtain ⟨hK1, h⟩ := h
  refine J_putI C fo_3_2 fp_3 fl_RX2_9 (Or.inl rfl) (Or.inl rfl) dX2_init_6 hK1 ?_
  refine J_aload_n C dX2_init_9 rfl rfl ?_
  refine J_iconst C dX2_init_10 (rg_of (by decide)) ?_
  refine J_putI C fo_3_3 fp_3 fl_RX2_15 (Or.inl rfl) (Or.inl rfl) dX2_init_11 hK1 ?_
  refine J_aload_n C dX2_init_14 rfl rfl ?_
  obtain ⟨ha4, hb5, h⟩ := h
  refine J_new C fn_6 fp_6.1 fd_6 wg_604 wg_92 wg_33 dX2_init_15 ha4 hb5 (fun q2 hq3 => ?_)
  have h := h q2 hq3
  refine J_dup C dX2_init_18 trivial ?_
  refine J_iconst C dX2_init_19 (rg_of (by decide)) ?_
  refine K_I C M [vi 4] [vr (some q2), vr (some x0)] mi_X5_init rfl wg_605 wg_94 dX2_init_20 rfl rfl (by decide) (Nat.le_of_ble_eq_true rfl) (c_X5_init (C.2.2.2.2.2.2.2) (by omega) h) (fun v9 S6 F7 I8 hq9 => ?_) K_no rfl
  clear h
  obtain ⟨rfl, h⟩ := hq9
  obtain ⟨hK9, h⟩ := h
  refine J_putR C fo_3_4 fp_3 rfl wg_613 rfl (Or.inr ⟨M.2.2.2.1, rfl⟩) dX2_init_23 hK9 ?_
  refine J_aload_n C dX2_init_26 rfl rfl ?_
  refine J_iload_n C dX2_init_27 rfl rfl ?_
  refine J_putI C fo_3_0 fp_3 fl_RX2_27 (Or.inr ⟨M.2.2.2.1, rfl⟩) (Or.inl rfl) dX2_init_28 hK9 ?_
  refine J_aload_n C dX2_init_31 rfl rfl ?_
  refine J_iload_n C dX2_init_32 rfl rfl ?_
  refine J_putI C fo_3_1 fp_3 fl_RX2_30 (Or.inl rfl) (Or.inl rfl) dX2_init_33 hK9 ?_
  exact J_vret C dX2_init_36 M.2.2.1 ⟨rfl, h⟩
theorem c_X2_init {l : Launch} {G : Gp} {d : Nat} {x0 : Nat} {x1 : Int} {S : Shp} {F : Fl} {I : Il} {Q : Shp → Fl → Il → Prop} (hl : l.stackTraces = false) (hd : 3 ≤ d) (h : V_X2_init x0 x1 S F I Q) : CM l G d yX2_init (.code yX2_init cX2_init 2 none) [vr (some x0), vi x1] S F I (qV fun S' F' I' => Q S' F' I') noX :=
  CM_ofM [vr (some x0), vi x1] hl (by decide +kernel) (kn1 trivial (kn1 trivial kn0)) (Nat.le_of_ble_eq_true rfl) rfl (fun X hX C M => S_X2_init C M hd h)
set_option maxRecDepth 20000 in
set_option maxHeartbeats 4000000 in
theorem S_X2_weight {G : Gp} {X : Xt} {d : Nat}  {x0 : Nat} {Q : Int → Prop} {S : Shp} {F : Fl} {I : Il} (C : CO G RX2 cX2_weight 1 X) (M : MX d (some .int) "weight" X) (hd : 1 ≤ d)  (h : V_X2_weight x0 S F I Q) : J G X (QD X G (qI fun z S' F' I' => S = S' ∧ F = F' ∧ I = I' ∧ Q z) noX) 0 [vr (some x0)] [] S F I := by
  unfold V_X2_weight at h
  refine J_aload_n C dX2_weight_0 rfl rfl ?_
  obtain ⟨hK1, h⟩ := h
  refine J_getI C fo_3_3 rfl fl_RX2_15 dX2_weight_1 hK1 ?_
  refine J_iconst C dX2_weight_4 (rg_of (by decide)) ?_
  refine J_icmp_ne C dX2_weight_5 (tgt := 12) rfl (fun c5 => ?_) (fun c5 => ?_)
  · have h := h.1 c5
    refine J_iconst C dX2_weight_12 (rg_of (by decide)) ?_
    exact J_iret C dX2_weight_13 M.2.2.1 ⟨_, rfl, rfl, rfl, rfl, h⟩
  · have h := h.2 c5
    refine J_iconst C dX2_weight_8 (rg_of (by decide)) ?_
    refine J_goto C dX2_weight_9 (tgt := 13) rfl ?_
    exact J_iret C dX2_weight_13 M.2.2.1 ⟨_, rfl, rfl, rfl, rfl, h⟩
theorem c_X2_weight {l : Launch} {G : Gp} {d : Nat} {x0 : Nat} {S : Shp} {F : Fl} {I : Il} {Q : Int → Prop} (hl : l.stackTraces = false) (hd : 1 ≤ d) (h : V_X2_weight x0 S F I Q) : CM l G d yX2_weight (.code yX2_weight cX2_weight 1 (some .int)) [vr (some x0)] S F I (qI fun z S' F' I' => S = S' ∧ F = F' ∧ I = I' ∧ Q z) noX :=
  CM_ofM [vr (some x0)] hl (by decide +kernel) (kn1 trivial kn0) (Nat.le_of_ble_eq_true rfl) rfl (fun X hX C M => S_X2_weight C M hd h)
set_option maxRecDepth 20000 in
set_option maxHeartbeats 4000000 in
theorem S_J7_copyOf_59c91 {G : Gp} {X : Xt} {d : Nat}  {x0 : Nat} {x1 : Int} {Q : Nat → Shp → Il → Prop} {S : Shp} {F : Fl} {I : Il} (C : CO G RJ7 cJ7_copyOf_59c91 3 X) (M : MX d (some (.array .int)) "copyOf" X) (hd : 2 ≤ d)  (h : V_J7_copyOf_59c91 x0 x1 S F I Q) : J G X (QD X G (qR fun z S' F' I' => F = F' ∧ Q z S' I') noX) 0 [vr (some x0), vi x1, vl 0] [] S F I := by
  unfold V_J7_copyOf_59c91 at h
  obtain ⟨d, rfl⟩ : ∃ d9, d = d9 + 1 := ⟨d - 1, by omega⟩
  refine J_iload_n C dJ7_copyOf_59c91_0 rfl rfl ?_
  refine J_aload_n C dJ7_copyOf_59c91_1 rfl rfl ?_
  obtain ⟨hK1, h⟩ := h
  obtain ⟨hn2, h⟩ := h
  refine J_alen C dJ7_copyOf_59c91_2 hK1 (by decide) (by decide) (rg_len hn2) ?_
  refine J_icmp_ne C dJ7_copyOf_59c91_3 (tgt := 14) rfl (fun c3 => ?_) (fun c3 => ?_)
  · have h := h.1 c3
    refine J_iload_n C dJ7_copyOf_59c91_14 rfl rfl ?_
    obtain ⟨n7, hz8, hl9, ha5, hb6, h⟩ := h
    refine J_newI C (n := n7) hz8 wg_106 dJ7_copyOf_59c91_15 hl9 ha5 hb6 (fun q3 hq4 => ?_)
    have h := h q3 hq4
    refine K_astore_n C [vr (some x0), vi x1, vr (some q3)] dJ7_copyOf_59c91_17 rfl (Nat.le_of_ble_eq_true rfl) rfl ?_
    refine J_aload_n C dJ7_copyOf_59c91_18 rfl rfl ?_
    refine J_iconst C dJ7_copyOf_59c91_19 (rg_of (by decide)) ?_
    refine J_aload_n C dJ7_copyOf_59c91_20 rfl rfl ?_
    refine J_iconst C dJ7_copyOf_59c91_21 (rg_of (by decide)) ?_
    refine J_aload_n C dJ7_copyOf_59c91_22 rfl rfl ?_
    obtain ⟨hK10, h⟩ := h
    obtain ⟨hn11, h⟩ := h
    refine J_alen C dJ7_copyOf_59c91_23 hK10 (by decide) (by decide) (rg_len hn11) ?_
    refine J_iload_n C dJ7_copyOf_59c91_24 rfl rfl ?_
    refine K_mmin C M wg_480 dJ7_copyOf_59c91_25 rfl (Nat.le_of_ble_eq_true rfl) ?_
    obtain ⟨hK12, h⟩ := h
    obtain ⟨hc13, h⟩ := h
    refine K_copyI C M wg_483 dJ7_copyOf_59c91_28 hK10 hK12 hc13 rfl (Nat.le_of_ble_eq_true rfl) ?_
    refine J_aload_n C dJ7_copyOf_59c91_31 rfl rfl ?_
    exact J_aret C dJ7_copyOf_59c91_32 M.2.2.1 (Or.inr ⟨_, rfl⟩) ⟨_, rfl, rfl, h⟩
  · have h := h.2 c3
    refine J_aload_n C dJ7_copyOf_59c91_6 rfl rfl ?_
    exact h.elim
theorem c_J7_copyOf_59c91 {l : Launch} {G : Gp} {d : Nat} {x0 : Nat} {x1 : Int} {S : Shp} {F : Fl} {I : Il} {Q : Nat → Shp → Il → Prop} (hl : l.stackTraces = false) (hd : 2 ≤ d) (h : V_J7_copyOf_59c91 x0 x1 S F I Q) : CM l G d yJ7_copyOf_59c91 (.code yJ7_copyOf_59c91 cJ7_copyOf_59c91 3 (some (.array .int))) [vr (some x0), vi x1] S F I (qR fun z S' F' I' => F = F' ∧ Q z S' I') noX :=
  CM_ofM [vr (some x0), vi x1, vl 0] hl (by decide +kernel) (kn1 trivial (kn1 trivial kn0)) (Nat.le_of_ble_eq_true rfl) rfl (fun X hX C M => S_J7_copyOf_59c91 C M hd h)
set_option maxRecDepth 20000 in
set_option maxHeartbeats 4000000 in
theorem S_X5_append_41 {G : Gp} {X : Xt} {d : Nat}  {x0 : Nat} {x1 : Int} {Q : Shp → Fl → Il → Prop} {S : Shp} {F : Fl} {I : Il} (C : CO G RX5 cX5_append 2 X) (M : MX d none "append" X) (hd : 3 ≤ d)  (h : V_X5_append_41 x0 x1 S F I Q) : J G X (QD X G (qV fun S' F' I' => Q S' F' I') noX) 41 [vr (some x0), vi x1] [] S F I := by
  unfold V_X5_append_41 at h
  refine J_aload_n C dX5_append_41 rfl rfl ?_
  obtain ⟨hK1, h⟩ := h
  refine J_getI C fo_6_1 rfl fl_RX5_9 dX5_append_42 hK1 ?_
  refine J_if_lt C dX5_append_45 (tgt := 80) rfl (fun c45 => ?_) (fun c45 => ?_)
  · have h := h.1 c45
    exact J_vret C dX5_append_80 M.2.2.1 ⟨rfl, h⟩
  · have h := h.2 c45
    refine J_aload_n C dX5_append_48 rfl rfl ?_
    refine J_getI C fo_6_1 rfl fl_RX5_9 dX5_append_49 hK1 ?_
    refine J_aload_n C dX5_append_52 rfl rfl ?_
    obtain ⟨r2, hr3, h⟩ := h
    refine J_getR C fo_6_0 rfl fl_RX5_15 dX5_append_53 hK1 hr3 ?_
    obtain ⟨hK4, h⟩ := h
    obtain ⟨hn5, h⟩ := h
    refine J_alen C dX5_append_56 hK4 (by decide) (by decide) (rg_len hn5) ?_
    refine J_icmp_ge C dX5_append_57 (tgt := 80) rfl (fun c57 => ?_) (fun c57 => ?_)
    · have h := h.1 c57
      exact J_vret C dX5_append_80 M.2.2.1 ⟨rfl, h⟩
    · have h := h.2 c57
      refine J_aload_n C dX5_append_60 rfl rfl ?_
      refine J_getR C fo_6_0 rfl fl_RX5_15 dX5_append_61 hK1 hr3 ?_
      refine J_aload_n C dX5_append_64 rfl rfl ?_
      refine J_getI C fo_6_1 rfl fl_RX5_9 dX5_append_65 hK1 ?_
      refine J_iload_n C dX5_append_68 rfl rfl ?_
      obtain ⟨h06, hn7, h⟩ := h
      refine J_iast C dX5_append_69 hK4 h06 hn7 ?_
      refine J_aload_n C dX5_append_70 rfl rfl ?_
      refine J_dup C dX5_append_71 trivial ?_
      refine J_getI C fo_6_1 rfl fl_RX5_9 dX5_append_72 hK1 ?_
      refine J_iconst C dX5_append_75 (rg_of (by decide)) ?_
      refine J_iadd C dX5_append_76 ?_
      refine J_putI C fo_6_1 fp_6 fl_RX5_9 (Or.inl rfl) (Or.inl rfl) dX5_append_77 hK1 ?_
      exact J_vret C dX5_append_80 M.2.2.1 ⟨rfl, h⟩
set_option maxRecDepth 20000 in
set_option maxHeartbeats 4000000 in
theorem S_X5_append {G : Gp} {X : Xt} {d : Nat}  {x0 : Nat} {x1 : Int} {Q : Shp → Fl → Il → Prop} {S : Shp} {F : Fl} {I : Il} (C : CO G RX5 cX5_append 2 X) (M : MX d none "append" X) (hd : 3 ≤ d)  (h : V_X5_append x0 x1 S F I Q) : J G X (QD X G (qV fun S' F' I' => Q S' F' I') noX) 0 [vr (some x0), vi x1] [] S F I := by
  unfold V_X5_append at h
  obtain ⟨d, rfl⟩ : ∃ d9, d = d9 + 1 := ⟨d - 1, by omega⟩
  refine J_aload_n C dX5_append_0 rfl rfl ?_
  obtain ⟨hK1, h⟩ := h
  refine J_getI C fo_6_1 rfl fl_RX5_9 dX5_append_1 hK1 ?_
  refine J_aload_n C dX5_append_4 rfl rfl ?_
  obtain ⟨r2, hr3, h⟩ := h
  refine J_getR C fo_6_0 rfl fl_RX5_15 dX5_append_5 hK1 hr3 ?_
  obtain ⟨hK4, h⟩ := h
  obtain ⟨hn5, h⟩ := h
  refine J_alen C dX5_append_8 hK4 (by decide) (by decide) (rg_len hn5) ?_
  refine J_icmp_lt C dX5_append_9 (tgt := 41) rfl (fun c9 => ?_) (fun c9 => ?_)
  · have h := h.1 c9
    exact S_X5_append_41 C M (by omega)  h
  · have h := h.2 c9
    refine J_aload_n C dX5_append_12 rfl rfl ?_
    refine J_getR C fo_6_0 rfl fl_RX5_15 dX5_append_13 hK1 hr3 ?_
    obtain ⟨hn6, h⟩ := h
    refine J_alen C dX5_append_16 hK4 (by decide) (by decide) (rg_len hn6) ?_
    refine J_sipush C dX5_append_17 (by decide +kernel) (rg_of (by decide)) ?_
    refine J_icmp_ge C dX5_append_20 (tgt := 41) rfl (fun c20 => ?_) (fun c20 => ?_)
    · have h := h.1 c20
      exact S_X5_append_41 C M (by omega)  h
    · have h := h.2 c20
      refine J_aload_n C dX5_append_23 rfl rfl ?_
      refine J_aload_n C dX5_append_24 rfl rfl ?_
      refine J_getR C fo_6_0 rfl fl_RX5_15 dX5_append_25 hK1 hr3 ?_
      refine J_iconst C dX5_append_28 (rg_of (by decide)) ?_
      refine J_aload_n C dX5_append_29 rfl rfl ?_
      refine J_getR C fo_6_0 rfl fl_RX5_15 dX5_append_30 hK1 hr3 ?_
      obtain ⟨hn7, h⟩ := h
      refine J_alen C dX5_append_33 hK4 (by decide) (by decide) (rg_len hn7) ?_
      refine J_imul C dX5_append_34 ?_
      refine K_S C M [vr (some r2), vi (w32 (2 * (sN S r2 : Int)))] [vr (some x0)] mi_J7_copyOf_59c91 wg_633 wg_634 dX5_append_35 rfl rfl (by decide) (Nat.le_of_ble_eq_true rfl) (c_J7_copyOf_59c91 (C.2.2.2.2.2.2.2) (by omega) h) (fun v9 S9 F' I10 hq9 => ?_) K_no rfl
      clear h
      obtain ⟨z8, rfl, rfl, h⟩ := hq9
      obtain ⟨hK11, h⟩ := h
      refine J_putR C fo_6_0 fp_6 rfl wg_97 rfl (Or.inl rfl) dX5_append_38 hK11 ?_
      exact S_X5_append_41 C M (by omega)  h
theorem c_X5_append {l : Launch} {G : Gp} {d : Nat} {x0 : Nat} {x1 : Int} {S : Shp} {F : Fl} {I : Il} {Q : Shp → Fl → Il → Prop} (hl : l.stackTraces = false) (hd : 3 ≤ d) (h : V_X5_append x0 x1 S F I Q) : CM l G d yX5_append (.code yX5_append cX5_append 2 none) [vr (some x0), vi x1] S F I (qV fun S' F' I' => Q S' F' I') noX :=
  CM_ofM [vr (some x0), vi x1] hl (by decide +kernel) (kn1 trivial (kn1 trivial kn0)) (Nat.le_of_ble_eq_true rfl) rfl (fun X hX C M => S_X5_append C M hd h)
set_option maxRecDepth 20000 in
set_option maxHeartbeats 4000000 in
theorem S_X2_write {G : Gp} {X : Xt} {d : Nat}  {x0 : Nat} {x1 : Int} {x2 : Int} {Q : Shp → Fl → Il → Prop} {S : Shp} {F : Fl} {I : Il} (C : CO G RX2 cX2_write 3 X) (M : MX d none "write" X) (hd : 4 ≤ d)  (h : V_X2_write x0 x1 x2 S F I Q) : J G X (QD X G (qV fun S' F' I' => Q S' F' I') noX) 0 [vr (some x0), vi x1, vi x2] [] S F I := by
  unfold V_X2_write at h
  obtain ⟨d, rfl⟩ : ∃ d9, d = d9 + 1 := ⟨d - 1, by omega⟩
  refine J_aload_n C dX2_write_0 rfl rfl ?_
  obtain ⟨hK1, h⟩ := h
  obtain ⟨r2, hr3, h⟩ := h
  refine J_getR C fo_3_4 rfl fl_RX2_23 dX2_write_1 hK1 hr3 ?_
  refine J_bipush C dX2_write_4 (by decide +kernel) (rg_of (by decide)) ?_
  refine J_iload_n C dX2_write_6 rfl rfl ?_
  refine J_imul C dX2_write_7 ?_
  refine J_iload_n C dX2_write_8 rfl rfl ?_
  refine J_iadd C dX2_write_9 ?_
  obtain ⟨hK4, h⟩ := h
  refine K_V C M [vi (w32 ((w32 (100 * x1)) + x2))] [] mi_X5_append wg_629 wg_630 wg_631 ⟨rfl, by decide⟩ dX2_write_10 hK4 rfl rfl (by decide) (Nat.le_of_ble_eq_true rfl) (c_X5_append (C.2.2.2.2.2.2.2) (by omega) h) (fun v9 S5 F6 I7 hq9 => ?_) K_no rfl
  clear h
  obtain ⟨rfl, h⟩ := hq9
  exact J_vret C dX2_write_13 M.2.2.1 ⟨rfl, h⟩
theorem c_X2_write {l : Launch} {G : Gp} {d : Nat} {x0 : Nat} {x1 : Int} {x2 : Int} {S : Shp} {F : Fl} {I : Il} {Q : Shp → Fl → Il → Prop} (hl : l.stackTraces = false) (hd : 4 ≤ d) (h : V_X2_write x0 x1 x2 S F I Q) : CM l G d yX2_write (.code yX2_write cX2_write 3 none) [vr (some x0), vi x1, vi x2] S F I (qV fun S' F' I' => Q S' F' I') noX :=
  CM_ofM [vr (some x0), vi x1, vi x2] hl (by decide +kernel) (kn1 trivial (kn1 trivial (kn1 trivial kn0))) (Nat.le_of_ble_eq_true rfl) rfl (fun X hX C M => S_X2_write C M hd h)
set_option maxRecDepth 20000 in
set_option maxHeartbeats 4000000 in
theorem S_X3_init {G : Gp} {X : Xt} {d : Nat}  {x0 : Nat} {x1 : Int} {Q : Fl → Prop} {S : Shp} {F : Fl} {I : Il} (C : CO G RX3 cX3_init 2 X) (M : MX d none "<init>" X) (hd : 2 ≤ d)  (h : V_X3_init x0 x1 S F I Q) : J G X (QD X G (qV fun S' F' I' => S = S' ∧ I = I' ∧ Q F') noX) 0 [vr (some x0), vi x1] [] S F I := by
  unfold V_X3_init at h
  obtain ⟨d, rfl⟩ : ∃ d9, d = d9 + 1 := ⟨d - 1, by omega⟩
  refine J_aload_n C dX3_init_0 rfl rfl ?_
  refine K_objInit C M wg_550 wg_59 wg_60 rfl dX3_init_1 (Nat.le_of_ble_eq_true rfl) ?_
  refine J_aload_n C dX3_init_4 rfl rfl ?_
  refine J_iconst C dX3_init_5 (rg_of (by decide)) ?_
  obtain ⟨hK1, h⟩ := h
  refine J_putI C fo_4_1 fp_4 fl_RX3_9 (Or.inl rfl) (Or.inl rfl) dX3_init_6 hK1 ?_
  refine J_aload_n C dX3_init_9 rfl rfl ?_
  refine J_iconst C dX3_init_10 (rg_of (by decide)) ?_
  refine J_putI C fo_4_2 fp_4 fl_RX3_15 (Or.inl rfl) (Or.inl rfl) dX3_init_11 hK1 ?_
  refine J_aload_n C dX3_init_14 rfl rfl ?_
  refine J_iconst C dX3_init_15 (rg_of (by decide)) ?_
  refine J_putI C fo_4_3 fp_4 fl_RX3_18 (Or.inl rfl) (Or.inl rfl) dX3_init_16 hK1 ?_
  refine J_aload_n C dX3_init_19 rfl rfl ?_
  refine J_iconst C dX3_init_20 (rg_of (by decide)) ?_
  refine J_putI C fo_4_4 fp_4 fl_RX3_21 (Or.inl rfl) (Or.inl rfl) dX3_init_21 hK1 ?_
  refine J_aload_n C dX3_init_24 rfl rfl ?_
  refine J_iload_n C dX3_init_25 rfl rfl ?_
  refine J_putI C fo_4_0 fp_4 fl_RX3_24 (Or.inl rfl) (Or.inl rfl) dX3_init_26 hK1 ?_
  exact J_vret C dX3_init_29 M.2.2.1 ⟨rfl, rfl, rfl, h⟩
theorem c_X3_init {l : Launch} {G : Gp} {d : Nat} {x0 : Nat} {x1 : Int} {S : Shp} {F : Fl} {I : Il} {Q : Fl → Prop} (hl : l.stackTraces = false) (hd : 2 ≤ d) (h : V_X3_init x0 x1 S F I Q) : CM l G d yX3_init (.code yX3_init cX3_init 2 none) [vr (some x0), vi x1] S F I (qV fun S' F' I' => S = S' ∧ I = I' ∧ Q F') noX :=
  CM_ofM [vr (some x0), vi x1] hl (by decide +kernel) (kn1 trivial (kn1 trivial kn0)) (Nat.le_of_ble_eq_true rfl) rfl (fun X hX C M => S_X3_init C M hd h)
set_option maxRecDepth 20000 in
set_option maxHeartbeats 4000000 in
theorem S_X3_isRestingAt {G : Gp} {X : Xt} {d : Nat}  {x0 : Nat} {x1 : Int} {Q : Int → Prop} {S : Shp} {F : Fl} {I : Il} (C : CO G RX3 cX3_isRestingAt 2 X) (M : MX d (some .boolean) "isRestingAt" X) (hd : 1 ≤ d)  (h : V_X3_isRestingAt x0 x1 S F I Q) : J G X (QD X G (qI fun z S' F' I' => S = S' ∧ F = F' ∧ I = I' ∧ Q z) noX) 0 [vr (some x0), vi x1] [] S F I := by
  unfold V_X3_isRestingAt at h
  refine J_iload_n C dX3_isRestingAt_0 rfl rfl ?_
  refine J_aload_n C dX3_isRestingAt_1 rfl rfl ?_
  obtain ⟨hK1, h⟩ := h
  refine J_getI C fo_4_4 rfl fl_RX3_21 dX3_isRestingAt_2 hK1 ?_
  refine J_icmp_ge C dX3_isRestingAt_5 (tgt := 12) rfl (fun c5 => ?_) (fun c5 => ?_)
  · have h := h.1 c5
    refine J_iconst C dX3_isRestingAt_12 (rg_of (by decide)) ?_
    exact J_zret C dX3_isRestingAt_13 M.2.2.1 (by decide) ⟨_, rfl, rfl, rfl, rfl, h⟩
  · have h := h.2 c5
    refine J_iconst C dX3_isRestingAt_8 (rg_of (by decide)) ?_
    refine J_goto C dX3_isRestingAt_9 (tgt := 13) rfl ?_
    exact J_zret C dX3_isRestingAt_13 M.2.2.1 (by decide) ⟨_, rfl, rfl, rfl, rfl, h⟩
theorem c_X3_isRestingAt {l : Launch} {G : Gp} {d : Nat} {x0 : Nat} {x1 : Int} {S : Shp} {F : Fl} {I : Il} {Q : Int → Prop} (hl : l.stackTraces = false) (hd : 1 ≤ d) (h : V_X3_isRestingAt x0 x1 S F I Q) : CM l G d yX3_isRestingAt (.code yX3_isRestingAt cX3_isRestingAt 2 (some .boolean)) [vr (some x0), vi x1] S F I (qI fun z S' F' I' => S = S' ∧ F = F' ∧ I = I' ∧ Q z) noX :=
  CM_ofM [vr (some x0), vi x1] hl (by decide +kernel) (kn1 trivial (kn1 trivial kn0)) (Nat.le_of_ble_eq_true rfl) rfl (fun X hX C M => S_X3_isRestingAt C M hd h)
set_option maxRecDepth 20000 in
set_option maxHeartbeats 4000000 in
theorem S_X4_init {G : Gp} {X : Xt} {d : Nat}  {x0 : Nat} {x1 : Int} {x2 : Int} {Q : Fl → Prop} {S : Shp} {F : Fl} {I : Il} (C : CO G RX4 cX4_init 3 X) (M : MX d none "<init>" X) (hd : 2 ≤ d)  (h : V_X4_init x0 x1 x2 S F I Q) : J G X (QD X G (qV fun S' F' I' => S = S' ∧ I = I' ∧ Q F') noX) 0 [vr (some x0), vi x1, vi x2] [] S F I := by
  unfold V_X4_init at h
  obtain ⟨d, rfl⟩ : ∃ d9, d = d9 + 1 := ⟨d - 1, by omega⟩
  refine J_aload_n C dX4_init_0 rfl rfl ?_
  refine K_objInit C M wg_527 wg_59 wg_60 rfl dX4_init_1 (Nat.le_of_ble_eq_true rfl) ?_
  refine J_aload_n C dX4_init_4 rfl rfl ?_
  refine J_iconst C dX4_init_5 (rg_of (by decide)) ?_
  obtain ⟨hK1, h⟩ := h
  refine J_putI C fo_5_2 fp_5 fl_RX4_9 (Or.inl rfl) (Or.inl rfl) dX4_init_6 hK1 ?_
  refine J_aload_n C dX4_init_9 rfl rfl ?_
  refine J_iload_n C dX4_init_10 rfl rfl ?_
  refine J_putI C fo_5_1 fp_5 fl_RX4_15 (Or.inl rfl) (Or.inl rfl) dX4_init_11 hK1 ?_
  refine J_aload_n C dX4_init_14 rfl rfl ?_
  refine J_iload_n C dX4_init_15 rfl rfl ?_
  refine J_putI C fo_5_0 fp_5 fl_RX4_18 (Or.inr ⟨M.2.2.2.1, rfl⟩) (Or.inl rfl) dX4_init_16 hK1 ?_
  exact J_vret C dX4_init_19 M.2.2.1 ⟨rfl, rfl, rfl, h⟩
theorem c_X4_init {l : Launch} {G : Gp} {d : Nat} {x0 : Nat} {x1 : Int} {x2 : Int} {S : Shp} {F : Fl} {I : Il} {Q : Fl → Prop} (hl : l.stackTraces = false) (hd : 2 ≤ d) (h : V_X4_init x0 x1 x2 S F I Q) : CM l G d yX4_init (.code yX4_init cX4_init 3 none) [vr (some x0), vi x1, vi x2] S F I (qV fun S' F' I' => S = S' ∧ I = I' ∧ Q F') noX :=
  CM_ofM [vr (some x0), vi x1, vi x2] hl (by decide +kernel) (kn1 trivial (kn1 trivial (kn1 trivial kn0))) (Nat.le_of_ble_eq_true rfl) rfl (fun X hX C M => S_X4_init C M hd h)
set_option maxRecDepth 20000 in
set_option maxHeartbeats 4000000 in
theorem S_X5_at {G : Gp} {X : Xt} {d : Nat}  {x0 : Nat} {x1 : Int} {Q : Int → Prop} {S : Shp} {F : Fl} {I : Il} (C : CO G RX5 cX5_at 2 X) (M : MX d (some .int) "at" X) (hd : 1 ≤ d)  (h : V_X5_at x0 x1 S F I Q) : J G X (QD X G (qI fun z S' F' I' => S = S' ∧ F = F' ∧ I = I' ∧ Q z) noX) 0 [vr (some x0), vi x1] [] S F I := by
  unfold V_X5_at at h
  refine J_iload_n C dX5_at_0 rfl rfl ?_
  refine J_if_lt C dX5_at_1 (tgt := 30) rfl (fun c1 => ?_) (fun c1 => ?_)
  · have h := h.1 c1
    refine J_iconst C dX5_at_30 (rg_of (by decide)) ?_
    exact J_iret C dX5_at_31 M.2.2.1 ⟨_, rfl, rfl, rfl, rfl, h⟩
  · have h := h.2 c1
    refine J_iload_n C dX5_at_4 rfl rfl ?_
    refine J_aload_n C dX5_at_5 rfl rfl ?_
    obtain ⟨hK1, h⟩ := h
    refine J_getI C fo_6_1 rfl fl_RX5_9 dX5_at_6 hK1 ?_
    refine J_icmp_ge C dX5_at_9 (tgt := 30) rfl (fun c9 => ?_) (fun c9 => ?_)
    · have h := h.1 c9
      refine J_iconst C dX5_at_30 (rg_of (by decide)) ?_
      exact J_iret C dX5_at_31 M.2.2.1 ⟨_, rfl, rfl, rfl, rfl, h⟩
    · have h := h.2 c9
      refine J_iload_n C dX5_at_12 rfl rfl ?_
      refine J_aload_n C dX5_at_13 rfl rfl ?_
      obtain ⟨r2, hr3, h⟩ := h
      refine J_getR C fo_6_0 rfl fl_RX5_15 dX5_at_14 hK1 hr3 ?_
      obtain ⟨hK4, h⟩ := h
      obtain ⟨hn5, h⟩ := h
      refine J_alen C dX5_at_17 hK4 (by decide) (by decide) (rg_len hn5) ?_
      refine J_icmp_ge C dX5_at_18 (tgt := 30) rfl (fun c18 => ?_) (fun c18 => ?_)
      · have h := h.1 c18
        refine J_iconst C dX5_at_30 (rg_of (by decide)) ?_
        exact J_iret C dX5_at_31 M.2.2.1 ⟨_, rfl, rfl, rfl, rfl, h⟩
      · have h := h.2 c18
        refine J_aload_n C dX5_at_21 rfl rfl ?_
        refine J_getR C fo_6_0 rfl fl_RX5_15 dX5_at_22 hK1 hr3 ?_
        refine J_iload_n C dX5_at_25 rfl rfl ?_
        obtain ⟨h06, hn7, h⟩ := h
        refine J_iald C dX5_at_26 hK4 h06 hn7 ?_
        refine J_goto C dX5_at_27 (tgt := 31) rfl ?_
        exact J_iret C dX5_at_31 M.2.2.1 ⟨_, rfl, rfl, rfl, rfl, h⟩
theorem c_X5_at {l : Launch} {G : Gp} {d : Nat} {x0 : Nat} {x1 : Int} {S : Shp} {F : Fl} {I : Il} {Q : Int → Prop} (hl : l.stackTraces = false) (hd : 1 ≤ d) (h : V_X5_at x0 x1 S F I Q) : CM l G d yX5_at (.code yX5_at cX5_at 2 (some .int)) [vr (some x0), vi x1] S F I (qI fun z S' F' I' => S = S' ∧ F = F' ∧ I = I' ∧ Q z) noX :=
  CM_ofM [vr (some x0), vi x1] hl (by decide +kernel) (kn1 trivial (kn1 trivial kn0)) (Nat.le_of_ble_eq_true rfl) rfl (fun X hX C M => S_X5_at C M hd h)
set_option maxRecDepth 20000 in
set_option maxHeartbeats 4000000 in
theorem S_X5_empty {G : Gp} {X : Xt} {d : Nat}  {x0 : Nat} {Q : Fl → Prop} {S : Shp} {F : Fl} {I : Il} (C : CO G RX5 cX5_empty 1 X) (M : MX d none "empty" X) (hd : 1 ≤ d)  (h : V_X5_empty x0 S F I Q) : J G X (QD X G (qV fun S' F' I' => S = S' ∧ I = I' ∧ Q F') noX) 0 [vr (some x0)] [] S F I := by
  unfold V_X5_empty at h
  refine J_aload_n C dX5_empty_0 rfl rfl ?_
  refine J_iconst C dX5_empty_1 (rg_of (by decide)) ?_
  obtain ⟨hK1, h⟩ := h
  refine J_putI C fo_6_1 fp_6 fl_RX5_9 (Or.inl rfl) (Or.inl rfl) dX5_empty_2 hK1 ?_
  exact J_vret C dX5_empty_5 M.2.2.1 ⟨rfl, rfl, rfl, h⟩
theorem c_X5_empty {l : Launch} {G : Gp} {d : Nat} {x0 : Nat} {S : Shp} {F : Fl} {I : Il} {Q : Fl → Prop} (hl : l.stackTraces = false) (hd : 1 ≤ d) (h : V_X5_empty x0 S F I Q) : CM l G d yX5_empty (.code yX5_empty cX5_empty 1 none) [vr (some x0)] S F I (qV fun S' F' I' => S = S' ∧ I = I' ∧ Q F') noX :=
  CM_ofM [vr (some x0)] hl (by decide +kernel) (kn1 trivial kn0) (Nat.le_of_ble_eq_true rfl) rfl (fun X hX C M => S_X5_empty C M hd h)
set_option maxRecDepth 20000 in
set_option maxHeartbeats 4000000 in
theorem S_X5_copy_6 {G : Gp} {X : Xt} {d : Nat}   {Q : Shp → Fl → Il → Prop} (C : CO G RX5 cX5_copy 3 X) (M : MX d none "copy" X) (hd : 4 ≤ d) (n9 : Nat)  : ∀ (x0 : Nat) (x1 : Nat) (x2 : Int) (S : Shp) (F : Fl) (I : Il), V_X5_copy_6 n9 x0 x1 x2 S F I Q → J G X (QD X G (qV fun S' F' I' => Q S' F' I') noX) 6 [vr (some x0), vr (some x1), vi x2] [] S F I := by
  obtain ⟨d, rfl⟩ : ∃ d9, d = d9 + 1 := ⟨d - 1, by omega⟩
  induction n9 with
  | zero => intro x0 x1 x2 S F I h; exact h.elim
  | succ n ih =>
    intro x0 x1 x2 S F I h
    unfold V_X5_copy_6 at h
    refine J_iload_n C dX5_copy_6 rfl rfl ?_
    refine J_aload_n C dX5_copy_7 rfl rfl ?_
    obtain ⟨hK1, h⟩ := h
    refine J_getI C fo_6_1 rfl fl_RX5_9 dX5_copy_8 hK1 ?_
    refine J_icmp_ge C dX5_copy_11 (tgt := 29) rfl (fun c11 => ?_) (fun c11 => ?_)
    · have h := h.1 c11
      exact J_vret C dX5_copy_29 M.2.2.1 ⟨rfl, h⟩
    · have h := h.2 c11
      refine J_aload_n C dX5_copy_14 rfl rfl ?_
      refine J_aload_n C dX5_copy_15 rfl rfl ?_
      refine J_iload_n C dX5_copy_16 rfl rfl ?_
      refine K_V C M [vi x2] [vr (some x0)] mi_X5_at wg_809 wg_682 wg_683 ⟨rfl, by decide⟩ dX5_copy_17 hK1 rfl rfl (by decide) (Nat.le_of_ble_eq_true rfl) (c_X5_at (C.2.2.2.2.2.2.2) (by omega) h) (fun v9 S' F' I' hq9 => ?_) K_no rfl
      clear h
      obtain ⟨z2, rfl, rfl, rfl, rfl, h⟩ := hq9
      obtain ⟨hK3, h⟩ := h
      refine K_V C M [vi z2] [] mi_X5_append wg_810 wg_630 wg_631 ⟨rfl, by decide⟩ dX5_copy_20 hK3 rfl rfl (by decide) (Nat.le_of_ble_eq_true rfl) (c_X5_append (C.2.2.2.2.2.2.2) (by omega) h) (fun v9 S4 F5 I6 hq9 => ?_) K_no rfl
      clear h
      obtain ⟨rfl, h⟩ := hq9
      refine K_iinc C [vr (some x0), vr (some x1), vi (w32 (x2 + 1))] dX5_copy_23 rfl rfl ?_
      refine J_goto C dX5_copy_26 (tgt := 6) rfl ?_
      exact ih _ _ _ _ _ _ h
set_option maxRecDepth 20000 in
set_option maxHeartbeats 4000000 in
theorem S_X5_copy {G : Gp} {X : Xt} {d : Nat}  {x0 : Nat} {x1 : Nat} {Q : Shp → Fl → Il → Prop} {S : Shp} {F : Fl} {I : Il} (C : CO G RX5 cX5_copy 3 X) (M : MX d none "copy" X) (hd : 4 ≤ d)  (h : V_X5_copy x0 x1 S F I Q) : J G X (QD X G (qV fun S' F' I' => Q S' F' I') noX) 0 [vr (some x0), vr (some x1), vl 0] [] S F I := by
  unfold V_X5_copy at h
  obtain ⟨d, rfl⟩ : ∃ d9, d = d9 + 1 := ⟨d - 1, by omega⟩
  refine J_aload_n C dX5_copy_0 rfl rfl ?_
  obtain ⟨hK1, h⟩ := h
  refine K_V C M [] [] mi_X5_empty wg_808 wg_791 wg_792 ⟨rfl, by decide⟩ dX5_copy_1 hK1 rfl rfl (by decide) (Nat.le_of_ble_eq_true rfl) (c_X5_empty (C.2.2.2.2.2.2.2) (by omega) h) (fun v9 S' F2 I' hq9 => ?_) K_no rfl
  clear h
  obtain ⟨rfl, rfl, rfl, h⟩ := hq9
  refine J_iconst C dX5_copy_4 (rg_of (by decide)) ?_
  refine K_istore_n C [vr (some x0), vr (some x1), vi 0] dX5_copy_5 rfl (Nat.le_of_ble_eq_true rfl) rfl ?_
  obtain ⟨n9, h⟩ := h
  exact S_X5_copy_6 C M (by omega) n9  _ _ _ _ _ _ h
theorem c_X5_copy {l : Launch} {G : Gp} {d : Nat} {x0 : Nat} {x1 : Nat} {S : Shp} {F : Fl} {I : Il} {Q : Shp → Fl → Il → Prop} (hl : l.stackTraces = false) (hd : 4 ≤ d) (h : V_X5_copy x0 x1 S F I Q) : CM l G d yX5_copy (.code yX5_copy cX5_copy 3 none) [vr (some x0), vr (some x1)] S F I (qV fun S' F' I' => Q S' F' I') noX :=
  CM_ofM [vr (some x0), vr (some x1), vl 0] hl (by decide +kernel) (kn1 trivial (kn1 trivial kn0)) (Nat.le_of_ble_eq_true rfl) rfl (fun X hX C M => S_X5_copy C M hd h)
set_option maxRecDepth 20000 in
set_option maxHeartbeats 4000000 in
theorem S_X5_drop_76 {G : Gp} {X : Xt} {d : Nat}  {x0 : Nat} {x2 : Int} {Q : Fl → Il → Prop} {S : Shp} {F : Fl} {I : Il} (C : CO G RX5 cX5_drop 4 X) (M : MX d none "drop" X) (hd : 1 ≤ d)  (h : V_X5_drop_76 x0 x2 S F I Q) : J G X (QD X G (qV fun S' F' I' => S = S' ∧ Q F' I') noX) 76 [vr (some x0), vl 0, vi x2, vl 0] [] S F I := by
  unfold V_X5_drop_76 at h
  refine J_iload_n C dX5_drop_76 rfl rfl ?_
  refine J_if_eq C dX5_drop_77 (tgt := 90) rfl (fun c77 => ?_) (fun c77 => ?_)
  · have h := h.1 c77
    exact J_vret C dX5_drop_90 M.2.2.1 ⟨rfl, rfl, h⟩
  · have h := h.2 c77
    refine J_aload_n C dX5_drop_80 rfl rfl ?_
    refine J_dup C dX5_drop_81 trivial ?_
    obtain ⟨hK1, h⟩ := h
    refine J_getI C fo_6_1 rfl fl_RX5_9 dX5_drop_82 hK1 ?_
    refine J_iconst C dX5_drop_85 (rg_of (by decide)) ?_
    refine J_isub C dX5_drop_86 ?_
    refine J_putI C fo_6_1 fp_6 fl_RX5_9 (Or.inl rfl) (Or.inl rfl) dX5_drop_87 hK1 ?_
    exact J_vret C dX5_drop_90 M.2.2.1 ⟨rfl, rfl, h⟩
set_option maxRecDepth 20000 in
set_option maxHeartbeats 4000000 in
theorem S_X5_drop_70 {G : Gp} {X : Xt} {d : Nat} {k4 : Nat → Int → Int → Int → Fl → Il → Prop} {x0 : Nat} {x1 : Int} {x2 : Int} {x3 : Int} {Q : Fl → Il → Prop} {S : Shp} {F : Fl} {I : Il} (C : CO G RX5 cX5_drop 4 X) (M : MX d none "drop" X) (hd : 1 ≤ d) (hk4 : ∀ (x0 : Nat) (x1 : Int) (x2 : Int) (x3 : Int) (F' : Fl) (I' : Il), k4 x0 x1 x2 x3 F' I' → J G X (QD X G (qV fun S' F' I' => S = S' ∧ Q F' I') noX) 4 [vr (some x0), vi x1, vi x2, vi x3] [] S F' I') (h : V_X5_drop_70 k4 x0 x1 x2 x3 S F I Q) : J G X (QD X G (qV fun S' F' I' => S = S' ∧ Q F' I') noX) 70 [vr (some x0), vi x1, vi x2, vi x3] [] S F I := by
  unfold V_X5_drop_70 at h
  refine K_iinc C [vr (some x0), vi x1, vi x2, vi (w32 (x3 + 1))] dX5_drop_70 rfl rfl ?_
  refine J_goto C dX5_drop_73 (tgt := 4) rfl ?_
  exact hk4 x0 x1 x2 (w32 (x3 + 1)) F I h
set_option maxRecDepth 20000 in
set_option maxHeartbeats 4000000 in
theorem S_X5_drop_40 {G : Gp} {X : Xt} {d : Nat} {k4 : Nat → Int → Int → Int → Fl → Il → Prop} {x0 : Nat} {x1 : Int} {x3 : Int} {s0 : Int} {Q : Fl → Il → Prop} {S : Shp} {F : Fl} {I : Il} (C : CO G RX5 cX5_drop 4 X) (M : MX d none "drop" X) (hd : 1 ≤ d) (hk4 : ∀ (x0 : Nat) (x1 : Int) (x2 : Int) (x3 : Int) (F' : Fl) (I' : Il), k4 x0 x1 x2 x3 F' I' → J G X (QD X G (qV fun S' F' I' => S = S' ∧ Q F' I') noX) 4 [vr (some x0), vi x1, vi x2, vi x3] [] S F' I') (h : V_X5_drop_40 k4 x0 x1 x3 s0 S F I Q) : J G X (QD X G (qV fun S' F' I' => S = S' ∧ Q F' I') noX) 40 [vr (some x0), vi x1, vl 0, vi x3] [vi s0] S F I := by
  unfold V_X5_drop_40 at h
  refine K_istore_n C [vr (some x0), vi x1, vi s0, vi x3] dX5_drop_40 rfl (Nat.le_of_ble_eq_true rfl) rfl ?_
  refine J_iload_n C dX5_drop_41 rfl rfl ?_
  refine J_if_eq C dX5_drop_42 (tgt := 70) rfl (fun c42 => ?_) (fun c42 => ?_)
  · have h := h.1 c42
    exact S_X5_drop_70 C M (by omega) hk4 h
  · have h := h.2 c42
    refine J_iload_n C dX5_drop_45 rfl rfl ?_
    refine J_iconst C dX5_drop_46 (rg_of (by decide)) ?_
    refine J_iadd C dX5_drop_47 ?_
    refine J_aload_n C dX5_drop_48 rfl rfl ?_
    obtain ⟨hK1, h⟩ := h
    obtain ⟨r2, hr3, h⟩ := h
    refine J_getR C fo_6_0 rfl fl_RX5_15 dX5_drop_49 hK1 hr3 ?_
    obtain ⟨hK4, h⟩ := h
    obtain ⟨hn5, h⟩ := h
    refine J_alen C dX5_drop_52 hK4 (by decide) (by decide) (rg_len hn5) ?_
    refine J_icmp_ge C dX5_drop_53 (tgt := 70) rfl (fun c53 => ?_) (fun c53 => ?_)
    · have h := h.1 c53
      exact S_X5_drop_70 C M (by omega) hk4 h
    · have h := h.2 c53
      refine J_aload_n C dX5_drop_56 rfl rfl ?_
      refine J_getR C fo_6_0 rfl fl_RX5_15 dX5_drop_57 hK1 hr3 ?_
      refine J_iload_n C dX5_drop_60 rfl rfl ?_
      refine J_aload_n C dX5_drop_61 rfl rfl ?_
      refine J_getR C fo_6_0 rfl fl_RX5_15 dX5_drop_62 hK1 hr3 ?_
      refine J_iload_n C dX5_drop_65 rfl rfl ?_
      refine J_iconst C dX5_drop_66 (rg_of (by decide)) ?_
      refine J_iadd C dX5_drop_67 ?_
      obtain ⟨h06, hn7, h⟩ := h
      refine J_iald C dX5_drop_68 hK4 h06 hn7 ?_
      obtain ⟨h08, hn9, h⟩ := h
      refine J_iast C dX5_drop_69 hK4 h08 hn9 ?_
      exact S_X5_drop_70 C M (by omega) hk4 h
set_option maxRecDepth 20000 in
set_option maxHeartbeats 4000000 in
theorem S_X5_drop_35 {G : Gp} {X : Xt} {d : Nat} {k4 : Nat → Int → Int → Int → Fl → Il → Prop} {x0 : Nat} {x1 : Int} {x3 : Int} {Q : Fl → Il → Prop} {S : Shp} {F : Fl} {I : Il} (C : CO G RX5 cX5_drop 4 X) (M : MX d none "drop" X) (hd : 1 ≤ d) (hk4 : ∀ (x0 : Nat) (x1 : Int) (x2 : Int) (x3 : Int) (F' : Fl) (I' : Il), k4 x0 x1 x2 x3 F' I' → J G X (QD X G (qV fun S' F' I' => S = S' ∧ Q F' I') noX) 4 [vr (some x0), vi x1, vi x2, vi x3] [] S F' I') (h : V_X5_drop_35 k4 x0 x1 x3 S F I Q) : J G X (QD X G (qV fun S' F' I' => S = S' ∧ Q F' I') noX) 35 [vr (some x0), vi x1, vl 0, vi x3] [] S F I := by
  unfold V_X5_drop_35 at h
  refine J_iconst C dX5_drop_35 (rg_of (by decide)) ?_
  refine J_goto C dX5_drop_36 (tgt := 40) rfl ?_
  exact S_X5_drop_40 C M (by omega) hk4 h
set_option maxRecDepth 20000 in
set_option maxHeartbeats 4000000 in
theorem S_X5_drop_4 {G : Gp} {X : Xt} {d : Nat}  {S : Shp} {Q : Fl → Il → Prop} (C : CO G RX5 cX5_drop 4 X) (M : MX d none "drop" X) (hd : 1 ≤ d) (n9 : Nat)  : ∀ (x0 : Nat) (x1 : Int) (x2 : Int) (x3 : Int) (F : Fl) (I : Il), V_X5_drop_4 n9 x0 x1 x2 x3 S F I Q → J G X (QD X G (qV fun S' F' I' => S = S' ∧ Q F' I') noX) 4 [vr (some x0), vi x1, vi x2, vi x3] [] S F I := by
  induction n9 with
  | zero => intro x0 x1 x2 x3 F I h; exact h.elim
  | succ n ih =>
    intro x0 x1 x2 x3 F I h
    unfold V_X5_drop_4 at h
    refine J_iload_n C dX5_drop_4 rfl rfl ?_
    refine J_aload_n C dX5_drop_5 rfl rfl ?_
    obtain ⟨hK1, h⟩ := h
    refine J_getI C fo_6_1 rfl fl_RX5_9 dX5_drop_6 hK1 ?_
    refine J_icmp_ge C dX5_drop_9 (tgt := 76) rfl (fun c9 => ?_) (fun c9 => ?_)
    · have h := h.1 c9
      refine J_less [vr (some x0), vl 0, vi x2, vl 0] (by unfold lessL; simp [lessL]) ?_
      exact S_X5_drop_76 C M (by omega)  h
    · have h := h.2 c9
      refine J_iload_n C dX5_drop_12 rfl rfl ?_
      refine J_aload_n C dX5_drop_13 rfl rfl ?_
      obtain ⟨r2, hr3, h⟩ := h
      refine J_getR C fo_6_0 rfl fl_RX5_15 dX5_drop_14 hK1 hr3 ?_
      obtain ⟨hK4, h⟩ := h
      obtain ⟨hn5, h⟩ := h
      refine J_alen C dX5_drop_17 hK4 (by decide) (by decide) (rg_len hn5) ?_
      refine J_icmp_ge C dX5_drop_18 (tgt := 76) rfl (fun c18 => ?_) (fun c18 => ?_)
      · have h := h.1 c18
        refine J_less [vr (some x0), vl 0, vi x2, vl 0] (by unfold lessL; simp [lessL]) ?_
        exact S_X5_drop_76 C M (by omega)  h
      · have h := h.2 c18
        refine J_iload_n C dX5_drop_21 rfl rfl ?_
        refine J_if_ne C dX5_drop_22 (tgt := 35) rfl (fun c22 => ?_) (fun c22 => ?_)
        · have h := h.1 c22
          refine J_less [vr (some x0), vi x1, vl 0, vi x3] (by unfold lessL; simp [lessL]) ?_
          exact S_X5_drop_35 C M (by omega) (fun y0 y1 y2 y3 F' I' h9 => ih y0 y1 y2 y3 F' I' h9) h
        · have h := h.2 c22
          refine J_aload_n C dX5_drop_25 rfl rfl ?_
          refine J_getR C fo_6_0 rfl fl_RX5_15 dX5_drop_26 hK1 hr3 ?_
          refine J_iload_n C dX5_drop_29 rfl rfl ?_
          obtain ⟨h06, hn7, h⟩ := h
          refine J_iald C dX5_drop_30 hK4 h06 hn7 ?_
          refine J_iload_n C dX5_drop_31 rfl rfl ?_
          refine J_icmp_ne C dX5_drop_32 (tgt := 39) rfl (fun c32 => ?_) (fun c32 => ?_)
          · have h := h.1 c32
            refine J_iconst C dX5_drop_39 (rg_of (by decide)) ?_
            refine J_less [vr (some x0), vi x1, vl 0, vi x3] (by unfold lessL; simp [lessL]) ?_
            exact S_X5_drop_40 C M (by omega) (fun y0 y1 y2 y3 F' I' h9 => ih y0 y1 y2 y3 F' I' h9) h
          · have h := h.2 c32
            refine J_less [vr (some x0), vi x1, vl 0, vi x3] (by unfold lessL; simp [lessL]) ?_
            exact S_X5_drop_35 C M (by omega) (fun y0 y1 y2 y3 F' I' h9 => ih y0 y1 y2 y3 F' I' h9) h
set_option maxRecDepth 20000 in
set_option maxHeartbeats 4000000 in
theorem S_X5_drop {G : Gp} {X : Xt} {d : Nat}  {x0 : Nat} {x1 : Int} {Q : Fl → Il → Prop} {S : Shp} {F : Fl} {I : Il} (C : CO G RX5 cX5_drop 4 X) (M : MX d none "drop" X) (hd : 1 ≤ d)  (h : V_X5_drop x0 x1 S F I Q) : J G X (QD X G (qV fun S' F' I' => S = S' ∧ Q F' I') noX) 0 [vr (some x0), vi x1, vl 0, vl 0] [] S F I := by
  unfold V_X5_drop at h
  refine J_iconst C dX5_drop_0 (rg_of (by decide)) ?_
  refine K_istore_n C [vr (some x0), vi x1, vi 0, vl 0] dX5_drop_1 rfl (Nat.le_of_ble_eq_true rfl) rfl ?_
  refine J_iconst C dX5_drop_2 (rg_of (by decide)) ?_
  refine K_istore_n C [vr (some x0), vi x1, vi 0, vi 0] dX5_drop_3 rfl (Nat.le_of_ble_eq_true rfl) rfl ?_
  obtain ⟨n9, h⟩ := h
  exact S_X5_drop_4 C M (by omega) n9  _ _ _ _ _ _ h
theorem c_X5_drop {l : Launch} {G : Gp} {d : Nat} {x0 : Nat} {x1 : Int} {S : Shp} {F : Fl} {I : Il} {Q : Fl → Il → Prop} (hl : l.stackTraces = false) (hd : 1 ≤ d) (h : V_X5_drop x0 x1 S F I Q) : CM l G d yX5_drop (.code yX5_drop cX5_drop 4 none) [vr (some x0), vi x1] S F I (qV fun S' F' I' => S = S' ∧ Q F' I') noX :=
  CM_ofM [vr (some x0), vi x1, vl 0, vl 0] hl (by decide +kernel) (kn1 trivial (kn1 trivial kn0)) (Nat.le_of_ble_eq_true rfl) rfl (fun X hX C M => S_X5_drop C M hd h)
set_option maxRecDepth 20000 in
set_option maxHeartbeats 4000000 in
theorem S_X6_init {G : Gp} {X : Xt} {d : Nat}  {x0 : Nat} {Q : Shp → Fl → Il → Prop} {S : Shp} {F : Fl} {I : Il} (C : CO G RX6 cX6_init 1 X) (M : MX d none "<init>" X) (hd : 3 ≤ d)  (h : V_X6_init x0 S F I Q) : J G X (QD X G (qV fun S' F' I' => Q S' F' I') noX) 0 [vr (some x0)] [] S F I := by
  unfold V_X6_init at h
  obtain ⟨d, rfl⟩ : ∃ d9, d = d9 + 1 := ⟨d - 1, by omega⟩
  refine J_aload_n C dX6_init_0 rfl rfl ?_
  refine K_objInit C M wg_111 wg_59 wg_60 rfl dX6_init_1 (Nat.le_of_ble_eq_true rfl) ?_
  refine J_aload_n C dX6_init_4 rfl rfl ?_
  refine J_iconst C dX6_init_5 (rg_of (by decide)) ?_
  obtain ⟨hK1, h⟩ := h
  refine J_putI C fo_7_0 fp_7 fl_RX6_7 (Or.inl rfl) (Or.inl rfl) dX6_init_6 hK1 ?_
  refine J_aload_n C dX6_init_9 rfl rfl ?_
  obtain ⟨ha4, hb5, h⟩ := h
  refine J_new C fn_6 fp_6.1 fd_6 wg_112 wg_92 wg_33 dX6_init_10 ha4 hb5 (fun q2 hq3 => ?_)
  have h := h q2 hq3
  refine J_dup C dX6_init_13 trivial ?_
  refine J_iconst C dX6_init_14 (rg_of (by decide)) ?_
  refine K_I C M [vi 4] [vr (some q2), vr (some x0)] mi_X5_init rfl wg_113 wg_94 dX6_init_15 rfl rfl (by decide) (Nat.le_of_ble_eq_true rfl) (c_X5_init (C.2.2.2.2.2.2.2) (by omega) h) (fun v9 S6 F7 I8 hq9 => ?_) K_no rfl
  clear h
  obtain ⟨rfl, h⟩ := hq9
  obtain ⟨hK9, h⟩ := h
  refine J_putR C fo_7_1 fp_7 rfl wg_116 rfl (Or.inr ⟨M.2.2.2.1, rfl⟩) dX6_init_18 hK9 ?_
  exact J_vret C dX6_init_21 M.2.2.1 ⟨rfl, h⟩
theorem c_X6_init {l : Launch} {G : Gp} {d : Nat} {x0 : Nat} {S : Shp} {F : Fl} {I : Il} {Q : Shp → Fl → Il → Prop} (hl : l.stackTraces = false) (hd : 3 ≤ d) (h : V_X6_init x0 S F I Q) : CM l G d yX6_init (.code yX6_init cX6_init 1 none) [vr (some x0)] S F I (qV fun S' F' I' => Q S' F' I') noX :=
  CM_ofM [vr (some x0)] hl (by decide +kernel) (kn1 trivial kn0) (Nat.le_of_ble_eq_true rfl) rfl (fun X hX C M => S_X6_init C M hd h)
set_option maxRecDepth 20000 in
set_option maxHeartbeats 4000000 in
theorem S_X7_holds_47 {G : Gp} {X : Xt} {d : Nat}  {x0 : Nat} {x1 : Int} {x2 : Int} {Q : Int → Prop} {S : Shp} {F : Fl} {I : Il} (C : CO G RX7 cX7_holds 3 X) (M : MX d (some .boolean) "holds" X) (hd : 1 ≤ d)  (h : V_X7_holds_47 x0 x1 x2 S F I Q) : J G X (QD X G (qI fun z S' F' I' => S = S' ∧ F = F' ∧ I = I' ∧ Q z) noX) 47 [vr (some x0), vi x1, vi x2] [] S F I := by
  unfold V_X7_holds_47 at h
  refine J_iload_n C dX7_holds_47 rfl rfl ?_
  refine J_aload_n C dX7_holds_48 rfl rfl ?_
  obtain ⟨hK1, h⟩ := h
  obtain ⟨r2, hr3, h⟩ := h
  refine J_getR C fo_8_16 rfl fl_RX7_63 dX7_holds_49 hK1 hr3 ?_
  refine J_iload_n C dX7_holds_52 rfl rfl ?_
  obtain ⟨hK4, h⟩ := h
  obtain ⟨h05, hn6, h⟩ := h
  refine J_iald C dX7_holds_53 hK4 h05 hn6 ?_
  refine J_icmp_ge C dX7_holds_54 (tgt := 61) rfl (fun c54 => ?_) (fun c54 => ?_)
  · have h := h.1 c54
    refine J_iconst C dX7_holds_61 (rg_of (by decide)) ?_
    exact J_zret C dX7_holds_62 M.2.2.1 (by decide) ⟨_, rfl, rfl, rfl, rfl, h⟩
  · have h := h.2 c54
    refine J_iconst C dX7_holds_57 (rg_of (by decide)) ?_
    refine J_goto C dX7_holds_58 (tgt := 62) rfl ?_
    exact J_zret C dX7_holds_62 M.2.2.1 (by decide) ⟨_, rfl, rfl, rfl, rfl, h⟩
set_option maxRecDepth 20000 in
set_option maxHeartbeats 4000000 in
theorem S_X7_holds {G : Gp} {X : Xt} {d : Nat}  {x0 : Nat} {x1 : Int} {x2 : Int} {Q : Int → Prop} {S : Shp} {F : Fl} {I : Il} (C : CO G RX7 cX7_holds 3 X) (M : MX d (some .boolean) "holds" X) (hd : 1 ≤ d)  (h : V_X7_holds x0 x1 x2 S F I Q) : J G X (QD X G (qI fun z S' F' I' => S = S' ∧ F = F' ∧ I = I' ∧ Q z) noX) 0 [vr (some x0), vi x1, vi x2] [] S F I := by
  unfold V_X7_holds at h
  refine J_aload_n C dX7_holds_0 rfl rfl ?_
  obtain ⟨hK1, h⟩ := h
  refine J_getI C fo_8_1 rfl fl_RX7_9 dX7_holds_1 hK1 ?_
  refine J_iconst C dX7_holds_4 (rg_of (by decide)) ?_
  refine J_icmp_eq C dX7_holds_5 (tgt := 29) rfl (fun c5 => ?_) (fun c5 => ?_)
  · have h := h.1 c5
    refine J_iconst C dX7_holds_29 (rg_of (by decide)) ?_
    exact J_zret C dX7_holds_30 M.2.2.1 (by decide) ⟨_, rfl, rfl, rfl, rfl, h⟩
  · have h := h.2 c5
    refine J_aload_n C dX7_holds_8 rfl rfl ?_
    refine J_getI C fo_8_1 rfl fl_RX7_9 dX7_holds_9 hK1 ?_
    refine J_iconst C dX7_holds_12 (rg_of (by decide)) ?_
    refine J_icmp_eq C dX7_holds_13 (tgt := 29) rfl (fun c13 => ?_) (fun c13 => ?_)
    · have h := h.1 c13
      refine J_iconst C dX7_holds_29 (rg_of (by decide)) ?_
      exact J_zret C dX7_holds_30 M.2.2.1 (by decide) ⟨_, rfl, rfl, rfl, rfl, h⟩
    · have h := h.2 c13
      refine J_iload_n C dX7_holds_16 rfl rfl ?_
      refine J_if_lt C dX7_holds_17 (tgt := 29) rfl (fun c17 => ?_) (fun c17 => ?_)
      · have h := h.1 c17
        refine J_iconst C dX7_holds_29 (rg_of (by decide)) ?_
        exact J_zret C dX7_holds_30 M.2.2.1 (by decide) ⟨_, rfl, rfl, rfl, rfl, h⟩
      · have h := h.2 c17
        refine J_iload_n C dX7_holds_20 rfl rfl ?_
        refine J_aload_n C dX7_holds_21 rfl rfl ?_
        obtain ⟨r2, hr3, h⟩ := h
        refine J_getR C fo_8_16 rfl fl_RX7_63 dX7_holds_22 hK1 hr3 ?_
        obtain ⟨hK4, h⟩ := h
        obtain ⟨hn5, h⟩ := h
        refine J_alen C dX7_holds_25 hK4 (by decide) (by decide) (rg_len hn5) ?_
        refine J_icmp_lt C dX7_holds_26 (tgt := 31) rfl (fun c26 => ?_) (fun c26 => ?_)
        · have h := h.1 c26
          refine J_aload_n C dX7_holds_31 rfl rfl ?_
          refine J_getI C fo_8_1 rfl fl_RX7_9 dX7_holds_32 hK1 ?_
          refine J_iconst C dX7_holds_35 (rg_of (by decide)) ?_
          refine J_icmp_ne C dX7_holds_36 (tgt := 47) rfl (fun c36 => ?_) (fun c36 => ?_)
          · have h := h.1 c36
            exact S_X7_holds_47 C M (by omega)  h
          · have h := h.2 c36
            refine J_aload_n C dX7_holds_39 rfl rfl ?_
            refine J_getI C fo_8_6 rfl fl_RX7_27 dX7_holds_40 hK1 ?_
            refine J_iload_n C dX7_holds_43 rfl rfl ?_
            refine J_icmp_eq C dX7_holds_44 (tgt := 57) rfl (fun c44 => ?_) (fun c44 => ?_)
            · have h := h.1 c44
              refine J_iconst C dX7_holds_57 (rg_of (by decide)) ?_
              refine J_goto C dX7_holds_58 (tgt := 62) rfl ?_
              exact J_zret C dX7_holds_62 M.2.2.1 (by decide) ⟨_, rfl, rfl, rfl, rfl, h⟩
            · have h := h.2 c44
              exact S_X7_holds_47 C M (by omega)  h
        · have h := h.2 c26
          refine J_iconst C dX7_holds_29 (rg_of (by decide)) ?_
          exact J_zret C dX7_holds_30 M.2.2.1 (by decide) ⟨_, rfl, rfl, rfl, rfl, h⟩
theorem c_X7_holds {l : Launch} {G : Gp} {d : Nat} {x0 : Nat} {x1 : Int} {x2 : Int} {S : Shp} {F : Fl} {I : Il} {Q : Int → Prop} (hl : l.stackTraces = false) (hd : 1 ≤ d) (h : V_X7_holds x0 x1 x2 S F I Q) : CM l G d yX7_holds (.code yX7_holds cX7_holds 3 (some .boolean)) [vr (some x0), vi x1, vi x2] S F I (qI fun z S' F' I' => S = S' ∧ F = F' ∧ I = I' ∧ Q z) noX :=
  CM_ofM [vr (some x0), vi x1, vi x2] hl (by decide +kernel) (kn1 trivial (kn1 trivial (kn1 trivial kn0))) (Nat.le_of_ble_eq_true rfl) rfl (fun X hX C M => S_X7_holds C M hd h)
set_option maxRecDepth 20000 in
set_option maxHeartbeats 4000000 in
theorem S_X7_init_108 {G : Gp} {X : Xt} {d : Nat}   {Q : Shp → Fl → Il → Prop} {S : Shp} {F : Fl} {I : Il} (C : CO G RX7 cX7_init 2 X) (M : MX d none "<init>" X) (hd : 3 ≤ d)  (h : V_X7_init_108 S F I Q) : J G X (QD X G (qV fun S' F' I' => Q S' F' I') noX) 108 [vl 0, vl 0] [] S F I := by
  unfold V_X7_init_108 at h
  exact J_vret C dX7_init_108 M.2.2.1 ⟨rfl, h⟩
set_option maxRecDepth 20000 in
set_option maxHeartbeats 4000000 in
theorem S_X7_init_103 {G : Gp} {X : Xt} {d : Nat}  {x0 : Nat} {x1 : Int} {Q : Shp → Fl → Il → Prop} {S : Shp} {F : Fl} {I : Il} (C : CO G RX7 cX7_init 2 X) (M : MX d none "<init>" X) (hd : 3 ≤ d)  (h : V_X7_init_103 x0 x1 S F I Q) : J G X (QD X G (qV fun S' F' I' => Q S' F' I') noX) 103 [vr (some x0), vi x1] [] S F I := by
  unfold V_X7_init_103 at h
  refine J_aload_n C dX7_init_103 rfl rfl ?_
  refine J_iload_n C dX7_init_104 rfl rfl ?_
  obtain ⟨hK1, h⟩ := h
  refine J_putI C fo_8_0 fp_8 fl_RX7_67 (Or.inr ⟨M.2.2.2.1, rfl⟩) (Or.inl rfl) dX7_init_105 hK1 ?_
  refine J_less [vl 0, vl 0] (by unfold lessL; simp [lessL]) ?_
  exact S_X7_init_108 C M (by omega)  h
set_option maxRecDepth 20000 in
set_option maxHeartbeats 4000000 in
theorem S_X7_init_95 {G : Gp} {X : Xt} {d : Nat}  {x0 : Nat} {x1 : Int} {Q : Shp → Fl → Il → Prop} {S : Shp} {F : Fl} {I : Il} (C : CO G RX7 cX7_init 2 X) (M : MX d none "<init>" X) (hd : 3 ≤ d)  (h : V_X7_init_95 x0 x1 S F I Q) : J G X (QD X G (qV fun S' F' I' => Q S' F' I') noX) 95 [vr (some x0), vi x1] [] S F I := by
  unfold V_X7_init_95 at h
  refine J_aload_n C dX7_init_95 rfl rfl ?_
  refine J_bipush C dX7_init_96 (by decide +kernel) (rg_of (by decide)) ?_
  obtain ⟨ha3, hb4, h⟩ := h
  refine J_newI C (n := 16) rfl wg_106 dX7_init_98 (by decide) ha3 hb4 (fun q1 hq2 => ?_)
  have h := h q1 hq2
  obtain ⟨hK5, h⟩ := h
  refine J_putR C fo_8_16 fp_8 rfl wg_161 rfl (Or.inr ⟨M.2.2.2.1, rfl⟩) dX7_init_100 hK5 ?_
  exact S_X7_init_103 C M (by omega)  h
set_option maxRecDepth 20000 in
set_option maxHeartbeats 4000000 in
theorem S_X7_init_90 {G : Gp} {X : Xt} {d : Nat}  {x0 : Nat} {x1 : Int} {Q : Shp → Fl → Il → Prop} {S : Shp} {F : Fl} {I : Il} (C : CO G RX7 cX7_init 2 X) (M : MX d none "<init>" X) (hd : 3 ≤ d)  (h : V_X7_init_90 x0 x1 S F I Q) : J G X (QD X G (qV fun S' F' I' => Q S' F' I') noX) 90 [vr (some x0), vi x1] [] S F I := by
  unfold V_X7_init_90 at h
  refine J_aload_n C dX7_init_90 rfl rfl ?_
  refine J_iconst C dX7_init_91 (rg_of (by decide)) ?_
  obtain ⟨hK1, h⟩ := h
  refine J_putI C fo_8_15 fp_8 fl_RX7_60 (Or.inl rfl) (Or.inl rfl) dX7_init_92 hK1 ?_
  exact S_X7_init_95 C M (by omega)  h
set_option maxRecDepth 20000 in
set_option maxHeartbeats 4000000 in
theorem S_X7_init_85 {G : Gp} {X : Xt} {d : Nat}  {x0 : Nat} {x1 : Int} {Q : Shp → Fl → Il → Prop} {S : Shp} {F : Fl} {I : Il} (C : CO G RX7 cX7_init 2 X) (M : MX d none "<init>" X) (hd : 3 ≤ d)  (h : V_X7_init_85 x0 x1 S F I Q) : J G X (QD X G (qV fun S' F' I' => Q S' F' I') noX) 85 [vr (some x0), vi x1] [] S F I := by
  unfold V_X7_init_85 at h
  refine J_aload_n C dX7_init_85 rfl rfl ?_
  refine J_iconst C dX7_init_86 (rg_of (by decide)) ?_
  obtain ⟨hK1, h⟩ := h
  refine J_putI C fo_8_14 fp_8 fl_RX7_57 (Or.inl rfl) (Or.inl rfl) dX7_init_87 hK1 ?_
  exact S_X7_init_90 C M (by omega)  h
set_option maxRecDepth 20000 in
set_option maxHeartbeats 4000000 in
theorem S_X7_init_80 {G : Gp} {X : Xt} {d : Nat}  {x0 : Nat} {x1 : Int} {Q : Shp → Fl → Il → Prop} {S : Shp} {F : Fl} {I : Il} (C : CO G RX7 cX7_init 2 X) (M : MX d none "<init>" X) (hd : 3 ≤ d)  (h : V_X7_init_80 x0 x1 S F I Q) : J G X (QD X G (qV fun S' F' I' => Q S' F' I') noX) 80 [vr (some x0), vi x1] [] S F I := by
  unfold V_X7_init_80 at h
  refine J_aload_n C dX7_init_80 rfl rfl ?_
  refine J_iconst C dX7_init_81 (rg_of (by decide)) ?_
  obtain ⟨hK1, h⟩ := h
  refine J_putI C fo_8_13 fp_8 fl_RX7_54 (Or.inl rfl) (Or.inl rfl) dX7_init_82 hK1 ?_
  exact S_X7_init_85 C M (by omega)  h
set_option maxRecDepth 20000 in
set_option maxHeartbeats 4000000 in
theorem S_X7_init_75 {G : Gp} {X : Xt} {d : Nat}  {x0 : Nat} {x1 : Int} {Q : Shp → Fl → Il → Prop} {S : Shp} {F : Fl} {I : Il} (C : CO G RX7 cX7_init 2 X) (M : MX d none "<init>" X) (hd : 3 ≤ d)  (h : V_X7_init_75 x0 x1 S F I Q) : J G X (QD X G (qV fun S' F' I' => Q S' F' I') noX) 75 [vr (some x0), vi x1] [] S F I := by
  unfold V_X7_init_75 at h
  refine J_aload_n C dX7_init_75 rfl rfl ?_
  refine J_iconst C dX7_init_76 (rg_of (by decide)) ?_
  obtain ⟨hK1, h⟩ := h
  refine J_putI C fo_8_12 fp_8 fl_RX7_51 (Or.inl rfl) (Or.inl rfl) dX7_init_77 hK1 ?_
  exact S_X7_init_80 C M (by omega)  h
set_option maxRecDepth 20000 in
set_option maxHeartbeats 4000000 in
theorem S_X7_init_70 {G : Gp} {X : Xt} {d : Nat}  {x0 : Nat} {x1 : Int} {Q : Shp → Fl → Il → Prop} {S : Shp} {F : Fl} {I : Il} (C : CO G RX7 cX7_init 2 X) (M : MX d none "<init>" X) (hd : 3 ≤ d)  (h : V_X7_init_70 x0 x1 S F I Q) : J G X (QD X G (qV fun S' F' I' => Q S' F' I') noX) 70 [vr (some x0), vi x1] [] S F I := by
  unfold V_X7_init_70 at h
  refine J_aload_n C dX7_init_70 rfl rfl ?_
  refine J_iconst C dX7_init_71 (rg_of (by decide)) ?_
  obtain ⟨hK1, h⟩ := h
  refine J_putI C fo_8_11 fp_8 fl_RX7_48 (Or.inl rfl) (Or.inl rfl) dX7_init_72 hK1 ?_
  exact S_X7_init_75 C M (by omega)  h
set_option maxRecDepth 20000 in
set_option maxHeartbeats 4000000 in
theorem S_X7_init_57 {G : Gp} {X : Xt} {d : Nat}  {x0 : Nat} {x1 : Int} {Q : Shp → Fl → Il → Prop} {S : Shp} {F : Fl} {I : Il} (C : CO G RX7 cX7_init 2 X) (M : MX d none "<init>" X) (hd : 3 ≤ d)  (h : V_X7_init_57 x0 x1 S F I Q) : J G X (QD X G (qV fun S' F' I' => Q S' F' I') noX) 57 [vr (some x0), vi x1] [] S F I := by
  unfold V_X7_init_57 at h
  obtain ⟨d, rfl⟩ : ∃ d9, d = d9 + 1 := ⟨d - 1, by omega⟩
  refine J_aload_n C dX7_init_57 rfl rfl ?_
  obtain ⟨ha3, hb4, h⟩ := h
  refine J_new C fn_6 fp_6.1 fd_6 wg_128 wg_92 wg_33 dX7_init_58 ha3 hb4 (fun q1 hq2 => ?_)
  have h := h q1 hq2
  refine J_dup C dX7_init_61 trivial ?_
  refine J_bipush C dX7_init_62 (by decide +kernel) (rg_of (by decide)) ?_
  refine K_I C M [vi 8] [vr (some q1), vr (some x0)] mi_X5_init rfl wg_129 wg_94 dX7_init_64 rfl rfl (by decide) (Nat.le_of_ble_eq_true rfl) (c_X5_init (C.2.2.2.2.2.2.2) (by omega) h) (fun v9 S5 F6 I7 hq9 => ?_) K_no rfl
  clear h
  obtain ⟨rfl, h⟩ := hq9
  obtain ⟨hK8, h⟩ := h
  refine J_putR C fo_8_10 fp_8 rfl wg_149 rfl (Or.inr ⟨M.2.2.2.1, rfl⟩) dX7_init_67 hK8 ?_
  exact S_X7_init_70 C M (by omega)  h
set_option maxRecDepth 20000 in
set_option maxHeartbeats 4000000 in
theorem S_X7_init_44 {G : Gp} {X : Xt} {d : Nat}  {x0 : Nat} {x1 : Int} {Q : Shp → Fl → Il → Prop} {S : Shp} {F : Fl} {I : Il} (C : CO G RX7 cX7_init 2 X) (M : MX d none "<init>" X) (hd : 3 ≤ d)  (h : V_X7_init_44 x0 x1 S F I Q) : J G X (QD X G (qV fun S' F' I' => Q S' F' I') noX) 44 [vr (some x0), vi x1] [] S F I := by
  unfold V_X7_init_44 at h
  obtain ⟨d, rfl⟩ : ∃ d9, d = d9 + 1 := ⟨d - 1, by omega⟩
  refine J_aload_n C dX7_init_44 rfl rfl ?_
  obtain ⟨ha3, hb4, h⟩ := h
  refine J_new C fn_6 fp_6.1 fd_6 wg_128 wg_92 wg_33 dX7_init_45 ha3 hb4 (fun q1 hq2 => ?_)
  have h := h q1 hq2
  refine J_dup C dX7_init_48 trivial ?_
  refine J_bipush C dX7_init_49 (by decide +kernel) (rg_of (by decide)) ?_
  refine K_I C M [vi 10] [vr (some q1), vr (some x0)] mi_X5_init rfl wg_129 wg_94 dX7_init_51 rfl rfl (by decide) (Nat.le_of_ble_eq_true rfl) (c_X5_init (C.2.2.2.2.2.2.2) (by omega) h) (fun v9 S5 F6 I7 hq9 => ?_) K_no rfl
  clear h
  obtain ⟨rfl, h⟩ := hq9
  obtain ⟨hK8, h⟩ := h
  refine J_putR C fo_8_9 fp_8 rfl wg_147 rfl (Or.inr ⟨M.2.2.2.1, rfl⟩) dX7_init_54 hK8 ?_
  exact S_X7_init_57 C M (by omega)  h
set_option maxRecDepth 20000 in
set_option maxHeartbeats 4000000 in
theorem S_X7_init_39 {G : Gp} {X : Xt} {d : Nat}  {x0 : Nat} {x1 : Int} {Q : Shp → Fl → Il → Prop} {S : Shp} {F : Fl} {I : Il} (C : CO G RX7 cX7_init 2 X) (M : MX d none "<init>" X) (hd : 3 ≤ d)  (h : V_X7_init_39 x0 x1 S F I Q) : J G X (QD X G (qV fun S' F' I' => Q S' F' I') noX) 39 [vr (some x0), vi x1] [] S F I := by
  unfold V_X7_init_39 at h
  refine J_aload_n C dX7_init_39 rfl rfl ?_
  refine J_iconst C dX7_init_40 (rg_of (by decide)) ?_
  obtain ⟨hK1, h⟩ := h
  refine J_putI C fo_8_8 fp_8 fl_RX7_33 (Or.inl rfl) (Or.inl rfl) dX7_init_41 hK1 ?_
  exact S_X7_init_44 C M (by omega)  h
set_option maxRecDepth 20000 in
set_option maxHeartbeats 4000000 in
theorem S_X7_init_34 {G : Gp} {X : Xt} {d : Nat}  {x0 : Nat} {x1 : Int} {Q : Shp → Fl → Il → Prop} {S : Shp} {F : Fl} {I : Il} (C : CO G RX7 cX7_init 2 X) (M : MX d none "<init>" X) (hd : 3 ≤ d)  (h : V_X7_init_34 x0 x1 S F I Q) : J G X (QD X G (qV fun S' F' I' => Q S' F' I') noX) 34 [vr (some x0), vi x1] [] S F I := by
  unfold V_X7_init_34 at h
  refine J_aload_n C dX7_init_34 rfl rfl ?_
  refine J_iconst C dX7_init_35 (rg_of (by decide)) ?_
  obtain ⟨hK1, h⟩ := h
  refine J_putI C fo_8_7 fp_8 fl_RX7_30 (Or.inl rfl) (Or.inl rfl) dX7_init_36 hK1 ?_
  exact S_X7_init_39 C M (by omega)  h
set_option maxRecDepth 20000 in
set_option maxHeartbeats 4000000 in
theorem S_X7_init_29 {G : Gp} {X : Xt} {d : Nat}  {x0 : Nat} {x1 : Int} {Q : Shp → Fl → Il → Prop} {S : Shp} {F : Fl} {I : Il} (C : CO G RX7 cX7_init 2 X) (M : MX d none "<init>" X) (hd : 3 ≤ d)  (h : V_X7_init_29 x0 x1 S F I Q) : J G X (QD X G (qV fun S' F' I' => Q S' F' I') noX) 29 [vr (some x0), vi x1] [] S F I := by
  unfold V_X7_init_29 at h
  refine J_aload_n C dX7_init_29 rfl rfl ?_
  refine J_iconst C dX7_init_30 (rg_of (by decide)) ?_
  obtain ⟨hK1, h⟩ := h
  refine J_putI C fo_8_6 fp_8 fl_RX7_27 (Or.inl rfl) (Or.inl rfl) dX7_init_31 hK1 ?_
  exact S_X7_init_34 C M (by omega)  h
set_option maxRecDepth 20000 in
set_option maxHeartbeats 4000000 in
theorem S_X7_init_24 {G : Gp} {X : Xt} {d : Nat}  {x0 : Nat} {x1 : Int} {Q : Shp → Fl → Il → Prop} {S : Shp} {F : Fl} {I : Il} (C : CO G RX7 cX7_init 2 X) (M : MX d none "<init>" X) (hd : 3 ≤ d)  (h : V_X7_init_24 x0 x1 S F I Q) : J G X (QD X G (qV fun S' F' I' => Q S' F' I') noX) 24 [vr (some x0), vi x1] [] S F I := by
  unfold V_X7_init_24 at h
  refine J_aload_n C dX7_init_24 rfl rfl ?_
  refine J_iconst C dX7_init_25 (rg_of (by decide)) ?_
  obtain ⟨hK1, h⟩ := h
  refine J_putI C fo_8_5 fp_8 fl_RX7_24 (Or.inl rfl) (Or.inl rfl) dX7_init_26 hK1 ?_
  exact S_X7_init_29 C M (by omega)  h
set_option maxRecDepth 20000 in
set_option maxHeartbeats 4000000 in
theorem S_X7_init_19 {G : Gp} {X : Xt} {d : Nat}  {x0 : Nat} {x1 : Int} {Q : Shp → Fl → Il → Prop} {S : Shp} {F : Fl} {I : Il} (C : CO G RX7 cX7_init 2 X) (M : MX d none "<init>" X) (hd : 3 ≤ d)  (h : V_X7_init_19 x0 x1 S F I Q) : J G X (QD X G (qV fun S' F' I' => Q S' F' I') noX) 19 [vr (some x0), vi x1] [] S F I := by
  unfold V_X7_init_19 at h
  refine J_aload_n C dX7_init_19 rfl rfl ?_
  refine J_iconst C dX7_init_20 (rg_of (by decide)) ?_
  obtain ⟨hK1, h⟩ := h
  refine J_putI C fo_8_4 fp_8 fl_RX7_21 (Or.inl rfl) (Or.inl rfl) dX7_init_21 hK1 ?_
  exact S_X7_init_24 C M (by omega)  h
set_option maxRecDepth 20000 in
set_option maxHeartbeats 4000000 in
theorem S_X7_init_14 {G : Gp} {X : Xt} {d : Nat}  {x0 : Nat} {x1 : Int} {Q : Shp → Fl → Il → Prop} {S : Shp} {F : Fl} {I : Il} (C : CO G RX7 cX7_init 2 X) (M : MX d none "<init>" X) (hd : 3 ≤ d)  (h : V_X7_init_14 x0 x1 S F I Q) : J G X (QD X G (qV fun S' F' I' => Q S' F' I') noX) 14 [vr (some x0), vi x1] [] S F I := by
  unfold V_X7_init_14 at h
  refine J_aload_n C dX7_init_14 rfl rfl ?_
  refine J_iconst C dX7_init_15 (rg_of (by decide)) ?_
  obtain ⟨hK1, h⟩ := h
  refine J_putI C fo_8_3 fp_8 fl_RX7_18 (Or.inl rfl) (Or.inl rfl) dX7_init_16 hK1 ?_
  exact S_X7_init_19 C M (by omega)  h
set_option maxRecDepth 20000 in
set_option maxHeartbeats 4000000 in
theorem S_X7_init_9 {G : Gp} {X : Xt} {d : Nat}  {x0 : Nat} {x1 : Int} {Q : Shp → Fl → Il → Prop} {S : Shp} {F : Fl} {I : Il} (C : CO G RX7 cX7_init 2 X) (M : MX d none "<init>" X) (hd : 3 ≤ d)  (h : V_X7_init_9 x0 x1 S F I Q) : J G X (QD X G (qV fun S' F' I' => Q S' F' I') noX) 9 [vr (some x0), vi x1] [] S F I := by
  unfold V_X7_init_9 at h
  refine J_aload_n C dX7_init_9 rfl rfl ?_
  refine J_iconst C dX7_init_10 (rg_of (by decide)) ?_
  obtain ⟨hK1, h⟩ := h
  refine J_putI C fo_8_2 fp_8 fl_RX7_15 (Or.inl rfl) (Or.inl rfl) dX7_init_11 hK1 ?_
  exact S_X7_init_14 C M (by omega)  h
set_option maxRecDepth 20000 in
set_option maxHeartbeats 4000000 in
theorem S_X7_init {G : Gp} {X : Xt} {d : Nat}  {x0 : Nat} {x1 : Int} {Q : Shp → Fl → Il → Prop} {S : Shp} {F : Fl} {I : Il} (C : CO G RX7 cX7_init 2 X) (M : MX d none "<init>" X) (hd : 3 ≤ d)  (h : V_X7_init x0 x1 S F I Q) : J G X (QD X G (qV fun S' F' I' => Q S' F' I') noX) 0 [vr (some x0), vi x1] [] S F I := by
  unfold V_X7_init at h
  obtain ⟨d, rfl⟩ : ∃ d9, d = d9 + 1 := ⟨d - 1, by omega⟩
  refine J_aload_n C dX7_init_0 rfl rfl ?_
  refine K_objInit C M wg_127 wg_59 wg_60 rfl dX7_init_1 (Nat.le_of_ble_eq_true rfl) ?_
  refine J_aload_n C dX7_init_4 rfl rfl ?_
  refine J_iconst C dX7_init_5 (rg_of (by decide)) ?_
  obtain ⟨hK1, h⟩ := h
  refine J_putI C fo_8_1 fp_8 fl_RX7_9 (Or.inl rfl) (Or.inl rfl) dX7_init_6 hK1 ?_
  exact S_X7_init_9 C M (by omega)  h
theorem c_X7_init {l : Launch} {G : Gp} {d : Nat} {x0 : Nat} {x1 : Int} {S : Shp} {F : Fl} {I : Il} {Q : Shp → Fl → Il → Prop} (hl : l.stackTraces = false) (hd : 3 ≤ d) (h : V_X7_init x0 x1 S F I Q) : CM l G d yX7_init (.code yX7_init cX7_init 2 none) [vr (some x0), vi x1] S F I (qV fun S' F' I' => Q S' F' I') noX :=
  CM_ofM [vr (some x0), vi x1] hl (by decide +kernel) (kn1 trivial (kn1 trivial kn0)) (Nat.le_of_ble_eq_true rfl) rfl (fun X hX C M => S_X7_init C M hd h)
set_option maxRecDepth 20000 in
set_option maxHeartbeats 4000000 in
theorem S_X7_minutesToClear {G : Gp} {X : Xt} {d : Nat}  {x0 : Nat} {Q : Int → Prop} {S : Shp} {F : Fl} {I : Il} (C : CO G RX7 cX7_minutesToClear 1 X) (M : MX d (some .int) "minutesToClear" X) (hd : 1 ≤ d)  (h : V_X7_minutesToClear x0 S F I Q) : J G X (QD X G (qI fun z S' F' I' => S = S' ∧ F = F' ∧ I = I' ∧ Q z) noX) 0 [vr (some x0)] [] S F I := by
  unfold V_X7_minutesToClear at h
  refine J_iconst C dX7_minutesToClear_0 (rg_of (by decide)) ?_
  refine J_aload_n C dX7_minutesToClear_1 rfl rfl ?_
  obtain ⟨hK1, h⟩ := h
  obtain ⟨r2, hr3, h⟩ := h
  refine J_getR C fo_8_9 rfl fl_RX7_41 dX7_minutesToClear_2 hK1 hr3 ?_
  obtain ⟨hK4, h⟩ := h
  refine J_getI C fo_6_1 rfl fl_RX7_83 dX7_minutesToClear_5 hK4 ?_
  refine J_iconst C dX7_minutesToClear_8 (rg_of (by decide)) ?_
  refine J_idiv C dX7_minutesToClear_9 (by decide) ?_
  refine J_iadd C dX7_minutesToClear_10 ?_
  exact J_iret C dX7_minutesToClear_11 M.2.2.1 ⟨_, rfl, rfl, rfl, rfl, h⟩
theorem c_X7_minutesToClear {l : Launch} {G : Gp} {d : Nat} {x0 : Nat} {S : Shp} {F : Fl} {I : Il} {Q : Int → Prop} (hl : l.stackTraces = false) (hd : 1 ≤ d) (h : V_X7_minutesToClear x0 S F I Q) : CM l G d yX7_minutesToClear (.code yX7_minutesToClear cX7_minutesToClear 1 (some .int)) [vr (some x0)] S F I (qI fun z S' F' I' => S = S' ∧ F = F' ∧ I = I' ∧ Q z) noX :=
  CM_ofM [vr (some x0)] hl (by decide +kernel) (kn1 trivial kn0) (Nat.le_of_ble_eq_true rfl) rfl (fun X hX C M => S_X7_minutesToClear C M hd h)
set_option maxRecDepth 20000 in
set_option maxHeartbeats 4000000 in
theorem S_X7_nextBlock {G : Gp} {X : Xt} {d : Nat}  {x0 : Nat} {Q : Int → Prop} {S : Shp} {F : Fl} {I : Il} (C : CO G RX7 cX7_nextBlock 1 X) (M : MX d (some .int) "nextBlock" X) (hd : 2 ≤ d)  (h : V_X7_nextBlock x0 S F I Q) : J G X (QD X G (qI fun z S' F' I' => S = S' ∧ F = F' ∧ I = I' ∧ Q z) noX) 0 [vr (some x0)] [] S F I := by
  unfold V_X7_nextBlock at h
  obtain ⟨d, rfl⟩ : ∃ d9, d = d9 + 1 := ⟨d - 1, by omega⟩
  refine J_aload_n C dX7_nextBlock_0 rfl rfl ?_
  obtain ⟨hK1, h⟩ := h
  obtain ⟨r2, hr3, h⟩ := h
  refine J_getR C fo_8_10 rfl fl_RX7_45 dX7_nextBlock_1 hK1 hr3 ?_
  refine J_aload_n C dX7_nextBlock_4 rfl rfl ?_
  refine J_getI C fo_8_11 rfl fl_RX7_48 dX7_nextBlock_5 hK1 ?_
  obtain ⟨hK4, h⟩ := h
  refine K_V C M [vi (F 811 x0)] [] mi_X5_at wg_681 wg_682 wg_683 ⟨rfl, by decide⟩ dX7_nextBlock_8 hK4 rfl rfl (by decide) (Nat.le_of_ble_eq_true rfl) (c_X5_at (C.2.2.2.2.2.2.2) (by omega) h) (fun v9 S' F' I' hq9 => ?_) K_no rfl
  clear h
  obtain ⟨z5, rfl, rfl, rfl, rfl, h⟩ := hq9
  exact J_iret C dX7_nextBlock_11 M.2.2.1 ⟨_, rfl, rfl, rfl, rfl, h⟩
theorem c_X7_nextBlock {l : Launch} {G : Gp} {d : Nat} {x0 : Nat} {S : Shp} {F : Fl} {I : Il} {Q : Int → Prop} (hl : l.stackTraces = false) (hd : 2 ≤ d) (h : V_X7_nextBlock x0 S F I Q) : CM l G d yX7_nextBlock (.code yX7_nextBlock cX7_nextBlock 1 (some .int)) [vr (some x0)] S F I (qI fun z S' F' I' => S = S' ∧ F = F' ∧ I = I' ∧ Q z) noX :=
  CM_ofM [vr (some x0)] hl (by decide +kernel) (kn1 trivial kn0) (Nat.le_of_ble_eq_true rfl) rfl (fun X hX C M => S_X7_nextBlock C M hd h)
set_option maxRecDepth 20000 in
set_option maxHeartbeats 4000000 in
theorem S_X7_notClear {G : Gp} {X : Xt} {d : Nat}  {x0 : Nat} {x1 : Int} {x2 : Int} {Q : Il → Prop} {S : Shp} {F : Fl} {I : Il} (C : CO G RX7 cX7_notClear 3 X) (M : MX d none "notClear" X) (hd : 1 ≤ d)  (h : V_X7_notClear x0 x1 x2 S F I Q) : J G X (QD X G (qV fun S' F' I' => S = S' ∧ F = F' ∧ Q I') noX) 0 [vr (some x0), vi x1, vi x2] [] S F I := by
  unfold V_X7_notClear at h
  refine J_iload_n C dX7_notClear_0 rfl rfl ?_
  refine J_if_lt C dX7_notClear_1 (tgt := 20) rfl (fun c1 => ?_) (fun c1 => ?_)
  · have h := h.1 c1
    exact J_vret C dX7_notClear_20 M.2.2.1 ⟨rfl, rfl, rfl, h⟩
  · have h := h.2 c1
    refine J_iload_n C dX7_notClear_4 rfl rfl ?_
    refine J_aload_n C dX7_notClear_5 rfl rfl ?_
    obtain ⟨hK1, h⟩ := h
    obtain ⟨r2, hr3, h⟩ := h
    refine J_getR C fo_8_16 rfl fl_RX7_63 dX7_notClear_6 hK1 hr3 ?_
    obtain ⟨hK4, h⟩ := h
    obtain ⟨hn5, h⟩ := h
    refine J_alen C dX7_notClear_9 hK4 (by decide) (by decide) (rg_len hn5) ?_
    refine J_icmp_ge C dX7_notClear_10 (tgt := 20) rfl (fun c10 => ?_) (fun c10 => ?_)
    · have h := h.1 c10
      exact J_vret C dX7_notClear_20 M.2.2.1 ⟨rfl, rfl, rfl, h⟩
    · have h := h.2 c10
      refine J_aload_n C dX7_notClear_13 rfl rfl ?_
      refine J_getR C fo_8_16 rfl fl_RX7_63 dX7_notClear_14 hK1 hr3 ?_
      refine J_iload_n C dX7_notClear_17 rfl rfl ?_
      refine J_iload_n C dX7_notClear_18 rfl rfl ?_
      obtain ⟨h06, hn7, h⟩ := h
      refine J_iast C dX7_notClear_19 hK4 h06 hn7 ?_
      exact J_vret C dX7_notClear_20 M.2.2.1 ⟨rfl, rfl, rfl, h⟩
theorem c_X7_notClear {l : Launch} {G : Gp} {d : Nat} {x0 : Nat} {x1 : Int} {x2 : Int} {S : Shp} {F : Fl} {I : Il} {Q : Il → Prop} (hl : l.stackTraces = false) (hd : 1 ≤ d) (h : V_X7_notClear x0 x1 x2 S F I Q) : CM l G d yX7_notClear (.code yX7_notClear cX7_notClear 3 none) [vr (some x0), vi x1, vi x2] S F I (qV fun S' F' I' => S = S' ∧ F = F' ∧ Q I') noX :=
  CM_ofM [vr (some x0), vi x1, vi x2] hl (by decide +kernel) (kn1 trivial (kn1 trivial (kn1 trivial kn0))) (Nat.le_of_ble_eq_true rfl) rfl (fun X hX C M => S_X7_notClear C M hd h)
set_option maxRecDepth 20000 in
set_option maxHeartbeats 4000000 in
theorem S_X7_stands {G : Gp} {X : Xt} {d : Nat}  {x0 : Nat} {Q : Int → Prop} {S : Shp} {F : Fl} {I : Il} (C : CO G RX7 cX7_stands 1 X) (M : MX d (some .boolean) "stands" X) (hd : 1 ≤ d)  (h : V_X7_stands x0 S F I Q) : J G X (QD X G (qI fun z S' F' I' => S = S' ∧ F = F' ∧ I = I' ∧ Q z) noX) 0 [vr (some x0)] [] S F I := by
  unfold V_X7_stands at h
  refine J_aload_n C dX7_stands_0 rfl rfl ?_
  obtain ⟨hK1, h⟩ := h
  refine J_getI C fo_8_1 rfl fl_RX7_9 dX7_stands_1 hK1 ?_
  refine J_if_eq C dX7_stands_4 (tgt := 15) rfl (fun c4 => ?_) (fun c4 => ?_)
  · have h := h.1 c4
    refine J_iconst C dX7_stands_15 (rg_of (by decide)) ?_
    refine J_goto C dX7_stands_16 (tgt := 20) rfl ?_
    exact J_zret C dX7_stands_20 M.2.2.1 (by decide) ⟨_, rfl, rfl, rfl, rfl, h⟩
  · have h := h.2 c4
    refine J_aload_n C dX7_stands_7 rfl rfl ?_
    refine J_getI C fo_8_1 rfl fl_RX7_9 dX7_stands_8 hK1 ?_
    refine J_iconst C dX7_stands_11 (rg_of (by decide)) ?_
    refine J_icmp_ne C dX7_stands_12 (tgt := 19) rfl (fun c12 => ?_) (fun c12 => ?_)
    · have h := h.1 c12
      refine J_iconst C dX7_stands_19 (rg_of (by decide)) ?_
      exact J_zret C dX7_stands_20 M.2.2.1 (by decide) ⟨_, rfl, rfl, rfl, rfl, h⟩
    · have h := h.2 c12
      refine J_iconst C dX7_stands_15 (rg_of (by decide)) ?_
      refine J_goto C dX7_stands_16 (tgt := 20) rfl ?_
      exact J_zret C dX7_stands_20 M.2.2.1 (by decide) ⟨_, rfl, rfl, rfl, rfl, h⟩
theorem c_X7_stands {l : Launch} {G : Gp} {d : Nat} {x0 : Nat} {S : Shp} {F : Fl} {I : Il} {Q : Int → Prop} (hl : l.stackTraces = false) (hd : 1 ≤ d) (h : V_X7_stands x0 S F I Q) : CM l G d yX7_stands (.code yX7_stands cX7_stands 1 (some .boolean)) [vr (some x0)] S F I (qI fun z S' F' I' => S = S' ∧ F = F' ∧ I = I' ∧ Q z) noX :=
  CM_ofM [vr (some x0)] hl (by decide +kernel) (kn1 trivial kn0) (Nat.le_of_ble_eq_true rfl) rfl (fun X hX C M => S_X7_stands C M hd h)
set_option maxRecDepth 20000 in
set_option maxHeartbeats 4000000 in
theorem S_J7_fill_53178_5 {G : Gp} {X : Xt} {d : Nat}  {S : Shp} {F : Fl} {Q : Il → Prop} (C : CO G RJ7 cJ7_fill_53178 4 X) (M : MX d none "fill" X) (hd : 1 ≤ d) (n9 : Nat)  : ∀ (x0 : Nat) (x1 : Int) (x2 : Int) (x3 : Int) (I : Il), V_J7_fill_53178_5 n9 x0 x1 x2 x3 S F I Q → J G X (QD X G (qV fun S' F' I' => S = S' ∧ F = F' ∧ Q I') noX) 5 [vr (some x0), vi x1, vi x2, vi x3] [] S F I := by
  induction n9 with
  | zero => intro x0 x1 x2 x3 I h; exact h.elim
  | succ n ih =>
    intro x0 x1 x2 x3 I h
    unfold V_J7_fill_53178_5 at h
    refine J_iload_n C dJ7_fill_53178_5 rfl rfl ?_
    refine J_iload_n C dJ7_fill_53178_6 rfl rfl ?_
    refine J_icmp_ge C dJ7_fill_53178_7 (tgt := 20) rfl (fun c7 => ?_) (fun c7 => ?_)
    · have h := h.1 c7
      exact J_vret C dJ7_fill_53178_20 M.2.2.1 ⟨rfl, rfl, rfl, h⟩
    · have h := h.2 c7
      refine J_aload_n C dJ7_fill_53178_10 rfl rfl ?_
      refine J_iload_n C dJ7_fill_53178_11 rfl rfl ?_
      refine J_iload_n C dJ7_fill_53178_12 rfl rfl ?_
      obtain ⟨hK1, h⟩ := h
      obtain ⟨h02, hn3, h⟩ := h
      refine J_iast C dJ7_fill_53178_13 hK1 h02 hn3 ?_
      refine K_iinc C [vr (some x0), vi x1, vi (w32 (x2 + 1)), vi x3] dJ7_fill_53178_14 rfl rfl ?_
      refine J_goto C dJ7_fill_53178_17 (tgt := 5) rfl ?_
      exact ih _ _ _ _ _ h
set_option maxRecDepth 20000 in
set_option maxHeartbeats 4000000 in
theorem S_J7_fill_53178 {G : Gp} {X : Xt} {d : Nat}  {x0 : Nat} {x1 : Int} {Q : Il → Prop} {S : Shp} {F : Fl} {I : Il} (C : CO G RJ7 cJ7_fill_53178 4 X) (M : MX d none "fill" X) (hd : 1 ≤ d)  (h : V_J7_fill_53178 x0 x1 S F I Q) : J G X (QD X G (qV fun S' F' I' => S = S' ∧ F = F' ∧ Q I') noX) 0 [vr (some x0), vi x1, vl 0, vl 0] [] S F I := by
  unfold V_J7_fill_53178 at h
  refine J_iconst C dJ7_fill_53178_0 (rg_of (by decide)) ?_
  refine K_istore_n C [vr (some x0), vi x1, vi 0, vl 0] dJ7_fill_53178_1 rfl (Nat.le_of_ble_eq_true rfl) rfl ?_
  refine J_aload_n C dJ7_fill_53178_2 rfl rfl ?_
  obtain ⟨hK1, h⟩ := h
  obtain ⟨hn2, h⟩ := h
  refine J_alen C dJ7_fill_53178_3 hK1 (by decide) (by decide) (rg_len hn2) ?_
  refine K_istore_n C [vr (some x0), vi x1, vi 0, vi (sN S x0 : Int)] dJ7_fill_53178_4 rfl (Nat.le_of_ble_eq_true rfl) rfl ?_
  obtain ⟨n9, h⟩ := h
  exact S_J7_fill_53178_5 C M (by omega) n9  _ _ _ _ _ h
theorem c_J7_fill_53178 {l : Launch} {G : Gp} {d : Nat} {x0 : Nat} {x1 : Int} {S : Shp} {F : Fl} {I : Il} {Q : Il → Prop} (hl : l.stackTraces = false) (hd : 1 ≤ d) (h : V_J7_fill_53178 x0 x1 S F I Q) : CM l G d yJ7_fill_53178 (.code yJ7_fill_53178 cJ7_fill_53178 4 none) [vr (some x0), vi x1] S F I (qV fun S' F' I' => S = S' ∧ F = F' ∧ Q I') noX :=
  CM_ofM [vr (some x0), vi x1, vl 0, vl 0] hl (by decide +kernel) (kn1 trivial (kn1 trivial kn0)) (Nat.le_of_ble_eq_true rfl) rfl (fun X hX C M => S_J7_fill_53178 C M hd h)
set_option maxRecDepth 20000 in
set_option maxHeartbeats 4000000 in
theorem S_X7_start {G : Gp} {X : Xt} {d : Nat}  {x0 : Nat} {x1 : Int} {x2 : Int} {x3 : Int} {x4 : Int} {Q : Fl → Il → Prop} {S : Shp} {F : Fl} {I : Il} (C : CO G RX7 cX7_start 5 X) (M : MX d none "start" X) (hd : 2 ≤ d)  (h : V_X7_start x0 x1 x2 x3 x4 S F I Q) : J G X (QD X G (qV fun S' F' I' => S = S' ∧ Q F' I') noX) 0 [vr (some x0), vi x1, vi x2, vi x3, vi x4] [] S F I := by
  unfold V_X7_start at h
  obtain ⟨d, rfl⟩ : ∃ d9, d = d9 + 1 := ⟨d - 1, by omega⟩
  refine J_aload_n C dX7_start_0 rfl rfl ?_
  refine J_iload_n C dX7_start_1 rfl rfl ?_
  obtain ⟨hK1, h⟩ := h
  refine J_putI C fo_8_2 fp_8 fl_RX7_15 (Or.inl rfl) (Or.inl rfl) dX7_start_2 hK1 ?_
  refine J_aload_n C dX7_start_5 rfl rfl ?_
  refine J_iload_n C dX7_start_6 rfl rfl ?_
  refine J_putI C fo_8_3 fp_8 fl_RX7_18 (Or.inl rfl) (Or.inl rfl) dX7_start_7 hK1 ?_
  refine J_aload_n C dX7_start_10 rfl rfl ?_
  refine J_iload_n C dX7_start_11 rfl rfl ?_
  refine J_putI C fo_8_4 fp_8 fl_RX7_21 (Or.inl rfl) (Or.inl rfl) dX7_start_12 hK1 ?_
  refine J_aload_n C dX7_start_15 rfl rfl ?_
  refine J_iload C dX7_start_16 rfl ?_
  refine J_putI C fo_8_5 fp_8 fl_RX7_24 (Or.inl rfl) (Or.inl rfl) dX7_start_18 hK1 ?_
  refine J_aload_n C dX7_start_21 rfl rfl ?_
  refine J_iconst C dX7_start_22 (rg_of (by decide)) ?_
  refine J_putI C fo_8_1 fp_8 fl_RX7_9 (Or.inl rfl) (Or.inl rfl) dX7_start_23 hK1 ?_
  refine J_aload_n C dX7_start_26 rfl rfl ?_
  refine J_iconst C dX7_start_27 (rg_of (by decide)) ?_
  refine J_putI C fo_8_6 fp_8 fl_RX7_27 (Or.inl rfl) (Or.inl rfl) dX7_start_28 hK1 ?_
  refine J_aload_n C dX7_start_31 rfl rfl ?_
  refine J_iconst C dX7_start_32 (rg_of (by decide)) ?_
  refine J_putI C fo_8_8 fp_8 fl_RX7_33 (Or.inl rfl) (Or.inl rfl) dX7_start_33 hK1 ?_
  refine J_aload_n C dX7_start_36 rfl rfl ?_
  obtain ⟨r2, hr3, h⟩ := h
  refine J_getR C fo_8_9 rfl fl_RX7_41 dX7_start_37 hK1 hr3 ?_
  obtain ⟨hK4, h⟩ := h
  refine K_V C M [] [] mi_X5_empty wg_790 wg_791 wg_792 ⟨rfl, by decide⟩ dX7_start_40 hK4 rfl rfl (by decide) (Nat.le_of_ble_eq_true rfl) (c_X5_empty (C.2.2.2.2.2.2.2) (by omega) h) (fun v9 S' F5 I' hq9 => ?_) K_no rfl
  clear h
  obtain ⟨rfl, rfl, rfl, h⟩ := hq9
  refine J_aload_n C dX7_start_43 rfl rfl ?_
  obtain ⟨r6, hr7, h⟩ := h
  refine J_getR C fo_8_10 rfl fl_RX7_45 dX7_start_44 hK1 hr7 ?_
  obtain ⟨hK8, h⟩ := h
  refine K_V C M [] [] mi_X5_empty wg_790 wg_791 wg_792 ⟨rfl, by decide⟩ dX7_start_47 hK8 rfl rfl (by decide) (Nat.le_of_ble_eq_true rfl) (c_X5_empty (C.2.2.2.2.2.2.2) (by omega) h) (fun v9 S' F9 I' hq9 => ?_) K_no rfl
  clear h
  obtain ⟨rfl, rfl, rfl, h⟩ := hq9
  refine J_aload_n C dX7_start_50 rfl rfl ?_
  refine J_iconst C dX7_start_51 (rg_of (by decide)) ?_
  refine J_putI C fo_8_11 fp_8 fl_RX7_48 (Or.inl rfl) (Or.inl rfl) dX7_start_52 hK1 ?_
  refine J_aload_n C dX7_start_55 rfl rfl ?_
  refine J_iconst C dX7_start_56 (rg_of (by decide)) ?_
  refine J_putI C fo_8_14 fp_8 fl_RX7_57 (Or.inl rfl) (Or.inl rfl) dX7_start_57 hK1 ?_
  refine J_aload_n C dX7_start_60 rfl rfl ?_
  refine J_iconst C dX7_start_61 (rg_of (by decide)) ?_
  refine J_putI C fo_8_15 fp_8 fl_RX7_60 (Or.inl rfl) (Or.inl rfl) dX7_start_62 hK1 ?_
  refine J_aload_n C dX7_start_65 rfl rfl ?_
  obtain ⟨r10, hr11, h⟩ := h
  refine J_getR C fo_8_16 rfl fl_RX7_63 dX7_start_66 hK1 hr11 ?_
  refine J_iconst C dX7_start_69 (rg_of (by decide)) ?_
  refine K_S C M [vr (some r10), vi 0] [] mi_J7_fill_53178 wg_794 wg_198 dX7_start_70 rfl rfl (by decide) (Nat.le_of_ble_eq_true rfl) (c_J7_fill_53178 (C.2.2.2.2.2.2.2) (by omega) h) (fun v9 S' F' I12 hq9 => ?_) K_no rfl
  clear h
  obtain ⟨rfl, rfl, rfl, h⟩ := hq9
  exact J_vret C dX7_start_73 M.2.2.1 ⟨rfl, rfl, h⟩
theorem c_X7_start {l : Launch} {G : Gp} {d : Nat} {x0 : Nat} {x1 : Int} {x2 : Int} {x3 : Int} {x4 : Int} {S : Shp} {F : Fl} {I : Il} {Q : Fl → Il → Prop} (hl : l.stackTraces = false) (hd : 2 ≤ d) (h : V_X7_start x0 x1 x2 x3 x4 S F I Q) : CM l G d yX7_start (.code yX7_start cX7_start 5 none) [vr (some x0), vi x1, vi x2, vi x3, vi x4] S F I (qV fun S' F' I' => S = S' ∧ Q F' I') noX :=
  CM_ofM [vr (some x0), vi x1, vi x2, vi x3, vi x4] hl (by decide +kernel) (kn1 trivial (kn1 trivial (kn1 trivial (kn1 trivial (kn1 trivial kn0))))) (Nat.le_of_ble_eq_true rfl) rfl (fun X hX C M => S_X7_start C M hd h)
set_option maxRecDepth 20000 in
set_option maxHeartbeats 4000000 in
theorem S_X7_takesTrackAt {G : Gp} {X : Xt} {d : Nat}  {x0 : Nat} {x1 : Int} {Q : Int → Prop} {S : Shp} {F : Fl} {I : Il} (C : CO G RX7 cX7_takesTrackAt 2 X) (M : MX d (some .boolean) "takesTrackAt" X) (hd : 1 ≤ d)  (h : V_X7_takesTrackAt x0 x1 S F I Q) : J G X (QD X G (qI fun z S' F' I' => S = S' ∧ F = F' ∧ I = I' ∧ Q z) noX) 0 [vr (some x0), vi x1] [] S F I := by
  unfold V_X7_takesTrackAt at h
  refine J_aload_n C dX7_takesTrackAt_0 rfl rfl ?_
  obtain ⟨hK1, h⟩ := h
  refine J_getI C fo_8_1 rfl fl_RX7_9 dX7_takesTrackAt_1 hK1 ?_
  refine J_iconst C dX7_takesTrackAt_4 (rg_of (by decide)) ?_
  refine J_icmp_eq C dX7_takesTrackAt_5 (tgt := 20) rfl (fun c5 => ?_) (fun c5 => ?_)
  · have h := h.1 c5
    refine J_iconst C dX7_takesTrackAt_20 (rg_of (by decide)) ?_
    exact J_zret C dX7_takesTrackAt_21 M.2.2.1 (by decide) ⟨_, rfl, rfl, rfl, rfl, h⟩
  · have h := h.2 c5
    refine J_aload_n C dX7_takesTrackAt_8 rfl rfl ?_
    refine J_getI C fo_8_5 rfl fl_RX7_24 dX7_takesTrackAt_9 hK1 ?_
    refine J_iload_n C dX7_takesTrackAt_12 rfl rfl ?_
    refine J_icmp_ne C dX7_takesTrackAt_13 (tgt := 20) rfl (fun c13 => ?_) (fun c13 => ?_)
    · have h := h.1 c13
      refine J_iconst C dX7_takesTrackAt_20 (rg_of (by decide)) ?_
      exact J_zret C dX7_takesTrackAt_21 M.2.2.1 (by decide) ⟨_, rfl, rfl, rfl, rfl, h⟩
    · have h := h.2 c13
      refine J_iconst C dX7_takesTrackAt_16 (rg_of (by decide)) ?_
      refine J_goto C dX7_takesTrackAt_17 (tgt := 21) rfl ?_
      exact J_zret C dX7_takesTrackAt_21 M.2.2.1 (by decide) ⟨_, rfl, rfl, rfl, rfl, h⟩
theorem c_X7_takesTrackAt {l : Launch} {G : Gp} {d : Nat} {x0 : Nat} {x1 : Int} {S : Shp} {F : Fl} {I : Il} {Q : Int → Prop} (hl : l.stackTraces = false) (hd : 1 ≤ d) (h : V_X7_takesTrackAt x0 x1 S F I Q) : CM l G d yX7_takesTrackAt (.code yX7_takesTrackAt cX7_takesTrackAt 2 (some .boolean)) [vr (some x0), vi x1] S F I (qI fun z S' F' I' => S = S' ∧ F = F' ∧ I = I' ∧ Q z) noX :=
  CM_ofM [vr (some x0), vi x1] hl (by decide +kernel) (kn1 trivial (kn1 trivial kn0)) (Nat.le_of_ble_eq_true rfl) rfl (fun X hX C M => S_X7_takesTrackAt C M hd h)
set_option maxRecDepth 20000 in
set_option maxHeartbeats 4000000 in
theorem S_Jx4a65c_size_8abf5 {G : Gp} {X : Xt} {d : Nat}  {x0 : Nat} {Q : Int → Prop} {S : Shp} {F : Fl} {I : Il} (C : CO G RJx4a65c cJx4a65c_size_8abf5 1 X) (M : MX d (some .int) "size" X) (hd : 1 ≤ d)  (h : V_Jx4a65c_size_8abf5 x0 S F I Q) : J G X (QD X G (qI fun z S' F' I' => S = S' ∧ F = F' ∧ I = I' ∧ Q z) noX) 0 [vr (some x0)] [] S F I := by
  unfold V_Jx4a65c_size_8abf5 at h
  refine J_aload_n C dJx4a65c_size_8abf5_0 rfl rfl ?_
  obtain ⟨hK1, h⟩ := h
  refine J_getI C fo_0_2 rfl fl_RJx4a65c_48 dJx4a65c_size_8abf5_1 hK1 ?_
  exact J_iret C dJx4a65c_size_8abf5_4 M.2.2.1 ⟨_, rfl, rfl, rfl, rfl, h⟩
theorem c_Jx4a65c_size_8abf5 {l : Launch} {G : Gp} {d : Nat} {x0 : Nat} {S : Shp} {F : Fl} {I : Il} {Q : Int → Prop} (hl : l.stackTraces = false) (hd : 1 ≤ d) (h : V_Jx4a65c_size_8abf5 x0 S F I Q) : CM l G d yJx4a65c_size_8abf5 (.code yJx4a65c_size_8abf5 cJx4a65c_size_8abf5 1 (some .int)) [vr (some x0)] S F I (qI fun z S' F' I' => S = S' ∧ F = F' ∧ I = I' ∧ Q z) noX :=
  CM_ofM [vr (some x0)] hl (by decide +kernel) (kn1 trivial kn0) (Nat.le_of_ble_eq_true rfl) rfl (fun X hX C M => S_Jx4a65c_size_8abf5 C M hd h)
set_option maxRecDepth 20000 in
set_option maxHeartbeats 4000000 in
theorem S_J3_checkIndex_8e157_9 {G : Gp} {X : Xt} {d : Nat}  {x0 : Int} {x1 : Int} {Q : Int → Prop} {S : Shp} {F : Fl} {I : Il} (C : CO G RJ3 cJ3_checkIndex_8e157 3 X) (M : MX d (some .int) "checkIndex" X) (hd : 1 ≤ d)  (h : V_J3_checkIndex_8e157_9 x0 x1 S F I Q) : J G X (QD X G (qI fun z S' F' I' => S = S' ∧ F = F' ∧ I = I' ∧ Q z) noX) 9 [vi x0, vi x1, vr none] [] S F I := by
  unfold V_J3_checkIndex_8e157_9 at h
  refine J_aload_n C dJ3_checkIndex_8e157_9 rfl rfl ?_
  refine J_iload_n C dJ3_checkIndex_8e157_10 rfl rfl ?_
  refine J_iload_n C dJ3_checkIndex_8e157_11 rfl rfl ?_
  exact h.elim
set_option maxRecDepth 20000 in
set_option maxHeartbeats 4000000 in
theorem S_J3_checkIndex_8e157 {G : Gp} {X : Xt} {d : Nat}  {x0 : Int} {x1 : Int} {Q : Int → Prop} {S : Shp} {F : Fl} {I : Il} (C : CO G RJ3 cJ3_checkIndex_8e157 3 X) (M : MX d (some .int) "checkIndex" X) (hd : 1 ≤ d)  (h : V_J3_checkIndex_8e157 x0 x1 S F I Q) : J G X (QD X G (qI fun z S' F' I' => S = S' ∧ F = F' ∧ I = I' ∧ Q z) noX) 0 [vi x0, vi x1, vr none] [] S F I := by
  unfold V_J3_checkIndex_8e157 at h
  refine J_iload_n C dJ3_checkIndex_8e157_0 rfl rfl ?_
  refine J_if_lt C dJ3_checkIndex_8e157_1 (tgt := 9) rfl (fun c1 => ?_) (fun c1 => ?_)
  · have h := h.1 c1
    exact S_J3_checkIndex_8e157_9 C M (by omega)  h
  · have h := h.2 c1
    refine J_iload_n C dJ3_checkIndex_8e157_4 rfl rfl ?_
    refine J_iload_n C dJ3_checkIndex_8e157_5 rfl rfl ?_
    refine J_icmp_lt C dJ3_checkIndex_8e157_6 (tgt := 16) rfl (fun c6 => ?_) (fun c6 => ?_)
    · have h := h.1 c6
      refine J_iload_n C dJ3_checkIndex_8e157_16 rfl rfl ?_
      exact J_iret C dJ3_checkIndex_8e157_17 M.2.2.1 ⟨_, rfl, rfl, rfl, rfl, h⟩
    · have h := h.2 c6
      exact S_J3_checkIndex_8e157_9 C M (by omega)  h
theorem c_J3_checkIndex_8e157 {l : Launch} {G : Gp} {d : Nat} {x0 : Int} {x1 : Int} {S : Shp} {F : Fl} {I : Il} {Q : Int → Prop} (hl : l.stackTraces = false) (hd : 1 ≤ d) (h : V_J3_checkIndex_8e157 x0 x1 S F I Q) : CM l G d yJ3_checkIndex_8e157 (.code yJ3_checkIndex_8e157 cJ3_checkIndex_8e157 3 (some .int)) [vi x0, vi x1, vr none] S F I (qI fun z S' F' I' => S = S' ∧ F = F' ∧ I = I' ∧ Q z) noX :=
  CM_ofM [vi x0, vi x1, vr none] hl (by decide +kernel) (kn1 trivial (kn1 trivial (kn1 trivial kn0))) (Nat.le_of_ble_eq_true rfl) rfl (fun X hX C M => S_J3_checkIndex_8e157 C M hd h)
set_option maxRecDepth 20000 in
set_option maxHeartbeats 4000000 in
theorem S_J15_checkIndex_7cf53 {G : Gp} {X : Xt} {d : Nat}  {x0 : Int} {x1 : Int} {Q : Int → Prop} {S : Shp} {F : Fl} {I : Il} (C : CO G RJ15 cJ15_checkIndex_7cf53 2 X) (M : MX d (some .int) "checkIndex" X) (hd : 2 ≤ d)  (h : V_J15_checkIndex_7cf53 x0 x1 S F I Q) : J G X (QD X G (qI fun z S' F' I' => S = S' ∧ F = F' ∧ I = I' ∧ Q z) noX) 0 [vi x0, vi x1] [] S F I := by
  unfold V_J15_checkIndex_7cf53 at h
  obtain ⟨d, rfl⟩ : ∃ d9, d = d9 + 1 := ⟨d - 1, by omega⟩
  refine J_iload_n C dJ15_checkIndex_7cf53_0 rfl rfl ?_
  refine J_iload_n C dJ15_checkIndex_7cf53_1 rfl rfl ?_
  refine J_null C dJ15_checkIndex_7cf53_2 ?_
  refine K_S C M [vi x0, vi x1, vr none] [] mi_J3_checkIndex_8e157 wg_503 wg_504 dJ15_checkIndex_7cf53_3 rfl rfl (by decide) (Nat.le_of_ble_eq_true rfl) (c_J3_checkIndex_8e157 (C.2.2.2.2.2.2.2) (by omega) h) (fun v9 S' F' I' hq9 => ?_) K_no rfl
  clear h
  obtain ⟨z1, rfl, rfl, rfl, rfl, h⟩ := hq9
  exact J_iret C dJ15_checkIndex_7cf53_6 M.2.2.1 ⟨_, rfl, rfl, rfl, rfl, h⟩
theorem c_J15_checkIndex_7cf53 {l : Launch} {G : Gp} {d : Nat} {x0 : Int} {x1 : Int} {S : Shp} {F : Fl} {I : Il} {Q : Int → Prop} (hl : l.stackTraces = false) (hd : 2 ≤ d) (h : V_J15_checkIndex_7cf53 x0 x1 S F I Q) : CM l G d yJ15_checkIndex_7cf53 (.code yJ15_checkIndex_7cf53 cJ15_checkIndex_7cf53 2 (some .int)) [vi x0, vi x1] S F I (qI fun z S' F' I' => S = S' ∧ F = F' ∧ I = I' ∧ Q z) noX :=
  CM_ofM [vi x0, vi x1] hl (by decide +kernel) (kn1 trivial (kn1 trivial kn0)) (Nat.le_of_ble_eq_true rfl) rfl (fun X hX C M => S_J15_checkIndex_7cf53 C M hd h)
set_option maxRecDepth 20000 in
set_option maxHeartbeats 4000000 in
theorem S_Jx4a65c_elementData_915e3 {G : Gp} {X : Xt} {d : Nat}  {x0 : Nat} {x1 : Int} {Q : Nat → Prop} {S : Shp} {F : Fl} {I : Il} (C : CO G RJx4a65c cJx4a65c_elementData_915e3 2 X) (M : MX d (some (.object "java/lang/Object")) "elementData" X) (hd : 1 ≤ d)  (h : V_Jx4a65c_elementData_915e3 x0 x1 S F I Q) : J G X (QD X G (qR fun z S' F' I' => S = S' ∧ F = F' ∧ I = I' ∧ Q z) noX) 0 [vr (some x0), vi x1] [] S F I := by
  unfold V_Jx4a65c_elementData_915e3 at h
  refine J_aload_n C dJx4a65c_elementData_915e3_0 rfl rfl ?_
  obtain ⟨hK1, h⟩ := h
  obtain ⟨r2, hr3, h⟩ := h
  refine J_getR C fo_0_1 rfl fl_RJx4a65c_9 dJx4a65c_elementData_915e3_1 hK1 hr3 ?_
  refine J_iload_n C dJx4a65c_elementData_915e3_4 rfl rfl ?_
  obtain ⟨hK4, h⟩ := h
  obtain ⟨h05, hn6, r7, hr8, h⟩ := h
  refine J_aald C dJx4a65c_elementData_915e3_5 hK4 (by decide) (by decide) h05 hn6 hr8 ?_
  exact J_aret C dJx4a65c_elementData_915e3_6 M.2.2.1 (Or.inl ⟨_, rfl⟩) ⟨_, rfl, rfl, rfl, rfl, h⟩
theorem c_Jx4a65c_elementData_915e3 {l : Launch} {G : Gp} {d : Nat} {x0 : Nat} {x1 : Int} {S : Shp} {F : Fl} {I : Il} {Q : Nat → Prop} (hl : l.stackTraces = false) (hd : 1 ≤ d) (h : V_Jx4a65c_elementData_915e3 x0 x1 S F I Q) : CM l G d yJx4a65c_elementData_915e3 (.code yJx4a65c_elementData_915e3 cJx4a65c_elementData_915e3 2 (some (.object "java/lang/Object"))) [vr (some x0), vi x1] S F I (qR fun z S' F' I' => S = S' ∧ F = F' ∧ I = I' ∧ Q z) noX :=
  CM_ofM [vr (some x0), vi x1] hl (by decide +kernel) (kn1 trivial (kn1 trivial kn0)) (Nat.le_of_ble_eq_true rfl) rfl (fun X hX C M => S_Jx4a65c_elementData_915e3 C M hd h)
set_option maxRecDepth 20000 in
set_option maxHeartbeats 4000000 in
theorem S_Jx4a65c_get_915e3 {G : Gp} {X : Xt} {d : Nat}  {x0 : Nat} {x1 : Int} {Q : Nat → Prop} {S : Shp} {F : Fl} {I : Il} (C : CO G RJx4a65c cJx4a65c_get_915e3 2 X) (M : MX d (some (.object "java/lang/Object")) "get" X) (hd : 3 ≤ d)  (h : V_Jx4a65c_get_915e3 x0 x1 S F I Q) : J G X (QD X G (qR fun z S' F' I' => S = S' ∧ F = F' ∧ I = I' ∧ Q z) noX) 0 [vr (some x0), vi x1] [] S F I := by
  unfold V_Jx4a65c_get_915e3 at h
  obtain ⟨d, rfl⟩ : ∃ d9, d = d9 + 1 := ⟨d - 1, by omega⟩
  refine J_iload_n C dJx4a65c_get_915e3_0 rfl rfl ?_
  refine J_aload_n C dJx4a65c_get_915e3_1 rfl rfl ?_
  obtain ⟨hK1, h⟩ := h
  refine J_getI C fo_0_2 rfl fl_RJx4a65c_48 dJx4a65c_get_915e3_2 hK1 ?_
  refine K_S C M [vi x1, vi (F 2 x0)] [] mi_J15_checkIndex_7cf53 wg_500 wg_501 dJx4a65c_get_915e3_5 rfl rfl (by decide) (Nat.le_of_ble_eq_true rfl) (c_J15_checkIndex_7cf53 (C.2.2.2.2.2.2.2) (by omega) h) (fun v9 S' F' I' hq9 => ?_) K_no rfl
  clear h
  obtain ⟨z2, rfl, rfl, rfl, rfl, h⟩ := hq9
  refine J_pop C dJx4a65c_get_915e3_8 trivial ?_
  refine J_aload_n C dJx4a65c_get_915e3_9 rfl rfl ?_
  refine J_iload_n C dJx4a65c_get_915e3_10 rfl rfl ?_
  refine K_V C M [vi x1] [] mi_Jx4a65c_elementData_915e3 wg_506 wg_507 wg_508 ⟨rfl, by decide⟩ dJx4a65c_get_915e3_11 hK1 rfl rfl (by decide) (Nat.le_of_ble_eq_true rfl) (c_Jx4a65c_elementData_915e3 (C.2.2.2.2.2.2.2) (by omega) h) (fun v9 S' F' I' hq9 => ?_) K_no rfl
  clear h
  obtain ⟨z3, rfl, rfl, rfl, rfl, h⟩ := hq9
  exact J_aret C dJx4a65c_get_915e3_14 M.2.2.1 (Or.inl ⟨_, rfl⟩) ⟨_, rfl, rfl, rfl, rfl, h⟩
theorem c_Jx4a65c_get_915e3 {l : Launch} {G : Gp} {d : Nat} {x0 : Nat} {x1 : Int} {S : Shp} {F : Fl} {I : Il} {Q : Nat → Prop} (hl : l.stackTraces = false) (hd : 3 ≤ d) (h : V_Jx4a65c_get_915e3 x0 x1 S F I Q) : CM l G d yJx4a65c_get_915e3 (.code yJx4a65c_get_915e3 cJx4a65c_get_915e3 2 (some (.object "java/lang/Object"))) [vr (some x0), vi x1] S F I (qR fun z S' F' I' => S = S' ∧ F = F' ∧ I = I' ∧ Q z) noX :=
  CM_ofM [vr (some x0), vi x1] hl (by decide +kernel) (kn1 trivial (kn1 trivial kn0)) (Nat.le_of_ble_eq_true rfl) rfl (fun X hX C M => S_Jx4a65c_get_915e3 C M hd h)
set_option maxRecDepth 20000 in
set_option maxHeartbeats 4000000 in
theorem S_J8_newLength_cabcc_21 {G : Gp} {X : Xt} {d : Nat}  {x0 : Int} {x1 : Int} {Q : Int → Prop} {S : Shp} {F : Fl} {I : Il} (C : CO G RJ8 cJ8_newLength_cabcc 4 X) (M : MX d (some .int) "newLength" X) (hd : 1 ≤ d)  (h : V_J8_newLength_cabcc_21 x0 x1 S F I Q) : J G X (QD X G (qI fun z S' F' I' => S = S' ∧ F = F' ∧ I = I' ∧ Q z) noX) 21 [vi x0, vi x1, vl 0, vl 0] [] S F I := by
  unfold V_J8_newLength_cabcc_21 at h
  refine J_iload_n C dJ8_newLength_cabcc_21 rfl rfl ?_
  refine J_iload_n C dJ8_newLength_cabcc_22 rfl rfl ?_
  exact h.elim
set_option maxRecDepth 20000 in
set_option maxHeartbeats 4000000 in
theorem S_J8_newLength_cabcc {G : Gp} {X : Xt} {d : Nat}  {x0 : Int} {x1 : Int} {x2 : Int} {Q : Int → Prop} {S : Shp} {F : Fl} {I : Il} (C : CO G RJ8 cJ8_newLength_cabcc 4 X) (M : MX d (some .int) "newLength" X) (hd : 1 ≤ d)  (h : V_J8_newLength_cabcc x0 x1 x2 S F I Q) : J G X (QD X G (qI fun z S' F' I' => S = S' ∧ F = F' ∧ I = I' ∧ Q z) noX) 0 [vi x0, vi x1, vi x2, vl 0] [] S F I := by
  unfold V_J8_newLength_cabcc at h
  obtain ⟨d, rfl⟩ : ∃ d9, d = d9 + 1 := ⟨d - 1, by omega⟩
  refine J_iload_n C dJ8_newLength_cabcc_0 rfl rfl ?_
  refine J_iload_n C dJ8_newLength_cabcc_1 rfl rfl ?_
  refine J_iload_n C dJ8_newLength_cabcc_2 rfl rfl ?_
  refine K_mmax C M wg_448 dJ8_newLength_cabcc_3 rfl (Nat.le_of_ble_eq_true rfl) ?_
  refine J_iadd C dJ8_newLength_cabcc_6 ?_
  refine K_istore_n C [vi x0, vi x1, vi x2, vi (w32 (x0 + (if x1 < x2 then x2 else x1)))] dJ8_newLength_cabcc_7 rfl (Nat.le_of_ble_eq_true rfl) rfl ?_
  refine J_iconst C dJ8_newLength_cabcc_8 (rg_of (by decide)) ?_
  refine J_iload_n C dJ8_newLength_cabcc_9 rfl rfl ?_
  refine J_icmp_ge C dJ8_newLength_cabcc_10 (tgt := 21) rfl (fun c10 => ?_) (fun c10 => ?_)
  · have h := h.1 c10
    refine J_less [vi x0, vi x1, vl 0, vl 0] (by unfold lessL; simp [lessL]) ?_
    exact S_J8_newLength_cabcc_21 C M (by omega)  h
  · have h := h.2 c10
    refine J_iload_n C dJ8_newLength_cabcc_13 rfl rfl ?_
    refine J_ldc C dJ8_newLength_cabcc_14 (z := 2147483639) wg_451 (by decide +kernel) (rg_of (by decide)) ?_
    refine J_icmp_gt C dJ8_newLength_cabcc_16 (tgt := 21) rfl (fun c16 => ?_) (fun c16 => ?_)
    · have h := h.1 c16
      refine J_less [vi x0, vi x1, vl 0, vl 0] (by unfold lessL; simp [lessL]) ?_
      exact S_J8_newLength_cabcc_21 C M (by omega)  h
    · have h := h.2 c16
      refine J_iload_n C dJ8_newLength_cabcc_19 rfl rfl ?_
      exact J_iret C dJ8_newLength_cabcc_20 M.2.2.1 ⟨_, rfl, rfl, rfl, rfl, h⟩
theorem c_J8_newLength_cabcc {l : Launch} {G : Gp} {d : Nat} {x0 : Int} {x1 : Int} {x2 : Int} {S : Shp} {F : Fl} {I : Il} {Q : Int → Prop} (hl : l.stackTraces = false) (hd : 1 ≤ d) (h : V_J8_newLength_cabcc x0 x1 x2 S F I Q) : CM l G d yJ8_newLength_cabcc (.code yJ8_newLength_cabcc cJ8_newLength_cabcc 4 (some .int)) [vi x0, vi x1, vi x2] S F I (qI fun z S' F' I' => S = S' ∧ F = F' ∧ I = I' ∧ Q z) noX :=
  CM_ofM [vi x0, vi x1, vi x2, vl 0] hl (by decide +kernel) (kn1 trivial (kn1 trivial (kn1 trivial kn0))) (Nat.le_of_ble_eq_true rfl) rfl (fun X hX C M => S_J8_newLength_cabcc C M hd h)
set_option maxRecDepth 20000 in
set_option maxHeartbeats 4000000 in
theorem S_J7_copyOf_6403c_24 {G : Gp} {X : Xt} {d : Nat}  {x0 : Nat} {x1 : Int} {s0 : Nat} {Q : Nat → Shp → Il → Prop} {S : Shp} {F : Fl} {I : Il} (C : CO G RJ7 cJ7_copyOf_6403c 4 X) (M : MX d (some (.array (.object "java/lang/Object"))) "copyOf" X) (hd : 2 ≤ d)  (h : V_J7_copyOf_6403c_24 G x0 x1 s0 S F I Q) : J G X (QD X G (qR fun z S' F' I' => F = F' ∧ Q z S' I') noX) 24 [vr (some x0), vi x1, vl 0, vl 0] [vr (some s0)] S F I := by
  unfold V_J7_copyOf_6403c_24 at h
  obtain ⟨d, rfl⟩ : ∃ d9, d = d9 + 1 := ⟨d - 1, by omega⟩
  refine K_astore_n C [vr (some x0), vi x1, vl 0, vr (some s0)] dJ7_copyOf_6403c_24 rfl (Nat.le_of_ble_eq_true rfl) rfl ?_
  refine J_aload_n C dJ7_copyOf_6403c_25 rfl rfl ?_
  refine J_iconst C dJ7_copyOf_6403c_26 (rg_of (by decide)) ?_
  refine J_aload_n C dJ7_copyOf_6403c_27 rfl rfl ?_
  refine J_iconst C dJ7_copyOf_6403c_28 (rg_of (by decide)) ?_
  refine J_aload_n C dJ7_copyOf_6403c_29 rfl rfl ?_
  obtain ⟨n1, hl2, hn3, h⟩ := h
  refine K_alenO C dJ7_copyOf_6403c_30 hl2 hn3 ?_
  refine J_iload_n C dJ7_copyOf_6403c_31 rfl rfl ?_
  refine K_mmin C M wg_480 dJ7_copyOf_6403c_32 rfl (Nat.le_of_ble_eq_true rfl) ?_
  obtain ⟨hK4, h⟩ := h
  obtain ⟨hK5, h⟩ := h
  obtain ⟨hc6, ho7, h⟩ := h
  refine K_copyQ C M wg_483 dJ7_copyOf_6403c_35 hK4 hK5 hc6 ho7 rfl (Nat.le_of_ble_eq_true rfl) ?_
  refine J_aload_n C dJ7_copyOf_6403c_38 rfl rfl ?_
  exact J_aret C dJ7_copyOf_6403c_39 M.2.2.1 (Or.inr ⟨_, rfl⟩) ⟨_, rfl, rfl, h⟩
set_option maxRecDepth 20000 in
set_option maxHeartbeats 4000000 in
theorem S_J7_copyOf_6403c {G : Gp} {X : Xt} {d : Nat}  {x0 : Nat} {x1 : Int} {x2 : Nat} {Q : Nat → Shp → Il → Prop} {S : Shp} {F : Fl} {I : Il} (C : CO G RJ7 cJ7_copyOf_6403c 4 X) (M : MX d (some (.array (.object "java/lang/Object"))) "copyOf" X) (hd : 2 ≤ d)  (h : V_J7_copyOf_6403c G x0 x1 x2 S F I Q) : J G X (QD X G (qR fun z S' F' I' => F = F' ∧ Q z S' I') noX) 0 [vr (some x0), vi x1, vr (some x2), vl 0] [] S F I := by
  unfold V_J7_copyOf_6403c at h
  refine J_aload_n C dJ7_copyOf_6403c_0 rfl rfl ?_
  refine K_ldcM C wg_477 dJ7_copyOf_6403c_1 ?_
  refine J_acmp_ne C dJ7_copyOf_6403c_3 (tgt := 13) rfl (fun c3 => ?_) (fun c3 => ?_)
  · have h := h.1 c3
    refine J_aload_n C dJ7_copyOf_6403c_13 rfl rfl ?_
    exact h.elim
  · have h := h.2 c3
    refine J_iload_n C dJ7_copyOf_6403c_6 rfl rfl ?_
    obtain ⟨n5, hz6, hl7, ha3, hb4, h⟩ := h
    refine J_newQ C (k := 25) (n := n5) (by decide) rfl hz6 wg_479 (by decide) dJ7_copyOf_6403c_7 hl7 ha3 hb4 (fun q1 hq2 => ?_)
    have h := h q1 hq2
    refine J_goto C dJ7_copyOf_6403c_10 (tgt := 24) rfl ?_
    refine J_less [vr (some x0), vi x1, vl 0, vl 0] (by unfold lessL; simp [lessL]) ?_
    exact S_J7_copyOf_6403c_24 C M (by omega)  h
theorem c_J7_copyOf_6403c {l : Launch} {G : Gp} {d : Nat} {x0 : Nat} {x1 : Int} {x2 : Nat} {S : Shp} {F : Fl} {I : Il} {Q : Nat → Shp → Il → Prop} (hl : l.stackTraces = false) (hd : 2 ≤ d) (h : V_J7_copyOf_6403c G x0 x1 x2 S F I Q) : CM l G d yJ7_copyOf_6403c (.code yJ7_copyOf_6403c cJ7_copyOf_6403c 4 (some (.array (.object "java/lang/Object")))) [vr (some x0), vi x1, vr (some x2)] S F I (qR fun z S' F' I' => F = F' ∧ Q z S' I') noX :=
  CM_ofM [vr (some x0), vi x1, vr (some x2), vl 0] hl (by decide +kernel) (kn1 trivial (kn1 trivial (kn1 trivial kn0))) (Nat.le_of_ble_eq_true rfl) rfl (fun X hX C M => S_J7_copyOf_6403c C M hd h)
set_option maxRecDepth 20000 in
set_option maxHeartbeats 4000000 in
theorem S_J7_copyOf_1904c {G : Gp} {X : Xt} {d : Nat}  {x0 : Nat} {x1 : Int} {Q : Nat → Shp → Il → Prop} {S : Shp} {F : Fl} {I : Il} (C : CO G RJ7 cJ7_copyOf_1904c 2 X) (M : MX d (some (.array (.object "java/lang/Object"))) "copyOf" X) (hd : 3 ≤ d)  (h : V_J7_copyOf_1904c G x0 x1 S F I Q) : J G X (QD X G (qR fun z S' F' I' => F = F' ∧ Q z S' I') noX) 0 [vr (some x0), vi x1] [] S F I := by
  unfold V_J7_copyOf_1904c at h
  obtain ⟨d, rfl⟩ : ∃ d9, d = d9 + 1 := ⟨d - 1, by omega⟩
  refine J_aload_n C dJ7_copyOf_1904c_0 rfl rfl ?_
  refine J_iload_n C dJ7_copyOf_1904c_1 rfl rfl ?_
  refine J_aload_n C dJ7_copyOf_1904c_2 rfl rfl ?_
  obtain ⟨hK1, h⟩ := h
  refine K_getC C M wg_458 dJ7_copyOf_1904c_3 hK1 rfl (Nat.le_of_ble_eq_true rfl) ?_
  refine K_S C M [vr (some x0), vi x1, vr (some (gM G))] [] mi_J7_copyOf_6403c wg_474 wg_475 dJ7_copyOf_1904c_6 rfl rfl (by decide) (Nat.le_of_ble_eq_true rfl) (c_J7_copyOf_6403c (C.2.2.2.2.2.2.2) (by omega) h) (fun v9 S3 F' I4 hq9 => ?_) K_no rfl
  clear h
  obtain ⟨z2, rfl, rfl, h⟩ := hq9
  exact J_aret C dJ7_copyOf_1904c_9 M.2.2.1 (Or.inr ⟨_, rfl⟩) ⟨_, rfl, rfl, h⟩
theorem c_J7_copyOf_1904c {l : Launch} {G : Gp} {d : Nat} {x0 : Nat} {x1 : Int} {S : Shp} {F : Fl} {I : Il} {Q : Nat → Shp → Il → Prop} (hl : l.stackTraces = false) (hd : 3 ≤ d) (h : V_J7_copyOf_1904c G x0 x1 S F I Q) : CM l G d yJ7_copyOf_1904c (.code yJ7_copyOf_1904c cJ7_copyOf_1904c 2 (some (.array (.object "java/lang/Object")))) [vr (some x0), vi x1] S F I (qR fun z S' F' I' => F = F' ∧ Q z S' I') noX :=
  CM_ofM [vr (some x0), vi x1] hl (by decide +kernel) (kn1 trivial (kn1 trivial kn0)) (Nat.le_of_ble_eq_true rfl) rfl (fun X hX C M => S_J7_copyOf_1904c C M hd h)
set_option maxRecDepth 20000 in
set_option maxHeartbeats 4000000 in
theorem S_Jx4a65c_grow_92f84_20 {G : Gp} {X : Xt} {d : Nat}  {x0 : Nat} {x1 : Int} {x2 : Int} {Q : Nat → Shp → Il → Prop} {S : Shp} {F : Fl} {I : Il} (C : CO G RJx4a65c cJx4a65c_grow_92f84 4 X) (M : MX d (some (.array (.object "java/lang/Object"))) "grow" X) (hd : 4 ≤ d)  (h : V_Jx4a65c_grow_92f84_20 G x0 x1 x2 S F I Q) : J G X (QD X G (qR fun z S' F' I' => F = F' ∧ Q z S' I') noX) 20 [vr (some x0), vi x1, vi x2, vl 0] [] S F I := by
  unfold V_Jx4a65c_grow_92f84_20 at h
  obtain ⟨d, rfl⟩ : ∃ d9, d = d9 + 1 := ⟨d - 1, by omega⟩
  refine J_iload_n C dJx4a65c_grow_92f84_20 rfl rfl ?_
  refine J_iload_n C dJx4a65c_grow_92f84_21 rfl rfl ?_
  refine J_iload_n C dJx4a65c_grow_92f84_22 rfl rfl ?_
  refine J_isub C dJx4a65c_grow_92f84_23 ?_
  refine J_iload_n C dJx4a65c_grow_92f84_24 rfl rfl ?_
  refine J_iconst C dJx4a65c_grow_92f84_25 (rg_of (by decide)) ?_
  refine J_ishr C dJx4a65c_grow_92f84_26 ?_
  refine K_S C M [vi x2, vi (w32 (x1 - x2)), vi (ishr x2 1)] [] mi_J8_newLength_cabcc wg_445 wg_446 dJx4a65c_grow_92f84_27 rfl rfl (by decide) (Nat.le_of_ble_eq_true rfl) (c_J8_newLength_cabcc (C.2.2.2.2.2.2.2) (by omega) h) (fun v9 S' F' I' hq9 => ?_) K_no rfl
  clear h
  obtain ⟨z1, rfl, rfl, rfl, rfl, h⟩ := hq9
  refine K_istore_n C [vr (some x0), vi x1, vi x2, vi z1] dJx4a65c_grow_92f84_30 rfl (Nat.le_of_ble_eq_true rfl) rfl ?_
  refine J_aload_n C dJx4a65c_grow_92f84_31 rfl rfl ?_
  refine J_aload_n C dJx4a65c_grow_92f84_32 rfl rfl ?_
  obtain ⟨hK2, h⟩ := h
  obtain ⟨r3, hr4, h⟩ := h
  refine J_getR C fo_0_1 rfl fl_RJx4a65c_9 dJx4a65c_grow_92f84_33 hK2 hr4 ?_
  refine J_iload_n C dJx4a65c_grow_92f84_36 rfl rfl ?_
  refine K_S C M [vr (some r3), vi z1] [vr (some x0)] mi_J7_copyOf_1904c wg_455 wg_456 dJx4a65c_grow_92f84_37 rfl rfl (by decide) (Nat.le_of_ble_eq_true rfl) (c_J7_copyOf_1904c (C.2.2.2.2.2.2.2) (by omega) h) (fun v9 S6 F' I7 hq9 => ?_) K_no rfl
  clear h
  obtain ⟨z5, rfl, rfl, h⟩ := hq9
  refine J_dup_x1 C dJx4a65c_grow_92f84_40 trivial trivial ?_
  obtain ⟨hK8, h⟩ := h
  refine J_putR C fo_0_1 fp_0 rfl wg_77 rfl (Or.inl rfl) dJx4a65c_grow_92f84_41 hK8 ?_
  exact J_aret C dJx4a65c_grow_92f84_44 M.2.2.1 (Or.inr ⟨_, rfl⟩) ⟨_, rfl, rfl, h⟩
set_option maxRecDepth 20000 in
set_option maxHeartbeats 4000000 in
theorem S_Jx4a65c_grow_92f84 {G : Gp} {X : Xt} {d : Nat}  {x0 : Nat} {x1 : Int} {Q : Nat → Shp → Il → Prop} {S : Shp} {F : Fl} {I : Il} (C : CO G RJx4a65c cJx4a65c_grow_92f84 4 X) (M : MX d (some (.array (.object "java/lang/Object"))) "grow" X) (hd : 4 ≤ d)  (h : V_Jx4a65c_grow_92f84 G x0 x1 S F I Q) : J G X (QD X G (qR fun z S' F' I' => F = F' ∧ Q z S' I') noX) 0 [vr (some x0), vi x1, vl 0, vl 0] [] S F I := by
  unfold V_Jx4a65c_grow_92f84 at h
  obtain ⟨d, rfl⟩ : ∃ d9, d = d9 + 1 := ⟨d - 1, by omega⟩
  refine J_aload_n C dJx4a65c_grow_92f84_0 rfl rfl ?_
  obtain ⟨hK1, h⟩ := h
  obtain ⟨r2, hr3, h⟩ := h
  refine J_getR C fo_0_1 rfl fl_RJx4a65c_9 dJx4a65c_grow_92f84_1 hK1 hr3 ?_
  obtain ⟨n4, hl5, hn6, h⟩ := h
  refine K_alenO C dJx4a65c_grow_92f84_4 hl5 hn6 ?_
  refine K_istore_n C [vr (some x0), vi x1, vi (n4 : Int), vl 0] dJx4a65c_grow_92f84_5 rfl (Nat.le_of_ble_eq_true rfl) rfl ?_
  refine J_iload_n C dJx4a65c_grow_92f84_6 rfl rfl ?_
  refine J_if_gt C dJx4a65c_grow_92f84_7 (tgt := 20) rfl (fun c7 => ?_) (fun c7 => ?_)
  · have h := h.1 c7
    exact S_Jx4a65c_grow_92f84_20 C M (by omega)  h
  · have h := h.2 c7
    refine J_aload_n C dJx4a65c_grow_92f84_10 rfl rfl ?_
    refine J_getR C fo_0_1 rfl fl_RJx4a65c_9 dJx4a65c_grow_92f84_11 hK1 hr3 ?_
    refine K_getZ C wg_75 dJx4a65c_grow_92f84_14 ?_
    refine J_acmp_eq C dJx4a65c_grow_92f84_17 (tgt := 45) rfl (fun c17 => ?_) (fun c17 => ?_)
    · have h := h.1 c17
      refine J_aload_n C dJx4a65c_grow_92f84_45 rfl rfl ?_
      refine J_bipush C dJx4a65c_grow_92f84_46 (by decide +kernel) (rg_of (by decide)) ?_
      refine J_iload_n C dJx4a65c_grow_92f84_48 rfl rfl ?_
      refine K_mmax C M wg_486 dJx4a65c_grow_92f84_49 rfl (Nat.le_of_ble_eq_true rfl) ?_
      obtain ⟨n11, hz12, hl13, ha9, hb10, h⟩ := h
      refine J_newQ C (k := 25) (n := n11) (by decide) rfl hz12 wg_487 (by decide) dJx4a65c_grow_92f84_52 hl13 ha9 hb10 (fun q7 hq8 => ?_)
      have h := h q7 hq8
      refine J_dup_x1 C dJx4a65c_grow_92f84_55 trivial trivial ?_
      obtain ⟨hK14, h⟩ := h
      refine J_putR C fo_0_1 fp_0 rfl wg_77 rfl (Or.inl rfl) dJx4a65c_grow_92f84_56 hK14 ?_
      exact J_aret C dJx4a65c_grow_92f84_59 M.2.2.1 (Or.inr ⟨_, rfl⟩) ⟨_, rfl, rfl, h⟩
    · have h := h.2 c17
      exact S_Jx4a65c_grow_92f84_20 C M (by omega)  h
theorem c_Jx4a65c_grow_92f84 {l : Launch} {G : Gp} {d : Nat} {x0 : Nat} {x1 : Int} {S : Shp} {F : Fl} {I : Il} {Q : Nat → Shp → Il → Prop} (hl : l.stackTraces = false) (hd : 4 ≤ d) (h : V_Jx4a65c_grow_92f84 G x0 x1 S F I Q) : CM l G d yJx4a65c_grow_92f84 (.code yJx4a65c_grow_92f84 cJx4a65c_grow_92f84 4 (some (.array (.object "java/lang/Object")))) [vr (some x0), vi x1] S F I (qR fun z S' F' I' => F = F' ∧ Q z S' I') noX :=
  CM_ofM [vr (some x0), vi x1, vl 0, vl 0] hl (by decide +kernel) (kn1 trivial (kn1 trivial kn0)) (Nat.le_of_ble_eq_true rfl) rfl (fun X hX C M => S_Jx4a65c_grow_92f84 C M hd h)
set_option maxRecDepth 20000 in
set_option maxHeartbeats 4000000 in
theorem S_Jx4a65c_grow_d5877 {G : Gp} {X : Xt} {d : Nat}  {x0 : Nat} {Q : Nat → Shp → Il → Prop} {S : Shp} {F : Fl} {I : Il} (C : CO G RJx4a65c cJx4a65c_grow_d5877 1 X) (M : MX d (some (.array (.object "java/lang/Object"))) "grow" X) (hd : 5 ≤ d)  (h : V_Jx4a65c_grow_d5877 G x0 S F I Q) : J G X (QD X G (qR fun z S' F' I' => F = F' ∧ Q z S' I') noX) 0 [vr (some x0)] [] S F I := by
  unfold V_Jx4a65c_grow_d5877 at h
  obtain ⟨d, rfl⟩ : ∃ d9, d = d9 + 1 := ⟨d - 1, by omega⟩
  refine J_aload_n C dJx4a65c_grow_d5877_0 rfl rfl ?_
  refine J_aload_n C dJx4a65c_grow_d5877_1 rfl rfl ?_
  obtain ⟨hK1, h⟩ := h
  refine J_getI C fo_0_2 rfl fl_RJx4a65c_48 dJx4a65c_grow_d5877_2 hK1 ?_
  refine J_iconst C dJx4a65c_grow_d5877_5 (rg_of (by decide)) ?_
  refine J_iadd C dJx4a65c_grow_d5877_6 ?_
  refine K_V C M [vi (w32 ((F 2 x0) + 1))] [] mi_Jx4a65c_grow_92f84 wg_441 wg_443 wg_4 ⟨rfl, by decide⟩ dJx4a65c_grow_d5877_7 hK1 rfl rfl (by decide) (Nat.le_of_ble_eq_true rfl) (c_Jx4a65c_grow_92f84 (C.2.2.2.2.2.2.2) (by omega) h) (fun v9 S3 F' I4 hq9 => ?_) K_no rfl
  clear h
  obtain ⟨z2, rfl, rfl, h⟩ := hq9
  exact J_aret C dJx4a65c_grow_d5877_10 M.2.2.1 (Or.inr ⟨_, rfl⟩) ⟨_, rfl, rfl, h⟩
theorem c_Jx4a65c_grow_d5877 {l : Launch} {G : Gp} {d : Nat} {x0 : Nat} {S : Shp} {F : Fl} {I : Il} {Q : Nat → Shp → Il → Prop} (hl : l.stackTraces = false) (hd : 5 ≤ d) (h : V_Jx4a65c_grow_d5877 G x0 S F I Q) : CM l G d yJx4a65c_grow_d5877 (.code yJx4a65c_grow_d5877 cJx4a65c_grow_d5877 1 (some (.array (.object "java/lang/Object")))) [vr (some x0)] S F I (qR fun z S' F' I' => F = F' ∧ Q z S' I') noX :=
  CM_ofM [vr (some x0)] hl (by decide +kernel) (kn1 trivial kn0) (Nat.le_of_ble_eq_true rfl) rfl (fun X hX C M => S_Jx4a65c_grow_d5877 C M hd h)
set_option maxRecDepth 20000 in
set_option maxHeartbeats 4000000 in
theorem S_Jx4a65c_add_72be8_11 {G : Gp} {X : Xt} {d : Nat}  {x0 : Nat} {x1 : Nat} {x2 : Nat} {x3 : Int} {Q : Shp → Fl → Il → Prop} {S : Shp} {F : Fl} {I : Il} (C : CO G RJx4a65c cJx4a65c_add_72be8 4 X) (M : MX d none "add" X) (hd : 6 ≤ d)  (h : V_Jx4a65c_add_72be8_11 G x0 x1 x2 x3 S F I Q) : J G X (QD X G (qV fun S' F' I' => Q S' F' I') noX) 11 [vr (some x0), vr (some x1), vr (some x2), vi x3] [] S F I := by
  unfold V_Jx4a65c_add_72be8_11 at h
  refine J_aload_n C dJx4a65c_add_72be8_11 rfl rfl ?_
  refine J_iload_n C dJx4a65c_add_72be8_12 rfl rfl ?_
  refine J_aload_n C dJx4a65c_add_72be8_13 rfl rfl ?_
  obtain ⟨hK1, h⟩ := h
  obtain ⟨ho4, h⟩ := h
  obtain ⟨h02, hn3, h⟩ := h
  refine K_aastO C dJx4a65c_add_72be8_14 hK1 ho4 h02 hn3 ?_
  refine J_aload_n C dJx4a65c_add_72be8_15 rfl rfl ?_
  refine J_iload_n C dJx4a65c_add_72be8_16 rfl rfl ?_
  refine J_iconst C dJx4a65c_add_72be8_17 (rg_of (by decide)) ?_
  refine J_iadd C dJx4a65c_add_72be8_18 ?_
  obtain ⟨hK5, h⟩ := h
  refine J_putI C fo_0_2 fp_0 fl_RJx4a65c_48 (Or.inl rfl) (Or.inl rfl) dJx4a65c_add_72be8_19 hK5 ?_
  exact J_vret C dJx4a65c_add_72be8_22 M.2.2.1 ⟨rfl, h⟩
set_option maxRecDepth 20000 in
set_option maxHeartbeats 4000000 in
theorem S_Jx4a65c_add_72be8 {G : Gp} {X : Xt} {d : Nat}  {x0 : Nat} {x1 : Nat} {x2 : Nat} {x3 : Int} {Q : Shp → Fl → Il → Prop} {S : Shp} {F : Fl} {I : Il} (C : CO G RJx4a65c cJx4a65c_add_72be8 4 X) (M : MX d none "add" X) (hd : 6 ≤ d)  (h : V_Jx4a65c_add_72be8 G x0 x1 x2 x3 S F I Q) : J G X (QD X G (qV fun S' F' I' => Q S' F' I') noX) 0 [vr (some x0), vr (some x1), vr (some x2), vi x3] [] S F I := by
  unfold V_Jx4a65c_add_72be8 at h
  obtain ⟨d, rfl⟩ : ∃ d9, d = d9 + 1 := ⟨d - 1, by omega⟩
  refine J_iload_n C dJx4a65c_add_72be8_0 rfl rfl ?_
  refine J_aload_n C dJx4a65c_add_72be8_1 rfl rfl ?_
  obtain ⟨n1, hl2, hn3, h⟩ := h
  refine K_alenO C dJx4a65c_add_72be8_2 hl2 hn3 ?_
  refine J_icmp_ne C dJx4a65c_add_72be8_3 (tgt := 11) rfl (fun c3 => ?_) (fun c3 => ?_)
  · have h := h.1 c3
    exact S_Jx4a65c_add_72be8_11 C M (by omega)  h
  · have h := h.2 c3
    refine J_aload_n C dJx4a65c_add_72be8_6 rfl rfl ?_
    obtain ⟨hK4, h⟩ := h
    refine K_V C M [] [] mi_Jx4a65c_grow_d5877 wg_437 wg_439 wg_3 ⟨rfl, by decide⟩ dJx4a65c_add_72be8_7 hK4 rfl rfl (by decide) (Nat.le_of_ble_eq_true rfl) (c_Jx4a65c_grow_d5877 (C.2.2.2.2.2.2.2) (by omega) h) (fun v9 S6 F' I7 hq9 => ?_) K_no rfl
    clear h
    obtain ⟨z5, rfl, rfl, h⟩ := hq9
    refine K_astore_n C [vr (some x0), vr (some x1), vr (some z5), vi x3] dJx4a65c_add_72be8_10 rfl (Nat.le_of_ble_eq_true rfl) rfl ?_
    exact S_Jx4a65c_add_72be8_11 C M (by omega)  h
theorem c_Jx4a65c_add_72be8 {l : Launch} {G : Gp} {d : Nat} {x0 : Nat} {x1 : Nat} {x2 : Nat} {x3 : Int} {S : Shp} {F : Fl} {I : Il} {Q : Shp → Fl → Il → Prop} (hl : l.stackTraces = false) (hd : 6 ≤ d) (h : V_Jx4a65c_add_72be8 G x0 x1 x2 x3 S F I Q) : CM l G d yJx4a65c_add_72be8 (.code yJx4a65c_add_72be8 cJx4a65c_add_72be8 4 none) [vr (some x0), vr (some x1), vr (some x2), vi x3] S F I (qV fun S' F' I' => Q S' F' I') noX :=
  CM_ofM [vr (some x0), vr (some x1), vr (some x2), vi x3] hl (by decide +kernel) (kn1 trivial (kn1 trivial (kn1 trivial (kn1 trivial kn0)))) (Nat.le_of_ble_eq_true rfl) rfl (fun X hX C M => S_Jx4a65c_add_72be8 C M hd h)
set_option maxRecDepth 20000 in
set_option maxHeartbeats 4000000 in
theorem S_Jx4a65c_add_9ea2d {G : Gp} {X : Xt} {d : Nat}  {x0 : Nat} {x1 : Nat} {Q : Int → Shp → Fl → Il → Prop} {S : Shp} {F : Fl} {I : Il} (C : CO G RJx4a65c cJx4a65c_add_9ea2d 2 X) (M : MX d (some .boolean) "add" X) (hd : 7 ≤ d)  (h : V_Jx4a65c_add_9ea2d G x0 x1 S F I Q) : J G X (QD X G (qI fun z S' F' I' => Q z S' F' I') noX) 0 [vr (some x0), vr (some x1)] [] S F I := by
  unfold V_Jx4a65c_add_9ea2d at h
  obtain ⟨d, rfl⟩ : ∃ d9, d = d9 + 1 := ⟨d - 1, by omega⟩
  refine J_aload_n C dJx4a65c_add_9ea2d_0 rfl rfl ?_
  refine J_dup C dJx4a65c_add_9ea2d_1 trivial ?_
  obtain ⟨hK1, h⟩ := h
  refine J_getI C fo_0_0 rfl fl_RJx4a65c_63 dJx4a65c_add_9ea2d_2 hK1 ?_
  refine J_iconst C dJx4a65c_add_9ea2d_5 (rg_of (by decide)) ?_
  refine J_iadd C dJx4a65c_add_9ea2d_6 ?_
  refine J_putI C fo_0_0 fp_0 fl_RJx4a65c_63 (Or.inl rfl) (Or.inl rfl) dJx4a65c_add_9ea2d_7 hK1 ?_
  refine J_aload_n C dJx4a65c_add_9ea2d_10 rfl rfl ?_
  refine J_aload_n C dJx4a65c_add_9ea2d_11 rfl rfl ?_
  refine J_aload_n C dJx4a65c_add_9ea2d_12 rfl rfl ?_
  obtain ⟨r2, hr3, h⟩ := h
  refine J_getR C fo_0_1 rfl fl_RJx4a65c_9 dJx4a65c_add_9ea2d_13 hK1 hr3 ?_
  refine J_aload_n C dJx4a65c_add_9ea2d_16 rfl rfl ?_
  refine J_getI C fo_0_2 rfl fl_RJx4a65c_48 dJx4a65c_add_9ea2d_17 hK1 ?_
  refine K_V C M [vr (some x1), vr (some r2), vi ((u2 F 0 x0 (w32 ((F 0 x0) + 1))) 2 x0)] [] mi_Jx4a65c_add_72be8 wg_433 wg_435 wg_2 ⟨rfl, by decide⟩ dJx4a65c_add_9ea2d_20 hK1 rfl rfl (by decide) (Nat.le_of_ble_eq_true rfl) (c_Jx4a65c_add_72be8 (C.2.2.2.2.2.2.2) (by omega) h) (fun v9 S4 F5 I6 hq9 => ?_) K_no rfl
  clear h
  obtain ⟨rfl, h⟩ := hq9
  refine J_iconst C dJx4a65c_add_9ea2d_23 (rg_of (by decide)) ?_
  exact J_zret C dJx4a65c_add_9ea2d_24 M.2.2.1 (by decide) ⟨_, rfl, h⟩
theorem c_Jx4a65c_add_9ea2d {l : Launch} {G : Gp} {d : Nat} {x0 : Nat} {x1 : Nat} {S : Shp} {F : Fl} {I : Il} {Q : Int → Shp → Fl → Il → Prop} (hl : l.stackTraces = false) (hd : 7 ≤ d) (h : V_Jx4a65c_add_9ea2d G x0 x1 S F I Q) : CM l G d yJx4a65c_add_9ea2d (.code yJx4a65c_add_9ea2d cJx4a65c_add_9ea2d 2 (some .boolean)) [vr (some x0), vr (some x1)] S F I (qI fun z S' F' I' => Q z S' F' I') noX :=
  CM_ofM [vr (some x0), vr (some x1)] hl (by decide +kernel) (kn1 trivial (kn1 trivial kn0)) (Nat.le_of_ble_eq_true rfl) rfl (fun X hX C M => S_Jx4a65c_add_9ea2d C M hd h)
set_option maxRecDepth 20000 in
set_option maxHeartbeats 4000000 in
theorem S_Jxa1e45_init_da8c8 {G : Gp} {X : Xt} {d : Nat}  {x0 : Nat} {Q : Prop} {S : Shp} {F : Fl} {I : Il} (C : CO G RJxa1e45 cJxa1e45_init_da8c8 1 X) (M : MX d none "<init>" X) (hd : 2 ≤ d)  (h : V_Jxa1e45_init_da8c8 x0 S F I Q) : J G X (QD X G (qV fun S' F' I' => S = S' ∧ F = F' ∧ I = I' ∧ Q) noX) 0 [vr (some x0)] [] S F I := by
  unfold V_Jxa1e45_init_da8c8 at h
  obtain ⟨d, rfl⟩ : ∃ d9, d = d9 + 1 := ⟨d - 1, by omega⟩
  refine J_aload_n C dJxa1e45_init_da8c8_0 rfl rfl ?_
  refine K_objInit C M wg_74 wg_59 wg_60 rfl dJxa1e45_init_da8c8_1 (Nat.le_of_ble_eq_true rfl) ?_
  exact J_vret C dJxa1e45_init_da8c8_4 M.2.2.1 ⟨rfl, rfl, rfl, rfl, h⟩
theorem c_Jxa1e45_init_da8c8 {l : Launch} {G : Gp} {d : Nat} {x0 : Nat} {S : Shp} {F : Fl} {I : Il} {Q : Prop} (hl : l.stackTraces = false) (hd : 2 ≤ d) (h : V_Jxa1e45_init_da8c8 x0 S F I Q) : CM l G d yJxa1e45_init_da8c8 (.code yJxa1e45_init_da8c8 cJxa1e45_init_da8c8 1 none) [vr (some x0)] S F I (qV fun S' F' I' => S = S' ∧ F = F' ∧ I = I' ∧ Q) noX :=
  CM_ofM [vr (some x0)] hl (by decide +kernel) (kn1 trivial kn0) (Nat.le_of_ble_eq_true rfl) rfl (fun X hX C M => S_Jxa1e45_init_da8c8 C M hd h)
set_option maxRecDepth 20000 in
set_option maxHeartbeats 4000000 in
theorem S_Jxc12de_init_da8c8 {G : Gp} {X : Xt} {d : Nat}  {x0 : Nat} {Q : Fl → Prop} {S : Shp} {F : Fl} {I : Il} (C : CO G RJxc12de cJxc12de_init_da8c8 1 X) (M : MX d none "<init>" X) (hd : 3 ≤ d)  (h : V_Jxc12de_init_da8c8 x0 S F I Q) : J G X (QD X G (qV fun S' F' I' => S = S' ∧ I = I' ∧ Q F') noX) 0 [vr (some x0)] [] S F I := by
  unfold V_Jxc12de_init_da8c8 at h
  obtain ⟨d, rfl⟩ : ∃ d9, d = d9 + 1 := ⟨d - 1, by omega⟩
  refine J_aload_n C dJxc12de_init_da8c8_0 rfl rfl ?_
  refine K_I C M [] [] mi_Jxa1e45_init_da8c8 rfl wg_71 wg_72 dJxc12de_init_da8c8_1 rfl rfl (by decide) (Nat.le_of_ble_eq_true rfl) (c_Jxa1e45_init_da8c8 (C.2.2.2.2.2.2.2) (by omega) h) (fun v9 S' F' I' hq9 => ?_) K_no rfl
  clear h
  obtain ⟨rfl, rfl, rfl, rfl, h⟩ := hq9
  refine J_aload_n C dJxc12de_init_da8c8_4 rfl rfl ?_
  refine J_iconst C dJxc12de_init_da8c8_5 (rg_of (by decide)) ?_
  obtain ⟨hK1, h⟩ := h
  refine J_putI C fo_0_0 fp_0 fl_RJxc12de_7 (Or.inl rfl) (Or.inl rfl) dJxc12de_init_da8c8_6 hK1 ?_
  exact J_vret C dJxc12de_init_da8c8_9 M.2.2.1 ⟨rfl, rfl, rfl, h⟩
theorem c_Jxc12de_init_da8c8 {l : Launch} {G : Gp} {d : Nat} {x0 : Nat} {S : Shp} {F : Fl} {I : Il} {Q : Fl → Prop} (hl : l.stackTraces = false) (hd : 3 ≤ d) (h : V_Jxc12de_init_da8c8 x0 S F I Q) : CM l G d yJxc12de_init_da8c8 (.code yJxc12de_init_da8c8 cJxc12de_init_da8c8 1 none) [vr (some x0)] S F I (qV fun S' F' I' => S = S' ∧ I = I' ∧ Q F') noX :=
  CM_ofM [vr (some x0)] hl (by decide +kernel) (kn1 trivial kn0) (Nat.le_of_ble_eq_true rfl) rfl (fun X hX C M => S_Jxc12de_init_da8c8 C M hd h)
set_option maxRecDepth 20000 in
set_option maxHeartbeats 4000000 in
theorem S_Jx4a65c_init_da8c8 {G : Gp} {X : Xt} {d : Nat}  {x0 : Nat} {Q : Shp → Fl → Prop} {S : Shp} {F : Fl} {I : Il} (C : CO G RJx4a65c cJx4a65c_init_da8c8 1 X) (M : MX d none "<init>" X) (hd : 4 ≤ d)  (h : V_Jx4a65c_init_da8c8 G x0 S F I Q) : J G X (QD X G (qV fun S' F' I' => I = I' ∧ Q S' F') noX) 0 [vr (some x0)] [] S F I := by
  unfold V_Jx4a65c_init_da8c8 at h
  obtain ⟨d, rfl⟩ : ∃ d9, d = d9 + 1 := ⟨d - 1, by omega⟩
  refine J_aload_n C dJx4a65c_init_da8c8_0 rfl rfl ?_
  refine K_I C M [] [] mi_Jxc12de_init_da8c8 rfl wg_68 wg_69 dJx4a65c_init_da8c8_1 rfl rfl (by decide) (Nat.le_of_ble_eq_true rfl) (c_Jxc12de_init_da8c8 (C.2.2.2.2.2.2.2) (by omega) h) (fun v9 S' F1 I' hq9 => ?_) K_no rfl
  clear h
  obtain ⟨rfl, rfl, rfl, h⟩ := hq9
  refine J_aload_n C dJx4a65c_init_da8c8_4 rfl rfl ?_
  refine K_getZ C wg_75 dJx4a65c_init_da8c8_5 ?_
  obtain ⟨hK2, h⟩ := h
  refine J_putR C fo_0_1 fp_0 rfl wg_77 rfl (Or.inl rfl) dJx4a65c_init_da8c8_8 hK2 ?_
  exact J_vret C dJx4a65c_init_da8c8_11 M.2.2.1 ⟨rfl, rfl, h⟩
theorem c_Jx4a65c_init_da8c8 {l : Launch} {G : Gp} {d : Nat} {x0 : Nat} {S : Shp} {F : Fl} {I : Il} {Q : Shp → Fl → Prop} (hl : l.stackTraces = false) (hd : 4 ≤ d) (h : V_Jx4a65c_init_da8c8 G x0 S F I Q) : CM l G d yJx4a65c_init_da8c8 (.code yJx4a65c_init_da8c8 cJx4a65c_init_da8c8 1 none) [vr (some x0)] S F I (qV fun S' F' I' => I = I' ∧ Q S' F') noX :=
  CM_ofM [vr (some x0)] hl (by decide +kernel) (kn1 trivial kn0) (Nat.le_of_ble_eq_true rfl) rfl (fun X hX C M => S_Jx4a65c_init_da8c8 C M hd h)
set_option maxRecDepth 20000 in
set_option maxHeartbeats 4000000 in
theorem S_J6_bitCount_0f7a4 {G : Gp} {X : Xt} {d : Nat}  {x0 : Int} {Q : Int → Prop} {S : Shp} {F : Fl} {I : Il} (C : CO G RJ6 cJ6_bitCount_0f7a4 1 X) (M : MX d (some .int) "bitCount" X) (hd : 1 ≤ d)  (h : V_J6_bitCount_0f7a4 x0 S F I Q) : J G X (QD X G (qI fun z S' F' I' => S = S' ∧ F = F' ∧ I = I' ∧ Q z) noX) 0 [vi x0] [] S F I := by
  unfold V_J6_bitCount_0f7a4 at h
  refine J_iload_n C dJ6_bitCount_0f7a4_0 rfl rfl ?_
  refine J_iload_n C dJ6_bitCount_0f7a4_1 rfl rfl ?_
  refine J_iconst C dJ6_bitCount_0f7a4_2 (rg_of (by decide)) ?_
  refine J_iushr C dJ6_bitCount_0f7a4_3 ?_
  refine J_ldcw C dJ6_bitCount_0f7a4_4 (z := 1431655765) wg_587 (by decide +kernel) (rg_of (by decide)) ?_
  refine J_iand C dJ6_bitCount_0f7a4_7 ?_
  refine J_isub C dJ6_bitCount_0f7a4_8 ?_
  refine K_istore_n C [vi (w32 (x0 - (iand (iushr x0 1) 1431655765)))] dJ6_bitCount_0f7a4_9 rfl (Nat.le_of_ble_eq_true rfl) rfl ?_
  refine J_iload_n C dJ6_bitCount_0f7a4_10 rfl rfl ?_
  refine J_ldcw C dJ6_bitCount_0f7a4_11 (z := 858993459) wg_588 (by decide +kernel) (rg_of (by decide)) ?_
  refine J_iand C dJ6_bitCount_0f7a4_14 ?_
  refine J_iload_n C dJ6_bitCount_0f7a4_15 rfl rfl ?_
  refine J_iconst C dJ6_bitCount_0f7a4_16 (rg_of (by decide)) ?_
  refine J_iushr C dJ6_bitCount_0f7a4_17 ?_
  refine J_ldcw C dJ6_bitCount_0f7a4_18 (z := 858993459) wg_588 (by decide +kernel) (rg_of (by decide)) ?_
  refine J_iand C dJ6_bitCount_0f7a4_21 ?_
  refine J_iadd C dJ6_bitCount_0f7a4_22 ?_
  refine K_istore_n C [vi (w32 ((iand (w32 (x0 - (iand (iushr x0 1) 1431655765))) 858993459) + (iand (iushr (w32 (x0 - (iand (iushr x0 1) 1431655765))) 2) 858993459)))] dJ6_bitCount_0f7a4_23 rfl (Nat.le_of_ble_eq_true rfl) rfl ?_
  refine J_iload_n C dJ6_bitCount_0f7a4_24 rfl rfl ?_
  refine J_iload_n C dJ6_bitCount_0f7a4_25 rfl rfl ?_
  refine J_iconst C dJ6_bitCount_0f7a4_26 (rg_of (by decide)) ?_
  refine J_iushr C dJ6_bitCount_0f7a4_27 ?_
  refine J_iadd C dJ6_bitCount_0f7a4_28 ?_
  refine J_ldcw C dJ6_bitCount_0f7a4_29 (z := 252645135) wg_589 (by decide +kernel) (rg_of (by decide)) ?_
  refine J_iand C dJ6_bitCount_0f7a4_32 ?_
  refine K_istore_n C [vi (iand (w32 ((w32 ((iand (w32 (x0 - (iand (iushr x0 1) 1431655765))) 858993459) + (iand (iushr (w32 (x0 - (iand (iushr x0 1) 1431655765))) 2) 858993459))) + (iushr (w32 ((iand (w32 (x0 - (iand (iushr x0 1) 1431655765))) 858993459) + (iand (iushr (w32 (x0 - (iand (iushr x0 1) 1431655765))) 2) 858993459))) 4))) 252645135)] dJ6_bitCount_0f7a4_33 rfl (Nat.le_of_ble_eq_true rfl) rfl ?_
  refine J_iload_n C dJ6_bitCount_0f7a4_34 rfl rfl ?_
  refine J_iload_n C dJ6_bitCount_0f7a4_35 rfl rfl ?_
  refine J_bipush C dJ6_bitCount_0f7a4_36 (by decide +kernel) (rg_of (by decide)) ?_
  refine J_iushr C dJ6_bitCount_0f7a4_38 ?_
  refine J_iadd C dJ6_bitCount_0f7a4_39 ?_
  refine K_istore_n C [vi (w32 ((iand (w32 ((w32 ((iand (w32 (x0 - (iand (iushr x0 1) 1431655765))) 858993459) + (iand (iushr (w32 (x0 - (iand (iushr x0 1) 1431655765))) 2) 858993459))) + (iushr (w32 ((iand (w32 (x0 - (iand (iushr x0 1) 1431655765))) 858993459) + (iand (iushr (w32 (x0 - (iand (iushr x0 1) 1431655765))) 2) 858993459))) 4))) 252645135) + (iushr (iand (w32 ((w32 ((iand (w32 (x0 - (iand (iushr x0 1) 1431655765))) 858993459) + (iand (iushr (w32 (x0 - (iand (iushr x0 1) 1431655765))) 2) 858993459))) + (iushr (w32 ((iand (w32 (x0 - (iand (iushr x0 1) 1431655765))) 858993459) + (iand (iushr (w32 (x0 - (iand (iushr x0 1) 1431655765))) 2) 858993459))) 4))) 252645135) 8)))] dJ6_bitCount_0f7a4_40 rfl (Nat.le_of_ble_eq_true rfl) rfl ?_
  refine J_iload_n C dJ6_bitCount_0f7a4_41 rfl rfl ?_
  refine J_iload_n C dJ6_bitCount_0f7a4_42 rfl rfl ?_
  refine J_bipush C dJ6_bitCount_0f7a4_43 (by decide +kernel) (rg_of (by decide)) ?_
  refine J_iushr C dJ6_bitCount_0f7a4_45 ?_
  refine J_iadd C dJ6_bitCount_0f7a4_46 ?_
  refine K_istore_n C [vi (w32 ((w32 ((iand (w32 ((w32 ((iand (w32 (x0 - (iand (iushr x0 1) 1431655765))) 858993459) + (iand (iushr (w32 (x0 - (iand (iushr x0 1) 1431655765))) 2) 858993459))) + (iushr (w32 ((iand (w32 (x0 - (iand (iushr x0 1) 1431655765))) 858993459) + (iand (iushr (w32 (x0 - (iand (iushr x0 1) 1431655765))) 2) 858993459))) 4))) 252645135) + (iushr (iand (w32 ((w32 ((iand (w32 (x0 - (iand (iushr x0 1) 1431655765))) 858993459) + (iand (iushr (w32 (x0 - (iand (iushr x0 1) 1431655765))) 2) 858993459))) + (iushr (w32 ((iand (w32 (x0 - (iand (iushr x0 1) 1431655765))) 858993459) + (iand (iushr (w32 (x0 - (iand (iushr x0 1) 1431655765))) 2) 858993459))) 4))) 252645135) 8))) + (iushr (w32 ((iand (w32 ((w32 ((iand (w32 (x0 - (iand (iushr x0 1) 1431655765))) 858993459) + (iand (iushr (w32 (x0 - (iand (iushr x0 1) 1431655765))) 2) 858993459))) + (iushr (w32 ((iand (w32 (x0 - (iand (iushr x0 1) 1431655765))) 858993459) + (iand (iushr (w32 (x0 - (iand (iushr x0 1) 1431655765))) 2) 858993459))) 4))) 252645135) + (iushr (iand (w32 ((w32 ((iand (w32 (x0 - (iand (iushr x0 1) 1431655765))) 858993459) + (iand (iushr (w32 (x0 - (iand (iushr x0 1) 1431655765))) 2) 858993459))) + (iushr (w32 ((iand (w32 (x0 - (iand (iushr x0 1) 1431655765))) 858993459) + (iand (iushr (w32 (x0 - (iand (iushr x0 1) 1431655765))) 2) 858993459))) 4))) 252645135) 8))) 16)))] dJ6_bitCount_0f7a4_47 rfl (Nat.le_of_ble_eq_true rfl) rfl ?_
  refine J_iload_n C dJ6_bitCount_0f7a4_48 rfl rfl ?_
  refine J_bipush C dJ6_bitCount_0f7a4_49 (by decide +kernel) (rg_of (by decide)) ?_
  refine J_iand C dJ6_bitCount_0f7a4_51 ?_
  exact J_iret C dJ6_bitCount_0f7a4_52 M.2.2.1 ⟨_, rfl, rfl, rfl, rfl, h⟩
theorem c_J6_bitCount_0f7a4 {l : Launch} {G : Gp} {d : Nat} {x0 : Int} {S : Shp} {F : Fl} {I : Il} {Q : Int → Prop} (hl : l.stackTraces = false) (hd : 1 ≤ d) (h : V_J6_bitCount_0f7a4 x0 S F I Q) : CM l G d yJ6_bitCount_0f7a4 (.code yJ6_bitCount_0f7a4 cJ6_bitCount_0f7a4 1 (some .int)) [vi x0] S F I (qI fun z S' F' I' => S = S' ∧ F = F' ∧ I = I' ∧ Q z) noX :=
  CM_ofM [vi x0] hl (by decide +kernel) (kn1 trivial kn0) (Nat.le_of_ble_eq_true rfl) rfl (fun X hX C M => S_J6_bitCount_0f7a4 C M hd h)
