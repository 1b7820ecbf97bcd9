set_option maxRecDepth 20000 in
set_option maxHeartbeats 4000000 in
theorem S_X8_requireIndex_9 {G : Gp} {X : Xt} {d : Nat}   {Q : Prop} {QX : String → Shp → Fl → Il → Prop} {S : Shp} {F : Fl} {I : Il} (C : CO G RX8 cX8_requireIndex 2 X) (M : MX d none "requireIndex" X) (hd : 8 ≤ d)  (h : V_X8_requireIndex_9 S F I Q QX) : J G X (QD X G (qV fun S' F' I' => S = S' ∧ F = F' ∧ I = I' ∧ Q) QX) 9 [vl 0, vl 0] [] S F I := by
  unfold V_X8_requireIndex_9 at h
  obtain ⟨ha9, hb9, h⟩ := h
  exact J_throwSW C rfl (text := "there is none of this number") (names := ["java/lang/RuntimeException", "java/lang/Exception"]) (by decide +kernel) (by decide +kernel) (by decide +kernel) wg_260 wg_40 at_402_406 au_402_406 rfl dX8_requireIndex_9 dX8_requireIndex_12 dX8_requireIndex_13 dX8_requireIndex_16 dX8_requireIndex_19 (fun x hx => (M.2.2.2.2 x hx).elim) rfl (by rw [M.1]; show 5 < _; omega) (by have h9 := M.2.1; show 82 ≤ _; omega) ha9 hb9 h
set_option maxRecDepth 20000 in
set_option maxHeartbeats 4000000 in
theorem S_X8_requireIndex {G : Gp} {X : Xt} {d : Nat}  {x0 : Int} {x1 : Int} {Q : Prop} {QX : String → Shp → Fl → Il → Prop} {S : Shp} {F : Fl} {I : Il} (C : CO G RX8 cX8_requireIndex 2 X) (M : MX d none "requireIndex" X) (hd : 8 ≤ d)  (h : V_X8_requireIndex x0 x1 S F I Q QX) : J G X (QD X G (qV fun S' F' I' => S = S' ∧ F = F' ∧ I = I' ∧ Q) QX) 0 [vi x0, vi x1] [] S F I := by
  unfold V_X8_requireIndex at h
  refine J_iload_n C dX8_requireIndex_0 rfl rfl ?_
  refine J_if_lt C dX8_requireIndex_1 (tgt := 9) rfl (fun c1 => ?_) (fun c1 => ?_)
  · have h := h.1 c1
    refine J_less [vl 0, vl 0] (by unfold lessL; simp [lessL]) ?_
    exact S_X8_requireIndex_9 C M (by omega)  h
  · have h := h.2 c1
    refine J_iload_n C dX8_requireIndex_4 rfl rfl ?_
    refine J_iload_n C dX8_requireIndex_5 rfl rfl ?_
    refine J_icmp_lt C dX8_requireIndex_6 (tgt := 20) rfl (fun c6 => ?_) (fun c6 => ?_)
    · have h := h.1 c6
      exact J_vret C dX8_requireIndex_20 M.2.2.1 ⟨rfl, rfl, rfl, rfl, h⟩
    · have h := h.2 c6
      refine J_less [vl 0, vl 0] (by unfold lessL; simp [lessL]) ?_
      exact S_X8_requireIndex_9 C M (by omega)  h
theorem c_X8_requireIndex {l : Launch} {G : Gp} {d : Nat} {x0 : Int} {x1 : Int} {S : Shp} {F : Fl} {I : Il} {Q : Prop} {QX : String → Shp → Fl → Il → Prop} (hl : l.stackTraces = false) (hd : 8 ≤ d) (h : V_X8_requireIndex x0 x1 S F I Q QX) : CM l G d yX8_requireIndex (.code yX8_requireIndex cX8_requireIndex 2 none) [vi x0, vi x1] S F I (qV fun S' F' I' => S = S' ∧ F = F' ∧ I = I' ∧ Q) QX :=
  CM_ofM [vi x0, vi x1] hl (by decide +kernel) (kn1 trivial (kn1 trivial kn0)) (Nat.le_of_ble_eq_true rfl) rfl (fun X hX C M => S_X8_requireIndex C M hd h)
set_option maxRecDepth 20000 in
set_option maxHeartbeats 4000000 in
theorem S_X8_blockOf {G : Gp} {X : Xt} {d : Nat}  {x0 : Nat} {x1 : Int} {Q : Nat → Prop} {QX : String → Shp → Fl → Il → Prop} {S : Shp} {F : Fl} {I : Il} (C : CO G RX8 cX8_blockOf 2 X) (M : MX d (some (.object "Ironbark$Block")) "blockOf" X) (hd : 9 ≤ d)  (h : V_X8_blockOf x0 x1 S F I Q QX) : J G X (QD X G (qR fun z S' F' I' => S = S' ∧ F = F' ∧ I = I' ∧ Q z) QX) 0 [vr (some x0), vi x1] [] S F I := by
  unfold V_X8_blockOf at h
  obtain ⟨d, rfl⟩ : ∃ d9, d = d9 + 1 := ⟨d - 1, by omega⟩
  refine J_iload_n C dX8_blockOf_0 rfl rfl ?_
  refine J_aload_n C dX8_blockOf_1 rfl rfl ?_
  obtain ⟨hK1, h⟩ := h
  obtain ⟨r2, hr3, h⟩ := h
  refine J_getR C fo_9_1 rfl fl_RX8_18 dX8_blockOf_2 hK1 hr3 ?_
  obtain ⟨hK4, h⟩ := h
  refine K_V C M [] [vi x1] mi_Jx4a65c_size_8abf5 wg_350 wg_351 wg_352 ⟨rfl, by decide⟩ dX8_blockOf_5 hK4 rfl rfl (by decide) (Nat.le_of_ble_eq_true rfl) (c_Jx4a65c_size_8abf5 (C.2.2.2.2.2.2.2) (by omega) h) (fun v9 S' F' I' hq9 => ?_) K_no rfl
  clear h
  obtain ⟨z5, rfl, rfl, rfl, rfl, h⟩ := hq9
  refine K_S C M [vi x1, vi z5] [] mi_X8_requireIndex wg_257 wg_258 dX8_blockOf_8 rfl rfl (by decide) (Nat.le_of_ble_eq_true rfl) (c_X8_requireIndex (C.2.2.2.2.2.2.2) (by omega) h) (fun v9 S' F' I' hq9 => ?_) (K_out C M) rfl
  clear h
  obtain ⟨rfl, rfl, rfl, rfl, h⟩ := hq9
  refine J_aload_n C dX8_blockOf_11 rfl rfl ?_
  refine J_getR C fo_9_1 rfl fl_RX8_18 dX8_blockOf_12 hK1 hr3 ?_
  refine J_iload_n C dX8_blockOf_15 rfl rfl ?_
  refine K_V C M [vi x1] [] mi_Jx4a65c_get_915e3 wg_496 wg_497 wg_498 ⟨rfl, by decide⟩ dX8_blockOf_16 hK4 rfl rfl (by decide) (Nat.le_of_ble_eq_true rfl) (c_Jx4a65c_get_915e3 (C.2.2.2.2.2.2.2) (by omega) h) (fun v9 S' F' I' hq9 => ?_) K_no rfl
  clear h
  obtain ⟨z6, rfl, rfl, rfl, rfl, h⟩ := hq9
  obtain ⟨hK7, h⟩ := h
  refine J_cast C fn_2.1 (by decide) wg_373 dX8_blockOf_19 hK7 ?_
  exact J_aret C dX8_blockOf_22 M.2.2.1 (Or.inl ⟨_, rfl⟩) ⟨_, rfl, rfl, rfl, rfl, h⟩
theorem c_X8_blockOf {l : Launch} {G : Gp} {d : Nat} {x0 : Nat} {x1 : Int} {S : Shp} {F : Fl} {I : Il} {Q : Nat → Prop} {QX : String → Shp → Fl → Il → Prop} (hl : l.stackTraces = false) (hd : 9 ≤ d) (h : V_X8_blockOf x0 x1 S F I Q QX) : CM l G d yX8_blockOf (.code yX8_blockOf cX8_blockOf 2 (some (.object "Ironbark$Block"))) [vr (some x0), vi x1] S F I (qR fun z S' F' I' => S = S' ∧ F = F' ∧ I = I' ∧ Q z) QX :=
  CM_ofM [vr (some x0), vi x1] hl (by decide +kernel) (kn1 trivial (kn1 trivial kn0)) (Nat.le_of_ble_eq_true rfl) rfl (fun X hX C M => S_X8_blockOf C M hd h)
set_option maxRecDepth 20000 in
set_option maxHeartbeats 4000000 in
theorem S_X8_arrive {G : Gp} {X : Xt} {d : Nat}  {x0 : Nat} {x1 : Nat} {Q : Fl → Il → Prop} {QX : String → Shp → Fl → Il → Prop} {S : Shp} {F : Fl} {I : Il} (C : CO G RX8 cX8_arrive 2 X) (M : MX d none "arrive" X) (hd : 10 ≤ d)  (h : V_X8_arrive x0 x1 S F I Q QX) : J G X (QD X G (qV fun S' F' I' => S = S' ∧ Q F' I') QX) 0 [vr (some x0), vr (some x1)] [] S F I := by
  unfold V_X8_arrive at h
  obtain ⟨d, rfl⟩ : ∃ d9, d = d9 + 1 := ⟨d - 1, by omega⟩
  refine J_aload_n C dX8_arrive_0 rfl rfl ?_
  refine J_aload_n C dX8_arrive_1 rfl rfl ?_
  obtain ⟨hK1, h⟩ := h
  refine J_getI C fo_8_6 rfl fl_RX8_322 dX8_arrive_2 hK1 ?_
  obtain ⟨hK2, h⟩ := h
  refine K_V C M [vi (F 806 x1)] [] mi_X8_blockOf wg_492 wg_494 wg_5 ⟨rfl, by decide⟩ dX8_arrive_5 hK2 rfl rfl (by decide) (Nat.le_of_ble_eq_true rfl) (c_X8_blockOf (C.2.2.2.2.2.2.2) (by omega) h) (fun v9 S' F' I' hq9 => ?_) (K_out C M) rfl
  clear h
  obtain ⟨z3, rfl, rfl, rfl, rfl, h⟩ := hq9
  refine J_dup C dX8_arrive_8 trivial ?_
  obtain ⟨hK4, h⟩ := h
  refine J_getI C fo_2_4 rfl fl_RX8_145 dX8_arrive_9 hK4 ?_
  refine J_iconst C dX8_arrive_12 (rg_of (by decide)) ?_
  refine J_aload_n C dX8_arrive_13 rfl rfl ?_
  obtain ⟨r5, hr6, h⟩ := h
  refine J_getR C fo_8_9 rfl fl_RX8_228 dX8_arrive_14 hK1 hr6 ?_
  obtain ⟨hK7, h⟩ := h
  refine J_getI C fo_6_1 rfl fl_RX8_230 dX8_arrive_17 hK7 ?_
  refine J_iadd C dX8_arrive_20 ?_
  refine J_iadd C dX8_arrive_21 ?_
  refine J_putI C fo_2_4 fp_2 fl_RX8_145 (Or.inl rfl) (Or.inl rfl) dX8_arrive_22 hK4 ?_
  refine J_aload_n C dX8_arrive_25 rfl rfl ?_
  refine J_aload_n C dX8_arrive_26 rfl rfl ?_
  refine J_getI C fo_8_6 rfl fl_RX8_322 dX8_arrive_27 hK1 ?_
  refine J_aload_n C dX8_arrive_30 rfl rfl ?_
  refine J_getI C fo_9_12 rfl fl_RX8_62 dX8_arrive_31 hK2 ?_
  refine J_aload_n C dX8_arrive_34 rfl rfl ?_
  refine K_V C M [] [vi ((u2 F 204 z3 (w32 ((F 204 z3) + (w32 (1 + (F 601 r5)))))) 912 x0), vi ((u2 F 204 z3 (w32 ((F 204 z3) + (w32 (1 + (F 601 r5)))))) 806 x1), vr (some x1)] mi_X7_minutesToClear wg_669 wg_670 wg_671 ⟨rfl, by decide⟩ dX8_arrive_35 hK1 rfl rfl (by decide) (Nat.le_of_ble_eq_true rfl) (c_X7_minutesToClear (C.2.2.2.2.2.2.2) (by omega) h) (fun v9 S' F' I' hq9 => ?_) K_no rfl
  clear h
  obtain ⟨z8, rfl, rfl, rfl, rfl, h⟩ := hq9
  refine J_iadd C dX8_arrive_38 ?_
  refine K_V C M [vi ((u2 F 204 z3 (w32 ((F 204 z3) + (w32 (1 + (F 601 r5)))))) 806 x1), vi (w32 (((u2 F 204 z3 (w32 ((F 204 z3) + (w32 (1 + (F 601 r5)))))) 912 x0) + z8))] [] mi_X7_notClear wg_673 wg_674 wg_675 ⟨rfl, by decide⟩ dX8_arrive_39 hK1 rfl rfl (by decide) (Nat.le_of_ble_eq_true rfl) (c_X7_notClear (C.2.2.2.2.2.2.2) (by omega) h) (fun v9 S' F' I9 hq9 => ?_) K_no rfl
  clear h
  obtain ⟨rfl, rfl, rfl, h⟩ := hq9
  refine J_aload_n C dX8_arrive_42 rfl rfl ?_
  refine J_iconst C dX8_arrive_43 (rg_of (by decide)) ?_
  refine J_putI C fo_8_6 fp_8 fl_RX8_322 (Or.inl rfl) (Or.inl rfl) dX8_arrive_44 hK1 ?_
  refine J_aload_n C dX8_arrive_47 rfl rfl ?_
  refine J_aload_n C dX8_arrive_48 rfl rfl ?_
  refine K_V C M [] [vr (some x1)] mi_X7_nextBlock wg_677 wg_678 wg_679 ⟨rfl, by decide⟩ dX8_arrive_49 hK1 rfl rfl (by decide) (Nat.le_of_ble_eq_true rfl) (c_X7_nextBlock (C.2.2.2.2.2.2.2) (by omega) h) (fun v9 S' F' I' hq9 => ?_) K_no rfl
  clear h
  obtain ⟨z10, rfl, rfl, rfl, rfl, h⟩ := hq9
  refine J_iconst C dX8_arrive_52 (rg_of (by decide)) ?_
  refine J_icmp_ne C dX8_arrive_53 (tgt := 60) rfl (fun c53 => ?_) (fun c53 => ?_)
  · have h := h.1 c53
    refine J_iconst C dX8_arrive_60 (rg_of (by decide)) ?_
    refine J_putI C fo_8_1 fp_8 fl_RX8_277 (Or.inl rfl) (Or.inl rfl) dX8_arrive_61 hK1 ?_
    exact J_vret C dX8_arrive_64 M.2.2.1 ⟨rfl, rfl, h⟩
  · have h := h.2 c53
    refine J_iconst C dX8_arrive_56 (rg_of (by decide)) ?_
    refine J_goto C dX8_arrive_57 (tgt := 61) rfl ?_
    refine J_putI C fo_8_1 fp_8 fl_RX8_277 (Or.inl rfl) (Or.inl rfl) dX8_arrive_61 hK1 ?_
    exact J_vret C dX8_arrive_64 M.2.2.1 ⟨rfl, rfl, h⟩
theorem c_X8_arrive {l : Launch} {G : Gp} {d : Nat} {x0 : Nat} {x1 : Nat} {S : Shp} {F : Fl} {I : Il} {Q : Fl → Il → Prop} {QX : String → Shp → Fl → Il → Prop} (hl : l.stackTraces = false) (hd : 10 ≤ d) (h : V_X8_arrive x0 x1 S F I Q QX) : CM l G d yX8_arrive (.code yX8_arrive cX8_arrive 2 none) [vr (some x0), vr (some x1)] S F I (qV fun S' F' I' => S = S' ∧ Q F' I') QX :=
  CM_ofM [vr (some x0), vr (some x1)] hl (by decide +kernel) (kn1 trivial (kn1 trivial kn0)) (Nat.le_of_ble_eq_true rfl) rfl (fun X hX C M => S_X8_arrive C M hd h)
set_option maxRecDepth 20000 in
set_option maxHeartbeats 4000000 in
theorem S_X8_arriveAll_50 {G : Gp} {X : Xt} {d : Nat} {k2 : Nat → Int → Fl → Il → Prop} {x0 : Nat} {x1 : Int} {Q : Fl → Il → Prop} {QX : String → Shp → Fl → Il → Prop} {S : Shp} {F : Fl} {I : Il} (C : CO G RX8 cX8_arriveAll 2 X) (M : MX d none "arriveAll" X) (hd : 11 ≤ d) (hk2 : ∀ (x0 : Nat) (x1 : Int) (F' : Fl) (I' : Il), k2 x0 x1 F' I' → J G X (QD X G (qV fun S' F' I' => S = S' ∧ Q F' I') QX) 2 [vr (some x0), vi x1] [] S F' I') (h : V_X8_arriveAll_50 k2 x0 x1 S F I Q QX) : J G X (QD X G (qV fun S' F' I' => S = S' ∧ Q F' I') QX) 50 [vr (some x0), vi x1] [] S F I := by
  unfold V_X8_arriveAll_50 at h
  refine K_iinc C [vr (some x0), vi (w32 (x1 + 1))] dX8_arriveAll_50 rfl rfl ?_
  refine J_goto C dX8_arriveAll_53 (tgt := 2) rfl ?_
  exact hk2 x0 (w32 (x1 + 1)) F I h
set_option maxRecDepth 20000 in
set_option maxHeartbeats 4000000 in
theorem S_X8_arriveAll_2 {G : Gp} {X : Xt} {d : Nat}  {S : Shp} {Q : Fl → Il → Prop} {QX : String → Shp → Fl → Il → Prop} (C : CO G RX8 cX8_arriveAll 2 X) (M : MX d none "arriveAll" X) (hd : 11 ≤ d) (n9 : Nat)  : ∀ (x0 : Nat) (x1 : Int) (F : Fl) (I : Il), V_X8_arriveAll_2 n9 x0 x1 S F I Q QX → J G X (QD X G (qV fun S' F' I' => S = S' ∧ Q F' I') QX) 2 [vr (some x0), vi x1] [] S F I := by
  obtain ⟨d, rfl⟩ : ∃ d9, d = d9 + 1 := ⟨d - 1, by omega⟩
  induction n9 with
  | zero => intro x0 x1 F I h; exact h.elim
  | succ n ih =>
    intro x0 x1 F I h
    unfold V_X8_arriveAll_2 at h
    refine J_iload_n C dX8_arriveAll_2 rfl rfl ?_
    refine J_aload_n C dX8_arriveAll_3 rfl rfl ?_
    obtain ⟨hK1, h⟩ := h
    obtain ⟨r2, hr3, h⟩ := h
    refine J_getR C fo_9_6 rfl fl_RX8_36 dX8_arriveAll_4 hK1 hr3 ?_
    obtain ⟨hK4, h⟩ := h
    obtain ⟨hn5, h⟩ := h
    refine J_alen C dX8_arriveAll_7 hK4 (by decide) (by decide) (rg_len hn5) ?_
    refine J_icmp_ge C dX8_arriveAll_8 (tgt := 56) rfl (fun c8 => ?_) (fun c8 => ?_)
    · have h := h.1 c8
      exact J_vret C dX8_arriveAll_56 M.2.2.1 ⟨rfl, rfl, h⟩
    · have h := h.2 c8
      refine J_aload_n C dX8_arriveAll_11 rfl rfl ?_
      refine J_getR C fo_9_6 rfl fl_RX8_36 dX8_arriveAll_12 hK1 hr3 ?_
      refine J_iload_n C dX8_arriveAll_15 rfl rfl ?_
      obtain ⟨h06, hn7, r8, hr9, h⟩ := h
      refine J_aald C dX8_arriveAll_16 hK4 (by decide) (by decide) h06 hn7 hr9 ?_
      obtain ⟨hK10, h⟩ := h
      refine J_getI C fo_8_1 rfl fl_RX8_277 dX8_arriveAll_17 hK10 ?_
      refine J_iconst C dX8_arriveAll_20 (rg_of (by decide)) ?_
      refine J_icmp_ne C dX8_arriveAll_21 (tgt := 50) rfl (fun c21 => ?_) (fun c21 => ?_)
      · have h := h.1 c21
        exact S_X8_arriveAll_50 C M (by omega) (fun y0 y1 F' I' h9 => ih y0 y1 F' I' h9) h
      · have h := h.2 c21
        refine J_aload_n C dX8_arriveAll_24 rfl rfl ?_
        refine J_getR C fo_9_6 rfl fl_RX8_36 dX8_arriveAll_25 hK1 hr3 ?_
        refine J_iload_n C dX8_arriveAll_28 rfl rfl ?_
        obtain ⟨h011, hn12, r13, hr14, h⟩ := h
        refine J_aald C dX8_arriveAll_29 hK4 (by decide) (by decide) h011 hn12 hr14 ?_
        obtain ⟨hK15, h⟩ := h
        refine J_getI C fo_8_7 rfl fl_RX8_368 dX8_arriveAll_30 hK15 ?_
        refine J_aload_n C dX8_arriveAll_33 rfl rfl ?_
        refine J_getI C fo_9_12 rfl fl_RX8_62 dX8_arriveAll_34 hK1 ?_
        refine J_icmp_gt C dX8_arriveAll_37 (tgt := 50) rfl (fun c37 => ?_) (fun c37 => ?_)
        · have h := h.1 c37
          exact S_X8_arriveAll_50 C M (by omega) (fun y0 y1 F' I' h9 => ih y0 y1 F' I' h9) h
        · have h := h.2 c37
          refine J_aload_n C dX8_arriveAll_40 rfl rfl ?_
          refine J_aload_n C dX8_arriveAll_41 rfl rfl ?_
          refine J_getR C fo_9_6 rfl fl_RX8_36 dX8_arriveAll_42 hK1 hr3 ?_
          refine J_iload_n C dX8_arriveAll_45 rfl rfl ?_
          obtain ⟨h016, hn17, r18, hr19, h⟩ := h
          refine J_aald C dX8_arriveAll_46 hK4 (by decide) (by decide) h016 hn17 hr19 ?_
          refine K_V C M [vr (some r18)] [] mi_X8_arrive wg_665 wg_667 wg_12 ⟨rfl, by decide⟩ dX8_arriveAll_47 hK1 rfl rfl (by decide) (Nat.le_of_ble_eq_true rfl) (c_X8_arrive (C.2.2.2.2.2.2.2) (by omega) h) (fun v9 S' F20 I21 hq9 => ?_) (K_out C M) rfl
          clear h
          obtain ⟨rfl, rfl, h⟩ := hq9
          exact S_X8_arriveAll_50 C M (by omega) (fun y0 y1 F' I' h9 => ih y0 y1 F' I' h9) h
set_option maxRecDepth 20000 in
set_option maxHeartbeats 4000000 in
theorem S_X8_arriveAll {G : Gp} {X : Xt} {d : Nat}  {x0 : Nat} {Q : Fl → Il → Prop} {QX : String → Shp → Fl → Il → Prop} {S : Shp} {F : Fl} {I : Il} (C : CO G RX8 cX8_arriveAll 2 X) (M : MX d none "arriveAll" X) (hd : 11 ≤ d)  (h : V_X8_arriveAll x0 S F I Q QX) : J G X (QD X G (qV fun S' F' I' => S = S' ∧ Q F' I') QX) 0 [vr (some x0), vl 0] [] S F I := by
  unfold V_X8_arriveAll at h
  refine J_iconst C dX8_arriveAll_0 (rg_of (by decide)) ?_
  refine K_istore_n C [vr (some x0), vi 0] dX8_arriveAll_1 rfl (Nat.le_of_ble_eq_true rfl) rfl ?_
  obtain ⟨n9, h⟩ := h
  exact S_X8_arriveAll_2 C M (by omega) n9  _ _ _ _ h
theorem c_X8_arriveAll {l : Launch} {G : Gp} {d : Nat} {x0 : Nat} {S : Shp} {F : Fl} {I : Il} {Q : Fl → Il → Prop} {QX : String → Shp → Fl → Il → Prop} (hl : l.stackTraces = false) (hd : 11 ≤ d) (h : V_X8_arriveAll x0 S F I Q QX) : CM l G d yX8_arriveAll (.code yX8_arriveAll cX8_arriveAll 2 none) [vr (some x0)] S F I (qV fun S' F' I' => S = S' ∧ Q F' I') QX :=
  CM_ofM [vr (some x0), vl 0] hl (by decide +kernel) (kn1 trivial kn0) (Nat.le_of_ble_eq_true rfl) rfl (fun X hX C M => S_X8_arriveAll C M hd h)
set_option maxRecDepth 20000 in
set_option maxHeartbeats 4000000 in
theorem S_X8_requireTrain {G : Gp} {X : Xt} {d : Nat}  {x0 : Nat} {x1 : Int} {Q : Prop} {QX : String → Shp → Fl → Il → Prop} {S : Shp} {F : Fl} {I : Il} (C : CO G RX8 cX8_requireTrain 2 X) (M : MX d none "requireTrain" X) (hd : 9 ≤ d)  (h : V_X8_requireTrain x0 x1 S F I Q QX) : J G X (QD X G (qV fun S' F' I' => S = S' ∧ F = F' ∧ I = I' ∧ Q) QX) 0 [vr (some x0), vi x1] [] S F I := by
  unfold V_X8_requireTrain at h
  obtain ⟨d, rfl⟩ : ∃ d9, d = d9 + 1 := ⟨d - 1, by omega⟩
  refine J_iload_n C dX8_requireTrain_0 rfl rfl ?_
  refine J_aload_n C dX8_requireTrain_1 rfl rfl ?_
  obtain ⟨hK1, h⟩ := h
  obtain ⟨r2, hr3, h⟩ := h
  refine J_getR C fo_9_6 rfl fl_RX8_36 dX8_requireTrain_2 hK1 hr3 ?_
  obtain ⟨hK4, h⟩ := h
  obtain ⟨hn5, h⟩ := h
  refine J_alen C dX8_requireTrain_5 hK4 (by decide) (by decide) (rg_len hn5) ?_
  refine K_S C M [vi x1, vi (sN S r2 : Int)] [] mi_X8_requireIndex wg_257 wg_258 dX8_requireTrain_6 rfl rfl (by decide) (Nat.le_of_ble_eq_true rfl) (c_X8_requireIndex (C.2.2.2.2.2.2.2) (by omega) h) (fun v9 S' F' I' hq9 => ?_) (K_out C M) rfl
  clear h
  obtain ⟨rfl, rfl, rfl, rfl, h⟩ := hq9
  refine J_aload_n C dX8_requireTrain_9 rfl rfl ?_
  refine J_getR C fo_9_6 rfl fl_RX8_36 dX8_requireTrain_10 hK1 hr3 ?_
  refine J_iload_n C dX8_requireTrain_13 rfl rfl ?_
  obtain ⟨h06, hn7, r8, hr9, h⟩ := h
  refine J_aald C dX8_requireTrain_14 hK4 (by decide) (by decide) h06 hn7 hr9 ?_
  obtain ⟨hK10, h⟩ := h
  refine J_getI C fo_8_1 rfl fl_RX8_277 dX8_requireTrain_15 hK10 ?_
  refine J_iconst C dX8_requireTrain_18 (rg_of (by decide)) ?_
  refine J_icmp_ne C dX8_requireTrain_19 (tgt := 33) rfl (fun c19 => ?_) (fun c19 => ?_)
  · have h := h.1 c19
    exact J_vret C dX8_requireTrain_33 M.2.2.1 ⟨rfl, rfl, rfl, rfl, h⟩
  · have h := h.2 c19
    obtain ⟨ha9, hb9, h⟩ := h
    exact J_throwSW C rfl (text := "no such train") (names := ["java/lang/RuntimeException", "java/lang/Exception"]) (by decide +kernel) (by decide +kernel) (by decide +kernel) wg_260 wg_40 at_402_406 au_402_406 rfl dX8_requireTrain_22 dX8_requireTrain_25 dX8_requireTrain_26 dX8_requireTrain_29 dX8_requireTrain_32 (fun x hx => (M.2.2.2.2 x hx).elim) rfl (by rw [M.1]; show 5 < _; omega) (by have h9 := M.2.1; show 82 ≤ _; omega) ha9 hb9 h
theorem c_X8_requireTrain {l : Launch} {G : Gp} {d : Nat} {x0 : Nat} {x1 : Int} {S : Shp} {F : Fl} {I : Il} {Q : Prop} {QX : String → Shp → Fl → Il → Prop} (hl : l.stackTraces = false) (hd : 9 ≤ d) (h : V_X8_requireTrain x0 x1 S F I Q QX) : CM l G d yX8_requireTrain (.code yX8_requireTrain cX8_requireTrain 2 none) [vr (some x0), vi x1] S F I (qV fun S' F' I' => S = S' ∧ F = F' ∧ I = I' ∧ Q) QX :=
  CM_ofM [vr (some x0), vi x1] hl (by decide +kernel) (kn1 trivial (kn1 trivial kn0)) (Nat.le_of_ble_eq_true rfl) rfl (fun X hX C M => S_X8_requireTrain C M hd h)
set_option maxRecDepth 20000 in
set_option maxHeartbeats 4000000 in
theorem S_X8_trainOf {G : Gp} {X : Xt} {d : Nat}  {x0 : Nat} {x1 : Int} {Q : Nat → Prop} {QX : String → Shp → Fl → Il → Prop} {S : Shp} {F : Fl} {I : Il} (C : CO G RX8 cX8_trainOf 2 X) (M : MX d (some (.object "Ironbark$Train")) "trainOf" X) (hd : 10 ≤ d)  (h : V_X8_trainOf x0 x1 S F I Q QX) : J G X (QD X G (qR fun z S' F' I' => S = S' ∧ F = F' ∧ I = I' ∧ Q z) QX) 0 [vr (some x0), vi x1] [] S F I := by
  unfold V_X8_trainOf at h
  obtain ⟨d, rfl⟩ : ∃ d9, d = d9 + 1 := ⟨d - 1, by omega⟩
  refine J_aload_n C dX8_trainOf_0 rfl rfl ?_
  refine J_iload_n C dX8_trainOf_1 rfl rfl ?_
  obtain ⟨hK1, h⟩ := h
  refine K_V C M [vi x1] [] mi_X8_requireTrain wg_652 wg_654 wg_10 ⟨rfl, by decide⟩ dX8_trainOf_2 hK1 rfl rfl (by decide) (Nat.le_of_ble_eq_true rfl) (c_X8_requireTrain (C.2.2.2.2.2.2.2) (by omega) h) (fun v9 S' F' I' hq9 => ?_) (K_out C M) rfl
  clear h
  obtain ⟨rfl, rfl, rfl, rfl, h⟩ := hq9
  refine J_aload_n C dX8_trainOf_5 rfl rfl ?_
  obtain ⟨r2, hr3, h⟩ := h
  refine J_getR C fo_9_6 rfl fl_RX8_36 dX8_trainOf_6 hK1 hr3 ?_
  refine J_iload_n C dX8_trainOf_9 rfl rfl ?_
  obtain ⟨hK4, h⟩ := h
  obtain ⟨h05, hn6, r7, hr8, h⟩ := h
  refine J_aald C dX8_trainOf_10 hK4 (by decide) (by decide) h05 hn6 hr8 ?_
  exact J_aret C dX8_trainOf_11 M.2.2.1 (Or.inl ⟨_, rfl⟩) ⟨_, rfl, rfl, rfl, rfl, h⟩
theorem c_X8_trainOf {l : Launch} {G : Gp} {d : Nat} {x0 : Nat} {x1 : Int} {S : Shp} {F : Fl} {I : Il} {Q : Nat → Prop} {QX : String → Shp → Fl → Il → Prop} (hl : l.stackTraces = false) (hd : 10 ≤ d) (h : V_X8_trainOf x0 x1 S F I Q QX) : CM l G d yX8_trainOf (.code yX8_trainOf cX8_trainOf 2 (some (.object "Ironbark$Train"))) [vr (some x0), vi x1] S F I (qR fun z S' F' I' => S = S' ∧ F = F' ∧ I = I' ∧ Q z) QX :=
  CM_ofM [vr (some x0), vi x1] hl (by decide +kernel) (kn1 trivial (kn1 trivial kn0)) (Nat.le_of_ble_eq_true rfl) rfl (fun X hX C M => S_X8_trainOf C M hd h)
set_option maxRecDepth 20000 in
set_option maxHeartbeats 4000000 in
theorem S_X8_requireStation {G : Gp} {X : Xt} {d : Nat}  {x0 : Nat} {x1 : Int} {Q : Prop} {QX : String → Shp → Fl → Il → Prop} {S : Shp} {F : Fl} {I : Il} (C : CO G RX8 cX8_requireStation 2 X) (M : MX d none "requireStation" X) (hd : 9 ≤ d)  (h : V_X8_requireStation x0 x1 S F I Q QX) : J G X (QD X G (qV fun S' F' I' => S = S' ∧ F = F' ∧ I = I' ∧ Q) QX) 0 [vr (some x0), vi x1] [] S F I := by
  unfold V_X8_requireStation at h
  obtain ⟨d, rfl⟩ : ∃ d9, d = d9 + 1 := ⟨d - 1, by omega⟩
  refine J_iload_n C dX8_requireStation_0 rfl rfl ?_
  refine J_aload_n C dX8_requireStation_1 rfl rfl ?_
  obtain ⟨hK1, h⟩ := h
  obtain ⟨r2, hr3, h⟩ := h
  refine J_getR C fo_9_0 rfl fl_RX8_11 dX8_requireStation_2 hK1 hr3 ?_
  obtain ⟨hK4, h⟩ := h
  obtain ⟨hn5, h⟩ := h
  refine J_alen C dX8_requireStation_5 hK4 (by decide) (by decide) (rg_len hn5) ?_
  refine K_S C M [vi x1, vi (sN S r2 : Int)] [] mi_X8_requireIndex wg_257 wg_258 dX8_requireStation_6 rfl rfl (by decide) (Nat.le_of_ble_eq_true rfl) (c_X8_requireIndex (C.2.2.2.2.2.2.2) (by omega) h) (fun v9 S' F' I' hq9 => ?_) (K_out C M) rfl
  clear h
  obtain ⟨rfl, rfl, rfl, rfl, h⟩ := hq9
  exact J_vret C dX8_requireStation_9 M.2.2.1 ⟨rfl, rfl, rfl, rfl, h⟩
theorem c_X8_requireStation {l : Launch} {G : Gp} {d : Nat} {x0 : Nat} {x1 : Int} {S : Shp} {F : Fl} {I : Il} {Q : Prop} {QX : String → Shp → Fl → Il → Prop} (hl : l.stackTraces = false) (hd : 9 ≤ d) (h : V_X8_requireStation x0 x1 S F I Q QX) : CM l G d yX8_requireStation (.code yX8_requireStation cX8_requireStation 2 none) [vr (some x0), vi x1] S F I (qV fun S' F' I' => S = S' ∧ F = F' ∧ I = I' ∧ Q) QX :=
  CM_ofM [vr (some x0), vi x1] hl (by decide +kernel) (kn1 trivial (kn1 trivial kn0)) (Nat.le_of_ble_eq_true rfl) rfl (fun X hX C M => S_X8_requireStation C M hd h)
set_option maxRecDepth 20000 in
set_option maxHeartbeats 4000000 in
theorem S_X8_requireState {G : Gp} {X : Xt} {d : Nat}  {x0 : Int} {Q : Prop} {QX : String → Shp → Fl → Il → Prop} {S : Shp} {F : Fl} {I : Il} (C : CO G RX8 cX8_requireState 1 X) (M : MX d none "requireState" X) (hd : 8 ≤ d)  (h : V_X8_requireState x0 S F I Q QX) : J G X (QD X G (qV fun S' F' I' => S = S' ∧ F = F' ∧ I = I' ∧ Q) QX) 0 [vi x0] [] S F I := by
  unfold V_X8_requireState at h
  refine J_iload_n C dX8_requireState_0 rfl rfl ?_
  refine J_if_ne C dX8_requireState_1 (tgt := 15) rfl (fun c1 => ?_) (fun c1 => ?_)
  · have h := h.1 c1
    exact J_vret C dX8_requireState_15 M.2.2.1 ⟨rfl, rfl, rfl, rfl, h⟩
  · have h := h.2 c1
    obtain ⟨ha9, hb9, h⟩ := h
    exact J_throwSW C rfl (text := "not possible now") (names := ["java/lang/RuntimeException", "java/lang/Exception"]) (by decide +kernel) (by decide +kernel) (by decide +kernel) wg_357 wg_42 at_397_401 au_397_401 rfl dX8_requireState_4 dX8_requireState_7 dX8_requireState_8 dX8_requireState_11 dX8_requireState_14 (fun x hx => (M.2.2.2.2 x hx).elim) rfl (by rw [M.1]; show 5 < _; omega) (by have h9 := M.2.1; show 82 ≤ _; omega) ha9 hb9 h
theorem c_X8_requireState {l : Launch} {G : Gp} {d : Nat} {x0 : Int} {S : Shp} {F : Fl} {I : Il} {Q : Prop} {QX : String → Shp → Fl → Il → Prop} (hl : l.stackTraces = false) (hd : 8 ≤ d) (h : V_X8_requireState x0 S F I Q QX) : CM l G d yX8_requireState (.code yX8_requireState cX8_requireState 1 none) [vi x0] S F I (qV fun S' F' I' => S = S' ∧ F = F' ∧ I = I' ∧ Q) QX :=
  CM_ofM [vi x0] hl (by decide +kernel) (kn1 trivial kn0) (Nat.le_of_ble_eq_true rfl) rfl (fun X hX C M => S_X8_requireState C M hd h)
set_option maxRecDepth 20000 in
set_option maxHeartbeats 4000000 in
theorem S_X8_await_32 {G : Gp} {X : Xt} {d : Nat}  {x2 : Int} {x3 : Int} {x4 : Nat} {s0 : Int} {Q : Fl → Prop} {QX : String → Shp → Fl → Il → Prop} {S : Shp} {F : Fl} {I : Il} (C : CO G RX8 cX8_await 5 X) (M : MX d none "await" X) (hd : 11 ≤ d)  (h : V_X8_await_32 x2 x3 x4 s0 S F I Q QX) : J G X (QD X G (qV fun S' F' I' => S = S' ∧ I = I' ∧ Q F') QX) 32 [vl 0, vl 0, vi x2, vi x3, vr (some x4)] [vi s0] S F I := by
  unfold V_X8_await_32 at h
  obtain ⟨d, rfl⟩ : ∃ d9, d = d9 + 1 := ⟨d - 1, by omega⟩
  refine K_S C M [vi s0] [] mi_X8_requireState wg_354 wg_355 dX8_await_32 rfl rfl (by decide) (Nat.le_of_ble_eq_true rfl) (c_X8_requireState (C.2.2.2.2.2.2.2) (by omega) h) (fun v9 S' F' I' hq9 => ?_) (K_out C M) rfl
  clear h
  obtain ⟨rfl, rfl, rfl, rfl, h⟩ := hq9
  refine J_aload C dX8_await_35 rfl ?_
  refine J_iload_n C dX8_await_37 rfl rfl ?_
  obtain ⟨hK1, h⟩ := h
  refine J_putI C fo_8_14 fp_8 fl_RX8_286 (Or.inl rfl) (Or.inl rfl) dX8_await_38 hK1 ?_
  refine J_aload C dX8_await_41 rfl ?_
  refine J_iload_n C dX8_await_43 rfl rfl ?_
  refine J_putI C fo_8_15 fp_8 fl_RX8_289 (Or.inl rfl) (Or.inl rfl) dX8_await_44 hK1 ?_
  exact J_vret C dX8_await_47 M.2.2.1 ⟨rfl, rfl, rfl, h⟩
set_option maxRecDepth 20000 in
set_option maxHeartbeats 4000000 in
theorem S_X8_await_17 {G : Gp} {X : Xt} {d : Nat}  {x0 : Nat} {x1 : Int} {x2 : Int} {x3 : Int} {x4 : Nat} {Q : Fl → Prop} {QX : String → Shp → Fl → Il → Prop} {S : Shp} {F : Fl} {I : Il} (C : CO G RX8 cX8_await 5 X) (M : MX d none "await" X) (hd : 11 ≤ d)  (h : V_X8_await_17 x0 x1 x2 x3 x4 S F I Q QX) : J G X (QD X G (qV fun S' F' I' => S = S' ∧ I = I' ∧ Q F') QX) 17 [vr (some x0), vi x1, vi x2, vi x3, vr (some x4)] [] S F I := by
  unfold V_X8_await_17 at h
  obtain ⟨d, rfl⟩ : ∃ d9, d = d9 + 1 := ⟨d - 1, by omega⟩
  refine J_aload_n C dX8_await_17 rfl rfl ?_
  refine J_iload_n C dX8_await_18 rfl rfl ?_
  obtain ⟨hK1, h⟩ := h
  refine K_V C M [vi x3] [] mi_X8_requireStation wg_253 wg_255 wg_0 ⟨rfl, by decide⟩ dX8_await_19 hK1 rfl rfl (by decide) (Nat.le_of_ble_eq_true rfl) (c_X8_requireStation (C.2.2.2.2.2.2.2) (by omega) h) (fun v9 S' F' I' hq9 => ?_) (K_out C M) rfl
  clear h
  obtain ⟨rfl, rfl, rfl, rfl, h⟩ := hq9
  refine J_iload_n C dX8_await_22 rfl rfl ?_
  refine J_iload_n C dX8_await_23 rfl rfl ?_
  refine J_icmp_eq C dX8_await_24 (tgt := 31) rfl (fun c24 => ?_) (fun c24 => ?_)
  · have h := h.1 c24
    refine J_iconst C dX8_await_31 (rg_of (by decide)) ?_
    refine J_less [vl 0, vl 0, vi x2, vi x3, vr (some x4)] (by unfold lessL; simp [lessL]) ?_
    exact S_X8_await_32 C M (by omega)  h
  · have h := h.2 c24
    refine J_iconst C dX8_await_27 (rg_of (by decide)) ?_
    refine J_goto C dX8_await_28 (tgt := 32) rfl ?_
    refine J_less [vl 0, vl 0, vi x2, vi x3, vr (some x4)] (by unfold lessL; simp [lessL]) ?_
    exact S_X8_await_32 C M (by omega)  h
set_option maxRecDepth 20000 in
set_option maxHeartbeats 4000000 in
theorem S_X8_await {G : Gp} {X : Xt} {d : Nat}  {x0 : Nat} {x1 : Int} {x2 : Int} {x3 : Int} {Q : Fl → Prop} {QX : String → Shp → Fl → Il → Prop} {S : Shp} {F : Fl} {I : Il} (C : CO G RX8 cX8_await 5 X) (M : MX d none "await" X) (hd : 11 ≤ d)  (h : V_X8_await x0 x1 x2 x3 S F I Q QX) : J G X (QD X G (qV fun S' F' I' => S = S' ∧ I = I' ∧ Q F') QX) 0 [vr (some x0), vi x1, vi x2, vi x3, vl 0] [] S F I := by
  unfold V_X8_await at h
  obtain ⟨d, rfl⟩ : ∃ d9, d = d9 + 1 := ⟨d - 1, by omega⟩
  refine J_aload_n C dX8_await_0 rfl rfl ?_
  refine J_iload_n C dX8_await_1 rfl rfl ?_
  obtain ⟨hK1, h⟩ := h
  refine K_V C M [vi x1] [] mi_X8_trainOf wg_648 wg_650 wg_9 ⟨rfl, by decide⟩ dX8_await_2 hK1 rfl rfl (by decide) (Nat.le_of_ble_eq_true rfl) (c_X8_trainOf (C.2.2.2.2.2.2.2) (by omega) h) (fun v9 S' F' I' hq9 => ?_) (K_out C M) rfl
  clear h
  obtain ⟨z2, rfl, rfl, rfl, rfl, h⟩ := hq9
  refine K_astore C [vr (some x0), vi x1, vi x2, vi x3, vr (some z2)] dX8_await_5 (Nat.le_of_ble_eq_true rfl) rfl ?_
  refine J_iload_n C dX8_await_7 rfl rfl ?_
  refine J_iconst C dX8_await_8 (rg_of (by decide)) ?_
  refine J_icmp_eq C dX8_await_9 (tgt := 17) rfl (fun c9 => ?_) (fun c9 => ?_)
  · have h := h.1 c9
    exact S_X8_await_17 C M (by omega)  h
  · have h := h.2 c9
    refine J_aload_n C dX8_await_12 rfl rfl ?_
    refine J_iload_n C dX8_await_13 rfl rfl ?_
    refine K_V C M [vi x2] [] mi_X8_requireTrain wg_652 wg_654 wg_10 ⟨rfl, by decide⟩ dX8_await_14 hK1 rfl rfl (by decide) (Nat.le_of_ble_eq_true rfl) (c_X8_requireTrain (C.2.2.2.2.2.2.2) (by omega) h) (fun v9 S' F' I' hq9 => ?_) (K_out C M) rfl
    clear h
    obtain ⟨rfl, rfl, rfl, rfl, h⟩ := hq9
    exact S_X8_await_17 C M (by omega)  h
theorem c_X8_await {l : Launch} {G : Gp} {d : Nat} {x0 : Nat} {x1 : Int} {x2 : Int} {x3 : Int} {S : Shp} {F : Fl} {I : Il} {Q : Fl → Prop} {QX : String → Shp → Fl → Il → Prop} (hl : l.stackTraces = false) (hd : 11 ≤ d) (h : V_X8_await x0 x1 x2 x3 S F I Q QX) : CM l G d yX8_await (.code yX8_await cX8_await 5 none) [vr (some x0), vi x1, vi x2, vi x3] S F I (qV fun S' F' I' => S = S' ∧ I = I' ∧ Q F') QX :=
  CM_ofM [vr (some x0), vi x1, vi x2, vi x3, vl 0] hl (by decide +kernel) (kn1 trivial (kn1 trivial (kn1 trivial (kn1 trivial kn0)))) (Nat.le_of_ble_eq_true rfl) rfl (fun X hX C M => S_X8_await C M hd h)
set_option maxRecDepth 20000 in
set_option maxHeartbeats 4000000 in
theorem S_X8_isWaiting {G : Gp} {X : Xt} {d : Nat}  {x0 : Nat} {x1 : Nat} {Q : Int → Prop} {S : Shp} {F : Fl} {I : Il} (C : CO G RX8 cX8_isWaiting 3 X) (M : MX d (some .boolean) "isWaiting" X) (hd : 2 ≤ d)  (h : V_X8_isWaiting x0 x1 S F I Q) : J G X (QD X G (qI fun z S' F' I' => S = S' ∧ F = F' ∧ I = I' ∧ Q z) noX) 0 [vr (some x0), vr (some x1), vl 0] [] S F I := by
  unfold V_X8_isWaiting at h
  obtain ⟨d, rfl⟩ : ∃ d9, d = d9 + 1 := ⟨d - 1, by omega⟩
  refine J_aload_n C dX8_isWaiting_0 rfl rfl ?_
  obtain ⟨hK1, h⟩ := h
  refine J_getI C fo_8_14 rfl fl_RX8_286 dX8_isWaiting_1 hK1 ?_
  refine K_istore_n C [vr (some x0), vr (some x1), vi (F 814 x1)] dX8_isWaiting_4 rfl (Nat.le_of_ble_eq_true rfl) rfl ?_
  refine J_iload_n C dX8_isWaiting_5 rfl rfl ?_
  refine J_if_lt C dX8_isWaiting_6 (tgt := 29) rfl (fun c6 => ?_) (fun c6 => ?_)
  · have h := h.1 c6
    refine J_iconst C dX8_isWaiting_29 (rg_of (by decide)) ?_
    exact J_zret C dX8_isWaiting_30 M.2.2.1 (by decide) ⟨_, rfl, rfl, rfl, rfl, h⟩
  · have h := h.2 c6
    refine J_iload_n C dX8_isWaiting_9 rfl rfl ?_
    refine J_aload_n C dX8_isWaiting_10 rfl rfl ?_
    obtain ⟨hK2, h⟩ := h
    obtain ⟨r3, hr4, h⟩ := h
    refine J_getR C fo_9_6 rfl fl_RX8_36 dX8_isWaiting_11 hK2 hr4 ?_
    obtain ⟨hK5, h⟩ := h
    obtain ⟨hn6, h⟩ := h
    refine J_alen C dX8_isWaiting_14 hK5 (by decide) (by decide) (rg_len hn6) ?_
    refine J_icmp_ge C dX8_isWaiting_15 (tgt := 29) rfl (fun c15 => ?_) (fun c15 => ?_)
    · have h := h.1 c15
      refine J_iconst C dX8_isWaiting_29 (rg_of (by decide)) ?_
      exact J_zret C dX8_isWaiting_30 M.2.2.1 (by decide) ⟨_, rfl, rfl, rfl, rfl, h⟩
    · have h := h.2 c15
      refine J_aload_n C dX8_isWaiting_18 rfl rfl ?_
      refine J_getI C fo_8_15 rfl fl_RX8_289 dX8_isWaiting_19 hK1 ?_
      refine J_aload_n C dX8_isWaiting_22 rfl rfl ?_
      refine J_getI C fo_8_5 rfl fl_RX8_236 dX8_isWaiting_23 hK1 ?_
      refine J_icmp_eq C dX8_isWaiting_26 (tgt := 31) rfl (fun c26 => ?_) (fun c26 => ?_)
      · have h := h.1 c26
        refine J_aload_n C dX8_isWaiting_31 rfl rfl ?_
        refine J_getR C fo_9_6 rfl fl_RX8_36 dX8_isWaiting_32 hK2 hr4 ?_
        refine J_iload_n C dX8_isWaiting_35 rfl rfl ?_
        obtain ⟨h07, hn8, r9, hr10, h⟩ := h
        refine J_aald C dX8_isWaiting_36 hK5 (by decide) (by decide) h07 hn8 hr10 ?_
        obtain ⟨hK11, h⟩ := h
        refine K_V C M [] [] mi_X7_stands wg_714 wg_715 wg_716 ⟨rfl, by decide⟩ dX8_isWaiting_37 hK11 rfl rfl (by decide) (Nat.le_of_ble_eq_true rfl) (c_X7_stands (C.2.2.2.2.2.2.2) (by omega) h) (fun v9 S' F' I' hq9 => ?_) K_no rfl
        clear h
        obtain ⟨z12, rfl, rfl, rfl, rfl, h⟩ := hq9
        refine J_if_eq C dX8_isWaiting_40 (tgt := 59) rfl (fun c40 => ?_) (fun c40 => ?_)
        · have h := h.1 c40
          refine J_iconst C dX8_isWaiting_59 (rg_of (by decide)) ?_
          refine J_goto C dX8_isWaiting_60 (tgt := 64) rfl ?_
          exact J_zret C dX8_isWaiting_64 M.2.2.1 (by decide) ⟨_, rfl, rfl, rfl, rfl, h⟩
        · have h := h.2 c40
          refine J_aload_n C dX8_isWaiting_43 rfl rfl ?_
          refine J_getR C fo_9_6 rfl fl_RX8_36 dX8_isWaiting_44 hK2 hr4 ?_
          refine J_iload_n C dX8_isWaiting_47 rfl rfl ?_
          obtain ⟨h013, hn14, r15, hr16, h⟩ := h
          refine J_aald C dX8_isWaiting_48 hK5 (by decide) (by decide) h013 hn14 hr16 ?_
          obtain ⟨hK17, h⟩ := h
          refine J_getI C fo_8_5 rfl fl_RX8_236 dX8_isWaiting_49 hK17 ?_
          refine J_aload_n C dX8_isWaiting_52 rfl rfl ?_
          refine J_getI C fo_8_5 rfl fl_RX8_236 dX8_isWaiting_53 hK1 ?_
          refine J_icmp_eq C dX8_isWaiting_56 (tgt := 63) rfl (fun c56 => ?_) (fun c56 => ?_)
          · have h := h.1 c56
            refine J_iconst C dX8_isWaiting_63 (rg_of (by decide)) ?_
            exact J_zret C dX8_isWaiting_64 M.2.2.1 (by decide) ⟨_, rfl, rfl, rfl, rfl, h⟩
          · have h := h.2 c56
            refine J_iconst C dX8_isWaiting_59 (rg_of (by decide)) ?_
            refine J_goto C dX8_isWaiting_60 (tgt := 64) rfl ?_
            exact J_zret C dX8_isWaiting_64 M.2.2.1 (by decide) ⟨_, rfl, rfl, rfl, rfl, h⟩
      · have h := h.2 c26
        refine J_iconst C dX8_isWaiting_29 (rg_of (by decide)) ?_
        exact J_zret C dX8_isWaiting_30 M.2.2.1 (by decide) ⟨_, rfl, rfl, rfl, rfl, h⟩
theorem c_X8_isWaiting {l : Launch} {G : Gp} {d : Nat} {x0 : Nat} {x1 : Nat} {S : Shp} {F : Fl} {I : Il} {Q : Int → Prop} (hl : l.stackTraces = false) (hd : 2 ≤ d) (h : V_X8_isWaiting x0 x1 S F I Q) : CM l G d yX8_isWaiting (.code yX8_isWaiting cX8_isWaiting 3 (some .boolean)) [vr (some x0), vr (some x1)] S F I (qI fun z S' F' I' => S = S' ∧ F = F' ∧ I = I' ∧ Q z) noX :=
  CM_ofM [vr (some x0), vr (some x1), vl 0] hl (by decide +kernel) (kn1 trivial (kn1 trivial kn0)) (Nat.le_of_ble_eq_true rfl) rfl (fun X hX C M => S_X8_isWaiting C M hd h)
set_option maxRecDepth 20000 in
set_option maxHeartbeats 4000000 in
theorem S_X8_barOfStart_20 {G : Gp} {X : Xt} {d : Nat}  {x0 : Nat} {x1 : Nat} {x2 : Nat} {Q : Int → Prop} {S : Shp} {F : Fl} {I : Il} (C : CO G RX8 cX8_barOfStart 3 X) (M : MX d (some .int) "barOfStart" X) (hd : 3 ≤ d)  (h : V_X8_barOfStart_20 x0 x1 x2 S F I Q) : J G X (QD X G (qI fun z S' F' I' => S = S' ∧ F = F' ∧ I = I' ∧ Q z) noX) 20 [vr (some x0), vr (some x1), vr (some x2)] [] S F I := by
  unfold V_X8_barOfStart_20 at h
  obtain ⟨d, rfl⟩ : ∃ d9, d = d9 + 1 := ⟨d - 1, by omega⟩
  refine J_aload_n C dX8_barOfStart_20 rfl rfl ?_
  refine J_aload_n C dX8_barOfStart_21 rfl rfl ?_
  obtain ⟨hK1, h⟩ := h
  refine K_V C M [vr (some x1)] [] mi_X8_isWaiting wg_710 wg_712 wg_19 ⟨rfl, by decide⟩ dX8_barOfStart_22 hK1 rfl rfl (by decide) (Nat.le_of_ble_eq_true rfl) (c_X8_isWaiting (C.2.2.2.2.2.2.2) (by omega) h) (fun v9 S' F' I' hq9 => ?_) K_no rfl
  clear h
  obtain ⟨z2, rfl, rfl, rfl, rfl, h⟩ := hq9
  refine J_if_eq C dX8_barOfStart_25 (tgt := 30) rfl (fun c25 => ?_) (fun c25 => ?_)
  · have h := h.1 c25
    refine J_aload_n C dX8_barOfStart_30 rfl rfl ?_
    refine J_aload_n C dX8_barOfStart_31 rfl rfl ?_
    refine J_getI C fo_9_12 rfl fl_RX8_62 dX8_barOfStart_32 hK1 ?_
    obtain ⟨hK3, h⟩ := h
    refine K_V C M [vi (F 912 x0)] [] mi_X1_holderAt wg_718 wg_719 wg_720 ⟨rfl, by decide⟩ dX8_barOfStart_35 hK3 rfl rfl (by decide) (Nat.le_of_ble_eq_true rfl) (c_X1_holderAt (C.2.2.2.2.2.2.2) (by omega) h) (fun v9 S' F' I' hq9 => ?_) K_no rfl
    clear h
    obtain ⟨z4, rfl, rfl, rfl, rfl, h⟩ := hq9
    refine J_iconst C dX8_barOfStart_38 (rg_of (by decide)) ?_
    refine J_icmp_eq C dX8_barOfStart_39 (tgt := 44) rfl (fun c39 => ?_) (fun c39 => ?_)
    · have h := h.1 c39
      refine J_aload_n C dX8_barOfStart_44 rfl rfl ?_
      refine J_aload_n C dX8_barOfStart_45 rfl rfl ?_
      refine J_getI C fo_9_12 rfl fl_RX8_62 dX8_barOfStart_46 hK1 ?_
      refine K_V C M [vi (F 912 x0)] [] mi_X1_isClosedAt wg_722 wg_723 wg_724 ⟨rfl, by decide⟩ dX8_barOfStart_49 hK3 rfl rfl (by decide) (Nat.le_of_ble_eq_true rfl) (c_X1_isClosedAt (C.2.2.2.2.2.2.2) (by omega) h) (fun v9 S' F' I' hq9 => ?_) K_no rfl
      clear h
      obtain ⟨z5, rfl, rfl, rfl, rfl, h⟩ := hq9
      refine J_if_eq C dX8_barOfStart_52 (tgt := 57) rfl (fun c52 => ?_) (fun c52 => ?_)
      · have h := h.1 c52
        refine J_aload_n C dX8_barOfStart_57 rfl rfl ?_
        refine J_getI C fo_2_5 rfl fl_RX8_125 dX8_barOfStart_58 hK3 ?_
        refine J_if_eq C dX8_barOfStart_61 (tgt := 75) rfl (fun c61 => ?_) (fun c61 => ?_)
        · have h := h.1 c61
          refine J_iconst C dX8_barOfStart_75 (rg_of (by decide)) ?_
          exact J_iret C dX8_barOfStart_76 M.2.2.1 ⟨_, rfl, rfl, rfl, rfl, h⟩
        · have h := h.2 c61
          refine J_aload_n C dX8_barOfStart_64 rfl rfl ?_
          refine J_getI C fo_2_6 rfl fl_RX8_129 dX8_barOfStart_65 hK3 ?_
          refine J_if_ne C dX8_barOfStart_68 (tgt := 75) rfl (fun c68 => ?_) (fun c68 => ?_)
          · have h := h.1 c68
            refine J_iconst C dX8_barOfStart_75 (rg_of (by decide)) ?_
            exact J_iret C dX8_barOfStart_76 M.2.2.1 ⟨_, rfl, rfl, rfl, rfl, h⟩
          · have h := h.2 c68
            refine J_iconst C dX8_barOfStart_71 (rg_of (by decide)) ?_
            refine J_goto C dX8_barOfStart_72 (tgt := 76) rfl ?_
            exact J_iret C dX8_barOfStart_76 M.2.2.1 ⟨_, rfl, rfl, rfl, rfl, h⟩
      · have h := h.2 c52
        refine J_iconst C dX8_barOfStart_55 (rg_of (by decide)) ?_
        exact J_iret C dX8_barOfStart_56 M.2.2.1 ⟨_, rfl, rfl, rfl, rfl, h⟩
    · have h := h.2 c39
      refine J_iconst C dX8_barOfStart_42 (rg_of (by decide)) ?_
      exact J_iret C dX8_barOfStart_43 M.2.2.1 ⟨_, rfl, rfl, rfl, rfl, h⟩
  · have h := h.2 c25
    refine J_iconst C dX8_barOfStart_28 (rg_of (by decide)) ?_
    exact J_iret C dX8_barOfStart_29 M.2.2.1 ⟨_, rfl, rfl, rfl, rfl, h⟩
set_option maxRecDepth 20000 in
set_option maxHeartbeats 4000000 in
theorem S_X8_barOfStart {G : Gp} {X : Xt} {d : Nat}  {x0 : Nat} {x1 : Nat} {x2 : Nat} {Q : Int → Prop} {S : Shp} {F : Fl} {I : Il} (C : CO G RX8 cX8_barOfStart 3 X) (M : MX d (some .int) "barOfStart" X) (hd : 3 ≤ d)  (h : V_X8_barOfStart x0 x1 x2 S F I Q) : J G X (QD X G (qI fun z S' F' I' => S = S' ∧ F = F' ∧ I = I' ∧ Q z) noX) 0 [vr (some x0), vr (some x1), vr (some x2)] [] S F I := by
  unfold V_X8_barOfStart at h
  refine J_aload_n C dX8_barOfStart_0 rfl rfl ?_
  obtain ⟨hK1, h⟩ := h
  refine J_getI C fo_8_11 rfl fl_RX8_268 dX8_barOfStart_1 hK1 ?_
  refine J_if_ne C dX8_barOfStart_4 (tgt := 20) rfl (fun c4 => ?_) (fun c4 => ?_)
  · have h := h.1 c4
    exact S_X8_barOfStart_20 C M (by omega)  h
  · have h := h.2 c4
    refine J_aload_n C dX8_barOfStart_7 rfl rfl ?_
    obtain ⟨hK2, h⟩ := h
    refine J_getI C fo_9_12 rfl fl_RX8_62 dX8_barOfStart_8 hK2 ?_
    refine J_aload_n C dX8_barOfStart_11 rfl rfl ?_
    refine J_getI C fo_8_12 rfl fl_RX8_271 dX8_barOfStart_12 hK1 ?_
    refine J_icmp_ge C dX8_barOfStart_15 (tgt := 20) rfl (fun c15 => ?_) (fun c15 => ?_)
    · have h := h.1 c15
      exact S_X8_barOfStart_20 C M (by omega)  h
    · have h := h.2 c15
      refine J_iconst C dX8_barOfStart_18 (rg_of (by decide)) ?_
      exact J_iret C dX8_barOfStart_19 M.2.2.1 ⟨_, rfl, rfl, rfl, rfl, h⟩
theorem c_X8_barOfStart {l : Launch} {G : Gp} {d : Nat} {x0 : Nat} {x1 : Nat} {x2 : Nat} {S : Shp} {F : Fl} {I : Il} {Q : Int → Prop} (hl : l.stackTraces = false) (hd : 3 ≤ d) (h : V_X8_barOfStart x0 x1 x2 S F I Q) : CM l G d yX8_barOfStart (.code yX8_barOfStart cX8_barOfStart 3 (some .int)) [vr (some x0), vr (some x1), vr (some x2)] S F I (qI fun z S' F' I' => S = S' ∧ F = F' ∧ I = I' ∧ Q z) noX :=
  CM_ofM [vr (some x0), vr (some x1), vr (some x2)] hl (by decide +kernel) (kn1 trivial (kn1 trivial (kn1 trivial kn0))) (Nat.le_of_ble_eq_true rfl) rfl (fun X hX C M => S_X8_barOfStart C M hd h)
set_option maxRecDepth 20000 in
set_option maxHeartbeats 4000000 in
theorem S_X8_runningMinutes_48 {G : Gp} {X : Xt} {d : Nat}  {x1 : Nat} {x2 : Int} {Q : Int → Prop} {S : Shp} {F : Fl} {I : Il} (C : CO G RX8 cX8_runningMinutes 3 X) (M : MX d (some .int) "runningMinutes" X) (hd : 1 ≤ d)  (h : V_X8_runningMinutes_48 x1 x2 S F I Q) : J G X (QD X G (qI fun z S' F' I' => S = S' ∧ F = F' ∧ I = I' ∧ Q z) noX) 48 [vl 0, vr (some x1), vi x2] [] S F I := by
  unfold V_X8_runningMinutes_48 at h
  refine J_aload_n C dX8_runningMinutes_48 rfl rfl ?_
  obtain ⟨hK1, h⟩ := h
  refine J_getI C fo_2_5 rfl fl_RX8_125 dX8_runningMinutes_49 hK1 ?_
  refine J_if_eq C dX8_runningMinutes_52 (tgt := 61) rfl (fun c52 => ?_) (fun c52 => ?_)
  · have h := h.1 c52
    refine J_iload_n C dX8_runningMinutes_61 rfl rfl ?_
    exact J_iret C dX8_runningMinutes_62 M.2.2.1 ⟨_, rfl, rfl, rfl, rfl, h⟩
  · have h := h.2 c52
    refine J_iconst C dX8_runningMinutes_55 (rg_of (by decide)) ?_
    refine J_iload_n C dX8_runningMinutes_56 rfl rfl ?_
    refine J_imul C dX8_runningMinutes_57 ?_
    refine J_goto C dX8_runningMinutes_58 (tgt := 62) rfl ?_
    exact J_iret C dX8_runningMinutes_62 M.2.2.1 ⟨_, rfl, rfl, rfl, rfl, h⟩
set_option maxRecDepth 20000 in
set_option maxHeartbeats 4000000 in
theorem S_X8_runningMinutes_32 {G : Gp} {X : Xt} {d : Nat}  {x1 : Nat} {x2 : Int} {Q : Int → Prop} {S : Shp} {F : Fl} {I : Il} (C : CO G RX8 cX8_runningMinutes 3 X) (M : MX d (some .int) "runningMinutes" X) (hd : 1 ≤ d)  (h : V_X8_runningMinutes_32 x1 x2 S F I Q) : J G X (QD X G (qI fun z S' F' I' => S = S' ∧ F = F' ∧ I = I' ∧ Q z) noX) 32 [vl 0, vr (some x1), vi x2] [] S F I := by
  unfold V_X8_runningMinutes_32 at h
  refine J_aload_n C dX8_runningMinutes_32 rfl rfl ?_
  obtain ⟨hK1, h⟩ := h
  refine J_getI C fo_2_4 rfl fl_RX8_145 dX8_runningMinutes_33 hK1 ?_
  refine J_bipush C dX8_runningMinutes_36 (by decide +kernel) (rg_of (by decide)) ?_
  refine J_icmp_lt C dX8_runningMinutes_38 (tgt := 48) rfl (fun c38 => ?_) (fun c38 => ?_)
  · have h := h.1 c38
    exact S_X8_runningMinutes_48 C M (by omega)  h
  · have h := h.2 c38
    refine J_iload_n C dX8_runningMinutes_41 rfl rfl ?_
    refine J_aload_n C dX8_runningMinutes_42 rfl rfl ?_
    refine J_getI C fo_2_2 rfl fl_RX8_438 dX8_runningMinutes_43 hK1 ?_
    refine J_iadd C dX8_runningMinutes_46 ?_
    refine K_istore_n C [vl 0, vr (some x1), vi (w32 (x2 + (F 202 x1)))] dX8_runningMinutes_47 rfl (Nat.le_of_ble_eq_true rfl) rfl ?_
    exact S_X8_runningMinutes_48 C M (by omega)  h
set_option maxRecDepth 20000 in
set_option maxHeartbeats 4000000 in
theorem S_X8_runningMinutes {G : Gp} {X : Xt} {d : Nat}  {x0 : Nat} {x1 : Nat} {Q : Int → Prop} {S : Shp} {F : Fl} {I : Il} (C : CO G RX8 cX8_runningMinutes 3 X) (M : MX d (some .int) "runningMinutes" X) (hd : 1 ≤ d)  (h : V_X8_runningMinutes x0 x1 S F I Q) : J G X (QD X G (qI fun z S' F' I' => S = S' ∧ F = F' ∧ I = I' ∧ Q z) noX) 0 [vr (some x0), vr (some x1), vl 0] [] S F I := by
  unfold V_X8_runningMinutes at h
  refine J_aload_n C dX8_runningMinutes_0 rfl rfl ?_
  obtain ⟨hK1, h⟩ := h
  refine J_getI C fo_2_2 rfl fl_RX8_438 dX8_runningMinutes_1 hK1 ?_
  refine K_istore_n C [vr (some x0), vr (some x1), vi (F 202 x1)] dX8_runningMinutes_4 rfl (Nat.le_of_ble_eq_true rfl) rfl ?_
  refine J_aload_n C dX8_runningMinutes_5 rfl rfl ?_
  obtain ⟨hK2, h⟩ := h
  refine J_getI C fo_8_4 rfl fl_RX8_482 dX8_runningMinutes_6 hK2 ?_
  refine J_if_le C dX8_runningMinutes_9 (tgt := 32) rfl (fun c9 => ?_) (fun c9 => ?_)
  · have h := h.1 c9
    refine J_less [vl 0, vr (some x1), vi (F 202 x1)] (by unfold lessL; simp [lessL]) ?_
    exact S_X8_runningMinutes_32 C M (by omega)  h
  · have h := h.2 c9
    refine J_iload_n C dX8_runningMinutes_12 rfl rfl ?_
    refine J_aload_n C dX8_runningMinutes_13 rfl rfl ?_
    refine J_getI C fo_2_2 rfl fl_RX8_438 dX8_runningMinutes_14 hK1 ?_
    refine J_aload_n C dX8_runningMinutes_17 rfl rfl ?_
    refine J_getI C fo_8_8 rfl fl_RX8_250 dX8_runningMinutes_18 hK2 ?_
    refine J_imul C dX8_runningMinutes_21 ?_
    refine J_bipush C dX8_runningMinutes_22 (by decide +kernel) (rg_of (by decide)) ?_
    refine J_aload_n C dX8_runningMinutes_24 rfl rfl ?_
    refine J_getI C fo_8_4 rfl fl_RX8_482 dX8_runningMinutes_25 hK2 ?_
    refine J_imul C dX8_runningMinutes_28 ?_
    obtain ⟨hz3, h⟩ := h
    refine J_idiv C dX8_runningMinutes_29 hz3 ?_
    refine J_iadd C dX8_runningMinutes_30 ?_
    refine K_istore_n C [vr (some x0), vr (some x1), vi (w32 ((F 202 x1) + (w32 (Int.tdiv (w32 ((F 202 x1) * (F 808 x0))) (w32 (10 * (F 804 x0)))))))] dX8_runningMinutes_31 rfl (Nat.le_of_ble_eq_true rfl) rfl ?_
    refine J_less [vl 0, vr (some x1), vi (w32 ((F 202 x1) + (w32 (Int.tdiv (w32 ((F 202 x1) * (F 808 x0))) (w32 (10 * (F 804 x0)))))))] (by unfold lessL; simp [lessL]) ?_
    exact S_X8_runningMinutes_32 C M (by omega)  h
theorem c_X8_runningMinutes {l : Launch} {G : Gp} {d : Nat} {x0 : Nat} {x1 : Nat} {S : Shp} {F : Fl} {I : Il} {Q : Int → Prop} (hl : l.stackTraces = false) (hd : 1 ≤ d) (h : V_X8_runningMinutes x0 x1 S F I Q) : CM l G d yX8_runningMinutes (.code yX8_runningMinutes cX8_runningMinutes 3 (some .int)) [vr (some x0), vr (some x1)] S F I (qI fun z S' F' I' => S = S' ∧ F = F' ∧ I = I' ∧ Q z) noX :=
  CM_ofM [vr (some x0), vr (some x1), vl 0] hl (by decide +kernel) (kn1 trivial (kn1 trivial kn0)) (Nat.le_of_ble_eq_true rfl) rfl (fun X hX C M => S_X8_runningMinutes C M hd h)
set_option maxRecDepth 20000 in
set_option maxHeartbeats 4000000 in
theorem S_X8_crewOf {G : Gp} {X : Xt} {d : Nat}  {x0 : Nat} {x1 : Int} {Q : Nat → Prop} {QX : String → Shp → Fl → Il → Prop} {S : Shp} {F : Fl} {I : Il} (C : CO G RX8 cX8_crewOf 2 X) (M : MX d (some (.object "Ironbark$Crew")) "crewOf" X) (hd : 9 ≤ d)  (h : V_X8_crewOf x0 x1 S F I Q QX) : J G X (QD X G (qR fun z S' F' I' => S = S' ∧ F = F' ∧ I = I' ∧ Q z) QX) 0 [vr (some x0), vi x1] [] S F I := by
  unfold V_X8_crewOf at h
  obtain ⟨d, rfl⟩ : ∃ d9, d = d9 + 1 := ⟨d - 1, by omega⟩
  refine J_iload_n C dX8_crewOf_0 rfl rfl ?_
  refine J_aload_n C dX8_crewOf_1 rfl rfl ?_
  obtain ⟨hK1, h⟩ := h
  obtain ⟨r2, hr3, h⟩ := h
  refine J_getR C fo_9_3 rfl fl_RX8_25 dX8_crewOf_2 hK1 hr3 ?_
  obtain ⟨hK4, h⟩ := h
  refine K_V C M [] [vi x1] mi_Jx4a65c_size_8abf5 wg_350 wg_351 wg_352 ⟨rfl, by decide⟩ dX8_crewOf_5 hK4 rfl rfl (by decide) (Nat.le_of_ble_eq_true rfl) (c_Jx4a65c_size_8abf5 (C.2.2.2.2.2.2.2) (by omega) h) (fun v9 S' F' I' hq9 => ?_) K_no rfl
  clear h
  obtain ⟨z5, rfl, rfl, rfl, rfl, h⟩ := hq9
  refine K_S C M [vi x1, vi z5] [] mi_X8_requireIndex wg_257 wg_258 dX8_crewOf_8 rfl rfl (by decide) (Nat.le_of_ble_eq_true rfl) (c_X8_requireIndex (C.2.2.2.2.2.2.2) (by omega) h) (fun v9 S' F' I' hq9 => ?_) (K_out C M) rfl
  clear h
  obtain ⟨rfl, rfl, rfl, rfl, h⟩ := hq9
  refine J_aload_n C dX8_crewOf_11 rfl rfl ?_
  refine J_getR C fo_9_3 rfl fl_RX8_25 dX8_crewOf_12 hK1 hr3 ?_
  refine J_iload_n C dX8_crewOf_15 rfl rfl ?_
  refine K_V C M [vi x1] [] mi_Jx4a65c_get_915e3 wg_496 wg_497 wg_498 ⟨rfl, by decide⟩ dX8_crewOf_16 hK4 rfl rfl (by decide) (Nat.le_of_ble_eq_true rfl) (c_Jx4a65c_get_915e3 (C.2.2.2.2.2.2.2) (by omega) h) (fun v9 S' F' I' hq9 => ?_) K_no rfl
  clear h
  obtain ⟨z6, rfl, rfl, rfl, rfl, h⟩ := hq9
  obtain ⟨hK7, h⟩ := h
  refine J_cast C fn_4.1 (by decide) wg_545 dX8_crewOf_19 hK7 ?_
  exact J_aret C dX8_crewOf_22 M.2.2.1 (Or.inl ⟨_, rfl⟩) ⟨_, rfl, rfl, rfl, rfl, h⟩
theorem c_X8_crewOf {l : Launch} {G : Gp} {d : Nat} {x0 : Nat} {x1 : Int} {S : Shp} {F : Fl} {I : Il} {Q : Nat → Prop} {QX : String → Shp → Fl → Il → Prop} (hl : l.stackTraces = false) (hd : 9 ≤ d) (h : V_X8_crewOf x0 x1 S F I Q QX) : CM l G d yX8_crewOf (.code yX8_crewOf cX8_crewOf 2 (some (.object "Ironbark$Crew"))) [vr (some x0), vi x1] S F I (qR fun z S' F' I' => S = S' ∧ F = F' ∧ I = I' ∧ Q z) QX :=
  CM_ofM [vr (some x0), vi x1] hl (by decide +kernel) (kn1 trivial (kn1 trivial kn0)) (Nat.le_of_ble_eq_true rfl) rfl (fun X hX C M => S_X8_crewOf C M hd h)
set_option maxRecDepth 20000 in
set_option maxHeartbeats 4000000 in
theorem S_X8_stationOf {G : Gp} {X : Xt} {d : Nat}  {x0 : Nat} {x1 : Int} {Q : Nat → Prop} {QX : String → Shp → Fl → Il → Prop} {S : Shp} {F : Fl} {I : Il} (C : CO G RX8 cX8_stationOf 2 X) (M : MX d (some (.object "Ironbark$Station")) "stationOf" X) (hd : 9 ≤ d)  (h : V_X8_stationOf x0 x1 S F I Q QX) : J G X (QD X G (qR fun z S' F' I' => S = S' ∧ F = F' ∧ I = I' ∧ Q z) QX) 0 [vr (some x0), vi x1] [] S F I := by
  unfold V_X8_stationOf at h
  obtain ⟨d, rfl⟩ : ∃ d9, d = d9 + 1 := ⟨d - 1, by omega⟩
  refine J_iload_n C dX8_stationOf_0 rfl rfl ?_
  refine J_aload_n C dX8_stationOf_1 rfl rfl ?_
  obtain ⟨hK1, h⟩ := h
  obtain ⟨r2, hr3, h⟩ := h
  refine J_getR C fo_9_0 rfl fl_RX8_11 dX8_stationOf_2 hK1 hr3 ?_
  obtain ⟨hK4, h⟩ := h
  obtain ⟨hn5, h⟩ := h
  refine J_alen C dX8_stationOf_5 hK4 (by decide) (by decide) (rg_len hn5) ?_
  refine K_S C M [vi x1, vi (sN S r2 : Int)] [] mi_X8_requireIndex wg_257 wg_258 dX8_stationOf_6 rfl rfl (by decide) (Nat.le_of_ble_eq_true rfl) (c_X8_requireIndex (C.2.2.2.2.2.2.2) (by omega) h) (fun v9 S' F' I' hq9 => ?_) (K_out C M) rfl
  clear h
  obtain ⟨rfl, rfl, rfl, rfl, h⟩ := hq9
  refine J_aload_n C dX8_stationOf_9 rfl rfl ?_
  refine J_getR C fo_9_0 rfl fl_RX8_11 dX8_stationOf_10 hK1 hr3 ?_
  refine J_iload_n C dX8_stationOf_13 rfl rfl ?_
  obtain ⟨h06, hn7, r8, hr9, h⟩ := h
  refine J_aald C dX8_stationOf_14 hK4 (by decide) (by decide) h06 hn7 hr9 ?_
  exact J_aret C dX8_stationOf_15 M.2.2.1 (Or.inl ⟨_, rfl⟩) ⟨_, rfl, rfl, rfl, rfl, h⟩
theorem c_X8_stationOf {l : Launch} {G : Gp} {d : Nat} {x0 : Nat} {x1 : Int} {S : Shp} {F : Fl} {I : Il} {Q : Nat → Prop} {QX : String → Shp → Fl → Il → Prop} (hl : l.stackTraces = false) (hd : 9 ≤ d) (h : V_X8_stationOf x0 x1 S F I Q QX) : CM l G d yX8_stationOf (.code yX8_stationOf cX8_stationOf 2 (some (.object "Ironbark$Station"))) [vr (some x0), vi x1] S F I (qR fun z S' F' I' => S = S' ∧ F = F' ∧ I = I' ∧ Q z) QX :=
  CM_ofM [vr (some x0), vi x1] hl (by decide +kernel) (kn1 trivial (kn1 trivial kn0)) (Nat.le_of_ble_eq_true rfl) rfl (fun X hX C M => S_X8_stationOf C M hd h)
set_option maxRecDepth 20000 in
set_option maxHeartbeats 4000000 in
theorem S_X8_takenTracks_29 {G : Gp} {X : Xt} {d : Nat} {k4 : Nat → Int → Int → Int → Prop} {x0 : Nat} {x1 : Int} {x2 : Int} {x3 : Int} {Q : Int → Prop} {S : Shp} {F : Fl} {I : Il} (C : CO G RX8 cX8_takenTracks 4 X) (M : MX d (some .int) "takenTracks" X) (hd : 2 ≤ d) (hk4 : ∀ (x0 : Nat) (x1 : Int) (x2 : Int) (x3 : Int), k4 x0 x1 x2 x3 → J G X (QD X G (qI fun z S' F' I' => S = S' ∧ F = F' ∧ I = I' ∧ Q z) noX) 4 [vr (some x0), vi x1, vi x2, vi x3] [] S F I) (h : V_X8_takenTracks_29 k4 x0 x1 x2 x3 S F I Q) : J G X (QD X G (qI fun z S' F' I' => S = S' ∧ F = F' ∧ I = I' ∧ Q z) noX) 29 [vr (some x0), vi x1, vi x2, vi x3] [] S F I := by
  unfold V_X8_takenTracks_29 at h
  refine K_iinc C [vr (some x0), vi x1, vi x2, vi (w32 (x3 + 1))] dX8_takenTracks_29 rfl rfl ?_
  refine J_goto C dX8_takenTracks_32 (tgt := 4) rfl ?_
  exact hk4 x0 x1 x2 (w32 (x3 + 1)) h
set_option maxRecDepth 20000 in
set_option maxHeartbeats 4000000 in
theorem S_X8_takenTracks_4 {G : Gp} {X : Xt} {d : Nat}  {S : Shp} {F : Fl} {I : Il} {Q : Int → Prop} (C : CO G RX8 cX8_takenTracks 4 X) (M : MX d (some .int) "takenTracks" X) (hd : 2 ≤ d) (n9 : Nat)  : ∀ (x0 : Nat) (x1 : Int) (x2 : Int) (x3 : Int) , V_X8_takenTracks_4 n9 x0 x1 x2 x3 S F I Q → J G X (QD X G (qI fun z S' F' I' => S = S' ∧ F = F' ∧ I = I' ∧ Q z) noX) 4 [vr (some x0), vi x1, vi x2, vi x3] [] S F I := by
  obtain ⟨d, rfl⟩ : ∃ d9, d = d9 + 1 := ⟨d - 1, by omega⟩
  induction n9 with
  | zero => intro x0 x1 x2 x3 h; exact h.elim
  | succ n ih =>
    intro x0 x1 x2 x3 h
    unfold V_X8_takenTracks_4 at h
    refine J_iload_n C dX8_takenTracks_4 rfl rfl ?_
    refine J_aload_n C dX8_takenTracks_5 rfl rfl ?_
    obtain ⟨hK1, h⟩ := h
    obtain ⟨r2, hr3, h⟩ := h
    refine J_getR C fo_9_6 rfl fl_RX8_36 dX8_takenTracks_6 hK1 hr3 ?_
    obtain ⟨hK4, h⟩ := h
    obtain ⟨hn5, h⟩ := h
    refine J_alen C dX8_takenTracks_9 hK4 (by decide) (by decide) (rg_len hn5) ?_
    refine J_icmp_ge C dX8_takenTracks_10 (tgt := 35) rfl (fun c10 => ?_) (fun c10 => ?_)
    · have h := h.1 c10
      refine J_iload_n C dX8_takenTracks_35 rfl rfl ?_
      exact J_iret C dX8_takenTracks_36 M.2.2.1 ⟨_, rfl, rfl, rfl, rfl, h⟩
    · have h := h.2 c10
      refine J_aload_n C dX8_takenTracks_13 rfl rfl ?_
      refine J_getR C fo_9_6 rfl fl_RX8_36 dX8_takenTracks_14 hK1 hr3 ?_
      refine J_iload_n C dX8_takenTracks_17 rfl rfl ?_
      obtain ⟨h06, hn7, r8, hr9, h⟩ := h
      refine J_aald C dX8_takenTracks_18 hK4 (by decide) (by decide) h06 hn7 hr9 ?_
      refine J_iload_n C dX8_takenTracks_19 rfl rfl ?_
      obtain ⟨hK10, h⟩ := h
      refine K_V C M [vi x1] [] mi_X7_takesTrackAt wg_753 wg_754 wg_755 ⟨rfl, by decide⟩ dX8_takenTracks_20 hK10 rfl rfl (by decide) (Nat.le_of_ble_eq_true rfl) (c_X7_takesTrackAt (C.2.2.2.2.2.2.2) (by omega) h) (fun v9 S' F' I' hq9 => ?_) K_no rfl
      clear h
      obtain ⟨z11, rfl, rfl, rfl, rfl, h⟩ := hq9
      refine J_if_eq C dX8_takenTracks_23 (tgt := 29) rfl (fun c23 => ?_) (fun c23 => ?_)
      · have h := h.1 c23
        exact S_X8_takenTracks_29 C M (by omega) (fun y0 y1 y2 y3 h9 => ih y0 y1 y2 y3 h9) h
      · have h := h.2 c23
        refine K_iinc C [vr (some x0), vi x1, vi (w32 (x2 + 1)), vi x3] dX8_takenTracks_26 rfl rfl ?_
        exact S_X8_takenTracks_29 C M (by omega) (fun y0 y1 y2 y3 h9 => ih y0 y1 y2 y3 h9) h
set_option maxRecDepth 20000 in
set_option maxHeartbeats 4000000 in
theorem S_X8_takenTracks {G : Gp} {X : Xt} {d : Nat}  {x0 : Nat} {x1 : Int} {Q : Int → Prop} {S : Shp} {F : Fl} {I : Il} (C : CO G RX8 cX8_takenTracks 4 X) (M : MX d (some .int) "takenTracks" X) (hd : 2 ≤ d)  (h : V_X8_takenTracks x0 x1 S F I Q) : J G X (QD X G (qI fun z S' F' I' => S = S' ∧ F = F' ∧ I = I' ∧ Q z) noX) 0 [vr (some x0), vi x1, vl 0, vl 0] [] S F I := by
  unfold V_X8_takenTracks at h
  refine J_iconst C dX8_takenTracks_0 (rg_of (by decide)) ?_
  refine K_istore_n C [vr (some x0), vi x1, vi 0, vl 0] dX8_takenTracks_1 rfl (Nat.le_of_ble_eq_true rfl) rfl ?_
  refine J_iconst C dX8_takenTracks_2 (rg_of (by decide)) ?_
  refine K_istore_n C [vr (some x0), vi x1, vi 0, vi 0] dX8_takenTracks_3 rfl (Nat.le_of_ble_eq_true rfl) rfl ?_
  obtain ⟨n9, h⟩ := h
  exact S_X8_takenTracks_4 C M (by omega) n9  _ _ _ _ h
theorem c_X8_takenTracks {l : Launch} {G : Gp} {d : Nat} {x0 : Nat} {x1 : Int} {S : Shp} {F : Fl} {I : Il} {Q : Int → Prop} (hl : l.stackTraces = false) (hd : 2 ≤ d) (h : V_X8_takenTracks x0 x1 S F I Q) : CM l G d yX8_takenTracks (.code yX8_takenTracks cX8_takenTracks 4 (some .int)) [vr (some x0), vi x1] S F I (qI fun z S' F' I' => S = S' ∧ F = F' ∧ I = I' ∧ Q z) noX :=
  CM_ofM [vr (some x0), vi x1, vl 0, vl 0] hl (by decide +kernel) (kn1 trivial (kn1 trivial kn0)) (Nat.le_of_ble_eq_true rfl) rfl (fun X hX C M => S_X8_takenTracks C M hd h)
set_option maxRecDepth 20000 in
set_option maxHeartbeats 4000000 in
theorem S_X8_freeTracksAt {G : Gp} {X : Xt} {d : Nat}  {x0 : Nat} {x1 : Int} {Q : Int → Prop} {QX : String → Shp → Fl → Il → Prop} {S : Shp} {F : Fl} {I : Il} (C : CO G RX8 cX8_freeTracksAt 2 X) (M : MX d (some .int) "freeTracksAt" X) (hd : 10 ≤ d)  (h : V_X8_freeTracksAt x0 x1 S F I Q QX) : J G X (QD X G (qI fun z S' F' I' => S = S' ∧ F = F' ∧ I = I' ∧ Q z) QX) 0 [vr (some x0), vi x1] [] S F I := by
  unfold V_X8_freeTracksAt at h
  obtain ⟨d, rfl⟩ : ∃ d9, d = d9 + 1 := ⟨d - 1, by omega⟩
  refine J_aload_n C dX8_freeTracksAt_0 rfl rfl ?_
  refine J_iload_n C dX8_freeTracksAt_1 rfl rfl ?_
  obtain ⟨hK1, h⟩ := h
  refine K_V C M [vi x1] [] mi_X8_stationOf wg_594 wg_596 wg_8 ⟨rfl, by decide⟩ dX8_freeTracksAt_2 hK1 rfl rfl (by decide) (Nat.le_of_ble_eq_true rfl) (c_X8_stationOf (C.2.2.2.2.2.2.2) (by omega) h) (fun v9 S' F' I' hq9 => ?_) (K_out C M) rfl
  clear h
  obtain ⟨z2, rfl, rfl, rfl, rfl, h⟩ := hq9
  obtain ⟨hK3, h⟩ := h
  refine J_getI C fo_7_0 rfl fl_RX8_99 dX8_freeTracksAt_5 hK3 ?_
  refine J_aload_n C dX8_freeTracksAt_8 rfl rfl ?_
  refine J_iload_n C dX8_freeTracksAt_9 rfl rfl ?_
  refine K_V C M [vi x1] [vi (F 700 z2)] mi_X8_takenTracks wg_749 wg_751 wg_22 ⟨rfl, by decide⟩ dX8_freeTracksAt_10 hK1 rfl rfl (by decide) (Nat.le_of_ble_eq_true rfl) (c_X8_takenTracks (C.2.2.2.2.2.2.2) (by omega) h) (fun v9 S' F' I' hq9 => ?_) K_no rfl
  clear h
  obtain ⟨z4, rfl, rfl, rfl, rfl, h⟩ := hq9
  refine J_isub C dX8_freeTracksAt_13 ?_
  exact J_iret C dX8_freeTracksAt_14 M.2.2.1 ⟨_, rfl, rfl, rfl, rfl, h⟩
theorem c_X8_freeTracksAt {l : Launch} {G : Gp} {d : Nat} {x0 : Nat} {x1 : Int} {S : Shp} {F : Fl} {I : Il} {Q : Int → Prop} {QX : String → Shp → Fl → Il → Prop} (hl : l.stackTraces = false) (hd : 10 ≤ d) (h : V_X8_freeTracksAt x0 x1 S F I Q QX) : CM l G d yX8_freeTracksAt (.code yX8_freeTracksAt cX8_freeTracksAt 2 (some .int)) [vr (some x0), vi x1] S F I (qI fun z S' F' I' => S = S' ∧ F = F' ∧ I = I' ∧ Q z) QX :=
  CM_ofM [vr (some x0), vi x1] hl (by decide +kernel) (kn1 trivial (kn1 trivial kn0)) (Nat.le_of_ble_eq_true rfl) rfl (fun X hX C M => S_X8_freeTracksAt C M hd h)
set_option maxRecDepth 20000 in
set_option maxHeartbeats 4000000 in
theorem S_X8_barOfRun {G : Gp} {X : Xt} {d : Nat}  {x0 : Nat} {x1 : Nat} {x2 : Nat} {x3 : Int} {Q : Int → Prop} {QX : String → Shp → Fl → Il → Prop} {S : Shp} {F : Fl} {I : Il} (C : CO G RX8 cX8_barOfRun 6 X) (M : MX d (some .int) "barOfRun" X) (hd : 11 ≤ d)  (h : V_X8_barOfRun x0 x1 x2 x3 S F I Q QX) : J G X (QD X G (qI fun z S' F' I' => S = S' ∧ F = F' ∧ I = I' ∧ Q z) QX) 0 [vr (some x0), vr (some x1), vr (some x2), vi x3, vl 0, vl 0] [] S F I := by
  unfold V_X8_barOfRun at h
  obtain ⟨d, rfl⟩ : ∃ d9, d = d9 + 1 := ⟨d - 1, by omega⟩
  refine J_aload_n C dX8_barOfRun_0 rfl rfl ?_
  refine J_aload_n C dX8_barOfRun_1 rfl rfl ?_
  refine K_S C M [vr (some x1), vr (some x2)] [] mi_X8_runningMinutes wg_730 wg_731 dX8_barOfRun_2 rfl rfl (by decide) (Nat.le_of_ble_eq_true rfl) (c_X8_runningMinutes (C.2.2.2.2.2.2.2) (by omega) h) (fun v9 S' F' I' hq9 => ?_) K_no rfl
  clear h
  obtain ⟨z1, rfl, rfl, rfl, rfl, h⟩ := hq9
  refine K_istore C [vr (some x0), vr (some x1), vr (some x2), vi x3, vi z1, vl 0] dX8_barOfRun_5 (Nat.le_of_ble_eq_true rfl) rfl ?_
  refine J_aload_n C dX8_barOfRun_7 rfl rfl ?_
  refine J_aload_n C dX8_barOfRun_8 rfl rfl ?_
  obtain ⟨hK2, h⟩ := h
  refine J_getI C fo_9_12 rfl fl_RX8_62 dX8_barOfRun_9 hK2 ?_
  refine J_aload_n C dX8_barOfRun_12 rfl rfl ?_
  refine J_getI C fo_9_12 rfl fl_RX8_62 dX8_barOfRun_13 hK2 ?_
  refine J_iload C dX8_barOfRun_16 rfl ?_
  refine J_iadd C dX8_barOfRun_18 ?_
  refine J_aload_n C dX8_barOfRun_19 rfl rfl ?_
  obtain ⟨hK3, h⟩ := h
  refine K_V C M [] [vi (w32 ((F 912 x0) + z1)), vi (F 912 x0), vr (some x2)] mi_X7_minutesToClear wg_669 wg_670 wg_671 ⟨rfl, by decide⟩ dX8_barOfRun_20 hK3 rfl rfl (by decide) (Nat.le_of_ble_eq_true rfl) (c_X7_minutesToClear (C.2.2.2.2.2.2.2) (by omega) h) (fun v9 S' F' I' hq9 => ?_) K_no rfl
  clear h
  obtain ⟨z4, rfl, rfl, rfl, rfl, h⟩ := hq9
  refine J_iadd C dX8_barOfRun_23 ?_
  obtain ⟨hK5, h⟩ := h
  refine K_V C M [vi (F 912 x0), vi (w32 ((w32 ((F 912 x0) + z1)) + z4))] [] mi_X1_isOfOthers wg_733 wg_734 wg_735 ⟨rfl, by decide⟩ dX8_barOfRun_24 hK5 rfl rfl (by decide) (Nat.le_of_ble_eq_true rfl) (c_X1_isOfOthers (C.2.2.2.2.2.2.2) (by omega) h) (fun v9 S' F' I' hq9 => ?_) K_no rfl
  clear h
  obtain ⟨z6, rfl, rfl, rfl, rfl, h⟩ := hq9
  refine J_if_eq C dX8_barOfRun_27 (tgt := 33) rfl (fun c27 => ?_) (fun c27 => ?_)
  · have h := h.1 c27
    refine J_aload_n C dX8_barOfRun_33 rfl rfl ?_
    refine J_getI C fo_8_8 rfl fl_RX8_250 dX8_barOfRun_34 hK3 ?_
    refine J_aload_n C dX8_barOfRun_37 rfl rfl ?_
    refine J_getI C fo_8_4 rfl fl_RX8_482 dX8_barOfRun_38 hK3 ?_
    refine J_bipush C dX8_barOfRun_41 (by decide +kernel) (rg_of (by decide)) ?_
    refine J_iconst C dX8_barOfRun_43 (rg_of (by decide)) ?_
    refine J_aload_n C dX8_barOfRun_44 rfl rfl ?_
    refine J_getI C fo_2_3 rfl fl_RX8_483 dX8_barOfRun_45 hK5 ?_
    refine J_imul C dX8_barOfRun_48 ?_
    refine J_isub C dX8_barOfRun_49 ?_
    refine J_imul C dX8_barOfRun_50 ?_
    refine J_icmp_le C dX8_barOfRun_51 (tgt := 57) rfl (fun c51 => ?_) (fun c51 => ?_)
    · have h := h.1 c51
      refine J_aload_n C dX8_barOfRun_57 rfl rfl ?_
      refine J_aload_n C dX8_barOfRun_58 rfl rfl ?_
      refine J_getI C fo_8_3 rfl fl_RX8_421 dX8_barOfRun_59 hK3 ?_
      refine K_V C M [vi (F 803 x1)] [] mi_X8_crewOf wg_576 wg_578 wg_6 ⟨rfl, by decide⟩ dX8_barOfRun_62 hK2 rfl rfl (by decide) (Nat.le_of_ble_eq_true rfl) (c_X8_crewOf (C.2.2.2.2.2.2.2) (by omega) h) (fun v9 S' F' I' hq9 => ?_) (K_out C M) rfl
      clear h
      obtain ⟨z7, rfl, rfl, rfl, rfl, h⟩ := hq9
      refine K_astore C [vr (some x0), vr (some x1), vr (some x2), vi x3, vi z1, vr (some z7)] dX8_barOfRun_65 (Nat.le_of_ble_eq_true rfl) rfl ?_
      refine J_aload C dX8_barOfRun_67 rfl ?_
      obtain ⟨hK8, h⟩ := h
      refine J_getI C fo_4_2 rfl fl_RX8_166 dX8_barOfRun_69 hK8 ?_
      refine J_iconst C dX8_barOfRun_72 (rg_of (by decide)) ?_
      refine J_iload_n C dX8_barOfRun_73 rfl rfl ?_
      refine J_ishl C dX8_barOfRun_74 ?_
      refine J_iand C dX8_barOfRun_75 ?_
      refine J_if_ne C dX8_barOfRun_76 (tgt := 82) rfl (fun c76 => ?_) (fun c76 => ?_)
      · have h := h.1 c76
        refine J_aload C dX8_barOfRun_82 rfl ?_
        refine J_aload_n C dX8_barOfRun_84 rfl rfl ?_
        refine J_getI C fo_9_12 rfl fl_RX8_62 dX8_barOfRun_85 hK2 ?_
        refine K_V C M [vi (F 912 x0)] [] mi_X3_isRestingAt wg_737 wg_738 wg_739 ⟨rfl, by decide⟩ dX8_barOfRun_88 hK8 rfl rfl (by decide) (Nat.le_of_ble_eq_true rfl) (c_X3_isRestingAt (C.2.2.2.2.2.2.2) (by omega) h) (fun v9 S' F' I' hq9 => ?_) K_no rfl
        clear h
        obtain ⟨z9, rfl, rfl, rfl, rfl, h⟩ := hq9
        refine J_if_ne C dX8_barOfRun_91 (tgt := 108) rfl (fun c91 => ?_) (fun c91 => ?_)
        · have h := h.1 c91
          refine J_bipush C dX8_barOfRun_108 (by decide +kernel) (rg_of (by decide)) ?_
          exact J_iret C dX8_barOfRun_110 M.2.2.1 ⟨_, rfl, rfl, rfl, rfl, h⟩
        · have h := h.2 c91
          refine J_aload C dX8_barOfRun_94 rfl ?_
          refine J_getI C fo_4_3 rfl fl_RX8_188 dX8_barOfRun_96 hK8 ?_
          refine J_iload C dX8_barOfRun_99 rfl ?_
          refine J_iadd C dX8_barOfRun_101 ?_
          refine J_sipush C dX8_barOfRun_102 (by decide +kernel) (rg_of (by decide)) ?_
          refine J_icmp_le C dX8_barOfRun_105 (tgt := 111) rfl (fun c105 => ?_) (fun c105 => ?_)
          · have h := h.1 c105
            refine J_aload_n C dX8_barOfRun_111 rfl rfl ?_
            refine J_aload_n C dX8_barOfRun_112 rfl rfl ?_
            refine J_aload_n C dX8_barOfRun_113 rfl rfl ?_
            refine J_getI C fo_8_5 rfl fl_RX8_236 dX8_barOfRun_114 hK3 ?_
            refine K_V C M [vi (F 805 x1)] [vr (some x0)] mi_X1_otherEnd wg_741 wg_742 wg_743 ⟨rfl, by decide⟩ dX8_barOfRun_117 hK5 rfl rfl (by decide) (Nat.le_of_ble_eq_true rfl) (c_X1_otherEnd (C.2.2.2.2.2.2.2) (by omega) h) (fun v9 S' F' I' hq9 => ?_) K_no rfl
            clear h
            obtain ⟨z10, rfl, rfl, rfl, rfl, h⟩ := hq9
            refine K_V C M [vi z10] [] mi_X8_freeTracksAt wg_745 wg_747 wg_21 ⟨rfl, by decide⟩ dX8_barOfRun_120 hK2 rfl rfl (by decide) (Nat.le_of_ble_eq_true rfl) (c_X8_freeTracksAt (C.2.2.2.2.2.2.2) (by omega) h) (fun v9 S' F' I' hq9 => ?_) (K_out C M) rfl
            clear h
            obtain ⟨z11, rfl, rfl, rfl, rfl, h⟩ := hq9
            refine J_if_le C dX8_barOfRun_123 (tgt := 130) rfl (fun c123 => ?_) (fun c123 => ?_)
            · have h := h.1 c123
              refine J_bipush C dX8_barOfRun_130 (by decide +kernel) (rg_of (by decide)) ?_
              exact J_iret C dX8_barOfRun_132 M.2.2.1 ⟨_, rfl, rfl, rfl, rfl, h⟩
            · have h := h.2 c123
              refine J_iconst C dX8_barOfRun_126 (rg_of (by decide)) ?_
              refine J_goto C dX8_barOfRun_127 (tgt := 132) rfl ?_
              exact J_iret C dX8_barOfRun_132 M.2.2.1 ⟨_, rfl, rfl, rfl, rfl, h⟩
          · have h := h.2 c105
            refine J_bipush C dX8_barOfRun_108 (by decide +kernel) (rg_of (by decide)) ?_
            exact J_iret C dX8_barOfRun_110 M.2.2.1 ⟨_, rfl, rfl, rfl, rfl, h⟩
      · have h := h.2 c76
        refine J_bipush C dX8_barOfRun_79 (by decide +kernel) (rg_of (by decide)) ?_
        exact J_iret C dX8_barOfRun_81 M.2.2.1 ⟨_, rfl, rfl, rfl, rfl, h⟩
    · have h := h.2 c51
      refine J_bipush C dX8_barOfRun_54 (by decide +kernel) (rg_of (by decide)) ?_
      exact J_iret C dX8_barOfRun_56 M.2.2.1 ⟨_, rfl, rfl, rfl, rfl, h⟩
  · have h := h.2 c27
    refine J_bipush C dX8_barOfRun_30 (by decide +kernel) (rg_of (by decide)) ?_
    exact J_iret C dX8_barOfRun_32 M.2.2.1 ⟨_, rfl, rfl, rfl, rfl, h⟩
theorem c_X8_barOfRun {l : Launch} {G : Gp} {d : Nat} {x0 : Nat} {x1 : Nat} {x2 : Nat} {x3 : Int} {S : Shp} {F : Fl} {I : Il} {Q : Int → Prop} {QX : String → Shp → Fl → Il → Prop} (hl : l.stackTraces = false) (hd : 11 ≤ d) (h : V_X8_barOfRun x0 x1 x2 x3 S F I Q QX) : CM l G d yX8_barOfRun (.code yX8_barOfRun cX8_barOfRun 6 (some .int)) [vr (some x0), vr (some x1), vr (some x2), vi x3] S F I (qI fun z S' F' I' => S = S' ∧ F = F' ∧ I = I' ∧ Q z) QX :=
  CM_ofM [vr (some x0), vr (some x1), vr (some x2), vi x3, vl 0, vl 0] hl (by decide +kernel) (kn1 trivial (kn1 trivial (kn1 trivial (kn1 trivial kn0)))) (Nat.le_of_ble_eq_true rfl) rfl (fun X hX C M => S_X8_barOfRun C M hd h)
set_option maxRecDepth 20000 in
set_option maxHeartbeats 4000000 in
theorem S_X8_barOf {G : Gp} {X : Xt} {d : Nat}  {x0 : Nat} {x1 : Nat} {Q : Int → Prop} {QX : String → Shp → Fl → Il → Prop} {S : Shp} {F : Fl} {I : Il} (C : CO G RX8 cX8_barOf 5 X) (M : MX d (some .int) "barOf" X) (hd : 12 ≤ d)  (h : V_X8_barOf x0 x1 S F I Q QX) : J G X (QD X G (qI fun z S' F' I' => S = S' ∧ F = F' ∧ I = I' ∧ Q z) QX) 0 [vr (some x0), vr (some x1), vl 0, vl 0, vl 0] [] S F I := by
  unfold V_X8_barOf at h
  obtain ⟨d, rfl⟩ : ∃ d9, d = d9 + 1 := ⟨d - 1, by omega⟩
  refine J_aload_n C dX8_barOf_0 rfl rfl ?_
  obtain ⟨hK1, h⟩ := h
  refine K_V C M [] [] mi_X7_nextBlock wg_677 wg_678 wg_679 ⟨rfl, by decide⟩ dX8_barOf_1 hK1 rfl rfl (by decide) (Nat.le_of_ble_eq_true rfl) (c_X7_nextBlock (C.2.2.2.2.2.2.2) (by omega) h) (fun v9 S' F' I' hq9 => ?_) K_no rfl
  clear h
  obtain ⟨z2, rfl, rfl, rfl, rfl, h⟩ := hq9
  refine K_istore_n C [vr (some x0), vr (some x1), vi z2, vl 0, vl 0] dX8_barOf_4 rfl (Nat.le_of_ble_eq_true rfl) rfl ?_
  refine J_aload_n C dX8_barOf_5 rfl rfl ?_
  refine J_iload_n C dX8_barOf_6 rfl rfl ?_
  obtain ⟨hK3, h⟩ := h
  refine K_V C M [vi z2] [] mi_X8_blockOf wg_492 wg_494 wg_5 ⟨rfl, by decide⟩ dX8_barOf_7 hK3 rfl rfl (by decide) (Nat.le_of_ble_eq_true rfl) (c_X8_blockOf (C.2.2.2.2.2.2.2) (by omega) h) (fun v9 S' F' I' hq9 => ?_) (K_out C M) rfl
  clear h
  obtain ⟨z4, rfl, rfl, rfl, rfl, h⟩ := hq9
  refine K_astore_n C [vr (some x0), vr (some x1), vi z2, vr (some z4), vl 0] dX8_barOf_10 rfl (Nat.le_of_ble_eq_true rfl) rfl ?_
  refine J_aload_n C dX8_barOf_11 rfl rfl ?_
  refine J_aload_n C dX8_barOf_12 rfl rfl ?_
  refine J_aload_n C dX8_barOf_13 rfl rfl ?_
  refine K_V C M [vr (some x1), vr (some z4)] [] mi_X8_barOfStart wg_706 wg_708 wg_18 ⟨rfl, by decide⟩ dX8_barOf_14 hK3 rfl rfl (by decide) (Nat.le_of_ble_eq_true rfl) (c_X8_barOfStart (C.2.2.2.2.2.2.2) (by omega) h) (fun v9 S' F' I' hq9 => ?_) K_no rfl
  clear h
  obtain ⟨z5, rfl, rfl, rfl, rfl, h⟩ := hq9
  refine K_istore C [vr (some x0), vr (some x1), vi z2, vr (some z4), vi z5] dX8_barOf_17 (Nat.le_of_ble_eq_true rfl) rfl ?_
  refine J_iload C dX8_barOf_19 rfl ?_
  refine J_if_eq C dX8_barOf_21 (tgt := 29) rfl (fun c21 => ?_) (fun c21 => ?_)
  · have h := h.1 c21
    refine J_aload_n C dX8_barOf_29 rfl rfl ?_
    refine J_aload_n C dX8_barOf_30 rfl rfl ?_
    refine J_aload_n C dX8_barOf_31 rfl rfl ?_
    refine J_iload_n C dX8_barOf_32 rfl rfl ?_
    refine K_V C M [vr (some x1), vr (some z4), vi z2] [] mi_X8_barOfRun wg_726 wg_728 wg_20 ⟨rfl, by decide⟩ dX8_barOf_33 hK3 rfl rfl (by decide) (Nat.le_of_ble_eq_true rfl) (c_X8_barOfRun (C.2.2.2.2.2.2.2) (by omega) h) (fun v9 S' F' I' hq9 => ?_) (K_out C M) rfl
    clear h
    obtain ⟨z6, rfl, rfl, rfl, rfl, h⟩ := hq9
    exact J_iret C dX8_barOf_36 M.2.2.1 ⟨_, rfl, rfl, rfl, rfl, h⟩
  · have h := h.2 c21
    refine J_iload C dX8_barOf_24 rfl ?_
    refine J_goto C dX8_barOf_26 (tgt := 36) rfl ?_
    exact J_iret C dX8_barOf_36 M.2.2.1 ⟨_, rfl, rfl, rfl, rfl, h⟩
theorem c_X8_barOf {l : Launch} {G : Gp} {d : Nat} {x0 : Nat} {x1 : Nat} {S : Shp} {F : Fl} {I : Il} {Q : Int → Prop} {QX : String → Shp → Fl → Il → Prop} (hl : l.stackTraces = false) (hd : 12 ≤ d) (h : V_X8_barOf x0 x1 S F I Q QX) : CM l G d yX8_barOf (.code yX8_barOf cX8_barOf 5 (some .int)) [vr (some x0), vr (some x1)] S F I (qI fun z S' F' I' => S = S' ∧ F = F' ∧ I = I' ∧ Q z) QX :=
  CM_ofM [vr (some x0), vr (some x1), vl 0, vl 0, vl 0] hl (by decide +kernel) (kn1 trivial (kn1 trivial kn0)) (Nat.le_of_ble_eq_true rfl) rfl (fun X hX C M => S_X8_barOf C M hd h)
set_option maxRecDepth 20000 in
set_option maxHeartbeats 4000000 in
theorem S_X8_barred {G : Gp} {X : Xt} {d : Nat}  {x0 : Nat} {x1 : Int} {Q : Int → Prop} {QX : String → Shp → Fl → Il → Prop} {S : Shp} {F : Fl} {I : Il} (C : CO G RX8 cX8_barred 3 X) (M : MX d (some .int) "barred" X) (hd : 13 ≤ d)  (h : V_X8_barred x0 x1 S F I Q QX) : J G X (QD X G (qI fun z S' F' I' => S = S' ∧ F = F' ∧ I = I' ∧ Q z) QX) 0 [vr (some x0), vi x1, vl 0] [] S F I := by
  unfold V_X8_barred at h
  obtain ⟨d, rfl⟩ : ∃ d9, d = d9 + 1 := ⟨d - 1, by omega⟩
  refine J_aload_n C dX8_barred_0 rfl rfl ?_
  refine J_iload_n C dX8_barred_1 rfl rfl ?_
  obtain ⟨hK1, h⟩ := h
  refine K_V C M [vi x1] [] mi_X8_trainOf wg_648 wg_650 wg_9 ⟨rfl, by decide⟩ dX8_barred_2 hK1 rfl rfl (by decide) (Nat.le_of_ble_eq_true rfl) (c_X8_trainOf (C.2.2.2.2.2.2.2) (by omega) h) (fun v9 S' F' I' hq9 => ?_) (K_out C M) rfl
  clear h
  obtain ⟨z2, rfl, rfl, rfl, rfl, h⟩ := hq9
  refine K_astore_n C [vr (some x0), vi x1, vr (some z2)] dX8_barred_5 rfl (Nat.le_of_ble_eq_true rfl) rfl ?_
  refine J_aload_n C dX8_barred_6 rfl rfl ?_
  obtain ⟨hK3, h⟩ := h
  refine J_getI C fo_8_1 rfl fl_RX8_277 dX8_barred_7 hK3 ?_
  refine J_iconst C dX8_barred_10 (rg_of (by decide)) ?_
  refine J_icmp_ne C dX8_barred_11 (tgt := 22) rfl (fun c11 => ?_) (fun c11 => ?_)
  · have h := h.1 c11
    refine J_iconst C dX8_barred_22 (rg_of (by decide)) ?_
    exact J_iret C dX8_barred_23 M.2.2.1 ⟨_, rfl, rfl, rfl, rfl, h⟩
  · have h := h.2 c11
    refine J_aload_n C dX8_barred_14 rfl rfl ?_
    refine J_aload_n C dX8_barred_15 rfl rfl ?_
    refine K_V C M [vr (some z2)] [] mi_X8_barOf wg_702 wg_704 wg_17 ⟨rfl, by decide⟩ dX8_barred_16 hK1 rfl rfl (by decide) (Nat.le_of_ble_eq_true rfl) (c_X8_barOf (C.2.2.2.2.2.2.2) (by omega) h) (fun v9 S' F' I' hq9 => ?_) (K_out C M) rfl
    clear h
    obtain ⟨z4, rfl, rfl, rfl, rfl, h⟩ := hq9
    refine J_goto C dX8_barred_19 (tgt := 23) rfl ?_
    exact J_iret C dX8_barred_23 M.2.2.1 ⟨_, rfl, rfl, rfl, rfl, h⟩
theorem c_X8_barred {l : Launch} {G : Gp} {d : Nat} {x0 : Nat} {x1 : Int} {S : Shp} {F : Fl} {I : Il} {Q : Int → Prop} {QX : String → Shp → Fl → Il → Prop} (hl : l.stackTraces = false) (hd : 13 ≤ d) (h : V_X8_barred x0 x1 S F I Q QX) : CM l G d yX8_barred (.code yX8_barred cX8_barred 3 (some .int)) [vr (some x0), vi x1] S F I (qI fun z S' F' I' => S = S' ∧ F = F' ∧ I = I' ∧ Q z) QX :=
  CM_ofM [vr (some x0), vi x1, vl 0] hl (by decide +kernel) (kn1 trivial (kn1 trivial kn0)) (Nat.le_of_ble_eq_true rfl) rfl (fun X hX C M => S_X8_barred C M hd h)
set_option maxRecDepth 20000 in
set_option maxHeartbeats 4000000 in
theorem S_X8_billNumbered {G : Gp} {X : Xt} {d : Nat}  {x0 : Nat} {x1 : Int} {Q : Nat → Prop} {QX : String → Shp → Fl → Il → Prop} {S : Shp} {F : Fl} {I : Il} (C : CO G RX8 cX8_billNumbered 2 X) (M : MX d (some (.object "Ironbark$Bill")) "billNumbered" X) (hd : 9 ≤ d)  (h : V_X8_billNumbered x0 x1 S F I Q QX) : J G X (QD X G (qR fun z S' F' I' => S = S' ∧ F = F' ∧ I = I' ∧ Q z) QX) 0 [vr (some x0), vi x1] [] S F I := by
  unfold V_X8_billNumbered at h
  obtain ⟨d, rfl⟩ : ∃ d9, d = d9 + 1 := ⟨d - 1, by omega⟩
  refine J_iload_n C dX8_billNumbered_0 rfl rfl ?_
  refine J_aload_n C dX8_billNumbered_1 rfl rfl ?_
  obtain ⟨hK1, h⟩ := h
  obtain ⟨r2, hr3, h⟩ := h
  refine J_getR C fo_9_5 rfl fl_RX8_31 dX8_billNumbered_2 hK1 hr3 ?_
  obtain ⟨hK4, h⟩ := h
  refine K_V C M [] [vi x1] mi_Jx4a65c_size_8abf5 wg_350 wg_351 wg_352 ⟨rfl, by decide⟩ dX8_billNumbered_5 hK4 rfl rfl (by decide) (Nat.le_of_ble_eq_true rfl) (c_Jx4a65c_size_8abf5 (C.2.2.2.2.2.2.2) (by omega) h) (fun v9 S' F' I' hq9 => ?_) K_no rfl
  clear h
  obtain ⟨z5, rfl, rfl, rfl, rfl, h⟩ := hq9
  refine K_S C M [vi x1, vi z5] [] mi_X8_requireIndex wg_257 wg_258 dX8_billNumbered_8 rfl rfl (by decide) (Nat.le_of_ble_eq_true rfl) (c_X8_requireIndex (C.2.2.2.2.2.2.2) (by omega) h) (fun v9 S' F' I' hq9 => ?_) (K_out C M) rfl
  clear h
  obtain ⟨rfl, rfl, rfl, rfl, h⟩ := hq9
  refine J_aload_n C dX8_billNumbered_11 rfl rfl ?_
  refine J_getR C fo_9_5 rfl fl_RX8_31 dX8_billNumbered_12 hK1 hr3 ?_
  refine J_iload_n C dX8_billNumbered_15 rfl rfl ?_
  refine K_V C M [vi x1] [] mi_Jx4a65c_get_915e3 wg_496 wg_497 wg_498 ⟨rfl, by decide⟩ dX8_billNumbered_16 hK4 rfl rfl (by decide) (Nat.le_of_ble_eq_true rfl) (c_Jx4a65c_get_915e3 (C.2.2.2.2.2.2.2) (by omega) h) (fun v9 S' F' I' hq9 => ?_) K_no rfl
  clear h
  obtain ⟨z6, rfl, rfl, rfl, rfl, h⟩ := hq9
  exact h.elim
theorem c_X8_billNumbered {l : Launch} {G : Gp} {d : Nat} {x0 : Nat} {x1 : Int} {S : Shp} {F : Fl} {I : Il} {Q : Nat → Prop} {QX : String → Shp → Fl → Il → Prop} (hl : l.stackTraces = false) (hd : 9 ≤ d) (h : V_X8_billNumbered x0 x1 S F I Q QX) : CM l G d yX8_billNumbered (.code yX8_billNumbered cX8_billNumbered 2 (some (.object "Ironbark$Bill"))) [vr (some x0), vi x1] S F I (qR fun z S' F' I' => S = S' ∧ F = F' ∧ I = I' ∧ Q z) QX :=
  CM_ofM [vr (some x0), vi x1] hl (by decide +kernel) (kn1 trivial (kn1 trivial kn0)) (Nat.le_of_ble_eq_true rfl) rfl (fun X hX C M => S_X8_billNumbered C M hd h)
set_option maxRecDepth 20000 in
set_option maxHeartbeats 4000000 in
theorem S_X8_beginDay_86 {G : Gp} {X : Xt} {d : Nat} {k19 : Nat → Int → Fl → Prop} {x0 : Nat} {x1 : Int} {Q : Fl → Prop} {QX : String → Shp → Fl → Il → Prop} {S : Shp} {F : Fl} {I : Il} (C : CO G RX8 cX8_beginDay 3 X) (M : MX d none "beginDay" X) (hd : 10 ≤ d) (hk19 : ∀ (x0 : Nat) (x1 : Int) (F' : Fl), k19 x0 x1 F' → J G X (QD X G (qV fun S' F' I' => S = S' ∧ I = I' ∧ Q F') QX) 19 [vr (some x0), vi x1, vl 0] [] S F' I) (h : V_X8_beginDay_86 k19 x0 x1 S F I Q QX) : J G X (QD X G (qV fun S' F' I' => S = S' ∧ I = I' ∧ Q F') QX) 86 [vr (some x0), vi x1, vl 0] [] S F I := by
  unfold V_X8_beginDay_86 at h
  refine K_iinc C [vr (some x0), vi (w32 (x1 + 1)), vl 0] dX8_beginDay_86 rfl rfl ?_
  refine J_goto C dX8_beginDay_89 (tgt := 19) rfl ?_
  exact hk19 x0 (w32 (x1 + 1)) F h
set_option maxRecDepth 20000 in
set_option maxHeartbeats 4000000 in
theorem S_X8_beginDay_19 {G : Gp} {X : Xt} {d : Nat}  {S : Shp} {I : Il} {Q : Fl → Prop} {QX : String → Shp → Fl → Il → Prop} (C : CO G RX8 cX8_beginDay 3 X) (M : MX d none "beginDay" X) (hd : 10 ≤ d) (n9 : Nat)  : ∀ (x0 : Nat) (x1 : Int) (F : Fl), V_X8_beginDay_19 n9 x0 x1 S F I Q QX → J G X (QD X G (qV fun S' F' I' => S = S' ∧ I = I' ∧ Q F') QX) 19 [vr (some x0), vi x1, vl 0] [] S F I := by
  obtain ⟨d, rfl⟩ : ∃ d9, d = d9 + 1 := ⟨d - 1, by omega⟩
  induction n9 with
  | zero => intro x0 x1 F h; exact h.elim
  | succ n ih =>
    intro x0 x1 F h
    unfold V_X8_beginDay_19 at h
    refine J_iload_n C dX8_beginDay_19 rfl rfl ?_
    refine J_aload_n C dX8_beginDay_20 rfl rfl ?_
    obtain ⟨hK1, h⟩ := h
    obtain ⟨r2, hr3, h⟩ := h
    refine J_getR C fo_9_4 rfl fl_RX8_28 dX8_beginDay_21 hK1 hr3 ?_
    obtain ⟨hK4, h⟩ := h
    refine K_V C M [] [vi x1] mi_Jx4a65c_size_8abf5 wg_350 wg_351 wg_352 ⟨rfl, by decide⟩ dX8_beginDay_24 hK4 rfl rfl (by decide) (Nat.le_of_ble_eq_true rfl) (c_Jx4a65c_size_8abf5 (C.2.2.2.2.2.2.2) (by omega) h) (fun v9 S' F' I' hq9 => ?_) K_no rfl
    clear h
    obtain ⟨z5, rfl, rfl, rfl, rfl, h⟩ := hq9
    refine J_icmp_ge C dX8_beginDay_27 (tgt := 92) rfl (fun c27 => ?_) (fun c27 => ?_)
    · have h := h.1 c27
      exact J_vret C dX8_beginDay_92 M.2.2.1 ⟨rfl, rfl, rfl, h⟩
    · have h := h.2 c27
      refine J_aload_n C dX8_beginDay_30 rfl rfl ?_
      refine J_getR C fo_9_4 rfl fl_RX8_28 dX8_beginDay_31 hK1 hr3 ?_
      refine J_iload_n C dX8_beginDay_34 rfl rfl ?_
      refine K_V C M [vi x1] [] mi_Jx4a65c_get_915e3 wg_496 wg_497 wg_498 ⟨rfl, by decide⟩ dX8_beginDay_35 hK4 rfl rfl (by decide) (Nat.le_of_ble_eq_true rfl) (c_Jx4a65c_get_915e3 (C.2.2.2.2.2.2.2) (by omega) h) (fun v9 S' F' I' hq9 => ?_) K_no rfl
      clear h
      obtain ⟨z6, rfl, rfl, rfl, rfl, h⟩ := hq9
      obtain ⟨hK7, h⟩ := h
      refine J_cast C fn_3.1 (by decide) wg_598 dX8_beginDay_38 hK7 ?_
      refine K_astore_n C [vr (some x0), vi x1, vr (some z6)] dX8_beginDay_41 rfl (Nat.le_of_ble_eq_true rfl) rfl ?_
      refine J_aload_n C dX8_beginDay_42 rfl rfl ?_
      refine J_getI C fo_3_2 rfl fl_RX8_245 dX8_beginDay_43 hK7 ?_
      refine J_iconst C dX8_beginDay_46 (rg_of (by decide)) ?_
      refine J_icmp_ne C dX8_beginDay_47 (tgt := 86) rfl (fun c47 => ?_) (fun c47 => ?_)
      · have h := h.1 c47
        refine J_less [vr (some x0), vi x1, vl 0] (by unfold lessL; simp [lessL]) ?_
        exact S_X8_beginDay_86 C M (by omega) (fun y0 y1 F' h9 => ih y0 y1 F' h9) h
      · have h := h.2 c47
        refine J_aload_n C dX8_beginDay_50 rfl rfl ?_
        refine J_getI C fo_3_3 rfl fl_RX8_339 dX8_beginDay_51 hK7 ?_
        refine J_iconst C dX8_beginDay_54 (rg_of (by decide)) ?_
        refine J_icmp_eq C dX8_beginDay_55 (tgt := 86) rfl (fun c55 => ?_) (fun c55 => ?_)
        · have h := h.1 c55
          refine J_less [vr (some x0), vi x1, vl 0] (by unfold lessL; simp [lessL]) ?_
          exact S_X8_beginDay_86 C M (by omega) (fun y0 y1 F' h9 => ih y0 y1 F' h9) h
        · have h := h.2 c55
          refine J_aload_n C dX8_beginDay_58 rfl rfl ?_
          refine J_aload_n C dX8_beginDay_59 rfl rfl ?_
          refine J_getI C fo_3_3 rfl fl_RX8_339 dX8_beginDay_60 hK7 ?_
          refine K_V C M [vi (F 303 z6)] [] mi_X8_billNumbered wg_689 wg_691 wg_14 ⟨rfl, by decide⟩ dX8_beginDay_63 hK1 rfl rfl (by decide) (Nat.le_of_ble_eq_true rfl) (c_X8_billNumbered (C.2.2.2.2.2.2.2) (by omega) h) (fun v9 S' F' I' hq9 => ?_) (K_out C M) rfl
          clear h
          obtain ⟨z8, rfl, rfl, rfl, rfl, h⟩ := hq9
          exact h.elim
set_option maxRecDepth 20000 in
set_option maxHeartbeats 4000000 in
theorem S_X8_beginDay {G : Gp} {X : Xt} {d : Nat}  {x0 : Nat} {Q : Fl → Prop} {QX : String → Shp → Fl → Il → Prop} {S : Shp} {F : Fl} {I : Il} (C : CO G RX8 cX8_beginDay 3 X) (M : MX d none "beginDay" X) (hd : 10 ≤ d)  (h : V_X8_beginDay x0 S F I Q QX) : J G X (QD X G (qV fun S' F' I' => S = S' ∧ I = I' ∧ Q F') QX) 0 [vr (some x0), vl 0, vl 0] [] S F I := by
  unfold V_X8_beginDay at h
  refine J_aload_n C dX8_beginDay_0 rfl rfl ?_
  refine J_dup C dX8_beginDay_1 trivial ?_
  obtain ⟨hK1, h⟩ := h
  refine J_getI C fo_9_13 rfl fl_RX8_66 dX8_beginDay_2 hK1 ?_
  refine J_aload_n C dX8_beginDay_5 rfl rfl ?_
  refine J_getI C fo_9_14 rfl fl_RX8_69 dX8_beginDay_6 hK1 ?_
  refine J_sipush C dX8_beginDay_9 (by decide +kernel) (rg_of (by decide)) ?_
  refine J_idiv C dX8_beginDay_12 (by decide) ?_
  refine J_isub C dX8_beginDay_13 ?_
  refine J_putI C fo_9_13 fp_9 fl_RX8_66 (Or.inl rfl) (Or.inl rfl) dX8_beginDay_14 hK1 ?_
  refine J_iconst C dX8_beginDay_17 (rg_of (by decide)) ?_
  refine K_istore_n C [vr (some x0), vi 0, vl 0] dX8_beginDay_18 rfl (Nat.le_of_ble_eq_true rfl) rfl ?_
  obtain ⟨n9, h⟩ := h
  exact S_X8_beginDay_19 C M (by omega) n9  _ _ _ h
theorem c_X8_beginDay {l : Launch} {G : Gp} {d : Nat} {x0 : Nat} {S : Shp} {F : Fl} {I : Il} {Q : Fl → Prop} {QX : String → Shp → Fl → Il → Prop} (hl : l.stackTraces = false) (hd : 10 ≤ d) (h : V_X8_beginDay x0 S F I Q QX) : CM l G d yX8_beginDay (.code yX8_beginDay cX8_beginDay 3 none) [vr (some x0)] S F I (qV fun S' F' I' => S = S' ∧ I = I' ∧ Q F') QX :=
  CM_ofM [vr (some x0), vl 0, vl 0] hl (by decide +kernel) (kn1 trivial kn0) (Nat.le_of_ble_eq_true rfl) rfl (fun X hX C M => S_X8_beginDay C M hd h)
set_option maxRecDepth 20000 in
set_option maxHeartbeats 4000000 in
theorem S_X8_block_40 {G : Gp} {X : Xt} {d : Nat}  {s0 : Int} {Q : Int → Prop} {QX : String → Shp → Fl → Il → Prop} {S : Shp} {F : Fl} {I : Il} (C : CO G RX8 cX8_block 5 X) (M : MX d (some .int) "block" X) (hd : 10 ≤ d)  (h : V_X8_block_40 s0 S F I Q QX) : J G X (QD X G (qI fun z S' F' I' => S = S' ∧ F = F' ∧ I = I' ∧ Q z) QX) 40 [vl 0, vl 0, vl 0, vl 0, vl 0] [vi s0] S F I := by
  unfold V_X8_block_40 at h
  refine K_istore C [vl 0, vl 0, vl 0, vl 0, vi s0] dX8_block_40 (Nat.le_of_ble_eq_true rfl) rfl ?_
  refine J_iload C dX8_block_42 rfl ?_
  refine J_if_eq C dX8_block_44 (tgt := 51) rfl (fun c44 => ?_) (fun c44 => ?_)
  · have h := h.1 c44
    refine J_iconst C dX8_block_51 (rg_of (by decide)) ?_
    exact J_iret C dX8_block_52 M.2.2.1 ⟨_, rfl, rfl, rfl, rfl, h⟩
  · have h := h.2 c44
    refine J_iconst C dX8_block_47 (rg_of (by decide)) ?_
    refine J_goto C dX8_block_48 (tgt := 52) rfl ?_
    exact J_iret C dX8_block_52 M.2.2.1 ⟨_, rfl, rfl, rfl, rfl, h⟩
set_option maxRecDepth 20000 in
set_option maxHeartbeats 4000000 in
theorem S_X8_block {G : Gp} {X : Xt} {d : Nat}  {x0 : Nat} {x1 : Int} {x2 : Int} {Q : Int → Prop} {QX : String → Shp → Fl → Il → Prop} {S : Shp} {F : Fl} {I : Il} (C : CO G RX8 cX8_block 5 X) (M : MX d (some .int) "block" X) (hd : 10 ≤ d)  (h : V_X8_block x0 x1 x2 S F I Q QX) : J G X (QD X G (qI fun z S' F' I' => S = S' ∧ F = F' ∧ I = I' ∧ Q z) QX) 0 [vr (some x0), vi x1, vi x2, vl 0, vl 0] [] S F I := by
  unfold V_X8_block at h
  obtain ⟨d, rfl⟩ : ∃ d9, d = d9 + 1 := ⟨d - 1, by omega⟩
  refine J_aload_n C dX8_block_0 rfl rfl ?_
  refine J_iload_n C dX8_block_1 rfl rfl ?_
  obtain ⟨hK1, h⟩ := h
  refine K_V C M [vi x1] [] mi_X8_blockOf wg_492 wg_494 wg_5 ⟨rfl, by decide⟩ dX8_block_2 hK1 rfl rfl (by decide) (Nat.le_of_ble_eq_true rfl) (c_X8_blockOf (C.2.2.2.2.2.2.2) (by omega) h) (fun v9 S' F' I' hq9 => ?_) (K_out C M) rfl
  clear h
  obtain ⟨z2, rfl, rfl, rfl, rfl, h⟩ := hq9
  refine K_astore_n C [vr (some x0), vi x1, vi x2, vr (some z2), vl 0] dX8_block_5 rfl (Nat.le_of_ble_eq_true rfl) rfl ?_
  refine J_iload_n C dX8_block_6 rfl rfl ?_
  refine J_iconst C dX8_block_7 (rg_of (by decide)) ?_
  refine K_S C M [vi x2, vi 3] [] mi_X8_requireIndex wg_257 wg_258 dX8_block_8 rfl rfl (by decide) (Nat.le_of_ble_eq_true rfl) (c_X8_requireIndex (C.2.2.2.2.2.2.2) (by omega) h) (fun v9 S' F' I' hq9 => ?_) (K_out C M) rfl
  clear h
  obtain ⟨rfl, rfl, rfl, rfl, h⟩ := hq9
  refine J_iload_n C dX8_block_11 rfl rfl ?_
  refine J_if_ne C dX8_block_12 (tgt := 20) rfl (fun c12 => ?_) (fun c12 => ?_)
  · have h := h.1 c12
    refine J_iload_n C dX8_block_20 rfl rfl ?_
    refine J_iconst C dX8_block_21 (rg_of (by decide)) ?_
    refine J_icmp_ne C dX8_block_22 (tgt := 36) rfl (fun c22 => ?_) (fun c22 => ?_)
    · have h := h.1 c22
      refine J_aload_n C dX8_block_36 rfl rfl ?_
      obtain ⟨hK3, h⟩ := h
      refine J_getI C fo_2_6 rfl fl_RX8_129 dX8_block_37 hK3 ?_
      refine J_less [vl 0, vl 0, vl 0, vl 0, vl 0] (by unfold lessL; simp [lessL]) ?_
      exact S_X8_block_40 C M (by omega)  h
    · have h := h.2 c22
      refine J_aload_n C dX8_block_25 rfl rfl ?_
      refine J_aload_n C dX8_block_26 rfl rfl ?_
      refine J_getI C fo_9_12 rfl fl_RX8_62 dX8_block_27 hK1 ?_
      obtain ⟨hK4, h⟩ := h
      refine K_V C M [vi (F 912 x0)] [] mi_X1_isClosedAt wg_722 wg_723 wg_724 ⟨rfl, by decide⟩ dX8_block_30 hK4 rfl rfl (by decide) (Nat.le_of_ble_eq_true rfl) (c_X1_isClosedAt (C.2.2.2.2.2.2.2) (by omega) h) (fun v9 S' F' I' hq9 => ?_) K_no rfl
      clear h
      obtain ⟨z5, rfl, rfl, rfl, rfl, h⟩ := hq9
      refine J_goto C dX8_block_33 (tgt := 40) rfl ?_
      refine J_less [vl 0, vl 0, vl 0, vl 0, vl 0] (by unfold lessL; simp [lessL]) ?_
      exact S_X8_block_40 C M (by omega)  h
  · have h := h.2 c12
    refine J_aload_n C dX8_block_15 rfl rfl ?_
    obtain ⟨hK6, h⟩ := h
    refine J_getI C fo_2_4 rfl fl_RX8_145 dX8_block_16 hK6 ?_
    exact J_iret C dX8_block_19 M.2.2.1 ⟨_, rfl, rfl, rfl, rfl, h⟩
theorem c_X8_block {l : Launch} {G : Gp} {d : Nat} {x0 : Nat} {x1 : Int} {x2 : Int} {S : Shp} {F : Fl} {I : Il} {Q : Int → Prop} {QX : String → Shp → Fl → Il → Prop} (hl : l.stackTraces = false) (hd : 10 ≤ d) (h : V_X8_block x0 x1 x2 S F I Q QX) : CM l G d yX8_block (.code yX8_block cX8_block 5 (some .int)) [vr (some x0), vi x1, vi x2] S F I (qI fun z S' F' I' => S = S' ∧ F = F' ∧ I = I' ∧ Q z) QX :=
  CM_ofM [vr (some x0), vi x1, vi x2, vl 0, vl 0] hl (by decide +kernel) (kn1 trivial (kn1 trivial (kn1 trivial kn0))) (Nat.le_of_ble_eq_true rfl) rfl (fun X hX C M => S_X8_block C M hd h)
set_option maxRecDepth 20000 in
set_option maxHeartbeats 4000000 in
theorem S_X8_car_23 {G : Gp} {X : Xt} {d : Nat}  {x0 : Nat} {x1 : Int} {x2 : Nat} {s0 : Int} {Q : Int → Shp → Fl → Il → Prop} {QX : String → Shp → Fl → Il → Prop} {S : Shp} {F : Fl} {I : Il} (C : CO G RX8 cX8_car 4 X) (M : MX d (some .int) "car" X) (hd : 10 ≤ d)  (h : V_X8_car_23 G x0 x1 x2 s0 S F I Q QX) : J G X (QD X G (qI fun z S' F' I' => Q z S' F' I') QX) 23 [vr (some x0), vi x1, vr (some x2), vl 0] [vi s0] S F I := by
  unfold V_X8_car_23 at h
  obtain ⟨d, rfl⟩ : ∃ d9, d = d9 + 1 := ⟨d - 1, by omega⟩
  refine K_S C M [vi s0] [] mi_X8_requireState wg_354 wg_355 dX8_car_23 rfl rfl (by decide) (Nat.le_of_ble_eq_true rfl) (c_X8_requireState (C.2.2.2.2.2.2.2) (by omega) h) (fun v9 S' F' I' hq9 => ?_) (K_out C M) rfl
  clear h
  obtain ⟨rfl, rfl, rfl, rfl, h⟩ := hq9
  refine J_aload_n C dX8_car_26 rfl rfl ?_
  refine J_dup C dX8_car_27 trivial ?_
  obtain ⟨hK1, h⟩ := h
  refine J_getI C fo_9_13 rfl fl_RX8_66 dX8_car_28 hK1 ?_
  refine J_bipush C dX8_car_31 (by decide +kernel) (rg_of (by decide)) ?_
  refine J_isub C dX8_car_33 ?_
  refine J_putI C fo_9_13 fp_9 fl_RX8_66 (Or.inl rfl) (Or.inl rfl) dX8_car_34 hK1 ?_
  obtain ⟨ha4, hb5, h⟩ := h
  refine J_new C fn_3 fp_3.1 fd_3 wg_598 wg_599 wg_52 dX8_car_37 ha4 hb5 (fun q2 hq3 => ?_)
  have h := h q2 hq3
  refine J_dup C dX8_car_40 trivial ?_
  refine J_iload_n C dX8_car_41 rfl rfl ?_
  refine K_I C M [vi x1] [vr (some q2)] mi_X2_init rfl wg_600 wg_601 dX8_car_42 rfl rfl (by decide) (Nat.le_of_ble_eq_true rfl) (c_X2_init (C.2.2.2.2.2.2.2) (by omega) h) (fun v9 S6 F7 I8 hq9 => ?_) K_no rfl
  clear h
  obtain ⟨rfl, h⟩ := hq9
  refine K_astore_n C [vr (some x0), vi x1, vr (some x2), vr (some q2)] dX8_car_45 rfl (Nat.le_of_ble_eq_true rfl) rfl ?_
  refine J_aload_n C dX8_car_46 rfl rfl ?_
  refine J_iconst C dX8_car_47 (rg_of (by decide)) ?_
  refine J_iload_n C dX8_car_48 rfl rfl ?_
  obtain ⟨hK9, h⟩ := h
  refine K_V C M [vi 0, vi x1] [] mi_X2_write wg_625 wg_626 wg_627 ⟨rfl, by decide⟩ dX8_car_49 hK9 rfl rfl (by decide) (Nat.le_of_ble_eq_true rfl) (c_X2_write (C.2.2.2.2.2.2.2) (by omega) h) (fun v9 S10 F11 I12 hq9 => ?_) K_no rfl
  clear h
  obtain ⟨rfl, h⟩ := hq9
  refine J_aload_n C dX8_car_52 rfl rfl ?_
  obtain ⟨hK13, h⟩ := h
  obtain ⟨r14, hr15, h⟩ := h
  refine J_getR C fo_9_4 rfl fl_RX8_28 dX8_car_53 hK13 hr15 ?_
  refine J_aload_n C dX8_car_56 rfl rfl ?_
  obtain ⟨hK16, h⟩ := h
  refine K_V C M [vr (some q2)] [] mi_Jx4a65c_add_9ea2d wg_429 wg_430 wg_431 ⟨rfl, by decide⟩ dX8_car_57 hK16 rfl rfl (by decide) (Nat.le_of_ble_eq_true rfl) (c_Jx4a65c_add_9ea2d (C.2.2.2.2.2.2.2) (by omega) h) (fun v9 S18 F19 I20 hq9 => ?_) K_no rfl
  clear h
  obtain ⟨z17, rfl, h⟩ := hq9
  refine J_pop C dX8_car_60 trivial ?_
  refine J_aload_n C dX8_car_61 rfl rfl ?_
  obtain ⟨hK21, h⟩ := h
  obtain ⟨r22, hr23, h⟩ := h
  refine J_getR C fo_7_1 rfl fl_RX8_200 dX8_car_62 hK21 hr23 ?_
  refine J_aload_n C dX8_car_65 rfl rfl ?_
  obtain ⟨hK24, h⟩ := h
  obtain ⟨r25, hr26, h⟩ := h
  refine J_getR C fo_9_4 rfl fl_RX8_28 dX8_car_66 hK24 hr26 ?_
  obtain ⟨hK27, h⟩ := h
  refine K_V C M [] [vr (some r22)] mi_Jx4a65c_size_8abf5 wg_350 wg_351 wg_352 ⟨rfl, by decide⟩ dX8_car_69 hK27 rfl rfl (by decide) (Nat.le_of_ble_eq_true rfl) (c_Jx4a65c_size_8abf5 (C.2.2.2.2.2.2.2) (by omega) h) (fun v9 S' F' I' hq9 => ?_) K_no rfl
  clear h
  obtain ⟨z28, rfl, rfl, rfl, rfl, h⟩ := hq9
  refine J_iconst C dX8_car_72 (rg_of (by decide)) ?_
  refine J_isub C dX8_car_73 ?_
  obtain ⟨hK29, h⟩ := h
  refine K_V C M [vi (w32 (z28 - 1))] [] mi_X5_append wg_643 wg_630 wg_631 ⟨rfl, by decide⟩ dX8_car_74 hK29 rfl rfl (by decide) (Nat.le_of_ble_eq_true rfl) (c_X5_append (C.2.2.2.2.2.2.2) (by omega) h) (fun v9 S30 F31 I32 hq9 => ?_) K_no rfl
  clear h
  obtain ⟨rfl, h⟩ := hq9
  refine J_aload_n C dX8_car_77 rfl rfl ?_
  obtain ⟨hK33, h⟩ := h
  obtain ⟨r34, hr35, h⟩ := h
  refine J_getR C fo_9_4 rfl fl_RX8_28 dX8_car_78 hK33 hr35 ?_
  obtain ⟨hK36, h⟩ := h
  refine K_V C M [] [] mi_Jx4a65c_size_8abf5 wg_350 wg_351 wg_352 ⟨rfl, by decide⟩ dX8_car_81 hK36 rfl rfl (by decide) (Nat.le_of_ble_eq_true rfl) (c_Jx4a65c_size_8abf5 (C.2.2.2.2.2.2.2) (by omega) h) (fun v9 S' F' I' hq9 => ?_) K_no rfl
  clear h
  obtain ⟨z37, rfl, rfl, rfl, rfl, h⟩ := hq9
  refine J_iconst C dX8_car_84 (rg_of (by decide)) ?_
  refine J_isub C dX8_car_85 ?_
  exact J_iret C dX8_car_86 M.2.2.1 ⟨_, rfl, h⟩
set_option maxRecDepth 20000 in
set_option maxHeartbeats 4000000 in
theorem S_X8_car {G : Gp} {X : Xt} {d : Nat}  {x0 : Nat} {x1 : Int} {Q : Int → Shp → Fl → Il → Prop} {QX : String → Shp → Fl → Il → Prop} {S : Shp} {F : Fl} {I : Il} (C : CO G RX8 cX8_car 4 X) (M : MX d (some .int) "car" X) (hd : 10 ≤ d)  (h : V_X8_car G x0 x1 S F I Q QX) : J G X (QD X G (qI fun z S' F' I' => Q z S' F' I') QX) 0 [vr (some x0), vi x1, vl 0, vl 0] [] S F I := by
  unfold V_X8_car at h
  obtain ⟨d, rfl⟩ : ∃ d9, d = d9 + 1 := ⟨d - 1, by omega⟩
  refine J_aload_n C dX8_car_0 rfl rfl ?_
  refine J_iload_n C dX8_car_1 rfl rfl ?_
  obtain ⟨hK1, h⟩ := h
  refine K_V C M [vi x1] [] mi_X8_stationOf wg_594 wg_596 wg_8 ⟨rfl, by decide⟩ dX8_car_2 hK1 rfl rfl (by decide) (Nat.le_of_ble_eq_true rfl) (c_X8_stationOf (C.2.2.2.2.2.2.2) (by omega) h) (fun v9 S' F' I' hq9 => ?_) (K_out C M) rfl
  clear h
  obtain ⟨z2, rfl, rfl, rfl, rfl, h⟩ := hq9
  refine K_astore_n C [vr (some x0), vi x1, vr (some z2), vl 0] dX8_car_5 rfl (Nat.le_of_ble_eq_true rfl) rfl ?_
  refine J_aload_n C dX8_car_6 rfl rfl ?_
  obtain ⟨r3, hr4, h⟩ := h
  refine J_getR C fo_9_4 rfl fl_RX8_28 dX8_car_7 hK1 hr4 ?_
  obtain ⟨hK5, h⟩ := h
  refine K_V C M [] [] mi_Jx4a65c_size_8abf5 wg_350 wg_351 wg_352 ⟨rfl, by decide⟩ dX8_car_10 hK5 rfl rfl (by decide) (Nat.le_of_ble_eq_true rfl) (c_Jx4a65c_size_8abf5 (C.2.2.2.2.2.2.2) (by omega) h) (fun v9 S' F' I' hq9 => ?_) K_no rfl
  clear h
  obtain ⟨z6, rfl, rfl, rfl, rfl, h⟩ := hq9
  refine J_bipush C dX8_car_13 (by decide +kernel) (rg_of (by decide)) ?_
  refine J_icmp_ge C dX8_car_15 (tgt := 22) rfl (fun c15 => ?_) (fun c15 => ?_)
  · have h := h.1 c15
    refine J_iconst C dX8_car_22 (rg_of (by decide)) ?_
    exact S_X8_car_23 C M (by omega)  h
  · have h := h.2 c15
    refine J_iconst C dX8_car_18 (rg_of (by decide)) ?_
    refine J_goto C dX8_car_19 (tgt := 23) rfl ?_
    exact S_X8_car_23 C M (by omega)  h
theorem c_X8_car {l : Launch} {G : Gp} {d : Nat} {x0 : Nat} {x1 : Int} {S : Shp} {F : Fl} {I : Il} {Q : Int → Shp → Fl → Il → Prop} {QX : String → Shp → Fl → Il → Prop} (hl : l.stackTraces = false) (hd : 10 ≤ d) (h : V_X8_car G x0 x1 S F I Q QX) : CM l G d yX8_car (.code yX8_car cX8_car 4 (some .int)) [vr (some x0), vi x1] S F I (qI fun z S' F' I' => Q z S' F' I') QX :=
  CM_ofM [vr (some x0), vi x1, vl 0, vl 0] hl (by decide +kernel) (kn1 trivial (kn1 trivial kn0)) (Nat.le_of_ble_eq_true rfl) rfl (fun X hX C M => S_X8_car C M hd h)
set_option maxRecDepth 20000 in
set_option maxHeartbeats 4000000 in
theorem S_X8_carOf {G : Gp} {X : Xt} {d : Nat}  {x0 : Nat} {x1 : Int} {Q : Nat → Prop} {QX : String → Shp → Fl → Il → Prop} {S : Shp} {F : Fl} {I : Il} (C : CO G RX8 cX8_carOf 2 X) (M : MX d (some (.object "Ironbark$Car")) "carOf" X) (hd : 9 ≤ d)  (h : V_X8_carOf x0 x1 S F I Q QX) : J G X (QD X G (qR fun z S' F' I' => S = S' ∧ F = F' ∧ I = I' ∧ Q z) QX) 0 [vr (some x0), vi x1] [] S F I := by
  unfold V_X8_carOf at h
  obtain ⟨d, rfl⟩ : ∃ d9, d = d9 + 1 := ⟨d - 1, by omega⟩
  refine J_iload_n C dX8_carOf_0 rfl rfl ?_
  refine J_aload_n C dX8_carOf_1 rfl rfl ?_
  obtain ⟨hK1, h⟩ := h
  obtain ⟨r2, hr3, h⟩ := h
  refine J_getR C fo_9_4 rfl fl_RX8_28 dX8_carOf_2 hK1 hr3 ?_
  obtain ⟨hK4, h⟩ := h
  refine K_V C M [] [vi x1] mi_Jx4a65c_size_8abf5 wg_350 wg_351 wg_352 ⟨rfl, by decide⟩ dX8_carOf_5 hK4 rfl rfl (by decide) (Nat.le_of_ble_eq_true rfl) (c_Jx4a65c_size_8abf5 (C.2.2.2.2.2.2.2) (by omega) h) (fun v9 S' F' I' hq9 => ?_) K_no rfl
  clear h
  obtain ⟨z5, rfl, rfl, rfl, rfl, h⟩ := hq9
  refine K_S C M [vi x1, vi z5] [] mi_X8_requireIndex wg_257 wg_258 dX8_carOf_8 rfl rfl (by decide) (Nat.le_of_ble_eq_true rfl) (c_X8_requireIndex (C.2.2.2.2.2.2.2) (by omega) h) (fun v9 S' F' I' hq9 => ?_) (K_out C M) rfl
  clear h
  obtain ⟨rfl, rfl, rfl, rfl, h⟩ := hq9
  refine J_aload_n C dX8_carOf_11 rfl rfl ?_
  refine J_getR C fo_9_4 rfl fl_RX8_28 dX8_carOf_12 hK1 hr3 ?_
  refine J_iload_n C dX8_carOf_15 rfl rfl ?_
  refine K_V C M [vi x1] [] mi_Jx4a65c_get_915e3 wg_496 wg_497 wg_498 ⟨rfl, by decide⟩ dX8_carOf_16 hK4 rfl rfl (by decide) (Nat.le_of_ble_eq_true rfl) (c_Jx4a65c_get_915e3 (C.2.2.2.2.2.2.2) (by omega) h) (fun v9 S' F' I' hq9 => ?_) K_no rfl
  clear h
  obtain ⟨z6, rfl, rfl, rfl, rfl, h⟩ := hq9
  obtain ⟨hK7, h⟩ := h
  refine J_cast C fn_3.1 (by decide) wg_598 dX8_carOf_19 hK7 ?_
  exact J_aret C dX8_carOf_22 M.2.2.1 (Or.inl ⟨_, rfl⟩) ⟨_, rfl, rfl, rfl, rfl, h⟩
theorem c_X8_carOf {l : Launch} {G : Gp} {d : Nat} {x0 : Nat} {x1 : Int} {S : Shp} {F : Fl} {I : Il} {Q : Nat → Prop} {QX : String → Shp → Fl → Il → Prop} (hl : l.stackTraces = false) (hd : 9 ≤ d) (h : V_X8_carOf x0 x1 S F I Q QX) : CM l G d yX8_carOf (.code yX8_carOf cX8_carOf 2 (some (.object "Ironbark$Car"))) [vr (some x0), vi x1] S F I (qR fun z S' F' I' => S = S' ∧ F = F' ∧ I = I' ∧ Q z) QX :=
  CM_ofM [vr (some x0), vi x1] hl (by decide +kernel) (kn1 trivial (kn1 trivial kn0)) (Nat.le_of_ble_eq_true rfl) rfl (fun X hX C M => S_X8_carOf C M hd h)
set_option maxRecDepth 20000 in
set_option maxHeartbeats 4000000 in
theorem S_X8_cash {G : Gp} {X : Xt} {d : Nat}  {x0 : Nat} {Q : Int → Prop} {S : Shp} {F : Fl} {I : Il} (C : CO G RX8 cX8_cash 1 X) (M : MX d (some .int) "cash" X) (hd : 1 ≤ d)  (h : V_X8_cash x0 S F I Q) : J G X (QD X G (qI fun z S' F' I' => S = S' ∧ F = F' ∧ I = I' ∧ Q z) noX) 0 [vr (some x0)] [] S F I := by
  unfold V_X8_cash at h
  refine J_aload_n C dX8_cash_0 rfl rfl ?_
  obtain ⟨hK1, h⟩ := h
  refine J_getI C fo_9_13 rfl fl_RX8_66 dX8_cash_1 hK1 ?_
  exact J_iret C dX8_cash_4 M.2.2.1 ⟨_, rfl, rfl, rfl, rfl, h⟩
theorem c_X8_cash {l : Launch} {G : Gp} {d : Nat} {x0 : Nat} {S : Shp} {F : Fl} {I : Il} {Q : Int → Prop} (hl : l.stackTraces = false) (hd : 1 ≤ d) (h : V_X8_cash x0 S F I Q) : CM l G d yX8_cash (.code yX8_cash cX8_cash 1 (some .int)) [vr (some x0)] S F I (qI fun z S' F' I' => S = S' ∧ F = F' ∧ I = I' ∧ Q z) noX :=
  CM_ofM [vr (some x0)] hl (by decide +kernel) (kn1 trivial kn0) (Nat.le_of_ble_eq_true rfl) rfl (fun X hX C M => S_X8_cash C M hd h)
set_option maxRecDepth 20000 in
set_option maxHeartbeats 4000000 in
theorem S_X8_clock {G : Gp} {X : Xt} {d : Nat}  {x0 : Nat} {Q : Int → Prop} {S : Shp} {F : Fl} {I : Il} (C : CO G RX8 cX8_clock 1 X) (M : MX d (some .int) "clock" X) (hd : 1 ≤ d)  (h : V_X8_clock x0 S F I Q) : J G X (QD X G (qI fun z S' F' I' => S = S' ∧ F = F' ∧ I = I' ∧ Q z) noX) 0 [vr (some x0)] [] S F I := by
  unfold V_X8_clock at h
  refine J_aload_n C dX8_clock_0 rfl rfl ?_
  obtain ⟨hK1, h⟩ := h
  refine J_getI C fo_9_12 rfl fl_RX8_62 dX8_clock_1 hK1 ?_
  exact J_iret C dX8_clock_4 M.2.2.1 ⟨_, rfl, rfl, rfl, rfl, h⟩
theorem c_X8_clock {l : Launch} {G : Gp} {d : Nat} {x0 : Nat} {S : Shp} {F : Fl} {I : Il} {Q : Int → Prop} (hl : l.stackTraces = false) (hd : 1 ≤ d) (h : V_X8_clock x0 S F I Q) : CM l G d yX8_clock (.code yX8_clock cX8_clock 1 (some .int)) [vr (some x0)] S F I (qI fun z S' F' I' => S = S' ∧ F = F' ∧ I = I' ∧ Q z) noX :=
  CM_ofM [vr (some x0)] hl (by decide +kernel) (kn1 trivial kn0) (Nat.le_of_ble_eq_true rfl) rfl (fun X hX C M => S_X8_clock C M hd h)
set_option maxRecDepth 20000 in
set_option maxHeartbeats 4000000 in
theorem S_X8_couple_66 {G : Gp} {X : Xt} {d : Nat}  {x0 : Nat} {x1 : Int} {x2 : Int} {x3 : Nat} {x4 : Nat} {s0 : Int} {Q : Int → Shp → Fl → Il → Prop} {QX : String → Shp → Fl → Il → Prop} {S : Shp} {F : Fl} {I : Il} (C : CO G RX8 cX8_couple 5 X) (M : MX d (some .int) "couple" X) (hd : 11 ≤ d)  (h : V_X8_couple_66 x0 x1 x2 x3 x4 s0 S F I Q QX) : J G X (QD X G (qI fun z S' F' I' => Q z S' F' I') QX) 66 [vr (some x0), vi x1, vi x2, vr (some x3), vr (some x4)] [vi s0] S F I := by
  unfold V_X8_couple_66 at h
  obtain ⟨d, rfl⟩ : ∃ d9, d = d9 + 1 := ⟨d - 1, by omega⟩
  refine K_S C M [vi s0] [] mi_X8_requireState wg_354 wg_355 dX8_couple_66 rfl rfl (by decide) (Nat.le_of_ble_eq_true rfl) (c_X8_requireState (C.2.2.2.2.2.2.2) (by omega) h) (fun v9 S' F' I' hq9 => ?_) (K_out C M) rfl
  clear h
  obtain ⟨rfl, rfl, rfl, rfl, h⟩ := hq9
  refine J_aload_n C dX8_couple_69 rfl rfl ?_
  refine J_aload C dX8_couple_70 rfl ?_
  obtain ⟨hK1, h⟩ := h
  refine J_getI C fo_3_1 rfl fl_RX8_246 dX8_couple_72 hK1 ?_
  obtain ⟨hK2, h⟩ := h
  refine K_V C M [vi (F 301 x4)] [] mi_X8_stationOf wg_594 wg_596 wg_8 ⟨rfl, by decide⟩ dX8_couple_75 hK2 rfl rfl (by decide) (Nat.le_of_ble_eq_true rfl) (c_X8_stationOf (C.2.2.2.2.2.2.2) (by omega) h) (fun v9 S' F' I' hq9 => ?_) (K_out C M) rfl
  clear h
  obtain ⟨z3, rfl, rfl, rfl, rfl, h⟩ := hq9
  obtain ⟨hK4, h⟩ := h
  obtain ⟨r5, hr6, h⟩ := h
  refine J_getR C fo_7_1 rfl fl_RX8_200 dX8_couple_78 hK4 hr6 ?_
  refine J_iload_n C dX8_couple_81 rfl rfl ?_
  obtain ⟨hK7, h⟩ := h
  refine K_V C M [vi x2] [] mi_X5_drop wg_832 wg_833 wg_834 ⟨rfl, by decide⟩ dX8_couple_82 hK7 rfl rfl (by decide) (Nat.le_of_ble_eq_true rfl) (c_X5_drop (C.2.2.2.2.2.2.2) (by omega) h) (fun v9 S' F8 I9 hq9 => ?_) K_no rfl
  clear h
  obtain ⟨rfl, rfl, h⟩ := hq9
  refine J_aload_n C dX8_couple_85 rfl rfl ?_
  obtain ⟨hK10, h⟩ := h
  obtain ⟨r11, hr12, h⟩ := h
  refine J_getR C fo_8_9 rfl fl_RX8_228 dX8_couple_86 hK10 hr12 ?_
  refine J_iload_n C dX8_couple_89 rfl rfl ?_
  obtain ⟨hK13, h⟩ := h
  refine K_V C M [vi x2] [] mi_X5_append wg_643 wg_630 wg_631 ⟨rfl, by decide⟩ dX8_couple_90 hK13 rfl rfl (by decide) (Nat.le_of_ble_eq_true rfl) (c_X5_append (C.2.2.2.2.2.2.2) (by omega) h) (fun v9 S14 F15 I16 hq9 => ?_) K_no rfl
  clear h
  obtain ⟨rfl, h⟩ := hq9
  refine J_aload_n C dX8_couple_93 rfl rfl ?_
  refine J_dup C dX8_couple_94 trivial ?_
  obtain ⟨hK17, h⟩ := h
  refine J_getI C fo_8_8 rfl fl_RX8_250 dX8_couple_95 hK17 ?_
  refine J_aload C dX8_couple_98 rfl ?_
  obtain ⟨hK18, h⟩ := h
  refine K_V C M [] [vi (F15 808 x3), vr (some x3)] mi_X2_weight wg_836 wg_837 wg_838 ⟨rfl, by decide⟩ dX8_couple_100 hK18 rfl rfl (by decide) (Nat.le_of_ble_eq_true rfl) (c_X2_weight (C.2.2.2.2.2.2.2) (by omega) h) (fun v9 S' F' I' hq9 => ?_) K_no rfl
  clear h
  obtain ⟨z19, rfl, rfl, rfl, rfl, h⟩ := hq9
  refine J_iadd C dX8_couple_103 ?_
  refine J_putI C fo_8_8 fp_8 fl_RX8_250 (Or.inl rfl) (Or.inl rfl) dX8_couple_104 hK17 ?_
  refine J_aload C dX8_couple_107 rfl ?_
  refine J_iload_n C dX8_couple_109 rfl rfl ?_
  refine J_putI C fo_3_2 fp_3 fl_RX8_245 (Or.inl rfl) (Or.inl rfl) dX8_couple_110 hK18 ?_
  refine J_aload C dX8_couple_113 rfl ?_
  refine J_iconst C dX8_couple_115 (rg_of (by decide)) ?_
  refine J_iload_n C dX8_couple_116 rfl rfl ?_
  refine K_V C M [vi 1, vi x1] [] mi_X2_write wg_625 wg_626 wg_627 ⟨rfl, by decide⟩ dX8_couple_117 hK18 rfl rfl (by decide) (Nat.le_of_ble_eq_true rfl) (c_X2_write (C.2.2.2.2.2.2.2) (by omega) h) (fun v9 S20 F21 I22 hq9 => ?_) K_no rfl
  clear h
  obtain ⟨rfl, h⟩ := hq9
  refine J_aload_n C dX8_couple_120 rfl rfl ?_
  obtain ⟨hK23, h⟩ := h
  obtain ⟨r24, hr25, h⟩ := h
  refine J_getR C fo_8_9 rfl fl_RX8_228 dX8_couple_121 hK23 hr25 ?_
  obtain ⟨hK26, h⟩ := h
  refine J_getI C fo_6_1 rfl fl_RX8_230 dX8_couple_124 hK26 ?_
  exact J_iret C dX8_couple_127 M.2.2.1 ⟨_, rfl, h⟩
set_option maxRecDepth 20000 in
set_option maxHeartbeats 4000000 in
theorem S_X8_couple_65 {G : Gp} {X : Xt} {d : Nat}  {x0 : Nat} {x1 : Int} {x2 : Int} {x3 : Nat} {x4 : Nat} {Q : Int → Shp → Fl → Il → Prop} {QX : String → Shp → Fl → Il → Prop} {S : Shp} {F : Fl} {I : Il} (C : CO G RX8 cX8_couple 5 X) (M : MX d (some .int) "couple" X) (hd : 11 ≤ d)  (h : V_X8_couple_65 x0 x1 x2 x3 x4 S F I Q QX) : J G X (QD X G (qI fun z S' F' I' => Q z S' F' I') QX) 65 [vr (some x0), vi x1, vi x2, vr (some x3), vr (some x4)] [] S F I := by
  unfold V_X8_couple_65 at h
  refine J_iconst C dX8_couple_65 (rg_of (by decide)) ?_
  exact S_X8_couple_66 C M (by omega)  h
set_option maxRecDepth 20000 in
set_option maxHeartbeats 4000000 in
theorem S_X8_couple_37 {G : Gp} {X : Xt} {d : Nat}  {x0 : Nat} {x1 : Int} {x2 : Int} {x3 : Nat} {x4 : Nat} {s0 : Int} {Q : Int → Shp → Fl → Il → Prop} {QX : String → Shp → Fl → Il → Prop} {S : Shp} {F : Fl} {I : Il} (C : CO G RX8 cX8_couple 5 X) (M : MX d (some .int) "couple" X) (hd : 11 ≤ d)  (h : V_X8_couple_37 x0 x1 x2 x3 x4 s0 S F I Q QX) : J G X (QD X G (qI fun z S' F' I' => Q z S' F' I') QX) 37 [vr (some x0), vi x1, vi x2, vr (some x3), vr (some x4)] [vi s0] S F I := by
  unfold V_X8_couple_37 at h
  obtain ⟨d, rfl⟩ : ∃ d9, d = d9 + 1 := ⟨d - 1, by omega⟩
  refine K_S C M [vi s0] [] mi_X8_requireState wg_354 wg_355 dX8_couple_37 rfl rfl (by decide) (Nat.le_of_ble_eq_true rfl) (c_X8_requireState (C.2.2.2.2.2.2.2) (by omega) h) (fun v9 S' F' I' hq9 => ?_) (K_out C M) rfl
  clear h
  obtain ⟨rfl, rfl, rfl, rfl, h⟩ := hq9
  refine J_aload C dX8_couple_40 rfl ?_
  obtain ⟨hK1, h⟩ := h
  refine J_getI C fo_3_2 rfl fl_RX8_245 dX8_couple_42 hK1 ?_
  refine J_iconst C dX8_couple_45 (rg_of (by decide)) ?_
  refine J_icmp_ne C dX8_couple_46 (tgt := 65) rfl (fun c46 => ?_) (fun c46 => ?_)
  · have h := h.1 c46
    exact S_X8_couple_65 C M (by omega)  h
  · have h := h.2 c46
    refine J_aload C dX8_couple_49 rfl ?_
    refine J_getI C fo_3_1 rfl fl_RX8_246 dX8_couple_51 hK1 ?_
    refine J_aload_n C dX8_couple_54 rfl rfl ?_
    obtain ⟨hK2, h⟩ := h
    refine J_getI C fo_8_5 rfl fl_RX8_236 dX8_couple_55 hK2 ?_
    refine J_icmp_ne C dX8_couple_58 (tgt := 65) rfl (fun c58 => ?_) (fun c58 => ?_)
    · have h := h.1 c58
      exact S_X8_couple_65 C M (by omega)  h
    · have h := h.2 c58
      refine J_iconst C dX8_couple_61 (rg_of (by decide)) ?_
      refine J_goto C dX8_couple_62 (tgt := 66) rfl ?_
      exact S_X8_couple_66 C M (by omega)  h
set_option maxRecDepth 20000 in
set_option maxHeartbeats 4000000 in
theorem S_X8_couple_36 {G : Gp} {X : Xt} {d : Nat}  {x0 : Nat} {x1 : Int} {x2 : Int} {x3 : Nat} {x4 : Nat} {Q : Int → Shp → Fl → Il → Prop} {QX : String → Shp → Fl → Il → Prop} {S : Shp} {F : Fl} {I : Il} (C : CO G RX8 cX8_couple 5 X) (M : MX d (some .int) "couple" X) (hd : 11 ≤ d)  (h : V_X8_couple_36 x0 x1 x2 x3 x4 S F I Q QX) : J G X (QD X G (qI fun z S' F' I' => Q z S' F' I') QX) 36 [vr (some x0), vi x1, vi x2, vr (some x3), vr (some x4)] [] S F I := by
  unfold V_X8_couple_36 at h
  refine J_iconst C dX8_couple_36 (rg_of (by decide)) ?_
  exact S_X8_couple_37 C M (by omega)  h
set_option maxRecDepth 20000 in
set_option maxHeartbeats 4000000 in
theorem S_X8_couple {G : Gp} {X : Xt} {d : Nat}  {x0 : Nat} {x1 : Int} {x2 : Int} {Q : Int → Shp → Fl → Il → Prop} {QX : String → Shp → Fl → Il → Prop} {S : Shp} {F : Fl} {I : Il} (C : CO G RX8 cX8_couple 5 X) (M : MX d (some .int) "couple" X) (hd : 11 ≤ d)  (h : V_X8_couple x0 x1 x2 S F I Q QX) : J G X (QD X G (qI fun z S' F' I' => Q z S' F' I') QX) 0 [vr (some x0), vi x1, vi x2, vl 0, vl 0] [] S F I := by
  unfold V_X8_couple at h
  obtain ⟨d, rfl⟩ : ∃ d9, d = d9 + 1 := ⟨d - 1, by omega⟩
  refine J_aload_n C dX8_couple_0 rfl rfl ?_
  refine J_iload_n C dX8_couple_1 rfl rfl ?_
  obtain ⟨hK1, h⟩ := h
  refine K_V C M [vi x1] [] mi_X8_trainOf wg_648 wg_650 wg_9 ⟨rfl, by decide⟩ dX8_couple_2 hK1 rfl rfl (by decide) (Nat.le_of_ble_eq_true rfl) (c_X8_trainOf (C.2.2.2.2.2.2.2) (by omega) h) (fun v9 S' F' I' hq9 => ?_) (K_out C M) rfl
  clear h
  obtain ⟨z2, rfl, rfl, rfl, rfl, h⟩ := hq9
  refine K_astore_n C [vr (some x0), vi x1, vi x2, vr (some z2), vl 0] dX8_couple_5 rfl (Nat.le_of_ble_eq_true rfl) rfl ?_
  refine J_aload_n C dX8_couple_6 rfl rfl ?_
  refine J_iload_n C dX8_couple_7 rfl rfl ?_
  refine K_V C M [vi x2] [] mi_X8_carOf wg_828 wg_830 wg_27 ⟨rfl, by decide⟩ dX8_couple_8 hK1 rfl rfl (by decide) (Nat.le_of_ble_eq_true rfl) (c_X8_carOf (C.2.2.2.2.2.2.2) (by omega) h) (fun v9 S' F' I' hq9 => ?_) (K_out C M) rfl
  clear h
  obtain ⟨z3, rfl, rfl, rfl, rfl, h⟩ := hq9
  refine K_astore C [vr (some x0), vi x1, vi x2, vr (some z2), vr (some z3)] dX8_couple_11 (Nat.le_of_ble_eq_true rfl) rfl ?_
  refine J_aload_n C dX8_couple_13 rfl rfl ?_
  obtain ⟨hK4, h⟩ := h
  refine K_V C M [] [] mi_X7_stands wg_714 wg_715 wg_716 ⟨rfl, by decide⟩ dX8_couple_14 hK4 rfl rfl (by decide) (Nat.le_of_ble_eq_true rfl) (c_X7_stands (C.2.2.2.2.2.2.2) (by omega) h) (fun v9 S' F' I' hq9 => ?_) K_no rfl
  clear h
  obtain ⟨z5, rfl, rfl, rfl, rfl, h⟩ := hq9
  refine J_if_eq C dX8_couple_17 (tgt := 36) rfl (fun c17 => ?_) (fun c17 => ?_)
  · have h := h.1 c17
    exact S_X8_couple_36 C M (by omega)  h
  · have h := h.2 c17
    refine J_aload_n C dX8_couple_20 rfl rfl ?_
    obtain ⟨r6, hr7, h⟩ := h
    refine J_getR C fo_8_9 rfl fl_RX8_228 dX8_couple_21 hK4 hr7 ?_
    obtain ⟨hK8, h⟩ := h
    refine J_getI C fo_6_1 rfl fl_RX8_230 dX8_couple_24 hK8 ?_
    refine J_bipush C dX8_couple_27 (by decide +kernel) (rg_of (by decide)) ?_
    refine J_icmp_ge C dX8_couple_29 (tgt := 36) rfl (fun c29 => ?_) (fun c29 => ?_)
    · have h := h.1 c29
      exact S_X8_couple_36 C M (by omega)  h
    · have h := h.2 c29
      refine J_iconst C dX8_couple_32 (rg_of (by decide)) ?_
      refine J_goto C dX8_couple_33 (tgt := 37) rfl ?_
      exact S_X8_couple_37 C M (by omega)  h
theorem c_X8_couple {l : Launch} {G : Gp} {d : Nat} {x0 : Nat} {x1 : Int} {x2 : Int} {S : Shp} {F : Fl} {I : Il} {Q : Int → Shp → Fl → Il → Prop} {QX : String → Shp → Fl → Il → Prop} (hl : l.stackTraces = false) (hd : 11 ≤ d) (h : V_X8_couple x0 x1 x2 S F I Q QX) : CM l G d yX8_couple (.code yX8_couple cX8_couple 5 (some .int)) [vr (some x0), vi x1, vi x2] S F I (qI fun z S' F' I' => Q z S' F' I') QX :=
  CM_ofM [vr (some x0), vi x1, vi x2, vl 0, vl 0] hl (by decide +kernel) (kn1 trivial (kn1 trivial (kn1 trivial kn0))) (Nat.le_of_ble_eq_true rfl) rfl (fun X hX C M => S_X8_couple C M hd h)
set_option maxRecDepth 20000 in
set_option maxHeartbeats 4000000 in
theorem S_X8_crew_22 {G : Gp} {X : Xt} {d : Nat}  {x0 : Nat} {x1 : Int} {s0 : Int} {Q : Int → Shp → Fl → Il → Prop} {QX : String → Shp → Fl → Il → Prop} {S : Shp} {F : Fl} {I : Il} (C : CO G RX8 cX8_crew 2 X) (M : MX d (some .int) "crew" X) (hd : 10 ≤ d)  (h : V_X8_crew_22 G x0 x1 s0 S F I Q QX) : J G X (QD X G (qI fun z S' F' I' => Q z S' F' I') QX) 22 [vr (some x0), vi x1] [vi s0] S F I := by
  unfold V_X8_crew_22 at h
  obtain ⟨d, rfl⟩ : ∃ d9, d = d9 + 1 := ⟨d - 1, by omega⟩
  refine K_S C M [vi s0] [] mi_X8_requireState wg_354 wg_355 dX8_crew_22 rfl rfl (by decide) (Nat.le_of_ble_eq_true rfl) (c_X8_requireState (C.2.2.2.2.2.2.2) (by omega) h) (fun v9 S' F' I' hq9 => ?_) (K_out C M) rfl
  clear h
  obtain ⟨rfl, rfl, rfl, rfl, h⟩ := hq9
  refine J_aload_n C dX8_crew_25 rfl rfl ?_
  obtain ⟨hK1, h⟩ := h
  obtain ⟨r2, hr3, h⟩ := h
  refine J_getR C fo_9_3 rfl fl_RX8_25 dX8_crew_26 hK1 hr3 ?_
  obtain ⟨ha6, hb7, h⟩ := h
  refine J_new C fn_4 fp_4.1 fd_4 wg_545 wg_546 wg_48 dX8_crew_29 ha6 hb7 (fun q4 hq5 => ?_)
  have h := h q4 hq5
  refine J_dup C dX8_crew_32 trivial ?_
  refine J_iload_n C dX8_crew_33 rfl rfl ?_
  refine K_I C M [vi x1] [vr (some q4), vr (some r2)] mi_X3_init rfl wg_547 wg_548 dX8_crew_34 rfl rfl (by decide) (Nat.le_of_ble_eq_true rfl) (c_X3_init (C.2.2.2.2.2.2.2) (by omega) h) (fun v9 S' F8 I' hq9 => ?_) K_no rfl
  clear h
  obtain ⟨rfl, rfl, rfl, h⟩ := hq9
  obtain ⟨hK9, h⟩ := h
  refine K_V C M [vr (some q4)] [] mi_Jx4a65c_add_9ea2d wg_429 wg_430 wg_431 ⟨rfl, by decide⟩ dX8_crew_37 hK9 rfl rfl (by decide) (Nat.le_of_ble_eq_true rfl) (c_Jx4a65c_add_9ea2d (C.2.2.2.2.2.2.2) (by omega) h) (fun v9 S11 F12 I13 hq9 => ?_) K_no rfl
  clear h
  obtain ⟨z10, rfl, h⟩ := hq9
  refine J_pop C dX8_crew_40 trivial ?_
  refine J_aload_n C dX8_crew_41 rfl rfl ?_
  obtain ⟨hK14, h⟩ := h
  obtain ⟨r15, hr16, h⟩ := h
  refine J_getR C fo_9_3 rfl fl_RX8_25 dX8_crew_42 hK14 hr16 ?_
  obtain ⟨hK17, h⟩ := h
  refine K_V C M [] [] mi_Jx4a65c_size_8abf5 wg_350 wg_351 wg_352 ⟨rfl, by decide⟩ dX8_crew_45 hK17 rfl rfl (by decide) (Nat.le_of_ble_eq_true rfl) (c_Jx4a65c_size_8abf5 (C.2.2.2.2.2.2.2) (by omega) h) (fun v9 S' F' I' hq9 => ?_) K_no rfl
  clear h
  obtain ⟨z18, rfl, rfl, rfl, rfl, h⟩ := hq9
  refine J_iconst C dX8_crew_48 (rg_of (by decide)) ?_
  refine J_isub C dX8_crew_49 ?_
  exact J_iret C dX8_crew_50 M.2.2.1 ⟨_, rfl, h⟩
set_option maxRecDepth 20000 in
set_option maxHeartbeats 4000000 in
theorem S_X8_crew {G : Gp} {X : Xt} {d : Nat}  {x0 : Nat} {x1 : Int} {Q : Int → Shp → Fl → Il → Prop} {QX : String → Shp → Fl → Il → Prop} {S : Shp} {F : Fl} {I : Il} (C : CO G RX8 cX8_crew 2 X) (M : MX d (some .int) "crew" X) (hd : 10 ≤ d)  (h : V_X8_crew G x0 x1 S F I Q QX) : J G X (QD X G (qI fun z S' F' I' => Q z S' F' I') QX) 0 [vr (some x0), vi x1] [] S F I := by
  unfold V_X8_crew at h
  obtain ⟨d, rfl⟩ : ∃ d9, d = d9 + 1 := ⟨d - 1, by omega⟩
  refine J_aload_n C dX8_crew_0 rfl rfl ?_
  refine J_iload_n C dX8_crew_1 rfl rfl ?_
  obtain ⟨hK1, h⟩ := h
  refine K_V C M [vi x1] [] mi_X8_requireStation wg_253 wg_255 wg_0 ⟨rfl, by decide⟩ dX8_crew_2 hK1 rfl rfl (by decide) (Nat.le_of_ble_eq_true rfl) (c_X8_requireStation (C.2.2.2.2.2.2.2) (by omega) h) (fun v9 S' F' I' hq9 => ?_) (K_out C M) rfl
  clear h
  obtain ⟨rfl, rfl, rfl, rfl, h⟩ := hq9
  refine J_aload_n C dX8_crew_5 rfl rfl ?_
  obtain ⟨r2, hr3, h⟩ := h
  refine J_getR C fo_9_3 rfl fl_RX8_25 dX8_crew_6 hK1 hr3 ?_
  obtain ⟨hK4, h⟩ := h
  refine K_V C M [] [] mi_Jx4a65c_size_8abf5 wg_350 wg_351 wg_352 ⟨rfl, by decide⟩ dX8_crew_9 hK4 rfl rfl (by decide) (Nat.le_of_ble_eq_true rfl) (c_Jx4a65c_size_8abf5 (C.2.2.2.2.2.2.2) (by omega) h) (fun v9 S' F' I' hq9 => ?_) K_no rfl
  clear h
  obtain ⟨z5, rfl, rfl, rfl, rfl, h⟩ := hq9
  refine J_bipush C dX8_crew_12 (by decide +kernel) (rg_of (by decide)) ?_
  refine J_icmp_ge C dX8_crew_14 (tgt := 21) rfl (fun c14 => ?_) (fun c14 => ?_)
  · have h := h.1 c14
    refine J_iconst C dX8_crew_21 (rg_of (by decide)) ?_
    exact S_X8_crew_22 C M (by omega)  h
  · have h := h.2 c14
    refine J_iconst C dX8_crew_17 (rg_of (by decide)) ?_
    refine J_goto C dX8_crew_18 (tgt := 22) rfl ?_
    exact S_X8_crew_22 C M (by omega)  h
theorem c_X8_crew {l : Launch} {G : Gp} {d : Nat} {x0 : Nat} {x1 : Int} {S : Shp} {F : Fl} {I : Il} {Q : Int → Shp → Fl → Il → Prop} {QX : String → Shp → Fl → Il → Prop} (hl : l.stackTraces = false) (hd : 10 ≤ d) (h : V_X8_crew G x0 x1 S F I Q QX) : CM l G d yX8_crew (.code yX8_crew cX8_crew 2 (some .int)) [vr (some x0), vi x1] S F I (qI fun z S' F' I' => Q z S' F' I') QX :=
  CM_ofM [vr (some x0), vi x1] hl (by decide +kernel) (kn1 trivial (kn1 trivial kn0)) (Nat.le_of_ble_eq_true rfl) rfl (fun X hX C M => S_X8_crew C M hd h)
set_option maxRecDepth 20000 in
set_option maxHeartbeats 4000000 in
theorem S_X8_duty {G : Gp} {X : Xt} {d : Nat}  {x0 : Nat} {x1 : Int} {Q : Int → Prop} {QX : String → Shp → Fl → Il → Prop} {S : Shp} {F : Fl} {I : Il} (C : CO G RX8 cX8_duty 3 X) (M : MX d (some .int) "duty" X) (hd : 10 ≤ d)  (h : V_X8_duty x0 x1 S F I Q QX) : J G X (QD X G (qI fun z S' F' I' => S = S' ∧ F = F' ∧ I = I' ∧ Q z) QX) 0 [vr (some x0), vi x1, vl 0] [] S F I := by
  unfold V_X8_duty at h
  obtain ⟨d, rfl⟩ : ∃ d9, d = d9 + 1 := ⟨d - 1, by omega⟩
  refine J_aload_n C dX8_duty_0 rfl rfl ?_
  refine J_iload_n C dX8_duty_1 rfl rfl ?_
  obtain ⟨hK1, h⟩ := h
  refine K_V C M [vi x1] [] mi_X8_crewOf wg_576 wg_578 wg_6 ⟨rfl, by decide⟩ dX8_duty_2 hK1 rfl rfl (by decide) (Nat.le_of_ble_eq_true rfl) (c_X8_crewOf (C.2.2.2.2.2.2.2) (by omega) h) (fun v9 S' F' I' hq9 => ?_) (K_out C M) rfl
  clear h
  obtain ⟨z2, rfl, rfl, rfl, rfl, h⟩ := hq9
  refine K_astore_n C [vr (some x0), vi x1, vr (some z2)] dX8_duty_5 rfl (Nat.le_of_ble_eq_true rfl) rfl ?_
  refine J_aload_n C dX8_duty_6 rfl rfl ?_
  refine J_aload_n C dX8_duty_7 rfl rfl ?_
  refine J_getI C fo_9_12 rfl fl_RX8_62 dX8_duty_8 hK1 ?_
  obtain ⟨hK3, h⟩ := h
  refine K_V C M [vi (F 912 x0)] [] mi_X3_isRestingAt wg_737 wg_738 wg_739 ⟨rfl, by decide⟩ dX8_duty_11 hK3 rfl rfl (by decide) (Nat.le_of_ble_eq_true rfl) (c_X3_isRestingAt (C.2.2.2.2.2.2.2) (by omega) h) (fun v9 S' F' I' hq9 => ?_) K_no rfl
  clear h
  obtain ⟨z4, rfl, rfl, rfl, rfl, h⟩ := hq9
  refine J_if_eq C dX8_duty_14 (tgt := 21) rfl (fun c14 => ?_) (fun c14 => ?_)
  · have h := h.1 c14
    refine J_aload_n C dX8_duty_21 rfl rfl ?_
    refine J_getI C fo_4_3 rfl fl_RX8_188 dX8_duty_22 hK3 ?_
    exact J_iret C dX8_duty_25 M.2.2.1 ⟨_, rfl, rfl, rfl, rfl, h⟩
  · have h := h.2 c14
    refine J_iconst C dX8_duty_17 (rg_of (by decide)) ?_
    refine J_goto C dX8_duty_18 (tgt := 25) rfl ?_
    exact J_iret C dX8_duty_25 M.2.2.1 ⟨_, rfl, rfl, rfl, rfl, h⟩
theorem c_X8_duty {l : Launch} {G : Gp} {d : Nat} {x0 : Nat} {x1 : Int} {S : Shp} {F : Fl} {I : Il} {Q : Int → Prop} {QX : String → Shp → Fl → Il → Prop} (hl : l.stackTraces = false) (hd : 10 ≤ d) (h : V_X8_duty x0 x1 S F I Q QX) : CM l G d yX8_duty (.code yX8_duty cX8_duty 3 (some .int)) [vr (some x0), vi x1] S F I (qI fun z S' F' I' => S = S' ∧ F = F' ∧ I = I' ∧ Q z) QX :=
  CM_ofM [vr (some x0), vi x1, vl 0] hl (by decide +kernel) (kn1 trivial (kn1 trivial kn0)) (Nat.le_of_ble_eq_true rfl) rfl (fun X hX C M => S_X8_duty C M hd h)
set_option maxRecDepth 20000 in
set_option maxHeartbeats 4000000 in
theorem S_X8_endOfDraft_4 {G : Gp} {X : Xt} {d : Nat}  {S : Shp} {F : Fl} {I : Il} {Q : Int → Prop} {QX : String → Shp → Fl → Il → Prop} (C : CO G RX8 cX8_endOfDraft 4 X) (M : MX d (some .int) "endOfDraft" X) (hd : 10 ≤ d) (n9 : Nat)  : ∀ (x0 : Nat) (x2 : Int) (x3 : Int) , V_X8_endOfDraft_4 n9 x0 x2 x3 S F I Q QX → J G X (QD X G (qI fun z S' F' I' => S = S' ∧ F = F' ∧ I = I' ∧ Q z) QX) 4 [vr (some x0), vl 0, vi x2, vi x3] [] S F I := by
  obtain ⟨d, rfl⟩ : ∃ d9, d = d9 + 1 := ⟨d - 1, by omega⟩
  induction n9 with
  | zero => intro x0 x2 x3 h; exact h.elim
  | succ n ih =>
    intro x0 x2 x3 h
    unfold V_X8_endOfDraft_4 at h
    refine J_iload_n C dX8_endOfDraft_4 rfl rfl ?_
    refine J_aload_n C dX8_endOfDraft_5 rfl rfl ?_
    obtain ⟨hK1, h⟩ := h
    obtain ⟨r2, hr3, h⟩ := h
    refine J_getR C fo_9_9 rfl fl_RX8_52 dX8_endOfDraft_6 hK1 hr3 ?_
    obtain ⟨hK4, h⟩ := h
    refine J_getI C fo_6_1 rfl fl_RX8_230 dX8_endOfDraft_9 hK4 ?_
    refine J_icmp_ge C dX8_endOfDraft_12 (tgt := 43) rfl (fun c12 => ?_) (fun c12 => ?_)
    · have h := h.1 c12
      refine J_iload_n C dX8_endOfDraft_43 rfl rfl ?_
      exact J_iret C dX8_endOfDraft_44 M.2.2.1 ⟨_, rfl, rfl, rfl, rfl, h⟩
    · have h := h.2 c12
      refine J_iload_n C dX8_endOfDraft_15 rfl rfl ?_
      refine J_iconst C dX8_endOfDraft_16 (rg_of (by decide)) ?_
      refine J_icmp_eq C dX8_endOfDraft_17 (tgt := 43) rfl (fun c17 => ?_) (fun c17 => ?_)
      · have h := h.1 c17
        refine J_iload_n C dX8_endOfDraft_43 rfl rfl ?_
        exact J_iret C dX8_endOfDraft_44 M.2.2.1 ⟨_, rfl, rfl, rfl, rfl, h⟩
      · have h := h.2 c17
        refine J_aload_n C dX8_endOfDraft_20 rfl rfl ?_
        refine J_aload_n C dX8_endOfDraft_21 rfl rfl ?_
        refine J_getR C fo_9_9 rfl fl_RX8_52 dX8_endOfDraft_22 hK1 hr3 ?_
        refine J_iload_n C dX8_endOfDraft_25 rfl rfl ?_
        refine K_V C M [vi x3] [vr (some x0)] mi_X5_at wg_803 wg_682 wg_683 ⟨rfl, by decide⟩ dX8_endOfDraft_26 hK4 rfl rfl (by decide) (Nat.le_of_ble_eq_true rfl) (c_X5_at (C.2.2.2.2.2.2.2) (by omega) h) (fun v9 S' F' I' hq9 => ?_) K_no rfl
        clear h
        obtain ⟨z5, rfl, rfl, rfl, rfl, h⟩ := hq9
        refine K_V C M [vi z5] [] mi_X8_blockOf wg_492 wg_494 wg_5 ⟨rfl, by decide⟩ dX8_endOfDraft_29 hK1 rfl rfl (by decide) (Nat.le_of_ble_eq_true rfl) (c_X8_blockOf (C.2.2.2.2.2.2.2) (by omega) h) (fun v9 S' F' I' hq9 => ?_) (K_out C M) rfl
        clear h
        obtain ⟨z6, rfl, rfl, rfl, rfl, h⟩ := hq9
        refine J_iload_n C dX8_endOfDraft_32 rfl rfl ?_
        obtain ⟨hK7, h⟩ := h
        refine K_V C M [vi x2] [] mi_X1_otherEnd wg_741 wg_742 wg_743 ⟨rfl, by decide⟩ dX8_endOfDraft_33 hK7 rfl rfl (by decide) (Nat.le_of_ble_eq_true rfl) (c_X1_otherEnd (C.2.2.2.2.2.2.2) (by omega) h) (fun v9 S' F' I' hq9 => ?_) K_no rfl
        clear h
        obtain ⟨z8, rfl, rfl, rfl, rfl, h⟩ := hq9
        refine K_istore_n C [vr (some x0), vl 0, vi z8, vi x3] dX8_endOfDraft_36 rfl (Nat.le_of_ble_eq_true rfl) rfl ?_
        refine K_iinc C [vr (some x0), vl 0, vi z8, vi (w32 (x3 + 1))] dX8_endOfDraft_37 rfl rfl ?_
        refine J_goto C dX8_endOfDraft_40 (tgt := 4) rfl ?_
        exact ih _ _ _ h
set_option maxRecDepth 20000 in
set_option maxHeartbeats 4000000 in
theorem S_X8_endOfDraft {G : Gp} {X : Xt} {d : Nat}  {x0 : Nat} {x1 : Int} {Q : Int → Prop} {QX : String → Shp → Fl → Il → Prop} {S : Shp} {F : Fl} {I : Il} (C : CO G RX8 cX8_endOfDraft 4 X) (M : MX d (some .int) "endOfDraft" X) (hd : 10 ≤ d)  (h : V_X8_endOfDraft x0 x1 S F I Q QX) : J G X (QD X G (qI fun z S' F' I' => S = S' ∧ F = F' ∧ I = I' ∧ Q z) QX) 0 [vr (some x0), vi x1, vl 0, vl 0] [] S F I := by
  unfold V_X8_endOfDraft at h
  refine J_iload_n C dX8_endOfDraft_0 rfl rfl ?_
  refine K_istore_n C [vr (some x0), vi x1, vi x1, vl 0] dX8_endOfDraft_1 rfl (Nat.le_of_ble_eq_true rfl) rfl ?_
  refine J_iconst C dX8_endOfDraft_2 (rg_of (by decide)) ?_
  refine K_istore_n C [vr (some x0), vi x1, vi x1, vi 0] dX8_endOfDraft_3 rfl (Nat.le_of_ble_eq_true rfl) rfl ?_
  refine J_less [vr (some x0), vl 0, vi x1, vi 0] (by unfold lessL; simp [lessL]) ?_
  obtain ⟨n9, h⟩ := h
  exact S_X8_endOfDraft_4 C M (by omega) n9  _ _ _ h
theorem c_X8_endOfDraft {l : Launch} {G : Gp} {d : Nat} {x0 : Nat} {x1 : Int} {S : Shp} {F : Fl} {I : Il} {Q : Int → Prop} {QX : String → Shp → Fl → Il → Prop} (hl : l.stackTraces = false) (hd : 10 ≤ d) (h : V_X8_endOfDraft x0 x1 S F I Q QX) : CM l G d yX8_endOfDraft (.code yX8_endOfDraft cX8_endOfDraft 4 (some .int)) [vr (some x0), vi x1] S F I (qI fun z S' F' I' => S = S' ∧ F = F' ∧ I = I' ∧ Q z) QX :=
  CM_ofM [vr (some x0), vi x1, vl 0, vl 0] hl (by decide +kernel) (kn1 trivial (kn1 trivial kn0)) (Nat.le_of_ble_eq_true rfl) rfl (fun X hX C M => S_X8_endOfDraft C M hd h)
set_option maxRecDepth 20000 in
set_option maxHeartbeats 4000000 in
theorem S_X8_requireArgument {G : Gp} {X : Xt} {d : Nat}  {x0 : Int} {Q : Prop} {QX : String → Shp → Fl → Il → Prop} {S : Shp} {F : Fl} {I : Il} (C : CO G RX8 cX8_requireArgument 1 X) (M : MX d none "requireArgument" X) (hd : 8 ≤ d)  (h : V_X8_requireArgument x0 S F I Q QX) : J G X (QD X G (qV fun S' F' I' => S = S' ∧ F = F' ∧ I = I' ∧ Q) QX) 0 [vi x0] [] S F I := by
  unfold V_X8_requireArgument at h
  refine J_iload_n C dX8_requireArgument_0 rfl rfl ?_
  refine J_if_ne C dX8_requireArgument_1 (tgt := 15) rfl (fun c1 => ?_) (fun c1 => ?_)
  · have h := h.1 c1
    exact J_vret C dX8_requireArgument_15 M.2.2.1 ⟨rfl, rfl, rfl, rfl, h⟩
  · have h := h.2 c1
    obtain ⟨ha9, hb9, h⟩ := h
    exact J_throwSW C rfl (text := "out of range") (names := ["java/lang/RuntimeException", "java/lang/Exception"]) (by decide +kernel) (by decide +kernel) (by decide +kernel) wg_331 wg_41 at_390_394 au_390_394 rfl dX8_requireArgument_4 dX8_requireArgument_7 dX8_requireArgument_8 dX8_requireArgument_11 dX8_requireArgument_14 (fun x hx => (M.2.2.2.2 x hx).elim) rfl (by rw [M.1]; show 5 < _; omega) (by have h9 := M.2.1; show 82 ≤ _; omega) ha9 hb9 h
theorem c_X8_requireArgument {l : Launch} {G : Gp} {d : Nat} {x0 : Int} {S : Shp} {F : Fl} {I : Il} {Q : Prop} {QX : String → Shp → Fl → Il → Prop} (hl : l.stackTraces = false) (hd : 8 ≤ d) (h : V_X8_requireArgument x0 S F I Q QX) : CM l G d yX8_requireArgument (.code yX8_requireArgument cX8_requireArgument 1 none) [vi x0] S F I (qV fun S' F' I' => S = S' ∧ F = F' ∧ I = I' ∧ Q) QX :=
  CM_ofM [vi x0] hl (by decide +kernel) (kn1 trivial kn0) (Nat.le_of_ble_eq_true rfl) rfl (fun X hX C M => S_X8_requireArgument C M hd h)
set_option maxRecDepth 20000 in
set_option maxHeartbeats 4000000 in
theorem S_X8_requireRange_15 {G : Gp} {X : Xt} {d : Nat}  {s0 : Int} {Q : Prop} {QX : String → Shp → Fl → Il → Prop} {S : Shp} {F : Fl} {I : Il} (C : CO G RX8 cX8_requireRange 3 X) (M : MX d none "requireRange" X) (hd : 9 ≤ d)  (h : V_X8_requireRange_15 s0 S F I Q QX) : J G X (QD X G (qV fun S' F' I' => S = S' ∧ F = F' ∧ I = I' ∧ Q) QX) 15 [vl 0, vl 0, vl 0] [vi s0] S F I := by
  unfold V_X8_requireRange_15 at h
  obtain ⟨d, rfl⟩ : ∃ d9, d = d9 + 1 := ⟨d - 1, by omega⟩
  refine K_S C M [vi s0] [] mi_X8_requireArgument wg_328 wg_329 dX8_requireRange_15 rfl rfl (by decide) (Nat.le_of_ble_eq_true rfl) (c_X8_requireArgument (C.2.2.2.2.2.2.2) (by omega) h) (fun v9 S' F' I' hq9 => ?_) (K_out C M) rfl
  clear h
  obtain ⟨rfl, rfl, rfl, rfl, h⟩ := hq9
  exact J_vret C dX8_requireRange_18 M.2.2.1 ⟨rfl, rfl, rfl, rfl, h⟩
set_option maxRecDepth 20000 in
set_option maxHeartbeats 4000000 in
theorem S_X8_requireRange_14 {G : Gp} {X : Xt} {d : Nat}   {Q : Prop} {QX : String → Shp → Fl → Il → Prop} {S : Shp} {F : Fl} {I : Il} (C : CO G RX8 cX8_requireRange 3 X) (M : MX d none "requireRange" X) (hd : 9 ≤ d)  (h : V_X8_requireRange_14 S F I Q QX) : J G X (QD X G (qV fun S' F' I' => S = S' ∧ F = F' ∧ I = I' ∧ Q) QX) 14 [vl 0, vl 0, vl 0] [] S F I := by
  unfold V_X8_requireRange_14 at h
  refine J_iconst C dX8_requireRange_14 (rg_of (by decide)) ?_
  exact S_X8_requireRange_15 C M (by omega)  h
set_option maxRecDepth 20000 in
set_option maxHeartbeats 4000000 in
theorem S_X8_requireRange {G : Gp} {X : Xt} {d : Nat}  {x0 : Int} {x1 : Int} {x2 : Int} {Q : Prop} {QX : String → Shp → Fl → Il → Prop} {S : Shp} {F : Fl} {I : Il} (C : CO G RX8 cX8_requireRange 3 X) (M : MX d none "requireRange" X) (hd : 9 ≤ d)  (h : V_X8_requireRange x0 x1 x2 S F I Q QX) : J G X (QD X G (qV fun S' F' I' => S = S' ∧ F = F' ∧ I = I' ∧ Q) QX) 0 [vi x0, vi x1, vi x2] [] S F I := by
  unfold V_X8_requireRange at h
  refine J_iload_n C dX8_requireRange_0 rfl rfl ?_
  refine J_iload_n C dX8_requireRange_1 rfl rfl ?_
  refine J_icmp_lt C dX8_requireRange_2 (tgt := 14) rfl (fun c2 => ?_) (fun c2 => ?_)
  · have h := h.1 c2
    refine J_less [vl 0, vl 0, vl 0] (by unfold lessL; simp [lessL]) ?_
    exact S_X8_requireRange_14 C M (by omega)  h
  · have h := h.2 c2
    refine J_iload_n C dX8_requireRange_5 rfl rfl ?_
    refine J_iload_n C dX8_requireRange_6 rfl rfl ?_
    refine J_icmp_gt C dX8_requireRange_7 (tgt := 14) rfl (fun c7 => ?_) (fun c7 => ?_)
    · have h := h.1 c7
      refine J_less [vl 0, vl 0, vl 0] (by unfold lessL; simp [lessL]) ?_
      exact S_X8_requireRange_14 C M (by omega)  h
    · have h := h.2 c7
      refine J_iconst C dX8_requireRange_10 (rg_of (by decide)) ?_
      refine J_goto C dX8_requireRange_11 (tgt := 15) rfl ?_
      refine J_less [vl 0, vl 0, vl 0] (by unfold lessL; simp [lessL]) ?_
      exact S_X8_requireRange_15 C M (by omega)  h
theorem c_X8_requireRange {l : Launch} {G : Gp} {d : Nat} {x0 : Int} {x1 : Int} {x2 : Int} {S : Shp} {F : Fl} {I : Il} {Q : Prop} {QX : String → Shp → Fl → Il → Prop} (hl : l.stackTraces = false) (hd : 9 ≤ d) (h : V_X8_requireRange x0 x1 x2 S F I Q QX) : CM l G d yX8_requireRange (.code yX8_requireRange cX8_requireRange 3 none) [vi x0, vi x1, vi x2] S F I (qV fun S' F' I' => S = S' ∧ F = F' ∧ I = I' ∧ Q) QX :=
  CM_ofM [vi x0, vi x1, vi x2] hl (by decide +kernel) (kn1 trivial (kn1 trivial (kn1 trivial kn0))) (Nat.le_of_ble_eq_true rfl) rfl (fun X hX C M => S_X8_requireRange C M hd h)
set_option maxRecDepth 20000 in
set_option maxHeartbeats 4000000 in
theorem S_X8_engine_29 {G : Gp} {X : Xt} {d : Nat}  {x0 : Nat} {x1 : Int} {x2 : Int} {s0 : Int} {Q : Int → Shp → Fl → Il → Prop} {QX : String → Shp → Fl → Il → Prop} {S : Shp} {F : Fl} {I : Il} (C : CO G RX8 cX8_engine 3 X) (M : MX d (some .int) "engine" X) (hd : 10 ≤ d)  (h : V_X8_engine_29 G x0 x1 x2 s0 S F I Q QX) : J G X (QD X G (qI fun z S' F' I' => Q z S' F' I') QX) 29 [vr (some x0), vi x1, vi x2] [vi s0] S F I := by
  unfold V_X8_engine_29 at h
  obtain ⟨d, rfl⟩ : ∃ d9, d = d9 + 1 := ⟨d - 1, by omega⟩
  refine K_S C M [vi s0] [] mi_X8_requireState wg_354 wg_355 dX8_engine_29 rfl rfl (by decide) (Nat.le_of_ble_eq_true rfl) (c_X8_requireState (C.2.2.2.2.2.2.2) (by omega) h) (fun v9 S' F' I' hq9 => ?_) (K_out C M) rfl
  clear h
  obtain ⟨rfl, rfl, rfl, rfl, h⟩ := hq9
  refine J_aload_n C dX8_engine_32 rfl rfl ?_
  refine J_dup C dX8_engine_33 trivial ?_
  obtain ⟨hK1, h⟩ := h
  refine J_getI C fo_9_13 rfl fl_RX8_66 dX8_engine_34 hK1 ?_
  refine J_bipush C dX8_engine_37 (by decide +kernel) (rg_of (by decide)) ?_
  refine J_iload_n C dX8_engine_39 rfl rfl ?_
  refine J_imul C dX8_engine_40 ?_
  refine J_isub C dX8_engine_41 ?_
  refine J_putI C fo_9_13 fp_9 fl_RX8_66 (Or.inl rfl) (Or.inl rfl) dX8_engine_42 hK1 ?_
  refine J_aload_n C dX8_engine_45 rfl rfl ?_
  obtain ⟨r2, hr3, h⟩ := h
  refine J_getR C fo_9_2 rfl fl_RX8_22 dX8_engine_46 hK1 hr3 ?_
  obtain ⟨ha6, hb7, h⟩ := h
  refine J_new C fn_5 fp_5.1 fd_5 wg_522 wg_523 wg_47 dX8_engine_49 ha6 hb7 (fun q4 hq5 => ?_)
  have h := h q4 hq5
  refine J_dup C dX8_engine_52 trivial ?_
  refine J_iload_n C dX8_engine_53 rfl rfl ?_
  refine J_iload_n C dX8_engine_54 rfl rfl ?_
  refine K_I C M [vi x1, vi x2] [vr (some q4), vr (some r2)] mi_X4_init rfl wg_524 wg_525 dX8_engine_55 rfl rfl (by decide) (Nat.le_of_ble_eq_true rfl) (c_X4_init (C.2.2.2.2.2.2.2) (by omega) h) (fun v9 S' F8 I' hq9 => ?_) K_no rfl
  clear h
  obtain ⟨rfl, rfl, rfl, h⟩ := hq9
  obtain ⟨hK9, h⟩ := h
  refine K_V C M [vr (some q4)] [] mi_Jx4a65c_add_9ea2d wg_429 wg_430 wg_431 ⟨rfl, by decide⟩ dX8_engine_58 hK9 rfl rfl (by decide) (Nat.le_of_ble_eq_true rfl) (c_Jx4a65c_add_9ea2d (C.2.2.2.2.2.2.2) (by omega) h) (fun v9 S11 F12 I13 hq9 => ?_) K_no rfl
  clear h
  obtain ⟨z10, rfl, h⟩ := hq9
  refine J_pop C dX8_engine_61 trivial ?_
  refine J_aload_n C dX8_engine_62 rfl rfl ?_
  obtain ⟨hK14, h⟩ := h
  obtain ⟨r15, hr16, h⟩ := h
  refine J_getR C fo_9_2 rfl fl_RX8_22 dX8_engine_63 hK14 hr16 ?_
  obtain ⟨hK17, h⟩ := h
  refine K_V C M [] [] mi_Jx4a65c_size_8abf5 wg_350 wg_351 wg_352 ⟨rfl, by decide⟩ dX8_engine_66 hK17 rfl rfl (by decide) (Nat.le_of_ble_eq_true rfl) (c_Jx4a65c_size_8abf5 (C.2.2.2.2.2.2.2) (by omega) h) (fun v9 S' F' I' hq9 => ?_) K_no rfl
  clear h
  obtain ⟨z18, rfl, rfl, rfl, rfl, h⟩ := hq9
  refine J_iconst C dX8_engine_69 (rg_of (by decide)) ?_
  refine J_isub C dX8_engine_70 ?_
  exact J_iret C dX8_engine_71 M.2.2.1 ⟨_, rfl, h⟩
set_option maxRecDepth 20000 in
set_option maxHeartbeats 4000000 in
theorem S_X8_engine {G : Gp} {X : Xt} {d : Nat}  {x0 : Nat} {x1 : Int} {x2 : Int} {Q : Int → Shp → Fl → Il → Prop} {QX : String → Shp → Fl → Il → Prop} {S : Shp} {F : Fl} {I : Il} (C : CO G RX8 cX8_engine 3 X) (M : MX d (some .int) "engine" X) (hd : 10 ≤ d)  (h : V_X8_engine G x0 x1 x2 S F I Q QX) : J G X (QD X G (qI fun z S' F' I' => Q z S' F' I') QX) 0 [vr (some x0), vi x1, vi x2] [] S F I := by
  unfold V_X8_engine at h
  obtain ⟨d, rfl⟩ : ∃ d9, d = d9 + 1 := ⟨d - 1, by omega⟩
  refine J_aload_n C dX8_engine_0 rfl rfl ?_
  refine J_iload_n C dX8_engine_1 rfl rfl ?_
  obtain ⟨hK1, h⟩ := h
  refine K_V C M [vi x1] [] mi_X8_requireStation wg_253 wg_255 wg_0 ⟨rfl, by decide⟩ dX8_engine_2 hK1 rfl rfl (by decide) (Nat.le_of_ble_eq_true rfl) (c_X8_requireStation (C.2.2.2.2.2.2.2) (by omega) h) (fun v9 S' F' I' hq9 => ?_) (K_out C M) rfl
  clear h
  obtain ⟨rfl, rfl, rfl, rfl, h⟩ := hq9
  refine J_iload_n C dX8_engine_5 rfl rfl ?_
  refine J_iconst C dX8_engine_6 (rg_of (by decide)) ?_
  refine J_bipush C dX8_engine_7 (by decide +kernel) (rg_of (by decide)) ?_
  refine K_S C M [vi x2, vi 1, vi 9] [] mi_X8_requireRange wg_347 wg_348 dX8_engine_9 rfl rfl (by decide) (Nat.le_of_ble_eq_true rfl) (c_X8_requireRange (C.2.2.2.2.2.2.2) (by omega) h) (fun v9 S' F' I' hq9 => ?_) (K_out C M) rfl
  clear h
  obtain ⟨rfl, rfl, rfl, rfl, h⟩ := hq9
  refine J_aload_n C dX8_engine_12 rfl rfl ?_
  obtain ⟨r2, hr3, h⟩ := h
  refine J_getR C fo_9_2 rfl fl_RX8_22 dX8_engine_13 hK1 hr3 ?_
  obtain ⟨hK4, h⟩ := h
  refine K_V C M [] [] mi_Jx4a65c_size_8abf5 wg_350 wg_351 wg_352 ⟨rfl, by decide⟩ dX8_engine_16 hK4 rfl rfl (by decide) (Nat.le_of_ble_eq_true rfl) (c_Jx4a65c_size_8abf5 (C.2.2.2.2.2.2.2) (by omega) h) (fun v9 S' F' I' hq9 => ?_) K_no rfl
  clear h
  obtain ⟨z5, rfl, rfl, rfl, rfl, h⟩ := hq9
  refine J_bipush C dX8_engine_19 (by decide +kernel) (rg_of (by decide)) ?_
  refine J_icmp_ge C dX8_engine_21 (tgt := 28) rfl (fun c21 => ?_) (fun c21 => ?_)
  · have h := h.1 c21
    refine J_iconst C dX8_engine_28 (rg_of (by decide)) ?_
    exact S_X8_engine_29 C M (by omega)  h
  · have h := h.2 c21
    refine J_iconst C dX8_engine_24 (rg_of (by decide)) ?_
    refine J_goto C dX8_engine_25 (tgt := 29) rfl ?_
    exact S_X8_engine_29 C M (by omega)  h
theorem c_X8_engine {l : Launch} {G : Gp} {d : Nat} {x0 : Nat} {x1 : Int} {x2 : Int} {S : Shp} {F : Fl} {I : Il} {Q : Int → Shp → Fl → Il → Prop} {QX : String → Shp → Fl → Il → Prop} (hl : l.stackTraces = false) (hd : 10 ≤ d) (h : V_X8_engine G x0 x1 x2 S F I Q QX) : CM l G d yX8_engine (.code yX8_engine cX8_engine 3 (some .int)) [vr (some x0), vi x1, vi x2] S F I (qI fun z S' F' I' => Q z S' F' I') QX :=
  CM_ofM [vr (some x0), vi x1, vi x2] hl (by decide +kernel) (kn1 trivial (kn1 trivial (kn1 trivial kn0))) (Nat.le_of_ble_eq_true rfl) rfl (fun X hX C M => S_X8_engine C M hd h)
set_option maxRecDepth 20000 in
set_option maxHeartbeats 4000000 in
theorem S_X8_engineOf {G : Gp} {X : Xt} {d : Nat}  {x0 : Nat} {x1 : Int} {Q : Nat → Prop} {QX : String → Shp → Fl → Il → Prop} {S : Shp} {F : Fl} {I : Il} (C : CO G RX8 cX8_engineOf 2 X) (M : MX d (some (.object "Ironbark$Engine")) "engineOf" X) (hd : 9 ≤ d)  (h : V_X8_engineOf x0 x1 S F I Q QX) : J G X (QD X G (qR fun z S' F' I' => S = S' ∧ F = F' ∧ I = I' ∧ Q z) QX) 0 [vr (some x0), vi x1] [] S F I := by
  unfold V_X8_engineOf at h
  obtain ⟨d, rfl⟩ : ∃ d9, d = d9 + 1 := ⟨d - 1, by omega⟩
  refine J_iload_n C dX8_engineOf_0 rfl rfl ?_
  refine J_aload_n C dX8_engineOf_1 rfl rfl ?_
  obtain ⟨hK1, h⟩ := h
  obtain ⟨r2, hr3, h⟩ := h
  refine J_getR C fo_9_2 rfl fl_RX8_22 dX8_engineOf_2 hK1 hr3 ?_
  obtain ⟨hK4, h⟩ := h
  refine K_V C M [] [vi x1] mi_Jx4a65c_size_8abf5 wg_350 wg_351 wg_352 ⟨rfl, by decide⟩ dX8_engineOf_5 hK4 rfl rfl (by decide) (Nat.le_of_ble_eq_true rfl) (c_Jx4a65c_size_8abf5 (C.2.2.2.2.2.2.2) (by omega) h) (fun v9 S' F' I' hq9 => ?_) K_no rfl
  clear h
  obtain ⟨z5, rfl, rfl, rfl, rfl, h⟩ := hq9
  refine K_S C M [vi x1, vi z5] [] mi_X8_requireIndex wg_257 wg_258 dX8_engineOf_8 rfl rfl (by decide) (Nat.le_of_ble_eq_true rfl) (c_X8_requireIndex (C.2.2.2.2.2.2.2) (by omega) h) (fun v9 S' F' I' hq9 => ?_) (K_out C M) rfl
  clear h
  obtain ⟨rfl, rfl, rfl, rfl, h⟩ := hq9
  refine J_aload_n C dX8_engineOf_11 rfl rfl ?_
  refine J_getR C fo_9_2 rfl fl_RX8_22 dX8_engineOf_12 hK1 hr3 ?_
  refine J_iload_n C dX8_engineOf_15 rfl rfl ?_
  refine K_V C M [vi x1] [] mi_Jx4a65c_get_915e3 wg_496 wg_497 wg_498 ⟨rfl, by decide⟩ dX8_engineOf_16 hK4 rfl rfl (by decide) (Nat.le_of_ble_eq_true rfl) (c_Jx4a65c_get_915e3 (C.2.2.2.2.2.2.2) (by omega) h) (fun v9 S' F' I' hq9 => ?_) K_no rfl
  clear h
  obtain ⟨z6, rfl, rfl, rfl, rfl, h⟩ := hq9
  obtain ⟨hK7, h⟩ := h
  refine J_cast C fn_5.1 (by decide) wg_522 dX8_engineOf_19 hK7 ?_
  exact J_aret C dX8_engineOf_22 M.2.2.1 (Or.inl ⟨_, rfl⟩) ⟨_, rfl, rfl, rfl, rfl, h⟩
theorem c_X8_engineOf {l : Launch} {G : Gp} {d : Nat} {x0 : Nat} {x1 : Int} {S : Shp} {F : Fl} {I : Il} {Q : Nat → Prop} {QX : String → Shp → Fl → Il → Prop} (hl : l.stackTraces = false) (hd : 9 ≤ d) (h : V_X8_engineOf x0 x1 S F I Q QX) : CM l G d yX8_engineOf (.code yX8_engineOf cX8_engineOf 2 (some (.object "Ironbark$Engine"))) [vr (some x0), vi x1] S F I (qR fun z S' F' I' => S = S' ∧ F = F' ∧ I = I' ∧ Q z) QX :=
  CM_ofM [vr (some x0), vi x1] hl (by decide +kernel) (kn1 trivial (kn1 trivial kn0)) (Nat.le_of_ble_eq_true rfl) rfl (fun X hX C M => S_X8_engineOf C M hd h)
set_option maxRecDepth 20000 in
set_option maxHeartbeats 4000000 in
theorem S_X8_enter_41 {G : Gp} {X : Xt} {d : Nat}  {x0 : Nat} {x1 : Nat} {x2 : Nat} {x3 : Int} {x4 : Int} {Q : Fl → Prop} {QX : String → Shp → Fl → Il → Prop} {S : Shp} {F : Fl} {I : Il} (C : CO G RX8 cX8_enter 5 X) (M : MX d none "enter" X) (hd : 10 ≤ d)  (h : V_X8_enter_41 x0 x1 x2 x3 x4 S F I Q QX) : J G X (QD X G (qV fun S' F' I' => S = S' ∧ I = I' ∧ Q F') QX) 41 [vr (some x0), vr (some x1), vr (some x2), vi x3, vi x4] [] S F I := by
  unfold V_X8_enter_41 at h
  obtain ⟨d, rfl⟩ : ∃ d9, d = d9 + 1 := ⟨d - 1, by omega⟩
  refine J_aload_n C dX8_enter_41 rfl rfl ?_
  refine J_aload_n C dX8_enter_42 rfl rfl ?_
  refine J_aload_n C dX8_enter_43 rfl rfl ?_
  obtain ⟨hK1, h⟩ := h
  refine J_getI C fo_8_5 rfl fl_RX8_236 dX8_enter_44 hK1 ?_
  obtain ⟨hK2, h⟩ := h
  refine K_V C M [vi (F 805 x1)] [vr (some x1)] mi_X1_otherEnd wg_741 wg_742 wg_743 ⟨rfl, by decide⟩ dX8_enter_47 hK2 rfl rfl (by decide) (Nat.le_of_ble_eq_true rfl) (c_X1_otherEnd (C.2.2.2.2.2.2.2) (by omega) h) (fun v9 S' F' I' hq9 => ?_) K_no rfl
  clear h
  obtain ⟨z3, rfl, rfl, rfl, rfl, h⟩ := hq9
  refine J_putI C fo_8_5 fp_8 fl_RX8_236 (Or.inl rfl) (Or.inl rfl) dX8_enter_50 hK1 ?_
  refine J_aload_n C dX8_enter_53 rfl rfl ?_
  refine J_iload_n C dX8_enter_54 rfl rfl ?_
  refine J_putI C fo_8_6 fp_8 fl_RX8_322 (Or.inl rfl) (Or.inl rfl) dX8_enter_55 hK1 ?_
  refine J_aload_n C dX8_enter_58 rfl rfl ?_
  refine J_dup C dX8_enter_59 trivial ?_
  refine J_getI C fo_8_11 rfl fl_RX8_268 dX8_enter_60 hK1 ?_
  refine J_iconst C dX8_enter_63 (rg_of (by decide)) ?_
  refine J_iadd C dX8_enter_64 ?_
  refine J_putI C fo_8_11 fp_8 fl_RX8_268 (Or.inl rfl) (Or.inl rfl) dX8_enter_65 hK1 ?_
  refine J_aload_n C dX8_enter_68 rfl rfl ?_
  refine J_aload_n C dX8_enter_69 rfl rfl ?_
  obtain ⟨hK4, h⟩ := h
  refine J_getI C fo_9_12 rfl fl_RX8_62 dX8_enter_70 hK4 ?_
  refine J_iload C dX8_enter_73 rfl ?_
  refine J_iadd C dX8_enter_75 ?_
  refine J_putI C fo_8_7 fp_8 fl_RX8_368 (Or.inl rfl) (Or.inl rfl) dX8_enter_76 hK1 ?_
  refine J_aload_n C dX8_enter_79 rfl rfl ?_
  refine J_iconst C dX8_enter_80 (rg_of (by decide)) ?_
  refine J_putI C fo_8_1 fp_8 fl_RX8_277 (Or.inl rfl) (Or.inl rfl) dX8_enter_81 hK1 ?_
  refine J_aload_n C dX8_enter_84 rfl rfl ?_
  refine J_iconst C dX8_enter_85 (rg_of (by decide)) ?_
  refine J_putI C fo_2_6 fp_2 fl_RX8_129 (Or.inl rfl) (Or.inr ⟨rfl, by decide⟩) dX8_enter_86 hK2 ?_
  refine J_aload_n C dX8_enter_89 rfl rfl ?_
  refine J_aload_n C dX8_enter_90 rfl rfl ?_
  refine J_getI C fo_8_0 rfl fl_RX8_463 dX8_enter_91 hK1 ?_
  refine J_putI C fo_2_11 fp_2 fl_RX8_466 (Or.inl rfl) (Or.inl rfl) dX8_enter_94 hK2 ?_
  refine J_aload_n C dX8_enter_97 rfl rfl ?_
  refine J_aload_n C dX8_enter_98 rfl rfl ?_
  refine J_getI C fo_8_7 rfl fl_RX8_368 dX8_enter_99 hK1 ?_
  refine J_aload_n C dX8_enter_102 rfl rfl ?_
  refine K_V C M [] [vi ((u2 (u2 (u2 (u2 (u2 (u2 (u2 F 805 x1 z3) 806 x1 x3) 811 x1 (w32 (((u2 (u2 F 805 x1 z3) 806 x1 x3) 811 x1) + 1))) 807 x1 (w32 (((u2 (u2 (u2 F 805 x1 z3) 806 x1 x3) 811 x1 (w32 (((u2 (u2 F 805 x1 z3) 806 x1 x3) 811 x1) + 1))) 912 x0) + x4))) 801 x1 2) 206 x2 0) 211 x2 ((u2 (u2 (u2 (u2 (u2 (u2 F 805 x1 z3) 806 x1 x3) 811 x1 (w32 (((u2 (u2 F 805 x1 z3) 806 x1 x3) 811 x1) + 1))) 807 x1 (w32 (((u2 (u2 (u2 F 805 x1 z3) 806 x1 x3) 811 x1 (w32 (((u2 (u2 F 805 x1 z3) 806 x1 x3) 811 x1) + 1))) 912 x0) + x4))) 801 x1 2) 206 x2 0) 800 x1)) 807 x1), vr (some x2)] mi_X7_minutesToClear wg_669 wg_670 wg_671 ⟨rfl, by decide⟩ dX8_enter_103 hK1 rfl rfl (by decide) (Nat.le_of_ble_eq_true rfl) (c_X7_minutesToClear (C.2.2.2.2.2.2.2) (by omega) h) (fun v9 S' F' I' hq9 => ?_) K_no rfl
  clear h
  obtain ⟨z5, rfl, rfl, rfl, rfl, h⟩ := hq9
  refine J_iadd C dX8_enter_106 ?_
  refine J_putI C fo_2_12 fp_2 fl_RX8_469 (Or.inl rfl) (Or.inl rfl) dX8_enter_107 hK2 ?_
  exact J_vret C dX8_enter_110 M.2.2.1 ⟨rfl, rfl, rfl, h⟩
set_option maxRecDepth 20000 in
set_option maxHeartbeats 4000000 in
theorem S_X8_enter {G : Gp} {X : Xt} {d : Nat}  {x0 : Nat} {x1 : Nat} {x2 : Nat} {x3 : Int} {Q : Fl → Prop} {QX : String → Shp → Fl → Il → Prop} {S : Shp} {F : Fl} {I : Il} (C : CO G RX8 cX8_enter 5 X) (M : MX d none "enter" X) (hd : 10 ≤ d)  (h : V_X8_enter x0 x1 x2 x3 S F I Q QX) : J G X (QD X G (qV fun S' F' I' => S = S' ∧ I = I' ∧ Q F') QX) 0 [vr (some x0), vr (some x1), vr (some x2), vi x3, vl 0] [] S F I := by
  unfold V_X8_enter at h
  obtain ⟨d, rfl⟩ : ∃ d9, d = d9 + 1 := ⟨d - 1, by omega⟩
  refine J_aload_n C dX8_enter_0 rfl rfl ?_
  refine J_aload_n C dX8_enter_1 rfl rfl ?_
  refine K_S C M [vr (some x1), vr (some x2)] [] mi_X8_runningMinutes wg_730 wg_731 dX8_enter_2 rfl rfl (by decide) (Nat.le_of_ble_eq_true rfl) (c_X8_runningMinutes (C.2.2.2.2.2.2.2) (by omega) h) (fun v9 S' F' I' hq9 => ?_) K_no rfl
  clear h
  obtain ⟨z1, rfl, rfl, rfl, rfl, h⟩ := hq9
  refine K_istore C [vr (some x0), vr (some x1), vr (some x2), vi x3, vi z1] dX8_enter_5 (Nat.le_of_ble_eq_true rfl) rfl ?_
  refine J_aload_n C dX8_enter_7 rfl rfl ?_
  refine J_aload_n C dX8_enter_8 rfl rfl ?_
  obtain ⟨hK2, h⟩ := h
  refine J_getI C fo_8_3 rfl fl_RX8_421 dX8_enter_9 hK2 ?_
  obtain ⟨hK3, h⟩ := h
  refine K_V C M [vi (F 803 x1)] [] mi_X8_crewOf wg_576 wg_578 wg_6 ⟨rfl, by decide⟩ dX8_enter_12 hK3 rfl rfl (by decide) (Nat.le_of_ble_eq_true rfl) (c_X8_crewOf (C.2.2.2.2.2.2.2) (by omega) h) (fun v9 S' F' I' hq9 => ?_) (K_out C M) rfl
  clear h
  obtain ⟨z4, rfl, rfl, rfl, rfl, h⟩ := hq9
  refine J_dup C dX8_enter_15 trivial ?_
  obtain ⟨hK5, h⟩ := h
  refine J_getI C fo_4_3 rfl fl_RX8_188 dX8_enter_16 hK5 ?_
  refine J_iload C dX8_enter_19 rfl ?_
  refine J_iadd C dX8_enter_21 ?_
  refine J_putI C fo_4_3 fp_4 fl_RX8_188 (Or.inl rfl) (Or.inl rfl) dX8_enter_22 hK5 ?_
  refine J_aload_n C dX8_enter_25 rfl rfl ?_
  refine J_getI C fo_8_15 rfl fl_RX8_289 dX8_enter_26 hK2 ?_
  refine J_aload_n C dX8_enter_29 rfl rfl ?_
  refine J_getI C fo_8_5 rfl fl_RX8_236 dX8_enter_30 hK2 ?_
  refine J_icmp_ne C dX8_enter_33 (tgt := 41) rfl (fun c33 => ?_) (fun c33 => ?_)
  · have h := h.1 c33
    exact S_X8_enter_41 C M (by omega)  h
  · have h := h.2 c33
    refine J_aload_n C dX8_enter_36 rfl rfl ?_
    refine J_iconst C dX8_enter_37 (rg_of (by decide)) ?_
    refine J_putI C fo_8_14 fp_8 fl_RX8_286 (Or.inl rfl) (Or.inl rfl) dX8_enter_38 hK2 ?_
    exact S_X8_enter_41 C M (by omega)  h
theorem c_X8_enter {l : Launch} {G : Gp} {d : Nat} {x0 : Nat} {x1 : Nat} {x2 : Nat} {x3 : Int} {S : Shp} {F : Fl} {I : Il} {Q : Fl → Prop} {QX : String → Shp → Fl → Il → Prop} (hl : l.stackTraces = false) (hd : 10 ≤ d) (h : V_X8_enter x0 x1 x2 x3 S F I Q QX) : CM l G d yX8_enter (.code yX8_enter cX8_enter 5 none) [vr (some x0), vr (some x1), vr (some x2), vi x3] S F I (qV fun S' F' I' => S = S' ∧ I = I' ∧ Q F') QX :=
  CM_ofM [vr (some x0), vr (some x1), vr (some x2), vi x3, vl 0] hl (by decide +kernel) (kn1 trivial (kn1 trivial (kn1 trivial (kn1 trivial kn0)))) (Nat.le_of_ble_eq_true rfl) rfl (fun X hX C M => S_X8_enter C M hd h)
set_option maxRecDepth 20000 in
set_option maxHeartbeats 4000000 in
theorem S_X8_nextToEnter_80 {G : Gp} {X : Xt} {d : Nat} {k7 : Nat → Int → Int → Int → Int → Prop} {x0 : Nat} {x1 : Int} {x2 : Int} {x3 : Int} {x4 : Int} {Q : Int → Prop} {S : Shp} {F : Fl} {I : Il} (C : CO G RX8 cX8_nextToEnter 6 X) (M : MX d (some .int) "nextToEnter" X) (hd : 1 ≤ d) (hk7 : ∀ (x0 : Nat) (x1 : Int) (x2 : Int) (x3 : Int) (x4 : Int), k7 x0 x1 x2 x3 x4 → J G X (QD X G (qI fun z S' F' I' => S = S' ∧ F = F' ∧ I = I' ∧ Q z) noX) 7 [vr (some x0), vi x1, vi x2, vi x3, vi x4, vl 0] [] S F I) (h : V_X8_nextToEnter_80 k7 x0 x1 x2 x3 x4 S F I Q) : J G X (QD X G (qI fun z S' F' I' => S = S' ∧ F = F' ∧ I = I' ∧ Q z) noX) 80 [vr (some x0), vi x1, vi x2, vi x3, vi x4, vl 0] [] S F I := by
  unfold V_X8_nextToEnter_80 at h
  refine K_iinc C [vr (some x0), vi x1, vi x2, vi x3, vi (w32 (x4 + 1)), vl 0] dX8_nextToEnter_80 rfl rfl ?_
  refine J_goto C dX8_nextToEnter_83 (tgt := 7) rfl ?_
  exact hk7 x0 x1 x2 x3 (w32 (x4 + 1)) h
set_option maxRecDepth 20000 in
set_option maxHeartbeats 4000000 in
theorem S_X8_nextToEnter_31 {G : Gp} {X : Xt} {d : Nat} {k7 : Nat → Int → Int → Int → Int → Prop} {x0 : Nat} {x1 : Int} {x2 : Int} {x3 : Int} {x4 : Int} {s0 : Int} {Q : Int → Prop} {S : Shp} {F : Fl} {I : Il} (C : CO G RX8 cX8_nextToEnter 6 X) (M : MX d (some .int) "nextToEnter" X) (hd : 1 ≤ d) (hk7 : ∀ (x0 : Nat) (x1 : Int) (x2 : Int) (x3 : Int) (x4 : Int), k7 x0 x1 x2 x3 x4 → J G X (QD X G (qI fun z S' F' I' => S = S' ∧ F = F' ∧ I = I' ∧ Q z) noX) 7 [vr (some x0), vi x1, vi x2, vi x3, vi x4, vl 0] [] S F I) (h : V_X8_nextToEnter_31 k7 x0 x1 x2 x3 x4 s0 S F I Q) : J G X (QD X G (qI fun z S' F' I' => S = S' ∧ F = F' ∧ I = I' ∧ Q z) noX) 31 [vr (some x0), vi x1, vi x2, vi x3, vi x4, vl 0] [vi s0] S F I := by
  unfold V_X8_nextToEnter_31 at h
  refine K_istore C [vr (some x0), vi x1, vi x2, vi x3, vi x4, vi s0] dX8_nextToEnter_31 (Nat.le_of_ble_eq_true rfl) rfl ?_
  refine J_aload_n C dX8_nextToEnter_33 rfl rfl ?_
  obtain ⟨hK1, h⟩ := h
  obtain ⟨r2, hr3, h⟩ := h
  refine J_getR C fo_9_6 rfl fl_RX8_36 dX8_nextToEnter_34 hK1 hr3 ?_
  refine J_iload C dX8_nextToEnter_37 rfl ?_
  obtain ⟨hK4, h⟩ := h
  obtain ⟨h05, hn6, r7, hr8, h⟩ := h
  refine J_aald C dX8_nextToEnter_39 hK4 (by decide) (by decide) h05 hn6 hr8 ?_
  obtain ⟨hK9, h⟩ := h
  refine J_getI C fo_8_1 rfl fl_RX8_277 dX8_nextToEnter_40 hK9 ?_
  refine J_iconst C dX8_nextToEnter_43 (rg_of (by decide)) ?_
  refine J_icmp_ne C dX8_nextToEnter_44 (tgt := 80) rfl (fun c44 => ?_) (fun c44 => ?_)
  · have h := h.1 c44
    refine J_less [vr (some x0), vi x1, vi x2, vi x3, vi x4, vl 0] (by unfold lessL; simp [lessL]) ?_
    exact S_X8_nextToEnter_80 C M (by omega) hk7 h
  · have h := h.2 c44
    refine J_iload C dX8_nextToEnter_47 rfl ?_
    refine J_if_ne C dX8_nextToEnter_49 (tgt := 80) rfl (fun c49 => ?_) (fun c49 => ?_)
    · have h := h.1 c49
      refine J_less [vr (some x0), vi x1, vi x2, vi x3, vi x4, vl 0] (by unfold lessL; simp [lessL]) ?_
      exact S_X8_nextToEnter_80 C M (by omega) hk7 h
    · have h := h.2 c49
      refine J_aload_n C dX8_nextToEnter_52 rfl rfl ?_
      refine J_getR C fo_9_6 rfl fl_RX8_36 dX8_nextToEnter_53 hK1 hr3 ?_
      refine J_iload C dX8_nextToEnter_56 rfl ?_
      obtain ⟨h010, hn11, r12, hr13, h⟩ := h
      refine J_aald C dX8_nextToEnter_58 hK4 (by decide) (by decide) h010 hn11 hr13 ?_
      obtain ⟨hK14, h⟩ := h
      refine J_getI C fo_8_13 rfl fl_RX8_274 dX8_nextToEnter_59 hK14 ?_
      refine J_iload_n C dX8_nextToEnter_62 rfl rfl ?_
      refine J_icmp_le C dX8_nextToEnter_63 (tgt := 80) rfl (fun c63 => ?_) (fun c63 => ?_)
      · have h := h.1 c63
        refine J_less [vr (some x0), vi x1, vi x2, vi x3, vi x4, vl 0] (by unfold lessL; simp [lessL]) ?_
        exact S_X8_nextToEnter_80 C M (by omega) hk7 h
      · have h := h.2 c63
        refine J_iload C dX8_nextToEnter_66 rfl ?_
        refine K_istore_n C [vr (some x0), vi x1, vi x4, vi x3, vi x4, vi s0] dX8_nextToEnter_68 rfl (Nat.le_of_ble_eq_true rfl) rfl ?_
        refine J_aload_n C dX8_nextToEnter_69 rfl rfl ?_
        refine J_getR C fo_9_6 rfl fl_RX8_36 dX8_nextToEnter_70 hK1 hr3 ?_
        refine J_iload C dX8_nextToEnter_73 rfl ?_
        obtain ⟨h015, hn16, r17, hr18, h⟩ := h
        refine J_aald C dX8_nextToEnter_75 hK4 (by decide) (by decide) h015 hn16 hr18 ?_
        obtain ⟨hK19, h⟩ := h
        refine J_getI C fo_8_13 rfl fl_RX8_274 dX8_nextToEnter_76 hK19 ?_
        refine K_istore_n C [vr (some x0), vi x1, vi x4, vi (F 813 r17), vi x4, vi s0] dX8_nextToEnter_79 rfl (Nat.le_of_ble_eq_true rfl) rfl ?_
        refine J_less [vr (some x0), vi x1, vi x4, vi (F 813 r17), vi x4, vl 0] (by unfold lessL; simp [lessL]) ?_
        exact S_X8_nextToEnter_80 C M (by omega) hk7 h
set_option maxRecDepth 20000 in
set_option maxHeartbeats 4000000 in
theorem S_X8_nextToEnter_7 {G : Gp} {X : Xt} {d : Nat}  {S : Shp} {F : Fl} {I : Il} {Q : Int → Prop} (C : CO G RX8 cX8_nextToEnter 6 X) (M : MX d (some .int) "nextToEnter" X) (hd : 1 ≤ d) (n9 : Nat)  : ∀ (x0 : Nat) (x1 : Int) (x2 : Int) (x3 : Int) (x4 : Int) , V_X8_nextToEnter_7 n9 x0 x1 x2 x3 x4 S F I Q → J G X (QD X G (qI fun z S' F' I' => S = S' ∧ F = F' ∧ I = I' ∧ Q z) noX) 7 [vr (some x0), vi x1, vi x2, vi x3, vi x4, vl 0] [] S F I := by
  induction n9 with
  | zero => intro x0 x1 x2 x3 x4 h; exact h.elim
  | succ n ih =>
    intro x0 x1 x2 x3 x4 h
    unfold V_X8_nextToEnter_7 at h
    refine J_iload C dX8_nextToEnter_7 rfl ?_
    refine J_aload_n C dX8_nextToEnter_9 rfl rfl ?_
    obtain ⟨hK1, h⟩ := h
    obtain ⟨r2, hr3, h⟩ := h
    refine J_getR C fo_9_6 rfl fl_RX8_36 dX8_nextToEnter_10 hK1 hr3 ?_
    obtain ⟨hK4, h⟩ := h
    obtain ⟨hn5, h⟩ := h
    refine J_alen C dX8_nextToEnter_13 hK4 (by decide) (by decide) (rg_len hn5) ?_
    refine J_icmp_ge C dX8_nextToEnter_14 (tgt := 86) rfl (fun c14 => ?_) (fun c14 => ?_)
    · have h := h.1 c14
      refine J_iload_n C dX8_nextToEnter_86 rfl rfl ?_
      exact J_iret C dX8_nextToEnter_87 M.2.2.1 ⟨_, rfl, rfl, rfl, rfl, h⟩
    · have h := h.2 c14
      refine J_iload_n C dX8_nextToEnter_17 rfl rfl ?_
      refine J_iconst C dX8_nextToEnter_18 (rg_of (by decide)) ?_
      refine J_iload C dX8_nextToEnter_19 rfl ?_
      refine J_ishl C dX8_nextToEnter_21 ?_
      refine J_iand C dX8_nextToEnter_22 ?_
      refine J_if_eq C dX8_nextToEnter_23 (tgt := 30) rfl (fun c23 => ?_) (fun c23 => ?_)
      · have h := h.1 c23
        refine J_iconst C dX8_nextToEnter_30 (rg_of (by decide)) ?_
        exact S_X8_nextToEnter_31 C M (by omega) (fun y0 y1 y2 y3 y4 h9 => ih y0 y1 y2 y3 y4 h9) h
      · have h := h.2 c23
        refine J_iconst C dX8_nextToEnter_26 (rg_of (by decide)) ?_
        refine J_goto C dX8_nextToEnter_27 (tgt := 31) rfl ?_
        exact S_X8_nextToEnter_31 C M (by omega) (fun y0 y1 y2 y3 y4 h9 => ih y0 y1 y2 y3 y4 h9) h
set_option maxRecDepth 20000 in
set_option maxHeartbeats 4000000 in
theorem S_X8_nextToEnter {G : Gp} {X : Xt} {d : Nat}  {x0 : Nat} {x1 : Int} {Q : Int → Prop} {S : Shp} {F : Fl} {I : Il} (C : CO G RX8 cX8_nextToEnter 6 X) (M : MX d (some .int) "nextToEnter" X) (hd : 1 ≤ d)  (h : V_X8_nextToEnter x0 x1 S F I Q) : J G X (QD X G (qI fun z S' F' I' => S = S' ∧ F = F' ∧ I = I' ∧ Q z) noX) 0 [vr (some x0), vi x1, vl 0, vl 0, vl 0, vl 0] [] S F I := by
  unfold V_X8_nextToEnter at h
  refine J_iconst C dX8_nextToEnter_0 (rg_of (by decide)) ?_
  refine K_istore_n C [vr (some x0), vi x1, vi (-1), vl 0, vl 0, vl 0] dX8_nextToEnter_1 rfl (Nat.le_of_ble_eq_true rfl) rfl ?_
  refine J_iconst C dX8_nextToEnter_2 (rg_of (by decide)) ?_
  refine K_istore_n C [vr (some x0), vi x1, vi (-1), vi (-1), vl 0, vl 0] dX8_nextToEnter_3 rfl (Nat.le_of_ble_eq_true rfl) rfl ?_
  refine J_iconst C dX8_nextToEnter_4 (rg_of (by decide)) ?_
  refine K_istore C [vr (some x0), vi x1, vi (-1), vi (-1), vi 0, vl 0] dX8_nextToEnter_5 (Nat.le_of_ble_eq_true rfl) rfl ?_
  obtain ⟨n9, h⟩ := h
  exact S_X8_nextToEnter_7 C M (by omega) n9  _ _ _ _ _ h
theorem c_X8_nextToEnter {l : Launch} {G : Gp} {d : Nat} {x0 : Nat} {x1 : Int} {S : Shp} {F : Fl} {I : Il} {Q : Int → Prop} (hl : l.stackTraces = false) (hd : 1 ≤ d) (h : V_X8_nextToEnter x0 x1 S F I Q) : CM l G d yX8_nextToEnter (.code yX8_nextToEnter cX8_nextToEnter 6 (some .int)) [vr (some x0), vi x1] S F I (qI fun z S' F' I' => S = S' ∧ F = F' ∧ I = I' ∧ Q z) noX :=
  CM_ofM [vr (some x0), vi x1, vl 0, vl 0, vl 0, vl 0] hl (by decide +kernel) (kn1 trivial (kn1 trivial kn0)) (Nat.le_of_ble_eq_true rfl) rfl (fun X hX C M => S_X8_nextToEnter C M hd h)
set_option maxRecDepth 20000 in
set_option maxHeartbeats 4000000 in
theorem S_X8_enterAll_79 {G : Gp} {X : Xt} {d : Nat} {k6 : Nat → Int → Int → Int → Fl → Prop} {x0 : Nat} {x1 : Int} {x2 : Int} {x3 : Int} {Q : Int → Fl → Prop} {QX : String → Shp → Fl → Il → Prop} {S : Shp} {F : Fl} {I : Il} (C : CO G RX8 cX8_enterAll 6 X) (M : MX d (some .int) "enterAll" X) (hd : 13 ≤ d) (hk6 : ∀ (x0 : Nat) (x1 : Int) (x2 : Int) (x3 : Int) (F' : Fl), k6 x0 x1 x2 x3 F' → J G X (QD X G (qI fun z S' F' I' => S = S' ∧ I = I' ∧ Q z F') QX) 6 [vr (some x0), vi x1, vi x2, vi x3, vl 0, vl 0] [] S F' I) (h : V_X8_enterAll_79 k6 x0 x1 x2 x3 S F I Q QX) : J G X (QD X G (qI fun z S' F' I' => S = S' ∧ I = I' ∧ Q z F') QX) 79 [vr (some x0), vi x1, vi x2, vi x3, vl 0, vl 0] [] S F I := by
  unfold V_X8_enterAll_79 at h
  refine K_iinc C [vr (some x0), vi x1, vi x2, vi (w32 (x3 + 1)), vl 0, vl 0] dX8_enterAll_79 rfl rfl ?_
  refine J_goto C dX8_enterAll_82 (tgt := 6) rfl ?_
  exact hk6 x0 x1 x2 (w32 (x3 + 1)) F h
set_option maxRecDepth 20000 in
set_option maxHeartbeats 4000000 in
theorem S_X8_enterAll_6 {G : Gp} {X : Xt} {d : Nat}  {S : Shp} {I : Il} {Q : Int → Fl → Prop} {QX : String → Shp → Fl → Il → Prop} (C : CO G RX8 cX8_enterAll 6 X) (M : MX d (some .int) "enterAll" X) (hd : 13 ≤ d) (n9 : Nat)  : ∀ (x0 : Nat) (x1 : Int) (x2 : Int) (x3 : Int) (F : Fl), V_X8_enterAll_6 n9 x0 x1 x2 x3 S F I Q QX → J G X (QD X G (qI fun z S' F' I' => S = S' ∧ I = I' ∧ Q z F') QX) 6 [vr (some x0), vi x1, vi x2, vi x3, vl 0, vl 0] [] S F I := by
  obtain ⟨d, rfl⟩ : ∃ d9, d = d9 + 1 := ⟨d - 1, by omega⟩
  induction n9 with
  | zero => intro x0 x1 x2 x3 F h; exact h.elim
  | succ n ih =>
    intro x0 x1 x2 x3 F h
    unfold V_X8_enterAll_6 at h
    refine J_iload_n C dX8_enterAll_6 rfl rfl ?_
    refine J_aload_n C dX8_enterAll_7 rfl rfl ?_
    obtain ⟨hK1, h⟩ := h
    obtain ⟨r2, hr3, h⟩ := h
    refine J_getR C fo_9_6 rfl fl_RX8_36 dX8_enterAll_8 hK1 hr3 ?_
    obtain ⟨hK4, h⟩ := h
    obtain ⟨hn5, h⟩ := h
    refine J_alen C dX8_enterAll_11 hK4 (by decide) (by decide) (rg_len hn5) ?_
    refine J_icmp_ge C dX8_enterAll_12 (tgt := 85) rfl (fun c12 => ?_) (fun c12 => ?_)
    · have h := h.1 c12
      refine J_iload_n C dX8_enterAll_85 rfl rfl ?_
      exact J_iret C dX8_enterAll_86 M.2.2.1 ⟨_, rfl, rfl, rfl, h⟩
    · have h := h.2 c12
      refine J_aload_n C dX8_enterAll_15 rfl rfl ?_
      refine J_iload_n C dX8_enterAll_16 rfl rfl ?_
      refine K_V C M [vi x2] [] mi_X8_nextToEnter wg_698 wg_700 wg_16 ⟨rfl, by decide⟩ dX8_enterAll_17 hK1 rfl rfl (by decide) (Nat.le_of_ble_eq_true rfl) (c_X8_nextToEnter (C.2.2.2.2.2.2.2) (by omega) h) (fun v9 S' F' I' hq9 => ?_) K_no rfl
      clear h
      obtain ⟨z6, rfl, rfl, rfl, rfl, h⟩ := hq9
      refine K_istore C [vr (some x0), vi x1, vi x2, vi x3, vi z6, vl 0] dX8_enterAll_20 (Nat.le_of_ble_eq_true rfl) rfl ?_
      refine J_iload C dX8_enterAll_22 rfl ?_
      refine J_iconst C dX8_enterAll_24 (rg_of (by decide)) ?_
      refine J_icmp_ne C dX8_enterAll_25 (tgt := 31) rfl (fun c25 => ?_) (fun c25 => ?_)
      · have h := h.1 c25
        refine J_iload_n C dX8_enterAll_31 rfl rfl ?_
        refine J_iconst C dX8_enterAll_32 (rg_of (by decide)) ?_
        refine J_iload C dX8_enterAll_33 rfl ?_
        refine J_ishl C dX8_enterAll_35 ?_
        refine J_ior C dX8_enterAll_36 ?_
        refine K_istore_n C [vr (some x0), vi x1, vi (ior x2 (ishl 1 z6)), vi x3, vi z6, vl 0] dX8_enterAll_37 rfl (Nat.le_of_ble_eq_true rfl) rfl ?_
        refine J_aload_n C dX8_enterAll_38 rfl rfl ?_
        refine J_getR C fo_9_6 rfl fl_RX8_36 dX8_enterAll_39 hK1 hr3 ?_
        refine J_iload C dX8_enterAll_42 rfl ?_
        obtain ⟨h07, hn8, r9, hr10, h⟩ := h
        refine J_aald C dX8_enterAll_44 hK4 (by decide) (by decide) h07 hn8 hr10 ?_
        refine K_astore C [vr (some x0), vi x1, vi (ior x2 (ishl 1 z6)), vi x3, vi z6, vr (some r9)] dX8_enterAll_45 (Nat.le_of_ble_eq_true rfl) rfl ?_
        refine J_aload_n C dX8_enterAll_47 rfl rfl ?_
        refine J_aload C dX8_enterAll_48 rfl ?_
        refine K_V C M [vr (some r9)] [] mi_X8_barOf wg_702 wg_704 wg_17 ⟨rfl, by decide⟩ dX8_enterAll_50 hK1 rfl rfl (by decide) (Nat.le_of_ble_eq_true rfl) (c_X8_barOf (C.2.2.2.2.2.2.2) (by omega) h) (fun v9 S' F' I' hq9 => ?_) (K_out C M) rfl
        clear h
        obtain ⟨z11, rfl, rfl, rfl, rfl, h⟩ := hq9
        refine J_if_ne C dX8_enterAll_53 (tgt := 79) rfl (fun c53 => ?_) (fun c53 => ?_)
        · have h := h.1 c53
          refine J_less [vr (some x0), vi x1, vi (ior x2 (ishl 1 z6)), vi x3, vl 0, vl 0] (by unfold lessL; simp [lessL]) ?_
          exact S_X8_enterAll_79 C M (by omega) (fun y0 y1 y2 y3 F' h9 => ih y0 y1 y2 y3 F' h9) h
        · have h := h.2 c53
          refine J_aload_n C dX8_enterAll_56 rfl rfl ?_
          refine J_aload C dX8_enterAll_57 rfl ?_
          refine J_aload_n C dX8_enterAll_59 rfl rfl ?_
          refine J_aload C dX8_enterAll_60 rfl ?_
          obtain ⟨hK12, h⟩ := h
          refine K_V C M [] [vr (some x0), vr (some r9), vr (some x0)] mi_X7_nextBlock wg_677 wg_678 wg_679 ⟨rfl, by decide⟩ dX8_enterAll_62 hK12 rfl rfl (by decide) (Nat.le_of_ble_eq_true rfl) (c_X7_nextBlock (C.2.2.2.2.2.2.2) (by omega) h) (fun v9 S' F' I' hq9 => ?_) K_no rfl
          clear h
          obtain ⟨z13, rfl, rfl, rfl, rfl, h⟩ := hq9
          refine K_V C M [vi z13] [vr (some r9), vr (some x0)] mi_X8_blockOf wg_492 wg_494 wg_5 ⟨rfl, by decide⟩ dX8_enterAll_65 hK1 rfl rfl (by decide) (Nat.le_of_ble_eq_true rfl) (c_X8_blockOf (C.2.2.2.2.2.2.2) (by omega) h) (fun v9 S' F' I' hq9 => ?_) (K_out C M) rfl
          clear h
          obtain ⟨z14, rfl, rfl, rfl, rfl, h⟩ := hq9
          refine J_aload C dX8_enterAll_68 rfl ?_
          refine K_V C M [] [vr (some z14), vr (some r9), vr (some x0)] mi_X7_nextBlock wg_677 wg_678 wg_679 ⟨rfl, by decide⟩ dX8_enterAll_70 hK12 rfl rfl (by decide) (Nat.le_of_ble_eq_true rfl) (c_X7_nextBlock (C.2.2.2.2.2.2.2) (by omega) h) (fun v9 S' F' I' hq9 => ?_) K_no rfl
          clear h
          obtain ⟨z15, rfl, rfl, rfl, rfl, h⟩ := hq9
          refine K_V C M [vr (some r9), vr (some z14), vi z15] [] mi_X8_enter wg_757 wg_759 wg_23 ⟨rfl, by decide⟩ dX8_enterAll_73 hK1 rfl rfl (by decide) (Nat.le_of_ble_eq_true rfl) (c_X8_enter (C.2.2.2.2.2.2.2) (by omega) h) (fun v9 S' F16 I' hq9 => ?_) (K_out C M) rfl
          clear h
          obtain ⟨rfl, rfl, rfl, h⟩ := hq9
          refine K_iinc C [vr (some x0), vi (w32 (x1 + 1)), vi (ior x2 (ishl 1 z6)), vi x3, vi z6, vr (some r9)] dX8_enterAll_76 rfl rfl ?_
          refine J_less [vr (some x0), vi (w32 (x1 + 1)), vi (ior x2 (ishl 1 z6)), vi x3, vl 0, vl 0] (by unfold lessL; simp [lessL]) ?_
          exact S_X8_enterAll_79 C M (by omega) (fun y0 y1 y2 y3 F' h9 => ih y0 y1 y2 y3 F' h9) h
      · have h := h.2 c25
        refine J_goto C dX8_enterAll_28 (tgt := 85) rfl ?_
        refine J_iload_n C dX8_enterAll_85 rfl rfl ?_
        exact J_iret C dX8_enterAll_86 M.2.2.1 ⟨_, rfl, rfl, rfl, h⟩
set_option maxRecDepth 20000 in
set_option maxHeartbeats 4000000 in
theorem S_X8_enterAll {G : Gp} {X : Xt} {d : Nat}  {x0 : Nat} {Q : Int → Fl → Prop} {QX : String → Shp → Fl → Il → Prop} {S : Shp} {F : Fl} {I : Il} (C : CO G RX8 cX8_enterAll 6 X) (M : MX d (some .int) "enterAll" X) (hd : 13 ≤ d)  (h : V_X8_enterAll x0 S F I Q QX) : J G X (QD X G (qI fun z S' F' I' => S = S' ∧ I = I' ∧ Q z F') QX) 0 [vr (some x0), vl 0, vl 0, vl 0, vl 0, vl 0] [] S F I := by
  unfold V_X8_enterAll at h
  refine J_iconst C dX8_enterAll_0 (rg_of (by decide)) ?_
  refine K_istore_n C [vr (some x0), vi 0, vl 0, vl 0, vl 0, vl 0] dX8_enterAll_1 rfl (Nat.le_of_ble_eq_true rfl) rfl ?_
  refine J_iconst C dX8_enterAll_2 (rg_of (by decide)) ?_
  refine K_istore_n C [vr (some x0), vi 0, vi 0, vl 0, vl 0, vl 0] dX8_enterAll_3 rfl (Nat.le_of_ble_eq_true rfl) rfl ?_
  refine J_iconst C dX8_enterAll_4 (rg_of (by decide)) ?_
  refine K_istore_n C [vr (some x0), vi 0, vi 0, vi 0, vl 0, vl 0] dX8_enterAll_5 rfl (Nat.le_of_ble_eq_true rfl) rfl ?_
  obtain ⟨n9, h⟩ := h
  exact S_X8_enterAll_6 C M (by omega) n9  _ _ _ _ _ h
theorem c_X8_enterAll {l : Launch} {G : Gp} {d : Nat} {x0 : Nat} {S : Shp} {F : Fl} {I : Il} {Q : Int → Fl → Prop} {QX : String → Shp → Fl → Il → Prop} (hl : l.stackTraces = false) (hd : 13 ≤ d) (h : V_X8_enterAll x0 S F I Q QX) : CM l G d yX8_enterAll (.code yX8_enterAll cX8_enterAll 6 (some .int)) [vr (some x0)] S F I (qI fun z S' F' I' => S = S' ∧ I = I' ∧ Q z F') QX :=
  CM_ofM [vr (some x0), vl 0, vl 0, vl 0, vl 0, vl 0] hl (by decide +kernel) (kn1 trivial kn0) (Nat.le_of_ble_eq_true rfl) rfl (fun X hX C M => S_X8_enterAll C M hd h)
set_option maxRecDepth 20000 in
set_option maxHeartbeats 4000000 in
theorem S_X8_fail {G : Gp} {X : Xt} {d : Nat}  {x0 : Nat} {x1 : Int} {x2 : Int} {Q : Int → Fl → Prop} {QX : String → Shp → Fl → Il → Prop} {S : Shp} {F : Fl} {I : Il} (C : CO G RX8 cX8_fail 5 X) (M : MX d (some .boolean) "fail" X) (hd : 10 ≤ d)  (h : V_X8_fail x0 x1 x2 S F I Q QX) : J G X (QD X G (qI fun z S' F' I' => S = S' ∧ I = I' ∧ Q z F') QX) 0 [vr (some x0), vi x1, vi x2, vl 0, vl 0] [] S F I := by
  unfold V_X8_fail at h
  obtain ⟨d, rfl⟩ : ∃ d9, d = d9 + 1 := ⟨d - 1, by omega⟩
  refine J_aload_n C dX8_fail_0 rfl rfl ?_
  refine J_iload_n C dX8_fail_1 rfl rfl ?_
  obtain ⟨hK1, h⟩ := h
  refine K_V C M [vi x1] [] mi_X8_blockOf wg_492 wg_494 wg_5 ⟨rfl, by decide⟩ dX8_fail_2 hK1 rfl rfl (by decide) (Nat.le_of_ble_eq_true rfl) (c_X8_blockOf (C.2.2.2.2.2.2.2) (by omega) h) (fun v9 S' F' I' hq9 => ?_) (K_out C M) rfl
  clear h
  obtain ⟨z2, rfl, rfl, rfl, rfl, h⟩ := hq9
  refine K_astore_n C [vr (some x0), vi x1, vi x2, vr (some z2), vl 0] dX8_fail_5 rfl (Nat.le_of_ble_eq_true rfl) rfl ?_
  refine J_aload_n C dX8_fail_6 rfl rfl ?_
  obtain ⟨hK3, h⟩ := h
  refine J_getI C fo_2_5 rfl fl_RX8_125 dX8_fail_7 hK3 ?_
  refine K_istore C [vr (some x0), vi x1, vi x2, vr (some z2), vi (F 205 z2)] dX8_fail_10 (Nat.le_of_ble_eq_true rfl) rfl ?_
  refine J_aload_n C dX8_fail_12 rfl rfl ?_
  refine J_iload_n C dX8_fail_13 rfl rfl ?_
  obtain ⟨hb4, h⟩ := h
  refine J_putI C fo_2_5 fp_2 fl_RX8_125 (Or.inl rfl) (Or.inr ⟨rfl, hb4⟩) dX8_fail_14 hK3 ?_
  refine J_aload_n C dX8_fail_17 rfl rfl ?_
  refine J_iconst C dX8_fail_18 (rg_of (by decide)) ?_
  refine J_putI C fo_2_6 fp_2 fl_RX8_129 (Or.inl rfl) (Or.inr ⟨rfl, by decide⟩) dX8_fail_19 hK3 ?_
  refine J_iload C dX8_fail_22 rfl ?_
  obtain ⟨hb, h⟩ := h
  exact J_zret C dX8_fail_24 M.2.2.1 hb ⟨_, rfl, rfl, rfl, h⟩
theorem c_X8_fail {l : Launch} {G : Gp} {d : Nat} {x0 : Nat} {x1 : Int} {x2 : Int} {S : Shp} {F : Fl} {I : Il} {Q : Int → Fl → Prop} {QX : String → Shp → Fl → Il → Prop} (hl : l.stackTraces = false) (hd : 10 ≤ d) (h : V_X8_fail x0 x1 x2 S F I Q QX) : CM l G d yX8_fail (.code yX8_fail cX8_fail 5 (some .boolean)) [vr (some x0), vi x1, vi x2] S F I (qI fun z S' F' I' => S = S' ∧ I = I' ∧ Q z F') QX :=
  CM_ofM [vr (some x0), vi x1, vi x2, vl 0, vl 0] hl (by decide +kernel) (kn1 trivial (kn1 trivial (kn1 trivial kn0))) (Nat.le_of_ble_eq_true rfl) rfl (fun X hX C M => S_X8_fail C M hd h)
set_option maxRecDepth 20000 in
set_option maxHeartbeats 4000000 in
theorem S_X8_flag_25 {G : Gp} {X : Xt} {d : Nat}  {x2 : Nat} {s0 : Int} {Q : Fl → Prop} {QX : String → Shp → Fl → Il → Prop} {S : Shp} {F : Fl} {I : Il} (C : CO G RX8 cX8_flag 3 X) (M : MX d none "flag" X) (hd : 10 ≤ d)  (h : V_X8_flag_25 x2 s0 S F I Q QX) : J G X (QD X G (qV fun S' F' I' => S = S' ∧ I = I' ∧ Q F') QX) 25 [vl 0, vl 0, vr (some x2)] [vi s0] S F I := by
  unfold V_X8_flag_25 at h
  obtain ⟨d, rfl⟩ : ∃ d9, d = d9 + 1 := ⟨d - 1, by omega⟩
  refine K_S C M [vi s0] [] mi_X8_requireState wg_354 wg_355 dX8_flag_25 rfl rfl (by decide) (Nat.le_of_ble_eq_true rfl) (c_X8_requireState (C.2.2.2.2.2.2.2) (by omega) h) (fun v9 S' F' I' hq9 => ?_) (K_out C M) rfl
  clear h
  obtain ⟨rfl, rfl, rfl, rfl, h⟩ := hq9
  refine J_aload_n C dX8_flag_28 rfl rfl ?_
  refine J_iconst C dX8_flag_29 (rg_of (by decide)) ?_
  obtain ⟨hK1, h⟩ := h
  refine J_putI C fo_2_6 fp_2 fl_RX8_129 (Or.inl rfl) (Or.inr ⟨rfl, by decide⟩) dX8_flag_30 hK1 ?_
  exact J_vret C dX8_flag_33 M.2.2.1 ⟨rfl, rfl, rfl, h⟩
set_option maxRecDepth 20000 in
set_option maxHeartbeats 4000000 in
theorem S_X8_flag_24 {G : Gp} {X : Xt} {d : Nat}  {x2 : Nat} {Q : Fl → Prop} {QX : String → Shp → Fl → Il → Prop} {S : Shp} {F : Fl} {I : Il} (C : CO G RX8 cX8_flag 3 X) (M : MX d none "flag" X) (hd : 10 ≤ d)  (h : V_X8_flag_24 x2 S F I Q QX) : J G X (QD X G (qV fun S' F' I' => S = S' ∧ I = I' ∧ Q F') QX) 24 [vl 0, vl 0, vr (some x2)] [] S F I := by
  unfold V_X8_flag_24 at h
  refine J_iconst C dX8_flag_24 (rg_of (by decide)) ?_
  exact S_X8_flag_25 C M (by omega)  h
set_option maxRecDepth 20000 in
set_option maxHeartbeats 4000000 in
theorem S_X8_flag {G : Gp} {X : Xt} {d : Nat}  {x0 : Nat} {x1 : Int} {Q : Fl → Prop} {QX : String → Shp → Fl → Il → Prop} {S : Shp} {F : Fl} {I : Il} (C : CO G RX8 cX8_flag 3 X) (M : MX d none "flag" X) (hd : 10 ≤ d)  (h : V_X8_flag x0 x1 S F I Q QX) : J G X (QD X G (qV fun S' F' I' => S = S' ∧ I = I' ∧ Q F') QX) 0 [vr (some x0), vi x1, vl 0] [] S F I := by
  unfold V_X8_flag at h
  obtain ⟨d, rfl⟩ : ∃ d9, d = d9 + 1 := ⟨d - 1, by omega⟩
  refine J_aload_n C dX8_flag_0 rfl rfl ?_
  refine J_iload_n C dX8_flag_1 rfl rfl ?_
  obtain ⟨hK1, h⟩ := h
  refine K_V C M [vi x1] [] mi_X8_blockOf wg_492 wg_494 wg_5 ⟨rfl, by decide⟩ dX8_flag_2 hK1 rfl rfl (by decide) (Nat.le_of_ble_eq_true rfl) (c_X8_blockOf (C.2.2.2.2.2.2.2) (by omega) h) (fun v9 S' F' I' hq9 => ?_) (K_out C M) rfl
  clear h
  obtain ⟨z2, rfl, rfl, rfl, rfl, h⟩ := hq9
  refine K_astore_n C [vr (some x0), vi x1, vr (some z2)] dX8_flag_5 rfl (Nat.le_of_ble_eq_true rfl) rfl ?_
  refine J_aload_n C dX8_flag_6 rfl rfl ?_
  obtain ⟨hK3, h⟩ := h
  refine J_getI C fo_2_5 rfl fl_RX8_125 dX8_flag_7 hK3 ?_
  refine J_if_eq C dX8_flag_10 (tgt := 24) rfl (fun c10 => ?_) (fun c10 => ?_)
  · have h := h.1 c10
    refine J_less [vl 0, vl 0, vr (some z2)] (by unfold lessL; simp [lessL]) ?_
    exact S_X8_flag_24 C M (by omega)  h
  · have h := h.2 c10
    refine J_aload_n C dX8_flag_13 rfl rfl ?_
    refine J_getI C fo_2_6 rfl fl_RX8_129 dX8_flag_14 hK3 ?_
    refine J_if_ne C dX8_flag_17 (tgt := 24) rfl (fun c17 => ?_) (fun c17 => ?_)
    · have h := h.1 c17
      refine J_less [vl 0, vl 0, vr (some z2)] (by unfold lessL; simp [lessL]) ?_
      exact S_X8_flag_24 C M (by omega)  h
    · have h := h.2 c17
      refine J_iconst C dX8_flag_20 (rg_of (by decide)) ?_
      refine J_goto C dX8_flag_21 (tgt := 25) rfl ?_
      refine J_less [vl 0, vl 0, vr (some z2)] (by unfold lessL; simp [lessL]) ?_
      exact S_X8_flag_25 C M (by omega)  h
theorem c_X8_flag {l : Launch} {G : Gp} {d : Nat} {x0 : Nat} {x1 : Int} {S : Shp} {F : Fl} {I : Il} {Q : Fl → Prop} {QX : String → Shp → Fl → Il → Prop} (hl : l.stackTraces = false) (hd : 10 ≤ d) (h : V_X8_flag x0 x1 S F I Q QX) : CM l G d yX8_flag (.code yX8_flag cX8_flag 3 none) [vr (some x0), vi x1] S F I (qV fun S' F' I' => S = S' ∧ I = I' ∧ Q F') QX :=
  CM_ofM [vr (some x0), vi x1, vl 0] hl (by decide +kernel) (kn1 trivial (kn1 trivial kn0)) (Nat.le_of_ble_eq_true rfl) rfl (fun X hX C M => S_X8_flag C M hd h)
set_option maxRecDepth 20000 in
set_option maxHeartbeats 4000000 in
theorem S_X8_leastFreeNumber_2 {G : Gp} {X : Xt} {d : Nat}  {S : Shp} {F : Fl} {I : Il} {Q : Int → Prop} (C : CO G RX8 cX8_leastFreeNumber 2 X) (M : MX d (some .int) "leastFreeNumber" X) (hd : 1 ≤ d) (n9 : Nat)  : ∀ (x0 : Nat) (x1 : Int) , V_X8_leastFreeNumber_2 n9 x0 x1 S F I Q → J G X (QD X G (qI fun z S' F' I' => S = S' ∧ F = F' ∧ I = I' ∧ Q z) noX) 2 [vr (some x0), vi x1] [] S F I := by
  induction n9 with
  | zero => intro x0 x1 h; exact h.elim
  | succ n ih =>
    intro x0 x1 h
    unfold V_X8_leastFreeNumber_2 at h
    refine J_iload_n C dX8_leastFreeNumber_2 rfl rfl ?_
    refine J_aload_n C dX8_leastFreeNumber_3 rfl rfl ?_
    obtain ⟨hK1, h⟩ := h
    obtain ⟨r2, hr3, h⟩ := h
    refine J_getR C fo_9_6 rfl fl_RX8_36 dX8_leastFreeNumber_4 hK1 hr3 ?_
    obtain ⟨hK4, h⟩ := h
    obtain ⟨hn5, h⟩ := h
    refine J_alen C dX8_leastFreeNumber_7 hK4 (by decide) (by decide) (rg_len hn5) ?_
    refine J_icmp_ge C dX8_leastFreeNumber_8 (tgt := 32) rfl (fun c8 => ?_) (fun c8 => ?_)
    · have h := h.1 c8
      refine J_iconst C dX8_leastFreeNumber_32 (rg_of (by decide)) ?_
      exact J_iret C dX8_leastFreeNumber_33 M.2.2.1 ⟨_, rfl, rfl, rfl, rfl, h⟩
    · have h := h.2 c8
      refine J_aload_n C dX8_leastFreeNumber_11 rfl rfl ?_
      refine J_getR C fo_9_6 rfl fl_RX8_36 dX8_leastFreeNumber_12 hK1 hr3 ?_
      refine J_iload_n C dX8_leastFreeNumber_15 rfl rfl ?_
      obtain ⟨h06, hn7, r8, hr9, h⟩ := h
      refine J_aald C dX8_leastFreeNumber_16 hK4 (by decide) (by decide) h06 hn7 hr9 ?_
      obtain ⟨hK10, h⟩ := h
      refine J_getI C fo_8_1 rfl fl_RX8_277 dX8_leastFreeNumber_17 hK10 ?_
      refine J_iconst C dX8_leastFreeNumber_20 (rg_of (by decide)) ?_
      refine J_icmp_ne C dX8_leastFreeNumber_21 (tgt := 26) rfl (fun c21 => ?_) (fun c21 => ?_)
      · have h := h.1 c21
        refine K_iinc C [vr (some x0), vi (w32 (x1 + 1))] dX8_leastFreeNumber_26 rfl rfl ?_
        refine J_goto C dX8_leastFreeNumber_29 (tgt := 2) rfl ?_
        exact ih _ _ h
      · have h := h.2 c21
        refine J_iload_n C dX8_leastFreeNumber_24 rfl rfl ?_
        exact J_iret C dX8_leastFreeNumber_25 M.2.2.1 ⟨_, rfl, rfl, rfl, rfl, h⟩
set_option maxRecDepth 20000 in
set_option maxHeartbeats 4000000 in
theorem S_X8_leastFreeNumber {G : Gp} {X : Xt} {d : Nat}  {x0 : Nat} {Q : Int → Prop} {S : Shp} {F : Fl} {I : Il} (C : CO G RX8 cX8_leastFreeNumber 2 X) (M : MX d (some .int) "leastFreeNumber" X) (hd : 1 ≤ d)  (h : V_X8_leastFreeNumber x0 S F I Q) : J G X (QD X G (qI fun z S' F' I' => S = S' ∧ F = F' ∧ I = I' ∧ Q z) noX) 0 [vr (some x0), vl 0] [] S F I := by
  unfold V_X8_leastFreeNumber at h
  refine J_iconst C dX8_leastFreeNumber_0 (rg_of (by decide)) ?_
  refine K_istore_n C [vr (some x0), vi 0] dX8_leastFreeNumber_1 rfl (Nat.le_of_ble_eq_true rfl) rfl ?_
  obtain ⟨n9, h⟩ := h
  exact S_X8_leastFreeNumber_2 C M (by omega) n9  _ _ h
theorem c_X8_leastFreeNumber {l : Launch} {G : Gp} {d : Nat} {x0 : Nat} {S : Shp} {F : Fl} {I : Il} {Q : Int → Prop} (hl : l.stackTraces = false) (hd : 1 ≤ d) (h : V_X8_leastFreeNumber x0 S F I Q) : CM l G d yX8_leastFreeNumber (.code yX8_leastFreeNumber cX8_leastFreeNumber 2 (some .int)) [vr (some x0)] S F I (qI fun z S' F' I' => S = S' ∧ F = F' ∧ I = I' ∧ Q z) noX :=
  CM_ofM [vr (some x0), vl 0] hl (by decide +kernel) (kn1 trivial kn0) (Nat.le_of_ble_eq_true rfl) rfl (fun X hX C M => S_X8_leastFreeNumber C M hd h)
set_option maxRecDepth 20000 in
set_option maxHeartbeats 4000000 in
theorem S_X8_form_106 {G : Gp} {X : Xt} {d : Nat}  {x0 : Nat} {x1 : Int} {x2 : Int} {x3 : Nat} {x4 : Nat} {x5 : Int} {s0 : Int} {Q : Int → Fl → Il → Prop} {QX : String → Shp → Fl → Il → Prop} {S : Shp} {F : Fl} {I : Il} (C : CO G RX8 cX8_form 6 X) (M : MX d (some .int) "form" X) (hd : 11 ≤ d)  (h : V_X8_form_106 x0 x1 x2 x3 x4 x5 s0 S F I Q QX) : J G X (QD X G (qI fun z S' F' I' => S = S' ∧ Q z F' I') QX) 106 [vr (some x0), vi x1, vi x2, vr (some x3), vr (some x4), vi x5] [vi s0] S F I := by
  unfold V_X8_form_106 at h
  obtain ⟨d, rfl⟩ : ∃ d9, d = d9 + 1 := ⟨d - 1, by omega⟩
  refine K_S C M [vi s0] [] mi_X8_requireState wg_354 wg_355 dX8_form_106 rfl rfl (by decide) (Nat.le_of_ble_eq_true rfl) (c_X8_requireState (C.2.2.2.2.2.2.2) (by omega) h) (fun v9 S' F' I' hq9 => ?_) (K_out C M) rfl
  clear h
  obtain ⟨rfl, rfl, rfl, rfl, h⟩ := hq9
  refine J_aload_n C dX8_form_109 rfl rfl ?_
  obtain ⟨hK1, h⟩ := h
  obtain ⟨r2, hr3, h⟩ := h
  refine J_getR C fo_9_6 rfl fl_RX8_36 dX8_form_110 hK1 hr3 ?_
  refine J_iload C dX8_form_113 rfl ?_
  obtain ⟨hK4, h⟩ := h
  obtain ⟨h05, hn6, r7, hr8, h⟩ := h
  refine J_aald C dX8_form_115 hK4 (by decide) (by decide) h05 hn6 hr8 ?_
  refine J_iload_n C dX8_form_116 rfl rfl ?_
  refine J_iload_n C dX8_form_117 rfl rfl ?_
  refine J_aload_n C dX8_form_118 rfl rfl ?_
  obtain ⟨hK9, h⟩ := h
  refine J_getI C fo_5_0 rfl fl_RX8_222 dX8_form_119 hK9 ?_
  refine J_aload_n C dX8_form_122 rfl rfl ?_
  refine J_getI C fo_5_1 rfl fl_RX8_212 dX8_form_123 hK9 ?_
  obtain ⟨hK10, h⟩ := h
  refine K_V C M [vi x1, vi x2, vi (F 500 x3), vi (F 501 x3)] [] mi_X7_start wg_786 wg_787 wg_788 ⟨rfl, by decide⟩ dX8_form_126 hK10 rfl rfl (by decide) (Nat.le_of_ble_eq_true rfl) (c_X7_start (C.2.2.2.2.2.2.2) (by omega) h) (fun v9 S' F11 I12 hq9 => ?_) K_no rfl
  clear h
  obtain ⟨rfl, rfl, h⟩ := hq9
  refine J_aload_n C dX8_form_129 rfl rfl ?_
  refine J_iload C dX8_form_130 rfl ?_
  refine J_putI C fo_5_2 fp_5 fl_RX8_211 (Or.inl rfl) (Or.inl rfl) dX8_form_132 hK9 ?_
  refine J_aload C dX8_form_135 rfl ?_
  refine J_iload C dX8_form_137 rfl ?_
  obtain ⟨hK13, h⟩ := h
  refine J_putI C fo_4_1 fp_4 fl_RX8_177 (Or.inl rfl) (Or.inl rfl) dX8_form_139 hK13 ?_
  refine J_iload C dX8_form_142 rfl ?_
  exact J_iret C dX8_form_144 M.2.2.1 ⟨_, rfl, rfl, h⟩
set_option maxRecDepth 20000 in
set_option maxHeartbeats 4000000 in
theorem S_X8_form_86 {G : Gp} {X : Xt} {d : Nat}  {x0 : Nat} {x1 : Int} {x2 : Int} {x3 : Nat} {x4 : Nat} {s0 : Int} {Q : Int → Fl → Il → Prop} {QX : String → Shp → Fl → Il → Prop} {S : Shp} {F : Fl} {I : Il} (C : CO G RX8 cX8_form 6 X) (M : MX d (some .int) "form" X) (hd : 11 ≤ d)  (h : V_X8_form_86 x0 x1 x2 x3 x4 s0 S F I Q QX) : J G X (QD X G (qI fun z S' F' I' => S = S' ∧ Q z F' I') QX) 86 [vr (some x0), vi x1, vi x2, vr (some x3), vr (some x4), vl 0] [vi s0] S F I := by
  unfold V_X8_form_86 at h
  obtain ⟨d, rfl⟩ : ∃ d9, d = d9 + 1 := ⟨d - 1, by omega⟩
  refine K_S C M [vi s0] [] mi_X8_requireState wg_354 wg_355 dX8_form_86 rfl rfl (by decide) (Nat.le_of_ble_eq_true rfl) (c_X8_requireState (C.2.2.2.2.2.2.2) (by omega) h) (fun v9 S' F' I' hq9 => ?_) (K_out C M) rfl
  clear h
  obtain ⟨rfl, rfl, rfl, rfl, h⟩ := hq9
  refine J_aload_n C dX8_form_89 rfl rfl ?_
  obtain ⟨hK1, h⟩ := h
  refine K_V C M [] [] mi_X8_leastFreeNumber wg_782 wg_784 wg_25 ⟨rfl, by decide⟩ dX8_form_90 hK1 rfl rfl (by decide) (Nat.le_of_ble_eq_true rfl) (c_X8_leastFreeNumber (C.2.2.2.2.2.2.2) (by omega) h) (fun v9 S' F' I' hq9 => ?_) K_no rfl
  clear h
  obtain ⟨z2, rfl, rfl, rfl, rfl, h⟩ := hq9
  refine K_istore C [vr (some x0), vi x1, vi x2, vr (some x3), vr (some x4), vi z2] dX8_form_93 (Nat.le_of_ble_eq_true rfl) rfl ?_
  refine J_iload C dX8_form_95 rfl ?_
  refine J_iconst C dX8_form_97 (rg_of (by decide)) ?_
  refine J_icmp_eq C dX8_form_98 (tgt := 105) rfl (fun c98 => ?_) (fun c98 => ?_)
  · have h := h.1 c98
    refine J_iconst C dX8_form_105 (rg_of (by decide)) ?_
    exact S_X8_form_106 C M (by omega)  h
  · have h := h.2 c98
    refine J_iconst C dX8_form_101 (rg_of (by decide)) ?_
    refine J_goto C dX8_form_102 (tgt := 106) rfl ?_
    exact S_X8_form_106 C M (by omega)  h
set_option maxRecDepth 20000 in
set_option maxHeartbeats 4000000 in
theorem S_X8_form_67 {G : Gp} {X : Xt} {d : Nat}  {x0 : Nat} {x1 : Int} {x2 : Int} {x3 : Nat} {x4 : Nat} {s0 : Int} {Q : Int → Fl → Il → Prop} {QX : String → Shp → Fl → Il → Prop} {S : Shp} {F : Fl} {I : Il} (C : CO G RX8 cX8_form 6 X) (M : MX d (some .int) "form" X) (hd : 11 ≤ d)  (h : V_X8_form_67 x0 x1 x2 x3 x4 s0 S F I Q QX) : J G X (QD X G (qI fun z S' F' I' => S = S' ∧ Q z F' I') QX) 67 [vr (some x0), vi x1, vi x2, vr (some x3), vr (some x4), vl 0] [vi s0] S F I := by
  unfold V_X8_form_67 at h
  obtain ⟨d, rfl⟩ : ∃ d9, d = d9 + 1 := ⟨d - 1, by omega⟩
  refine K_S C M [vi s0] [] mi_X8_requireState wg_354 wg_355 dX8_form_67 rfl rfl (by decide) (Nat.le_of_ble_eq_true rfl) (c_X8_requireState (C.2.2.2.2.2.2.2) (by omega) h) (fun v9 S' F' I' hq9 => ?_) (K_out C M) rfl
  clear h
  obtain ⟨rfl, rfl, rfl, rfl, h⟩ := hq9
  refine J_aload_n C dX8_form_70 rfl rfl ?_
  refine J_aload_n C dX8_form_71 rfl rfl ?_
  obtain ⟨hK1, h⟩ := h
  refine J_getI C fo_5_1 rfl fl_RX8_212 dX8_form_72 hK1 ?_
  obtain ⟨hK2, h⟩ := h
  refine K_V C M [vi (F 501 x3)] [] mi_X8_freeTracksAt wg_745 wg_747 wg_21 ⟨rfl, by decide⟩ dX8_form_75 hK2 rfl rfl (by decide) (Nat.le_of_ble_eq_true rfl) (c_X8_freeTracksAt (C.2.2.2.2.2.2.2) (by omega) h) (fun v9 S' F' I' hq9 => ?_) (K_out C M) rfl
  clear h
  obtain ⟨z3, rfl, rfl, rfl, rfl, h⟩ := hq9
  refine J_if_le C dX8_form_78 (tgt := 85) rfl (fun c78 => ?_) (fun c78 => ?_)
  · have h := h.1 c78
    refine J_iconst C dX8_form_85 (rg_of (by decide)) ?_
    exact S_X8_form_86 C M (by omega)  h
  · have h := h.2 c78
    refine J_iconst C dX8_form_81 (rg_of (by decide)) ?_
    refine J_goto C dX8_form_82 (tgt := 86) rfl ?_
    exact S_X8_form_86 C M (by omega)  h
set_option maxRecDepth 20000 in
set_option maxHeartbeats 4000000 in
theorem S_X8_form_66 {G : Gp} {X : Xt} {d : Nat}  {x0 : Nat} {x1 : Int} {x2 : Int} {x3 : Nat} {x4 : Nat} {Q : Int → Fl → Il → Prop} {QX : String → Shp → Fl → Il → Prop} {S : Shp} {F : Fl} {I : Il} (C : CO G RX8 cX8_form 6 X) (M : MX d (some .int) "form" X) (hd : 11 ≤ d)  (h : V_X8_form_66 x0 x1 x2 x3 x4 S F I Q QX) : J G X (QD X G (qI fun z S' F' I' => S = S' ∧ Q z F' I') QX) 66 [vr (some x0), vi x1, vi x2, vr (some x3), vr (some x4), vl 0] [] S F I := by
  unfold V_X8_form_66 at h
  refine J_iconst C dX8_form_66 (rg_of (by decide)) ?_
  exact S_X8_form_67 C M (by omega)  h
set_option maxRecDepth 20000 in
set_option maxHeartbeats 4000000 in
theorem S_X8_form_35 {G : Gp} {X : Xt} {d : Nat}  {x0 : Nat} {x1 : Int} {x2 : Int} {x3 : Nat} {x4 : Nat} {s0 : Int} {Q : Int → Fl → Il → Prop} {QX : String → Shp → Fl → Il → Prop} {S : Shp} {F : Fl} {I : Il} (C : CO G RX8 cX8_form 6 X) (M : MX d (some .int) "form" X) (hd : 11 ≤ d)  (h : V_X8_form_35 x0 x1 x2 x3 x4 s0 S F I Q QX) : J G X (QD X G (qI fun z S' F' I' => S = S' ∧ Q z F' I') QX) 35 [vr (some x0), vi x1, vi x2, vr (some x3), vr (some x4), vl 0] [vi s0] S F I := by
  unfold V_X8_form_35 at h
  obtain ⟨d, rfl⟩ : ∃ d9, d = d9 + 1 := ⟨d - 1, by omega⟩
  refine K_S C M [vi s0] [] mi_X8_requireState wg_354 wg_355 dX8_form_35 rfl rfl (by decide) (Nat.le_of_ble_eq_true rfl) (c_X8_requireState (C.2.2.2.2.2.2.2) (by omega) h) (fun v9 S' F' I' hq9 => ?_) (K_out C M) rfl
  clear h
  obtain ⟨rfl, rfl, rfl, rfl, h⟩ := hq9
  refine J_aload_n C dX8_form_38 rfl rfl ?_
  obtain ⟨hK1, h⟩ := h
  refine J_getI C fo_5_1 rfl fl_RX8_212 dX8_form_39 hK1 ?_
  refine J_aload C dX8_form_42 rfl ?_
  obtain ⟨hK2, h⟩ := h
  refine J_getI C fo_4_0 rfl fl_RX8_215 dX8_form_44 hK2 ?_
  refine J_icmp_ne C dX8_form_47 (tgt := 66) rfl (fun c47 => ?_) (fun c47 => ?_)
  · have h := h.1 c47
    exact S_X8_form_66 C M (by omega)  h
  · have h := h.2 c47
    refine J_aload C dX8_form_50 rfl ?_
    refine J_aload_n C dX8_form_52 rfl rfl ?_
    obtain ⟨hK3, h⟩ := h
    refine J_getI C fo_9_12 rfl fl_RX8_62 dX8_form_53 hK3 ?_
    refine K_V C M [vi (F 912 x0)] [] mi_X3_isRestingAt wg_737 wg_738 wg_739 ⟨rfl, by decide⟩ dX8_form_56 hK2 rfl rfl (by decide) (Nat.le_of_ble_eq_true rfl) (c_X3_isRestingAt (C.2.2.2.2.2.2.2) (by omega) h) (fun v9 S' F' I' hq9 => ?_) K_no rfl
    clear h
    obtain ⟨z4, rfl, rfl, rfl, rfl, h⟩ := hq9
    refine J_if_ne C dX8_form_59 (tgt := 66) rfl (fun c59 => ?_) (fun c59 => ?_)
    · have h := h.1 c59
      exact S_X8_form_66 C M (by omega)  h
    · have h := h.2 c59
      refine J_iconst C dX8_form_62 (rg_of (by decide)) ?_
      refine J_goto C dX8_form_63 (tgt := 67) rfl ?_
      exact S_X8_form_67 C M (by omega)  h
set_option maxRecDepth 20000 in
set_option maxHeartbeats 4000000 in
theorem S_X8_form_34 {G : Gp} {X : Xt} {d : Nat}  {x0 : Nat} {x1 : Int} {x2 : Int} {x3 : Nat} {x4 : Nat} {Q : Int → Fl → Il → Prop} {QX : String → Shp → Fl → Il → Prop} {S : Shp} {F : Fl} {I : Il} (C : CO G RX8 cX8_form 6 X) (M : MX d (some .int) "form" X) (hd : 11 ≤ d)  (h : V_X8_form_34 x0 x1 x2 x3 x4 S F I Q QX) : J G X (QD X G (qI fun z S' F' I' => S = S' ∧ Q z F' I') QX) 34 [vr (some x0), vi x1, vi x2, vr (some x3), vr (some x4), vl 0] [] S F I := by
  unfold V_X8_form_34 at h
  refine J_iconst C dX8_form_34 (rg_of (by decide)) ?_
  exact S_X8_form_35 C M (by omega)  h
set_option maxRecDepth 20000 in
set_option maxHeartbeats 4000000 in
theorem S_X8_form {G : Gp} {X : Xt} {d : Nat}  {x0 : Nat} {x1 : Int} {x2 : Int} {Q : Int → Fl → Il → Prop} {QX : String → Shp → Fl → Il → Prop} {S : Shp} {F : Fl} {I : Il} (C : CO G RX8 cX8_form 6 X) (M : MX d (some .int) "form" X) (hd : 11 ≤ d)  (h : V_X8_form x0 x1 x2 S F I Q QX) : J G X (QD X G (qI fun z S' F' I' => S = S' ∧ Q z F' I') QX) 0 [vr (some x0), vi x1, vi x2, vl 0, vl 0, vl 0] [] S F I := by
  unfold V_X8_form at h
  obtain ⟨d, rfl⟩ : ∃ d9, d = d9 + 1 := ⟨d - 1, by omega⟩
  refine J_aload_n C dX8_form_0 rfl rfl ?_
  refine J_iload_n C dX8_form_1 rfl rfl ?_
  obtain ⟨hK1, h⟩ := h
  refine K_V C M [vi x1] [] mi_X8_engineOf wg_778 wg_780 wg_24 ⟨rfl, by decide⟩ dX8_form_2 hK1 rfl rfl (by decide) (Nat.le_of_ble_eq_true rfl) (c_X8_engineOf (C.2.2.2.2.2.2.2) (by omega) h) (fun v9 S' F' I' hq9 => ?_) (K_out C M) rfl
  clear h
  obtain ⟨z2, rfl, rfl, rfl, rfl, h⟩ := hq9
  refine K_astore_n C [vr (some x0), vi x1, vi x2, vr (some z2), vl 0, vl 0] dX8_form_5 rfl (Nat.le_of_ble_eq_true rfl) rfl ?_
  refine J_aload_n C dX8_form_6 rfl rfl ?_
  refine J_iload_n C dX8_form_7 rfl rfl ?_
  refine K_V C M [vi x2] [] mi_X8_crewOf wg_576 wg_578 wg_6 ⟨rfl, by decide⟩ dX8_form_8 hK1 rfl rfl (by decide) (Nat.le_of_ble_eq_true rfl) (c_X8_crewOf (C.2.2.2.2.2.2.2) (by omega) h) (fun v9 S' F' I' hq9 => ?_) (K_out C M) rfl
  clear h
  obtain ⟨z3, rfl, rfl, rfl, rfl, h⟩ := hq9
  refine K_astore C [vr (some x0), vi x1, vi x2, vr (some z2), vr (some z3), vl 0] dX8_form_11 (Nat.le_of_ble_eq_true rfl) rfl ?_
  refine J_aload_n C dX8_form_13 rfl rfl ?_
  obtain ⟨hK4, h⟩ := h
  refine J_getI C fo_5_2 rfl fl_RX8_211 dX8_form_14 hK4 ?_
  refine J_iconst C dX8_form_17 (rg_of (by decide)) ?_
  refine J_icmp_ne C dX8_form_18 (tgt := 34) rfl (fun c18 => ?_) (fun c18 => ?_)
  · have h := h.1 c18
    exact S_X8_form_34 C M (by omega)  h
  · have h := h.2 c18
    refine J_aload C dX8_form_21 rfl ?_
    obtain ⟨hK5, h⟩ := h
    refine J_getI C fo_4_1 rfl fl_RX8_177 dX8_form_23 hK5 ?_
    refine J_iconst C dX8_form_26 (rg_of (by decide)) ?_
    refine J_icmp_ne C dX8_form_27 (tgt := 34) rfl (fun c27 => ?_) (fun c27 => ?_)
    · have h := h.1 c27
      exact S_X8_form_34 C M (by omega)  h
    · have h := h.2 c27
      refine J_iconst C dX8_form_30 (rg_of (by decide)) ?_
      refine J_goto C dX8_form_31 (tgt := 35) rfl ?_
      exact S_X8_form_35 C M (by omega)  h
theorem c_X8_form {l : Launch} {G : Gp} {d : Nat} {x0 : Nat} {x1 : Int} {x2 : Int} {S : Shp} {F : Fl} {I : Il} {Q : Int → Fl → Il → Prop} {QX : String → Shp → Fl → Il → Prop} (hl : l.stackTraces = false) (hd : 11 ≤ d) (h : V_X8_form x0 x1 x2 S F I Q QX) : CM l G d yX8_form (.code yX8_form cX8_form 6 (some .int)) [vr (some x0), vi x1, vi x2] S F I (qI fun z S' F' I' => S = S' ∧ Q z F' I') QX :=
  CM_ofM [vr (some x0), vi x1, vi x2, vl 0, vl 0, vl 0] hl (by decide +kernel) (kn1 trivial (kn1 trivial (kn1 trivial kn0))) (Nat.le_of_ble_eq_true rfl) rfl (fun X hX C M => S_X8_form C M hd h)
set_option maxRecDepth 20000 in
set_option maxHeartbeats 4000000 in
theorem S_X8_freeTracks {G : Gp} {X : Xt} {d : Nat}  {x0 : Nat} {x1 : Int} {Q : Int → Prop} {QX : String → Shp → Fl → Il → Prop} {S : Shp} {F : Fl} {I : Il} (C : CO G RX8 cX8_freeTracks 2 X) (M : MX d (some .int) "freeTracks" X) (hd : 11 ≤ d)  (h : V_X8_freeTracks x0 x1 S F I Q QX) : J G X (QD X G (qI fun z S' F' I' => S = S' ∧ F = F' ∧ I = I' ∧ Q z) QX) 0 [vr (some x0), vi x1] [] S F I := by
  unfold V_X8_freeTracks at h
  obtain ⟨d, rfl⟩ : ∃ d9, d = d9 + 1 := ⟨d - 1, by omega⟩
  refine J_aload_n C dX8_freeTracks_0 rfl rfl ?_
  refine J_iload_n C dX8_freeTracks_1 rfl rfl ?_
  obtain ⟨hK1, h⟩ := h
  refine K_V C M [vi x1] [] mi_X8_freeTracksAt wg_745 wg_747 wg_21 ⟨rfl, by decide⟩ dX8_freeTracks_2 hK1 rfl rfl (by decide) (Nat.le_of_ble_eq_true rfl) (c_X8_freeTracksAt (C.2.2.2.2.2.2.2) (by omega) h) (fun v9 S' F' I' hq9 => ?_) (K_out C M) rfl
  clear h
  obtain ⟨z2, rfl, rfl, rfl, rfl, h⟩ := hq9
  exact J_iret C dX8_freeTracks_5 M.2.2.1 ⟨_, rfl, rfl, rfl, rfl, h⟩
theorem c_X8_freeTracks {l : Launch} {G : Gp} {d : Nat} {x0 : Nat} {x1 : Int} {S : Shp} {F : Fl} {I : Il} {Q : Int → Prop} {QX : String → Shp → Fl → Il → Prop} (hl : l.stackTraces = false) (hd : 11 ≤ d) (h : V_X8_freeTracks x0 x1 S F I Q QX) : CM l G d yX8_freeTracks (.code yX8_freeTracks cX8_freeTracks 2 (some .int)) [vr (some x0), vi x1] S F I (qI fun z S' F' I' => S = S' ∧ F = F' ∧ I = I' ∧ Q z) QX :=
  CM_ofM [vr (some x0), vi x1] hl (by decide +kernel) (kn1 trivial (kn1 trivial kn0)) (Nat.le_of_ble_eq_true rfl) rfl (fun X hX C M => S_X8_freeTracks C M hd h)
set_option maxRecDepth 20000 in
set_option maxHeartbeats 4000000 in
theorem S_X8_holder {G : Gp} {X : Xt} {d : Nat}  {x0 : Nat} {x1 : Int} {Q : Int → Prop} {QX : String → Shp → Fl → Il → Prop} {S : Shp} {F : Fl} {I : Il} (C : CO G RX8 cX8_holder 2 X) (M : MX d (some .int) "holder" X) (hd : 10 ≤ d)  (h : V_X8_holder x0 x1 S F I Q QX) : J G X (QD X G (qI fun z S' F' I' => S = S' ∧ F = F' ∧ I = I' ∧ Q z) QX) 0 [vr (some x0), vi x1] [] S F I := by
  unfold V_X8_holder at h
  obtain ⟨d, rfl⟩ : ∃ d9, d = d9 + 1 := ⟨d - 1, by omega⟩
  refine J_aload_n C dX8_holder_0 rfl rfl ?_
  refine J_iload_n C dX8_holder_1 rfl rfl ?_
  obtain ⟨hK1, h⟩ := h
  refine K_V C M [vi x1] [] mi_X8_blockOf wg_492 wg_494 wg_5 ⟨rfl, by decide⟩ dX8_holder_2 hK1 rfl rfl (by decide) (Nat.le_of_ble_eq_true rfl) (c_X8_blockOf (C.2.2.2.2.2.2.2) (by omega) h) (fun v9 S' F' I' hq9 => ?_) (K_out C M) rfl
  clear h
  obtain ⟨z2, rfl, rfl, rfl, rfl, h⟩ := hq9
  refine J_aload_n C dX8_holder_5 rfl rfl ?_
  refine J_getI C fo_9_12 rfl fl_RX8_62 dX8_holder_6 hK1 ?_
  obtain ⟨hK3, h⟩ := h
  refine K_V C M [vi (F 912 x0)] [] mi_X1_holderAt wg_718 wg_719 wg_720 ⟨rfl, by decide⟩ dX8_holder_9 hK3 rfl rfl (by decide) (Nat.le_of_ble_eq_true rfl) (c_X1_holderAt (C.2.2.2.2.2.2.2) (by omega) h) (fun v9 S' F' I' hq9 => ?_) K_no rfl
  clear h
  obtain ⟨z4, rfl, rfl, rfl, rfl, h⟩ := hq9
  exact J_iret C dX8_holder_12 M.2.2.1 ⟨_, rfl, rfl, rfl, rfl, h⟩
theorem c_X8_holder {l : Launch} {G : Gp} {d : Nat} {x0 : Nat} {x1 : Int} {S : Shp} {F : Fl} {I : Il} {Q : Int → Prop} {QX : String → Shp → Fl → Il → Prop} (hl : l.stackTraces = false) (hd : 10 ≤ d) (h : V_X8_holder x0 x1 S F I Q QX) : CM l G d yX8_holder (.code yX8_holder cX8_holder 2 (some .int)) [vr (some x0), vi x1] S F I (qI fun z S' F' I' => S = S' ∧ F = F' ∧ I = I' ∧ Q z) QX :=
  CM_ofM [vr (some x0), vi x1] hl (by decide +kernel) (kn1 trivial (kn1 trivial kn0)) (Nat.le_of_ble_eq_true rfl) rfl (fun X hX C M => S_X8_holder C M hd h)
set_option maxRecDepth 20000 in
set_option maxHeartbeats 4000000 in
theorem S_X8_requireBlock {G : Gp} {X : Xt} {d : Nat}  {x0 : Nat} {x1 : Int} {Q : Prop} {QX : String → Shp → Fl → Il → Prop} {S : Shp} {F : Fl} {I : Il} (C : CO G RX8 cX8_requireBlock 2 X) (M : MX d none "requireBlock" X) (hd : 9 ≤ d)  (h : V_X8_requireBlock x0 x1 S F I Q QX) : J G X (QD X G (qV fun S' F' I' => S = S' ∧ F = F' ∧ I = I' ∧ Q) QX) 0 [vr (some x0), vi x1] [] S F I := by
  unfold V_X8_requireBlock at h
  obtain ⟨d, rfl⟩ : ∃ d9, d = d9 + 1 := ⟨d - 1, by omega⟩
  refine J_iload_n C dX8_requireBlock_0 rfl rfl ?_
  refine J_aload_n C dX8_requireBlock_1 rfl rfl ?_
  obtain ⟨hK1, h⟩ := h
  obtain ⟨r2, hr3, h⟩ := h
  refine J_getR C fo_9_1 rfl fl_RX8_18 dX8_requireBlock_2 hK1 hr3 ?_
  obtain ⟨hK4, h⟩ := h
  refine K_V C M [] [vi x1] mi_Jx4a65c_size_8abf5 wg_350 wg_351 wg_352 ⟨rfl, by decide⟩ dX8_requireBlock_5 hK4 rfl rfl (by decide) (Nat.le_of_ble_eq_true rfl) (c_Jx4a65c_size_8abf5 (C.2.2.2.2.2.2.2) (by omega) h) (fun v9 S' F' I' hq9 => ?_) K_no rfl
  clear h
  obtain ⟨z5, rfl, rfl, rfl, rfl, h⟩ := hq9
  refine K_S C M [vi x1, vi z5] [] mi_X8_requireIndex wg_257 wg_258 dX8_requireBlock_8 rfl rfl (by decide) (Nat.le_of_ble_eq_true rfl) (c_X8_requireIndex (C.2.2.2.2.2.2.2) (by omega) h) (fun v9 S' F' I' hq9 => ?_) (K_out C M) rfl
  clear h
  obtain ⟨rfl, rfl, rfl, rfl, h⟩ := hq9
  exact J_vret C dX8_requireBlock_11 M.2.2.1 ⟨rfl, rfl, rfl, rfl, h⟩
theorem c_X8_requireBlock {l : Launch} {G : Gp} {d : Nat} {x0 : Nat} {x1 : Int} {S : Shp} {F : Fl} {I : Il} {Q : Prop} {QX : String → Shp → Fl → Il → Prop} (hl : l.stackTraces = false) (hd : 9 ≤ d) (h : V_X8_requireBlock x0 x1 S F I Q QX) : CM l G d yX8_requireBlock (.code yX8_requireBlock cX8_requireBlock 2 none) [vr (some x0), vi x1] S F I (qV fun S' F' I' => S = S' ∧ F = F' ∧ I = I' ∧ Q) QX :=
  CM_ofM [vr (some x0), vi x1] hl (by decide +kernel) (kn1 trivial (kn1 trivial kn0)) (Nat.le_of_ble_eq_true rfl) rfl (fun X hX C M => S_X8_requireBlock C M hd h)
set_option maxRecDepth 20000 in
set_option maxHeartbeats 4000000 in
theorem S_X8_holderByTrains_7 {G : Gp} {X : Xt} {d : Nat}  {S : Shp} {F : Fl} {I : Il} {Q : Int → Prop} {QX : String → Shp → Fl → Il → Prop} (C : CO G RX8 cX8_holderByTrains 3 X) (M : MX d (some .int) "holderByTrains" X) (hd : 10 ≤ d) (n9 : Nat)  : ∀ (x0 : Nat) (x1 : Int) (x2 : Int) , V_X8_holderByTrains_7 n9 x0 x1 x2 S F I Q QX → J G X (QD X G (qI fun z S' F' I' => S = S' ∧ F = F' ∧ I = I' ∧ Q z) QX) 7 [vr (some x0), vi x1, vi x2] [] S F I := by
  obtain ⟨d, rfl⟩ : ∃ d9, d = d9 + 1 := ⟨d - 1, by omega⟩
  induction n9 with
  | zero => intro x0 x1 x2 h; exact h.elim
  | succ n ih =>
    intro x0 x1 x2 h
    unfold V_X8_holderByTrains_7 at h
    refine J_iload_n C dX8_holderByTrains_7 rfl rfl ?_
    refine J_aload_n C dX8_holderByTrains_8 rfl rfl ?_
    obtain ⟨hK1, h⟩ := h
    obtain ⟨r2, hr3, h⟩ := h
    refine J_getR C fo_9_6 rfl fl_RX8_36 dX8_holderByTrains_9 hK1 hr3 ?_
    obtain ⟨hK4, h⟩ := h
    obtain ⟨hn5, h⟩ := h
    refine J_alen C dX8_holderByTrains_12 hK4 (by decide) (by decide) (rg_len hn5) ?_
    refine J_icmp_ge C dX8_holderByTrains_13 (tgt := 41) rfl (fun c13 => ?_) (fun c13 => ?_)
    · have h := h.1 c13
      refine J_iconst C dX8_holderByTrains_41 (rg_of (by decide)) ?_
      exact J_iret C dX8_holderByTrains_42 M.2.2.1 ⟨_, rfl, rfl, rfl, rfl, h⟩
    · have h := h.2 c13
      refine J_aload_n C dX8_holderByTrains_16 rfl rfl ?_
      refine J_getR C fo_9_6 rfl fl_RX8_36 dX8_holderByTrains_17 hK1 hr3 ?_
      refine J_iload_n C dX8_holderByTrains_20 rfl rfl ?_
      obtain ⟨h06, hn7, r8, hr9, h⟩ := h
      refine J_aald C dX8_holderByTrains_21 hK4 (by decide) (by decide) h06 hn7 hr9 ?_
      refine J_iload_n C dX8_holderByTrains_22 rfl rfl ?_
      refine J_aload_n C dX8_holderByTrains_23 rfl rfl ?_
      refine J_getI C fo_9_12 rfl fl_RX8_62 dX8_holderByTrains_24 hK1 ?_
      obtain ⟨hK10, h⟩ := h
      refine K_V C M [vi x1, vi (F 912 x0)] [] mi_X7_holds wg_877 wg_878 wg_879 ⟨rfl, by decide⟩ dX8_holderByTrains_27 hK10 rfl rfl (by decide) (Nat.le_of_ble_eq_true rfl) (c_X7_holds (C.2.2.2.2.2.2.2) (by omega) h) (fun v9 S' F' I' hq9 => ?_) K_no rfl
      clear h
      obtain ⟨z11, rfl, rfl, rfl, rfl, h⟩ := hq9
      refine J_if_eq C dX8_holderByTrains_30 (tgt := 35) rfl (fun c30 => ?_) (fun c30 => ?_)
      · have h := h.1 c30
        refine K_iinc C [vr (some x0), vi x1, vi (w32 (x2 + 1))] dX8_holderByTrains_35 rfl rfl ?_
        refine J_goto C dX8_holderByTrains_38 (tgt := 7) rfl ?_
        exact ih _ _ _ h
      · have h := h.2 c30
        refine J_iload_n C dX8_holderByTrains_33 rfl rfl ?_
        exact J_iret C dX8_holderByTrains_34 M.2.2.1 ⟨_, rfl, rfl, rfl, rfl, h⟩
set_option maxRecDepth 20000 in
set_option maxHeartbeats 4000000 in
theorem S_X8_holderByTrains {G : Gp} {X : Xt} {d : Nat}  {x0 : Nat} {x1 : Int} {Q : Int → Prop} {QX : String → Shp → Fl → Il → Prop} {S : Shp} {F : Fl} {I : Il} (C : CO G RX8 cX8_holderByTrains 3 X) (M : MX d (some .int) "holderByTrains" X) (hd : 10 ≤ d)  (h : V_X8_holderByTrains x0 x1 S F I Q QX) : J G X (QD X G (qI fun z S' F' I' => S = S' ∧ F = F' ∧ I = I' ∧ Q z) QX) 0 [vr (some x0), vi x1, vl 0] [] S F I := by
  unfold V_X8_holderByTrains at h
  obtain ⟨d, rfl⟩ : ∃ d9, d = d9 + 1 := ⟨d - 1, by omega⟩
  refine J_aload_n C dX8_holderByTrains_0 rfl rfl ?_
  refine J_iload_n C dX8_holderByTrains_1 rfl rfl ?_
  obtain ⟨hK1, h⟩ := h
  refine K_V C M [vi x1] [] mi_X8_requireBlock wg_580 wg_582 wg_7 ⟨rfl, by decide⟩ dX8_holderByTrains_2 hK1 rfl rfl (by decide) (Nat.le_of_ble_eq_true rfl) (c_X8_requireBlock (C.2.2.2.2.2.2.2) (by omega) h) (fun v9 S' F' I' hq9 => ?_) (K_out C M) rfl
  clear h
  obtain ⟨rfl, rfl, rfl, rfl, h⟩ := hq9
  refine J_iconst C dX8_holderByTrains_5 (rg_of (by decide)) ?_
  refine K_istore_n C [vr (some x0), vi x1, vi 0] dX8_holderByTrains_6 rfl (Nat.le_of_ble_eq_true rfl) rfl ?_
  obtain ⟨n9, h⟩ := h
  exact S_X8_holderByTrains_7 C M (by omega) n9  _ _ _ h
theorem c_X8_holderByTrains {l : Launch} {G : Gp} {d : Nat} {x0 : Nat} {x1 : Int} {S : Shp} {F : Fl} {I : Il} {Q : Int → Prop} {QX : String → Shp → Fl → Il → Prop} (hl : l.stackTraces = false) (hd : 10 ≤ d) (h : V_X8_holderByTrains x0 x1 S F I Q QX) : CM l G d yX8_holderByTrains (.code yX8_holderByTrains cX8_holderByTrains 3 (some .int)) [vr (some x0), vi x1] S F I (qI fun z S' F' I' => S = S' ∧ F = F' ∧ I = I' ∧ Q z) QX :=
  CM_ofM [vr (some x0), vi x1, vl 0] hl (by decide +kernel) (kn1 trivial (kn1 trivial kn0)) (Nat.le_of_ble_eq_true rfl) rfl (fun X hX C M => S_X8_holderByTrains C M hd h)
set_option maxRecDepth 20000 in
set_option maxHeartbeats 4000000 in
theorem S_X8_hours {G : Gp} {X : Xt} {d : Nat}  {x0 : Nat} {x1 : Int} {x2 : Int} {x3 : Int} {Q : Fl → Prop} {QX : String → Shp → Fl → Il → Prop} {S : Shp} {F : Fl} {I : Il} (C : CO G RX8 cX8_hours 5 X) (M : MX d none "hours" X) (hd : 10 ≤ d)  (h : V_X8_hours x0 x1 x2 x3 S F I Q QX) : J G X (QD X G (qV fun S' F' I' => S = S' ∧ I = I' ∧ Q F') QX) 0 [vr (some x0), vi x1, vi x2, vi x3, vl 0] [] S F I := by
  unfold V_X8_hours at h
  obtain ⟨d, rfl⟩ : ∃ d9, d = d9 + 1 := ⟨d - 1, by omega⟩
  refine J_aload_n C dX8_hours_0 rfl rfl ?_
  refine J_iload_n C dX8_hours_1 rfl rfl ?_
  obtain ⟨hK1, h⟩ := h
  refine K_V C M [vi x1] [] mi_X8_blockOf wg_492 wg_494 wg_5 ⟨rfl, by decide⟩ dX8_hours_2 hK1 rfl rfl (by decide) (Nat.le_of_ble_eq_true rfl) (c_X8_blockOf (C.2.2.2.2.2.2.2) (by omega) h) (fun v9 S' F' I' hq9 => ?_) (K_out C M) rfl
  clear h
  obtain ⟨z2, rfl, rfl, rfl, rfl, h⟩ := hq9
  refine K_astore C [vr (some x0), vi x1, vi x2, vi x3, vr (some z2)] dX8_hours_5 (Nat.le_of_ble_eq_true rfl) rfl ?_
  refine J_iload_n C dX8_hours_7 rfl rfl ?_
  refine J_iconst C dX8_hours_8 (rg_of (by decide)) ?_
  refine J_sipush C dX8_hours_9 (by decide +kernel) (rg_of (by decide)) ?_
  refine K_S C M [vi x2, vi 0, vi 1440] [] mi_X8_requireRange wg_347 wg_348 dX8_hours_12 rfl rfl (by decide) (Nat.le_of_ble_eq_true rfl) (c_X8_requireRange (C.2.2.2.2.2.2.2) (by omega) h) (fun v9 S' F' I' hq9 => ?_) (K_out C M) rfl
  clear h
  obtain ⟨rfl, rfl, rfl, rfl, h⟩ := hq9
  refine J_iload_n C dX8_hours_15 rfl rfl ?_
  refine J_iload_n C dX8_hours_16 rfl rfl ?_
  refine J_sipush C dX8_hours_17 (by decide +kernel) (rg_of (by decide)) ?_
  refine K_S C M [vi x3, vi x2, vi 1440] [] mi_X8_requireRange wg_347 wg_348 dX8_hours_20 rfl rfl (by decide) (Nat.le_of_ble_eq_true rfl) (c_X8_requireRange (C.2.2.2.2.2.2.2) (by omega) h) (fun v9 S' F' I' hq9 => ?_) (K_out C M) rfl
  clear h
  obtain ⟨rfl, rfl, rfl, rfl, h⟩ := hq9
  refine J_aload C dX8_hours_23 rfl ?_
  refine J_iload_n C dX8_hours_25 rfl rfl ?_
  obtain ⟨hK3, h⟩ := h
  refine J_putI C fo_2_7 fp_2 fl_RX8_132 (Or.inl rfl) (Or.inl rfl) dX8_hours_26 hK3 ?_
  refine J_aload C dX8_hours_29 rfl ?_
  refine J_iload_n C dX8_hours_31 rfl rfl ?_
  refine J_putI C fo_2_8 fp_2 fl_RX8_135 (Or.inl rfl) (Or.inl rfl) dX8_hours_32 hK3 ?_
  exact J_vret C dX8_hours_35 M.2.2.1 ⟨rfl, rfl, rfl, h⟩
theorem c_X8_hours {l : Launch} {G : Gp} {d : Nat} {x0 : Nat} {x1 : Int} {x2 : Int} {x3 : Int} {S : Shp} {F : Fl} {I : Il} {Q : Fl → Prop} {QX : String → Shp → Fl → Il → Prop} (hl : l.stackTraces = false) (hd : 10 ≤ d) (h : V_X8_hours x0 x1 x2 x3 S F I Q QX) : CM l G d yX8_hours (.code yX8_hours cX8_hours 5 none) [vr (some x0), vi x1, vi x2, vi x3] S F I (qV fun S' F' I' => S = S' ∧ I = I' ∧ Q F') QX :=
  CM_ofM [vr (some x0), vi x1, vi x2, vi x3, vl 0] hl (by decide +kernel) (kn1 trivial (kn1 trivial (kn1 trivial (kn1 trivial kn0)))) (Nat.le_of_ble_eq_true rfl) rfl (fun X hX C M => S_X8_hours C M hd h)
set_option maxRecDepth 20000 in
set_option maxHeartbeats 4000000 in
theorem S_X8_init_181 {G : Gp} {X : Xt} {d : Nat}   {Q : Shp → Fl → Il → Prop} (C : CO G RX8 cX8_init 2 X) (M : MX d none "<init>" X) (hd : 5 ≤ d) (n9 : Nat)  : ∀ (x0 : Nat) (x1 : Int) (S : Shp) (F : Fl) (I : Il), V_X8_init_181 G n9 x0 x1 S F I Q → J G X (QD X G (qV fun S' F' I' => Q S' F' I') noX) 181 [vr (some x0), vi x1] [] S F I := by
  obtain ⟨d, rfl⟩ : ∃ d9, d = d9 + 1 := ⟨d - 1, by omega⟩
  induction n9 with
  | zero => intro x0 x1 S F I h; exact h.elim
  | succ n ih =>
    intro x0 x1 S F I h
    unfold V_X8_init_181 at h
    refine J_iload_n C dX8_init_181 rfl rfl ?_
    refine J_aload_n C dX8_init_182 rfl rfl ?_
    obtain ⟨hK1, h⟩ := h
    obtain ⟨r2, hr3, h⟩ := h
    refine J_getR C fo_9_6 rfl fl_RX8_36 dX8_init_183 hK1 hr3 ?_
    obtain ⟨hK4, h⟩ := h
    obtain ⟨hn5, h⟩ := h
    refine J_alen C dX8_init_186 hK4 (by decide) (by decide) (rg_len hn5) ?_
    refine J_icmp_ge C dX8_init_187 (tgt := 210) rfl (fun c187 => ?_) (fun c187 => ?_)
    · have h := h.1 c187
      refine J_aload_n C dX8_init_210 rfl rfl ?_
      obtain ⟨r6, hr7, h⟩ := h
      refine J_getR C fo_9_7 rfl fl_RX8_40 dX8_init_211 hK1 hr7 ?_
      refine J_bipush C dX8_init_214 (by decide +kernel) (rg_of (by decide)) ?_
      refine K_S C M [vr (some r6), vi 20] [] mi_J7_fill_53178 wg_197 wg_198 dX8_init_216 rfl rfl (by decide) (Nat.le_of_ble_eq_true rfl) (c_J7_fill_53178 (C.2.2.2.2.2.2.2) (by omega) h) (fun v9 S' F' I8 hq9 => ?_) K_no rfl
      clear h
      obtain ⟨rfl, rfl, rfl, h⟩ := hq9
      refine J_aload_n C dX8_init_219 rfl rfl ?_
      obtain ⟨r9, hr10, h⟩ := h
      refine J_getR C fo_9_8 rfl fl_RX8_44 dX8_init_220 hK1 hr10 ?_
      refine J_bipush C dX8_init_223 (by decide +kernel) (rg_of (by decide)) ?_
      refine K_S C M [vr (some r9), vi 20] [] mi_J7_fill_53178 wg_197 wg_198 dX8_init_225 rfl rfl (by decide) (Nat.le_of_ble_eq_true rfl) (c_J7_fill_53178 (C.2.2.2.2.2.2.2) (by omega) h) (fun v9 S' F' I11 hq9 => ?_) K_no rfl
      clear h
      obtain ⟨rfl, rfl, rfl, h⟩ := hq9
      exact J_vret C dX8_init_228 M.2.2.1 ⟨rfl, h⟩
    · have h := h.2 c187
      refine J_aload_n C dX8_init_190 rfl rfl ?_
      refine J_getR C fo_9_6 rfl fl_RX8_36 dX8_init_191 hK1 hr3 ?_
      refine J_iload_n C dX8_init_194 rfl rfl ?_
      obtain ⟨ha14, hb15, h⟩ := h
      refine J_new C fn_8 fp_8.1 fd_8 wg_89 wg_123 wg_35 dX8_init_195 ha14 hb15 (fun q12 hq13 => ?_)
      have h := h q12 hq13
      refine J_dup C dX8_init_198 trivial ?_
      refine J_iload_n C dX8_init_199 rfl rfl ?_
      refine K_I C M [vi x1] [vr (some q12), vi x1, vr (some r2)] mi_X7_init rfl wg_124 wg_125 dX8_init_200 rfl rfl (by decide) (Nat.le_of_ble_eq_true rfl) (c_X7_init (C.2.2.2.2.2.2.2) (by omega) h) (fun v9 S16 F17 I18 hq9 => ?_) K_no rfl
      clear h
      obtain ⟨rfl, h⟩ := hq9
      obtain ⟨hK19, h⟩ := h
      obtain ⟨hK22, h⟩ := h
      obtain ⟨h020, hn21, h⟩ := h
      refine J_aast C dX8_init_203 hK19 (by decide) (by decide) rfl hK22 fn_8.1 (by decide) (Or.inl rfl) h020 hn21 ?_
      refine K_iinc C [vr (some x0), vi (w32 (x1 + 1))] dX8_init_204 rfl rfl ?_
      refine J_goto C dX8_init_207 (tgt := 181) rfl ?_
      exact ih _ _ _ _ _ h
set_option maxRecDepth 20000 in
set_option maxHeartbeats 4000000 in
theorem S_X8_init_151 {G : Gp} {X : Xt} {d : Nat}   {Q : Shp → Fl → Il → Prop} (C : CO G RX8 cX8_init 2 X) (M : MX d none "<init>" X) (hd : 5 ≤ d) (n9 : Nat)  : ∀ (x0 : Nat) (x1 : Int) (S : Shp) (F : Fl) (I : Il), V_X8_init_151 G n9 x0 x1 S F I Q → J G X (QD X G (qV fun S' F' I' => Q S' F' I') noX) 151 [vr (some x0), vi x1] [] S F I := by
  obtain ⟨d, rfl⟩ : ∃ d9, d = d9 + 1 := ⟨d - 1, by omega⟩
  induction n9 with
  | zero => intro x0 x1 S F I h; exact h.elim
  | succ n ih =>
    intro x0 x1 S F I h
    unfold V_X8_init_151 at h
    refine J_iload_n C dX8_init_151 rfl rfl ?_
    refine J_aload_n C dX8_init_152 rfl rfl ?_
    obtain ⟨hK1, h⟩ := h
    obtain ⟨r2, hr3, h⟩ := h
    refine J_getR C fo_9_0 rfl fl_RX8_11 dX8_init_153 hK1 hr3 ?_
    obtain ⟨hK4, h⟩ := h
    obtain ⟨hn5, h⟩ := h
    refine J_alen C dX8_init_156 hK4 (by decide) (by decide) (rg_len hn5) ?_
    refine J_icmp_ge C dX8_init_157 (tgt := 179) rfl (fun c157 => ?_) (fun c157 => ?_)
    · have h := h.1 c157
      refine J_iconst C dX8_init_179 (rg_of (by decide)) ?_
      refine K_istore_n C [vr (some x0), vi 0] dX8_init_180 rfl (Nat.le_of_ble_eq_true rfl) rfl ?_
      obtain ⟨n9, h⟩ := h
      exact S_X8_init_181 C M (by omega) n9  _ _ _ _ _ h
    · have h := h.2 c157
      refine J_aload_n C dX8_init_160 rfl rfl ?_
      refine J_getR C fo_9_0 rfl fl_RX8_11 dX8_init_161 hK1 hr3 ?_
      refine J_iload_n C dX8_init_164 rfl rfl ?_
      obtain ⟨ha8, hb9, h⟩ := h
      refine J_new C fn_7 fp_7.1 fd_7 wg_61 wg_107 wg_34 dX8_init_165 ha8 hb9 (fun q6 hq7 => ?_)
      have h := h q6 hq7
      refine J_dup C dX8_init_168 trivial ?_
      refine K_IN C M [] [vr (some q6), vi x1, vr (some r2)] mi_X6_init rfl wt_108 wg_109 dX8_init_169 rfl rfl (by decide) (Nat.le_of_ble_eq_true rfl) (c_X6_init (C.2.2.2.2.2.2.2) (by omega) h) (fun v9 S10 F11 I12 hq9 => ?_) K_no rfl
      clear h
      obtain ⟨rfl, h⟩ := hq9
      obtain ⟨hK13, h⟩ := h
      obtain ⟨hK16, h⟩ := h
      obtain ⟨h014, hn15, h⟩ := h
      refine J_aast C dX8_init_172 hK13 (by decide) (by decide) rfl hK16 fn_7.1 (by decide) (Or.inl rfl) h014 hn15 ?_
      refine K_iinc C [vr (some x0), vi (w32 (x1 + 1))] dX8_init_173 rfl rfl ?_
      refine J_goto C dX8_init_176 (tgt := 151) rfl ?_
      exact ih _ _ _ _ _ h
set_option maxRecDepth 20000 in
set_option maxHeartbeats 4000000 in
theorem S_X8_init_149 {G : Gp} {X : Xt} {d : Nat}  {x0 : Nat} {Q : Shp → Fl → Il → Prop} {S : Shp} {F : Fl} {I : Il} (C : CO G RX8 cX8_init 2 X) (M : MX d none "<init>" X) (hd : 5 ≤ d)  (h : V_X8_init_149 G x0 S F I Q) : J G X (QD X G (qV fun S' F' I' => Q S' F' I') noX) 149 [vr (some x0), vl 0] [] S F I := by
  unfold V_X8_init_149 at h
  refine J_iconst C dX8_init_149 (rg_of (by decide)) ?_
  refine K_istore_n C [vr (some x0), vi 0] dX8_init_150 rfl (Nat.le_of_ble_eq_true rfl) rfl ?_
  obtain ⟨n9, h⟩ := h
  exact S_X8_init_151 C M (by omega) n9  _ _ _ _ _ h
set_option maxRecDepth 20000 in
set_option maxHeartbeats 4000000 in
theorem S_X8_init_144 {G : Gp} {X : Xt} {d : Nat}  {x0 : Nat} {Q : Shp → Fl → Il → Prop} {S : Shp} {F : Fl} {I : Il} (C : CO G RX8 cX8_init 2 X) (M : MX d none "<init>" X) (hd : 5 ≤ d)  (h : V_X8_init_144 G x0 S F I Q) : J G X (QD X G (qV fun S' F' I' => Q S' F' I') noX) 144 [vr (some x0), vl 0] [] S F I := by
  unfold V_X8_init_144 at h
  refine J_aload_n C dX8_init_144 rfl rfl ?_
  refine J_iconst C dX8_init_145 (rg_of (by decide)) ?_
  obtain ⟨hK1, h⟩ := h
  refine J_putI C fo_9_15 fp_9 fl_RX8_72 (Or.inl rfl) (Or.inl rfl) dX8_init_146 hK1 ?_
  exact S_X8_init_149 C M (by omega)  h
set_option maxRecDepth 20000 in
set_option maxHeartbeats 4000000 in
theorem S_X8_init_139 {G : Gp} {X : Xt} {d : Nat}  {x0 : Nat} {Q : Shp → Fl → Il → Prop} {S : Shp} {F : Fl} {I : Il} (C : CO G RX8 cX8_init 2 X) (M : MX d none "<init>" X) (hd : 5 ≤ d)  (h : V_X8_init_139 G x0 S F I Q) : J G X (QD X G (qV fun S' F' I' => Q S' F' I') noX) 139 [vr (some x0), vl 0] [] S F I := by
  unfold V_X8_init_139 at h
  refine J_aload_n C dX8_init_139 rfl rfl ?_
  refine J_iconst C dX8_init_140 (rg_of (by decide)) ?_
  obtain ⟨hK1, h⟩ := h
  refine J_putI C fo_9_14 fp_9 fl_RX8_69 (Or.inl rfl) (Or.inl rfl) dX8_init_141 hK1 ?_
  exact S_X8_init_144 C M (by omega)  h
set_option maxRecDepth 20000 in
set_option maxHeartbeats 4000000 in
theorem S_X8_init_132 {G : Gp} {X : Xt} {d : Nat}  {x0 : Nat} {Q : Shp → Fl → Il → Prop} {S : Shp} {F : Fl} {I : Il} (C : CO G RX8 cX8_init 2 X) (M : MX d none "<init>" X) (hd : 5 ≤ d)  (h : V_X8_init_132 G x0 S F I Q) : J G X (QD X G (qV fun S' F' I' => Q S' F' I') noX) 132 [vr (some x0), vl 0] [] S F I := by
  unfold V_X8_init_132 at h
  refine J_aload_n C dX8_init_132 rfl rfl ?_
  refine J_sipush C dX8_init_133 (by decide +kernel) (rg_of (by decide)) ?_
  obtain ⟨hK1, h⟩ := h
  refine J_putI C fo_9_13 fp_9 fl_RX8_66 (Or.inl rfl) (Or.inl rfl) dX8_init_136 hK1 ?_
  exact S_X8_init_139 C M (by omega)  h
set_option maxRecDepth 20000 in
set_option maxHeartbeats 4000000 in
theorem S_X8_init_127 {G : Gp} {X : Xt} {d : Nat}  {x0 : Nat} {Q : Shp → Fl → Il → Prop} {S : Shp} {F : Fl} {I : Il} (C : CO G RX8 cX8_init 2 X) (M : MX d none "<init>" X) (hd : 5 ≤ d)  (h : V_X8_init_127 G x0 S F I Q) : J G X (QD X G (qV fun S' F' I' => Q S' F' I') noX) 127 [vr (some x0), vl 0] [] S F I := by
  unfold V_X8_init_127 at h
  refine J_aload_n C dX8_init_127 rfl rfl ?_
  refine J_iconst C dX8_init_128 (rg_of (by decide)) ?_
  obtain ⟨hK1, h⟩ := h
  refine J_putI C fo_9_12 fp_9 fl_RX8_62 (Or.inl rfl) (Or.inl rfl) dX8_init_129 hK1 ?_
  exact S_X8_init_132 C M (by omega)  h
set_option maxRecDepth 20000 in
set_option maxHeartbeats 4000000 in
theorem S_X8_init_119 {G : Gp} {X : Xt} {d : Nat}  {x0 : Nat} {Q : Shp → Fl → Il → Prop} {S : Shp} {F : Fl} {I : Il} (C : CO G RX8 cX8_init 2 X) (M : MX d none "<init>" X) (hd : 5 ≤ d)  (h : V_X8_init_119 G x0 S F I Q) : J G X (QD X G (qV fun S' F' I' => Q S' F' I') noX) 119 [vr (some x0), vl 0] [] S F I := by
  unfold V_X8_init_119 at h
  refine J_aload_n C dX8_init_119 rfl rfl ?_
  refine J_bipush C dX8_init_120 (by decide +kernel) (rg_of (by decide)) ?_
  obtain ⟨ha3, hb4, h⟩ := h
  refine J_newI C (n := 8) rfl wg_106 dX8_init_122 (by decide) ha3 hb4 (fun q1 hq2 => ?_)
  have h := h q1 hq2
  obtain ⟨hK5, h⟩ := h
  refine J_putR C fo_9_11 fp_9 rfl wg_211 rfl (Or.inr ⟨M.2.2.2.1, rfl⟩) dX8_init_124 hK5 ?_
  exact S_X8_init_127 C M (by omega)  h
set_option maxRecDepth 20000 in
set_option maxHeartbeats 4000000 in
theorem S_X8_init_106 {G : Gp} {X : Xt} {d : Nat}  {x0 : Nat} {Q : Shp → Fl → Il → Prop} {S : Shp} {F : Fl} {I : Il} (C : CO G RX8 cX8_init 2 X) (M : MX d none "<init>" X) (hd : 5 ≤ d)  (h : V_X8_init_106 G x0 S F I Q) : J G X (QD X G (qV fun S' F' I' => Q S' F' I') noX) 106 [vr (some x0), vl 0] [] S F I := by
  unfold V_X8_init_106 at h
  obtain ⟨d, rfl⟩ : ∃ d9, d = d9 + 1 := ⟨d - 1, by omega⟩
  refine J_aload_n C dX8_init_106 rfl rfl ?_
  obtain ⟨ha3, hb4, h⟩ := h
  refine J_new C fn_6 fp_6.1 fd_6 wg_91 wg_92 wg_33 dX8_init_107 ha3 hb4 (fun q1 hq2 => ?_)
  have h := h q1 hq2
  refine J_dup C dX8_init_110 trivial ?_
  refine J_bipush C dX8_init_111 (by decide +kernel) (rg_of (by decide)) ?_
  refine K_I C M [vi 20] [vr (some q1), vr (some x0)] mi_X5_init rfl wg_93 wg_94 dX8_init_113 rfl rfl (by decide) (Nat.le_of_ble_eq_true rfl) (c_X5_init (C.2.2.2.2.2.2.2) (by omega) h) (fun v9 S5 F6 I7 hq9 => ?_) K_no rfl
  clear h
  obtain ⟨rfl, h⟩ := hq9
  obtain ⟨hK8, h⟩ := h
  refine J_putR C fo_9_10 fp_9 rfl wg_210 rfl (Or.inr ⟨M.2.2.2.1, rfl⟩) dX8_init_116 hK8 ?_
  exact S_X8_init_119 C M (by omega)  h
set_option maxRecDepth 20000 in
set_option maxHeartbeats 4000000 in
theorem S_X8_init_93 {G : Gp} {X : Xt} {d : Nat}  {x0 : Nat} {Q : Shp → Fl → Il → Prop} {S : Shp} {F : Fl} {I : Il} (C : CO G RX8 cX8_init 2 X) (M : MX d none "<init>" X) (hd : 5 ≤ d)  (h : V_X8_init_93 G x0 S F I Q) : J G X (QD X G (qV fun S' F' I' => Q S' F' I') noX) 93 [vr (some x0), vl 0] [] S F I := by
  unfold V_X8_init_93 at h
  obtain ⟨d, rfl⟩ : ∃ d9, d = d9 + 1 := ⟨d - 1, by omega⟩
  refine J_aload_n C dX8_init_93 rfl rfl ?_
  obtain ⟨ha3, hb4, h⟩ := h
  refine J_new C fn_6 fp_6.1 fd_6 wg_91 wg_92 wg_33 dX8_init_94 ha3 hb4 (fun q1 hq2 => ?_)
  have h := h q1 hq2
  refine J_dup C dX8_init_97 trivial ?_
  refine J_bipush C dX8_init_98 (by decide +kernel) (rg_of (by decide)) ?_
  refine K_I C M [vi 8] [vr (some q1), vr (some x0)] mi_X5_init rfl wg_93 wg_94 dX8_init_100 rfl rfl (by decide) (Nat.le_of_ble_eq_true rfl) (c_X5_init (C.2.2.2.2.2.2.2) (by omega) h) (fun v9 S5 F6 I7 hq9 => ?_) K_no rfl
  clear h
  obtain ⟨rfl, h⟩ := hq9
  obtain ⟨hK8, h⟩ := h
  refine J_putR C fo_9_9 fp_9 rfl wg_209 rfl (Or.inr ⟨M.2.2.2.1, rfl⟩) dX8_init_103 hK8 ?_
  exact S_X8_init_106 C M (by omega)  h
set_option maxRecDepth 20000 in
set_option maxHeartbeats 4000000 in
theorem S_X8_init_85 {G : Gp} {X : Xt} {d : Nat}  {x0 : Nat} {Q : Shp → Fl → Il → Prop} {S : Shp} {F : Fl} {I : Il} (C : CO G RX8 cX8_init 2 X) (M : MX d none "<init>" X) (hd : 5 ≤ d)  (h : V_X8_init_85 G x0 S F I Q) : J G X (QD X G (qV fun S' F' I' => Q S' F' I') noX) 85 [vr (some x0), vl 0] [] S F I := by
  unfold V_X8_init_85 at h
  refine J_aload_n C dX8_init_85 rfl rfl ?_
  refine J_bipush C dX8_init_86 (by decide +kernel) (rg_of (by decide)) ?_
  obtain ⟨ha3, hb4, h⟩ := h
  refine J_newI C (n := 64) rfl wg_106 dX8_init_88 (by decide) ha3 hb4 (fun q1 hq2 => ?_)
  have h := h q1 hq2
  obtain ⟨hK5, h⟩ := h
  refine J_putR C fo_9_8 fp_9 rfl wg_208 rfl (Or.inr ⟨M.2.2.2.1, rfl⟩) dX8_init_90 hK5 ?_
  exact S_X8_init_93 C M (by omega)  h
set_option maxRecDepth 20000 in
set_option maxHeartbeats 4000000 in
theorem S_X8_init_77 {G : Gp} {X : Xt} {d : Nat}  {x0 : Nat} {Q : Shp → Fl → Il → Prop} {S : Shp} {F : Fl} {I : Il} (C : CO G RX8 cX8_init 2 X) (M : MX d none "<init>" X) (hd : 5 ≤ d)  (h : V_X8_init_77 G x0 S F I Q) : J G X (QD X G (qV fun S' F' I' => Q S' F' I') noX) 77 [vr (some x0), vl 0] [] S F I := by
  unfold V_X8_init_77 at h
  refine J_aload_n C dX8_init_77 rfl rfl ?_
  refine J_bipush C dX8_init_78 (by decide +kernel) (rg_of (by decide)) ?_
  obtain ⟨ha3, hb4, h⟩ := h
  refine J_newI C (n := 64) rfl wg_106 dX8_init_80 (by decide) ha3 hb4 (fun q1 hq2 => ?_)
  have h := h q1 hq2
  obtain ⟨hK5, h⟩ := h
  refine J_putR C fo_9_7 fp_9 rfl wg_207 rfl (Or.inr ⟨M.2.2.2.1, rfl⟩) dX8_init_82 hK5 ?_
  exact S_X8_init_85 C M (by omega)  h
set_option maxRecDepth 20000 in
set_option maxHeartbeats 4000000 in
theorem S_X8_init_68 {G : Gp} {X : Xt} {d : Nat}  {x0 : Nat} {Q : Shp → Fl → Il → Prop} {S : Shp} {F : Fl} {I : Il} (C : CO G RX8 cX8_init 2 X) (M : MX d none "<init>" X) (hd : 5 ≤ d)  (h : V_X8_init_68 G x0 S F I Q) : J G X (QD X G (qV fun S' F' I' => Q S' F' I') noX) 68 [vr (some x0), vl 0] [] S F I := by
  unfold V_X8_init_68 at h
  refine J_aload_n C dX8_init_68 rfl rfl ?_
  refine J_bipush C dX8_init_69 (by decide +kernel) (rg_of (by decide)) ?_
  obtain ⟨ha3, hb4, h⟩ := h
  refine J_newQ C (k := 24) (n := 6) (by decide) rfl rfl wg_89 (by decide) dX8_init_71 (by decide) ha3 hb4 (fun q1 hq2 => ?_)
  have h := h q1 hq2
  obtain ⟨hK5, h⟩ := h
  refine J_putR C fo_9_6 fp_9 rfl wg_206 rfl (Or.inr ⟨M.2.2.2.1, rfl⟩) dX8_init_74 hK5 ?_
  exact S_X8_init_77 C M (by omega)  h
set_option maxRecDepth 20000 in
set_option maxHeartbeats 4000000 in
theorem S_X8_init_57 {G : Gp} {X : Xt} {d : Nat}  {x0 : Nat} {Q : Shp → Fl → Il → Prop} {S : Shp} {F : Fl} {I : Il} (C : CO G RX8 cX8_init 2 X) (M : MX d none "<init>" X) (hd : 5 ≤ d)  (h : V_X8_init_57 G x0 S F I Q) : J G X (QD X G (qV fun S' F' I' => Q S' F' I') noX) 57 [vr (some x0), vl 0] [] S F I := by
  unfold V_X8_init_57 at h
  obtain ⟨d, rfl⟩ : ∃ d9, d = d9 + 1 := ⟨d - 1, by omega⟩
  refine J_aload_n C dX8_init_57 rfl rfl ?_
  obtain ⟨ha3, hb4, h⟩ := h
  refine J_new C fn_0 fp_0.1 fd_0 wg_63 wg_64 wg_32 dX8_init_58 ha3 hb4 (fun q1 hq2 => ?_)
  have h := h q1 hq2
  refine J_dup C dX8_init_61 trivial ?_
  refine K_I C M [] [vr (some q1), vr (some x0)] mi_Jx4a65c_init_da8c8 rfl wg_65 wg_66 dX8_init_62 rfl rfl (by decide) (Nat.le_of_ble_eq_true rfl) (c_Jx4a65c_init_da8c8 (C.2.2.2.2.2.2.2) (by omega) h) (fun v9 S5 F6 I' hq9 => ?_) K_no rfl
  clear h
  obtain ⟨rfl, rfl, h⟩ := hq9
  obtain ⟨hK7, h⟩ := h
  refine J_putR C fo_9_5 fp_9 rfl wg_205 rfl (Or.inr ⟨M.2.2.2.1, rfl⟩) dX8_init_65 hK7 ?_
  exact S_X8_init_68 C M (by omega)  h
set_option maxRecDepth 20000 in
set_option maxHeartbeats 4000000 in
theorem S_X8_init_46 {G : Gp} {X : Xt} {d : Nat}  {x0 : Nat} {Q : Shp → Fl → Il → Prop} {S : Shp} {F : Fl} {I : Il} (C : CO G RX8 cX8_init 2 X) (M : MX d none "<init>" X) (hd : 5 ≤ d)  (h : V_X8_init_46 G x0 S F I Q) : J G X (QD X G (qV fun S' F' I' => Q S' F' I') noX) 46 [vr (some x0), vl 0] [] S F I := by
  unfold V_X8_init_46 at h
  obtain ⟨d, rfl⟩ : ∃ d9, d = d9 + 1 := ⟨d - 1, by omega⟩
  refine J_aload_n C dX8_init_46 rfl rfl ?_
  obtain ⟨ha3, hb4, h⟩ := h
  refine J_new C fn_0 fp_0.1 fd_0 wg_63 wg_64 wg_32 dX8_init_47 ha3 hb4 (fun q1 hq2 => ?_)
  have h := h q1 hq2
  refine J_dup C dX8_init_50 trivial ?_
  refine K_I C M [] [vr (some q1), vr (some x0)] mi_Jx4a65c_init_da8c8 rfl wg_65 wg_66 dX8_init_51 rfl rfl (by decide) (Nat.le_of_ble_eq_true rfl) (c_Jx4a65c_init_da8c8 (C.2.2.2.2.2.2.2) (by omega) h) (fun v9 S5 F6 I' hq9 => ?_) K_no rfl
  clear h
  obtain ⟨rfl, rfl, h⟩ := hq9
  obtain ⟨hK7, h⟩ := h
  refine J_putR C fo_9_4 fp_9 rfl wg_204 rfl (Or.inr ⟨M.2.2.2.1, rfl⟩) dX8_init_54 hK7 ?_
  exact S_X8_init_57 C M (by omega)  h
set_option maxRecDepth 20000 in
set_option maxHeartbeats 4000000 in
theorem S_X8_init_35 {G : Gp} {X : Xt} {d : Nat}  {x0 : Nat} {Q : Shp → Fl → Il → Prop} {S : Shp} {F : Fl} {I : Il} (C : CO G RX8 cX8_init 2 X) (M : MX d none "<init>" X) (hd : 5 ≤ d)  (h : V_X8_init_35 G x0 S F I Q) : J G X (QD X G (qV fun S' F' I' => Q S' F' I') noX) 35 [vr (some x0), vl 0] [] S F I := by
  unfold V_X8_init_35 at h
  obtain ⟨d, rfl⟩ : ∃ d9, d = d9 + 1 := ⟨d - 1, by omega⟩
  refine J_aload_n C dX8_init_35 rfl rfl ?_
  obtain ⟨ha3, hb4, h⟩ := h
  refine J_new C fn_0 fp_0.1 fd_0 wg_63 wg_64 wg_32 dX8_init_36 ha3 hb4 (fun q1 hq2 => ?_)
  have h := h q1 hq2
  refine J_dup C dX8_init_39 trivial ?_
  refine K_I C M [] [vr (some q1), vr (some x0)] mi_Jx4a65c_init_da8c8 rfl wg_65 wg_66 dX8_init_40 rfl rfl (by decide) (Nat.le_of_ble_eq_true rfl) (c_Jx4a65c_init_da8c8 (C.2.2.2.2.2.2.2) (by omega) h) (fun v9 S5 F6 I' hq9 => ?_) K_no rfl
  clear h
  obtain ⟨rfl, rfl, h⟩ := hq9
  obtain ⟨hK7, h⟩ := h
  refine J_putR C fo_9_3 fp_9 rfl wg_203 rfl (Or.inr ⟨M.2.2.2.1, rfl⟩) dX8_init_43 hK7 ?_
  exact S_X8_init_46 C M (by omega)  h
set_option maxRecDepth 20000 in
set_option maxHeartbeats 4000000 in
theorem S_X8_init_24 {G : Gp} {X : Xt} {d : Nat}  {x0 : Nat} {Q : Shp → Fl → Il → Prop} {S : Shp} {F : Fl} {I : Il} (C : CO G RX8 cX8_init 2 X) (M : MX d none "<init>" X) (hd : 5 ≤ d)  (h : V_X8_init_24 G x0 S F I Q) : J G X (QD X G (qV fun S' F' I' => Q S' F' I') noX) 24 [vr (some x0), vl 0] [] S F I := by
  unfold V_X8_init_24 at h
  obtain ⟨d, rfl⟩ : ∃ d9, d = d9 + 1 := ⟨d - 1, by omega⟩
  refine J_aload_n C dX8_init_24 rfl rfl ?_
  obtain ⟨ha3, hb4, h⟩ := h
  refine J_new C fn_0 fp_0.1 fd_0 wg_63 wg_64 wg_32 dX8_init_25 ha3 hb4 (fun q1 hq2 => ?_)
  have h := h q1 hq2
  refine J_dup C dX8_init_28 trivial ?_
  refine K_I C M [] [vr (some q1), vr (some x0)] mi_Jx4a65c_init_da8c8 rfl wg_65 wg_66 dX8_init_29 rfl rfl (by decide) (Nat.le_of_ble_eq_true rfl) (c_Jx4a65c_init_da8c8 (C.2.2.2.2.2.2.2) (by omega) h) (fun v9 S5 F6 I' hq9 => ?_) K_no rfl
  clear h
  obtain ⟨rfl, rfl, h⟩ := hq9
  obtain ⟨hK7, h⟩ := h
  refine J_putR C fo_9_2 fp_9 rfl wg_202 rfl (Or.inr ⟨M.2.2.2.1, rfl⟩) dX8_init_32 hK7 ?_
  exact S_X8_init_35 C M (by omega)  h
set_option maxRecDepth 20000 in
set_option maxHeartbeats 4000000 in
theorem S_X8_init_13 {G : Gp} {X : Xt} {d : Nat}  {x0 : Nat} {Q : Shp → Fl → Il → Prop} {S : Shp} {F : Fl} {I : Il} (C : CO G RX8 cX8_init 2 X) (M : MX d none "<init>" X) (hd : 5 ≤ d)  (h : V_X8_init_13 G x0 S F I Q) : J G X (QD X G (qV fun S' F' I' => Q S' F' I') noX) 13 [vr (some x0), vl 0] [] S F I := by
  unfold V_X8_init_13 at h
  obtain ⟨d, rfl⟩ : ∃ d9, d = d9 + 1 := ⟨d - 1, by omega⟩
  refine J_aload_n C dX8_init_13 rfl rfl ?_
  obtain ⟨ha3, hb4, h⟩ := h
  refine J_new C fn_0 fp_0.1 fd_0 wg_63 wg_64 wg_32 dX8_init_14 ha3 hb4 (fun q1 hq2 => ?_)
  have h := h q1 hq2
  refine J_dup C dX8_init_17 trivial ?_
  refine K_I C M [] [vr (some q1), vr (some x0)] mi_Jx4a65c_init_da8c8 rfl wg_65 wg_66 dX8_init_18 rfl rfl (by decide) (Nat.le_of_ble_eq_true rfl) (c_Jx4a65c_init_da8c8 (C.2.2.2.2.2.2.2) (by omega) h) (fun v9 S5 F6 I' hq9 => ?_) K_no rfl
  clear h
  obtain ⟨rfl, rfl, h⟩ := hq9
  obtain ⟨hK7, h⟩ := h
  refine J_putR C fo_9_1 fp_9 rfl wg_201 rfl (Or.inr ⟨M.2.2.2.1, rfl⟩) dX8_init_21 hK7 ?_
  exact S_X8_init_24 C M (by omega)  h
set_option maxRecDepth 20000 in
set_option maxHeartbeats 4000000 in
theorem S_X8_init {G : Gp} {X : Xt} {d : Nat}  {x0 : Nat} {Q : Shp → Fl → Il → Prop} {S : Shp} {F : Fl} {I : Il} (C : CO G RX8 cX8_init 2 X) (M : MX d none "<init>" X) (hd : 5 ≤ d)  (h : V_X8_init G x0 S F I Q) : J G X (QD X G (qV fun S' F' I' => Q S' F' I') noX) 0 [vr (some x0), vl 0] [] S F I := by
  unfold V_X8_init at h
  obtain ⟨d, rfl⟩ : ∃ d9, d = d9 + 1 := ⟨d - 1, by omega⟩
  refine J_aload_n C dX8_init_0 rfl rfl ?_
  refine K_objInit C M wg_58 wg_59 wg_60 rfl dX8_init_1 (Nat.le_of_ble_eq_true rfl) ?_
  refine J_aload_n C dX8_init_4 rfl rfl ?_
  refine J_bipush C dX8_init_5 (by decide +kernel) (rg_of (by decide)) ?_
  obtain ⟨ha3, hb4, h⟩ := h
  refine J_newQ C (k := 23) (n := 8) (by decide) rfl rfl wg_61 (by decide) dX8_init_7 (by decide) ha3 hb4 (fun q1 hq2 => ?_)
  have h := h q1 hq2
  obtain ⟨hK5, h⟩ := h
  refine J_putR C fo_9_0 fp_9 rfl wg_200 rfl (Or.inr ⟨M.2.2.2.1, rfl⟩) dX8_init_10 hK5 ?_
  exact S_X8_init_13 C M (by omega)  h
theorem c_X8_init {l : Launch} {G : Gp} {d : Nat} {x0 : Nat} {S : Shp} {F : Fl} {I : Il} {Q : Shp → Fl → Il → Prop} (hl : l.stackTraces = false) (hd : 5 ≤ d) (h : V_X8_init G x0 S F I Q) : CM l G d yX8_init (.code yX8_init cX8_init 2 none) [vr (some x0)] S F I (qV fun S' F' I' => Q S' F' I') noX :=
  CM_ofM [vr (some x0), vl 0] hl (by decide +kernel) (kn1 trivial kn0) (Nat.le_of_ble_eq_true rfl) rfl (fun X hX C M => S_X8_init C M hd h)
set_option maxRecDepth 20000 in
set_option maxHeartbeats 4000000 in
theorem S_X8_lay_54 {G : Gp} {X : Xt} {d : Nat}  {x0 : Nat} {x1 : Int} {x2 : Int} {x3 : Int} {x4 : Int} {s0 : Int} {Q : Int → Shp → Fl → Il → Prop} {QX : String → Shp → Fl → Il → Prop} {S : Shp} {F : Fl} {I : Il} (C : CO G RX8 cX8_lay 5 X) (M : MX d (some .int) "lay" X) (hd : 10 ≤ d)  (h : V_X8_lay_54 G x0 x1 x2 x3 x4 s0 S F I Q QX) : J G X (QD X G (qI fun z S' F' I' => Q z S' F' I') QX) 54 [vr (some x0), vi x1, vi x2, vi x3, vi x4] [vi s0] S F I := by
  unfold V_X8_lay_54 at h
  obtain ⟨d, rfl⟩ : ∃ d9, d = d9 + 1 := ⟨d - 1, by omega⟩
  refine K_S C M [vi s0] [] mi_X8_requireState wg_354 wg_355 dX8_lay_54 rfl rfl (by decide) (Nat.le_of_ble_eq_true rfl) (c_X8_requireState (C.2.2.2.2.2.2.2) (by omega) h) (fun v9 S' F' I' hq9 => ?_) (K_out C M) rfl
  clear h
  obtain ⟨rfl, rfl, rfl, rfl, h⟩ := hq9
  refine J_aload_n C dX8_lay_57 rfl rfl ?_
  refine J_dup C dX8_lay_58 trivial ?_
  obtain ⟨hK1, h⟩ := h
  refine J_getI C fo_9_13 rfl fl_RX8_66 dX8_lay_59 hK1 ?_
  refine J_bipush C dX8_lay_62 (by decide +kernel) (rg_of (by decide)) ?_
  refine J_iload_n C dX8_lay_64 rfl rfl ?_
  refine J_imul C dX8_lay_65 ?_
  refine J_isub C dX8_lay_66 ?_
  refine J_putI C fo_9_13 fp_9 fl_RX8_66 (Or.inl rfl) (Or.inl rfl) dX8_lay_67 hK1 ?_
  refine J_aload_n C dX8_lay_70 rfl rfl ?_
  obtain ⟨r2, hr3, h⟩ := h
  refine J_getR C fo_9_1 rfl fl_RX8_18 dX8_lay_71 hK1 hr3 ?_
  obtain ⟨ha6, hb7, h⟩ := h
  refine J_new C fn_2 fp_2.1 fd_2 wg_373 wg_374 wg_43 dX8_lay_74 ha6 hb7 (fun q4 hq5 => ?_)
  have h := h q4 hq5
  refine J_dup C dX8_lay_77 trivial ?_
  refine J_iload_n C dX8_lay_78 rfl rfl ?_
  refine J_iload_n C dX8_lay_79 rfl rfl ?_
  refine J_iload_n C dX8_lay_80 rfl rfl ?_
  refine J_iload C dX8_lay_81 rfl ?_
  refine K_I C M [vi x1, vi x2, vi x3, vi x4] [vr (some q4), vr (some r2)] mi_X1_init rfl wg_375 wg_376 dX8_lay_83 rfl rfl (by decide) (Nat.le_of_ble_eq_true rfl) (c_X1_init (C.2.2.2.2.2.2.2) (by omega) h) (fun v9 S' F8 I' hq9 => ?_) K_no rfl
  clear h
  obtain ⟨rfl, rfl, rfl, h⟩ := hq9
  obtain ⟨hK9, h⟩ := h
  refine K_V C M [vr (some q4)] [] mi_Jx4a65c_add_9ea2d wg_429 wg_430 wg_431 ⟨rfl, by decide⟩ dX8_lay_86 hK9 rfl rfl (by decide) (Nat.le_of_ble_eq_true rfl) (c_Jx4a65c_add_9ea2d (C.2.2.2.2.2.2.2) (by omega) h) (fun v9 S11 F12 I13 hq9 => ?_) K_no rfl
  clear h
  obtain ⟨z10, rfl, h⟩ := hq9
  refine J_pop C dX8_lay_89 trivial ?_
  refine J_aload_n C dX8_lay_90 rfl rfl ?_
  obtain ⟨hK14, h⟩ := h
  obtain ⟨r15, hr16, h⟩ := h
  refine J_getR C fo_9_1 rfl fl_RX8_18 dX8_lay_91 hK14 hr16 ?_
  obtain ⟨hK17, h⟩ := h
  refine K_V C M [] [] mi_Jx4a65c_size_8abf5 wg_350 wg_351 wg_352 ⟨rfl, by decide⟩ dX8_lay_94 hK17 rfl rfl (by decide) (Nat.le_of_ble_eq_true rfl) (c_Jx4a65c_size_8abf5 (C.2.2.2.2.2.2.2) (by omega) h) (fun v9 S' F' I' hq9 => ?_) K_no rfl
  clear h
  obtain ⟨z18, rfl, rfl, rfl, rfl, h⟩ := hq9
  refine J_iconst C dX8_lay_97 (rg_of (by decide)) ?_
  refine J_isub C dX8_lay_98 ?_
  exact J_iret C dX8_lay_99 M.2.2.1 ⟨_, rfl, h⟩
set_option maxRecDepth 20000 in
set_option maxHeartbeats 4000000 in
theorem S_X8_lay_20 {G : Gp} {X : Xt} {d : Nat}  {x0 : Nat} {x1 : Int} {x2 : Int} {x3 : Int} {x4 : Int} {s0 : Int} {Q : Int → Shp → Fl → Il → Prop} {QX : String → Shp → Fl → Il → Prop} {S : Shp} {F : Fl} {I : Il} (C : CO G RX8 cX8_lay 5 X) (M : MX d (some .int) "lay" X) (hd : 10 ≤ d)  (h : V_X8_lay_20 G x0 x1 x2 x3 x4 s0 S F I Q QX) : J G X (QD X G (qI fun z S' F' I' => Q z S' F' I') QX) 20 [vr (some x0), vi x1, vi x2, vi x3, vi x4] [vi s0] S F I := by
  unfold V_X8_lay_20 at h
  obtain ⟨d, rfl⟩ : ∃ d9, d = d9 + 1 := ⟨d - 1, by omega⟩
  refine K_S C M [vi s0] [] mi_X8_requireArgument wg_328 wg_329 dX8_lay_20 rfl rfl (by decide) (Nat.le_of_ble_eq_true rfl) (c_X8_requireArgument (C.2.2.2.2.2.2.2) (by omega) h) (fun v9 S' F' I' hq9 => ?_) (K_out C M) rfl
  clear h
  obtain ⟨rfl, rfl, rfl, rfl, h⟩ := hq9
  refine J_iload_n C dX8_lay_23 rfl rfl ?_
  refine J_iconst C dX8_lay_24 (rg_of (by decide)) ?_
  refine J_bipush C dX8_lay_25 (by decide +kernel) (rg_of (by decide)) ?_
  refine K_S C M [vi x3, vi 2, vi 60] [] mi_X8_requireRange wg_347 wg_348 dX8_lay_27 rfl rfl (by decide) (Nat.le_of_ble_eq_true rfl) (c_X8_requireRange (C.2.2.2.2.2.2.2) (by omega) h) (fun v9 S' F' I' hq9 => ?_) (K_out C M) rfl
  clear h
  obtain ⟨rfl, rfl, rfl, rfl, h⟩ := hq9
  refine J_iload C dX8_lay_30 rfl ?_
  refine J_iconst C dX8_lay_32 (rg_of (by decide)) ?_
  refine J_iconst C dX8_lay_33 (rg_of (by decide)) ?_
  refine K_S C M [vi x4, vi 0, vi 3] [] mi_X8_requireRange wg_347 wg_348 dX8_lay_34 rfl rfl (by decide) (Nat.le_of_ble_eq_true rfl) (c_X8_requireRange (C.2.2.2.2.2.2.2) (by omega) h) (fun v9 S' F' I' hq9 => ?_) (K_out C M) rfl
  clear h
  obtain ⟨rfl, rfl, rfl, rfl, h⟩ := hq9
  refine J_aload_n C dX8_lay_37 rfl rfl ?_
  obtain ⟨hK1, h⟩ := h
  obtain ⟨r2, hr3, h⟩ := h
  refine J_getR C fo_9_1 rfl fl_RX8_18 dX8_lay_38 hK1 hr3 ?_
  obtain ⟨hK4, h⟩ := h
  refine K_V C M [] [] mi_Jx4a65c_size_8abf5 wg_350 wg_351 wg_352 ⟨rfl, by decide⟩ dX8_lay_41 hK4 rfl rfl (by decide) (Nat.le_of_ble_eq_true rfl) (c_Jx4a65c_size_8abf5 (C.2.2.2.2.2.2.2) (by omega) h) (fun v9 S' F' I' hq9 => ?_) K_no rfl
  clear h
  obtain ⟨z5, rfl, rfl, rfl, rfl, h⟩ := hq9
  refine J_bipush C dX8_lay_44 (by decide +kernel) (rg_of (by decide)) ?_
  refine J_icmp_ge C dX8_lay_46 (tgt := 53) rfl (fun c46 => ?_) (fun c46 => ?_)
  · have h := h.1 c46
    refine J_iconst C dX8_lay_53 (rg_of (by decide)) ?_
    exact S_X8_lay_54 C M (by omega)  h
  · have h := h.2 c46
    refine J_iconst C dX8_lay_49 (rg_of (by decide)) ?_
    refine J_goto C dX8_lay_50 (tgt := 54) rfl ?_
    exact S_X8_lay_54 C M (by omega)  h
set_option maxRecDepth 20000 in
set_option maxHeartbeats 4000000 in
theorem S_X8_lay {G : Gp} {X : Xt} {d : Nat}  {x0 : Nat} {x1 : Int} {x2 : Int} {x3 : Int} {x4 : Int} {Q : Int → Shp → Fl → Il → Prop} {QX : String → Shp → Fl → Il → Prop} {S : Shp} {F : Fl} {I : Il} (C : CO G RX8 cX8_lay 5 X) (M : MX d (some .int) "lay" X) (hd : 10 ≤ d)  (h : V_X8_lay G x0 x1 x2 x3 x4 S F I Q QX) : J G X (QD X G (qI fun z S' F' I' => Q z S' F' I') QX) 0 [vr (some x0), vi x1, vi x2, vi x3, vi x4] [] S F I := by
  unfold V_X8_lay at h
  obtain ⟨d, rfl⟩ : ∃ d9, d = d9 + 1 := ⟨d - 1, by omega⟩
  refine J_aload_n C dX8_lay_0 rfl rfl ?_
  refine J_iload_n C dX8_lay_1 rfl rfl ?_
  obtain ⟨hK1, h⟩ := h
  refine K_V C M [vi x1] [] mi_X8_requireStation wg_253 wg_255 wg_0 ⟨rfl, by decide⟩ dX8_lay_2 hK1 rfl rfl (by decide) (Nat.le_of_ble_eq_true rfl) (c_X8_requireStation (C.2.2.2.2.2.2.2) (by omega) h) (fun v9 S' F' I' hq9 => ?_) (K_out C M) rfl
  clear h
  obtain ⟨rfl, rfl, rfl, rfl, h⟩ := hq9
  refine J_aload_n C dX8_lay_5 rfl rfl ?_
  refine J_iload_n C dX8_lay_6 rfl rfl ?_
  refine K_V C M [vi x2] [] mi_X8_requireStation wg_253 wg_255 wg_0 ⟨rfl, by decide⟩ dX8_lay_7 hK1 rfl rfl (by decide) (Nat.le_of_ble_eq_true rfl) (c_X8_requireStation (C.2.2.2.2.2.2.2) (by omega) h) (fun v9 S' F' I' hq9 => ?_) (K_out C M) rfl
  clear h
  obtain ⟨rfl, rfl, rfl, rfl, h⟩ := hq9
  refine J_iload_n C dX8_lay_10 rfl rfl ?_
  refine J_iload_n C dX8_lay_11 rfl rfl ?_
  refine J_icmp_eq C dX8_lay_12 (tgt := 19) rfl (fun c12 => ?_) (fun c12 => ?_)
  · have h := h.1 c12
    refine J_iconst C dX8_lay_19 (rg_of (by decide)) ?_
    exact S_X8_lay_20 C M (by omega)  h
  · have h := h.2 c12
    refine J_iconst C dX8_lay_15 (rg_of (by decide)) ?_
    refine J_goto C dX8_lay_16 (tgt := 20) rfl ?_
    exact S_X8_lay_20 C M (by omega)  h
theorem c_X8_lay {l : Launch} {G : Gp} {d : Nat} {x0 : Nat} {x1 : Int} {x2 : Int} {x3 : Int} {x4 : Int} {S : Shp} {F : Fl} {I : Il} {Q : Int → Shp → Fl → Il → Prop} {QX : String → Shp → Fl → Il → Prop} (hl : l.stackTraces = false) (hd : 10 ≤ d) (h : V_X8_lay G x0 x1 x2 x3 x4 S F I Q QX) : CM l G d yX8_lay (.code yX8_lay cX8_lay 5 (some .int)) [vr (some x0), vi x1, vi x2, vi x3, vi x4] S F I (qI fun z S' F' I' => Q z S' F' I') QX :=
  CM_ofM [vr (some x0), vi x1, vi x2, vi x3, vi x4] hl (by decide +kernel) (kn1 trivial (kn1 trivial (kn1 trivial (kn1 trivial (kn1 trivial kn0))))) (Nat.le_of_ble_eq_true rfl) rfl (fun X hX C M => S_X8_lay C M hd h)
set_option maxRecDepth 20000 in
set_option maxHeartbeats 4000000 in
theorem S_X8_learn {G : Gp} {X : Xt} {d : Nat}  {x0 : Nat} {x1 : Int} {x2 : Int} {Q : Int → Fl → Prop} {QX : String → Shp → Fl → Il → Prop} {S : Shp} {F : Fl} {I : Il} (C : CO G RX8 cX8_learn 4 X) (M : MX d (some .int) "learn" X) (hd : 10 ≤ d)  (h : V_X8_learn x0 x1 x2 S F I Q QX) : J G X (QD X G (qI fun z S' F' I' => S = S' ∧ I = I' ∧ Q z F') QX) 0 [vr (some x0), vi x1, vi x2, vl 0] [] S F I := by
  unfold V_X8_learn at h
  obtain ⟨d, rfl⟩ : ∃ d9, d = d9 + 1 := ⟨d - 1, by omega⟩
  refine J_aload_n C dX8_learn_0 rfl rfl ?_
  refine J_iload_n C dX8_learn_1 rfl rfl ?_
  obtain ⟨hK1, h⟩ := h
  refine K_V C M [vi x1] [] mi_X8_crewOf wg_576 wg_578 wg_6 ⟨rfl, by decide⟩ dX8_learn_2 hK1 rfl rfl (by decide) (Nat.le_of_ble_eq_true rfl) (c_X8_crewOf (C.2.2.2.2.2.2.2) (by omega) h) (fun v9 S' F' I' hq9 => ?_) (K_out C M) rfl
  clear h
  obtain ⟨z2, rfl, rfl, rfl, rfl, h⟩ := hq9
  refine K_astore_n C [vr (some x0), vi x1, vi x2, vr (some z2)] dX8_learn_5 rfl (Nat.le_of_ble_eq_true rfl) rfl ?_
  refine J_aload_n C dX8_learn_6 rfl rfl ?_
  refine J_iload_n C dX8_learn_7 rfl rfl ?_
  refine K_V C M [vi x2] [] mi_X8_requireBlock wg_580 wg_582 wg_7 ⟨rfl, by decide⟩ dX8_learn_8 hK1 rfl rfl (by decide) (Nat.le_of_ble_eq_true rfl) (c_X8_requireBlock (C.2.2.2.2.2.2.2) (by omega) h) (fun v9 S' F' I' hq9 => ?_) (K_out C M) rfl
  clear h
  obtain ⟨rfl, rfl, rfl, rfl, h⟩ := hq9
  refine J_aload_n C dX8_learn_11 rfl rfl ?_
  refine J_dup C dX8_learn_12 trivial ?_
  obtain ⟨hK3, h⟩ := h
  refine J_getI C fo_4_2 rfl fl_RX8_166 dX8_learn_13 hK3 ?_
  refine J_iconst C dX8_learn_16 (rg_of (by decide)) ?_
  refine J_iload_n C dX8_learn_17 rfl rfl ?_
  refine J_ishl C dX8_learn_18 ?_
  refine J_ior C dX8_learn_19 ?_
  refine J_putI C fo_4_2 fp_4 fl_RX8_166 (Or.inl rfl) (Or.inl rfl) dX8_learn_20 hK3 ?_
  refine J_aload_n C dX8_learn_23 rfl rfl ?_
  refine J_getI C fo_4_2 rfl fl_RX8_166 dX8_learn_24 hK3 ?_
  refine K_S C M [vi ((u2 F 402 z2 (ior (F 402 z2) (ishl 1 x2))) 402 z2)] [] mi_J6_bitCount_0f7a4 wg_584 wg_585 dX8_learn_27 rfl rfl (by decide) (Nat.le_of_ble_eq_true rfl) (c_J6_bitCount_0f7a4 (C.2.2.2.2.2.2.2) (by omega) h) (fun v9 S' F' I' hq9 => ?_) K_no rfl
  clear h
  obtain ⟨z4, rfl, rfl, rfl, rfl, h⟩ := hq9
  exact J_iret C dX8_learn_30 M.2.2.1 ⟨_, rfl, rfl, rfl, h⟩
theorem c_X8_learn {l : Launch} {G : Gp} {d : Nat} {x0 : Nat} {x1 : Int} {x2 : Int} {S : Shp} {F : Fl} {I : Il} {Q : Int → Fl → Prop} {QX : String → Shp → Fl → Il → Prop} (hl : l.stackTraces = false) (hd : 10 ≤ d) (h : V_X8_learn x0 x1 x2 S F I Q QX) : CM l G d yX8_learn (.code yX8_learn cX8_learn 4 (some .int)) [vr (some x0), vi x1, vi x2] S F I (qI fun z S' F' I' => S = S' ∧ I = I' ∧ Q z F') QX :=
  CM_ofM [vr (some x0), vi x1, vi x2, vl 0] hl (by decide +kernel) (kn1 trivial (kn1 trivial (kn1 trivial kn0))) (Nat.le_of_ble_eq_true rfl) rfl (fun X hX C M => S_X8_learn C M hd h)
set_option maxRecDepth 20000 in
set_option maxHeartbeats 4000000 in
theorem S_X8_leg_22 {G : Gp} {X : Xt} {d : Nat}  {x0 : Nat} {x1 : Int} {s0 : Int} {Q : Int → Shp → Fl → Il → Prop} {QX : String → Shp → Fl → Il → Prop} {S : Shp} {F : Fl} {I : Il} (C : CO G RX8 cX8_leg 2 X) (M : MX d (some .int) "leg" X) (hd : 10 ≤ d)  (h : V_X8_leg_22 x0 x1 s0 S F I Q QX) : J G X (QD X G (qI fun z S' F' I' => Q z S' F' I') QX) 22 [vr (some x0), vi x1] [vi s0] S F I := by
  unfold V_X8_leg_22 at h
  obtain ⟨d, rfl⟩ : ∃ d9, d = d9 + 1 := ⟨d - 1, by omega⟩
  refine K_S C M [vi s0] [] mi_X8_requireState wg_354 wg_355 dX8_leg_22 rfl rfl (by decide) (Nat.le_of_ble_eq_true rfl) (c_X8_requireState (C.2.2.2.2.2.2.2) (by omega) h) (fun v9 S' F' I' hq9 => ?_) (K_out C M) rfl
  clear h
  obtain ⟨rfl, rfl, rfl, rfl, h⟩ := hq9
  refine J_aload_n C dX8_leg_25 rfl rfl ?_
  obtain ⟨hK1, h⟩ := h
  obtain ⟨r2, hr3, h⟩ := h
  refine J_getR C fo_9_9 rfl fl_RX8_52 dX8_leg_26 hK1 hr3 ?_
  refine J_iload_n C dX8_leg_29 rfl rfl ?_
  obtain ⟨hK4, h⟩ := h
  refine K_V C M [vi x1] [] mi_X5_append wg_643 wg_630 wg_631 ⟨rfl, by decide⟩ dX8_leg_30 hK4 rfl rfl (by decide) (Nat.le_of_ble_eq_true rfl) (c_X5_append (C.2.2.2.2.2.2.2) (by omega) h) (fun v9 S5 F6 I7 hq9 => ?_) K_no rfl
  clear h
  obtain ⟨rfl, h⟩ := hq9
  refine J_aload_n C dX8_leg_33 rfl rfl ?_
  obtain ⟨hK8, h⟩ := h
  obtain ⟨r9, hr10, h⟩ := h
  refine J_getR C fo_9_9 rfl fl_RX8_52 dX8_leg_34 hK8 hr10 ?_
  obtain ⟨hK11, h⟩ := h
  refine J_getI C fo_6_1 rfl fl_RX8_230 dX8_leg_37 hK11 ?_
  exact J_iret C dX8_leg_40 M.2.2.1 ⟨_, rfl, h⟩
set_option maxRecDepth 20000 in
set_option maxHeartbeats 4000000 in
theorem S_X8_leg {G : Gp} {X : Xt} {d : Nat}  {x0 : Nat} {x1 : Int} {Q : Int → Shp → Fl → Il → Prop} {QX : String → Shp → Fl → Il → Prop} {S : Shp} {F : Fl} {I : Il} (C : CO G RX8 cX8_leg 2 X) (M : MX d (some .int) "leg" X) (hd : 10 ≤ d)  (h : V_X8_leg x0 x1 S F I Q QX) : J G X (QD X G (qI fun z S' F' I' => Q z S' F' I') QX) 0 [vr (some x0), vi x1] [] S F I := by
  unfold V_X8_leg at h
  obtain ⟨d, rfl⟩ : ∃ d9, d = d9 + 1 := ⟨d - 1, by omega⟩
  refine J_aload_n C dX8_leg_0 rfl rfl ?_
  refine J_iload_n C dX8_leg_1 rfl rfl ?_
  obtain ⟨hK1, h⟩ := h
  refine K_V C M [vi x1] [] mi_X8_requireBlock wg_580 wg_582 wg_7 ⟨rfl, by decide⟩ dX8_leg_2 hK1 rfl rfl (by decide) (Nat.le_of_ble_eq_true rfl) (c_X8_requireBlock (C.2.2.2.2.2.2.2) (by omega) h) (fun v9 S' F' I' hq9 => ?_) (K_out C M) rfl
  clear h
  obtain ⟨rfl, rfl, rfl, rfl, h⟩ := hq9
  refine J_aload_n C dX8_leg_5 rfl rfl ?_
  obtain ⟨r2, hr3, h⟩ := h
  refine J_getR C fo_9_9 rfl fl_RX8_52 dX8_leg_6 hK1 hr3 ?_
  obtain ⟨hK4, h⟩ := h
  refine J_getI C fo_6_1 rfl fl_RX8_230 dX8_leg_9 hK4 ?_
  refine J_bipush C dX8_leg_12 (by decide +kernel) (rg_of (by decide)) ?_
  refine J_icmp_ge C dX8_leg_14 (tgt := 21) rfl (fun c14 => ?_) (fun c14 => ?_)
  · have h := h.1 c14
    refine J_iconst C dX8_leg_21 (rg_of (by decide)) ?_
    exact S_X8_leg_22 C M (by omega)  h
  · have h := h.2 c14
    refine J_iconst C dX8_leg_17 (rg_of (by decide)) ?_
    refine J_goto C dX8_leg_18 (tgt := 22) rfl ?_
    exact S_X8_leg_22 C M (by omega)  h
theorem c_X8_leg {l : Launch} {G : Gp} {d : Nat} {x0 : Nat} {x1 : Int} {S : Shp} {F : Fl} {I : Il} {Q : Int → Shp → Fl → Il → Prop} {QX : String → Shp → Fl → Il → Prop} (hl : l.stackTraces = false) (hd : 10 ≤ d) (h : V_X8_leg x0 x1 S F I Q QX) : CM l G d yX8_leg (.code yX8_leg cX8_leg 2 (some .int)) [vr (some x0), vi x1] S F I (qI fun z S' F' I' => Q z S' F' I') QX :=
  CM_ofM [vr (some x0), vi x1] hl (by decide +kernel) (kn1 trivial (kn1 trivial kn0)) (Nat.le_of_ble_eq_true rfl) rfl (fun X hX C M => S_X8_leg C M hd h)
set_option maxRecDepth 20000 in
set_option maxHeartbeats 4000000 in
theorem S_X8_plan_70 {G : Gp} {X : Xt} {d : Nat}  {x0 : Nat} {x2 : Int} {x3 : Int} {x4 : Nat} {x5 : Int} {s0 : Int} {Q : Int → Shp → Fl → Il → Prop} {QX : String → Shp → Fl → Il → Prop} {S : Shp} {F : Fl} {I : Il} (C : CO G RX8 cX8_plan 6 X) (M : MX d (some .int) "plan" X) (hd : 11 ≤ d)  (h : V_X8_plan_70 x0 x2 x3 x4 x5 s0 S F I Q QX) : J G X (QD X G (qI fun z S' F' I' => Q z S' F' I') QX) 70 [vr (some x0), vl 0, vi x2, vi x3, vr (some x4), vi x5] [vi s0] S F I := by
  unfold V_X8_plan_70 at h
  obtain ⟨d, rfl⟩ : ∃ d9, d = d9 + 1 := ⟨d - 1, by omega⟩
  refine K_S C M [vi s0] [] mi_X8_requireState wg_354 wg_355 dX8_plan_70 rfl rfl (by decide) (Nat.le_of_ble_eq_true rfl) (c_X8_requireState (C.2.2.2.2.2.2.2) (by omega) h) (fun v9 S' F' I' hq9 => ?_) (K_out C M) rfl
  clear h
  obtain ⟨rfl, rfl, rfl, rfl, h⟩ := hq9
  refine J_aload C dX8_plan_73 rfl ?_
  obtain ⟨hK1, h⟩ := h
  obtain ⟨r2, hr3, h⟩ := h
  refine J_getR C fo_8_10 rfl fl_RX8_261 dX8_plan_75 hK1 hr3 ?_
  refine J_aload_n C dX8_plan_78 rfl rfl ?_
  obtain ⟨hK4, h⟩ := h
  obtain ⟨r5, hr6, h⟩ := h
  refine J_getR C fo_9_9 rfl fl_RX8_52 dX8_plan_79 hK4 hr6 ?_
  obtain ⟨hK7, h⟩ := h
  refine K_V C M [vr (some r5)] [] mi_X5_copy wg_804 wg_805 wg_806 ⟨rfl, by decide⟩ dX8_plan_82 hK7 rfl rfl (by decide) (Nat.le_of_ble_eq_true rfl) (c_X5_copy (C.2.2.2.2.2.2.2) (by omega) h) (fun v9 S8 F9 I10 hq9 => ?_) K_no rfl
  clear h
  obtain ⟨rfl, h⟩ := hq9
  refine J_aload C dX8_plan_85 rfl ?_
  refine J_iconst C dX8_plan_87 (rg_of (by decide)) ?_
  obtain ⟨hK11, h⟩ := h
  refine J_putI C fo_8_11 fp_8 fl_RX8_268 (Or.inl rfl) (Or.inl rfl) dX8_plan_88 hK11 ?_
  refine J_aload C dX8_plan_91 rfl ?_
  refine J_iload_n C dX8_plan_93 rfl rfl ?_
  refine J_putI C fo_8_12 fp_8 fl_RX8_271 (Or.inl rfl) (Or.inl rfl) dX8_plan_94 hK11 ?_
  refine J_aload C dX8_plan_97 rfl ?_
  refine J_iload_n C dX8_plan_99 rfl rfl ?_
  refine J_putI C fo_8_13 fp_8 fl_RX8_274 (Or.inl rfl) (Or.inl rfl) dX8_plan_100 hK11 ?_
  refine J_aload C dX8_plan_103 rfl ?_
  refine J_iconst C dX8_plan_105 (rg_of (by decide)) ?_
  refine J_putI C fo_8_1 fp_8 fl_RX8_277 (Or.inl rfl) (Or.inl rfl) dX8_plan_106 hK11 ?_
  refine J_aload_n C dX8_plan_109 rfl rfl ?_
  obtain ⟨hK12, h⟩ := h
  obtain ⟨r13, hr14, h⟩ := h
  refine J_getR C fo_9_9 rfl fl_RX8_52 dX8_plan_110 hK12 hr14 ?_
  obtain ⟨hK15, h⟩ := h
  refine K_V C M [] [] mi_X5_empty wg_811 wg_791 wg_792 ⟨rfl, by decide⟩ dX8_plan_113 hK15 rfl rfl (by decide) (Nat.le_of_ble_eq_true rfl) (c_X5_empty (C.2.2.2.2.2.2.2) (by omega) h) (fun v9 S' F16 I' hq9 => ?_) K_no rfl
  clear h
  obtain ⟨rfl, rfl, rfl, h⟩ := hq9
  refine J_iload C dX8_plan_116 rfl ?_
  exact J_iret C dX8_plan_118 M.2.2.1 ⟨_, rfl, h⟩
set_option maxRecDepth 20000 in
set_option maxHeartbeats 4000000 in
theorem S_X8_plan_45 {G : Gp} {X : Xt} {d : Nat}  {x0 : Nat} {x2 : Int} {x3 : Int} {x4 : Nat} {s0 : Int} {Q : Int → Shp → Fl → Il → Prop} {QX : String → Shp → Fl → Il → Prop} {S : Shp} {F : Fl} {I : Il} (C : CO G RX8 cX8_plan 6 X) (M : MX d (some .int) "plan" X) (hd : 11 ≤ d)  (h : V_X8_plan_45 x0 x2 x3 x4 s0 S F I Q QX) : J G X (QD X G (qI fun z S' F' I' => Q z S' F' I') QX) 45 [vr (some x0), vl 0, vi x2, vi x3, vr (some x4), vl 0] [vi s0] S F I := by
  unfold V_X8_plan_45 at h
  obtain ⟨d, rfl⟩ : ∃ d9, d = d9 + 1 := ⟨d - 1, by omega⟩
  refine K_S C M [vi s0] [] mi_X8_requireState wg_354 wg_355 dX8_plan_45 rfl rfl (by decide) (Nat.le_of_ble_eq_true rfl) (c_X8_requireState (C.2.2.2.2.2.2.2) (by omega) h) (fun v9 S' F' I' hq9 => ?_) (K_out C M) rfl
  clear h
  obtain ⟨rfl, rfl, rfl, rfl, h⟩ := hq9
  refine J_aload_n C dX8_plan_48 rfl rfl ?_
  refine J_aload C dX8_plan_49 rfl ?_
  obtain ⟨hK1, h⟩ := h
  refine J_getI C fo_8_5 rfl fl_RX8_236 dX8_plan_51 hK1 ?_
  obtain ⟨hK2, h⟩ := h
  refine K_V C M [vi (F 805 x4)] [] mi_X8_endOfDraft wg_799 wg_801 wg_26 ⟨rfl, by decide⟩ dX8_plan_54 hK2 rfl rfl (by decide) (Nat.le_of_ble_eq_true rfl) (c_X8_endOfDraft (C.2.2.2.2.2.2.2) (by omega) h) (fun v9 S' F' I' hq9 => ?_) (K_out C M) rfl
  clear h
  obtain ⟨z3, rfl, rfl, rfl, rfl, h⟩ := hq9
  refine K_istore C [vr (some x0), vl 0, vi x2, vi x3, vr (some x4), vi z3] dX8_plan_57 (Nat.le_of_ble_eq_true rfl) rfl ?_
  refine J_iload C dX8_plan_59 rfl ?_
  refine J_iconst C dX8_plan_61 (rg_of (by decide)) ?_
  refine J_icmp_eq C dX8_plan_62 (tgt := 69) rfl (fun c62 => ?_) (fun c62 => ?_)
  · have h := h.1 c62
    refine J_iconst C dX8_plan_69 (rg_of (by decide)) ?_
    exact S_X8_plan_70 C M (by omega)  h
  · have h := h.2 c62
    refine J_iconst C dX8_plan_65 (rg_of (by decide)) ?_
    refine J_goto C dX8_plan_66 (tgt := 70) rfl ?_
    exact S_X8_plan_70 C M (by omega)  h
set_option maxRecDepth 20000 in
set_option maxHeartbeats 4000000 in
theorem S_X8_plan_44 {G : Gp} {X : Xt} {d : Nat}  {x0 : Nat} {x2 : Int} {x3 : Int} {x4 : Nat} {Q : Int → Shp → Fl → Il → Prop} {QX : String → Shp → Fl → Il → Prop} {S : Shp} {F : Fl} {I : Il} (C : CO G RX8 cX8_plan 6 X) (M : MX d (some .int) "plan" X) (hd : 11 ≤ d)  (h : V_X8_plan_44 x0 x2 x3 x4 S F I Q QX) : J G X (QD X G (qI fun z S' F' I' => Q z S' F' I') QX) 44 [vr (some x0), vl 0, vi x2, vi x3, vr (some x4), vl 0] [] S F I := by
  unfold V_X8_plan_44 at h
  refine J_iconst C dX8_plan_44 (rg_of (by decide)) ?_
  exact S_X8_plan_45 C M (by omega)  h
set_option maxRecDepth 20000 in
set_option maxHeartbeats 4000000 in
theorem S_X8_plan {G : Gp} {X : Xt} {d : Nat}  {x0 : Nat} {x1 : Int} {x2 : Int} {x3 : Int} {Q : Int → Shp → Fl → Il → Prop} {QX : String → Shp → Fl → Il → Prop} {S : Shp} {F : Fl} {I : Il} (C : CO G RX8 cX8_plan 6 X) (M : MX d (some .int) "plan" X) (hd : 11 ≤ d)  (h : V_X8_plan x0 x1 x2 x3 S F I Q QX) : J G X (QD X G (qI fun z S' F' I' => Q z S' F' I') QX) 0 [vr (some x0), vi x1, vi x2, vi x3, vl 0, vl 0] [] S F I := by
  unfold V_X8_plan at h
  obtain ⟨d, rfl⟩ : ∃ d9, d = d9 + 1 := ⟨d - 1, by omega⟩
  refine J_aload_n C dX8_plan_0 rfl rfl ?_
  refine J_iload_n C dX8_plan_1 rfl rfl ?_
  obtain ⟨hK1, h⟩ := h
  refine K_V C M [vi x1] [] mi_X8_trainOf wg_648 wg_650 wg_9 ⟨rfl, by decide⟩ dX8_plan_2 hK1 rfl rfl (by decide) (Nat.le_of_ble_eq_true rfl) (c_X8_trainOf (C.2.2.2.2.2.2.2) (by omega) h) (fun v9 S' F' I' hq9 => ?_) (K_out C M) rfl
  clear h
  obtain ⟨z2, rfl, rfl, rfl, rfl, h⟩ := hq9
  refine K_astore C [vr (some x0), vi x1, vi x2, vi x3, vr (some z2), vl 0] dX8_plan_5 (Nat.le_of_ble_eq_true rfl) rfl ?_
  refine J_iload_n C dX8_plan_7 rfl rfl ?_
  refine J_iconst C dX8_plan_8 (rg_of (by decide)) ?_
  refine J_sipush C dX8_plan_9 (by decide +kernel) (rg_of (by decide)) ?_
  refine K_S C M [vi x2, vi 0, vi 20000] [] mi_X8_requireRange wg_347 wg_348 dX8_plan_12 rfl rfl (by decide) (Nat.le_of_ble_eq_true rfl) (c_X8_requireRange (C.2.2.2.2.2.2.2) (by omega) h) (fun v9 S' F' I' hq9 => ?_) (K_out C M) rfl
  clear h
  obtain ⟨rfl, rfl, rfl, rfl, h⟩ := hq9
  refine J_iload_n C dX8_plan_15 rfl rfl ?_
  refine J_iconst C dX8_plan_16 (rg_of (by decide)) ?_
  refine J_bipush C dX8_plan_17 (by decide +kernel) (rg_of (by decide)) ?_
  refine K_S C M [vi x3, vi 0, vi 9] [] mi_X8_requireRange wg_347 wg_348 dX8_plan_19 rfl rfl (by decide) (Nat.le_of_ble_eq_true rfl) (c_X8_requireRange (C.2.2.2.2.2.2.2) (by omega) h) (fun v9 S' F' I' hq9 => ?_) (K_out C M) rfl
  clear h
  obtain ⟨rfl, rfl, rfl, rfl, h⟩ := hq9
  refine J_aload C dX8_plan_22 rfl ?_
  obtain ⟨hK3, h⟩ := h
  refine K_V C M [] [] mi_X7_stands wg_714 wg_715 wg_716 ⟨rfl, by decide⟩ dX8_plan_24 hK3 rfl rfl (by decide) (Nat.le_of_ble_eq_true rfl) (c_X7_stands (C.2.2.2.2.2.2.2) (by omega) h) (fun v9 S' F' I' hq9 => ?_) K_no rfl
  clear h
  obtain ⟨z4, rfl, rfl, rfl, rfl, h⟩ := hq9
  refine J_if_eq C dX8_plan_27 (tgt := 44) rfl (fun c27 => ?_) (fun c27 => ?_)
  · have h := h.1 c27
    refine J_less [vr (some x0), vl 0, vi x2, vi x3, vr (some z2), vl 0] (by unfold lessL; simp [lessL]) ?_
    exact S_X8_plan_44 C M (by omega)  h
  · have h := h.2 c27
    refine J_aload_n C dX8_plan_30 rfl rfl ?_
    obtain ⟨r5, hr6, h⟩ := h
    refine J_getR C fo_9_9 rfl fl_RX8_52 dX8_plan_31 hK1 hr6 ?_
    obtain ⟨hK7, h⟩ := h
    refine J_getI C fo_6_1 rfl fl_RX8_230 dX8_plan_34 hK7 ?_
    refine J_if_le C dX8_plan_37 (tgt := 44) rfl (fun c37 => ?_) (fun c37 => ?_)
    · have h := h.1 c37
      refine J_less [vr (some x0), vl 0, vi x2, vi x3, vr (some z2), vl 0] (by unfold lessL; simp [lessL]) ?_
      exact S_X8_plan_44 C M (by omega)  h
    · have h := h.2 c37
      refine J_iconst C dX8_plan_40 (rg_of (by decide)) ?_
      refine J_goto C dX8_plan_41 (tgt := 45) rfl ?_
      refine J_less [vr (some x0), vl 0, vi x2, vi x3, vr (some z2), vl 0] (by unfold lessL; simp [lessL]) ?_
      exact S_X8_plan_45 C M (by omega)  h
theorem c_X8_plan {l : Launch} {G : Gp} {d : Nat} {x0 : Nat} {x1 : Int} {x2 : Int} {x3 : Int} {S : Shp} {F : Fl} {I : Il} {Q : Int → Shp → Fl → Il → Prop} {QX : String → Shp → Fl → Il → Prop} (hl : l.stackTraces = false) (hd : 11 ≤ d) (h : V_X8_plan x0 x1 x2 x3 S F I Q QX) : CM l G d yX8_plan (.code yX8_plan cX8_plan 6 (some .int)) [vr (some x0), vi x1, vi x2, vi x3] S F I (qI fun z S' F' I' => Q z S' F' I') QX :=
  CM_ofM [vr (some x0), vi x1, vi x2, vi x3, vl 0, vl 0] hl (by decide +kernel) (kn1 trivial (kn1 trivial (kn1 trivial (kn1 trivial kn0)))) (Nat.le_of_ble_eq_true rfl) rfl (fun X hX C M => S_X8_plan C M hd h)
set_option maxRecDepth 20000 in
set_option maxHeartbeats 4000000 in
theorem S_X8_repair_34 {G : Gp} {X : Xt} {d : Nat}  {x0 : Nat} {x2 : Nat} {s0 : Int} {Q : Int → Fl → Prop} {QX : String → Shp → Fl → Il → Prop} {S : Shp} {F : Fl} {I : Il} (C : CO G RX8 cX8_repair 4 X) (M : MX d (some .int) "repair" X) (hd : 10 ≤ d)  (h : V_X8_repair_34 x0 x2 s0 S F I Q QX) : J G X (QD X G (qI fun z S' F' I' => S = S' ∧ I = I' ∧ Q z F') QX) 34 [vr (some x0), vl 0, vr (some x2), vl 0] [vi s0] S F I := by
  unfold V_X8_repair_34 at h
  obtain ⟨d, rfl⟩ : ∃ d9, d = d9 + 1 := ⟨d - 1, by omega⟩
  refine K_S C M [vi s0] [] mi_X8_requireState wg_354 wg_355 dX8_repair_34 rfl rfl (by decide) (Nat.le_of_ble_eq_true rfl) (c_X8_requireState (C.2.2.2.2.2.2.2) (by omega) h) (fun v9 S' F' I' hq9 => ?_) (K_out C M) rfl
  clear h
  obtain ⟨rfl, rfl, rfl, rfl, h⟩ := hq9
  refine J_iconst C dX8_repair_37 (rg_of (by decide)) ?_
  refine J_aload_n C dX8_repair_38 rfl rfl ?_
  obtain ⟨hK1, h⟩ := h
  refine J_getI C fo_2_4 rfl fl_RX8_145 dX8_repair_39 hK1 ?_
  refine J_imul C dX8_repair_42 ?_
  refine K_istore_n C [vr (some x0), vl 0, vr (some x2), vi (w32 (5 * (F 204 x2)))] dX8_repair_43 rfl (Nat.le_of_ble_eq_true rfl) rfl ?_
  refine J_aload_n C dX8_repair_44 rfl rfl ?_
  refine J_dup C dX8_repair_45 trivial ?_
  obtain ⟨hK2, h⟩ := h
  refine J_getI C fo_9_13 rfl fl_RX8_66 dX8_repair_46 hK2 ?_
  refine J_iload_n C dX8_repair_49 rfl rfl ?_
  refine J_isub C dX8_repair_50 ?_
  refine J_putI C fo_9_13 fp_9 fl_RX8_66 (Or.inl rfl) (Or.inl rfl) dX8_repair_51 hK2 ?_
  refine J_aload_n C dX8_repair_54 rfl rfl ?_
  refine J_iconst C dX8_repair_55 (rg_of (by decide)) ?_
  refine J_putI C fo_2_4 fp_2 fl_RX8_145 (Or.inl rfl) (Or.inl rfl) dX8_repair_56 hK1 ?_
  refine J_aload_n C dX8_repair_59 rfl rfl ?_
  refine J_aload_n C dX8_repair_60 rfl rfl ?_
  refine J_getI C fo_9_12 rfl fl_RX8_62 dX8_repair_61 hK2 ?_
  refine J_bipush C dX8_repair_64 (by decide +kernel) (rg_of (by decide)) ?_
  refine J_iadd C dX8_repair_66 ?_
  refine J_putI C fo_2_9 fp_2 fl_RX8_148 (Or.inl rfl) (Or.inl rfl) dX8_repair_67 hK1 ?_
  refine J_iload_n C dX8_repair_70 rfl rfl ?_
  exact J_iret C dX8_repair_71 M.2.2.1 ⟨_, rfl, rfl, rfl, h⟩
set_option maxRecDepth 20000 in
set_option maxHeartbeats 4000000 in
theorem S_X8_repair_33 {G : Gp} {X : Xt} {d : Nat}  {x0 : Nat} {x2 : Nat} {Q : Int → Fl → Prop} {QX : String → Shp → Fl → Il → Prop} {S : Shp} {F : Fl} {I : Il} (C : CO G RX8 cX8_repair 4 X) (M : MX d (some .int) "repair" X) (hd : 10 ≤ d)  (h : V_X8_repair_33 x0 x2 S F I Q QX) : J G X (QD X G (qI fun z S' F' I' => S = S' ∧ I = I' ∧ Q z F') QX) 33 [vr (some x0), vl 0, vr (some x2), vl 0] [] S F I := by
  unfold V_X8_repair_33 at h
  refine J_iconst C dX8_repair_33 (rg_of (by decide)) ?_
  exact S_X8_repair_34 C M (by omega)  h
set_option maxRecDepth 20000 in
set_option maxHeartbeats 4000000 in
theorem S_X8_repair {G : Gp} {X : Xt} {d : Nat}  {x0 : Nat} {x1 : Int} {Q : Int → Fl → Prop} {QX : String → Shp → Fl → Il → Prop} {S : Shp} {F : Fl} {I : Il} (C : CO G RX8 cX8_repair 4 X) (M : MX d (some .int) "repair" X) (hd : 10 ≤ d)  (h : V_X8_repair x0 x1 S F I Q QX) : J G X (QD X G (qI fun z S' F' I' => S = S' ∧ I = I' ∧ Q z F') QX) 0 [vr (some x0), vi x1, vl 0, vl 0] [] S F I := by
  unfold V_X8_repair at h
  obtain ⟨d, rfl⟩ : ∃ d9, d = d9 + 1 := ⟨d - 1, by omega⟩
  refine J_aload_n C dX8_repair_0 rfl rfl ?_
  refine J_iload_n C dX8_repair_1 rfl rfl ?_
  obtain ⟨hK1, h⟩ := h
  refine K_V C M [vi x1] [] mi_X8_blockOf wg_492 wg_494 wg_5 ⟨rfl, by decide⟩ dX8_repair_2 hK1 rfl rfl (by decide) (Nat.le_of_ble_eq_true rfl) (c_X8_blockOf (C.2.2.2.2.2.2.2) (by omega) h) (fun v9 S' F' I' hq9 => ?_) (K_out C M) rfl
  clear h
  obtain ⟨z2, rfl, rfl, rfl, rfl, h⟩ := hq9
  refine K_astore_n C [vr (some x0), vi x1, vr (some z2), vl 0] dX8_repair_5 rfl (Nat.le_of_ble_eq_true rfl) rfl ?_
  refine J_aload_n C dX8_repair_6 rfl rfl ?_
  refine J_aload_n C dX8_repair_7 rfl rfl ?_
  refine J_getI C fo_9_12 rfl fl_RX8_62 dX8_repair_8 hK1 ?_
  obtain ⟨hK3, h⟩ := h
  refine K_V C M [vi (F 912 x0)] [] mi_X1_holderAt wg_718 wg_719 wg_720 ⟨rfl, by decide⟩ dX8_repair_11 hK3 rfl rfl (by decide) (Nat.le_of_ble_eq_true rfl) (c_X1_holderAt (C.2.2.2.2.2.2.2) (by omega) h) (fun v9 S' F' I' hq9 => ?_) K_no rfl
  clear h
  obtain ⟨z4, rfl, rfl, rfl, rfl, h⟩ := hq9
  refine J_iconst C dX8_repair_14 (rg_of (by decide)) ?_
  refine J_icmp_ne C dX8_repair_15 (tgt := 33) rfl (fun c15 => ?_) (fun c15 => ?_)
  · have h := h.1 c15
    refine J_less [vr (some x0), vl 0, vr (some z2), vl 0] (by unfold lessL; simp [lessL]) ?_
    exact S_X8_repair_33 C M (by omega)  h
  · have h := h.2 c15
    refine J_aload_n C dX8_repair_18 rfl rfl ?_
    refine J_aload_n C dX8_repair_19 rfl rfl ?_
    refine J_getI C fo_9_12 rfl fl_RX8_62 dX8_repair_20 hK1 ?_
    refine K_V C M [vi (F 912 x0)] [] mi_X1_isClosedAt wg_722 wg_723 wg_724 ⟨rfl, by decide⟩ dX8_repair_23 hK3 rfl rfl (by decide) (Nat.le_of_ble_eq_true rfl) (c_X1_isClosedAt (C.2.2.2.2.2.2.2) (by omega) h) (fun v9 S' F' I' hq9 => ?_) K_no rfl
    clear h
    obtain ⟨z5, rfl, rfl, rfl, rfl, h⟩ := hq9
    refine J_if_ne C dX8_repair_26 (tgt := 33) rfl (fun c26 => ?_) (fun c26 => ?_)
    · have h := h.1 c26
      refine J_less [vr (some x0), vl 0, vr (some z2), vl 0] (by unfold lessL; simp [lessL]) ?_
      exact S_X8_repair_33 C M (by omega)  h
    · have h := h.2 c26
      refine J_iconst C dX8_repair_29 (rg_of (by decide)) ?_
      refine J_goto C dX8_repair_30 (tgt := 34) rfl ?_
      refine J_less [vr (some x0), vl 0, vr (some z2), vl 0] (by unfold lessL; simp [lessL]) ?_
      exact S_X8_repair_34 C M (by omega)  h
theorem c_X8_repair {l : Launch} {G : Gp} {d : Nat} {x0 : Nat} {x1 : Int} {S : Shp} {F : Fl} {I : Il} {Q : Int → Fl → Prop} {QX : String → Shp → Fl → Il → Prop} (hl : l.stackTraces = false) (hd : 10 ≤ d) (h : V_X8_repair x0 x1 S F I Q QX) : CM l G d yX8_repair (.code yX8_repair cX8_repair 4 (some .int)) [vr (some x0), vi x1] S F I (qI fun z S' F' I' => S = S' ∧ I = I' ∧ Q z F') QX :=
  CM_ofM [vr (some x0), vi x1, vl 0, vl 0] hl (by decide +kernel) (kn1 trivial (kn1 trivial kn0)) (Nat.le_of_ble_eq_true rfl) rfl (fun X hX C M => S_X8_repair C M hd h)
set_option maxRecDepth 20000 in
set_option maxHeartbeats 4000000 in
theorem S_X8_rest_52 {G : Gp} {X : Xt} {d : Nat}  {x0 : Nat} {x2 : Nat} {s0 : Int} {Q : Int → Fl → Prop} {QX : String → Shp → Fl → Il → Prop} {S : Shp} {F : Fl} {I : Il} (C : CO G RX8 cX8_rest 3 X) (M : MX d (some .int) "rest" X) (hd : 11 ≤ d)  (h : V_X8_rest_52 x0 x2 s0 S F I Q QX) : J G X (QD X G (qI fun z S' F' I' => S = S' ∧ I = I' ∧ Q z F') QX) 52 [vr (some x0), vl 0, vr (some x2)] [vi s0] S F I := by
  unfold V_X8_rest_52 at h
  obtain ⟨d, rfl⟩ : ∃ d9, d = d9 + 1 := ⟨d - 1, by omega⟩
  refine K_S C M [vi s0] [] mi_X8_requireState wg_354 wg_355 dX8_rest_52 rfl rfl (by decide) (Nat.le_of_ble_eq_true rfl) (c_X8_requireState (C.2.2.2.2.2.2.2) (by omega) h) (fun v9 S' F' I' hq9 => ?_) (K_out C M) rfl
  clear h
  obtain ⟨rfl, rfl, rfl, rfl, h⟩ := hq9
  refine J_aload_n C dX8_rest_55 rfl rfl ?_
  refine J_iconst C dX8_rest_56 (rg_of (by decide)) ?_
  obtain ⟨hK1, h⟩ := h
  refine J_putI C fo_4_3 fp_4 fl_RX8_188 (Or.inl rfl) (Or.inl rfl) dX8_rest_57 hK1 ?_
  refine J_aload_n C dX8_rest_60 rfl rfl ?_
  refine J_aload_n C dX8_rest_61 rfl rfl ?_
  obtain ⟨hK2, h⟩ := h
  refine J_getI C fo_9_12 rfl fl_RX8_62 dX8_rest_62 hK2 ?_
  refine J_sipush C dX8_rest_65 (by decide +kernel) (rg_of (by decide)) ?_
  refine J_iadd C dX8_rest_68 ?_
  refine J_putI C fo_4_4 fp_4 fl_RX8_191 (Or.inl rfl) (Or.inl rfl) dX8_rest_69 hK1 ?_
  refine J_aload_n C dX8_rest_72 rfl rfl ?_
  refine J_getI C fo_4_4 rfl fl_RX8_191 dX8_rest_73 hK1 ?_
  exact J_iret C dX8_rest_76 M.2.2.1 ⟨_, rfl, rfl, rfl, h⟩
set_option maxRecDepth 20000 in
set_option maxHeartbeats 4000000 in
theorem S_X8_rest_47 {G : Gp} {X : Xt} {d : Nat}  {x0 : Nat} {x2 : Nat} {Q : Int → Fl → Prop} {QX : String → Shp → Fl → Il → Prop} {S : Shp} {F : Fl} {I : Il} (C : CO G RX8 cX8_rest 3 X) (M : MX d (some .int) "rest" X) (hd : 11 ≤ d)  (h : V_X8_rest_47 x0 x2 S F I Q QX) : J G X (QD X G (qI fun z S' F' I' => S = S' ∧ I = I' ∧ Q z F') QX) 47 [vr (some x0), vl 0, vr (some x2)] [] S F I := by
  unfold V_X8_rest_47 at h
  refine J_iconst C dX8_rest_47 (rg_of (by decide)) ?_
  refine J_goto C dX8_rest_48 (tgt := 52) rfl ?_
  exact S_X8_rest_52 C M (by omega)  h
set_option maxRecDepth 20000 in
set_option maxHeartbeats 4000000 in
theorem S_X8_rest_22 {G : Gp} {X : Xt} {d : Nat}  {x0 : Nat} {x2 : Nat} {s0 : Int} {Q : Int → Fl → Prop} {QX : String → Shp → Fl → Il → Prop} {S : Shp} {F : Fl} {I : Il} (C : CO G RX8 cX8_rest 3 X) (M : MX d (some .int) "rest" X) (hd : 11 ≤ d)  (h : V_X8_rest_22 x0 x2 s0 S F I Q QX) : J G X (QD X G (qI fun z S' F' I' => S = S' ∧ I = I' ∧ Q z F') QX) 22 [vr (some x0), vl 0, vr (some x2)] [vi s0] S F I := by
  unfold V_X8_rest_22 at h
  obtain ⟨d, rfl⟩ : ∃ d9, d = d9 + 1 := ⟨d - 1, by omega⟩
  refine K_S C M [vi s0] [] mi_X8_requireState wg_354 wg_355 dX8_rest_22 rfl rfl (by decide) (Nat.le_of_ble_eq_true rfl) (c_X8_requireState (C.2.2.2.2.2.2.2) (by omega) h) (fun v9 S' F' I' hq9 => ?_) (K_out C M) rfl
  clear h
  obtain ⟨rfl, rfl, rfl, rfl, h⟩ := hq9
  refine J_aload_n C dX8_rest_25 rfl rfl ?_
  obtain ⟨hK1, h⟩ := h
  refine J_getI C fo_4_1 rfl fl_RX8_177 dX8_rest_26 hK1 ?_
  refine J_iconst C dX8_rest_29 (rg_of (by decide)) ?_
  refine J_icmp_eq C dX8_rest_30 (tgt := 47) rfl (fun c30 => ?_) (fun c30 => ?_)
  · have h := h.1 c30
    exact S_X8_rest_47 C M (by omega)  h
  · have h := h.2 c30
    refine J_aload_n C dX8_rest_33 rfl rfl ?_
    refine J_aload_n C dX8_rest_34 rfl rfl ?_
    refine J_getI C fo_4_1 rfl fl_RX8_177 dX8_rest_35 hK1 ?_
    obtain ⟨hK2, h⟩ := h
    refine K_V C M [vi (F 401 x2)] [] mi_X8_trainOf wg_648 wg_650 wg_9 ⟨rfl, by decide⟩ dX8_rest_38 hK2 rfl rfl (by decide) (Nat.le_of_ble_eq_true rfl) (c_X8_trainOf (C.2.2.2.2.2.2.2) (by omega) h) (fun v9 S' F' I' hq9 => ?_) (K_out C M) rfl
    clear h
    obtain ⟨z3, rfl, rfl, rfl, rfl, h⟩ := hq9
    obtain ⟨hK4, h⟩ := h
    refine K_V C M [] [] mi_X7_stands wg_714 wg_715 wg_716 ⟨rfl, by decide⟩ dX8_rest_41 hK4 rfl rfl (by decide) (Nat.le_of_ble_eq_true rfl) (c_X7_stands (C.2.2.2.2.2.2.2) (by omega) h) (fun v9 S' F' I' hq9 => ?_) K_no rfl
    clear h
    obtain ⟨z5, rfl, rfl, rfl, rfl, h⟩ := hq9
    refine J_if_eq C dX8_rest_44 (tgt := 51) rfl (fun c44 => ?_) (fun c44 => ?_)
    · have h := h.1 c44
      refine J_iconst C dX8_rest_51 (rg_of (by decide)) ?_
      exact S_X8_rest_52 C M (by omega)  h
    · have h := h.2 c44
      exact S_X8_rest_47 C M (by omega)  h
set_option maxRecDepth 20000 in
set_option maxHeartbeats 4000000 in
theorem S_X8_rest {G : Gp} {X : Xt} {d : Nat}  {x0 : Nat} {x1 : Int} {Q : Int → Fl → Prop} {QX : String → Shp → Fl → Il → Prop} {S : Shp} {F : Fl} {I : Il} (C : CO G RX8 cX8_rest 3 X) (M : MX d (some .int) "rest" X) (hd : 11 ≤ d)  (h : V_X8_rest x0 x1 S F I Q QX) : J G X (QD X G (qI fun z S' F' I' => S = S' ∧ I = I' ∧ Q z F') QX) 0 [vr (some x0), vi x1, vl 0] [] S F I := by
  unfold V_X8_rest at h
  obtain ⟨d, rfl⟩ : ∃ d9, d = d9 + 1 := ⟨d - 1, by omega⟩
  refine J_aload_n C dX8_rest_0 rfl rfl ?_
  refine J_iload_n C dX8_rest_1 rfl rfl ?_
  obtain ⟨hK1, h⟩ := h
  refine K_V C M [vi x1] [] mi_X8_crewOf wg_576 wg_578 wg_6 ⟨rfl, by decide⟩ dX8_rest_2 hK1 rfl rfl (by decide) (Nat.le_of_ble_eq_true rfl) (c_X8_crewOf (C.2.2.2.2.2.2.2) (by omega) h) (fun v9 S' F' I' hq9 => ?_) (K_out C M) rfl
  clear h
  obtain ⟨z2, rfl, rfl, rfl, rfl, h⟩ := hq9
  refine K_astore_n C [vr (some x0), vi x1, vr (some z2)] dX8_rest_5 rfl (Nat.le_of_ble_eq_true rfl) rfl ?_
  refine J_aload_n C dX8_rest_6 rfl rfl ?_
  refine J_aload_n C dX8_rest_7 rfl rfl ?_
  refine J_getI C fo_9_12 rfl fl_RX8_62 dX8_rest_8 hK1 ?_
  obtain ⟨hK3, h⟩ := h
  refine K_V C M [vi (F 912 x0)] [] mi_X3_isRestingAt wg_737 wg_738 wg_739 ⟨rfl, by decide⟩ dX8_rest_11 hK3 rfl rfl (by decide) (Nat.le_of_ble_eq_true rfl) (c_X3_isRestingAt (C.2.2.2.2.2.2.2) (by omega) h) (fun v9 S' F' I' hq9 => ?_) K_no rfl
  clear h
  obtain ⟨z4, rfl, rfl, rfl, rfl, h⟩ := hq9
  refine J_if_ne C dX8_rest_14 (tgt := 21) rfl (fun c14 => ?_) (fun c14 => ?_)
  · have h := h.1 c14
    refine J_iconst C dX8_rest_21 (rg_of (by decide)) ?_
    refine J_less [vr (some x0), vl 0, vr (some z2)] (by unfold lessL; simp [lessL]) ?_
    exact S_X8_rest_22 C M (by omega)  h
  · have h := h.2 c14
    refine J_iconst C dX8_rest_17 (rg_of (by decide)) ?_
    refine J_goto C dX8_rest_18 (tgt := 22) rfl ?_
    refine J_less [vr (some x0), vl 0, vr (some z2)] (by unfold lessL; simp [lessL]) ?_
    exact S_X8_rest_22 C M (by omega)  h
theorem c_X8_rest {l : Launch} {G : Gp} {d : Nat} {x0 : Nat} {x1 : Int} {S : Shp} {F : Fl} {I : Il} {Q : Int → Fl → Prop} {QX : String → Shp → Fl → Il → Prop} (hl : l.stackTraces = false) (hd : 11 ≤ d) (h : V_X8_rest x0 x1 S F I Q QX) : CM l G d yX8_rest (.code yX8_rest cX8_rest 3 (some .int)) [vr (some x0), vi x1] S F I (qI fun z S' F' I' => S = S' ∧ I = I' ∧ Q z F') QX :=
  CM_ofM [vr (some x0), vi x1, vl 0] hl (by decide +kernel) (kn1 trivial (kn1 trivial kn0)) (Nat.le_of_ble_eq_true rfl) rfl (fun X hX C M => S_X8_rest C M hd h)
set_option maxRecDepth 20000 in
set_option maxHeartbeats 4000000 in
theorem S_X8_run_66 {G : Gp} {X : Xt} {d : Nat} {k32 : Nat → Int → Int → Int → Fl → Il → Prop} {x0 : Nat} {x1 : Int} {x2 : Int} {x3 : Int} {Q : Int → Fl → Il → Prop} {QX : String → Shp → Fl → Il → Prop} {S : Shp} {F : Fl} {I : Il} (C : CO G RX8 cX8_run 4 X) (M : MX d (some .int) "run" X) (hd : 14 ≤ d) (hk32 : ∀ (x0 : Nat) (x1 : Int) (x2 : Int) (x3 : Int) (F' : Fl) (I' : Il), k32 x0 x1 x2 x3 F' I' → J G X (QD X G (qI fun z S' F' I' => S = S' ∧ Q z F' I') QX) 32 [vr (some x0), vi x1, vi x2, vi x3] [] S F' I') (h : V_X8_run_66 k32 x0 x1 x2 x3 S F I Q QX) : J G X (QD X G (qI fun z S' F' I' => S = S' ∧ Q z F' I') QX) 66 [vr (some x0), vi x1, vi x2, vi x3] [] S F I := by
  unfold V_X8_run_66 at h
  obtain ⟨d, rfl⟩ : ∃ d9, d = d9 + 1 := ⟨d - 1, by omega⟩
  refine J_iload_n C dX8_run_66 rfl rfl ?_
  refine J_aload_n C dX8_run_67 rfl rfl ?_
  obtain ⟨hK1, h⟩ := h
  refine K_V C M [] [vi x2] mi_X8_enterAll wg_694 wg_696 wg_15 ⟨rfl, by decide⟩ dX8_run_68 hK1 rfl rfl (by decide) (Nat.le_of_ble_eq_true rfl) (c_X8_enterAll (C.2.2.2.2.2.2.2) (by omega) h) (fun v9 S' F3 I' hq9 => ?_) (K_out C M) rfl
  clear h
  obtain ⟨z2, rfl, rfl, rfl, h⟩ := hq9
  refine J_iadd C dX8_run_71 ?_
  refine K_istore_n C [vr (some x0), vi x1, vi (w32 (x2 + z2)), vi x3] dX8_run_72 rfl (Nat.le_of_ble_eq_true rfl) rfl ?_
  refine K_iinc C [vr (some x0), vi x1, vi (w32 (x2 + z2)), vi (w32 (x3 + 1))] dX8_run_73 rfl rfl ?_
  refine J_goto C dX8_run_76 (tgt := 32) rfl ?_
  exact hk32 x0 x1 (w32 (x2 + z2)) (w32 (x3 + 1)) F3 I h
set_option maxRecDepth 20000 in
set_option maxHeartbeats 4000000 in
theorem S_X8_run_32 {G : Gp} {X : Xt} {d : Nat}  {S : Shp} {Q : Int → Fl → Il → Prop} {QX : String → Shp → Fl → Il → Prop} (C : CO G RX8 cX8_run 4 X) (M : MX d (some .int) "run" X) (hd : 14 ≤ d) (n9 : Nat)  : ∀ (x0 : Nat) (x1 : Int) (x2 : Int) (x3 : Int) (F : Fl) (I : Il), V_X8_run_32 n9 x0 x1 x2 x3 S F I Q QX → J G X (QD X G (qI fun z S' F' I' => S = S' ∧ Q z F' I') QX) 32 [vr (some x0), vi x1, vi x2, vi x3] [] S F I := by
  obtain ⟨d, rfl⟩ : ∃ d9, d = d9 + 1 := ⟨d - 1, by omega⟩
  induction n9 with
  | zero => intro x0 x1 x2 x3 F I h; exact h.elim
  | succ n ih =>
    intro x0 x1 x2 x3 F I h
    unfold V_X8_run_32 at h
    refine J_iload_n C dX8_run_32 rfl rfl ?_
    refine J_iload_n C dX8_run_33 rfl rfl ?_
    refine J_icmp_ge C dX8_run_34 (tgt := 79) rfl (fun c34 => ?_) (fun c34 => ?_)
    · have h := h.1 c34
      refine J_iload_n C dX8_run_79 rfl rfl ?_
      exact J_iret C dX8_run_80 M.2.2.1 ⟨_, rfl, rfl, h⟩
    · have h := h.2 c34
      refine J_aload_n C dX8_run_37 rfl rfl ?_
      refine J_dup C dX8_run_38 trivial ?_
      obtain ⟨hK1, h⟩ := h
      refine J_getI C fo_9_12 rfl fl_RX8_62 dX8_run_39 hK1 ?_
      refine J_iconst C dX8_run_42 (rg_of (by decide)) ?_
      refine J_iadd C dX8_run_43 ?_
      refine J_putI C fo_9_12 fp_9 fl_RX8_62 (Or.inl rfl) (Or.inl rfl) dX8_run_44 hK1 ?_
      refine J_aload_n C dX8_run_47 rfl rfl ?_
      refine K_V C M [] [] mi_X8_arriveAll wg_661 wg_663 wg_11 ⟨rfl, by decide⟩ dX8_run_48 hK1 rfl rfl (by decide) (Nat.le_of_ble_eq_true rfl) (c_X8_arriveAll (C.2.2.2.2.2.2.2) (by omega) h) (fun v9 S' F2 I3 hq9 => ?_) (K_out C M) rfl
      clear h
      obtain ⟨rfl, rfl, h⟩ := hq9
      refine J_aload_n C dX8_run_51 rfl rfl ?_
      refine J_getI C fo_9_12 rfl fl_RX8_62 dX8_run_52 hK1 ?_
      refine J_sipush C dX8_run_55 (by decide +kernel) (rg_of (by decide)) ?_
      refine J_irem C dX8_run_58 (by decide) ?_
      refine J_if_ne C dX8_run_59 (tgt := 66) rfl (fun c59 => ?_) (fun c59 => ?_)
      · have h := h.1 c59
        exact S_X8_run_66 C M (by omega) (fun y0 y1 y2 y3 F' I' h9 => ih y0 y1 y2 y3 F' I' h9) h
      · have h := h.2 c59
        refine J_aload_n C dX8_run_62 rfl rfl ?_
        refine K_V C M [] [] mi_X8_beginDay wg_685 wg_687 wg_13 ⟨rfl, by decide⟩ dX8_run_63 hK1 rfl rfl (by decide) (Nat.le_of_ble_eq_true rfl) (c_X8_beginDay (C.2.2.2.2.2.2.2) (by omega) h) (fun v9 S' F4 I' hq9 => ?_) (K_out C M) rfl
        clear h
        obtain ⟨rfl, rfl, rfl, h⟩ := hq9
        exact S_X8_run_66 C M (by omega) (fun y0 y1 y2 y3 F' I' h9 => ih y0 y1 y2 y3 F' I' h9) h
set_option maxRecDepth 20000 in
set_option maxHeartbeats 4000000 in
theorem S_X8_run_25 {G : Gp} {X : Xt} {d : Nat}  {x0 : Nat} {x1 : Int} {s0 : Int} {Q : Int → Fl → Il → Prop} {QX : String → Shp → Fl → Il → Prop} {S : Shp} {F : Fl} {I : Il} (C : CO G RX8 cX8_run 4 X) (M : MX d (some .int) "run" X) (hd : 14 ≤ d)  (h : V_X8_run_25 x0 x1 s0 S F I Q QX) : J G X (QD X G (qI fun z S' F' I' => S = S' ∧ Q z F' I') QX) 25 [vr (some x0), vi x1, vl 0, vl 0] [vi s0] S F I := by
  unfold V_X8_run_25 at h
  obtain ⟨d, rfl⟩ : ∃ d9, d = d9 + 1 := ⟨d - 1, by omega⟩
  refine K_S C M [vi s0] [] mi_X8_requireState wg_354 wg_355 dX8_run_25 rfl rfl (by decide) (Nat.le_of_ble_eq_true rfl) (c_X8_requireState (C.2.2.2.2.2.2.2) (by omega) h) (fun v9 S' F' I' hq9 => ?_) (K_out C M) rfl
  clear h
  obtain ⟨rfl, rfl, rfl, rfl, h⟩ := hq9
  refine J_iconst C dX8_run_28 (rg_of (by decide)) ?_
  refine K_istore_n C [vr (some x0), vi x1, vi 0, vl 0] dX8_run_29 rfl (Nat.le_of_ble_eq_true rfl) rfl ?_
  refine J_iconst C dX8_run_30 (rg_of (by decide)) ?_
  refine K_istore_n C [vr (some x0), vi x1, vi 0, vi 0] dX8_run_31 rfl (Nat.le_of_ble_eq_true rfl) rfl ?_
  obtain ⟨n9, h⟩ := h
  exact S_X8_run_32 C M (by omega) n9  _ _ _ _ _ _ h
set_option maxRecDepth 20000 in
set_option maxHeartbeats 4000000 in
theorem S_X8_run {G : Gp} {X : Xt} {d : Nat}  {x0 : Nat} {x1 : Int} {Q : Int → Fl → Il → Prop} {QX : String → Shp → Fl → Il → Prop} {S : Shp} {F : Fl} {I : Il} (C : CO G RX8 cX8_run 4 X) (M : MX d (some .int) "run" X) (hd : 14 ≤ d)  (h : V_X8_run x0 x1 S F I Q QX) : J G X (QD X G (qI fun z S' F' I' => S = S' ∧ Q z F' I') QX) 0 [vr (some x0), vi x1, vl 0, vl 0] [] S F I := by
  unfold V_X8_run at h
  obtain ⟨d, rfl⟩ : ∃ d9, d = d9 + 1 := ⟨d - 1, by omega⟩
  refine J_iload_n C dX8_run_0 rfl rfl ?_
  refine J_iconst C dX8_run_1 (rg_of (by decide)) ?_
  refine J_sipush C dX8_run_2 (by decide +kernel) (rg_of (by decide)) ?_
  refine K_S C M [vi x1, vi 1, vi 300] [] mi_X8_requireRange wg_347 wg_348 dX8_run_5 rfl rfl (by decide) (Nat.le_of_ble_eq_true rfl) (c_X8_requireRange (C.2.2.2.2.2.2.2) (by omega) h) (fun v9 S' F' I' hq9 => ?_) (K_out C M) rfl
  clear h
  obtain ⟨rfl, rfl, rfl, rfl, h⟩ := hq9
  refine J_aload_n C dX8_run_8 rfl rfl ?_
  obtain ⟨hK1, h⟩ := h
  refine J_getI C fo_9_12 rfl fl_RX8_62 dX8_run_9 hK1 ?_
  refine J_iload_n C dX8_run_12 rfl rfl ?_
  refine J_iadd C dX8_run_13 ?_
  refine J_sipush C dX8_run_14 (by decide +kernel) (rg_of (by decide)) ?_
  refine J_icmp_gt C dX8_run_17 (tgt := 24) rfl (fun c17 => ?_) (fun c17 => ?_)
  · have h := h.1 c17
    refine J_iconst C dX8_run_24 (rg_of (by decide)) ?_
    exact S_X8_run_25 C M (by omega)  h
  · have h := h.2 c17
    refine J_iconst C dX8_run_20 (rg_of (by decide)) ?_
    refine J_goto C dX8_run_21 (tgt := 25) rfl ?_
    exact S_X8_run_25 C M (by omega)  h
theorem c_X8_run {l : Launch} {G : Gp} {d : Nat} {x0 : Nat} {x1 : Int} {S : Shp} {F : Fl} {I : Il} {Q : Int → Fl → Il → Prop} {QX : String → Shp → Fl → Il → Prop} (hl : l.stackTraces = false) (hd : 14 ≤ d) (h : V_X8_run x0 x1 S F I Q QX) : CM l G d yX8_run (.code yX8_run cX8_run 4 (some .int)) [vr (some x0), vi x1] S F I (qI fun z S' F' I' => S = S' ∧ Q z F' I') QX :=
  CM_ofM [vr (some x0), vi x1, vl 0, vl 0] hl (by decide +kernel) (kn1 trivial (kn1 trivial kn0)) (Nat.le_of_ble_eq_true rfl) rfl (fun X hX C M => S_X8_run C M hd h)
set_option maxRecDepth 20000 in
set_option maxHeartbeats 4000000 in
theorem S_X8_tracks_26 {G : Gp} {X : Xt} {d : Nat}  {x2 : Int} {x3 : Nat} {s0 : Int} {Q : Int → Fl → Prop} {QX : String → Shp → Fl → Il → Prop} {S : Shp} {F : Fl} {I : Il} (C : CO G RX8 cX8_tracks 5 X) (M : MX d (some .int) "tracks" X) (hd : 10 ≤ d)  (h : V_X8_tracks_26 x2 x3 s0 S F I Q QX) : J G X (QD X G (qI fun z S' F' I' => S = S' ∧ I = I' ∧ Q z F') QX) 26 [vl 0, vl 0, vi x2, vr (some x3), vl 0] [vi s0] S F I := by
  unfold V_X8_tracks_26 at h
  obtain ⟨d, rfl⟩ : ∃ d9, d = d9 + 1 := ⟨d - 1, by omega⟩
  refine K_S C M [vi s0] [] mi_X8_requireState wg_354 wg_355 dX8_tracks_26 rfl rfl (by decide) (Nat.le_of_ble_eq_true rfl) (c_X8_requireState (C.2.2.2.2.2.2.2) (by omega) h) (fun v9 S' F' I' hq9 => ?_) (K_out C M) rfl
  clear h
  obtain ⟨rfl, rfl, rfl, rfl, h⟩ := hq9
  refine J_aload_n C dX8_tracks_29 rfl rfl ?_
  obtain ⟨hK1, h⟩ := h
  refine J_getI C fo_7_0 rfl fl_RX8_99 dX8_tracks_30 hK1 ?_
  refine K_istore C [vl 0, vl 0, vi x2, vr (some x3), vi (F 700 x3)] dX8_tracks_33 (Nat.le_of_ble_eq_true rfl) rfl ?_
  refine J_aload_n C dX8_tracks_35 rfl rfl ?_
  refine J_iload_n C dX8_tracks_36 rfl rfl ?_
  refine J_putI C fo_7_0 fp_7 fl_RX8_99 (Or.inl rfl) (Or.inl rfl) dX8_tracks_37 hK1 ?_
  refine J_iload C dX8_tracks_40 rfl ?_
  exact J_iret C dX8_tracks_42 M.2.2.1 ⟨_, rfl, rfl, rfl, h⟩
set_option maxRecDepth 20000 in
set_option maxHeartbeats 4000000 in
theorem S_X8_tracks {G : Gp} {X : Xt} {d : Nat}  {x0 : Nat} {x1 : Int} {x2 : Int} {Q : Int → Fl → Prop} {QX : String → Shp → Fl → Il → Prop} {S : Shp} {F : Fl} {I : Il} (C : CO G RX8 cX8_tracks 5 X) (M : MX d (some .int) "tracks" X) (hd : 10 ≤ d)  (h : V_X8_tracks x0 x1 x2 S F I Q QX) : J G X (QD X G (qI fun z S' F' I' => S = S' ∧ I = I' ∧ Q z F') QX) 0 [vr (some x0), vi x1, vi x2, vl 0, vl 0] [] S F I := by
  unfold V_X8_tracks at h
  obtain ⟨d, rfl⟩ : ∃ d9, d = d9 + 1 := ⟨d - 1, by omega⟩
  refine J_aload_n C dX8_tracks_0 rfl rfl ?_
  refine J_iload_n C dX8_tracks_1 rfl rfl ?_
  obtain ⟨hK1, h⟩ := h
  refine K_V C M [vi x1] [] mi_X8_stationOf wg_594 wg_596 wg_8 ⟨rfl, by decide⟩ dX8_tracks_2 hK1 rfl rfl (by decide) (Nat.le_of_ble_eq_true rfl) (c_X8_stationOf (C.2.2.2.2.2.2.2) (by omega) h) (fun v9 S' F' I' hq9 => ?_) (K_out C M) rfl
  clear h
  obtain ⟨z2, rfl, rfl, rfl, rfl, h⟩ := hq9
  refine K_astore_n C [vr (some x0), vi x1, vi x2, vr (some z2), vl 0] dX8_tracks_5 rfl (Nat.le_of_ble_eq_true rfl) rfl ?_
  refine J_iload_n C dX8_tracks_6 rfl rfl ?_
  refine J_iconst C dX8_tracks_7 (rg_of (by decide)) ?_
  refine J_iconst C dX8_tracks_8 (rg_of (by decide)) ?_
  refine K_S C M [vi x2, vi 1, vi 4] [] mi_X8_requireRange wg_347 wg_348 dX8_tracks_9 rfl rfl (by decide) (Nat.le_of_ble_eq_true rfl) (c_X8_requireRange (C.2.2.2.2.2.2.2) (by omega) h) (fun v9 S' F' I' hq9 => ?_) (K_out C M) rfl
  clear h
  obtain ⟨rfl, rfl, rfl, rfl, h⟩ := hq9
  refine J_aload_n C dX8_tracks_12 rfl rfl ?_
  refine J_iload_n C dX8_tracks_13 rfl rfl ?_
  refine K_V C M [vi x1] [] mi_X8_takenTracks wg_749 wg_751 wg_22 ⟨rfl, by decide⟩ dX8_tracks_14 hK1 rfl rfl (by decide) (Nat.le_of_ble_eq_true rfl) (c_X8_takenTracks (C.2.2.2.2.2.2.2) (by omega) h) (fun v9 S' F' I' hq9 => ?_) K_no rfl
  clear h
  obtain ⟨z3, rfl, rfl, rfl, rfl, h⟩ := hq9
  refine J_iload_n C dX8_tracks_17 rfl rfl ?_
  refine J_icmp_gt C dX8_tracks_18 (tgt := 25) rfl (fun c18 => ?_) (fun c18 => ?_)
  · have h := h.1 c18
    refine J_iconst C dX8_tracks_25 (rg_of (by decide)) ?_
    refine J_less [vl 0, vl 0, vi x2, vr (some z2), vl 0] (by unfold lessL; simp [lessL]) ?_
    exact S_X8_tracks_26 C M (by omega)  h
  · have h := h.2 c18
    refine J_iconst C dX8_tracks_21 (rg_of (by decide)) ?_
    refine J_goto C dX8_tracks_22 (tgt := 26) rfl ?_
    refine J_less [vl 0, vl 0, vi x2, vr (some z2), vl 0] (by unfold lessL; simp [lessL]) ?_
    exact S_X8_tracks_26 C M (by omega)  h
theorem c_X8_tracks {l : Launch} {G : Gp} {d : Nat} {x0 : Nat} {x1 : Int} {x2 : Int} {S : Shp} {F : Fl} {I : Il} {Q : Int → Fl → Prop} {QX : String → Shp → Fl → Il → Prop} (hl : l.stackTraces = false) (hd : 10 ≤ d) (h : V_X8_tracks x0 x1 x2 S F I Q QX) : CM l G d yX8_tracks (.code yX8_tracks cX8_tracks 5 (some .int)) [vr (some x0), vi x1, vi x2] S F I (qI fun z S' F' I' => S = S' ∧ I = I' ∧ Q z F') QX :=
  CM_ofM [vr (some x0), vi x1, vi x2, vl 0, vl 0] hl (by decide +kernel) (kn1 trivial (kn1 trivial (kn1 trivial kn0))) (Nat.le_of_ble_eq_true rfl) rfl (fun X hX C M => S_X8_tracks C M hd h)
set_option maxRecDepth 20000 in
set_option maxHeartbeats 4000000 in
theorem S_X8_train {G : Gp} {X : Xt} {d : Nat}  {x0 : Nat} {x1 : Int} {x2 : Int} {Q : Int → Prop} {QX : String → Shp → Fl → Il → Prop} {S : Shp} {F : Fl} {I : Il} (C : CO G RX8 cX8_train 4 X) (M : MX d (some .int) "train" X) (hd : 11 ≤ d)  (h : V_X8_train x0 x1 x2 S F I Q QX) : J G X (QD X G (qI fun z S' F' I' => S = S' ∧ F = F' ∧ I = I' ∧ Q z) QX) 0 [vr (some x0), vi x1, vi x2, vl 0] [] S F I := by
  unfold V_X8_train at h
  obtain ⟨d, rfl⟩ : ∃ d9, d = d9 + 1 := ⟨d - 1, by omega⟩
  refine J_aload_n C dX8_train_0 rfl rfl ?_
  refine J_iload_n C dX8_train_1 rfl rfl ?_
  obtain ⟨hK1, h⟩ := h
  refine K_V C M [vi x1] [] mi_X8_trainOf wg_648 wg_650 wg_9 ⟨rfl, by decide⟩ dX8_train_2 hK1 rfl rfl (by decide) (Nat.le_of_ble_eq_true rfl) (c_X8_trainOf (C.2.2.2.2.2.2.2) (by omega) h) (fun v9 S' F' I' hq9 => ?_) (K_out C M) rfl
  clear h
  obtain ⟨z2, rfl, rfl, rfl, rfl, h⟩ := hq9
  refine K_astore_n C [vr (some x0), vi x1, vi x2, vr (some z2)] dX8_train_5 rfl (Nat.le_of_ble_eq_true rfl) rfl ?_
  refine J_iload_n C dX8_train_6 rfl rfl ?_
  refine J_bipush C dX8_train_7 (by decide +kernel) (rg_of (by decide)) ?_
  refine K_S C M [vi x2, vi 7] [] mi_X8_requireIndex wg_257 wg_258 dX8_train_9 rfl rfl (by decide) (Nat.le_of_ble_eq_true rfl) (c_X8_requireIndex (C.2.2.2.2.2.2.2) (by omega) h) (fun v9 S' F' I' hq9 => ?_) (K_out C M) rfl
  clear h
  obtain ⟨rfl, rfl, rfl, rfl, h⟩ := hq9
  refine J_iload_n C dX8_train_12 rfl rfl ?_
  by_cases c13_0 : x2 = 0
  · have h := h.1 c13_0
    refine J_tableIn C dX8_train_13 (by omega) (by omega) (off := 39) (tgt := 52) (by rw [c13_0]; rfl) rfl ?_
    refine J_aload_n C dX8_train_52 rfl rfl ?_
    obtain ⟨hK3, h⟩ := h
    refine J_getI C fo_8_1 rfl fl_RX8_277 dX8_train_53 hK3 ?_
    exact J_iret C dX8_train_56 M.2.2.1 ⟨_, rfl, rfl, rfl, rfl, h⟩
  by_cases c13_1 : x2 = 1
  · have h := h.2.1 c13_1
    refine J_tableIn C dX8_train_13 (by omega) (by omega) (off := 44) (tgt := 57) (by rw [c13_1]; rfl) rfl ?_
    refine J_aload_n C dX8_train_57 rfl rfl ?_
    obtain ⟨hK4, h⟩ := h
    refine J_getI C fo_8_5 rfl fl_RX8_236 dX8_train_58 hK4 ?_
    exact J_iret C dX8_train_61 M.2.2.1 ⟨_, rfl, rfl, rfl, rfl, h⟩
  by_cases c13_2 : x2 = 2
  · have h := h.2.2.1 c13_2
    refine J_tableIn C dX8_train_13 (by omega) (by omega) (off := 49) (tgt := 62) (by rw [c13_2]; rfl) rfl ?_
    refine J_aload_n C dX8_train_62 rfl rfl ?_
    obtain ⟨hK5, h⟩ := h
    refine J_getI C fo_8_6 rfl fl_RX8_322 dX8_train_63 hK5 ?_
    exact J_iret C dX8_train_66 M.2.2.1 ⟨_, rfl, rfl, rfl, rfl, h⟩
  by_cases c13_3 : x2 = 3
  · have h := h.2.2.2.1 c13_3
    refine J_tableIn C dX8_train_13 (by omega) (by omega) (off := 54) (tgt := 67) (by rw [c13_3]; rfl) rfl ?_
    refine J_aload_n C dX8_train_67 rfl rfl ?_
    obtain ⟨hK6, h⟩ := h
    refine J_getI C fo_8_8 rfl fl_RX8_250 dX8_train_68 hK6 ?_
    exact J_iret C dX8_train_71 M.2.2.1 ⟨_, rfl, rfl, rfl, rfl, h⟩
  by_cases c13_4 : x2 = 4
  · have h := h.2.2.2.2.1 c13_4
    refine J_tableIn C dX8_train_13 (by omega) (by omega) (off := 59) (tgt := 72) (by rw [c13_4]; rfl) rfl ?_
    refine J_aload_n C dX8_train_72 rfl rfl ?_
    obtain ⟨hK7, h⟩ := h
    obtain ⟨r8, hr9, h⟩ := h
    refine J_getR C fo_8_9 rfl fl_RX8_228 dX8_train_73 hK7 hr9 ?_
    obtain ⟨hK10, h⟩ := h
    refine J_getI C fo_6_1 rfl fl_RX8_230 dX8_train_76 hK10 ?_
    exact J_iret C dX8_train_79 M.2.2.1 ⟨_, rfl, rfl, rfl, rfl, h⟩
  by_cases c13_5 : x2 = 5
  · have h := h.2.2.2.2.2.1 c13_5
    refine J_tableIn C dX8_train_13 (by omega) (by omega) (off := 67) (tgt := 80) (by rw [c13_5]; rfl) rfl ?_
    refine J_aload_n C dX8_train_80 rfl rfl ?_
    obtain ⟨hK11, h⟩ := h
    obtain ⟨r12, hr13, h⟩ := h
    refine J_getR C fo_8_10 rfl fl_RX8_261 dX8_train_81 hK11 hr13 ?_
    obtain ⟨hK14, h⟩ := h
    refine J_getI C fo_6_1 rfl fl_RX8_230 dX8_train_84 hK14 ?_
    refine J_aload_n C dX8_train_87 rfl rfl ?_
    refine J_getI C fo_8_11 rfl fl_RX8_268 dX8_train_88 hK11 ?_
    refine J_isub C dX8_train_91 ?_
    exact J_iret C dX8_train_92 M.2.2.1 ⟨_, rfl, rfl, rfl, rfl, h⟩
  have c13 : x2 < 0 ∨ 5 < x2 := by omega
  have h := h.2.2.2.2.2.2 c13
  refine J_tableOut C dX8_train_13 c13 (tgt := 93) rfl ?_
  refine J_aload_n C dX8_train_93 rfl rfl ?_
  obtain ⟨hK15, h⟩ := h
  refine J_getI C fo_8_1 rfl fl_RX8_277 dX8_train_94 hK15 ?_
  refine J_iconst C dX8_train_97 (rg_of (by decide)) ?_
  refine J_icmp_ne C dX8_train_98 (tgt := 108) rfl (fun c98 => ?_) (fun c98 => ?_)
  · have h := h.1 c98
    refine J_iconst C dX8_train_108 (rg_of (by decide)) ?_
    exact J_iret C dX8_train_109 M.2.2.1 ⟨_, rfl, rfl, rfl, rfl, h⟩
  · have h := h.2 c98
    refine J_aload_n C dX8_train_101 rfl rfl ?_
    refine J_getI C fo_8_7 rfl fl_RX8_368 dX8_train_102 hK15 ?_
    refine J_goto C dX8_train_105 (tgt := 109) rfl ?_
    exact J_iret C dX8_train_109 M.2.2.1 ⟨_, rfl, rfl, rfl, rfl, h⟩
theorem c_X8_train {l : Launch} {G : Gp} {d : Nat} {x0 : Nat} {x1 : Int} {x2 : Int} {S : Shp} {F : Fl} {I : Il} {Q : Int → Prop} {QX : String → Shp → Fl → Il → Prop} (hl : l.stackTraces = false) (hd : 11 ≤ d) (h : V_X8_train x0 x1 x2 S F I Q QX) : CM l G d yX8_train (.code yX8_train cX8_train 4 (some .int)) [vr (some x0), vi x1, vi x2] S F I (qI fun z S' F' I' => S = S' ∧ F = F' ∧ I = I' ∧ Q z) QX :=
  CM_ofM [vr (some x0), vi x1, vi x2, vl 0] hl (by decide +kernel) (kn1 trivial (kn1 trivial (kn1 trivial kn0))) (Nat.le_of_ble_eq_true rfl) rfl (fun X hX C M => S_X8_train C M hd h)
