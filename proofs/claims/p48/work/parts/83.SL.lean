set_option maxRecDepth 20000 in
set_option maxHeartbeats 4000000 in
theorem S_L_runs_46 {G : Gp} {X : Xt} {d : Nat}  {x1 : Int} {x2 : Nat} {s0 : Int} {s1 : Int} {Q : Int → Prop} {S : Shp} {F : Fl} {I : Il} (C : CO G RL cL_runs 5 X) (M : MX d (some .int) "runs" X) (hd : 1 ≤ d)  (h : V_L_runs_46 x1 x2 s0 s1 S F I Q) : J G X (QD X G (qI fun z S' F' I' => S = S' ∧ F = F' ∧ I = I' ∧ Q z) noX) 46 [vl 0, vi x1, vr (some x2), vl 0, vl 0] [vi s0, vi s1] S F I := by
  unfold V_L_runs_46 at h
  refine J_iadd C dL_runs_46 ?_
  have h := h _ rfl
  refine K_istore C [vl 0, vi x1, vr (some x2), vl 0, vi (w32 (s1 + s0))] dL_runs_47 (Nat.le_of_ble_eq_true rfl) rfl ?_
  refine J_aload_n C dL_runs_49 rfl rfl ?_
  refine J_bipush C dL_runs_50 (by decide +kernel) (rg_of (by decide)) ?_
  refine J_iload_n C dL_runs_52 rfl rfl ?_
  refine J_iadd C dL_runs_53 ?_
  obtain ⟨hK2, h⟩ := h
  obtain ⟨h03, hn4, h⟩ := h
  refine J_iald C dL_runs_54 hK2 h03 hn4 ?_
  refine J_iconst C dL_runs_55 (rg_of (by decide)) ?_
  refine J_icmp_ne C dL_runs_56 (tgt := 66) rfl (fun c56 => ?_) (fun c56 => ?_)
  · have h := h.1 c56
    refine J_iload C dL_runs_66 rfl ?_
    exact J_iret C dL_runs_68 M.2.2.1 ⟨_, rfl, rfl, rfl, rfl, h⟩
  · have h := h.2 c56
    refine J_iload C dL_runs_59 rfl ?_
    refine J_iconst C dL_runs_61 (rg_of (by decide)) ?_
    refine J_imul C dL_runs_62 ?_
    refine J_goto C dL_runs_63 (tgt := 68) rfl ?_
    exact J_iret C dL_runs_68 M.2.2.1 ⟨_, rfl, rfl, rfl, rfl, h⟩
set_option maxRecDepth 20000 in
set_option maxHeartbeats 4000000 in
theorem S_L_runs {G : Gp} {X : Xt} {d : Nat}  {x0 : Int} {x1 : Int} {x2 : Nat} {x3 : Nat} {Q : Int → Prop} {S : Shp} {F : Fl} {I : Il} (C : CO G RL cL_runs 5 X) (M : MX d (some .int) "runs" X) (hd : 1 ≤ d)  (h : V_L_runs x0 x1 x2 x3 S F I Q) : J G X (QD X G (qI fun z S' F' I' => S = S' ∧ F = F' ∧ I = I' ∧ Q z) noX) 0 [vi x0, vi x1, vr (some x2), vr (some x3), vl 0] [] S F I := by
  unfold V_L_runs at h
  refine J_aload_n C dL_runs_0 rfl rfl ?_
  refine J_iload_n C dL_runs_1 rfl rfl ?_
  obtain ⟨hK1, h⟩ := h
  obtain ⟨h02, hn3, h⟩ := h
  refine J_iald C dL_runs_2 hK1 h02 hn3 ?_
  refine J_aload_n C dL_runs_3 rfl rfl ?_
  refine J_iload_n C dL_runs_4 rfl rfl ?_
  obtain ⟨h04, hn5, h⟩ := h
  refine J_iald C dL_runs_5 hK1 h04 hn5 ?_
  refine J_iconst C dL_runs_6 (rg_of (by decide)) ?_
  refine J_imul C dL_runs_7 ?_
  refine J_aload_n C dL_runs_8 rfl rfl ?_
  refine J_iload_n C dL_runs_9 rfl rfl ?_
  refine J_iconst C dL_runs_10 (rg_of (by decide)) ?_
  refine J_iadd C dL_runs_11 ?_
  obtain ⟨hK6, h⟩ := h
  obtain ⟨h07, hn8, h⟩ := h
  refine J_iald C dL_runs_12 hK6 h07 hn8 ?_
  refine J_imul C dL_runs_13 ?_
  refine J_bipush C dL_runs_14 (by decide +kernel) (rg_of (by decide)) ?_
  refine J_aload_n C dL_runs_16 rfl rfl ?_
  refine J_iload_n C dL_runs_17 rfl rfl ?_
  refine J_iconst C dL_runs_18 (rg_of (by decide)) ?_
  refine J_iadd C dL_runs_19 ?_
  obtain ⟨h09, hn10, h⟩ := h
  refine J_iald C dL_runs_20 hK6 h09 hn10 ?_
  refine J_imul C dL_runs_21 ?_
  obtain ⟨hz11, h⟩ := h
  refine J_idiv C dL_runs_22 hz11 ?_
  refine J_iadd C dL_runs_23 ?_
  have h := h _ rfl
  refine K_istore C [vi x0, vi x1, vr (some x2), vr (some x3), vi (w32 ((I x2 x1) + (w32 (Int.tdiv (w32 ((w32 ((I x2 x1) * 2)) * (I x3 (w32 (x0 + 2))))) (w32 (10 * (I x3 (w32 (x0 + 1)))))))))] dL_runs_24 (Nat.le_of_ble_eq_true rfl) rfl ?_
  refine J_iload C dL_runs_26 rfl ?_
  refine J_aload_n C dL_runs_28 rfl rfl ?_
  refine J_bipush C dL_runs_29 (by decide +kernel) (rg_of (by decide)) ?_
  refine J_iload_n C dL_runs_31 rfl rfl ?_
  refine J_iadd C dL_runs_32 ?_
  obtain ⟨h013, hn14, h⟩ := h
  refine J_iald C dL_runs_33 hK1 h013 hn14 ?_
  refine J_bipush C dL_runs_34 (by decide +kernel) (rg_of (by decide)) ?_
  refine J_icmp_le C dL_runs_36 (tgt := 45) rfl (fun c36 => ?_) (fun c36 => ?_)
  · have h := h.1 c36
    refine J_iconst C dL_runs_45 (rg_of (by decide)) ?_
    refine J_less [vl 0, vi x1, vr (some x2), vl 0, vl 0] (by unfold lessL; simp [lessL]) ?_
    exact S_L_runs_46 C M (by omega)  h
  · have h := h.2 c36
    refine J_aload_n C dL_runs_39 rfl rfl ?_
    refine J_iload_n C dL_runs_40 rfl rfl ?_
    obtain ⟨h015, hn16, h⟩ := h
    refine J_iald C dL_runs_41 hK1 h015 hn16 ?_
    refine J_goto C dL_runs_42 (tgt := 46) rfl ?_
    refine J_less [vl 0, vi x1, vr (some x2), vl 0, vl 0] (by unfold lessL; simp [lessL]) ?_
    exact S_L_runs_46 C M (by omega)  h
theorem c_L_runs {l : Launch} {G : Gp} {d : Nat} {x0 : Int} {x1 : Int} {x2 : Nat} {x3 : Nat} {S : Shp} {F : Fl} {I : Il} {Q : Int → Prop} (hl : l.stackTraces = false) (hd : 1 ≤ d) (h : V_L_runs x0 x1 x2 x3 S F I Q) : CM l G d yL_runs (.code yL_runs cL_runs 5 (some .int)) [vi x0, vi x1, vr (some x2), vr (some x3)] S F I (qI fun z S' F' I' => S = S' ∧ F = F' ∧ I = I' ∧ Q z) noX :=
  CM_ofM [vi x0, vi x1, vr (some x2), vr (some x3), vl 0] hl (by decide +kernel) (kn1 trivial (kn1 trivial (kn1 trivial (kn1 trivial kn0)))) (Nat.le_of_ble_eq_true rfl) rfl (fun X hX C M => S_L_runs C M hd h)
set_option maxRecDepth 20000 in
set_option maxHeartbeats 4000000 in
theorem S_L_other {G : Gp} {X : Xt} {d : Nat}  {x0 : Int} {x1 : Int} {Q : Int → Prop} {S : Shp} {F : Fl} {I : Il} (C : CO G RL cL_other 2 X) (M : MX d (some .int) "other" X) (hd : 1 ≤ d)  (h : V_L_other x0 x1 S F I Q) : J G X (QD X G (qI fun z S' F' I' => S = S' ∧ F = F' ∧ I = I' ∧ Q z) noX) 0 [vi x0, vi x1] [] S F I := by
  unfold V_L_other at h
  refine J_iload_n C dL_other_0 rfl rfl ?_
  refine J_iload_n C dL_other_1 rfl rfl ?_
  refine J_icmp_ne C dL_other_2 (tgt := 13) rfl (fun c2 => ?_) (fun c2 => ?_)
  · have h := h.1 c2
    refine J_iload_n C dL_other_13 rfl rfl ?_
    refine J_iload_n C dL_other_14 rfl rfl ?_
    refine J_iconst C dL_other_15 (rg_of (by decide)) ?_
    refine J_iadd C dL_other_16 ?_
    refine J_iconst C dL_other_17 (rg_of (by decide)) ?_
    refine J_irem C dL_other_18 (by decide) ?_
    refine J_icmp_ne C dL_other_19 (tgt := 26) rfl (fun c19 => ?_) (fun c19 => ?_)
    · have h := h.1 c19
      refine J_iconst C dL_other_26 (rg_of (by decide)) ?_
      exact J_iret C dL_other_27 M.2.2.1 ⟨_, rfl, rfl, rfl, rfl, h⟩
    · have h := h.2 c19
      refine J_iload_n C dL_other_22 rfl rfl ?_
      refine J_goto C dL_other_23 (tgt := 27) rfl ?_
      exact J_iret C dL_other_27 M.2.2.1 ⟨_, rfl, rfl, rfl, rfl, h⟩
  · have h := h.2 c2
    refine J_iload_n C dL_other_5 rfl rfl ?_
    refine J_iconst C dL_other_6 (rg_of (by decide)) ?_
    refine J_iadd C dL_other_7 ?_
    refine J_iconst C dL_other_8 (rg_of (by decide)) ?_
    refine J_irem C dL_other_9 (by decide) ?_
    refine J_goto C dL_other_10 (tgt := 27) rfl ?_
    exact J_iret C dL_other_27 M.2.2.1 ⟨_, rfl, rfl, rfl, rfl, h⟩
theorem c_L_other {l : Launch} {G : Gp} {d : Nat} {x0 : Int} {x1 : Int} {S : Shp} {F : Fl} {I : Il} {Q : Int → Prop} (hl : l.stackTraces = false) (hd : 1 ≤ d) (h : V_L_other x0 x1 S F I Q) : CM l G d yL_other (.code yL_other cL_other 2 (some .int)) [vi x0, vi x1] S F I (qI fun z S' F' I' => S = S' ∧ F = F' ∧ I = I' ∧ Q z) noX :=
  CM_ofM [vi x0, vi x1] hl (by decide +kernel) (kn1 trivial (kn1 trivial kn0)) (Nat.le_of_ble_eq_true rfl) rfl (fun X hX C M => S_L_other C M hd h)
set_option maxRecDepth 20000 in
set_option maxHeartbeats 4000000 in
theorem S_L_taken_32 {G : Gp} {X : Xt} {d : Nat} {k4 : Int → Nat → Int → Int → Prop} {x0 : Int} {x1 : Nat} {x3 : Int} {s0 : Int} {s1 : Int} {Q : Int → Prop} {S : Shp} {F : Fl} {I : Il} (C : CO G RL cL_taken 4 X) (M : MX d (some .int) "taken" X) (hd : 1 ≤ d) (hk4 : ∀ (x0 : Int) (x1 : Nat) (x2 : Int) (x3 : Int), k4 x0 x1 x2 x3 → J G X (QD X G (qI fun z S' F' I' => S = S' ∧ F = F' ∧ I = I' ∧ Q z) noX) 4 [vi x0, vr (some x1), vi x2, vi x3] [] S F I) (h : V_L_taken_32 k4 x0 x1 x3 s0 s1 S F I Q) : J G X (QD X G (qI fun z S' F' I' => S = S' ∧ F = F' ∧ I = I' ∧ Q z) noX) 32 [vi x0, vr (some x1), vl 0, vi x3] [vi s0, vi s1] S F I := by
  unfold V_L_taken_32 at h
  refine J_iadd C dL_taken_32 ?_
  have h := h _ rfl
  refine K_istore_n C [vi x0, vr (some x1), vi (w32 (s1 + s0)), vi x3] dL_taken_33 rfl (Nat.le_of_ble_eq_true rfl) rfl ?_
  refine K_iinc C [vi x0, vr (some x1), vi (w32 (s1 + s0)), vi (w32 (x3 + 16))] dL_taken_34 rfl rfl ?_
  refine J_goto C dL_taken_37 (tgt := 4) rfl ?_
  exact hk4 x0 x1 (w32 (s1 + s0)) (w32 (x3 + 16)) h
set_option maxRecDepth 20000 in
set_option maxHeartbeats 4000000 in
theorem S_L_taken_31 {G : Gp} {X : Xt} {d : Nat} {k4 : Int → Nat → Int → Int → Prop} {x0 : Int} {x1 : Nat} {x3 : Int} {s0 : Int} {Q : Int → Prop} {S : Shp} {F : Fl} {I : Il} (C : CO G RL cL_taken 4 X) (M : MX d (some .int) "taken" X) (hd : 1 ≤ d) (hk4 : ∀ (x0 : Int) (x1 : Nat) (x2 : Int) (x3 : Int), k4 x0 x1 x2 x3 → J G X (QD X G (qI fun z S' F' I' => S = S' ∧ F = F' ∧ I = I' ∧ Q z) noX) 4 [vi x0, vr (some x1), vi x2, vi x3] [] S F I) (h : V_L_taken_31 k4 x0 x1 x3 s0 S F I Q) : J G X (QD X G (qI fun z S' F' I' => S = S' ∧ F = F' ∧ I = I' ∧ Q z) noX) 31 [vi x0, vr (some x1), vl 0, vi x3] [vi s0] S F I := by
  unfold V_L_taken_31 at h
  refine J_iconst C dL_taken_31 (rg_of (by decide)) ?_
  exact S_L_taken_32 C M (by omega) hk4 h
set_option maxRecDepth 20000 in
set_option maxHeartbeats 4000000 in
theorem S_L_taken_4 {G : Gp} {X : Xt} {d : Nat}  {S : Shp} {F : Fl} {I : Il} {Q : Int → Prop} (C : CO G RL cL_taken 4 X) (M : MX d (some .int) "taken" X) (hd : 1 ≤ d) (n9 : Nat)  : ∀ (x0 : Int) (x1 : Nat) (x2 : Int) (x3 : Int) , V_L_taken_4 n9 x0 x1 x2 x3 S F I Q → J G X (QD X G (qI fun z S' F' I' => S = S' ∧ F = F' ∧ I = I' ∧ Q z) noX) 4 [vi x0, vr (some x1), vi x2, vi x3] [] S F I := by
  induction n9 with
  | zero => intro x0 x1 x2 x3 h; exact h.elim
  | succ n ih =>
    intro x0 x1 x2 x3 h
    unfold V_L_taken_4 at h
    refine J_iload_n C dL_taken_4 rfl rfl ?_
    refine J_bipush C dL_taken_5 (by decide +kernel) (rg_of (by decide)) ?_
    refine J_icmp_ge C dL_taken_7 (tgt := 40) rfl (fun c7 => ?_) (fun c7 => ?_)
    · have h := h.1 c7
      refine J_iload_n C dL_taken_40 rfl rfl ?_
      exact J_iret C dL_taken_41 M.2.2.1 ⟨_, rfl, rfl, rfl, rfl, h⟩
    · have h := h.2 c7
      refine J_iload_n C dL_taken_10 rfl rfl ?_
      refine J_aload_n C dL_taken_11 rfl rfl ?_
      refine J_iload_n C dL_taken_12 rfl rfl ?_
      obtain ⟨hK1, h⟩ := h
      obtain ⟨h02, hn3, h⟩ := h
      refine J_iald C dL_taken_13 hK1 h02 hn3 ?_
      refine J_iconst C dL_taken_14 (rg_of (by decide)) ?_
      refine J_icmp_ne C dL_taken_15 (tgt := 31) rfl (fun c15 => ?_) (fun c15 => ?_)
      · have h := h.1 c15
        refine J_less [vi x0, vr (some x1), vl 0, vi x3] (by unfold lessL; simp [lessL]) ?_
        exact S_L_taken_31 C M (by omega) (fun y0 y1 y2 y3 h9 => ih y0 y1 y2 y3 h9) h
      · have h := h.2 c15
        refine J_aload_n C dL_taken_18 rfl rfl ?_
        refine J_iload_n C dL_taken_19 rfl rfl ?_
        refine J_iconst C dL_taken_20 (rg_of (by decide)) ?_
        refine J_iadd C dL_taken_21 ?_
        obtain ⟨h04, hn5, h⟩ := h
        refine J_iald C dL_taken_22 hK1 h04 hn5 ?_
        refine J_iload_n C dL_taken_23 rfl rfl ?_
        refine J_icmp_ne C dL_taken_24 (tgt := 31) rfl (fun c24 => ?_) (fun c24 => ?_)
        · have h := h.1 c24
          refine J_less [vi x0, vr (some x1), vl 0, vi x3] (by unfold lessL; simp [lessL]) ?_
          exact S_L_taken_31 C M (by omega) (fun y0 y1 y2 y3 h9 => ih y0 y1 y2 y3 h9) h
        · have h := h.2 c24
          refine J_iconst C dL_taken_27 (rg_of (by decide)) ?_
          refine J_goto C dL_taken_28 (tgt := 32) rfl ?_
          refine J_less [vi x0, vr (some x1), vl 0, vi x3] (by unfold lessL; simp [lessL]) ?_
          exact S_L_taken_32 C M (by omega) (fun y0 y1 y2 y3 h9 => ih y0 y1 y2 y3 h9) h
set_option maxRecDepth 20000 in
set_option maxHeartbeats 4000000 in
theorem S_L_taken {G : Gp} {X : Xt} {d : Nat}  {x0 : Int} {x1 : Nat} {Q : Int → Prop} {S : Shp} {F : Fl} {I : Il} (C : CO G RL cL_taken 4 X) (M : MX d (some .int) "taken" X) (hd : 1 ≤ d)  (h : V_L_taken x0 x1 S F I Q) : J G X (QD X G (qI fun z S' F' I' => S = S' ∧ F = F' ∧ I = I' ∧ Q z) noX) 0 [vi x0, vr (some x1), vl 0, vl 0] [] S F I := by
  unfold V_L_taken at h
  refine J_iconst C dL_taken_0 (rg_of (by decide)) ?_
  refine K_istore_n C [vi x0, vr (some x1), vi 0, vl 0] dL_taken_1 rfl (Nat.le_of_ble_eq_true rfl) rfl ?_
  refine J_iconst C dL_taken_2 (rg_of (by decide)) ?_
  refine K_istore_n C [vi x0, vr (some x1), vi 0, vi 0] dL_taken_3 rfl (Nat.le_of_ble_eq_true rfl) rfl ?_
  obtain ⟨n9, h⟩ := h
  exact S_L_taken_4 C M (by omega) n9  _ _ _ _ h
theorem c_L_taken {l : Launch} {G : Gp} {d : Nat} {x0 : Int} {x1 : Nat} {S : Shp} {F : Fl} {I : Il} {Q : Int → Prop} (hl : l.stackTraces = false) (hd : 1 ≤ d) (h : V_L_taken x0 x1 S F I Q) : CM l G d yL_taken (.code yL_taken cL_taken 4 (some .int)) [vi x0, vr (some x1)] S F I (qI fun z S' F' I' => S = S' ∧ F = F' ∧ I = I' ∧ Q z) noX :=
  CM_ofM [vi x0, vr (some x1), vl 0, vl 0] hl (by decide +kernel) (kn1 trivial (kn1 trivial kn0)) (Nat.le_of_ble_eq_true rfl) rfl (fun X hX C M => S_L_taken C M hd h)
set_option maxRecDepth 20000 in
set_option maxHeartbeats 4000000 in
theorem S_L_bars_135 {G : Gp} {X : Xt} {d : Nat}  {x1 : Nat} {x5 : Int} {Q : Int → Prop} {S : Shp} {F : Fl} {I : Il} (C : CO G RL cL_bars 9 X) (M : MX d (some .int) "bars" X) (hd : 2 ≤ d)  (h : V_L_bars_135 x1 x5 S F I Q) : J G X (QD X G (qI fun z S' F' I' => S = S' ∧ F = F' ∧ I = I' ∧ Q z) noX) 135 [vl 0, vr (some x1), vl 0, vl 0, vl 0, vi x5, vl 0, vl 0, vl 0] [] S F I := by
  unfold V_L_bars_135 at h
  refine J_aload_n C dL_bars_135 rfl rfl ?_
  refine J_bipush C dL_bars_136 (by decide +kernel) (rg_of (by decide)) ?_
  refine J_iload C dL_bars_138 rfl ?_
  refine J_iadd C dL_bars_140 ?_
  obtain ⟨hK1, h⟩ := h
  obtain ⟨h02, hn3, h⟩ := h
  refine J_iald C dL_bars_141 hK1 h02 hn3 ?_
  refine J_if_lt C dL_bars_142 (tgt := 149) rfl (fun c142 => ?_) (fun c142 => ?_)
  · have h := h.1 c142
    refine J_iconst C dL_bars_149 (rg_of (by decide)) ?_
    exact J_iret C dL_bars_150 M.2.2.1 ⟨_, rfl, rfl, rfl, rfl, h⟩
  · have h := h.2 c142
    refine J_iconst C dL_bars_145 (rg_of (by decide)) ?_
    refine J_goto C dL_bars_146 (tgt := 150) rfl ?_
    exact J_iret C dL_bars_150 M.2.2.1 ⟨_, rfl, rfl, rfl, rfl, h⟩
set_option maxRecDepth 20000 in
set_option maxHeartbeats 4000000 in
theorem S_L_bars_237 {G : Gp} {X : Xt} {d : Nat} {k180 : Int → Nat → Nat → Nat → Int → Int → Int → Prop} {x0 : Int} {x1 : Nat} {x2 : Nat} {x4 : Nat} {x5 : Int} {x6 : Int} {x8 : Int} {Q : Int → Prop} {S : Shp} {F : Fl} {I : Il} (C : CO G RL cL_bars 9 X) (M : MX d (some .int) "bars" X) (hd : 2 ≤ d) (hk180 : ∀ (x0 : Int) (x1 : Nat) (x2 : Nat) (x4 : Nat) (x5 : Int) (x6 : Int) (x8 : Int), k180 x0 x1 x2 x4 x5 x6 x8 → J G X (QD X G (qI fun z S' F' I' => S = S' ∧ F = F' ∧ I = I' ∧ Q z) noX) 180 [vi x0, vr (some x1), vr (some x2), vl 0, vr (some x4), vi x5, vi x6, vl 0, vi x8] [] S F I) (h : V_L_bars_237 k180 x0 x1 x2 x4 x5 x6 x8 S F I Q) : J G X (QD X G (qI fun z S' F' I' => S = S' ∧ F = F' ∧ I = I' ∧ Q z) noX) 237 [vi x0, vr (some x1), vr (some x2), vl 0, vr (some x4), vi x5, vi x6, vl 0, vi x8] [] S F I := by
  unfold V_L_bars_237 at h
  refine K_iinc C [vi x0, vr (some x1), vr (some x2), vl 0, vr (some x4), vi x5, vi x6, vl 0, vi (w32 (x8 + 1))] dL_bars_237 rfl rfl ?_
  refine J_goto C dL_bars_240 (tgt := 180) rfl ?_
  exact hk180 x0 x1 x2 x4 x5 x6 (w32 (x8 + 1)) h
set_option maxRecDepth 20000 in
set_option maxHeartbeats 4000000 in
theorem S_L_bars_180 {G : Gp} {X : Xt} {d : Nat}  {S : Shp} {F : Fl} {I : Il} {Q : Int → Prop} (C : CO G RL cL_bars 9 X) (M : MX d (some .int) "bars" X) (hd : 2 ≤ d) (n9 : Nat)  : ∀ (x0 : Int) (x1 : Nat) (x2 : Nat) (x4 : Nat) (x5 : Int) (x6 : Int) (x8 : Int) , V_L_bars_180 n9 x0 x1 x2 x4 x5 x6 x8 S F I Q → J G X (QD X G (qI fun z S' F' I' => S = S' ∧ F = F' ∧ I = I' ∧ Q z) noX) 180 [vi x0, vr (some x1), vr (some x2), vl 0, vr (some x4), vi x5, vi x6, vl 0, vi x8] [] S F I := by
  obtain ⟨d, rfl⟩ : ∃ d9, d = d9 + 1 := ⟨d - 1, by omega⟩
  induction n9 with
  | zero => intro x0 x1 x2 x4 x5 x6 x8 h; exact h.elim
  | succ n ih =>
    intro x0 x1 x2 x4 x5 x6 x8 h
    unfold V_L_bars_180 at h
    refine J_iload C dL_bars_180 rfl ?_
    refine J_aload C dL_bars_182 rfl ?_
    refine J_iconst C dL_bars_184 (rg_of (by decide)) ?_
    obtain ⟨hK1, h⟩ := h
    obtain ⟨h02, hn3, h⟩ := h
    refine J_iald C dL_bars_185 hK1 h02 hn3 ?_
    refine J_iload C dL_bars_186 rfl ?_
    refine J_iadd C dL_bars_188 ?_
    refine J_iconst C dL_bars_189 (rg_of (by decide)) ?_
    refine J_iadd C dL_bars_190 ?_
    refine J_aload_n C dL_bars_191 rfl rfl ?_
    refine J_iload_n C dL_bars_192 rfl rfl ?_
    refine J_iconst C dL_bars_193 (rg_of (by decide)) ?_
    refine J_iadd C dL_bars_194 ?_
    obtain ⟨hK4, h⟩ := h
    obtain ⟨h05, hn6, h⟩ := h
    refine J_iald C dL_bars_195 hK4 h05 hn6 ?_
    refine J_iconst C dL_bars_196 (rg_of (by decide)) ?_
    refine J_idiv C dL_bars_197 (by decide) ?_
    refine J_iadd C dL_bars_198 ?_
    refine J_icmp_ge C dL_bars_199 (tgt := 243) rfl (fun c199 => ?_) (fun c199 => ?_)
    · have h := h.1 c199
      refine J_iconst C dL_bars_243 (rg_of (by decide)) ?_
      refine J_aload_n C dL_bars_244 rfl rfl ?_
      refine J_iload_n C dL_bars_245 rfl rfl ?_
      refine J_iconst C dL_bars_246 (rg_of (by decide)) ?_
      refine J_iadd C dL_bars_247 ?_
      obtain ⟨h07, hn8, h⟩ := h
      refine J_iald C dL_bars_248 hK4 h07 hn8 ?_
      refine J_imul C dL_bars_249 ?_
      refine J_aload_n C dL_bars_250 rfl rfl ?_
      refine J_iload_n C dL_bars_251 rfl rfl ?_
      refine J_iconst C dL_bars_252 (rg_of (by decide)) ?_
      refine J_iadd C dL_bars_253 ?_
      obtain ⟨h09, hn10, h⟩ := h
      refine J_iald C dL_bars_254 hK4 h09 hn10 ?_
      refine J_bipush C dL_bars_255 (by decide +kernel) (rg_of (by decide)) ?_
      refine J_iconst C dL_bars_257 (rg_of (by decide)) ?_
      refine J_aload_n C dL_bars_258 rfl rfl ?_
      refine J_iconst C dL_bars_259 (rg_of (by decide)) ?_
      refine J_iload C dL_bars_260 rfl ?_
      refine J_iadd C dL_bars_262 ?_
      obtain ⟨hK11, h⟩ := h
      obtain ⟨h012, hn13, h⟩ := h
      refine J_iald C dL_bars_263 hK11 h012 hn13 ?_
      refine J_imul C dL_bars_264 ?_
      refine J_isub C dL_bars_265 ?_
      refine J_imul C dL_bars_266 ?_
      refine J_icmp_le C dL_bars_267 (tgt := 273) rfl (fun c267 => ?_) (fun c267 => ?_)
      · have h := h.1 c267
        refine J_aload_n C dL_bars_273 rfl rfl ?_
        refine J_iload_n C dL_bars_274 rfl rfl ?_
        refine J_bipush C dL_bars_275 (by decide +kernel) (rg_of (by decide)) ?_
        refine J_iadd C dL_bars_277 ?_
        obtain ⟨h014, hn15, h⟩ := h
        refine J_iald C dL_bars_278 hK4 h014 hn15 ?_
        refine J_iload C dL_bars_279 rfl ?_
        refine J_ishr C dL_bars_281 ?_
        refine J_iconst C dL_bars_282 (rg_of (by decide)) ?_
        refine J_iand C dL_bars_283 ?_
        refine J_if_ne C dL_bars_284 (tgt := 290) rfl (fun c284 => ?_) (fun c284 => ?_)
        · have h := h.1 c284
          refine J_aload_n C dL_bars_290 rfl rfl ?_
          refine J_iload_n C dL_bars_291 rfl rfl ?_
          refine J_bipush C dL_bars_292 (by decide +kernel) (rg_of (by decide)) ?_
          refine J_iadd C dL_bars_294 ?_
          obtain ⟨h016, hn17, h⟩ := h
          refine J_iald C dL_bars_295 hK4 h016 hn17 ?_
          refine J_aload C dL_bars_296 rfl ?_
          refine J_iconst C dL_bars_298 (rg_of (by decide)) ?_
          obtain ⟨h018, hn19, h⟩ := h
          refine J_iald C dL_bars_299 hK1 h018 hn19 ?_
          refine J_icmp_gt C dL_bars_300 (tgt := 318) rfl (fun c300 => ?_) (fun c300 => ?_)
          · have h := h.1 c300
            refine J_bipush C dL_bars_318 (by decide +kernel) (rg_of (by decide)) ?_
            exact J_iret C dL_bars_320 M.2.2.1 ⟨_, rfl, rfl, rfl, rfl, h⟩
          · have h := h.2 c300
            refine J_aload_n C dL_bars_303 rfl rfl ?_
            refine J_iload_n C dL_bars_304 rfl rfl ?_
            refine J_bipush C dL_bars_305 (by decide +kernel) (rg_of (by decide)) ?_
            refine J_iadd C dL_bars_307 ?_
            obtain ⟨h020, hn21, h⟩ := h
            refine J_iald C dL_bars_308 hK4 h020 hn21 ?_
            refine J_iload C dL_bars_309 rfl ?_
            refine J_iadd C dL_bars_311 ?_
            refine J_sipush C dL_bars_312 (by decide +kernel) (rg_of (by decide)) ?_
            refine J_icmp_le C dL_bars_315 (tgt := 321) rfl (fun c315 => ?_) (fun c315 => ?_)
            · have h := h.1 c315
              refine J_iload C dL_bars_321 rfl ?_
              refine J_aload_n C dL_bars_323 rfl rfl ?_
              refine J_iload_n C dL_bars_324 rfl rfl ?_
              refine J_iconst C dL_bars_325 (rg_of (by decide)) ?_
              refine J_iadd C dL_bars_326 ?_
              obtain ⟨h022, hn23, h⟩ := h
              refine J_iald C dL_bars_327 hK4 h022 hn23 ?_
              refine K_S C M [vi x5, vi (I x2 (w32 (x0 + 4)))] [] mi_L_other wg_852 wg_853 dL_bars_328 rfl rfl (by decide) (Nat.le_of_ble_eq_true rfl) (c_L_other (C.2.2.2.2.2.2.2) (by omega) h) (fun v9 S' F' I' hq9 => ?_) K_no rfl
              clear h
              obtain ⟨z24, rfl, rfl, rfl, rfl, h⟩ := hq9
              refine K_istore C [vi x0, vr (some x1), vr (some x2), vl 0, vr (some x4), vi x5, vi x6, vl 0, vi z24] dL_bars_331 (Nat.le_of_ble_eq_true rfl) rfl ?_
              refine J_iload C dL_bars_333 rfl ?_
              refine J_aload_n C dL_bars_335 rfl rfl ?_
              refine K_S C M [vi z24, vr (some x2)] [] mi_L_taken wg_840 wg_841 dL_bars_336 rfl rfl (by decide) (Nat.le_of_ble_eq_true rfl) (c_L_taken (C.2.2.2.2.2.2.2) (by omega) h) (fun v9 S' F' I' hq9 => ?_) K_no rfl
              clear h
              obtain ⟨z25, rfl, rfl, rfl, rfl, h⟩ := hq9
              refine J_aload C dL_bars_339 rfl ?_
              refine J_iconst C dL_bars_341 (rg_of (by decide)) ?_
              refine J_iload C dL_bars_342 rfl ?_
              refine J_iadd C dL_bars_344 ?_
              obtain ⟨h026, hn27, h⟩ := h
              refine J_iald C dL_bars_345 hK1 h026 hn27 ?_
              refine J_icmp_lt C dL_bars_346 (tgt := 354) rfl (fun c346 => ?_) (fun c346 => ?_)
              · have h := h.1 c346
                refine J_iconst C dL_bars_354 (rg_of (by decide)) ?_
                exact J_iret C dL_bars_355 M.2.2.1 ⟨_, rfl, rfl, rfl, rfl, h⟩
              · have h := h.2 c346
                refine J_bipush C dL_bars_349 (by decide +kernel) (rg_of (by decide)) ?_
                refine J_goto C dL_bars_351 (tgt := 355) rfl ?_
                exact J_iret C dL_bars_355 M.2.2.1 ⟨_, rfl, rfl, rfl, rfl, h⟩
            · have h := h.2 c315
              refine J_bipush C dL_bars_318 (by decide +kernel) (rg_of (by decide)) ?_
              exact J_iret C dL_bars_320 M.2.2.1 ⟨_, rfl, rfl, rfl, rfl, h⟩
        · have h := h.2 c284
          refine J_bipush C dL_bars_287 (by decide +kernel) (rg_of (by decide)) ?_
          exact J_iret C dL_bars_289 M.2.2.1 ⟨_, rfl, rfl, rfl, rfl, h⟩
      · have h := h.2 c267
        refine J_bipush C dL_bars_270 (by decide +kernel) (rg_of (by decide)) ?_
        exact J_iret C dL_bars_272 M.2.2.1 ⟨_, rfl, rfl, rfl, rfl, h⟩
    · have h := h.2 c199
      refine J_iload C dL_bars_202 rfl ?_
      refine J_sipush C dL_bars_204 (by decide +kernel) (rg_of (by decide)) ?_
      refine J_irem C dL_bars_207 (by decide) ?_
      refine J_aload_n C dL_bars_208 rfl rfl ?_
      refine J_bipush C dL_bars_209 (by decide +kernel) (rg_of (by decide)) ?_
      refine J_iload C dL_bars_211 rfl ?_
      refine J_iadd C dL_bars_213 ?_
      obtain ⟨hK28, h⟩ := h
      obtain ⟨h029, hn30, h⟩ := h
      refine J_iald C dL_bars_214 hK28 h029 hn30 ?_
      refine J_icmp_lt C dL_bars_215 (tgt := 237) rfl (fun c215 => ?_) (fun c215 => ?_)
      · have h := h.1 c215
        exact S_L_bars_237 C M (by omega) (fun y0 y1 y2 y3 y4 y5 y6 h9 => ih y0 y1 y2 y3 y4 y5 y6 h9) h
      · have h := h.2 c215
        refine J_iload C dL_bars_218 rfl ?_
        refine J_sipush C dL_bars_220 (by decide +kernel) (rg_of (by decide)) ?_
        refine J_irem C dL_bars_223 (by decide) ?_
        refine J_aload_n C dL_bars_224 rfl rfl ?_
        refine J_bipush C dL_bars_225 (by decide +kernel) (rg_of (by decide)) ?_
        refine J_iload C dL_bars_227 rfl ?_
        refine J_iadd C dL_bars_229 ?_
        obtain ⟨h031, hn32, h⟩ := h
        refine J_iald C dL_bars_230 hK28 h031 hn32 ?_
        refine J_icmp_ge C dL_bars_231 (tgt := 237) rfl (fun c231 => ?_) (fun c231 => ?_)
        · have h := h.1 c231
          exact S_L_bars_237 C M (by omega) (fun y0 y1 y2 y3 y4 y5 y6 h9 => ih y0 y1 y2 y3 y4 y5 y6 h9) h
        · have h := h.2 c231
          refine J_bipush C dL_bars_234 (by decide +kernel) (rg_of (by decide)) ?_
          exact J_iret C dL_bars_236 M.2.2.1 ⟨_, rfl, rfl, rfl, rfl, h⟩
set_option maxRecDepth 20000 in
set_option maxHeartbeats 4000000 in
theorem S_L_bars_174 {G : Gp} {X : Xt} {d : Nat}  {x0 : Int} {x1 : Nat} {x2 : Nat} {x4 : Nat} {x5 : Int} {x6 : Int} {Q : Int → Prop} {S : Shp} {F : Fl} {I : Il} (C : CO G RL cL_bars 9 X) (M : MX d (some .int) "bars" X) (hd : 2 ≤ d)  (h : V_L_bars_174 x0 x1 x2 x4 x5 x6 S F I Q) : J G X (QD X G (qI fun z S' F' I' => S = S' ∧ F = F' ∧ I = I' ∧ Q z) noX) 174 [vi x0, vr (some x1), vr (some x2), vl 0, vr (some x4), vi x5, vi x6, vl 0, vl 0] [] S F I := by
  unfold V_L_bars_174 at h
  refine J_aload C dL_bars_174 rfl ?_
  refine J_iconst C dL_bars_176 (rg_of (by decide)) ?_
  obtain ⟨hK1, h⟩ := h
  obtain ⟨h02, hn3, h⟩ := h
  refine J_iald C dL_bars_177 hK1 h02 hn3 ?_
  refine K_istore C [vi x0, vr (some x1), vr (some x2), vl 0, vr (some x4), vi x5, vi x6, vl 0, vi (I x4 0)] dL_bars_178 (Nat.le_of_ble_eq_true rfl) rfl ?_
  obtain ⟨n9, h⟩ := h
  exact S_L_bars_180 C M (by omega) n9  _ _ _ _ _ _ _ h
set_option maxRecDepth 20000 in
set_option maxHeartbeats 4000000 in
theorem S_L_bars_111 {G : Gp} {X : Xt} {d : Nat}  {x0 : Int} {x1 : Nat} {x2 : Nat} {x4 : Nat} {x5 : Int} {x6 : Int} {Q : Int → Prop} {S : Shp} {F : Fl} {I : Il} (C : CO G RL cL_bars 9 X) (M : MX d (some .int) "bars" X) (hd : 2 ≤ d)  (h : V_L_bars_111 x0 x1 x2 x4 x5 x6 S F I Q) : J G X (QD X G (qI fun z S' F' I' => S = S' ∧ F = F' ∧ I = I' ∧ Q z) noX) 111 [vi x0, vr (some x1), vr (some x2), vl 0, vr (some x4), vi x5, vi x6, vl 0, vl 0] [] S F I := by
  unfold V_L_bars_111 at h
  refine J_aload_n C dL_bars_111 rfl rfl ?_
  refine J_bipush C dL_bars_112 (by decide +kernel) (rg_of (by decide)) ?_
  refine J_iload C dL_bars_114 rfl ?_
  refine J_iadd C dL_bars_116 ?_
  obtain ⟨hK1, h⟩ := h
  obtain ⟨h02, hn3, h⟩ := h
  refine J_iald C dL_bars_117 hK1 h02 hn3 ?_
  refine J_if_ge C dL_bars_118 (tgt := 135) rfl (fun c118 => ?_) (fun c118 => ?_)
  · have h := h.1 c118
    refine J_less [vl 0, vr (some x1), vl 0, vl 0, vl 0, vi x5, vl 0, vl 0, vl 0] (by unfold lessL; simp [lessL]) ?_
    exact S_L_bars_135 C M (by omega)  h
  · have h := h.2 c118
    refine J_aload_n C dL_bars_121 rfl rfl ?_
    refine J_bipush C dL_bars_122 (by decide +kernel) (rg_of (by decide)) ?_
    refine J_iload C dL_bars_124 rfl ?_
    refine J_iadd C dL_bars_126 ?_
    obtain ⟨h04, hn5, h⟩ := h
    refine J_iald C dL_bars_127 hK1 h04 hn5 ?_
    refine J_aload C dL_bars_128 rfl ?_
    refine J_iconst C dL_bars_130 (rg_of (by decide)) ?_
    obtain ⟨hK6, h⟩ := h
    obtain ⟨h07, hn8, h⟩ := h
    refine J_iald C dL_bars_131 hK6 h07 hn8 ?_
    refine J_icmp_le C dL_bars_132 (tgt := 151) rfl (fun c132 => ?_) (fun c132 => ?_)
    · have h := h.1 c132
      refine J_aload_n C dL_bars_151 rfl rfl ?_
      refine J_bipush C dL_bars_152 (by decide +kernel) (rg_of (by decide)) ?_
      refine J_iload C dL_bars_154 rfl ?_
      refine J_iadd C dL_bars_156 ?_
      obtain ⟨h09, hn10, h⟩ := h
      refine J_iald C dL_bars_157 hK1 h09 hn10 ?_
      refine J_iconst C dL_bars_158 (rg_of (by decide)) ?_
      refine J_icmp_ne C dL_bars_159 (tgt := 174) rfl (fun c159 => ?_) (fun c159 => ?_)
      · have h := h.1 c159
        exact S_L_bars_174 C M (by omega)  h
      · have h := h.2 c159
        refine J_aload_n C dL_bars_162 rfl rfl ?_
        refine J_bipush C dL_bars_163 (by decide +kernel) (rg_of (by decide)) ?_
        refine J_iload C dL_bars_165 rfl ?_
        refine J_iadd C dL_bars_167 ?_
        obtain ⟨h011, hn12, h⟩ := h
        refine J_iald C dL_bars_168 hK1 h011 hn12 ?_
        refine J_if_ne C dL_bars_169 (tgt := 174) rfl (fun c169 => ?_) (fun c169 => ?_)
        · have h := h.1 c169
          exact S_L_bars_174 C M (by omega)  h
        · have h := h.2 c169
          refine J_iconst C dL_bars_172 (rg_of (by decide)) ?_
          exact J_iret C dL_bars_173 M.2.2.1 ⟨_, rfl, rfl, rfl, rfl, h⟩
    · have h := h.2 c132
      refine J_less [vl 0, vr (some x1), vl 0, vl 0, vl 0, vi x5, vl 0, vl 0, vl 0] (by unfold lessL; simp [lessL]) ?_
      exact S_L_bars_135 C M (by omega)  h
set_option maxRecDepth 20000 in
set_option maxHeartbeats 4000000 in
theorem S_L_bars_48 {G : Gp} {X : Xt} {d : Nat}  {x0 : Int} {x1 : Nat} {x2 : Nat} {x4 : Nat} {x5 : Int} {x6 : Int} {Q : Int → Prop} {S : Shp} {F : Fl} {I : Il} (C : CO G RL cL_bars 9 X) (M : MX d (some .int) "bars" X) (hd : 2 ≤ d)  (h : V_L_bars_48 x0 x1 x2 x4 x5 x6 S F I Q) : J G X (QD X G (qI fun z S' F' I' => S = S' ∧ F = F' ∧ I = I' ∧ Q z) noX) 48 [vi x0, vr (some x1), vr (some x2), vl 0, vr (some x4), vi x5, vi x6, vl 0, vl 0] [] S F I := by
  unfold V_L_bars_48 at h
  refine J_bipush C dL_bars_48 (by decide +kernel) (rg_of (by decide)) ?_
  refine J_aload_n C dL_bars_50 rfl rfl ?_
  refine J_iload_n C dL_bars_51 rfl rfl ?_
  refine J_bipush C dL_bars_52 (by decide +kernel) (rg_of (by decide)) ?_
  refine J_iadd C dL_bars_54 ?_
  obtain ⟨hK1, h⟩ := h
  obtain ⟨h02, hn3, h⟩ := h
  refine J_iald C dL_bars_55 hK1 h02 hn3 ?_
  refine J_imul C dL_bars_56 ?_
  have h := h _ rfl
  refine K_istore C [vi x0, vr (some x1), vr (some x2), vl 0, vr (some x4), vi x5, vi x6, vi (w32 (16 * (I x2 (w32 (x0 + 11))))), vl 0] dL_bars_57 (Nat.le_of_ble_eq_true rfl) rfl ?_
  refine J_iload C dL_bars_59 rfl ?_
  refine J_if_lt C dL_bars_61 (tgt := 111) rfl (fun c61 => ?_) (fun c61 => ?_)
  · have h := h.1 c61
    refine J_less [vi x0, vr (some x1), vr (some x2), vl 0, vr (some x4), vi x5, vi x6, vl 0, vl 0] (by unfold lessL; simp [lessL]) ?_
    exact S_L_bars_111 C M (by omega)  h
  · have h := h.2 c61
    refine J_aload_n C dL_bars_64 rfl rfl ?_
    refine J_iload_n C dL_bars_65 rfl rfl ?_
    refine J_bipush C dL_bars_66 (by decide +kernel) (rg_of (by decide)) ?_
    refine J_iadd C dL_bars_68 ?_
    obtain ⟨h05, hn6, h⟩ := h
    refine J_iald C dL_bars_69 hK1 h05 hn6 ?_
    refine J_aload_n C dL_bars_70 rfl rfl ?_
    refine J_iload_n C dL_bars_71 rfl rfl ?_
    refine J_iconst C dL_bars_72 (rg_of (by decide)) ?_
    refine J_iadd C dL_bars_73 ?_
    obtain ⟨h07, hn8, h⟩ := h
    refine J_iald C dL_bars_74 hK1 h07 hn8 ?_
    refine J_icmp_ne C dL_bars_75 (tgt := 111) rfl (fun c75 => ?_) (fun c75 => ?_)
    · have h := h.1 c75
      refine J_less [vi x0, vr (some x1), vr (some x2), vl 0, vr (some x4), vi x5, vi x6, vl 0, vl 0] (by unfold lessL; simp [lessL]) ?_
      exact S_L_bars_111 C M (by omega)  h
    · have h := h.2 c75
      refine J_aload_n C dL_bars_78 rfl rfl ?_
      refine J_iload C dL_bars_79 rfl ?_
      obtain ⟨h09, hn10, h⟩ := h
      refine J_iald C dL_bars_81 hK1 h09 hn10 ?_
      refine J_if_eq C dL_bars_82 (tgt := 109) rfl (fun c82 => ?_) (fun c82 => ?_)
      · have h := h.1 c82
        refine J_iconst C dL_bars_109 (rg_of (by decide)) ?_
        exact J_iret C dL_bars_110 M.2.2.1 ⟨_, rfl, rfl, rfl, rfl, h⟩
      · have h := h.2 c82
        refine J_aload_n C dL_bars_85 rfl rfl ?_
        refine J_iload C dL_bars_86 rfl ?_
        refine J_iconst C dL_bars_88 (rg_of (by decide)) ?_
        refine J_iadd C dL_bars_89 ?_
        obtain ⟨h011, hn12, h⟩ := h
        refine J_iald C dL_bars_90 hK1 h011 hn12 ?_
        refine J_iconst C dL_bars_91 (rg_of (by decide)) ?_
        refine J_icmp_eq C dL_bars_92 (tgt := 109) rfl (fun c92 => ?_) (fun c92 => ?_)
        · have h := h.1 c92
          refine J_iconst C dL_bars_109 (rg_of (by decide)) ?_
          exact J_iret C dL_bars_110 M.2.2.1 ⟨_, rfl, rfl, rfl, rfl, h⟩
        · have h := h.2 c92
          refine J_aload_n C dL_bars_95 rfl rfl ?_
          refine J_iload C dL_bars_96 rfl ?_
          refine J_iconst C dL_bars_98 (rg_of (by decide)) ?_
          refine J_iadd C dL_bars_99 ?_
          obtain ⟨h013, hn14, h⟩ := h
          refine J_iald C dL_bars_100 hK1 h013 hn14 ?_
          refine J_aload_n C dL_bars_101 rfl rfl ?_
          refine J_iload_n C dL_bars_102 rfl rfl ?_
          refine J_iconst C dL_bars_103 (rg_of (by decide)) ?_
          refine J_iadd C dL_bars_104 ?_
          obtain ⟨h015, hn16, h⟩ := h
          refine J_iald C dL_bars_105 hK1 h015 hn16 ?_
          refine J_icmp_eq C dL_bars_106 (tgt := 111) rfl (fun c106 => ?_) (fun c106 => ?_)
          · have h := h.1 c106
            refine J_less [vi x0, vr (some x1), vr (some x2), vl 0, vr (some x4), vi x5, vi x6, vl 0, vl 0] (by unfold lessL; simp [lessL]) ?_
            exact S_L_bars_111 C M (by omega)  h
          · have h := h.2 c106
            refine J_iconst C dL_bars_109 (rg_of (by decide)) ?_
            exact J_iret C dL_bars_110 M.2.2.1 ⟨_, rfl, rfl, rfl, rfl, h⟩
set_option maxRecDepth 20000 in
set_option maxHeartbeats 4000000 in
theorem S_L_bars {G : Gp} {X : Xt} {d : Nat}  {x0 : Int} {x1 : Nat} {x2 : Nat} {x3 : Nat} {x4 : Nat} {Q : Int → Prop} {S : Shp} {F : Fl} {I : Il} (C : CO G RL cL_bars 9 X) (M : MX d (some .int) "bars" X) (hd : 2 ≤ d)  (h : V_L_bars x0 x1 x2 x3 x4 S F I Q) : J G X (QD X G (qI fun z S' F' I' => S = S' ∧ F = F' ∧ I = I' ∧ Q z) noX) 0 [vi x0, vr (some x1), vr (some x2), vr (some x3), vr (some x4), vl 0, vl 0, vl 0, vl 0] [] S F I := by
  unfold V_L_bars at h
  obtain ⟨d, rfl⟩ : ∃ d9, d = d9 + 1 := ⟨d - 1, by omega⟩
  refine J_aload_n C dL_bars_0 rfl rfl ?_
  refine J_iload_n C dL_bars_1 rfl rfl ?_
  refine J_iconst C dL_bars_2 (rg_of (by decide)) ?_
  refine J_idiv C dL_bars_3 (by decide) ?_
  refine J_aload_n C dL_bars_4 rfl rfl ?_
  refine J_iload_n C dL_bars_5 rfl rfl ?_
  refine J_bipush C dL_bars_6 (by decide +kernel) (rg_of (by decide)) ?_
  refine J_iadd C dL_bars_8 ?_
  obtain ⟨hK1, h⟩ := h
  obtain ⟨h02, hn3, h⟩ := h
  refine J_iald C dL_bars_9 hK1 h02 hn3 ?_
  refine J_iadd C dL_bars_10 ?_
  obtain ⟨hK4, h⟩ := h
  obtain ⟨h05, hn6, h⟩ := h
  refine J_iald C dL_bars_11 hK4 h05 hn6 ?_
  have h := h _ rfl
  refine K_istore C [vi x0, vr (some x1), vr (some x2), vr (some x3), vr (some x4), vi (I x3 (w32 ((w32 (Int.tdiv x0 2)) + (I x2 (w32 (x0 + 7)))))), vl 0, vl 0, vl 0] dL_bars_12 (Nat.le_of_ble_eq_true rfl) rfl ?_
  refine J_iload_n C dL_bars_14 rfl rfl ?_
  refine J_iload C dL_bars_15 rfl ?_
  refine J_aload_n C dL_bars_17 rfl rfl ?_
  refine J_aload_n C dL_bars_18 rfl rfl ?_
  refine K_S C M [vi x0, vi (I x3 (w32 ((w32 (Int.tdiv x0 2)) + (I x2 (w32 (x0 + 7)))))), vr (some x1), vr (some x2)] [] mi_L_runs wg_849 wg_850 dL_bars_19 rfl rfl (by decide) (Nat.le_of_ble_eq_true rfl) (c_L_runs (C.2.2.2.2.2.2.2) (by omega) h) (fun v9 S' F' I' hq9 => ?_) K_no rfl
  clear h
  obtain ⟨z8, rfl, rfl, rfl, rfl, h⟩ := hq9
  refine K_istore C [vi x0, vr (some x1), vr (some x2), vr (some x3), vr (some x4), vi (I x3 (w32 ((w32 (Int.tdiv x0 2)) + (I x2 (w32 (x0 + 7)))))), vi z8, vl 0, vl 0] dL_bars_22 (Nat.le_of_ble_eq_true rfl) rfl ?_
  refine J_aload_n C dL_bars_24 rfl rfl ?_
  refine J_iload_n C dL_bars_25 rfl rfl ?_
  refine J_bipush C dL_bars_26 (by decide +kernel) (rg_of (by decide)) ?_
  refine J_iadd C dL_bars_28 ?_
  obtain ⟨h09, hn10, h⟩ := h
  refine J_iald C dL_bars_29 hK1 h09 hn10 ?_
  refine J_if_ne C dL_bars_30 (tgt := 48) rfl (fun c30 => ?_) (fun c30 => ?_)
  · have h := h.1 c30
    refine J_less [vi x0, vr (some x1), vr (some x2), vl 0, vr (some x4), vi (I x3 (w32 ((w32 (Int.tdiv x0 2)) + (I x2 (w32 (x0 + 7)))))), vi z8, vl 0, vl 0] (by unfold lessL; simp [lessL]) ?_
    exact S_L_bars_48 C M (by omega)  h
  · have h := h.2 c30
    refine J_aload C dL_bars_33 rfl ?_
    refine J_iconst C dL_bars_35 (rg_of (by decide)) ?_
    obtain ⟨hK11, h⟩ := h
    obtain ⟨h012, hn13, h⟩ := h
    refine J_iald C dL_bars_36 hK11 h012 hn13 ?_
    refine J_aload_n C dL_bars_37 rfl rfl ?_
    refine J_iload_n C dL_bars_38 rfl rfl ?_
    refine J_bipush C dL_bars_39 (by decide +kernel) (rg_of (by decide)) ?_
    refine J_iadd C dL_bars_41 ?_
    obtain ⟨h014, hn15, h⟩ := h
    refine J_iald C dL_bars_42 hK1 h014 hn15 ?_
    refine J_icmp_ge C dL_bars_43 (tgt := 48) rfl (fun c43 => ?_) (fun c43 => ?_)
    · have h := h.1 c43
      refine J_less [vi x0, vr (some x1), vr (some x2), vl 0, vr (some x4), vi (I x3 (w32 ((w32 (Int.tdiv x0 2)) + (I x2 (w32 (x0 + 7)))))), vi z8, vl 0, vl 0] (by unfold lessL; simp [lessL]) ?_
      exact S_L_bars_48 C M (by omega)  h
    · have h := h.2 c43
      refine J_iconst C dL_bars_46 (rg_of (by decide)) ?_
      exact J_iret C dL_bars_47 M.2.2.1 ⟨_, rfl, rfl, rfl, rfl, h⟩
theorem c_L_bars {l : Launch} {G : Gp} {d : Nat} {x0 : Int} {x1 : Nat} {x2 : Nat} {x3 : Nat} {x4 : Nat} {S : Shp} {F : Fl} {I : Il} {Q : Int → Prop} (hl : l.stackTraces = false) (hd : 2 ≤ d) (h : V_L_bars x0 x1 x2 x3 x4 S F I Q) : CM l G d yL_bars (.code yL_bars cL_bars 9 (some .int)) [vi x0, vr (some x1), vr (some x2), vr (some x3), vr (some x4)] S F I (qI fun z S' F' I' => S = S' ∧ F = F' ∧ I = I' ∧ Q z) noX :=
  CM_ofM [vi x0, vr (some x1), vr (some x2), vr (some x3), vr (some x4), vl 0, vl 0, vl 0, vl 0] hl (by decide +kernel) (kn1 trivial (kn1 trivial (kn1 trivial (kn1 trivial (kn1 trivial kn0))))) (Nat.le_of_ble_eq_true rfl) rfl (fun X hX C M => S_L_bars C M hd h)
set_option maxRecDepth 20000 in
set_option maxHeartbeats 4000000 in
theorem S_L_calls {G : Gp} {X : Xt} {d : Nat}  {x0 : Nat} {x1 : Int} {x2 : Int} {x3 : Int} {x4 : Int} {Q : Int → Shp → Fl → Il → Prop} {S : Shp} {F : Fl} {I : Il} (C : CO G RL cL_calls 6 X) (M : MH d (some .int) [(0, 75, 76, 33)] X) (hd : 12 ≤ d)  (h : V_L_calls x0 x1 x2 x3 x4 S F I Q) : J G X (QD X G (qI fun z S' F' I' => Q z S' F' I') noX) 0 [vr (some x0), vi x1, vi x2, vi x3, vi x4, vl 0] [] S F I := by
  unfold V_L_calls at h
  obtain ⟨d, rfl⟩ : ∃ d9, d = d9 + 1 := ⟨d - 1, by omega⟩
  refine J_iload_n C dL_calls_0 rfl rfl ?_
  refine J_if_ne C dL_calls_1 (tgt := 13) rfl (fun c1 => ?_) (fun c1 => ?_)
  · have h := h.1 c1
    refine J_iload_n C dL_calls_13 rfl rfl ?_
    refine J_iconst C dL_calls_14 (rg_of (by decide)) ?_
    refine J_icmp_ne C dL_calls_15 (tgt := 29) rfl (fun c15 => ?_) (fun c15 => ?_)
    · have h := h.1 c15
      refine J_iload_n C dL_calls_29 rfl rfl ?_
      refine J_iconst C dL_calls_30 (rg_of (by decide)) ?_
      refine J_icmp_ne C dL_calls_31 (tgt := 42) rfl (fun c31 => ?_) (fun c31 => ?_)
      · have h := h.1 c31
        refine J_iload_n C dL_calls_42 rfl rfl ?_
        refine J_iconst C dL_calls_43 (rg_of (by decide)) ?_
        refine J_icmp_ne C dL_calls_44 (tgt := 55) rfl (fun c44 => ?_) (fun c44 => ?_)
        · have h := h.1 c44
          refine J_iload_n C dL_calls_55 rfl rfl ?_
          refine J_iconst C dL_calls_56 (rg_of (by decide)) ?_
          refine J_icmp_ne C dL_calls_57 (tgt := 69) rfl (fun c57 => ?_) (fun c57 => ?_)
          · have h := h.1 c57
            refine J_aload_n C dL_calls_69 rfl rfl ?_
            refine J_iload_n C dL_calls_70 rfl rfl ?_
            refine J_iload_n C dL_calls_71 rfl rfl ?_
            obtain ⟨hK1, h⟩ := h
            refine K_VH C M.1 M.2.1 [vi x2, vi x3] [] mi_X8_couple wg_824 wg_825 wg_826 ⟨rfl, by decide⟩ dL_calls_72 hK1 rfl rfl (by decide) (Nat.le_of_ble_eq_true rfl) (c_X8_couple (C.2.2.2.2.2.2.2) (by omega) h) (fun v9 S3 F4 I5 hq9 => ?_) (fun E9 S9 F9 I9 hx9 => ?_) rfl
            · clear h
              obtain ⟨z2, rfl, h⟩ := hq9
              exact J_iret C dL_calls_75 M.2.2.1 ⟨_, rfl, h⟩
            · clear h
              rcases hx9 with ⟨rfl, h⟩
              · refine JX_catch (pre := []) (x := ⟨0, 75, 76, 33⟩) (suf := []) (tgt := 76) C M.2.2.2 rfl kc0 rfl (by decide) wg_773 wt_359 rfl (fun q9 => ?_)
                refine K_astore C [vr (some x0), vi x1, vi x2, vi x3, vi x4, vr (some q9)] dL_calls_76 (Nat.le_of_ble_eq_true rfl) rfl ?_
                refine J_sipush C dL_calls_78 (by decide +kernel) (rg_of (by decide)) ?_
                exact J_iret C dL_calls_81 M.2.2.1 ⟨_, rfl, h⟩
          · have h := h.2 c57
            refine J_aload_n C dL_calls_60 rfl rfl ?_
            refine J_iload_n C dL_calls_61 rfl rfl ?_
            refine J_iload_n C dL_calls_62 rfl rfl ?_
            obtain ⟨hK6, h⟩ := h
            refine K_VH C M.1 M.2.1 [vi x2, vi x3] [] mi_X8_tracks wg_820 wg_821 wg_822 ⟨rfl, by decide⟩ dL_calls_63 hK6 rfl rfl (by decide) (Nat.le_of_ble_eq_true rfl) (c_X8_tracks (C.2.2.2.2.2.2.2) (by omega) h) (fun v9 S' F8 I' hq9 => ?_) (fun E9 S9 F9 I9 hx9 => ?_) rfl
            · clear h
              obtain ⟨z7, rfl, rfl, rfl, h⟩ := hq9
              refine J_goto C dL_calls_66 (tgt := 75) rfl ?_
              exact J_iret C dL_calls_75 M.2.2.1 ⟨_, rfl, h⟩
            · clear h
              rcases hx9 with ⟨rfl, h⟩
              · refine JX_catch (pre := []) (x := ⟨0, 75, 76, 33⟩) (suf := []) (tgt := 76) C M.2.2.2 rfl kc0 rfl (by decide) wg_773 wt_359 rfl (fun q9 => ?_)
                refine K_astore C [vr (some x0), vi x1, vi x2, vi x3, vi x4, vr (some q9)] dL_calls_76 (Nat.le_of_ble_eq_true rfl) rfl ?_
                refine J_sipush C dL_calls_78 (by decide +kernel) (rg_of (by decide)) ?_
                exact J_iret C dL_calls_81 M.2.2.1 ⟨_, rfl, h⟩
        · have h := h.2 c44
          refine J_aload_n C dL_calls_47 rfl rfl ?_
          refine J_iload_n C dL_calls_48 rfl rfl ?_
          obtain ⟨hK9, h⟩ := h
          refine K_VH C M.1 M.2.1 [vi x2] [] mi_X8_rest wg_816 wg_817 wg_818 ⟨rfl, by decide⟩ dL_calls_49 hK9 rfl rfl (by decide) (Nat.le_of_ble_eq_true rfl) (c_X8_rest (C.2.2.2.2.2.2.2) (by omega) h) (fun v9 S' F11 I' hq9 => ?_) (fun E9 S9 F9 I9 hx9 => ?_) rfl
          · clear h
            obtain ⟨z10, rfl, rfl, rfl, h⟩ := hq9
            refine J_goto C dL_calls_52 (tgt := 75) rfl ?_
            exact J_iret C dL_calls_75 M.2.2.1 ⟨_, rfl, h⟩
          · clear h
            rcases hx9 with ⟨rfl, h⟩
            · refine JX_catch (pre := []) (x := ⟨0, 75, 76, 33⟩) (suf := []) (tgt := 76) C M.2.2.2 rfl kc0 rfl (by decide) wg_773 wt_359 rfl (fun q9 => ?_)
              refine K_astore C [vr (some x0), vi x1, vi x2, vi x3, vi x4, vr (some q9)] dL_calls_76 (Nat.le_of_ble_eq_true rfl) rfl ?_
              refine J_sipush C dL_calls_78 (by decide +kernel) (rg_of (by decide)) ?_
              exact J_iret C dL_calls_81 M.2.2.1 ⟨_, rfl, h⟩
      · have h := h.2 c31
        refine J_aload_n C dL_calls_34 rfl rfl ?_
        refine J_iload_n C dL_calls_35 rfl rfl ?_
        obtain ⟨hK12, h⟩ := h
        refine K_VH C M.1 M.2.1 [vi x2] [] mi_X8_repair wg_812 wg_813 wg_814 ⟨rfl, by decide⟩ dL_calls_36 hK12 rfl rfl (by decide) (Nat.le_of_ble_eq_true rfl) (c_X8_repair (C.2.2.2.2.2.2.2) (by omega) h) (fun v9 S' F14 I' hq9 => ?_) (fun E9 S9 F9 I9 hx9 => ?_) rfl
        · clear h
          obtain ⟨z13, rfl, rfl, rfl, h⟩ := hq9
          refine J_goto C dL_calls_39 (tgt := 75) rfl ?_
          exact J_iret C dL_calls_75 M.2.2.1 ⟨_, rfl, h⟩
        · clear h
          rcases hx9 with ⟨rfl, h⟩
          · refine JX_catch (pre := []) (x := ⟨0, 75, 76, 33⟩) (suf := []) (tgt := 76) C M.2.2.2 rfl kc0 rfl (by decide) wg_773 wt_359 rfl (fun q9 => ?_)
            refine K_astore C [vr (some x0), vi x1, vi x2, vi x3, vi x4, vr (some q9)] dL_calls_76 (Nat.le_of_ble_eq_true rfl) rfl ?_
            refine J_sipush C dL_calls_78 (by decide +kernel) (rg_of (by decide)) ?_
            exact J_iret C dL_calls_81 M.2.2.1 ⟨_, rfl, h⟩
    · have h := h.2 c15
      refine J_aload_n C dL_calls_18 rfl rfl ?_
      refine J_iload_n C dL_calls_19 rfl rfl ?_
      refine J_iload_n C dL_calls_20 rfl rfl ?_
      refine J_iload C dL_calls_21 rfl ?_
      obtain ⟨hK15, h⟩ := h
      refine K_VH C M.1 M.2.1 [vi x2, vi x3, vi x4] [] mi_X8_plan wg_795 wg_796 wg_797 ⟨rfl, by decide⟩ dL_calls_23 hK15 rfl rfl (by decide) (Nat.le_of_ble_eq_true rfl) (c_X8_plan (C.2.2.2.2.2.2.2) (by omega) h) (fun v9 S17 F18 I19 hq9 => ?_) (fun E9 S9 F9 I9 hx9 => ?_) rfl
      · clear h
        obtain ⟨z16, rfl, h⟩ := hq9
        refine J_goto C dL_calls_26 (tgt := 75) rfl ?_
        exact J_iret C dL_calls_75 M.2.2.1 ⟨_, rfl, h⟩
      · clear h
        rcases hx9 with ⟨rfl, h⟩
        · refine JX_catch (pre := []) (x := ⟨0, 75, 76, 33⟩) (suf := []) (tgt := 76) C M.2.2.2 rfl kc0 rfl (by decide) wg_773 wt_359 rfl (fun q9 => ?_)
          refine K_astore C [vr (some x0), vi x1, vi x2, vi x3, vi x4, vr (some q9)] dL_calls_76 (Nat.le_of_ble_eq_true rfl) rfl ?_
          refine J_sipush C dL_calls_78 (by decide +kernel) (rg_of (by decide)) ?_
          exact J_iret C dL_calls_81 M.2.2.1 ⟨_, rfl, h⟩
  · have h := h.2 c1
    refine J_aload_n C dL_calls_4 rfl rfl ?_
    refine J_iload_n C dL_calls_5 rfl rfl ?_
    refine J_iload_n C dL_calls_6 rfl rfl ?_
    obtain ⟨hK20, h⟩ := h
    refine K_VH C M.1 M.2.1 [vi x2, vi x3] [] mi_X8_form wg_774 wg_775 wg_776 ⟨rfl, by decide⟩ dL_calls_7 hK20 rfl rfl (by decide) (Nat.le_of_ble_eq_true rfl) (c_X8_form (C.2.2.2.2.2.2.2) (by omega) h) (fun v9 S' F22 I23 hq9 => ?_) (fun E9 S9 F9 I9 hx9 => ?_) rfl
    · clear h
      obtain ⟨z21, rfl, rfl, h⟩ := hq9
      refine J_goto C dL_calls_10 (tgt := 75) rfl ?_
      exact J_iret C dL_calls_75 M.2.2.1 ⟨_, rfl, h⟩
    · clear h
      rcases hx9 with ⟨rfl, h⟩
      · refine JX_catch (pre := []) (x := ⟨0, 75, 76, 33⟩) (suf := []) (tgt := 76) C M.2.2.2 rfl kc0 rfl (by decide) wg_773 wt_359 rfl (fun q9 => ?_)
        refine K_astore C [vr (some x0), vi x1, vi x2, vi x3, vi x4, vr (some q9)] dL_calls_76 (Nat.le_of_ble_eq_true rfl) rfl ?_
        refine J_sipush C dL_calls_78 (by decide +kernel) (rg_of (by decide)) ?_
        exact J_iret C dL_calls_81 M.2.2.1 ⟨_, rfl, h⟩
theorem c_L_calls {l : Launch} {G : Gp} {d : Nat} {x0 : Nat} {x1 : Int} {x2 : Int} {x3 : Int} {x4 : Int} {S : Shp} {F : Fl} {I : Il} {Q : Int → Shp → Fl → Il → Prop} (hl : l.stackTraces = false) (hd : 12 ≤ d) (h : V_L_calls x0 x1 x2 x3 x4 S F I Q) : CM l G d yL_calls (.codeWith yL_calls cL_calls 6 (some .int) [(0, 75, 76, 33)]) [vr (some x0), vi x1, vi x2, vi x3, vi x4] S F I (qI fun z S' F' I' => Q z S' F' I') noX :=
  CM_ofH [vr (some x0), vi x1, vi x2, vi x3, vi x4, vl 0] hl (by decide +kernel) (kn1 trivial (kn1 trivial (kn1 trivial (kn1 trivial (kn1 trivial kn0))))) (Nat.le_of_ble_eq_true rfl) rfl (fun X hX C M => S_L_calls C M hd h)
set_option maxRecDepth 20000 in
set_option maxHeartbeats 4000000 in
theorem S_L_cell {G : Gp} {X : Xt} {d : Nat}  {x1 : Int} {Q : Int → Prop} {S : Shp} {F : Fl} {I : Il} (C : CO G RL cL_cell 2 X) (M : MX d (some .int) "cell" X) (hd : 1 ≤ d)  (h : V_L_cell G x1 S F I Q) : J G X (QD X G (qI fun z S' F' I' => S = S' ∧ F = F' ∧ I = I' ∧ Q z) noX) 0 [vr (some (gX G)), vi x1] [] S F I := by
  unfold V_L_cell at h
  refine J_iload_n C dL_cell_0 rfl rfl ?_
  refine J_aload_n C dL_cell_1 rfl rfl ?_
  refine K_slen C dL_cell_2 ?_
  refine J_icmp_ge C dL_cell_3 (tgt := 12) rfl (fun c3 => ?_) (fun c3 => ?_)
  · have h := h.1 c3
    refine J_ldc C dL_cell_12 (z := 52583) wg_764 (by decide +kernel) (rg_of (by decide)) ?_
    refine J_iload_n C dL_cell_14 rfl rfl ?_
    refine J_bipush C dL_cell_15 (by decide +kernel) (rg_of (by decide)) ?_
    refine J_iadd C dL_cell_17 ?_
    refine J_imul C dL_cell_18 ?_
    refine J_ldc C dL_cell_19 (z := 3034379) wg_765 (by decide +kernel) (rg_of (by decide)) ?_
    refine J_iadd C dL_cell_21 ?_
    exact J_iret C dL_cell_22 M.2.2.1 ⟨_, rfl, rfl, rfl, rfl, h⟩
  · have h := h.2 c3
    refine J_aload_n C dL_cell_6 rfl rfl ?_
    refine J_iload_n C dL_cell_7 rfl rfl ?_
    obtain ⟨h01, hn2, h⟩ := h
    refine K_sld C dL_cell_8 h01 hn2 ?_
    refine J_goto C dL_cell_9 (tgt := 22) rfl ?_
    exact J_iret C dL_cell_22 M.2.2.1 ⟨_, rfl, rfl, rfl, rfl, h⟩
theorem c_L_cell {l : Launch} {G : Gp} {d : Nat} {x1 : Int} {S : Shp} {F : Fl} {I : Il} {Q : Int → Prop} (hl : l.stackTraces = false) (hd : 1 ≤ d) (h : V_L_cell G x1 S F I Q) : CM l G d yL_cell (.code yL_cell cL_cell 2 (some .int)) [vr (some (gX G)), vi x1] S F I (qI fun z S' F' I' => S = S' ∧ F = F' ∧ I = I' ∧ Q z) noX :=
  CM_ofM [vr (some (gX G)), vi x1] hl (by decide +kernel) (kn1 trivial (kn1 trivial kn0)) (Nat.le_of_ble_eq_true rfl) rfl (fun X hX C M => S_L_cell C M hd h)
set_option maxRecDepth 20000 in
set_option maxHeartbeats 4000000 in
theorem S_L_enters_96 {G : Gp} {X : Xt} {d : Nat}  {x0 : Int} {x2 : Nat} {x4 : Nat} {x5 : Int} {x6 : Int} {s0 : Int} {s1 : Int} {s2 : Nat} {Q : Il → Prop} {S : Shp} {F : Fl} {I : Il} (C : CO G RL cL_enters 7 X) (M : MX d none "enters" X) (hd : 2 ≤ d)  (h : V_L_enters_96 x0 x2 x4 x5 x6 s0 s1 s2 S F I Q) : J G X (QD X G (qV fun S' F' I' => S = S' ∧ F = F' ∧ Q I') noX) 96 [vi x0, vl 0, vr (some x2), vl 0, vr (some x4), vi x5, vi x6] [vi s0, vi s1, vr (some s2)] S F I := by
  unfold V_L_enters_96 at h
  obtain ⟨d, rfl⟩ : ∃ d9, d = d9 + 1 := ⟨d - 1, by omega⟩
  obtain ⟨hK1, h⟩ := h
  obtain ⟨h02, hn3, h⟩ := h
  have h := h _ rfl
  refine J_iast C dL_enters_96 hK1 h02 hn3 ?_
  refine J_aload_n C dL_enters_97 rfl rfl ?_
  refine J_iload_n C dL_enters_98 rfl rfl ?_
  refine J_iconst C dL_enters_99 (rg_of (by decide)) ?_
  refine J_iadd C dL_enters_100 ?_
  refine J_iconst C dL_enters_101 (rg_of (by decide)) ?_
  obtain ⟨hK5, h⟩ := h
  obtain ⟨h06, hn7, h⟩ := h
  have h := h _ rfl
  refine J_iast C dL_enters_102 hK5 h06 hn7 ?_
  refine J_aload_n C dL_enters_103 rfl rfl ?_
  refine J_iload_n C dL_enters_104 rfl rfl ?_
  refine J_iconst C dL_enters_105 (rg_of (by decide)) ?_
  refine J_iadd C dL_enters_106 ?_
  refine J_iload C dL_enters_107 rfl ?_
  refine J_aload_n C dL_enters_109 rfl rfl ?_
  refine J_iload_n C dL_enters_110 rfl rfl ?_
  refine J_iconst C dL_enters_111 (rg_of (by decide)) ?_
  refine J_iadd C dL_enters_112 ?_
  obtain ⟨h09, hn10, h⟩ := h
  refine J_iald C dL_enters_113 hK5 h09 hn10 ?_
  refine K_S C M [vi x5, vi ((ui (ui I s2 s1 s0) x2 (w32 (x0 + 3)) 2) x2 (w32 (x0 + 4)))] [vi (w32 (x0 + 4)), vr (some x2)] mi_L_other wg_852 wg_853 dL_enters_114 rfl rfl (by decide) (Nat.le_of_ble_eq_true rfl) (c_L_other (C.2.2.2.2.2.2.2) (by omega) h) (fun v9 S' F' I' hq9 => ?_) K_no rfl
  clear h
  obtain ⟨z11, rfl, rfl, rfl, rfl, h⟩ := hq9
  obtain ⟨h012, hn13, h⟩ := h
  have h := h _ rfl
  refine J_iast C dL_enters_117 hK5 h012 hn13 ?_
  refine J_aload_n C dL_enters_118 rfl rfl ?_
  refine J_iload_n C dL_enters_119 rfl rfl ?_
  refine J_iconst C dL_enters_120 (rg_of (by decide)) ?_
  refine J_iadd C dL_enters_121 ?_
  refine J_iload C dL_enters_122 rfl ?_
  obtain ⟨h015, hn16, h⟩ := h
  have h := h _ rfl
  refine J_iast C dL_enters_124 hK5 h015 hn16 ?_
  refine J_aload_n C dL_enters_125 rfl rfl ?_
  refine J_iload_n C dL_enters_126 rfl rfl ?_
  refine J_bipush C dL_enters_127 (by decide +kernel) (rg_of (by decide)) ?_
  refine J_iadd C dL_enters_129 ?_
  refine J_aload C dL_enters_130 rfl ?_
  refine J_iconst C dL_enters_132 (rg_of (by decide)) ?_
  obtain ⟨hK18, h⟩ := h
  obtain ⟨h019, hn20, h⟩ := h
  refine J_iald C dL_enters_133 hK18 h019 hn20 ?_
  refine J_iload C dL_enters_134 rfl ?_
  refine J_iadd C dL_enters_136 ?_
  obtain ⟨h021, hn22, h⟩ := h
  have h := h _ rfl
  refine J_iast C dL_enters_137 hK5 h021 hn22 ?_
  refine J_aload_n C dL_enters_138 rfl rfl ?_
  refine J_iload_n C dL_enters_139 rfl rfl ?_
  refine J_bipush C dL_enters_140 (by decide +kernel) (rg_of (by decide)) ?_
  refine J_iadd C dL_enters_142 ?_
  refine J_dup2 C dL_enters_143 trivial trivial ?_
  obtain ⟨h024, hn25, h⟩ := h
  refine J_iald C dL_enters_144 hK5 h024 hn25 ?_
  refine J_iconst C dL_enters_145 (rg_of (by decide)) ?_
  refine J_iadd C dL_enters_146 ?_
  obtain ⟨h026, hn27, h⟩ := h
  have h := h _ rfl
  refine J_iast C dL_enters_147 hK5 h026 hn27 ?_
  refine J_aload_n C dL_enters_148 rfl rfl ?_
  refine J_iload_n C dL_enters_149 rfl rfl ?_
  refine J_bipush C dL_enters_150 (by decide +kernel) (rg_of (by decide)) ?_
  refine J_iadd C dL_enters_152 ?_
  refine J_dup2 C dL_enters_153 trivial trivial ?_
  obtain ⟨h029, hn30, h⟩ := h
  refine J_iald C dL_enters_154 hK5 h029 hn30 ?_
  refine J_iload C dL_enters_155 rfl ?_
  refine J_iadd C dL_enters_157 ?_
  obtain ⟨h031, hn32, h⟩ := h
  have h := h _ rfl
  refine J_iast C dL_enters_158 hK5 h031 hn32 ?_
  refine J_aload C dL_enters_159 rfl ?_
  refine J_iconst C dL_enters_161 (rg_of (by decide)) ?_
  refine J_dup2 C dL_enters_162 trivial trivial ?_
  obtain ⟨h034, hn35, h⟩ := h
  refine J_iald C dL_enters_163 hK18 h034 hn35 ?_
  refine J_iconst C dL_enters_164 (rg_of (by decide)) ?_
  refine J_iadd C dL_enters_165 ?_
  obtain ⟨h036, hn37, h⟩ := h
  have h := h _ rfl
  refine J_iast C dL_enters_166 hK18 h036 hn37 ?_
  exact J_vret C dL_enters_167 M.2.2.1 ⟨rfl, rfl, rfl, h⟩
set_option maxRecDepth 20000 in
set_option maxHeartbeats 4000000 in
theorem S_L_enters {G : Gp} {X : Xt} {d : Nat}  {x0 : Int} {x1 : Nat} {x2 : Nat} {x3 : Nat} {x4 : Nat} {Q : Il → Prop} {S : Shp} {F : Fl} {I : Il} (C : CO G RL cL_enters 7 X) (M : MX d none "enters" X) (hd : 2 ≤ d)  (h : V_L_enters x0 x1 x2 x3 x4 S F I Q) : J G X (QD X G (qV fun S' F' I' => S = S' ∧ F = F' ∧ Q I') noX) 0 [vi x0, vr (some x1), vr (some x2), vr (some x3), vr (some x4), vl 0, vl 0] [] S F I := by
  unfold V_L_enters at h
  obtain ⟨d, rfl⟩ : ∃ d9, d = d9 + 1 := ⟨d - 1, by omega⟩
  refine J_aload_n C dL_enters_0 rfl rfl ?_
  refine J_iload_n C dL_enters_1 rfl rfl ?_
  refine J_iconst C dL_enters_2 (rg_of (by decide)) ?_
  refine J_idiv C dL_enters_3 (by decide) ?_
  refine J_aload_n C dL_enters_4 rfl rfl ?_
  refine J_iload_n C dL_enters_5 rfl rfl ?_
  refine J_bipush C dL_enters_6 (by decide +kernel) (rg_of (by decide)) ?_
  refine J_iadd C dL_enters_8 ?_
  obtain ⟨hK1, h⟩ := h
  obtain ⟨h02, hn3, h⟩ := h
  refine J_iald C dL_enters_9 hK1 h02 hn3 ?_
  refine J_iadd C dL_enters_10 ?_
  obtain ⟨hK4, h⟩ := h
  obtain ⟨h05, hn6, h⟩ := h
  refine J_iald C dL_enters_11 hK4 h05 hn6 ?_
  have h := h _ rfl
  refine K_istore C [vi x0, vr (some x1), vr (some x2), vr (some x3), vr (some x4), vi (I x3 (w32 ((w32 (Int.tdiv x0 2)) + (I x2 (w32 (x0 + 7)))))), vl 0] dL_enters_12 (Nat.le_of_ble_eq_true rfl) rfl ?_
  refine J_iload_n C dL_enters_14 rfl rfl ?_
  refine J_iload C dL_enters_15 rfl ?_
  refine J_aload_n C dL_enters_17 rfl rfl ?_
  refine J_aload_n C dL_enters_18 rfl rfl ?_
  refine K_S C M [vi x0, vi (I x3 (w32 ((w32 (Int.tdiv x0 2)) + (I x2 (w32 (x0 + 7)))))), vr (some x1), vr (some x2)] [] mi_L_runs wg_849 wg_850 dL_enters_19 rfl rfl (by decide) (Nat.le_of_ble_eq_true rfl) (c_L_runs (C.2.2.2.2.2.2.2) (by omega) h) (fun v9 S' F' I' hq9 => ?_) K_no rfl
  clear h
  obtain ⟨z8, rfl, rfl, rfl, rfl, h⟩ := hq9
  refine K_istore C [vi x0, vr (some x1), vr (some x2), vr (some x3), vr (some x4), vi (I x3 (w32 ((w32 (Int.tdiv x0 2)) + (I x2 (w32 (x0 + 7)))))), vi z8] dL_enters_22 (Nat.le_of_ble_eq_true rfl) rfl ?_
  refine J_aload_n C dL_enters_24 rfl rfl ?_
  refine J_bipush C dL_enters_25 (by decide +kernel) (rg_of (by decide)) ?_
  refine J_iload C dL_enters_27 rfl ?_
  refine J_iadd C dL_enters_29 ?_
  refine J_iload_n C dL_enters_30 rfl rfl ?_
  refine J_bipush C dL_enters_31 (by decide +kernel) (rg_of (by decide)) ?_
  refine J_idiv C dL_enters_33 (by decide) ?_
  obtain ⟨hK9, h⟩ := h
  obtain ⟨h010, hn11, h⟩ := h
  have h := h _ rfl
  refine J_iast C dL_enters_34 hK9 h010 hn11 ?_
  refine J_aload_n C dL_enters_35 rfl rfl ?_
  refine J_bipush C dL_enters_36 (by decide +kernel) (rg_of (by decide)) ?_
  refine J_iload C dL_enters_38 rfl ?_
  refine J_iadd C dL_enters_40 ?_
  refine J_aload C dL_enters_41 rfl ?_
  refine J_iconst C dL_enters_43 (rg_of (by decide)) ?_
  obtain ⟨hK13, h⟩ := h
  obtain ⟨h014, hn15, h⟩ := h
  refine J_iald C dL_enters_44 hK13 h014 hn15 ?_
  refine J_iload C dL_enters_45 rfl ?_
  refine J_iadd C dL_enters_47 ?_
  refine J_iconst C dL_enters_48 (rg_of (by decide)) ?_
  refine J_iadd C dL_enters_49 ?_
  refine J_aload_n C dL_enters_50 rfl rfl ?_
  refine J_iload_n C dL_enters_51 rfl rfl ?_
  refine J_iconst C dL_enters_52 (rg_of (by decide)) ?_
  refine J_iadd C dL_enters_53 ?_
  obtain ⟨h016, hn17, h⟩ := h
  refine J_iald C dL_enters_54 hK1 h016 hn17 ?_
  refine J_iconst C dL_enters_55 (rg_of (by decide)) ?_
  refine J_idiv C dL_enters_56 (by decide) ?_
  refine J_iadd C dL_enters_57 ?_
  obtain ⟨h018, hn19, h⟩ := h
  have h := h _ rfl
  refine J_iast C dL_enters_58 hK9 h018 hn19 ?_
  refine J_aload_n C dL_enters_59 rfl rfl ?_
  refine J_bipush C dL_enters_60 (by decide +kernel) (rg_of (by decide)) ?_
  refine J_iload C dL_enters_62 rfl ?_
  refine J_iadd C dL_enters_64 ?_
  refine J_iconst C dL_enters_65 (rg_of (by decide)) ?_
  obtain ⟨h021, hn22, h⟩ := h
  have h := h _ rfl
  refine J_iast C dL_enters_66 hK9 h021 hn22 ?_
  refine J_aload_n C dL_enters_67 rfl rfl ?_
  refine J_iload_n C dL_enters_68 rfl rfl ?_
  refine J_bipush C dL_enters_69 (by decide +kernel) (rg_of (by decide)) ?_
  refine J_iadd C dL_enters_71 ?_
  refine J_aload_n C dL_enters_72 rfl rfl ?_
  refine J_iload_n C dL_enters_73 rfl rfl ?_
  refine J_bipush C dL_enters_74 (by decide +kernel) (rg_of (by decide)) ?_
  refine J_iadd C dL_enters_76 ?_
  obtain ⟨h024, hn25, h⟩ := h
  refine J_iald C dL_enters_77 hK1 h024 hn25 ?_
  refine J_aload_n C dL_enters_78 rfl rfl ?_
  refine J_iload_n C dL_enters_79 rfl rfl ?_
  refine J_iconst C dL_enters_80 (rg_of (by decide)) ?_
  refine J_iadd C dL_enters_81 ?_
  obtain ⟨h026, hn27, h⟩ := h
  refine J_iald C dL_enters_82 hK1 h026 hn27 ?_
  refine J_icmp_ne C dL_enters_83 (tgt := 90) rfl (fun c83 => ?_) (fun c83 => ?_)
  · have h := h.1 c83
    refine J_aload_n C dL_enters_90 rfl rfl ?_
    refine J_iload_n C dL_enters_91 rfl rfl ?_
    refine J_bipush C dL_enters_92 (by decide +kernel) (rg_of (by decide)) ?_
    refine J_iadd C dL_enters_94 ?_
    obtain ⟨h028, hn29, h⟩ := h
    refine J_iald C dL_enters_95 hK1 h028 hn29 ?_
    refine J_less [vi x0, vl 0, vr (some x2), vl 0, vr (some x4), vi (I x3 (w32 ((w32 (Int.tdiv x0 2)) + (I x2 (w32 (x0 + 7)))))), vi z8] (by unfold lessL; simp [lessL]) ?_
    exact S_L_enters_96 C M (by omega)  h
  · have h := h.2 c83
    refine J_iconst C dL_enters_86 (rg_of (by decide)) ?_
    refine J_goto C dL_enters_87 (tgt := 96) rfl ?_
    refine J_less [vi x0, vl 0, vr (some x2), vl 0, vr (some x4), vi (I x3 (w32 ((w32 (Int.tdiv x0 2)) + (I x2 (w32 (x0 + 7)))))), vi z8] (by unfold lessL; simp [lessL]) ?_
    exact S_L_enters_96 C M (by omega)  h
theorem c_L_enters {l : Launch} {G : Gp} {d : Nat} {x0 : Int} {x1 : Nat} {x2 : Nat} {x3 : Nat} {x4 : Nat} {S : Shp} {F : Fl} {I : Il} {Q : Il → Prop} (hl : l.stackTraces = false) (hd : 2 ≤ d) (h : V_L_enters x0 x1 x2 x3 x4 S F I Q) : CM l G d yL_enters (.code yL_enters cL_enters 7 none) [vi x0, vr (some x1), vr (some x2), vr (some x3), vr (some x4)] S F I (qV fun S' F' I' => S = S' ∧ F = F' ∧ Q I') noX :=
  CM_ofM [vi x0, vr (some x1), vr (some x2), vr (some x3), vr (some x4), vl 0, vl 0] hl (by decide +kernel) (kn1 trivial (kn1 trivial (kn1 trivial (kn1 trivial (kn1 trivial kn0))))) (Nat.le_of_ble_eq_true rfl) rfl (fun X hX C M => S_L_enters C M hd h)
set_option maxRecDepth 20000 in
set_option maxHeartbeats 4000000 in
theorem S_L_flags {G : Gp} {X : Xt} {d : Nat}  {x0 : Nat} {x1 : Int} {Q : Int → Prop} {S : Shp} {F : Fl} {I : Il} (C : CO G RL cL_flags 2 X) (M : MX d (some .int) "flags" X) (hd : 11 ≤ d)  (h : V_L_flags x0 x1 S F I Q) : J G X (QD X G (qI fun z S' F' I' => S = S' ∧ F = F' ∧ I = I' ∧ Q z) noX) 0 [vr (some x0), vi x1] [] S F I := by
  unfold V_L_flags at h
  obtain ⟨d, rfl⟩ : ∃ d9, d = d9 + 1 := ⟨d - 1, by omega⟩
  refine J_aload_n C dL_flags_0 rfl rfl ?_
  refine J_iload_n C dL_flags_1 rfl rfl ?_
  refine J_iconst C dL_flags_2 (rg_of (by decide)) ?_
  obtain ⟨hK1, h⟩ := h
  refine K_V C M [vi x1, vi 2] [] mi_X8_block wg_881 wg_882 wg_883 ⟨rfl, by decide⟩ dL_flags_3 hK1 rfl rfl (by decide) (Nat.le_of_ble_eq_true rfl) (c_X8_block (C.2.2.2.2.2.2.2) (by omega) h) (fun v9 S' F' I' hq9 => ?_) K_no rfl
  clear h
  obtain ⟨z2, rfl, rfl, rfl, rfl, h⟩ := hq9
  exact J_iret C dL_flags_6 M.2.2.1 ⟨_, rfl, rfl, rfl, rfl, h⟩
theorem c_L_flags {l : Launch} {G : Gp} {d : Nat} {x0 : Nat} {x1 : Int} {S : Shp} {F : Fl} {I : Il} {Q : Int → Prop} (hl : l.stackTraces = false) (hd : 11 ≤ d) (h : V_L_flags x0 x1 S F I Q) : CM l G d yL_flags (.code yL_flags cL_flags 2 (some .int)) [vr (some x0), vi x1] S F I (qI fun z S' F' I' => S = S' ∧ F = F' ∧ I = I' ∧ Q z) noX :=
  CM_ofM [vr (some x0), vi x1] hl (by decide +kernel) (kn1 trivial (kn1 trivial kn0)) (Nat.le_of_ble_eq_true rfl) rfl (fun X hX C M => S_L_flags C M hd h)
set_option maxRecDepth 20000 in
set_option maxHeartbeats 4000000 in
theorem S_L_low {G : Gp} {X : Xt} {d : Nat}  {x0 : Int} {x1 : Int} {Q : Int → Prop} {S : Shp} {F : Fl} {I : Il} (C : CO G RL cL_low 2 X) (M : MX d (some .int) "low" X) (hd : 1 ≤ d)  (h : V_L_low x0 x1 S F I Q) : J G X (QD X G (qI fun z S' F' I' => S = S' ∧ F = F' ∧ I = I' ∧ Q z) noX) 0 [vi x0, vi x1] [] S F I := by
  unfold V_L_low at h
  refine J_iload_n C dL_low_0 rfl rfl ?_
  refine J_ldc C dL_low_1 (z := 2147483647) wg_769 (by decide +kernel) (rg_of (by decide)) ?_
  refine J_iand C dL_low_3 ?_
  refine J_iload_n C dL_low_4 rfl rfl ?_
  obtain ⟨hz1, h⟩ := h
  refine J_irem C dL_low_5 hz1 ?_
  exact J_iret C dL_low_6 M.2.2.1 ⟨_, rfl, rfl, rfl, rfl, h⟩
theorem c_L_low {l : Launch} {G : Gp} {d : Nat} {x0 : Int} {x1 : Int} {S : Shp} {F : Fl} {I : Il} {Q : Int → Prop} (hl : l.stackTraces = false) (hd : 1 ≤ d) (h : V_L_low x0 x1 S F I Q) : CM l G d yL_low (.code yL_low cL_low 2 (some .int)) [vi x0, vi x1] S F I (qI fun z S' F' I' => S = S' ∧ F = F' ∧ I = I' ∧ Q z) noX :=
  CM_ofM [vi x0, vi x1] hl (by decide +kernel) (kn1 trivial (kn1 trivial kn0)) (Nat.le_of_ble_eq_true rfl) rfl (fun X hX C M => S_L_low C M hd h)
set_option maxRecDepth 20000 in
set_option maxHeartbeats 4000000 in
theorem S_L_plans_360 {G : Gp} {X : Xt} {d : Nat}  {x5 : Nat} {x7 : Int} {x9 : Int} {x13 : Int} {Q : Int → Shp → Fl → Il → Prop} {S : Shp} {F : Fl} {I : Il} (C : CO G RL cL_plans 15 X) (M : MX d (some .boolean) "plans" X) (hd : 13 ≤ d)  (h : V_L_plans_360 x5 x7 x9 x13 S F I Q) : J G X (QD X G (qI fun z S' F' I' => Q z S' F' I') noX) 360 [vl 0, vl 0, vl 0, vl 0, vl 0, vr (some x5), vl 0, vi x7, vl 0, vi x9, vl 0, vl 0, vl 0, vi x13, vl 0] [] S F I := by
  unfold V_L_plans_360 at h
  refine J_aload C dL_plans_360 rfl ?_
  refine J_iconst C dL_plans_362 (rg_of (by decide)) ?_
  refine J_iload C dL_plans_363 rfl ?_
  refine J_if_eq C dL_plans_365 (tgt := 372) rfl (fun c365 => ?_) (fun c365 => ?_)
  · have h := h.1 c365
    refine J_iload C dL_plans_372 rfl ?_
    obtain ⟨hK1, h⟩ := h
    obtain ⟨h02, hn3, h⟩ := h
    have h := h _ rfl
    refine J_iast C dL_plans_374 hK1 h02 hn3 ?_
    refine J_iload C dL_plans_375 rfl ?_
    obtain ⟨hb, h⟩ := h
    exact J_zret C dL_plans_377 M.2.2.1 hb ⟨_, rfl, h⟩
  · have h := h.2 c365
    refine J_iconst C dL_plans_368 (rg_of (by decide)) ?_
    refine J_goto C dL_plans_369 (tgt := 374) rfl ?_
    obtain ⟨hK5, h⟩ := h
    obtain ⟨h06, hn7, h⟩ := h
    have h := h _ rfl
    refine J_iast C dL_plans_374 hK5 h06 hn7 ?_
    refine J_iload C dL_plans_375 rfl ?_
    obtain ⟨hb, h⟩ := h
    exact J_zret C dL_plans_377 M.2.2.1 hb ⟨_, rfl, h⟩
set_option maxRecDepth 20000 in
set_option maxHeartbeats 4000000 in
theorem S_L_plans_313 {G : Gp} {X : Xt} {d : Nat}  {x3 : Nat} {x5 : Nat} {x6 : Int} {x7 : Int} {x9 : Int} {x11 : Int} {x12 : Int} {x13 : Int} {Q : Int → Shp → Fl → Il → Prop} {S : Shp} {F : Fl} {I : Il} (C : CO G RL cL_plans 15 X) (M : MX d (some .boolean) "plans" X) (hd : 13 ≤ d)  (h : V_L_plans_313 x3 x5 x6 x7 x9 x11 x12 x13 S F I Q) : J G X (QD X G (qI fun z S' F' I' => Q z S' F' I') noX) 313 [vl 0, vl 0, vl 0, vr (some x3), vl 0, vr (some x5), vi x6, vi x7, vl 0, vi x9, vl 0, vi x11, vi x12, vi x13, vl 0] [] S F I := by
  unfold V_L_plans_313 at h
  refine J_iload C dL_plans_313 rfl ?_
  refine J_if_eq C dL_plans_315 (tgt := 360) rfl (fun c315 => ?_) (fun c315 => ?_)
  · have h := h.1 c315
    refine J_less [vl 0, vl 0, vl 0, vl 0, vl 0, vr (some x5), vl 0, vi x7, vl 0, vi x9, vl 0, vl 0, vl 0, vi x13, vl 0] (by unfold lessL; simp [lessL]) ?_
    exact S_L_plans_360 C M (by omega)  h
  · have h := h.2 c315
    refine J_aload_n C dL_plans_318 rfl rfl ?_
    refine J_iload C dL_plans_319 rfl ?_
    refine J_iconst C dL_plans_321 (rg_of (by decide)) ?_
    refine J_iadd C dL_plans_322 ?_
    refine J_iconst C dL_plans_323 (rg_of (by decide)) ?_
    obtain ⟨hK1, h⟩ := h
    obtain ⟨h02, hn3, h⟩ := h
    have h := h _ rfl
    refine J_iast C dL_plans_324 hK1 h02 hn3 ?_
    refine J_aload_n C dL_plans_325 rfl rfl ?_
    refine J_iload C dL_plans_326 rfl ?_
    refine J_bipush C dL_plans_328 (by decide +kernel) (rg_of (by decide)) ?_
    refine J_iadd C dL_plans_330 ?_
    refine J_iconst C dL_plans_331 (rg_of (by decide)) ?_
    obtain ⟨h05, hn6, h⟩ := h
    have h := h _ rfl
    refine J_iast C dL_plans_332 hK1 h05 hn6 ?_
    refine J_aload_n C dL_plans_333 rfl rfl ?_
    refine J_iload C dL_plans_334 rfl ?_
    refine J_bipush C dL_plans_336 (by decide +kernel) (rg_of (by decide)) ?_
    refine J_iadd C dL_plans_338 ?_
    refine J_iload C dL_plans_339 rfl ?_
    obtain ⟨h08, hn9, h⟩ := h
    have h := h _ rfl
    refine J_iast C dL_plans_341 hK1 h08 hn9 ?_
    refine J_aload_n C dL_plans_342 rfl rfl ?_
    refine J_iload C dL_plans_343 rfl ?_
    refine J_bipush C dL_plans_345 (by decide +kernel) (rg_of (by decide)) ?_
    refine J_iadd C dL_plans_347 ?_
    refine J_iload C dL_plans_348 rfl ?_
    obtain ⟨h011, hn12, h⟩ := h
    have h := h _ rfl
    refine J_iast C dL_plans_350 hK1 h011 hn12 ?_
    refine J_aload_n C dL_plans_351 rfl rfl ?_
    refine J_iload C dL_plans_352 rfl ?_
    refine J_bipush C dL_plans_354 (by decide +kernel) (rg_of (by decide)) ?_
    refine J_iadd C dL_plans_356 ?_
    refine J_iload C dL_plans_357 rfl ?_
    obtain ⟨h014, hn15, h⟩ := h
    have h := h _ rfl
    refine J_iast C dL_plans_359 hK1 h014 hn15 ?_
    refine J_less [vl 0, vl 0, vl 0, vl 0, vl 0, vr (some x5), vl 0, vi x7, vl 0, vi x9, vl 0, vl 0, vl 0, vi x13, vl 0] (by unfold lessL; simp [lessL]) ?_
    exact S_L_plans_360 C M (by omega)  h
set_option maxRecDepth 20000 in
set_option maxHeartbeats 4000000 in
theorem S_L_plans_280 {G : Gp} {X : Xt} {d : Nat}   {Q : Int → Shp → Fl → Il → Prop} (C : CO G RL cL_plans 15 X) (M : MX d (some .boolean) "plans" X) (hd : 13 ≤ d) (n9 : Nat)  : ∀ (x1 : Int) (x3 : Nat) (x4 : Nat) (x5 : Nat) (x6 : Int) (x7 : Int) (x9 : Int) (x10 : Nat) (x11 : Int) (x12 : Int) (x13 : Int) (x14 : Int) (S : Shp) (F : Fl) (I : Il), V_L_plans_280 n9 x1 x3 x4 x5 x6 x7 x9 x10 x11 x12 x13 x14 S F I Q → J G X (QD X G (qI fun z S' F' I' => Q z S' F' I') noX) 280 [vl 0, vi x1, vl 0, vr (some x3), vr (some x4), vr (some x5), vi x6, vi x7, vl 0, vi x9, vr (some x10), vi x11, vi x12, vi x13, vi x14] [] S F I := by
  induction n9 with
  | zero => intro x1 x3 x4 x5 x6 x7 x9 x10 x11 x12 x13 x14 S F I h; exact h.elim
  | succ n ih =>
    intro x1 x3 x4 x5 x6 x7 x9 x10 x11 x12 x13 x14 S F I h
    unfold V_L_plans_280 at h
    refine J_iload C dL_plans_280 rfl ?_
    refine J_bipush C dL_plans_282 (by decide +kernel) (rg_of (by decide)) ?_
    refine J_icmp_ge C dL_plans_284 (tgt := 313) rfl (fun c284 => ?_) (fun c284 => ?_)
    · have h := h.1 c284
      refine J_less [vl 0, vl 0, vl 0, vr (some x3), vl 0, vr (some x5), vi x6, vi x7, vl 0, vi x9, vl 0, vi x11, vi x12, vi x13, vl 0] (by unfold lessL; simp [lessL]) ?_
      exact S_L_plans_313 C M (by omega)  h
    · have h := h.2 c284
      refine J_iload C dL_plans_287 rfl ?_
      refine J_if_eq C dL_plans_289 (tgt := 313) rfl (fun c289 => ?_) (fun c289 => ?_)
      · have h := h.1 c289
        refine J_less [vl 0, vl 0, vl 0, vr (some x3), vl 0, vr (some x5), vi x6, vi x7, vl 0, vi x9, vl 0, vi x11, vi x12, vi x13, vl 0] (by unfold lessL; simp [lessL]) ?_
        exact S_L_plans_313 C M (by omega)  h
      · have h := h.2 c289
        refine J_aload C dL_plans_292 rfl ?_
        refine J_bipush C dL_plans_294 (by decide +kernel) (rg_of (by decide)) ?_
        refine J_iload_n C dL_plans_296 rfl rfl ?_
        refine J_imul C dL_plans_297 ?_
        refine J_iload C dL_plans_298 rfl ?_
        refine J_iadd C dL_plans_300 ?_
        refine J_aload C dL_plans_301 rfl ?_
        refine J_iload C dL_plans_303 rfl ?_
        obtain ⟨hK1, h⟩ := h
        obtain ⟨h02, hn3, h⟩ := h
        refine J_iald C dL_plans_305 hK1 h02 hn3 ?_
        obtain ⟨hK4, h⟩ := h
        obtain ⟨h05, hn6, h⟩ := h
        have h := h _ rfl
        refine J_iast C dL_plans_306 hK4 h05 hn6 ?_
        refine K_iinc C [vl 0, vi x1, vl 0, vr (some x3), vr (some x4), vr (some x5), vi x6, vi x7, vl 0, vi x9, vr (some x10), vi x11, vi x12, vi x13, vi (w32 (x14 + 1))] dL_plans_307 rfl rfl ?_
        refine J_goto C dL_plans_310 (tgt := 280) rfl ?_
        exact ih _ _ _ _ _ _ _ _ _ _ _ _ _ _ _ h
set_option maxRecDepth 20000 in
set_option maxHeartbeats 4000000 in
theorem S_L_plans_275 {G : Gp} {X : Xt} {d : Nat}  {x1 : Int} {x3 : Nat} {x4 : Nat} {x5 : Nat} {x6 : Int} {x7 : Int} {x10 : Nat} {x11 : Int} {x12 : Int} {x13 : Int} {s0 : Int} {Q : Int → Shp → Fl → Il → Prop} {S : Shp} {F : Fl} {I : Il} (C : CO G RL cL_plans 15 X) (M : MX d (some .boolean) "plans" X) (hd : 13 ≤ d)  (h : V_L_plans_275 x1 x3 x4 x5 x6 x7 x10 x11 x12 x13 s0 S F I Q) : J G X (QD X G (qI fun z S' F' I' => Q z S' F' I') noX) 275 [vl 0, vi x1, vl 0, vr (some x3), vr (some x4), vr (some x5), vi x6, vi x7, vl 0, vl 0, vr (some x10), vi x11, vi x12, vi x13, vl 0] [vi s0] S F I := by
  unfold V_L_plans_275 at h
  refine K_istore C [vl 0, vi x1, vl 0, vr (some x3), vr (some x4), vr (some x5), vi x6, vi x7, vl 0, vi s0, vr (some x10), vi x11, vi x12, vi x13, vl 0] dL_plans_275 (Nat.le_of_ble_eq_true rfl) rfl ?_
  refine J_iconst C dL_plans_277 (rg_of (by decide)) ?_
  refine K_istore C [vl 0, vi x1, vl 0, vr (some x3), vr (some x4), vr (some x5), vi x6, vi x7, vl 0, vi s0, vr (some x10), vi x11, vi x12, vi x13, vi 0] dL_plans_278 (Nat.le_of_ble_eq_true rfl) rfl ?_
  obtain ⟨n9, h⟩ := h
  exact S_L_plans_280 C M (by omega) n9  _ _ _ _ _ _ _ _ _ _ _ _ _ _ _ h
set_option maxRecDepth 20000 in
set_option maxHeartbeats 4000000 in
theorem S_L_plans_274 {G : Gp} {X : Xt} {d : Nat}  {x1 : Int} {x3 : Nat} {x4 : Nat} {x5 : Nat} {x6 : Int} {x7 : Int} {x10 : Nat} {x11 : Int} {x12 : Int} {x13 : Int} {Q : Int → Shp → Fl → Il → Prop} {S : Shp} {F : Fl} {I : Il} (C : CO G RL cL_plans 15 X) (M : MX d (some .boolean) "plans" X) (hd : 13 ≤ d)  (h : V_L_plans_274 x1 x3 x4 x5 x6 x7 x10 x11 x12 x13 S F I Q) : J G X (QD X G (qI fun z S' F' I' => Q z S' F' I') noX) 274 [vl 0, vi x1, vl 0, vr (some x3), vr (some x4), vr (some x5), vi x6, vi x7, vl 0, vl 0, vr (some x10), vi x11, vi x12, vi x13, vl 0] [] S F I := by
  unfold V_L_plans_274 at h
  refine J_iconst C dL_plans_274 (rg_of (by decide)) ?_
  exact S_L_plans_275 C M (by omega)  h
set_option maxRecDepth 20000 in
set_option maxHeartbeats 4000000 in
theorem S_L_plans_267 {G : Gp} {X : Xt} {d : Nat}  {x1 : Int} {x3 : Nat} {x4 : Nat} {x5 : Nat} {x6 : Int} {x7 : Int} {x10 : Nat} {x11 : Int} {x12 : Int} {x13 : Int} {s0 : Int} {s1 : Int} {Q : Int → Shp → Fl → Il → Prop} {S : Shp} {F : Fl} {I : Il} (C : CO G RL cL_plans 15 X) (M : MX d (some .boolean) "plans" X) (hd : 13 ≤ d)  (h : V_L_plans_267 x1 x3 x4 x5 x6 x7 x10 x11 x12 x13 s0 s1 S F I Q) : J G X (QD X G (qI fun z S' F' I' => Q z S' F' I') noX) 267 [vl 0, vi x1, vl 0, vr (some x3), vr (some x4), vr (some x5), vi x6, vi x7, vl 0, vl 0, vr (some x10), vi x11, vi x12, vi x13, vl 0] [vi s0, vi s1] S F I := by
  unfold V_L_plans_267 at h
  refine J_icmp_ne C dL_plans_267 (tgt := 274) rfl (fun c267 => ?_) (fun c267 => ?_)
  · have h := h.1 c267
    exact S_L_plans_274 C M (by omega)  h
  · have h := h.2 c267
    refine J_iconst C dL_plans_270 (rg_of (by decide)) ?_
    refine J_goto C dL_plans_271 (tgt := 275) rfl ?_
    exact S_L_plans_275 C M (by omega)  h
set_option maxRecDepth 20000 in
set_option maxHeartbeats 4000000 in
theorem S_L_plans_237 {G : Gp} {X : Xt} {d : Nat}  {x0 : Nat} {x1 : Int} {x3 : Nat} {x4 : Nat} {x5 : Nat} {x6 : Int} {x7 : Int} {x8 : Int} {x9 : Int} {x10 : Nat} {x11 : Int} {x12 : Int} {s0 : Int} {Q : Int → Shp → Fl → Il → Prop} {S : Shp} {F : Fl} {I : Il} (C : CO G RL cL_plans 15 X) (M : MX d (some .boolean) "plans" X) (hd : 13 ≤ d)  (h : V_L_plans_237 x0 x1 x3 x4 x5 x6 x7 x8 x9 x10 x11 x12 s0 S F I Q) : J G X (QD X G (qI fun z S' F' I' => Q z S' F' I') noX) 237 [vr (some x0), vi x1, vl 0, vr (some x3), vr (some x4), vr (some x5), vi x6, vi x7, vi x8, vi x9, vr (some x10), vi x11, vi x12, vl 0, vl 0] [vi s0] S F I := by
  unfold V_L_plans_237 at h
  obtain ⟨d, rfl⟩ : ∃ d9, d = d9 + 1 := ⟨d - 1, by omega⟩
  refine K_istore C [vr (some x0), vi x1, vl 0, vr (some x3), vr (some x4), vr (some x5), vi x6, vi x7, vi x8, vi x9, vr (some x10), vi x11, vi x12, vi s0, vl 0] dL_plans_237 (Nat.le_of_ble_eq_true rfl) rfl ?_
  refine J_iload C dL_plans_239 rfl ?_
  refine J_if_eq C dL_plans_241 (tgt := 274) rfl (fun c241 => ?_) (fun c241 => ?_)
  · have h := h.1 c241
    refine J_less [vl 0, vi x1, vl 0, vr (some x3), vr (some x4), vr (some x5), vi x6, vi x7, vl 0, vl 0, vr (some x10), vi x11, vi x12, vi s0, vl 0] (by unfold lessL; simp [lessL]) ?_
    exact S_L_plans_274 C M (by omega)  h
  · have h := h.2 c241
    refine J_aload_n C dL_plans_244 rfl rfl ?_
    refine J_iconst C dL_plans_245 (rg_of (by decide)) ?_
    refine J_iload_n C dL_plans_246 rfl rfl ?_
    refine J_iload C dL_plans_247 rfl ?_
    refine J_iload C dL_plans_249 rfl ?_
    refine K_SW C M.1 M.2.1 [vr (some x0), vi 1, vi x1, vi x11, vi x12] [] miw_L_calls wg_770 wg_771 dL_plans_251 rfl rfl (by decide) (Nat.le_of_ble_eq_true rfl) (c_L_calls (C.2.2.2.2.2.2.2) (by omega) h) (fun v9 S2 F3 I4 hq9 => ?_) rfl
    clear h
    obtain ⟨z1, rfl, h⟩ := hq9
    refine J_iload C dL_plans_254 rfl ?_
    refine J_if_eq C dL_plans_256 (tgt := 264) rfl (fun c256 => ?_) (fun c256 => ?_)
    · have h := h.1 c256
      refine J_sipush C dL_plans_264 (by decide +kernel) (rg_of (by decide)) ?_
      refine J_less [vl 0, vi x1, vl 0, vr (some x3), vr (some x4), vr (some x5), vi x6, vi x7, vl 0, vl 0, vr (some x10), vi x11, vi x12, vi s0, vl 0] (by unfold lessL; simp [lessL]) ?_
      exact S_L_plans_267 C M (by omega)  h
    · have h := h.2 c256
      refine J_iload C dL_plans_259 rfl ?_
      refine J_goto C dL_plans_261 (tgt := 267) rfl ?_
      refine J_less [vl 0, vi x1, vl 0, vr (some x3), vr (some x4), vr (some x5), vi x6, vi x7, vl 0, vl 0, vr (some x10), vi x11, vi x12, vi s0, vl 0] (by unfold lessL; simp [lessL]) ?_
      exact S_L_plans_267 C M (by omega)  h
set_option maxRecDepth 20000 in
set_option maxHeartbeats 4000000 in
theorem S_L_plans_236 {G : Gp} {X : Xt} {d : Nat}  {x0 : Nat} {x1 : Int} {x3 : Nat} {x4 : Nat} {x5 : Nat} {x6 : Int} {x7 : Int} {x8 : Int} {x9 : Int} {x10 : Nat} {x11 : Int} {x12 : Int} {Q : Int → Shp → Fl → Il → Prop} {S : Shp} {F : Fl} {I : Il} (C : CO G RL cL_plans 15 X) (M : MX d (some .boolean) "plans" X) (hd : 13 ≤ d)  (h : V_L_plans_236 x0 x1 x3 x4 x5 x6 x7 x8 x9 x10 x11 x12 S F I Q) : J G X (QD X G (qI fun z S' F' I' => Q z S' F' I') noX) 236 [vr (some x0), vi x1, vl 0, vr (some x3), vr (some x4), vr (some x5), vi x6, vi x7, vi x8, vi x9, vr (some x10), vi x11, vi x12, vl 0, vl 0] [] S F I := by
  unfold V_L_plans_236 at h
  refine J_iconst C dL_plans_236 (rg_of (by decide)) ?_
  exact S_L_plans_237 C M (by omega)  h
set_option maxRecDepth 20000 in
set_option maxHeartbeats 4000000 in
theorem S_L_plans_175 {G : Gp} {X : Xt} {d : Nat} {k35 : Nat → Int → Int → Nat → Nat → Nat → Int → Int → Int → Int → Nat → Int → Shp → Fl → Il → Prop} {x0 : Nat} {x1 : Int} {x2 : Int} {x3 : Nat} {x4 : Nat} {x5 : Nat} {x6 : Int} {x7 : Int} {x8 : Int} {x9 : Int} {x10 : Nat} {x11 : Int} {Q : Int → Shp → Fl → Il → Prop} {S : Shp} {F : Fl} {I : Il} (C : CO G RL cL_plans 15 X) (M : MX d (some .boolean) "plans" X) (hd : 13 ≤ d) (hk35 : ∀ (x0 : Nat) (x1 : Int) (x2 : Int) (x3 : Nat) (x4 : Nat) (x5 : Nat) (x6 : Int) (x7 : Int) (x8 : Int) (x9 : Int) (x10 : Nat) (x11 : Int) (S' : Shp) (F' : Fl) (I' : Il), k35 x0 x1 x2 x3 x4 x5 x6 x7 x8 x9 x10 x11 S' F' I' → J G X (QD X G (qI fun z S' F' I' => Q z S' F' I') noX) 35 [vr (some x0), vi x1, vi x2, vr (some x3), vr (some x4), vr (some x5), vi x6, vi x7, vi x8, vi x9, vr (some x10), vi x11, vl 0, vl 0, vl 0] [] S' F' I') (h : V_L_plans_175 k35 x0 x1 x2 x3 x4 x5 x6 x7 x8 x9 x10 x11 S F I Q) : J G X (QD X G (qI fun z S' F' I' => Q z S' F' I') noX) 175 [vr (some x0), vi x1, vi x2, vr (some x3), vr (some x4), vr (some x5), vi x6, vi x7, vi x8, vi x9, vr (some x10), vi x11, vl 0, vl 0, vl 0] [] S F I := by
  unfold V_L_plans_175 at h
  refine K_iinc C [vr (some x0), vi x1, vi x2, vr (some x3), vr (some x4), vr (some x5), vi x6, vi x7, vi x8, vi x9, vr (some x10), vi (w32 (x11 + 1)), vl 0, vl 0, vl 0] dL_plans_175 rfl rfl ?_
  refine J_goto C dL_plans_178 (tgt := 35) rfl ?_
  exact hk35 x0 x1 x2 x3 x4 x5 x6 x7 x8 x9 x10 (w32 (x11 + 1)) S F I h
set_option maxRecDepth 20000 in
set_option maxHeartbeats 4000000 in
theorem S_L_plans_162 {G : Gp} {X : Xt} {d : Nat} {k35 : Nat → Int → Int → Nat → Nat → Nat → Int → Int → Int → Int → Nat → Int → Shp → Fl → Il → Prop} {x0 : Nat} {x1 : Int} {x2 : Int} {x3 : Nat} {x4 : Nat} {x5 : Nat} {x6 : Int} {x7 : Int} {x9 : Int} {x10 : Nat} {x11 : Int} {s0 : Int} {Q : Int → Shp → Fl → Il → Prop} {S : Shp} {F : Fl} {I : Il} (C : CO G RL cL_plans 15 X) (M : MX d (some .boolean) "plans" X) (hd : 13 ≤ d) (hk35 : ∀ (x0 : Nat) (x1 : Int) (x2 : Int) (x3 : Nat) (x4 : Nat) (x5 : Nat) (x6 : Int) (x7 : Int) (x8 : Int) (x9 : Int) (x10 : Nat) (x11 : Int) (S' : Shp) (F' : Fl) (I' : Il), k35 x0 x1 x2 x3 x4 x5 x6 x7 x8 x9 x10 x11 S' F' I' → J G X (QD X G (qI fun z S' F' I' => Q z S' F' I') noX) 35 [vr (some x0), vi x1, vi x2, vr (some x3), vr (some x4), vr (some x5), vi x6, vi x7, vi x8, vi x9, vr (some x10), vi x11, vl 0, vl 0, vl 0] [] S' F' I') (h : V_L_plans_162 k35 x0 x1 x2 x3 x4 x5 x6 x7 x9 x10 x11 s0 S F I Q) : J G X (QD X G (qI fun z S' F' I' => Q z S' F' I') noX) 162 [vr (some x0), vi x1, vi x2, vr (some x3), vr (some x4), vr (some x5), vi x6, vi x7, vl 0, vi x9, vr (some x10), vi x11, vl 0, vl 0, vl 0] [vi s0] S F I := by
  unfold V_L_plans_162 at h
  refine K_istore C [vr (some x0), vi x1, vi x2, vr (some x3), vr (some x4), vr (some x5), vi x6, vi x7, vi s0, vi x9, vr (some x10), vi x11, vl 0, vl 0, vl 0] dL_plans_162 (Nat.le_of_ble_eq_true rfl) rfl ?_
  refine J_iload C dL_plans_164 rfl ?_
  refine J_if_ge C dL_plans_166 (tgt := 175) rfl (fun c166 => ?_) (fun c166 => ?_)
  · have h := h.1 c166
    exact S_L_plans_175 C M (by omega) hk35 h
  · have h := h.2 c166
    refine J_iload C dL_plans_169 rfl ?_
    refine J_iconst C dL_plans_171 (rg_of (by decide)) ?_
    refine J_iadd C dL_plans_172 ?_
    have h := h _ rfl
    refine K_istore C [vr (some x0), vi x1, vi x2, vr (some x3), vr (some x4), vr (some x5), vi x6, vi (w32 (x11 + 1)), vi s0, vi x9, vr (some x10), vi x11, vl 0, vl 0, vl 0] dL_plans_173 (Nat.le_of_ble_eq_true rfl) rfl ?_
    exact S_L_plans_175 C M (by omega) hk35 h
set_option maxRecDepth 20000 in
set_option maxHeartbeats 4000000 in
theorem S_L_plans_148 {G : Gp} {X : Xt} {d : Nat} {k35 : Nat → Int → Int → Nat → Nat → Nat → Int → Int → Int → Int → Nat → Int → Shp → Fl → Il → Prop} {x0 : Nat} {x1 : Int} {x2 : Int} {x3 : Nat} {x4 : Nat} {x5 : Nat} {x6 : Int} {x7 : Int} {x9 : Int} {x10 : Nat} {x11 : Int} {s0 : Int} {Q : Int → Shp → Fl → Il → Prop} {S : Shp} {F : Fl} {I : Il} (C : CO G RL cL_plans 15 X) (M : MX d (some .boolean) "plans" X) (hd : 13 ≤ d) (hk35 : ∀ (x0 : Nat) (x1 : Int) (x2 : Int) (x3 : Nat) (x4 : Nat) (x5 : Nat) (x6 : Int) (x7 : Int) (x8 : Int) (x9 : Int) (x10 : Nat) (x11 : Int) (S' : Shp) (F' : Fl) (I' : Il), k35 x0 x1 x2 x3 x4 x5 x6 x7 x8 x9 x10 x11 S' F' I' → J G X (QD X G (qI fun z S' F' I' => Q z S' F' I') noX) 35 [vr (some x0), vi x1, vi x2, vr (some x3), vr (some x4), vr (some x5), vi x6, vi x7, vi x8, vi x9, vr (some x10), vi x11, vl 0, vl 0, vl 0] [] S' F' I') (h : V_L_plans_148 k35 x0 x1 x2 x3 x4 x5 x6 x7 x9 x10 x11 s0 S F I Q) : J G X (QD X G (qI fun z S' F' I' => Q z S' F' I') noX) 148 [vr (some x0), vi x1, vi x2, vr (some x3), vr (some x4), vr (some x5), vi x6, vi x7, vl 0, vi x9, vr (some x10), vi x11, vl 0, vl 0, vl 0] [vi s0] S F I := by
  unfold V_L_plans_148 at h
  refine K_istore C [vr (some x0), vi x1, vi x2, vr (some x3), vr (some x4), vr (some x5), vi x6, vi x7, vi s0, vi x9, vr (some x10), vi x11, vl 0, vl 0, vl 0] dL_plans_148 (Nat.le_of_ble_eq_true rfl) rfl ?_
  refine J_iload C dL_plans_150 rfl ?_
  refine J_if_ge C dL_plans_152 (tgt := 160) rfl (fun c152 => ?_) (fun c152 => ?_)
  · have h := h.1 c152
    refine J_iload C dL_plans_160 rfl ?_
    refine J_less [vr (some x0), vi x1, vi x2, vr (some x3), vr (some x4), vr (some x5), vi x6, vi x7, vl 0, vi x9, vr (some x10), vi x11, vl 0, vl 0, vl 0] (by unfold lessL; simp [lessL]) ?_
    exact S_L_plans_162 C M (by omega) hk35 h
  · have h := h.2 c152
    refine J_bipush C dL_plans_155 (by decide +kernel) (rg_of (by decide)) ?_
    refine J_goto C dL_plans_157 (tgt := 162) rfl ?_
    refine J_less [vr (some x0), vi x1, vi x2, vr (some x3), vr (some x4), vr (some x5), vi x6, vi x7, vl 0, vi x9, vr (some x10), vi x11, vl 0, vl 0, vl 0] (by unfold lessL; simp [lessL]) ?_
    exact S_L_plans_162 C M (by omega) hk35 h
set_option maxRecDepth 20000 in
set_option maxHeartbeats 4000000 in
theorem S_L_plans_129 {G : Gp} {X : Xt} {d : Nat} {k35 : Nat → Int → Int → Nat → Nat → Nat → Int → Int → Int → Int → Nat → Int → Shp → Fl → Il → Prop} {x0 : Nat} {x1 : Int} {x2 : Int} {x3 : Nat} {x4 : Nat} {x5 : Nat} {x6 : Int} {x7 : Int} {x8 : Int} {x10 : Nat} {x11 : Int} {x12 : Int} {s0 : Int} {Q : Int → Shp → Fl → Il → Prop} {S : Shp} {F : Fl} {I : Il} (C : CO G RL cL_plans 15 X) (M : MX d (some .boolean) "plans" X) (hd : 13 ≤ d) (hk35 : ∀ (x0 : Nat) (x1 : Int) (x2 : Int) (x3 : Nat) (x4 : Nat) (x5 : Nat) (x6 : Int) (x7 : Int) (x8 : Int) (x9 : Int) (x10 : Nat) (x11 : Int) (S' : Shp) (F' : Fl) (I' : Il), k35 x0 x1 x2 x3 x4 x5 x6 x7 x8 x9 x10 x11 S' F' I' → J G X (QD X G (qI fun z S' F' I' => Q z S' F' I') noX) 35 [vr (some x0), vi x1, vi x2, vr (some x3), vr (some x4), vr (some x5), vi x6, vi x7, vi x8, vi x9, vr (some x10), vi x11, vl 0, vl 0, vl 0] [] S' F' I') (h : V_L_plans_129 k35 x0 x1 x2 x3 x4 x5 x6 x7 x8 x10 x11 x12 s0 S F I Q) : J G X (QD X G (qI fun z S' F' I' => Q z S' F' I') noX) 129 [vr (some x0), vi x1, vi x2, vr (some x3), vr (some x4), vr (some x5), vi x6, vi x7, vi x8, vl 0, vr (some x10), vi x11, vi x12, vl 0, vl 0] [vi s0] S F I := by
  unfold V_L_plans_129 at h
  obtain ⟨d, rfl⟩ : ∃ d9, d = d9 + 1 := ⟨d - 1, by omega⟩
  refine K_istore C [vr (some x0), vi x1, vi x2, vr (some x3), vr (some x4), vr (some x5), vi x6, vi x7, vi x8, vi s0, vr (some x10), vi x11, vi x12, vl 0, vl 0] dL_plans_129 (Nat.le_of_ble_eq_true rfl) rfl ?_
  refine J_iload C dL_plans_131 rfl ?_
  refine J_if_ge C dL_plans_133 (tgt := 141) rfl (fun c133 => ?_) (fun c133 => ?_)
  · have h := h.1 c133
    refine J_iload C dL_plans_141 rfl ?_
    refine J_iload C dL_plans_143 rfl ?_
    refine K_S C M [vi x12, vi x8] [] mi_L_other wg_852 wg_853 dL_plans_145 rfl rfl (by decide) (Nat.le_of_ble_eq_true rfl) (c_L_other (C.2.2.2.2.2.2.2) (by omega) h) (fun v9 S' F' I' hq9 => ?_) K_no rfl
    clear h
    obtain ⟨z1, rfl, rfl, rfl, rfl, h⟩ := hq9
    refine J_less [vr (some x0), vi x1, vi x2, vr (some x3), vr (some x4), vr (some x5), vi x6, vi x7, vl 0, vi s0, vr (some x10), vi x11, vl 0, vl 0, vl 0] (by unfold lessL; simp [lessL]) ?_
    exact S_L_plans_148 C M (by omega) hk35 h
  · have h := h.2 c133
    refine J_iload C dL_plans_136 rfl ?_
    refine J_goto C dL_plans_138 (tgt := 148) rfl ?_
    refine J_less [vr (some x0), vi x1, vi x2, vr (some x3), vr (some x4), vr (some x5), vi x6, vi x7, vl 0, vi s0, vr (some x10), vi x11, vl 0, vl 0, vl 0] (by unfold lessL; simp [lessL]) ?_
    exact S_L_plans_148 C M (by omega) hk35 h
set_option maxRecDepth 20000 in
set_option maxHeartbeats 4000000 in
theorem S_L_plans_128 {G : Gp} {X : Xt} {d : Nat} {k35 : Nat → Int → Int → Nat → Nat → Nat → Int → Int → Int → Int → Nat → Int → Shp → Fl → Il → Prop} {x0 : Nat} {x1 : Int} {x2 : Int} {x3 : Nat} {x4 : Nat} {x5 : Nat} {x6 : Int} {x7 : Int} {x8 : Int} {x10 : Nat} {x11 : Int} {x12 : Int} {Q : Int → Shp → Fl → Il → Prop} {S : Shp} {F : Fl} {I : Il} (C : CO G RL cL_plans 15 X) (M : MX d (some .boolean) "plans" X) (hd : 13 ≤ d) (hk35 : ∀ (x0 : Nat) (x1 : Int) (x2 : Int) (x3 : Nat) (x4 : Nat) (x5 : Nat) (x6 : Int) (x7 : Int) (x8 : Int) (x9 : Int) (x10 : Nat) (x11 : Int) (S' : Shp) (F' : Fl) (I' : Il), k35 x0 x1 x2 x3 x4 x5 x6 x7 x8 x9 x10 x11 S' F' I' → J G X (QD X G (qI fun z S' F' I' => Q z S' F' I') noX) 35 [vr (some x0), vi x1, vi x2, vr (some x3), vr (some x4), vr (some x5), vi x6, vi x7, vi x8, vi x9, vr (some x10), vi x11, vl 0, vl 0, vl 0] [] S' F' I') (h : V_L_plans_128 k35 x0 x1 x2 x3 x4 x5 x6 x7 x8 x10 x11 x12 S F I Q) : J G X (QD X G (qI fun z S' F' I' => Q z S' F' I') noX) 128 [vr (some x0), vi x1, vi x2, vr (some x3), vr (some x4), vr (some x5), vi x6, vi x7, vi x8, vl 0, vr (some x10), vi x11, vi x12, vl 0, vl 0] [] S F I := by
  unfold V_L_plans_128 at h
  refine J_iconst C dL_plans_128 (rg_of (by decide)) ?_
  exact S_L_plans_129 C M (by omega) hk35 h
set_option maxRecDepth 20000 in
set_option maxHeartbeats 4000000 in
theorem S_L_plans_97 {G : Gp} {X : Xt} {d : Nat} {k35 : Nat → Int → Int → Nat → Nat → Nat → Int → Int → Int → Int → Nat → Int → Shp → Fl → Il → Prop} {x0 : Nat} {x1 : Int} {x2 : Int} {x3 : Nat} {x4 : Nat} {x5 : Nat} {x6 : Int} {x7 : Int} {x8 : Int} {x9 : Int} {x10 : Nat} {x11 : Int} {s0 : Int} {Q : Int → Shp → Fl → Il → Prop} {S : Shp} {F : Fl} {I : Il} (C : CO G RL cL_plans 15 X) (M : MX d (some .boolean) "plans" X) (hd : 13 ≤ d) (hk35 : ∀ (x0 : Nat) (x1 : Int) (x2 : Int) (x3 : Nat) (x4 : Nat) (x5 : Nat) (x6 : Int) (x7 : Int) (x8 : Int) (x9 : Int) (x10 : Nat) (x11 : Int) (S' : Shp) (F' : Fl) (I' : Il), k35 x0 x1 x2 x3 x4 x5 x6 x7 x8 x9 x10 x11 S' F' I' → J G X (QD X G (qI fun z S' F' I' => Q z S' F' I') noX) 35 [vr (some x0), vi x1, vi x2, vr (some x3), vr (some x4), vr (some x5), vi x6, vi x7, vi x8, vi x9, vr (some x10), vi x11, vl 0, vl 0, vl 0] [] S' F' I') (h : V_L_plans_97 k35 x0 x1 x2 x3 x4 x5 x6 x7 x8 x9 x10 x11 s0 S F I Q) : J G X (QD X G (qI fun z S' F' I' => Q z S' F' I') noX) 97 [vr (some x0), vi x1, vi x2, vr (some x3), vr (some x4), vr (some x5), vi x6, vi x7, vi x8, vi x9, vr (some x10), vi x11, vl 0, vl 0, vl 0] [vi s0] S F I := by
  unfold V_L_plans_97 at h
  obtain ⟨d, rfl⟩ : ∃ d9, d = d9 + 1 := ⟨d - 1, by omega⟩
  refine K_istore C [vr (some x0), vi x1, vi x2, vr (some x3), vr (some x4), vr (some x5), vi x6, vi x7, vi x8, vi x9, vr (some x10), vi x11, vi s0, vl 0, vl 0] dL_plans_97 (Nat.le_of_ble_eq_true rfl) rfl ?_
  refine J_aload C dL_plans_99 rfl ?_
  refine J_iload C dL_plans_101 rfl ?_
  refine J_iload C dL_plans_103 rfl ?_
  obtain ⟨hK1, h⟩ := h
  obtain ⟨h02, hn3, h⟩ := h
  have h := h _ rfl
  refine J_iast C dL_plans_105 hK1 h02 hn3 ?_
  refine J_iload C dL_plans_106 rfl ?_
  refine J_if_eq C dL_plans_108 (tgt := 128) rfl (fun c108 => ?_) (fun c108 => ?_)
  · have h := h.1 c108
    refine J_less [vr (some x0), vi x1, vi x2, vr (some x3), vr (some x4), vr (some x5), vi x6, vi x7, vi x8, vl 0, vr (some x10), vi x11, vi s0, vl 0, vl 0] (by unfold lessL; simp [lessL]) ?_
    exact S_L_plans_128 C M (by omega) hk35 h
  · have h := h.2 c108
    refine J_aload_n C dL_plans_111 rfl rfl ?_
    refine J_iload C dL_plans_112 rfl ?_
    obtain ⟨hK5, h⟩ := h
    refine K_V C M [vi s0] [] mi_X8_leg wg_907 wg_908 wg_909 ⟨rfl, by decide⟩ dL_plans_114 hK5 rfl rfl (by decide) (Nat.le_of_ble_eq_true rfl) (c_X8_leg (C.2.2.2.2.2.2.2) (by omega) h) (fun v9 S7 F8 I9 hq9 => ?_) K_no rfl
    clear h
    obtain ⟨z6, rfl, h⟩ := hq9
    refine J_iload C dL_plans_117 rfl ?_
    refine J_iconst C dL_plans_119 (rg_of (by decide)) ?_
    refine J_iadd C dL_plans_120 ?_
    refine J_icmp_ne C dL_plans_121 (tgt := 128) rfl (fun c121 => ?_) (fun c121 => ?_)
    · have h := h.1 c121
      refine J_less [vr (some x0), vi x1, vi x2, vr (some x3), vr (some x4), vr (some x5), vi x6, vi x7, vi x8, vl 0, vr (some x10), vi x11, vi s0, vl 0, vl 0] (by unfold lessL; simp [lessL]) ?_
      exact S_L_plans_128 C M (by omega) hk35 h
    · have h := h.2 c121
      refine J_iconst C dL_plans_124 (rg_of (by decide)) ?_
      refine J_goto C dL_plans_125 (tgt := 129) rfl ?_
      refine J_less [vr (some x0), vi x1, vi x2, vr (some x3), vr (some x4), vr (some x5), vi x6, vi x7, vi x8, vl 0, vr (some x10), vi x11, vi s0, vl 0, vl 0] (by unfold lessL; simp [lessL]) ?_
      exact S_L_plans_129 C M (by omega) hk35 h
set_option maxRecDepth 20000 in
set_option maxHeartbeats 4000000 in
theorem S_L_plans_95 {G : Gp} {X : Xt} {d : Nat} {k35 : Nat → Int → Int → Nat → Nat → Nat → Int → Int → Int → Int → Nat → Int → Shp → Fl → Il → Prop} {x0 : Nat} {x1 : Int} {x2 : Int} {x3 : Nat} {x4 : Nat} {x5 : Nat} {x6 : Int} {x7 : Int} {x8 : Int} {x9 : Int} {x10 : Nat} {x11 : Int} {x12 : Int} {Q : Int → Shp → Fl → Il → Prop} {S : Shp} {F : Fl} {I : Il} (C : CO G RL cL_plans 15 X) (M : MX d (some .boolean) "plans" X) (hd : 13 ≤ d) (hk35 : ∀ (x0 : Nat) (x1 : Int) (x2 : Int) (x3 : Nat) (x4 : Nat) (x5 : Nat) (x6 : Int) (x7 : Int) (x8 : Int) (x9 : Int) (x10 : Nat) (x11 : Int) (S' : Shp) (F' : Fl) (I' : Il), k35 x0 x1 x2 x3 x4 x5 x6 x7 x8 x9 x10 x11 S' F' I' → J G X (QD X G (qI fun z S' F' I' => Q z S' F' I') noX) 35 [vr (some x0), vi x1, vi x2, vr (some x3), vr (some x4), vr (some x5), vi x6, vi x7, vi x8, vi x9, vr (some x10), vi x11, vl 0, vl 0, vl 0] [] S' F' I') (h : V_L_plans_95 k35 x0 x1 x2 x3 x4 x5 x6 x7 x8 x9 x10 x11 x12 S F I Q) : J G X (QD X G (qI fun z S' F' I' => Q z S' F' I') noX) 95 [vr (some x0), vi x1, vi x2, vr (some x3), vr (some x4), vr (some x5), vi x6, vi x7, vi x8, vi x9, vr (some x10), vi x11, vi x12, vl 0, vl 0] [] S F I := by
  unfold V_L_plans_95 at h
  refine J_iload C dL_plans_95 rfl ?_
  refine J_less [vr (some x0), vi x1, vi x2, vr (some x3), vr (some x4), vr (some x5), vi x6, vi x7, vi x8, vi x9, vr (some x10), vi x11, vl 0, vl 0, vl 0] (by unfold lessL; simp [lessL]) ?_
  exact S_L_plans_97 C M (by omega) hk35 h
set_option maxRecDepth 20000 in
set_option maxHeartbeats 4000000 in
theorem S_L_plans_66 {G : Gp} {X : Xt} {d : Nat} {k35 : Nat → Int → Int → Nat → Nat → Nat → Int → Int → Int → Int → Nat → Int → Shp → Fl → Il → Prop} {x0 : Nat} {x1 : Int} {x2 : Int} {x3 : Nat} {x4 : Nat} {x5 : Nat} {x6 : Int} {x7 : Int} {x8 : Int} {x9 : Int} {x10 : Nat} {x11 : Int} {s0 : Int} {Q : Int → Shp → Fl → Il → Prop} {S : Shp} {F : Fl} {I : Il} (C : CO G RL cL_plans 15 X) (M : MX d (some .boolean) "plans" X) (hd : 13 ≤ d) (hk35 : ∀ (x0 : Nat) (x1 : Int) (x2 : Int) (x3 : Nat) (x4 : Nat) (x5 : Nat) (x6 : Int) (x7 : Int) (x8 : Int) (x9 : Int) (x10 : Nat) (x11 : Int) (S' : Shp) (F' : Fl) (I' : Il), k35 x0 x1 x2 x3 x4 x5 x6 x7 x8 x9 x10 x11 S' F' I' → J G X (QD X G (qI fun z S' F' I' => Q z S' F' I') noX) 35 [vr (some x0), vi x1, vi x2, vr (some x3), vr (some x4), vr (some x5), vi x6, vi x7, vi x8, vi x9, vr (some x10), vi x11, vl 0, vl 0, vl 0] [] S' F' I') (h : V_L_plans_66 k35 x0 x1 x2 x3 x4 x5 x6 x7 x8 x9 x10 x11 s0 S F I Q) : J G X (QD X G (qI fun z S' F' I' => Q z S' F' I') noX) 66 [vr (some x0), vi x1, vi x2, vr (some x3), vr (some x4), vr (some x5), vi x6, vi x7, vi x8, vi x9, vr (some x10), vi x11, vl 0, vl 0, vl 0] [vi s0] S F I := by
  unfold V_L_plans_66 at h
  obtain ⟨d, rfl⟩ : ∃ d9, d = d9 + 1 := ⟨d - 1, by omega⟩
  refine K_istore C [vr (some x0), vi x1, vi x2, vr (some x3), vr (some x4), vr (some x5), vi x6, vi x7, vi x8, vi x9, vr (some x10), vi x11, vi s0, vl 0, vl 0] dL_plans_66 (Nat.le_of_ble_eq_true rfl) rfl ?_
  refine J_iload_n C dL_plans_68 rfl rfl ?_
  refine J_bipush C dL_plans_69 (by decide +kernel) (rg_of (by decide)) ?_
  refine J_ishr C dL_plans_71 ?_
  refine J_bipush C dL_plans_72 (by decide +kernel) (rg_of (by decide)) ?_
  refine K_S C M [vi (ishr x2 9), vi 40] [] mi_L_low wg_766 wg_767 dL_plans_74 rfl rfl (by decide) (Nat.le_of_ble_eq_true rfl) (c_L_low (C.2.2.2.2.2.2.2) (by omega) h) (fun v9 S' F' I' hq9 => ?_) K_no rfl
  clear h
  obtain ⟨z1, rfl, rfl, rfl, rfl, h⟩ := hq9
  refine J_if_ne C dL_plans_77 (tgt := 95) rfl (fun c77 => ?_) (fun c77 => ?_)
  · have h := h.1 c77
    exact S_L_plans_95 C M (by omega) hk35 h
  · have h := h.2 c77
    refine J_iload C dL_plans_80 rfl ?_
    refine J_iconst C dL_plans_82 (rg_of (by decide)) ?_
    refine J_icmp_ne C dL_plans_83 (tgt := 95) rfl (fun c83 => ?_) (fun c83 => ?_)
    · have h := h.1 c83
      exact S_L_plans_95 C M (by omega) hk35 h
    · have h := h.2 c83
      refine J_iload C dL_plans_86 rfl ?_
      refine J_iconst C dL_plans_88 (rg_of (by decide)) ?_
      refine J_iadd C dL_plans_89 ?_
      refine J_iconst C dL_plans_90 (rg_of (by decide)) ?_
      refine J_irem C dL_plans_91 (by decide) ?_
      refine J_goto C dL_plans_92 (tgt := 97) rfl ?_
      refine J_less [vr (some x0), vi x1, vi x2, vr (some x3), vr (some x4), vr (some x5), vi x6, vi x7, vi x8, vi x9, vr (some x10), vi x11, vl 0, vl 0, vl 0] (by unfold lessL; simp [lessL]) ?_
      exact S_L_plans_97 C M (by omega) hk35 h
set_option maxRecDepth 20000 in
set_option maxHeartbeats 4000000 in
theorem S_L_plans_35 {G : Gp} {X : Xt} {d : Nat}   {Q : Int → Shp → Fl → Il → Prop} (C : CO G RL cL_plans 15 X) (M : MX d (some .boolean) "plans" X) (hd : 13 ≤ d) (n9 : Nat)  : ∀ (x0 : Nat) (x1 : Int) (x2 : Int) (x3 : Nat) (x4 : Nat) (x5 : Nat) (x6 : Int) (x7 : Int) (x8 : Int) (x9 : Int) (x10 : Nat) (x11 : Int) (S : Shp) (F : Fl) (I : Il), V_L_plans_35 n9 x0 x1 x2 x3 x4 x5 x6 x7 x8 x9 x10 x11 S F I Q → J G X (QD X G (qI fun z S' F' I' => Q z S' F' I') noX) 35 [vr (some x0), vi x1, vi x2, vr (some x3), vr (some x4), vr (some x5), vi x6, vi x7, vi x8, vi x9, vr (some x10), vi x11, vl 0, vl 0, vl 0] [] S F I := by
  obtain ⟨d, rfl⟩ : ∃ d9, d = d9 + 1 := ⟨d - 1, by omega⟩
  induction n9 with
  | zero => intro x0 x1 x2 x3 x4 x5 x6 x7 x8 x9 x10 x11 S F I h; exact h.elim
  | succ n ih =>
    intro x0 x1 x2 x3 x4 x5 x6 x7 x8 x9 x10 x11 S F I h
    unfold V_L_plans_35 at h
    refine J_iload C dL_plans_35 rfl ?_
    refine J_iload C dL_plans_37 rfl ?_
    refine J_icmp_ge C dL_plans_39 (tgt := 181) rfl (fun c39 => ?_) (fun c39 => ?_)
    · have h := h.1 c39
      refine J_aload C dL_plans_181 rfl ?_
      refine J_iconst C dL_plans_183 (rg_of (by decide)) ?_
      obtain ⟨hK1, h⟩ := h
      obtain ⟨h02, hn3, h⟩ := h
      refine J_iald C dL_plans_184 hK1 h02 hn3 ?_
      refine J_iload_n C dL_plans_185 rfl rfl ?_
      refine J_bipush C dL_plans_186 (by decide +kernel) (rg_of (by decide)) ?_
      refine J_ishr C dL_plans_188 ?_
      refine J_iconst C dL_plans_189 (rg_of (by decide)) ?_
      refine K_S C M [vi (ishr x2 6), vi 3] [vi (I x5 0)] mi_L_low wg_766 wg_767 dL_plans_190 rfl rfl (by decide) (Nat.le_of_ble_eq_true rfl) (c_L_low (C.2.2.2.2.2.2.2) (by omega) h) (fun v9 S' F' I' hq9 => ?_) K_no rfl
      clear h
      obtain ⟨z4, rfl, rfl, rfl, rfl, h⟩ := hq9
      refine J_iload_n C dL_plans_193 rfl rfl ?_
      refine J_bipush C dL_plans_194 (by decide +kernel) (rg_of (by decide)) ?_
      refine J_ishr C dL_plans_196 ?_
      refine J_bipush C dL_plans_197 (by decide +kernel) (rg_of (by decide)) ?_
      refine K_S C M [vi (ishr x2 8), vi 20] [vi z4, vi (I x5 0)] mi_L_low wg_766 wg_767 dL_plans_199 rfl rfl (by decide) (Nat.le_of_ble_eq_true rfl) (c_L_low (C.2.2.2.2.2.2.2) (by omega) h) (fun v9 S' F' I' hq9 => ?_) K_no rfl
      clear h
      obtain ⟨z5, rfl, rfl, rfl, rfl, h⟩ := hq9
      refine J_imul C dL_plans_202 ?_
      refine J_iadd C dL_plans_203 ?_
      have h := h _ rfl
      refine K_istore C [vr (some x0), vi x1, vi x2, vr (some x3), vr (some x4), vr (some x5), vi x6, vi x7, vi x8, vi x9, vr (some x10), vi (w32 ((I x5 0) + (w32 (z4 * z5)))), vl 0, vl 0, vl 0] dL_plans_204 (Nat.le_of_ble_eq_true rfl) rfl ?_
      refine J_iload_n C dL_plans_206 rfl rfl ?_
      refine J_bipush C dL_plans_207 (by decide +kernel) (rg_of (by decide)) ?_
      refine J_ishr C dL_plans_209 ?_
      refine J_bipush C dL_plans_210 (by decide +kernel) (rg_of (by decide)) ?_
      refine K_S C M [vi (ishr x2 11), vi 10] [] mi_L_low wg_766 wg_767 dL_plans_212 rfl rfl (by decide) (Nat.le_of_ble_eq_true rfl) (c_L_low (C.2.2.2.2.2.2.2) (by omega) h) (fun v9 S' F' I' hq9 => ?_) K_no rfl
      clear h
      obtain ⟨z7, rfl, rfl, rfl, rfl, h⟩ := hq9
      refine K_istore C [vr (some x0), vi x1, vi x2, vr (some x3), vr (some x4), vr (some x5), vi x6, vi x7, vi x8, vi x9, vr (some x10), vi (w32 ((I x5 0) + (w32 (z4 * z5)))), vi z7, vl 0, vl 0] dL_plans_215 (Nat.le_of_ble_eq_true rfl) rfl ?_
      refine J_aload_n C dL_plans_217 rfl rfl ?_
      refine J_iload C dL_plans_218 rfl ?_
      refine J_iconst C dL_plans_220 (rg_of (by decide)) ?_
      refine J_iadd C dL_plans_221 ?_
      obtain ⟨hK8, h⟩ := h
      obtain ⟨h09, hn10, h⟩ := h
      refine J_iald C dL_plans_222 hK8 h09 hn10 ?_
      refine J_iconst C dL_plans_223 (rg_of (by decide)) ?_
      refine J_icmp_ge C dL_plans_224 (tgt := 236) rfl (fun c224 => ?_) (fun c224 => ?_)
      · have h := h.1 c224
        refine J_less [vr (some x0), vi x1, vl 0, vr (some x3), vr (some x4), vr (some x5), vi x6, vi x7, vi x8, vi x9, vr (some x10), vi (w32 ((I x5 0) + (w32 (z4 * z5)))), vi z7, vl 0, vl 0] (by unfold lessL; simp [lessL]) ?_
        exact S_L_plans_236 C M (by omega)  h
      · have h := h.2 c224
        refine J_iload C dL_plans_227 rfl ?_
        refine J_if_lt C dL_plans_229 (tgt := 236) rfl (fun c229 => ?_) (fun c229 => ?_)
        · have h := h.1 c229
          refine J_less [vr (some x0), vi x1, vl 0, vr (some x3), vr (some x4), vr (some x5), vi x6, vi x7, vi x8, vi x9, vr (some x10), vi (w32 ((I x5 0) + (w32 (z4 * z5)))), vi z7, vl 0, vl 0] (by unfold lessL; simp [lessL]) ?_
          exact S_L_plans_236 C M (by omega)  h
        · have h := h.2 c229
          refine J_iconst C dL_plans_232 (rg_of (by decide)) ?_
          refine J_goto C dL_plans_233 (tgt := 237) rfl ?_
          refine J_less [vr (some x0), vi x1, vl 0, vr (some x3), vr (some x4), vr (some x5), vi x6, vi x7, vi x8, vi x9, vr (some x10), vi (w32 ((I x5 0) + (w32 (z4 * z5)))), vi z7, vl 0, vl 0] (by unfold lessL; simp [lessL]) ?_
          exact S_L_plans_237 C M (by omega)  h
    · have h := h.2 c39
      refine J_iload_n C dL_plans_42 rfl rfl ?_
      refine J_iconst C dL_plans_43 (rg_of (by decide)) ?_
      refine J_iload C dL_plans_44 rfl ?_
      refine J_iadd C dL_plans_46 ?_
      refine J_ishr C dL_plans_47 ?_
      refine J_iconst C dL_plans_48 (rg_of (by decide)) ?_
      refine K_S C M [vi (ishr x2 (w32 (3 + x11))), vi 2] [] mi_L_low wg_766 wg_767 dL_plans_49 rfl rfl (by decide) (Nat.le_of_ble_eq_true rfl) (c_L_low (C.2.2.2.2.2.2.2) (by omega) h) (fun v9 S' F' I' hq9 => ?_) K_no rfl
      clear h
      obtain ⟨z11, rfl, rfl, rfl, rfl, h⟩ := hq9
      refine J_if_ne C dL_plans_52 (tgt := 60) rfl (fun c52 => ?_) (fun c52 => ?_)
      · have h := h.1 c52
        refine J_iload C dL_plans_60 rfl ?_
        refine J_iconst C dL_plans_62 (rg_of (by decide)) ?_
        refine J_iadd C dL_plans_63 ?_
        refine J_iconst C dL_plans_64 (rg_of (by decide)) ?_
        refine J_irem C dL_plans_65 (by decide) ?_
        exact S_L_plans_66 C M (by omega) (fun y0 y1 y2 y3 y4 y5 y6 y7 y8 y9 y10 y11 S' F' I' h9 => ih y0 y1 y2 y3 y4 y5 y6 y7 y8 y9 y10 y11 S' F' I' h9) h
      · have h := h.2 c52
        refine J_iload C dL_plans_55 rfl ?_
        refine J_goto C dL_plans_57 (tgt := 66) rfl ?_
        exact S_L_plans_66 C M (by omega) (fun y0 y1 y2 y3 y4 y5 y6 y7 y8 y9 y10 y11 S' F' I' h9 => ih y0 y1 y2 y3 y4 y5 y6 y7 y8 y9 y10 y11 S' F' I' h9) h
set_option maxRecDepth 20000 in
set_option maxHeartbeats 4000000 in
theorem S_L_plans {G : Gp} {X : Xt} {d : Nat}  {x0 : Nat} {x1 : Int} {x2 : Int} {x3 : Nat} {x4 : Nat} {x5 : Nat} {Q : Int → Shp → Fl → Il → Prop} {S : Shp} {F : Fl} {I : Il} (C : CO G RL cL_plans 15 X) (M : MX d (some .boolean) "plans" X) (hd : 13 ≤ d)  (h : V_L_plans x0 x1 x2 x3 x4 x5 S F I Q) : J G X (QD X G (qI fun z S' F' I' => Q z S' F' I') noX) 0 [vr (some x0), vi x1, vi x2, vr (some x3), vr (some x4), vr (some x5), vl 0, vl 0, vl 0, vl 0, vl 0, vl 0, vl 0, vl 0, vl 0] [] S F I := by
  unfold V_L_plans at h
  obtain ⟨d, rfl⟩ : ∃ d9, d = d9 + 1 := ⟨d - 1, by omega⟩
  refine J_bipush C dL_plans_0 (by decide +kernel) (rg_of (by decide)) ?_
  refine J_iload_n C dL_plans_2 rfl rfl ?_
  refine J_imul C dL_plans_3 ?_
  have h := h _ rfl
  refine K_istore C [vr (some x0), vi x1, vi x2, vr (some x3), vr (some x4), vr (some x5), vi (w32 (16 * x1)), vl 0, vl 0, vl 0, vl 0, vl 0, vl 0, vl 0, vl 0] dL_plans_4 (Nat.le_of_ble_eq_true rfl) rfl ?_
  refine J_iconst C dL_plans_6 (rg_of (by decide)) ?_
  refine J_iload_n C dL_plans_7 rfl rfl ?_
  refine J_iconst C dL_plans_8 (rg_of (by decide)) ?_
  refine K_S C M [vi x2, vi 5] [vi 1] mi_L_low wg_766 wg_767 dL_plans_9 rfl rfl (by decide) (Nat.le_of_ble_eq_true rfl) (c_L_low (C.2.2.2.2.2.2.2) (by omega) h) (fun v9 S' F' I' hq9 => ?_) K_no rfl
  clear h
  obtain ⟨z2, rfl, rfl, rfl, rfl, h⟩ := hq9
  refine J_iadd C dL_plans_12 ?_
  have h := h _ rfl
  refine K_istore C [vr (some x0), vi x1, vi x2, vr (some x3), vr (some x4), vr (some x5), vi (w32 (16 * x1)), vi (w32 (1 + z2)), vl 0, vl 0, vl 0, vl 0, vl 0, vl 0, vl 0] dL_plans_13 (Nat.le_of_ble_eq_true rfl) rfl ?_
  refine J_aload_n C dL_plans_15 rfl rfl ?_
  refine J_iload C dL_plans_16 rfl ?_
  refine J_iconst C dL_plans_18 (rg_of (by decide)) ?_
  refine J_iadd C dL_plans_19 ?_
  obtain ⟨hK4, h⟩ := h
  obtain ⟨h05, hn6, h⟩ := h
  refine J_iald C dL_plans_20 hK4 h05 hn6 ?_
  have h := h _ rfl
  refine K_istore C [vr (some x0), vi x1, vi x2, vr (some x3), vr (some x4), vr (some x5), vi (w32 (16 * x1)), vi (w32 (1 + z2)), vi (I x3 (w32 ((w32 (16 * x1)) + 4))), vl 0, vl 0, vl 0, vl 0, vl 0, vl 0] dL_plans_21 (Nat.le_of_ble_eq_true rfl) rfl ?_
  refine J_iconst C dL_plans_23 (rg_of (by decide)) ?_
  refine K_istore C [vr (some x0), vi x1, vi x2, vr (some x3), vr (some x4), vr (some x5), vi (w32 (16 * x1)), vi (w32 (1 + z2)), vi (I x3 (w32 ((w32 (16 * x1)) + 4))), vi 1, vl 0, vl 0, vl 0, vl 0, vl 0] dL_plans_24 (Nat.le_of_ble_eq_true rfl) rfl ?_
  refine J_bipush C dL_plans_26 (by decide +kernel) (rg_of (by decide)) ?_
  obtain ⟨ha10, hb11, h⟩ := h
  refine J_newI C (n := 8) rfl wg_106 dL_plans_28 (by decide) ha10 hb11 (fun q8 hq9 => ?_)
  have h := h q8 hq9
  refine K_astore C [vr (some x0), vi x1, vi x2, vr (some x3), vr (some x4), vr (some x5), vi (w32 (16 * x1)), vi (w32 (1 + z2)), vi (I x3 (w32 ((w32 (16 * x1)) + 4))), vi 1, vr (some q8), vl 0, vl 0, vl 0, vl 0] dL_plans_30 (Nat.le_of_ble_eq_true rfl) rfl ?_
  refine J_iconst C dL_plans_32 (rg_of (by decide)) ?_
  refine K_istore C [vr (some x0), vi x1, vi x2, vr (some x3), vr (some x4), vr (some x5), vi (w32 (16 * x1)), vi (w32 (1 + z2)), vi (I x3 (w32 ((w32 (16 * x1)) + 4))), vi 1, vr (some q8), vi 0, vl 0, vl 0, vl 0] dL_plans_33 (Nat.le_of_ble_eq_true rfl) rfl ?_
  obtain ⟨n9, h⟩ := h
  exact S_L_plans_35 C M (by omega) n9  _ _ _ _ _ _ _ _ _ _ _ _ _ _ _ h
theorem c_L_plans {l : Launch} {G : Gp} {d : Nat} {x0 : Nat} {x1 : Int} {x2 : Int} {x3 : Nat} {x4 : Nat} {x5 : Nat} {S : Shp} {F : Fl} {I : Il} {Q : Int → Shp → Fl → Il → Prop} (hl : l.stackTraces = false) (hd : 13 ≤ d) (h : V_L_plans x0 x1 x2 x3 x4 x5 S F I Q) : CM l G d yL_plans (.code yL_plans cL_plans 15 (some .boolean)) [vr (some x0), vi x1, vi x2, vr (some x3), vr (some x4), vr (some x5)] S F I (qI fun z S' F' I' => Q z S' F' I') noX :=
  CM_ofM [vr (some x0), vi x1, vi x2, vr (some x3), vr (some x4), vr (some x5), vl 0, vl 0, vl 0, vl 0, vl 0, vl 0, vl 0, vl 0, vl 0] hl (by decide +kernel) (kn1 trivial (kn1 trivial (kn1 trivial (kn1 trivial (kn1 trivial (kn1 trivial kn0)))))) (Nat.le_of_ble_eq_true rfl) rfl (fun X hX C M => S_L_plans C M hd h)
set_option maxRecDepth 20000 in
set_option maxHeartbeats 4000000 in
theorem S_L_minute_237 {G : Gp} {X : Xt} {d : Nat} {k171 : Nat → Nat → Nat → Nat → Int → Il → Prop} {k179 : Nat → Nat → Nat → Nat → Int → Int → Il → Prop} {x0 : Nat} {x1 : Nat} {x2 : Nat} {x3 : Nat} {x4 : Int} {x5 : Int} {Q : Il → Prop} {S : Shp} {F : Fl} {I : Il} (C : CO G RL cL_minute 6 X) (M : MX d none "minute" X) (hd : 3 ≤ d) (hk171 : ∀ (x0 : Nat) (x1 : Nat) (x2 : Nat) (x3 : Nat) (x4 : Int) (I' : Il), k171 x0 x1 x2 x3 x4 I' → J G X (QD X G (qV fun S' F' I' => S = S' ∧ F = F' ∧ Q I') noX) 171 [vr (some x0), vr (some x1), vr (some x2), vr (some x3), vi x4, vl 0] [] S F I') (hk179 : ∀ (x0 : Nat) (x1 : Nat) (x2 : Nat) (x3 : Nat) (x4 : Int) (x5 : Int) (I' : Il), k179 x0 x1 x2 x3 x4 x5 I' → J G X (QD X G (qV fun S' F' I' => S = S' ∧ F = F' ∧ Q I') noX) 179 [vr (some x0), vr (some x1), vr (some x2), vr (some x3), vi x4, vi x5] [] S F I') (h : V_L_minute_237 k171 k179 x0 x1 x2 x3 x4 x5 S F I Q) : J G X (QD X G (qV fun S' F' I' => S = S' ∧ F = F' ∧ Q I') noX) 237 [vr (some x0), vr (some x1), vr (some x2), vr (some x3), vi x4, vi x5] [] S F I := by
  unfold V_L_minute_237 at h
  refine K_iinc C [vr (some x0), vr (some x1), vr (some x2), vr (some x3), vi x4, vi (w32 (x5 + 16))] dL_minute_237 rfl rfl ?_
  refine J_goto C dL_minute_240 (tgt := 179) rfl ?_
  exact hk179 x0 x1 x2 x3 x4 (w32 (x5 + 16)) I h
set_option maxRecDepth 20000 in
set_option maxHeartbeats 4000000 in
theorem S_L_minute_179 {G : Gp} {X : Xt} {d : Nat} {k171 : Nat → Nat → Nat → Nat → Int → Il → Prop} {S : Shp} {F : Fl} {Q : Il → Prop} (C : CO G RL cL_minute 6 X) (M : MX d none "minute" X) (hd : 3 ≤ d) (n9 : Nat) (hk171 : ∀ (x0 : Nat) (x1 : Nat) (x2 : Nat) (x3 : Nat) (x4 : Int) (I' : Il), k171 x0 x1 x2 x3 x4 I' → J G X (QD X G (qV fun S' F' I' => S = S' ∧ F = F' ∧ Q I') noX) 171 [vr (some x0), vr (some x1), vr (some x2), vr (some x3), vi x4, vl 0] [] S F I') : ∀ (x0 : Nat) (x1 : Nat) (x2 : Nat) (x3 : Nat) (x4 : Int) (x5 : Int) (I : Il), V_L_minute_179 n9 k171 x0 x1 x2 x3 x4 x5 S F I Q → J G X (QD X G (qV fun S' F' I' => S = S' ∧ F = F' ∧ Q I') noX) 179 [vr (some x0), vr (some x1), vr (some x2), vr (some x3), vi x4, vi x5] [] S F I := by
  obtain ⟨d, rfl⟩ : ∃ d9, d = d9 + 1 := ⟨d - 1, by omega⟩
  induction n9 with
  | zero => intro x0 x1 x2 x3 x4 x5 I h; exact h.elim
  | succ n ih =>
    intro x0 x1 x2 x3 x4 x5 I h
    unfold V_L_minute_179 at h
    refine J_iload C dL_minute_179 rfl ?_
    refine J_bipush C dL_minute_181 (by decide +kernel) (rg_of (by decide)) ?_
    refine J_icmp_ge C dL_minute_183 (tgt := 243) rfl (fun c183 => ?_) (fun c183 => ?_)
    · have h := h.1 c183
      refine K_iinc C [vr (some x0), vr (some x1), vr (some x2), vr (some x3), vi (w32 (x4 + (-1))), vi x5] dL_minute_243 rfl rfl ?_
      refine J_goto C dL_minute_246 (tgt := 171) rfl ?_
      refine J_less [vr (some x0), vr (some x1), vr (some x2), vr (some x3), vi (w32 (x4 + (-1))), vl 0] (by unfold lessL; simp [lessL]) ?_
      exact hk171 x0 x1 x2 x3 (w32 (x4 + (-1))) I h
    · have h := h.2 c183
      refine J_aload_n C dL_minute_186 rfl rfl ?_
      refine J_iload C dL_minute_187 rfl ?_
      obtain ⟨hK1, h⟩ := h
      obtain ⟨h02, hn3, h⟩ := h
      refine J_iald C dL_minute_189 hK1 h02 hn3 ?_
      refine J_iconst C dL_minute_190 (rg_of (by decide)) ?_
      refine J_icmp_ne C dL_minute_191 (tgt := 237) rfl (fun c191 => ?_) (fun c191 => ?_)
      · have h := h.1 c191
        exact S_L_minute_237 C M (by omega) hk171 (fun y0 y1 y2 y3 y4 y5 I' h9 => ih y0 y1 y2 y3 y4 y5 I' h9) h
      · have h := h.2 c191
        refine J_aload_n C dL_minute_194 rfl rfl ?_
        refine J_iload C dL_minute_195 rfl ?_
        refine J_iconst C dL_minute_197 (rg_of (by decide)) ?_
        refine J_iadd C dL_minute_198 ?_
        obtain ⟨h04, hn5, h⟩ := h
        refine J_iald C dL_minute_199 hK1 h04 hn5 ?_
        refine J_iconst C dL_minute_200 (rg_of (by decide)) ?_
        refine J_icmp_ne C dL_minute_201 (tgt := 237) rfl (fun c201 => ?_) (fun c201 => ?_)
        · have h := h.1 c201
          exact S_L_minute_237 C M (by omega) hk171 (fun y0 y1 y2 y3 y4 y5 I' h9 => ih y0 y1 y2 y3 y4 y5 I' h9) h
        · have h := h.2 c201
          refine J_aload_n C dL_minute_204 rfl rfl ?_
          refine J_iload C dL_minute_205 rfl ?_
          refine J_bipush C dL_minute_207 (by decide +kernel) (rg_of (by decide)) ?_
          refine J_iadd C dL_minute_209 ?_
          obtain ⟨h06, hn7, h⟩ := h
          refine J_iald C dL_minute_210 hK1 h06 hn7 ?_
          refine J_iload C dL_minute_211 rfl ?_
          refine J_icmp_ne C dL_minute_213 (tgt := 237) rfl (fun c213 => ?_) (fun c213 => ?_)
          · have h := h.1 c213
            exact S_L_minute_237 C M (by omega) hk171 (fun y0 y1 y2 y3 y4 y5 I' h9 => ih y0 y1 y2 y3 y4 y5 I' h9) h
          · have h := h.2 c213
            refine J_iload C dL_minute_216 rfl ?_
            refine J_aload_n C dL_minute_218 rfl rfl ?_
            refine J_aload_n C dL_minute_219 rfl rfl ?_
            refine J_aload_n C dL_minute_220 rfl rfl ?_
            refine J_aload_n C dL_minute_221 rfl rfl ?_
            refine K_S C M [vi x5, vr (some x0), vr (some x1), vr (some x2), vr (some x3)] [] mi_L_bars wg_846 wg_847 dL_minute_222 rfl rfl (by decide) (Nat.le_of_ble_eq_true rfl) (c_L_bars (C.2.2.2.2.2.2.2) (by omega) h) (fun v9 S' F' I' hq9 => ?_) K_no rfl
            clear h
            obtain ⟨z8, rfl, rfl, rfl, rfl, h⟩ := hq9
            refine J_if_ne C dL_minute_225 (tgt := 237) rfl (fun c225 => ?_) (fun c225 => ?_)
            · have h := h.1 c225
              exact S_L_minute_237 C M (by omega) hk171 (fun y0 y1 y2 y3 y4 y5 I' h9 => ih y0 y1 y2 y3 y4 y5 I' h9) h
            · have h := h.2 c225
              refine J_iload C dL_minute_228 rfl ?_
              refine J_aload_n C dL_minute_230 rfl rfl ?_
              refine J_aload_n C dL_minute_231 rfl rfl ?_
              refine J_aload_n C dL_minute_232 rfl rfl ?_
              refine J_aload_n C dL_minute_233 rfl rfl ?_
              refine K_S C M [vi x5, vr (some x0), vr (some x1), vr (some x2), vr (some x3)] [] mi_L_enters wg_855 wg_856 dL_minute_234 rfl rfl (by decide) (Nat.le_of_ble_eq_true rfl) (c_L_enters (C.2.2.2.2.2.2.2) (by omega) h) (fun v9 S' F' I9 hq9 => ?_) K_no rfl
              clear h
              obtain ⟨rfl, rfl, rfl, h⟩ := hq9
              exact S_L_minute_237 C M (by omega) hk171 (fun y0 y1 y2 y3 y4 y5 I' h9 => ih y0 y1 y2 y3 y4 y5 I' h9) h
set_option maxRecDepth 20000 in
set_option maxHeartbeats 4000000 in
theorem S_L_minute_171 {G : Gp} {X : Xt} {d : Nat}  {S : Shp} {F : Fl} {Q : Il → Prop} (C : CO G RL cL_minute 6 X) (M : MX d none "minute" X) (hd : 3 ≤ d) (n9 : Nat)  : ∀ (x0 : Nat) (x1 : Nat) (x2 : Nat) (x3 : Nat) (x4 : Int) (I : Il), V_L_minute_171 n9 x0 x1 x2 x3 x4 S F I Q → J G X (QD X G (qV fun S' F' I' => S = S' ∧ F = F' ∧ Q I') noX) 171 [vr (some x0), vr (some x1), vr (some x2), vr (some x3), vi x4, vl 0] [] S F I := by
  induction n9 with
  | zero => intro x0 x1 x2 x3 x4 I h; exact h.elim
  | succ n ih =>
    intro x0 x1 x2 x3 x4 I h
    unfold V_L_minute_171 at h
    refine J_iload C dL_minute_171 rfl ?_
    refine J_if_lt C dL_minute_173 (tgt := 249) rfl (fun c173 => ?_) (fun c173 => ?_)
    · have h := h.1 c173
      exact J_vret C dL_minute_249 M.2.2.1 ⟨rfl, rfl, rfl, h⟩
    · have h := h.2 c173
      refine J_iconst C dL_minute_176 (rg_of (by decide)) ?_
      refine K_istore C [vr (some x0), vr (some x1), vr (some x2), vr (some x3), vi x4, vi 0] dL_minute_177 (Nat.le_of_ble_eq_true rfl) rfl ?_
      obtain ⟨n9, h⟩ := h
      exact S_L_minute_179 C M (by omega) n9 (fun y0 y1 y2 y3 y4 I' h9 => ih y0 y1 y2 y3 y4 I' h9) _ _ _ _ _ _ _ h
set_option maxRecDepth 20000 in
set_option maxHeartbeats 4000000 in
theorem S_L_minute_161 {G : Gp} {X : Xt} {d : Nat} {k66 : Nat → Nat → Nat → Nat → Int → Il → Prop} {x0 : Nat} {x1 : Nat} {x2 : Nat} {x3 : Nat} {x4 : Int} {Q : Il → Prop} {S : Shp} {F : Fl} {I : Il} (C : CO G RL cL_minute 6 X) (M : MX d none "minute" X) (hd : 3 ≤ d) (hk66 : ∀ (x0 : Nat) (x1 : Nat) (x2 : Nat) (x3 : Nat) (x4 : Int) (I' : Il), k66 x0 x1 x2 x3 x4 I' → J G X (QD X G (qV fun S' F' I' => S = S' ∧ F = F' ∧ Q I') noX) 66 [vr (some x0), vr (some x1), vr (some x2), vr (some x3), vi x4, vl 0] [] S F I') (h : V_L_minute_161 k66 x0 x1 x2 x3 x4 S F I Q) : J G X (QD X G (qV fun S' F' I' => S = S' ∧ F = F' ∧ Q I') noX) 161 [vr (some x0), vr (some x1), vr (some x2), vr (some x3), vi x4, vl 0] [] S F I := by
  unfold V_L_minute_161 at h
  refine K_iinc C [vr (some x0), vr (some x1), vr (some x2), vr (some x3), vi (w32 (x4 + 16)), vl 0] dL_minute_161 rfl rfl ?_
  refine J_goto C dL_minute_164 (tgt := 66) rfl ?_
  exact hk66 x0 x1 x2 x3 (w32 (x4 + 16)) I h
set_option maxRecDepth 20000 in
set_option maxHeartbeats 4000000 in
theorem S_L_minute_160 {G : Gp} {X : Xt} {d : Nat} {k66 : Nat → Nat → Nat → Nat → Int → Il → Prop} {x0 : Nat} {x1 : Nat} {x2 : Nat} {x3 : Nat} {x4 : Int} {s0 : Int} {s1 : Int} {s2 : Nat} {Q : Il → Prop} {S : Shp} {F : Fl} {I : Il} (C : CO G RL cL_minute 6 X) (M : MX d none "minute" X) (hd : 3 ≤ d) (hk66 : ∀ (x0 : Nat) (x1 : Nat) (x2 : Nat) (x3 : Nat) (x4 : Int) (I' : Il), k66 x0 x1 x2 x3 x4 I' → J G X (QD X G (qV fun S' F' I' => S = S' ∧ F = F' ∧ Q I') noX) 66 [vr (some x0), vr (some x1), vr (some x2), vr (some x3), vi x4, vl 0] [] S F I') (h : V_L_minute_160 k66 x0 x1 x2 x3 x4 s0 s1 s2 S F I Q) : J G X (QD X G (qV fun S' F' I' => S = S' ∧ F = F' ∧ Q I') noX) 160 [vr (some x0), vr (some x1), vr (some x2), vr (some x3), vi x4, vl 0] [vi s0, vi s1, vr (some s2)] S F I := by
  unfold V_L_minute_160 at h
  obtain ⟨hK1, h⟩ := h
  obtain ⟨h02, hn3, h⟩ := h
  have h := h _ rfl
  refine J_iast C dL_minute_160 hK1 h02 hn3 ?_
  exact S_L_minute_161 C M (by omega) hk66 h
set_option maxRecDepth 20000 in
set_option maxHeartbeats 4000000 in
theorem S_L_minute_66 {G : Gp} {X : Xt} {d : Nat}  {S : Shp} {F : Fl} {Q : Il → Prop} (C : CO G RL cL_minute 6 X) (M : MX d none "minute" X) (hd : 3 ≤ d) (n9 : Nat)  : ∀ (x0 : Nat) (x1 : Nat) (x2 : Nat) (x3 : Nat) (x4 : Int) (I : Il), V_L_minute_66 n9 x0 x1 x2 x3 x4 S F I Q → J G X (QD X G (qV fun S' F' I' => S = S' ∧ F = F' ∧ Q I') noX) 66 [vr (some x0), vr (some x1), vr (some x2), vr (some x3), vi x4, vl 0] [] S F I := by
  induction n9 with
  | zero => intro x0 x1 x2 x3 x4 I h; exact h.elim
  | succ n ih =>
    intro x0 x1 x2 x3 x4 I h
    unfold V_L_minute_66 at h
    refine J_iload C dL_minute_66 rfl ?_
    refine J_bipush C dL_minute_68 (by decide +kernel) (rg_of (by decide)) ?_
    refine J_icmp_ge C dL_minute_70 (tgt := 167) rfl (fun c70 => ?_) (fun c70 => ?_)
    · have h := h.1 c70
      refine J_bipush C dL_minute_167 (by decide +kernel) (rg_of (by decide)) ?_
      refine K_istore C [vr (some x0), vr (some x1), vr (some x2), vr (some x3), vi 9, vl 0] dL_minute_169 (Nat.le_of_ble_eq_true rfl) rfl ?_
      obtain ⟨n9, h⟩ := h
      exact S_L_minute_171 C M (by omega) n9  _ _ _ _ _ _ h
    · have h := h.2 c70
      refine J_aload_n C dL_minute_73 rfl rfl ?_
      refine J_iload C dL_minute_74 rfl ?_
      obtain ⟨hK1, h⟩ := h
      obtain ⟨h02, hn3, h⟩ := h
      refine J_iald C dL_minute_76 hK1 h02 hn3 ?_
      refine J_iconst C dL_minute_77 (rg_of (by decide)) ?_
      refine J_icmp_ne C dL_minute_78 (tgt := 161) rfl (fun c78 => ?_) (fun c78 => ?_)
      · have h := h.1 c78
        exact S_L_minute_161 C M (by omega) (fun y0 y1 y2 y3 y4 I' h9 => ih y0 y1 y2 y3 y4 I' h9) h
      · have h := h.2 c78
        refine J_aload_n C dL_minute_81 rfl rfl ?_
        refine J_iload C dL_minute_82 rfl ?_
        refine J_iconst C dL_minute_84 (rg_of (by decide)) ?_
        refine J_iadd C dL_minute_85 ?_
        obtain ⟨h04, hn5, h⟩ := h
        refine J_iald C dL_minute_86 hK1 h04 hn5 ?_
        refine J_iconst C dL_minute_87 (rg_of (by decide)) ?_
        refine J_icmp_ne C dL_minute_88 (tgt := 161) rfl (fun c88 => ?_) (fun c88 => ?_)
        · have h := h.1 c88
          exact S_L_minute_161 C M (by omega) (fun y0 y1 y2 y3 y4 I' h9 => ih y0 y1 y2 y3 y4 I' h9) h
        · have h := h.2 c88
          refine J_aload_n C dL_minute_91 rfl rfl ?_
          refine J_iload C dL_minute_92 rfl ?_
          refine J_bipush C dL_minute_94 (by decide +kernel) (rg_of (by decide)) ?_
          refine J_iadd C dL_minute_96 ?_
          obtain ⟨h06, hn7, h⟩ := h
          refine J_iald C dL_minute_97 hK1 h06 hn7 ?_
          refine J_aload_n C dL_minute_98 rfl rfl ?_
          refine J_iconst C dL_minute_99 (rg_of (by decide)) ?_
          obtain ⟨hK8, h⟩ := h
          obtain ⟨h09, hn10, h⟩ := h
          refine J_iald C dL_minute_100 hK8 h09 hn10 ?_
          refine J_icmp_ne C dL_minute_101 (tgt := 161) rfl (fun c101 => ?_) (fun c101 => ?_)
          · have h := h.1 c101
            exact S_L_minute_161 C M (by omega) (fun y0 y1 y2 y3 y4 I' h9 => ih y0 y1 y2 y3 y4 I' h9) h
          · have h := h.2 c101
            refine J_aload_n C dL_minute_104 rfl rfl ?_
            refine J_bipush C dL_minute_105 (by decide +kernel) (rg_of (by decide)) ?_
            refine J_aload_n C dL_minute_107 rfl rfl ?_
            refine J_iload C dL_minute_108 rfl ?_
            refine J_iconst C dL_minute_110 (rg_of (by decide)) ?_
            refine J_iadd C dL_minute_111 ?_
            obtain ⟨h011, hn12, h⟩ := h
            refine J_iald C dL_minute_112 hK1 h011 hn12 ?_
            refine J_iadd C dL_minute_113 ?_
            refine J_dup2 C dL_minute_114 trivial trivial ?_
            obtain ⟨hK13, h⟩ := h
            obtain ⟨h014, hn15, h⟩ := h
            refine J_iald C dL_minute_115 hK13 h014 hn15 ?_
            refine J_iconst C dL_minute_116 (rg_of (by decide)) ?_
            refine J_aload_n C dL_minute_117 rfl rfl ?_
            refine J_iload C dL_minute_118 rfl ?_
            refine J_iconst C dL_minute_120 (rg_of (by decide)) ?_
            refine J_iadd C dL_minute_121 ?_
            obtain ⟨h016, hn17, h⟩ := h
            refine J_iald C dL_minute_122 hK1 h016 hn17 ?_
            refine J_iadd C dL_minute_123 ?_
            refine J_iadd C dL_minute_124 ?_
            obtain ⟨h018, hn19, h⟩ := h
            have h := h _ rfl
            refine J_iast C dL_minute_125 hK13 h018 hn19 ?_
            refine J_aload_n C dL_minute_126 rfl rfl ?_
            refine J_iload C dL_minute_127 rfl ?_
            refine J_iconst C dL_minute_129 (rg_of (by decide)) ?_
            refine J_iadd C dL_minute_130 ?_
            refine J_iconst C dL_minute_131 (rg_of (by decide)) ?_
            obtain ⟨h021, hn22, h⟩ := h
            have h := h _ rfl
            refine J_iast C dL_minute_132 hK1 h021 hn22 ?_
            refine J_aload_n C dL_minute_133 rfl rfl ?_
            refine J_iload C dL_minute_134 rfl ?_
            refine J_iconst C dL_minute_136 (rg_of (by decide)) ?_
            refine J_iadd C dL_minute_137 ?_
            refine J_aload_n C dL_minute_138 rfl rfl ?_
            refine J_iload C dL_minute_139 rfl ?_
            refine J_bipush C dL_minute_141 (by decide +kernel) (rg_of (by decide)) ?_
            refine J_iadd C dL_minute_143 ?_
            obtain ⟨h024, hn25, h⟩ := h
            refine J_iald C dL_minute_144 hK1 h024 hn25 ?_
            refine J_aload_n C dL_minute_145 rfl rfl ?_
            refine J_iload C dL_minute_146 rfl ?_
            refine J_bipush C dL_minute_148 (by decide +kernel) (rg_of (by decide)) ?_
            refine J_iadd C dL_minute_150 ?_
            obtain ⟨h026, hn27, h⟩ := h
            refine J_iald C dL_minute_151 hK1 h026 hn27 ?_
            refine J_icmp_ge C dL_minute_152 (tgt := 159) rfl (fun c152 => ?_) (fun c152 => ?_)
            · have h := h.1 c152
              refine J_iconst C dL_minute_159 (rg_of (by decide)) ?_
              exact S_L_minute_160 C M (by omega) (fun y0 y1 y2 y3 y4 I' h9 => ih y0 y1 y2 y3 y4 I' h9) h
            · have h := h.2 c152
              refine J_iconst C dL_minute_155 (rg_of (by decide)) ?_
              refine J_goto C dL_minute_156 (tgt := 160) rfl ?_
              exact S_L_minute_160 C M (by omega) (fun y0 y1 y2 y3 y4 I' h9 => ih y0 y1 y2 y3 y4 I' h9) h
set_option maxRecDepth 20000 in
set_option maxHeartbeats 4000000 in
theorem S_L_minute_56 {G : Gp} {X : Xt} {d : Nat} {k10 : Nat → Nat → Nat → Nat → Int → Il → Prop} {x0 : Nat} {x1 : Nat} {x2 : Nat} {x3 : Nat} {x4 : Int} {s0 : Int} {s1 : Int} {s2 : Nat} {Q : Il → Prop} {S : Shp} {F : Fl} {I : Il} (C : CO G RL cL_minute 6 X) (M : MX d none "minute" X) (hd : 3 ≤ d) (hk10 : ∀ (x0 : Nat) (x1 : Nat) (x2 : Nat) (x3 : Nat) (x4 : Int) (I' : Il), k10 x0 x1 x2 x3 x4 I' → J G X (QD X G (qV fun S' F' I' => S = S' ∧ F = F' ∧ Q I') noX) 10 [vr (some x0), vr (some x1), vr (some x2), vr (some x3), vi x4, vl 0] [] S F I') (h : V_L_minute_56 k10 x0 x1 x2 x3 x4 s0 s1 s2 S F I Q) : J G X (QD X G (qV fun S' F' I' => S = S' ∧ F = F' ∧ Q I') noX) 56 [vr (some x0), vr (some x1), vr (some x2), vr (some x3), vi x4, vl 0] [vi s0, vi s1, vr (some s2)] S F I := by
  unfold V_L_minute_56 at h
  obtain ⟨hK1, h⟩ := h
  obtain ⟨h02, hn3, h⟩ := h
  have h := h _ rfl
  refine J_iast C dL_minute_56 hK1 h02 hn3 ?_
  refine K_iinc C [vr (some x0), vr (some x1), vr (some x2), vr (some x3), vi (w32 (x4 + 1)), vl 0] dL_minute_57 rfl rfl ?_
  refine J_goto C dL_minute_60 (tgt := 10) rfl ?_
  exact hk10 x0 x1 x2 x3 (w32 (x4 + 1)) (ui I s2 s1 s0) h
set_option maxRecDepth 20000 in
set_option maxHeartbeats 4000000 in
theorem S_L_minute_49 {G : Gp} {X : Xt} {d : Nat} {k10 : Nat → Nat → Nat → Nat → Int → Il → Prop} {x0 : Nat} {x1 : Nat} {x2 : Nat} {x3 : Nat} {x4 : Int} {s0 : Int} {s1 : Nat} {Q : Il → Prop} {S : Shp} {F : Fl} {I : Il} (C : CO G RL cL_minute 6 X) (M : MX d none "minute" X) (hd : 3 ≤ d) (hk10 : ∀ (x0 : Nat) (x1 : Nat) (x2 : Nat) (x3 : Nat) (x4 : Int) (I' : Il), k10 x0 x1 x2 x3 x4 I' → J G X (QD X G (qV fun S' F' I' => S = S' ∧ F = F' ∧ Q I') noX) 10 [vr (some x0), vr (some x1), vr (some x2), vr (some x3), vi x4, vl 0] [] S F I') (h : V_L_minute_49 k10 x0 x1 x2 x3 x4 s0 s1 S F I Q) : J G X (QD X G (qV fun S' F' I' => S = S' ∧ F = F' ∧ Q I') noX) 49 [vr (some x0), vr (some x1), vr (some x2), vr (some x3), vi x4, vl 0] [vi s0, vr (some s1)] S F I := by
  unfold V_L_minute_49 at h
  refine J_aload_n C dL_minute_49 rfl rfl ?_
  refine J_bipush C dL_minute_50 (by decide +kernel) (rg_of (by decide)) ?_
  refine J_iload C dL_minute_52 rfl ?_
  refine J_iadd C dL_minute_54 ?_
  obtain ⟨hK1, h⟩ := h
  obtain ⟨h02, hn3, h⟩ := h
  refine J_iald C dL_minute_55 hK1 h02 hn3 ?_
  exact S_L_minute_56 C M (by omega) hk10 h
set_option maxRecDepth 20000 in
set_option maxHeartbeats 4000000 in
theorem S_L_minute_10 {G : Gp} {X : Xt} {d : Nat}  {S : Shp} {F : Fl} {Q : Il → Prop} (C : CO G RL cL_minute 6 X) (M : MX d none "minute" X) (hd : 3 ≤ d) (n9 : Nat)  : ∀ (x0 : Nat) (x1 : Nat) (x2 : Nat) (x3 : Nat) (x4 : Int) (I : Il), V_L_minute_10 n9 x0 x1 x2 x3 x4 S F I Q → J G X (QD X G (qV fun S' F' I' => S = S' ∧ F = F' ∧ Q I') noX) 10 [vr (some x0), vr (some x1), vr (some x2), vr (some x3), vi x4, vl 0] [] S F I := by
  induction n9 with
  | zero => intro x0 x1 x2 x3 x4 I h; exact h.elim
  | succ n ih =>
    intro x0 x1 x2 x3 x4 I h
    unfold V_L_minute_10 at h
    refine J_iload C dL_minute_10 rfl ?_
    refine J_iconst C dL_minute_12 (rg_of (by decide)) ?_
    refine J_icmp_ge C dL_minute_13 (tgt := 63) rfl (fun c13 => ?_) (fun c13 => ?_)
    · have h := h.1 c13
      refine J_iconst C dL_minute_63 (rg_of (by decide)) ?_
      refine K_istore C [vr (some x0), vr (some x1), vr (some x2), vr (some x3), vi 0, vl 0] dL_minute_64 (Nat.le_of_ble_eq_true rfl) rfl ?_
      obtain ⟨n9, h⟩ := h
      exact S_L_minute_66 C M (by omega) n9  _ _ _ _ _ _ h
    · have h := h.2 c13
      refine J_aload_n C dL_minute_16 rfl rfl ?_
      refine J_bipush C dL_minute_17 (by decide +kernel) (rg_of (by decide)) ?_
      refine J_iload C dL_minute_19 rfl ?_
      refine J_iadd C dL_minute_21 ?_
      refine J_aload_n C dL_minute_22 rfl rfl ?_
      refine J_bipush C dL_minute_23 (by decide +kernel) (rg_of (by decide)) ?_
      refine J_iload C dL_minute_25 rfl ?_
      refine J_iadd C dL_minute_27 ?_
      obtain ⟨hK1, h⟩ := h
      obtain ⟨h02, hn3, h⟩ := h
      refine J_iald C dL_minute_28 hK1 h02 hn3 ?_
      refine J_if_lt C dL_minute_29 (tgt := 49) rfl (fun c29 => ?_) (fun c29 => ?_)
      · have h := h.1 c29
        exact S_L_minute_49 C M (by omega) (fun y0 y1 y2 y3 y4 I' h9 => ih y0 y1 y2 y3 y4 I' h9) h
      · have h := h.2 c29
        refine J_aload_n C dL_minute_32 rfl rfl ?_
        refine J_bipush C dL_minute_33 (by decide +kernel) (rg_of (by decide)) ?_
        refine J_iload C dL_minute_35 rfl ?_
        refine J_iadd C dL_minute_37 ?_
        obtain ⟨h04, hn5, h⟩ := h
        refine J_iald C dL_minute_38 hK1 h04 hn5 ?_
        refine J_aload_n C dL_minute_39 rfl rfl ?_
        refine J_iconst C dL_minute_40 (rg_of (by decide)) ?_
        obtain ⟨hK6, h⟩ := h
        obtain ⟨h07, hn8, h⟩ := h
        refine J_iald C dL_minute_41 hK6 h07 hn8 ?_
        refine J_icmp_gt C dL_minute_42 (tgt := 49) rfl (fun c42 => ?_) (fun c42 => ?_)
        · have h := h.1 c42
          exact S_L_minute_49 C M (by omega) (fun y0 y1 y2 y3 y4 I' h9 => ih y0 y1 y2 y3 y4 I' h9) h
        · have h := h.2 c42
          refine J_iconst C dL_minute_45 (rg_of (by decide)) ?_
          refine J_goto C dL_minute_46 (tgt := 56) rfl ?_
          exact S_L_minute_56 C M (by omega) (fun y0 y1 y2 y3 y4 I' h9 => ih y0 y1 y2 y3 y4 I' h9) h
set_option maxRecDepth 20000 in
set_option maxHeartbeats 4000000 in
theorem S_L_minute {G : Gp} {X : Xt} {d : Nat}  {x0 : Nat} {x1 : Nat} {x2 : Nat} {x3 : Nat} {Q : Il → Prop} {S : Shp} {F : Fl} {I : Il} (C : CO G RL cL_minute 6 X) (M : MX d none "minute" X) (hd : 3 ≤ d)  (h : V_L_minute x0 x1 x2 x3 S F I Q) : J G X (QD X G (qV fun S' F' I' => S = S' ∧ F = F' ∧ Q I') noX) 0 [vr (some x0), vr (some x1), vr (some x2), vr (some x3), vl 0, vl 0] [] S F I := by
  unfold V_L_minute at h
  refine J_aload_n C dL_minute_0 rfl rfl ?_
  refine J_iconst C dL_minute_1 (rg_of (by decide)) ?_
  refine J_dup2 C dL_minute_2 trivial trivial ?_
  obtain ⟨hK1, h⟩ := h
  obtain ⟨h02, hn3, h⟩ := h
  refine J_iald C dL_minute_3 hK1 h02 hn3 ?_
  refine J_iconst C dL_minute_4 (rg_of (by decide)) ?_
  refine J_iadd C dL_minute_5 ?_
  obtain ⟨h04, hn5, h⟩ := h
  have h := h _ rfl
  refine J_iast C dL_minute_6 hK1 h04 hn5 ?_
  refine J_iconst C dL_minute_7 (rg_of (by decide)) ?_
  refine K_istore C [vr (some x0), vr (some x1), vr (some x2), vr (some x3), vi 0, vl 0] dL_minute_8 (Nat.le_of_ble_eq_true rfl) rfl ?_
  obtain ⟨n9, h⟩ := h
  exact S_L_minute_10 C M (by omega) n9  _ _ _ _ _ _ h
theorem c_L_minute {l : Launch} {G : Gp} {d : Nat} {x0 : Nat} {x1 : Nat} {x2 : Nat} {x3 : Nat} {S : Shp} {F : Fl} {I : Il} {Q : Il → Prop} (hl : l.stackTraces = false) (hd : 3 ≤ d) (h : V_L_minute x0 x1 x2 x3 S F I Q) : CM l G d yL_minute (.code yL_minute cL_minute 6 none) [vr (some x0), vr (some x1), vr (some x2), vr (some x3)] S F I (qV fun S' F' I' => S = S' ∧ F = F' ∧ Q I') noX :=
  CM_ofM [vr (some x0), vr (some x1), vr (some x2), vr (some x3), vl 0, vl 0] hl (by decide +kernel) (kn1 trivial (kn1 trivial (kn1 trivial (kn1 trivial kn0)))) (Nat.le_of_ble_eq_true rfl) rfl (fun X hX C M => S_L_minute C M hd h)
set_option maxRecDepth 20000 in
set_option maxHeartbeats 4000000 in
theorem S_L_shows_416 {G : Gp} {X : Xt} {d : Nat} {k176 : Nat → Nat → Nat → Nat → Nat → Int → Int → Prop} {x0 : Nat} {x1 : Nat} {x2 : Nat} {x3 : Nat} {x4 : Nat} {x5 : Int} {x6 : Int} {Q : Int → Prop} {S : Shp} {F : Fl} {I : Il} (C : CO G RL cL_shows 8 X) (M : MX d (some .boolean) "shows" X) (hd : 14 ≤ d) (hk176 : ∀ (x0 : Nat) (x1 : Nat) (x2 : Nat) (x3 : Nat) (x4 : Nat) (x5 : Int) (x6 : Int), k176 x0 x1 x2 x3 x4 x5 x6 → J G X (QD X G (qI fun z S' F' I' => S = S' ∧ F = F' ∧ I = I' ∧ Q z) noX) 176 [vr (some x0), vr (some x1), vr (some x2), vr (some x3), vr (some x4), vi x5, vi x6, vl 0] [] S F I) (h : V_L_shows_416 k176 x0 x1 x2 x3 x4 x5 x6 S F I Q) : J G X (QD X G (qI fun z S' F' I' => S = S' ∧ F = F' ∧ I = I' ∧ Q z) noX) 416 [vr (some x0), vr (some x1), vr (some x2), vr (some x3), vr (some x4), vi x5, vi x6, vl 0] [] S F I := by
  unfold V_L_shows_416 at h
  refine K_iinc C [vr (some x0), vr (some x1), vr (some x2), vr (some x3), vr (some x4), vi x5, vi (w32 (x6 + 16)), vl 0] dL_shows_416 rfl rfl ?_
  refine J_goto C dL_shows_419 (tgt := 176) rfl ?_
  exact hk176 x0 x1 x2 x3 x4 x5 (w32 (x6 + 16)) h
set_option maxRecDepth 20000 in
set_option maxHeartbeats 4000000 in
theorem S_L_shows_414 {G : Gp} {X : Xt} {d : Nat} {k176 : Nat → Nat → Nat → Nat → Nat → Int → Int → Prop} {x0 : Nat} {x1 : Nat} {x2 : Nat} {x3 : Nat} {x4 : Nat} {x6 : Int} {s0 : Int} {Q : Int → Prop} {S : Shp} {F : Fl} {I : Il} (C : CO G RL cL_shows 8 X) (M : MX d (some .boolean) "shows" X) (hd : 14 ≤ d) (hk176 : ∀ (x0 : Nat) (x1 : Nat) (x2 : Nat) (x3 : Nat) (x4 : Nat) (x5 : Int) (x6 : Int), k176 x0 x1 x2 x3 x4 x5 x6 → J G X (QD X G (qI fun z S' F' I' => S = S' ∧ F = F' ∧ I = I' ∧ Q z) noX) 176 [vr (some x0), vr (some x1), vr (some x2), vr (some x3), vr (some x4), vi x5, vi x6, vl 0] [] S F I) (h : V_L_shows_414 k176 x0 x1 x2 x3 x4 x6 s0 S F I Q) : J G X (QD X G (qI fun z S' F' I' => S = S' ∧ F = F' ∧ I = I' ∧ Q z) noX) 414 [vr (some x0), vr (some x1), vr (some x2), vr (some x3), vr (some x4), vl 0, vi x6, vl 0] [vi s0] S F I := by
  unfold V_L_shows_414 at h
  refine K_istore C [vr (some x0), vr (some x1), vr (some x2), vr (some x3), vr (some x4), vi s0, vi x6, vl 0] dL_shows_414 (Nat.le_of_ble_eq_true rfl) rfl ?_
  exact S_L_shows_416 C M (by omega) hk176 h
set_option maxRecDepth 20000 in
set_option maxHeartbeats 4000000 in
theorem S_L_shows_413 {G : Gp} {X : Xt} {d : Nat} {k176 : Nat → Nat → Nat → Nat → Nat → Int → Int → Prop} {x0 : Nat} {x1 : Nat} {x2 : Nat} {x3 : Nat} {x4 : Nat} {x6 : Int} {Q : Int → Prop} {S : Shp} {F : Fl} {I : Il} (C : CO G RL cL_shows 8 X) (M : MX d (some .boolean) "shows" X) (hd : 14 ≤ d) (hk176 : ∀ (x0 : Nat) (x1 : Nat) (x2 : Nat) (x3 : Nat) (x4 : Nat) (x5 : Int) (x6 : Int), k176 x0 x1 x2 x3 x4 x5 x6 → J G X (QD X G (qI fun z S' F' I' => S = S' ∧ F = F' ∧ I = I' ∧ Q z) noX) 176 [vr (some x0), vr (some x1), vr (some x2), vr (some x3), vr (some x4), vi x5, vi x6, vl 0] [] S F I) (h : V_L_shows_413 k176 x0 x1 x2 x3 x4 x6 S F I Q) : J G X (QD X G (qI fun z S' F' I' => S = S' ∧ F = F' ∧ I = I' ∧ Q z) noX) 413 [vr (some x0), vr (some x1), vr (some x2), vr (some x3), vr (some x4), vl 0, vi x6, vl 0] [] S F I := by
  unfold V_L_shows_413 at h
  refine J_iconst C dL_shows_413 (rg_of (by decide)) ?_
  exact S_L_shows_414 C M (by omega) hk176 h
set_option maxRecDepth 20000 in
set_option maxHeartbeats 4000000 in
theorem S_L_shows_406 {G : Gp} {X : Xt} {d : Nat} {k176 : Nat → Nat → Nat → Nat → Nat → Int → Int → Prop} {x0 : Nat} {x1 : Nat} {x2 : Nat} {x3 : Nat} {x4 : Nat} {x6 : Int} {s0 : Int} {s1 : Int} {Q : Int → Prop} {S : Shp} {F : Fl} {I : Il} (C : CO G RL cL_shows 8 X) (M : MX d (some .boolean) "shows" X) (hd : 14 ≤ d) (hk176 : ∀ (x0 : Nat) (x1 : Nat) (x2 : Nat) (x3 : Nat) (x4 : Nat) (x5 : Int) (x6 : Int), k176 x0 x1 x2 x3 x4 x5 x6 → J G X (QD X G (qI fun z S' F' I' => S = S' ∧ F = F' ∧ I = I' ∧ Q z) noX) 176 [vr (some x0), vr (some x1), vr (some x2), vr (some x3), vr (some x4), vi x5, vi x6, vl 0] [] S F I) (h : V_L_shows_406 k176 x0 x1 x2 x3 x4 x6 s0 s1 S F I Q) : J G X (QD X G (qI fun z S' F' I' => S = S' ∧ F = F' ∧ I = I' ∧ Q z) noX) 406 [vr (some x0), vr (some x1), vr (some x2), vr (some x3), vr (some x4), vl 0, vi x6, vl 0] [vi s0, vi s1] S F I := by
  unfold V_L_shows_406 at h
  refine J_icmp_ne C dL_shows_406 (tgt := 413) rfl (fun c406 => ?_) (fun c406 => ?_)
  · have h := h.1 c406
    exact S_L_shows_413 C M (by omega) hk176 h
  · have h := h.2 c406
    refine J_iconst C dL_shows_409 (rg_of (by decide)) ?_
    refine J_goto C dL_shows_410 (tgt := 414) rfl ?_
    exact S_L_shows_414 C M (by omega) hk176 h
set_option maxRecDepth 20000 in
set_option maxHeartbeats 4000000 in
theorem S_L_shows_372 {G : Gp} {X : Xt} {d : Nat} {k176 : Nat → Nat → Nat → Nat → Nat → Int → Int → Prop} {x0 : Nat} {x1 : Nat} {x2 : Nat} {x3 : Nat} {x4 : Nat} {x6 : Int} {x7 : Int} {s0 : Int} {s1 : Int} {Q : Int → Prop} {S : Shp} {F : Fl} {I : Il} (C : CO G RL cL_shows 8 X) (M : MX d (some .boolean) "shows" X) (hd : 14 ≤ d) (hk176 : ∀ (x0 : Nat) (x1 : Nat) (x2 : Nat) (x3 : Nat) (x4 : Nat) (x5 : Int) (x6 : Int), k176 x0 x1 x2 x3 x4 x5 x6 → J G X (QD X G (qI fun z S' F' I' => S = S' ∧ F = F' ∧ I = I' ∧ Q z) noX) 176 [vr (some x0), vr (some x1), vr (some x2), vr (some x3), vr (some x4), vi x5, vi x6, vl 0] [] S F I) (h : V_L_shows_372 k176 x0 x1 x2 x3 x4 x6 x7 s0 s1 S F I Q) : J G X (QD X G (qI fun z S' F' I' => S = S' ∧ F = F' ∧ I = I' ∧ Q z) noX) 372 [vr (some x0), vr (some x1), vr (some x2), vr (some x3), vr (some x4), vl 0, vi x6, vi x7] [vi s0, vi s1] S F I := by
  unfold V_L_shows_372 at h
  obtain ⟨d, rfl⟩ : ∃ d9, d = d9 + 1 := ⟨d - 1, by omega⟩
  refine J_icmp_ne C dL_shows_372 (tgt := 413) rfl (fun c372 => ?_) (fun c372 => ?_)
  · have h := h.1 c372
    refine J_less [vr (some x0), vr (some x1), vr (some x2), vr (some x3), vr (some x4), vl 0, vi x6, vl 0] (by unfold lessL; simp [lessL]) ?_
    exact S_L_shows_413 C M (by omega) hk176 h
  · have h := h.2 c372
    refine J_aload_n C dL_shows_375 rfl rfl ?_
    refine J_iload C dL_shows_376 rfl ?_
    obtain ⟨hK1, h⟩ := h
    refine K_V C M [vi x7] [] mi_X8_duty wg_900 wg_901 wg_902 ⟨rfl, by decide⟩ dL_shows_378 hK1 rfl rfl (by decide) (Nat.le_of_ble_eq_true rfl) (c_X8_duty (C.2.2.2.2.2.2.2) (by omega) h) (fun v9 S' F' I' hq9 => ?_) K_no rfl
    clear h
    obtain ⟨z2, rfl, rfl, rfl, rfl, h⟩ := hq9
    refine J_aload_n C dL_shows_381 rfl rfl ?_
    refine J_iload C dL_shows_382 rfl ?_
    refine J_bipush C dL_shows_384 (by decide +kernel) (rg_of (by decide)) ?_
    refine J_iadd C dL_shows_386 ?_
    obtain ⟨hK3, h⟩ := h
    obtain ⟨h04, hn5, h⟩ := h
    refine J_iald C dL_shows_387 hK3 h04 hn5 ?_
    refine J_aload C dL_shows_388 rfl ?_
    refine J_iconst C dL_shows_390 (rg_of (by decide)) ?_
    obtain ⟨hK6, h⟩ := h
    obtain ⟨h07, hn8, h⟩ := h
    refine J_iald C dL_shows_391 hK6 h07 hn8 ?_
    refine J_icmp_le C dL_shows_392 (tgt := 399) rfl (fun c392 => ?_) (fun c392 => ?_)
    · have h := h.1 c392
      refine J_aload_n C dL_shows_399 rfl rfl ?_
      refine J_iload C dL_shows_400 rfl ?_
      refine J_bipush C dL_shows_402 (by decide +kernel) (rg_of (by decide)) ?_
      refine J_iadd C dL_shows_404 ?_
      obtain ⟨h09, hn10, h⟩ := h
      refine J_iald C dL_shows_405 hK3 h09 hn10 ?_
      refine J_less [vr (some x0), vr (some x1), vr (some x2), vr (some x3), vr (some x4), vl 0, vi x6, vl 0] (by unfold lessL; simp [lessL]) ?_
      exact S_L_shows_406 C M (by omega) hk176 h
    · have h := h.2 c392
      refine J_iconst C dL_shows_395 (rg_of (by decide)) ?_
      refine J_goto C dL_shows_396 (tgt := 406) rfl ?_
      refine J_less [vr (some x0), vr (some x1), vr (some x2), vr (some x3), vr (some x4), vl 0, vi x6, vl 0] (by unfold lessL; simp [lessL]) ?_
      exact S_L_shows_406 C M (by omega) hk176 h
set_option maxRecDepth 20000 in
set_option maxHeartbeats 4000000 in
theorem S_L_shows_339 {G : Gp} {X : Xt} {d : Nat} {k176 : Nat → Nat → Nat → Nat → Nat → Int → Int → Prop} {x0 : Nat} {x1 : Nat} {x2 : Nat} {x3 : Nat} {x4 : Nat} {x6 : Int} {x7 : Int} {s0 : Int} {s1 : Int} {Q : Int → Prop} {S : Shp} {F : Fl} {I : Il} (C : CO G RL cL_shows 8 X) (M : MX d (some .boolean) "shows" X) (hd : 14 ≤ d) (hk176 : ∀ (x0 : Nat) (x1 : Nat) (x2 : Nat) (x3 : Nat) (x4 : Nat) (x5 : Int) (x6 : Int), k176 x0 x1 x2 x3 x4 x5 x6 → J G X (QD X G (qI fun z S' F' I' => S = S' ∧ F = F' ∧ I = I' ∧ Q z) noX) 176 [vr (some x0), vr (some x1), vr (some x2), vr (some x3), vr (some x4), vi x5, vi x6, vl 0] [] S F I) (h : V_L_shows_339 k176 x0 x1 x2 x3 x4 x6 x7 s0 s1 S F I Q) : J G X (QD X G (qI fun z S' F' I' => S = S' ∧ F = F' ∧ I = I' ∧ Q z) noX) 339 [vr (some x0), vr (some x1), vr (some x2), vr (some x3), vr (some x4), vl 0, vi x6, vi x7] [vi s0, vi s1] S F I := by
  unfold V_L_shows_339 at h
  obtain ⟨d, rfl⟩ : ∃ d9, d = d9 + 1 := ⟨d - 1, by omega⟩
  refine J_icmp_ne C dL_shows_339 (tgt := 413) rfl (fun c339 => ?_) (fun c339 => ?_)
  · have h := h.1 c339
    refine J_less [vr (some x0), vr (some x1), vr (some x2), vr (some x3), vr (some x4), vl 0, vi x6, vl 0] (by unfold lessL; simp [lessL]) ?_
    exact S_L_shows_413 C M (by omega) hk176 h
  · have h := h.2 c339
    refine J_aload_n C dL_shows_342 rfl rfl ?_
    refine J_iload C dL_shows_343 rfl ?_
    obtain ⟨hK1, h⟩ := h
    refine K_V C M [vi x7] [] mi_X8_barred wg_896 wg_897 wg_898 ⟨rfl, by decide⟩ dL_shows_345 hK1 rfl rfl (by decide) (Nat.le_of_ble_eq_true rfl) (c_X8_barred (C.2.2.2.2.2.2.2) (by omega) h) (fun v9 S' F' I' hq9 => ?_) K_no rfl
    clear h
    obtain ⟨z2, rfl, rfl, rfl, rfl, h⟩ := hq9
    refine J_aload_n C dL_shows_348 rfl rfl ?_
    refine J_iload C dL_shows_349 rfl ?_
    refine J_iconst C dL_shows_351 (rg_of (by decide)) ?_
    refine J_iadd C dL_shows_352 ?_
    obtain ⟨hK3, h⟩ := h
    obtain ⟨h04, hn5, h⟩ := h
    refine J_iald C dL_shows_353 hK3 h04 hn5 ?_
    refine J_iconst C dL_shows_354 (rg_of (by decide)) ?_
    refine J_icmp_ne C dL_shows_355 (tgt := 371) rfl (fun c355 => ?_) (fun c355 => ?_)
    · have h := h.1 c355
      refine J_iconst C dL_shows_371 (rg_of (by decide)) ?_
      exact S_L_shows_372 C M (by omega) hk176 h
    · have h := h.2 c355
      refine J_iload C dL_shows_358 rfl ?_
      refine J_aload_n C dL_shows_360 rfl rfl ?_
      refine J_aload_n C dL_shows_361 rfl rfl ?_
      refine J_aload_n C dL_shows_362 rfl rfl ?_
      refine J_aload C dL_shows_363 rfl ?_
      refine K_S C M [vi x6, vr (some x1), vr (some x2), vr (some x3), vr (some x4)] [vi z2] mi_L_bars wg_846 wg_847 dL_shows_365 rfl rfl (by decide) (Nat.le_of_ble_eq_true rfl) (c_L_bars (C.2.2.2.2.2.2.2) (by omega) h) (fun v9 S' F' I' hq9 => ?_) K_no rfl
      clear h
      obtain ⟨z6, rfl, rfl, rfl, rfl, h⟩ := hq9
      refine J_goto C dL_shows_368 (tgt := 372) rfl ?_
      exact S_L_shows_372 C M (by omega) hk176 h
set_option maxRecDepth 20000 in
set_option maxHeartbeats 4000000 in
theorem S_L_shows_176 {G : Gp} {X : Xt} {d : Nat}  {S : Shp} {F : Fl} {I : Il} {Q : Int → Prop} (C : CO G RL cL_shows 8 X) (M : MX d (some .boolean) "shows" X) (hd : 14 ≤ d) (n9 : Nat)  : ∀ (x0 : Nat) (x1 : Nat) (x2 : Nat) (x3 : Nat) (x4 : Nat) (x5 : Int) (x6 : Int) , V_L_shows_176 n9 x0 x1 x2 x3 x4 x5 x6 S F I Q → J G X (QD X G (qI fun z S' F' I' => S = S' ∧ F = F' ∧ I = I' ∧ Q z) noX) 176 [vr (some x0), vr (some x1), vr (some x2), vr (some x3), vr (some x4), vi x5, vi x6, vl 0] [] S F I := by
  obtain ⟨d, rfl⟩ : ∃ d9, d = d9 + 1 := ⟨d - 1, by omega⟩
  induction n9 with
  | zero => intro x0 x1 x2 x3 x4 x5 x6 h; exact h.elim
  | succ n ih =>
    intro x0 x1 x2 x3 x4 x5 x6 h
    unfold V_L_shows_176 at h
    refine J_iload C dL_shows_176 rfl ?_
    refine J_bipush C dL_shows_178 (by decide +kernel) (rg_of (by decide)) ?_
    refine J_icmp_ge C dL_shows_180 (tgt := 422) rfl (fun c180 => ?_) (fun c180 => ?_)
    · have h := h.1 c180
      refine J_iload C dL_shows_422 rfl ?_
      obtain ⟨hb, h⟩ := h
      exact J_zret C dL_shows_424 M.2.2.1 hb ⟨_, rfl, rfl, rfl, rfl, h⟩
    · have h := h.2 c180
      refine J_iload C dL_shows_183 rfl ?_
      refine J_if_eq C dL_shows_185 (tgt := 422) rfl (fun c185 => ?_) (fun c185 => ?_)
      · have h := h.1 c185
        refine J_iload C dL_shows_422 rfl ?_
        obtain ⟨hb, h⟩ := h
        exact J_zret C dL_shows_424 M.2.2.1 hb ⟨_, rfl, rfl, rfl, rfl, h⟩
      · have h := h.2 c185
        refine J_aload_n C dL_shows_188 rfl rfl ?_
        refine J_iload C dL_shows_189 rfl ?_
        obtain ⟨hK1, h⟩ := h
        obtain ⟨h02, hn3, h⟩ := h
        refine J_iald C dL_shows_191 hK1 h02 hn3 ?_
        refine J_iconst C dL_shows_192 (rg_of (by decide)) ?_
        refine J_icmp_ne C dL_shows_193 (tgt := 416) rfl (fun c193 => ?_) (fun c193 => ?_)
        · have h := h.1 c193
          exact S_L_shows_416 C M (by omega) (fun y0 y1 y2 y3 y4 y5 y6 h9 => ih y0 y1 y2 y3 y4 y5 y6 h9) h
        · have h := h.2 c193
          refine J_iload C dL_shows_196 rfl ?_
          refine J_bipush C dL_shows_198 (by decide +kernel) (rg_of (by decide)) ?_
          refine J_idiv C dL_shows_200 (by decide) ?_
          have h := h _ rfl
          refine K_istore C [vr (some x0), vr (some x1), vr (some x2), vr (some x3), vr (some x4), vi x5, vi x6, vi (w32 (Int.tdiv x6 16))] dL_shows_201 (Nat.le_of_ble_eq_true rfl) rfl ?_
          refine J_aload_n C dL_shows_203 rfl rfl ?_
          refine J_iload C dL_shows_204 rfl ?_
          refine J_iconst C dL_shows_206 (rg_of (by decide)) ?_
          obtain ⟨hK5, h⟩ := h
          refine K_V C M [vi (w32 (Int.tdiv x6 16)), vi 0] [] mi_X8_train wg_892 wg_893 wg_894 ⟨rfl, by decide⟩ dL_shows_207 hK5 rfl rfl (by decide) (Nat.le_of_ble_eq_true rfl) (c_X8_train (C.2.2.2.2.2.2.2) (by omega) h) (fun v9 S' F' I' hq9 => ?_) K_no rfl
          clear h
          obtain ⟨z6, rfl, rfl, rfl, rfl, h⟩ := hq9
          refine J_aload_n C dL_shows_210 rfl rfl ?_
          refine J_iload C dL_shows_211 rfl ?_
          refine J_iconst C dL_shows_213 (rg_of (by decide)) ?_
          refine J_iadd C dL_shows_214 ?_
          obtain ⟨h07, hn8, h⟩ := h
          refine J_iald C dL_shows_215 hK1 h07 hn8 ?_
          refine J_icmp_ne C dL_shows_216 (tgt := 413) rfl (fun c216 => ?_) (fun c216 => ?_)
          · have h := h.1 c216
            refine J_less [vr (some x0), vr (some x1), vr (some x2), vr (some x3), vr (some x4), vl 0, vi x6, vl 0] (by unfold lessL; simp [lessL]) ?_
            exact S_L_shows_413 C M (by omega) (fun y0 y1 y2 y3 y4 y5 y6 h9 => ih y0 y1 y2 y3 y4 y5 y6 h9) h
          · have h := h.2 c216
            refine J_aload_n C dL_shows_219 rfl rfl ?_
            refine J_iload C dL_shows_220 rfl ?_
            refine J_iconst C dL_shows_222 (rg_of (by decide)) ?_
            refine K_V C M [vi (w32 (Int.tdiv x6 16)), vi 1] [] mi_X8_train wg_892 wg_893 wg_894 ⟨rfl, by decide⟩ dL_shows_223 hK5 rfl rfl (by decide) (Nat.le_of_ble_eq_true rfl) (c_X8_train (C.2.2.2.2.2.2.2) (by omega) h) (fun v9 S' F' I' hq9 => ?_) K_no rfl
            clear h
            obtain ⟨z9, rfl, rfl, rfl, rfl, h⟩ := hq9
            refine J_aload_n C dL_shows_226 rfl rfl ?_
            refine J_iload C dL_shows_227 rfl ?_
            refine J_iconst C dL_shows_229 (rg_of (by decide)) ?_
            refine J_iadd C dL_shows_230 ?_
            obtain ⟨h010, hn11, h⟩ := h
            refine J_iald C dL_shows_231 hK1 h010 hn11 ?_
            refine J_icmp_ne C dL_shows_232 (tgt := 413) rfl (fun c232 => ?_) (fun c232 => ?_)
            · have h := h.1 c232
              refine J_less [vr (some x0), vr (some x1), vr (some x2), vr (some x3), vr (some x4), vl 0, vi x6, vl 0] (by unfold lessL; simp [lessL]) ?_
              exact S_L_shows_413 C M (by omega) (fun y0 y1 y2 y3 y4 y5 y6 h9 => ih y0 y1 y2 y3 y4 y5 y6 h9) h
            · have h := h.2 c232
              refine J_aload_n C dL_shows_235 rfl rfl ?_
              refine J_iload C dL_shows_236 rfl ?_
              refine J_iconst C dL_shows_238 (rg_of (by decide)) ?_
              refine K_V C M [vi (w32 (Int.tdiv x6 16)), vi 2] [] mi_X8_train wg_892 wg_893 wg_894 ⟨rfl, by decide⟩ dL_shows_239 hK5 rfl rfl (by decide) (Nat.le_of_ble_eq_true rfl) (c_X8_train (C.2.2.2.2.2.2.2) (by omega) h) (fun v9 S' F' I' hq9 => ?_) K_no rfl
              clear h
              obtain ⟨z12, rfl, rfl, rfl, rfl, h⟩ := hq9
              refine J_aload_n C dL_shows_242 rfl rfl ?_
              refine J_iload C dL_shows_243 rfl ?_
              refine J_iconst C dL_shows_245 (rg_of (by decide)) ?_
              refine J_iadd C dL_shows_246 ?_
              obtain ⟨h013, hn14, h⟩ := h
              refine J_iald C dL_shows_247 hK1 h013 hn14 ?_
              refine J_icmp_ne C dL_shows_248 (tgt := 413) rfl (fun c248 => ?_) (fun c248 => ?_)
              · have h := h.1 c248
                refine J_less [vr (some x0), vr (some x1), vr (some x2), vr (some x3), vr (some x4), vl 0, vi x6, vl 0] (by unfold lessL; simp [lessL]) ?_
                exact S_L_shows_413 C M (by omega) (fun y0 y1 y2 y3 y4 y5 y6 h9 => ih y0 y1 y2 y3 y4 y5 y6 h9) h
              · have h := h.2 c248
                refine J_aload_n C dL_shows_251 rfl rfl ?_
                refine J_iload C dL_shows_252 rfl ?_
                refine J_iconst C dL_shows_254 (rg_of (by decide)) ?_
                refine K_V C M [vi (w32 (Int.tdiv x6 16)), vi 3] [] mi_X8_train wg_892 wg_893 wg_894 ⟨rfl, by decide⟩ dL_shows_255 hK5 rfl rfl (by decide) (Nat.le_of_ble_eq_true rfl) (c_X8_train (C.2.2.2.2.2.2.2) (by omega) h) (fun v9 S' F' I' hq9 => ?_) K_no rfl
                clear h
                obtain ⟨z15, rfl, rfl, rfl, rfl, h⟩ := hq9
                refine J_iconst C dL_shows_258 (rg_of (by decide)) ?_
                refine J_aload_n C dL_shows_259 rfl rfl ?_
                refine J_iload C dL_shows_260 rfl ?_
                refine J_iconst C dL_shows_262 (rg_of (by decide)) ?_
                refine J_iadd C dL_shows_263 ?_
                obtain ⟨h016, hn17, h⟩ := h
                refine J_iald C dL_shows_264 hK1 h016 hn17 ?_
                refine J_imul C dL_shows_265 ?_
                refine J_icmp_ne C dL_shows_266 (tgt := 413) rfl (fun c266 => ?_) (fun c266 => ?_)
                · have h := h.1 c266
                  refine J_less [vr (some x0), vr (some x1), vr (some x2), vr (some x3), vr (some x4), vl 0, vi x6, vl 0] (by unfold lessL; simp [lessL]) ?_
                  exact S_L_shows_413 C M (by omega) (fun y0 y1 y2 y3 y4 y5 y6 h9 => ih y0 y1 y2 y3 y4 y5 y6 h9) h
                · have h := h.2 c266
                  refine J_aload_n C dL_shows_269 rfl rfl ?_
                  refine J_iload C dL_shows_270 rfl ?_
                  refine J_iconst C dL_shows_272 (rg_of (by decide)) ?_
                  refine K_V C M [vi (w32 (Int.tdiv x6 16)), vi 4] [] mi_X8_train wg_892 wg_893 wg_894 ⟨rfl, by decide⟩ dL_shows_273 hK5 rfl rfl (by decide) (Nat.le_of_ble_eq_true rfl) (c_X8_train (C.2.2.2.2.2.2.2) (by omega) h) (fun v9 S' F' I' hq9 => ?_) K_no rfl
                  clear h
                  obtain ⟨z18, rfl, rfl, rfl, rfl, h⟩ := hq9
                  refine J_aload_n C dL_shows_276 rfl rfl ?_
                  refine J_iload C dL_shows_277 rfl ?_
                  refine J_iconst C dL_shows_279 (rg_of (by decide)) ?_
                  refine J_iadd C dL_shows_280 ?_
                  obtain ⟨h019, hn20, h⟩ := h
                  refine J_iald C dL_shows_281 hK1 h019 hn20 ?_
                  refine J_icmp_ne C dL_shows_282 (tgt := 413) rfl (fun c282 => ?_) (fun c282 => ?_)
                  · have h := h.1 c282
                    refine J_less [vr (some x0), vr (some x1), vr (some x2), vr (some x3), vr (some x4), vl 0, vi x6, vl 0] (by unfold lessL; simp [lessL]) ?_
                    exact S_L_shows_413 C M (by omega) (fun y0 y1 y2 y3 y4 y5 y6 h9 => ih y0 y1 y2 y3 y4 y5 y6 h9) h
                  · have h := h.2 c282
                    refine J_aload_n C dL_shows_285 rfl rfl ?_
                    refine J_iload C dL_shows_286 rfl ?_
                    refine J_iconst C dL_shows_288 (rg_of (by decide)) ?_
                    refine K_V C M [vi (w32 (Int.tdiv x6 16)), vi 5] [] mi_X8_train wg_892 wg_893 wg_894 ⟨rfl, by decide⟩ dL_shows_289 hK5 rfl rfl (by decide) (Nat.le_of_ble_eq_true rfl) (c_X8_train (C.2.2.2.2.2.2.2) (by omega) h) (fun v9 S' F' I' hq9 => ?_) K_no rfl
                    clear h
                    obtain ⟨z21, rfl, rfl, rfl, rfl, h⟩ := hq9
                    refine J_aload_n C dL_shows_292 rfl rfl ?_
                    refine J_iload C dL_shows_293 rfl ?_
                    refine J_bipush C dL_shows_295 (by decide +kernel) (rg_of (by decide)) ?_
                    refine J_iadd C dL_shows_297 ?_
                    obtain ⟨h022, hn23, h⟩ := h
                    refine J_iald C dL_shows_298 hK1 h022 hn23 ?_
                    refine J_aload_n C dL_shows_299 rfl rfl ?_
                    refine J_iload C dL_shows_300 rfl ?_
                    refine J_bipush C dL_shows_302 (by decide +kernel) (rg_of (by decide)) ?_
                    refine J_iadd C dL_shows_304 ?_
                    obtain ⟨h024, hn25, h⟩ := h
                    refine J_iald C dL_shows_305 hK1 h024 hn25 ?_
                    refine J_isub C dL_shows_306 ?_
                    refine J_icmp_ne C dL_shows_307 (tgt := 413) rfl (fun c307 => ?_) (fun c307 => ?_)
                    · have h := h.1 c307
                      refine J_less [vr (some x0), vr (some x1), vr (some x2), vr (some x3), vr (some x4), vl 0, vi x6, vl 0] (by unfold lessL; simp [lessL]) ?_
                      exact S_L_shows_413 C M (by omega) (fun y0 y1 y2 y3 y4 y5 y6 h9 => ih y0 y1 y2 y3 y4 y5 y6 h9) h
                    · have h := h.2 c307
                      refine J_aload_n C dL_shows_310 rfl rfl ?_
                      refine J_iload C dL_shows_311 rfl ?_
                      refine J_bipush C dL_shows_313 (by decide +kernel) (rg_of (by decide)) ?_
                      refine K_V C M [vi (w32 (Int.tdiv x6 16)), vi 6] [] mi_X8_train wg_892 wg_893 wg_894 ⟨rfl, by decide⟩ dL_shows_315 hK5 rfl rfl (by decide) (Nat.le_of_ble_eq_true rfl) (c_X8_train (C.2.2.2.2.2.2.2) (by omega) h) (fun v9 S' F' I' hq9 => ?_) K_no rfl
                      clear h
                      obtain ⟨z26, rfl, rfl, rfl, rfl, h⟩ := hq9
                      refine J_aload_n C dL_shows_318 rfl rfl ?_
                      refine J_iload C dL_shows_319 rfl ?_
                      refine J_iconst C dL_shows_321 (rg_of (by decide)) ?_
                      refine J_iadd C dL_shows_322 ?_
                      obtain ⟨h027, hn28, h⟩ := h
                      refine J_iald C dL_shows_323 hK1 h027 hn28 ?_
                      refine J_iconst C dL_shows_324 (rg_of (by decide)) ?_
                      refine J_icmp_ne C dL_shows_325 (tgt := 338) rfl (fun c325 => ?_) (fun c325 => ?_)
                      · have h := h.1 c325
                        refine J_iconst C dL_shows_338 (rg_of (by decide)) ?_
                        refine J_less [vr (some x0), vr (some x1), vr (some x2), vr (some x3), vr (some x4), vl 0, vi x6, vi (w32 (Int.tdiv x6 16))] (by unfold lessL; simp [lessL]) ?_
                        exact S_L_shows_339 C M (by omega) (fun y0 y1 y2 y3 y4 y5 y6 h9 => ih y0 y1 y2 y3 y4 y5 y6 h9) h
                      · have h := h.2 c325
                        refine J_aload_n C dL_shows_328 rfl rfl ?_
                        refine J_iload C dL_shows_329 rfl ?_
                        refine J_bipush C dL_shows_331 (by decide +kernel) (rg_of (by decide)) ?_
                        refine J_iadd C dL_shows_333 ?_
                        obtain ⟨h029, hn30, h⟩ := h
                        refine J_iald C dL_shows_334 hK1 h029 hn30 ?_
                        refine J_goto C dL_shows_335 (tgt := 339) rfl ?_
                        refine J_less [vr (some x0), vr (some x1), vr (some x2), vr (some x3), vr (some x4), vl 0, vi x6, vi (w32 (Int.tdiv x6 16))] (by unfold lessL; simp [lessL]) ?_
                        exact S_L_shows_339 C M (by omega) (fun y0 y1 y2 y3 y4 y5 y6 h9 => ih y0 y1 y2 y3 y4 y5 y6 h9) h
set_option maxRecDepth 20000 in
set_option maxHeartbeats 4000000 in
theorem S_L_shows_173 {G : Gp} {X : Xt} {d : Nat}  {x0 : Nat} {x1 : Nat} {x2 : Nat} {x3 : Nat} {x4 : Nat} {x5 : Int} {Q : Int → Prop} {S : Shp} {F : Fl} {I : Il} (C : CO G RL cL_shows 8 X) (M : MX d (some .boolean) "shows" X) (hd : 14 ≤ d)  (h : V_L_shows_173 x0 x1 x2 x3 x4 x5 S F I Q) : J G X (QD X G (qI fun z S' F' I' => S = S' ∧ F = F' ∧ I = I' ∧ Q z) noX) 173 [vr (some x0), vr (some x1), vr (some x2), vr (some x3), vr (some x4), vi x5, vl 0, vl 0] [] S F I := by
  unfold V_L_shows_173 at h
  refine J_iconst C dL_shows_173 (rg_of (by decide)) ?_
  refine K_istore C [vr (some x0), vr (some x1), vr (some x2), vr (some x3), vr (some x4), vi x5, vi 0, vl 0] dL_shows_174 (Nat.le_of_ble_eq_true rfl) rfl ?_
  obtain ⟨n9, h⟩ := h
  exact S_L_shows_176 C M (by omega) n9  _ _ _ _ _ _ _ h
set_option maxRecDepth 20000 in
set_option maxHeartbeats 4000000 in
theorem S_L_shows_165 {G : Gp} {X : Xt} {d : Nat} {k32 : Nat → Nat → Nat → Nat → Nat → Int → Int → Prop} {x0 : Nat} {x1 : Nat} {x2 : Nat} {x3 : Nat} {x4 : Nat} {x6 : Int} {s0 : Int} {Q : Int → Prop} {S : Shp} {F : Fl} {I : Il} (C : CO G RL cL_shows 8 X) (M : MX d (some .boolean) "shows" X) (hd : 14 ≤ d) (hk32 : ∀ (x0 : Nat) (x1 : Nat) (x2 : Nat) (x3 : Nat) (x4 : Nat) (x5 : Int) (x6 : Int), k32 x0 x1 x2 x3 x4 x5 x6 → J G X (QD X G (qI fun z S' F' I' => S = S' ∧ F = F' ∧ I = I' ∧ Q z) noX) 32 [vr (some x0), vr (some x1), vr (some x2), vr (some x3), vr (some x4), vi x5, vi x6, vl 0] [] S F I) (h : V_L_shows_165 k32 x0 x1 x2 x3 x4 x6 s0 S F I Q) : J G X (QD X G (qI fun z S' F' I' => S = S' ∧ F = F' ∧ I = I' ∧ Q z) noX) 165 [vr (some x0), vr (some x1), vr (some x2), vr (some x3), vr (some x4), vl 0, vi x6, vl 0] [vi s0] S F I := by
  unfold V_L_shows_165 at h
  refine K_istore C [vr (some x0), vr (some x1), vr (some x2), vr (some x3), vr (some x4), vi s0, vi x6, vl 0] dL_shows_165 (Nat.le_of_ble_eq_true rfl) rfl ?_
  refine K_iinc C [vr (some x0), vr (some x1), vr (some x2), vr (some x3), vr (some x4), vi s0, vi (w32 (x6 + 1)), vl 0] dL_shows_167 rfl rfl ?_
  refine J_goto C dL_shows_170 (tgt := 32) rfl ?_
  exact hk32 x0 x1 x2 x3 x4 s0 (w32 (x6 + 1)) h
set_option maxRecDepth 20000 in
set_option maxHeartbeats 4000000 in
theorem S_L_shows_164 {G : Gp} {X : Xt} {d : Nat} {k32 : Nat → Nat → Nat → Nat → Nat → Int → Int → Prop} {x0 : Nat} {x1 : Nat} {x2 : Nat} {x3 : Nat} {x4 : Nat} {x6 : Int} {Q : Int → Prop} {S : Shp} {F : Fl} {I : Il} (C : CO G RL cL_shows 8 X) (M : MX d (some .boolean) "shows" X) (hd : 14 ≤ d) (hk32 : ∀ (x0 : Nat) (x1 : Nat) (x2 : Nat) (x3 : Nat) (x4 : Nat) (x5 : Int) (x6 : Int), k32 x0 x1 x2 x3 x4 x5 x6 → J G X (QD X G (qI fun z S' F' I' => S = S' ∧ F = F' ∧ I = I' ∧ Q z) noX) 32 [vr (some x0), vr (some x1), vr (some x2), vr (some x3), vr (some x4), vi x5, vi x6, vl 0] [] S F I) (h : V_L_shows_164 k32 x0 x1 x2 x3 x4 x6 S F I Q) : J G X (QD X G (qI fun z S' F' I' => S = S' ∧ F = F' ∧ I = I' ∧ Q z) noX) 164 [vr (some x0), vr (some x1), vr (some x2), vr (some x3), vr (some x4), vl 0, vi x6, vl 0] [] S F I := by
  unfold V_L_shows_164 at h
  refine J_iconst C dL_shows_164 (rg_of (by decide)) ?_
  exact S_L_shows_165 C M (by omega) hk32 h
set_option maxRecDepth 20000 in
set_option maxHeartbeats 4000000 in
theorem S_L_shows_118 {G : Gp} {X : Xt} {d : Nat} {k32 : Nat → Nat → Nat → Nat → Nat → Int → Int → Prop} {x0 : Nat} {x1 : Nat} {x2 : Nat} {x3 : Nat} {x4 : Nat} {x6 : Int} {s0 : Int} {s1 : Int} {Q : Int → Prop} {S : Shp} {F : Fl} {I : Il} (C : CO G RL cL_shows 8 X) (M : MX d (some .boolean) "shows" X) (hd : 14 ≤ d) (hk32 : ∀ (x0 : Nat) (x1 : Nat) (x2 : Nat) (x3 : Nat) (x4 : Nat) (x5 : Int) (x6 : Int), k32 x0 x1 x2 x3 x4 x5 x6 → J G X (QD X G (qI fun z S' F' I' => S = S' ∧ F = F' ∧ I = I' ∧ Q z) noX) 32 [vr (some x0), vr (some x1), vr (some x2), vr (some x3), vr (some x4), vi x5, vi x6, vl 0] [] S F I) (h : V_L_shows_118 k32 x0 x1 x2 x3 x4 x6 s0 s1 S F I Q) : J G X (QD X G (qI fun z S' F' I' => S = S' ∧ F = F' ∧ I = I' ∧ Q z) noX) 118 [vr (some x0), vr (some x1), vr (some x2), vr (some x3), vr (some x4), vl 0, vi x6, vl 0] [vi s0, vi s1] S F I := by
  unfold V_L_shows_118 at h
  obtain ⟨d, rfl⟩ : ∃ d9, d = d9 + 1 := ⟨d - 1, by omega⟩
  refine J_icmp_ne C dL_shows_118 (tgt := 164) rfl (fun c118 => ?_) (fun c118 => ?_)
  · have h := h.1 c118
    exact S_L_shows_164 C M (by omega) hk32 h
  · have h := h.2 c118
    refine J_aload_n C dL_shows_121 rfl rfl ?_
    refine J_iload C dL_shows_122 rfl ?_
    refine K_S C M [vr (some x0), vi x6] [] mi_L_flags wg_885 wg_886 dL_shows_124 rfl rfl (by decide) (Nat.le_of_ble_eq_true rfl) (c_L_flags (C.2.2.2.2.2.2.2) (by omega) h) (fun v9 S' F' I' hq9 => ?_) K_no rfl
    clear h
    obtain ⟨z1, rfl, rfl, rfl, rfl, h⟩ := hq9
    refine J_aload_n C dL_shows_127 rfl rfl ?_
    refine J_bipush C dL_shows_128 (by decide +kernel) (rg_of (by decide)) ?_
    refine J_iload C dL_shows_130 rfl ?_
    refine J_iadd C dL_shows_132 ?_
    obtain ⟨hK2, h⟩ := h
    obtain ⟨h03, hn4, h⟩ := h
    refine J_iald C dL_shows_133 hK2 h03 hn4 ?_
    refine J_icmp_ne C dL_shows_134 (tgt := 164) rfl (fun c134 => ?_) (fun c134 => ?_)
    · have h := h.1 c134
      exact S_L_shows_164 C M (by omega) hk32 h
    · have h := h.2 c134
      refine J_aload_n C dL_shows_137 rfl rfl ?_
      refine J_iload C dL_shows_138 rfl ?_
      obtain ⟨hK5, h⟩ := h
      refine K_V C M [vi x6] [] mi_X8_freeTracks wg_888 wg_889 wg_890 ⟨rfl, by decide⟩ dL_shows_140 hK5 rfl rfl (by decide) (Nat.le_of_ble_eq_true rfl) (c_X8_freeTracks (C.2.2.2.2.2.2.2) (by omega) h) (fun v9 S' F' I' hq9 => ?_) K_no rfl
      clear h
      obtain ⟨z6, rfl, rfl, rfl, rfl, h⟩ := hq9
      refine J_aload C dL_shows_143 rfl ?_
      refine J_iconst C dL_shows_145 (rg_of (by decide)) ?_
      refine J_iload C dL_shows_146 rfl ?_
      refine J_iadd C dL_shows_148 ?_
      obtain ⟨hK7, h⟩ := h
      obtain ⟨h08, hn9, h⟩ := h
      refine J_iald C dL_shows_149 hK7 h08 hn9 ?_
      refine J_iload C dL_shows_150 rfl ?_
      refine J_aload_n C dL_shows_152 rfl rfl ?_
      refine K_S C M [vi x6, vr (some x2)] [vi (I x4 (w32 (4 + x6))), vi z6] mi_L_taken wg_840 wg_841 dL_shows_153 rfl rfl (by decide) (Nat.le_of_ble_eq_true rfl) (c_L_taken (C.2.2.2.2.2.2.2) (by omega) h) (fun v9 S' F' I' hq9 => ?_) K_no rfl
      clear h
      obtain ⟨z10, rfl, rfl, rfl, rfl, h⟩ := hq9
      refine J_isub C dL_shows_156 ?_
      refine J_icmp_ne C dL_shows_157 (tgt := 164) rfl (fun c157 => ?_) (fun c157 => ?_)
      · have h := h.1 c157
        exact S_L_shows_164 C M (by omega) hk32 h
      · have h := h.2 c157
        refine J_iconst C dL_shows_160 (rg_of (by decide)) ?_
        refine J_goto C dL_shows_161 (tgt := 165) rfl ?_
        exact S_L_shows_165 C M (by omega) hk32 h
set_option maxRecDepth 20000 in
set_option maxHeartbeats 4000000 in
theorem S_L_shows_32 {G : Gp} {X : Xt} {d : Nat}  {S : Shp} {F : Fl} {I : Il} {Q : Int → Prop} (C : CO G RL cL_shows 8 X) (M : MX d (some .boolean) "shows" X) (hd : 14 ≤ d) (n9 : Nat)  : ∀ (x0 : Nat) (x1 : Nat) (x2 : Nat) (x3 : Nat) (x4 : Nat) (x5 : Int) (x6 : Int) , V_L_shows_32 n9 x0 x1 x2 x3 x4 x5 x6 S F I Q → J G X (QD X G (qI fun z S' F' I' => S = S' ∧ F = F' ∧ I = I' ∧ Q z) noX) 32 [vr (some x0), vr (some x1), vr (some x2), vr (some x3), vr (some x4), vi x5, vi x6, vl 0] [] S F I := by
  obtain ⟨d, rfl⟩ : ∃ d9, d = d9 + 1 := ⟨d - 1, by omega⟩
  induction n9 with
  | zero => intro x0 x1 x2 x3 x4 x5 x6 h; exact h.elim
  | succ n ih =>
    intro x0 x1 x2 x3 x4 x5 x6 h
    unfold V_L_shows_32 at h
    refine J_iload C dL_shows_32 rfl ?_
    refine J_iconst C dL_shows_34 (rg_of (by decide)) ?_
    refine J_icmp_ge C dL_shows_35 (tgt := 173) rfl (fun c35 => ?_) (fun c35 => ?_)
    · have h := h.1 c35
      refine J_less [vr (some x0), vr (some x1), vr (some x2), vr (some x3), vr (some x4), vi x5, vl 0, vl 0] (by unfold lessL; simp [lessL]) ?_
      exact S_L_shows_173 C M (by omega)  h
    · have h := h.2 c35
      refine J_iload C dL_shows_38 rfl ?_
      refine J_if_eq C dL_shows_40 (tgt := 173) rfl (fun c40 => ?_) (fun c40 => ?_)
      · have h := h.1 c40
        refine J_less [vr (some x0), vr (some x1), vr (some x2), vr (some x3), vr (some x4), vi x5, vl 0, vl 0] (by unfold lessL; simp [lessL]) ?_
        exact S_L_shows_173 C M (by omega)  h
      · have h := h.2 c40
        refine J_aload_n C dL_shows_43 rfl rfl ?_
        refine J_iload C dL_shows_44 rfl ?_
        obtain ⟨hK1, h⟩ := h
        refine K_V C M [vi x6] [] mi_X8_holder wg_869 wg_870 wg_871 ⟨rfl, by decide⟩ dL_shows_46 hK1 rfl rfl (by decide) (Nat.le_of_ble_eq_true rfl) (c_X8_holder (C.2.2.2.2.2.2.2) (by omega) h) (fun v9 S' F' I' hq9 => ?_) K_no rfl
        clear h
        obtain ⟨z2, rfl, rfl, rfl, rfl, h⟩ := hq9
        refine J_aload_n C dL_shows_49 rfl rfl ?_
        refine J_bipush C dL_shows_50 (by decide +kernel) (rg_of (by decide)) ?_
        refine J_iload C dL_shows_52 rfl ?_
        refine J_iadd C dL_shows_54 ?_
        obtain ⟨hK3, h⟩ := h
        obtain ⟨h04, hn5, h⟩ := h
        refine J_iald C dL_shows_55 hK3 h04 hn5 ?_
        refine J_icmp_ne C dL_shows_56 (tgt := 164) rfl (fun c56 => ?_) (fun c56 => ?_)
        · have h := h.1 c56
          refine J_less [vr (some x0), vr (some x1), vr (some x2), vr (some x3), vr (some x4), vl 0, vi x6, vl 0] (by unfold lessL; simp [lessL]) ?_
          exact S_L_shows_164 C M (by omega) (fun y0 y1 y2 y3 y4 y5 y6 h9 => ih y0 y1 y2 y3 y4 y5 y6 h9) h
        · have h := h.2 c56
          refine J_aload_n C dL_shows_59 rfl rfl ?_
          refine J_iload C dL_shows_60 rfl ?_
          refine K_V C M [vi x6] [] mi_X8_holderByTrains wg_873 wg_874 wg_875 ⟨rfl, by decide⟩ dL_shows_62 hK1 rfl rfl (by decide) (Nat.le_of_ble_eq_true rfl) (c_X8_holderByTrains (C.2.2.2.2.2.2.2) (by omega) h) (fun v9 S' F' I' hq9 => ?_) K_no rfl
          clear h
          obtain ⟨z6, rfl, rfl, rfl, rfl, h⟩ := hq9
          refine J_aload_n C dL_shows_65 rfl rfl ?_
          refine J_bipush C dL_shows_66 (by decide +kernel) (rg_of (by decide)) ?_
          refine J_iload C dL_shows_68 rfl ?_
          refine J_iadd C dL_shows_70 ?_
          obtain ⟨h07, hn8, h⟩ := h
          refine J_iald C dL_shows_71 hK3 h07 hn8 ?_
          refine J_icmp_ne C dL_shows_72 (tgt := 164) rfl (fun c72 => ?_) (fun c72 => ?_)
          · have h := h.1 c72
            refine J_less [vr (some x0), vr (some x1), vr (some x2), vr (some x3), vr (some x4), vl 0, vi x6, vl 0] (by unfold lessL; simp [lessL]) ?_
            exact S_L_shows_164 C M (by omega) (fun y0 y1 y2 y3 y4 y5 y6 h9 => ih y0 y1 y2 y3 y4 y5 y6 h9) h
          · have h := h.2 c72
            refine J_aload_n C dL_shows_75 rfl rfl ?_
            refine J_iload C dL_shows_76 rfl ?_
            refine J_iconst C dL_shows_78 (rg_of (by decide)) ?_
            refine K_V C M [vi x6, vi 0] [] mi_X8_block wg_881 wg_882 wg_883 ⟨rfl, by decide⟩ dL_shows_79 hK1 rfl rfl (by decide) (Nat.le_of_ble_eq_true rfl) (c_X8_block (C.2.2.2.2.2.2.2) (by omega) h) (fun v9 S' F' I' hq9 => ?_) K_no rfl
            clear h
            obtain ⟨z9, rfl, rfl, rfl, rfl, h⟩ := hq9
            refine J_aload_n C dL_shows_82 rfl rfl ?_
            refine J_bipush C dL_shows_83 (by decide +kernel) (rg_of (by decide)) ?_
            refine J_iload C dL_shows_85 rfl ?_
            refine J_iadd C dL_shows_87 ?_
            obtain ⟨h010, hn11, h⟩ := h
            refine J_iald C dL_shows_88 hK3 h010 hn11 ?_
            refine J_icmp_ne C dL_shows_89 (tgt := 164) rfl (fun c89 => ?_) (fun c89 => ?_)
            · have h := h.1 c89
              refine J_less [vr (some x0), vr (some x1), vr (some x2), vr (some x3), vr (some x4), vl 0, vi x6, vl 0] (by unfold lessL; simp [lessL]) ?_
              exact S_L_shows_164 C M (by omega) (fun y0 y1 y2 y3 y4 y5 y6 h9 => ih y0 y1 y2 y3 y4 y5 y6 h9) h
            · have h := h.2 c89
              refine J_aload_n C dL_shows_92 rfl rfl ?_
              refine J_iload C dL_shows_93 rfl ?_
              refine J_iconst C dL_shows_95 (rg_of (by decide)) ?_
              refine K_V C M [vi x6, vi 1] [] mi_X8_block wg_881 wg_882 wg_883 ⟨rfl, by decide⟩ dL_shows_96 hK1 rfl rfl (by decide) (Nat.le_of_ble_eq_true rfl) (c_X8_block (C.2.2.2.2.2.2.2) (by omega) h) (fun v9 S' F' I' hq9 => ?_) K_no rfl
              clear h
              obtain ⟨z12, rfl, rfl, rfl, rfl, h⟩ := hq9
              refine J_aload_n C dL_shows_99 rfl rfl ?_
              refine J_bipush C dL_shows_100 (by decide +kernel) (rg_of (by decide)) ?_
              refine J_iload C dL_shows_102 rfl ?_
              refine J_iadd C dL_shows_104 ?_
              obtain ⟨h013, hn14, h⟩ := h
              refine J_iald C dL_shows_105 hK3 h013 hn14 ?_
              refine J_aload C dL_shows_106 rfl ?_
              refine J_iconst C dL_shows_108 (rg_of (by decide)) ?_
              obtain ⟨hK15, h⟩ := h
              obtain ⟨h016, hn17, h⟩ := h
              refine J_iald C dL_shows_109 hK15 h016 hn17 ?_
              refine J_icmp_le C dL_shows_110 (tgt := 117) rfl (fun c110 => ?_) (fun c110 => ?_)
              · have h := h.1 c110
                refine J_iconst C dL_shows_117 (rg_of (by decide)) ?_
                refine J_less [vr (some x0), vr (some x1), vr (some x2), vr (some x3), vr (some x4), vl 0, vi x6, vl 0] (by unfold lessL; simp [lessL]) ?_
                exact S_L_shows_118 C M (by omega) (fun y0 y1 y2 y3 y4 y5 y6 h9 => ih y0 y1 y2 y3 y4 y5 y6 h9) h
              · have h := h.2 c110
                refine J_iconst C dL_shows_113 (rg_of (by decide)) ?_
                refine J_goto C dL_shows_114 (tgt := 118) rfl ?_
                refine J_less [vr (some x0), vr (some x1), vr (some x2), vr (some x3), vr (some x4), vl 0, vi x6, vl 0] (by unfold lessL; simp [lessL]) ?_
                exact S_L_shows_118 C M (by omega) (fun y0 y1 y2 y3 y4 y5 y6 h9 => ih y0 y1 y2 y3 y4 y5 y6 h9) h
set_option maxRecDepth 20000 in
set_option maxHeartbeats 4000000 in
theorem S_L_shows_27 {G : Gp} {X : Xt} {d : Nat}  {x0 : Nat} {x1 : Nat} {x2 : Nat} {x3 : Nat} {x4 : Nat} {s0 : Int} {Q : Int → Prop} {S : Shp} {F : Fl} {I : Il} (C : CO G RL cL_shows 8 X) (M : MX d (some .boolean) "shows" X) (hd : 14 ≤ d)  (h : V_L_shows_27 x0 x1 x2 x3 x4 s0 S F I Q) : J G X (QD X G (qI fun z S' F' I' => S = S' ∧ F = F' ∧ I = I' ∧ Q z) noX) 27 [vr (some x0), vr (some x1), vr (some x2), vr (some x3), vr (some x4), vl 0, vl 0, vl 0] [vi s0] S F I := by
  unfold V_L_shows_27 at h
  refine K_istore C [vr (some x0), vr (some x1), vr (some x2), vr (some x3), vr (some x4), vi s0, vl 0, vl 0] dL_shows_27 (Nat.le_of_ble_eq_true rfl) rfl ?_
  refine J_iconst C dL_shows_29 (rg_of (by decide)) ?_
  refine K_istore C [vr (some x0), vr (some x1), vr (some x2), vr (some x3), vr (some x4), vi s0, vi 0, vl 0] dL_shows_30 (Nat.le_of_ble_eq_true rfl) rfl ?_
  obtain ⟨n9, h⟩ := h
  exact S_L_shows_32 C M (by omega) n9  _ _ _ _ _ _ _ h
set_option maxRecDepth 20000 in
set_option maxHeartbeats 4000000 in
theorem S_L_shows_26 {G : Gp} {X : Xt} {d : Nat}  {x0 : Nat} {x1 : Nat} {x2 : Nat} {x3 : Nat} {x4 : Nat} {Q : Int → Prop} {S : Shp} {F : Fl} {I : Il} (C : CO G RL cL_shows 8 X) (M : MX d (some .boolean) "shows" X) (hd : 14 ≤ d)  (h : V_L_shows_26 x0 x1 x2 x3 x4 S F I Q) : J G X (QD X G (qI fun z S' F' I' => S = S' ∧ F = F' ∧ I = I' ∧ Q z) noX) 26 [vr (some x0), vr (some x1), vr (some x2), vr (some x3), vr (some x4), vl 0, vl 0, vl 0] [] S F I := by
  unfold V_L_shows_26 at h
  refine J_iconst C dL_shows_26 (rg_of (by decide)) ?_
  exact S_L_shows_27 C M (by omega)  h
set_option maxRecDepth 20000 in
set_option maxHeartbeats 4000000 in
theorem S_L_shows {G : Gp} {X : Xt} {d : Nat}  {x0 : Nat} {x1 : Nat} {x2 : Nat} {x3 : Nat} {x4 : Nat} {Q : Int → Prop} {S : Shp} {F : Fl} {I : Il} (C : CO G RL cL_shows 8 X) (M : MX d (some .boolean) "shows" X) (hd : 14 ≤ d)  (h : V_L_shows x0 x1 x2 x3 x4 S F I Q) : J G X (QD X G (qI fun z S' F' I' => S = S' ∧ F = F' ∧ I = I' ∧ Q z) noX) 0 [vr (some x0), vr (some x1), vr (some x2), vr (some x3), vr (some x4), vl 0, vl 0, vl 0] [] S F I := by
  unfold V_L_shows at h
  obtain ⟨d, rfl⟩ : ∃ d9, d = d9 + 1 := ⟨d - 1, by omega⟩
  refine J_aload_n C dL_shows_0 rfl rfl ?_
  obtain ⟨hK1, h⟩ := h
  refine K_V C M [] [] mi_X8_clock wg_861 wg_862 wg_863 ⟨rfl, by decide⟩ dL_shows_1 hK1 rfl rfl (by decide) (Nat.le_of_ble_eq_true rfl) (c_X8_clock (C.2.2.2.2.2.2.2) (by omega) h) (fun v9 S' F' I' hq9 => ?_) K_no rfl
  clear h
  obtain ⟨z2, rfl, rfl, rfl, rfl, h⟩ := hq9
  refine J_aload C dL_shows_4 rfl ?_
  refine J_iconst C dL_shows_6 (rg_of (by decide)) ?_
  obtain ⟨hK3, h⟩ := h
  obtain ⟨h04, hn5, h⟩ := h
  refine J_iald C dL_shows_7 hK3 h04 hn5 ?_
  refine J_icmp_ne C dL_shows_8 (tgt := 26) rfl (fun c8 => ?_) (fun c8 => ?_)
  · have h := h.1 c8
    exact S_L_shows_26 C M (by omega)  h
  · have h := h.2 c8
    refine J_aload_n C dL_shows_11 rfl rfl ?_
    refine K_V C M [] [] mi_X8_cash wg_865 wg_866 wg_867 ⟨rfl, by decide⟩ dL_shows_12 hK1 rfl rfl (by decide) (Nat.le_of_ble_eq_true rfl) (c_X8_cash (C.2.2.2.2.2.2.2) (by omega) h) (fun v9 S' F' I' hq9 => ?_) K_no rfl
    clear h
    obtain ⟨z6, rfl, rfl, rfl, rfl, h⟩ := hq9
    refine J_aload C dL_shows_15 rfl ?_
    refine J_iconst C dL_shows_17 (rg_of (by decide)) ?_
    obtain ⟨h07, hn8, h⟩ := h
    refine J_iald C dL_shows_18 hK3 h07 hn8 ?_
    refine J_icmp_ne C dL_shows_19 (tgt := 26) rfl (fun c19 => ?_) (fun c19 => ?_)
    · have h := h.1 c19
      exact S_L_shows_26 C M (by omega)  h
    · have h := h.2 c19
      refine J_iconst C dL_shows_22 (rg_of (by decide)) ?_
      refine J_goto C dL_shows_23 (tgt := 27) rfl ?_
      exact S_L_shows_27 C M (by omega)  h
theorem c_L_shows {l : Launch} {G : Gp} {d : Nat} {x0 : Nat} {x1 : Nat} {x2 : Nat} {x3 : Nat} {x4 : Nat} {S : Shp} {F : Fl} {I : Il} {Q : Int → Prop} (hl : l.stackTraces = false) (hd : 14 ≤ d) (h : V_L_shows x0 x1 x2 x3 x4 S F I Q) : CM l G d yL_shows (.code yL_shows cL_shows 8 (some .boolean)) [vr (some x0), vr (some x1), vr (some x2), vr (some x3), vr (some x4)] S F I (qI fun z S' F' I' => S = S' ∧ F = F' ∧ I = I' ∧ Q z) noX :=
  CM_ofM [vr (some x0), vr (some x1), vr (some x2), vr (some x3), vr (some x4), vl 0, vl 0, vl 0] hl (by decide +kernel) (kn1 trivial (kn1 trivial (kn1 trivial (kn1 trivial (kn1 trivial kn0))))) (Nat.le_of_ble_eq_true rfl) rfl (fun X hX C M => S_L_shows C M hd h)
set_option maxRecDepth 20000 in
set_option maxHeartbeats 4000000 in
theorem S_L_law_1479 {G : Gp} {X : Xt} {d : Nat} {k551 : Nat → Nat → Nat → Nat → Nat → Int → Int → Shp → Fl → Il → Prop} {x1 : Nat} {x2 : Nat} {x3 : Nat} {x4 : Nat} {x5 : Nat} {x7 : Int} {s0 : Int} {Q : Int → Shp → Fl → Il → Prop} {S : Shp} {F : Fl} {I : Il} (C : CO G RL cL_law 15 X) (M : ML d (some .boolean) X) (hd : 15 ≤ d) (hk551 : ∀ (x1 : Nat) (x2 : Nat) (x3 : Nat) (x4 : Nat) (x5 : Nat) (x6 : Int) (x7 : Int) (S' : Shp) (F' : Fl) (I' : Il), k551 x1 x2 x3 x4 x5 x6 x7 S' F' I' → J G X (QD X G (qI fun z S' F' I' => Q z S' F' I') noX) 551 [vr (some (gX G)), vr (some x1), vr (some x2), vr (some x3), vr (some x4), vr (some x5), vi x6, vi x7, vl 0, vl 0, vl 0, vl 0, vl 0, vl 0, vl 0] [] S' F' I') (h : V_L_law_1479 G k551 x1 x2 x3 x4 x5 x7 s0 S F I Q) : J G X (QD X G (qI fun z S' F' I' => Q z S' F' I') noX) 1479 [vr (some (gX G)), vr (some x1), vr (some x2), vr (some x3), vr (some x4), vr (some x5), vl 0, vi x7, vl 0, vl 0, vl 0, vl 0, vl 0, vl 0, vl 0] [vi s0] S F I := by
  unfold V_L_law_1479 at h
  refine K_istore C [vr (some (gX G)), vr (some x1), vr (some x2), vr (some x3), vr (some x4), vr (some x5), vi s0, vi x7, vl 0, vl 0, vl 0, vl 0, vl 0, vl 0, vl 0] dL_law_1479 (Nat.le_of_ble_eq_true rfl) rfl ?_
  refine K_iinc C [vr (some (gX G)), vr (some x1), vr (some x2), vr (some x3), vr (some x4), vr (some x5), vi s0, vi (w32 (x7 + 1)), vl 0, vl 0, vl 0, vl 0, vl 0, vl 0, vl 0] dL_law_1481 rfl rfl ?_
  refine J_goto C dL_law_1484 (tgt := 551) rfl ?_
  exact hk551 x1 x2 x3 x4 x5 s0 (w32 (x7 + 1)) S F I h
set_option maxRecDepth 20000 in
set_option maxHeartbeats 4000000 in
theorem S_L_law_1478 {G : Gp} {X : Xt} {d : Nat} {k551 : Nat → Nat → Nat → Nat → Nat → Int → Int → Shp → Fl → Il → Prop} {x1 : Nat} {x2 : Nat} {x3 : Nat} {x4 : Nat} {x5 : Nat} {x7 : Int} {Q : Int → Shp → Fl → Il → Prop} {S : Shp} {F : Fl} {I : Il} (C : CO G RL cL_law 15 X) (M : ML d (some .boolean) X) (hd : 15 ≤ d) (hk551 : ∀ (x1 : Nat) (x2 : Nat) (x3 : Nat) (x4 : Nat) (x5 : Nat) (x6 : Int) (x7 : Int) (S' : Shp) (F' : Fl) (I' : Il), k551 x1 x2 x3 x4 x5 x6 x7 S' F' I' → J G X (QD X G (qI fun z S' F' I' => Q z S' F' I') noX) 551 [vr (some (gX G)), vr (some x1), vr (some x2), vr (some x3), vr (some x4), vr (some x5), vi x6, vi x7, vl 0, vl 0, vl 0, vl 0, vl 0, vl 0, vl 0] [] S' F' I') (h : V_L_law_1478 G k551 x1 x2 x3 x4 x5 x7 S F I Q) : J G X (QD X G (qI fun z S' F' I' => Q z S' F' I') noX) 1478 [vr (some (gX G)), vr (some x1), vr (some x2), vr (some x3), vr (some x4), vr (some x5), vl 0, vi x7, vl 0, vl 0, vl 0, vl 0, vl 0, vl 0, vl 0] [] S F I := by
  unfold V_L_law_1478 at h
  refine J_iconst C dL_law_1478 (rg_of (by decide)) ?_
  exact S_L_law_1479 C M (by omega) hk551 h
set_option maxRecDepth 20000 in
set_option maxHeartbeats 4000000 in
theorem S_L_law_1456 {G : Gp} {X : Xt} {d : Nat} {k551 : Nat → Nat → Nat → Nat → Nat → Int → Int → Shp → Fl → Il → Prop} {x1 : Nat} {x2 : Nat} {x3 : Nat} {x4 : Nat} {x5 : Nat} {x6 : Int} {x7 : Int} {Q : Int → Shp → Fl → Il → Prop} {S : Shp} {F : Fl} {I : Il} (C : CO G RL cL_law 15 X) (M : ML d (some .boolean) X) (hd : 15 ≤ d) (hk551 : ∀ (x1 : Nat) (x2 : Nat) (x3 : Nat) (x4 : Nat) (x5 : Nat) (x6 : Int) (x7 : Int) (S' : Shp) (F' : Fl) (I' : Il), k551 x1 x2 x3 x4 x5 x6 x7 S' F' I' → J G X (QD X G (qI fun z S' F' I' => Q z S' F' I') noX) 551 [vr (some (gX G)), vr (some x1), vr (some x2), vr (some x3), vr (some x4), vr (some x5), vi x6, vi x7, vl 0, vl 0, vl 0, vl 0, vl 0, vl 0, vl 0] [] S' F' I') (h : V_L_law_1456 G k551 x1 x2 x3 x4 x5 x6 x7 S F I Q) : J G X (QD X G (qI fun z S' F' I' => Q z S' F' I') noX) 1456 [vr (some (gX G)), vr (some x1), vr (some x2), vr (some x3), vr (some x4), vr (some x5), vi x6, vi x7, vl 0, vl 0, vl 0, vl 0, vl 0, vl 0, vl 0] [] S F I := by
  unfold V_L_law_1456 at h
  obtain ⟨d, rfl⟩ : ∃ d9, d = d9 + 1 := ⟨d - 1, by omega⟩
  refine J_iload C dL_law_1456 rfl ?_
  refine J_if_eq C dL_law_1458 (tgt := 1478) rfl (fun c1458 => ?_) (fun c1458 => ?_)
  · have h := h.1 c1458
    refine J_less [vr (some (gX G)), vr (some x1), vr (some x2), vr (some x3), vr (some x4), vr (some x5), vl 0, vi x7, vl 0, vl 0, vl 0, vl 0, vl 0, vl 0, vl 0] (by unfold lessL; simp [lessL]) ?_
    exact S_L_law_1478 C M (by omega) hk551 h
  · have h := h.2 c1458
    refine J_aload_n C dL_law_1461 rfl rfl ?_
    refine J_aload_n C dL_law_1462 rfl rfl ?_
    refine J_aload_n C dL_law_1463 rfl rfl ?_
    refine J_aload C dL_law_1464 rfl ?_
    refine J_aload C dL_law_1466 rfl ?_
    refine K_SH C M.1 M.2.1 [vr (some x1), vr (some x2), vr (some x3), vr (some x4), vr (some x5)] [] mi_L_shows wg_858 wg_859 dL_law_1468 rfl rfl (by decide) (Nat.le_of_ble_eq_true rfl) (c_L_shows (C.2.2.2.2.2.2.2) (by omega) h) (fun v9 S' F' I' hq9 => ?_) K_no rfl
    clear h
    obtain ⟨z1, rfl, rfl, rfl, rfl, h⟩ := hq9
    refine J_if_eq C dL_law_1471 (tgt := 1478) rfl (fun c1471 => ?_) (fun c1471 => ?_)
    · have h := h.1 c1471
      refine J_less [vr (some (gX G)), vr (some x1), vr (some x2), vr (some x3), vr (some x4), vr (some x5), vl 0, vi x7, vl 0, vl 0, vl 0, vl 0, vl 0, vl 0, vl 0] (by unfold lessL; simp [lessL]) ?_
      exact S_L_law_1478 C M (by omega) hk551 h
    · have h := h.2 c1471
      refine J_iconst C dL_law_1474 (rg_of (by decide)) ?_
      refine J_goto C dL_law_1475 (tgt := 1479) rfl ?_
      refine J_less [vr (some (gX G)), vr (some x1), vr (some x2), vr (some x3), vr (some x4), vr (some x5), vl 0, vi x7, vl 0, vl 0, vl 0, vl 0, vl 0, vl 0, vl 0] (by unfold lessL; simp [lessL]) ?_
      exact S_L_law_1479 C M (by omega) hk551 h
set_option maxRecDepth 20000 in
set_option maxHeartbeats 4000000 in
theorem S_L_law_1454 {G : Gp} {X : Xt} {d : Nat} {k551 : Nat → Nat → Nat → Nat → Nat → Int → Int → Shp → Fl → Il → Prop} {x1 : Nat} {x2 : Nat} {x3 : Nat} {x4 : Nat} {x5 : Nat} {x7 : Int} {s0 : Int} {Q : Int → Shp → Fl → Il → Prop} {S : Shp} {F : Fl} {I : Il} (C : CO G RL cL_law 15 X) (M : ML d (some .boolean) X) (hd : 15 ≤ d) (hk551 : ∀ (x1 : Nat) (x2 : Nat) (x3 : Nat) (x4 : Nat) (x5 : Nat) (x6 : Int) (x7 : Int) (S' : Shp) (F' : Fl) (I' : Il), k551 x1 x2 x3 x4 x5 x6 x7 S' F' I' → J G X (QD X G (qI fun z S' F' I' => Q z S' F' I') noX) 551 [vr (some (gX G)), vr (some x1), vr (some x2), vr (some x3), vr (some x4), vr (some x5), vi x6, vi x7, vl 0, vl 0, vl 0, vl 0, vl 0, vl 0, vl 0] [] S' F' I') (h : V_L_law_1454 G k551 x1 x2 x3 x4 x5 x7 s0 S F I Q) : J G X (QD X G (qI fun z S' F' I' => Q z S' F' I') noX) 1454 [vr (some (gX G)), vr (some x1), vr (some x2), vr (some x3), vr (some x4), vr (some x5), vl 0, vi x7, vl 0, vl 0, vl 0, vl 0, vl 0, vl 0, vl 0] [vi s0] S F I := by
  unfold V_L_law_1454 at h
  refine K_istore C [vr (some (gX G)), vr (some x1), vr (some x2), vr (some x3), vr (some x4), vr (some x5), vi s0, vi x7, vl 0, vl 0, vl 0, vl 0, vl 0, vl 0, vl 0] dL_law_1454 (Nat.le_of_ble_eq_true rfl) rfl ?_
  exact S_L_law_1456 C M (by omega) hk551 h
set_option maxRecDepth 20000 in
set_option maxHeartbeats 4000000 in
theorem S_L_law_1414 {G : Gp} {X : Xt} {d : Nat} {k551 : Nat → Nat → Nat → Nat → Nat → Int → Int → Shp → Fl → Il → Prop}  {Q : Int → Shp → Fl → Il → Prop} (C : CO G RL cL_law 15 X) (M : ML d (some .boolean) X) (hd : 15 ≤ d) (n9 : Nat) (hk551 : ∀ (x1 : Nat) (x2 : Nat) (x3 : Nat) (x4 : Nat) (x5 : Nat) (x6 : Int) (x7 : Int) (S' : Shp) (F' : Fl) (I' : Il), k551 x1 x2 x3 x4 x5 x6 x7 S' F' I' → J G X (QD X G (qI fun z S' F' I' => Q z S' F' I') noX) 551 [vr (some (gX G)), vr (some x1), vr (some x2), vr (some x3), vr (some x4), vr (some x5), vi x6, vi x7, vl 0, vl 0, vl 0, vl 0, vl 0, vl 0, vl 0] [] S' F' I') : ∀ (x1 : Nat) (x2 : Nat) (x3 : Nat) (x4 : Nat) (x5 : Nat) (x7 : Int) (x13 : Int) (x14 : Int) (S : Shp) (F : Fl) (I : Il), V_L_law_1414 G n9 k551 x1 x2 x3 x4 x5 x7 x13 x14 S F I Q → J G X (QD X G (qI fun z S' F' I' => Q z S' F' I') noX) 1414 [vr (some (gX G)), vr (some x1), vr (some x2), vr (some x3), vr (some x4), vr (some x5), vl 0, vi x7, vl 0, vl 0, vl 0, vl 0, vl 0, vi x13, vi x14] [] S F I := by
  obtain ⟨d, rfl⟩ : ∃ d9, d = d9 + 1 := ⟨d - 1, by omega⟩
  induction n9 with
  | zero => intro x1 x2 x3 x4 x5 x7 x13 x14 S F I h; exact h.elim
  | succ n ih =>
    intro x1 x2 x3 x4 x5 x7 x13 x14 S F I h
    unfold V_L_law_1414 at h
    refine J_iload C dL_law_1414 rfl ?_
    refine J_iload C dL_law_1416 rfl ?_
    refine J_icmp_ge C dL_law_1418 (tgt := 1436) rfl (fun c1418 => ?_) (fun c1418 => ?_)
    · have h := h.1 c1418
      refine J_aload_n C dL_law_1436 rfl rfl ?_
      refine J_iload C dL_law_1437 rfl ?_
      obtain ⟨hK1, h⟩ := h
      refine K_VH C M.1 M.2.1 [vi x13] [] mi_X8_run wg_657 wg_658 wg_659 ⟨rfl, by decide⟩ dL_law_1439 hK1 rfl rfl (by decide) (Nat.le_of_ble_eq_true rfl) (c_X8_run (C.2.2.2.2.2.2.2) (by omega) h) (fun v9 S' F3 I4 hq9 => ?_) K_no rfl
      clear h
      obtain ⟨z2, rfl, rfl, h⟩ := hq9
      refine J_aload C dL_law_1442 rfl ?_
      refine J_iconst C dL_law_1444 (rg_of (by decide)) ?_
      obtain ⟨hK5, h⟩ := h
      obtain ⟨h06, hn7, h⟩ := h
      refine J_iald C dL_law_1445 hK5 h06 hn7 ?_
      refine J_icmp_ne C dL_law_1446 (tgt := 1453) rfl (fun c1446 => ?_) (fun c1446 => ?_)
      · have h := h.1 c1446
        refine J_iconst C dL_law_1453 (rg_of (by decide)) ?_
        refine J_less [vr (some (gX G)), vr (some x1), vr (some x2), vr (some x3), vr (some x4), vr (some x5), vl 0, vi x7, vl 0, vl 0, vl 0, vl 0, vl 0, vl 0, vl 0] (by unfold lessL; simp [lessL]) ?_
        exact S_L_law_1454 C M (by omega) hk551 h
      · have h := h.2 c1446
        refine J_iconst C dL_law_1449 (rg_of (by decide)) ?_
        refine J_goto C dL_law_1450 (tgt := 1454) rfl ?_
        refine J_less [vr (some (gX G)), vr (some x1), vr (some x2), vr (some x3), vr (some x4), vr (some x5), vl 0, vi x7, vl 0, vl 0, vl 0, vl 0, vl 0, vl 0, vl 0] (by unfold lessL; simp [lessL]) ?_
        exact S_L_law_1454 C M (by omega) hk551 h
    · have h := h.2 c1418
      refine J_aload_n C dL_law_1421 rfl rfl ?_
      refine J_aload_n C dL_law_1422 rfl rfl ?_
      refine J_aload C dL_law_1423 rfl ?_
      refine J_aload C dL_law_1425 rfl ?_
      refine K_SH C M.1 M.2.1 [vr (some x2), vr (some x3), vr (some x4), vr (some x5)] [] mi_L_minute wg_843 wg_844 dL_law_1427 rfl rfl (by decide) (Nat.le_of_ble_eq_true rfl) (c_L_minute (C.2.2.2.2.2.2.2) (by omega) h) (fun v9 S' F' I8 hq9 => ?_) K_no rfl
      clear h
      obtain ⟨rfl, rfl, rfl, h⟩ := hq9
      refine K_iinc C [vr (some (gX G)), vr (some x1), vr (some x2), vr (some x3), vr (some x4), vr (some x5), vl 0, vi x7, vl 0, vl 0, vl 0, vl 0, vl 0, vi x13, vi (w32 (x14 + 1))] dL_law_1430 rfl rfl ?_
      refine J_goto C dL_law_1433 (tgt := 1414) rfl ?_
      exact ih _ _ _ _ _ _ _ _ _ _ _ h
set_option maxRecDepth 20000 in
set_option maxHeartbeats 4000000 in
theorem S_L_law_1400 {G : Gp} {X : Xt} {d : Nat} {k551 : Nat → Nat → Nat → Nat → Nat → Int → Int → Shp → Fl → Il → Prop} {x1 : Nat} {x2 : Nat} {x3 : Nat} {x4 : Nat} {x5 : Nat} {x7 : Int} {s0 : Int} {s1 : Int} {s2 : Int} {Q : Int → Shp → Fl → Il → Prop} {S : Shp} {F : Fl} {I : Il} (C : CO G RL cL_law 15 X) (M : ML d (some .boolean) X) (hd : 15 ≤ d) (hk551 : ∀ (x1 : Nat) (x2 : Nat) (x3 : Nat) (x4 : Nat) (x5 : Nat) (x6 : Int) (x7 : Int) (S' : Shp) (F' : Fl) (I' : Il), k551 x1 x2 x3 x4 x5 x6 x7 S' F' I' → J G X (QD X G (qI fun z S' F' I' => Q z S' F' I') noX) 551 [vr (some (gX G)), vr (some x1), vr (some x2), vr (some x3), vr (some x4), vr (some x5), vi x6, vi x7, vl 0, vl 0, vl 0, vl 0, vl 0, vl 0, vl 0] [] S' F' I') (h : V_L_law_1400 G k551 x1 x2 x3 x4 x5 x7 s0 s1 s2 S F I Q) : J G X (QD X G (qI fun z S' F' I' => Q z S' F' I') noX) 1400 [vr (some (gX G)), vr (some x1), vr (some x2), vr (some x3), vr (some x4), vr (some x5), vl 0, vi x7, vl 0, vl 0, vl 0, vl 0, vl 0, vl 0, vl 0] [vi s0, vi s1, vi s2] S F I := by
  unfold V_L_law_1400 at h
  obtain ⟨d, rfl⟩ : ∃ d9, d = d9 + 1 := ⟨d - 1, by omega⟩
  refine K_SH C M.1 M.2.1 [vi s1, vi s0] [vi s2] mi_L_low wg_766 wg_767 dL_law_1400 rfl rfl (by decide) (Nat.le_of_ble_eq_true rfl) (c_L_low (C.2.2.2.2.2.2.2) (by omega) h) (fun v9 S' F' I' hq9 => ?_) K_no rfl
  clear h
  obtain ⟨z1, rfl, rfl, rfl, rfl, h⟩ := hq9
  refine J_iadd C dL_law_1403 ?_
  have h := h _ rfl
  refine K_istore C [vr (some (gX G)), vr (some x1), vr (some x2), vr (some x3), vr (some x4), vr (some x5), vl 0, vi x7, vl 0, vl 0, vl 0, vl 0, vl 0, vi (w32 (s2 + z1)), vl 0] dL_law_1404 (Nat.le_of_ble_eq_true rfl) rfl ?_
  refine J_aload C dL_law_1406 rfl ?_
  refine J_iconst C dL_law_1408 (rg_of (by decide)) ?_
  refine J_iconst C dL_law_1409 (rg_of (by decide)) ?_
  obtain ⟨hK3, h⟩ := h
  obtain ⟨h04, hn5, h⟩ := h
  have h := h _ rfl
  refine J_iast C dL_law_1410 hK3 h04 hn5 ?_
  refine J_iconst C dL_law_1411 (rg_of (by decide)) ?_
  refine K_istore C [vr (some (gX G)), vr (some x1), vr (some x2), vr (some x3), vr (some x4), vr (some x5), vl 0, vi x7, vl 0, vl 0, vl 0, vl 0, vl 0, vi (w32 (s2 + z1)), vi 0] dL_law_1412 (Nat.le_of_ble_eq_true rfl) rfl ?_
  obtain ⟨n9, h⟩ := h
  exact S_L_law_1414 C M (by omega) n9 hk551 _ _ _ _ _ _ _ _ _ _ _ h
set_option maxRecDepth 20000 in
set_option maxHeartbeats 4000000 in
theorem S_L_law_1373 {G : Gp} {X : Xt} {d : Nat} {k551 : Nat → Nat → Nat → Nat → Nat → Int → Int → Shp → Fl → Il → Prop} {x1 : Nat} {x2 : Nat} {x3 : Nat} {x4 : Nat} {x5 : Nat} {x7 : Int} {x8 : Int} {Q : Int → Shp → Fl → Il → Prop} {S : Shp} {F : Fl} {I : Il} (C : CO G RL cL_law 15 X) (M : ML d (some .boolean) X) (hd : 15 ≤ d) (hk551 : ∀ (x1 : Nat) (x2 : Nat) (x3 : Nat) (x4 : Nat) (x5 : Nat) (x6 : Int) (x7 : Int) (S' : Shp) (F' : Fl) (I' : Il), k551 x1 x2 x3 x4 x5 x6 x7 S' F' I' → J G X (QD X G (qI fun z S' F' I' => Q z S' F' I') noX) 551 [vr (some (gX G)), vr (some x1), vr (some x2), vr (some x3), vr (some x4), vr (some x5), vi x6, vi x7, vl 0, vl 0, vl 0, vl 0, vl 0, vl 0, vl 0] [] S' F' I') (h : V_L_law_1373 G k551 x1 x2 x3 x4 x5 x7 x8 S F I Q) : J G X (QD X G (qI fun z S' F' I' => Q z S' F' I') noX) 1373 [vr (some (gX G)), vr (some x1), vr (some x2), vr (some x3), vr (some x4), vr (some x5), vl 0, vi x7, vi x8, vl 0, vl 0, vl 0, vl 0, vl 0, vl 0] [] S F I := by
  unfold V_L_law_1373 at h
  obtain ⟨d, rfl⟩ : ∃ d9, d = d9 + 1 := ⟨d - 1, by omega⟩
  refine J_iconst C dL_law_1373 (rg_of (by decide)) ?_
  refine J_iload C dL_law_1374 rfl ?_
  refine J_bipush C dL_law_1376 (by decide +kernel) (rg_of (by decide)) ?_
  refine J_ishr C dL_law_1378 ?_
  refine J_iload C dL_law_1379 rfl ?_
  refine J_bipush C dL_law_1381 (by decide +kernel) (rg_of (by decide)) ?_
  refine J_ishr C dL_law_1383 ?_
  refine J_bipush C dL_law_1384 (by decide +kernel) (rg_of (by decide)) ?_
  refine K_SH C M.1 M.2.1 [vi (ishr x8 13), vi 8] [vi (ishr x8 8), vi 1] mi_L_low wg_766 wg_767 dL_law_1386 rfl rfl (by decide) (Nat.le_of_ble_eq_true rfl) (c_L_low (C.2.2.2.2.2.2.2) (by omega) h) (fun v9 S' F' I' hq9 => ?_) K_no rfl
  clear h
  obtain ⟨z1, rfl, rfl, rfl, rfl, h⟩ := hq9
  refine J_if_ne C dL_law_1389 (tgt := 1398) rfl (fun c1389 => ?_) (fun c1389 => ?_)
  · have h := h.1 c1389
    refine J_bipush C dL_law_1398 (by decide +kernel) (rg_of (by decide)) ?_
    refine J_less [vr (some (gX G)), vr (some x1), vr (some x2), vr (some x3), vr (some x4), vr (some x5), vl 0, vi x7, vl 0, vl 0, vl 0, vl 0, vl 0, vl 0, vl 0] (by unfold lessL; simp [lessL]) ?_
    exact S_L_law_1400 C M (by omega) hk551 h
  · have h := h.2 c1389
    refine J_sipush C dL_law_1392 (by decide +kernel) (rg_of (by decide)) ?_
    refine J_goto C dL_law_1395 (tgt := 1400) rfl ?_
    refine J_less [vr (some (gX G)), vr (some x1), vr (some x2), vr (some x3), vr (some x4), vr (some x5), vl 0, vi x7, vl 0, vl 0, vl 0, vl 0, vl 0, vl 0, vl 0] (by unfold lessL; simp [lessL]) ?_
    exact S_L_law_1400 C M (by omega) hk551 h
set_option maxRecDepth 20000 in
set_option maxHeartbeats 4000000 in
theorem S_L_law_1370 {G : Gp} {X : Xt} {d : Nat} {k551 : Nat → Nat → Nat → Nat → Nat → Int → Int → Shp → Fl → Il → Prop} {x1 : Nat} {x2 : Nat} {x3 : Nat} {x4 : Nat} {x5 : Nat} {x6 : Int} {x7 : Int} {Q : Int → Shp → Fl → Il → Prop} {S : Shp} {F : Fl} {I : Il} (C : CO G RL cL_law 15 X) (M : ML d (some .boolean) X) (hd : 15 ≤ d) (hk551 : ∀ (x1 : Nat) (x2 : Nat) (x3 : Nat) (x4 : Nat) (x5 : Nat) (x6 : Int) (x7 : Int) (S' : Shp) (F' : Fl) (I' : Il), k551 x1 x2 x3 x4 x5 x6 x7 S' F' I' → J G X (QD X G (qI fun z S' F' I' => Q z S' F' I') noX) 551 [vr (some (gX G)), vr (some x1), vr (some x2), vr (some x3), vr (some x4), vr (some x5), vi x6, vi x7, vl 0, vl 0, vl 0, vl 0, vl 0, vl 0, vl 0] [] S' F' I') (h : V_L_law_1370 G k551 x1 x2 x3 x4 x5 x6 x7 S F I Q) : J G X (QD X G (qI fun z S' F' I' => Q z S' F' I') noX) 1370 [vr (some (gX G)), vr (some x1), vr (some x2), vr (some x3), vr (some x4), vr (some x5), vi x6, vi x7, vl 0, vl 0, vl 0, vl 0, vl 0, vl 0, vl 0] [] S F I := by
  unfold V_L_law_1370 at h
  refine J_goto C dL_law_1370 (tgt := 1456) rfl ?_
  exact S_L_law_1456 C M (by omega) hk551 h
set_option maxRecDepth 20000 in
set_option maxHeartbeats 4000000 in
theorem S_L_law_1294 {G : Gp} {X : Xt} {d : Nat} {k551 : Nat → Nat → Nat → Nat → Nat → Int → Int → Shp → Fl → Il → Prop} {x1 : Nat} {x2 : Nat} {x3 : Nat} {x4 : Nat} {x5 : Nat} {x6 : Int} {x7 : Int} {s0 : Int} {s1 : Int} {s2 : Nat} {Q : Int → Shp → Fl → Il → Prop} {S : Shp} {F : Fl} {I : Il} (C : CO G RL cL_law 15 X) (M : ML d (some .boolean) X) (hd : 15 ≤ d) (hk551 : ∀ (x1 : Nat) (x2 : Nat) (x3 : Nat) (x4 : Nat) (x5 : Nat) (x6 : Int) (x7 : Int) (S' : Shp) (F' : Fl) (I' : Il), k551 x1 x2 x3 x4 x5 x6 x7 S' F' I' → J G X (QD X G (qI fun z S' F' I' => Q z S' F' I') noX) 551 [vr (some (gX G)), vr (some x1), vr (some x2), vr (some x3), vr (some x4), vr (some x5), vi x6, vi x7, vl 0, vl 0, vl 0, vl 0, vl 0, vl 0, vl 0] [] S' F' I') (h : V_L_law_1294 G k551 x1 x2 x3 x4 x5 x6 x7 s0 s1 s2 S F I Q) : J G X (QD X G (qI fun z S' F' I' => Q z S' F' I') noX) 1294 [vr (some (gX G)), vr (some x1), vr (some x2), vr (some x3), vr (some x4), vr (some x5), vi x6, vi x7, vl 0, vl 0, vl 0, vl 0, vl 0, vl 0, vl 0] [vi s0, vi s1, vr (some s2)] S F I := by
  unfold V_L_law_1294 at h
  obtain ⟨hK1, h⟩ := h
  obtain ⟨h02, hn3, h⟩ := h
  have h := h _ rfl
  refine J_iast C dL_law_1294 hK1 h02 hn3 ?_
  refine J_goto C dL_law_1295 (tgt := 1456) rfl ?_
  exact S_L_law_1456 C M (by omega) hk551 h
set_option maxRecDepth 20000 in
set_option maxHeartbeats 4000000 in
theorem S_L_law_1269 {G : Gp} {X : Xt} {d : Nat} {k551 : Nat → Nat → Nat → Nat → Nat → Int → Int → Shp → Fl → Il → Prop} {x1 : Nat} {x2 : Nat} {x3 : Nat} {x4 : Nat} {x5 : Nat} {x7 : Int} {x12 : Int} {x13 : Int} {x14 : Int} {s0 : Int} {Q : Int → Shp → Fl → Il → Prop} {S : Shp} {F : Fl} {I : Il} (C : CO G RL cL_law 15 X) (M : ML d (some .boolean) X) (hd : 15 ≤ d) (hk551 : ∀ (x1 : Nat) (x2 : Nat) (x3 : Nat) (x4 : Nat) (x5 : Nat) (x6 : Int) (x7 : Int) (S' : Shp) (F' : Fl) (I' : Il), k551 x1 x2 x3 x4 x5 x6 x7 S' F' I' → J G X (QD X G (qI fun z S' F' I' => Q z S' F' I') noX) 551 [vr (some (gX G)), vr (some x1), vr (some x2), vr (some x3), vr (some x4), vr (some x5), vi x6, vi x7, vl 0, vl 0, vl 0, vl 0, vl 0, vl 0, vl 0] [] S' F' I') (h : V_L_law_1269 G k551 x1 x2 x3 x4 x5 x7 x12 x13 x14 s0 S F I Q) : J G X (QD X G (qI fun z S' F' I' => Q z S' F' I') noX) 1269 [vr (some (gX G)), vr (some x1), vr (some x2), vr (some x3), vr (some x4), vr (some x5), vl 0, vi x7, vl 0, vl 0, vl 0, vl 0, vi x12, vi x13, vi x14] [vi s0] S F I := by
  unfold V_L_law_1269 at h
  refine K_istore C [vr (some (gX G)), vr (some x1), vr (some x2), vr (some x3), vr (some x4), vr (some x5), vi s0, vi x7, vl 0, vl 0, vl 0, vl 0, vi x12, vi x13, vi x14] dL_law_1269 (Nat.le_of_ble_eq_true rfl) rfl ?_
  refine J_aload C dL_law_1271 rfl ?_
  refine J_iconst C dL_law_1273 (rg_of (by decide)) ?_
  refine J_iload C dL_law_1274 rfl ?_
  refine J_iadd C dL_law_1276 ?_
  refine J_iload C dL_law_1277 rfl ?_
  refine J_if_eq C dL_law_1279 (tgt := 1287) rfl (fun c1279 => ?_) (fun c1279 => ?_)
  · have h := h.1 c1279
    refine J_aload C dL_law_1287 rfl ?_
    refine J_iconst C dL_law_1289 (rg_of (by decide)) ?_
    refine J_iload C dL_law_1290 rfl ?_
    refine J_iadd C dL_law_1292 ?_
    obtain ⟨hK1, h⟩ := h
    obtain ⟨h02, hn3, h⟩ := h
    refine J_iald C dL_law_1293 hK1 h02 hn3 ?_
    refine J_less [vr (some (gX G)), vr (some x1), vr (some x2), vr (some x3), vr (some x4), vr (some x5), vi s0, vi x7, vl 0, vl 0, vl 0, vl 0, vl 0, vl 0, vl 0] (by unfold lessL; simp [lessL]) ?_
    exact S_L_law_1294 C M (by omega) hk551 h
  · have h := h.2 c1279
    refine J_iload C dL_law_1282 rfl ?_
    refine J_goto C dL_law_1284 (tgt := 1294) rfl ?_
    refine J_less [vr (some (gX G)), vr (some x1), vr (some x2), vr (some x3), vr (some x4), vr (some x5), vi s0, vi x7, vl 0, vl 0, vl 0, vl 0, vl 0, vl 0, vl 0] (by unfold lessL; simp [lessL]) ?_
    exact S_L_law_1294 C M (by omega) hk551 h
set_option maxRecDepth 20000 in
set_option maxHeartbeats 4000000 in
theorem S_L_law_1261 {G : Gp} {X : Xt} {d : Nat} {k551 : Nat → Nat → Nat → Nat → Nat → Int → Int → Shp → Fl → Il → Prop} {x1 : Nat} {x2 : Nat} {x3 : Nat} {x4 : Nat} {x5 : Nat} {x7 : Int} {x12 : Int} {x13 : Int} {x14 : Int} {s0 : Int} {s1 : Int} {Q : Int → Shp → Fl → Il → Prop} {S : Shp} {F : Fl} {I : Il} (C : CO G RL cL_law 15 X) (M : ML d (some .boolean) X) (hd : 15 ≤ d) (hk551 : ∀ (x1 : Nat) (x2 : Nat) (x3 : Nat) (x4 : Nat) (x5 : Nat) (x6 : Int) (x7 : Int) (S' : Shp) (F' : Fl) (I' : Il), k551 x1 x2 x3 x4 x5 x6 x7 S' F' I' → J G X (QD X G (qI fun z S' F' I' => Q z S' F' I') noX) 551 [vr (some (gX G)), vr (some x1), vr (some x2), vr (some x3), vr (some x4), vr (some x5), vi x6, vi x7, vl 0, vl 0, vl 0, vl 0, vl 0, vl 0, vl 0] [] S' F' I') (h : V_L_law_1261 G k551 x1 x2 x3 x4 x5 x7 x12 x13 x14 s0 s1 S F I Q) : J G X (QD X G (qI fun z S' F' I' => Q z S' F' I') noX) 1261 [vr (some (gX G)), vr (some x1), vr (some x2), vr (some x3), vr (some x4), vr (some x5), vl 0, vi x7, vl 0, vl 0, vl 0, vl 0, vi x12, vi x13, vi x14] [vi s0, vi s1] S F I := by
  unfold V_L_law_1261 at h
  refine J_icmp_ne C dL_law_1261 (tgt := 1268) rfl (fun c1261 => ?_) (fun c1261 => ?_)
  · have h := h.1 c1261
    refine J_iconst C dL_law_1268 (rg_of (by decide)) ?_
    exact S_L_law_1269 C M (by omega) hk551 h
  · have h := h.2 c1261
    refine J_iconst C dL_law_1264 (rg_of (by decide)) ?_
    refine J_goto C dL_law_1265 (tgt := 1269) rfl ?_
    exact S_L_law_1269 C M (by omega) hk551 h
set_option maxRecDepth 20000 in
set_option maxHeartbeats 4000000 in
theorem S_L_law_1231 {G : Gp} {X : Xt} {d : Nat} {k551 : Nat → Nat → Nat → Nat → Nat → Int → Int → Shp → Fl → Il → Prop} {x1 : Nat} {x2 : Nat} {x3 : Nat} {x4 : Nat} {x5 : Nat} {x7 : Int} {x12 : Int} {x13 : Int} {s0 : Int} {Q : Int → Shp → Fl → Il → Prop} {S : Shp} {F : Fl} {I : Il} (C : CO G RL cL_law 15 X) (M : ML d (some .boolean) X) (hd : 15 ≤ d) (hk551 : ∀ (x1 : Nat) (x2 : Nat) (x3 : Nat) (x4 : Nat) (x5 : Nat) (x6 : Int) (x7 : Int) (S' : Shp) (F' : Fl) (I' : Il), k551 x1 x2 x3 x4 x5 x6 x7 S' F' I' → J G X (QD X G (qI fun z S' F' I' => Q z S' F' I') noX) 551 [vr (some (gX G)), vr (some x1), vr (some x2), vr (some x3), vr (some x4), vr (some x5), vi x6, vi x7, vl 0, vl 0, vl 0, vl 0, vl 0, vl 0, vl 0] [] S' F' I') (h : V_L_law_1231 G k551 x1 x2 x3 x4 x5 x7 x12 x13 s0 S F I Q) : J G X (QD X G (qI fun z S' F' I' => Q z S' F' I') noX) 1231 [vr (some (gX G)), vr (some x1), vr (some x2), vr (some x3), vr (some x4), vr (some x5), vl 0, vi x7, vl 0, vl 0, vl 0, vl 0, vi x12, vi x13, vl 0] [vi s0] S F I := by
  unfold V_L_law_1231 at h
  obtain ⟨d, rfl⟩ : ∃ d9, d = d9 + 1 := ⟨d - 1, by omega⟩
  refine K_istore C [vr (some (gX G)), vr (some x1), vr (some x2), vr (some x3), vr (some x4), vr (some x5), vl 0, vi x7, vl 0, vl 0, vl 0, vl 0, vi x12, vi x13, vi s0] dL_law_1231 (Nat.le_of_ble_eq_true rfl) rfl ?_
  refine J_aload_n C dL_law_1233 rfl rfl ?_
  refine J_iconst C dL_law_1234 (rg_of (by decide)) ?_
  refine J_iload C dL_law_1235 rfl ?_
  refine J_iload C dL_law_1237 rfl ?_
  refine J_iconst C dL_law_1239 (rg_of (by decide)) ?_
  refine K_SW C M.1 M.2.1 [vr (some x1), vi 4, vi x12, vi x13, vi 0] [] miw_L_calls wg_770 wg_771 dL_law_1240 rfl rfl (by decide) (Nat.le_of_ble_eq_true rfl) (c_L_calls (C.2.2.2.2.2.2.2) (by omega) h) (fun v9 S2 F3 I4 hq9 => ?_) rfl
  clear h
  obtain ⟨z1, rfl, h⟩ := hq9
  refine J_iload C dL_law_1243 rfl ?_
  refine J_if_eq C dL_law_1245 (tgt := 1258) rfl (fun c1245 => ?_) (fun c1245 => ?_)
  · have h := h.1 c1245
    refine J_sipush C dL_law_1258 (by decide +kernel) (rg_of (by decide)) ?_
    exact S_L_law_1261 C M (by omega) hk551 h
  · have h := h.2 c1245
    refine J_aload C dL_law_1248 rfl ?_
    refine J_iconst C dL_law_1250 (rg_of (by decide)) ?_
    refine J_iload C dL_law_1251 rfl ?_
    refine J_iadd C dL_law_1253 ?_
    obtain ⟨hK5, h⟩ := h
    obtain ⟨h06, hn7, h⟩ := h
    refine J_iald C dL_law_1254 hK5 h06 hn7 ?_
    refine J_goto C dL_law_1255 (tgt := 1261) rfl ?_
    exact S_L_law_1261 C M (by omega) hk551 h
set_option maxRecDepth 20000 in
set_option maxHeartbeats 4000000 in
theorem S_L_law_1195 {G : Gp} {X : Xt} {d : Nat} {k551 : Nat → Nat → Nat → Nat → Nat → Int → Int → Shp → Fl → Il → Prop} {x1 : Nat} {x2 : Nat} {x3 : Nat} {x4 : Nat} {x5 : Nat} {x6 : Int} {x7 : Int} {x8 : Int} {x9 : Int} {x10 : Int} {x11 : Int} {x12 : Int} {Q : Int → Shp → Fl → Il → Prop} {S : Shp} {F : Fl} {I : Il} (C : CO G RL cL_law 15 X) (M : ML d (some .boolean) X) (hd : 15 ≤ d) (hk551 : ∀ (x1 : Nat) (x2 : Nat) (x3 : Nat) (x4 : Nat) (x5 : Nat) (x6 : Int) (x7 : Int) (S' : Shp) (F' : Fl) (I' : Il), k551 x1 x2 x3 x4 x5 x6 x7 S' F' I' → J G X (QD X G (qI fun z S' F' I' => Q z S' F' I') noX) 551 [vr (some (gX G)), vr (some x1), vr (some x2), vr (some x3), vr (some x4), vr (some x5), vi x6, vi x7, vl 0, vl 0, vl 0, vl 0, vl 0, vl 0, vl 0] [] S' F' I') (h : V_L_law_1195 G k551 x1 x2 x3 x4 x5 x6 x7 x8 x9 x10 x11 x12 S F I Q) : J G X (QD X G (qI fun z S' F' I' => Q z S' F' I') noX) 1195 [vr (some (gX G)), vr (some x1), vr (some x2), vr (some x3), vr (some x4), vr (some x5), vi x6, vi x7, vi x8, vi x9, vi x10, vi x11, vi x12, vl 0, vl 0] [] S F I := by
  unfold V_L_law_1195 at h
  obtain ⟨d, rfl⟩ : ∃ d9, d = d9 + 1 := ⟨d - 1, by omega⟩
  refine J_iload C dL_law_1195 rfl ?_
  refine J_bipush C dL_law_1197 (by decide +kernel) (rg_of (by decide)) ?_
  refine J_icmp_ne C dL_law_1199 (tgt := 1298) rfl (fun c1199 => ?_) (fun c1199 => ?_)
  · have h := h.1 c1199
    refine J_iload C dL_law_1298 rfl ?_
    refine J_bipush C dL_law_1300 (by decide +kernel) (rg_of (by decide)) ?_
    refine J_icmp_ne C dL_law_1302 (tgt := 1373) rfl (fun c1302 => ?_) (fun c1302 => ?_)
    · have h := h.1 c1302
      refine J_less [vr (some (gX G)), vr (some x1), vr (some x2), vr (some x3), vr (some x4), vr (some x5), vl 0, vi x7, vi x8, vl 0, vl 0, vl 0, vl 0, vl 0, vl 0] (by unfold lessL; simp [lessL]) ?_
      exact S_L_law_1373 C M (by omega) hk551 h
    · have h := h.2 c1302
      refine J_aload_n C dL_law_1305 rfl rfl ?_
      refine J_iload C dL_law_1306 rfl ?_
      obtain ⟨hK1, h⟩ := h
      obtain ⟨h02, hn3, h⟩ := h
      refine J_iald C dL_law_1308 hK1 h02 hn3 ?_
      refine J_iconst C dL_law_1309 (rg_of (by decide)) ?_
      refine J_icmp_ne C dL_law_1310 (tgt := 1373) rfl (fun c1310 => ?_) (fun c1310 => ?_)
      · have h := h.1 c1310
        refine J_less [vr (some (gX G)), vr (some x1), vr (some x2), vr (some x3), vr (some x4), vr (some x5), vl 0, vi x7, vi x8, vl 0, vl 0, vl 0, vl 0, vl 0, vl 0] (by unfold lessL; simp [lessL]) ?_
        exact S_L_law_1373 C M (by omega) hk551 h
      · have h := h.2 c1310
        refine J_iload C dL_law_1313 rfl ?_
        refine J_iconst C dL_law_1315 (rg_of (by decide)) ?_
        refine J_iadd C dL_law_1316 ?_
        refine J_iload C dL_law_1317 rfl ?_
        refine J_bipush C dL_law_1319 (by decide +kernel) (rg_of (by decide)) ?_
        refine J_ishr C dL_law_1321 ?_
        refine J_iconst C dL_law_1322 (rg_of (by decide)) ?_
        refine K_SH C M.1 M.2.1 [vi (ishr x8 8), vi 2] [vi (w32 (x10 + 1))] mi_L_low wg_766 wg_767 dL_law_1323 rfl rfl (by decide) (Nat.le_of_ble_eq_true rfl) (c_L_low (C.2.2.2.2.2.2.2) (by omega) h) (fun v9 S' F' I' hq9 => ?_) K_no rfl
        clear h
        obtain ⟨z4, rfl, rfl, rfl, rfl, h⟩ := hq9
        refine J_iadd C dL_law_1326 ?_
        refine J_iconst C dL_law_1327 (rg_of (by decide)) ?_
        refine J_irem C dL_law_1328 (by decide) ?_
        have h := h _ rfl
        refine K_istore C [vr (some (gX G)), vr (some x1), vr (some x2), vr (some x3), vr (some x4), vr (some x5), vi x6, vi x7, vi x8, vi x9, vi x10, vi x11, vi x12, vi (w32 (Int.tmod (w32 ((w32 (x10 + 1)) + z4)) 3)), vl 0] dL_law_1329 (Nat.le_of_ble_eq_true rfl) rfl ?_
        refine J_aload_n C dL_law_1331 rfl rfl ?_
        refine J_bipush C dL_law_1332 (by decide +kernel) (rg_of (by decide)) ?_
        refine J_iload C dL_law_1334 rfl ?_
        refine J_imul C dL_law_1336 ?_
        obtain ⟨h06, hn7, h⟩ := h
        refine J_iald C dL_law_1337 hK1 h06 hn7 ?_
        refine J_iconst C dL_law_1338 (rg_of (by decide)) ?_
        refine J_icmp_ne C dL_law_1339 (tgt := 1370) rfl (fun c1339 => ?_) (fun c1339 => ?_)
        · have h := h.1 c1339
          refine J_less [vr (some (gX G)), vr (some x1), vr (some x2), vr (some x3), vr (some x4), vr (some x5), vi x6, vi x7, vl 0, vl 0, vl 0, vl 0, vl 0, vl 0, vl 0] (by unfold lessL; simp [lessL]) ?_
          exact S_L_law_1370 C M (by omega) hk551 h
        · have h := h.2 c1339
          refine J_aload_n C dL_law_1342 rfl rfl ?_
          refine J_iload C dL_law_1343 rfl ?_
          refine J_iload C dL_law_1345 rfl ?_
          refine J_iload C dL_law_1347 rfl ?_
          obtain ⟨hK8, h⟩ := h
          refine K_VH C M.1 M.2.1 [vi x10, vi (w32 (Int.tmod (w32 ((w32 (x10 + 1)) + z4)) 3)), vi x12] [] mi_X8_await wg_644 wg_645 wg_646 ⟨rfl, by decide⟩ dL_law_1349 hK8 rfl rfl (by decide) (Nat.le_of_ble_eq_true rfl) (c_X8_await (C.2.2.2.2.2.2.2) (by omega) h) (fun v9 S' F9 I' hq9 => ?_) K_no rfl
          clear h
          obtain ⟨rfl, rfl, rfl, h⟩ := hq9
          refine J_aload_n C dL_law_1352 rfl rfl ?_
          refine J_iload C dL_law_1353 rfl ?_
          refine J_bipush C dL_law_1355 (by decide +kernel) (rg_of (by decide)) ?_
          refine J_iadd C dL_law_1357 ?_
          refine J_iload C dL_law_1358 rfl ?_
          obtain ⟨h010, hn11, h⟩ := h
          have h := h _ rfl
          refine J_iast C dL_law_1360 hK1 h010 hn11 ?_
          refine J_aload_n C dL_law_1361 rfl rfl ?_
          refine J_iload C dL_law_1362 rfl ?_
          refine J_bipush C dL_law_1364 (by decide +kernel) (rg_of (by decide)) ?_
          refine J_iadd C dL_law_1366 ?_
          refine J_iload C dL_law_1367 rfl ?_
          obtain ⟨h013, hn14, h⟩ := h
          have h := h _ rfl
          refine J_iast C dL_law_1369 hK1 h013 hn14 ?_
          refine J_less [vr (some (gX G)), vr (some x1), vr (some x2), vr (some x3), vr (some x4), vr (some x5), vi x6, vi x7, vl 0, vl 0, vl 0, vl 0, vl 0, vl 0, vl 0] (by unfold lessL; simp [lessL]) ?_
          exact S_L_law_1370 C M (by omega) hk551 h
  · have h := h.2 c1199
    refine J_iconst C dL_law_1202 (rg_of (by decide)) ?_
    refine J_iload C dL_law_1203 rfl ?_
    refine J_bipush C dL_law_1205 (by decide +kernel) (rg_of (by decide)) ?_
    refine J_ishr C dL_law_1207 ?_
    refine J_iconst C dL_law_1208 (rg_of (by decide)) ?_
    refine K_SH C M.1 M.2.1 [vi (ishr x8 8), vi 4] [vi 1] mi_L_low wg_766 wg_767 dL_law_1209 rfl rfl (by decide) (Nat.le_of_ble_eq_true rfl) (c_L_low (C.2.2.2.2.2.2.2) (by omega) h) (fun v9 S' F' I' hq9 => ?_) K_no rfl
    clear h
    obtain ⟨z16, rfl, rfl, rfl, rfl, h⟩ := hq9
    refine J_iadd C dL_law_1212 ?_
    have h := h _ rfl
    refine K_istore C [vr (some (gX G)), vr (some x1), vr (some x2), vr (some x3), vr (some x4), vr (some x5), vi x6, vi x7, vi x8, vi x9, vi x10, vi x11, vi x12, vi (w32 (1 + z16)), vl 0] dL_law_1213 (Nat.le_of_ble_eq_true rfl) rfl ?_
    refine J_iload C dL_law_1215 rfl ?_
    refine J_aload_n C dL_law_1217 rfl rfl ?_
    refine K_SH C M.1 M.2.1 [vi x12, vr (some x3)] [] mi_L_taken wg_840 wg_841 dL_law_1218 rfl rfl (by decide) (Nat.le_of_ble_eq_true rfl) (c_L_taken (C.2.2.2.2.2.2.2) (by omega) h) (fun v9 S' F' I' hq9 => ?_) K_no rfl
    clear h
    obtain ⟨z18, rfl, rfl, rfl, rfl, h⟩ := hq9
    refine J_iload C dL_law_1221 rfl ?_
    refine J_icmp_gt C dL_law_1223 (tgt := 1230) rfl (fun c1223 => ?_) (fun c1223 => ?_)
    · have h := h.1 c1223
      refine J_iconst C dL_law_1230 (rg_of (by decide)) ?_
      refine J_less [vr (some (gX G)), vr (some x1), vr (some x2), vr (some x3), vr (some x4), vr (some x5), vl 0, vi x7, vl 0, vl 0, vl 0, vl 0, vi x12, vi (w32 (1 + z16)), vl 0] (by unfold lessL; simp [lessL]) ?_
      exact S_L_law_1231 C M (by omega) hk551 h
    · have h := h.2 c1223
      refine J_iconst C dL_law_1226 (rg_of (by decide)) ?_
      refine J_goto C dL_law_1227 (tgt := 1231) rfl ?_
      refine J_less [vr (some (gX G)), vr (some x1), vr (some x2), vr (some x3), vr (some x4), vr (some x5), vl 0, vi x7, vl 0, vl 0, vl 0, vl 0, vi x12, vi (w32 (1 + z16)), vl 0] (by unfold lessL; simp [lessL]) ?_
      exact S_L_law_1231 C M (by omega) hk551 h
set_option maxRecDepth 20000 in
set_option maxHeartbeats 4000000 in
theorem S_L_law_1191 {G : Gp} {X : Xt} {d : Nat} {k551 : Nat → Nat → Nat → Nat → Nat → Int → Int → Shp → Fl → Il → Prop} {x1 : Nat} {x2 : Nat} {x3 : Nat} {x4 : Nat} {x5 : Nat} {x6 : Int} {x7 : Int} {s0 : Int} {s1 : Int} {s2 : Nat} {Q : Int → Shp → Fl → Il → Prop} {S : Shp} {F : Fl} {I : Il} (C : CO G RL cL_law 15 X) (M : ML d (some .boolean) X) (hd : 15 ≤ d) (hk551 : ∀ (x1 : Nat) (x2 : Nat) (x3 : Nat) (x4 : Nat) (x5 : Nat) (x6 : Int) (x7 : Int) (S' : Shp) (F' : Fl) (I' : Il), k551 x1 x2 x3 x4 x5 x6 x7 S' F' I' → J G X (QD X G (qI fun z S' F' I' => Q z S' F' I') noX) 551 [vr (some (gX G)), vr (some x1), vr (some x2), vr (some x3), vr (some x4), vr (some x5), vi x6, vi x7, vl 0, vl 0, vl 0, vl 0, vl 0, vl 0, vl 0] [] S' F' I') (h : V_L_law_1191 G k551 x1 x2 x3 x4 x5 x6 x7 s0 s1 s2 S F I Q) : J G X (QD X G (qI fun z S' F' I' => Q z S' F' I') noX) 1191 [vr (some (gX G)), vr (some x1), vr (some x2), vr (some x3), vr (some x4), vr (some x5), vi x6, vi x7, vl 0, vl 0, vl 0, vl 0, vl 0, vl 0, vl 0] [vi s0, vi s1, vr (some s2)] S F I := by
  unfold V_L_law_1191 at h
  obtain ⟨hK1, h⟩ := h
  obtain ⟨h02, hn3, h⟩ := h
  have h := h _ rfl
  refine J_iast C dL_law_1191 hK1 h02 hn3 ?_
  refine J_goto C dL_law_1192 (tgt := 1456) rfl ?_
  exact S_L_law_1456 C M (by omega) hk551 h
set_option maxRecDepth 20000 in
set_option maxHeartbeats 4000000 in
theorem S_L_law_1168 {G : Gp} {X : Xt} {d : Nat} {k551 : Nat → Nat → Nat → Nat → Nat → Int → Int → Shp → Fl → Il → Prop} {x1 : Nat} {x2 : Nat} {x3 : Nat} {x4 : Nat} {x5 : Nat} {x6 : Int} {x7 : Int} {x11 : Int} {x13 : Int} {s0 : Int} {s1 : Int} {s2 : Nat} {Q : Int → Shp → Fl → Il → Prop} {S : Shp} {F : Fl} {I : Il} (C : CO G RL cL_law 15 X) (M : ML d (some .boolean) X) (hd : 15 ≤ d) (hk551 : ∀ (x1 : Nat) (x2 : Nat) (x3 : Nat) (x4 : Nat) (x5 : Nat) (x6 : Int) (x7 : Int) (S' : Shp) (F' : Fl) (I' : Il), k551 x1 x2 x3 x4 x5 x6 x7 S' F' I' → J G X (QD X G (qI fun z S' F' I' => Q z S' F' I') noX) 551 [vr (some (gX G)), vr (some x1), vr (some x2), vr (some x3), vr (some x4), vr (some x5), vi x6, vi x7, vl 0, vl 0, vl 0, vl 0, vl 0, vl 0, vl 0] [] S' F' I') (h : V_L_law_1168 G k551 x1 x2 x3 x4 x5 x6 x7 x11 x13 s0 s1 s2 S F I Q) : J G X (QD X G (qI fun z S' F' I' => Q z S' F' I') noX) 1168 [vr (some (gX G)), vr (some x1), vr (some x2), vr (some x3), vr (some x4), vr (some x5), vi x6, vi x7, vl 0, vl 0, vl 0, vi x11, vl 0, vi x13, vl 0] [vi s0, vi s1, vr (some s2)] S F I := by
  unfold V_L_law_1168 at h
  obtain ⟨hK1, h⟩ := h
  obtain ⟨h02, hn3, h⟩ := h
  have h := h _ rfl
  refine J_iast C dL_law_1168 hK1 h02 hn3 ?_
  refine J_aload_n C dL_law_1169 rfl rfl ?_
  refine J_iload C dL_law_1170 rfl ?_
  refine J_bipush C dL_law_1172 (by decide +kernel) (rg_of (by decide)) ?_
  refine J_iadd C dL_law_1174 ?_
  refine J_iload C dL_law_1175 rfl ?_
  refine J_if_eq C dL_law_1177 (tgt := 1184) rfl (fun c1177 => ?_) (fun c1177 => ?_)
  · have h := h.1 c1177
    refine J_aload_n C dL_law_1184 rfl rfl ?_
    refine J_iload C dL_law_1185 rfl ?_
    refine J_bipush C dL_law_1187 (by decide +kernel) (rg_of (by decide)) ?_
    refine J_iadd C dL_law_1189 ?_
    obtain ⟨hK5, h⟩ := h
    obtain ⟨h06, hn7, h⟩ := h
    refine J_iald C dL_law_1190 hK5 h06 hn7 ?_
    refine J_less [vr (some (gX G)), vr (some x1), vr (some x2), vr (some x3), vr (some x4), vr (some x5), vi x6, vi x7, vl 0, vl 0, vl 0, vl 0, vl 0, vl 0, vl 0] (by unfold lessL; simp [lessL]) ?_
    exact S_L_law_1191 C M (by omega) hk551 h
  · have h := h.2 c1177
    refine J_iconst C dL_law_1180 (rg_of (by decide)) ?_
    refine J_goto C dL_law_1181 (tgt := 1191) rfl ?_
    refine J_less [vr (some (gX G)), vr (some x1), vr (some x2), vr (some x3), vr (some x4), vr (some x5), vi x6, vi x7, vl 0, vl 0, vl 0, vl 0, vl 0, vl 0, vl 0] (by unfold lessL; simp [lessL]) ?_
    exact S_L_law_1191 C M (by omega) hk551 h
set_option maxRecDepth 20000 in
set_option maxHeartbeats 4000000 in
theorem S_L_law_1137 {G : Gp} {X : Xt} {d : Nat} {k551 : Nat → Nat → Nat → Nat → Nat → Int → Int → Shp → Fl → Il → Prop} {x1 : Nat} {x2 : Nat} {x3 : Nat} {x4 : Nat} {x5 : Nat} {x7 : Int} {x11 : Int} {x13 : Int} {s0 : Int} {Q : Int → Shp → Fl → Il → Prop} {S : Shp} {F : Fl} {I : Il} (C : CO G RL cL_law 15 X) (M : ML d (some .boolean) X) (hd : 15 ≤ d) (hk551 : ∀ (x1 : Nat) (x2 : Nat) (x3 : Nat) (x4 : Nat) (x5 : Nat) (x6 : Int) (x7 : Int) (S' : Shp) (F' : Fl) (I' : Il), k551 x1 x2 x3 x4 x5 x6 x7 S' F' I' → J G X (QD X G (qI fun z S' F' I' => Q z S' F' I') noX) 551 [vr (some (gX G)), vr (some x1), vr (some x2), vr (some x3), vr (some x4), vr (some x5), vi x6, vi x7, vl 0, vl 0, vl 0, vl 0, vl 0, vl 0, vl 0] [] S' F' I') (h : V_L_law_1137 G k551 x1 x2 x3 x4 x5 x7 x11 x13 s0 S F I Q) : J G X (QD X G (qI fun z S' F' I' => Q z S' F' I') noX) 1137 [vr (some (gX G)), vr (some x1), vr (some x2), vr (some x3), vr (some x4), vr (some x5), vl 0, vi x7, vl 0, vl 0, vl 0, vi x11, vl 0, vi x13, vl 0] [vi s0] S F I := by
  unfold V_L_law_1137 at h
  refine K_istore C [vr (some (gX G)), vr (some x1), vr (some x2), vr (some x3), vr (some x4), vr (some x5), vi s0, vi x7, vl 0, vl 0, vl 0, vi x11, vl 0, vi x13, vl 0] dL_law_1137 (Nat.le_of_ble_eq_true rfl) rfl ?_
  refine J_aload_n C dL_law_1139 rfl rfl ?_
  refine J_iload C dL_law_1140 rfl ?_
  refine J_bipush C dL_law_1142 (by decide +kernel) (rg_of (by decide)) ?_
  refine J_iadd C dL_law_1144 ?_
  refine J_iload C dL_law_1145 rfl ?_
  refine J_if_eq C dL_law_1147 (tgt := 1161) rfl (fun c1147 => ?_) (fun c1147 => ?_)
  · have h := h.1 c1147
    refine J_aload_n C dL_law_1161 rfl rfl ?_
    refine J_iload C dL_law_1162 rfl ?_
    refine J_bipush C dL_law_1164 (by decide +kernel) (rg_of (by decide)) ?_
    refine J_iadd C dL_law_1166 ?_
    obtain ⟨hK1, h⟩ := h
    obtain ⟨h02, hn3, h⟩ := h
    refine J_iald C dL_law_1167 hK1 h02 hn3 ?_
    exact S_L_law_1168 C M (by omega) hk551 h
  · have h := h.2 c1147
    refine J_aload C dL_law_1150 rfl ?_
    refine J_iconst C dL_law_1152 (rg_of (by decide)) ?_
    obtain ⟨hK4, h⟩ := h
    obtain ⟨h05, hn6, h⟩ := h
    refine J_iald C dL_law_1153 hK4 h05 hn6 ?_
    refine J_sipush C dL_law_1154 (by decide +kernel) (rg_of (by decide)) ?_
    refine J_iadd C dL_law_1157 ?_
    refine J_goto C dL_law_1158 (tgt := 1168) rfl ?_
    exact S_L_law_1168 C M (by omega) hk551 h
set_option maxRecDepth 20000 in
set_option maxHeartbeats 4000000 in
theorem S_L_law_1129 {G : Gp} {X : Xt} {d : Nat} {k551 : Nat → Nat → Nat → Nat → Nat → Int → Int → Shp → Fl → Il → Prop} {x1 : Nat} {x2 : Nat} {x3 : Nat} {x4 : Nat} {x5 : Nat} {x7 : Int} {x11 : Int} {x13 : Int} {s0 : Int} {s1 : Int} {Q : Int → Shp → Fl → Il → Prop} {S : Shp} {F : Fl} {I : Il} (C : CO G RL cL_law 15 X) (M : ML d (some .boolean) X) (hd : 15 ≤ d) (hk551 : ∀ (x1 : Nat) (x2 : Nat) (x3 : Nat) (x4 : Nat) (x5 : Nat) (x6 : Int) (x7 : Int) (S' : Shp) (F' : Fl) (I' : Il), k551 x1 x2 x3 x4 x5 x6 x7 S' F' I' → J G X (QD X G (qI fun z S' F' I' => Q z S' F' I') noX) 551 [vr (some (gX G)), vr (some x1), vr (some x2), vr (some x3), vr (some x4), vr (some x5), vi x6, vi x7, vl 0, vl 0, vl 0, vl 0, vl 0, vl 0, vl 0] [] S' F' I') (h : V_L_law_1129 G k551 x1 x2 x3 x4 x5 x7 x11 x13 s0 s1 S F I Q) : J G X (QD X G (qI fun z S' F' I' => Q z S' F' I') noX) 1129 [vr (some (gX G)), vr (some x1), vr (some x2), vr (some x3), vr (some x4), vr (some x5), vl 0, vi x7, vl 0, vl 0, vl 0, vi x11, vl 0, vi x13, vl 0] [vi s0, vi s1] S F I := by
  unfold V_L_law_1129 at h
  refine J_icmp_ne C dL_law_1129 (tgt := 1136) rfl (fun c1129 => ?_) (fun c1129 => ?_)
  · have h := h.1 c1129
    refine J_iconst C dL_law_1136 (rg_of (by decide)) ?_
    exact S_L_law_1137 C M (by omega) hk551 h
  · have h := h.2 c1129
    refine J_iconst C dL_law_1132 (rg_of (by decide)) ?_
    refine J_goto C dL_law_1133 (tgt := 1137) rfl ?_
    exact S_L_law_1137 C M (by omega) hk551 h
set_option maxRecDepth 20000 in
set_option maxHeartbeats 4000000 in
theorem S_L_law_1099 {G : Gp} {X : Xt} {d : Nat} {k551 : Nat → Nat → Nat → Nat → Nat → Int → Int → Shp → Fl → Il → Prop} {x1 : Nat} {x2 : Nat} {x3 : Nat} {x4 : Nat} {x5 : Nat} {x7 : Int} {x10 : Int} {x11 : Int} {s0 : Int} {Q : Int → Shp → Fl → Il → Prop} {S : Shp} {F : Fl} {I : Il} (C : CO G RL cL_law 15 X) (M : ML d (some .boolean) X) (hd : 15 ≤ d) (hk551 : ∀ (x1 : Nat) (x2 : Nat) (x3 : Nat) (x4 : Nat) (x5 : Nat) (x6 : Int) (x7 : Int) (S' : Shp) (F' : Fl) (I' : Il), k551 x1 x2 x3 x4 x5 x6 x7 S' F' I' → J G X (QD X G (qI fun z S' F' I' => Q z S' F' I') noX) 551 [vr (some (gX G)), vr (some x1), vr (some x2), vr (some x3), vr (some x4), vr (some x5), vi x6, vi x7, vl 0, vl 0, vl 0, vl 0, vl 0, vl 0, vl 0] [] S' F' I') (h : V_L_law_1099 G k551 x1 x2 x3 x4 x5 x7 x10 x11 s0 S F I Q) : J G X (QD X G (qI fun z S' F' I' => Q z S' F' I') noX) 1099 [vr (some (gX G)), vr (some x1), vr (some x2), vr (some x3), vr (some x4), vr (some x5), vl 0, vi x7, vl 0, vl 0, vi x10, vi x11, vl 0, vl 0, vl 0] [vi s0] S F I := by
  unfold V_L_law_1099 at h
  obtain ⟨d, rfl⟩ : ∃ d9, d = d9 + 1 := ⟨d - 1, by omega⟩
  refine K_istore C [vr (some (gX G)), vr (some x1), vr (some x2), vr (some x3), vr (some x4), vr (some x5), vl 0, vi x7, vl 0, vl 0, vi x10, vi x11, vl 0, vi s0, vl 0] dL_law_1099 (Nat.le_of_ble_eq_true rfl) rfl ?_
  refine J_aload_n C dL_law_1101 rfl rfl ?_
  refine J_iconst C dL_law_1102 (rg_of (by decide)) ?_
  refine J_iload C dL_law_1103 rfl ?_
  refine J_iconst C dL_law_1105 (rg_of (by decide)) ?_
  refine J_iconst C dL_law_1106 (rg_of (by decide)) ?_
  refine K_SW C M.1 M.2.1 [vr (some x1), vi 3, vi x10, vi 0, vi 0] [] miw_L_calls wg_770 wg_771 dL_law_1107 rfl rfl (by decide) (Nat.le_of_ble_eq_true rfl) (c_L_calls (C.2.2.2.2.2.2.2) (by omega) h) (fun v9 S2 F3 I4 hq9 => ?_) rfl
  clear h
  obtain ⟨z1, rfl, h⟩ := hq9
  refine J_iload C dL_law_1110 rfl ?_
  refine J_if_eq C dL_law_1112 (tgt := 1126) rfl (fun c1112 => ?_) (fun c1112 => ?_)
  · have h := h.1 c1112
    refine J_sipush C dL_law_1126 (by decide +kernel) (rg_of (by decide)) ?_
    refine J_less [vr (some (gX G)), vr (some x1), vr (some x2), vr (some x3), vr (some x4), vr (some x5), vl 0, vi x7, vl 0, vl 0, vl 0, vi x11, vl 0, vi s0, vl 0] (by unfold lessL; simp [lessL]) ?_
    exact S_L_law_1129 C M (by omega) hk551 h
  · have h := h.2 c1112
    refine J_aload C dL_law_1115 rfl ?_
    refine J_iconst C dL_law_1117 (rg_of (by decide)) ?_
    obtain ⟨hK5, h⟩ := h
    obtain ⟨h06, hn7, h⟩ := h
    refine J_iald C dL_law_1118 hK5 h06 hn7 ?_
    refine J_sipush C dL_law_1119 (by decide +kernel) (rg_of (by decide)) ?_
    refine J_iadd C dL_law_1122 ?_
    refine J_goto C dL_law_1123 (tgt := 1129) rfl ?_
    refine J_less [vr (some (gX G)), vr (some x1), vr (some x2), vr (some x3), vr (some x4), vr (some x5), vl 0, vi x7, vl 0, vl 0, vl 0, vi x11, vl 0, vi s0, vl 0] (by unfold lessL; simp [lessL]) ?_
    exact S_L_law_1129 C M (by omega) hk551 h
set_option maxRecDepth 20000 in
set_option maxHeartbeats 4000000 in
theorem S_L_law_1098 {G : Gp} {X : Xt} {d : Nat} {k551 : Nat → Nat → Nat → Nat → Nat → Int → Int → Shp → Fl → Il → Prop} {x1 : Nat} {x2 : Nat} {x3 : Nat} {x4 : Nat} {x5 : Nat} {x7 : Int} {x10 : Int} {x11 : Int} {Q : Int → Shp → Fl → Il → Prop} {S : Shp} {F : Fl} {I : Il} (C : CO G RL cL_law 15 X) (M : ML d (some .boolean) X) (hd : 15 ≤ d) (hk551 : ∀ (x1 : Nat) (x2 : Nat) (x3 : Nat) (x4 : Nat) (x5 : Nat) (x6 : Int) (x7 : Int) (S' : Shp) (F' : Fl) (I' : Il), k551 x1 x2 x3 x4 x5 x6 x7 S' F' I' → J G X (QD X G (qI fun z S' F' I' => Q z S' F' I') noX) 551 [vr (some (gX G)), vr (some x1), vr (some x2), vr (some x3), vr (some x4), vr (some x5), vi x6, vi x7, vl 0, vl 0, vl 0, vl 0, vl 0, vl 0, vl 0] [] S' F' I') (h : V_L_law_1098 G k551 x1 x2 x3 x4 x5 x7 x10 x11 S F I Q) : J G X (QD X G (qI fun z S' F' I' => Q z S' F' I') noX) 1098 [vr (some (gX G)), vr (some x1), vr (some x2), vr (some x3), vr (some x4), vr (some x5), vl 0, vi x7, vl 0, vl 0, vi x10, vi x11, vl 0, vl 0, vl 0] [] S F I := by
  unfold V_L_law_1098 at h
  refine J_iconst C dL_law_1098 (rg_of (by decide)) ?_
  exact S_L_law_1099 C M (by omega) hk551 h
set_option maxRecDepth 20000 in
set_option maxHeartbeats 4000000 in
theorem S_L_law_1094 {G : Gp} {X : Xt} {d : Nat} {k551 : Nat → Nat → Nat → Nat → Nat → Int → Int → Shp → Fl → Il → Prop} {x1 : Nat} {x2 : Nat} {x3 : Nat} {x4 : Nat} {x5 : Nat} {x7 : Int} {x10 : Int} {x11 : Int} {Q : Int → Shp → Fl → Il → Prop} {S : Shp} {F : Fl} {I : Il} (C : CO G RL cL_law 15 X) (M : ML d (some .boolean) X) (hd : 15 ≤ d) (hk551 : ∀ (x1 : Nat) (x2 : Nat) (x3 : Nat) (x4 : Nat) (x5 : Nat) (x6 : Int) (x7 : Int) (S' : Shp) (F' : Fl) (I' : Il), k551 x1 x2 x3 x4 x5 x6 x7 S' F' I' → J G X (QD X G (qI fun z S' F' I' => Q z S' F' I') noX) 551 [vr (some (gX G)), vr (some x1), vr (some x2), vr (some x3), vr (some x4), vr (some x5), vi x6, vi x7, vl 0, vl 0, vl 0, vl 0, vl 0, vl 0, vl 0] [] S' F' I') (h : V_L_law_1094 G k551 x1 x2 x3 x4 x5 x7 x10 x11 S F I Q) : J G X (QD X G (qI fun z S' F' I' => Q z S' F' I') noX) 1094 [vr (some (gX G)), vr (some x1), vr (some x2), vr (some x3), vr (some x4), vr (some x5), vl 0, vi x7, vl 0, vl 0, vi x10, vi x11, vl 0, vl 0, vl 0] [] S F I := by
  unfold V_L_law_1094 at h
  refine J_iconst C dL_law_1094 (rg_of (by decide)) ?_
  refine J_goto C dL_law_1095 (tgt := 1099) rfl ?_
  exact S_L_law_1099 C M (by omega) hk551 h
set_option maxRecDepth 20000 in
set_option maxHeartbeats 4000000 in
theorem S_L_law_1040 {G : Gp} {X : Xt} {d : Nat} {k551 : Nat → Nat → Nat → Nat → Nat → Int → Int → Shp → Fl → Il → Prop} {x1 : Nat} {x2 : Nat} {x3 : Nat} {x4 : Nat} {x5 : Nat} {x6 : Int} {x7 : Int} {s0 : Int} {s1 : Int} {s2 : Nat} {Q : Int → Shp → Fl → Il → Prop} {S : Shp} {F : Fl} {I : Il} (C : CO G RL cL_law 15 X) (M : ML d (some .boolean) X) (hd : 15 ≤ d) (hk551 : ∀ (x1 : Nat) (x2 : Nat) (x3 : Nat) (x4 : Nat) (x5 : Nat) (x6 : Int) (x7 : Int) (S' : Shp) (F' : Fl) (I' : Il), k551 x1 x2 x3 x4 x5 x6 x7 S' F' I' → J G X (QD X G (qI fun z S' F' I' => Q z S' F' I') noX) 551 [vr (some (gX G)), vr (some x1), vr (some x2), vr (some x3), vr (some x4), vr (some x5), vi x6, vi x7, vl 0, vl 0, vl 0, vl 0, vl 0, vl 0, vl 0] [] S' F' I') (h : V_L_law_1040 G k551 x1 x2 x3 x4 x5 x6 x7 s0 s1 s2 S F I Q) : J G X (QD X G (qI fun z S' F' I' => Q z S' F' I') noX) 1040 [vr (some (gX G)), vr (some x1), vr (some x2), vr (some x3), vr (some x4), vr (some x5), vi x6, vi x7, vl 0, vl 0, vl 0, vl 0, vl 0, vl 0, vl 0] [vi s0, vi s1, vr (some s2)] S F I := by
  unfold V_L_law_1040 at h
  obtain ⟨hK1, h⟩ := h
  obtain ⟨h02, hn3, h⟩ := h
  have h := h _ rfl
  refine J_iast C dL_law_1040 hK1 h02 hn3 ?_
  refine J_goto C dL_law_1041 (tgt := 1456) rfl ?_
  exact S_L_law_1456 C M (by omega) hk551 h
set_option maxRecDepth 20000 in
set_option maxHeartbeats 4000000 in
theorem S_L_law_1017 {G : Gp} {X : Xt} {d : Nat} {k551 : Nat → Nat → Nat → Nat → Nat → Int → Int → Shp → Fl → Il → Prop} {x1 : Nat} {x2 : Nat} {x3 : Nat} {x4 : Nat} {x5 : Nat} {x6 : Int} {x7 : Int} {x12 : Int} {x13 : Int} {s0 : Int} {s1 : Int} {s2 : Nat} {Q : Int → Shp → Fl → Il → Prop} {S : Shp} {F : Fl} {I : Il} (C : CO G RL cL_law 15 X) (M : ML d (some .boolean) X) (hd : 15 ≤ d) (hk551 : ∀ (x1 : Nat) (x2 : Nat) (x3 : Nat) (x4 : Nat) (x5 : Nat) (x6 : Int) (x7 : Int) (S' : Shp) (F' : Fl) (I' : Il), k551 x1 x2 x3 x4 x5 x6 x7 S' F' I' → J G X (QD X G (qI fun z S' F' I' => Q z S' F' I') noX) 551 [vr (some (gX G)), vr (some x1), vr (some x2), vr (some x3), vr (some x4), vr (some x5), vi x6, vi x7, vl 0, vl 0, vl 0, vl 0, vl 0, vl 0, vl 0] [] S' F' I') (h : V_L_law_1017 G k551 x1 x2 x3 x4 x5 x6 x7 x12 x13 s0 s1 s2 S F I Q) : J G X (QD X G (qI fun z S' F' I' => Q z S' F' I') noX) 1017 [vr (some (gX G)), vr (some x1), vr (some x2), vr (some x3), vr (some x4), vr (some x5), vi x6, vi x7, vl 0, vl 0, vl 0, vl 0, vi x12, vi x13, vl 0] [vi s0, vi s1, vr (some s2)] S F I := by
  unfold V_L_law_1017 at h
  obtain ⟨hK1, h⟩ := h
  obtain ⟨h02, hn3, h⟩ := h
  have h := h _ rfl
  refine J_iast C dL_law_1017 hK1 h02 hn3 ?_
  refine J_aload_n C dL_law_1018 rfl rfl ?_
  refine J_bipush C dL_law_1019 (by decide +kernel) (rg_of (by decide)) ?_
  refine J_iload C dL_law_1021 rfl ?_
  refine J_iadd C dL_law_1023 ?_
  refine J_iload C dL_law_1024 rfl ?_
  refine J_if_eq C dL_law_1026 (tgt := 1033) rfl (fun c1026 => ?_) (fun c1026 => ?_)
  · have h := h.1 c1026
    refine J_aload_n C dL_law_1033 rfl rfl ?_
    refine J_bipush C dL_law_1034 (by decide +kernel) (rg_of (by decide)) ?_
    refine J_iload C dL_law_1036 rfl ?_
    refine J_iadd C dL_law_1038 ?_
    obtain ⟨hK5, h⟩ := h
    obtain ⟨h06, hn7, h⟩ := h
    refine J_iald C dL_law_1039 hK5 h06 hn7 ?_
    refine J_less [vr (some (gX G)), vr (some x1), vr (some x2), vr (some x3), vr (some x4), vr (some x5), vi x6, vi x7, vl 0, vl 0, vl 0, vl 0, vl 0, vl 0, vl 0] (by unfold lessL; simp [lessL]) ?_
    exact S_L_law_1040 C M (by omega) hk551 h
  · have h := h.2 c1026
    refine J_iconst C dL_law_1029 (rg_of (by decide)) ?_
    refine J_goto C dL_law_1030 (tgt := 1040) rfl ?_
    refine J_less [vr (some (gX G)), vr (some x1), vr (some x2), vr (some x3), vr (some x4), vr (some x5), vi x6, vi x7, vl 0, vl 0, vl 0, vl 0, vl 0, vl 0, vl 0] (by unfold lessL; simp [lessL]) ?_
    exact S_L_law_1040 C M (by omega) hk551 h
set_option maxRecDepth 20000 in
set_option maxHeartbeats 4000000 in
theorem S_L_law_987 {G : Gp} {X : Xt} {d : Nat} {k551 : Nat → Nat → Nat → Nat → Nat → Int → Int → Shp → Fl → Il → Prop} {x1 : Nat} {x2 : Nat} {x3 : Nat} {x4 : Nat} {x5 : Nat} {x6 : Int} {x7 : Int} {x12 : Int} {x13 : Int} {s0 : Int} {s1 : Int} {s2 : Int} {s3 : Nat} {Q : Int → Shp → Fl → Il → Prop} {S : Shp} {F : Fl} {I : Il} (C : CO G RL cL_law 15 X) (M : ML d (some .boolean) X) (hd : 15 ≤ d) (hk551 : ∀ (x1 : Nat) (x2 : Nat) (x3 : Nat) (x4 : Nat) (x5 : Nat) (x6 : Int) (x7 : Int) (S' : Shp) (F' : Fl) (I' : Il), k551 x1 x2 x3 x4 x5 x6 x7 S' F' I' → J G X (QD X G (qI fun z S' F' I' => Q z S' F' I') noX) 551 [vr (some (gX G)), vr (some x1), vr (some x2), vr (some x3), vr (some x4), vr (some x5), vi x6, vi x7, vl 0, vl 0, vl 0, vl 0, vl 0, vl 0, vl 0] [] S' F' I') (h : V_L_law_987 G k551 x1 x2 x3 x4 x5 x6 x7 x12 x13 s0 s1 s2 s3 S F I Q) : J G X (QD X G (qI fun z S' F' I' => Q z S' F' I') noX) 987 [vr (some (gX G)), vr (some x1), vr (some x2), vr (some x3), vr (some x4), vr (some x5), vi x6, vi x7, vl 0, vl 0, vl 0, vl 0, vi x12, vi x13, vl 0] [vi s0, vi s1, vi s2, vr (some s3)] S F I := by
  unfold V_L_law_987 at h
  refine J_isub C dL_law_987 ?_
  obtain ⟨hK1, h⟩ := h
  obtain ⟨h02, hn3, h⟩ := h
  have h := h _ rfl
  refine J_iast C dL_law_988 hK1 h02 hn3 ?_
  refine J_aload_n C dL_law_989 rfl rfl ?_
  refine J_bipush C dL_law_990 (by decide +kernel) (rg_of (by decide)) ?_
  refine J_iload C dL_law_992 rfl ?_
  refine J_iadd C dL_law_994 ?_
  refine J_iload C dL_law_995 rfl ?_
  refine J_if_eq C dL_law_997 (tgt := 1010) rfl (fun c997 => ?_) (fun c997 => ?_)
  · have h := h.1 c997
    refine J_aload_n C dL_law_1010 rfl rfl ?_
    refine J_bipush C dL_law_1011 (by decide +kernel) (rg_of (by decide)) ?_
    refine J_iload C dL_law_1013 rfl ?_
    refine J_iadd C dL_law_1015 ?_
    obtain ⟨hK5, h⟩ := h
    obtain ⟨h06, hn7, h⟩ := h
    refine J_iald C dL_law_1016 hK5 h06 hn7 ?_
    exact S_L_law_1017 C M (by omega) hk551 h
  · have h := h.2 c997
    refine J_aload C dL_law_1000 rfl ?_
    refine J_iconst C dL_law_1002 (rg_of (by decide)) ?_
    obtain ⟨hK8, h⟩ := h
    obtain ⟨h09, hn10, h⟩ := h
    refine J_iald C dL_law_1003 hK8 h09 hn10 ?_
    refine J_bipush C dL_law_1004 (by decide +kernel) (rg_of (by decide)) ?_
    refine J_iadd C dL_law_1006 ?_
    refine J_goto C dL_law_1007 (tgt := 1017) rfl ?_
    exact S_L_law_1017 C M (by omega) hk551 h
set_option maxRecDepth 20000 in
set_option maxHeartbeats 4000000 in
theorem S_L_law_962 {G : Gp} {X : Xt} {d : Nat} {k551 : Nat → Nat → Nat → Nat → Nat → Int → Int → Shp → Fl → Il → Prop} {x1 : Nat} {x2 : Nat} {x3 : Nat} {x4 : Nat} {x5 : Nat} {x7 : Int} {x12 : Int} {x13 : Int} {s0 : Int} {Q : Int → Shp → Fl → Il → Prop} {S : Shp} {F : Fl} {I : Il} (C : CO G RL cL_law 15 X) (M : ML d (some .boolean) X) (hd : 15 ≤ d) (hk551 : ∀ (x1 : Nat) (x2 : Nat) (x3 : Nat) (x4 : Nat) (x5 : Nat) (x6 : Int) (x7 : Int) (S' : Shp) (F' : Fl) (I' : Il), k551 x1 x2 x3 x4 x5 x6 x7 S' F' I' → J G X (QD X G (qI fun z S' F' I' => Q z S' F' I') noX) 551 [vr (some (gX G)), vr (some x1), vr (some x2), vr (some x3), vr (some x4), vr (some x5), vi x6, vi x7, vl 0, vl 0, vl 0, vl 0, vl 0, vl 0, vl 0] [] S' F' I') (h : V_L_law_962 G k551 x1 x2 x3 x4 x5 x7 x12 x13 s0 S F I Q) : J G X (QD X G (qI fun z S' F' I' => Q z S' F' I') noX) 962 [vr (some (gX G)), vr (some x1), vr (some x2), vr (some x3), vr (some x4), vr (some x5), vl 0, vi x7, vl 0, vl 0, vl 0, vl 0, vi x12, vi x13, vl 0] [vi s0] S F I := by
  unfold V_L_law_962 at h
  refine K_istore C [vr (some (gX G)), vr (some x1), vr (some x2), vr (some x3), vr (some x4), vr (some x5), vi s0, vi x7, vl 0, vl 0, vl 0, vl 0, vi x12, vi x13, vl 0] dL_law_962 (Nat.le_of_ble_eq_true rfl) rfl ?_
  refine J_aload C dL_law_964 rfl ?_
  refine J_iconst C dL_law_966 (rg_of (by decide)) ?_
  refine J_dup2 C dL_law_967 trivial trivial ?_
  obtain ⟨hK1, h⟩ := h
  obtain ⟨h02, hn3, h⟩ := h
  refine J_iald C dL_law_968 hK1 h02 hn3 ?_
  refine J_iload C dL_law_969 rfl ?_
  refine J_if_eq C dL_law_971 (tgt := 986) rfl (fun c971 => ?_) (fun c971 => ?_)
  · have h := h.1 c971
    refine J_iconst C dL_law_986 (rg_of (by decide)) ?_
    exact S_L_law_987 C M (by omega) hk551 h
  · have h := h.2 c971
    refine J_iconst C dL_law_974 (rg_of (by decide)) ?_
    refine J_aload_n C dL_law_975 rfl rfl ?_
    refine J_bipush C dL_law_976 (by decide +kernel) (rg_of (by decide)) ?_
    refine J_iload C dL_law_978 rfl ?_
    refine J_iadd C dL_law_980 ?_
    obtain ⟨hK4, h⟩ := h
    obtain ⟨h05, hn6, h⟩ := h
    refine J_iald C dL_law_981 hK4 h05 hn6 ?_
    refine J_imul C dL_law_982 ?_
    refine J_goto C dL_law_983 (tgt := 987) rfl ?_
    exact S_L_law_987 C M (by omega) hk551 h
set_option maxRecDepth 20000 in
set_option maxHeartbeats 4000000 in
theorem S_L_law_954 {G : Gp} {X : Xt} {d : Nat} {k551 : Nat → Nat → Nat → Nat → Nat → Int → Int → Shp → Fl → Il → Prop} {x1 : Nat} {x2 : Nat} {x3 : Nat} {x4 : Nat} {x5 : Nat} {x7 : Int} {x12 : Int} {x13 : Int} {s0 : Int} {s1 : Int} {Q : Int → Shp → Fl → Il → Prop} {S : Shp} {F : Fl} {I : Il} (C : CO G RL cL_law 15 X) (M : ML d (some .boolean) X) (hd : 15 ≤ d) (hk551 : ∀ (x1 : Nat) (x2 : Nat) (x3 : Nat) (x4 : Nat) (x5 : Nat) (x6 : Int) (x7 : Int) (S' : Shp) (F' : Fl) (I' : Il), k551 x1 x2 x3 x4 x5 x6 x7 S' F' I' → J G X (QD X G (qI fun z S' F' I' => Q z S' F' I') noX) 551 [vr (some (gX G)), vr (some x1), vr (some x2), vr (some x3), vr (some x4), vr (some x5), vi x6, vi x7, vl 0, vl 0, vl 0, vl 0, vl 0, vl 0, vl 0] [] S' F' I') (h : V_L_law_954 G k551 x1 x2 x3 x4 x5 x7 x12 x13 s0 s1 S F I Q) : J G X (QD X G (qI fun z S' F' I' => Q z S' F' I') noX) 954 [vr (some (gX G)), vr (some x1), vr (some x2), vr (some x3), vr (some x4), vr (some x5), vl 0, vi x7, vl 0, vl 0, vl 0, vl 0, vi x12, vi x13, vl 0] [vi s0, vi s1] S F I := by
  unfold V_L_law_954 at h
  refine J_icmp_ne C dL_law_954 (tgt := 961) rfl (fun c954 => ?_) (fun c954 => ?_)
  · have h := h.1 c954
    refine J_iconst C dL_law_961 (rg_of (by decide)) ?_
    exact S_L_law_962 C M (by omega) hk551 h
  · have h := h.2 c954
    refine J_iconst C dL_law_957 (rg_of (by decide)) ?_
    refine J_goto C dL_law_958 (tgt := 962) rfl ?_
    exact S_L_law_962 C M (by omega) hk551 h
set_option maxRecDepth 20000 in
set_option maxHeartbeats 4000000 in
theorem S_L_law_923 {G : Gp} {X : Xt} {d : Nat} {k551 : Nat → Nat → Nat → Nat → Nat → Int → Int → Shp → Fl → Il → Prop} {x1 : Nat} {x2 : Nat} {x3 : Nat} {x4 : Nat} {x5 : Nat} {x7 : Int} {x12 : Int} {s0 : Int} {Q : Int → Shp → Fl → Il → Prop} {S : Shp} {F : Fl} {I : Il} (C : CO G RL cL_law 15 X) (M : ML d (some .boolean) X) (hd : 15 ≤ d) (hk551 : ∀ (x1 : Nat) (x2 : Nat) (x3 : Nat) (x4 : Nat) (x5 : Nat) (x6 : Int) (x7 : Int) (S' : Shp) (F' : Fl) (I' : Il), k551 x1 x2 x3 x4 x5 x6 x7 S' F' I' → J G X (QD X G (qI fun z S' F' I' => Q z S' F' I') noX) 551 [vr (some (gX G)), vr (some x1), vr (some x2), vr (some x3), vr (some x4), vr (some x5), vi x6, vi x7, vl 0, vl 0, vl 0, vl 0, vl 0, vl 0, vl 0] [] S' F' I') (h : V_L_law_923 G k551 x1 x2 x3 x4 x5 x7 x12 s0 S F I Q) : J G X (QD X G (qI fun z S' F' I' => Q z S' F' I') noX) 923 [vr (some (gX G)), vr (some x1), vr (some x2), vr (some x3), vr (some x4), vr (some x5), vl 0, vi x7, vl 0, vl 0, vl 0, vl 0, vi x12, vl 0, vl 0] [vi s0] S F I := by
  unfold V_L_law_923 at h
  obtain ⟨d, rfl⟩ : ∃ d9, d = d9 + 1 := ⟨d - 1, by omega⟩
  refine K_istore C [vr (some (gX G)), vr (some x1), vr (some x2), vr (some x3), vr (some x4), vr (some x5), vl 0, vi x7, vl 0, vl 0, vl 0, vl 0, vi x12, vi s0, vl 0] dL_law_923 (Nat.le_of_ble_eq_true rfl) rfl ?_
  refine J_aload_n C dL_law_925 rfl rfl ?_
  refine J_iconst C dL_law_926 (rg_of (by decide)) ?_
  refine J_iload C dL_law_927 rfl ?_
  refine J_iconst C dL_law_929 (rg_of (by decide)) ?_
  refine J_iconst C dL_law_930 (rg_of (by decide)) ?_
  refine K_SW C M.1 M.2.1 [vr (some x1), vi 2, vi x12, vi 0, vi 0] [] miw_L_calls wg_770 wg_771 dL_law_931 rfl rfl (by decide) (Nat.le_of_ble_eq_true rfl) (c_L_calls (C.2.2.2.2.2.2.2) (by omega) h) (fun v9 S2 F3 I4 hq9 => ?_) rfl
  clear h
  obtain ⟨z1, rfl, h⟩ := hq9
  refine J_iload C dL_law_934 rfl ?_
  refine J_if_eq C dL_law_936 (tgt := 951) rfl (fun c936 => ?_) (fun c936 => ?_)
  · have h := h.1 c936
    refine J_sipush C dL_law_951 (by decide +kernel) (rg_of (by decide)) ?_
    exact S_L_law_954 C M (by omega) hk551 h
  · have h := h.2 c936
    refine J_iconst C dL_law_939 (rg_of (by decide)) ?_
    refine J_aload_n C dL_law_940 rfl rfl ?_
    refine J_bipush C dL_law_941 (by decide +kernel) (rg_of (by decide)) ?_
    refine J_iload C dL_law_943 rfl ?_
    refine J_iadd C dL_law_945 ?_
    obtain ⟨hK5, h⟩ := h
    obtain ⟨h06, hn7, h⟩ := h
    refine J_iald C dL_law_946 hK5 h06 hn7 ?_
    refine J_imul C dL_law_947 ?_
    refine J_goto C dL_law_948 (tgt := 954) rfl ?_
    exact S_L_law_954 C M (by omega) hk551 h
set_option maxRecDepth 20000 in
set_option maxHeartbeats 4000000 in
theorem S_L_law_922 {G : Gp} {X : Xt} {d : Nat} {k551 : Nat → Nat → Nat → Nat → Nat → Int → Int → Shp → Fl → Il → Prop} {x1 : Nat} {x2 : Nat} {x3 : Nat} {x4 : Nat} {x5 : Nat} {x7 : Int} {x12 : Int} {Q : Int → Shp → Fl → Il → Prop} {S : Shp} {F : Fl} {I : Il} (C : CO G RL cL_law 15 X) (M : ML d (some .boolean) X) (hd : 15 ≤ d) (hk551 : ∀ (x1 : Nat) (x2 : Nat) (x3 : Nat) (x4 : Nat) (x5 : Nat) (x6 : Int) (x7 : Int) (S' : Shp) (F' : Fl) (I' : Il), k551 x1 x2 x3 x4 x5 x6 x7 S' F' I' → J G X (QD X G (qI fun z S' F' I' => Q z S' F' I') noX) 551 [vr (some (gX G)), vr (some x1), vr (some x2), vr (some x3), vr (some x4), vr (some x5), vi x6, vi x7, vl 0, vl 0, vl 0, vl 0, vl 0, vl 0, vl 0] [] S' F' I') (h : V_L_law_922 G k551 x1 x2 x3 x4 x5 x7 x12 S F I Q) : J G X (QD X G (qI fun z S' F' I' => Q z S' F' I') noX) 922 [vr (some (gX G)), vr (some x1), vr (some x2), vr (some x3), vr (some x4), vr (some x5), vl 0, vi x7, vl 0, vl 0, vl 0, vl 0, vi x12, vl 0, vl 0] [] S F I := by
  unfold V_L_law_922 at h
  refine J_iconst C dL_law_922 (rg_of (by decide)) ?_
  exact S_L_law_923 C M (by omega) hk551 h
set_option maxRecDepth 20000 in
set_option maxHeartbeats 4000000 in
theorem S_L_law_854 {G : Gp} {X : Xt} {d : Nat} {k551 : Nat → Nat → Nat → Nat → Nat → Int → Int → Shp → Fl → Il → Prop} {x1 : Nat} {x2 : Nat} {x3 : Nat} {x4 : Nat} {x5 : Nat} {x6 : Int} {x7 : Int} {x12 : Int} {x13 : Int} {s0 : Int} {Q : Int → Shp → Fl → Il → Prop} {S : Shp} {F : Fl} {I : Il} (C : CO G RL cL_law 15 X) (M : ML d (some .boolean) X) (hd : 15 ≤ d) (hk551 : ∀ (x1 : Nat) (x2 : Nat) (x3 : Nat) (x4 : Nat) (x5 : Nat) (x6 : Int) (x7 : Int) (S' : Shp) (F' : Fl) (I' : Il), k551 x1 x2 x3 x4 x5 x6 x7 S' F' I' → J G X (QD X G (qI fun z S' F' I' => Q z S' F' I') noX) 551 [vr (some (gX G)), vr (some x1), vr (some x2), vr (some x3), vr (some x4), vr (some x5), vi x6, vi x7, vl 0, vl 0, vl 0, vl 0, vl 0, vl 0, vl 0] [] S' F' I') (h : V_L_law_854 G k551 x1 x2 x3 x4 x5 x6 x7 x12 x13 s0 S F I Q) : J G X (QD X G (qI fun z S' F' I' => Q z S' F' I') noX) 854 [vr (some (gX G)), vr (some x1), vr (some x2), vr (some x3), vr (some x4), vr (some x5), vi x6, vi x7, vl 0, vl 0, vl 0, vl 0, vi x12, vi x13, vl 0] [vi s0] S F I := by
  unfold V_L_law_854 at h
  obtain ⟨d, rfl⟩ : ∃ d9, d = d9 + 1 := ⟨d - 1, by omega⟩
  refine K_istore C [vr (some (gX G)), vr (some x1), vr (some x2), vr (some x3), vr (some x4), vr (some x5), vi x6, vi x7, vl 0, vl 0, vl 0, vl 0, vi x12, vi x13, vi s0] dL_law_854 (Nat.le_of_ble_eq_true rfl) rfl ?_
  refine J_aload_n C dL_law_856 rfl rfl ?_
  refine J_iload C dL_law_857 rfl ?_
  refine J_iload C dL_law_859 rfl ?_
  refine J_iload C dL_law_861 rfl ?_
  obtain ⟨hK1, h⟩ := h
  refine K_VH C M.1 M.2.1 [vi x12, vi x13, vi s0] [] mi_X8_hours wg_514 wg_515 wg_516 ⟨rfl, by decide⟩ dL_law_863 hK1 rfl rfl (by decide) (Nat.le_of_ble_eq_true rfl) (c_X8_hours (C.2.2.2.2.2.2.2) (by omega) h) (fun v9 S' F2 I' hq9 => ?_) K_no rfl
  clear h
  obtain ⟨rfl, rfl, rfl, h⟩ := hq9
  refine J_aload_n C dL_law_866 rfl rfl ?_
  refine J_bipush C dL_law_867 (by decide +kernel) (rg_of (by decide)) ?_
  refine J_iload C dL_law_869 rfl ?_
  refine J_iadd C dL_law_871 ?_
  refine J_iload C dL_law_872 rfl ?_
  obtain ⟨hK3, h⟩ := h
  obtain ⟨h04, hn5, h⟩ := h
  have h := h _ rfl
  refine J_iast C dL_law_874 hK3 h04 hn5 ?_
  refine J_aload_n C dL_law_875 rfl rfl ?_
  refine J_bipush C dL_law_876 (by decide +kernel) (rg_of (by decide)) ?_
  refine J_iload C dL_law_878 rfl ?_
  refine J_iadd C dL_law_880 ?_
  refine J_iload C dL_law_881 rfl ?_
  obtain ⟨h07, hn8, h⟩ := h
  have h := h _ rfl
  refine J_iast C dL_law_883 hK3 h07 hn8 ?_
  refine J_goto C dL_law_884 (tgt := 1456) rfl ?_
  refine J_less [vr (some (gX G)), vr (some x1), vr (some x2), vr (some x3), vr (some x4), vr (some x5), vi x6, vi x7, vl 0, vl 0, vl 0, vl 0, vl 0, vl 0, vl 0] (by unfold lessL; simp [lessL]) ?_
  exact S_L_law_1456 C M (by omega) hk551 h
set_option maxRecDepth 20000 in
set_option maxHeartbeats 4000000 in
theorem S_L_law_788 {G : Gp} {X : Xt} {d : Nat} {k551 : Nat → Nat → Nat → Nat → Nat → Int → Int → Shp → Fl → Il → Prop} {x1 : Nat} {x2 : Nat} {x3 : Nat} {x4 : Nat} {x5 : Nat} {x6 : Int} {x7 : Int} {x8 : Int} {x9 : Int} {x10 : Int} {x11 : Int} {x12 : Int} {Q : Int → Shp → Fl → Il → Prop} {S : Shp} {F : Fl} {I : Il} (C : CO G RL cL_law 15 X) (M : ML d (some .boolean) X) (hd : 15 ≤ d) (hk551 : ∀ (x1 : Nat) (x2 : Nat) (x3 : Nat) (x4 : Nat) (x5 : Nat) (x6 : Int) (x7 : Int) (S' : Shp) (F' : Fl) (I' : Il), k551 x1 x2 x3 x4 x5 x6 x7 S' F' I' → J G X (QD X G (qI fun z S' F' I' => Q z S' F' I') noX) 551 [vr (some (gX G)), vr (some x1), vr (some x2), vr (some x3), vr (some x4), vr (some x5), vi x6, vi x7, vl 0, vl 0, vl 0, vl 0, vl 0, vl 0, vl 0] [] S' F' I') (h : V_L_law_788 G k551 x1 x2 x3 x4 x5 x6 x7 x8 x9 x10 x11 x12 S F I Q) : J G X (QD X G (qI fun z S' F' I' => Q z S' F' I') noX) 788 [vr (some (gX G)), vr (some x1), vr (some x2), vr (some x3), vr (some x4), vr (some x5), vi x6, vi x7, vi x8, vi x9, vi x10, vi x11, vi x12, vl 0, vl 0] [] S F I := by
  unfold V_L_law_788 at h
  obtain ⟨d, rfl⟩ : ∃ d9, d = d9 + 1 := ⟨d - 1, by omega⟩
  refine J_iload C dL_law_788 rfl ?_
  refine J_bipush C dL_law_790 (by decide +kernel) (rg_of (by decide)) ?_
  refine J_icmp_ne C dL_law_792 (tgt := 887) rfl (fun c792 => ?_) (fun c792 => ?_)
  · have h := h.1 c792
    refine J_iload C dL_law_887 rfl ?_
    refine J_bipush C dL_law_889 (by decide +kernel) (rg_of (by decide)) ?_
    refine J_icmp_ne C dL_law_891 (tgt := 1044) rfl (fun c891 => ?_) (fun c891 => ?_)
    · have h := h.1 c891
      refine J_iload C dL_law_1044 rfl ?_
      refine J_bipush C dL_law_1046 (by decide +kernel) (rg_of (by decide)) ?_
      refine J_icmp_ne C dL_law_1048 (tgt := 1195) rfl (fun c1048 => ?_) (fun c1048 => ?_)
      · have h := h.1 c1048
        exact S_L_law_1195 C M (by omega) hk551 h
      · have h := h.2 c1048
        refine J_iload C dL_law_1051 rfl ?_
        refine J_bipush C dL_law_1053 (by decide +kernel) (rg_of (by decide)) ?_
        refine J_ishr C dL_law_1055 ?_
        refine J_iconst C dL_law_1056 (rg_of (by decide)) ?_
        refine K_SH C M.1 M.2.1 [vi (ishr x8 8), vi 4] [] mi_L_low wg_766 wg_767 dL_law_1057 rfl rfl (by decide) (Nat.le_of_ble_eq_true rfl) (c_L_low (C.2.2.2.2.2.2.2) (by omega) h) (fun v9 S' F' I' hq9 => ?_) K_no rfl
        clear h
        obtain ⟨z1, rfl, rfl, rfl, rfl, h⟩ := hq9
        refine J_if_ne C dL_law_1060 (tgt := 1195) rfl (fun c1060 => ?_) (fun c1060 => ?_)
        · have h := h.1 c1060
          exact S_L_law_1195 C M (by omega) hk551 h
        · have h := h.2 c1060
          refine J_aload_n C dL_law_1063 rfl rfl ?_
          refine J_iload C dL_law_1064 rfl ?_
          refine J_bipush C dL_law_1066 (by decide +kernel) (rg_of (by decide)) ?_
          refine J_iadd C dL_law_1068 ?_
          obtain ⟨hK2, h⟩ := h
          obtain ⟨h03, hn4, h⟩ := h
          refine J_iald C dL_law_1069 hK2 h03 hn4 ?_
          refine J_aload C dL_law_1070 rfl ?_
          refine J_iconst C dL_law_1072 (rg_of (by decide)) ?_
          obtain ⟨hK5, h⟩ := h
          obtain ⟨h06, hn7, h⟩ := h
          refine J_iald C dL_law_1073 hK5 h06 hn7 ?_
          refine J_icmp_gt C dL_law_1074 (tgt := 1098) rfl (fun c1074 => ?_) (fun c1074 => ?_)
          · have h := h.1 c1074
            refine J_less [vr (some (gX G)), vr (some x1), vr (some x2), vr (some x3), vr (some x4), vr (some x5), vl 0, vi x7, vl 0, vl 0, vi x10, vi x11, vl 0, vl 0, vl 0] (by unfold lessL; simp [lessL]) ?_
            exact S_L_law_1098 C M (by omega) hk551 h
          · have h := h.2 c1074
            refine J_aload_n C dL_law_1077 rfl rfl ?_
            refine J_iload C dL_law_1078 rfl ?_
            obtain ⟨h08, hn9, h⟩ := h
            refine J_iald C dL_law_1080 hK2 h08 hn9 ?_
            refine J_if_eq C dL_law_1081 (tgt := 1094) rfl (fun c1081 => ?_) (fun c1081 => ?_)
            · have h := h.1 c1081
              refine J_less [vr (some (gX G)), vr (some x1), vr (some x2), vr (some x3), vr (some x4), vr (some x5), vl 0, vi x7, vl 0, vl 0, vi x10, vi x11, vl 0, vl 0, vl 0] (by unfold lessL; simp [lessL]) ?_
              exact S_L_law_1094 C M (by omega) hk551 h
            · have h := h.2 c1081
              refine J_aload_n C dL_law_1084 rfl rfl ?_
              refine J_iload C dL_law_1085 rfl ?_
              refine J_iconst C dL_law_1087 (rg_of (by decide)) ?_
              refine J_iadd C dL_law_1088 ?_
              obtain ⟨h010, hn11, h⟩ := h
              refine J_iald C dL_law_1089 hK2 h010 hn11 ?_
              refine J_iconst C dL_law_1090 (rg_of (by decide)) ?_
              refine J_icmp_ge C dL_law_1091 (tgt := 1098) rfl (fun c1091 => ?_) (fun c1091 => ?_)
              · have h := h.1 c1091
                refine J_less [vr (some (gX G)), vr (some x1), vr (some x2), vr (some x3), vr (some x4), vr (some x5), vl 0, vi x7, vl 0, vl 0, vi x10, vi x11, vl 0, vl 0, vl 0] (by unfold lessL; simp [lessL]) ?_
                exact S_L_law_1098 C M (by omega) hk551 h
              · have h := h.2 c1091
                refine J_less [vr (some (gX G)), vr (some x1), vr (some x2), vr (some x3), vr (some x4), vr (some x5), vl 0, vi x7, vl 0, vl 0, vi x10, vi x11, vl 0, vl 0, vl 0] (by unfold lessL; simp [lessL]) ?_
                exact S_L_law_1094 C M (by omega) hk551 h
    · have h := h.2 c891
      refine J_aload_n C dL_law_894 rfl rfl ?_
      refine J_bipush C dL_law_895 (by decide +kernel) (rg_of (by decide)) ?_
      refine J_iload C dL_law_897 rfl ?_
      refine J_iadd C dL_law_899 ?_
      obtain ⟨hK12, h⟩ := h
      obtain ⟨h013, hn14, h⟩ := h
      refine J_iald C dL_law_900 hK12 h013 hn14 ?_
      refine J_if_ge C dL_law_901 (tgt := 922) rfl (fun c901 => ?_) (fun c901 => ?_)
      · have h := h.1 c901
        refine J_less [vr (some (gX G)), vr (some x1), vr (some x2), vr (some x3), vr (some x4), vr (some x5), vl 0, vi x7, vl 0, vl 0, vl 0, vl 0, vi x12, vl 0, vl 0] (by unfold lessL; simp [lessL]) ?_
        exact S_L_law_922 C M (by omega) hk551 h
      · have h := h.2 c901
        refine J_aload_n C dL_law_904 rfl rfl ?_
        refine J_bipush C dL_law_905 (by decide +kernel) (rg_of (by decide)) ?_
        refine J_iload C dL_law_907 rfl ?_
        refine J_iadd C dL_law_909 ?_
        obtain ⟨h015, hn16, h⟩ := h
        refine J_iald C dL_law_910 hK12 h015 hn16 ?_
        refine J_aload C dL_law_911 rfl ?_
        refine J_iconst C dL_law_913 (rg_of (by decide)) ?_
        obtain ⟨hK17, h⟩ := h
        obtain ⟨h018, hn19, h⟩ := h
        refine J_iald C dL_law_914 hK17 h018 hn19 ?_
        refine J_icmp_gt C dL_law_915 (tgt := 922) rfl (fun c915 => ?_) (fun c915 => ?_)
        · have h := h.1 c915
          refine J_less [vr (some (gX G)), vr (some x1), vr (some x2), vr (some x3), vr (some x4), vr (some x5), vl 0, vi x7, vl 0, vl 0, vl 0, vl 0, vi x12, vl 0, vl 0] (by unfold lessL; simp [lessL]) ?_
          exact S_L_law_922 C M (by omega) hk551 h
        · have h := h.2 c915
          refine J_iconst C dL_law_918 (rg_of (by decide)) ?_
          refine J_goto C dL_law_919 (tgt := 923) rfl ?_
          refine J_less [vr (some (gX G)), vr (some x1), vr (some x2), vr (some x3), vr (some x4), vr (some x5), vl 0, vi x7, vl 0, vl 0, vl 0, vl 0, vi x12, vl 0, vl 0] (by unfold lessL; simp [lessL]) ?_
          exact S_L_law_923 C M (by omega) hk551 h
  · have h := h.2 c792
    refine J_aload C dL_law_795 rfl ?_
    refine J_iconst C dL_law_797 (rg_of (by decide)) ?_
    obtain ⟨hK20, h⟩ := h
    obtain ⟨h021, hn22, h⟩ := h
    refine J_iald C dL_law_798 hK20 h021 hn22 ?_
    refine J_iload C dL_law_799 rfl ?_
    refine J_bipush C dL_law_801 (by decide +kernel) (rg_of (by decide)) ?_
    refine J_ishr C dL_law_803 ?_
    refine J_bipush C dL_law_804 (by decide +kernel) (rg_of (by decide)) ?_
    refine K_SH C M.1 M.2.1 [vi (ishr x8 8), vi 30] [vi (I x5 0)] mi_L_low wg_766 wg_767 dL_law_806 rfl rfl (by decide) (Nat.le_of_ble_eq_true rfl) (c_L_low (C.2.2.2.2.2.2.2) (by omega) h) (fun v9 S' F' I' hq9 => ?_) K_no rfl
    clear h
    obtain ⟨z23, rfl, rfl, rfl, rfl, h⟩ := hq9
    refine J_iadd C dL_law_809 ?_
    refine J_sipush C dL_law_810 (by decide +kernel) (rg_of (by decide)) ?_
    refine J_irem C dL_law_813 (by decide) ?_
    have h := h _ rfl
    refine K_istore C [vr (some (gX G)), vr (some x1), vr (some x2), vr (some x3), vr (some x4), vr (some x5), vi x6, vi x7, vi x8, vi x9, vi x10, vi x11, vi x12, vi (w32 (Int.tmod (w32 ((I x5 0) + z23)) 1440)), vl 0] dL_law_814 (Nat.le_of_ble_eq_true rfl) rfl ?_
    refine J_iload C dL_law_816 rfl ?_
    refine J_iload C dL_law_818 rfl ?_
    refine J_bipush C dL_law_820 (by decide +kernel) (rg_of (by decide)) ?_
    refine J_ishr C dL_law_822 ?_
    refine J_bipush C dL_law_823 (by decide +kernel) (rg_of (by decide)) ?_
    refine K_SH C M.1 M.2.1 [vi (ishr x8 13), vi 20] [vi (w32 (Int.tmod (w32 ((I x5 0) + z23)) 1440))] mi_L_low wg_766 wg_767 dL_law_825 rfl rfl (by decide) (Nat.le_of_ble_eq_true rfl) (c_L_low (C.2.2.2.2.2.2.2) (by omega) h) (fun v9 S' F' I' hq9 => ?_) K_no rfl
    clear h
    obtain ⟨z25, rfl, rfl, rfl, rfl, h⟩ := hq9
    refine J_iadd C dL_law_828 ?_
    refine J_sipush C dL_law_829 (by decide +kernel) (rg_of (by decide)) ?_
    refine J_icmp_le C dL_law_832 (tgt := 841) rfl (fun c832 => ?_) (fun c832 => ?_)
    · have h := h.1 c832
      refine J_iload C dL_law_841 rfl ?_
      refine J_iload C dL_law_843 rfl ?_
      refine J_bipush C dL_law_845 (by decide +kernel) (rg_of (by decide)) ?_
      refine J_ishr C dL_law_847 ?_
      refine J_bipush C dL_law_848 (by decide +kernel) (rg_of (by decide)) ?_
      refine K_SH C M.1 M.2.1 [vi (ishr x8 13), vi 20] [vi (w32 (Int.tmod (w32 ((I x5 0) + z23)) 1440))] mi_L_low wg_766 wg_767 dL_law_850 rfl rfl (by decide) (Nat.le_of_ble_eq_true rfl) (c_L_low (C.2.2.2.2.2.2.2) (by omega) h) (fun v9 S' F' I' hq9 => ?_) K_no rfl
      clear h
      obtain ⟨z26, rfl, rfl, rfl, rfl, h⟩ := hq9
      refine J_iadd C dL_law_853 ?_
      refine J_less [vr (some (gX G)), vr (some x1), vr (some x2), vr (some x3), vr (some x4), vr (some x5), vi x6, vi x7, vl 0, vl 0, vl 0, vl 0, vi x12, vi (w32 (Int.tmod (w32 ((I x5 0) + z23)) 1440)), vl 0] (by unfold lessL; simp [lessL]) ?_
      exact S_L_law_854 C M (by omega) hk551 h
    · have h := h.2 c832
      refine J_sipush C dL_law_835 (by decide +kernel) (rg_of (by decide)) ?_
      refine J_goto C dL_law_838 (tgt := 854) rfl ?_
      refine J_less [vr (some (gX G)), vr (some x1), vr (some x2), vr (some x3), vr (some x4), vr (some x5), vi x6, vi x7, vl 0, vl 0, vl 0, vl 0, vi x12, vi (w32 (Int.tmod (w32 ((I x5 0) + z23)) 1440)), vl 0] (by unfold lessL; simp [lessL]) ?_
      exact S_L_law_854 C M (by omega) hk551 h
set_option maxRecDepth 20000 in
set_option maxHeartbeats 4000000 in
theorem S_L_law_721 {G : Gp} {X : Xt} {d : Nat} {k551 : Nat → Nat → Nat → Nat → Nat → Int → Int → Shp → Fl → Il → Prop} {x1 : Nat} {x2 : Nat} {x3 : Nat} {x4 : Nat} {x5 : Nat} {x7 : Int} {x12 : Int} {x13 : Int} {s0 : Int} {Q : Int → Shp → Fl → Il → Prop} {S : Shp} {F : Fl} {I : Il} (C : CO G RL cL_law 15 X) (M : ML d (some .boolean) X) (hd : 15 ≤ d) (hk551 : ∀ (x1 : Nat) (x2 : Nat) (x3 : Nat) (x4 : Nat) (x5 : Nat) (x6 : Int) (x7 : Int) (S' : Shp) (F' : Fl) (I' : Il), k551 x1 x2 x3 x4 x5 x6 x7 S' F' I' → J G X (QD X G (qI fun z S' F' I' => Q z S' F' I') noX) 551 [vr (some (gX G)), vr (some x1), vr (some x2), vr (some x3), vr (some x4), vr (some x5), vi x6, vi x7, vl 0, vl 0, vl 0, vl 0, vl 0, vl 0, vl 0] [] S' F' I') (h : V_L_law_721 G k551 x1 x2 x3 x4 x5 x7 x12 x13 s0 S F I Q) : J G X (QD X G (qI fun z S' F' I' => Q z S' F' I') noX) 721 [vr (some (gX G)), vr (some x1), vr (some x2), vr (some x3), vr (some x4), vr (some x5), vl 0, vi x7, vl 0, vl 0, vl 0, vl 0, vi x12, vi x13, vl 0] [vi s0] S F I := by
  unfold V_L_law_721 at h
  refine K_istore C [vr (some (gX G)), vr (some x1), vr (some x2), vr (some x3), vr (some x4), vr (some x5), vi s0, vi x7, vl 0, vl 0, vl 0, vl 0, vi x12, vi x13, vl 0] dL_law_721 (Nat.le_of_ble_eq_true rfl) rfl ?_
  refine J_aload_n C dL_law_723 rfl rfl ?_
  refine J_bipush C dL_law_724 (by decide +kernel) (rg_of (by decide)) ?_
  refine J_iload C dL_law_726 rfl ?_
  refine J_iadd C dL_law_728 ?_
  refine J_iload C dL_law_729 rfl ?_
  obtain ⟨hK1, h⟩ := h
  obtain ⟨h02, hn3, h⟩ := h
  have h := h _ rfl
  refine J_iast C dL_law_731 hK1 h02 hn3 ?_
  refine J_aload_n C dL_law_732 rfl rfl ?_
  refine J_bipush C dL_law_733 (by decide +kernel) (rg_of (by decide)) ?_
  refine J_iload C dL_law_735 rfl ?_
  refine J_iadd C dL_law_737 ?_
  refine J_iconst C dL_law_738 (rg_of (by decide)) ?_
  obtain ⟨h05, hn6, h⟩ := h
  have h := h _ rfl
  refine J_iast C dL_law_739 hK1 h05 hn6 ?_
  refine J_goto C dL_law_740 (tgt := 1456) rfl ?_
  refine J_less [vr (some (gX G)), vr (some x1), vr (some x2), vr (some x3), vr (some x4), vr (some x5), vi s0, vi x7, vl 0, vl 0, vl 0, vl 0, vl 0, vl 0, vl 0] (by unfold lessL; simp [lessL]) ?_
  exact S_L_law_1456 C M (by omega) hk551 h
set_option maxRecDepth 20000 in
set_option maxHeartbeats 4000000 in
theorem S_L_law_713 {G : Gp} {X : Xt} {d : Nat} {k551 : Nat → Nat → Nat → Nat → Nat → Int → Int → Shp → Fl → Il → Prop} {x1 : Nat} {x2 : Nat} {x3 : Nat} {x4 : Nat} {x5 : Nat} {x7 : Int} {x12 : Int} {x13 : Int} {s0 : Int} {s1 : Int} {Q : Int → Shp → Fl → Il → Prop} {S : Shp} {F : Fl} {I : Il} (C : CO G RL cL_law 15 X) (M : ML d (some .boolean) X) (hd : 15 ≤ d) (hk551 : ∀ (x1 : Nat) (x2 : Nat) (x3 : Nat) (x4 : Nat) (x5 : Nat) (x6 : Int) (x7 : Int) (S' : Shp) (F' : Fl) (I' : Il), k551 x1 x2 x3 x4 x5 x6 x7 S' F' I' → J G X (QD X G (qI fun z S' F' I' => Q z S' F' I') noX) 551 [vr (some (gX G)), vr (some x1), vr (some x2), vr (some x3), vr (some x4), vr (some x5), vi x6, vi x7, vl 0, vl 0, vl 0, vl 0, vl 0, vl 0, vl 0] [] S' F' I') (h : V_L_law_713 G k551 x1 x2 x3 x4 x5 x7 x12 x13 s0 s1 S F I Q) : J G X (QD X G (qI fun z S' F' I' => Q z S' F' I') noX) 713 [vr (some (gX G)), vr (some x1), vr (some x2), vr (some x3), vr (some x4), vr (some x5), vl 0, vi x7, vl 0, vl 0, vl 0, vl 0, vi x12, vi x13, vl 0] [vi s0, vi s1] S F I := by
  unfold V_L_law_713 at h
  refine J_icmp_ne C dL_law_713 (tgt := 720) rfl (fun c713 => ?_) (fun c713 => ?_)
  · have h := h.1 c713
    refine J_iconst C dL_law_720 (rg_of (by decide)) ?_
    exact S_L_law_721 C M (by omega) hk551 h
  · have h := h.2 c713
    refine J_iconst C dL_law_716 (rg_of (by decide)) ?_
    refine J_goto C dL_law_717 (tgt := 721) rfl ?_
    exact S_L_law_721 C M (by omega) hk551 h
set_option maxRecDepth 20000 in
set_option maxHeartbeats 4000000 in
theorem S_L_law_694 {G : Gp} {X : Xt} {d : Nat} {k551 : Nat → Nat → Nat → Nat → Nat → Int → Int → Shp → Fl → Il → Prop} {x1 : Nat} {x2 : Nat} {x3 : Nat} {x4 : Nat} {x5 : Nat} {x7 : Int} {x12 : Int} {x13 : Int} {s0 : Int} {s1 : Int} {s2 : Nat} {Q : Int → Shp → Fl → Il → Prop} {S : Shp} {F : Fl} {I : Il} (C : CO G RL cL_law 15 X) (M : ML d (some .boolean) X) (hd : 15 ≤ d) (hk551 : ∀ (x1 : Nat) (x2 : Nat) (x3 : Nat) (x4 : Nat) (x5 : Nat) (x6 : Int) (x7 : Int) (S' : Shp) (F' : Fl) (I' : Il), k551 x1 x2 x3 x4 x5 x6 x7 S' F' I' → J G X (QD X G (qI fun z S' F' I' => Q z S' F' I') noX) 551 [vr (some (gX G)), vr (some x1), vr (some x2), vr (some x3), vr (some x4), vr (some x5), vi x6, vi x7, vl 0, vl 0, vl 0, vl 0, vl 0, vl 0, vl 0] [] S' F' I') (h : V_L_law_694 G k551 x1 x2 x3 x4 x5 x7 x12 x13 s0 s1 s2 S F I Q) : J G X (QD X G (qI fun z S' F' I' => Q z S' F' I') noX) 694 [vr (some (gX G)), vr (some x1), vr (some x2), vr (some x3), vr (some x4), vr (some x5), vl 0, vi x7, vl 0, vl 0, vl 0, vl 0, vi x12, vi x13, vl 0] [vi s0, vi s1, vr (some s2)] S F I := by
  unfold V_L_law_694 at h
  obtain ⟨d, rfl⟩ : ∃ d9, d = d9 + 1 := ⟨d - 1, by omega⟩
  obtain ⟨hK1, h⟩ := h
  refine K_VH C M.1 M.2.1 [vi s1, vi s0] [] mi_X8_fail wg_488 wg_489 wg_490 ⟨rfl, by decide⟩ dL_law_694 hK1 rfl rfl (by decide) (Nat.le_of_ble_eq_true rfl) (c_X8_fail (C.2.2.2.2.2.2.2) (by omega) h) (fun v9 S' F3 I' hq9 => ?_) K_no rfl
  clear h
  obtain ⟨z2, rfl, rfl, rfl, h⟩ := hq9
  refine J_aload_n C dL_law_697 rfl rfl ?_
  refine J_bipush C dL_law_698 (by decide +kernel) (rg_of (by decide)) ?_
  refine J_iload C dL_law_700 rfl ?_
  refine J_iadd C dL_law_702 ?_
  obtain ⟨hK4, h⟩ := h
  obtain ⟨h05, hn6, h⟩ := h
  refine J_iald C dL_law_703 hK4 h05 hn6 ?_
  refine J_iconst C dL_law_704 (rg_of (by decide)) ?_
  refine J_icmp_ne C dL_law_705 (tgt := 712) rfl (fun c705 => ?_) (fun c705 => ?_)
  · have h := h.1 c705
    refine J_iconst C dL_law_712 (rg_of (by decide)) ?_
    exact S_L_law_713 C M (by omega) hk551 h
  · have h := h.2 c705
    refine J_iconst C dL_law_708 (rg_of (by decide)) ?_
    refine J_goto C dL_law_709 (tgt := 713) rfl ?_
    exact S_L_law_713 C M (by omega) hk551 h
set_option maxRecDepth 20000 in
set_option maxHeartbeats 4000000 in
theorem S_L_law_663 {G : Gp} {X : Xt} {d : Nat} {k551 : Nat → Nat → Nat → Nat → Nat → Int → Int → Shp → Fl → Il → Prop} {x1 : Nat} {x2 : Nat} {x3 : Nat} {x4 : Nat} {x5 : Nat} {x6 : Int} {x7 : Int} {x8 : Int} {x9 : Int} {x10 : Int} {x11 : Int} {x12 : Int} {Q : Int → Shp → Fl → Il → Prop} {S : Shp} {F : Fl} {I : Il} (C : CO G RL cL_law 15 X) (M : ML d (some .boolean) X) (hd : 15 ≤ d) (hk551 : ∀ (x1 : Nat) (x2 : Nat) (x3 : Nat) (x4 : Nat) (x5 : Nat) (x6 : Int) (x7 : Int) (S' : Shp) (F' : Fl) (I' : Il), k551 x1 x2 x3 x4 x5 x6 x7 S' F' I' → J G X (QD X G (qI fun z S' F' I' => Q z S' F' I') noX) 551 [vr (some (gX G)), vr (some x1), vr (some x2), vr (some x3), vr (some x4), vr (some x5), vi x6, vi x7, vl 0, vl 0, vl 0, vl 0, vl 0, vl 0, vl 0] [] S' F' I') (h : V_L_law_663 G k551 x1 x2 x3 x4 x5 x6 x7 x8 x9 x10 x11 x12 S F I Q) : J G X (QD X G (qI fun z S' F' I' => Q z S' F' I') noX) 663 [vr (some (gX G)), vr (some x1), vr (some x2), vr (some x3), vr (some x4), vr (some x5), vi x6, vi x7, vi x8, vi x9, vi x10, vi x11, vi x12, vl 0, vl 0] [] S F I := by
  unfold V_L_law_663 at h
  obtain ⟨d, rfl⟩ : ∃ d9, d = d9 + 1 := ⟨d - 1, by omega⟩
  refine J_iload C dL_law_663 rfl ?_
  refine J_iconst C dL_law_665 (rg_of (by decide)) ?_
  refine J_icmp_ne C dL_law_666 (tgt := 743) rfl (fun c666 => ?_) (fun c666 => ?_)
  · have h := h.1 c666
    refine J_iload C dL_law_743 rfl ?_
    refine J_bipush C dL_law_745 (by decide +kernel) (rg_of (by decide)) ?_
    refine J_icmp_ne C dL_law_747 (tgt := 788) rfl (fun c747 => ?_) (fun c747 => ?_)
    · have h := h.1 c747
      exact S_L_law_788 C M (by omega) hk551 h
    · have h := h.2 c747
      refine J_aload_n C dL_law_750 rfl rfl ?_
      refine J_bipush C dL_law_751 (by decide +kernel) (rg_of (by decide)) ?_
      refine J_iload C dL_law_753 rfl ?_
      refine J_iadd C dL_law_755 ?_
      obtain ⟨hK1, h⟩ := h
      obtain ⟨h02, hn3, h⟩ := h
      refine J_iald C dL_law_756 hK1 h02 hn3 ?_
      refine J_iconst C dL_law_757 (rg_of (by decide)) ?_
      refine J_icmp_ne C dL_law_758 (tgt := 788) rfl (fun c758 => ?_) (fun c758 => ?_)
      · have h := h.1 c758
        exact S_L_law_788 C M (by omega) hk551 h
      · have h := h.2 c758
        refine J_aload_n C dL_law_761 rfl rfl ?_
        refine J_bipush C dL_law_762 (by decide +kernel) (rg_of (by decide)) ?_
        refine J_iload C dL_law_764 rfl ?_
        refine J_iadd C dL_law_766 ?_
        obtain ⟨h04, hn5, h⟩ := h
        refine J_iald C dL_law_767 hK1 h04 hn5 ?_
        refine J_if_ne C dL_law_768 (tgt := 788) rfl (fun c768 => ?_) (fun c768 => ?_)
        · have h := h.1 c768
          exact S_L_law_788 C M (by omega) hk551 h
        · have h := h.2 c768
          refine J_aload_n C dL_law_771 rfl rfl ?_
          refine J_iload C dL_law_772 rfl ?_
          obtain ⟨hK6, h⟩ := h
          refine K_VH C M.1 M.2.1 [vi x12] [] mi_X8_flag wg_510 wg_511 wg_512 ⟨rfl, by decide⟩ dL_law_774 hK6 rfl rfl (by decide) (Nat.le_of_ble_eq_true rfl) (c_X8_flag (C.2.2.2.2.2.2.2) (by omega) h) (fun v9 S' F7 I' hq9 => ?_) K_no rfl
          clear h
          obtain ⟨rfl, rfl, rfl, h⟩ := hq9
          refine J_aload_n C dL_law_777 rfl rfl ?_
          refine J_bipush C dL_law_778 (by decide +kernel) (rg_of (by decide)) ?_
          refine J_iload C dL_law_780 rfl ?_
          refine J_iadd C dL_law_782 ?_
          refine J_iconst C dL_law_783 (rg_of (by decide)) ?_
          obtain ⟨h08, hn9, h⟩ := h
          have h := h _ rfl
          refine J_iast C dL_law_784 hK1 h08 hn9 ?_
          refine J_goto C dL_law_785 (tgt := 1456) rfl ?_
          refine J_less [vr (some (gX G)), vr (some x1), vr (some x2), vr (some x3), vr (some x4), vr (some x5), vi x6, vi x7, vl 0, vl 0, vl 0, vl 0, vl 0, vl 0, vl 0] (by unfold lessL; simp [lessL]) ?_
          exact S_L_law_1456 C M (by omega) hk551 h
  · have h := h.2 c666
    refine J_iload C dL_law_669 rfl ?_
    refine J_bipush C dL_law_671 (by decide +kernel) (rg_of (by decide)) ?_
    refine J_ishr C dL_law_673 ?_
    refine J_iconst C dL_law_674 (rg_of (by decide)) ?_
    refine K_SH C M.1 M.2.1 [vi (ishr x8 8), vi 2] [] mi_L_low wg_766 wg_767 dL_law_675 rfl rfl (by decide) (Nat.le_of_ble_eq_true rfl) (c_L_low (C.2.2.2.2.2.2.2) (by omega) h) (fun v9 S' F' I' hq9 => ?_) K_no rfl
    clear h
    obtain ⟨z11, rfl, rfl, rfl, rfl, h⟩ := hq9
    refine K_istore C [vr (some (gX G)), vr (some x1), vr (some x2), vr (some x3), vr (some x4), vr (some x5), vi x6, vi x7, vi x8, vi x9, vi x10, vi x11, vi x12, vi z11, vl 0] dL_law_678 (Nat.le_of_ble_eq_true rfl) rfl ?_
    refine J_aload_n C dL_law_680 rfl rfl ?_
    refine J_iload C dL_law_681 rfl ?_
    refine J_iload C dL_law_683 rfl ?_
    refine J_iconst C dL_law_685 (rg_of (by decide)) ?_
    refine J_icmp_ne C dL_law_686 (tgt := 693) rfl (fun c686 => ?_) (fun c686 => ?_)
    · have h := h.1 c686
      refine J_iconst C dL_law_693 (rg_of (by decide)) ?_
      refine J_less [vr (some (gX G)), vr (some x1), vr (some x2), vr (some x3), vr (some x4), vr (some x5), vl 0, vi x7, vl 0, vl 0, vl 0, vl 0, vi x12, vi z11, vl 0] (by unfold lessL; simp [lessL]) ?_
      exact S_L_law_694 C M (by omega) hk551 h
    · have h := h.2 c686
      refine J_iconst C dL_law_689 (rg_of (by decide)) ?_
      refine J_goto C dL_law_690 (tgt := 694) rfl ?_
      refine J_less [vr (some (gX G)), vr (some x1), vr (some x2), vr (some x3), vr (some x4), vr (some x5), vl 0, vi x7, vl 0, vl 0, vl 0, vl 0, vi x12, vi z11, vl 0] (by unfold lessL; simp [lessL]) ?_
      exact S_L_law_694 C M (by omega) hk551 h
set_option maxRecDepth 20000 in
set_option maxHeartbeats 4000000 in
theorem S_L_law_551 {G : Gp} {X : Xt} {d : Nat}   {Q : Int → Shp → Fl → Il → Prop} (C : CO G RL cL_law 15 X) (M : ML d (some .boolean) X) (hd : 15 ≤ d) (n9 : Nat)  : ∀ (x1 : Nat) (x2 : Nat) (x3 : Nat) (x4 : Nat) (x5 : Nat) (x6 : Int) (x7 : Int) (S : Shp) (F : Fl) (I : Il), V_L_law_551 G n9 x1 x2 x3 x4 x5 x6 x7 S F I Q → J G X (QD X G (qI fun z S' F' I' => Q z S' F' I') noX) 551 [vr (some (gX G)), vr (some x1), vr (some x2), vr (some x3), vr (some x4), vr (some x5), vi x6, vi x7, vl 0, vl 0, vl 0, vl 0, vl 0, vl 0, vl 0] [] S F I := by
  obtain ⟨d, rfl⟩ : ∃ d9, d = d9 + 1 := ⟨d - 1, by omega⟩
  induction n9 with
  | zero => intro x1 x2 x3 x4 x5 x6 x7 S F I h; exact h.elim
  | succ n ih =>
    intro x1 x2 x3 x4 x5 x6 x7 S F I h
    unfold V_L_law_551 at h
    refine J_iload C dL_law_551 rfl ?_
    refine J_bipush C dL_law_553 (by decide +kernel) (rg_of (by decide)) ?_
    refine J_icmp_ge C dL_law_555 (tgt := 1487) rfl (fun c555 => ?_) (fun c555 => ?_)
    · have h := h.1 c555
      refine J_iload C dL_law_1487 rfl ?_
      obtain ⟨hb, h⟩ := h
      exact J_zret C dL_law_1489 M.2.2.1 hb ⟨_, rfl, h⟩
    · have h := h.2 c555
      refine J_iload C dL_law_558 rfl ?_
      refine J_if_eq C dL_law_560 (tgt := 1487) rfl (fun c560 => ?_) (fun c560 => ?_)
      · have h := h.1 c560
        refine J_iload C dL_law_1487 rfl ?_
        obtain ⟨hb, h⟩ := h
        exact J_zret C dL_law_1489 M.2.2.1 hb ⟨_, rfl, h⟩
      · have h := h.2 c560
        refine J_aload_n C dL_law_563 rfl rfl ?_
        refine J_bipush C dL_law_564 (by decide +kernel) (rg_of (by decide)) ?_
        refine J_iload C dL_law_566 rfl ?_
        refine J_iadd C dL_law_568 ?_
        refine K_SH C M.1 M.2.1 [vr (some (gX G)), vi (w32 (7 + x7))] [] mi_L_cell wg_761 wg_762 dL_law_569 rfl rfl (by decide) (Nat.le_of_ble_eq_true rfl) (c_L_cell (C.2.2.2.2.2.2.2) (by omega) h) (fun v9 S' F' I' hq9 => ?_) K_no rfl
        clear h
        obtain ⟨z1, rfl, rfl, rfl, rfl, h⟩ := hq9
        refine K_istore C [vr (some (gX G)), vr (some x1), vr (some x2), vr (some x3), vr (some x4), vr (some x5), vi x6, vi x7, vi z1, vl 0, vl 0, vl 0, vl 0, vl 0, vl 0] dL_law_572 (Nat.le_of_ble_eq_true rfl) rfl ?_
        refine J_iload C dL_law_574 rfl ?_
        refine J_bipush C dL_law_576 (by decide +kernel) (rg_of (by decide)) ?_
        refine K_SH C M.1 M.2.1 [vi z1, vi 16] [] mi_L_low wg_766 wg_767 dL_law_578 rfl rfl (by decide) (Nat.le_of_ble_eq_true rfl) (c_L_low (C.2.2.2.2.2.2.2) (by omega) h) (fun v9 S' F' I' hq9 => ?_) K_no rfl
        clear h
        obtain ⟨z2, rfl, rfl, rfl, rfl, h⟩ := hq9
        refine K_istore C [vr (some (gX G)), vr (some x1), vr (some x2), vr (some x3), vr (some x4), vr (some x5), vi x6, vi x7, vi z1, vi z2, vl 0, vl 0, vl 0, vl 0, vl 0] dL_law_581 (Nat.le_of_ble_eq_true rfl) rfl ?_
        refine J_iload C dL_law_583 rfl ?_
        refine J_iconst C dL_law_585 (rg_of (by decide)) ?_
        refine J_ishr C dL_law_586 ?_
        refine J_iconst C dL_law_587 (rg_of (by decide)) ?_
        refine K_SH C M.1 M.2.1 [vi (ishr z1 4), vi 3] [] mi_L_low wg_766 wg_767 dL_law_588 rfl rfl (by decide) (Nat.le_of_ble_eq_true rfl) (c_L_low (C.2.2.2.2.2.2.2) (by omega) h) (fun v9 S' F' I' hq9 => ?_) K_no rfl
        clear h
        obtain ⟨z3, rfl, rfl, rfl, rfl, h⟩ := hq9
        refine K_istore C [vr (some (gX G)), vr (some x1), vr (some x2), vr (some x3), vr (some x4), vr (some x5), vi x6, vi x7, vi z1, vi z2, vi z3, vl 0, vl 0, vl 0, vl 0] dL_law_591 (Nat.le_of_ble_eq_true rfl) rfl ?_
        refine J_bipush C dL_law_593 (by decide +kernel) (rg_of (by decide)) ?_
        refine J_iload C dL_law_595 rfl ?_
        refine J_imul C dL_law_597 ?_
        have h := h _ rfl
        refine K_istore C [vr (some (gX G)), vr (some x1), vr (some x2), vr (some x3), vr (some x4), vr (some x5), vi x6, vi x7, vi z1, vi z2, vi z3, vi (w32 (16 * z3)), vl 0, vl 0, vl 0] dL_law_598 (Nat.le_of_ble_eq_true rfl) rfl ?_
        refine J_iload C dL_law_600 rfl ?_
        refine J_bipush C dL_law_602 (by decide +kernel) (rg_of (by decide)) ?_
        refine J_ishr C dL_law_604 ?_
        refine J_iconst C dL_law_605 (rg_of (by decide)) ?_
        refine K_SH C M.1 M.2.1 [vi (ishr z1 6), vi 4] [] mi_L_low wg_766 wg_767 dL_law_606 rfl rfl (by decide) (Nat.le_of_ble_eq_true rfl) (c_L_low (C.2.2.2.2.2.2.2) (by omega) h) (fun v9 S' F' I' hq9 => ?_) K_no rfl
        clear h
        obtain ⟨z5, rfl, rfl, rfl, rfl, h⟩ := hq9
        refine K_istore C [vr (some (gX G)), vr (some x1), vr (some x2), vr (some x3), vr (some x4), vr (some x5), vi x6, vi x7, vi z1, vi z2, vi z3, vi (w32 (16 * z3)), vi z5, vl 0, vl 0] dL_law_609 (Nat.le_of_ble_eq_true rfl) rfl ?_
        refine J_iload C dL_law_611 rfl ?_
        refine J_iconst C dL_law_613 (rg_of (by decide)) ?_
        refine J_icmp_ge C dL_law_614 (tgt := 663) rfl (fun c614 => ?_) (fun c614 => ?_)
        · have h := h.1 c614
          exact S_L_law_663 C M (by omega) (fun y0 y1 y2 y3 y4 y5 y6 S' F' I' h9 => ih y0 y1 y2 y3 y4 y5 y6 S' F' I' h9) h
        · have h := h.2 c614
          refine J_aload_n C dL_law_617 rfl rfl ?_
          refine J_iload C dL_law_618 rfl ?_
          obtain ⟨hK6, h⟩ := h
          obtain ⟨h07, hn8, h⟩ := h
          refine J_iald C dL_law_620 hK6 h07 hn8 ?_
          refine J_iconst C dL_law_621 (rg_of (by decide)) ?_
          refine J_icmp_ne C dL_law_622 (tgt := 663) rfl (fun c622 => ?_) (fun c622 => ?_)
          · have h := h.1 c622
            exact S_L_law_663 C M (by omega) (fun y0 y1 y2 y3 y4 y5 y6 S' F' I' h9 => ih y0 y1 y2 y3 y4 y5 y6 S' F' I' h9) h
          · have h := h.2 c622
            refine J_aload_n C dL_law_625 rfl rfl ?_
            refine J_iload C dL_law_626 rfl ?_
            refine J_iconst C dL_law_628 (rg_of (by decide)) ?_
            refine J_iadd C dL_law_629 ?_
            obtain ⟨h09, hn10, h⟩ := h
            refine J_iald C dL_law_630 hK6 h09 hn10 ?_
            refine J_iconst C dL_law_631 (rg_of (by decide)) ?_
            refine J_icmp_ge C dL_law_632 (tgt := 663) rfl (fun c632 => ?_) (fun c632 => ?_)
            · have h := h.1 c632
              exact S_L_law_663 C M (by omega) (fun y0 y1 y2 y3 y4 y5 y6 S' F' I' h9 => ih y0 y1 y2 y3 y4 y5 y6 S' F' I' h9) h
            · have h := h.2 c632
              refine J_aload C dL_law_635 rfl ?_
              refine J_iconst C dL_law_637 (rg_of (by decide)) ?_
              obtain ⟨hK11, h⟩ := h
              obtain ⟨h012, hn13, h⟩ := h
              refine J_iald C dL_law_638 hK11 h012 hn13 ?_
              refine J_if_ne C dL_law_639 (tgt := 663) rfl (fun c639 => ?_) (fun c639 => ?_)
              · have h := h.1 c639
                exact S_L_law_663 C M (by omega) (fun y0 y1 y2 y3 y4 y5 y6 S' F' I' h9 => ih y0 y1 y2 y3 y4 y5 y6 S' F' I' h9) h
              · have h := h.2 c639
                refine J_aload_n C dL_law_642 rfl rfl ?_
                refine J_iload C dL_law_643 rfl ?_
                refine J_iload C dL_law_645 rfl ?_
                refine J_bipush C dL_law_647 (by decide +kernel) (rg_of (by decide)) ?_
                refine J_ishr C dL_law_649 ?_
                refine J_aload_n C dL_law_650 rfl rfl ?_
                refine J_aload C dL_law_651 rfl ?_
                refine J_aload C dL_law_653 rfl ?_
                refine K_SH C M.1 M.2.1 [vr (some x1), vi z3, vi (ishr z1 8), vr (some x3), vr (some x4), vr (some x5)] [] mi_L_plans wg_904 wg_905 dL_law_655 rfl rfl (by decide) (Nat.le_of_ble_eq_true rfl) (c_L_plans (C.2.2.2.2.2.2.2) (by omega) h) (fun v9 S15 F16 I17 hq9 => ?_) K_no rfl
                clear h
                obtain ⟨z14, rfl, h⟩ := hq9
                refine K_istore C [vr (some (gX G)), vr (some x1), vr (some x2), vr (some x3), vr (some x4), vr (some x5), vi z14, vi x7, vi z1, vi z2, vi z3, vi (w32 (16 * z3)), vi z5, vl 0, vl 0] dL_law_658 (Nat.le_of_ble_eq_true rfl) rfl ?_
                refine J_goto C dL_law_660 (tgt := 1456) rfl ?_
                refine J_less [vr (some (gX G)), vr (some x1), vr (some x2), vr (some x3), vr (some x4), vr (some x5), vi z14, vi x7, vl 0, vl 0, vl 0, vl 0, vl 0, vl 0, vl 0] (by unfold lessL; simp [lessL]) ?_
                exact S_L_law_1456 C M (by omega) (fun y0 y1 y2 y3 y4 y5 y6 S' F' I' h9 => ih y0 y1 y2 y3 y4 y5 y6 S' F' I' h9) h
set_option maxRecDepth 20000 in
set_option maxHeartbeats 4000000 in
theorem S_L_law_542 {G : Gp} {X : Xt} {d : Nat} {k162 : Nat → Nat → Nat → Nat → Nat → Int → Int → Shp → Fl → Il → Prop} {x1 : Nat} {x2 : Nat} {x3 : Nat} {x4 : Nat} {x5 : Nat} {x6 : Int} {x7 : Int} {Q : Int → Shp → Fl → Il → Prop} {S : Shp} {F : Fl} {I : Il} (C : CO G RL cL_law 15 X) (M : ML d (some .boolean) X) (hd : 15 ≤ d) (hk162 : ∀ (x1 : Nat) (x2 : Nat) (x3 : Nat) (x4 : Nat) (x5 : Nat) (x6 : Int) (x7 : Int) (S' : Shp) (F' : Fl) (I' : Il), k162 x1 x2 x3 x4 x5 x6 x7 S' F' I' → J G X (QD X G (qI fun z S' F' I' => Q z S' F' I') noX) 162 [vr (some (gX G)), vr (some x1), vr (some x2), vr (some x3), vr (some x4), vr (some x5), vi x6, vi x7, vl 0, vl 0, vl 0, vl 0, vl 0, vl 0, vl 0] [] S' F' I') (h : V_L_law_542 G k162 x1 x2 x3 x4 x5 x6 x7 S F I Q) : J G X (QD X G (qI fun z S' F' I' => Q z S' F' I') noX) 542 [vr (some (gX G)), vr (some x1), vr (some x2), vr (some x3), vr (some x4), vr (some x5), vi x6, vi x7, vl 0, vl 0, vl 0, vl 0, vl 0, vl 0, vl 0] [] S F I := by
  unfold V_L_law_542 at h
  refine K_iinc C [vr (some (gX G)), vr (some x1), vr (some x2), vr (some x3), vr (some x4), vr (some x5), vi x6, vi (w32 (x7 + 1)), vl 0, vl 0, vl 0, vl 0, vl 0, vl 0, vl 0] dL_law_542 rfl rfl ?_
  refine J_goto C dL_law_545 (tgt := 162) rfl ?_
  exact hk162 x1 x2 x3 x4 x5 x6 (w32 (x7 + 1)) S F I h
set_option maxRecDepth 20000 in
set_option maxHeartbeats 4000000 in
theorem S_L_law_534 {G : Gp} {X : Xt} {d : Nat} {k162 : Nat → Nat → Nat → Nat → Nat → Int → Int → Shp → Fl → Il → Prop} {k452 : Nat → Nat → Nat → Nat → Nat → Int → Int → Int → Int → Int → Int → Int → Shp → Fl → Il → Prop} {x1 : Nat} {x2 : Nat} {x3 : Nat} {x4 : Nat} {x5 : Nat} {x7 : Int} {x8 : Int} {x9 : Int} {x10 : Int} {x11 : Int} {x13 : Int} {s0 : Int} {Q : Int → Shp → Fl → Il → Prop} {S : Shp} {F : Fl} {I : Il} (C : CO G RL cL_law 15 X) (M : ML d (some .boolean) X) (hd : 15 ≤ d) (hk162 : ∀ (x1 : Nat) (x2 : Nat) (x3 : Nat) (x4 : Nat) (x5 : Nat) (x6 : Int) (x7 : Int) (S' : Shp) (F' : Fl) (I' : Il), k162 x1 x2 x3 x4 x5 x6 x7 S' F' I' → J G X (QD X G (qI fun z S' F' I' => Q z S' F' I') noX) 162 [vr (some (gX G)), vr (some x1), vr (some x2), vr (some x3), vr (some x4), vr (some x5), vi x6, vi x7, vl 0, vl 0, vl 0, vl 0, vl 0, vl 0, vl 0] [] S' F' I') (hk452 : ∀ (x1 : Nat) (x2 : Nat) (x3 : Nat) (x4 : Nat) (x5 : Nat) (x6 : Int) (x7 : Int) (x8 : Int) (x9 : Int) (x10 : Int) (x11 : Int) (x13 : Int) (S' : Shp) (F' : Fl) (I' : Il), k452 x1 x2 x3 x4 x5 x6 x7 x8 x9 x10 x11 x13 S' F' I' → J G X (QD X G (qI fun z S' F' I' => Q z S' F' I') noX) 452 [vr (some (gX G)), vr (some x1), vr (some x2), vr (some x3), vr (some x4), vr (some x5), vi x6, vi x7, vi x8, vi x9, vi x10, vi x11, vl 0, vi x13, vl 0] [] S' F' I') (h : V_L_law_534 G k162 k452 x1 x2 x3 x4 x5 x7 x8 x9 x10 x11 x13 s0 S F I Q) : J G X (QD X G (qI fun z S' F' I' => Q z S' F' I') noX) 534 [vr (some (gX G)), vr (some x1), vr (some x2), vr (some x3), vr (some x4), vr (some x5), vl 0, vi x7, vi x8, vi x9, vi x10, vi x11, vl 0, vi x13, vl 0] [vi s0] S F I := by
  unfold V_L_law_534 at h
  refine K_istore C [vr (some (gX G)), vr (some x1), vr (some x2), vr (some x3), vr (some x4), vr (some x5), vi s0, vi x7, vi x8, vi x9, vi x10, vi x11, vl 0, vi x13, vl 0] dL_law_534 (Nat.le_of_ble_eq_true rfl) rfl ?_
  refine K_iinc C [vr (some (gX G)), vr (some x1), vr (some x2), vr (some x3), vr (some x4), vr (some x5), vi s0, vi x7, vi x8, vi x9, vi x10, vi x11, vl 0, vi (w32 (x13 + 1)), vl 0] dL_law_536 rfl rfl ?_
  refine J_goto C dL_law_539 (tgt := 452) rfl ?_
  exact hk452 x1 x2 x3 x4 x5 s0 x7 x8 x9 x10 x11 (w32 (x13 + 1)) S F I h
set_option maxRecDepth 20000 in
set_option maxHeartbeats 4000000 in
theorem S_L_law_533 {G : Gp} {X : Xt} {d : Nat} {k162 : Nat → Nat → Nat → Nat → Nat → Int → Int → Shp → Fl → Il → Prop} {k452 : Nat → Nat → Nat → Nat → Nat → Int → Int → Int → Int → Int → Int → Int → Shp → Fl → Il → Prop} {x1 : Nat} {x2 : Nat} {x3 : Nat} {x4 : Nat} {x5 : Nat} {x7 : Int} {x8 : Int} {x9 : Int} {x10 : Int} {x11 : Int} {x13 : Int} {Q : Int → Shp → Fl → Il → Prop} {S : Shp} {F : Fl} {I : Il} (C : CO G RL cL_law 15 X) (M : ML d (some .boolean) X) (hd : 15 ≤ d) (hk162 : ∀ (x1 : Nat) (x2 : Nat) (x3 : Nat) (x4 : Nat) (x5 : Nat) (x6 : Int) (x7 : Int) (S' : Shp) (F' : Fl) (I' : Il), k162 x1 x2 x3 x4 x5 x6 x7 S' F' I' → J G X (QD X G (qI fun z S' F' I' => Q z S' F' I') noX) 162 [vr (some (gX G)), vr (some x1), vr (some x2), vr (some x3), vr (some x4), vr (some x5), vi x6, vi x7, vl 0, vl 0, vl 0, vl 0, vl 0, vl 0, vl 0] [] S' F' I') (hk452 : ∀ (x1 : Nat) (x2 : Nat) (x3 : Nat) (x4 : Nat) (x5 : Nat) (x6 : Int) (x7 : Int) (x8 : Int) (x9 : Int) (x10 : Int) (x11 : Int) (x13 : Int) (S' : Shp) (F' : Fl) (I' : Il), k452 x1 x2 x3 x4 x5 x6 x7 x8 x9 x10 x11 x13 S' F' I' → J G X (QD X G (qI fun z S' F' I' => Q z S' F' I') noX) 452 [vr (some (gX G)), vr (some x1), vr (some x2), vr (some x3), vr (some x4), vr (some x5), vi x6, vi x7, vi x8, vi x9, vi x10, vi x11, vl 0, vi x13, vl 0] [] S' F' I') (h : V_L_law_533 G k162 k452 x1 x2 x3 x4 x5 x7 x8 x9 x10 x11 x13 S F I Q) : J G X (QD X G (qI fun z S' F' I' => Q z S' F' I') noX) 533 [vr (some (gX G)), vr (some x1), vr (some x2), vr (some x3), vr (some x4), vr (some x5), vl 0, vi x7, vi x8, vi x9, vi x10, vi x11, vl 0, vi x13, vl 0] [] S F I := by
  unfold V_L_law_533 at h
  refine J_iconst C dL_law_533 (rg_of (by decide)) ?_
  exact S_L_law_534 C M (by omega) hk162 hk452 h
set_option maxRecDepth 20000 in
set_option maxHeartbeats 4000000 in
theorem S_L_law_452 {G : Gp} {X : Xt} {d : Nat} {k162 : Nat → Nat → Nat → Nat → Nat → Int → Int → Shp → Fl → Il → Prop}  {Q : Int → Shp → Fl → Il → Prop} (C : CO G RL cL_law 15 X) (M : ML d (some .boolean) X) (hd : 15 ≤ d) (n9 : Nat) (hk162 : ∀ (x1 : Nat) (x2 : Nat) (x3 : Nat) (x4 : Nat) (x5 : Nat) (x6 : Int) (x7 : Int) (S' : Shp) (F' : Fl) (I' : Il), k162 x1 x2 x3 x4 x5 x6 x7 S' F' I' → J G X (QD X G (qI fun z S' F' I' => Q z S' F' I') noX) 162 [vr (some (gX G)), vr (some x1), vr (some x2), vr (some x3), vr (some x4), vr (some x5), vi x6, vi x7, vl 0, vl 0, vl 0, vl 0, vl 0, vl 0, vl 0] [] S' F' I') : ∀ (x1 : Nat) (x2 : Nat) (x3 : Nat) (x4 : Nat) (x5 : Nat) (x6 : Int) (x7 : Int) (x8 : Int) (x9 : Int) (x10 : Int) (x11 : Int) (x13 : Int) (S : Shp) (F : Fl) (I : Il), V_L_law_452 G n9 k162 x1 x2 x3 x4 x5 x6 x7 x8 x9 x10 x11 x13 S F I Q → J G X (QD X G (qI fun z S' F' I' => Q z S' F' I') noX) 452 [vr (some (gX G)), vr (some x1), vr (some x2), vr (some x3), vr (some x4), vr (some x5), vi x6, vi x7, vi x8, vi x9, vi x10, vi x11, vl 0, vi x13, vl 0] [] S F I := by
  obtain ⟨d, rfl⟩ : ∃ d9, d = d9 + 1 := ⟨d - 1, by omega⟩
  induction n9 with
  | zero => intro x1 x2 x3 x4 x5 x6 x7 x8 x9 x10 x11 x13 S F I h; exact h.elim
  | succ n ih =>
    intro x1 x2 x3 x4 x5 x6 x7 x8 x9 x10 x11 x13 S F I h
    unfold V_L_law_452 at h
    refine J_iload C dL_law_452 rfl ?_
    refine J_iconst C dL_law_454 (rg_of (by decide)) ?_
    refine J_icmp_ge C dL_law_455 (tgt := 542) rfl (fun c455 => ?_) (fun c455 => ?_)
    · have h := h.1 c455
      refine J_less [vr (some (gX G)), vr (some x1), vr (some x2), vr (some x3), vr (some x4), vr (some x5), vi x6, vi x7, vl 0, vl 0, vl 0, vl 0, vl 0, vl 0, vl 0] (by unfold lessL; simp [lessL]) ?_
      exact S_L_law_542 C M (by omega) hk162 h
    · have h := h.2 c455
      refine J_iload C dL_law_458 rfl ?_
      refine J_if_eq C dL_law_460 (tgt := 542) rfl (fun c460 => ?_) (fun c460 => ?_)
      · have h := h.1 c460
        refine J_less [vr (some (gX G)), vr (some x1), vr (some x2), vr (some x3), vr (some x4), vr (some x5), vi x6, vi x7, vl 0, vl 0, vl 0, vl 0, vl 0, vl 0, vl 0] (by unfold lessL; simp [lessL]) ?_
        exact S_L_law_542 C M (by omega) hk162 h
      · have h := h.2 c460
        refine J_iload C dL_law_463 rfl ?_
        refine J_bipush C dL_law_465 (by decide +kernel) (rg_of (by decide)) ?_
        refine J_ishr C dL_law_467 ?_
        refine J_bipush C dL_law_468 (by decide +kernel) (rg_of (by decide)) ?_
        refine K_SH C M.1 M.2.1 [vi (ishr x8 9), vi 6] [] mi_L_low wg_766 wg_767 dL_law_470 rfl rfl (by decide) (Nat.le_of_ble_eq_true rfl) (c_L_low (C.2.2.2.2.2.2.2) (by omega) h) (fun v9 S' F' I' hq9 => ?_) K_no rfl
        clear h
        obtain ⟨z1, rfl, rfl, rfl, rfl, h⟩ := hq9
        refine J_iload C dL_law_473 rfl ?_
        refine J_icmp_le C dL_law_475 (tgt := 542) rfl (fun c475 => ?_) (fun c475 => ?_)
        · have h := h.1 c475
          refine J_less [vr (some (gX G)), vr (some x1), vr (some x2), vr (some x3), vr (some x4), vr (some x5), vi x6, vi x7, vl 0, vl 0, vl 0, vl 0, vl 0, vl 0, vl 0] (by unfold lessL; simp [lessL]) ?_
          exact S_L_law_542 C M (by omega) hk162 h
        · have h := h.2 c475
          refine J_aload C dL_law_478 rfl ?_
          refine J_iconst C dL_law_480 (rg_of (by decide)) ?_
          refine J_dup2 C dL_law_481 trivial trivial ?_
          obtain ⟨hK2, h⟩ := h
          obtain ⟨h03, hn4, h⟩ := h
          refine J_iald C dL_law_482 hK2 h03 hn4 ?_
          refine J_bipush C dL_law_483 (by decide +kernel) (rg_of (by decide)) ?_
          refine J_isub C dL_law_485 ?_
          obtain ⟨h05, hn6, h⟩ := h
          have h := h _ rfl
          refine J_iast C dL_law_486 hK2 h05 hn6 ?_
          refine J_aload_n C dL_law_487 rfl rfl ?_
          refine J_iload C dL_law_488 rfl ?_
          obtain ⟨hK8, h⟩ := h
          refine K_VH C M.1 M.2.1 [vi x10] [] mi_X8_car wg_590 wg_591 wg_592 ⟨rfl, by decide⟩ dL_law_490 hK8 rfl rfl (by decide) (Nat.le_of_ble_eq_true rfl) (c_X8_car (C.2.2.2.2.2.2.2) (by omega) h) (fun v9 S10 F11 I12 hq9 => ?_) K_no rfl
          clear h
          obtain ⟨z9, rfl, h⟩ := hq9
          refine K_istore C [vr (some (gX G)), vr (some x1), vr (some x2), vr (some x3), vr (some x4), vr (some x5), vi x6, vi x7, vi x8, vi x9, vi x10, vi x11, vl 0, vi x13, vi z9] dL_law_493 (Nat.le_of_ble_eq_true rfl) rfl ?_
          refine J_aload_n C dL_law_495 rfl rfl ?_
          refine J_iload C dL_law_496 rfl ?_
          refine J_iconst C dL_law_498 (rg_of (by decide)) ?_
          refine J_iadd C dL_law_499 ?_
          refine J_dup2 C dL_law_500 trivial trivial ?_
          obtain ⟨hK13, h⟩ := h
          obtain ⟨h014, hn15, h⟩ := h
          refine J_iald C dL_law_501 hK13 h014 hn15 ?_
          refine J_iconst C dL_law_502 (rg_of (by decide)) ?_
          refine J_iadd C dL_law_503 ?_
          obtain ⟨h016, hn17, h⟩ := h
          have h := h _ rfl
          refine J_iast C dL_law_504 hK13 h016 hn17 ?_
          refine J_iload C dL_law_505 rfl ?_
          refine J_if_eq C dL_law_507 (tgt := 533) rfl (fun c507 => ?_) (fun c507 => ?_)
          · have h := h.1 c507
            refine J_less [vr (some (gX G)), vr (some x1), vr (some x2), vr (some x3), vr (some x4), vr (some x5), vl 0, vi x7, vi x8, vi x9, vi x10, vi x11, vl 0, vi x13, vl 0] (by unfold lessL; simp [lessL]) ?_
            exact S_L_law_533 C M (by omega) hk162 (fun y0 y1 y2 y3 y4 y5 y6 y7 y8 y9 y10 y11 S' F' I' h9 => ih y0 y1 y2 y3 y4 y5 y6 y7 y8 y9 y10 y11 S' F' I' h9) h
          · have h := h.2 c507
            refine J_aload_n C dL_law_510 rfl rfl ?_
            refine J_iconst C dL_law_511 (rg_of (by decide)) ?_
            refine J_iload C dL_law_512 rfl ?_
            refine J_iload C dL_law_514 rfl ?_
            refine J_iconst C dL_law_516 (rg_of (by decide)) ?_
            refine K_SW C M.1 M.2.1 [vr (some x1), vi 5, vi x7, vi z9, vi 0] [] miw_L_calls wg_770 wg_771 dL_law_517 rfl rfl (by decide) (Nat.le_of_ble_eq_true rfl) (c_L_calls (C.2.2.2.2.2.2.2) (by omega) h) (fun v9 S20 F21 I22 hq9 => ?_) rfl
            clear h
            obtain ⟨z19, rfl, h⟩ := hq9
            refine J_aload_n C dL_law_520 rfl rfl ?_
            refine J_iload C dL_law_521 rfl ?_
            refine J_iconst C dL_law_523 (rg_of (by decide)) ?_
            refine J_iadd C dL_law_524 ?_
            obtain ⟨hK23, h⟩ := h
            obtain ⟨h024, hn25, h⟩ := h
            refine J_iald C dL_law_525 hK23 h024 hn25 ?_
            refine J_icmp_ne C dL_law_526 (tgt := 533) rfl (fun c526 => ?_) (fun c526 => ?_)
            · have h := h.1 c526
              refine J_less [vr (some (gX G)), vr (some x1), vr (some x2), vr (some x3), vr (some x4), vr (some x5), vl 0, vi x7, vi x8, vi x9, vi x10, vi x11, vl 0, vi x13, vl 0] (by unfold lessL; simp [lessL]) ?_
              exact S_L_law_533 C M (by omega) hk162 (fun y0 y1 y2 y3 y4 y5 y6 y7 y8 y9 y10 y11 S' F' I' h9 => ih y0 y1 y2 y3 y4 y5 y6 y7 y8 y9 y10 y11 S' F' I' h9) h
            · have h := h.2 c526
              refine J_iconst C dL_law_529 (rg_of (by decide)) ?_
              refine J_goto C dL_law_530 (tgt := 534) rfl ?_
              refine J_less [vr (some (gX G)), vr (some x1), vr (some x2), vr (some x3), vr (some x4), vr (some x5), vl 0, vi x7, vi x8, vi x9, vi x10, vi x11, vl 0, vi x13, vl 0] (by unfold lessL; simp [lessL]) ?_
              exact S_L_law_534 C M (by omega) hk162 (fun y0 y1 y2 y3 y4 y5 y6 y7 y8 y9 y10 y11 S' F' I' h9 => ih y0 y1 y2 y3 y4 y5 y6 y7 y8 y9 y10 y11 S' F' I' h9) h
set_option maxRecDepth 20000 in
set_option maxHeartbeats 4000000 in
theorem S_L_law_425 {G : Gp} {X : Xt} {d : Nat} {k162 : Nat → Nat → Nat → Nat → Nat → Int → Int → Shp → Fl → Il → Prop} {x1 : Nat} {x2 : Nat} {x3 : Nat} {x4 : Nat} {x5 : Nat} {x6 : Int} {x7 : Int} {x8 : Int} {x9 : Int} {x10 : Int} {x11 : Int} {s0 : Int} {s1 : Int} {s2 : Nat} {Q : Int → Shp → Fl → Il → Prop} {S : Shp} {F : Fl} {I : Il} (C : CO G RL cL_law 15 X) (M : ML d (some .boolean) X) (hd : 15 ≤ d) (hk162 : ∀ (x1 : Nat) (x2 : Nat) (x3 : Nat) (x4 : Nat) (x5 : Nat) (x6 : Int) (x7 : Int) (S' : Shp) (F' : Fl) (I' : Il), k162 x1 x2 x3 x4 x5 x6 x7 S' F' I' → J G X (QD X G (qI fun z S' F' I' => Q z S' F' I') noX) 162 [vr (some (gX G)), vr (some x1), vr (some x2), vr (some x3), vr (some x4), vr (some x5), vi x6, vi x7, vl 0, vl 0, vl 0, vl 0, vl 0, vl 0, vl 0] [] S' F' I') (h : V_L_law_425 G k162 x1 x2 x3 x4 x5 x6 x7 x8 x9 x10 x11 s0 s1 s2 S F I Q) : J G X (QD X G (qI fun z S' F' I' => Q z S' F' I') noX) 425 [vr (some (gX G)), vr (some x1), vr (some x2), vr (some x3), vr (some x4), vr (some x5), vi x6, vi x7, vi x8, vi x9, vi x10, vi x11, vl 0, vl 0, vl 0] [vi s0, vi s1, vr (some s2)] S F I := by
  unfold V_L_law_425 at h
  obtain ⟨hK1, h⟩ := h
  obtain ⟨h02, hn3, h⟩ := h
  have h := h _ rfl
  refine J_iast C dL_law_425 hK1 h02 hn3 ?_
  refine J_aload_n C dL_law_426 rfl rfl ?_
  refine J_iload C dL_law_427 rfl ?_
  refine J_iconst C dL_law_429 (rg_of (by decide)) ?_
  refine J_iadd C dL_law_430 ?_
  refine J_iload C dL_law_431 rfl ?_
  obtain ⟨hK5, h⟩ := h
  obtain ⟨h06, hn7, h⟩ := h
  have h := h _ rfl
  refine J_iast C dL_law_433 hK5 h06 hn7 ?_
  refine J_aload_n C dL_law_434 rfl rfl ?_
  refine J_iload C dL_law_435 rfl ?_
  refine J_iconst C dL_law_437 (rg_of (by decide)) ?_
  refine J_iadd C dL_law_438 ?_
  refine J_iconst C dL_law_439 (rg_of (by decide)) ?_
  obtain ⟨h09, hn10, h⟩ := h
  have h := h _ rfl
  refine J_iast C dL_law_440 hK5 h09 hn10 ?_
  refine J_aload_n C dL_law_441 rfl rfl ?_
  refine J_iload C dL_law_442 rfl ?_
  refine J_bipush C dL_law_444 (by decide +kernel) (rg_of (by decide)) ?_
  refine J_iadd C dL_law_446 ?_
  refine J_iconst C dL_law_447 (rg_of (by decide)) ?_
  obtain ⟨h012, hn13, h⟩ := h
  have h := h _ rfl
  refine J_iast C dL_law_448 hK5 h012 hn13 ?_
  refine J_iconst C dL_law_449 (rg_of (by decide)) ?_
  refine K_istore C [vr (some (gX G)), vr (some x1), vr (some x2), vr (some x3), vr (some x4), vr (some x5), vi x6, vi x7, vi x8, vi x9, vi x10, vi x11, vl 0, vi 0, vl 0] dL_law_450 (Nat.le_of_ble_eq_true rfl) rfl ?_
  obtain ⟨n9, h⟩ := h
  exact S_L_law_452 C M (by omega) n9 hk162 _ _ _ _ _ _ _ _ _ _ _ _ _ _ _ h
set_option maxRecDepth 20000 in
set_option maxHeartbeats 4000000 in
theorem S_L_law_410 {G : Gp} {X : Xt} {d : Nat} {k162 : Nat → Nat → Nat → Nat → Nat → Int → Int → Shp → Fl → Il → Prop} {x1 : Nat} {x2 : Nat} {x3 : Nat} {x4 : Nat} {x5 : Nat} {x7 : Int} {x8 : Int} {x9 : Int} {x10 : Int} {x11 : Int} {s0 : Int} {Q : Int → Shp → Fl → Il → Prop} {S : Shp} {F : Fl} {I : Il} (C : CO G RL cL_law 15 X) (M : ML d (some .boolean) X) (hd : 15 ≤ d) (hk162 : ∀ (x1 : Nat) (x2 : Nat) (x3 : Nat) (x4 : Nat) (x5 : Nat) (x6 : Int) (x7 : Int) (S' : Shp) (F' : Fl) (I' : Il), k162 x1 x2 x3 x4 x5 x6 x7 S' F' I' → J G X (QD X G (qI fun z S' F' I' => Q z S' F' I') noX) 162 [vr (some (gX G)), vr (some x1), vr (some x2), vr (some x3), vr (some x4), vr (some x5), vi x6, vi x7, vl 0, vl 0, vl 0, vl 0, vl 0, vl 0, vl 0] [] S' F' I') (h : V_L_law_410 G k162 x1 x2 x3 x4 x5 x7 x8 x9 x10 x11 s0 S F I Q) : J G X (QD X G (qI fun z S' F' I' => Q z S' F' I') noX) 410 [vr (some (gX G)), vr (some x1), vr (some x2), vr (some x3), vr (some x4), vr (some x5), vl 0, vi x7, vi x8, vi x9, vi x10, vi x11, vl 0, vl 0, vl 0] [vi s0] S F I := by
  unfold V_L_law_410 at h
  refine K_istore C [vr (some (gX G)), vr (some x1), vr (some x2), vr (some x3), vr (some x4), vr (some x5), vi s0, vi x7, vi x8, vi x9, vi x10, vi x11, vl 0, vl 0, vl 0] dL_law_410 (Nat.le_of_ble_eq_true rfl) rfl ?_
  refine J_aload_n C dL_law_412 rfl rfl ?_
  refine J_iload C dL_law_413 rfl ?_
  refine J_iload C dL_law_415 rfl ?_
  refine J_if_eq C dL_law_417 (tgt := 424) rfl (fun c417 => ?_) (fun c417 => ?_)
  · have h := h.1 c417
    refine J_iconst C dL_law_424 (rg_of (by decide)) ?_
    exact S_L_law_425 C M (by omega) hk162 h
  · have h := h.2 c417
    refine J_iconst C dL_law_420 (rg_of (by decide)) ?_
    refine J_goto C dL_law_421 (tgt := 425) rfl ?_
    exact S_L_law_425 C M (by omega) hk162 h
set_option maxRecDepth 20000 in
set_option maxHeartbeats 4000000 in
theorem S_L_law_409 {G : Gp} {X : Xt} {d : Nat} {k162 : Nat → Nat → Nat → Nat → Nat → Int → Int → Shp → Fl → Il → Prop} {x1 : Nat} {x2 : Nat} {x3 : Nat} {x4 : Nat} {x5 : Nat} {x7 : Int} {x8 : Int} {x9 : Int} {x10 : Int} {x11 : Int} {Q : Int → Shp → Fl → Il → Prop} {S : Shp} {F : Fl} {I : Il} (C : CO G RL cL_law 15 X) (M : ML d (some .boolean) X) (hd : 15 ≤ d) (hk162 : ∀ (x1 : Nat) (x2 : Nat) (x3 : Nat) (x4 : Nat) (x5 : Nat) (x6 : Int) (x7 : Int) (S' : Shp) (F' : Fl) (I' : Il), k162 x1 x2 x3 x4 x5 x6 x7 S' F' I' → J G X (QD X G (qI fun z S' F' I' => Q z S' F' I') noX) 162 [vr (some (gX G)), vr (some x1), vr (some x2), vr (some x3), vr (some x4), vr (some x5), vi x6, vi x7, vl 0, vl 0, vl 0, vl 0, vl 0, vl 0, vl 0] [] S' F' I') (h : V_L_law_409 G k162 x1 x2 x3 x4 x5 x7 x8 x9 x10 x11 S F I Q) : J G X (QD X G (qI fun z S' F' I' => Q z S' F' I') noX) 409 [vr (some (gX G)), vr (some x1), vr (some x2), vr (some x3), vr (some x4), vr (some x5), vl 0, vi x7, vi x8, vi x9, vi x10, vi x11, vl 0, vl 0, vl 0] [] S F I := by
  unfold V_L_law_409 at h
  refine J_iconst C dL_law_409 (rg_of (by decide)) ?_
  exact S_L_law_410 C M (by omega) hk162 h
set_option maxRecDepth 20000 in
set_option maxHeartbeats 4000000 in
theorem S_L_law_402 {G : Gp} {X : Xt} {d : Nat} {k162 : Nat → Nat → Nat → Nat → Nat → Int → Int → Shp → Fl → Il → Prop} {x1 : Nat} {x2 : Nat} {x3 : Nat} {x4 : Nat} {x5 : Nat} {x7 : Int} {x8 : Int} {x9 : Int} {x10 : Int} {x11 : Int} {s0 : Int} {s1 : Int} {Q : Int → Shp → Fl → Il → Prop} {S : Shp} {F : Fl} {I : Il} (C : CO G RL cL_law 15 X) (M : ML d (some .boolean) X) (hd : 15 ≤ d) (hk162 : ∀ (x1 : Nat) (x2 : Nat) (x3 : Nat) (x4 : Nat) (x5 : Nat) (x6 : Int) (x7 : Int) (S' : Shp) (F' : Fl) (I' : Il), k162 x1 x2 x3 x4 x5 x6 x7 S' F' I' → J G X (QD X G (qI fun z S' F' I' => Q z S' F' I') noX) 162 [vr (some (gX G)), vr (some x1), vr (some x2), vr (some x3), vr (some x4), vr (some x5), vi x6, vi x7, vl 0, vl 0, vl 0, vl 0, vl 0, vl 0, vl 0] [] S' F' I') (h : V_L_law_402 G k162 x1 x2 x3 x4 x5 x7 x8 x9 x10 x11 s0 s1 S F I Q) : J G X (QD X G (qI fun z S' F' I' => Q z S' F' I') noX) 402 [vr (some (gX G)), vr (some x1), vr (some x2), vr (some x3), vr (some x4), vr (some x5), vl 0, vi x7, vi x8, vi x9, vi x10, vi x11, vl 0, vl 0, vl 0] [vi s0, vi s1] S F I := by
  unfold V_L_law_402 at h
  refine J_icmp_ne C dL_law_402 (tgt := 409) rfl (fun c402 => ?_) (fun c402 => ?_)
  · have h := h.1 c402
    exact S_L_law_409 C M (by omega) hk162 h
  · have h := h.2 c402
    refine J_iconst C dL_law_405 (rg_of (by decide)) ?_
    refine J_goto C dL_law_406 (tgt := 410) rfl ?_
    exact S_L_law_410 C M (by omega) hk162 h
set_option maxRecDepth 20000 in
set_option maxHeartbeats 4000000 in
theorem S_L_law_362 {G : Gp} {X : Xt} {d : Nat} {k162 : Nat → Nat → Nat → Nat → Nat → Int → Int → Shp → Fl → Il → Prop} {k285 : Nat → Nat → Nat → Nat → Nat → Int → Int → Int → Int → Int → Int → Int → Shp → Fl → Il → Prop} {x1 : Nat} {x2 : Nat} {x3 : Nat} {x4 : Nat} {x5 : Nat} {x7 : Int} {x8 : Int} {x9 : Int} {x10 : Int} {x11 : Int} {x12 : Int} {s0 : Int} {Q : Int → Shp → Fl → Il → Prop} {S : Shp} {F : Fl} {I : Il} (C : CO G RL cL_law 15 X) (M : ML d (some .boolean) X) (hd : 15 ≤ d) (hk162 : ∀ (x1 : Nat) (x2 : Nat) (x3 : Nat) (x4 : Nat) (x5 : Nat) (x6 : Int) (x7 : Int) (S' : Shp) (F' : Fl) (I' : Il), k162 x1 x2 x3 x4 x5 x6 x7 S' F' I' → J G X (QD X G (qI fun z S' F' I' => Q z S' F' I') noX) 162 [vr (some (gX G)), vr (some x1), vr (some x2), vr (some x3), vr (some x4), vr (some x5), vi x6, vi x7, vl 0, vl 0, vl 0, vl 0, vl 0, vl 0, vl 0] [] S' F' I') (hk285 : ∀ (x1 : Nat) (x2 : Nat) (x3 : Nat) (x4 : Nat) (x5 : Nat) (x6 : Int) (x7 : Int) (x8 : Int) (x9 : Int) (x10 : Int) (x11 : Int) (x12 : Int) (S' : Shp) (F' : Fl) (I' : Il), k285 x1 x2 x3 x4 x5 x6 x7 x8 x9 x10 x11 x12 S' F' I' → J G X (QD X G (qI fun z S' F' I' => Q z S' F' I') noX) 285 [vr (some (gX G)), vr (some x1), vr (some x2), vr (some x3), vr (some x4), vr (some x5), vi x6, vi x7, vi x8, vi x9, vi x10, vi x11, vi x12, vl 0, vl 0] [] S' F' I') (h : V_L_law_362 G k162 k285 x1 x2 x3 x4 x5 x7 x8 x9 x10 x11 x12 s0 S F I Q) : J G X (QD X G (qI fun z S' F' I' => Q z S' F' I') noX) 362 [vr (some (gX G)), vr (some x1), vr (some x2), vr (some x3), vr (some x4), vr (some x5), vl 0, vi x7, vi x8, vi x9, vi x10, vi x11, vi x12, vl 0, vl 0] [vi s0] S F I := by
  unfold V_L_law_362 at h
  refine K_istore C [vr (some (gX G)), vr (some x1), vr (some x2), vr (some x3), vr (some x4), vr (some x5), vi s0, vi x7, vi x8, vi x9, vi x10, vi x11, vi x12, vl 0, vl 0] dL_law_362 (Nat.le_of_ble_eq_true rfl) rfl ?_
  refine K_iinc C [vr (some (gX G)), vr (some x1), vr (some x2), vr (some x3), vr (some x4), vr (some x5), vi s0, vi x7, vi x8, vi x9, vi x10, vi x11, vi (w32 (x12 + 1)), vl 0, vl 0] dL_law_364 rfl rfl ?_
  refine J_goto C dL_law_367 (tgt := 285) rfl ?_
  exact hk285 x1 x2 x3 x4 x5 s0 x7 x8 x9 x10 x11 (w32 (x12 + 1)) S F I h
set_option maxRecDepth 20000 in
set_option maxHeartbeats 4000000 in
theorem S_L_law_361 {G : Gp} {X : Xt} {d : Nat} {k162 : Nat → Nat → Nat → Nat → Nat → Int → Int → Shp → Fl → Il → Prop} {k285 : Nat → Nat → Nat → Nat → Nat → Int → Int → Int → Int → Int → Int → Int → Shp → Fl → Il → Prop} {x1 : Nat} {x2 : Nat} {x3 : Nat} {x4 : Nat} {x5 : Nat} {x7 : Int} {x8 : Int} {x9 : Int} {x10 : Int} {x11 : Int} {x12 : Int} {Q : Int → Shp → Fl → Il → Prop} {S : Shp} {F : Fl} {I : Il} (C : CO G RL cL_law 15 X) (M : ML d (some .boolean) X) (hd : 15 ≤ d) (hk162 : ∀ (x1 : Nat) (x2 : Nat) (x3 : Nat) (x4 : Nat) (x5 : Nat) (x6 : Int) (x7 : Int) (S' : Shp) (F' : Fl) (I' : Il), k162 x1 x2 x3 x4 x5 x6 x7 S' F' I' → J G X (QD X G (qI fun z S' F' I' => Q z S' F' I') noX) 162 [vr (some (gX G)), vr (some x1), vr (some x2), vr (some x3), vr (some x4), vr (some x5), vi x6, vi x7, vl 0, vl 0, vl 0, vl 0, vl 0, vl 0, vl 0] [] S' F' I') (hk285 : ∀ (x1 : Nat) (x2 : Nat) (x3 : Nat) (x4 : Nat) (x5 : Nat) (x6 : Int) (x7 : Int) (x8 : Int) (x9 : Int) (x10 : Int) (x11 : Int) (x12 : Int) (S' : Shp) (F' : Fl) (I' : Il), k285 x1 x2 x3 x4 x5 x6 x7 x8 x9 x10 x11 x12 S' F' I' → J G X (QD X G (qI fun z S' F' I' => Q z S' F' I') noX) 285 [vr (some (gX G)), vr (some x1), vr (some x2), vr (some x3), vr (some x4), vr (some x5), vi x6, vi x7, vi x8, vi x9, vi x10, vi x11, vi x12, vl 0, vl 0] [] S' F' I') (h : V_L_law_361 G k162 k285 x1 x2 x3 x4 x5 x7 x8 x9 x10 x11 x12 S F I Q) : J G X (QD X G (qI fun z S' F' I' => Q z S' F' I') noX) 361 [vr (some (gX G)), vr (some x1), vr (some x2), vr (some x3), vr (some x4), vr (some x5), vl 0, vi x7, vi x8, vi x9, vi x10, vi x11, vi x12, vl 0, vl 0] [] S F I := by
  unfold V_L_law_361 at h
  refine J_iconst C dL_law_361 (rg_of (by decide)) ?_
  exact S_L_law_362 C M (by omega) hk162 hk285 h
set_option maxRecDepth 20000 in
set_option maxHeartbeats 4000000 in
theorem S_L_law_357 {G : Gp} {X : Xt} {d : Nat} {k162 : Nat → Nat → Nat → Nat → Nat → Int → Int → Shp → Fl → Il → Prop} {k285 : Nat → Nat → Nat → Nat → Nat → Int → Int → Int → Int → Int → Int → Int → Shp → Fl → Il → Prop} {x1 : Nat} {x2 : Nat} {x3 : Nat} {x4 : Nat} {x5 : Nat} {x7 : Int} {x8 : Int} {x9 : Int} {x10 : Int} {x11 : Int} {x12 : Int} {Q : Int → Shp → Fl → Il → Prop} {S : Shp} {F : Fl} {I : Il} (C : CO G RL cL_law 15 X) (M : ML d (some .boolean) X) (hd : 15 ≤ d) (hk162 : ∀ (x1 : Nat) (x2 : Nat) (x3 : Nat) (x4 : Nat) (x5 : Nat) (x6 : Int) (x7 : Int) (S' : Shp) (F' : Fl) (I' : Il), k162 x1 x2 x3 x4 x5 x6 x7 S' F' I' → J G X (QD X G (qI fun z S' F' I' => Q z S' F' I') noX) 162 [vr (some (gX G)), vr (some x1), vr (some x2), vr (some x3), vr (some x4), vr (some x5), vi x6, vi x7, vl 0, vl 0, vl 0, vl 0, vl 0, vl 0, vl 0] [] S' F' I') (hk285 : ∀ (x1 : Nat) (x2 : Nat) (x3 : Nat) (x4 : Nat) (x5 : Nat) (x6 : Int) (x7 : Int) (x8 : Int) (x9 : Int) (x10 : Int) (x11 : Int) (x12 : Int) (S' : Shp) (F' : Fl) (I' : Il), k285 x1 x2 x3 x4 x5 x6 x7 x8 x9 x10 x11 x12 S' F' I' → J G X (QD X G (qI fun z S' F' I' => Q z S' F' I') noX) 285 [vr (some (gX G)), vr (some x1), vr (some x2), vr (some x3), vr (some x4), vr (some x5), vi x6, vi x7, vi x8, vi x9, vi x10, vi x11, vi x12, vl 0, vl 0] [] S' F' I') (h : V_L_law_357 G k162 k285 x1 x2 x3 x4 x5 x7 x8 x9 x10 x11 x12 S F I Q) : J G X (QD X G (qI fun z S' F' I' => Q z S' F' I') noX) 357 [vr (some (gX G)), vr (some x1), vr (some x2), vr (some x3), vr (some x4), vr (some x5), vl 0, vi x7, vi x8, vi x9, vi x10, vi x11, vi x12, vl 0, vl 0] [] S F I := by
  unfold V_L_law_357 at h
  refine J_iconst C dL_law_357 (rg_of (by decide)) ?_
  refine J_goto C dL_law_358 (tgt := 362) rfl ?_
  exact S_L_law_362 C M (by omega) hk162 hk285 h
set_option maxRecDepth 20000 in
set_option maxHeartbeats 4000000 in
theorem S_L_law_334 {G : Gp} {X : Xt} {d : Nat} {k162 : Nat → Nat → Nat → Nat → Nat → Int → Int → Shp → Fl → Il → Prop} {k285 : Nat → Nat → Nat → Nat → Nat → Int → Int → Int → Int → Int → Int → Int → Shp → Fl → Il → Prop} {x1 : Nat} {x2 : Nat} {x3 : Nat} {x4 : Nat} {x5 : Nat} {x6 : Int} {x7 : Int} {x8 : Int} {x9 : Int} {x10 : Int} {x11 : Int} {x12 : Int} {x13 : Int} {s0 : Int} {s1 : Int} {s2 : Int} {s3 : Nat} {Q : Int → Shp → Fl → Il → Prop} {S : Shp} {F : Fl} {I : Il} (C : CO G RL cL_law 15 X) (M : ML d (some .boolean) X) (hd : 15 ≤ d) (hk162 : ∀ (x1 : Nat) (x2 : Nat) (x3 : Nat) (x4 : Nat) (x5 : Nat) (x6 : Int) (x7 : Int) (S' : Shp) (F' : Fl) (I' : Il), k162 x1 x2 x3 x4 x5 x6 x7 S' F' I' → J G X (QD X G (qI fun z S' F' I' => Q z S' F' I') noX) 162 [vr (some (gX G)), vr (some x1), vr (some x2), vr (some x3), vr (some x4), vr (some x5), vi x6, vi x7, vl 0, vl 0, vl 0, vl 0, vl 0, vl 0, vl 0] [] S' F' I') (hk285 : ∀ (x1 : Nat) (x2 : Nat) (x3 : Nat) (x4 : Nat) (x5 : Nat) (x6 : Int) (x7 : Int) (x8 : Int) (x9 : Int) (x10 : Int) (x11 : Int) (x12 : Int) (S' : Shp) (F' : Fl) (I' : Il), k285 x1 x2 x3 x4 x5 x6 x7 x8 x9 x10 x11 x12 S' F' I' → J G X (QD X G (qI fun z S' F' I' => Q z S' F' I') noX) 285 [vr (some (gX G)), vr (some x1), vr (some x2), vr (some x3), vr (some x4), vr (some x5), vi x6, vi x7, vi x8, vi x9, vi x10, vi x11, vi x12, vl 0, vl 0] [] S' F' I') (h : V_L_law_334 G k162 k285 x1 x2 x3 x4 x5 x6 x7 x8 x9 x10 x11 x12 x13 s0 s1 s2 s3 S F I Q) : J G X (QD X G (qI fun z S' F' I' => Q z S' F' I') noX) 334 [vr (some (gX G)), vr (some x1), vr (some x2), vr (some x3), vr (some x4), vr (some x5), vi x6, vi x7, vi x8, vi x9, vi x10, vi x11, vi x12, vi x13, vl 0] [vi s0, vi s1, vi s2, vr (some s3)] S F I := by
  unfold V_L_law_334 at h
  obtain ⟨d, rfl⟩ : ∃ d9, d = d9 + 1 := ⟨d - 1, by omega⟩
  refine J_ior C dL_law_334 ?_
  obtain ⟨hK1, h⟩ := h
  obtain ⟨h02, hn3, h⟩ := h
  have h := h _ rfl
  refine J_iast C dL_law_335 hK1 h02 hn3 ?_
  refine J_iload C dL_law_336 rfl ?_
  refine J_if_eq C dL_law_338 (tgt := 361) rfl (fun c338 => ?_) (fun c338 => ?_)
  · have h := h.1 c338
    refine J_less [vr (some (gX G)), vr (some x1), vr (some x2), vr (some x3), vr (some x4), vr (some x5), vl 0, vi x7, vi x8, vi x9, vi x10, vi x11, vi x12, vl 0, vl 0] (by unfold lessL; simp [lessL]) ?_
    exact S_L_law_361 C M (by omega) hk162 hk285 h
  · have h := h.2 c338
    refine J_iload C dL_law_341 rfl ?_
    refine J_if_eq C dL_law_343 (tgt := 357) rfl (fun c343 => ?_) (fun c343 => ?_)
    · have h := h.1 c343
      refine J_less [vr (some (gX G)), vr (some x1), vr (some x2), vr (some x3), vr (some x4), vr (some x5), vl 0, vi x7, vi x8, vi x9, vi x10, vi x11, vi x12, vl 0, vl 0] (by unfold lessL; simp [lessL]) ?_
      exact S_L_law_357 C M (by omega) hk162 hk285 h
    · have h := h.2 c343
      refine J_aload_n C dL_law_346 rfl rfl ?_
      refine J_iload C dL_law_347 rfl ?_
      refine J_iload C dL_law_349 rfl ?_
      obtain ⟨hK5, h⟩ := h
      refine K_VH C M.1 M.2.1 [vi x7, vi x12] [] mi_X8_learn wg_572 wg_573 wg_574 ⟨rfl, by decide⟩ dL_law_351 hK5 rfl rfl (by decide) (Nat.le_of_ble_eq_true rfl) (c_X8_learn (C.2.2.2.2.2.2.2) (by omega) h) (fun v9 S' F7 I' hq9 => ?_) K_no rfl
      clear h
      obtain ⟨z6, rfl, rfl, rfl, h⟩ := hq9
      refine J_if_le C dL_law_354 (tgt := 361) rfl (fun c354 => ?_) (fun c354 => ?_)
      · have h := h.1 c354
        refine J_less [vr (some (gX G)), vr (some x1), vr (some x2), vr (some x3), vr (some x4), vr (some x5), vl 0, vi x7, vi x8, vi x9, vi x10, vi x11, vi x12, vl 0, vl 0] (by unfold lessL; simp [lessL]) ?_
        exact S_L_law_361 C M (by omega) hk162 hk285 h
      · have h := h.2 c354
        refine J_less [vr (some (gX G)), vr (some x1), vr (some x2), vr (some x3), vr (some x4), vr (some x5), vl 0, vi x7, vi x8, vi x9, vi x10, vi x11, vi x12, vl 0, vl 0] (by unfold lessL; simp [lessL]) ?_
        exact S_L_law_357 C M (by omega) hk162 hk285 h
set_option maxRecDepth 20000 in
set_option maxHeartbeats 4000000 in
theorem S_L_law_311 {G : Gp} {X : Xt} {d : Nat} {k162 : Nat → Nat → Nat → Nat → Nat → Int → Int → Shp → Fl → Il → Prop} {k285 : Nat → Nat → Nat → Nat → Nat → Int → Int → Int → Int → Int → Int → Int → Shp → Fl → Il → Prop} {x1 : Nat} {x2 : Nat} {x3 : Nat} {x4 : Nat} {x5 : Nat} {x6 : Int} {x7 : Int} {x8 : Int} {x9 : Int} {x10 : Int} {x11 : Int} {x12 : Int} {s0 : Int} {Q : Int → Shp → Fl → Il → Prop} {S : Shp} {F : Fl} {I : Il} (C : CO G RL cL_law 15 X) (M : ML d (some .boolean) X) (hd : 15 ≤ d) (hk162 : ∀ (x1 : Nat) (x2 : Nat) (x3 : Nat) (x4 : Nat) (x5 : Nat) (x6 : Int) (x7 : Int) (S' : Shp) (F' : Fl) (I' : Il), k162 x1 x2 x3 x4 x5 x6 x7 S' F' I' → J G X (QD X G (qI fun z S' F' I' => Q z S' F' I') noX) 162 [vr (some (gX G)), vr (some x1), vr (some x2), vr (some x3), vr (some x4), vr (some x5), vi x6, vi x7, vl 0, vl 0, vl 0, vl 0, vl 0, vl 0, vl 0] [] S' F' I') (hk285 : ∀ (x1 : Nat) (x2 : Nat) (x3 : Nat) (x4 : Nat) (x5 : Nat) (x6 : Int) (x7 : Int) (x8 : Int) (x9 : Int) (x10 : Int) (x11 : Int) (x12 : Int) (S' : Shp) (F' : Fl) (I' : Il), k285 x1 x2 x3 x4 x5 x6 x7 x8 x9 x10 x11 x12 S' F' I' → J G X (QD X G (qI fun z S' F' I' => Q z S' F' I') noX) 285 [vr (some (gX G)), vr (some x1), vr (some x2), vr (some x3), vr (some x4), vr (some x5), vi x6, vi x7, vi x8, vi x9, vi x10, vi x11, vi x12, vl 0, vl 0] [] S' F' I') (h : V_L_law_311 G k162 k285 x1 x2 x3 x4 x5 x6 x7 x8 x9 x10 x11 x12 s0 S F I Q) : J G X (QD X G (qI fun z S' F' I' => Q z S' F' I') noX) 311 [vr (some (gX G)), vr (some x1), vr (some x2), vr (some x3), vr (some x4), vr (some x5), vi x6, vi x7, vi x8, vi x9, vi x10, vi x11, vi x12, vl 0, vl 0] [vi s0] S F I := by
  unfold V_L_law_311 at h
  refine K_istore C [vr (some (gX G)), vr (some x1), vr (some x2), vr (some x3), vr (some x4), vr (some x5), vi x6, vi x7, vi x8, vi x9, vi x10, vi x11, vi x12, vi s0, vl 0] dL_law_311 (Nat.le_of_ble_eq_true rfl) rfl ?_
  refine J_aload_n C dL_law_313 rfl rfl ?_
  refine J_iload C dL_law_314 rfl ?_
  refine J_bipush C dL_law_316 (by decide +kernel) (rg_of (by decide)) ?_
  refine J_iadd C dL_law_318 ?_
  refine J_dup2 C dL_law_319 trivial trivial ?_
  obtain ⟨hK1, h⟩ := h
  obtain ⟨h02, hn3, h⟩ := h
  refine J_iald C dL_law_320 hK1 h02 hn3 ?_
  refine J_iload C dL_law_321 rfl ?_
  refine J_if_eq C dL_law_323 (tgt := 333) rfl (fun c323 => ?_) (fun c323 => ?_)
  · have h := h.1 c323
    refine J_iconst C dL_law_333 (rg_of (by decide)) ?_
    exact S_L_law_334 C M (by omega) hk162 hk285 h
  · have h := h.2 c323
    refine J_iconst C dL_law_326 (rg_of (by decide)) ?_
    refine J_iload C dL_law_327 rfl ?_
    refine J_ishl C dL_law_329 ?_
    refine J_goto C dL_law_330 (tgt := 334) rfl ?_
    exact S_L_law_334 C M (by omega) hk162 hk285 h
set_option maxRecDepth 20000 in
set_option maxHeartbeats 4000000 in
theorem S_L_law_285 {G : Gp} {X : Xt} {d : Nat} {k162 : Nat → Nat → Nat → Nat → Nat → Int → Int → Shp → Fl → Il → Prop}  {Q : Int → Shp → Fl → Il → Prop} (C : CO G RL cL_law 15 X) (M : ML d (some .boolean) X) (hd : 15 ≤ d) (n9 : Nat) (hk162 : ∀ (x1 : Nat) (x2 : Nat) (x3 : Nat) (x4 : Nat) (x5 : Nat) (x6 : Int) (x7 : Int) (S' : Shp) (F' : Fl) (I' : Il), k162 x1 x2 x3 x4 x5 x6 x7 S' F' I' → J G X (QD X G (qI fun z S' F' I' => Q z S' F' I') noX) 162 [vr (some (gX G)), vr (some x1), vr (some x2), vr (some x3), vr (some x4), vr (some x5), vi x6, vi x7, vl 0, vl 0, vl 0, vl 0, vl 0, vl 0, vl 0] [] S' F' I') : ∀ (x1 : Nat) (x2 : Nat) (x3 : Nat) (x4 : Nat) (x5 : Nat) (x6 : Int) (x7 : Int) (x8 : Int) (x9 : Int) (x10 : Int) (x11 : Int) (x12 : Int) (S : Shp) (F : Fl) (I : Il), V_L_law_285 G n9 k162 x1 x2 x3 x4 x5 x6 x7 x8 x9 x10 x11 x12 S F I Q → J G X (QD X G (qI fun z S' F' I' => Q z S' F' I') noX) 285 [vr (some (gX G)), vr (some x1), vr (some x2), vr (some x3), vr (some x4), vr (some x5), vi x6, vi x7, vi x8, vi x9, vi x10, vi x11, vi x12, vl 0, vl 0] [] S F I := by
  obtain ⟨d, rfl⟩ : ∃ d9, d = d9 + 1 := ⟨d - 1, by omega⟩
  induction n9 with
  | zero => intro x1 x2 x3 x4 x5 x6 x7 x8 x9 x10 x11 x12 S F I h; exact h.elim
  | succ n ih =>
    intro x1 x2 x3 x4 x5 x6 x7 x8 x9 x10 x11 x12 S F I h
    unfold V_L_law_285 at h
    refine J_iload C dL_law_285 rfl ?_
    refine J_iconst C dL_law_287 (rg_of (by decide)) ?_
    refine J_icmp_ge C dL_law_288 (tgt := 370) rfl (fun c288 => ?_) (fun c288 => ?_)
    · have h := h.1 c288
      refine J_aload_n C dL_law_370 rfl rfl ?_
      refine J_iconst C dL_law_371 (rg_of (by decide)) ?_
      refine J_iload C dL_law_372 rfl ?_
      refine J_iload C dL_law_374 rfl ?_
      refine J_iconst C dL_law_376 (rg_of (by decide)) ?_
      refine K_SW C M.1 M.2.1 [vr (some x1), vi 0, vi x7, vi x7, vi 0] [] miw_L_calls wg_770 wg_771 dL_law_377 rfl rfl (by decide) (Nat.le_of_ble_eq_true rfl) (c_L_calls (C.2.2.2.2.2.2.2) (by omega) h) (fun v9 S2 F3 I4 hq9 => ?_) rfl
      clear h
      obtain ⟨z1, rfl, h⟩ := hq9
      refine K_istore C [vr (some (gX G)), vr (some x1), vr (some x2), vr (some x3), vr (some x4), vr (some x5), vi x6, vi x7, vi x8, vi x9, vi x10, vi x11, vi z1, vl 0, vl 0] dL_law_380 (Nat.le_of_ble_eq_true rfl) rfl ?_
      refine J_iload C dL_law_382 rfl ?_
      refine J_if_eq C dL_law_384 (tgt := 409) rfl (fun c384 => ?_) (fun c384 => ?_)
      · have h := h.1 c384
        refine J_less [vr (some (gX G)), vr (some x1), vr (some x2), vr (some x3), vr (some x4), vr (some x5), vl 0, vi x7, vi x8, vi x9, vi x10, vi x11, vl 0, vl 0, vl 0] (by unfold lessL; simp [lessL]) ?_
        exact S_L_law_409 C M (by omega) hk162 h
      · have h := h.2 c384
        refine J_iload C dL_law_387 rfl ?_
        refine J_iload C dL_law_389 rfl ?_
        refine J_if_eq C dL_law_391 (tgt := 399) rfl (fun c391 => ?_) (fun c391 => ?_)
        · have h := h.1 c391
          refine J_sipush C dL_law_399 (by decide +kernel) (rg_of (by decide)) ?_
          refine J_less [vr (some (gX G)), vr (some x1), vr (some x2), vr (some x3), vr (some x4), vr (some x5), vl 0, vi x7, vi x8, vi x9, vi x10, vi x11, vl 0, vl 0, vl 0] (by unfold lessL; simp [lessL]) ?_
          exact S_L_law_402 C M (by omega) hk162 h
        · have h := h.2 c391
          refine J_iload C dL_law_394 rfl ?_
          refine J_goto C dL_law_396 (tgt := 402) rfl ?_
          refine J_less [vr (some (gX G)), vr (some x1), vr (some x2), vr (some x3), vr (some x4), vr (some x5), vl 0, vi x7, vi x8, vi x9, vi x10, vi x11, vl 0, vl 0, vl 0] (by unfold lessL; simp [lessL]) ?_
          exact S_L_law_402 C M (by omega) hk162 h
    · have h := h.2 c288
      refine J_iload C dL_law_291 rfl ?_
      refine J_iconst C dL_law_293 (rg_of (by decide)) ?_
      refine J_iload C dL_law_294 rfl ?_
      refine J_iadd C dL_law_296 ?_
      refine J_ishr C dL_law_297 ?_
      refine J_bipush C dL_law_298 (by decide +kernel) (rg_of (by decide)) ?_
      refine K_SH C M.1 M.2.1 [vi (ishr x8 (w32 (4 + x12))), vi 6] [] mi_L_low wg_766 wg_767 dL_law_300 rfl rfl (by decide) (Nat.le_of_ble_eq_true rfl) (c_L_low (C.2.2.2.2.2.2.2) (by omega) h) (fun v9 S' F' I' hq9 => ?_) K_no rfl
      clear h
      obtain ⟨z5, rfl, rfl, rfl, rfl, h⟩ := hq9
      refine J_if_le C dL_law_303 (tgt := 310) rfl (fun c303 => ?_) (fun c303 => ?_)
      · have h := h.1 c303
        refine J_iconst C dL_law_310 (rg_of (by decide)) ?_
        exact S_L_law_311 C M (by omega) hk162 (fun y0 y1 y2 y3 y4 y5 y6 y7 y8 y9 y10 y11 S' F' I' h9 => ih y0 y1 y2 y3 y4 y5 y6 y7 y8 y9 y10 y11 S' F' I' h9) h
      · have h := h.2 c303
        refine J_iconst C dL_law_306 (rg_of (by decide)) ?_
        refine J_goto C dL_law_307 (tgt := 311) rfl ?_
        exact S_L_law_311 C M (by omega) hk162 (fun y0 y1 y2 y3 y4 y5 y6 y7 y8 y9 y10 y11 S' F' I' h9 => ih y0 y1 y2 y3 y4 y5 y6 y7 y8 y9 y10 y11 S' F' I' h9) h
set_option maxRecDepth 20000 in
set_option maxHeartbeats 4000000 in
theorem S_L_law_280 {G : Gp} {X : Xt} {d : Nat} {k162 : Nat → Nat → Nat → Nat → Nat → Int → Int → Shp → Fl → Il → Prop} {x1 : Nat} {x2 : Nat} {x3 : Nat} {x4 : Nat} {x5 : Nat} {x7 : Int} {x8 : Int} {x9 : Int} {x10 : Int} {x11 : Int} {s0 : Int} {Q : Int → Shp → Fl → Il → Prop} {S : Shp} {F : Fl} {I : Il} (C : CO G RL cL_law 15 X) (M : ML d (some .boolean) X) (hd : 15 ≤ d) (hk162 : ∀ (x1 : Nat) (x2 : Nat) (x3 : Nat) (x4 : Nat) (x5 : Nat) (x6 : Int) (x7 : Int) (S' : Shp) (F' : Fl) (I' : Il), k162 x1 x2 x3 x4 x5 x6 x7 S' F' I' → J G X (QD X G (qI fun z S' F' I' => Q z S' F' I') noX) 162 [vr (some (gX G)), vr (some x1), vr (some x2), vr (some x3), vr (some x4), vr (some x5), vi x6, vi x7, vl 0, vl 0, vl 0, vl 0, vl 0, vl 0, vl 0] [] S' F' I') (h : V_L_law_280 G k162 x1 x2 x3 x4 x5 x7 x8 x9 x10 x11 s0 S F I Q) : J G X (QD X G (qI fun z S' F' I' => Q z S' F' I') noX) 280 [vr (some (gX G)), vr (some x1), vr (some x2), vr (some x3), vr (some x4), vr (some x5), vl 0, vi x7, vi x8, vi x9, vi x10, vi x11, vl 0, vl 0, vl 0] [vi s0] S F I := by
  unfold V_L_law_280 at h
  refine K_istore C [vr (some (gX G)), vr (some x1), vr (some x2), vr (some x3), vr (some x4), vr (some x5), vi s0, vi x7, vi x8, vi x9, vi x10, vi x11, vl 0, vl 0, vl 0] dL_law_280 (Nat.le_of_ble_eq_true rfl) rfl ?_
  refine J_iconst C dL_law_282 (rg_of (by decide)) ?_
  refine K_istore C [vr (some (gX G)), vr (some x1), vr (some x2), vr (some x3), vr (some x4), vr (some x5), vi s0, vi x7, vi x8, vi x9, vi x10, vi x11, vi 0, vl 0, vl 0] dL_law_283 (Nat.le_of_ble_eq_true rfl) rfl ?_
  obtain ⟨n9, h⟩ := h
  exact S_L_law_285 C M (by omega) n9 hk162 _ _ _ _ _ _ _ _ _ _ _ _ _ _ _ h
set_option maxRecDepth 20000 in
set_option maxHeartbeats 4000000 in
theorem S_L_law_279 {G : Gp} {X : Xt} {d : Nat} {k162 : Nat → Nat → Nat → Nat → Nat → Int → Int → Shp → Fl → Il → Prop} {x1 : Nat} {x2 : Nat} {x3 : Nat} {x4 : Nat} {x5 : Nat} {x7 : Int} {x8 : Int} {x9 : Int} {x10 : Int} {x11 : Int} {Q : Int → Shp → Fl → Il → Prop} {S : Shp} {F : Fl} {I : Il} (C : CO G RL cL_law 15 X) (M : ML d (some .boolean) X) (hd : 15 ≤ d) (hk162 : ∀ (x1 : Nat) (x2 : Nat) (x3 : Nat) (x4 : Nat) (x5 : Nat) (x6 : Int) (x7 : Int) (S' : Shp) (F' : Fl) (I' : Il), k162 x1 x2 x3 x4 x5 x6 x7 S' F' I' → J G X (QD X G (qI fun z S' F' I' => Q z S' F' I') noX) 162 [vr (some (gX G)), vr (some x1), vr (some x2), vr (some x3), vr (some x4), vr (some x5), vi x6, vi x7, vl 0, vl 0, vl 0, vl 0, vl 0, vl 0, vl 0] [] S' F' I') (h : V_L_law_279 G k162 x1 x2 x3 x4 x5 x7 x8 x9 x10 x11 S F I Q) : J G X (QD X G (qI fun z S' F' I' => Q z S' F' I') noX) 279 [vr (some (gX G)), vr (some x1), vr (some x2), vr (some x3), vr (some x4), vr (some x5), vl 0, vi x7, vi x8, vi x9, vi x10, vi x11, vl 0, vl 0, vl 0] [] S F I := by
  unfold V_L_law_279 at h
  refine J_iconst C dL_law_279 (rg_of (by decide)) ?_
  exact S_L_law_280 C M (by omega) hk162 h
set_option maxRecDepth 20000 in
set_option maxHeartbeats 4000000 in
theorem S_L_law_208 {G : Gp} {X : Xt} {d : Nat} {k162 : Nat → Nat → Nat → Nat → Nat → Int → Int → Shp → Fl → Il → Prop} {x1 : Nat} {x2 : Nat} {x3 : Nat} {x4 : Nat} {x5 : Nat} {x6 : Int} {x7 : Int} {x8 : Int} {x9 : Int} {x10 : Int} {s0 : Int} {Q : Int → Shp → Fl → Il → Prop} {S : Shp} {F : Fl} {I : Il} (C : CO G RL cL_law 15 X) (M : ML d (some .boolean) X) (hd : 15 ≤ d) (hk162 : ∀ (x1 : Nat) (x2 : Nat) (x3 : Nat) (x4 : Nat) (x5 : Nat) (x6 : Int) (x7 : Int) (S' : Shp) (F' : Fl) (I' : Il), k162 x1 x2 x3 x4 x5 x6 x7 S' F' I' → J G X (QD X G (qI fun z S' F' I' => Q z S' F' I') noX) 162 [vr (some (gX G)), vr (some x1), vr (some x2), vr (some x3), vr (some x4), vr (some x5), vi x6, vi x7, vl 0, vl 0, vl 0, vl 0, vl 0, vl 0, vl 0] [] S' F' I') (h : V_L_law_208 G k162 x1 x2 x3 x4 x5 x6 x7 x8 x9 x10 s0 S F I Q) : J G X (QD X G (qI fun z S' F' I' => Q z S' F' I') noX) 208 [vr (some (gX G)), vr (some x1), vr (some x2), vr (some x3), vr (some x4), vr (some x5), vi x6, vi x7, vi x8, vi x9, vi x10, vl 0, vl 0, vl 0, vl 0] [vi s0] S F I := by
  unfold V_L_law_208 at h
  obtain ⟨d, rfl⟩ : ∃ d9, d = d9 + 1 := ⟨d - 1, by omega⟩
  refine K_istore C [vr (some (gX G)), vr (some x1), vr (some x2), vr (some x3), vr (some x4), vr (some x5), vi x6, vi x7, vi x8, vi x9, vi x10, vi s0, vl 0, vl 0, vl 0] dL_law_208 (Nat.le_of_ble_eq_true rfl) rfl ?_
  refine J_aload_n C dL_law_210 rfl rfl ?_
  refine J_iload C dL_law_211 rfl ?_
  refine J_iconst C dL_law_213 (rg_of (by decide)) ?_
  refine J_iadd C dL_law_214 ?_
  refine J_iconst C dL_law_215 (rg_of (by decide)) ?_
  refine J_iload C dL_law_216 rfl ?_
  refine J_iconst C dL_law_218 (rg_of (by decide)) ?_
  refine J_ishr C dL_law_219 ?_
  refine J_iconst C dL_law_220 (rg_of (by decide)) ?_
  refine K_SH C M.1 M.2.1 [vi (ishr x8 2), vi 3] [vi 1, vi (w32 (x9 + 1)), vr (some x3)] mi_L_low wg_766 wg_767 dL_law_221 rfl rfl (by decide) (Nat.le_of_ble_eq_true rfl) (c_L_low (C.2.2.2.2.2.2.2) (by omega) h) (fun v9 S' F' I' hq9 => ?_) K_no rfl
  clear h
  obtain ⟨z1, rfl, rfl, rfl, rfl, h⟩ := hq9
  refine J_iadd C dL_law_224 ?_
  obtain ⟨hK2, h⟩ := h
  obtain ⟨h03, hn4, h⟩ := h
  have h := h _ rfl
  refine J_iast C dL_law_225 hK2 h03 hn4 ?_
  refine J_aload C dL_law_226 rfl ?_
  refine J_iconst C dL_law_228 (rg_of (by decide)) ?_
  refine J_dup2 C dL_law_229 trivial trivial ?_
  obtain ⟨hK6, h⟩ := h
  obtain ⟨h07, hn8, h⟩ := h
  refine J_iald C dL_law_230 hK6 h07 hn8 ?_
  refine J_bipush C dL_law_231 (by decide +kernel) (rg_of (by decide)) ?_
  refine J_aload_n C dL_law_233 rfl rfl ?_
  refine J_iload C dL_law_234 rfl ?_
  refine J_iconst C dL_law_236 (rg_of (by decide)) ?_
  refine J_iadd C dL_law_237 ?_
  obtain ⟨h09, hn10, h⟩ := h
  refine J_iald C dL_law_238 hK2 h09 hn10 ?_
  refine J_imul C dL_law_239 ?_
  refine J_isub C dL_law_240 ?_
  obtain ⟨h011, hn12, h⟩ := h
  have h := h _ rfl
  refine J_iast C dL_law_241 hK6 h011 hn12 ?_
  refine J_iload C dL_law_242 rfl ?_
  refine J_if_eq C dL_law_244 (tgt := 279) rfl (fun c244 => ?_) (fun c244 => ?_)
  · have h := h.1 c244
    refine J_less [vr (some (gX G)), vr (some x1), vr (some x2), vr (some x3), vr (some x4), vr (some x5), vl 0, vi x7, vi x8, vi x9, vi x10, vi s0, vl 0, vl 0, vl 0] (by unfold lessL; simp [lessL]) ?_
    exact S_L_law_279 C M (by omega) hk162 h
  · have h := h.2 c244
    refine J_aload_n C dL_law_247 rfl rfl ?_
    refine J_iload C dL_law_248 rfl ?_
    refine J_aload_n C dL_law_250 rfl rfl ?_
    refine J_iload C dL_law_251 rfl ?_
    refine J_iconst C dL_law_253 (rg_of (by decide)) ?_
    refine J_iadd C dL_law_254 ?_
    obtain ⟨h014, hn15, h⟩ := h
    refine J_iald C dL_law_255 hK2 h014 hn15 ?_
    obtain ⟨hK16, h⟩ := h
    refine K_VH C M.1 M.2.1 [vi x10, vi ((ui (ui I x3 (w32 (x9 + 1)) (w32 (1 + z1))) x5 1 (w32 (((ui I x3 (w32 (x9 + 1)) (w32 (1 + z1))) x5 1) - (w32 (100 * ((ui I x3 (w32 (x9 + 1)) (w32 (1 + z1))) x3 (w32 (x9 + 1)))))))) x3 (w32 (x9 + 1)))] [] mi_X8_engine wg_518 wg_519 wg_520 ⟨rfl, by decide⟩ dL_law_256 hK16 rfl rfl (by decide) (Nat.le_of_ble_eq_true rfl) (c_X8_engine (C.2.2.2.2.2.2.2) (by omega) h) (fun v9 S18 F19 I20 hq9 => ?_) K_no rfl
    clear h
    obtain ⟨z17, rfl, h⟩ := hq9
    refine J_iload C dL_law_259 rfl ?_
    refine J_icmp_ne C dL_law_261 (tgt := 279) rfl (fun c261 => ?_) (fun c261 => ?_)
    · have h := h.1 c261
      refine J_less [vr (some (gX G)), vr (some x1), vr (some x2), vr (some x3), vr (some x4), vr (some x5), vl 0, vi x7, vi x8, vi x9, vi x10, vi s0, vl 0, vl 0, vl 0] (by unfold lessL; simp [lessL]) ?_
      exact S_L_law_279 C M (by omega) hk162 h
    · have h := h.2 c261
      refine J_aload_n C dL_law_264 rfl rfl ?_
      refine J_iload C dL_law_265 rfl ?_
      obtain ⟨hK21, h⟩ := h
      refine K_VH C M.1 M.2.1 [vi x10] [] mi_X8_crew wg_541 wg_542 wg_543 ⟨rfl, by decide⟩ dL_law_267 hK21 rfl rfl (by decide) (Nat.le_of_ble_eq_true rfl) (c_X8_crew (C.2.2.2.2.2.2.2) (by omega) h) (fun v9 S23 F24 I25 hq9 => ?_) K_no rfl
      clear h
      obtain ⟨z22, rfl, h⟩ := hq9
      refine J_iload C dL_law_270 rfl ?_
      refine J_icmp_ne C dL_law_272 (tgt := 279) rfl (fun c272 => ?_) (fun c272 => ?_)
      · have h := h.1 c272
        refine J_less [vr (some (gX G)), vr (some x1), vr (some x2), vr (some x3), vr (some x4), vr (some x5), vl 0, vi x7, vi x8, vi x9, vi x10, vi s0, vl 0, vl 0, vl 0] (by unfold lessL; simp [lessL]) ?_
        exact S_L_law_279 C M (by omega) hk162 h
      · have h := h.2 c272
        refine J_iconst C dL_law_275 (rg_of (by decide)) ?_
        refine J_goto C dL_law_276 (tgt := 280) rfl ?_
        refine J_less [vr (some (gX G)), vr (some x1), vr (some x2), vr (some x3), vr (some x4), vr (some x5), vl 0, vi x7, vi x8, vi x9, vi x10, vi s0, vl 0, vl 0, vl 0] (by unfold lessL; simp [lessL]) ?_
        exact S_L_law_280 C M (by omega) hk162 h
set_option maxRecDepth 20000 in
set_option maxHeartbeats 4000000 in
theorem S_L_law_162 {G : Gp} {X : Xt} {d : Nat}   {Q : Int → Shp → Fl → Il → Prop} (C : CO G RL cL_law 15 X) (M : ML d (some .boolean) X) (hd : 15 ≤ d) (n9 : Nat)  : ∀ (x1 : Nat) (x2 : Nat) (x3 : Nat) (x4 : Nat) (x5 : Nat) (x6 : Int) (x7 : Int) (S : Shp) (F : Fl) (I : Il), V_L_law_162 G n9 x1 x2 x3 x4 x5 x6 x7 S F I Q → J G X (QD X G (qI fun z S' F' I' => Q z S' F' I') noX) 162 [vr (some (gX G)), vr (some x1), vr (some x2), vr (some x3), vr (some x4), vr (some x5), vi x6, vi x7, vl 0, vl 0, vl 0, vl 0, vl 0, vl 0, vl 0] [] S F I := by
  obtain ⟨d, rfl⟩ : ∃ d9, d = d9 + 1 := ⟨d - 1, by omega⟩
  induction n9 with
  | zero => intro x1 x2 x3 x4 x5 x6 x7 S F I h; exact h.elim
  | succ n ih =>
    intro x1 x2 x3 x4 x5 x6 x7 S F I h
    unfold V_L_law_162 at h
    refine J_iload C dL_law_162 rfl ?_
    refine J_iconst C dL_law_164 (rg_of (by decide)) ?_
    refine J_icmp_ge C dL_law_165 (tgt := 548) rfl (fun c165 => ?_) (fun c165 => ?_)
    · have h := h.1 c165
      refine J_iconst C dL_law_548 (rg_of (by decide)) ?_
      refine K_istore C [vr (some (gX G)), vr (some x1), vr (some x2), vr (some x3), vr (some x4), vr (some x5), vi x6, vi 0, vl 0, vl 0, vl 0, vl 0, vl 0, vl 0, vl 0] dL_law_549 (Nat.le_of_ble_eq_true rfl) rfl ?_
      obtain ⟨n9, h⟩ := h
      exact S_L_law_551 C M (by omega) n9  _ _ _ _ _ _ _ _ _ _ h
    · have h := h.2 c165
      refine J_aload_n C dL_law_168 rfl rfl ?_
      refine J_iconst C dL_law_169 (rg_of (by decide)) ?_
      refine J_iload C dL_law_170 rfl ?_
      refine J_iadd C dL_law_172 ?_
      refine K_SH C M.1 M.2.1 [vr (some (gX G)), vi (w32 (4 + x7))] [] mi_L_cell wg_761 wg_762 dL_law_173 rfl rfl (by decide) (Nat.le_of_ble_eq_true rfl) (c_L_cell (C.2.2.2.2.2.2.2) (by omega) h) (fun v9 S' F' I' hq9 => ?_) K_no rfl
      clear h
      obtain ⟨z1, rfl, rfl, rfl, rfl, h⟩ := hq9
      refine K_istore C [vr (some (gX G)), vr (some x1), vr (some x2), vr (some x3), vr (some x4), vr (some x5), vi x6, vi x7, vi z1, vl 0, vl 0, vl 0, vl 0, vl 0, vl 0] dL_law_176 (Nat.le_of_ble_eq_true rfl) rfl ?_
      refine J_bipush C dL_law_178 (by decide +kernel) (rg_of (by decide)) ?_
      refine J_iload C dL_law_180 rfl ?_
      refine J_imul C dL_law_182 ?_
      have h := h _ rfl
      refine K_istore C [vr (some (gX G)), vr (some x1), vr (some x2), vr (some x3), vr (some x4), vr (some x5), vi x6, vi x7, vi z1, vi (w32 (16 * x7)), vl 0, vl 0, vl 0, vl 0, vl 0] dL_law_183 (Nat.le_of_ble_eq_true rfl) rfl ?_
      refine J_iload C dL_law_185 rfl ?_
      refine J_iconst C dL_law_187 (rg_of (by decide)) ?_
      refine K_SH C M.1 M.2.1 [vi z1, vi 4] [] mi_L_low wg_766 wg_767 dL_law_188 rfl rfl (by decide) (Nat.le_of_ble_eq_true rfl) (c_L_low (C.2.2.2.2.2.2.2) (by omega) h) (fun v9 S' F' I' hq9 => ?_) K_no rfl
      clear h
      obtain ⟨z3, rfl, rfl, rfl, rfl, h⟩ := hq9
      refine K_istore C [vr (some (gX G)), vr (some x1), vr (some x2), vr (some x3), vr (some x4), vr (some x5), vi x6, vi x7, vi z1, vi (w32 (16 * x7)), vi z3, vl 0, vl 0, vl 0, vl 0] dL_law_191 (Nat.le_of_ble_eq_true rfl) rfl ?_
      refine J_iload C dL_law_193 rfl ?_
      refine J_aload_n C dL_law_195 rfl rfl ?_
      refine K_SH C M.1 M.2.1 [vi z3, vr (some x3)] [] mi_L_taken wg_840 wg_841 dL_law_196 rfl rfl (by decide) (Nat.le_of_ble_eq_true rfl) (c_L_taken (C.2.2.2.2.2.2.2) (by omega) h) (fun v9 S' F' I' hq9 => ?_) K_no rfl
      clear h
      obtain ⟨z4, rfl, rfl, rfl, rfl, h⟩ := hq9
      refine J_iconst C dL_law_199 (rg_of (by decide)) ?_
      refine J_icmp_ge C dL_law_200 (tgt := 207) rfl (fun c200 => ?_) (fun c200 => ?_)
      · have h := h.1 c200
        refine J_iconst C dL_law_207 (rg_of (by decide)) ?_
        exact S_L_law_208 C M (by omega) (fun y0 y1 y2 y3 y4 y5 y6 S' F' I' h9 => ih y0 y1 y2 y3 y4 y5 y6 S' F' I' h9) h
      · have h := h.2 c200
        refine J_iconst C dL_law_203 (rg_of (by decide)) ?_
        refine J_goto C dL_law_204 (tgt := 208) rfl ?_
        exact S_L_law_208 C M (by omega) (fun y0 y1 y2 y3 y4 y5 y6 S' F' I' h9 => ih y0 y1 y2 y3 y4 y5 y6 S' F' I' h9) h
set_option maxRecDepth 20000 in
set_option maxHeartbeats 4000000 in
theorem S_L_law_151 {G : Gp} {X : Xt} {d : Nat} {k43 : Nat → Nat → Nat → Nat → Nat → Int → Int → Shp → Fl → Il → Prop} {x1 : Nat} {x2 : Nat} {x3 : Nat} {x4 : Nat} {x5 : Nat} {x7 : Int} {s0 : Int} {Q : Int → Shp → Fl → Il → Prop} {S : Shp} {F : Fl} {I : Il} (C : CO G RL cL_law 15 X) (M : ML d (some .boolean) X) (hd : 15 ≤ d) (hk43 : ∀ (x1 : Nat) (x2 : Nat) (x3 : Nat) (x4 : Nat) (x5 : Nat) (x6 : Int) (x7 : Int) (S' : Shp) (F' : Fl) (I' : Il), k43 x1 x2 x3 x4 x5 x6 x7 S' F' I' → J G X (QD X G (qI fun z S' F' I' => Q z S' F' I') noX) 43 [vr (some (gX G)), vr (some x1), vr (some x2), vr (some x3), vr (some x4), vr (some x5), vi x6, vi x7, vl 0, vl 0, vl 0, vl 0, vl 0, vl 0, vl 0] [] S' F' I') (h : V_L_law_151 G k43 x1 x2 x3 x4 x5 x7 s0 S F I Q) : J G X (QD X G (qI fun z S' F' I' => Q z S' F' I') noX) 151 [vr (some (gX G)), vr (some x1), vr (some x2), vr (some x3), vr (some x4), vr (some x5), vl 0, vi x7, vl 0, vl 0, vl 0, vl 0, vl 0, vl 0, vl 0] [vi s0] S F I := by
  unfold V_L_law_151 at h
  refine K_istore C [vr (some (gX G)), vr (some x1), vr (some x2), vr (some x3), vr (some x4), vr (some x5), vi s0, vi x7, vl 0, vl 0, vl 0, vl 0, vl 0, vl 0, vl 0] dL_law_151 (Nat.le_of_ble_eq_true rfl) rfl ?_
  refine K_iinc C [vr (some (gX G)), vr (some x1), vr (some x2), vr (some x3), vr (some x4), vr (some x5), vi s0, vi (w32 (x7 + 1)), vl 0, vl 0, vl 0, vl 0, vl 0, vl 0, vl 0] dL_law_153 rfl rfl ?_
  refine J_goto C dL_law_156 (tgt := 43) rfl ?_
  exact hk43 x1 x2 x3 x4 x5 s0 (w32 (x7 + 1)) S F I h
set_option maxRecDepth 20000 in
set_option maxHeartbeats 4000000 in
theorem S_L_law_150 {G : Gp} {X : Xt} {d : Nat} {k43 : Nat → Nat → Nat → Nat → Nat → Int → Int → Shp → Fl → Il → Prop} {x1 : Nat} {x2 : Nat} {x3 : Nat} {x4 : Nat} {x5 : Nat} {x7 : Int} {Q : Int → Shp → Fl → Il → Prop} {S : Shp} {F : Fl} {I : Il} (C : CO G RL cL_law 15 X) (M : ML d (some .boolean) X) (hd : 15 ≤ d) (hk43 : ∀ (x1 : Nat) (x2 : Nat) (x3 : Nat) (x4 : Nat) (x5 : Nat) (x6 : Int) (x7 : Int) (S' : Shp) (F' : Fl) (I' : Il), k43 x1 x2 x3 x4 x5 x6 x7 S' F' I' → J G X (QD X G (qI fun z S' F' I' => Q z S' F' I') noX) 43 [vr (some (gX G)), vr (some x1), vr (some x2), vr (some x3), vr (some x4), vr (some x5), vi x6, vi x7, vl 0, vl 0, vl 0, vl 0, vl 0, vl 0, vl 0] [] S' F' I') (h : V_L_law_150 G k43 x1 x2 x3 x4 x5 x7 S F I Q) : J G X (QD X G (qI fun z S' F' I' => Q z S' F' I') noX) 150 [vr (some (gX G)), vr (some x1), vr (some x2), vr (some x3), vr (some x4), vr (some x5), vl 0, vi x7, vl 0, vl 0, vl 0, vl 0, vl 0, vl 0, vl 0] [] S F I := by
  unfold V_L_law_150 at h
  refine J_iconst C dL_law_150 (rg_of (by decide)) ?_
  exact S_L_law_151 C M (by omega) hk43 h
set_option maxRecDepth 20000 in
set_option maxHeartbeats 4000000 in
theorem S_L_law_43 {G : Gp} {X : Xt} {d : Nat}   {Q : Int → Shp → Fl → Il → Prop} (C : CO G RL cL_law 15 X) (M : ML d (some .boolean) X) (hd : 15 ≤ d) (n9 : Nat)  : ∀ (x1 : Nat) (x2 : Nat) (x3 : Nat) (x4 : Nat) (x5 : Nat) (x6 : Int) (x7 : Int) (S : Shp) (F : Fl) (I : Il), V_L_law_43 G n9 x1 x2 x3 x4 x5 x6 x7 S F I Q → J G X (QD X G (qI fun z S' F' I' => Q z S' F' I') noX) 43 [vr (some (gX G)), vr (some x1), vr (some x2), vr (some x3), vr (some x4), vr (some x5), vi x6, vi x7, vl 0, vl 0, vl 0, vl 0, vl 0, vl 0, vl 0] [] S F I := by
  obtain ⟨d, rfl⟩ : ∃ d9, d = d9 + 1 := ⟨d - 1, by omega⟩
  induction n9 with
  | zero => intro x1 x2 x3 x4 x5 x6 x7 S F I h; exact h.elim
  | succ n ih =>
    intro x1 x2 x3 x4 x5 x6 x7 S F I h
    unfold V_L_law_43 at h
    refine J_iload C dL_law_43 rfl ?_
    refine J_iconst C dL_law_45 (rg_of (by decide)) ?_
    refine J_icmp_ge C dL_law_46 (tgt := 159) rfl (fun c46 => ?_) (fun c46 => ?_)
    · have h := h.1 c46
      refine J_iconst C dL_law_159 (rg_of (by decide)) ?_
      refine K_istore C [vr (some (gX G)), vr (some x1), vr (some x2), vr (some x3), vr (some x4), vr (some x5), vi x6, vi 0, vl 0, vl 0, vl 0, vl 0, vl 0, vl 0, vl 0] dL_law_160 (Nat.le_of_ble_eq_true rfl) rfl ?_
      obtain ⟨n9, h⟩ := h
      exact S_L_law_162 C M (by omega) n9  _ _ _ _ _ _ _ _ _ _ h
    · have h := h.2 c46
      refine J_aload_n C dL_law_49 rfl rfl ?_
      refine J_iload C dL_law_50 rfl ?_
      refine K_SH C M.1 M.2.1 [vr (some (gX G)), vi x7] [] mi_L_cell wg_761 wg_762 dL_law_52 rfl rfl (by decide) (Nat.le_of_ble_eq_true rfl) (c_L_cell (C.2.2.2.2.2.2.2) (by omega) h) (fun v9 S' F' I' hq9 => ?_) K_no rfl
      clear h
      obtain ⟨z1, rfl, rfl, rfl, rfl, h⟩ := hq9
      refine K_istore C [vr (some (gX G)), vr (some x1), vr (some x2), vr (some x3), vr (some x4), vr (some x5), vi x6, vi x7, vi z1, vl 0, vl 0, vl 0, vl 0, vl 0, vl 0] dL_law_55 (Nat.le_of_ble_eq_true rfl) rfl ?_
      refine J_aload_n C dL_law_57 rfl rfl ?_
      refine J_iload C dL_law_58 rfl ?_
      refine J_iconst C dL_law_60 (rg_of (by decide)) ?_
      refine J_iload C dL_law_61 rfl ?_
      refine J_bipush C dL_law_63 (by decide +kernel) (rg_of (by decide)) ?_
      refine K_SH C M.1 M.2.1 [vi z1, vi 9] [vi 2, vi x7, vr (some x2)] mi_L_low wg_766 wg_767 dL_law_65 rfl rfl (by decide) (Nat.le_of_ble_eq_true rfl) (c_L_low (C.2.2.2.2.2.2.2) (by omega) h) (fun v9 S' F' I' hq9 => ?_) K_no rfl
      clear h
      obtain ⟨z2, rfl, rfl, rfl, rfl, h⟩ := hq9
      refine J_iadd C dL_law_68 ?_
      obtain ⟨hK3, h⟩ := h
      obtain ⟨h04, hn5, h⟩ := h
      have h := h _ rfl
      refine J_iast C dL_law_69 hK3 h04 hn5 ?_
      refine J_aload_n C dL_law_70 rfl rfl ?_
      refine J_iconst C dL_law_71 (rg_of (by decide)) ?_
      refine J_iload C dL_law_72 rfl ?_
      refine J_iadd C dL_law_74 ?_
      refine J_iload C dL_law_75 rfl ?_
      refine J_iconst C dL_law_77 (rg_of (by decide)) ?_
      refine J_ishr C dL_law_78 ?_
      refine J_iconst C dL_law_79 (rg_of (by decide)) ?_
      refine K_SH C M.1 M.2.1 [vi (ishr z1 4), vi 4] [vi (w32 (4 + x7)), vr (some x2)] mi_L_low wg_766 wg_767 dL_law_80 rfl rfl (by decide) (Nat.le_of_ble_eq_true rfl) (c_L_low (C.2.2.2.2.2.2.2) (by omega) h) (fun v9 S' F' I' hq9 => ?_) K_no rfl
      clear h
      obtain ⟨z7, rfl, rfl, rfl, rfl, h⟩ := hq9
      obtain ⟨h08, hn9, h⟩ := h
      have h := h _ rfl
      refine J_iast C dL_law_83 hK3 h08 hn9 ?_
      refine J_aload_n C dL_law_84 rfl rfl ?_
      refine J_bipush C dL_law_85 (by decide +kernel) (rg_of (by decide)) ?_
      refine J_iload C dL_law_87 rfl ?_
      refine J_iadd C dL_law_89 ?_
      refine J_iconst C dL_law_90 (rg_of (by decide)) ?_
      obtain ⟨h011, hn12, h⟩ := h
      have h := h _ rfl
      refine J_iast C dL_law_91 hK3 h011 hn12 ?_
      refine J_aload C dL_law_92 rfl ?_
      refine J_iconst C dL_law_94 (rg_of (by decide)) ?_
      refine J_iload C dL_law_95 rfl ?_
      refine J_iadd C dL_law_97 ?_
      refine J_iconst C dL_law_98 (rg_of (by decide)) ?_
      obtain ⟨hK14, h⟩ := h
      obtain ⟨h015, hn16, h⟩ := h
      have h := h _ rfl
      refine J_iast C dL_law_99 hK14 h015 hn16 ?_
      refine J_aload C dL_law_100 rfl ?_
      refine J_iconst C dL_law_102 (rg_of (by decide)) ?_
      refine J_dup2 C dL_law_103 trivial trivial ?_
      obtain ⟨h018, hn19, h⟩ := h
      refine J_iald C dL_law_104 hK14 h018 hn19 ?_
      refine J_bipush C dL_law_105 (by decide +kernel) (rg_of (by decide)) ?_
      refine J_aload_n C dL_law_107 rfl rfl ?_
      refine J_iload C dL_law_108 rfl ?_
      obtain ⟨h020, hn21, h⟩ := h
      refine J_iald C dL_law_110 hK3 h020 hn21 ?_
      refine J_imul C dL_law_111 ?_
      refine J_isub C dL_law_112 ?_
      obtain ⟨h022, hn23, h⟩ := h
      have h := h _ rfl
      refine J_iast C dL_law_113 hK14 h022 hn23 ?_
      refine J_iload C dL_law_114 rfl ?_
      refine J_if_eq C dL_law_116 (tgt := 150) rfl (fun c116 => ?_) (fun c116 => ?_)
      · have h := h.1 c116
        refine J_less [vr (some (gX G)), vr (some x1), vr (some x2), vr (some x3), vr (some x4), vr (some x5), vl 0, vi x7, vl 0, vl 0, vl 0, vl 0, vl 0, vl 0, vl 0] (by unfold lessL; simp [lessL]) ?_
        exact S_L_law_150 C M (by omega) (fun y0 y1 y2 y3 y4 y5 y6 S' F' I' h9 => ih y0 y1 y2 y3 y4 y5 y6 S' F' I' h9) h
      · have h := h.2 c116
        refine J_aload_n C dL_law_119 rfl rfl ?_
        refine J_iload C dL_law_120 rfl ?_
        refine J_iload C dL_law_122 rfl ?_
        refine J_iconst C dL_law_124 (rg_of (by decide)) ?_
        refine J_iadd C dL_law_125 ?_
        refine J_iconst C dL_law_126 (rg_of (by decide)) ?_
        refine J_irem C dL_law_127 (by decide) ?_
        refine J_aload_n C dL_law_128 rfl rfl ?_
        refine J_iload C dL_law_129 rfl ?_
        obtain ⟨h025, hn26, h⟩ := h
        refine J_iald C dL_law_131 hK3 h025 hn26 ?_
        refine J_aload_n C dL_law_132 rfl rfl ?_
        refine J_iconst C dL_law_133 (rg_of (by decide)) ?_
        refine J_iload C dL_law_134 rfl ?_
        refine J_iadd C dL_law_136 ?_
        obtain ⟨h027, hn28, h⟩ := h
        refine J_iald C dL_law_137 hK3 h027 hn28 ?_
        obtain ⟨hK29, h⟩ := h
        refine K_VH C M.1 M.2.1 [vi x7, vi (w32 (Int.tmod (w32 (x7 + 1)) 4)), vi ((ui (ui (ui (ui (ui I x2 x7 (w32 (2 + z2))) x2 (w32 (4 + x7)) z7) x2 (w32 (28 + x7)) (-1)) x5 (w32 (4 + x7)) 2) x5 1 (w32 (((ui (ui (ui (ui I x2 x7 (w32 (2 + z2))) x2 (w32 (4 + x7)) z7) x2 (w32 (28 + x7)) (-1)) x5 (w32 (4 + x7)) 2) x5 1) - (w32 (100 * ((ui (ui (ui (ui I x2 x7 (w32 (2 + z2))) x2 (w32 (4 + x7)) z7) x2 (w32 (28 + x7)) (-1)) x5 (w32 (4 + x7)) 2) x2 x7)))))) x2 x7), vi ((ui (ui (ui (ui (ui I x2 x7 (w32 (2 + z2))) x2 (w32 (4 + x7)) z7) x2 (w32 (28 + x7)) (-1)) x5 (w32 (4 + x7)) 2) x5 1 (w32 (((ui (ui (ui (ui I x2 x7 (w32 (2 + z2))) x2 (w32 (4 + x7)) z7) x2 (w32 (28 + x7)) (-1)) x5 (w32 (4 + x7)) 2) x5 1) - (w32 (100 * ((ui (ui (ui (ui I x2 x7 (w32 (2 + z2))) x2 (w32 (4 + x7)) z7) x2 (w32 (28 + x7)) (-1)) x5 (w32 (4 + x7)) 2) x2 x7)))))) x2 (w32 (4 + x7)))] [] mi_X8_lay wg_249 wg_250 wg_251 ⟨rfl, by decide⟩ dL_law_138 hK29 rfl rfl (by decide) (Nat.le_of_ble_eq_true rfl) (c_X8_lay (C.2.2.2.2.2.2.2) (by omega) h) (fun v9 S31 F32 I33 hq9 => ?_) K_no rfl
        clear h
        obtain ⟨z30, rfl, h⟩ := hq9
        refine J_iload C dL_law_141 rfl ?_
        refine J_icmp_ne C dL_law_143 (tgt := 150) rfl (fun c143 => ?_) (fun c143 => ?_)
        · have h := h.1 c143
          refine J_less [vr (some (gX G)), vr (some x1), vr (some x2), vr (some x3), vr (some x4), vr (some x5), vl 0, vi x7, vl 0, vl 0, vl 0, vl 0, vl 0, vl 0, vl 0] (by unfold lessL; simp [lessL]) ?_
          exact S_L_law_150 C M (by omega) (fun y0 y1 y2 y3 y4 y5 y6 S' F' I' h9 => ih y0 y1 y2 y3 y4 y5 y6 S' F' I' h9) h
        · have h := h.2 c143
          refine J_iconst C dL_law_146 (rg_of (by decide)) ?_
          refine J_goto C dL_law_147 (tgt := 151) rfl ?_
          refine J_less [vr (some (gX G)), vr (some x1), vr (some x2), vr (some x3), vr (some x4), vr (some x5), vl 0, vi x7, vl 0, vl 0, vl 0, vl 0, vl 0, vl 0, vl 0] (by unfold lessL; simp [lessL]) ?_
          exact S_L_law_151 C M (by omega) (fun y0 y1 y2 y3 y4 y5 y6 S' F' I' h9 => ih y0 y1 y2 y3 y4 y5 y6 S' F' I' h9) h
set_option maxRecDepth 20000 in
set_option maxHeartbeats 4000000 in
theorem S_L_law {G : Gp} {X : Xt} {d : Nat}   {Q : Int → Shp → Fl → Il → Prop} {S : Shp} {F : Fl} {I : Il} (C : CO G RL cL_law 15 X) (M : ML d (some .boolean) X) (hd : 15 ≤ d)  (h : V_L_law G S F I Q) : J G X (QD X G (qI fun z S' F' I' => Q z S' F' I') noX) 0 [vr (some (gX G)), vl 0, vl 0, vl 0, vl 0, vl 0, vl 0, vl 0, vl 0, vl 0, vl 0, vl 0, vl 0, vl 0, vl 0] [] S F I := by
  unfold V_L_law at h
  obtain ⟨d, rfl⟩ : ∃ d9, d = d9 + 1 := ⟨d - 1, by omega⟩
  obtain ⟨ha3, hb4, h⟩ := h
  refine J_new C fn_9 fp_9.1 fd_9 wg_53 wg_54 wg_29 dL_law_0 ha3 hb4 (fun q1 hq2 => ?_)
  have h := h q1 hq2
  refine J_dup C dL_law_3 trivial ?_
  refine K_IH C M.1 M.2.1 [] [vr (some q1)] mi_X8_init rfl wg_55 wg_56 dL_law_4 rfl rfl (by decide) (Nat.le_of_ble_eq_true rfl) (c_X8_init (C.2.2.2.2.2.2.2) (by omega) h) (fun v9 S5 F6 I7 hq9 => ?_) K_no rfl
  clear h
  obtain ⟨rfl, h⟩ := hq9
  refine K_astore_n C [vr (some (gX G)), vr (some q1), vl 0, vl 0, vl 0, vl 0, vl 0, vl 0, vl 0, vl 0, vl 0, vl 0, vl 0, vl 0, vl 0] dL_law_7 rfl (Nat.le_of_ble_eq_true rfl) rfl ?_
  refine J_bipush C dL_law_8 (by decide +kernel) (rg_of (by decide)) ?_
  obtain ⟨ha10, hb11, h⟩ := h
  refine J_newI C (n := 40) rfl wg_106 dL_law_10 (by decide) ha10 hb11 (fun q8 hq9 => ?_)
  have h := h q8 hq9
  refine K_astore_n C [vr (some (gX G)), vr (some q1), vr (some q8), vl 0, vl 0, vl 0, vl 0, vl 0, vl 0, vl 0, vl 0, vl 0, vl 0, vl 0, vl 0] dL_law_12 rfl (Nat.le_of_ble_eq_true rfl) rfl ?_
  refine J_bipush C dL_law_13 (by decide +kernel) (rg_of (by decide)) ?_
  obtain ⟨ha14, hb15, h⟩ := h
  refine J_newI C (n := 48) rfl wg_106 dL_law_15 (by decide) ha14 hb15 (fun q12 hq13 => ?_)
  have h := h q12 hq13
  refine K_astore_n C [vr (some (gX G)), vr (some q1), vr (some q8), vr (some q12), vl 0, vl 0, vl 0, vl 0, vl 0, vl 0, vl 0, vl 0, vl 0, vl 0, vl 0] dL_law_17 rfl (Nat.le_of_ble_eq_true rfl) rfl ?_
  refine J_bipush C dL_law_18 (by decide +kernel) (rg_of (by decide)) ?_
  obtain ⟨ha18, hb19, h⟩ := h
  refine J_newI C (n := 24) rfl wg_106 dL_law_20 (by decide) ha18 hb19 (fun q16 hq17 => ?_)
  have h := h q16 hq17
  refine K_astore C [vr (some (gX G)), vr (some q1), vr (some q8), vr (some q12), vr (some q16), vl 0, vl 0, vl 0, vl 0, vl 0, vl 0, vl 0, vl 0, vl 0, vl 0] dL_law_22 (Nat.le_of_ble_eq_true rfl) rfl ?_
  refine J_bipush C dL_law_24 (by decide +kernel) (rg_of (by decide)) ?_
  obtain ⟨ha22, hb23, h⟩ := h
  refine J_newI C (n := 8) rfl wg_106 dL_law_26 (by decide) ha22 hb23 (fun q20 hq21 => ?_)
  have h := h q20 hq21
  refine K_astore C [vr (some (gX G)), vr (some q1), vr (some q8), vr (some q12), vr (some q16), vr (some q20), vl 0, vl 0, vl 0, vl 0, vl 0, vl 0, vl 0, vl 0, vl 0] dL_law_28 (Nat.le_of_ble_eq_true rfl) rfl ?_
  refine J_iconst C dL_law_30 (rg_of (by decide)) ?_
  refine K_istore C [vr (some (gX G)), vr (some q1), vr (some q8), vr (some q12), vr (some q16), vr (some q20), vi 1, vl 0, vl 0, vl 0, vl 0, vl 0, vl 0, vl 0, vl 0] dL_law_31 (Nat.le_of_ble_eq_true rfl) rfl ?_
  refine J_aload C dL_law_33 rfl ?_
  refine J_iconst C dL_law_35 (rg_of (by decide)) ?_
  refine J_sipush C dL_law_36 (by decide +kernel) (rg_of (by decide)) ?_
  obtain ⟨hK24, h⟩ := h
  obtain ⟨h025, hn26, h⟩ := h
  have h := h _ rfl
  refine J_iast C dL_law_39 hK24 h025 hn26 ?_
  refine J_iconst C dL_law_40 (rg_of (by decide)) ?_
  refine K_istore C [vr (some (gX G)), vr (some q1), vr (some q8), vr (some q12), vr (some q16), vr (some q20), vi 1, vi 0, vl 0, vl 0, vl 0, vl 0, vl 0, vl 0, vl 0] dL_law_41 (Nat.le_of_ble_eq_true rfl) rfl ?_
  obtain ⟨n9, h⟩ := h
  exact S_L_law_43 C M (by omega) n9  _ _ _ _ _ _ _ _ _ _ h
