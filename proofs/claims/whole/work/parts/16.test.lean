/-! IronbarkModel.taken -/
def V_X9_taken_45 (k4 : Nat → Int → Int → Int → Prop) (x0 : Nat) (x1 : Int) (x3 : Int) (s0 : Int) (s1 : Int) (S : Shp) (F : Fl) (I : Il) (Q : Int → Prop) : Prop := k4 x0 x1 (w32 (s1 + s0)) (w32 (x3 + 1))
def V_X9_taken_44 (k4 : Nat → Int → Int → Int → Prop) (x0 : Nat) (x1 : Int) (x3 : Int) (s0 : Int) (S : Shp) (F : Fl) (I : Il) (Q : Int → Prop) : Prop := V_X9_taken_45 k4 x0 x1 x3 0 s0 S F I Q
def V_X9_taken_4 (n9 : Nat)  (x0 : Nat) (x1 : Int) (x2 : Int) (x3 : Int) (S : Shp) (F : Fl) (I : Il) (Q : Int → Prop) : Prop := match n9 with
  | 0 => False
  | n + 1 => ((6 ≤ x3 → Q x2) ∧ (¬ 6 ≤ x3 → sK S x0 = 10 ∧ ∃ r2, sR S 1036 x0 = some r2 ∧ sK S r2 = 21 ∧ 0 ≤ x3 ∧ x3 < (sN S r2 : Int) ∧ ((I r2 x3 = 0 → V_X9_taken_44 (fun y0 y1 y2 y3 => V_X9_taken_4 n y0 y1 y2 y3 S F I Q) x0 x1 x3 x2 S F I Q) ∧ (¬ I r2 x3 = 0 → ∃ r7, sR S 1039 x0 = some r7 ∧ sK S r7 = 20 ∧ 0 ≤ x3 ∧ x3 < (sN S r7 : Int) ∧ ((I r7 x3 = 3 → V_X9_taken_44 (fun y0 y1 y2 y3 => V_X9_taken_4 n y0 y1 y2 y3 S F I Q) x0 x1 x3 x2 S F I Q) ∧ (¬ I r7 x3 = 3 → ∃ r12, sR S 1040 x0 = some r12 ∧ sK S r12 = 20 ∧ 0 ≤ x3 ∧ x3 < (sN S r12 : Int) ∧ ((¬ I r12 x3 = x1 → V_X9_taken_44 (fun y0 y1 y2 y3 => V_X9_taken_4 n y0 y1 y2 y3 S F I Q) x0 x1 x3 x2 S F I Q) ∧ (I r12 x3 = x1 → V_X9_taken_45 (fun y0 y1 y2 y3 => V_X9_taken_4 n y0 y1 y2 y3 S F I Q) x0 x1 x3 1 x2 S F I Q))))))))
def V_X9_taken  (x0 : Nat) (x1 : Int) (S : Shp) (F : Fl) (I : Il) (Q : Int → Prop) : Prop := ∃ n9, V_X9_taken_4 n9 x0 x1 0 0 S F I Q
/-! IronbarkModel.in -/
def V_X9_in  (x0 : Int) (x1 : Int) (x2 : Int) (S : Shp) (F : Fl) (I : Il) (Q : Int → Prop) : Prop := ((x0 < x1 → Q 0) ∧ (¬ x0 < x1 → ((x2 < x0 → Q 0) ∧ (¬ x2 < x0 → Q 1))))
/-! IronbarkModel.isStation -/
def V_X9_isStation  (x0 : Int) (S : Shp) (F : Fl) (I : Il) (Q : Int → Prop) : Prop := V_X9_in x0 0 7 S F I (fun (z1 : Int) => (z1 = 0 ∨ z1 = 1) ∧ Q z1)
/-! IronbarkModel.tracks -/
def V_X9_tracks_39  (x0 : Nat) (x1 : Int) (x2 : Int) (s0 : Int) (s1 : Nat) (S : Shp) (F : Fl) (I : Il) (Q : Int → Fl → Il → Prop) : Prop := sK S s1 = 10 ∧ sK S x0 = 10 ∧ (((u2 F 1000 s1 s0) 1000 x0 ≤ 0 → ∃ r3, sR S 1005 x0 = some r3 ∧ sK S r3 = 20 ∧ 0 ≤ x1 ∧ x1 < (sN S r3 : Int) ∧ 0 ≤ x1 ∧ x1 < (sN S r3 : Int) ∧ Q (I r3 x1) (u2 F 1000 s1 s0) (ui I r3 x1 x2)) ∧ (¬ (u2 F 1000 s1 s0) 1000 x0 ≤ 0 → Q 0 (u2 F 1000 s1 s0) I))
def V_X9_tracks  (x0 : Nat) (x1 : Int) (x2 : Int) (S : Shp) (F : Fl) (I : Il) (Q : Int → Fl → Il → Prop) : Prop := V_X9_isStation x1 S F I (fun (z1 : Int) => ((¬ z1 = 0 → V_X9_in x2 1 4 S F I (fun (z2 : Int) => ((¬ z2 = 0 → sK S x0 = 10 ∧ V_X9_taken x0 x1 S F I (fun (z4 : Int) => ((z4 ≤ x2 → V_X9_tracks_39 x0 x1 x2 0 x0 S F I Q) ∧ (¬ z4 ≤ x2 → V_X9_tracks_39 x0 x1 x2 3 x0 S F I Q)))) ∧ (z2 = 0 → V_X9_tracks_39 x0 x1 x2 2 x0 S F I Q)))) ∧ (z1 = 0 → V_X9_tracks_39 x0 x1 x2 1 x0 S F I Q)))
set_option maxRecDepth 20000 in
set_option maxHeartbeats 4000000 in
theorem S_X9_taken_45 {G : Gp} {X : Xt} {d : Nat} {k4 : Nat → Int → Int → Int → Prop} {x0 : Nat} {x1 : Int} {x3 : Int} {s0 : Int} {s1 : Int} {Q : Int → Prop} {S : Shp} {F : Fl} {I : Il} (C : CO G RX9 cX9_taken 4 X) (M : MX d (some .int) "taken" X) (hd : 1 ≤ d) (hk4 : ∀ (x0 : Nat) (x1 : Int) (x2 : Int) (x3 : Int), k4 x0 x1 x2 x3 → J G X (QD X G (qI fun z S' F' I' => S' = S ∧ F' = F ∧ I' = I ∧ Q z) noX) 4 [vr (some x0), vi x1, vi x2, vi x3] [] S F I) (h : V_X9_taken_45 k4 x0 x1 x3 s0 s1 S F I Q) : J G X (QD X G (qI fun z S' F' I' => S' = S ∧ F' = F ∧ I' = I ∧ Q z) noX) 45 [vr (some x0), vi x1, vl 0, vi x3] [vi s0, vi s1] S F I := by
  unfold V_X9_taken_45 at h
  refine J_iadd C dX9_taken_45 ?_
  refine K_istore_n C [vr (some x0), vi x1, vi (w32 (s1 + s0)), vi x3] dX9_taken_46 rfl (Nat.le_of_ble_eq_true rfl) rfl ?_
  refine K_iinc C [vr (some x0), vi x1, vi (w32 (s1 + s0)), vi (w32 (x3 + 1))] dX9_taken_47 rfl rfl ?_
  refine J_goto C dX9_taken_50 (tgt := 4) rfl ?_
  exact hk4 x0 x1 (w32 (s1 + s0)) (w32 (x3 + 1)) h
set_option maxRecDepth 20000 in
set_option maxHeartbeats 4000000 in
theorem S_X9_taken_44 {G : Gp} {X : Xt} {d : Nat} {k4 : Nat → Int → Int → Int → Prop} {x0 : Nat} {x1 : Int} {x3 : Int} {s0 : Int} {Q : Int → Prop} {S : Shp} {F : Fl} {I : Il} (C : CO G RX9 cX9_taken 4 X) (M : MX d (some .int) "taken" X) (hd : 1 ≤ d) (hk4 : ∀ (x0 : Nat) (x1 : Int) (x2 : Int) (x3 : Int), k4 x0 x1 x2 x3 → J G X (QD X G (qI fun z S' F' I' => S' = S ∧ F' = F ∧ I' = I ∧ Q z) noX) 4 [vr (some x0), vi x1, vi x2, vi x3] [] S F I) (h : V_X9_taken_44 k4 x0 x1 x3 s0 S F I Q) : J G X (QD X G (qI fun z S' F' I' => S' = S ∧ F' = F ∧ I' = I ∧ Q z) noX) 44 [vr (some x0), vi x1, vl 0, vi x3] [vi s0] S F I := by
  unfold V_X9_taken_44 at h
  refine J_iconst C dX9_taken_44 (rg_of (by decide)) ?_
  exact S_X9_taken_45 C M (by omega) hk4 h
set_option maxRecDepth 20000 in
set_option maxHeartbeats 4000000 in
theorem S_X9_taken_4 {G : Gp} {X : Xt} {d : Nat}  {S : Shp} {F : Fl} {I : Il} {Q : Int → Prop} (C : CO G RX9 cX9_taken 4 X) (M : MX d (some .int) "taken" X) (hd : 1 ≤ d) (n9 : Nat)  : ∀ (x0 : Nat) (x1 : Int) (x2 : Int) (x3 : Int) , V_X9_taken_4 n9 x0 x1 x2 x3 S F I Q → J G X (QD X G (qI fun z S' F' I' => S' = S ∧ F' = F ∧ I' = I ∧ Q z) noX) 4 [vr (some x0), vi x1, vi x2, vi x3] [] S F I := by
  induction n9 with
  | zero => intro x0 x1 x2 x3 h; exact h.elim
  | succ n ih =>
    intro x0 x1 x2 x3 h
    unfold V_X9_taken_4 at h
    refine J_iload_n C dX9_taken_4 rfl rfl ?_
    refine J_bipush C dX9_taken_5 (by decide +kernel) (rg_of (by decide)) ?_
    refine J_icmp_ge C dX9_taken_7 (tgt := 53) rfl (fun c7 => ?_) (fun c7 => ?_)
    · have h := h.1 c7
      refine J_iload_n C dX9_taken_53 rfl rfl ?_
      exact J_iret C dX9_taken_54 M.2.2.1 ⟨_, rfl, rfl, rfl, rfl, h⟩
    · have h := h.2 c7
      refine J_iload_n C dX9_taken_10 rfl rfl ?_
      refine J_aload_n C dX9_taken_11 rfl rfl ?_
      obtain ⟨hK1, h⟩ := h
      obtain ⟨r2, hr3, h⟩ := h
      refine J_getR C fo_10_36 rfl fl_RX9_96 dX9_taken_12 hK1 hr3 ?_
      refine J_iload_n C dX9_taken_15 rfl rfl ?_
      obtain ⟨hK4, h⟩ := h
      obtain ⟨h05, hn6, h⟩ := h
      refine J_zald C dX9_taken_16 hK4 h05 hn6 ?_
      refine J_if_eq C dX9_taken_17 (tgt := 44) rfl (fun c17 => ?_) (fun c17 => ?_)
      · have h := h.1 c17
        refine J_less [vr (some x0), vi x1, vl 0, vi x3] (by unfold lessL; simp [lessL]) ?_
        exact S_X9_taken_44 C M (by omega) (fun y0 y1 y2 y3 h9 => ih y0 y1 y2 y3 h9) h
      · have h := h.2 c17
        refine J_aload_n C dX9_taken_20 rfl rfl ?_
        obtain ⟨r7, hr8, h⟩ := h
        refine J_getR C fo_10_39 rfl fl_RX9_105 dX9_taken_21 hK1 hr8 ?_
        refine J_iload_n C dX9_taken_24 rfl rfl ?_
        obtain ⟨hK9, h⟩ := h
        obtain ⟨h010, hn11, h⟩ := h
        refine J_iald C dX9_taken_25 hK9 h010 hn11 ?_
        refine J_iconst C dX9_taken_26 (rg_of (by decide)) ?_
        refine J_icmp_eq C dX9_taken_27 (tgt := 44) rfl (fun c27 => ?_) (fun c27 => ?_)
        · have h := h.1 c27
          refine J_less [vr (some x0), vi x1, vl 0, vi x3] (by unfold lessL; simp [lessL]) ?_
          exact S_X9_taken_44 C M (by omega) (fun y0 y1 y2 y3 h9 => ih y0 y1 y2 y3 h9) h
        · have h := h.2 c27
          refine J_aload_n C dX9_taken_30 rfl rfl ?_
          obtain ⟨r12, hr13, h⟩ := h
          refine J_getR C fo_10_40 rfl fl_RX9_108 dX9_taken_31 hK1 hr13 ?_
          refine J_iload_n C dX9_taken_34 rfl rfl ?_
          obtain ⟨hK14, h⟩ := h
          obtain ⟨h015, hn16, h⟩ := h
          refine J_iald C dX9_taken_35 hK14 h015 hn16 ?_
          refine J_iload_n C dX9_taken_36 rfl rfl ?_
          refine J_icmp_ne C dX9_taken_37 (tgt := 44) rfl (fun c37 => ?_) (fun c37 => ?_)
          · have h := h.1 c37
            refine J_less [vr (some x0), vi x1, vl 0, vi x3] (by unfold lessL; simp [lessL]) ?_
            exact S_X9_taken_44 C M (by omega) (fun y0 y1 y2 y3 h9 => ih y0 y1 y2 y3 h9) h
          · have h := h.2 c37
            refine J_iconst C dX9_taken_40 (rg_of (by decide)) ?_
            refine J_goto C dX9_taken_41 (tgt := 45) rfl ?_
            refine J_less [vr (some x0), vi x1, vl 0, vi x3] (by unfold lessL; simp [lessL]) ?_
            exact S_X9_taken_45 C M (by omega) (fun y0 y1 y2 y3 h9 => ih y0 y1 y2 y3 h9) h
set_option maxRecDepth 20000 in
set_option maxHeartbeats 4000000 in
theorem S_X9_taken {G : Gp} {X : Xt} {d : Nat}  {x0 : Nat} {x1 : Int} {Q : Int → Prop} {S : Shp} {F : Fl} {I : Il} (C : CO G RX9 cX9_taken 4 X) (M : MX d (some .int) "taken" X) (hd : 1 ≤ d)  (h : V_X9_taken x0 x1 S F I Q) : J G X (QD X G (qI fun z S' F' I' => S' = S ∧ F' = F ∧ I' = I ∧ Q z) noX) 0 [vr (some x0), vi x1, vl 0, vl 0] [] S F I := by
  unfold V_X9_taken at h
  refine J_iconst C dX9_taken_0 (rg_of (by decide)) ?_
  refine K_istore_n C [vr (some x0), vi x1, vi 0, vl 0] dX9_taken_1 rfl (Nat.le_of_ble_eq_true rfl) rfl ?_
  refine J_iconst C dX9_taken_2 (rg_of (by decide)) ?_
  refine K_istore_n C [vr (some x0), vi x1, vi 0, vi 0] dX9_taken_3 rfl (Nat.le_of_ble_eq_true rfl) rfl ?_
  obtain ⟨n9, h⟩ := h
  exact S_X9_taken_4 C M (by omega) n9  _ _ _ _ h
theorem c_X9_taken {l : Launch} {G : Gp} {d : Nat} {x0 : Nat} {x1 : Int} {S : Shp} {F : Fl} {I : Il} {Q : Int → Prop} (hl : l.stackTraces = false) (hd : 1 ≤ d) (h : V_X9_taken x0 x1 S F I Q) : CM l G d yX9_taken (.code yX9_taken cX9_taken 4 (some .int)) [vr (some x0), vi x1] S F I (qI fun z S' F' I' => S' = S ∧ F' = F ∧ I' = I ∧ Q z) noX :=
  CM_ofM [vr (some x0), vi x1, vl 0, vl 0] hl (by decide +kernel) (kn1 trivial (kn1 trivial kn0)) (Nat.le_of_ble_eq_true rfl) rfl (fun X hX C M => S_X9_taken C M hd h)
set_option maxRecDepth 20000 in
set_option maxHeartbeats 4000000 in
theorem S_X9_in {G : Gp} {X : Xt} {d : Nat}  {x0 : Int} {x1 : Int} {x2 : Int} {Q : Int → Prop} {S : Shp} {F : Fl} {I : Il} (C : CO G RX9 cX9_in 3 X) (M : MX d (some .boolean) "in" X) (hd : 1 ≤ d)  (h : V_X9_in x0 x1 x2 S F I Q) : J G X (QD X G (qI fun z S' F' I' => S' = S ∧ F' = F ∧ I' = I ∧ Q z) noX) 0 [vi x0, vi x1, vi x2] [] S F I := by
  unfold V_X9_in at h
  refine J_iload_n C dX9_in_0 rfl rfl ?_
  refine J_iload_n C dX9_in_1 rfl rfl ?_
  refine J_icmp_lt C dX9_in_2 (tgt := 14) rfl (fun c2 => ?_) (fun c2 => ?_)
  · have h := h.1 c2
    refine J_iconst C dX9_in_14 (rg_of (by decide)) ?_
    exact J_zret C dX9_in_15 M.2.2.1 (by decide) ⟨_, rfl, rfl, rfl, rfl, h⟩
  · have h := h.2 c2
    refine J_iload_n C dX9_in_5 rfl rfl ?_
    refine J_iload_n C dX9_in_6 rfl rfl ?_
    refine J_icmp_gt C dX9_in_7 (tgt := 14) rfl (fun c7 => ?_) (fun c7 => ?_)
    · have h := h.1 c7
      refine J_iconst C dX9_in_14 (rg_of (by decide)) ?_
      exact J_zret C dX9_in_15 M.2.2.1 (by decide) ⟨_, rfl, rfl, rfl, rfl, h⟩
    · have h := h.2 c7
      refine J_iconst C dX9_in_10 (rg_of (by decide)) ?_
      refine J_goto C dX9_in_11 (tgt := 15) rfl ?_
      exact J_zret C dX9_in_15 M.2.2.1 (by decide) ⟨_, rfl, rfl, rfl, rfl, h⟩
theorem c_X9_in {l : Launch} {G : Gp} {d : Nat} {x0 : Int} {x1 : Int} {x2 : Int} {S : Shp} {F : Fl} {I : Il} {Q : Int → Prop} (hl : l.stackTraces = false) (hd : 1 ≤ d) (h : V_X9_in x0 x1 x2 S F I Q) : CM l G d yX9_in (.code yX9_in cX9_in 3 (some .boolean)) [vi x0, vi x1, vi x2] S F I (qI fun z S' F' I' => S' = S ∧ F' = F ∧ I' = I ∧ Q z) noX :=
  CM_ofM [vi x0, vi x1, vi x2] hl (by decide +kernel) (kn1 trivial (kn1 trivial (kn1 trivial kn0))) (Nat.le_of_ble_eq_true rfl) rfl (fun X hX C M => S_X9_in C M hd h)
set_option maxRecDepth 20000 in
set_option maxHeartbeats 4000000 in
theorem S_X9_isStation {G : Gp} {X : Xt} {d : Nat}  {x0 : Int} {Q : Int → Prop} {S : Shp} {F : Fl} {I : Il} (C : CO G RX9 cX9_isStation 1 X) (M : MX d (some .boolean) "isStation" X) (hd : 2 ≤ d)  (h : V_X9_isStation x0 S F I Q) : J G X (QD X G (qI fun z S' F' I' => S' = S ∧ F' = F ∧ I' = I ∧ Q z) noX) 0 [vi x0] [] S F I := by
  unfold V_X9_isStation at h
  obtain ⟨d, rfl⟩ : ∃ d9, d = d9 + 1 := ⟨d - 1, by omega⟩
  refine J_iload_n C dX9_isStation_0 rfl rfl ?_
  refine J_iconst C dX9_isStation_1 (rg_of (by decide)) ?_
  refine J_bipush C dX9_isStation_2 (by decide +kernel) (rg_of (by decide)) ?_
  refine K_S C M [vi x0, vi 0, vi 7] [] mi_X9_in wg_1414 wg_1415 dX9_isStation_4 rfl rfl (by decide) (Nat.le_of_ble_eq_true rfl) (c_X9_in (C.2.2.2.2.2.2.2) (by omega) h) (fun v9 S' F' I' hq9 => ?_) K_no rfl
  clear h
  obtain ⟨z1, rfl, rfl, rfl, rfl, h⟩ := hq9
  obtain ⟨hb, h⟩ := h
  exact J_zret C dX9_isStation_7 M.2.2.1 hb ⟨_, rfl, rfl, rfl, rfl, h⟩
theorem c_X9_isStation {l : Launch} {G : Gp} {d : Nat} {x0 : Int} {S : Shp} {F : Fl} {I : Il} {Q : Int → Prop} (hl : l.stackTraces = false) (hd : 2 ≤ d) (h : V_X9_isStation x0 S F I Q) : CM l G d yX9_isStation (.code yX9_isStation cX9_isStation 1 (some .boolean)) [vi x0] S F I (qI fun z S' F' I' => S' = S ∧ F' = F ∧ I' = I ∧ Q z) noX :=
  CM_ofM [vi x0] hl (by decide +kernel) (kn1 trivial kn0) (Nat.le_of_ble_eq_true rfl) rfl (fun X hX C M => S_X9_isStation C M hd h)
set_option maxRecDepth 20000 in
set_option maxHeartbeats 4000000 in
theorem S_X9_tracks_39 {G : Gp} {X : Xt} {d : Nat}  {x0 : Nat} {x1 : Int} {x2 : Int} {s0 : Int} {s1 : Nat} {Q : Int → Fl → Il → Prop} {S : Shp} {F : Fl} {I : Il} (C : CO G RX9 cX9_tracks 4 X) (M : MX d (some .int) "tracks" X) (hd : 3 ≤ d)  (h : V_X9_tracks_39 x0 x1 x2 s0 s1 S F I Q) : J G X (QD X G (qI fun z S' F' I' => S' = S ∧ Q z F' I') noX) 39 [vr (some x0), vi x1, vi x2, vl 0] [vi s0, vr (some s1)] S F I := by
  unfold V_X9_tracks_39 at h
  obtain ⟨hK1, h⟩ := h
  refine J_putI C fo_10_0 fp_10 fl_RX9_174 (Or.inl rfl) (Or.inl rfl) dX9_tracks_39 hK1 ?_
  refine J_aload_n C dX9_tracks_42 rfl rfl ?_
  obtain ⟨hK2, h⟩ := h
  refine J_getI C fo_10_0 rfl fl_RX9_174 dX9_tracks_43 hK2 ?_
  refine J_if_le C dX9_tracks_46 (tgt := 51) rfl (fun c46 => ?_) (fun c46 => ?_)
  · have h := h.1 c46
    refine J_aload_n C dX9_tracks_51 rfl rfl ?_
    obtain ⟨r3, hr4, h⟩ := h
    refine J_getR C fo_10_5 rfl fl_RX9_13 dX9_tracks_52 hK2 hr4 ?_
    refine J_iload_n C dX9_tracks_55 rfl rfl ?_
    obtain ⟨hK5, h⟩ := h
    obtain ⟨h06, hn7, h⟩ := h
    refine J_iald C dX9_tracks_56 hK5 h06 hn7 ?_
    refine K_istore_n C [vr (some x0), vi x1, vi x2, vi (I r3 x1)] dX9_tracks_57 rfl (Nat.le_of_ble_eq_true rfl) rfl ?_
    refine J_aload_n C dX9_tracks_58 rfl rfl ?_
    refine J_getR C fo_10_5 rfl fl_RX9_13 dX9_tracks_59 hK2 hr4 ?_
    refine J_iload_n C dX9_tracks_62 rfl rfl ?_
    refine J_iload_n C dX9_tracks_63 rfl rfl ?_
    obtain ⟨h08, hn9, h⟩ := h
    refine J_iast C dX9_tracks_64 hK5 h08 hn9 ?_
    refine J_iload_n C dX9_tracks_65 rfl rfl ?_
    exact J_iret C dX9_tracks_66 M.2.2.1 ⟨_, rfl, rfl, h⟩
  · have h := h.2 c46
    refine J_iconst C dX9_tracks_49 (rg_of (by decide)) ?_
    exact J_iret C dX9_tracks_50 M.2.2.1 ⟨_, rfl, rfl, h⟩
set_option maxRecDepth 20000 in
set_option maxHeartbeats 4000000 in
theorem S_X9_tracks {G : Gp} {X : Xt} {d : Nat}  {x0 : Nat} {x1 : Int} {x2 : Int} {Q : Int → Fl → Il → Prop} {S : Shp} {F : Fl} {I : Il} (C : CO G RX9 cX9_tracks 4 X) (M : MX d (some .int) "tracks" X) (hd : 3 ≤ d)  (h : V_X9_tracks x0 x1 x2 S F I Q) : J G X (QD X G (qI fun z S' F' I' => S' = S ∧ Q z F' I') noX) 0 [vr (some x0), vi x1, vi x2, vl 0] [] S F I := by
  unfold V_X9_tracks at h
  obtain ⟨d, rfl⟩ : ∃ d9, d = d9 + 1 := ⟨d - 1, by omega⟩
  refine J_aload_n C dX9_tracks_0 rfl rfl ?_
  refine J_iload_n C dX9_tracks_1 rfl rfl ?_
  refine K_S C M [vi x1] [vr (some x0)] mi_X9_isStation wg_1411 wg_1412 dX9_tracks_2 rfl rfl (by decide) (Nat.le_of_ble_eq_true rfl) (c_X9_isStation (C.2.2.2.2.2.2.2) (by omega) h) (fun v9 S' F' I' hq9 => ?_) K_no rfl
  clear h
  obtain ⟨z1, rfl, rfl, rfl, rfl, h⟩ := hq9
  refine J_if_ne C dX9_tracks_5 (tgt := 12) rfl (fun c5 => ?_) (fun c5 => ?_)
  · have h := h.1 c5
    refine J_iload_n C dX9_tracks_12 rfl rfl ?_
    refine J_iconst C dX9_tracks_13 (rg_of (by decide)) ?_
    refine J_iconst C dX9_tracks_14 (rg_of (by decide)) ?_
    refine K_S C M [vi x2, vi 1, vi 4] [vr (some x0)] mi_X9_in wg_1414 wg_1415 dX9_tracks_15 rfl rfl (by decide) (Nat.le_of_ble_eq_true rfl) (c_X9_in (C.2.2.2.2.2.2.2) (by omega) h) (fun v9 S' F' I' hq9 => ?_) K_no rfl
    clear h
    obtain ⟨z2, rfl, rfl, rfl, rfl, h⟩ := hq9
    refine J_if_ne C dX9_tracks_18 (tgt := 25) rfl (fun c18 => ?_) (fun c18 => ?_)
    · have h := h.1 c18
      refine J_aload_n C dX9_tracks_25 rfl rfl ?_
      refine J_iload_n C dX9_tracks_26 rfl rfl ?_
      obtain ⟨hK3, h⟩ := h
      refine K_V C M [vi x1] [vr (some x0)] mi_X9_taken wg_1417 wg_1419 wg_39 ⟨rfl, by decide⟩ dX9_tracks_27 hK3 rfl rfl (by decide) (Nat.le_of_ble_eq_true rfl) (c_X9_taken (C.2.2.2.2.2.2.2) (by omega) h) (fun v9 S' F' I' hq9 => ?_) K_no rfl
      clear h
      obtain ⟨z4, rfl, rfl, rfl, rfl, h⟩ := hq9
      refine J_iload_n C dX9_tracks_30 rfl rfl ?_
      refine J_icmp_le C dX9_tracks_31 (tgt := 38) rfl (fun c31 => ?_) (fun c31 => ?_)
      · have h := h.1 c31
        refine J_iconst C dX9_tracks_38 (rg_of (by decide)) ?_
        exact S_X9_tracks_39 C M (by omega)  h
      · have h := h.2 c31
        refine J_iconst C dX9_tracks_34 (rg_of (by decide)) ?_
        refine J_goto C dX9_tracks_35 (tgt := 39) rfl ?_
        exact S_X9_tracks_39 C M (by omega)  h
    · have h := h.2 c18
      refine J_iconst C dX9_tracks_21 (rg_of (by decide)) ?_
      refine J_goto C dX9_tracks_22 (tgt := 39) rfl ?_
      exact S_X9_tracks_39 C M (by omega)  h
  · have h := h.2 c5
    refine J_iconst C dX9_tracks_8 (rg_of (by decide)) ?_
    refine J_goto C dX9_tracks_9 (tgt := 39) rfl ?_
    exact S_X9_tracks_39 C M (by omega)  h
theorem c_X9_tracks {l : Launch} {G : Gp} {d : Nat} {x0 : Nat} {x1 : Int} {x2 : Int} {S : Shp} {F : Fl} {I : Il} {Q : Int → Fl → Il → Prop} (hl : l.stackTraces = false) (hd : 3 ≤ d) (h : V_X9_tracks x0 x1 x2 S F I Q) : CM l G d yX9_tracks (.code yX9_tracks cX9_tracks 4 (some .int)) [vr (some x0), vi x1, vi x2] S F I (qI fun z S' F' I' => S' = S ∧ Q z F' I') noX :=
  CM_ofM [vr (some x0), vi x1, vi x2, vl 0] hl (by decide +kernel) (kn1 trivial (kn1 trivial (kn1 trivial kn0))) (Nat.le_of_ble_eq_true rfl) rfl (fun X hX C M => S_X9_tracks C M hd h)
