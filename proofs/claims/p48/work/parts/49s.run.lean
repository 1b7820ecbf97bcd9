/-! trains enter, one by one; run -/
section Run
variable {c LN : Nat → Nat} {B : Fl} {E : El} {A : Il}
theorem msk : ∀ z : Nat, z < 64 → ∀ t : Nat, t < 6 → z.testBit t = false → (pcb z 6 ≤ 5 ∧ pcb (z ||| 2 ^ t) 6 = pcb z 6 + 1 ∧ z ||| 2 ^ t < 64 ∧ ior (z : Int) (ishl 1 (t : Int)) = ((z ||| 2 ^ t : Nat) : Int)) := by decide +kernel
/-- the trains that were asked, as far as rank its and number t -/
def Ivt (A : Il) (z : Nat) (its t : Int) : Prop := ∀ j : Nat, j < 6 → A 36 (j : Int) = 1 → A 39 (j : Int) = 1 → (z.testBit j = true ↔ (its < A 49 (j : Int) ∨ (A 49 (j : Int) = its ∧ (j : Int) < t)))
theorem Ivt.put {A' : Il} {z n : Nat} {K : Int} (h : Ivt A z K (n : Int)) (hA : ∀ j : Nat, j < 6 → A' 36 (j : Int) = 1 → A' 39 (j : Int) = 1 → A 36 (j : Int) = 1 ∧ A 39 (j : Int) = 1 ∧ A' 49 (j : Int) = A 49 (j : Int)) (hn : A 36 (n : Int) = 1 → A 39 (n : Int) = 1 → A 49 (n : Int) = K) : Ivt A' (z ||| 2 ^ n) K ((n + 1 : Nat) : Int) := fun j hj h1 h2 => by
  obtain ⟨w1, w2, w3⟩ := hA j hj h1 h2
  have w := h j hj w1 w2
  rw [w3, Nat.testBit_or, Nat.testBit_two_pow]
  by_cases e : n = j
  · subst e
    have := hn w1 w2
    simp
    omega
  · rw [decide_eq_false e, Bool.or_false, w]
    omega
/-- what is said of a way from here to the end of the minute -/
def EnR (c LN : Nat → Nat) (E : El) (B : Fl) (A : Il) (cnt : Int) (z i : Nat) (W : (Int → Il → Prop) → Prop) : Prop := ∃ (cnt' : Int) (B' : Fl) (A' : Il), Rep c LN B' E A' ∧ Smm A A' ∧ A' 1 0 = A 1 0 ∧ (∀ Q, Q cnt' A' → W Q) ∧ ∀ (Q : Int → Fl → El → Prop) (QX : String → Fl → El → Prop), Q cnt' B' E → W_X8_enterAll_6 c LN (7 - i) 0 cnt (z : Int) (i : Int) B E Q QX
set_option maxHeartbeats 2000000 in
theorem s_ent_in {K : Nat} (hK : K ≤ 9) (ihK : ∀ (B : Fl) (A : Il) (cnt : Int) (z i : Nat), Rep c LN B E A → z < 64 → pcb z 6 = i → i ≤ 6 → Ivt A z ((K : Int) - 1) 0 → EnR c LN E B A cnt z i (fun Q => W_X9_ticks_136 (K + 1) cnt ((K : Int) - 1) A Q)) : ∀ (k n : Nat) (B : Fl) (A : Il) (cnt : Int) (z i : Nat), n + k = 6 → Rep c LN B E A → z < 64 → pcb z 6 = i → i ≤ 6 → Ivt A z (K : Int) (n : Int) → EnR c LN E B A cnt z i (fun Q => W_X9_ticks_142 (k + 1) (fun y0 y1 A' => W_X9_ticks_136 (K + 1) y0 y1 A' Q) cnt (K : Int) (n : Int) A Q)
  | 0, n, B, A, cnt, z, i, e, hR, hz, hi, hi6, hI => by
    have e' : n = 6 := by omega
    subst e'
    obtain ⟨cnt', B', A', i1, i2, i3, i4, i5⟩ := ihK B A cnt z i hR hz hi hi6 (fun j hj h1 h2 => by
      have w := hI j hj h1 h2
      rw [w]
      omega)
    refine ⟨cnt', B', A', i1, i2, i3, fun Q hQ => br_T (by decide) ?_, i5⟩
    show W_X9_ticks_136 (K + 1) cnt (w32 ((K : Int) + (-1))) A Q
    rw [w32_id (by unfold rg; omega)]
    exact i4 Q hQ
  | k + 1, n, B, A, cnt, z, i, e, hR, hz, hi, hi6, hI => by
    have l2 : ((ln 2 : Nat) : Int) = 6 := rfl
    have gT := hR.2.2.2.2.2.2.2.2.2.2.2.2.2.2.2.2.1
    have hkt := kdtr (c := c) (v := 40 + (n : Int).toNat) (by omega) (by omega)
    by_cases go : A 36 (n : Int) = 1 ∧ A 39 (n : Int) = 1 ∧ A 49 (n : Int) = (K : Int)
    · obtain ⟨g1, g2, g3⟩ := go
      have hr := hR.rdy (t := (n : Int)) (by omega) (by omega) g1 g2
      obtain ⟨-, ⟨r5, r6, r7⟩, ⟨r8, r9, r10⟩, -⟩ := id hr
      have hzb : z.testBit n = false := by
        have w := hI n (by omega) g1 g2
        rw [g3] at w
        cases hb : z.testBit n
        · rfl
        · have := w.1 hb
          omega
      obtain ⟨m1, m2, m3, m4⟩ := msk z hz n (by omega) hzb
      have bs : bst A z 6 = ((n : Int), A 49 (n : Int)) := (bst_some (by omega) g1 g2 hzb (by omega) (fun j hj h1 h2 h3 => by
        have w := hI j hj h1 h2
        rw [h3, g3] at *
        have w2 : ¬ ((K : Int) < A 49 (j : Int) ∨ (A 49 (j : Int) = (K : Int) ∧ (j : Int) < (n : Int))) := fun w3 => by
          have := w.2 w3
          cases this
        omega) 6 (Nat.le_refl _)).2 (by omega)
      have e7 : 7 - i = (7 - (i + 1)) + 1 := by omega
      by_cases hb : fb (bp A (n : Int) (nb A (n : Int))) 10 1 = 0
      · have zn := fb_none (P := bp A (n : Int) (nb A (n : Int))) 10 1 (by decide) hb
        have h17 : A 17 (nb A (n : Int)) = -1 := Classical.byContradiction (fun w => zn 3 (by decide) (by decide) w)
        have hd : A 26 (A 38 (n : Int)) + rnv A (n : Int) (nb A (n : Int)) ≤ 600 := Classical.byContradiction (fun w => zn 9 (by decide) (by decide) (Or.inr w))
        have hI2 : Ivt (ent A (n : Int)) (z ||| 2 ^ n) (K : Int) ((n + 1 : Nat) : Int) := hI.put (fun j hj h1 h2 => by
          by_cases ej : j = n
          · exfalso
            rw [ej] at h2
            have : ent A (n : Int) 39 (n : Int) = 2 := (ui_k (by decide)).trans ui_s
            rw [this] at h2
            exact absurd h2 (by decide)
          · have nj : (j : Int) ≠ (n : Int) := by omega
            have k36 : ent A (n : Int) 36 (j : Int) = A 36 (j : Int) := (ui_k (by decide)).trans ((ui_k (by decide)).trans ((ui_k (by decide)).trans ((ui_k (by decide)).trans ((ui_k (by decide)).trans ((ui_k (by decide)).trans ((ui_k (by decide)).trans ((ui_k (by decide)).trans ((ui_k (by decide)).trans ((ui_k (by decide)).trans (rfl))))))))))
            have k39 : ent A (n : Int) 39 (j : Int) = A 39 (j : Int) := (ui_k (by decide)).trans ((ui_w (by omega)).trans ((ui_k (by decide)).trans ((ui_k (by decide)).trans ((ui_k (by decide)).trans ((ui_k (by decide)).trans ((ui_k (by decide)).trans ((ui_k (by decide)).trans ((ui_k (by decide)).trans ((ui_k (by decide)).trans (rfl))))))))))
            have k49 : ent A (n : Int) 49 (j : Int) = A 49 (j : Int) := (ui_k (by decide)).trans ((ui_k (by decide)).trans ((ui_k (by decide)).trans ((ui_k (by decide)).trans ((ui_k (by decide)).trans ((ui_k (by decide)).trans ((ui_k (by decide)).trans ((ui_k (by decide)).trans ((ui_k (by decide)).trans ((ui_k (by decide)).trans (rfl))))))))))
            exact ⟨k36.symm.trans h1, k39.symm.trans h2, k49⟩) (fun _ _ => g3)
        have sm : Smm A (ent A (n : Int)) := ⟨(ui_k (by decide)).trans ((ui_k (by decide)).trans ((ui_k (by decide)).trans ((ui_k (by decide)).trans ((ui_k (by decide)).trans ((ui_k (by decide)).trans ((ui_k (by decide)).trans ((ui_k (by decide)).trans ((ui_k (by decide)).trans ((ui_k (by decide)).trans (rfl)))))))))), (ui_k (by decide)).trans ((ui_k (by decide)).trans ((ui_k (by decide)).trans ((ui_k (by decide)).trans ((ui_k (by decide)).trans ((ui_k (by decide)).trans ((ui_k (by decide)).trans ((ui_k (by decide)).trans ((ui_k (by decide)).trans ((ui_k (by decide)).trans (rfl)))))))))), fun j => (ui_k (by decide)).trans ((ui_k (by decide)).trans ((ui_k (by decide)).trans ((ui_k (by decide)).trans ((ui_k (by decide)).trans ((ui_k (by decide)).trans ((ui_k (by decide)).trans ((ui_k (by decide)).trans ((ui_k (by decide)).trans ((ui_k (by decide)).trans (rfl)))))))))), fun j => (ui_k (by decide)).trans ((ui_k (by decide)).trans ((ui_k (by decide)).trans ((ui_k (by decide)).trans ((ui_k (by decide)).trans ((ui_k (by decide)).trans ((ui_k (by decide)).trans ((ui_k (by decide)).trans ((ui_k (by decide)).trans ((ui_k (by decide)).trans (rfl))))))))))⟩
        obtain ⟨cnt', B', A', i1, i2, i3, i4, i5⟩ := s_ent_in hK ihK k (n + 1) _ _ (w32 (cnt + 1)) _ (i + 1) (by omega) (ent_rep hR hr h17 hd) m3 (by omega) (by omega) hI2
        refine ⟨cnt', B', A', i1, sm.t i2, i3.trans ((ui_k (by decide)).trans ((ui_k (by decide)).trans ((ui_k (by decide)).trans ((ui_k (by decide)).trans ((ui_k (by decide)).trans ((ui_k (by decide)).trans ((ui_k (by decide)).trans ((ui_k (by decide)).trans ((ui_k (by decide)).trans ((ui_k (by decide)).trans (rfl))))))))))), fun Q hQ => ?_, fun Q QX hQ => ?_⟩
        · refine br_F (by omega) ⟨by omega, by omega, br_F (by omega) ⟨by omega, by omega, bn_T g2 ⟨by omega, by omega, bn_T g3 (m_bar hR hr (bn_T hb (m_enters hR hr hd ?_)))⟩⟩⟩
          show W_X9_ticks_142 (k + 1) (fun y0 y1 A' => W_X9_ticks_136 (K + 1) y0 y1 A' Q) (w32 (cnt + 1)) (K : Int) (w32 ((n : Int) + 1)) (ent A (n : Int)) Q
          rw [w32_up (by omega)]
          exact i4 Q hQ
        · rw [e7]
          refine ⟨rfl, rfl, br_F (by omega) (q_nte hR hz ?_)⟩
          rw [bs]
          refine bn_F (by show ¬ (n : Int) = -1; omega) ⟨by show 0 ≤ (n : Int); omega, by show (n : Int) < _; omega, q_barOf hR hr (bn_T hb ⟨hkt, q_next (t := (n : Int)) hR (by omega) (by omega) g1 (by rw [g2]; decide) ?_⟩)⟩
          rw [if_pos r9]
          refine q_blockOf1 hR.2.2.1 ⟨r5, r6⟩ (q_next (t := (n : Int)) hR (by omega) (by omega) g1 (by rw [g2]; decide) ?_)
          rw [if_pos r9]
          refine q_enter hR hr ?_
          show W_X8_enterAll_6 c LN (7 - (i + 1)) 0 (w32 (cnt + 1)) (ior (z : Int) (ishl 1 (n : Int))) (w32 ((i : Int) + 1)) (enB B A (n : Int)) E Q QX
          rw [m4, w32_up (by omega)]
          exact i5 Q QX hQ
      · have hI2 : Ivt A (z ||| 2 ^ n) (K : Int) ((n + 1 : Nat) : Int) := hI.put (fun j hj h1 h2 => ⟨h1, h2, rfl⟩) (fun _ _ => g3)
        obtain ⟨cnt', B', A', i1, i2, i3, i4, i5⟩ := s_ent_in hK ihK k (n + 1) B A cnt _ (i + 1) (by omega) hR m3 (by omega) (by omega) hI2
        refine ⟨cnt', B', A', i1, i2, i3, fun Q hQ => ?_, fun Q QX hQ => ?_⟩
        · refine br_F (by omega) ⟨by omega, by omega, br_F (by omega) ⟨by omega, by omega, bn_T g2 ⟨by omega, by omega, bn_T g3 (m_bar hR hr (bn_F hb ?_))⟩⟩⟩
          show W_X9_ticks_142 (k + 1) (fun y0 y1 A' => W_X9_ticks_136 (K + 1) y0 y1 A' Q) cnt (K : Int) (w32 ((n : Int) + 1)) A Q
          rw [w32_up (by omega)]
          exact i4 Q hQ
        · rw [e7]
          refine ⟨rfl, rfl, br_F (by omega) (q_nte hR hz ?_)⟩
          rw [bs]
          refine bn_F (by show ¬ (n : Int) = -1; omega) ⟨by show 0 ≤ (n : Int); omega, by show (n : Int) < _; omega, q_barOf hR hr (bn_F hb ?_)⟩
          show W_X8_enterAll_6 c LN (7 - (i + 1)) 0 cnt (ior (z : Int) (ishl 1 (n : Int))) (w32 ((i : Int) + 1)) B E Q QX
          rw [m4, w32_up (by omega)]
          exact i5 Q QX hQ
    · have hI2 : Ivt A z (K : Int) ((n + 1 : Nat) : Int) := fun j hj h1 h2 => by
        have w := hI j hj h1 h2
        rw [w]
        by_cases ej : j = n
        · have : ¬ A 49 (j : Int) = (K : Int) := fun w3 => go (by rw [← ej]; exact ⟨h1, h2, w3⟩)
          omega
        · omega
      obtain ⟨cnt', B', A', i1, i2, i3, i4, i5⟩ := s_ent_in hK ihK k (n + 1) B A cnt z i (by omega) hR hz hi hi6 hI2
      refine ⟨cnt', B', A', i1, i2, i3, fun Q hQ => ?_, i5⟩
      have F : W_X9_ticks_194 (fun y0 y1 A' => W_X9_ticks_136 (K + 1) y0 y1 A' Q) (fun y0 y1 y2 A' => W_X9_ticks_142 (k + 1) (fun y0 y1 A' => W_X9_ticks_136 (K + 1) y0 y1 A' Q) y0 y1 y2 A' Q) cnt (K : Int) (n : Int) A Q := by
        show W_X9_ticks_142 (k + 1) (fun y0 y1 A' => W_X9_ticks_136 (K + 1) y0 y1 A' Q) cnt (K : Int) (w32 ((n : Int) + 1)) A Q
        rw [w32_up (by omega)]
        exact i4 Q hQ
      refine br_F (by omega) ⟨by omega, by omega, fun _ => F, fun c1 => ⟨by omega, by omega, fun _ => F, fun c2 => ⟨by omega, by omega, fun _ => F, fun c3 => ?_⟩⟩⟩
      exact absurd ⟨((gT.is (x := (n : Int)) (by omega) (by omega)).2 c1).1, c2, c3⟩ go
theorem s_ent : ∀ (K : Nat), K ≤ 10 → ∀ (B : Fl) (A : Il) (cnt : Int) (z i : Nat), Rep c LN B E A → z < 64 → pcb z 6 = i → i ≤ 6 → Ivt A z ((K : Int) - 1) 0 → EnR c LN E B A cnt z i (fun Q => W_X9_ticks_136 (K + 1) cnt ((K : Int) - 1) A Q)
  | 0, _, B, A, cnt, z, i, hR, hz, hi, hi6, hI => by
    have l2 : ((ln 2 : Nat) : Int) = 6 := rfl
    refine ⟨cnt, B, A, hR, Smm.rf, rfl, fun Q hQ => br_T (by omega) hQ, fun Q QX hQ => ?_⟩
    by_cases c6 : i = 6
    · subst c6
      exact ⟨rfl, rfl, br_T (by decide) hQ⟩
    · have e7 : 7 - i = (6 - i) + 1 := by omega
      rw [e7]
      refine ⟨rfl, rfl, br_F (by omega) (q_nte hR hz ?_)⟩
      rw [bst_none (fun j hj h1 h2 => (hI j hj h1 h2).2 (by
        have gT := hR.2.2.2.2.2.2.2.2.2.2.2.2.2.2.2.2.1
        have w := (gT (j : Int) (by omega) (by omega)).2.2.2.2 h1
        obtain ⟨y1, y2, y3, y4, y5, y6, y7, y8, y9, y10, y11, y12, y13, y14, y15, y16, y17, y18, y19, y20, y21, y22, y23, y24, y25, y26, y27, y28, y29, y30, y31, -⟩ := w
        have := (y31 (Or.inl h2)).2.2
        omega)) 6 (Nat.le_refl _)]
      exact bn_T rfl hQ
  | K + 1, hK, B, A, cnt, z, i, hR, hz, hi, hi6, hI => by
    have eK : ((K + 1 : Nat) : Int) - 1 = (K : Int) := by omega
    rw [eK] at hI
    obtain ⟨cnt', B', A', i1, i2, i3, i4, i5⟩ := s_ent_in (K := K) (by omega) (s_ent K (by omega)) 6 0 B A cnt z i rfl hR hz hi hi6 hI
    refine ⟨cnt', B', A', i1, i2, i3, fun Q hQ => ?_, i5⟩
    show W_X9_ticks_136 (K + 1 + 1) cnt (((K + 1 : Nat) : Int) - 1) A Q
    rw [eK]
    exact br_F (by omega) ⟨7, i4 Q hQ⟩
theorem s_enters (hR : Rep c LN B E A) : ∃ (cnt' : Int) (B' : Fl) (A' : Il), Rep c LN B' E A' ∧ Smm A A' ∧ A' 1 0 = A 1 0 ∧ (∀ Q, Q cnt' A' → W_X9_ticks_131 A Q) ∧ ∀ (Q : Int → Fl → El → Prop) (QX : String → Fl → El → Prop), Q cnt' B' E → W_X8_enterAll c LN 0 B E Q QX := by
  obtain ⟨cnt', B', A', i1, i2, i3, i4, i5⟩ := s_ent (c := c) (LN := LN) (E := E) 10 (Nat.le_refl _) B A 0 0 0 hR (by decide) rfl (by decide) (fun j hj h1 h2 => by
    have gT := hR.2.2.2.2.2.2.2.2.2.2.2.2.2.2.2.2.1
    have w := (gT (j : Int) (by omega) (by omega)).2.2.2.2 h1
    obtain ⟨y1, y2, y3, y4, y5, y6, y7, y8, y9, y10, y11, y12, y13, y14, y15, y16, y17, y18, y19, y20, y21, y22, y23, y24, y25, y26, y27, y28, y29, y30, y31, -⟩ := w
    have := (y31 (Or.inl h2)).2.2
    rw [Nat.zero_testBit]
    refine ⟨fun w => absurd w (by decide), fun w => ?_⟩
    have w : ((10 : Nat) : Int) - 1 < A 49 (j : Int) ∨ (A 49 (j : Int) = ((10 : Nat) : Int) - 1 ∧ (j : Int) < 0) := w
    omega)
  exact ⟨cnt', B', A', i1, i2, i3, fun Q hQ => ⟨11, i4 Q hQ⟩, fun Q QX hQ => ⟨7, i5 Q QX hQ⟩⟩
/-- a minute, but for the clock of the class -/
theorem s_tick (hR : Rep c LN B E A) (hc : A 1 0 < 20000) : ∃ (cnt : Int) (B' : Fl) (E' : El) (A' : Il), Rep c LN B' E' A' ∧ Smm A A' ∧ A' 1 0 = A 1 0 + 1 ∧ (∀ Q, Q cnt A' → W_X9_ticks A Q) ∧ ∀ (QA : Fl → El → Prop) (QX : String → Fl → El → Prop) (QE : Int → Fl → El → Prop), (∀ (B4 : Fl) (E5 : El), ((¬ w32 (Int.tmod (B4 912 0) 1440) = 0 → W_X8_enterAll c LN 0 B4 E5 QE QX) ∧ (w32 (Int.tmod (B4 912 0) 1440) = 0 → W_X8_beginDay c LN 0 B4 E5 (fun (B_8 : Fl) (E_9 : El) => W_X8_enterAll c LN 0 B_8 E_9 QE QX) QX)) → QA B4 E5) → QE cnt B' E' → W_X8_arriveAll c LN 0 (u2 B 912 0 (A 1 0 + 1)) E QA QX := by
  have b16 := hR.2.2.1.1
  have hc0 := hR.1.2.2.2.2.1
  obtain ⟨B1, E1, A1, i1, i2, i3, i4, i5⟩ := s_arrs (c := c) (LN := LN) 6 0 _ _ _ rfl (tick_rep hR hc)
  have sm0 : Smm A (tck A) := ⟨tck_o (by decide), tck_o (by decide), fun _ => tck_o (by decide), fun _ => tck_o (by decide)⟩
  have e1 := i1.1.1
  by_cases day : w32 (Int.tmod (A1 1 0) 1440) = 0
  · obtain ⟨B2, A2, j1, j2, j3, j4, j5⟩ := s_day i1
    obtain ⟨cnt, B3, A3, k1, k2, k3, k4, k5⟩ := s_enters j1
    refine ⟨cnt, B3, E1, A3, k1, sm0.t (i2.t (j2.t k2)), k3.trans (j3.trans (i3.trans tck_1)), fun Q hQ => m_tick (by omega) (by omega) ⟨7, i4 Q ⟨fun w => absurd day w, fun _ => j4 _ (k4 Q hQ)⟩⟩, fun QA QX QE hA hE => ⟨7, i5 QA QX (hA B1 E1 ?_)⟩⟩
    rw [e1]
    exact ⟨fun w => absurd day w, fun _ => j5 _ _ (k5 _ _ hE)⟩
  · obtain ⟨cnt, B3, A3, k1, k2, k3, k4, k5⟩ := s_enters i1
    refine ⟨cnt, B3, E1, A3, k1, sm0.t (i2.t k2), k3.trans (i3.trans tck_1), fun Q hQ => m_tick (by omega) (by omega) ⟨7, i4 Q ⟨fun _ => k4 Q hQ, fun w => absurd w day⟩⟩, fun QA QX QE hA hE => ⟨7, i5 QA QX (hA B1 E1 ?_)⟩⟩
    rw [e1]
    exact ⟨fun _ => k5 _ _ hE, fun w => absurd w day⟩
theorem bill_mono {x : Int} {Q Q' : Nat → Prop} {QX : String → Fl → El → Prop} (hQ : ∀ v, Q v → Q' v) (h : W_X8_billNumbered c LN 0 x B E Q QX) : W_X8_billNumbered c LN 0 x B E Q' QX := by
  unfold W_X8_billNumbered at h ⊢
  unfold W_X8_requireIndex at h ⊢
  obtain ⟨h1, h2, h3, h4⟩ := h
  refine ⟨h1, h2, h3, fun c1 => h4.1 c1, fun c1 => ⟨fun c2 => ?_, fun c2 => (h4.2 c1).2 c2⟩⟩
  obtain ⟨k1, k2, k3, k4, k5⟩ := (h4.2 c1).1 c2
  exact k5.elim
theorem day_mono_go {Q Q' : Fl → El → Prop} {QX : String → Fl → El → Prop} (hQ : ∀ B' E', Q B' E' → Q' B' E') : ∀ (k : Nat) (n : Int) (B : Fl), W_X8_beginDay_19 c LN k 0 n B E Q QX → W_X8_beginDay_19 c LN k 0 n B E Q' QX
  | 0, n, B, h => h.elim
  | k + 1, n, B, h => by
    obtain ⟨h1, h2, h3, h4, h5⟩ := h
    refine ⟨h1, h2, h3, fun c1 => hQ _ _ (h4 c1), fun c1 => ?_⟩
    obtain ⟨k1, k2, k3, k4, k5, k6, k7⟩ := h5 c1
    refine ⟨k1, k2, k3, k4, k5, fun c2 => day_mono_go hQ k _ _ (k6 c2), fun c2 => ⟨fun c3 => day_mono_go hQ k _ _ ((k7 c2).1 c3), fun c3 => bill_mono (fun v hv => hv.elim) ((k7 c2).2 c3)⟩⟩
theorem day_mono {Q Q' : Fl → El → Prop} {QX : String → Fl → El → Prop} (hQ : ∀ B' E', Q B' E' → Q' B' E') (h : W_X8_beginDay c LN 0 B E Q QX) : W_X8_beginDay c LN 0 B E Q' QX := ⟨h.1, h.2.choose, day_mono_go hQ _ _ _ h.2.choose_spec⟩
theorem s_run {M : Int} (hM : M ≤ 300) : ∀ (k : Nat) (i x2 : Int) (B : Fl) (E : El) (A : Il), i + k = M → 0 ≤ i → Rep c LN B E A → A 0 0 = 0 → A 1 0 + k ≤ 20000 → ∃ (ans : Int) (B' : Fl) (E' : El) (A' : Il), Rep c LN B' E' A' ∧ Smm A A' ∧ (∀ Q, Q ans A' → W_X9_run_40 (k + 1) M x2 i A Q) ∧ ∀ (Q : Int → Fl → El → Prop) (QX : String → Fl → El → Prop), Q ans B' E' → W_X8_run_32 c LN (k + 1) 0 M x2 i B E Q QX
  | 0, i, x2, B, E, A, e, hi, hR, h0, hc => ⟨x2, B, E, A, hR, Smm.rf, fun Q hQ => br_T (by omega) hQ, fun Q QX hQ => br_T (by omega) hQ⟩
  | k + 1, i, x2, B, E, A, e, hi, hR, h0, hc => by
    obtain ⟨cnt, B1, E1, A1, i1, i2, i3, i4, i5⟩ := s_tick hR (by omega)
    obtain ⟨ans, B2, E2, A2, j1, j2, j3, j4⟩ := s_run hM k (i + 1) (w32 (x2 + cnt)) B1 E1 A1 (by omega) (by omega) i1 (i2.1.trans h0) (by omega)
    have ei : w32 (i + 1) = i + 1 := w32_id (by unfold rg; omega)
    have hc0 := hR.1.2.2.2.2.1
    refine ⟨ans, B2, E2, A2, j1, i2.t j2, fun Q hQ => br_F (by omega) (bn_T h0 (i4 _ ?_)), fun Q QX hQ => br_F (by omega) ⟨rfl, ?_⟩⟩
    · show W_X9_run_40 (k + 1) M (w32 (x2 + cnt)) (w32 (i + 1)) A1 Q
      rw [ei]
      exact j3 Q hQ
    · rw [hR.1.1, w32_id (z := A 1 0 + 1) (by unfold rg; omega)]
      refine i5 _ QX (fun z2 B_4 E_5 => W_X8_run_32 c LN (k + 1) 0 M (w32 (x2 + z2)) (w32 (i + 1)) B_4 E_5 Q QX) (fun B4 E5 h => ⟨fun w => ⟨rfl, h.1 w⟩, fun w => ?_⟩) ?_
      · exact day_mono (fun B8 E9 h8 => ⟨rfl, h8⟩) (h.2 w)
      · show W_X8_run_32 c LN (k + 1) 0 M (w32 (x2 + cnt)) (w32 (i + 1)) B1 E1 Q QX
        rw [ei]
        exact j4 Q QX hQ
theorem sim_run {a0 : Int} (hR : Rep c LN B E A) (hp : pz A ≤ 1022) (hr0 : rg a0) : ∃ (ans : Int) (A' : Il), (∀ Q, Q ans A' → W_X9_run a0 A Q) ∧ pz A' ≤ pz A + 2 ∧ W_X8_run c LN 0 a0 B E (fun z B' E' => A' 0 0 = 0 ∧ z = ans ∧ Rep c LN B' E' A') (fun X9 B' E' => ((X9 = "java/lang/IllegalArgumentException" ∧ A' 0 0 = 1) ∨ (X9 = "java/lang/IllegalStateException" ∧ A' 0 0 = 2)) ∧ Rep c LN B' E' A') := by
  have hc0 := hR.1.2.2.2.2.1
  have e912 := hR.1.1
  by_cases hx : 1 ≤ a0 ∧ a0 ≤ 300
  · have ew : w32 (A 1 0 + a0) = A 1 0 + a0 := w32_id (by unfold rg; omega)
    by_cases hy : A 1 0 + a0 ≤ 20000
    · obtain ⟨N, eN⟩ := Int.eq_ofNat_of_zero_le (show 0 ≤ a0 by omega)
      obtain ⟨ans, B', E', A', i1, i2, i3, i4⟩ := s_run (c := c) (LN := LN) (M := a0) hx.2 N 0 0 B E (sc A 0 0) (by omega) (by decide) hR.thr rfl (by show A 1 0 + _ ≤ 20000; omega)
      refine ⟨ans, A', fun Q hQ => m_in1 hx (bn_F (by decide) (br_T (by rw [ew]; exact hy) ⟨N + 1, i3 Q hQ⟩)), ?_, q_range1 hx ⟨rfl, br_F (by rw [e912, ew]; omega) ?_⟩⟩
      · have w := i2.zz
        have w2 : pz (sc A 0 0) ≤ pz A + 2 := pz_thr
        omega
      · unfold W_X8_run_25
        exact q_state1 ⟨N + 1, i4 _ _ ⟨i2.1, rfl, i1⟩⟩
    · refine ⟨0, sc A 0 2, fun Q hQ => m_in1 hx (bn_F (by decide) (br_F (by rw [ew]; exact hy) ⟨1, br_F (by omega) (bn_F (by show ¬ (2 : Int) = 0; decide) hQ)⟩)), pz_thr, q_range1 hx ⟨rfl, br_T (by rw [e912, ew]; omega) ?_⟩⟩
      unfold W_X8_run_25
      exact q_state0 ⟨Or.inr ⟨rfl, rfl⟩, hR.thr⟩
  · refine ⟨0, sc A 0 1, fun Q hQ => m_in0 hx (bn_T rfl ⟨1, ?_⟩), pz_thr, q_range0 hx ⟨Or.inl ⟨rfl, rfl⟩, hR.thr⟩⟩
    by_cases c1 : a0 ≤ 0
    · exact br_T c1 hQ
    · exact br_F c1 (bn_F (by show ¬ (1 : Int) = 0; decide) hQ)
end Run
