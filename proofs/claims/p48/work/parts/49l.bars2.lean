/-! what bars a train: the class's side -/
section Bars2
variable {c LN : Nat → Nat} {B : Fl} {E : El} {A : Il}
/-- the fields of a train that is ready -/
theorem Rep.flds {t : Int} (hR : Rep c LN B E A) (h0 : 0 ≤ t) (h1 : t < 6) (h36 : A 36 t = 1) (h3 : ¬ A 39 t = 3) : (B 800 (40 + t.toNat) = t ∧ B 801 (40 + t.toNat) = A 39 t ∧ B 802 (40 + t.toNat) = A 37 t ∧ B 803 (40 + t.toNat) = A 38 t ∧ B 804 (40 + t.toNat) = A 20 (A 37 t) ∧ B 805 (40 + t.toNat) = A 40 t ∧ B 806 (40 + t.toNat) = A 41 t) ∧ (B 808 (40 + t.toNat) = wgt A t (A 44 t).toNat ∧ B 811 (40 + t.toNat) = A 46 t ∧ B 814 (40 + t.toNat) = A 50 t ∧ (A 50 t ≠ -1 → B 815 (40 + t.toNat) = A 51 t) ∧ (A 39 t ≠ 0 → B 812 (40 + t.toNat) = A 48 t ∧ B 813 (40 + t.toNat) = A 49 t)) ∧ rowR LN B E (60 + t.toNat) (A 47 t) (fun p => A 45 (8 * t + p)) ∧ rowR LN B E (50 + t.toNat) (A 44 t) (fun p => A 43 (10 * t + p)) ∧ (0 ≤ A 46 t ∧ A 46 t ≤ A 47 t ∧ A 47 t ≤ 8) ∧ (0 ≤ A 44 t ∧ A 44 t ≤ 10) := by
  have gT := hR.2.2.2.2.2.2.2.2.2.2.2.2.2.2.2.2.1
  have gU := hR.2.2.2.2.2.2.2.2.2.2.2.2.2.1
  obtain ⟨u_1, u_2, u_3, u_4, u_5⟩ := gT t h0 h1
  obtain ⟨y1, y2, y3, y4, y5, y6, y7, y8, y9, y10, y11, y12, y13, y14, y15, y16, y17, y18, y19, y20, y21, y22, y23, y24, y25, y26, y27, y28, y29, y30, y31, y32, y33, y34, y35, y36⟩ := u_5 h36
  obtain ⟨z1, z2, z3, z4⟩ := y28 h3
  exact ⟨⟨u_1, y1, y4, y8, y12, y13.trans (if_neg h3), y16⟩, ⟨y21, z2, y32, y35, fun n => ⟨(y31 (by unfold Rn; omega)).1, (y31 (by unfold Rn; omega)).2.1⟩⟩, z1, ((gU t h0 h1).2 h36).1, ⟨y24, y25, y26⟩, ⟨y22, y23⟩⟩
theorem q_next {t : Int} {Q : Int → Prop} (hR : Rep c LN B E A) (h0 : 0 ≤ t) (h1 : t < 6) (h36 : A 36 t = 1) (h3 : ¬ A 39 t = 3) (h : Q (if A 46 t < A 47 t then nb A t else -1)) : W_X7_nextBlock c LN (40 + t.toNat) B E Q := by
  obtain ⟨-, ⟨-, f811, -⟩, rw6, -, n46, -⟩ := hR.flds h0 h1 h36 h3
  have e60 : 40 + t.toNat + 20 = 60 + t.toNat := by omega
  refine ⟨kdtr (by omega) (by omega), ?_⟩
  rw [e60, f811]
  refine ⟨kdtw (by omega) (by omega), q_at (kdtw (by omega) (by omega)) rw6 ?_⟩
  by_cases cc : A 46 t < A 47 t
  · rw [if_pos cc] at h
    rw [if_pos ⟨n46.1, cc⟩]
    exact h
  · rw [if_neg cc] at h
    rw [if_neg (fun w => cc w.2)]
    exact h
theorem q_mins {v w : Nat} {n : Int} {Q : Int → Prop} (hv : kd c v = 8) (hw : kd c w = 6) (e : v + 10 = w) (h6 : B 601 w = n) (hn : 0 ≤ n ∧ n ≤ 10) (h : Q (1 + n / 4)) : W_X7_minutesToClear c LN v B E Q := by
  subst e
  refine ⟨hv, hw, ?_⟩
  rw [h6, Int.tdiv_eq_ediv_of_nonneg hn.1, w32_id (z := n / 4) (by unfold rg; omega), w32_id (by unfold rg; omega)]
  exact h
theorem q_othersOf {v : Nat} {n u f o : Int} {Q : Int → Prop} (hk : kd c v = 2) (h7 : B 207 v = f) (h8 : B 208 v = o) (hf : 0 ≤ f ∧ f ≤ o ∧ o ≤ 1440) (hn : 0 ≤ n ∧ n ≤ 20000) (hu : n < u ∧ u ≤ n + 1000) (hy : (∃ m : Int, n ≤ m ∧ m < u ∧ f ≤ m % 1440 ∧ m % 1440 < o) → Q 1) (hno : (¬ ∃ m : Int, n ≤ m ∧ m < u ∧ f ≤ m % 1440 ∧ m % 1440 < o) → Q 0) : W_X1_isOfOthers c LN v n u B E Q := by
  have et : w32 (Int.tmod n 1440) = n % 1440 := by
    rw [Int.tmod_eq_emod_of_nonneg hn.1, w32_id (by unfold rg; omega)]
  have e1 : w32 (n % 1440 + u) = n % 1440 + u := w32_id (by unfold rg; omega)
  have e2 : w32 (n % 1440 + u - n) = n % 1440 + u - n := w32_id (by unfold rg; omega)
  have e3 : w32 (o + 1440) = o + 1440 := w32_id (by unfold rg; omega)
  have e4 : w32 (f + 1440) = f + 1440 := w32_id (by unfold rg; omega)
  have K : f < o → ¬ (¬ o ≤ n % 1440 ∧ f < n % 1440 + u - n) → W_X1_isOfOthers_43 c LN v (n % 1440) (n % 1440 + u - n) B E Q := fun cA nc => by
    refine ⟨hk, ?_⟩
    rw [h8, h7, e3, e4]
    refine ⟨fun c3 => hno (fun ⟨m, a1, a2, a3, a4⟩ => by omega), fun c3 => ⟨fun c4 => hno (fun ⟨m, a1, a2, a3, a4⟩ => by omega), fun c4 => hy ⟨n + (f + 1440 - n % 1440), by omega, by omega, by omega, by omega⟩⟩⟩
  refine ⟨hk, ?_⟩
  rw [h7, h8, et, e1, e2]
  refine ⟨fun cA => ⟨fun c1 => K cA (fun w => w.1 c1), fun c1 => ⟨fun c2 => hy ?_, fun c2 => K cA (fun w => c2 w.2)⟩⟩, fun cA => hno (fun ⟨m, a1, a2, a3, a4⟩ => by omega)⟩
  by_cases c3 : f ≤ n % 1440
  · exact ⟨n, Int.le_refl _, by omega, c3, by omega⟩
  · exact ⟨n + (f - n % 1440), by omega, by omega, by omega, by omega⟩
theorem q_waits {t b : Int} {Q : Int → Prop} (hR : Rep c LN B E A) (hr : Rdy c A t) (hy : bp A t b 2 → Q 1) (hn : ¬ bp A t b 2 → Q 0) : W_X8_isWaiting c LN 0 (40 + t.toNat) B E Q := by
  obtain ⟨⟨r1, r2, r3, r4⟩, -, -, -, -, -, -, -, -, -, r25, r26, -⟩ := hr
  obtain ⟨⟨f0, f1, f2, f3, f4, f5, f6⟩, ⟨g1, g2, g3, g4, g5⟩, -⟩ := hR.flds r1 r2 r3 (by omega)
  have gT := hR.2.2.2.2.2.2.2.2.2.2.2.2.2.2.2.2.1
  have l2 : ((ln 2 : Nat) : Int) = 6 := rfl
  refine ⟨kdtr (by omega) (by omega), ?_⟩
  rw [g3, f5]
  refine ⟨fun c1 => hn (fun w => w.1 (by omega)), fun c1 => ⟨rfl, rfl, fun c2 => by omega, fun c2 => ?_⟩⟩
  have h50 : A 50 t ≠ -1 := by omega
  rw [g4 h50]
  refine ⟨fun c3 => ⟨by omega, by omega, kdtr (by omega) (by omega), ?_⟩, fun c3 => hn (fun w => c3 w.2.1)⟩
  by_cases c4 : A 36 (A 50 t) = 0
  · have e801 := (gT.is (x := A 50 t) (by omega) (by omega)).1 c4
    refine ⟨kdtr (by omega) (by omega), ?_⟩
    rw [e801]
    exact ⟨fun w => absurd w (by decide), fun _ => ⟨fun _ => ⟨fun _ => hy ⟨h50, c3, fun w => w.1 c4⟩, fun w => absurd rfl w⟩, fun w => absurd w (by decide)⟩⟩
  · have e36 := ((gT.is (x := A 50 t) (by omega) (by omega)).2 c4).1
    refine q_X7stands gT (by omega) (by omega) e36 ?_
    by_cases c5 : A 39 (A 50 t) = 0 ∨ A 39 (A 50 t) = 1
    · rw [if_pos c5]
      obtain ⟨⟨-, -, -, -, -, o5, -⟩, -⟩ := hR.flds (t := A 50 t) (by omega) (by omega) e36 (by omega)
      refine br_F (by decide) ⟨by omega, by omega, kdtr (by omega) (by omega), ?_⟩
      rw [o5]
      exact ⟨fun c6 => hn (fun w => w.2.2 ⟨c4, c5, c6⟩), fun c6 => hy ⟨h50, c3, fun w => c6 w.2.2⟩⟩
    · rw [if_neg c5]
      exact br_T rfl (hy ⟨h50, c3, fun w => c5 w.2.1⟩)
set_option maxHeartbeats 1000000 in
theorem q_start {t b : Int} {Q : Int → Prop} (hR : Rep c LN B E A) (hr : Rdy c A t) (hb : 0 ≤ b ∧ b < A 6 0) (h : Q (fb (bp A t b) 5 1)) : W_X8_barOfStart c LN 0 (40 + t.toNat) (100 + b.toNat) B E Q := by
  obtain ⟨⟨r1, r2, r3, r4⟩, -⟩ := id hr
  obtain ⟨⟨f0, f1, f2, f3, f4, f5, f6⟩, ⟨g1, g2, g3, g4, g5⟩, -⟩ := hR.flds r1 r2 r3 (by omega)
  have gB := hR.2.2.1
  obtain ⟨⟨b1, b2, b3⟩, b4, b5, b6, b7, b8, b9, b10, b11, b12, b13, b14⟩ := id gB
  have gH := hR.2.2.2.2.1 b hb.1 hb.2
  have e1 := hR.1.1
  have hk := kd8 (c := c) (v := 100 + b.toNat) (by omega) (by omega) b3
  have f13 := b8 b hb.1 hb.2
  have f14 := b9 b hb.1 hb.2
  have f11 := b12 b hb.1 hb.2
  have f12 := b13 b hb.1 hb.2
  have K : ¬ bp A t b 1 → W_X8_barOfStart_20 c LN 0 (40 + t.toNat) (100 + b.toNat) B E Q := fun n1 => by
    rw [fb_F n1] at h
    refine ⟨rfl, q_waits (b := b) hR hr (fun c2 => ?_) (fun c2 => ?_)⟩
    · rw [show (1 : Int) + 1 = 2 from rfl, fb_T c2] at h
      exact br_F (by decide) h
    · rw [show (1 : Int) + 1 = 2 from rfl, fb_F c2, show (2 : Int) + 1 = 3 from rfl] at h
      refine br_T rfl ⟨hk, q_holderAt hk ?_⟩
      rw [e1, ← gH.1]
      by_cases c3 : A 17 b = -1
      · rw [fb_F (show ¬ bp A t b 3 from fun w => w c3), show (3 : Int) + 1 = 4 from rfl] at h
        refine br_T c3 (q_isClosedAt hk ?_)
        rw [f12, f11]
        by_cases c4 : ¬ A 12 b = 0 ∨ A 1 0 < A 11 b
        · rw [if_pos c4]
          rw [fb_T (show bp A t b 4 from c4)] at h
          exact br_F (by decide) h
        · rw [if_neg c4]
          rw [fb_F (show ¬ bp A t b 4 from c4), show (4 : Int) + 1 = 5 from rfl] at h
          refine br_T rfl ?_
          rw [f13, f14]
          refine ⟨fun c5 => ?_, fun c5 => ⟨fun c6 => ?_, fun c6 => ?_⟩⟩
          · rw [fb_F (show ¬ bp A t b 5 from fun w => w.1 c5)] at h
            exact h
          · rw [fb_F (show ¬ bp A t b 5 from fun w => c6 w.2)] at h
            exact h
          · rw [fb_T (show bp A t b 5 from ⟨c5, c6⟩)] at h
            exact h
      · rw [fb_T (show bp A t b 3 from c3)] at h
        exact br_F c3 h
  refine ⟨kdtr (by omega) (by omega), ?_⟩
  rw [g2, (g5 (by omega)).1, e1]
  refine ⟨fun c1 => K (fun w => c1 w.1), fun c1 => ⟨rfl, fun c2 => K (fun w => by have w2 : A 1 0 < A 48 t := w.2; omega), fun c2 => ?_⟩⟩
  rw [fb_T (show bp A t b 1 from ⟨c1, by omega⟩)] at h
  exact h
set_option maxHeartbeats 1000000 in
theorem q_run {t b : Int} {Q : Int → Prop} {QX : String → Fl → El → Prop} (hR : Rep c LN B E A) (hr : Rdy c A t) (hb : b = nb A t) (h : Q (fb (bp A t b) 5 6)) : W_X8_barOfRun c LN 0 (40 + t.toNat) (100 + b.toNat) b B E Q QX := by
  obtain ⟨⟨r1, r2, r3, r4⟩, ⟨r5, r6, r7⟩, ⟨r8, r9, r10⟩, ⟨r11, r12⟩, ⟨r13, r14, r15, r16, r17⟩, ⟨r18, r19, r20⟩, r21, r22, r23, r24, r25, r26, r27, r28⟩ := hr
  rw [← hb] at r5 r6 r11 r12 r21 r27 r28
  obtain ⟨⟨f0, f1, f2, f3, f4, f5, f6⟩, ⟨g1, g2, g3, g4, g5⟩, -, ⟨ru1, -⟩, -⟩ := hR.flds r1 r2 r3 (by omega)
  have gT := hR.2.2.2.2.2.2.2.2.2.2.2.2.2.2.2.2.1
  have gB := hR.2.2.1
  have gE := hR.2.2.2.2.2.1
  have gC := hR.2.2.2.2.2.2.1
  have gS := hR.2.1
  obtain ⟨⟨c1, c2, c3⟩, c4, c5, c6, c7, c8, c8z⟩ := id gC
  obtain ⟨⟨b1, b2, b3⟩, b4, b5, b6, b7, b8, b9, b10, b11, b12, b13, b14⟩ := id gB
  have e1 := hR.1.1
  have hk := kd8 (c := c) (v := 100 + b.toNat) (by omega) (by omega) b3
  have hkc := kd10 (c := c) (v := 130 + (A 38 t).toNat) (by omega) (by omega) c3
  have f203 := b6 b r5 r6
  have f207 := b10 b r5 r6
  have f208 := b11 b r5 r6
  have d403 := c6 (A 38 t) r18 r19
  have d404 := c7 (A 38 t) r18 r19
  have d8 := c8 (A 38 t) r18 r19
  obtain ⟨k0, k1, k2⟩ := hR.2.2.2.2.2.2.2.1.1 (A 38 t) r18 r19
  have kb := k2 b r5 (by omega)
  have ecl : clm A t b = A 1 0 + rnv A t b + (1 + A 44 t / 4) := rfl
  have s5 := gS.2 (oth A b (A 40 t)) r11 r12
  have tk := tkn_rg A (oth A b (A 40 t)) 6
  refine q_runs gT gB gE r1 r2 r3 ⟨r5, r6⟩ ⟨rfl, kdtr (by omega) (by omega), q_mins (n := A 44 t) (kdtr (by omega) (by omega)) (kdtc (v := 50 + t.toNat) (by omega) (by omega)) (by omega) ru1 r22 ⟨hk, ?_⟩⟩
  have e2 : w32 (w32 (A 1 0 + rnv A t b) + (1 + A 44 t / 4)) = clm A t b := by
    rw [w32_id (z := A 1 0 + rnv A t b) (by unfold rg; omega), w32_id (by unfold rg; omega)]
    rfl
  rw [e1, e2]
  refine q_othersOf hk f207 f208 r28 r23 ⟨by omega, by omega⟩ (fun w => ?_) (fun w => ?_)
  · rw [fb_T (show bp A t b 6 from w)] at h
    exact br_F (by decide) h
  · rw [fb_F (show ¬ bp A t b 6 from w), show (6 : Int) + 1 = 7 from rfl] at h
    refine br_T rfl ?_
    have e9 : w32 (2 * A 9 b) = 2 * A 9 b := w32_id (by unfold rg; omega)
    have e8 : w32 (8 - 2 * A 9 b) = 8 - 2 * A 9 b := w32_id (by unfold rg; omega)
    have m0 : 0 ≤ A 20 (A 37 t) * (8 - 2 * A 9 b) := Int.mul_nonneg (by omega) (by omega)
    have m1 : A 20 (A 37 t) * (8 - 2 * A 9 b) ≤ 9 * 8 := Int.mul_le_mul r17 (by omega) (by omega) (by decide)
    have e7 : w32 (A 20 (A 37 t) * (8 - 2 * A 9 b)) = A 20 (A 37 t) * (8 - 2 * A 9 b) := w32_id (by unfold rg; omega)
    rw [g1, f4, f203, e9, e8, e7, f3]
    refine ⟨fun c7' => ?_, fun c7' => ?_⟩
    · rw [fb_F (show ¬ bp A t b 7 from fun w => w c7'), show (7 : Int) + 1 = 8 from rfl] at h
      refine q_crewOf1 gC ⟨r18, r19⟩ ⟨hkc, fun c8' => ?_, fun c8' => ?_⟩
      · have w8 : ¬ bp A t b 8 := fun w => c8' ((iand_bit ⟨k0, k1⟩ ⟨r5, by omega⟩).2 (fun w2 => (kb.1 w2) w))
        rw [fb_F w8, show (8 : Int) + 1 = 9 from rfl] at h
        refine q_restingAt hkc ?_
        rw [d404]
        by_cases c9 : A 1 0 < A 27 (A 38 t)
        · rw [if_pos c9]
          rw [fb_T (show bp A t b 9 from Or.inl c9)] at h
          exact bn_F (by decide) h
        · rw [if_neg c9]
          refine bn_T rfl ?_
          rw [d403, w32_id (z := A 26 (A 38 t) + rnv A t b) (by unfold rg; omega)]
          refine ⟨fun c10 => ?_, fun c10 => ?_⟩
          · rw [fb_F (show ¬ bp A t b 9 from fun w => w.elim c9 (fun w2 => w2 c10)), show (9 : Int) + 1 = 10 from rfl] at h
            rw [f5]
            refine q_otherEnd gB ⟨r5, r6⟩ (q_freeAt1 gS gT ⟨r11, r12⟩ ?_)
            rw [w32_id (z := A 5 (oth A b (A 40 t)) - tkn A (oth A b (A 40 t)) 6) (by unfold rg; omega)]
            refine ⟨fun c11 => ?_, fun c11 => ?_⟩
            · rw [fb_T (show bp A t b 10 from fun w => by omega)] at h
              exact h
            · rw [fb_F (show ¬ bp A t b 10 from fun w => w (by omega))] at h
              exact h
          · rw [fb_T (show bp A t b 9 from Or.inr c10)] at h
            exact h
      · have w8 : bp A t b 8 := Classical.byContradiction (fun w => ((iand_bit ⟨k0, k1⟩ ⟨r5, by omega⟩).1 c8') (kb.2 w))
        rw [fb_T w8] at h
        exact h
    · rw [fb_T (show bp A t b 7 from c7')] at h
      exact h
theorem q_barOf {t : Int} {Q : Int → Prop} {QX : String → Fl → El → Prop} (hR : Rep c LN B E A) (hr : Rdy c A t) (h : Q (fb (bp A t (nb A t)) 10 1)) : W_X8_barOf c LN 0 (40 + t.toNat) B E Q QX := by
  obtain ⟨⟨r1, r2, r3, r4⟩, ⟨r5, r6, r7⟩, ⟨r8, r9, r10⟩, -⟩ := id hr
  refine ⟨kdtr (by omega) (by omega), q_next hR r1 r2 r3 (by omega) ?_⟩
  rw [if_pos r9]
  refine ⟨rfl, q_blockOf1 hR.2.2.1 ⟨r5, r6⟩ (q_start hR hr ⟨r5, r6⟩ ?_)⟩
  obtain ⟨a1, a2⟩ := fb_add (P := bp A t (nb A t)) (m := 5) 5 1 (by decide)
  refine ⟨fun w => q_run hR hr rfl ?_, fun w => ?_⟩
  · rw [a1 w] at h
    exact h
  · rw [a2 w] at h
    exact h
theorem sim_barred {a0 : Int} (hR : Rep c LN B E A) (hp : pz A ≤ 1022) (hr0 : rg a0) : ∃ (ans : Int) (A' : Il), (∀ Q, Q ans A' → W_X9_barred a0 A Q) ∧ pz A' ≤ pz A + 2 ∧ W_X8_barred c LN 0 a0 B E (fun z => A' 0 0 = 0 ∧ z = ans ∧ Rep c LN B E A') (fun X9 B' E' => ((X9 = "java/lang/IndexOutOfBoundsException" ∧ A' 0 0 = 1)) ∧ Rep c LN B' E' A') := by
  have hR0 : Rep c LN B E (sc A 0 0) := hR.thr
  have gT := hR.2.2.2.2.2.2.2.2.2.2.2.2.2.2.2.2.1
  by_cases h1 : 0 ≤ a0 ∧ a0 < 6 ∧ ¬ A 36 a0 = 0
  · have e36 := ((gT.is (x := a0) h1.1 h1.2.1).2 h1.2.2)
    have hk := kdtr (c := c) (v := 40 + a0.toNat) (by omega) (by omega)
    by_cases h39 : A 39 a0 = 1
    · have hr := hR0.rdy h1.1 h1.2.1 e36.1 h39
      refine ⟨fb (bp (sc A 0 0) a0 (nb (sc A 0 0) a0)) 10 1, sc A 0 0, fun Q hQ => m_isTrain1 h1 (br_F (by decide) ?_), pz_thr, rfl, q_trainOf1 gT h1 ⟨hk, bn_T (by rw [e36.2.1]; exact h39) (q_barOf hR0 hr ⟨rfl, rfl, hR0⟩)⟩⟩
      unfold W_X9_barred_14
      exact br_T le0 ⟨h1.1, h1.2.1, br_T h39 (m_bar hR0 hr hQ)⟩
    · refine ⟨-1, sc A 0 0, fun Q hQ => m_isTrain1 h1 (br_F (by decide) ?_), pz_thr, rfl, q_trainOf1 gT h1 ⟨hk, bn_F (by rw [e36.2.1]; exact h39) ⟨rfl, rfl, hR0⟩⟩⟩
      unfold W_X9_barred_14
      exact br_T le0 ⟨h1.1, h1.2.1, br_F h39 hQ⟩
  · exact ⟨0, sc A 0 1, fun Q hQ => m_isTrain0 h1 (br_T rfl (by unfold W_X9_barred_14; exact br_F no1 hQ)), pz_thr, rfl, q_trainOf0 gT h1 ⟨⟨rfl, rfl⟩, hR.thr⟩⟩
end Bars2
