/-! what bars a train, as the law counts it -/
theorem k_bit : ∀ z : Nat, z < 16 → ∀ b : Nat, b < 4 → (iand (ishr (z : Int) (b : Int)) 1 = 0 ↔ z.testBit b = false) := by decide +kernel
theorem k_bitI {z b : Int} (hz : 0 ≤ z ∧ z < 16) (hb : 0 ≤ b ∧ b < 4) : iand (ishr z b) 1 = 0 ↔ ¬ z.toNat.testBit b.toNat = true := by
  have e1 : z = ((z.toNat : Nat) : Int) := by omega
  have e2 : b = ((b.toNat : Nat) : Int) := by omega
  have h := k_bit z.toNat (by omega) b.toNat (by omega)
  rw [← e1, ← e2] at h
  rw [h]
  cases z.toNat.testBit b.toNat <;> simp
theorem td_nn {z k : Int} (hz : 0 ≤ z ∧ z < 100000) (hk : 0 < k ∧ k < 100000) : w32 (Int.tdiv z k) = z / k := by
  rw [Int.tdiv_eq_ediv_of_nonneg hz.1]
  have h1 : 0 ≤ z / k := Int.ediv_nonneg hz.1 (by omega)
  have h2 : z / k ≤ z := Int.ediv_le_self _ hz.1
  exact w32_id (by unfold rg; omega)
/-- all that is read of a ready train, in the reference's numbers -/
def RdL (la : Nat → Nat) (I : Il) (A : Il) (n b : Int) : Prop := (0 ≤ n ∧ n < 3) ∧ (0 ≤ b ∧ b < 4) ∧
  (I (la 2) (16 * n + 2) = A 44 n ∧ I (la 2) (16 * n + 1) = A 20 n ∧ I (la 2) (16 * n + 4) = A 40 n ∧ I (la 2) (16 * n + 7) = A 46 n ∧ I (la 2) (16 * n + 9) = A 48 n ∧ I (la 2) (16 * n + 11) = A 50 n ∧ (A 50 n ≠ -1 → I (la 2) (16 * n + 12) = A 51 n) ∧ I (la 2) (16 * n + 13) = A 26 n ∧ I (la 2) (16 * n + 14) = A 27 n) ∧
  (I (la 1) b = A 8 b ∧ I (la 1) (4 + b) = A 9 b ∧ I (la 1) (8 + b) = A 10 b ∧ I (la 1) (12 + b) = A 13 b ∧ I (la 1) (16 + b) = A 14 b ∧ I (la 1) (20 + b) = A 15 b ∧ I (la 1) (24 + b) = A 16 b ∧ I (la 1) (28 + b) = A 17 b ∧ I (la 1) (36 + b) = A 11 b) ∧
  (I (la 3) 0 = A 1 0 ∧ A 37 n = n ∧ A 38 n = n ∧ wgt A n (A 44 n).toNat = 2 * A 44 n ∧ A 7 (2 * b) = b ∧ A 7 (2 * b + 1) = nx b ∧ A 12 b = 0) ∧
  (2 ≤ A 8 b ∧ A 8 b ≤ 60) ∧ (0 ≤ A 44 n ∧ A 44 n ≤ 5) ∧ (1 ≤ A 20 n ∧ A 20 n ≤ 3) ∧ (A 13 b = 0 ∨ A 13 b = 1) ∧ (0 ≤ A 9 b ∧ A 9 b ≤ 3) ∧ (0 ≤ A 15 b ∧ A 15 b ≤ A 16 b ∧ A 16 b ≤ 1440) ∧ (2 ≤ rnv A n b ∧ rnv A n b ≤ 840) ∧ (0 ≤ A 1 0 ∧ A 1 0 ≤ 20000) ∧ (-1 ≤ A 17 b) ∧ (0 ≤ A 26 n ∧ A 26 n ≤ 600) ∧ (-1 ≤ A 50 n ∧ A 50 n < 3) ∧ (0 ≤ A 40 n ∧ A 40 n < 4) ∧
  (0 ≤ I (la 2) (16 * n + 15) ∧ I (la 2) (16 * n + 15) < 16 ∧ ((I (la 2) (16 * n + 15)).toNat.testBit b.toNat = true ↔ ¬ A 28 (16 * n + b) = 0)) ∧ (A 14 b = 0 ∨ A 14 b = 1)
section Bars
variable {c LN : Nat → Nat} {B : Fl} {E : El} {la : Nat → Nat} {S : Shp} {F : Fl} {I : Il} {A : Il} {n : Int} {Q : Int → Prop}
theorem rdL (hL : LR (lA la I) A) (hR : Rep c LN B E A) (h0 : 0 ≤ n) (h1 : n < 3) (h36 : A 36 n = 1) (h39 : A 39 n = 1) : RdL la I A n (nb A n) ∧ I (la 0) (8 * n + A 46 n) = nb A n ∧ (0 ≤ A 46 n ∧ A 46 n < A 47 n ∧ A 47 n ≤ 8) ∧ I (la 2) (16 * n + 8) = A 47 n ∧ I (la 2) (16 * n + 10) = A 49 n ∧ Rdy c A n := by
  have hr := hR.rdy h0 (by omega) h36 h39
  obtain ⟨⟨r1, r2, r3, r4⟩, ⟨r5, r6, r7⟩, ⟨r8, r9, r10⟩, ⟨r11, r12⟩, ⟨r13, r14, r15, r16, r17⟩, ⟨r18, r19, r20⟩, r21, r22, r23, r24, r25, r26, r27, r28⟩ := id hr
  have hw := hR.wgt2 h0 (by omega) h36
  obtain ⟨⟨g1, g2, g3, g4⟩, hs, ⟨hb0, hb⟩, ⟨hc0, hc1, hc⟩, ht, ht6⟩ := hL
  have hb4 : 0 ≤ nb A n ∧ nb A n < 4 := by omega
  obtain ⟨b1, b2, b3, b4, b5, b6, b7, b8, b9, b10, b11, b12, b13⟩ := hb _ hb4.1 hb4.2
  obtain ⟨c1, c2, c3, c4, c5, c6⟩ := hc n h0 h1
  obtain ⟨t0, t⟩ := ht n h0 h1
  obtain ⟨w1, w2, w3, w4, w5, w6, w7, w8, w9, w10, w11, w12, w13, w14, w15, w16, w17⟩ := t h36
  have w13 := w13 (Or.inl h39)
  have gB := hR.2.2.1
  have gC := hR.2.2.2.2.2.2.1
  have gH := hR.2.2.2.2.1 _ r5 r6
  have k14 := gB.2.2.2.2.2.2.2.2.2.2.2 _ r5 r6
  have k2 := gB.2.1 _ r5 r6
  have k8 := gC.2.2.2.2.2.1 n h0 (by omega)
  rw [w1] at r16
  refine ⟨⟨⟨h0, h1⟩, hb4, ⟨w9, c1, w5, w11, w13.1, w14, w16, c3, c4⟩, ⟨b3, b4, b5, b6, b7, b8, b9, b10, b12⟩, ⟨g1, w1, w2, hw, b1, b2, b13⟩, ⟨k2.2.2.2.2.2.2.2.1, k2.2.2.2.2.2.2.2.2.1⟩, ⟨r22.1, w10⟩, ⟨r16, c2⟩, k14.1, r27, r28, r21, r23, gH.2.2.1, ⟨k8.2.2.2.2.1, k8.2.2.2.2.2.1⟩, ⟨r26.1, w15⟩, ⟨r25.1, w6⟩, ⟨c5.1, c5.2, c6 _ hb4.1 hb4.2⟩, k14.2.1⟩, ?_, ⟨r8, r9, r10⟩, w12, w13.2, hr⟩
  have := w17 (A 46 n) r8 r9
  exact this
theorem l_rest {b : Int} (hS : Ls la S) (hT : Ltr (lA la I) A) (hq : Lst (lA la I) A) (h01 : ∀ n : Int, 0 ≤ n → n < 3 → A 36 n = 0 ∨ A 36 n = 1) (hD : RdL la I A n b) (ho : 0 ≤ oth A b (A 40 n) ∧ oth A b (A 40 n) < 4) (hs6 : ¬ bp A n b 6) (hQ : Q (fb (bp A n b) 5 6)) : ∀ k : Nat, V_L_bars_180 (k + 1) (16 * n) (la 1) (la 2) (la 3) b (rnv A n b) (clm A n b) S F I Q := fun k => by
  obtain ⟨⟨h0, h1⟩, hb, ⟨t2, t1, t4, t7, t9, t11, t12, t13, t14⟩, ⟨b0, b4, b8, b12, b16, b20, b24, b28, b36⟩, ⟨q0, h37, h38, hw, h7, h7b, h12⟩, l8, l44, l20, l13, l9, l15, lrn, lc, l17, l26, l50, l40, ⟨l15a, l15b, l15c⟩, l14⟩ := hD
  have n1 := hS.n1
  have n2 := hS.n2
  have n3 := hS.n3
  have e1 := ix (i := 1) h0 h1 (by decide) (by decide)
  have e2 := ix (i := 2) h0 h1 (by decide) (by decide)
  have e4 := ix (i := 4) h0 h1 (by decide) (by decide)
  have e13 := ix (i := 13) h0 h1 (by decide) (by decide)
  have e14 := ix (i := 14) h0 h1 (by decide) (by decide)
  have e15 := ix (i := 15) h0 h1 (by decide) (by decide)
  have f4 := bx (i := 4) hb.1 hb.2 (by decide) (by decide)
  have ed : w32 (Int.tdiv (A 44 n) 4) = A 44 n / 4 := td_nn (by omega) (by decide)
  have ecl : w32 (w32 (w32 (A 1 0 + rnv A n b) + 1) + A 44 n / 4) = clm A n b := by
    unfold clm
    rw [w32_id (show rg (A 1 0 + rnv A n b) by unfold rg; omega), w32_id (show rg (A 1 0 + rnv A n b + 1) by unfold rg; omega), w32_id (by unfold rg; omega)]
    omega
  have e7 : w32 (A 20 n * w32 (8 - w32 (2 * A 9 b))) = A 20 n * (8 - 2 * A 9 b) := by
    rw [w32_id (show rg (2 * A 9 b) by unfold rg; omega), w32_id (show rg (8 - 2 * A 9 b) by unfold rg; omega)]
    have h3 : A 20 n = 1 ∨ A 20 n = 2 ∨ A 20 n = 3 := by omega
    rcases h3 with h3 | h3 | h3 <;> rw [h3] <;> exact w32_id (by unfold rg; omega)
  have e8 : w32 (2 * A 44 n) = 2 * A 44 n := w32_id (by unfold rg; omega)
  have e9 : w32 (A 26 n + rnv A n b) = A 26 n + rnv A n b := w32_id (by unfold rg; omega)
  have eo : w32 (4 + oth A b (A 40 n)) = 4 + oth A b (A 40 n) := w32_id (by unfold rg; omega)
  have qo : I (la 3) (4 + oth A b (A 40 n)) = A 5 (oth A b (A 40 n)) := hq _ ho.1 ho.2
  rw [fb_F hs6] at hQ
  refine ⟨hS.k (by decide), by decide, by omega, hS.k (by decide), by omega, by omega, ?_⟩
  rw [e2, t2, q0, ed, ecl, e1, t1, f4, b4, e7, e8, e15, e14, t14, e13, t13, e4, t4, e9]
  refine br_T (Int.le_refl _) ⟨by omega, by omega, by omega, by omega, hS.k (by decide), by omega, by omega, ?_⟩
  have p7 : bp A n b 7 = (¬ wgt A n (A 44 n).toNat ≤ A 20 (A 37 n) * (8 - 2 * A 9 b)) := rfl
  rw [hw, h37] at p7
  have p8 : bp A n b 8 = (A 28 (16 * A 38 n + b) = 0) := rfl
  rw [h38] at p8
  have p9 : bp A n b 9 = (A 1 0 < A 27 (A 38 n) ∨ ¬ A 26 (A 38 n) + rnv A n b ≤ 600) := rfl
  rw [h38] at p9
  have p10 : bp A n b 10 = (¬ tkn A (oth A b (A 40 n)) 6 < A 5 (oth A b (A 40 n))) := rfl
  refine ⟨fun c7 => ⟨by omega, by omega, ?_⟩, fun c7 => ?_⟩
  · rw [fb_F (show ¬ bp A n b (6 + 1) by show ¬ bp A n b 7; rw [p7]; exact fun w => w c7)] at hQ
    refine ⟨fun c8 => ⟨by omega, by omega, by decide, by omega, ?_⟩, fun c8 => ?_⟩
    · rw [fb_F (show ¬ bp A n b (6 + 1 + 1) by
        show ¬ bp A n b 8
        rw [p8]
        exact l15c.mp (Classical.byContradiction (fun w => c8 ((k_bitI ⟨l15a, l15b⟩ hb).mpr w))))] at hQ
      refine ⟨fun c9 => ?_, fun c9 => ⟨by omega, by omega, fun c9b => ⟨by omega, by omega, ?_⟩, fun c9b => ?_⟩⟩
      · rw [fb_T (show bp A n b (6 + 1 + 1 + 1) by show bp A n b 9; rw [p9]; exact Or.inl c9)] at hQ
        exact hQ
      · rw [fb_F (show ¬ bp A n b (6 + 1 + 1 + 1) by show ¬ bp A n b 9; rw [p9]; exact fun w => w.elim c9 (fun w => w c9b))] at hQ
        refine l_other hb ⟨h7, h7b⟩ (l_taken hS hT h01 ?_)
        rw [eo, qo]
        refine ⟨by omega, by omega, fun c10 => ?_, fun c10 => ?_⟩
        · rw [fb_F (show ¬ bp A n b (6 + 1 + 1 + 1 + 1) by show ¬ bp A n b 10; rw [p10]; exact fun w => w c10)] at hQ
          exact hQ
        · rw [fb_T (show bp A n b (6 + 1 + 1 + 1 + 1) by show bp A n b 10; rw [p10]; exact c10)] at hQ
          exact hQ
      · rw [fb_T (show bp A n b (6 + 1 + 1 + 1) by show bp A n b 9; rw [p9]; exact Or.inr c9b)] at hQ
        exact hQ
    · rw [fb_T (show bp A n b (6 + 1 + 1) by
        show bp A n b 8
        rw [p8]
        exact Classical.byContradiction (fun w => (k_bitI ⟨l15a, l15b⟩ hb).mp c8 (l15c.mpr w)))] at hQ
      exact hQ
  · rw [fb_T (show bp A n b (6 + 1) by show bp A n b 7; rw [p7]; exact c7)] at hQ
    exact hQ
theorem l_hours {b : Int} (hS : Ls la S) (hT : Ltr (lA la I) A) (hq : Lst (lA la I) A) (h01 : ∀ n : Int, 0 ≤ n → n < 3 → A 36 n = 0 ∨ A 36 n = 1) (hD : RdL la I A n b) (ho : 0 ≤ oth A b (A 40 n) ∧ oth A b (A 40 n) < 4) (hQ : Q (fb (bp A n b) 5 6)) : ∀ (k : Nat) (m : Int), m + k = clm A n b → A 1 0 ≤ m → (¬ ∃ m' : Int, A 1 0 ≤ m' ∧ m' < m ∧ A 15 b ≤ m' % 1440 ∧ m' % 1440 < A 16 b) → V_L_bars_180 (k + 1) (16 * n) (la 1) (la 2) (la 3) b (rnv A n b) m S F I Q
  | 0, m, e, hm, hn => by
    have e' : m = clm A n b := by omega
    subst e'
    exact l_rest hS hT hq h01 hD ho (fun w => hn w) hQ 0
  | k + 1, m, e, hm, hn => by
    obtain ⟨⟨h0, h1⟩, hb, ⟨t2, t1, t4, t7, t9, t11, t12, t13, t14⟩, ⟨b0, b4, b8, b12, b16, b20, b24, b28, b36⟩, ⟨q0, h37, h38, hw, h7, h7b, h12⟩, l8, l44, l20, l13, l9, l15, lrn, lc, l17, l26, l50, l40, ⟨l15a, l15b, l15c⟩, l14⟩ := id hD
    have ih := l_hours hS hT hq h01 hD ho hQ k (m + 1) (by omega) (by omega)
    have n1 := hS.n1
    have n2 := hS.n2
    have n3 := hS.n3
    have e2 := ix (i := 2) h0 h1 (by decide) (by decide)
    have f20 := bx (i := 20) hb.1 hb.2 (by decide) (by decide)
    have f24 := bx (i := 24) hb.1 hb.2 (by decide) (by decide)
    have ed : w32 (Int.tdiv (A 44 n) 4) = A 44 n / 4 := td_nn (by omega) (by decide)
    have ecl : w32 (w32 (w32 (A 1 0 + rnv A n b) + 1) + A 44 n / 4) = clm A n b := by
      unfold clm
      rw [w32_id (show rg (A 1 0 + rnv A n b) by unfold rg; omega), w32_id (show rg (A 1 0 + rnv A n b + 1) by unfold rg; omega), w32_id (by unfold rg; omega)]
      omega
    have lcl : clm A n b ≤ 30000 := by
      unfold clm
      omega
    have et : w32 (Int.tmod m 1440) = m % 1440 := by
      rw [Int.tmod_eq_emod_of_nonneg (by omega), w32_id (by unfold rg; omega)]
    have em : w32 (m + 1) = m + 1 := w32_id (by unfold rg; omega)
    have go : ¬ (A 15 b ≤ m % 1440 ∧ m % 1440 < A 16 b) → V_L_bars_180 (k + 1) (16 * n) (la 1) (la 2) (la 3) b (rnv A n b) (w32 (m + 1)) S F I Q := fun w => by
      rw [em]
      refine ih (fun ⟨m', a1, a2, a3, a4⟩ => ?_)
      by_cases ee : m' = m
      · rw [ee] at a3 a4
        exact w ⟨a3, a4⟩
      · exact hn ⟨m', a1, by omega, a3, a4⟩
    refine ⟨hS.k (by decide), by decide, by omega, hS.k (by decide), by omega, by omega, ?_⟩
    rw [e2, t2, q0, ed, ecl]
    refine br_F (by omega) ⟨hS.k (by decide), by omega, by omega, ?_⟩
    rw [f20, b20, f24, b24, et]
    refine ⟨fun c => go (fun w => by omega), fun c => ⟨by omega, by omega, fun c2 => go (fun w => by omega), fun c2 => ?_⟩⟩
    rw [fb_T (show bp A n b 6 from ⟨m, hm, by omega, by omega, by omega⟩)] at hQ
    exact hQ
theorem l_b174 {b : Int} (hS : Ls la S) (hT : Ltr (lA la I) A) (hq : Lst (lA la I) A) (h01 : ∀ n : Int, 0 ≤ n → n < 3 → A 36 n = 0 ∨ A 36 n = 1) (hD : RdL la I A n b) (ho : 0 ≤ oth A b (A 40 n) ∧ oth A b (A 40 n) < 4) (hQ : Q (fb (bp A n b) 5 6)) : V_L_bars_174 (16 * n) (la 1) (la 2) (la 3) b (rnv A n b) S F I Q := by
  have n3 := hS.n3
  obtain ⟨⟨h0, h1⟩, hb, -, -, ⟨q0, -⟩, l8, l44, l20, l13, l9, l15, lrn, lc, -⟩ := id hD
  refine ⟨hS.k (by decide), by decide, by omega, (clm A n b - A 1 0).toNat + 1, ?_⟩
  rw [q0]
  refine l_hours hS hT hq h01 hD ho hQ _ _ ?_ (Int.le_refl _) (fun ⟨m', a1, a2, _⟩ => by omega)
  have : A 1 0 ≤ clm A n b := by
    unfold clm
    omega
  omega
theorem l_b111 {b : Int} (hS : Ls la S) (hT : Ltr (lA la I) A) (hq : Lst (lA la I) A) (h01 : ∀ n : Int, 0 ≤ n → n < 3 → A 36 n = 0 ∨ A 36 n = 1) (hD : RdL la I A n b) (ho : 0 ≤ oth A b (A 40 n) ∧ oth A b (A 40 n) < 4) (hQ : Q (fb (bp A n b) 8 3)) : V_L_bars_111 (16 * n) (la 1) (la 2) (la 3) b (rnv A n b) S F I Q := by
  obtain ⟨⟨h0, h1⟩, hb, -, ⟨b0, b4, b8, b12, b16, b20, b24, b28, b36⟩, ⟨q0, h37, h38, hw, h7, h7b, h12⟩, l8, l44, l20, l13, l9, l15, lrn, lc, l17, -⟩ := id hD
  have l14 := hD.2.2.2.2.2.2.2.2.2.2.2.2.2.2.2.2.2.2
  have n1 := hS.n1
  have n3 := hS.n3
  have f12 := bx (i := 12) hb.1 hb.2 (by decide) (by decide)
  have f16 := bx (i := 16) hb.1 hb.2 (by decide) (by decide)
  have f28 := bx (i := 28) hb.1 hb.2 (by decide) (by decide)
  have f36 := bx (i := 36) hb.1 hb.2 (by decide) (by decide)
  refine ⟨hS.k (by decide), by omega, by omega, ?_⟩
  rw [f28, b28]
  refine ⟨fun c3 => ?_, fun c3 => ⟨by omega, by omega, hS.k (by decide), by decide, by omega, ?_⟩⟩
  · rw [fb_T (show bp A n b 3 from fun (w : A 17 b = -1) => by omega)] at hQ
    refine ⟨hS.k (by decide), by omega, by omega, ?_⟩
    rw [f28, b28]
    exact br_F (by omega) hQ
  · have x17 : A 17 b = -1 := by omega
    rw [fb_F (show ¬ bp A n b 3 from fun (w : ¬ A 17 b = -1) => w x17)] at hQ
    rw [f36, b36, q0]
    refine ⟨fun c4 => ⟨by omega, by omega, ?_⟩, fun c4 => ?_⟩
    · rw [fb_F (show ¬ bp A n b (3 + 1) from fun (w : ¬ A 12 b = 0 ∨ A 1 0 < A 11 b) => by omega)] at hQ
      rw [f12, b12]
      refine ⟨fun c5 => ?_, fun c5 => ⟨by omega, by omega, ?_⟩⟩
      · rw [fb_F (show ¬ bp A n b (3 + 1 + 1) from fun (w : ¬ A 13 b = 0 ∧ A 14 b = 0) => by omega)] at hQ
        exact l_b174 hS hT hq h01 hD ho hQ
      · rw [f16, b16]
        refine ⟨fun c6 => ?_, fun c6 => ?_⟩
        · rw [fb_F (show ¬ bp A n b (3 + 1 + 1) from fun (w : ¬ A 13 b = 0 ∧ A 14 b = 0) => by omega)] at hQ
          exact l_b174 hS hT hq h01 hD ho hQ
        · rw [fb_T (show bp A n b (3 + 1 + 1) from (⟨by omega, by omega⟩ : ¬ A 13 b = 0 ∧ A 14 b = 0))] at hQ
          exact hQ
    · rw [fb_T (show bp A n b (3 + 1) from (Or.inr (by omega) : ¬ A 12 b = 0 ∨ A 1 0 < A 11 b))] at hQ
      refine ⟨hS.k (by decide), by omega, by omega, ?_⟩
      rw [f28, b28]
      exact br_T (by omega) hQ
theorem l_b48 {b : Int} (hS : Ls la S) (hT : Ltr (lA la I) A) (hq : Lst (lA la I) A) (hst : ∀ n : Int, 0 ≤ n → n < 3 → (A 36 n = 0 ∨ A 36 n = 1) ∧ (A 36 n = 1 → 0 ≤ A 39 n)) (hD : RdL la I A n b) (ho : 0 ≤ oth A b (A 40 n) ∧ oth A b (A 40 n) < 4) (hQ : Q (fb (bp A n b) 9 2)) : V_L_bars_48 (16 * n) (la 1) (la 2) (la 3) b (rnv A n b) S F I Q := by
  obtain ⟨⟨h0, h1⟩, hb, ⟨t2, t1, t4, t7, t9, t11, t12, t13, t14⟩, -, -, -, -, -, -, -, -, -, -, -, -, l50, -⟩ := id hD
  have h01 : ∀ n : Int, 0 ≤ n → n < 3 → A 36 n = 0 ∨ A 36 n = 1 := fun n a b => (hst n a b).1
  have n2 := hS.n2
  have e4 := ix (i := 4) h0 h1 (by decide) (by decide)
  have e11 := ix (i := 11) h0 h1 (by decide) (by decide)
  have e12 := ix (i := 12) h0 h1 (by decide) (by decide)
  have p2 : bp A n b 2 = (¬ A 50 n = -1 ∧ A 51 n = A 40 n ∧ ¬ (¬ A 36 (A 50 n) = 0 ∧ (A 39 (A 50 n) = 0 ∨ A 39 (A 50 n) = 1) ∧ A 40 (A 50 n) = A 40 n)) := rfl
  have no : ¬ bp A n b 2 → V_L_bars_111 (16 * n) (la 1) (la 2) (la 3) b (rnv A n b) S F I Q := fun w => by
    rw [fb_F w] at hQ
    exact l_b111 hS hT hq h01 hD ho hQ
  have yes : bp A n b 2 → Q 2 := fun w => by
    rw [fb_T w] at hQ
    exact hQ
  rw [p2] at no yes
  refine ⟨hS.k (by decide), by omega, by omega, fun v hv => ?_⟩
  rw [e11, t11, w32_id (by unfold rg; omega)] at hv
  subst hv
  refine ⟨fun c => no (fun w => w.1 (by omega)), fun c => ⟨by omega, by omega, by omega, by omega, ?_⟩⟩
  have c50 : ¬ A 50 n = -1 := by omega
  rw [e12, t12 c50, e4, t4]
  refine ⟨fun c2 => no (fun w => c2 w.2.1), fun c2 => ⟨by omega, by omega, ?_⟩⟩
  have a3 := ix (n := A 50 n) (i := 3) (by omega) (by omega) (by decide) (by decide)
  have a4 := ix (n := A 50 n) (i := 4) (by omega) (by omega) (by decide) (by decide)
  obtain ⟨u1, u2⟩ := hT.1 (A 50 n) (by omega) (by omega)
  obtain ⟨u3, u4⟩ := hst (A 50 n) (by omega) (by omega)
  have u1 : I (la 2) (16 * A 50 n) = A 36 (A 50 n) := u1
  rw [u1]
  refine ⟨fun c3 => yes ⟨c50, c2, fun w => w.1 c3⟩, fun c3 => ?_⟩
  obtain ⟨w1, w2, w3, w4, w5, -⟩ := u2 (by omega)
  have w3 : I (la 2) (16 * A 50 n + 3) = A 39 (A 50 n) := w3
  have w5 : I (la 2) (16 * A 50 n + 4) = A 40 (A 50 n) := w5
  have u5 := u4 (by omega)
  rw [a3, w3, a4, w5]
  refine ⟨by omega, by omega, fun c4 => yes ⟨c50, c2, fun w => by omega⟩, fun c4 => ⟨by omega, by omega, by omega, by omega, fun c5 => no (fun w => w.2.2 ⟨c3, by omega, c5⟩), fun c5 => yes ⟨c50, c2, fun w => c5 w.2.2⟩⟩⟩
theorem l_bars (hS : Ls la S) (hL : LR (lA la I) A) (hR : Rep c LN B E A) (h0 : 0 ≤ n) (h1 : n < 3) (h36 : A 36 n = 1) (h39 : A 39 n = 1) (hQ : Q (fb (bp A n (nb A n)) 10 1)) : V_L_bars (16 * n) (la 1) (la 2) (la 0) (la 3) S F I Q := by
  obtain ⟨hD, hway, ⟨r8, r9, r10⟩, t8, t10, hr⟩ := rdL hL hR h0 h1 h36 h39
  obtain ⟨-, ⟨r5, r6, r7⟩, -, ⟨r11, r12⟩, -⟩ := hr
  have hT := hL.2.2.2.2
  have hq := hL.2.1
  have gT := hR.2.2.2.2.2.2.2.2.2.2.2.2.2.2.2.2.1
  have hst : ∀ n : Int, 0 ≤ n → n < 3 → (A 36 n = 0 ∨ A 36 n = 1) ∧ (A 36 n = 1 → 0 ≤ A 39 n) := fun n a b => ⟨hR.t01 n a b, fun w => ((gT n a (by omega)).2.2.2.2 w).2.1⟩
  obtain ⟨-, hb, ⟨t2, t1, t4, t7, t9, t11, t12, t13, t14⟩, ⟨b0, b4, b8, b12, b16, b20, b24, b28, b36⟩, ⟨q0, h37, h38, hw, h7, h7b, h12⟩, l8, l44, l20, l13, l9, l15, lrn, lc, l17, l26, l50, l40, -⟩ := id hD
  have ho : 0 ≤ oth A (nb A n) (A 40 n) ∧ oth A (nb A n) (A 40 n) < 4 := by
    refine ⟨r11, ?_⟩
    unfold oth
    rw [h7, h7b]
    unfold nx
    split
    · split <;> omega
    · split <;> omega
  have n0 := hS.n0
  have n2 := hS.n2
  have n3 := hS.n3
  have e7 := ix (i := 7) h0 h1 (by decide) (by decide)
  have e9 := ix (i := 9) h0 h1 (by decide) (by decide)
  have d2 : w32 (Int.tdiv (16 * n) 2) = 8 * n := by
    rw [td_nn (by omega) (by decide)]
    omega
  have ew : w32 (w32 (Int.tdiv (16 * n) 2) + I (la 2) (w32 (16 * n + 7))) = 8 * n + A 46 n := by
    rw [d2, e7, t7, w32_id (by unfold rg; omega)]
  unfold V_L_bars
  rw [ew]
  refine ⟨hS.k (by decide), by omega, by omega, hS.k (by decide), by omega, by omega, fun v hv => ?_⟩
  rw [hway] at hv
  subst hv
  refine l_runs hS h0 h1 hb b0 b8 b12 t2 t1 h37 hw l8 (by omega) (by omega) l13 ?_
  refine ⟨by omega, by omega, ?_⟩
  rw [e7, t7, e9, t9, q0]
  refine ⟨fun c => ?_, fun c => ⟨hS.k (by decide), by decide, by omega, by omega, by omega, fun c2 => ?_, fun c2 => ?_⟩⟩
  · rw [fb_F (show ¬ bp A n (nb A n) 1 from fun (w : A 46 n = 0 ∧ A 1 0 < A 48 n) => c w.1)] at hQ
    exact l_b48 hS hT hq hst hD ho hQ
  · rw [fb_F (show ¬ bp A n (nb A n) 1 from fun (w : A 46 n = 0 ∧ A 1 0 < A 48 n) => by omega)] at hQ
    exact l_b48 hS hT hq hst hD ho hQ
  · rw [fb_T (show bp A n (nb A n) 1 from (⟨c, by omega⟩ : A 46 n = 0 ∧ A 1 0 < A 48 n))] at hQ
    exact hQ
end Bars
