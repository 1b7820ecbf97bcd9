/-! what bars a train -/
section Bars
variable {c LN : Nat → Nat} {B : Fl} {E : El} {A : Il}
theorem rnv_rg {t b : Int} (hl : 2 ≤ A 8 b ∧ A 8 b ≤ 60) (hw : 0 ≤ wgt A t (A 44 t).toNat ∧ wgt A t (A 44 t).toNat ≤ 50) (hp : 1 ≤ A 20 (A 37 t) ∧ A 20 (A 37 t) ≤ 9) : 2 ≤ rnv A t b ∧ rnv A t b ≤ 840 := by
  have e1 : w32 (10 * A 20 (A 37 t)) = 10 * A 20 (A 37 t) := w32_id (by unfold rg; omega)
  have m0 : 0 ≤ A 8 b * wgt A t (A 44 t).toNat := Int.mul_nonneg (by omega) hw.1
  have m1 : A 8 b * wgt A t (A 44 t).toNat ≤ 60 * 50 := Int.mul_le_mul hl.2 hw.2 hw.1 (by decide)
  have e2 : w32 (A 8 b * wgt A t (A 44 t).toNat) = A 8 b * wgt A t (A 44 t).toNat := w32_id (by unfold rg; omega)
  have e3 : Int.tdiv (A 8 b * wgt A t (A 44 t).toNat) (10 * A 20 (A 37 t)) = (A 8 b * wgt A t (A 44 t).toNat) / (10 * A 20 (A 37 t)) := Int.tdiv_eq_ediv_of_nonneg m0
  have d0 : 0 ≤ (A 8 b * wgt A t (A 44 t).toNat) / (10 * A 20 (A 37 t)) := Int.ediv_nonneg m0 (by omega)
  have d1 : (A 8 b * wgt A t (A 44 t).toNat) / (10 * A 20 (A 37 t)) ≤ 300 := by
    have k : (A 8 b * wgt A t (A 44 t).toNat) / (10 * A 20 (A 37 t)) < 301 := Int.ediv_lt_of_lt_mul (by omega) (by omega)
    omega
  have r1 : 2 ≤ rnn A t b ∧ rnn A t b ≤ 360 := by
    unfold rnn
    rw [e1, e2, e3, w32_id (z := (A 8 b * wgt A t (A 44 t).toNat) / (10 * A 20 (A 37 t))) (by unfold rg; omega), w32_id (by unfold rg; omega)]
    omega
  have r2 : 2 ≤ rnm A t b ∧ rnm A t b ≤ 420 := by
    unfold rnm
    split
    · omega
    · rw [w32_id (by unfold rg; omega)]
      omega
  unfold rnv
  split
  · omega
  · rw [w32_id (by unfold rg; omega)]
    omega
/-- the minute in which train t would be clear of block b -/
def clm (A : Il) (t b : Int) : Int := A 1 0 + rnv A t b + (1 + A 44 t / 4)
/-- the next block of a train's way -/
def nb (A : Il) (t : Int) : Int := A 45 (8 * t + A 46 t)
/-- what bars train t, that would enter block b -/
def bp (A : Il) (t b k : Int) : Prop :=
  if k = 1 then A 46 t = 0 ∧ A 1 0 < A 48 t
  else if k = 2 then ¬ A 50 t = -1 ∧ A 51 t = A 40 t ∧ ¬ (¬ A 36 (A 50 t) = 0 ∧ (A 39 (A 50 t) = 0 ∨ A 39 (A 50 t) = 1) ∧ A 40 (A 50 t) = A 40 t)
  else if k = 3 then ¬ A 17 b = -1
  else if k = 4 then ¬ A 12 b = 0 ∨ A 1 0 < A 11 b
  else if k = 5 then ¬ A 13 b = 0 ∧ A 14 b = 0
  else if k = 6 then ∃ m : Int, A 1 0 ≤ m ∧ m < clm A t b ∧ A 15 b ≤ m % 1440 ∧ m % 1440 < A 16 b
  else if k = 7 then ¬ wgt A t (A 44 t).toNat ≤ A 20 (A 37 t) * (8 - 2 * A 9 b)
  else if k = 8 then A 28 (16 * A 38 t + b) = 0
  else if k = 9 then A 1 0 < A 27 (A 38 t) ∨ ¬ A 26 (A 38 t) + rnv A t b ≤ 600
  else ¬ tkn A (oth A b (A 40 t)) 6 < A 5 (oth A b (A 40 t))
/-- a train that is ready -/
def Rdy (c : Nat → Nat) (A : Il) (t : Int) : Prop := (0 ≤ t ∧ t < 6 ∧ A 36 t = 1 ∧ A 39 t = 1) ∧ (0 ≤ nb A t ∧ nb A t < A 6 0 ∧ A 6 0 ≤ 16) ∧ (0 ≤ A 46 t ∧ A 46 t < A 47 t ∧ A 47 t ≤ 8) ∧ (0 ≤ oth A (nb A t) (A 40 t) ∧ oth A (nb A t) (A 40 t) < 8) ∧ (0 ≤ A 37 t ∧ A 37 t < A 19 0 ∧ A 19 0 ≤ 6 ∧ 1 ≤ A 20 (A 37 t) ∧ A 20 (A 37 t) ≤ 9) ∧ (0 ≤ A 38 t ∧ A 38 t < A 23 0 ∧ A 23 0 ≤ 6) ∧ (2 ≤ rnv A t (nb A t) ∧ rnv A t (nb A t) ≤ 840) ∧ (0 ≤ A 44 t ∧ A 44 t ≤ 10) ∧ (0 ≤ A 1 0 ∧ A 1 0 ≤ 20000) ∧ (0 ≤ wgt A t (A 44 t).toNat ∧ wgt A t (A 44 t).toNat ≤ 50) ∧ (0 ≤ A 40 t ∧ A 40 t < 8) ∧ (-1 ≤ A 50 t ∧ A 50 t < 6) ∧ (0 ≤ A 9 (nb A t) ∧ A 9 (nb A t) ≤ 3) ∧ (0 ≤ A 15 (nb A t) ∧ A 15 (nb A t) ≤ A 16 (nb A t) ∧ A 16 (nb A t) ≤ 1440)
theorem Rep.rdy {t : Int} (hR : Rep c LN B E A) (h0 : 0 ≤ t) (h1 : t < 6) (h36 : A 36 t = 1) (h39 : A 39 t = 1) : Rdy c A t := by
  obtain ⟨gG, gS, gB, g0, gH, gE, gC, gN, gK, gL, gR, gD, gY, gU, gW, gP, gT, gX, gZ⟩ := id hR
  obtain ⟨u_1, u_2, u_3, u_4, u_5⟩ := gT t h0 h1
  obtain ⟨y1, y2, y3, y4, y5, y6, y7, y8, y9, y10, y11, y12, y13, y14, y15, y16, y17, y18, y19, y20, y21, y22, y23, y24, y25, y26, y27, y28, y29, y30, y31, y32, y33, y34, y35, y36⟩ := u_5 h36
  have y30 := y30 h39
  obtain ⟨z1, z2, z3, z4⟩ := y28 (by omega)
  have hb := z3 (A 46 t) y24 y30
  have b16 := gB.1
  have e16 := gE.1
  have c16 := gC.1
  have w4 : oth A (A 45 (8 * t + A 46 t)) (A 40 t) ≠ -1 := z4 1 (by omega)
  have o1 := oth_rg (s := A 40 t) gB hb
  have k7 := gE.2.2.2.2 (A 37 t) y5 y6
  have b4 := gB.2.1 _ hb.1 hb.2
  have b14 := gB.2.2.2.2.2.2.2.2.2.2.2 _ hb.1 hb.2
  have wr := wgt_rg A t (A 44 t).toNat
  refine ⟨⟨h0, h1, h36, h39⟩, ⟨hb.1, hb.2, by omega⟩, ⟨y24, y30, y26⟩, ⟨?_, o1.2.1⟩, ⟨y5, y6, by omega, k7.1, k7.2.1⟩, ⟨y9, y10, by omega⟩, rnv_rg ⟨b4.2.2.2.2.2.2.2.1, b4.2.2.2.2.2.2.2.2.1⟩ ⟨wr.1, by omega⟩ ⟨k7.1, k7.2.1⟩, ⟨y22, y23⟩, gG.2.2.2.2.1, ⟨wr.1, by omega⟩, ⟨y14, y15⟩, ⟨y33, y34⟩, ⟨b4.2.2.2.2.2.2.2.2.2.1, b4.2.2.2.2.2.2.2.2.2.2⟩, ⟨b14.2.2.2.1, b14.2.2.2.2.2.1, b14.2.2.2.2.2.2⟩⟩
  show 0 ≤ oth A (A 45 (8 * t + A 46 t)) (A 40 t)
  omega
theorem m_clears {t b : Int} {Q : Int → Prop} (hT : RepT LN B E A) (hU : RepU LN B E A) (hE : RepE c B A) (h29 : A 29 0 ≤ 20) (h0 : 0 ≤ t) (h1 : t < 6) (h36 : A 36 t = 1) (hb : 0 ≤ b ∧ b < 16) (hr : 2 ≤ rnv A t b ∧ rnv A t b ≤ 840) (h44 : 0 ≤ A 44 t ∧ A 44 t ≤ 10) (hc : 0 ≤ A 1 0 ∧ A 1 0 ≤ 20000) (h : Q (clm A t b)) : W_X9_clears t b A Q := by
  refine m_runs hT hU hE h29 h0 h1 h36 hb ⟨h0, h1, ?_⟩
  have e : w32 (w32 (w32 (A 1 0 + rnv A t b) + 1) + w32 (Int.tdiv (A 44 t) 4)) = clm A t b := by
    rw [Int.tdiv_eq_ediv_of_nonneg h44.1, w32_id (z := A 1 0 + rnv A t b) (by unfold rg; omega), w32_id (z := A 1 0 + rnv A t b + 1) (by unfold rg; omega), w32_id (z := A 44 t / 4) (by unfold rg; omega), w32_id (by unfold rg; omega)]
    unfold clm
    omega
  rw [e]
  exact h
theorem m_others_go {t b : Int} {Q : Int → Prop} (hcl : ∀ Q2 : Int → Prop, Q2 (clm A t b) → W_X9_clears t b A Q2) (hb : 0 ≤ b ∧ b < 16) (h16 : 0 ≤ A 15 b ∧ A 15 b ≤ A 16 b ∧ A 16 b ≤ 1440) (hc : 0 ≤ A 1 0 ∧ clm A t b ≤ 30000) : ∀ (k : Nat) (m x : Int), m + k = clm A t b → A 1 0 ≤ m → (x = 0 ∨ x = 1) → (x = 1 → Q 1) → (x = 0 → (∃ m' : Int, m ≤ m' ∧ m' < clm A t b ∧ A 15 b ≤ m' % 1440 ∧ m' % 1440 < A 16 b) → Q 1) → (x = 0 → (¬ ∃ m' : Int, m ≤ m' ∧ m' < clm A t b ∧ A 15 b ≤ m' % 1440 ∧ m' % 1440 < A 16 b) → Q 0) → W_X9_isOthers_8 (k + 1) t b x m A Q
  | 0, m, x, e, hm, hx, h1, h2, h3 => by
    refine hcl _ (br_T (by omega) ⟨hx, ?_⟩)
    rcases hx with hx | hx
    · rw [hx]
      exact h3 hx (fun ⟨m', a, b, _⟩ => by omega)
    · rw [hx]
      exact h1 hx
  | k + 1, m, x, e, hm, hx, h1, h2, h3 => by
    have em : w32 (m + 1) = m + 1 := w32_id (by unfold rg; omega)
    have et : w32 (Int.tmod m 1440) = m % 1440 := by
      rw [Int.tmod_eq_emod_of_nonneg (by omega), w32_id (by unfold rg; omega)]
    have e1 : w32 (A 16 b - 1) = A 16 b - 1 := w32_id (by unfold rg; omega)
    refine hcl _ (br_F (by omega) ?_)
    rcases hx with hx | hx
    · subst hx
      refine bn_T rfl ⟨hb.1, hb.2, hb.1, hb.2, ?_⟩
      rw [et, e1]
      by_cases cc : A 15 b ≤ m % 1440 ∧ m % 1440 ≤ A 16 b - 1
      · refine m_in1 cc (br_F (by decide) ?_)
        show W_X9_isOthers_8 (k + 1) t b 1 (w32 (m + 1)) A Q
        rw [em]
        exact m_others_go hcl hb h16 hc k (m + 1) 1 (by omega) (by omega) (Or.inr rfl) (fun _ => h2 rfl ⟨m, by omega, by omega, cc.1, by omega⟩) (fun w => absurd w (by decide)) (fun w => absurd w (by decide))
      · refine m_in0 cc (br_T rfl ?_)
        show W_X9_isOthers_8 (k + 1) t b 0 (w32 (m + 1)) A Q
        rw [em]
        refine m_others_go hcl hb h16 hc k (m + 1) 0 (by omega) (by omega) (Or.inl rfl) (fun w => absurd w (by decide)) (fun _ ⟨m', a1, a2, a3, a4⟩ => h2 rfl ⟨m', by omega, a2, a3, a4⟩) (fun _ n => h3 rfl (fun ⟨m', a1, a2, a3, a4⟩ => ?_))
        by_cases ee : m' = m
        · rw [ee] at a3 a4
          exact cc ⟨a3, by omega⟩
        · exact n ⟨m', by omega, a2, a3, a4⟩
    · subst hx
      refine bn_F (by decide) ?_
      show W_X9_isOthers_8 (k + 1) t b 1 (w32 (m + 1)) A Q
      rw [em]
      exact m_others_go hcl hb h16 hc k (m + 1) 1 (by omega) (by omega) (Or.inr rfl) h1 (fun w => absurd w (by decide)) (fun w => absurd w (by decide))
theorem m_others {t b : Int} {Q : Int → Prop} (hcl : ∀ Q2 : Int → Prop, Q2 (clm A t b) → W_X9_clears t b A Q2) (hb : 0 ≤ b ∧ b < 16) (h16 : 0 ≤ A 15 b ∧ A 15 b ≤ A 16 b ∧ A 16 b ≤ 1440) (hc : 0 ≤ A 1 0 ∧ clm A t b ≤ 30000) (hm : A 1 0 ≤ clm A t b) (h1 : bp A t b 6 → Q 1) (h0 : ¬ bp A t b 6 → Q 0) : W_X9_isOthers t b A Q :=
  ⟨(clm A t b - A 1 0).toNat + 1, m_others_go hcl hb h16 hc _ _ 0 (by omega) (Int.le_refl _) (Or.inl rfl) (fun w => absurd w (by decide)) (fun _ w => h1 w) (fun _ w => h0 w)⟩
theorem bits_z {z b : Nat} : z &&& 2 ^ b = 0 ↔ z.testBit b = false := by
  refine ⟨fun h => ?_, fun h => Nat.eq_of_testBit_eq (fun i => ?_)⟩
  · have w : (z &&& 2 ^ b).testBit b = false := by rw [h]; exact Nat.zero_testBit b
    rw [Nat.testBit_and, Nat.testBit_two_pow] at w
    simpa using w
  · rw [Nat.testBit_and, Nat.testBit_two_pow, Nat.zero_testBit]
    by_cases e : b = i
    · rw [← e, h]
      rfl
    · rw [decide_eq_false e, Bool.and_false]
theorem iand_bit {z : Int} {b : Int} (hz : 0 ≤ z ∧ z < 65536) (hb : 0 ≤ b ∧ b < 16) : iand z (ishl 1 b) = 0 ↔ ¬ z.toNat.testBit b.toNat = true := by
  have ez : z = ((z.toNat : Nat) : Int) := by omega
  have eb : b = ((b.toNat : Nat) : Int) := by omega
  have p : 2 ^ b.toNat < 65536 := by
    have : 2 ^ b.toNat < 2 ^ 16 := Nat.pow_lt_pow_right (by decide) (by omega)
    omega
  have e : iand z (ishl 1 b) = ((z.toNat &&& 2 ^ b.toNat : Nat) : Int) := by
    conv => lhs; rw [ez, eb]
    rw [ishl_one _ (by omega)]
    exact iand_nat (by omega) (by omega)
  rw [e]
  have k := bits_z (z := z.toNat) (b := b.toNat)
  rw [Bool.not_eq_true]
  exact ⟨fun w => k.1 (by omega), fun w => by have := k.2 w; omega⟩
set_option maxHeartbeats 2000000 in
/-- one question of the reference -/
theorem m_bars {t k : Int} {Q : Int → Prop} (hR : Rep c LN B E A) (hr : Rdy c A t) (hk : 1 ≤ k ∧ k ≤ 10) (hy : bp A t (nb A t) k → Q 1) (hn : ¬ bp A t (nb A t) k → Q 0) : W_X9_bars t k A Q := by
  obtain ⟨⟨r1, r2, r3, r4⟩, ⟨r5, r6, r7⟩, ⟨r8, r9, r10⟩, ⟨r11, r12⟩, ⟨r13, r14, r15, r16, r17⟩, ⟨r18, r19, r20⟩, r21, r22, r23, r24, r25, r26, r27, r28⟩ := hr
  have gT := hR.2.2.2.2.2.2.2.2.2.2.2.2.2.2.2.2.1
  have gU := hR.2.2.2.2.2.2.2.2.2.2.2.2.2.1
  have gE := hR.2.2.2.2.2.1
  have h29 : A 29 0 ≤ 20 := by have := hR.2.2.2.2.2.2.2.2.1.1; omega
  have e1 : w32 (8 * t) = 8 * t := w32_id (by unfold rg; omega)
  have e2 : w32 (8 * t + A 46 t) = 8 * t + A 46 t := w32_id (by unfold rg; omega)
  have eb : A 45 (8 * t + A 46 t) = nb A t := rfl
  have hb16 : 0 ≤ nb A t ∧ nb A t < 16 := by omega
  unfold W_X9_bars
  rw [e1, e2, eb]
  generalize nb A t = b at *
  refine ⟨r1, r2, by omega, by omega, r1, r2, r1, r2, r1, r2, m_other hb16 ⟨fun e => ?_, fun e => ?_, fun e => ?_, fun e => ?_, fun e => ?_, fun e => ?_, fun e => ?_, fun e => ?_, fun e => ?_, fun e => ?_⟩⟩
  · subst e
    exact ⟨r1, r2, fun c1 => hn (fun w => c1 w.1), fun c1 => ⟨r1, r2, fun c2 => hn (fun w => by have w2 : A 1 0 < A 48 t := w.2; omega), fun c2 => hy ⟨c1, by omega⟩⟩⟩
  · subst e
    refine ⟨fun c1 => hn (fun w => w.1 c1), fun c1 => ⟨r1, r2, r1, r2, fun c2 => hn (fun w => c2 w.2.1), fun c2 => ⟨by omega, by omega, fun c3 => hy ⟨c1, c2, fun w => w.1 c3⟩, fun c3 => m_stands ⟨by omega, by omega⟩ ?_⟩⟩⟩
    by_cases c4 : A 39 (A 50 t) = 0 ∨ A 39 (A 50 t) = 1
    · rw [if_pos c4]
      exact br_F (by decide) ⟨by omega, by omega, r1, r2, fun c5 => hn (fun w => w.2.2 ⟨c3, c4, c5⟩), fun c5 => hy ⟨c1, c2, fun w => c5 w.2.2⟩⟩
    · rw [if_neg c4]
      exact br_T rfl (hy ⟨c1, c2, fun w => c4 w.2.1⟩)
  · subst e
    exact ⟨hb16.1, hb16.2, fun c1 => hn (fun w => w c1), fun c1 => hy c1⟩
  · subst e
    refine m_isClosed hb16 ?_
    by_cases c1 : ¬ A 12 b = 0 ∨ A 1 0 < A 11 b
    · rw [if_pos c1]
      exact ⟨Or.inr rfl, hy c1⟩
    · rw [if_neg c1]
      exact ⟨Or.inl rfl, hn c1⟩
  · subst e
    exact ⟨hb16.1, hb16.2, fun c1 => hn (fun w => w.1 c1), fun c1 => ⟨hb16.1, hb16.2, fun c2 => hn (fun w => c2 w.2), fun c2 => hy ⟨c1, c2⟩⟩⟩
  · subst e
    have ecl : clm A t b = A 1 0 + rnv A t b + (1 + A 44 t / 4) := rfl
    exact m_others (fun Q2 h2 => m_clears gT gU gE h29 r1 r2 r3 hb16 r21 r22 r23 h2) hb16 r28 ⟨r23.1, by omega⟩ (by omega) (fun w => ⟨Or.inr rfl, hy w⟩) (fun w => ⟨Or.inl rfl, hn w⟩)
  · subst e
    obtain ⟨ru1, ru2⟩ := (gU t r1 r2).2 r3
    have e9 : w32 (2 * A 9 b) = 2 * A 9 b := w32_id (by unfold rg; omega)
    have e8 : w32 (8 - 2 * A 9 b) = 8 - 2 * A 9 b := w32_id (by unfold rg; omega)
    have m0 : 0 ≤ A 20 (A 37 t) * (8 - 2 * A 9 b) := Int.mul_nonneg (by omega) (by omega)
    have m1 : A 20 (A 37 t) * (8 - 2 * A 9 b) ≤ 9 * 8 := Int.mul_le_mul r17 (by omega) (by omega) (by decide)
    have e7 : w32 (A 20 (A 37 t) * (8 - 2 * A 9 b)) = A 20 (A 37 t) * (8 - 2 * A 9 b) := w32_id (by unfold rg; omega)
    refine m_weight r1 r2 r22 (fun j j0 j1 => ⟨(ru2 j j0 j1).1, Int.lt_of_lt_of_le (ru2 j j0 j1).2.1 h29⟩) ⟨r1, r2, r13, by omega, hb16.1, hb16.2, ?_⟩
    rw [e9, e8, e7]
    exact ⟨fun c1 => hn (fun w => w c1), fun c1 => hy c1⟩
  · subst e
    have e3 : w32 (16 * A 38 t) = 16 * A 38 t := w32_id (by unfold rg; omega)
    have e4 : w32 (16 * A 38 t + b) = 16 * A 38 t + b := w32_id (by unfold rg; omega)
    rw [e3, e4]
    exact ⟨by omega, by omega, fun c1 => hn c1, fun c1 => hy c1⟩
  · subst e
    have d9 := hR.2.2.2.2.2.2.1.2.2.2.2.2.1 (A 38 t) r18 r19
    have e5 : w32 (A 26 (A 38 t) + rnv A t b) = A 26 (A 38 t) + rnv A t b := w32_id (by unfold rg; omega)
    refine m_rests ⟨r18, by omega⟩ ?_
    by_cases c1 : A 1 0 < A 27 (A 38 t)
    · rw [if_pos c1]
      exact bn_F (by decide) (hy (Or.inl c1))
    · rw [if_neg c1]
      refine bn_T rfl ⟨r18, by omega, m_runs gT gU gE h29 r1 r2 r3 hb16 ?_⟩
      rw [e5]
      exact ⟨fun c2 => hn (fun w => w.elim c1 (fun w2 => w2 c2)), fun c2 => hy (Or.inr c2)⟩
  · have ek : k = 10 := by omega
    subst ek
    exact m_taken ⟨r11, r12, fun c1 => hn (fun w => w c1), fun c1 => hy c1⟩
/-- the first of n from k on -/
noncomputable def fb (P : Int → Prop) : Nat → Int → Int
  | 0, _ => 0
  | n + 1, k => @ite Int (P k) (Classical.propDecidable (P k)) k (fb P n (k + 1))
theorem fb_T {P : Int → Prop} {n : Nat} {k : Int} (h : P k) : fb P (n + 1) k = k := if_pos h
theorem fb_F {P : Int → Prop} {n : Nat} {k : Int} (h : ¬ P k) : fb P (n + 1) k = fb P n (k + 1) := if_neg h
theorem fb_rg {P : Int → Prop} : ∀ (n : Nat) (k : Int), fb P n k = 0 ∨ (k ≤ fb P n k ∧ fb P n k < k + n ∧ P (fb P n k))
  | 0, _ => Or.inl rfl
  | n + 1, k => by
    by_cases h : P k
    · rw [fb_T h]
      exact Or.inr ⟨Int.le_refl _, by omega, h⟩
    · rw [fb_F h]
      rcases fb_rg n (k + 1) with w | w
      · exact Or.inl w
      · exact Or.inr ⟨by omega, by omega, w.2.2⟩
theorem fb_none {P : Int → Prop} : ∀ (n : Nat) (k : Int), 1 ≤ k → fb P n k = 0 → ∀ j : Int, k ≤ j → j < k + n → ¬ P j
  | 0, _, _, _, _, _, _ => by omega
  | n + 1, k, hk, h, j, j0, j1 => by
    by_cases c : P k
    · rw [fb_T c] at h
      omega
    · rw [fb_F c] at h
      by_cases e : j = k
      · rw [e]; exact c
      · exact fb_none n (k + 1) (by omega) h j (by omega) (by omega)
theorem fb_add {P : Int → Prop} {m : Nat} : ∀ (n : Nat) (k : Int), 1 ≤ k → (fb P n k = 0 → fb P (n + m) k = fb P m (k + n)) ∧ (¬ fb P n k = 0 → fb P (n + m) k = fb P n k)
  | 0, k, hk => ⟨fun _ => by rw [Nat.zero_add, show k + ((0 : Nat) : Int) = k by omega], fun w => absurd rfl w⟩
  | n + 1, k, hk => by
    obtain ⟨i1, i2⟩ := fb_add (m := m) n (k + 1) (by omega)
    rw [show n + 1 + m = (n + m) + 1 by omega]
    by_cases c : P k
    · rw [fb_T c, fb_T c]
      exact ⟨fun w => by omega, fun _ => rfl⟩
    · rw [fb_F c, fb_F c, show k + ((n + 1 : Nat) : Int) = k + 1 + (n : Int) by omega]
      exact ⟨i1, i2⟩
theorem m_bar_go {t : Int} {Q : Int → Prop} (hR : Rep c LN B E A) (hr : Rdy c A t) : ∀ (n : Nat) (k : Int), k + n = 11 → 1 ≤ k → Q (fb (bp A t (nb A t)) n k) → W_X9_bar_5 (n + 2) t 0 k A Q
  | 0, k, e, hk, h => br_T (by omega) h
  | n + 1, k, e, hk, h => by
    have ek : w32 (k + 1) = k + 1 := w32_id (by unfold rg; omega)
    refine br_F (by omega) (bn_T rfl (m_bars hR hr ⟨hk, by omega⟩ (fun w => ?_) (fun w => ?_)))
    · rw [fb_T w] at h
      refine br_F (by decide) ?_
      show W_X9_bar_5 (n + 2) t k (w32 (k + 1)) A Q
      rw [ek]
      by_cases c1 : 10 < k + 1
      · exact br_T c1 h
      · exact br_F c1 (bn_F (by omega) h)
    · rw [fb_F w] at h
      refine br_T rfl ?_
      show W_X9_bar_5 (n + 2) t 0 (w32 (k + 1)) A Q
      rw [ek]
      exact m_bar_go hR hr n (k + 1) (by omega) (by omega) h
theorem m_bar {t : Int} {Q : Int → Prop} (hR : Rep c LN B E A) (hr : Rdy c A t) (h : Q (fb (bp A t (nb A t)) 10 1)) : W_X9_bar t 1 A Q := ⟨12, m_bar_go hR hr 10 1 rfl (by decide) h⟩
theorem m_bar6 {t : Int} {Q : Int → Prop} (hR : Rep c LN B E A) (hr : Rdy c A t) (h : Q (fb (bp A t (nb A t)) 5 6)) : W_X9_bar t 6 A Q := ⟨7, m_bar_go hR hr 5 6 rfl (by decide) h⟩
end Bars
