/-! loops over trains, blocks, papers; the simulations that rest on them -/
section More
variable {c LN : Nat → Nat} {B : Fl} {E : El} {A : Il}
/-- trains on the tracks of station s, among the first n -/
def tkn (A : Il) (s : Int) : Nat → Int
  | 0 => 0
  | n + 1 => tkn A s n + if ¬ A 36 (n : Int) = 0 ∧ ¬ A 39 (n : Int) = 3 ∧ A 40 (n : Int) = s then 1 else 0
theorem tkn_rg (A : Il) (s : Int) : ∀ n : Nat, 0 ≤ tkn A s n ∧ tkn A s n ≤ (n : Int)
  | 0 => ⟨Int.le_refl _, Int.le_refl _⟩
  | n + 1 => by
    have h := tkn_rg A s n
    show 0 ≤ tkn A s n + _ ∧ tkn A s n + _ ≤ ((n + 1 : Nat) : Int)
    split <;> omega
theorem tkn_s {s z : Int} {n : Nat} (h : (if ¬ A 36 (n : Int) = 0 ∧ ¬ A 39 (n : Int) = 3 ∧ A 40 (n : Int) = s then (1 : Int) else 0) = z) : tkn A s (n + 1) = tkn A s n + z := by
  rw [← h]
  rfl
theorem w32_up {n : Nat} (h : n < 5000) : w32 ((n : Int) + 1) = ((n + 1 : Nat) : Int) := by
  rw [w32_id (by unfold rg; omega)]
  omega
theorem m_taken_go {s : Int} {Q : Int → Prop} (h : Q (tkn A s 6)) : ∀ k n : Nat, n + k = 6 → W_X9_taken_4 (k + 1) s (tkn A s n) (n : Int) A Q
  | 0, n, e => by
    have e' : n = 6 := by omega
    subst e'
    exact br_T (by decide) h
  | k + 1, n, e => by
    have hn := tkn_rg A s n
    have ih := m_taken_go h k (n + 1) (by omega)
    have go : ∀ z : Int, tkn A s (n + 1) = tkn A s n + z → (z = 0 ∨ z = 1) → W_X9_taken_45 (fun y0 y1 y2 => W_X9_taken_4 (k + 1) y0 y1 y2 A Q) s (n : Int) z (tkn A s n) A Q := by
      intro z ez hz
      show W_X9_taken_4 (k + 1) s (w32 (tkn A s n + z)) (w32 ((n : Int) + 1)) A Q
      rw [w32_up (by omega), w32_id (by unfold rg; omega), ← ez]
      exact ih
    refine br_F (by omega) ⟨by omega, by omega, ?_⟩
    by_cases c1 : A 36 (n : Int) = 0
    · exact br_T c1 (go 0 (tkn_s (if_neg fun w => w.1 c1)) (Or.inl rfl))
    · refine br_F c1 ⟨by omega, by omega, ?_⟩
      by_cases c2 : A 39 (n : Int) = 3
      · exact br_T c2 (go 0 (tkn_s (if_neg fun w => w.2.1 c2)) (Or.inl rfl))
      · refine br_F c2 ⟨by omega, by omega, ?_⟩
        by_cases c3 : A 40 (n : Int) = s
        · exact bn_T c3 (go 1 (tkn_s (if_pos ⟨c1, c2, c3⟩)) (Or.inr rfl))
        · exact bn_F c3 (go 0 (tkn_s (if_neg fun w => c3 w.2.2)) (Or.inl rfl))
theorem m_taken {s : Int} {Q : Int → Prop} (h : Q (tkn A s 6)) : W_X9_taken s A Q := ⟨7, m_taken_go h 6 0 rfl⟩
theorem q_takes {t s : Int} {Q : Int → Prop} (hT : RepT LN B E A) (h0 : 0 ≤ t) (h1 : t < 6) (hs : 0 ≤ s) (h : Q (if ¬ A 36 t = 0 ∧ ¬ A 39 t = 3 ∧ A 40 t = s then 1 else 0)) : W_X7_takesTrackAt c LN (40 + t.toNat) s B E Q := by
  refine ⟨kdtr (by omega) (by omega), ?_⟩
  obtain ⟨t1, t2, t3, t4, t5⟩ := hT t h0 h1
  by_cases c1 : A 36 t = 0
  · rw [if_neg (fun w => w.1 c1)] at h
    exact br_T (t4 c1) h
  · obtain ⟨u1, u2, u3, u4, u5, u6, u7, u8, u9, u10, u11, u12, u13, u14, -⟩ := t5 (by omega)
    refine br_F (by rw [u1]; omega) ?_
    by_cases c2 : A 39 t = 3
    · rw [if_neg (fun w => w.2.1 c2)] at h
      exact bn_F (by rw [u13, if_pos c2]; omega) h
    · by_cases c3 : A 40 t = s
      · rw [if_pos ⟨c1, c2, c3⟩] at h
        exact bn_T (by rw [u13, if_neg c2]; exact c3) h
      · rw [if_neg (fun w => c3 w.2.2)] at h
        exact bn_F (by rw [u13, if_neg c2]; exact c3) h
theorem q_taken_go {s : Int} {Q : Int → Prop} (hT : RepT LN B E A) (hs : 0 ≤ s) (h : Q (tkn A s 6)) : ∀ k n : Nat, n + k = 6 → W_X8_takenTracks_4 c LN (k + 1) 0 s (tkn A s n) (n : Int) B E Q
  | 0, n, e => by
    have e' : n = 6 := by omega
    subst e'
    exact ⟨rfl, rfl, br_T (by decide) h⟩
  | k + 1, n, e => by
    have hn := tkn_rg A s n
    have ih := q_taken_go hT hs h k (n + 1) (by omega)
    have l2 : ((ln 2 : Nat) : Int) = 6 := rfl
    refine ⟨rfl, rfl, br_F (by omega) ⟨by omega, by omega, kdtr (by omega) (by omega), q_takes hT (by omega) (by omega) hs ?_⟩⟩
    by_cases c1 : ¬ A 36 (n : Int) = 0 ∧ ¬ A 39 (n : Int) = 3 ∧ A 40 (n : Int) = s
    · rw [if_pos c1]
      refine br_F (by decide) ?_
      show W_X8_takenTracks_4 c LN (k + 1) 0 s (w32 (tkn A s n + 1)) (w32 ((n : Int) + 1)) B E Q
      rw [w32_up (by omega), w32_id (by unfold rg; omega), ← tkn_s (if_pos c1)]
      exact ih
    · rw [if_neg c1]
      refine br_T rfl ?_
      show W_X8_takenTracks_4 c LN (k + 1) 0 s (tkn A s n) (w32 ((n : Int) + 1)) B E Q
      have e0 : tkn A s (n + 1) = tkn A s n := (tkn_s (if_neg c1)).trans (Int.add_zero _)
      rw [w32_up (by omega), ← e0]
      exact ih
theorem q_taken {s : Int} {Q : Int → Prop} (hT : RepT LN B E A) (hs : 0 ≤ s) (h : Q (tkn A s 6)) : W_X8_takenTracks c LN 0 s B E Q := ⟨7, q_taken_go hT hs h 6 0 rfl⟩
theorem q_freeAt1 {s : Int} {Q : Int → Prop} {QX : String → Fl → El → Prop} (hS : RepS B A) (hT : RepT LN B E A) (hs : 0 ≤ s ∧ s < 8) (h : Q (w32 (A 5 s - tkn A s 6))) : W_X8_freeTracksAt c LN 0 s B E Q QX := by
  refine ⟨rfl, q_stationOf1 hs ⟨kdst (by omega) (by omega), q_taken hT hs.1 ?_⟩⟩
  rw [hS.1 s hs.1 hs.2]
  exact h
theorem q_freeAt0 {s : Int} {Q : Int → Prop} {QX : String → Fl → El → Prop} (hs : ¬ (0 ≤ s ∧ s < 8)) (h : QX "java/lang/IndexOutOfBoundsException" B E) : W_X8_freeTracksAt c LN 0 s B E Q QX := ⟨rfl, q_stationOf0 hs h⟩
theorem ln16 {v : Nat} (h : 6 ≤ v) : ln v = 16 := by
  unfold ln
  rw [if_neg (by omega), if_neg (by omega), if_neg (by omega), if_neg (by omega)]
theorem q_X7stands {t : Int} {Q : Int → Prop} (hT : RepT LN B E A) (h0 : 0 ≤ t) (h1 : t < 6) (h6 : A 36 t = 1) (h : Q (if A 39 t = 0 ∨ A 39 t = 1 then 1 else 0)) : W_X7_stands c LN (40 + t.toNat) B E Q := by
  obtain ⟨t1, t2, t3, t4, t5⟩ := hT t h0 h1
  obtain ⟨u1, -⟩ := t5 h6
  refine ⟨kdtr (by omega) (by omega), ?_⟩
  rw [u1]
  by_cases c1 : A 39 t = 0
  · rw [if_pos (Or.inl c1)] at h
    exact br_T c1 h
  · refine br_F c1 ?_
    by_cases c2 : A 39 t = 1
    · rw [if_pos (Or.inr c2)] at h
      exact bn_T c2 h
    · rw [if_neg (fun w => w.elim c1 c2)] at h
      exact bn_F c2 h
/-- a train holds a block -/
theorem q_holds {t b : Int} {Q : Int → Prop} (hR : Rep c LN B E A) (h0 : 0 ≤ t) (h1 : t < 6) (hb : 0 ≤ b ∧ b < A 6 0) (h : Q (if A 17 b = t then 1 else 0)) : W_X7_holds c LN (40 + t.toNat) b (B 912 0) B E Q := by
  obtain ⟨gG, gS, gB, g0, gH, gE, gC, gN, gK, gL, gR, gD, gY, gU, gW, gP, gT, gX, gZ⟩ := id hR
  obtain ⟨⟨b1, b2, b3⟩, -⟩ := id gB
  have e1 := gG.1
  obtain ⟨k1, k2, k3, k4⟩ := gH b hb.1 hb.2
  have x3 := gX.2.2 b hb.1 hb.2
  obtain ⟨t1, t2, t3, t4, t5⟩ := gT t h0 h1
  have e70 : 40 + t.toNat + 30 = 70 + t.toNat := by omega
  have l70 : ((ln (70 + t.toNat) : Nat) : Int) = 16 := by rw [ln16 (by omega)]; rfl
  have kc : kd c (70 + t.toNat) = 20 := kdcl (by omega) (by omega)
  refine ⟨kdtr (by omega) (by omega), ?_⟩
  by_cases c1 : A 36 t = 0
  · have ne : ¬ A 17 b = t := fun e => by
      have w := x3 (by omega)
      rw [e] at w
      omega
    rw [if_neg ne] at h
    exact br_T (t4 c1) h
  · obtain ⟨u1, u2, u3, u4, u5, u6, u7, u8, u9, u10, u11, u12, u13, u14, u15, u16, u17, u18, u19, u20, u21, u22, u23, u24, u25, u26, u27, u28, u29, u30, u31, u32, u33, u34, u35, u36⟩ := t5 (by omega)
    refine br_F (by rw [u1]; omega) ?_
    by_cases c2 : A 39 t = 3
    · have ne : ¬ A 17 b = t := fun e => by
        have w := x3 (by omega)
        rw [e] at w
        exact w.2 c2
      rw [if_neg ne] at h
      exact br_T (by rw [u1]; exact c2) h
    · refine br_F (by rw [u1]; exact c2) (br_F (by omega) ?_)
      rw [e70]
      have r := u36 b hb.1 (by omega)
      have K : ¬ (A 39 t = 2 ∧ A 41 t = b) → W_X7_holds_47 c LN (40 + t.toNat) b (B 912 0) B E Q := fun n => by
        unfold W_X7_holds_47
        rw [e70, l70, e1]
        refine ⟨kdtr (by omega) (by omega), kc, hb.1, by omega, ?_⟩
        by_cases e : A 17 b = t
        · rw [if_pos ⟨hb.2, e, n⟩] at r
          rw [if_pos e] at h
          refine br_F ?_ h
          have w := k2 (by omega)
          by_cases cc : A 1 0 < B 212 (100 + b.toNat)
          · omega
          · rw [if_neg cc] at k1
            omega
        · rw [if_neg (fun w => e w.2.1)] at r
          rw [if_neg e] at h
          exact br_T (r c2) h
      refine ⟨kc, br_T (by omega) ?_⟩
      rw [u1, u16]
      by_cases c3 : A 39 t = 2
      · refine bn_T c3 ?_
        by_cases c4 : A 41 t = b
        · have w := (u20 c3).2.2.2.1
          rw [c4] at w
          rw [if_pos w] at h
          exact br_T c4 h
        · exact br_F c4 (K fun w => c4 w.2)
      · exact bn_F c3 (K fun w => c3 w.1)
theorem q_hbt_go {b : Int} {Q : Int → Prop} {QX : String → Fl → El → Prop} (hR : Rep c LN B E A) (hb : 0 ≤ b ∧ b < A 6 0) (h : Q (A 17 b)) (hr : -1 ≤ A 17 b ∧ A 17 b < 6) : ∀ k n : Nat, n + k = 6 → (A 17 b = -1 ∨ (n : Int) ≤ A 17 b) → W_X8_holderByTrains_7 c LN (k + 1) 0 b (n : Int) B E Q QX
  | 0, n, e, w => by
    have e' : A 17 b = -1 := by omega
    rw [e'] at h
    have e6 : n = 6 := by omega
    subst e6
    exact ⟨rfl, rfl, br_T (by decide) h⟩
  | k + 1, n, e, w => by
    have l2 : ((ln 2 : Nat) : Int) = 6 := rfl
    refine ⟨rfl, rfl, br_F (by omega) ⟨by omega, by omega, kdtr (by omega) (by omega), q_holds hR (by omega) (by omega) hb ?_⟩⟩
    by_cases c1 : A 17 b = (n : Int)
    · rw [if_pos c1]
      rw [c1] at h
      exact br_F (by decide) h
    · rw [if_neg c1]
      refine br_T rfl ?_
      rw [w32_up (by omega)]
      exact q_hbt_go hR hb h hr k (n + 1) (by omega) (by omega)
theorem sim_holderByTrains {a0 : Int} (hR : Rep c LN B E A) (hp : pz A ≤ 1022) (hr0 : rg a0) : ∃ (ans : Int) (A' : Il), (∀ Q, Q ans A' → W_X9_holderByTrains a0 A Q) ∧ pz A' ≤ pz A + 2 ∧ W_X8_holderByTrains c LN 0 a0 B E (fun z => A' 0 0 = 0 ∧ z = ans ∧ Rep c LN B E A') (fun X9 B' E' => ((X9 = "java/lang/IndexOutOfBoundsException" ∧ A' 0 0 = 1)) ∧ Rep c LN B' E' A') := by
  have hB := hR.2.2.1
  obtain ⟨⟨b1, b2, b3⟩, -⟩ := id hB
  by_cases hx : 0 ≤ a0 ∧ a0 < A 6 0
  · have hH := hR.2.2.2.2.1 a0 hx.1 hx.2
    exact ⟨A 17 a0, sc A 0 0, fun Q hQ => (by unfold W_X9_holderByTrains W_X9_holder; exact m_isBlock1 (by omega) hx (br_F (by decide) (br_T le0 ⟨hx.1, by omega, hQ⟩))), pz_thr, rfl, q_block1 hB hx ⟨7, q_hbt_go hR hx ⟨rfl, rfl, hR.thr⟩ hH.2.2 6 0 rfl (by omega)⟩⟩
  · exact ⟨0, sc A 0 1, fun Q hQ => (by unfold W_X9_holderByTrains W_X9_holder; exact m_isBlock0 (by omega) hx (br_T rfl (br_F no1 hQ))), pz_thr, rfl, q_block0 hB hx ⟨⟨rfl, rfl⟩, hR.thr⟩⟩
theorem sim_freeTracks {a0 : Int} (hR : Rep c LN B E A) (hp : pz A ≤ 1022) (hr0 : rg a0) : ∃ (ans : Int) (A' : Il), (∀ Q, Q ans A' → W_X9_freeTracks a0 A Q) ∧ pz A' ≤ pz A + 2 ∧ W_X8_freeTracks c LN 0 a0 B E (fun z => A' 0 0 = 0 ∧ z = ans ∧ Rep c LN B E A') (fun X9 B' E' => ((X9 = "java/lang/IndexOutOfBoundsException" ∧ A' 0 0 = 1)) ∧ Rep c LN B' E' A') := by
  by_cases hx : 0 ≤ a0 ∧ a0 < 8
  · have hR1 : Rep c LN B E (sc A 0 0) := hR.thr
    exact ⟨w32 (sc A 0 0 5 a0 - tkn (sc A 0 0) a0 6), sc A 0 0, fun Q hQ => m_isStation1 hx (br_F (by decide) (br_T le0 ⟨hx.1, hx.2, m_taken hQ⟩)), pz_thr, rfl, q_freeAt1 hR1.2.1 hR1.2.2.2.2.2.2.2.2.2.2.2.2.2.2.2.2.1 hx ⟨rfl, rfl, hR.thr⟩⟩
  · exact ⟨0, sc A 0 1, fun Q hQ => m_isStation0 hx (br_T rfl (br_F no1 hQ)), pz_thr, rfl, q_freeAt0 hx ⟨⟨rfl, rfl⟩, hR.thr⟩⟩
/-- papers, backwards -/
theorem q_cbp_go {v : Nat} {p x : Int} {Q : Int → Prop} {QX : String → Fl → El → Prop} (hk : kd c v = 6) (hn : B 601 v ≤ (LN v : Int)) (hp0 : 0 ≤ p) (hl : B 601 v < 100000) (hx : E (.inr v) p = x) (hx2 : x < 200) (hq : ∀ q : Int, p < q → q < B 601 v → 200 ≤ E (.inr v) q) (h : Q x) : ∀ (k : Nat), p + (k : Int) < B 601 v → W_X8_carByPapers_16 c LN (k + 1) v (p + (k : Int)) B E Q QX
  | 0, hl0 => by
    refine br_F (by omega) ⟨hk, q_at hk (n := B 601 v) (f := fun j => E (.inr v) j) ⟨rfl, by omega, hn, fun _ _ _ => rfl⟩ ?_⟩
    rw [if_pos (by omega)]
    have e0 : p + ((0 : Nat) : Int) = p := by omega
    show (200 ≤ E (.inr v) (p + ((0 : Nat) : Int)) → _) ∧ (¬ 200 ≤ E (.inr v) (p + ((0 : Nat) : Int)) → Q (E (.inr v) (p + ((0 : Nat) : Int))))
    rw [e0, hx]
    exact br_F (by omega) h
  | k + 1, hl0 => by
    refine br_F (by omega) ⟨hk, q_at hk (n := B 601 v) (f := fun j => E (.inr v) j) ⟨rfl, by omega, hn, fun _ _ _ => rfl⟩ ?_⟩
    rw [if_pos (by omega)]
    refine br_T (hq _ (by omega) hl0) ?_
    have e1 : w32 (p + ((k + 1 : Nat) : Int) + -1) = p + (k : Int) := by
      rw [w32_id (by unfold rg; omega)]
      omega
    rw [e1]
    exact q_cbp_go hk hn hp0 hl hx hx2 hq h k (by omega)
theorem sim_carByPapers {a0 : Int} (hR : Rep c LN B E A) (hp : pz A ≤ 1022) (hr0 : rg a0) : ∃ (ans : Int) (A' : Il), (∀ Q, Q ans A' → W_X9_carByPapers a0 A Q) ∧ pz A' ≤ pz A + 2 ∧ W_X8_carByPapers c LN 0 a0 B E (fun z => A' 0 0 = 0 ∧ z = ans ∧ Rep c LN B E A') (fun X9 B' E' => ((X9 = "java/lang/IndexOutOfBoundsException" ∧ A' 0 0 = 1)) ∧ Rep c LN B' E' A') := by
  have hK := hR.2.2.2.2.2.2.2.2.1
  have hP := hR.2.2.2.2.2.2.2.2.2.2.2.2.2.2.2.1
  obtain ⟨⟨b1, b2, b3⟩, k0, k1, k2, k3, k4⟩ := id hK
  by_cases hx : 0 ≤ a0 ∧ a0 < A 29 0
  · have hk := kd11 (c := c) (v := 140 + a0.toNat) (by omega) (by omega) b3
    have hk6 := kdp (c := c) (v := 160 + a0.toNat) (by omega) (by omega) b3
    obtain ⟨w1, w2, w3, w4, w5, w6⟩ := k4 a0 hx.1 hx.2
    obtain ⟨p0, p1, p2, p3⟩ := hP
    obtain ⟨r1, r2, ⟨ee, r3, r4⟩, r5, p, r6, r7, r8, r9⟩ := p3 a0 hx.1 hx.2
    have e20 : 140 + a0.toNat + 20 = 160 + a0.toNat := by omega
    have hl : B 601 (160 + a0.toNat) < 100000 := by
      have : 2 ^ ee ≤ 2 ^ 8 := Nat.pow_le_pow_right (by decide) r3
      have h8 : (2 : Nat) ^ 8 = 256 := rfl
      omega
    have go : ∀ (x : Int) (Q : Int → Prop) (QX : String → Fl → El → Prop), E (.inr (160 + a0.toNat)) p = x → x < 200 → Q x → ∃ n9, W_X8_carByPapers_16 c LN n9 (140 + a0.toNat + 20) (w32 (B 601 (140 + a0.toNat + 20) - 1)) B E Q QX := fun x Q QX hx1 hx2 hq => by
      rw [e20, w32_id (by unfold rg; omega)]
      refine ⟨(B 601 (160 + a0.toNat) - 1 - p).toNat + 1, ?_⟩
      have e : B 601 (160 + a0.toNat) - 1 = p + (((B 601 (160 + a0.toNat) - 1 - p).toNat : Nat) : Int) := by omega
      rw [e]
      have e9 : (p + (((B 601 (160 + a0.toNat) - 1 - p).toNat : Nat) : Int) - p).toNat = (B 601 (160 + a0.toNat) - 1 - p).toNat := by omega
      rw [e9]
      exact q_cbp_go hk6 r2 r6 hl hx1 hx2 r9 hq _ (by omega)
    by_cases hy : A 32 a0 = -1
    · rw [if_pos hy] at r8
      exact ⟨A 31 a0, sc A 0 0, fun Q hQ => (by unfold W_X9_carByPapers W_X9_carAt; exact m_isCar1 (by omega) hx (br_F (by decide) (br_T le0 ⟨hx.1, by omega, br_T hy ⟨hx.1, by omega, hQ⟩⟩))), pz_thr, rfl, q_carOf1 hK hx ⟨hk, by rw [e20]; exact hk6, go _ _ _ r8 (by omega) ⟨rfl, rfl, hR.thr⟩⟩⟩
    · rw [if_neg hy] at r8
      exact ⟨w32 (100 + A 32 a0), sc A 0 0, fun Q hQ => (by unfold W_X9_carByPapers W_X9_carAt; exact m_isCar1 (by omega) hx (br_F (by decide) (br_T le0 ⟨hx.1, by omega, br_F hy ⟨hx.1, by omega, hQ⟩⟩))), pz_thr, rfl, q_carOf1 hK hx ⟨hk, by rw [e20]; exact hk6, go _ _ _ r8 (by omega) ⟨rfl, (w32_id (by unfold rg; omega)).symm, hR.thr⟩⟩⟩
  · exact ⟨0, sc A 0 1, fun Q hQ => (by unfold W_X9_carByPapers W_X9_carAt; exact m_isCar0 (by omega) hx (br_T rfl (br_F no1 hQ))), pz_thr, rfl, q_carOf0 hK hx ⟨⟨rfl, rfl⟩, hR.thr⟩⟩
theorem pcn_rg (A : Il) (k : Int) : ∀ n : Nat, 0 ≤ pcn A k n ∧ pcn A k n ≤ (n : Int)
  | 0 => ⟨Int.le_refl _, Int.le_refl _⟩
  | n + 1 => by
    have h := pcn_rg A k n
    show 0 ≤ pcn A k n + _ ∧ pcn A k n + _ ≤ ((n + 1 : Nat) : Int)
    split <;> omega
theorem pcn_mono (A : Il) (k : Int) (n : Nat) : ∀ d : Nat, pcn A k n ≤ pcn A k (n + d)
  | 0 => Int.le_refl _
  | d + 1 => by
    have h := pcn_mono A k n d
    show pcn A k n ≤ pcn A k (n + d) + _
    split <;> omega
theorem m_paper_go {a0 a1 : Int} {N : Nat} {Q : Int → Il → Prop} {f : Int → Int} (hN : A 60 0 = (N : Int)) (hN2 : N ≤ 1024) (hf : ∀ i : Nat, i < N → A 61 (i : Int) = a0 → f (pcn A a0 i) = A 62 (i : Int)) (h1 : 0 ≤ a1) (h : Q (if 0 ≤ a1 ∧ a1 < pcn A a0 N then f a1 else -1) A) : ∀ k n : Nat, n + k = N → pcn A a0 n ≤ a1 → W_X9_paper_35 (k + 1) a0 a1 (pcn A a0 n) (n : Int) A Q
  | 0, n, e, w => by
    have e' : n = N := by omega
    subst e'
    rw [if_neg (by omega)] at h
    exact br_T (by omega) h
  | k + 1, n, e, w => by
    have hn := pcn_rg A a0 n
    refine br_F (by omega) ⟨by omega, by omega, ?_⟩
    by_cases c1 : A 61 (n : Int) = a0
    · have ep : pcn A a0 (n + 1) = pcn A a0 n + 1 := by
        show pcn A a0 n + (if A 61 (n : Int) = a0 then 1 else 0) = _
        rw [if_pos c1]
      refine bn_T c1 ?_
      by_cases c2 : pcn A a0 n = a1
      · refine bn_T c2 ⟨by omega, by omega, ?_⟩
        have mo := pcn_mono A a0 (n + 1) k
        have en : n + 1 + k = N := by omega
        rw [en] at mo
        rw [if_pos (by omega), ← c2, hf n (by omega) c1] at h
        exact h
      · refine bn_F c2 ?_
        show W_X9_paper_35 (k + 1) a0 a1 (w32 (pcn A a0 n + 1)) (w32 ((n : Int) + 1)) A Q
        rw [w32_up (by omega), w32_id (by unfold rg; omega), ← ep]
        exact m_paper_go hN hN2 hf h1 h k (n + 1) (by omega) (by omega)
    · have ep : pcn A a0 (n + 1) = pcn A a0 n := by
        show pcn A a0 n + (if A 61 (n : Int) = a0 then 1 else 0) = _
        rw [if_neg c1]
        exact Int.add_zero _
      refine bn_F c1 ?_
      show W_X9_paper_35 (k + 1) a0 a1 (pcn A a0 n) (w32 ((n : Int) + 1)) A Q
      rw [w32_up (by omega), ← ep]
      exact m_paper_go hN hN2 hf h1 h k (n + 1) (by omega) (by omega)
theorem sim_paper {a0 a1 : Int} (hR : Rep c LN B E A) (hp : pz A ≤ 1022) (hr0 : rg a0) (hr1 : rg a1) : ∃ (ans : Int) (A' : Il), (∀ Q, Q ans A' → W_X9_paper a0 a1 A Q) ∧ pz A' ≤ pz A + 2 ∧ W_X8_paper c LN 0 a0 a1 B E (fun z => A' 0 0 = 0 ∧ z = ans ∧ Rep c LN B E A') (fun X9 B' E' => ((X9 = "java/lang/IndexOutOfBoundsException" ∧ A' 0 0 = 1)) ∧ Rep c LN B' E' A') := by
  have hK := hR.2.2.2.2.2.2.2.2.1
  obtain ⟨⟨b1, b2, b3⟩, k0, k1, k2, k3, k4⟩ := id hK
  by_cases hx : 0 ≤ a0 ∧ a0 < A 29 0
  · have hR1 : Rep c LN B E (sc A 0 0) := hR.thr
    obtain ⟨p0, p1, p2, p3⟩ := hR1.2.2.2.2.2.2.2.2.2.2.2.2.2.2.2.1
    by_cases hy : 0 ≤ a1
    · have hk := kd11 (c := c) (v := 140 + a0.toNat) (by omega) (by omega) b3
      have hk6 := kdp (c := c) (v := 160 + a0.toNat) (by omega) (by omega) b3
      obtain ⟨r1, r2, r3, r5, -⟩ := p3 a0 hx.1 hx.2
      have e20 : 140 + a0.toNat + 20 = 160 + a0.toNat := by omega
      have hr := pcn_rg (sc A 0 0) a0 (sc A 0 0 60 0).toNat
      refine ⟨if 0 ≤ a1 ∧ a1 < pcn (sc A 0 0) a0 (sc A 0 0 60 0).toNat then E (.inr (160 + a0.toNat)) a1 else -1, sc A 0 0, fun Q hQ => m_isCar1 (by omega) hx (br_F (by decide) (br_F (by omega) (br_T le0 ⟨_, m_paper_go (N := (sc A 0 0 60 0).toNat) (f := fun j => E (.inr (160 + a0.toNat)) j) (by omega) (by omega) (fun i hi h61 => r5 i (by omega) h61) hy hQ _ 0 (Nat.zero_add _) hy⟩))), pz_thr, rfl, q_carOf1 hK hx (q_fromZero1 hy ⟨hk, by rw [e20]; exact hk6, ?_⟩)⟩
      rw [e20]
      exact q_at hk6 (n := pcn (sc A 0 0) a0 (sc A 0 0 60 0).toNat) (f := fun j => E (.inr (160 + a0.toNat)) j) ⟨r1, hr.1, by omega, fun _ _ _ => rfl⟩ ⟨rfl, rfl, hR.thr⟩
    · exact ⟨0, sc A 0 1, fun Q hQ => m_isCar1 (by omega) hx (br_F (by decide) (br_T (by omega) (by unfold W_X9_paper_17; exact br_F no1 hQ))), pz_thr, rfl, q_carOf1 hK hx (q_fromZero0 hy ⟨⟨rfl, rfl⟩, hR.thr⟩)⟩
  · exact ⟨0, sc A 0 1, fun Q hQ => m_isCar0 (by omega) hx (br_T rfl (by unfold W_X9_paper_17; exact br_F no1 hQ)), pz_thr, rfl, q_carOf0 hK hx ⟨⟨rfl, rfl⟩, hR.thr⟩⟩
set_option maxHeartbeats 1000000 in
theorem sim_tracks {a0 a1 : Int} (hR : Rep c LN B E A) (hp : pz A ≤ 1022) (hr0 : rg a0) (hr1 : rg a1) : ∃ (ans : Int) (A' : Il), (∀ Q, Q ans A' → W_X9_tracks a0 a1 A Q) ∧ pz A' ≤ pz A + 2 ∧ W_X8_tracks c LN 0 a0 a1 B E (fun z B' E' => A' 0 0 = 0 ∧ z = ans ∧ Rep c LN B' E' A') (fun X9 B' E' => ((X9 = "java/lang/IndexOutOfBoundsException" ∧ A' 0 0 = 1) ∨ (X9 = "java/lang/IllegalArgumentException" ∧ A' 0 0 = 2) ∨ (X9 = "java/lang/IllegalStateException" ∧ A' 0 0 = 3)) ∧ Rep c LN B' E' A') := by
  obtain ⟨gG, gS, gB, g0, gH, gE, gC, gN, gK, gL, gR, gD, gY, gU, gW, gP, gT, gX, gZ⟩ := id hR
  by_cases hx : 0 ≤ a0 ∧ a0 < 8
  · have hk := kdst (c := c) (v := 20 + a0.toNat) (by omega) (by omega)
    by_cases hy : 1 ≤ a1 ∧ a1 ≤ 4
    · by_cases hz : a1 < tkn A a0 6
      · exact ⟨0, sc A 0 3, fun Q hQ => m_isStation1 hx (bn_F (by decide) (m_in1 hy (bn_F (by decide) (m_taken (br_F (by omega) (by unfold W_X9_tracks_39; exact br_F no3 hQ)))))), pz_thr, rfl, q_stationOf1 hx (q_range1 hy (q_taken gT hx.1 (br_T hz (by unfold W_X8_tracks_26; exact q_state0 ⟨Or.inr (Or.inr ⟨rfl, rfl⟩), hR.thr⟩))))⟩
      · refine ⟨A 5 a0, ui (sc A 0 0) 5 a0 a1, fun Q hQ => m_isStation1 hx (bn_F (by decide) (m_in1 hy (bn_F (by decide) (m_taken (br_T (by omega) (by unfold W_X9_tracks_39; exact br_T le0 ⟨hx.1, hx.2, hx.1, hx.2, hQ⟩)))))), pz_fr ((ui_k (by decide)).trans ((sc_k (by decide)).trans (rfl))) (fun _ => (ui_k (by decide)).trans ((sc_k (by decide)).trans (rfl))) (fun _ => (ui_k (by decide)).trans ((sc_k (by decide)).trans (rfl))), rfl, q_stationOf1 hx (q_range1 hy (q_taken gT hx.1 (br_F hz ?_)))⟩
        unfold W_X8_tracks_26
        refine q_state1 ⟨hk, rfl, gS.1 a0 hx.1 hx.2, ?_⟩
        refine ⟨gG.fr (fun k v h => (u2_k (by omega)).trans (rfl)) (fun a j h => (ui_k (by omega)).trans ((sc_k (by omega)).trans (rfl))), ⟨eqF.set hx.1 (eqF.oS (by decide) gS.1), fun j j0 j1 => ?_⟩, gB.fr (fun k v h => (u2_k (by omega)).trans (rfl)) (fun a j h => (ui_k (by omega)).trans ((sc_k (by omega)).trans (rfl))), g0.fr (fun a j h => (ui_k (by omega)).trans ((sc_k (by omega)).trans (rfl))), gH.fr (fun k v h => (u2_k (by omega)).trans (rfl)) (fun a j h => (ui_k (by omega)).trans ((sc_k (by omega)).trans (rfl))), gE.fr (fun k v h => (u2_k (by omega)).trans (rfl)) (fun a j h => (ui_k (by omega)).trans ((sc_k (by omega)).trans (rfl))), gC.fr (fun k v h => (u2_k (by omega)).trans (rfl)) (fun a j h => (ui_k (by omega)).trans ((sc_k (by omega)).trans (rfl))), gN.fr (fun k v h => (u2_k (by omega)).trans (rfl)) (fun a j h => (ui_k (by omega)).trans ((sc_k (by omega)).trans (rfl))), gK.fr (fun k v h => (u2_k (by omega)).trans (rfl)) (fun a j h => (ui_k (by omega)).trans ((sc_k (by omega)).trans (rfl))), gL.fr (fun k v h => (u2_k (by omega)).trans (rfl)) (fun a j h => (ui_k (by omega)).trans ((sc_k (by omega)).trans (rfl))), gR.fr (fun _ => rfl) (fun _ => rfl) (fun a j h => (ui_k (by omega)).trans ((sc_k (by omega)).trans (rfl))), gD.fr (fun k v h => (u2_k (by omega)).trans (rfl)) (fun _ _ => rfl) (fun a j h => (ui_k (by omega)).trans ((sc_k (by omega)).trans (rfl))), gY.fr (fun k v h => (u2_k (by omega)).trans (rfl)) (fun _ _ => rfl) (fun a j h => (ui_k (by omega)).trans ((sc_k (by omega)).trans (rfl))), gU.fr (fun k v h => (u2_k (by omega)).trans (rfl)) (fun _ _ => rfl) (fun a j h => (ui_k (by omega)).trans ((sc_k (by omega)).trans (rfl))), gW.fr (fun a j h => (ui_k (by omega)).trans ((sc_k (by omega)).trans (rfl))), gP.fr (fun k v h => (u2_k (by omega)).trans (rfl)) (fun _ _ => rfl) (fun a j h => (ui_k (by omega)).trans ((sc_k (by omega)).trans (rfl))), gT.fr (fun k v h => (u2_k (by omega)).trans (rfl)) (fun _ _ => rfl) (fun _ _ => rfl) (fun a j h => (ui_k (by omega)).trans ((sc_k (by omega)).trans (rfl))), gX.fr (fun a j h => (ui_k (by omega)).trans ((sc_k (by omega)).trans (rfl))), gZ.fr (fun a j h => (ui_k (by omega)).trans ((sc_k (by omega)).trans (rfl)))⟩
        show 1 ≤ ui (sc A 0 0) 5 a0 a1 5 j ∧ ui (sc A 0 0) 5 a0 a1 5 j ≤ 4
        by_cases e : j = a0
        · rw [e, ui_s]; exact hy
        · rw [ui_j e]; exact gS.2 j j0 j1
    · exact ⟨0, sc A 0 2, fun Q hQ => m_isStation1 hx (bn_F (by decide) (m_in0 hy (bn_T rfl (by unfold W_X9_tracks_39; exact br_F no2 hQ)))), pz_thr, rfl, q_stationOf1 hx (q_range0 hy ⟨Or.inr (Or.inl ⟨rfl, rfl⟩), hR.thr⟩)⟩
  · exact ⟨0, sc A 0 1, fun Q hQ => m_isStation0 hx (bn_T rfl (by unfold W_X9_tracks_39; exact br_F no1 hQ)), pz_thr, rfl, q_stationOf0 hx ⟨Or.inl ⟨rfl, rfl⟩, hR.thr⟩⟩
set_option maxHeartbeats 1000000 in
theorem sim_rest {a0 : Int} (hR : Rep c LN B E A) (hp : pz A ≤ 1022) (hr0 : rg a0) : ∃ (ans : Int) (A' : Il), (∀ Q, Q ans A' → W_X9_rest a0 A Q) ∧ pz A' ≤ pz A + 2 ∧ W_X8_rest c LN 0 a0 B E (fun z B' E' => A' 0 0 = 0 ∧ z = ans ∧ Rep c LN B' E' A') (fun X9 B' E' => ((X9 = "java/lang/IndexOutOfBoundsException" ∧ A' 0 0 = 1) ∨ (X9 = "java/lang/IllegalStateException" ∧ A' 0 0 = 2)) ∧ Rep c LN B' E' A') := by
  obtain ⟨gG, gS, gB, g0, gH, gE, gC, gN, gK, gL, gR, gD, gY, gU, gW, gP, gT, gX, gZ⟩ := id hR
  obtain ⟨⟨c1, c2, c3⟩, e1, e2, e3, e4, e5, e6⟩ := id gC
  obtain ⟨q1, q2, q3, q4, q5, q6, q7, q8⟩ := id gG
  have h23 : 0 ≤ A 23 0 ∧ A 23 0 ≤ 6 := by omega
  by_cases hx : 0 ≤ a0 ∧ a0 < A 23 0
  · have hk := kd10 (c := c) (v := 130 + a0.toNat) (by omega) (by omega) c3
    obtain ⟨m1, m2, m3, m4, m5, m6, m7, m8⟩ := e5 a0 hx.1 hx.2
    have e480 : w32 (A 1 0 + 480) = A 1 0 + 480 := w32_id (by unfold rg; omega)
    have f4 := e4 a0 hx.1 hx.2
    have f2 := e2 a0 hx.1 hx.2
    have hM : ∀ Q : Int → Il → Prop, Q (A 1 0 + 480) (ui (ui (sc A 0 0) 27 a0 (A 1 0 + 480)) 26 a0 0) → W_X9_rest_48 a0 A Q := fun Q hQ => by
      unfold W_X9_rest_48 W_X9_rest_49
      refine br_T le0 ⟨hx.1, by omega, hx.1, by omega, hx.1, by omega, ?_⟩
      show Q (ui (ui (sc A 0 0) 27 a0 (w32 (A 1 0 + 480))) 26 a0 0 27 a0) (ui (ui (sc A 0 0) 27 a0 (w32 (A 1 0 + 480))) 26 a0 0)
      rw [ui_k (show (27 : Nat) ≠ 26 by decide), ui_s, e480]
      exact hQ
    have hC : W_X8_rest_47 c LN 0 (130 + a0.toNat) B E (fun z B' E' => (ui (ui (sc A 0 0) 27 a0 (A 1 0 + 480)) 26 a0 0) 0 0 = 0 ∧ z = A 1 0 + 480 ∧ Rep c LN B' E' (ui (ui (sc A 0 0) 27 a0 (A 1 0 + 480)) 26 a0 0)) (fun X9 B' E' => ((X9 = "java/lang/IndexOutOfBoundsException" ∧ (ui (ui (sc A 0 0) 27 a0 (A 1 0 + 480)) 26 a0 0) 0 0 = 1) ∨ (X9 = "java/lang/IllegalStateException" ∧ (ui (ui (sc A 0 0) 27 a0 (A 1 0 + 480)) 26 a0 0) 0 0 = 2)) ∧ Rep c LN B' E' (ui (ui (sc A 0 0) 27 a0 (A 1 0 + 480)) 26 a0 0)) := by
      unfold W_X8_rest_47 W_X8_rest_52
      refine q_state1 ⟨hk, rfl, rfl, ?_, ?_⟩
      · show u2 (u2 B 403 (130 + a0.toNat) 0) 404 (130 + a0.toNat) (w32 (B 912 0 + 480)) 404 (130 + a0.toNat) = A 1 0 + 480
        rw [u2_s, q1, e480]
      · show Rep c LN (u2 (u2 B 403 (130 + a0.toNat) 0) 404 (130 + a0.toNat) (w32 (B 912 0 + 480))) E _
        rw [q1, e480]
        refine ⟨gG.fr (fun k v h => (u2_k (by omega)).trans ((u2_k (by omega)).trans (rfl))) (fun a j h => (ui_k (by omega)).trans ((ui_k (by omega)).trans ((sc_k (by omega)).trans (rfl)))), gS.fr (fun k v h => (u2_k (by omega)).trans ((u2_k (by omega)).trans (rfl))) (fun a j h => (ui_k (by omega)).trans ((ui_k (by omega)).trans ((sc_k (by omega)).trans (rfl)))), gB.fr (fun k v h => (u2_k (by omega)).trans ((u2_k (by omega)).trans (rfl))) (fun a j h => (ui_k (by omega)).trans ((ui_k (by omega)).trans ((sc_k (by omega)).trans (rfl)))), g0.fr (fun a j h => (ui_k (by omega)).trans ((ui_k (by omega)).trans ((sc_k (by omega)).trans (rfl)))), gH.fr (fun k v h => (u2_k (by omega)).trans ((u2_k (by omega)).trans (rfl))) (fun a j h => (ui_k (by omega)).trans ((ui_k (by omega)).trans ((sc_k (by omega)).trans (rfl)))), gE.fr (fun k v h => (u2_k (by omega)).trans ((u2_k (by omega)).trans (rfl))) (fun a j h => (ui_k (by omega)).trans ((ui_k (by omega)).trans ((sc_k (by omega)).trans (rfl)))), ⟨⟨c1, (u2_k (by decide)).trans ((u2_k (by decide)).trans c2), c3⟩, (eqF.oB (by decide) (eqF.oB (by decide) (eqF.oA (by decide) (eqF.oA (by decide) (eqF.oS (by decide) e1))))), (eqF.oB (by decide) (eqF.oB (by decide) (eqF.oA (by decide) (eqF.oA (by decide) (eqF.oS (by decide) e2))))), eqF.oB (by decide) (eqF.set hx.1 (eqF.oA (by decide) (eqF.oS (by decide) e3))), eqF.oA (by decide) (eqF.set hx.1 (eqF.oB (by decide) (eqF.oS (by decide) e4))), fun j j0 j1 => ?_, fun j j0 j1 => by
          have j2 : A 23 0 ≤ j := j0
          exact ⟨(ui_j (by omega)).trans ((ui_k (by decide)).trans ((sc_k (by decide)).trans (e6 j j2 j1).1)), (ui_k (by decide)).trans ((ui_j (by omega)).trans ((sc_k (by decide)).trans (e6 j j2 j1).2))⟩⟩, gN.fr (fun k v h => (u2_k (by omega)).trans ((u2_k (by omega)).trans (rfl))) (fun a j h => (ui_k (by omega)).trans ((ui_k (by omega)).trans ((sc_k (by omega)).trans (rfl)))), gK.fr (fun k v h => (u2_k (by omega)).trans ((u2_k (by omega)).trans (rfl))) (fun a j h => (ui_k (by omega)).trans ((ui_k (by omega)).trans ((sc_k (by omega)).trans (rfl)))), gL.fr (fun k v h => (u2_k (by omega)).trans ((u2_k (by omega)).trans (rfl))) (fun a j h => (ui_k (by omega)).trans ((ui_k (by omega)).trans ((sc_k (by omega)).trans (rfl)))), gR.fr (fun _ => rfl) (fun _ => rfl) (fun a j h => (ui_k (by omega)).trans ((ui_k (by omega)).trans ((sc_k (by omega)).trans (rfl)))), gD.fr (fun k v h => (u2_k (by omega)).trans ((u2_k (by omega)).trans (rfl))) (fun _ _ => rfl) (fun a j h => (ui_k (by omega)).trans ((ui_k (by omega)).trans ((sc_k (by omega)).trans (rfl)))), gY.fr (fun k v h => (u2_k (by omega)).trans ((u2_k (by omega)).trans (rfl))) (fun _ _ => rfl) (fun a j h => (ui_k (by omega)).trans ((ui_k (by omega)).trans ((sc_k (by omega)).trans (rfl)))), gU.fr (fun k v h => (u2_k (by omega)).trans ((u2_k (by omega)).trans (rfl))) (fun _ _ => rfl) (fun a j h => (ui_k (by omega)).trans ((ui_k (by omega)).trans ((sc_k (by omega)).trans (rfl)))), gW.fr (fun a j h => (ui_k (by omega)).trans ((ui_k (by omega)).trans ((sc_k (by omega)).trans (rfl)))), gP.fr (fun k v h => (u2_k (by omega)).trans ((u2_k (by omega)).trans (rfl))) (fun _ _ => rfl) (fun a j h => (ui_k (by omega)).trans ((ui_k (by omega)).trans ((sc_k (by omega)).trans (rfl)))), gT.fr (fun k v h => (u2_k (by omega)).trans ((u2_k (by omega)).trans (rfl))) (fun _ _ => rfl) (fun _ _ => rfl) (fun a j h => (ui_k (by omega)).trans ((ui_k (by omega)).trans ((sc_k (by omega)).trans (rfl)))), gX.fr (fun a j h => (ui_k (by omega)).trans ((ui_k (by omega)).trans ((sc_k (by omega)).trans (rfl)))), gZ.fr (fun a j h => (ui_k (by omega)).trans ((ui_k (by omega)).trans ((sc_k (by omega)).trans (rfl))))⟩
        obtain ⟨n1, n2, n3, n4, n5⟩ := e5 j j0 j1
        refine ⟨n1, n2, n3, n4, ?_⟩
        show 0 ≤ (ui (ui (sc A 0 0) 27 a0 (A 1 0 + 480)) 26 a0 0) 26 j ∧ (ui (ui (sc A 0 0) 27 a0 (A 1 0 + 480)) 26 a0 0) 26 j ≤ 600 ∧ 0 ≤ (ui (ui (sc A 0 0) 27 a0 (A 1 0 + 480)) 26 a0 0) 27 j ∧ (ui (ui (sc A 0 0) 27 a0 (A 1 0 + 480)) 26 a0 0) 27 j ≤ 20480
        rw [ui_k (show (27 : Nat) ≠ 26 by decide)]
        by_cases e : j = a0
        · rw [e, ui_s, ui_s]; omega
        · rw [ui_j e, ui_j e, ui_k (show (26 : Nat) ≠ 27 by decide)]; exact n5
    by_cases hy : A 1 0 < A 27 a0
    · refine ⟨0, sc A 0 2, fun Q hQ => m_isCrew1 h23 hx (bn_F (by decide) (m_rests ⟨hx.1, by omega⟩ ?_)), pz_thr, rfl, q_crewOf1 gC hx ⟨hk, q_restingAt hk ?_⟩⟩
      · rw [if_pos hy]; exact bn_F (by decide) (by unfold W_X9_rest_44 W_X9_rest_49; exact br_F no2 hQ)
      · rw [f4, q1, if_pos hy]; exact bn_F (by decide) (by unfold W_X8_rest_22; exact q_state0 ⟨Or.inr ⟨rfl, rfl⟩, hR.thr⟩)
    · by_cases h25 : A 25 a0 = -1
      · refine ⟨A 1 0 + 480, ui (ui (sc A 0 0) 27 a0 (A 1 0 + 480)) 26 a0 0, fun Q hQ => m_isCrew1 h23 hx (bn_F (by decide) (m_rests ⟨hx.1, by omega⟩ ?_)), pz_fr ((ui_k (by decide)).trans ((ui_k (by decide)).trans ((sc_k (by decide)).trans (rfl)))) (fun _ => (ui_k (by decide)).trans ((ui_k (by decide)).trans ((sc_k (by decide)).trans (rfl)))) (fun _ => (ui_k (by decide)).trans ((ui_k (by decide)).trans ((sc_k (by decide)).trans (rfl)))), rfl, q_crewOf1 gC hx ⟨hk, q_restingAt hk ?_⟩⟩
        · rw [if_neg hy]; exact bn_T rfl ⟨hx.1, by omega, br_T h25 (hM Q hQ)⟩
        · rw [f4, q1, if_neg hy]; exact bn_T rfl (by unfold W_X8_rest_22; exact q_state1 ⟨hk, br_T (by rw [f2]; exact h25) hC⟩)
      · have x2 := gX.2.1 a0 hx.1 hx.2 h25
        by_cases hs : A 39 (A 25 a0) = 0 ∨ A 39 (A 25 a0) = 1
        · refine ⟨A 1 0 + 480, ui (ui (sc A 0 0) 27 a0 (A 1 0 + 480)) 26 a0 0, fun Q hQ => m_isCrew1 h23 hx (bn_F (by decide) (m_rests ⟨hx.1, by omega⟩ ?_)), pz_fr ((ui_k (by decide)).trans ((ui_k (by decide)).trans ((sc_k (by decide)).trans (rfl)))) (fun _ => (ui_k (by decide)).trans ((ui_k (by decide)).trans ((sc_k (by decide)).trans (rfl)))) (fun _ => (ui_k (by decide)).trans ((ui_k (by decide)).trans ((sc_k (by decide)).trans (rfl)))), rfl, q_crewOf1 gC hx ⟨hk, q_restingAt hk ?_⟩⟩
          · rw [if_neg hy]; exact bn_T rfl ⟨hx.1, by omega, br_F h25 ⟨hx.1, by omega, m_stands (by omega) (by rw [if_pos hs]; exact bn_F (by decide) (hM Q hQ))⟩⟩
          · rw [f4, q1, if_neg hy]; exact bn_T rfl (by unfold W_X8_rest_22; exact q_state1 ⟨hk, br_F (by rw [f2]; exact h25) ⟨rfl, by rw [f2]; exact q_trainOf1 gT (by omega) ⟨kdtr (by omega) (by omega), q_X7stands gT (by omega) (by omega) x2.1 (by rw [if_pos hs]; exact br_F (by decide) hC)⟩⟩⟩)
        · refine ⟨0, sc A 0 2, fun Q hQ => m_isCrew1 h23 hx (bn_F (by decide) (m_rests ⟨hx.1, by omega⟩ ?_)), pz_thr, rfl, q_crewOf1 gC hx ⟨hk, q_restingAt hk ?_⟩⟩
          · rw [if_neg hy]; exact bn_T rfl ⟨hx.1, by omega, br_F h25 ⟨hx.1, by omega, m_stands (by omega) (by rw [if_neg hs]; exact bn_T rfl (by unfold W_X9_rest_44 W_X9_rest_49; exact br_F no2 hQ))⟩⟩
          · rw [f4, q1, if_neg hy]; exact bn_T rfl (by unfold W_X8_rest_22; exact q_state1 ⟨hk, br_F (by rw [f2]; exact h25) ⟨rfl, by rw [f2]; exact q_trainOf1 gT (by omega) ⟨kdtr (by omega) (by omega), q_X7stands gT (by omega) (by omega) x2.1 (by rw [if_neg hs]; exact br_T rfl (by unfold W_X8_rest_52; exact q_state0 ⟨Or.inr ⟨rfl, rfl⟩, hR.thr⟩))⟩⟩⟩)
  · exact ⟨0, sc A 0 1, fun Q hQ => m_isCrew0 h23 hx (bn_T rfl (by unfold W_X9_rest_49; exact br_F no1 hQ)), pz_thr, rfl, q_crewOf0 gC hx ⟨Or.inl ⟨rfl, rfl⟩, hR.thr⟩⟩
set_option maxHeartbeats 1000000 in
theorem sim_await {a0 a1 a2 : Int} (hR : Rep c LN B E A) (hp : pz A ≤ 1022) (hr0 : rg a0) (hr1 : rg a1) (hr2 : rg a2) : ∃ (A' : Il), (∀ Q, Q A' → W_X9_await a0 a1 a2 A Q) ∧ pz A' ≤ pz A + 2 ∧ W_X8_await c LN 0 a0 a1 a2 B E (fun B' E' => A' 0 0 = 0 ∧ Rep c LN B' E' A') (fun X9 B' E' => ((X9 = "java/lang/IndexOutOfBoundsException" ∧ A' 0 0 = 1) ∨ (X9 = "java/lang/IllegalStateException" ∧ A' 0 0 = 2)) ∧ Rep c LN B' E' A') := by
  obtain ⟨gG, gS, gB, g0, gH, gE, gC, gN, gK, gL, gR, gD, gY, gU, gW, gP, gT, gX, gZ⟩ := id hR
  by_cases h1 : 0 ≤ a0 ∧ a0 < 6 ∧ ¬ A 36 a0 = 0
  · have hk := kdtr (c := c) (v := 40 + a0.toNat) (by omega) (by omega)
    have K : (-1 ≤ a1 ∧ a1 < 6) → ∃ A' : Il, (∀ Q, Q A' → W_X9_await_22 a0 a1 a2 A Q) ∧ pz A' ≤ pz A + 2 ∧ W_X8_await_17 c LN 0 a0 a1 a2 (40 + a0.toNat) B E (fun B' E' => A' 0 0 = 0 ∧ Rep c LN B' E' A') (fun X9 B' E' => ((X9 = "java/lang/IndexOutOfBoundsException" ∧ A' 0 0 = 1) ∨ (X9 = "java/lang/IllegalStateException" ∧ A' 0 0 = 2)) ∧ Rep c LN B' E' A') := fun ha => by
      by_cases hs : 0 ≤ a2 ∧ a2 < 8
      · by_cases he : a0 = a1
        · exact ⟨sc A 0 2, fun Q hQ => m_isStation1 hs (bn_F (by decide) (bn_T he (by unfold W_X9_await_43; exact bn_F (by show ¬ (2 : Int) = 0; decide) hQ))), pz_thr, rfl, q_station1 hs (br_T he (by unfold W_X8_await_32; exact q_state0 ⟨Or.inr ⟨rfl, rfl⟩, hR.thr⟩))⟩
        · refine ⟨ui (ui (sc A 0 0) 50 a0 a1) 51 a0 a2, fun Q hQ => m_isStation1 hs (bn_F (by decide) (bn_F he (by unfold W_X9_await_43; exact bn_T rfl ⟨h1.1, h1.2.1, h1.1, h1.2.1, hQ⟩))), pz_fr ((ui_k (by decide)).trans ((ui_k (by decide)).trans ((sc_k (by decide)).trans (rfl)))) (fun _ => (ui_k (by decide)).trans ((ui_k (by decide)).trans ((sc_k (by decide)).trans (rfl)))) (fun _ => (ui_k (by decide)).trans ((ui_k (by decide)).trans ((sc_k (by decide)).trans (rfl)))), rfl, q_station1 hs (br_F he ?_)⟩
          unfold W_X8_await_32
          refine q_state1 ⟨hk, rfl, ?_⟩
          refine ⟨gG.fr (fun k v h => (u2_k (by omega)).trans ((u2_k (by omega)).trans (rfl))) (fun a j h => (ui_k (by omega)).trans ((ui_k (by omega)).trans ((sc_k (by omega)).trans (rfl)))), gS.fr (fun k v h => (u2_k (by omega)).trans ((u2_k (by omega)).trans (rfl))) (fun a j h => (ui_k (by omega)).trans ((ui_k (by omega)).trans ((sc_k (by omega)).trans (rfl)))), gB.fr (fun k v h => (u2_k (by omega)).trans ((u2_k (by omega)).trans (rfl))) (fun a j h => (ui_k (by omega)).trans ((ui_k (by omega)).trans ((sc_k (by omega)).trans (rfl)))), g0.fr (fun a j h => (ui_k (by omega)).trans ((ui_k (by omega)).trans ((sc_k (by omega)).trans (rfl)))), gH.fr (fun k v h => (u2_k (by omega)).trans ((u2_k (by omega)).trans (rfl))) (fun a j h => (ui_k (by omega)).trans ((ui_k (by omega)).trans ((sc_k (by omega)).trans (rfl)))), gE.fr (fun k v h => (u2_k (by omega)).trans ((u2_k (by omega)).trans (rfl))) (fun a j h => (ui_k (by omega)).trans ((ui_k (by omega)).trans ((sc_k (by omega)).trans (rfl)))), gC.fr (fun k v h => (u2_k (by omega)).trans ((u2_k (by omega)).trans (rfl))) (fun a j h => (ui_k (by omega)).trans ((ui_k (by omega)).trans ((sc_k (by omega)).trans (rfl)))), gN.fr (fun k v h => (u2_k (by omega)).trans ((u2_k (by omega)).trans (rfl))) (fun a j h => (ui_k (by omega)).trans ((ui_k (by omega)).trans ((sc_k (by omega)).trans (rfl)))), gK.fr (fun k v h => (u2_k (by omega)).trans ((u2_k (by omega)).trans (rfl))) (fun a j h => (ui_k (by omega)).trans ((ui_k (by omega)).trans ((sc_k (by omega)).trans (rfl)))), gL.fr (fun k v h => (u2_k (by omega)).trans ((u2_k (by omega)).trans (rfl))) (fun a j h => (ui_k (by omega)).trans ((ui_k (by omega)).trans ((sc_k (by omega)).trans (rfl)))), gR.fr (fun _ => rfl) (fun _ => rfl) (fun a j h => (ui_k (by omega)).trans ((ui_k (by omega)).trans ((sc_k (by omega)).trans (rfl)))), gD.fr (fun k v h => (u2_k (by omega)).trans ((u2_k (by omega)).trans (rfl))) (fun _ _ => rfl) (fun a j h => (ui_k (by omega)).trans ((ui_k (by omega)).trans ((sc_k (by omega)).trans (rfl)))), gY.fr (fun k v h => (u2_k (by omega)).trans ((u2_k (by omega)).trans (rfl))) (fun _ _ => rfl) (fun a j h => (ui_k (by omega)).trans ((ui_k (by omega)).trans ((sc_k (by omega)).trans (rfl)))), gU.fr (fun k v h => (u2_k (by omega)).trans ((u2_k (by omega)).trans (rfl))) (fun _ _ => rfl) (fun a j h => (ui_k (by omega)).trans ((ui_k (by omega)).trans ((sc_k (by omega)).trans (rfl)))), gW.fr (fun a j h => (ui_k (by omega)).trans ((ui_k (by omega)).trans ((sc_k (by omega)).trans (rfl)))), gP.fr (fun k v h => (u2_k (by omega)).trans ((u2_k (by omega)).trans (rfl))) (fun _ _ => rfl) (fun a j h => (ui_k (by omega)).trans ((ui_k (by omega)).trans ((sc_k (by omega)).trans (rfl)))), fun t h0 h1 => ?_, gX.fr (fun a j h => (ui_k (by omega)).trans ((ui_k (by omega)).trans ((sc_k (by omega)).trans (rfl)))), gZ.fr (fun a j h => (ui_k (by omega)).trans ((ui_k (by omega)).trans ((sc_k (by omega)).trans (rfl))))⟩
          obtain ⟨t1, t2, t3, t4, t5⟩ := gT t h0 h1
          refine ⟨t1, t2, t3, t4, fun e => ?_⟩
          obtain ⟨y1, y2, y3, y4, y5, y6, y7, y8, y9, y10, y11, y12, y13, y14, y15, y16, y17, y18, y19, y20, y21, y22, y23, y24, y25, y26, y27, y28, y29, y30, y31, y32, y33, y34, y35, y36⟩ := t5 e
          have key : (u2 (u2 B 814 (40 + a0.toNat) a1) 815 (40 + a0.toNat) a2) 814 (40 + t.toNat) = (ui (ui (sc A 0 0) 50 a0 a1) 51 a0 a2) 50 t ∧ -1 ≤ (ui (ui (sc A 0 0) 50 a0 a1) 51 a0 a2) 50 t ∧ (ui (ui (sc A 0 0) 50 a0 a1) 51 a0 a2) 50 t < 6 ∧ ((ui (ui (sc A 0 0) 50 a0 a1) 51 a0 a2) 50 t ≠ -1 → (u2 (u2 B 814 (40 + a0.toNat) a1) 815 (40 + a0.toNat) a2) 815 (40 + t.toNat) = (ui (ui (sc A 0 0) 50 a0 a1) 51 a0 a2) 51 t) := by
            rw [u2_k (show (814 : Nat) ≠ 815 by decide), ui_k (show (50 : Nat) ≠ 51 by decide)]
            by_cases e5 : t = a0
            · rw [e5, u2_s, ui_s, u2_s, ui_s]; exact ⟨rfl, ha.1, ha.2, fun _ => rfl⟩
            · rw [u2_v (by omega), ui_j e5, u2_v (by omega), ui_j e5, u2_k (show (815 : Nat) ≠ 814 by decide), ui_k (show (51 : Nat) ≠ 50 by decide)]; exact ⟨y32, y33, y34, y35⟩
          refine ⟨y1, y2, y3, y4, y5, y6, y7, y8, y9, y10, y11, y12, y13, y14, y15, y16, y17, y18, y19, y20, y21.trans (wgt_fr (A := A) (A' := ui (ui (sc A 0 0) 50 a0 a1) 51 a0 a2) (fun _ => rfl) (fun _ => rfl) t _).symm, y22, y23, y24, y25, y26, y27, fun n3 => ?_, y29, y30, y31, key.1, key.2.1, key.2.2.1, key.2.2.2, y36⟩
          obtain ⟨w1, w2, w3, w4⟩   := y28 n3
          exact ⟨w1, w2, w3, fun n hn ew => w4 n hn ((wend_fr (A := A) (A' := ui (ui (sc A 0 0) 50 a0 a1) 51 a0 a2) (fun _ => rfl) (fun _ => rfl) t n _ _).symm.trans ew)⟩
      · exact ⟨sc A 0 1, fun Q hQ => m_isStation0 hs (bn_T rfl (by unfold W_X9_await_29 W_X9_await_43; exact bn_F (by show ¬ (1 : Int) = 0; decide) hQ)), pz_thr, rfl, q_station0 hs ⟨Or.inl ⟨rfl, rfl⟩, hR.thr⟩⟩
    by_cases h2 : a1 = -1
    · obtain ⟨A1, k1, k2, k3⟩ := K (by omega)
      exact ⟨A1, fun Q hQ => m_isTrain1 h1 (br_F (by decide) (br_T h2 (k1 Q hQ))), k2, rfl, q_trainOf1 gT h1 (br_T h2 k3)⟩
    · by_cases h3 : 0 ≤ a1 ∧ a1 < 6 ∧ ¬ A 36 a1 = 0
      · obtain ⟨A1, k1, k2, k3⟩ := K (by omega)
        exact ⟨A1, fun Q hQ => m_isTrain1 h1 (br_F (by decide) (br_F h2 (m_isTrain1 h3 (br_F (by decide) (k1 Q hQ))))), k2, rfl, q_trainOf1 gT h1 (br_F h2 (q_reqTrain1 gT h3 k3))⟩
      · exact ⟨sc A 0 1, fun Q hQ => m_isTrain1 h1 (br_F (by decide) (br_F h2 (m_isTrain0 h3 (br_T rfl (by unfold W_X9_await_29 W_X9_await_43; exact bn_F (by show ¬ (1 : Int) = 0; decide) hQ))))), pz_thr, rfl, q_trainOf1 gT h1 (br_F h2 (q_reqTrain0 gT h3 ⟨Or.inl ⟨rfl, rfl⟩, hR.thr⟩))⟩
  · exact ⟨sc A 0 1, fun Q hQ => m_isTrain0 h1 (br_T rfl (by unfold W_X9_await_29 W_X9_await_43; exact bn_F (by show ¬ (1 : Int) = 0; decide) hQ)), pz_thr, rfl, q_trainOf0 gT h1 ⟨Or.inl ⟨rfl, rfl⟩, hR.thr⟩⟩
theorem wgt_rg (A : Il) (t : Int) : ∀ n : Nat, 0 ≤ wgt A t n ∧ wgt A t n ≤ 5 * (n : Int)
  | 0 => ⟨Int.le_refl _, Int.le_refl _⟩
  | n + 1 => by
    have h := wgt_rg A t n
    show 0 ≤ wgt A t n + _ ∧ wgt A t n + _ ≤ 5 * ((n + 1 : Nat) : Int)
    split <;> omega
theorem wgt_s {t z : Int} {n : Nat} (h : (if A 33 (A 43 (10 * t + (n : Int))) = -1 then (2 : Int) else 5) = z) : wgt A t (n + 1) = wgt A t n + z := by
  rw [← h]
  rfl
theorem m_weight_go {t : Int} {N : Nat} {Q : Int → Prop} (h0 : 0 ≤ t) (h1 : t < 6) (hN : A 44 t = (N : Int)) (hN2 : N ≤ 10) (hc : ∀ j : Int, 0 ≤ j → j < A 44 t → 0 ≤ A 43 (10 * t + j) ∧ A 43 (10 * t + j) < 20) (h : Q (wgt A t N)) : ∀ k n : Nat, n + k = N → W_X9_weight_7 (k + 1) t (wgt A t n) (10 * t + (n : Int)) A Q
  | 0, n, e => by
    have e' : n = N := by omega
    subst e'
    refine ⟨h0, h1, br_T ?_ h⟩
    rw [w32_id (z := 10 * t) (by unfold rg; omega), hN, w32_id (by unfold rg; omega)]
    omega
  | k + 1, n, e => by
    have hn := wgt_rg A t n
    have c := hc (n : Int) (by omega) (by omega)
    have ih := m_weight_go h0 h1 hN hN2 hc h k (n + 1) (by omega)
    have go : ∀ z : Int, wgt A t (n + 1) = wgt A t n + z → (z = 2 ∨ z = 5) → W_X9_weight_43 (fun y0 y1 y2 => W_X9_weight_7 (k + 1) y0 y1 y2 A Q) t (10 * t + (n : Int)) z (wgt A t n) A Q := by
      intro z ez hz
      show W_X9_weight_7 (k + 1) t (w32 (wgt A t n + z)) (w32 (10 * t + (n : Int) + 1)) A Q
      have e1 : w32 (10 * t + (n : Int) + 1) = 10 * t + ((n + 1 : Nat) : Int) := by
        rw [w32_id (by unfold rg; omega)]
        omega
      rw [e1, w32_id (by unfold rg; omega), ← ez]
      exact ih
    refine ⟨h0, h1, br_F ?_ ⟨by omega, by omega, c.1, c.2, ?_⟩⟩
    · rw [w32_id (z := 10 * t) (by unfold rg; omega), hN, w32_id (by unfold rg; omega)]
      omega
    · by_cases c1 : A 33 (A 43 (10 * t + (n : Int))) = -1
      · exact bn_T c1 (go 2 (wgt_s (if_pos c1)) (Or.inl rfl))
      · exact bn_F c1 (go 5 (wgt_s (if_neg c1)) (Or.inr rfl))
theorem m_weight {t : Int} {Q : Int → Prop} (h0 : 0 ≤ t) (h1 : t < 6) (hN : 0 ≤ A 44 t ∧ A 44 t ≤ 10) (hc : ∀ j : Int, 0 ≤ j → j < A 44 t → 0 ≤ A 43 (10 * t + j) ∧ A 43 (10 * t + j) < 20) (h : Q (wgt A t (A 44 t).toNat)) : W_X9_weight t A Q := by
  have w := m_weight_go (N := (A 44 t).toNat) h0 h1 (by omega) (by omega) hc h _ 0 (Nat.zero_add _)
  refine ⟨(A 44 t).toNat + 1, ?_⟩
  rw [w32_id (by unfold rg; omega)]
  have e : 10 * t + ((0 : Nat) : Int) = 10 * t := by omega
  rw [e] at w
  exact w
set_option maxHeartbeats 1000000 in
theorem sim_train {a0 a1 : Int} (hR : Rep c LN B E A) (hp : pz A ≤ 1022) (hr0 : rg a0) (hr1 : rg a1) : ∃ (ans : Int) (A' : Il), (∀ Q, Q ans A' → W_X9_train a0 a1 A Q) ∧ pz A' ≤ pz A + 2 ∧ W_X8_train c LN 0 a0 a1 B E (fun z => A' 0 0 = 0 ∧ z = ans ∧ Rep c LN B E A') (fun X9 B' E' => ((X9 = "java/lang/IndexOutOfBoundsException" ∧ A' 0 0 = 1)) ∧ Rep c LN B' E' A') := by
  obtain ⟨gG, gS, gB, g0, gH, gE, gC, gN, gK, gL, gR, gD, gY, gU, gW, gP, gT, gX, gZ⟩ := id hR
  by_cases h1 : 0 ≤ a0 ∧ a0 < 6 ∧ ¬ A 36 a0 = 0
  · have hk := kdtr (c := c) (v := 40 + a0.toNat) (by omega) (by omega)
    obtain ⟨t1, t2, t3, t4, t5⟩ := gT a0 h1.1 h1.2.1
    have h36 : A 36 a0 = 1 := by omega
    obtain ⟨y1, y2, y3, y4, y5, y6, y7, y8, y9, y10, y11, y12, y13, y14, y15, y16, y17, y18, y19, y20, y21, y22, y23, y24, y25, y26, y27, y28, y29, y30, y31, y32, y33, y34, y35, y36⟩ := t5 h36
    obtain ⟨-, ru⟩ := gU a0 h1.1 h1.2.1
    obtain ⟨ru1, ru2⟩ := ru h36
    have k29 := gK.1
    by_cases h2 : 0 ≤ a1 ∧ a1 < 7
    · have hj : a1 = 0 ∨ a1 = 1 ∨ a1 = 2 ∨ a1 = 3 ∨ a1 = 4 ∨ a1 = 5 ∨ a1 = 6 := by omega
      have M : ∀ (ans : Int), (∀ Q : Int → Il → Prop, Q ans (sc A 0 0) → W_X9_train_24 a0 a1 0 A Q) → ∀ Q : Int → Il → Prop, Q ans (sc A 0 0) → W_X9_train a0 a1 A Q := fun ans w Q hQ => m_isTrain1 h1 (br_F (by decide) (m_in1 (by omega) (br_F (by decide) (w Q hQ))))
      rcases hj with rfl | rfl | rfl | rfl | rfl | rfl | rfl
      · exact ⟨A 39 a0, sc A 0 0, M _ (fun Q hQ => br_T le0 ⟨fun _ => ⟨h1.1, h1.2.1, hQ⟩, fun e => absurd e (by decide), fun e => absurd e (by decide), fun e => absurd e (by decide), fun e => absurd e (by decide), fun e => absurd e (by decide), fun e => absurd e (by decide)⟩), pz_thr, rfl, q_trainOf1 gT h1 (q_index1 (by decide) ⟨fun _ => ⟨hk, rfl, y1, hR.thr⟩, fun e => absurd e (by decide), fun e => absurd e (by decide), fun e => absurd e (by decide), fun e => absurd e (by decide), fun e => absurd e (by decide), fun e => absurd e (by decide)⟩)⟩
      · by_cases cd : A 39 a0 = 3
        · exact ⟨-1, sc A 0 0, M _ (fun Q hQ => br_T le0 ⟨fun e => absurd e (by decide), fun _ => ⟨h1.1, h1.2.1, bn_T cd hQ⟩, fun e => absurd e (by decide), fun e => absurd e (by decide), fun e => absurd e (by decide), fun e => absurd e (by decide), fun e => absurd e (by decide)⟩), pz_thr, rfl, q_trainOf1 gT h1 (q_index1 (by decide) ⟨fun e => absurd e (by decide), fun _ => ⟨hk, rfl, by rw [y13, if_pos cd], hR.thr⟩, fun e => absurd e (by decide), fun e => absurd e (by decide), fun e => absurd e (by decide), fun e => absurd e (by decide), fun e => absurd e (by decide)⟩)⟩
        · exact ⟨A 40 a0, sc A 0 0, M _ (fun Q hQ => br_T le0 ⟨fun e => absurd e (by decide), fun _ => ⟨h1.1, h1.2.1, bn_F cd ⟨h1.1, h1.2.1, hQ⟩⟩, fun e => absurd e (by decide), fun e => absurd e (by decide), fun e => absurd e (by decide), fun e => absurd e (by decide), fun e => absurd e (by decide)⟩), pz_thr, rfl, q_trainOf1 gT h1 (q_index1 (by decide) ⟨fun e => absurd e (by decide), fun _ => ⟨hk, rfl, by rw [y13, if_neg cd], hR.thr⟩, fun e => absurd e (by decide), fun e => absurd e (by decide), fun e => absurd e (by decide), fun e => absurd e (by decide), fun e => absurd e (by decide)⟩)⟩
      · exact ⟨A 41 a0, sc A 0 0, M _ (fun Q hQ => br_T le0 ⟨fun e => absurd e (by decide), fun e => absurd e (by decide), fun _ => ⟨h1.1, h1.2.1, hQ⟩, fun e => absurd e (by decide), fun e => absurd e (by decide), fun e => absurd e (by decide), fun e => absurd e (by decide)⟩), pz_thr, rfl, q_trainOf1 gT h1 (q_index1 (by decide) ⟨fun e => absurd e (by decide), fun e => absurd e (by decide), fun _ => ⟨hk, rfl, y16, hR.thr⟩, fun e => absurd e (by decide), fun e => absurd e (by decide), fun e => absurd e (by decide), fun e => absurd e (by decide)⟩)⟩
      · exact ⟨wgt (sc A 0 0) a0 (sc A 0 0 44 a0).toNat, sc A 0 0, M _ (fun Q hQ => br_T le0 ⟨fun e => absurd e (by decide), fun e => absurd e (by decide), fun e => absurd e (by decide), fun _ => m_weight (A := sc A 0 0) h1.1 h1.2.1 ⟨y22, y23⟩ (fun j j0 j1 => ⟨(ru2 j j0 j1).1, Int.lt_of_lt_of_le (ru2 j j0 j1).2.1 (by omega)⟩) hQ, fun e => absurd e (by decide), fun e => absurd e (by decide), fun e => absurd e (by decide)⟩), pz_thr, rfl, q_trainOf1 gT h1 (q_index1 (by decide) ⟨fun e => absurd e (by decide), fun e => absurd e (by decide), fun e => absurd e (by decide), fun _ => ⟨hk, rfl, y21.trans (wgt_fr (A := A) (A' := sc A 0 0) (fun _ => rfl) (fun _ => rfl) a0 _).symm, hR.thr⟩, fun e => absurd e (by decide), fun e => absurd e (by decide), fun e => absurd e (by decide)⟩)⟩
      · exact ⟨A 44 a0, sc A 0 0, M _ (fun Q hQ => br_T le0 ⟨fun e => absurd e (by decide), fun e => absurd e (by decide), fun e => absurd e (by decide), fun e => absurd e (by decide), fun _ => ⟨h1.1, h1.2.1, hQ⟩, fun e => absurd e (by decide), fun e => absurd e (by decide)⟩), pz_thr, rfl, q_trainOf1 gT h1 (q_index1 (by decide) ⟨fun e => absurd e (by decide), fun e => absurd e (by decide), fun e => absurd e (by decide), fun e => absurd e (by decide), fun _ => ⟨hk, kdtc (by omega) (by omega), rfl, (congrArg (B 601) (show 40 + a0.toNat + 10 = 50 + a0.toNat by omega)).trans ru1.1, hR.thr⟩, fun e => absurd e (by decide), fun e => absurd e (by decide)⟩)⟩
      · by_cases cd : A 39 a0 = 3
        · exact ⟨w32 (A 47 a0 - A 46 a0), sc A 0 0, M _ (fun Q hQ => br_T le0 ⟨fun e => absurd e (by decide), fun e => absurd e (by decide), fun e => absurd e (by decide), fun e => absurd e (by decide), fun e => absurd e (by decide), fun _ => ⟨h1.1, h1.2.1, h1.1, h1.2.1, hQ⟩, fun e => absurd e (by decide)⟩), pz_thr, rfl, q_trainOf1 gT h1 (q_index1 (by decide) ⟨fun e => absurd e (by decide), fun e => absurd e (by decide), fun e => absurd e (by decide), fun e => absurd e (by decide), fun e => absurd e (by decide), fun _ => ⟨hk, kdtw (by omega) (by omega), rfl, by rw [show 40 + a0.toNat + 20 = 60 + a0.toNat by omega, (y27 cd).1, (y27 cd).2.1, (y27 cd).2.2, Int.sub_self, Int.sub_self], hR.thr⟩, fun e => absurd e (by decide)⟩)⟩
        · exact ⟨w32 (A 47 a0 - A 46 a0), sc A 0 0, M _ (fun Q hQ => br_T le0 ⟨fun e => absurd e (by decide), fun e => absurd e (by decide), fun e => absurd e (by decide), fun e => absurd e (by decide), fun e => absurd e (by decide), fun _ => ⟨h1.1, h1.2.1, h1.1, h1.2.1, hQ⟩, fun e => absurd e (by decide)⟩), pz_thr, rfl, q_trainOf1 gT h1 (q_index1 (by decide) ⟨fun e => absurd e (by decide), fun e => absurd e (by decide), fun e => absurd e (by decide), fun e => absurd e (by decide), fun e => absurd e (by decide), fun _ => ⟨hk, kdtw (by omega) (by omega), rfl, by rw [show 40 + a0.toNat + 20 = 60 + a0.toNat by omega, (y28 cd).1.1, (y28 cd).2.1], hR.thr⟩, fun e => absurd e (by decide)⟩)⟩
      · by_cases cd : A 39 a0 = 2
        · exact ⟨A 42 a0, sc A 0 0, M _ (fun Q hQ => br_T le0 ⟨fun e => absurd e (by decide), fun e => absurd e (by decide), fun e => absurd e (by decide), fun e => absurd e (by decide), fun e => absurd e (by decide), fun e => absurd e (by decide), fun _ => ⟨h1.1, h1.2.1, bn_T cd ⟨h1.1, h1.2.1, hQ⟩⟩⟩), pz_thr, rfl, q_trainOf1 gT h1 (q_index1 (by decide) ⟨fun e => absurd e (by decide), fun e => absurd e (by decide), fun e => absurd e (by decide), fun e => absurd e (by decide), fun e => absurd e (by decide), fun e => absurd e (by decide), fun _ => ⟨hk, bn_T (by rw [y1]; exact cd) ⟨rfl, (y20 cd).1, hR.thr⟩⟩⟩)⟩
        · exact ⟨-1, sc A 0 0, M _ (fun Q hQ => br_T le0 ⟨fun e => absurd e (by decide), fun e => absurd e (by decide), fun e => absurd e (by decide), fun e => absurd e (by decide), fun e => absurd e (by decide), fun e => absurd e (by decide), fun _ => ⟨h1.1, h1.2.1, bn_F cd hQ⟩⟩), pz_thr, rfl, q_trainOf1 gT h1 (q_index1 (by decide) ⟨fun e => absurd e (by decide), fun e => absurd e (by decide), fun e => absurd e (by decide), fun e => absurd e (by decide), fun e => absurd e (by decide), fun e => absurd e (by decide), fun _ => ⟨hk, bn_F (by rw [y1]; exact cd) ⟨rfl, rfl, hR.thr⟩⟩⟩)⟩
    · exact ⟨0, sc A 0 1, fun Q hQ => m_isTrain1 h1 (br_F (by decide) (m_in0 (by omega) (br_T rfl (by unfold W_X9_train_23; exact br_F no1 hQ)))), pz_thr, rfl, q_trainOf1 gT h1 (q_index0 h2 ⟨⟨rfl, rfl⟩, hR.thr⟩)⟩
  · exact ⟨0, sc A 0 1, fun Q hQ => m_isTrain0 h1 (br_T rfl (by unfold W_X9_train_23; exact br_F no1 hQ)), pz_thr, rfl, q_trainOf0 gT h1 ⟨⟨rfl, rfl⟩, hR.thr⟩⟩
theorem ue_k {E : El} {a a' : Nat ⊕ Nat} {i z j : Int} (h : a' ≠ a) : ue E a i z a' j = E a' j := if_neg (fun w => h w.1)
theorem ue_s {E : El} {a : Nat ⊕ Nat} {i z : Int} : ue E a i z a i = z := if_pos ⟨rfl, rfl⟩
theorem ue_j {E : El} {a : Nat ⊕ Nat} {i z j : Int} (h : j ≠ i) : ue E a i z a j = E a j := if_neg (fun w => h w.2)
set_option maxHeartbeats 1000000 in
theorem sim_rate {a0 a1 a2 a3 : Int} (hR : Rep c LN B E A) (hp : pz A ≤ 1022) (hr0 : rg a0) (hr1 : rg a1) (hr3 : rg a3) (hb2 : a2 = 0 ∨ a2 = 1) : ∃ (ans : Int) (A' : Il), (∀ Q, Q ans A' → W_X9_rate a0 a1 a2 a3 A Q) ∧ pz A' ≤ pz A + 2 ∧ W_X8_rate c LN 0 a0 a1 a2 a3 B E (fun z B' E' => A' 0 0 = 0 ∧ z = ans ∧ Rep c LN B' E' A') (fun X9 B' E' => ((X9 = "java/lang/IndexOutOfBoundsException" ∧ A' 0 0 = 1) ∨ (X9 = "java/lang/IllegalArgumentException" ∧ A' 0 0 = 2)) ∧ Rep c LN B' E' A') := by
  obtain ⟨gG, gS, gB, g0, gH, gE, gC, gN, gK, gL, gR, gD, gY, gU, gW, gP, gT, gX, gZ⟩ := id hR
  by_cases hx : 0 ≤ a0 ∧ a0 < 8
  · by_cases hy : 0 ≤ a1 ∧ a1 < 8
    · by_cases hz : 1 ≤ a3 ∧ a3 ≤ 999
      · have e1 : w32 (8 * a0) = 8 * a0 := w32_id (by unfold rg; omega)
        have e2 : w32 (0 + 8 * a0) = 8 * a0 := by rw [w32_id (by unfold rg; omega)]; omega
        have e3 : w32 (8 * a0 + a1) = 8 * a0 + a1 := w32_id (by unfold rg; omega)
        have e4 : w32 (64 + 8 * a0) = 64 + 8 * a0 := w32_id (by unfold rg; omega)
        have e5 : w32 (64 + 8 * a0 + a1) = 64 + (8 * a0 + a1) := by rw [w32_id (by unfold rg; omega)]; omega
        by_cases h3 : a2 = 0
        · refine ⟨A 59 (8 * a0 + a1), ui (sc A 0 0) 59 (8 * a0 + a1) a3, fun Q hQ => m_isStation1 hx (br_F (by decide) (m_isStation1 hy (bn_F (by decide) (m_in1 hz (bn_F (by decide) ?_))))), pz_fr ((ui_k (by decide)).trans ((sc_k (by decide)).trans (rfl))) (fun _ => (ui_k (by decide)).trans ((sc_k (by decide)).trans (rfl))) (fun _ => (ui_k (by decide)).trans ((sc_k (by decide)).trans (rfl))), rfl, q_station1 hx (q_station1 hy (q_range1 hz ?_))⟩
          · unfold W_X9_rate_36 W_X9_rate_58
            refine br_T le0 (br_T h3 ?_)
            rw [e1, e2, e3]
            exact ⟨by omega, by omega, by omega, by omega, hQ⟩
          · refine br_T h3 ?_
            unfold W_X8_rate_34
            rw [e1, e3]
            refine ⟨rfl, by omega, (by show 8 * a0 + a1 < 64; omega), by omega, (by show 8 * a0 + a1 < 64; omega), rfl, (gR (8 * a0 + a1) (by omega) (by omega)).1, ?_⟩
            refine ⟨gG.fr (fun _ _ _ => rfl) (fun a j h => (ui_k (by omega)).trans ((sc_k (by omega)).trans (rfl))), gS.fr (fun _ _ _ => rfl) (fun a j h => (ui_k (by omega)).trans ((sc_k (by omega)).trans (rfl))), gB.fr (fun _ _ _ => rfl) (fun a j h => (ui_k (by omega)).trans ((sc_k (by omega)).trans (rfl))), g0.fr (fun a j h => (ui_k (by omega)).trans ((sc_k (by omega)).trans (rfl))), gH.fr (fun _ _ _ => rfl) (fun a j h => (ui_k (by omega)).trans ((sc_k (by omega)).trans (rfl))), gE.fr (fun _ _ _ => rfl) (fun a j h => (ui_k (by omega)).trans ((sc_k (by omega)).trans (rfl))), gC.fr (fun _ _ _ => rfl) (fun a j h => (ui_k (by omega)).trans ((sc_k (by omega)).trans (rfl))), gN.fr (fun _ _ _ => rfl) (fun a j h => (ui_k (by omega)).trans ((sc_k (by omega)).trans (rfl))), gK.fr (fun _ _ _ => rfl) (fun a j h => (ui_k (by omega)).trans ((sc_k (by omega)).trans (rfl))), gL.fr (fun _ _ _ => rfl) (fun a j h => (ui_k (by omega)).trans ((sc_k (by omega)).trans (rfl))), fun j j0 j1 => ?_, gD.fr (fun _ _ _ => rfl) (fun v j => ue_k (by intro w; cases w)) (fun a j h => (ui_k (by omega)).trans ((sc_k (by omega)).trans (rfl))), gY.fr (fun _ _ _ => rfl) (fun v j => ue_k (by intro w; cases w)) (fun a j h => (ui_k (by omega)).trans ((sc_k (by omega)).trans (rfl))), gU.fr (fun _ _ _ => rfl) (fun v j => ue_k (by intro w; cases w)) (fun a j h => (ui_k (by omega)).trans ((sc_k (by omega)).trans (rfl))), gW.fr (fun a j h => (ui_k (by omega)).trans ((sc_k (by omega)).trans (rfl))), gP.fr (fun _ _ _ => rfl) (fun v j => ue_k (by intro w; cases w)) (fun a j h => (ui_k (by omega)).trans ((sc_k (by omega)).trans (rfl))), gT.fr (fun _ _ _ => rfl) (fun v j => ue_k (by intro w; cases w)) (fun t j => ue_k (by intro w; injection w with w; omega)) (fun a j h => (ui_k (by omega)).trans ((sc_k (by omega)).trans (rfl))), gX.fr (fun a j h => (ui_k (by omega)).trans ((sc_k (by omega)).trans (rfl))), gZ.fr (fun a j h => (ui_k (by omega)).trans ((sc_k (by omega)).trans (rfl)))⟩
            obtain ⟨r1, r2, r3, r4, r5, r6⟩ := gR j j0 j1
            by_cases ej : j = 8 * a0 + a1
            · subst ej
              refine ⟨ue_s.trans ui_s.symm, (ue_k (by intro w; cases w)).trans (r2.trans ((ui_j (by omega)).trans (sc_k (by decide))).symm), ?_⟩
              rw [ui_s, ui_j (by omega)]
              exact ⟨hz.1, hz.2, r5, r6⟩
            · refine ⟨(ue_j ej).trans (r1.trans ((ui_j ej).trans (sc_k (by decide))).symm), (ue_k (by intro w; cases w)).trans (r2.trans ((ui_j (by omega)).trans (sc_k (by decide))).symm), ?_⟩
              rw [ui_j ej, ui_j (by omega)]
              exact ⟨r3, r4, r5, r6⟩
        · refine ⟨A 59 (64 + (8 * a0 + a1)), ui (sc A 0 0) 59 (64 + (8 * a0 + a1)) a3, fun Q hQ => m_isStation1 hx (br_F (by decide) (m_isStation1 hy (bn_F (by decide) (m_in1 hz (bn_F (by decide) ?_))))), pz_fr ((ui_k (by decide)).trans ((sc_k (by decide)).trans (rfl))) (fun _ => (ui_k (by decide)).trans ((sc_k (by decide)).trans (rfl))) (fun _ => (ui_k (by decide)).trans ((sc_k (by decide)).trans (rfl))), rfl, q_station1 hx (q_station1 hy (q_range1 hz ?_))⟩
          · unfold W_X9_rate_36 W_X9_rate_58
            refine br_T le0 (br_F h3 ?_)
            rw [e1, e4, e5]
            exact ⟨by omega, by omega, by omega, by omega, hQ⟩
          · refine br_F h3 ?_
            unfold W_X8_rate_34
            rw [e1, e3]
            refine ⟨rfl, by omega, (by show 8 * a0 + a1 < 64; omega), by omega, (by show 8 * a0 + a1 < 64; omega), rfl, (gR (8 * a0 + a1) (by omega) (by omega)).2.1, ?_⟩
            refine ⟨gG.fr (fun _ _ _ => rfl) (fun a j h => (ui_k (by omega)).trans ((sc_k (by omega)).trans (rfl))), gS.fr (fun _ _ _ => rfl) (fun a j h => (ui_k (by omega)).trans ((sc_k (by omega)).trans (rfl))), gB.fr (fun _ _ _ => rfl) (fun a j h => (ui_k (by omega)).trans ((sc_k (by omega)).trans (rfl))), g0.fr (fun a j h => (ui_k (by omega)).trans ((sc_k (by omega)).trans (rfl))), gH.fr (fun _ _ _ => rfl) (fun a j h => (ui_k (by omega)).trans ((sc_k (by omega)).trans (rfl))), gE.fr (fun _ _ _ => rfl) (fun a j h => (ui_k (by omega)).trans ((sc_k (by omega)).trans (rfl))), gC.fr (fun _ _ _ => rfl) (fun a j h => (ui_k (by omega)).trans ((sc_k (by omega)).trans (rfl))), gN.fr (fun _ _ _ => rfl) (fun a j h => (ui_k (by omega)).trans ((sc_k (by omega)).trans (rfl))), gK.fr (fun _ _ _ => rfl) (fun a j h => (ui_k (by omega)).trans ((sc_k (by omega)).trans (rfl))), gL.fr (fun _ _ _ => rfl) (fun a j h => (ui_k (by omega)).trans ((sc_k (by omega)).trans (rfl))), fun j j0 j1 => ?_, gD.fr (fun _ _ _ => rfl) (fun v j => ue_k (by intro w; cases w)) (fun a j h => (ui_k (by omega)).trans ((sc_k (by omega)).trans (rfl))), gY.fr (fun _ _ _ => rfl) (fun v j => ue_k (by intro w; cases w)) (fun a j h => (ui_k (by omega)).trans ((sc_k (by omega)).trans (rfl))), gU.fr (fun _ _ _ => rfl) (fun v j => ue_k (by intro w; cases w)) (fun a j h => (ui_k (by omega)).trans ((sc_k (by omega)).trans (rfl))), gW.fr (fun a j h => (ui_k (by omega)).trans ((sc_k (by omega)).trans (rfl))), gP.fr (fun _ _ _ => rfl) (fun v j => ue_k (by intro w; cases w)) (fun a j h => (ui_k (by omega)).trans ((sc_k (by omega)).trans (rfl))), gT.fr (fun _ _ _ => rfl) (fun v j => ue_k (by intro w; cases w)) (fun t j => ue_k (by intro w; injection w with w; omega)) (fun a j h => (ui_k (by omega)).trans ((sc_k (by omega)).trans (rfl))), gX.fr (fun a j h => (ui_k (by omega)).trans ((sc_k (by omega)).trans (rfl))), gZ.fr (fun a j h => (ui_k (by omega)).trans ((sc_k (by omega)).trans (rfl)))⟩
            obtain ⟨r1, r2, r3, r4, r5, r6⟩ := gR j j0 j1
            by_cases ej : j = 8 * a0 + a1
            · subst ej
              refine ⟨(ue_k (by intro w; cases w)).trans (r1.trans ((ui_j (by omega)).trans (sc_k (by decide))).symm), ue_s.trans ui_s.symm, ?_⟩
              rw [ui_s, ui_j (by omega)]
              exact ⟨r3, r4, hz.1, hz.2⟩
            · refine ⟨(ue_k (by intro w; cases w)).trans (r1.trans ((ui_j (by omega)).trans (sc_k (by decide))).symm), (ue_j ej).trans (r2.trans ((ui_j (by omega)).trans (sc_k (by decide))).symm), ?_⟩
              rw [ui_j (by omega), ui_j (by omega)]
              exact ⟨r3, r4, r5, r6⟩
      · exact ⟨0, sc A 0 2, fun Q hQ => m_isStation1 hx (br_F (by decide) (m_isStation1 hy (bn_F (by decide) (m_in0 hz (bn_T rfl (by unfold W_X9_rate_36; exact br_F no2 hQ)))))), pz_thr, rfl, q_station1 hx (q_station1 hy (q_range0 hz ⟨Or.inr ⟨rfl, rfl⟩, hR.thr⟩))⟩
    · exact ⟨0, sc A 0 1, fun Q hQ => m_isStation1 hx (br_F (by decide) (m_isStation0 hy (bn_T rfl (by unfold W_X9_rate_15 W_X9_rate_36; exact br_F no1 hQ)))), pz_thr, rfl, q_station1 hx (q_station0 hy ⟨Or.inl ⟨rfl, rfl⟩, hR.thr⟩)⟩
  · exact ⟨0, sc A 0 1, fun Q hQ => m_isStation0 hx (br_T rfl (by unfold W_X9_rate_15 W_X9_rate_36; exact br_F no1 hQ)), pz_thr, rfl, q_station0 hx ⟨Or.inl ⟨rfl, rfl⟩, hR.thr⟩⟩
end More
