/-! the simulations of couple, uncouple -/
section CplS
variable {c LN : Nat → Nat} {B : Fl} {E : El} {A : Il}
theorem wgt_rg2 (A : Il) (t : Int) : ∀ n : Nat, 0 ≤ wgt A t n ∧ wgt A t n ≤ 5 * (n : Int)
  | 0 => ⟨Int.le_refl _, Int.le_refl _⟩
  | n + 1 => by
    have h := wgt_rg2 A t n
    show 0 ≤ wgt A t n + (if _ = -1 then 2 else 5) ∧ wgt A t n + (if _ = -1 then 2 else 5) ≤ 5 * ((n + 1 : Nat) : Int)
    split <;> omega
theorem cw_rg (A : Il) (x : Int) : 2 ≤ cw A x ∧ cw A x ≤ 5 := by
  unfold cw
  split <;> omega
/-- an append that needs no more room -/
theorem q_app {v : Nat} {x n : Int} {Q : (Nat → Nat) → Fl → El → Prop} (hk : kd c v = 6) (hn : B 601 v = n) (h0 : 0 ≤ n) (h1 : n < (LN v : Int)) (hQ : ∀ E' : El, (∀ a, a ≠ .inr v → ∀ j, E' a j = E a j) → (∀ j, 0 ≤ j → j < n → E' (.inr v) j = E (.inr v) j) → E' (.inr v) n = x → Q LN (u2 B 601 v (n + 1)) E') : W_X5_append c v x LN B E Q := by
  subst hn
  refine ⟨hk, h0, by omega, Or.inl h1, fun LN1 E1 x1 x2 x3 x4 x5 x6 => ?_⟩
  have eL : LN1 = LN := by
    funext q
    by_cases eq : q = v
    · rw [eq]; omega
    · exact x1 q eq
  rw [eL]
  exact hQ E1 x4 x5 x6
/-- an append of a paper -/
theorem q_wri {x k z w : Int} {Q : (Nat → Nat) → Fl → El → Prop} (hk : kd c (140 + x.toNat) = 3) (hkp : kd c (160 + x.toNat) = 6) (e : w32 (w32 (100 * k) + w) = z) (hP : 0 ≤ B 601 (160 + x.toNat) ∧ B 601 (160 + x.toNat) ≤ (LN (160 + x.toNat) : Int) ∧ (B 601 (160 + x.toNat) < (LN (160 + x.toNat) : Int) ∨ (1 ≤ LN (160 + x.toNat) ∧ ((160 ≤ 160 + x.toNat ∧ 160 + x.toNat < 180 ∧ LN (160 + x.toNat) ≤ 512) ∨ (30 ≤ 160 + x.toNat ∧ 160 + x.toNat < 38 ∧ LN (160 + x.toNat) ≤ 32)))))
  (hQ : ∀ (LN' : Nat → Nat) (E' : El), (∀ v, v ≠ 160 + x.toNat → LN' v = LN v) → (LN' (160 + x.toNat) = LN (160 + x.toNat) ∨ (LN' (160 + x.toNat) = 2 * LN (160 + x.toNat) ∧ (LN (160 + x.toNat) : Int) ≤ B 601 (160 + x.toNat))) → B 601 (160 + x.toNat) < (LN' (160 + x.toNat) : Int) → (∀ a, a ≠ .inr (160 + x.toNat) → ∀ j, E' a j = E a j) → (∀ j, 0 ≤ j → j < B 601 (160 + x.toNat) → E' (.inr (160 + x.toNat)) j = E (.inr (160 + x.toNat)) j) → E' (.inr (160 + x.toNat)) (B 601 (160 + x.toNat)) = z → Q LN' (u2 B 601 (160 + x.toNat) (B 601 (160 + x.toNat) + 1)) E') : W_X2_write c (140 + x.toNat) k w LN B E Q := by
  have e1 : 140 + x.toNat + 20 = 160 + x.toNat := by omega
  refine ⟨hk, ?_⟩
  rw [e1, e]
  exact ⟨hkp, hkp, hP.1, hP.2.1, hP.2.2, hQ⟩
theorem tz_one {A' : Il} {t d : Int} (t0 : 0 ≤ t) (t1 : t < 6) (h : ∀ q : Int, q ≠ t → tz A' q = tz A q) (ht : tz A' t = tz A t + d) (h60 : A' 60 0 = A 60 0 + 1) (hd : d ≤ 1) : pz A' ≤ pz A + 2 := by
  unfold pz
  have g0 := h 0
  have g1 := h 1
  have g2 := h 2
  have g3 := h 3
  have g4 := h 4
  have g5 := h 5
  have ss : t = 0 ∨ t = 1 ∨ t = 2 ∨ t = 3 ∨ t = 4 ∨ t = 5 := by omega
  rcases ss with e | e | e | e | e | e <;> rw [e] at ht g0 g1 g2 g3 g4 g5 <;> omega
set_option maxHeartbeats 4000000 in
theorem m_couple_end {t x s p : Int} {N : Nat} {Q : Int → Il → Prop} (t0 : 0 ≤ t) (t1 : t < 6) (hx : 0 ≤ x ∧ x < 20) (hs : 0 ≤ s ∧ s < 8) (hN : A 35 s = (N : Int)) (h44 : 0 ≤ A 44 t ∧ A 44 t < 10) (h60 : 0 ≤ A 60 0 ∧ A 60 0 < 3999) (h : Q (A 44 t + 1) (atr (ui (shf A 34 (20 * s) p ((N : Int) - 1)) 35 s ((N : Int) - 1)) t x)) : W_X9_couple_95 1 t x s ((N : Int) - 1) (N : Int) (shf A 34 (20 * s) p ((N : Int) - 1)) Q := by
  have e1 : w32 (10 * t) = 10 * t := w32_id (by unfold rg; omega)
  have e2 : w32 (10 * t + A 44 t) = 10 * t + A 44 t := w32_id (by unfold rg; omega)
  have e3 : w32 (A 44 t + 1) = A 44 t + 1 := w32_id (by unfold rg; omega)
  have e4 : w32 (w32 (100 * 1) + t) = 100 + t := by
    show w32 (100 + t) = _
    exact w32_id (by unfold rg; omega)
  refine ⟨hs.1, hs.2, br_T (by show A 35 s ≤ _; omega) ?_⟩
  show 0 ≤ s ∧ s < 8 ∧ 0 ≤ x ∧ x < 20 ∧ 0 ≤ t ∧ t < 6 ∧ 0 ≤ w32 (w32 (10 * t) + A 44 t) ∧ w32 (w32 (10 * t) + A 44 t) < 60 ∧ 0 ≤ t ∧ t < 6 ∧ 0 ≤ t ∧ t < 6 ∧ W_X9_writes x 1 t (ui (ui (ui (ui (shf A 34 (20 * s) p ((N : Int) - 1)) 35 s ((N : Int) - 1)) 32 x t) 43 (w32 (w32 (10 * t) + A 44 t)) x) 44 t (w32 (A 44 t + 1))) (fun A1 => 0 ≤ t ∧ t < 6 ∧ Q (A1 44 t) A1)
  rw [e1, e2, e3]
  refine ⟨hs.1, hs.2, hx.1, hx.2, t0, t1, by omega, by omega, t0, t1, t0, t1, m_writes h60 e4 ⟨t0, t1, ?_⟩⟩
  have e5 : atr (ui (shf A 34 (20 * s) p ((N : Int) - 1)) 35 s ((N : Int) - 1)) t x 44 t = A 44 t + 1 := (sc_k (by decide)).trans ((ui_k (by decide)).trans ((ui_k (by decide)).trans ui_s))
  rw [← e5] at h
  exact h
set_option maxHeartbeats 4000000 in
theorem m_uncouple_end {t x p s : Int} {N : Nat} {Q : Int → Il → Prop} (t0 : 0 ≤ t) (t1 : t < 6) (hx : 0 ≤ x ∧ x < 20) (hs : 0 ≤ s ∧ s < 8) (h40 : A 40 t = s) (hN : A 44 t = (N : Int)) (h35 : 0 ≤ A 35 s ∧ A 35 s < 20) (h60 : 0 ≤ A 60 0 ∧ A 60 0 < 3999) (h : Q ((N : Int) - 1) (cms (ui (shf A 43 (10 * t) p ((N : Int) - 1)) 44 t ((N : Int) - 1)) x s)) : W_X9_uncouple_61 1 t x ((N : Int) - 1) (N : Int) (shf A 43 (10 * t) p ((N : Int) - 1)) Q := by
  refine ⟨t0, t1, br_T (by show A 44 t ≤ _; omega) ⟨t0, t1, t0, t1, ?_⟩⟩
  show W_X9_comes x (A 40 t) (ui (shf A 43 (10 * t) p ((N : Int) - 1)) 44 t ((N : Int) - 1)) (fun A1 => 0 ≤ t ∧ t < 6 ∧ Q (A1 44 t) A1)
  rw [h40]
  refine m_comes hx hs h35 h60 ⟨t0, t1, ?_⟩
  have e5 : cms (ui (shf A 43 (10 * t) p ((N : Int) - 1)) 44 t ((N : Int) - 1)) x s 44 t = (N : Int) - 1 := (sc_k (by decide)).trans ((ui_k (by decide)).trans ((ui_k (by decide)).trans ((ui_k (by decide)).trans ((ui_k (by decide)).trans ((ui_k (by decide)).trans ((ui_k (by decide)).trans ui_s))))))
  show Q (cms (ui (shf A 43 (10 * t) p ((N : Int) - 1)) 44 t ((N : Int) - 1)) x s 44 t) _
  rw [e5]
  exact h
/-- a yard has room for a car that is nowhere -/
theorem RepV.yroom {X : Int → Prop} {m s : Int} (hR : RepV X m c LN B E A) (hm : 1 ≤ m) (hs : 0 ≤ s ∧ s < 8) : 0 ≤ A 35 s ∧ A 35 s ≤ 19 := by
  obtain ⟨gG, gS, gB, g0, gH, gE, gC, gN, gK, gL, gR, gD, gY, gU, gW, gP, gT, gX, gZ⟩ := id hR
  have k20 := gK.1
  have w : ∀ q : Int, 0 ≤ q → q < 8 → 0 ≤ A 35 q := fun q q0 q1 => (gY q q0 q1).1.2.1
  have w2 : ∀ q : Int, 0 ≤ q → q < 6 → 0 ≤ tz A q := fun q q0 q1 => by
    unfold tz
    split
    · exact ((gU q q0 q1).2 ‹_›).1.2.1
    · exact Int.le_refl _
  have y0 := w 0 (by decide) (by decide)
  have y1 := w 1 (by decide) (by decide)
  have y2 := w 2 (by decide) (by decide)
  have y3 := w 3 (by decide) (by decide)
  have y4 := w 4 (by decide) (by decide)
  have y5 := w 5 (by decide) (by decide)
  have y6 := w 6 (by decide) (by decide)
  have y7 := w 7 (by decide) (by decide)
  have z0 := w2 0 (by decide) (by decide)
  have z1 := w2 1 (by decide) (by decide)
  have z2 := w2 2 (by decide) (by decide)
  have z3 := w2 3 (by decide) (by decide)
  have z4 := w2 4 (by decide) (by decide)
  have z5 := w2 5 (by decide) (by decide)
  unfold RepZx at gZ
  have ss : s = 0 ∨ s = 1 ∨ s = 2 ∨ s = 3 ∨ s = 4 ∨ s = 5 ∨ s = 6 ∨ s = 7 := by omega
  rcases ss with e | e | e | e | e | e | e | e <;> rw [e] <;> omega
set_option maxHeartbeats 4000000 in
theorem sim_couple {a0 a1 : Int} (hR : Rep c LN B E A) (hp : pz A ≤ 1022) (hr0 : rg a0) (hr1 : rg a1) : ∃ (ans : Int) (A' : Il), (∀ Q, Q ans A' → W_X9_couple a0 a1 A Q) ∧ pz A' ≤ pz A + 2 ∧ W_X8_couple c  0 a0 a1 LN B E (fun z LN' B' E' => A' 0 0 = 0 ∧ z = ans ∧ Rep c LN' B' E' A') (fun X9 LN' B' E' => ((X9 = "java/lang/IndexOutOfBoundsException" ∧ A' 0 0 = 1) ∨ (X9 = "java/lang/IllegalStateException" ∧ A' 0 0 = 2)) ∧ Rep c LN' B' E' A') := by
  obtain ⟨gG, gS, gB, g0, gH, gE, gC, gN, gK, gL, gR, gD, gY, gU, gW, gP, gT, gX, gZ⟩ := id hR
  obtain ⟨⟨k1, k2, k3⟩, k4, k5, k6, k7, k8⟩ := id gK
  have h29 : 0 ≤ A 29 0 ∧ A 29 0 ≤ 20 := by omega
  have hpz := pz_ge gT
  have hp0 := gP.1
  by_cases h1 : 0 ≤ a0 ∧ a0 < 6 ∧ ¬ A 36 a0 = 0
  · have hk := kdtr (c := c) (v := 40 + a0.toNat) (by omega) (by omega)
    obtain ⟨t1, t2, t3, t4, t5⟩ := gT a0 h1.1 h1.2.1
    have h36 : A 36 a0 = 1 := by omega
    obtain ⟨y1, y2, y3, y4, y5, y6, y7, y8, y9, y10, y11, y12, y13, y14, y15, y16, y17, y18, y19, y20, y21, y22, y23, -⟩ := t5 h36
    clear t5 y4 y8 y12 y16 y17 y18 y19 y20
    obtain ⟨ru1, ru2⟩ := gU a0 h1.1 h1.2.1
    obtain ⟨ru3, ru4⟩ := ru2 h36
    by_cases hx : 0 ≤ a1 ∧ a1 < A 29 0
    · have hkc := kd11 (c := c) (v := 140 + a1.toNat) (by omega) (by omega) k3
      have hkp := kdp (c := c) (v := 160 + a1.toNat) (by omega) (by omega) k3
      have f1 := k5 a1 hx.1 hx.2
      have f2 := k6 a1 hx.1 hx.2
      have f3 := k7 a1 hx.1 hx.2
      obtain ⟨v1, v2, v3, v4, v5, v6, v7, v8⟩ := k8 a1 hx.1 hx.2
      have e50 : 40 + a0.toNat + 10 = 50 + a0.toNat := by omega
      by_cases can : (A 39 a0 = 0 ∨ A 39 a0 = 1) ∧ ¬ A 44 a0 = 10 ∧ A 32 a1 = -1 ∧ A 31 a1 = A 40 a0
      · obtain ⟨g1, g2, g3, g4⟩ := can
        have r805 : B 805 (40 + a0.toNat) = A 40 a0 := y13.trans (if_neg (by omega))
        obtain ⟨p, p0, p1, p2⟩ := (gW a1 hx.1 hx.2).1 g3
        obtain ⟨yy1, yy2, yy3, yy4⟩ := gY (A 31 a1) v3 v4
        obtain ⟨N, eN⟩ := Int.eq_ofNat_of_zero_le yy1.2.1
        obtain ⟨w1, w2, w3, w4, w5⟩ := yy4 p p0 p1
        have un : ∀ j : Int, 0 ≤ j → j < A 35 (A 31 a1) → j ≠ p → A 34 (20 * A 31 a1 + j) ≠ a1 := fun j j0 j1 nj e => nj (w5 j j0 j1 (e.trans p2.symm))
        have hA0 : Rep c LN B E (sc A 0 0) := hR.thr
        refine ⟨A 44 a0 + 1, atr (ui (shf (sc A 0 0) 34 (20 * A 31 a1) p (A 35 (A 31 a1) - 1)) 35 (A 31 a1) (A 35 (A 31 a1) - 1)) a0 a1, fun Q hQ => ?_, ?_, rfl, q_trainOf1 gT h1 (q_carOf1 gK hx ⟨hk, q_X7stands gT h1.1 h1.2.1 h36 ?_⟩)⟩
        · refine m_isTrain1 h1 (br_F (by decide) (m_isCar1 h29 hx (bn_F (by decide) (m_stands ⟨h1.1, h1.2.1⟩ ?_))))
          rw [if_pos g1]
          refine br_F (by decide) ⟨h1.1, h1.2.1, br_F g2 ⟨hx.1, by omega, bn_T g3 ⟨hx.1, by omega, h1.1, h1.2.1, br_T g4 ?_⟩⟩⟩
          unfold W_X9_couple_70
          refine br_T le0 ⟨h1.1, h1.2.1, N + 1, ?_⟩
          show W_X9_couple_95 (N + 1) a0 a1 (A 40 a0) 0 0 (sc A 0 0) Q
          rw [← g4]
          rw [eN] at hQ
          exact m_cpl_go1 (A := sc A 0 0) (t := a0) (x := a1) (s := A 31 a1) (p := p) (N := N) ⟨v3, v4⟩ eN (by omega) p0 (by omega) p2 (fun j j0 j1 nj => un j j0 (by omega) nj) (m_couple_end (A := sc A 0 0) h1.1 h1.2.1 ⟨hx.1, by omega⟩ ⟨v3, v4⟩ eN ⟨y22, by show A 44 a0 < 10; omega⟩ ⟨hp0, by show A 60 0 < 3999; omega⟩ hQ) N 0 (Nat.zero_add _) p0
        · refine tz_one (t := a0) (d := 1) h1.1 h1.2.1 (fun q nq => ?_) ?_ ?_ (by decide)
          · unfold tz
            have e1 : atr (ui (shf (sc A 0 0) 34 (20 * A 31 a1) p (A 35 (A 31 a1) - 1)) 35 (A 31 a1) (A 35 (A 31 a1) - 1)) a0 a1 44 q = A 44 q := (sc_k (by decide)).trans ((ui_k (by decide)).trans ((ui_k (by decide)).trans ((ui_j nq).trans rfl)))
            rw [e1]
            rfl
          · unfold tz
            have e1 : atr (ui (shf (sc A 0 0) 34 (20 * A 31 a1) p (A 35 (A 31 a1) - 1)) 35 (A 31 a1) (A 35 (A 31 a1) - 1)) a0 a1 44 a0 = A 44 a0 + 1 := (sc_k (by decide)).trans ((ui_k (by decide)).trans ((ui_k (by decide)).trans ui_s))
            have e2 : atr (ui (shf (sc A 0 0) 34 (20 * A 31 a1) p (A 35 (A 31 a1) - 1)) 35 (A 31 a1) (A 35 (A 31 a1) - 1)) a0 a1 36 a0 = A 36 a0 := rfl
            rw [e1, e2, if_pos h36, if_pos h36]
          · exact sc_s
        · rw [if_pos g1]
          refine br_F (by decide) ⟨kdtc (by omega) (by omega), br_F (by rw [e50, ru3.1]; omega) ?_⟩
          unfold W_X8_couple_37
          refine q_state1 ⟨hkc, bn_T (by rw [f2]; exact g3) ⟨hk, bn_T (by rw [f1, r805]; exact g4) ?_⟩⟩
          unfold W_X8_couple_66
          refine q_state1 ⟨hkc, rfl, ?_⟩
          rw [f1]
          have e30 : 20 + (A 31 a1).toNat + 10 = 30 + (A 31 a1).toNat := by omega
          refine q_stationOf1 ⟨v3, v4⟩ ⟨kdst (by omega) (by omega), kdyd (by omega) (by omega), ?_⟩
          rw [e30]
          refine q_drop (p := p) (kdyd (by omega) (by omega)) yy1 (by omega) p0 p1 p2 (fun q q0 q1 => un q q0 (by omega) (by omega)) (fun E1 i1 i2 => ⟨hk, by rw [e50]; exact kdtc (by omega) (by omega), ?_⟩)
          rw [e50]
          obtain ⟨hV, hny⟩ := yd_rep (c := c) (LN := LN) (B := B) (B' := u2 B 601 (30 + (A 31 a1).toNat) (A 35 (A 31 a1) - 1)) (E := E) (E' := E1) (A := sc A 0 0) (x := a1) (p := p) (N := A 35 (A 31 a1)) (s := A 31 a1) hA0 ⟨v3, v4⟩ rfl p0 p1 p2 (fun q v h => u2_k h) ⟨u2_s, fun v h => u2_v h⟩ (fun v h => i1 _ (by intro w; injection w with w; exact h w)) (fun v => i1 _ (by intro w; cases w)) i2 rfl
          have rb : u2 B 601 (30 + (A 31 a1).toNat) (A 35 (A 31 a1) - 1) 601 (50 + a0.toNat) = A 44 a0 := (u2_v (by omega)).trans ru3.1
          refine q_app (kdtc (by omega) (by omega)) rb y22 (by omega) (fun E2 j1 j2 j3 => ⟨hk, hkc, q_weight (A := A) hkc (by exact (u2_k (by decide)).trans ((u2_k (by decide)).trans f3)) ?_⟩)
          have r808 : u2 (u2 B 601 (30 + (A 31 a1).toNat) (A 35 (A 31 a1) - 1)) 601 (50 + a0.toNat) (A 44 a0 + 1) 808 (40 + a0.toNat) = B 808 (40 + a0.toNat) := (u2_k (by decide)).trans (u2_k (by decide))
          have wr := wgt_rg2 A a0 (A 44 a0).toNat
          have cr := cw_rg A a1
          rw [r808, w32_id (z := B 808 (40 + a0.toNat) + cw A a1) (by unfold rg; omega)]
          have rp : u2 (u2 (u2 (u2 B 601 (30 + (A 31 a1).toNat) (A 35 (A 31 a1) - 1)) 601 (50 + a0.toNat) (A 44 a0 + 1)) 808 (40 + a0.toNat) (B 808 (40 + a0.toNat) + cw A a1)) 302 (140 + a1.toNat) a0 601 (160 + a1.toNat) = B 601 (160 + a1.toNat) := (u2_k (by decide)).trans ((u2_k (by decide)).trans ((u2_v (by omega)).trans (u2_v (by omega))))
          have hroom := gP.room hx h29.2 (by omega)
          refine q_wri hkc hkp (z := 100 + a0) (by show w32 (100 + a0) = _; exact w32_id (by unfold rg; omega)) (by rw [rp]; exact hroom) (fun LN3 E3 z1 z2 z3 z4 z5 z6 => ⟨hk, kdtc (by omega) (by omega), rfl, ?_, ?_⟩)
          · exact (u2_v (by omega)).trans ((u2_k (by decide)).trans ((u2_k (by decide)).trans u2_s))
          · rw [rp] at z2 z3 z5 z6 ⊢
            have pb : u2 B 601 (30 + (A 31 a1).toNat) (A 35 (A 31 a1) - 1) 601 (160 + a1.toNat) = B 601 (160 + a1.toNat) := u2_v (by omega)
            refine at_rep (B := u2 B 601 (30 + (A 31 a1).toNat) (A 35 (A 31 a1) - 1)) (E := E1) hV rfl h1.1 h1.2.1 h36 g1 hx g3 (by show A 44 a0 < 10; omega) (by show A 60 0 ≤ 1023; omega) hny
              (fun q v h => (u2_k (by omega)).trans ((u2_k (by omega)).trans ((u2_k (by omega)).trans (u2_k (by omega))))) ⟨(u2_k (by decide)).trans u2_s, fun v h => (u2_k (by decide)).trans ((u2_v h).trans ((u2_k (by decide)).trans (u2_k (by decide))))⟩ ⟨(u2_k (by decide)).trans ((u2_k (by decide)).trans (u2_s.trans (congrArg (· + cw A a1) (u2_k (by decide)).symm))), fun v h => (u2_k (by decide)).trans ((u2_k (by decide)).trans ((u2_v h).trans (u2_k (by decide))))⟩
              ⟨u2_s.trans (by rw [pb]), (u2_v (by omega)).trans ((u2_k (by decide)).trans ((u2_k (by decide)).trans u2_s)), fun v h => (u2_v h.1).trans ((u2_k (by decide)).trans ((u2_k (by decide)).trans (u2_v h.2)))⟩ z1 (by rw [pb]; exact z2) (by rw [pb]; exact z3) (fun v h j => (z4 _ (by intro w; injection w with w; exact h.1 w) j).trans (j1 _ (by intro w; injection w with w; exact h.2 w) j)) (fun v j => (z4 _ (by intro w; cases w) j).trans (j1 _ (by intro w; cases w) j)) (fun j q0 q1 => (z5 j q0 (by rw [pb] at q1; exact q1)).trans (j1 _ (by intro w; injection w with w; omega) j)) (by rw [pb]; exact z6) (fun j q0 q1 => (z4 _ (by intro w; injection w with w; omega) j).trans (j2 j q0 q1)) ((z4 _ (by intro w; injection w with w; omega) _).trans j3)
      · refine ⟨0, sc A 0 2, fun Q hQ => ?_, pz_thr, rfl, q_trainOf1 gT h1 (q_carOf1 gK hx ⟨hk, q_X7stands gT h1.1 h1.2.1 h36 ?_⟩)⟩
        · have FF : W_X9_couple_65 a0 a1 A Q := by
            unfold W_X9_couple_65 W_X9_couple_70
            exact br_F no2 hQ
          refine m_isTrain1 h1 (br_F (by decide) (m_isCar1 h29 hx (bn_F (by decide) (m_stands ⟨h1.1, h1.2.1⟩ ?_))))
          by_cases g1 : A 39 a0 = 0 ∨ A 39 a0 = 1
          · rw [if_pos g1]
            exact br_F (by decide) ⟨h1.1, h1.2.1, fun _ => FF, fun g2 => ⟨hx.1, by omega, fun _ => FF, fun g3 => ⟨hx.1, by omega, h1.1, h1.2.1, fun g4 => absurd ⟨g1, g2, g3, g4⟩ can, fun _ => FF⟩⟩⟩
          · rw [if_neg g1]
            exact br_T rfl FF
        · have fin : ∀ (X : String), X = "java/lang/IllegalStateException" → (((X = "java/lang/IndexOutOfBoundsException" ∧ sc A 0 2 0 0 = 1) ∨ (X = "java/lang/IllegalStateException" ∧ sc A 0 2 0 0 = 2)) ∧ Rep c LN B E (sc A 0 2)) := fun X hX => ⟨Or.inr ⟨hX, rfl⟩, hR.thr⟩
          by_cases g1 : A 39 a0 = 0 ∨ A 39 a0 = 1
          · have r805 : B 805 (40 + a0.toNat) = A 40 a0 := y13.trans (if_neg (by omega))
            rw [if_pos g1]
            refine br_F (by decide) ⟨kdtc (by omega) (by omega), fun _ => ?_, fun g2 => ?_⟩
            · unfold W_X8_couple_36 W_X8_couple_37
              exact q_state0 (fin _ rfl)
            · rw [e50, ru3.1] at g2
              unfold W_X8_couple_37
              refine q_state1 ⟨hkc, fun _ => ?_, fun g3 => ⟨hk, fun _ => ?_, fun g4 => ?_⟩⟩
              · unfold W_X8_couple_65 W_X8_couple_66
                exact q_state0 (fin _ rfl)
              · unfold W_X8_couple_65 W_X8_couple_66
                exact q_state0 (fin _ rfl)
              · rw [f2] at g3
                rw [f1, r805] at g4
                exact absurd ⟨g1, by omega, g3, g4⟩ can
          · rw [if_neg g1]
            refine br_T rfl ?_
            unfold W_X8_couple_36 W_X8_couple_37
            exact q_state0 (fin _ rfl)
    · exact ⟨0, sc A 0 1, fun Q hQ => m_isTrain1 h1 (br_F (by decide) (m_isCar0 h29 hx (bn_T rfl (by unfold W_X9_couple_17 W_X9_couple_70; exact br_F no1 hQ)))), pz_thr, rfl, q_trainOf1 gT h1 (q_carOf0 gK hx ⟨Or.inl ⟨rfl, rfl⟩, hR.thr⟩)⟩
  · exact ⟨0, sc A 0 1, fun Q hQ => m_isTrain0 h1 (br_T rfl (by unfold W_X9_couple_17 W_X9_couple_70; exact br_F no1 hQ)), pz_thr, rfl, q_trainOf0 gT h1 ⟨Or.inl ⟨rfl, rfl⟩, hR.thr⟩⟩
set_option maxHeartbeats 4000000 in
theorem sim_uncouple {a0 a1 : Int} (hR : Rep c LN B E A) (hp : pz A ≤ 1022) (hr0 : rg a0) (hr1 : rg a1) : ∃ (ans : Int) (A' : Il), (∀ Q, Q ans A' → W_X9_uncouple a0 a1 A Q) ∧ pz A' ≤ pz A + 2 ∧ W_X8_uncouple c  0 a0 a1 LN B E (fun z LN' B' E' => A' 0 0 = 0 ∧ z = ans ∧ Rep c LN' B' E' A') (fun X9 LN' B' E' => ((X9 = "java/lang/IndexOutOfBoundsException" ∧ A' 0 0 = 1) ∨ (X9 = "java/lang/IllegalStateException" ∧ A' 0 0 = 2)) ∧ Rep c LN' B' E' A') := by
  obtain ⟨gG, gS, gB, g0, gH, gE, gC, gN, gK, gL, gR, gD, gY, gU, gW, gP, gT, gX, gZ⟩ := id hR
  obtain ⟨⟨k1, k2, k3⟩, k4, k5, k6, k7, k8⟩ := id gK
  have h29 : 0 ≤ A 29 0 ∧ A 29 0 ≤ 20 := by omega
  have hpz := pz_ge gT
  have hp0 := gP.1
  by_cases h1 : 0 ≤ a0 ∧ a0 < 6 ∧ ¬ A 36 a0 = 0
  · have hk := kdtr (c := c) (v := 40 + a0.toNat) (by omega) (by omega)
    obtain ⟨t1, t2, t3, t4, t5⟩ := gT a0 h1.1 h1.2.1
    have h36 : A 36 a0 = 1 := by omega
    obtain ⟨y1, y2, y3, y4, y5, y6, y7, y8, y9, y10, y11, y12, y13, y14, y15, y16, y17, y18, y19, y20, y21, y22, y23, -⟩ := t5 h36
    clear t5 y4 y8 y12 y16 y17 y18 y19 y20
    obtain ⟨ru1, ru2⟩ := gU a0 h1.1 h1.2.1
    obtain ⟨ru3, ru4⟩ := ru2 h36
    by_cases hx : 0 ≤ a1 ∧ a1 < A 29 0
    · have hkc := kd11 (c := c) (v := 140 + a1.toNat) (by omega) (by omega) k3
      have f1 := k5 a1 hx.1 hx.2
      have f2 := k6 a1 hx.1 hx.2
      have f3 := k7 a1 hx.1 hx.2
      have e50 : 40 + a0.toNat + 10 = 50 + a0.toNat := by omega
      by_cases can : (A 39 a0 = 0 ∨ A 39 a0 = 1) ∧ A 32 a1 = a0
      · obtain ⟨g1, g2⟩ := can
        have r805 : B 805 (40 + a0.toNat) = A 40 a0 := y13.trans (if_neg (by omega))
        have gw := (gW a1 hx.1 hx.2).2 (by omega)
        rw [g2] at gw
        obtain ⟨-, p, p0, p1, p2⟩ := gw
        obtain ⟨N, eN⟩ := Int.eq_ofNat_of_zero_le y22
        obtain ⟨w1, w2, w3, w4⟩ := ru4 p p0 p1
        have un : ∀ j : Int, 0 ≤ j → j < A 44 a0 → j ≠ p → A 43 (10 * a0 + j) ≠ a1 := fun j j0 j1 nj e => nj (w4 j j0 j1 (e.trans p2.symm))
        have hA0 : Rep c LN B E (sc A 0 0) := hR.thr
        have wr := wgt_rg2 A a0 (A 44 a0).toNat
        have cr := cw_rg A a1
        have hw8 : w32 (B 808 (40 + a0.toNat) - cw A a1) = B 808 (40 + a0.toNat) - cw A a1 := w32_id (by unfold rg; omega)
        have td : ∀ E1 : El, (∀ a, a ≠ .inr (50 + a0.toNat) → ∀ j, E1 a j = E a j) → (∀ j : Int, 0 ≤ j → j < A 44 a0 - 1 → E1 (.inr (50 + a0.toNat)) j = if j < p then A 43 (10 * a0 + j) else A 43 (10 * a0 + (j + 1))) → _ := fun E1 i1 i2 => td_rep (c := c) (LN := LN) (B := B) (B' := u2 (u2 B 601 (50 + a0.toNat) (A 44 a0 - 1)) 808 (40 + a0.toNat) (B 808 (40 + a0.toNat) - cw A a1)) (E := E) (E' := E1) (A := sc A 0 0) (x := a1) (p := p) (N := A 44 a0) (t := a0) hA0 h1.1 h1.2.1 h36 g1 rfl p0 p1 p2 (fun q v h => (u2_k h.2).trans (u2_k h.1)) ⟨(u2_k (by decide)).trans u2_s, fun v h => (u2_k (by decide)).trans (u2_v h)⟩ ⟨u2_s, fun v h => (u2_v h).trans (u2_k (by decide))⟩ (fun v h => i1 _ (by intro w; injection w with w; exact h w)) (fun v => i1 _ (by intro w; cases w)) i2 rfl
        have yr : 0 ≤ A 35 (A 40 a0) ∧ A 35 (A 40 a0) ≤ 19 := by
          obtain ⟨hV, -⟩ := td (fun a j => if a = .inr (50 + a0.toNat) then (if j < p then A 43 (10 * a0 + j) else A 43 (10 * a0 + (j + 1))) else E a j) (fun a ha j => if_neg ha) (fun j _ _ => if_pos rfl)
          exact hV.yroom (by decide) ⟨y14, y15⟩
        refine ⟨A 44 a0 - 1, cms (ui (shf (sc A 0 0) 43 (10 * a0) p (A 44 a0 - 1)) 44 a0 (A 44 a0 - 1)) a1 (A 40 a0), fun Q hQ => ?_, ?_, rfl, q_trainOf1 gT h1 (q_carOf1 gK hx ⟨hk, q_X7stands gT h1.1 h1.2.1 h36 ?_⟩)⟩
        · refine m_isTrain1 h1 (br_F (by decide) (m_isCar1 h29 hx (bn_F (by decide) (m_stands ⟨h1.1, h1.2.1⟩ ?_))))
          rw [if_pos g1]
          refine br_F (by decide) ⟨hx.1, by omega, br_T g2 ?_⟩
          unfold W_X9_uncouple_44
          refine br_T le0 ⟨N + 1, ?_⟩
          rw [eN] at hQ
          exact m_unc_go1 (A := sc A 0 0) (t := a0) (x := a1) (p := p) (N := N) ⟨h1.1, h1.2.1⟩ eN (by omega) p0 (by omega) p2 (fun j j0 j1 nj => un j j0 (by omega) nj) (m_uncouple_end (A := sc A 0 0) h1.1 h1.2.1 ⟨hx.1, by omega⟩ ⟨y14, y15⟩ rfl eN ⟨yr.1, by show A 35 (A 40 a0) < 20; omega⟩ ⟨hp0, by show A 60 0 < 3999; omega⟩ hQ) N 0 (Nat.zero_add _) p0
        · refine tz_one (t := a0) (d := -1) h1.1 h1.2.1 (fun q nq => ?_) ?_ ?_ (by decide)
          · unfold tz
            have e1 : cms (ui (shf (sc A 0 0) 43 (10 * a0) p (A 44 a0 - 1)) 44 a0 (A 44 a0 - 1)) a1 (A 40 a0) 44 q = A 44 q := (sc_k (by decide)).trans ((ui_k (by decide)).trans ((ui_k (by decide)).trans ((ui_k (by decide)).trans ((ui_k (by decide)).trans ((ui_k (by decide)).trans ((ui_k (by decide)).trans ((ui_j nq).trans rfl)))))))
            rw [e1]
            rfl
          · unfold tz
            have e1 : cms (ui (shf (sc A 0 0) 43 (10 * a0) p (A 44 a0 - 1)) 44 a0 (A 44 a0 - 1)) a1 (A 40 a0) 44 a0 = A 44 a0 - 1 := (sc_k (by decide)).trans ((ui_k (by decide)).trans ((ui_k (by decide)).trans ((ui_k (by decide)).trans ((ui_k (by decide)).trans ((ui_k (by decide)).trans ((ui_k (by decide)).trans (ui_s)))))))
            have e2 : cms (ui (shf (sc A 0 0) 43 (10 * a0) p (A 44 a0 - 1)) 44 a0 (A 44 a0 - 1)) a1 (A 40 a0) 36 a0 = A 36 a0 := rfl
            rw [e1, e2, if_pos h36, if_pos h36]
            omega
          · exact sc_s
        · rw [if_pos g1]
          refine br_F (by decide) ⟨hkc, bn_T (by rw [f2]; exact g2) ?_⟩
          unfold W_X8_uncouple_34
          refine q_state1 ⟨hk, by rw [e50]; exact kdtc (by omega) (by omega), ?_⟩
          rw [e50]
          refine q_drop (p := p) (kdtc (by omega) (by omega)) ru3 (by omega) p0 p1 p2 (fun q q0 q1 => un q q0 (by omega) (by omega)) (fun E1 i1 i2 => ⟨hkc, q_weight (A := A) hkc ((u2_k (by decide)).trans f3) ⟨rfl, ?_⟩⟩)
          obtain ⟨hV, hnu⟩ := td E1 i1 i2
          have r8 : u2 B 601 (50 + a0.toNat) (A 44 a0 - 1) 808 (40 + a0.toNat) = B 808 (40 + a0.toNat) := u2_k (by decide)
          rw [r8, hw8]
          have r5 : u2 (u2 B 601 (50 + a0.toNat) (A 44 a0 - 1)) 808 (40 + a0.toNat) (B 808 (40 + a0.toNat) - cw A a1) 805 (40 + a0.toNat) = A 40 a0 := (u2_k (by decide)).trans ((u2_k (by decide)).trans r805)
          rw [r5]
          generalize hB1 : u2 (u2 B 601 (50 + a0.toNat) (A 44 a0 - 1)) 808 (40 + a0.toNat) (B 808 (40 + a0.toNat) - cw A a1) = B1 at hV
          obtain ⟨hG', hS', hB', h0', hH', hE', hC', hN', hK', hL', hR', hD', hY', hU', hW', hP', hT', hX', hZ'⟩ := id hV
          obtain ⟨⟨yy1, yy2, yy3, yy4⟩, yy5, yy6, yy7⟩ := hY' (A 40 a0) y14 y15
          refine q_bring hK' hx ⟨y14, y15⟩ (RepPx.room hP' hx h29.2 (by show A 60 0 ≤ 1023; omega)) ⟨by rw [yy1]; exact yy2, by rw [yy1]; exact yy3, yy6, by rw [yy1]; exact yy5⟩ (fun LN' E' x1 x2 x3 x4 x5 x6 x7 x8 x9 x10 => ⟨hk, kdtc (by omega) (by omega), rfl, ?_, ?_⟩)
          · refine (u2_v (by omega)).trans ((u2_v (by omega)).trans ((u2_k (by decide)).trans ((u2_k (by decide)).trans ?_)))
            rw [← hB1]
            exact (u2_k (by decide)).trans u2_s
          · have nys : ∀ s' q : Int, 0 ≤ s' → s' < 8 → 0 ≤ q → q < (ui (shf (sc A 0 0) 43 (10 * a0) p (A 44 a0 - 1)) 44 a0 (A 44 a0 - 1)) 35 s' → (ui (shf (sc A 0 0) 43 (10 * a0) p (A 44 a0 - 1)) 44 a0 (A 44 a0 - 1)) 34 (20 * s' + q) ≠ a1 := fun s' q s0 s1 q0 q1 w => by
              obtain ⟨-, -, -, m4⟩ := hY' s' s0 s1
              obtain ⟨m5, m6, m7, -⟩ := m4 q q0 q1
              rw [w] at m7
              have m8 : A 32 a1 = -1 := m7
              omega
            refine RepV.r (X := fun k => k = a1 ∧ k ≠ a1) (m := 1 - 1) (comes_rep (B := B1) (E := E1) (X := fun k => k = a1) hV rfl hx ⟨y14, y15⟩ (by decide) rfl (by show A 60 0 ≤ 1023; omega) nys hnu
              (fun q v h => (u2_k (by omega)).trans ((u2_k (by omega)).trans ((u2_k (by omega)).trans (u2_k (by omega))))) ⟨(u2_k (by decide)).trans ((u2_k (by decide)).trans u2_s), fun v h => (u2_k (by decide)).trans ((u2_k (by decide)).trans ((u2_v h).trans (u2_k (by decide))))⟩ ⟨(u2_k (by decide)).trans ((u2_k (by decide)).trans ((u2_k (by decide)).trans u2_s)), fun v h => (u2_k (by decide)).trans ((u2_k (by decide)).trans ((u2_k (by decide)).trans (u2_v h)))⟩
              ⟨(u2_v (by omega)).trans u2_s, u2_s, fun v h => (u2_v h.2).trans ((u2_v h.1).trans ((u2_k (by decide)).trans (u2_k (by decide))))⟩ x1 x2 x3 x4 x5 x6 x7 x8 x9 x10) (fun k w => w.2 w.1) (by decide)
      · refine ⟨0, sc A 0 2, fun Q hQ => ?_, pz_thr, rfl, q_trainOf1 gT h1 (q_carOf1 gK hx ⟨hk, q_X7stands gT h1.1 h1.2.1 h36 ?_⟩)⟩
        · have FF : W_X9_uncouple_39 a0 a1 A Q := by
            unfold W_X9_uncouple_39 W_X9_uncouple_44
            exact br_F no2 hQ
          refine m_isTrain1 h1 (br_F (by decide) (m_isCar1 h29 hx (bn_F (by decide) (m_stands ⟨h1.1, h1.2.1⟩ ?_))))
          by_cases g1 : A 39 a0 = 0 ∨ A 39 a0 = 1
          · rw [if_pos g1]
            exact br_F (by decide) ⟨hx.1, by omega, fun g2 => absurd ⟨g1, g2⟩ can, fun _ => FF⟩
          · rw [if_neg g1]
            exact br_T rfl FF
        · have fin : ∀ (X : String), X = "java/lang/IllegalStateException" → (((X = "java/lang/IndexOutOfBoundsException" ∧ sc A 0 2 0 0 = 1) ∨ (X = "java/lang/IllegalStateException" ∧ sc A 0 2 0 0 = 2)) ∧ Rep c LN B E (sc A 0 2)) := fun X hX => ⟨Or.inr ⟨hX, rfl⟩, hR.thr⟩
          by_cases g1 : A 39 a0 = 0 ∨ A 39 a0 = 1
          · rw [if_pos g1]
            refine br_F (by decide) ⟨hkc, fun _ => ?_, fun g2 => ?_⟩
            · unfold W_X8_uncouple_33 W_X8_uncouple_34
              exact q_state0 (fin _ rfl)
            · rw [f2] at g2
              exact absurd ⟨g1, g2⟩ can
          · rw [if_neg g1]
            refine br_T rfl ?_
            unfold W_X8_uncouple_33 W_X8_uncouple_34
            exact q_state0 (fin _ rfl)
    · exact ⟨0, sc A 0 1, fun Q hQ => m_isTrain1 h1 (br_F (by decide) (m_isCar0 h29 hx (bn_T rfl (by unfold W_X9_uncouple_17 W_X9_uncouple_44; exact br_F no1 hQ)))), pz_thr, rfl, q_trainOf1 gT h1 (q_carOf0 gK hx ⟨Or.inl ⟨rfl, rfl⟩, hR.thr⟩)⟩
  · exact ⟨0, sc A 0 1, fun Q hQ => m_isTrain0 h1 (br_T rfl (by unfold W_X9_uncouple_17 W_X9_uncouple_44; exact br_F no1 hQ)), pz_thr, rfl, q_trainOf0 gT h1 ⟨Or.inl ⟨rfl, rfl⟩, hR.thr⟩⟩
end CplS
