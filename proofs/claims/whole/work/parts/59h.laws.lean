/-! the makers' laws -/
theorem zf_o {F : Fl} {q k b : Nat} (h : b ≠ q) : zF F q k b = F k b := if_neg h
section Mm
variable {A : Il} {Q : Int → Il → Prop}
theorem m_engine {s p : Int} (hN : 0 ≤ A 19 0 ∧ A 19 0 < 6) (hs : 0 ≤ s ∧ s < 8) (hp : 1 ≤ p ∧ p ≤ 9) (h : Q (A 19 0) (sc (sc (ui (ui (ui (sc A 0 0) 20 (A 19 0) p) 21 (A 19 0) s) 22 (A 19 0) (-1)) 2 (w32 (A 2 0 - w32 (100 * p)))) 19 (A 19 0 + 1))) : W_X9_engine s p A Q := by
  refine m_isStation1 hs (bn_F (by decide) (m_in1 hp (bn_F (by decide) (bn_F (by omega) ?_))))
  unfold W_X9_engine_40
  refine br_T le0 ?_
  show 0 ≤ A 19 0 ∧ A 19 0 < 6 ∧ 0 ≤ A 19 0 ∧ A 19 0 < 6 ∧ 0 ≤ A 19 0 ∧ A 19 0 < 6 ∧ Q (w32 (w32 (A 19 0 + 1) - 1)) (sc (sc (ui (ui (ui (sc A 0 0) 20 (A 19 0) p) 21 (A 19 0) s) 22 (A 19 0) (-1)) 2 (w32 (A 2 0 - w32 (100 * p)))) 19 (w32 (A 19 0 + 1)))
  rw [show w32 (A 19 0 + 1) = A 19 0 + 1 from w32_id (by unfold rg; omega), show w32 (A 19 0 + 1 - 1) = A 19 0 from (w32_id (by unfold rg; omega)).trans (by omega)]
  exact ⟨hN.1, hN.2, hN.1, hN.2, hN.1, hN.2, h⟩
theorem m_lay {x y p g : Int} (hN : 0 ≤ A 6 0 ∧ A 6 0 < 16) (hx : 0 ≤ x ∧ x < 8) (hy : 0 ≤ y ∧ y < 8) (hxy : x ≠ y) (hp : 2 ≤ p ∧ p ≤ 60) (hg : 0 ≤ g ∧ g ≤ 3) (h : Q (A 6 0) (sc (sc (ui (ui (ui (ui (ui (sc A 0 0) 7 (2 * A 6 0) x) 7 (2 * A 6 0 + 1) y) 8 (A 6 0) p) 9 (A 6 0) g) 17 (A 6 0) (-1)) 2 (w32 (A 2 0 - w32 (100 * p)))) 6 (A 6 0 + 1))) : W_X9_lay x y p g A Q := by
  refine m_isStation1 hx (br_F (by decide) (m_isStation1 hy (bn_F (by decide) (br_F hxy (m_in1 hp (br_F (by decide) (m_in1 hg (bn_F (by decide) (bn_F (by omega) ?_)))))))))
  have e1 : w32 (A 6 0 + 1) = A 6 0 + 1 := w32_id (by unfold rg; omega)
  have e2 : w32 (A 6 0 + 1 - 1) = A 6 0 := (w32_id (by unfold rg; omega)).trans (by omega)
  have e3 : w32 (2 * A 6 0) = 2 * A 6 0 := w32_id (by unfold rg; omega)
  have e4 : w32 (2 * A 6 0 + 1) = 2 * A 6 0 + 1 := w32_id (by unfold rg; omega)
  unfold W_X9_lay_62
  refine br_T le0 ?_
  show 0 ≤ w32 (2 * A 6 0) ∧ w32 (2 * A 6 0) < 32 ∧ 0 ≤ w32 (w32 (2 * A 6 0) + 1) ∧ w32 (w32 (2 * A 6 0) + 1) < 32 ∧ 0 ≤ A 6 0 ∧ A 6 0 < 16 ∧ 0 ≤ A 6 0 ∧ A 6 0 < 16 ∧ 0 ≤ A 6 0 ∧ A 6 0 < 16 ∧ Q (w32 (w32 (A 6 0 + 1) - 1)) (sc (sc (ui (ui (ui (ui (ui (sc A 0 0) 7 (w32 (2 * A 6 0)) x) 7 (w32 (w32 (2 * A 6 0) + 1)) y) 8 (A 6 0) p) 9 (A 6 0) g) 17 (A 6 0) (-1)) 2 (w32 (A 2 0 - w32 (100 * p)))) 6 (w32 (A 6 0 + 1)))
  rw [e1, e2, e3, e4]
  exact ⟨by omega, by omega, by omega, by omega, hN.1, hN.2, hN.1, hN.2, hN.1, hN.2, h⟩
theorem m_offer9 {x y : Int} (hN : 0 ≤ A 54 0 ∧ A 54 0 < 40) (hx : 0 ≤ x ∧ x < 8) (hy : 0 ≤ y ∧ y < 8) (hxy : x ≠ y) (h : (A 59 (8 * x + y) ≤ A 59 (64 + (8 * x + y)) → Q (A 54 0) (sc (ui (ui (ui (sc A 0 0) 55 (A 54 0) x) 56 (A 54 0) y) 57 (A 54 0) (A 59 (8 * x + y))) 54 (A 54 0 + 1))) ∧ (¬ A 59 (8 * x + y) ≤ A 59 (64 + (8 * x + y)) → Q (-1) (sc A 0 0))) : W_X9_offer x y A Q := by
  refine m_isStation1 hx (br_F (by decide) (m_isStation1 hy (bn_F (by decide) (bn_F hxy (bn_F (by omega) ?_)))))
  have e1 : w32 (A 54 0 + 1) = A 54 0 + 1 := w32_id (by unfold rg; omega)
  have e2 : w32 (A 54 0 + 1 - 1) = A 54 0 := (w32_id (by unfold rg; omega)).trans (by omega)
  have e3 : w32 (8 * x) = 8 * x := w32_id (by unfold rg; omega)
  have e4 : w32 (8 * x + y) = 8 * x + y := w32_id (by unfold rg; omega)
  have e5 : w32 (64 + 8 * x) = 64 + 8 * x := w32_id (by unfold rg; omega)
  have e6 : w32 (64 + 8 * x + y) = 64 + (8 * x + y) := (w32_id (by unfold rg; omega)).trans (by omega)
  unfold W_X9_offer_42
  refine br_T le0 ?_
  show 0 ≤ w32 (w32 (8 * x) + y) ∧ w32 (w32 (8 * x) + y) < 128 ∧ 0 ≤ w32 (w32 (64 + w32 (8 * x)) + y) ∧ w32 (w32 (64 + w32 (8 * x)) + y) < 128 ∧ ((A 59 (w32 (w32 (8 * x) + y)) ≤ A 59 (w32 (w32 (64 + w32 (8 * x)) + y)) → 0 ≤ A 54 0 ∧ A 54 0 < 40 ∧ 0 ≤ A 54 0 ∧ A 54 0 < 40 ∧ 0 ≤ w32 (w32 (8 * x) + y) ∧ w32 (w32 (8 * x) + y) < 128 ∧ 0 ≤ A 54 0 ∧ A 54 0 < 40 ∧ Q (w32 (w32 (A 54 0 + 1) - 1)) (sc (ui (ui (ui (sc A 0 0) 55 (A 54 0) x) 56 (A 54 0) y) 57 (A 54 0) (A 59 (w32 (w32 (8 * x) + y)))) 54 (w32 (A 54 0 + 1)))) ∧ (¬ A 59 (w32 (w32 (8 * x) + y)) ≤ A 59 (w32 (w32 (64 + w32 (8 * x)) + y)) → Q (-1) (sc A 0 0)))
  rw [e3, e4, e5, e6, e1, e2]
  exact ⟨by omega, by omega, by omega, by omega, fun w => ⟨hN.1, hN.2, hN.1, hN.2, by omega, by omega, hN.1, hN.2, h.1 w⟩, h.2⟩
theorem m_offer {x y : Int} (hN : 0 ≤ A 54 0 ∧ A 54 0 < 40) (hx : 0 ≤ x ∧ x < 8) (hy : 0 ≤ y ∧ y < 8) (hxy : x ≠ y) (hr : A 59 (8 * x + y) ≤ A 59 (64 + (8 * x + y))) (h : Q (A 54 0) (sc (ui (ui (ui (sc A 0 0) 55 (A 54 0) x) 56 (A 54 0) y) 57 (A 54 0) (A 59 (8 * x + y))) 54 (A 54 0 + 1))) : W_X9_offer x y A Q := m_offer9 hN hx hy hxy (br_T hr h)
theorem m_offer0 {x y : Int} (hN : 0 ≤ A 54 0 ∧ A 54 0 < 40) (hx : 0 ≤ x ∧ x < 8) (hy : 0 ≤ y ∧ y < 8) (hxy : x ≠ y) (hr : ¬ A 59 (8 * x + y) ≤ A 59 (64 + (8 * x + y))) (h : Q (-1) (sc A 0 0)) : W_X9_offer x y A Q := m_offer9 hN hx hy hxy (br_F hr h)
end Mm
set_option maxRecDepth 20000 in
set_option maxHeartbeats 4000000 in
theorem law_crew {n : Nat} {G : Gp} {ln : Int} {scr : Int → Int} {k23 : Nat → Nat → Nat → Int → Shp → Fl → Il → Prop} {x1 x2 x3 : Nat} {x4 : Int} {S : Shp} {F : Fl} {I : Il} {Q : Int → Shp → Fl → Il → Prop} (hI : LJ (n + 1) G x1 x2 x3 S F I) (hs : ∀ z, rg (scr z)) (h4 : 0 ≤ x4) (h5 : x4 + 4 < ln) (h6 : ln ≤ 2560) (hk : ∀ (S' : Shp) (F' : Fl) (I' : Il), LJ n G x1 x2 x3 S' F' I' → k23 x1 x2 x3 (w32 (x4 + 5)) S' F' I') : V_L_law_703 G ln scr k23 x1 x2 x3 x4 S F I Q := by
  obtain ⟨Y, it, LN, rfl, rfl, rfl, hz, hL, hC, ha, hb, hR, hp⟩ := hI
  unfold V_L_law_703
  have e1 : w32 (x4 + 1) = x4 + 1 := w32_id (by unfold rg; omega)
  try rw [e1]
  refine ⟨by omega, by omega, ?_⟩
  have hs1 := hs (x4 + 1)
  generalize scr (x4 + 1) = s at hs1
  unfold V_L_crew V_X8_crew
  have exc : ∀ k : Int, (k = 1 ∨ k = 2) → (∀ Q9 : Int → Il → Prop, Q9 0 (sc (mA (ym Y) (ym Y 0) F I) 0 k) → W_X9_crew s (mA (ym Y) (ym Y 0) F I) Q9) → (0 : Int) ≤ x4 + 1 ∧ x4 + 1 < ln ∧ sK (thr S) (ym Y 0) = 10 ∧ V_X9_crew (ym Y 0) s (thr S) F I (fun (z10 : Int) (F11 : Fl) (I12 : Il) => V_X9_thrown (ym Y 0) (thr S) F11 I12 (fun (z13 : Int) => ((z13 = k → ((¬ k = 0 → V_L_law_756 G ln scr k23 (yg Y 0) (ym Y 0) (yo Y) x4 (thr S) F11 I12 Q) ∧ (k = 0 → sK (thr S) (yo Y) = 22 ∧ (0 : Int) ≤ 0 ∧ 0 < (sN (thr S) (yo Y) : Int) ∧ ((icmp (I12 (yo Y) 0) z10 = 0 → V_L_law_756 G ln scr k23 (yg Y 0) (ym Y 0) (yo Y) x4 (thr S) F11 I12 Q) ∧ (¬ icmp (I12 (yo Y) 0) z10 = 0 → Q 0 (thr S) F11 I12))))) ∧ (¬ z13 = k → Q 0 (thr S) F11 I12)))) := fun k hk9 hm => by
    have hM1 : Ms (ym Y 0) (ym Y) (thr S) := Lm.ms (Y := dn Y) hL (cg_thr hC (by omega) (by omega))
    refine ⟨by omega, by omega, hM1.1, ?_⟩
    refine T_X9_crew (F0 := F) (I0 := I) hM1 Fr.rf (fun z2 F2 I2 hF2 h => ?_) (hm (fun b A2 => b = 0 ∧ A2 = sc (mA (ym Y) (ym Y 0) F I) 0 k) ⟨rfl, rfl⟩)
    obtain ⟨rfl, hA2⟩ := h
    have ht : F2 1000 (ym Y 0) = k := by
      have := congrFun (congrFun hA2 0) 0
      exact this.trans sc_s
    refine ⟨hM1.1, ?_⟩
    refine ⟨fun _ => ⟨fun _ => ?_, fun c9 => absurd c9 (by omega)⟩, fun c9 => absurd ht c9⟩
    have hpz := pz_thr (A := (mA (ym Y) (ym Y 0) F I)) (z := k)
    exact hk _ _ _ (lj_end hz hL hC (cg_thr hC (by omega) (by omega)) ha hb hR.thr (by omega) (z := 0) (Or.inr rfl) hF2 hA2)
  have hR' := hR
  obtain ⟨gG, gS, gB, g0, gH, gE, ⟨⟨c1, c2, c3⟩, -⟩, gN, gK, gL, gR, -⟩ := hR
  have c2 : F 2 (yg Y 10) = (mA (ym Y) (ym Y 0) F I) 23 0 := c2
  refine ⟨Cg.k hC rfl (by decide), Cg.k hC rfl (by decide), v_station hC (fun hx => ?_) (fun hx => Or.inl ⟨rfl, exc 1 (Or.inl rfl) (fun Q9 h9 => m_isStation0 hx (bn_T rfl (by unfold W_X9_crew_26; exact br_F no1 h9)))⟩)⟩
  refine ⟨_, Cg.r903 hC rfl, Cg.k hC rfl (by decide), Cg.k hC rfl (by decide), fun h6 => ?_, fun h6 => ?_⟩
  · unfold V_X8_crew_22
    exact v_state hC (fun w => absurd rfl w) (fun _ => Or.inr ⟨rfl, exc 2 (Or.inr rfl) (fun Q9 h9 => m_isStation1 hx (bn_F (by decide) (bn_T (by omega) (by unfold W_X9_crew_26; exact br_F no2 h9))))⟩)
  · unfold V_X8_crew_22
    refine v_state hC (fun _ => ?_) (fun w => absurd w (by decide))
    refine ⟨Cg.k hC rfl (by decide), _, Cg.r903 hC rfl, Cg.sa hC, by have := hC.sb; omega, fun q hq => ?_⟩
    have nq := hC.nq hq
    have hF2 : (u2 (u2 (u2 (u2 (u2 (zF F q) 401 q (-1)) 402 q 0) 403 q 0) 404 q 0) 400 q s) 2 (yg Y 10) = (yc Y 10 : Int) := (u2_k (by decide)).trans ((u2_k (by decide)).trans ((u2_k (by decide)).trans ((u2_k (by decide)).trans ((u2_k (by decide)).trans ((zf_o (nq.1 10)).trans (c2.trans c1))))))
    refine ⟨va_up_self _ _ _, (va_up_ne _ _ (nq.1 10)).trans (Cg.k hC rfl (by decide)), take_T (L := 10) hC hz (by decide) (by decide) hR'.caps (by show yc Y 10 < 6; omega) (by omega) (by omega) hq hF2 (fun e S2 I2 z9 hC2 hI2 => ?_)⟩
    have b10 : bs 10 = 130 := rfl
    have go0 : gup Y 10 q 0 0 = yg Y 0 := gup_o (by decide) (by omega)
    have go10 : gup Y 10 q 0 10 = yg Y 10 := gup_o (by decide) (by omega)
    have s0 : sK S2 (yg Y 0) = 9 := by rw [← go0]; exact Cg.k hC2 (v := 0) rfl (by decide)
    have r0 : sR S2 903 (yg Y 0) = some (yg Y 10) := by rw [← go0, ← go10]; exact Cg.r903 hC2 (v := 0) rfl
    have s10 : sK S2 (yg Y 10) = 0 := by rw [← go10]; exact Cg.k hC2 (v := 10) rfl (by decide)
    refine ⟨s0, _, r0, s10, s10, ?_⟩
    rw [u2_s]
    dsimp only
    rw [show w32 ((yc Y 10 : Int) + 1 - 1) = (yc Y 10 : Int) from (w32_id (by unfold rg; omega)).trans (by omega)]
    have hL2 : Lm (Yup Y 10 q 0 e (ya Y - 16) (yb Y - 256)) := hL
    have hM1 : Ms (ym Y 0) (ym Y) S2 := hL2.ms hC2
    refine ⟨(hL2.out hC2).1, by decide, (hL2.out hC2).2, by omega, by omega, hM1.1, ?_⟩
    generalize hF9 : u2 (u2 (u2 (u2 (u2 (u2 (u2 (zF F q) 401 q (-1)) 402 q 0) 403 q 0) 404 q 0) 400 q s) 0 (yg Y 10) z9) 2 (yg Y 10) ((yc Y 10 : Int) + 1) = F9
    have eA : mA (ym Y) (ym Y 0) F9 (ui I2 (yo Y) 0 (yc Y 10 : Int)) = mA (ym Y) (ym Y 0) F I := (mA_out hL).trans (mA_lv hC hL (fun k hk9 => by
      rw [← hF9]
      exact (u2_k (by omega)).trans ((u2_k (by omega)).trans ((u2_k (by omega)).trans ((u2_k (by omega)).trans ((u2_k (by omega)).trans ((u2_k (by omega)).trans ((u2_k (by omega)).trans (zf_o nq.2.2.2.2)))))))) hI2)
    obtain ⟨B0, hR0, hB0, hB2⟩ := lv_T (F1 := (u2 (u2 (u2 (u2 (u2 (zF F q) 401 q (-1)) 402 q 0) 403 q 0) 404 q 0) 400 q s)) (L := 10) (e := e) (a := ya Y - 16) (b := yb Y - 256) (z := z9) (w := (yc Y 10 : Int) + 1) hR' hC (by decide) (by decide) (by show yc Y 10 < 6; omega) hq (fun k v hv hk9 => (u2_w hv).trans ((u2_w hv).trans ((u2_w hv).trans ((u2_w hv).trans ((u2_w hv).trans (zf_o hv)))))) hI2
    rw [hF9] at hB0 hB2
    have eT : 130 + ((mA (ym Y) (ym Y 0) F I) 23 0).toNat = bs 10 + yc Y 10 := by omega
    have f9 : ∀ k, k ≠ 0 → k ≠ 2 → F9 k q = (u2 (u2 (u2 (u2 (u2 (zF F q) 401 q (-1)) 402 q 0) 403 q 0) 404 q 0) 400 q s) k q := fun k k0 k2 => by
      rw [← hF9]
      exact (u2_k k2).trans (u2_k k0)
    have bw : ∀ k, Bc (Yup Y 10 q 0 e (ya Y - 16) (yb Y - 256)) F9 k (130 + ((mA (ym Y) (ym Y 0) F I) 23 0).toNat) = F9 k q := fun k => by
      rw [eT]
      show F9 k (gup Y 10 q 0 (bs 10 + yc Y 10)) = F9 k q
      rw [gup_w]
    have q1 : F 913 (yg Y 0) = (mA (ym Y) (ym Y 0) F I) 2 0 := gG.2.1
    have q2 : rg ((mA (ym Y) (ym Y 0) F I) 2 0) := gG.2.2.2.2.2.1
    generalize hA9 : mA (ym Y) (ym Y 0) F I = A at *
    have hN : 0 ≤ A 23 0 ∧ A 23 0 < 6 := by omega
    have hR1 := crew_rep (B' := Bc (Yup Y 10 q 0 e (ya Y - 16) (yb Y - 256)) F9) (A' := (sc (ui (ui (sc A 0 0) 24 (A 23 0) s) 25 (A 23 0) (-1)) 23 (A 23 0 + 1))) hR0 hN.2 hx hB0 ⟨by
        show F9 2 (gup Y 10 q 0 10) = _
        rw [go10, ← hF9, u2_s]
        omega, hB2⟩ ⟨by
        show F9 913 (gup Y 10 q 0 0) = A 2 0
        rw [go0, ← hF9]
        exact (u2_k (by decide)).trans ((u2_k (by decide)).trans ((u2_k (by decide)).trans ((u2_k (by decide)).trans ((u2_k (by decide)).trans ((u2_k (by decide)).trans ((u2_k (by decide)).trans ((zf_o (nq.1 0)).trans (q1)))))))), q2⟩
      ((bw 400).trans ((f9 400 (by decide) (by decide)).trans (u2_s))) ((bw 401).trans ((f9 401 (by decide) (by decide)).trans ((u2_k (by decide)).trans ((u2_k (by decide)).trans ((u2_k (by decide)).trans ((u2_k (by decide)).trans (u2_s))))))) ((bw 402).trans ((f9 402 (by decide) (by decide)).trans ((u2_k (by decide)).trans ((u2_k (by decide)).trans ((u2_k (by decide)).trans (u2_s)))))) ((bw 403).trans ((f9 403 (by decide) (by decide)).trans ((u2_k (by decide)).trans ((u2_k (by decide)).trans (u2_s))))) ((bw 404).trans ((f9 404 (by decide) (by decide)).trans ((u2_k (by decide)).trans (u2_s))))
      (fun a j h => (sc_k (by omega)).trans ((ui_k (by omega)).trans ((ui_k (by omega)).trans (sc_k (by omega))))) (sc_s) ⟨(sc_k (by decide)).trans ((ui_k (by decide)).trans (ui_s)), fun j hj => (sc_k (by decide)).trans ((ui_k (by decide)).trans ((ui_j hj).trans (sc_k (by decide))))⟩ ⟨(sc_k (by decide)).trans (ui_s), fun j hj => (sc_k (by decide)).trans ((ui_j hj).trans ((ui_k (by decide)).trans (sc_k (by decide))))⟩
    have hpz : pz (sc (ui (ui (sc A 0 0) 24 (A 23 0) s) 25 (A 23 0) (-1)) 23 (A 23 0 + 1)) ≤ pz A + 2 := pz_fr ((sc_k (by decide)).trans ((ui_k (by decide)).trans ((ui_k (by decide)).trans (sc_k (by decide))))) (fun _ => (sc_k (by decide)).trans ((ui_k (by decide)).trans ((ui_k (by decide)).trans (sc_k (by decide))))) (fun _ => (sc_k (by decide)).trans ((ui_k (by decide)).trans ((ui_k (by decide)).trans (sc_k (by decide)))))
    refine T_X9_crew (F0 := F9) (I0 := ui I2 (yo Y) 0 (yc Y 10 : Int)) hM1 Fr.rf (fun z2 F2 I3 hF2 h => ?_) (by rw [eA]; exact m_crew hN hx (Q := fun b A2 => b = (yc Y 10 : Int) ∧ A2 = (sc (ui (ui (sc A 0 0) 24 (A 23 0) s) 25 (A 23 0) (-1)) 23 (A 23 0 + 1))) ⟨c1, rfl⟩)
    obtain ⟨rfl, hA2⟩ := h
    have ht : F2 1000 (ym Y 0) = 0 := by
      have := congrFun (congrFun hA2 0) 0
      exact this
    refine ⟨hM1.1, ?_⟩
    refine ⟨fun _ => ⟨fun c9 => absurd rfl c9, fun _ => ⟨(hL2.out hC2).1, by decide, (hL2.out hC2).2, fun _ => ?_, fun c9 => absurd ?_ c9⟩⟩, fun c9 => absurd ht c9⟩
    · have eL : yc (Yup Y 10 q 0 e (ya Y - 16) (yb Y - 256)) 11 = yc Y 11 := cup_n (c := yc Y) (L := 10) (v := 11) (by decide)
      exact hk _ _ _ (lj_new (Y := Yup Y 10 q 0 e (ya Y - 16) (yb Y - 256)) (z := (yc Y 10 : Int)) go0.symm hz hL2 hC2 (by rw [eL]; show _ ≤ ya Y - 16; omega) (by rw [eL]; show _ ≤ yb Y - 256; omega) hR1 (by omega) (Or.inl rfl) hF2 hA2)
    · rw [hF2.2 (yo Y) (fun k hk9 => ((hL.ne.1 k hk9).1).symm), show ui _ (yo Y) 0 _ (yo Y) 0 = _ from ui_s, icmp_eq]

set_option maxRecDepth 20000 in
set_option maxHeartbeats 4000000 in
theorem law_engine {n : Nat} {G : Gp} {ln : Int} {scr : Int → Int} {k23 : Nat → Nat → Nat → Int → Shp → Fl → Il → Prop} {x1 x2 x3 : Nat} {x4 : Int} {S : Shp} {F : Fl} {I : Il} {Q : Int → Shp → Fl → Il → Prop} (hI : LJ (n + 1) G x1 x2 x3 S F I) (hs : ∀ z, rg (scr z)) (h4 : 0 ≤ x4) (h5 : x4 + 4 < ln) (h6 : ln ≤ 2560) (hk : ∀ (S' : Shp) (F' : Fl) (I' : Il), LJ n G x1 x2 x3 S' F' I' → k23 x1 x2 x3 (w32 (x4 + 5)) S' F' I') : V_L_law_635 G ln scr k23 x1 x2 x3 x4 S F I Q := by
  obtain ⟨Y, it, LN, rfl, rfl, rfl, hz, hL, hC, ha, hb, hR, hp⟩ := hI
  unfold V_L_law_635
  have e1 : w32 (x4 + 1) = x4 + 1 := w32_id (by unfold rg; omega)
  have e2 : w32 (x4 + 2) = x4 + 2 := w32_id (by unfold rg; omega)
  try rw [e1]
  try rw [e2]
  refine ⟨by omega, by omega, by omega, by omega, ?_⟩
  have hs1 := hs (x4 + 1)
  generalize scr (x4 + 1) = s at hs1
  have hs2 := hs (x4 + 2)
  generalize scr (x4 + 2) = p at hs2
  unfold V_L_engine V_X8_engine
  have exc : ∀ k : Int, (k = 1 ∨ k = 2 ∨ k = 3) → (∀ Q9 : Int → Il → Prop, Q9 0 (sc (mA (ym Y) (ym Y 0) F I) 0 k) → W_X9_engine s p (mA (ym Y) (ym Y 0) F I) Q9) → (0 : Int) ≤ x4 + 1 ∧ x4 + 1 < ln ∧ (0 : Int) ≤ x4 + 2 ∧ x4 + 2 < ln ∧ sK (thr S) (ym Y 0) = 10 ∧ V_X9_engine (ym Y 0) s p (thr S) F I (fun (z10 : Int) (F11 : Fl) (I12 : Il) => V_X9_thrown (ym Y 0) (thr S) F11 I12 (fun (z13 : Int) => ((z13 = k → ((¬ k = 0 → V_L_law_700 G ln scr k23 (yg Y 0) (ym Y 0) (yo Y) x4 (thr S) F11 I12 Q) ∧ (k = 0 → sK (thr S) (yo Y) = 22 ∧ (0 : Int) ≤ 0 ∧ 0 < (sN (thr S) (yo Y) : Int) ∧ ((icmp (I12 (yo Y) 0) z10 = 0 → V_L_law_700 G ln scr k23 (yg Y 0) (ym Y 0) (yo Y) x4 (thr S) F11 I12 Q) ∧ (¬ icmp (I12 (yo Y) 0) z10 = 0 → Q 0 (thr S) F11 I12))))) ∧ (¬ z13 = k → Q 0 (thr S) F11 I12)))) := fun k hk9 hm => by
    have hM1 : Ms (ym Y 0) (ym Y) (thr S) := Lm.ms (Y := dn Y) hL (cg_thr hC (by omega) (by omega))
    refine ⟨by omega, by omega, by omega, by omega, hM1.1, ?_⟩
    refine T_X9_engine (F0 := F) (I0 := I) hM1 Fr.rf (fun z2 F2 I2 hF2 h => ?_) (hm (fun b A2 => b = 0 ∧ A2 = sc (mA (ym Y) (ym Y 0) F I) 0 k) ⟨rfl, rfl⟩)
    obtain ⟨rfl, hA2⟩ := h
    have ht : F2 1000 (ym Y 0) = k := by
      have := congrFun (congrFun hA2 0) 0
      exact this.trans sc_s
    refine ⟨hM1.1, ?_⟩
    refine ⟨fun _ => ⟨fun _ => ?_, fun c9 => absurd c9 (by omega)⟩, fun c9 => absurd ht c9⟩
    have hpz := pz_thr (A := (mA (ym Y) (ym Y 0) F I)) (z := k)
    exact hk _ _ _ (lj_end hz hL hC (cg_thr hC (by omega) (by omega)) ha hb hR.thr (by omega) (z := 0) (Or.inr rfl) hF2 hA2)
  have hR' := hR
  obtain ⟨gG, gS, gB, g0, gH, ⟨⟨c1, c2, c3⟩, -⟩, gC, gN, gK, gL, gR, -⟩ := hR
  have c2 : F 2 (yg Y 9) = (mA (ym Y) (ym Y 0) F I) 19 0 := c2
  refine ⟨Cg.k hC rfl (by decide), Cg.k hC rfl (by decide), v_station hC (fun hx => v_range hC (fun hp9 => ?_) (fun hp9 => Or.inr (Or.inl ⟨rfl, exc 2 (Or.inr (Or.inl rfl)) (fun Q9 h9 => m_isStation1 hx (bn_F (by decide) (m_in0 hp9 (bn_T rfl (by unfold W_X9_engine_40; exact br_F no2 h9)))))⟩))) (fun hx => Or.inl ⟨rfl, exc 1 (Or.inl rfl) (fun Q9 h9 => m_isStation0 hx (bn_T rfl (by unfold W_X9_engine_40; exact br_F no1 h9)))⟩)⟩
  refine ⟨_, Cg.r902 hC rfl, Cg.k hC rfl (by decide), Cg.k hC rfl (by decide), fun h6 => ?_, fun h6 => ?_⟩
  · unfold V_X8_engine_29
    exact v_state hC (fun w => absurd rfl w) (fun _ => Or.inr (Or.inr ⟨rfl, exc 3 (Or.inr (Or.inr rfl)) (fun Q9 h9 => m_isStation1 hx (bn_F (by decide) (m_in1 hp9 (bn_F (by decide) (bn_T (by omega) (by unfold W_X9_engine_40; exact br_F no3 h9))))))⟩))
  · unfold V_X8_engine_29
    refine v_state hC (fun _ => ?_) (fun w => absurd w (by decide))
    refine ⟨Cg.k hC rfl (by decide), _, Cg.r902 hC rfl, Cg.sa hC, by have := hC.sb; omega, fun q hq => ?_⟩
    have nq := hC.nq hq
    have hF2 : (u2 (u2 (u2 (zF (u2 F 913 (yg Y 0) (w32 ((F 913 (yg Y 0)) - (w32 (100 * p))))) q) 502 q (-1)) 501 q s) 500 q p) 2 (yg Y 9) = (yc Y 9 : Int) := (u2_k (by decide)).trans ((u2_k (by decide)).trans ((u2_k (by decide)).trans ((zf_o (nq.1 9)).trans ((u2_k (by omega)).trans (c2.trans c1)))))
    refine ⟨va_up_self _ _ _, (va_up_ne _ _ (nq.1 9)).trans (Cg.k hC rfl (by decide)), take_T (L := 9) hC hz (by decide) (by decide) hR'.caps (by show yc Y 9 < 6; omega) (by omega) (by omega) hq hF2 (fun e S2 I2 z9 hC2 hI2 => ?_)⟩
    have b10 : bs 9 = 120 := rfl
    have go0 : gup Y 9 q 0 0 = yg Y 0 := gup_o (by decide) (by omega)
    have go10 : gup Y 9 q 0 9 = yg Y 9 := gup_o (by decide) (by omega)
    have s0 : sK S2 (yg Y 0) = 9 := by rw [← go0]; exact Cg.k hC2 (v := 0) rfl (by decide)
    have r0 : sR S2 902 (yg Y 0) = some (yg Y 9) := by rw [← go0, ← go10]; exact Cg.r902 hC2 (v := 0) rfl
    have s10 : sK S2 (yg Y 9) = 0 := by rw [← go10]; exact Cg.k hC2 (v := 9) rfl (by decide)
    refine ⟨s0, _, r0, s10, s10, ?_⟩
    rw [u2_s]
    dsimp only
    rw [show w32 ((yc Y 9 : Int) + 1 - 1) = (yc Y 9 : Int) from (w32_id (by unfold rg; omega)).trans (by omega)]
    have hL2 : Lm (Yup Y 9 q 0 e (ya Y - 16) (yb Y - 256)) := hL
    have hM1 : Ms (ym Y 0) (ym Y) S2 := hL2.ms hC2
    refine ⟨(hL2.out hC2).1, by decide, (hL2.out hC2).2, by omega, by omega, by omega, by omega, hM1.1, ?_⟩
    generalize hF9 : u2 (u2 (u2 (u2 (u2 (zF (u2 F 913 (yg Y 0) (w32 ((F 913 (yg Y 0)) - (w32 (100 * p))))) q) 502 q (-1)) 501 q s) 500 q p) 0 (yg Y 9) z9) 2 (yg Y 9) ((yc Y 9 : Int) + 1) = F9
    have eA : mA (ym Y) (ym Y 0) F9 (ui I2 (yo Y) 0 (yc Y 9 : Int)) = mA (ym Y) (ym Y 0) F I := (mA_out hL).trans (mA_lv hC hL (fun k hk9 => by
      rw [← hF9]
      exact (u2_k (by omega)).trans ((u2_k (by omega)).trans ((u2_k (by omega)).trans ((u2_k (by omega)).trans ((u2_k (by omega)).trans ((zf_o nq.2.2.2.2).trans (u2_k (by omega)))))))) hI2)
    obtain ⟨B0, hR0, hB0, hB2⟩ := lv_T (F1 := (u2 (u2 (u2 (zF (u2 F 913 (yg Y 0) (w32 ((F 913 (yg Y 0)) - (w32 (100 * p))))) q) 502 q (-1)) 501 q s) 500 q p)) (L := 9) (e := e) (a := ya Y - 16) (b := yb Y - 256) (z := z9) (w := (yc Y 9 : Int) + 1) hR' hC (by decide) (by decide) (by show yc Y 9 < 6; omega) hq (fun k v hv hk9 => (u2_w hv).trans ((u2_w hv).trans ((u2_w hv).trans ((zf_o hv).trans (u2_k (by omega)))))) hI2
    rw [hF9] at hB0 hB2
    have eT : 120 + ((mA (ym Y) (ym Y 0) F I) 19 0).toNat = bs 9 + yc Y 9 := by omega
    have f9 : ∀ k, k ≠ 0 → k ≠ 2 → F9 k q = (u2 (u2 (u2 (zF (u2 F 913 (yg Y 0) (w32 ((F 913 (yg Y 0)) - (w32 (100 * p))))) q) 502 q (-1)) 501 q s) 500 q p) k q := fun k k0 k2 => by
      rw [← hF9]
      exact (u2_k k2).trans (u2_k k0)
    have bw : ∀ k, Bc (Yup Y 9 q 0 e (ya Y - 16) (yb Y - 256)) F9 k (120 + ((mA (ym Y) (ym Y 0) F I) 19 0).toNat) = F9 k q := fun k => by
      rw [eT]
      show F9 k (gup Y 9 q 0 (bs 9 + yc Y 9)) = F9 k q
      rw [gup_w]
    have q1 : F 913 (yg Y 0) = (mA (ym Y) (ym Y 0) F I) 2 0 := gG.2.1
    have q2 : rg ((mA (ym Y) (ym Y 0) F I) 2 0) := gG.2.2.2.2.2.1
    generalize hA9 : mA (ym Y) (ym Y 0) F I = A at *
    have hN : 0 ≤ A 19 0 ∧ A 19 0 < 6 := by omega
    have hR1 := engine_rep (B' := Bc (Yup Y 9 q 0 e (ya Y - 16) (yb Y - 256)) F9) (A' := (sc (sc (ui (ui (ui (sc A 0 0) 20 (A 19 0) p) 21 (A 19 0) s) 22 (A 19 0) (-1)) 2 (w32 (A 2 0 - w32 (100 * p)))) 19 (A 19 0 + 1))) hR0 hN.2 hx hp9 hB0 ⟨by
        show F9 2 (gup Y 9 q 0 9) = _
        rw [go10, ← hF9, u2_s]
        omega, hB2⟩ ⟨by
        show F9 913 (gup Y 9 q 0 0) = (sc (sc (ui (ui (ui (sc A 0 0) 20 (A 19 0) p) 21 (A 19 0) s) 22 (A 19 0) (-1)) 2 (w32 (A 2 0 - w32 (100 * p)))) 19 (A 19 0 + 1)) 2 0
        rw [go0, ← hF9]
        refine (u2_k (by decide)).trans ((u2_k (by decide)).trans ((u2_k (by decide)).trans ((u2_k (by decide)).trans ((u2_k (by decide)).trans ((zf_o (nq.1 0)).trans ((u2_s).trans (?_)))))))
        rw [q1]
        exact ((sc_k (by decide)).trans (sc_s)).symm, by
        rw [show (sc (sc (ui (ui (ui (sc A 0 0) 20 (A 19 0) p) 21 (A 19 0) s) 22 (A 19 0) (-1)) 2 (w32 (A 2 0 - w32 (100 * p)))) 19 (A 19 0 + 1)) 2 0 = w32 (A 2 0 - w32 (100 * p)) from (sc_k (by decide)).trans (sc_s)]
        exact rg_w32 _⟩
      ((bw 500).trans ((f9 500 (by decide) (by decide)).trans (u2_s))) ((bw 501).trans ((f9 501 (by decide) (by decide)).trans ((u2_k (by decide)).trans (u2_s)))) ((bw 502).trans ((f9 502 (by decide) (by decide)).trans ((u2_k (by decide)).trans ((u2_k (by decide)).trans (u2_s)))))
      (fun a j h => (sc_k (by omega)).trans ((sc_k (by omega)).trans ((ui_k (by omega)).trans ((ui_k (by omega)).trans ((ui_k (by omega)).trans (sc_k (by omega))))))) (sc_s) ⟨(sc_k (by decide)).trans ((sc_k (by decide)).trans ((ui_k (by decide)).trans ((ui_k (by decide)).trans (ui_s)))), fun j hj => (sc_k (by decide)).trans ((sc_k (by decide)).trans ((ui_k (by decide)).trans ((ui_k (by decide)).trans ((ui_j hj).trans (sc_k (by decide))))))⟩ ⟨(sc_k (by decide)).trans ((sc_k (by decide)).trans ((ui_k (by decide)).trans (ui_s))), fun j hj => (sc_k (by decide)).trans ((sc_k (by decide)).trans ((ui_k (by decide)).trans ((ui_j hj).trans ((ui_k (by decide)).trans (sc_k (by decide))))))⟩ ⟨(sc_k (by decide)).trans ((sc_k (by decide)).trans (ui_s)), fun j hj => (sc_k (by decide)).trans ((sc_k (by decide)).trans ((ui_j hj).trans ((ui_k (by decide)).trans ((ui_k (by decide)).trans (sc_k (by decide))))))⟩
    have hpz : pz (sc (sc (ui (ui (ui (sc A 0 0) 20 (A 19 0) p) 21 (A 19 0) s) 22 (A 19 0) (-1)) 2 (w32 (A 2 0 - w32 (100 * p)))) 19 (A 19 0 + 1)) ≤ pz A + 2 := pz_fr ((sc_k (by decide)).trans ((sc_k (by decide)).trans ((ui_k (by decide)).trans ((ui_k (by decide)).trans ((ui_k (by decide)).trans (sc_k (by decide))))))) (fun _ => (sc_k (by decide)).trans ((sc_k (by decide)).trans ((ui_k (by decide)).trans ((ui_k (by decide)).trans ((ui_k (by decide)).trans (sc_k (by decide))))))) (fun _ => (sc_k (by decide)).trans ((sc_k (by decide)).trans ((ui_k (by decide)).trans ((ui_k (by decide)).trans ((ui_k (by decide)).trans (sc_k (by decide)))))))
    refine T_X9_engine (F0 := F9) (I0 := ui I2 (yo Y) 0 (yc Y 9 : Int)) hM1 Fr.rf (fun z2 F2 I3 hF2 h => ?_) (by rw [eA]; exact m_engine hN hx hp9 (Q := fun b A2 => b = (yc Y 9 : Int) ∧ A2 = (sc (sc (ui (ui (ui (sc A 0 0) 20 (A 19 0) p) 21 (A 19 0) s) 22 (A 19 0) (-1)) 2 (w32 (A 2 0 - w32 (100 * p)))) 19 (A 19 0 + 1))) ⟨c1, rfl⟩)
    obtain ⟨rfl, hA2⟩ := h
    have ht : F2 1000 (ym Y 0) = 0 := by
      have := congrFun (congrFun hA2 0) 0
      exact this
    refine ⟨hM1.1, ?_⟩
    refine ⟨fun _ => ⟨fun c9 => absurd rfl c9, fun _ => ⟨(hL2.out hC2).1, by decide, (hL2.out hC2).2, fun _ => ?_, fun c9 => absurd ?_ c9⟩⟩, fun c9 => absurd ht c9⟩
    · have eL : yc (Yup Y 9 q 0 e (ya Y - 16) (yb Y - 256)) 11 = yc Y 11 := cup_n (c := yc Y) (L := 9) (v := 11) (by decide)
      exact hk _ _ _ (lj_new (Y := Yup Y 9 q 0 e (ya Y - 16) (yb Y - 256)) (z := (yc Y 9 : Int)) go0.symm hz hL2 hC2 (by rw [eL]; show _ ≤ ya Y - 16; omega) (by rw [eL]; show _ ≤ yb Y - 256; omega) hR1 (by omega) (Or.inl rfl) hF2 hA2)
    · rw [hF2.2 (yo Y) (fun k hk9 => ((hL.ne.1 k hk9).1).symm), show ui _ (yo Y) 0 _ (yo Y) 0 = _ from ui_s, icmp_eq]

set_option maxRecDepth 20000 in
set_option maxHeartbeats 4000000 in
theorem law_lay {n : Nat} {G : Gp} {ln : Int} {scr : Int → Int} {k23 : Nat → Nat → Nat → Int → Shp → Fl → Il → Prop} {x1 x2 x3 : Nat} {x4 : Int} {S : Shp} {F : Fl} {I : Il} {Q : Int → Shp → Fl → Il → Prop} (hI : LJ (n + 1) G x1 x2 x3 S F I) (hs : ∀ z, rg (scr z)) (h4 : 0 ≤ x4) (h5 : x4 + 4 < ln) (h6 : ln ≤ 2560) (hk : ∀ (S' : Shp) (F' : Fl) (I' : Il), LJ n G x1 x2 x3 S' F' I' → k23 x1 x2 x3 (w32 (x4 + 5)) S' F' I') : V_L_law_300 G ln scr k23 x1 x2 x3 x4 S F I Q := by
  obtain ⟨Y, it, LN, rfl, rfl, rfl, hz, hL, hC, ha, hb, hR, hp⟩ := hI
  unfold V_L_law_300
  have e1 : w32 (x4 + 1) = x4 + 1 := w32_id (by unfold rg; omega)
  have e2 : w32 (x4 + 2) = x4 + 2 := w32_id (by unfold rg; omega)
  have e3 : w32 (x4 + 3) = x4 + 3 := w32_id (by unfold rg; omega)
  have e4 : w32 (x4 + 4) = x4 + 4 := w32_id (by unfold rg; omega)
  try rw [e1]
  try rw [e2]
  try rw [e3]
  try rw [e4]
  refine ⟨by omega, by omega, by omega, by omega, by omega, by omega, by omega, by omega, ?_⟩
  have hs1 := hs (x4 + 1)
  generalize scr (x4 + 1) = x at hs1
  have hs2 := hs (x4 + 2)
  generalize scr (x4 + 2) = y at hs2
  have hs3 := hs (x4 + 3)
  generalize scr (x4 + 3) = p at hs3
  have hs4 := hs (x4 + 4)
  generalize scr (x4 + 4) = g at hs4
  unfold V_L_lay V_X8_lay
  have exc : ∀ k : Int, (k = 1 ∨ k = 2 ∨ k = 3) → (∀ Q9 : Int → Il → Prop, Q9 0 (sc (mA (ym Y) (ym Y 0) F I) 0 k) → W_X9_lay x y p g (mA (ym Y) (ym Y 0) F I) Q9) → (0 : Int) ≤ x4 + 1 ∧ x4 + 1 < ln ∧ (0 : Int) ≤ x4 + 2 ∧ x4 + 2 < ln ∧ (0 : Int) ≤ x4 + 3 ∧ x4 + 3 < ln ∧ (0 : Int) ≤ x4 + 4 ∧ x4 + 4 < ln ∧ sK (thr S) (ym Y 0) = 10 ∧ V_X9_lay (ym Y 0) x y p g (thr S) F I (fun (z10 : Int) (F11 : Fl) (I12 : Il) => V_X9_thrown (ym Y 0) (thr S) F11 I12 (fun (z13 : Int) => ((z13 = k → ((¬ k = 0 → V_L_law_389 G ln scr k23 (yg Y 0) (ym Y 0) (yo Y) x4 (thr S) F11 I12 Q) ∧ (k = 0 → sK (thr S) (yo Y) = 22 ∧ (0 : Int) ≤ 0 ∧ 0 < (sN (thr S) (yo Y) : Int) ∧ ((icmp (I12 (yo Y) 0) z10 = 0 → V_L_law_389 G ln scr k23 (yg Y 0) (ym Y 0) (yo Y) x4 (thr S) F11 I12 Q) ∧ (¬ icmp (I12 (yo Y) 0) z10 = 0 → Q 0 (thr S) F11 I12))))) ∧ (¬ z13 = k → Q 0 (thr S) F11 I12)))) := fun k hk9 hm => by
    have hM1 : Ms (ym Y 0) (ym Y) (thr S) := Lm.ms (Y := dn Y) hL (cg_thr hC (by omega) (by omega))
    refine ⟨by omega, by omega, by omega, by omega, by omega, by omega, by omega, by omega, hM1.1, ?_⟩
    refine T_X9_lay (F0 := F) (I0 := I) hM1 Fr.rf (fun z2 F2 I2 hF2 h => ?_) (hm (fun b A2 => b = 0 ∧ A2 = sc (mA (ym Y) (ym Y 0) F I) 0 k) ⟨rfl, rfl⟩)
    obtain ⟨rfl, hA2⟩ := h
    have ht : F2 1000 (ym Y 0) = k := by
      have := congrFun (congrFun hA2 0) 0
      exact this.trans sc_s
    refine ⟨hM1.1, ?_⟩
    refine ⟨fun _ => ⟨fun _ => ?_, fun c9 => absurd c9 (by omega)⟩, fun c9 => absurd ht c9⟩
    have hpz := pz_thr (A := (mA (ym Y) (ym Y 0) F I)) (z := k)
    exact hk _ _ _ (lj_end hz hL hC (cg_thr hC (by omega) (by omega)) ha hb hR.thr (by omega) (z := 0) (Or.inr rfl) hF2 hA2)
  have hR' := hR
  obtain ⟨gG, gS, ⟨⟨c1, c2, c3⟩, -⟩, g0, gH, gE, gC, gN, gK, gL, gR, -⟩ := hR
  have c2 : F 2 (yg Y 8) = (mA (ym Y) (ym Y 0) F I) 6 0 := c2
  refine ⟨Cg.k hC rfl (by decide), Cg.k hC rfl (by decide), v_station hC (fun hx => v_station hC (fun hy => ⟨fun hxy => ?_, fun hxy => ?_⟩) (fun hy => Or.inl ⟨rfl, exc 1 (Or.inl rfl) (fun Q9 h9 => m_isStation1 hx (br_F (by decide) (m_isStation0 hy (bn_T rfl (by unfold W_X9_lay_15 W_X9_lay_62; exact br_F no1 h9)))))⟩)) (fun hx => Or.inl ⟨rfl, exc 1 (Or.inl rfl) (fun Q9 h9 => m_isStation0 hx (br_T rfl (by unfold W_X9_lay_15 W_X9_lay_62; exact br_F no1 h9)))⟩)⟩
  · unfold V_X8_lay_20
    exact v_arg hC (fun w => absurd rfl w) (fun _ => Or.inr (Or.inl ⟨rfl, exc 2 (Or.inr (Or.inl rfl)) (fun Q9 h9 => m_isStation1 hx (br_F (by decide) (m_isStation1 hy (bn_F (by decide) (br_T hxy (by unfold W_X9_lay_44 W_X9_lay_62; exact br_F no2 h9))))))⟩))
  unfold V_X8_lay_20
  refine v_arg hC (fun _ => v_range hC (fun hp9 => v_range hC (fun hg9 => ?_) (fun hg9 => Or.inr (Or.inl ⟨rfl, exc 2 (Or.inr (Or.inl rfl)) (fun Q9 h9 => m_isStation1 hx (br_F (by decide) (m_isStation1 hy (bn_F (by decide) (br_F hxy (m_in1 hp9 (br_F (by decide) (m_in0 hg9 (bn_T rfl (by unfold W_X9_lay_44 W_X9_lay_62; exact br_F no2 h9))))))))))⟩))) (fun hp9 => Or.inr (Or.inl ⟨rfl, exc 2 (Or.inr (Or.inl rfl)) (fun Q9 h9 => m_isStation1 hx (br_F (by decide) (m_isStation1 hy (bn_F (by decide) (br_F hxy (m_in0 hp9 (br_T rfl (by unfold W_X9_lay_44 W_X9_lay_62; exact br_F no2 h9))))))))⟩))) (fun w => absurd w (by decide))
  refine ⟨Cg.k hC rfl (by decide), _, Cg.r901 hC rfl, Cg.k hC rfl (by decide), Cg.k hC rfl (by decide), fun h6 => ?_, fun h6 => ?_⟩
  · unfold V_X8_lay_54
    exact v_state hC (fun w => absurd rfl w) (fun _ => Or.inr (Or.inr ⟨rfl, exc 3 (Or.inr (Or.inr rfl)) (fun Q9 h9 => m_isStation1 hx (br_F (by decide) (m_isStation1 hy (bn_F (by decide) (br_F hxy (m_in1 hp9 (br_F (by decide) (m_in1 hg9 (bn_F (by decide) (bn_T (by omega) (by unfold W_X9_lay_62; exact br_F no3 h9)))))))))))⟩))
  · unfold V_X8_lay_54
    refine v_state hC (fun _ => ?_) (fun w => absurd w (by decide))
    refine ⟨Cg.k hC rfl (by decide), _, Cg.r901 hC rfl, Cg.sa hC, by have := hC.bud; omega, fun q hq => ?_⟩
    have nq := hC.nq hq
    have hF2 : (u2 (u2 (u2 (u2 (u2 (u2 (u2 (u2 (u2 (u2 (u2 (u2 (u2 (zF (u2 F 913 (yg Y 0) (w32 ((F 913 (yg Y 0)) - (w32 (100 * p))))) q) 204 q 0) 205 q 0) 206 q 0) 207 q 0) 208 q 0) 209 q 0) 210 q 0) 211 q (-1)) 212 q 0) 200 q x) 201 q y) 202 q p) 203 q g) 2 (yg Y 8) = (yc Y 8 : Int) := (u2_k (by decide)).trans ((u2_k (by decide)).trans ((u2_k (by decide)).trans ((u2_k (by decide)).trans ((u2_k (by decide)).trans ((u2_k (by decide)).trans ((u2_k (by decide)).trans ((u2_k (by decide)).trans ((u2_k (by decide)).trans ((u2_k (by decide)).trans ((u2_k (by decide)).trans ((u2_k (by decide)).trans ((u2_k (by decide)).trans ((zf_o (nq.1 8)).trans ((u2_k (by omega)).trans (c2.trans c1)))))))))))))))
    refine ⟨va_up_self _ _ _, (va_up_ne _ _ (nq.1 8)).trans (Cg.k hC rfl (by decide)), take_T (L := 8) hC hz (by decide) (by decide) hR'.caps (by show yc Y 8 < 16; omega) (by omega) (by omega) hq hF2 (fun e S2 I2 z9 hC2 hI2 => ?_)⟩
    have b10 : bs 8 = 100 := rfl
    have go0 : gup Y 8 q 0 0 = yg Y 0 := gup_o (by decide) (by omega)
    have go10 : gup Y 8 q 0 8 = yg Y 8 := gup_o (by decide) (by omega)
    have s0 : sK S2 (yg Y 0) = 9 := by rw [← go0]; exact Cg.k hC2 (v := 0) rfl (by decide)
    have r0 : sR S2 901 (yg Y 0) = some (yg Y 8) := by rw [← go0, ← go10]; exact Cg.r901 hC2 (v := 0) rfl
    have s10 : sK S2 (yg Y 8) = 0 := by rw [← go10]; exact Cg.k hC2 (v := 8) rfl (by decide)
    refine ⟨s0, _, r0, s10, s10, ?_⟩
    rw [u2_s]
    dsimp only
    rw [show w32 ((yc Y 8 : Int) + 1 - 1) = (yc Y 8 : Int) from (w32_id (by unfold rg; omega)).trans (by omega)]
    have hL2 : Lm (Yup Y 8 q 0 e (ya Y - 16) (yb Y - 256)) := hL
    have hM1 : Ms (ym Y 0) (ym Y) S2 := hL2.ms hC2
    refine ⟨(hL2.out hC2).1, by decide, (hL2.out hC2).2, by omega, by omega, by omega, by omega, by omega, by omega, by omega, by omega, hM1.1, ?_⟩
    generalize hF9 : u2 (u2 (u2 (u2 (u2 (u2 (u2 (u2 (u2 (u2 (u2 (u2 (u2 (u2 (u2 (zF (u2 F 913 (yg Y 0) (w32 ((F 913 (yg Y 0)) - (w32 (100 * p))))) q) 204 q 0) 205 q 0) 206 q 0) 207 q 0) 208 q 0) 209 q 0) 210 q 0) 211 q (-1)) 212 q 0) 200 q x) 201 q y) 202 q p) 203 q g) 0 (yg Y 8) z9) 2 (yg Y 8) ((yc Y 8 : Int) + 1) = F9
    have eA : mA (ym Y) (ym Y 0) F9 (ui I2 (yo Y) 0 (yc Y 8 : Int)) = mA (ym Y) (ym Y 0) F I := (mA_out hL).trans (mA_lv hC hL (fun k hk9 => by
      rw [← hF9]
      exact (u2_k (by omega)).trans ((u2_k (by omega)).trans ((u2_k (by omega)).trans ((u2_k (by omega)).trans ((u2_k (by omega)).trans ((u2_k (by omega)).trans ((u2_k (by omega)).trans ((u2_k (by omega)).trans ((u2_k (by omega)).trans ((u2_k (by omega)).trans ((u2_k (by omega)).trans ((u2_k (by omega)).trans ((u2_k (by omega)).trans ((u2_k (by omega)).trans ((u2_k (by omega)).trans ((zf_o nq.2.2.2.2).trans (u2_k (by omega)))))))))))))))))) hI2)
    obtain ⟨B0, hR0, hB0, hB2⟩ := lv_T (F1 := (u2 (u2 (u2 (u2 (u2 (u2 (u2 (u2 (u2 (u2 (u2 (u2 (u2 (zF (u2 F 913 (yg Y 0) (w32 ((F 913 (yg Y 0)) - (w32 (100 * p))))) q) 204 q 0) 205 q 0) 206 q 0) 207 q 0) 208 q 0) 209 q 0) 210 q 0) 211 q (-1)) 212 q 0) 200 q x) 201 q y) 202 q p) 203 q g)) (L := 8) (e := e) (a := ya Y - 16) (b := yb Y - 256) (z := z9) (w := (yc Y 8 : Int) + 1) hR' hC (by decide) (by decide) (by show yc Y 8 < 16; omega) hq (fun k v hv hk9 => (u2_w hv).trans ((u2_w hv).trans ((u2_w hv).trans ((u2_w hv).trans ((u2_w hv).trans ((u2_w hv).trans ((u2_w hv).trans ((u2_w hv).trans ((u2_w hv).trans ((u2_w hv).trans ((u2_w hv).trans ((u2_w hv).trans ((u2_w hv).trans ((zf_o hv).trans (u2_k (by omega)))))))))))))))) hI2
    rw [hF9] at hB0 hB2
    have eT : 100 + ((mA (ym Y) (ym Y 0) F I) 6 0).toNat = bs 8 + yc Y 8 := by omega
    have f9 : ∀ k, k ≠ 0 → k ≠ 2 → F9 k q = (u2 (u2 (u2 (u2 (u2 (u2 (u2 (u2 (u2 (u2 (u2 (u2 (u2 (zF (u2 F 913 (yg Y 0) (w32 ((F 913 (yg Y 0)) - (w32 (100 * p))))) q) 204 q 0) 205 q 0) 206 q 0) 207 q 0) 208 q 0) 209 q 0) 210 q 0) 211 q (-1)) 212 q 0) 200 q x) 201 q y) 202 q p) 203 q g) k q := fun k k0 k2 => by
      rw [← hF9]
      exact (u2_k k2).trans (u2_k k0)
    have bw : ∀ k, Bc (Yup Y 8 q 0 e (ya Y - 16) (yb Y - 256)) F9 k (100 + ((mA (ym Y) (ym Y 0) F I) 6 0).toNat) = F9 k q := fun k => by
      rw [eT]
      show F9 k (gup Y 8 q 0 (bs 8 + yc Y 8)) = F9 k q
      rw [gup_w]
    have q1 : F 913 (yg Y 0) = (mA (ym Y) (ym Y 0) F I) 2 0 := gG.2.1
    have q2 : rg ((mA (ym Y) (ym Y 0) F I) 2 0) := gG.2.2.2.2.2.1
    generalize hA9 : mA (ym Y) (ym Y 0) F I = A at *
    have hN : 0 ≤ A 6 0 ∧ A 6 0 < 16 := by omega
    have hR1 := lay_rep (B' := Bc (Yup Y 8 q 0 e (ya Y - 16) (yb Y - 256)) F9) (A' := (sc (sc (ui (ui (ui (ui (ui (sc A 0 0) 7 (2 * A 6 0) x) 7 (2 * A 6 0 + 1) y) 8 (A 6 0) p) 9 (A 6 0) g) 17 (A 6 0) (-1)) 2 (w32 (A 2 0 - w32 (100 * p)))) 6 (A 6 0 + 1))) hR0 hN.2 hx hy hxy hp9 hg9 hB0 ⟨by
        show F9 2 (gup Y 8 q 0 8) = _
        rw [go10, ← hF9, u2_s]
        omega, hB2⟩ ⟨by
        show F9 913 (gup Y 8 q 0 0) = (sc (sc (ui (ui (ui (ui (ui (sc A 0 0) 7 (2 * A 6 0) x) 7 (2 * A 6 0 + 1) y) 8 (A 6 0) p) 9 (A 6 0) g) 17 (A 6 0) (-1)) 2 (w32 (A 2 0 - w32 (100 * p)))) 6 (A 6 0 + 1)) 2 0
        rw [go0, ← hF9]
        refine (u2_k (by decide)).trans ((u2_k (by decide)).trans ((u2_k (by decide)).trans ((u2_k (by decide)).trans ((u2_k (by decide)).trans ((u2_k (by decide)).trans ((u2_k (by decide)).trans ((u2_k (by decide)).trans ((u2_k (by decide)).trans ((u2_k (by decide)).trans ((u2_k (by decide)).trans ((u2_k (by decide)).trans ((u2_k (by decide)).trans ((u2_k (by decide)).trans ((u2_k (by decide)).trans ((zf_o (nq.1 0)).trans ((u2_s).trans (?_)))))))))))))))))
        rw [q1]
        exact ((sc_k (by decide)).trans (sc_s)).symm, by
        rw [show (sc (sc (ui (ui (ui (ui (ui (sc A 0 0) 7 (2 * A 6 0) x) 7 (2 * A 6 0 + 1) y) 8 (A 6 0) p) 9 (A 6 0) g) 17 (A 6 0) (-1)) 2 (w32 (A 2 0 - w32 (100 * p)))) 6 (A 6 0 + 1)) 2 0 = w32 (A 2 0 - w32 (100 * p)) from (sc_k (by decide)).trans (sc_s)]
        exact rg_w32 _⟩
      ((bw 200).trans ((f9 200 (by decide) (by decide)).trans ((u2_k (by decide)).trans ((u2_k (by decide)).trans ((u2_k (by decide)).trans (u2_s)))))) ((bw 201).trans ((f9 201 (by decide) (by decide)).trans ((u2_k (by decide)).trans ((u2_k (by decide)).trans (u2_s))))) ((bw 202).trans ((f9 202 (by decide) (by decide)).trans ((u2_k (by decide)).trans (u2_s)))) ((bw 203).trans ((f9 203 (by decide) (by decide)).trans (u2_s))) (fun k k0 k1 => by
        have : k = 204 ∨ k = 205 ∨ k = 206 ∨ k = 207 ∨ k = 208 ∨ k = 209 ∨ k = 210 := by omega
        rcases this with rfl | rfl | rfl | rfl | rfl | rfl | rfl
        · exact ((bw 204).trans ((f9 204 (by decide) (by decide)).trans ((u2_k (by decide)).trans ((u2_k (by decide)).trans ((u2_k (by decide)).trans ((u2_k (by decide)).trans ((u2_k (by decide)).trans ((u2_k (by decide)).trans ((u2_k (by decide)).trans ((u2_k (by decide)).trans ((u2_k (by decide)).trans ((u2_k (by decide)).trans ((u2_k (by decide)).trans ((u2_k (by decide)).trans (u2_s)))))))))))))))
        · exact ((bw 205).trans ((f9 205 (by decide) (by decide)).trans ((u2_k (by decide)).trans ((u2_k (by decide)).trans ((u2_k (by decide)).trans ((u2_k (by decide)).trans ((u2_k (by decide)).trans ((u2_k (by decide)).trans ((u2_k (by decide)).trans ((u2_k (by decide)).trans ((u2_k (by decide)).trans ((u2_k (by decide)).trans ((u2_k (by decide)).trans (u2_s))))))))))))))
        · exact ((bw 206).trans ((f9 206 (by decide) (by decide)).trans ((u2_k (by decide)).trans ((u2_k (by decide)).trans ((u2_k (by decide)).trans ((u2_k (by decide)).trans ((u2_k (by decide)).trans ((u2_k (by decide)).trans ((u2_k (by decide)).trans ((u2_k (by decide)).trans ((u2_k (by decide)).trans ((u2_k (by decide)).trans (u2_s)))))))))))))
        · exact ((bw 207).trans ((f9 207 (by decide) (by decide)).trans ((u2_k (by decide)).trans ((u2_k (by decide)).trans ((u2_k (by decide)).trans ((u2_k (by decide)).trans ((u2_k (by decide)).trans ((u2_k (by decide)).trans ((u2_k (by decide)).trans ((u2_k (by decide)).trans ((u2_k (by decide)).trans (u2_s))))))))))))
        · exact ((bw 208).trans ((f9 208 (by decide) (by decide)).trans ((u2_k (by decide)).trans ((u2_k (by decide)).trans ((u2_k (by decide)).trans ((u2_k (by decide)).trans ((u2_k (by decide)).trans ((u2_k (by decide)).trans ((u2_k (by decide)).trans ((u2_k (by decide)).trans (u2_s)))))))))))
        · exact ((bw 209).trans ((f9 209 (by decide) (by decide)).trans ((u2_k (by decide)).trans ((u2_k (by decide)).trans ((u2_k (by decide)).trans ((u2_k (by decide)).trans ((u2_k (by decide)).trans ((u2_k (by decide)).trans ((u2_k (by decide)).trans (u2_s))))))))))
        · exact ((bw 210).trans ((f9 210 (by decide) (by decide)).trans ((u2_k (by decide)).trans ((u2_k (by decide)).trans ((u2_k (by decide)).trans ((u2_k (by decide)).trans ((u2_k (by decide)).trans ((u2_k (by decide)).trans (u2_s)))))))))) ((bw 212).trans ((f9 212 (by decide) (by decide)).trans ((u2_k (by decide)).trans ((u2_k (by decide)).trans ((u2_k (by decide)).trans ((u2_k (by decide)).trans (u2_s)))))))
      (fun a j h => (sc_k (by omega)).trans ((sc_k (by omega)).trans ((ui_k (by omega)).trans ((ui_k (by omega)).trans ((ui_k (by omega)).trans ((ui_k (by omega)).trans ((ui_k (by omega)).trans (sc_k (by omega))))))))) (sc_s) ⟨(sc_k (by decide)).trans ((sc_k (by decide)).trans ((ui_k (by decide)).trans ((ui_k (by decide)).trans ((ui_k (by decide)).trans ((ui_j (by omega)).trans (ui_s)))))), (sc_k (by decide)).trans ((sc_k (by decide)).trans ((ui_k (by decide)).trans ((ui_k (by decide)).trans ((ui_k (by decide)).trans (ui_s))))), fun j hj => (sc_k (by decide)).trans ((sc_k (by decide)).trans ((ui_k (by decide)).trans ((ui_k (by decide)).trans ((ui_k (by decide)).trans ((ui_j hj.2).trans ((ui_j hj.1).trans (sc_k (by decide))))))))⟩ ⟨(sc_k (by decide)).trans ((sc_k (by decide)).trans ((ui_k (by decide)).trans ((ui_k (by decide)).trans (ui_s)))), fun j hj => (sc_k (by decide)).trans ((sc_k (by decide)).trans ((ui_k (by decide)).trans ((ui_k (by decide)).trans ((ui_j hj).trans ((ui_k (by decide)).trans ((ui_k (by decide)).trans (sc_k (by decide))))))))⟩ ⟨(sc_k (by decide)).trans ((sc_k (by decide)).trans ((ui_k (by decide)).trans (ui_s))), fun j hj => (sc_k (by decide)).trans ((sc_k (by decide)).trans ((ui_k (by decide)).trans ((ui_j hj).trans ((ui_k (by decide)).trans ((ui_k (by decide)).trans ((ui_k (by decide)).trans (sc_k (by decide))))))))⟩ ⟨(sc_k (by decide)).trans ((sc_k (by decide)).trans (ui_s)), fun j hj => (sc_k (by decide)).trans ((sc_k (by decide)).trans ((ui_j hj).trans ((ui_k (by decide)).trans ((ui_k (by decide)).trans ((ui_k (by decide)).trans ((ui_k (by decide)).trans (sc_k (by decide))))))))⟩
    have hpz : pz (sc (sc (ui (ui (ui (ui (ui (sc A 0 0) 7 (2 * A 6 0) x) 7 (2 * A 6 0 + 1) y) 8 (A 6 0) p) 9 (A 6 0) g) 17 (A 6 0) (-1)) 2 (w32 (A 2 0 - w32 (100 * p)))) 6 (A 6 0 + 1)) ≤ pz A + 2 := pz_fr ((sc_k (by decide)).trans ((sc_k (by decide)).trans ((ui_k (by decide)).trans ((ui_k (by decide)).trans ((ui_k (by decide)).trans ((ui_k (by decide)).trans ((ui_k (by decide)).trans (sc_k (by decide))))))))) (fun _ => (sc_k (by decide)).trans ((sc_k (by decide)).trans ((ui_k (by decide)).trans ((ui_k (by decide)).trans ((ui_k (by decide)).trans ((ui_k (by decide)).trans ((ui_k (by decide)).trans (sc_k (by decide))))))))) (fun _ => (sc_k (by decide)).trans ((sc_k (by decide)).trans ((ui_k (by decide)).trans ((ui_k (by decide)).trans ((ui_k (by decide)).trans ((ui_k (by decide)).trans ((ui_k (by decide)).trans (sc_k (by decide)))))))))
    refine T_X9_lay (F0 := F9) (I0 := ui I2 (yo Y) 0 (yc Y 8 : Int)) hM1 Fr.rf (fun z2 F2 I3 hF2 h => ?_) (by rw [eA]; exact m_lay hN hx hy hxy hp9 hg9 (Q := fun b A2 => b = (yc Y 8 : Int) ∧ A2 = (sc (sc (ui (ui (ui (ui (ui (sc A 0 0) 7 (2 * A 6 0) x) 7 (2 * A 6 0 + 1) y) 8 (A 6 0) p) 9 (A 6 0) g) 17 (A 6 0) (-1)) 2 (w32 (A 2 0 - w32 (100 * p)))) 6 (A 6 0 + 1))) ⟨c1, rfl⟩)
    obtain ⟨rfl, hA2⟩ := h
    have ht : F2 1000 (ym Y 0) = 0 := by
      have := congrFun (congrFun hA2 0) 0
      exact this
    refine ⟨hM1.1, ?_⟩
    refine ⟨fun _ => ⟨fun c9 => absurd rfl c9, fun _ => ⟨(hL2.out hC2).1, by decide, (hL2.out hC2).2, fun _ => ?_, fun c9 => absurd ?_ c9⟩⟩, fun c9 => absurd ht c9⟩
    · have eL : yc (Yup Y 8 q 0 e (ya Y - 16) (yb Y - 256)) 11 = yc Y 11 := cup_n (c := yc Y) (L := 8) (v := 11) (by decide)
      exact hk _ _ _ (lj_new (Y := Yup Y 8 q 0 e (ya Y - 16) (yb Y - 256)) (z := (yc Y 8 : Int)) go0.symm hz hL2 hC2 (by rw [eL]; show _ ≤ ya Y - 16; omega) (by rw [eL]; show _ ≤ yb Y - 256; omega) hR1 (by omega) (Or.inl rfl) hF2 hA2)
    · rw [hF2.2 (yo Y) (fun k hk9 => ((hL.ne.1 k hk9).1).symm), show ui _ (yo Y) 0 _ (yo Y) 0 = _ from ui_s, icmp_eq]

set_option maxRecDepth 20000 in
set_option maxHeartbeats 4000000 in
theorem law_offer {n : Nat} {G : Gp} {ln : Int} {scr : Int → Int} {k23 : Nat → Nat → Nat → Int → Shp → Fl → Il → Prop} {x1 x2 x3 : Nat} {x4 : Int} {S : Shp} {F : Fl} {I : Il} {Q : Int → Shp → Fl → Il → Prop} (hI : LJ (n + 1) G x1 x2 x3 S F I) (hs : ∀ z, rg (scr z)) (h4 : 0 ≤ x4) (h5 : x4 + 4 < ln) (h6 : ln ≤ 2560) (hk : ∀ (S' : Shp) (F' : Fl) (I' : Il), LJ n G x1 x2 x3 S' F' I' → k23 x1 x2 x3 (w32 (x4 + 5)) S' F' I') : V_L_law_1790 G ln scr k23 x1 x2 x3 x4 S F I Q := by
  obtain ⟨Y, it, LN, rfl, rfl, rfl, hz, hL, hC, ha, hb, hR, hp⟩ := hI
  unfold V_L_law_1790
  have e1 : w32 (x4 + 1) = x4 + 1 := w32_id (by unfold rg; omega)
  have e2 : w32 (x4 + 2) = x4 + 2 := w32_id (by unfold rg; omega)
  try rw [e1]
  try rw [e2]
  refine ⟨by omega, by omega, by omega, by omega, ?_⟩
  have hs1 := hs (x4 + 1)
  generalize scr (x4 + 1) = x at hs1
  have hs2 := hs (x4 + 2)
  generalize scr (x4 + 2) = y at hs2
  unfold V_L_offer V_X8_offer
  have exc : ∀ k : Int, (k = 1 ∨ k = 2 ∨ k = 3) → (∀ Q9 : Int → Il → Prop, Q9 0 (sc (mA (ym Y) (ym Y 0) F I) 0 k) → W_X9_offer x y (mA (ym Y) (ym Y 0) F I) Q9) → (0 : Int) ≤ x4 + 1 ∧ x4 + 1 < ln ∧ (0 : Int) ≤ x4 + 2 ∧ x4 + 2 < ln ∧ sK (thr S) (ym Y 0) = 10 ∧ V_X9_offer (ym Y 0) x y (thr S) F I (fun (z10 : Int) (F11 : Fl) (I12 : Il) => V_X9_thrown (ym Y 0) (thr S) F11 I12 (fun (z13 : Int) => ((z13 = k → ((¬ k = 0 → V_L_law_1855 G ln scr k23 (yg Y 0) (ym Y 0) (yo Y) x4 (thr S) F11 I12 Q) ∧ (k = 0 → sK (thr S) (yo Y) = 22 ∧ (0 : Int) ≤ 0 ∧ 0 < (sN (thr S) (yo Y) : Int) ∧ ((icmp (I12 (yo Y) 0) z10 = 0 → V_L_law_1855 G ln scr k23 (yg Y 0) (ym Y 0) (yo Y) x4 (thr S) F11 I12 Q) ∧ (¬ icmp (I12 (yo Y) 0) z10 = 0 → Q 0 (thr S) F11 I12))))) ∧ (¬ z13 = k → Q 0 (thr S) F11 I12)))) := fun k hk9 hm => by
    have hM1 : Ms (ym Y 0) (ym Y) (thr S) := Lm.ms (Y := dn Y) hL (cg_thr hC (by omega) (by omega))
    refine ⟨by omega, by omega, by omega, by omega, hM1.1, ?_⟩
    refine T_X9_offer (F0 := F) (I0 := I) hM1 Fr.rf (fun z2 F2 I2 hF2 h => ?_) (hm (fun b A2 => b = 0 ∧ A2 = sc (mA (ym Y) (ym Y 0) F I) 0 k) ⟨rfl, rfl⟩)
    obtain ⟨rfl, hA2⟩ := h
    have ht : F2 1000 (ym Y 0) = k := by
      have := congrFun (congrFun hA2 0) 0
      exact this.trans sc_s
    refine ⟨hM1.1, ?_⟩
    refine ⟨fun _ => ⟨fun _ => ?_, fun c9 => absurd c9 (by omega)⟩, fun c9 => absurd ht c9⟩
    have hpz := pz_thr (A := (mA (ym Y) (ym Y 0) F I)) (z := k)
    exact hk _ _ _ (lj_end hz hL hC (cg_thr hC (by omega) (by omega)) ha hb hR.thr (by omega) (z := 0) (Or.inr rfl) hF2 hA2)
  have hR' := hR
  obtain ⟨gG, gS, gB, g0, gH, gE, gC, gN, gK, ⟨⟨c1, c2, c3⟩, -⟩, gR, -⟩ := hR
  have c2 : F 2 (yg Y 12) = (mA (ym Y) (ym Y 0) F I) 54 0 := c2
  have ei : w32 (w32 (8 * x) + y) = 8 * x + y ∨ ¬ (0 ≤ x ∧ x < 8 ∧ 0 ≤ y ∧ y < 8) := by
    by_cases h : 0 ≤ x ∧ x < 8 ∧ 0 ≤ y ∧ y < 8
    · refine Or.inl ?_
      rw [show w32 (8 * x) = 8 * x from w32_id (by unfold rg; omega)]
      exact w32_id (by unfold rg; omega)
    · exact Or.inr h
  refine ⟨Cg.k hC rfl (by decide), Cg.k hC rfl (by decide), v_station hC (fun hx => v_station hC (fun hy => ⟨fun hxy => ?_, fun hxy => ?_⟩) (fun hy => Or.inl ⟨rfl, exc 1 (Or.inl rfl) (fun Q9 h9 => m_isStation1 hx (br_F (by decide) (m_isStation0 hy (bn_T rfl (by unfold W_X9_offer_15 W_X9_offer_42; exact br_F no1 h9)))))⟩)) (fun hx => Or.inl ⟨rfl, exc 1 (Or.inl rfl) (fun Q9 h9 => m_isStation0 hx (br_T rfl (by unfold W_X9_offer_15 W_X9_offer_42; exact br_F no1 h9)))⟩)⟩
  · unfold V_X8_offer_20
    exact v_arg hC (fun w => absurd rfl w) (fun _ => Or.inr (Or.inl ⟨rfl, exc 2 (Or.inr (Or.inl rfl)) (fun Q9 h9 => m_isStation1 hx (br_F (by decide) (m_isStation1 hy (bn_F (by decide) (bn_T hxy (by unfold W_X9_offer_42; exact br_F no2 h9))))))⟩))
  unfold V_X8_offer_20
  refine v_arg hC (fun _ => ?_) (fun w => absurd w (by decide))
  refine ⟨Cg.k hC rfl (by decide), _, Cg.r905 hC rfl, Cg.k hC rfl (by decide), Cg.k hC rfl (by decide), fun h6 => ?_, fun h6 => ?_⟩
  · unfold V_X8_offer_40
    exact v_state hC (fun w => absurd rfl w) (fun _ => Or.inr (Or.inr ⟨rfl, exc 3 (Or.inr (Or.inr rfl)) (fun Q9 h9 => m_isStation1 hx (br_F (by decide) (m_isStation1 hy (bn_F (by decide) (bn_F hxy (bn_T (by omega) (by unfold W_X9_offer_42; exact br_F no3 h9)))))))⟩))
  · have ei : w32 (w32 (8 * x) + y) = 8 * x + y := by
      rcases ei with h | h
      · exact h
      · exact absurd ⟨hx.1, hx.2, hy.1, hy.2⟩ h
    have nA : sN S (yg Y 3) = 64 := Cg.n hC (v := 3) (k := 20) rfl (Or.inl rfl)
    have nB : sN S (yg Y 4) = 64 := Cg.n hC (v := 4) (k := 20) rfl (Or.inl rfl)
    obtain ⟨rr1, rr2, rr3, rr4, -⟩ := gR (8 * x + y) (by omega) (by omega)
    have rr1 : I (yg Y 3) (8 * x + y) = mA (ym Y) (ym Y 0) F I 59 (8 * x + y) := rr1
    have rr2 : I (yg Y 4) (8 * x + y) = mA (ym Y) (ym Y 0) F I 59 (64 + (8 * x + y)) := rr2
    have hr9 : 1 ≤ mA (ym Y) (ym Y 0) F I 59 (8 * x + y) ∧ mA (ym Y) (ym Y 0) F I 59 (8 * x + y) ≤ 999 := ⟨rr3, rr4⟩
    unfold V_X8_offer_40
    rw [ei]
    refine v_state hC (fun _ => ?_) (fun w => absurd w (by decide))
    refine ⟨Cg.k hC rfl (by decide), yg Y 3, Cg.r907 hC rfl, Cg.k hC rfl (by decide), by omega, by rw [nA]; omega, yg Y 4, Cg.r908 hC rfl, Cg.k hC rfl (by decide), by omega, by rw [nB]; omega, fun hr1 => ?_, fun hr1 => ?_⟩
    rotate_left
    · have hM1 : Ms (ym Y 0) (ym Y) S := hL.ms hC
      rw [rr1, rr2] at hr1
      refine ⟨(hL.out hC).1, by decide, (hL.out hC).2, by omega, by omega, by omega, by omega, hM1.1, ?_⟩
      have eA : mA (ym Y) (ym Y 0) F (ui I (yo Y) 0 (-1)) = mA (ym Y) (ym Y 0) F I := mA_out hL
      refine T_X9_offer (F0 := F) (I0 := ui I (yo Y) 0 (-1)) hM1 Fr.rf (fun z2 F2 I2 hF2 h => ?_) (by rw [eA]; exact m_offer0 (by omega) hx hy hxy hr1 (Q := fun b A2 => b = -1 ∧ A2 = sc (mA (ym Y) (ym Y 0) F I) 0 0) ⟨rfl, rfl⟩)
      obtain ⟨rfl, hA2⟩ := h
      have ht : F2 1000 (ym Y 0) = 0 := by
        have := congrFun (congrFun hA2 0) 0
        exact this.trans sc_s
      refine ⟨hM1.1, ?_⟩
      refine ⟨fun _ => ⟨fun c9 => absurd rfl c9, fun _ => ⟨(hL.out hC).1, by decide, (hL.out hC).2, fun _ => ?_, fun c9 => absurd ?_ c9⟩⟩, fun c9 => absurd ht c9⟩
      · have hpz := pz_thr (A := mA (ym Y) (ym Y 0) F I) (z := 0)
        exact hk _ _ _ (lj_end hz hL hC (cg_dn0 hC (by omega) (by omega)) ha hb hR'.thr (by omega) (Or.inl rfl) hF2 hA2)
      · rw [hF2.2 (yo Y) (fun k hk9 => ((hL.ne.1 k hk9).1).symm), show ui _ (yo Y) 0 _ (yo Y) 0 = _ from ui_s, icmp_eq]
    rw [rr1, rr2] at hr1
    refine ⟨_, Cg.r905 hC rfl, Cg.sa hC, by have := hC.sb; omega, fun q hq => ?_⟩
    have nq := hC.nq hq
    have hF2 : (u2 (u2 (u2 (u2 (zF F q) 103 q 0) 100 q x) 101 q y) 102 q (I (yg Y 3) (8 * x + y))) 2 (yg Y 12) = (yc Y 12 : Int) := (u2_k (by decide)).trans ((u2_k (by decide)).trans ((u2_k (by decide)).trans ((u2_k (by decide)).trans ((zf_o (nq.1 12)).trans (c2.trans c1)))))
    refine ⟨(va_up_ne _ _ (nq.1 0)).trans (Cg.k hC rfl (by decide)), yg Y 3, (if_neg (nq.1 0)).trans (Cg.r907 hC rfl), (va_up_ne _ _ (nq.1 3)).trans (Cg.k hC rfl (by decide)), by omega, by show 8 * x + y < (sN S (yg Y 3) : Int); rw [nA]; omega, va_up_self _ _ _, (va_up_ne _ _ (nq.1 12)).trans (Cg.k hC rfl (by decide)), take_T (L := 12) hC hz (by decide) (by decide) hR'.caps (by show yc Y 12 < 40; omega) (by omega) (by omega) hq hF2 (fun e S2 I2 z9 hC2 hI2 => ?_)⟩
    have b10 : bs 12 = 180 := rfl
    have go0 : gup Y 12 q 0 0 = yg Y 0 := gup_o (by decide) (by omega)
    have go10 : gup Y 12 q 0 12 = yg Y 12 := gup_o (by decide) (by omega)
    have s0 : sK S2 (yg Y 0) = 9 := by rw [← go0]; exact Cg.k hC2 (v := 0) rfl (by decide)
    have r0 : sR S2 905 (yg Y 0) = some (yg Y 12) := by rw [← go0, ← go10]; exact Cg.r905 hC2 (v := 0) rfl
    have s10 : sK S2 (yg Y 12) = 0 := by rw [← go10]; exact Cg.k hC2 (v := 12) rfl (by decide)
    refine ⟨s0, _, r0, s10, s10, ?_⟩
    rw [u2_s]
    dsimp only
    rw [show w32 ((yc Y 12 : Int) + 1 - 1) = (yc Y 12 : Int) from (w32_id (by unfold rg; omega)).trans (by omega)]
    have hL2 : Lm (Yup Y 12 q 0 e (ya Y - 16) (yb Y - 256)) := hL
    have hM1 : Ms (ym Y 0) (ym Y) S2 := hL2.ms hC2
    refine ⟨(hL2.out hC2).1, by decide, (hL2.out hC2).2, by omega, by omega, by omega, by omega, hM1.1, ?_⟩
    generalize hF9 : u2 (u2 (u2 (u2 (u2 (u2 (zF F q) 103 q 0) 100 q x) 101 q y) 102 q (I (yg Y 3) (8 * x + y))) 0 (yg Y 12) z9) 2 (yg Y 12) ((yc Y 12 : Int) + 1) = F9
    have eA : mA (ym Y) (ym Y 0) F9 (ui I2 (yo Y) 0 (yc Y 12 : Int)) = mA (ym Y) (ym Y 0) F I := (mA_out hL).trans (mA_lv hC hL (fun k hk9 => by
      rw [← hF9]
      exact (u2_k (by omega)).trans ((u2_k (by omega)).trans ((u2_k (by omega)).trans ((u2_k (by omega)).trans ((u2_k (by omega)).trans ((u2_k (by omega)).trans (zf_o nq.2.2.2.2))))))) hI2)
    obtain ⟨B0, hR0, hB0, hB2⟩ := lv_T (F1 := (u2 (u2 (u2 (u2 (zF F q) 103 q 0) 100 q x) 101 q y) 102 q (I (yg Y 3) (8 * x + y)))) (L := 12) (e := e) (a := ya Y - 16) (b := yb Y - 256) (z := z9) (w := (yc Y 12 : Int) + 1) hR' hC (by decide) (by decide) (by show yc Y 12 < 40; omega) hq (fun k v hv hk9 => (u2_w hv).trans ((u2_w hv).trans ((u2_w hv).trans ((u2_w hv).trans (zf_o hv))))) hI2
    rw [hF9] at hB0 hB2
    have eT : 180 + ((mA (ym Y) (ym Y 0) F I) 54 0).toNat = bs 12 + yc Y 12 := by omega
    have f9 : ∀ k, k ≠ 0 → k ≠ 2 → F9 k q = (u2 (u2 (u2 (u2 (zF F q) 103 q 0) 100 q x) 101 q y) 102 q (I (yg Y 3) (8 * x + y))) k q := fun k k0 k2 => by
      rw [← hF9]
      exact (u2_k k2).trans (u2_k k0)
    have bw : ∀ k, Bc (Yup Y 12 q 0 e (ya Y - 16) (yb Y - 256)) F9 k (180 + ((mA (ym Y) (ym Y 0) F I) 54 0).toNat) = F9 k q := fun k => by
      rw [eT]
      show F9 k (gup Y 12 q 0 (bs 12 + yc Y 12)) = F9 k q
      rw [gup_w]
    have q1 : F 913 (yg Y 0) = (mA (ym Y) (ym Y 0) F I) 2 0 := gG.2.1
    have q2 : rg ((mA (ym Y) (ym Y 0) F I) 2 0) := gG.2.2.2.2.2.1
    generalize hA9 : mA (ym Y) (ym Y 0) F I = A at *
    have hN : 0 ≤ A 54 0 ∧ A 54 0 < 40 := by omega
    have hR1 := offer_rep (B' := Bc (Yup Y 12 q 0 e (ya Y - 16) (yb Y - 256)) F9) (A' := (sc (ui (ui (ui (sc A 0 0) 55 (A 54 0) x) 56 (A 54 0) y) 57 (A 54 0) (A 59 (8 * x + y))) 54 (A 54 0 + 1))) hR0 hN.2 hx hy hr9 hB0 ⟨by
        show F9 2 (gup Y 12 q 0 12) = _
        rw [go10, ← hF9, u2_s]
        omega, hB2⟩ ⟨by
        show F9 913 (gup Y 12 q 0 0) = A 2 0
        rw [go0, ← hF9]
        exact (u2_k (by decide)).trans ((u2_k (by decide)).trans ((u2_k (by decide)).trans ((u2_k (by decide)).trans ((u2_k (by decide)).trans ((u2_k (by decide)).trans ((zf_o (nq.1 0)).trans (q1))))))), q2⟩
      ((bw 100).trans ((f9 100 (by decide) (by decide)).trans ((u2_k (by decide)).trans ((u2_k (by decide)).trans (u2_s))))) ((bw 101).trans ((f9 101 (by decide) (by decide)).trans ((u2_k (by decide)).trans (u2_s)))) ((bw 102).trans ((f9 102 (by decide) (by decide)).trans (u2_s.trans rr1))) ((bw 103).trans ((f9 103 (by decide) (by decide)).trans ((u2_k (by decide)).trans ((u2_k (by decide)).trans ((u2_k (by decide)).trans (u2_s))))))
      (fun a j h => (sc_k (by omega)).trans ((ui_k (by omega)).trans ((ui_k (by omega)).trans ((ui_k (by omega)).trans (sc_k (by omega)))))) (sc_s) ⟨(sc_k (by decide)).trans ((ui_k (by decide)).trans ((ui_k (by decide)).trans (ui_s))), fun j hj => (sc_k (by decide)).trans ((ui_k (by decide)).trans ((ui_k (by decide)).trans ((ui_j hj).trans (sc_k (by decide)))))⟩ ⟨(sc_k (by decide)).trans ((ui_k (by decide)).trans (ui_s)), fun j hj => (sc_k (by decide)).trans ((ui_k (by decide)).trans ((ui_j hj).trans ((ui_k (by decide)).trans (sc_k (by decide)))))⟩ ⟨(sc_k (by decide)).trans (ui_s), fun j hj => (sc_k (by decide)).trans ((ui_j hj).trans ((ui_k (by decide)).trans ((ui_k (by decide)).trans (sc_k (by decide)))))⟩
    have hpz : pz (sc (ui (ui (ui (sc A 0 0) 55 (A 54 0) x) 56 (A 54 0) y) 57 (A 54 0) (A 59 (8 * x + y))) 54 (A 54 0 + 1)) ≤ pz A + 2 := pz_fr ((sc_k (by decide)).trans ((ui_k (by decide)).trans ((ui_k (by decide)).trans ((ui_k (by decide)).trans (sc_k (by decide)))))) (fun _ => (sc_k (by decide)).trans ((ui_k (by decide)).trans ((ui_k (by decide)).trans ((ui_k (by decide)).trans (sc_k (by decide)))))) (fun _ => (sc_k (by decide)).trans ((ui_k (by decide)).trans ((ui_k (by decide)).trans ((ui_k (by decide)).trans (sc_k (by decide))))))
    refine T_X9_offer (F0 := F9) (I0 := ui I2 (yo Y) 0 (yc Y 12 : Int)) hM1 Fr.rf (fun z2 F2 I3 hF2 h => ?_) (by rw [eA]; exact m_offer hN hx hy hxy hr1 (Q := fun b A2 => b = (yc Y 12 : Int) ∧ A2 = (sc (ui (ui (ui (sc A 0 0) 55 (A 54 0) x) 56 (A 54 0) y) 57 (A 54 0) (A 59 (8 * x + y))) 54 (A 54 0 + 1))) ⟨c1, rfl⟩)
    obtain ⟨rfl, hA2⟩ := h
    have ht : F2 1000 (ym Y 0) = 0 := by
      have := congrFun (congrFun hA2 0) 0
      exact this
    refine ⟨hM1.1, ?_⟩
    refine ⟨fun _ => ⟨fun c9 => absurd rfl c9, fun _ => ⟨(hL2.out hC2).1, by decide, (hL2.out hC2).2, fun _ => ?_, fun c9 => absurd ?_ c9⟩⟩, fun c9 => absurd ht c9⟩
    · have eL : yc (Yup Y 12 q 0 e (ya Y - 16) (yb Y - 256)) 11 = yc Y 11 := cup_n (c := yc Y) (L := 12) (v := 11) (by decide)
      exact hk _ _ _ (lj_new (Y := Yup Y 12 q 0 e (ya Y - 16) (yb Y - 256)) (z := (yc Y 12 : Int)) go0.symm hz hL2 hC2 (by rw [eL]; show _ ≤ ya Y - 16; omega) (by rw [eL]; show _ ≤ yb Y - 256; omega) hR1 (by omega) (Or.inl rfl) hF2 hA2)
    · rw [hF2.2 (yo Y) (fun k hk9 => ((hL.ne.1 k hk9).1).symm), show ui _ (yo Y) 0 _ (yo Y) 0 = _ from ui_s, icmp_eq]

