/-! blocks, engines, crews, cars made beside the reference's -/
set_option maxRecDepth 20000 in
set_option maxHeartbeats 4000000 in
theorem v_crew {n : Nat} {G : Gp} {x9 : Nat} {la : Nat → Nat} {A : Il} {S : Shp} {F : Fl} {I : Il} {s : Int} {Q : Int → Shp → Fl → Il → Prop} {QX : String → Shp → Fl → Il → Prop} (hP : VP (n + 1) G x9 la A S F I) (hx : 0 ≤ s ∧ s < 8) (h23 : A 23 0 < 6) (hk : ∀ (S' : Shp) (F' : Fl) (I' : Il), VP n G x9 la (sc (ui (ui (sc A 0 0) 24 (A 23 0) s) 25 (A 23 0) (-1)) 23 (A 23 0 + 1)) S' F' I' → lA la I' = lA la I → Q (A 23 0) S' F' I') : V_X8_crew G x9 s S F I Q QX := by
  have hP9 := hP
  obtain ⟨Y, it, LN, rfl, hla0, hz, hLs, hC, ha, hb, hR, hp⟩ := hP
  have hla : ∀ _ : Unit, la 0 = ym Y 0 ∧ la 1 = ym Y 1 ∧ la 2 = ym Y 2 ∧ la 3 = yo Y := fun _ => hla0
  clear hla0
  unfold V_X8_crew
  have hR' := hR
  obtain ⟨gG, gS, gB, g0, gH, gE, ⟨⟨c1, c2, c3⟩, -⟩, gN, gK, gL, gR, -⟩ := hR
  have c2 : F 2 (yg Y 10) = A 23 0 := c2
  refine ⟨Cg.k hC rfl (by decide), v_station hC (fun _ => ?_) (fun w => absurd hx w)⟩
  refine ⟨_, Cg.r903 hC rfl, Cg.k hC rfl (by decide), Cg.k hC rfl (by decide), fun h6 => ?_, fun h6 => ?_⟩
  · exfalso; omega
  · unfold V_X8_crew_22
    refine v_state hC (fun _ => ?_) (fun w => absurd w (by decide))
    refine ⟨Cg.k hC rfl (by decide), _, Cg.r903 hC rfl, Cg.sa hC, by have := hC.sb; omega, fun q hq => ?_⟩
    have nq := hC.nq hq
    have hF2 : (u2 (u2 (u2 (u2 (u2 (zF F q) 401 q (-1)) 402 q 0) 403 q 0) 404 q 0) 400 q s) 2 (yg Y 10) = (yc Y 10 : Int) := (u2_k (by decide)).trans ((u2_k (by decide)).trans ((u2_k (by decide)).trans ((u2_k (by decide)).trans ((u2_k (by decide)).trans ((zf_o (nq.1 10)).trans (c2.trans c1))))))
    refine ⟨va_up_self _ _ _, (va_up_ne _ _ (nq.1 10)).trans (Cg.k hC rfl (by decide)), take_T (L := 10) hC hz (by decide) (by decide) hR'.caps (by show yc Y 10 < 6; omega) (by omega) (by omega) hq hF2 (fun e S2 I2 z9 hC2 hI2 => ?_)⟩
    have b10 : bs 10 = 130 := rfl
    have go0 : gup Y 10 q 0 0 = yg Y 0 := gup_o (by decide) (by omega)
    have go10 : gup Y 10 q 0 10 = yg Y 10 := gup_o (by decide) (by omega)
    have s0 : sK S2 (yg Y 0) = 9 := by rw [← go0]; exact Cg.k hC2 (v := 0) rfl (by decide)
    have r0 : sR S2 903 (yg Y 0) = some (yg Y 10) := by rw [← go0, ← go10]; exact Cg.r903 hC2 (v := 0) rfl
    have s10 : sK S2 (yg Y 10) = 0 := by rw [← go10]; exact Cg.k hC2 (v := 10) rfl (by decide)
    refine ⟨s0, _, r0, s10, s10, ?_⟩
    rw [u2_s]
    dsimp only
    rw [show w32 ((yc Y 10 : Int) + 1 - 1) = (yc Y 10 : Int) from (w32_id (by unfold rg; omega)).trans (by omega)]
    generalize hF9 : u2 (u2 (u2 (u2 (u2 (u2 (u2 (zF F q) 401 q (-1)) 402 q 0) 403 q 0) 404 q 0) 400 q s) 0 (yg Y 10) z9) 2 (yg Y 10) ((yc Y 10 : Int) + 1) = F9
    obtain ⟨B0, hR0, hB0, hB2⟩ := lv_T (F1 := (u2 (u2 (u2 (u2 (u2 (zF F q) 401 q (-1)) 402 q 0) 403 q 0) 404 q 0) 400 q s)) (L := 10) (e := e) (a := ya Y - 16) (b := yb Y - 256) (z := z9) (w := (yc Y 10 : Int) + 1) hR' hC (by decide) (by decide) (by show yc Y 10 < 6; omega) hq (fun k v hv hk9 => (u2_w hv).trans ((u2_w hv).trans ((u2_w hv).trans ((u2_w hv).trans ((u2_w hv).trans (zf_o hv)))))) hI2
    rw [hF9] at hB0 hB2
    have eT : 130 + (A 23 0).toNat = bs 10 + yc Y 10 := by omega
    have f9 : ∀ k, k ≠ 0 → k ≠ 2 → F9 k q = (u2 (u2 (u2 (u2 (u2 (zF F q) 401 q (-1)) 402 q 0) 403 q 0) 404 q 0) 400 q s) k q := fun k k0 k2 => by
      rw [← hF9]
      exact (u2_k k2).trans (u2_k k0)
    have bw : ∀ k, Bc (Yup Y 10 q 0 e (ya Y - 16) (yb Y - 256)) F9 k (130 + (A 23 0).toNat) = F9 k q := fun k => by
      rw [eT]
      show F9 k (gup Y 10 q 0 (bs 10 + yc Y 10)) = F9 k q
      rw [gup_w]
    have q1 : F 913 (yg Y 0) = A 2 0 := gG.2.1
    have q2 : rg (A 2 0) := gG.2.2.2.2.2.1
    have hN : 0 ≤ A 23 0 ∧ A 23 0 < 6 := by omega
    have hR1 := crew_rep (B' := Bc (Yup Y 10 q 0 e (ya Y - 16) (yb Y - 256)) F9) (A' := (sc (ui (ui (sc A 0 0) 24 (A 23 0) s) 25 (A 23 0) (-1)) 23 (A 23 0 + 1))) hR0 hN.2 hx hB0 ⟨by
        show F9 2 (gup Y 10 q 0 10) = _
        rw [go10, ← hF9, u2_s]
        omega, hB2⟩ ⟨by
        show F9 913 (gup Y 10 q 0 0) = A 2 0
        rw [go0, ← hF9]
        exact (u2_k (by decide)).trans ((u2_k (by decide)).trans ((u2_k (by decide)).trans ((u2_k (by decide)).trans ((u2_k (by decide)).trans ((u2_k (by decide)).trans ((u2_k (by decide)).trans ((zf_o (nq.1 0)).trans (q1)))))))), q2⟩
      ((bw 400).trans ((f9 400 (by decide) (by decide)).trans (u2_s))) ((bw 401).trans ((f9 401 (by decide) (by decide)).trans ((u2_k (by decide)).trans ((u2_k (by decide)).trans ((u2_k (by decide)).trans ((u2_k (by decide)).trans (u2_s))))))) ((bw 402).trans ((f9 402 (by decide) (by decide)).trans ((u2_k (by decide)).trans ((u2_k (by decide)).trans ((u2_k (by decide)).trans (u2_s)))))) ((bw 403).trans ((f9 403 (by decide) (by decide)).trans ((u2_k (by decide)).trans ((u2_k (by decide)).trans (u2_s))))) ((bw 404).trans ((f9 404 (by decide) (by decide)).trans ((u2_k (by decide)).trans (u2_s))))
      (fun a j h => (sc_k (by omega)).trans ((ui_k (by omega)).trans ((ui_k (by omega)).trans (sc_k (by omega))))) (sc_s) ⟨(sc_k (by decide)).trans ((ui_k (by decide)).trans (ui_s)), fun j hj => (sc_k (by decide)).trans ((ui_k (by decide)).trans ((ui_j hj).trans (sc_k (by decide))))⟩ ⟨(sc_k (by decide)).trans (ui_s), fun j hj => (sc_k (by decide)).trans ((ui_j hj).trans ((ui_k (by decide)).trans (sc_k (by decide))))⟩
    have hpz : pz (sc (ui (ui (sc A 0 0) 24 (A 23 0) s) 25 (A 23 0) (-1)) 23 (A 23 0 + 1)) ≤ pz A + 2 := pz_fr ((sc_k (by decide)).trans ((ui_k (by decide)).trans ((ui_k (by decide)).trans (sc_k (by decide))))) (fun _ => (sc_k (by decide)).trans ((ui_k (by decide)).trans ((ui_k (by decide)).trans (sc_k (by decide))))) (fun _ => (sc_k (by decide)).trans ((ui_k (by decide)).trans ((ui_k (by decide)).trans (sc_k (by decide)))))
    have eL : yc (Yup Y 10 q 0 e (ya Y - 16) (yb Y - 256)) 11 = yc Y 11 := cup_n (c := yc Y) (L := 10) (v := 11) (by decide)
    rw [← c1]
    refine hk _ _ _ ⟨Yup Y 10 q 0 e (ya Y - 16) (yb Y - 256), it, LN, go0.symm, hla (), hz, hLs, hC2, by rw [eL]; show _ ≤ ya Y - 16; omega, by rw [eL]; show _ ≤ yb Y - 256; omega, hR1, by omega⟩ ?_
    funext k j
    show (if k < 4 then I2 (la k) j else 0) = if k < 4 then I (la k) j else 0
    by_cases hk4 : k < 4
    · rw [if_pos hk4, if_pos hk4]
      exact hI2 _ (by rw [(VP.ls hP9).k hk4]; decide) j
    · rw [if_neg hk4, if_neg hk4]

set_option maxRecDepth 20000 in
set_option maxHeartbeats 4000000 in
theorem v_engine {n : Nat} {G : Gp} {x9 : Nat} {la : Nat → Nat} {A : Il} {S : Shp} {F : Fl} {I : Il} {s p : Int} {Q : Int → Shp → Fl → Il → Prop} {QX : String → Shp → Fl → Il → Prop} (hP : VP (n + 1) G x9 la A S F I) (hx : 0 ≤ s ∧ s < 8) (hp9 : 1 ≤ p ∧ p ≤ 9) (h19 : A 19 0 < 6) (hk : ∀ (S' : Shp) (F' : Fl) (I' : Il), VP n G x9 la (sc (sc (ui (ui (ui (sc A 0 0) 20 (A 19 0) p) 21 (A 19 0) s) 22 (A 19 0) (-1)) 2 (w32 (A 2 0 - w32 (100 * p)))) 19 (A 19 0 + 1)) S' F' I' → lA la I' = lA la I → Q (A 19 0) S' F' I') : V_X8_engine G x9 s p S F I Q QX := by
  have hP9 := hP
  obtain ⟨Y, it, LN, rfl, hla0, hz, hLs, hC, ha, hb, hR, hp⟩ := hP
  have hla : ∀ _ : Unit, la 0 = ym Y 0 ∧ la 1 = ym Y 1 ∧ la 2 = ym Y 2 ∧ la 3 = yo Y := fun _ => hla0
  clear hla0
  unfold V_X8_engine
  have hR' := hR
  obtain ⟨gG, gS, gB, g0, gH, ⟨⟨c1, c2, c3⟩, -⟩, gC, gN, gK, gL, gR, -⟩ := hR
  have c2 : F 2 (yg Y 9) = A 19 0 := c2
  refine ⟨Cg.k hC rfl (by decide), v_station hC (fun _ => v_range hC (fun _ => ?_) (fun w => absurd hp9 w)) (fun w => absurd hx w)⟩
  refine ⟨_, Cg.r902 hC rfl, Cg.k hC rfl (by decide), Cg.k hC rfl (by decide), fun h6 => ?_, fun h6 => ?_⟩
  · exfalso; omega
  · unfold V_X8_engine_29
    refine v_state hC (fun _ => ?_) (fun w => absurd w (by decide))
    refine ⟨Cg.k hC rfl (by decide), _, Cg.r902 hC rfl, Cg.sa hC, by have := hC.sb; omega, fun q hq => ?_⟩
    have nq := hC.nq hq
    have hF2 : (u2 (u2 (u2 (zF (u2 F 913 (yg Y 0) (w32 ((F 913 (yg Y 0)) - (w32 (100 * p))))) q) 502 q (-1)) 501 q s) 500 q p) 2 (yg Y 9) = (yc Y 9 : Int) := (u2_k (by decide)).trans ((u2_k (by decide)).trans ((u2_k (by decide)).trans ((zf_o (nq.1 9)).trans ((u2_k (by omega)).trans (c2.trans c1)))))
    refine ⟨va_up_self _ _ _, (va_up_ne _ _ (nq.1 9)).trans (Cg.k hC rfl (by decide)), take_T (L := 9) hC hz (by decide) (by decide) hR'.caps (by show yc Y 9 < 6; omega) (by omega) (by omega) hq hF2 (fun e S2 I2 z9 hC2 hI2 => ?_)⟩
    have b10 : bs 9 = 120 := rfl
    have go0 : gup Y 9 q 0 0 = yg Y 0 := gup_o (by decide) (by omega)
    have go10 : gup Y 9 q 0 9 = yg Y 9 := gup_o (by decide) (by omega)
    have s0 : sK S2 (yg Y 0) = 9 := by rw [← go0]; exact Cg.k hC2 (v := 0) rfl (by decide)
    have r0 : sR S2 902 (yg Y 0) = some (yg Y 9) := by rw [← go0, ← go10]; exact Cg.r902 hC2 (v := 0) rfl
    have s10 : sK S2 (yg Y 9) = 0 := by rw [← go10]; exact Cg.k hC2 (v := 9) rfl (by decide)
    refine ⟨s0, _, r0, s10, s10, ?_⟩
    rw [u2_s]
    dsimp only
    rw [show w32 ((yc Y 9 : Int) + 1 - 1) = (yc Y 9 : Int) from (w32_id (by unfold rg; omega)).trans (by omega)]
    generalize hF9 : u2 (u2 (u2 (u2 (u2 (zF (u2 F 913 (yg Y 0) (w32 ((F 913 (yg Y 0)) - (w32 (100 * p))))) q) 502 q (-1)) 501 q s) 500 q p) 0 (yg Y 9) z9) 2 (yg Y 9) ((yc Y 9 : Int) + 1) = F9
    obtain ⟨B0, hR0, hB0, hB2⟩ := lv_T (F1 := (u2 (u2 (u2 (zF (u2 F 913 (yg Y 0) (w32 ((F 913 (yg Y 0)) - (w32 (100 * p))))) q) 502 q (-1)) 501 q s) 500 q p)) (L := 9) (e := e) (a := ya Y - 16) (b := yb Y - 256) (z := z9) (w := (yc Y 9 : Int) + 1) hR' hC (by decide) (by decide) (by show yc Y 9 < 6; omega) hq (fun k v hv hk9 => (u2_w hv).trans ((u2_w hv).trans ((u2_w hv).trans ((zf_o hv).trans (u2_k (by omega)))))) hI2
    rw [hF9] at hB0 hB2
    have eT : 120 + (A 19 0).toNat = bs 9 + yc Y 9 := by omega
    have f9 : ∀ k, k ≠ 0 → k ≠ 2 → F9 k q = (u2 (u2 (u2 (zF (u2 F 913 (yg Y 0) (w32 ((F 913 (yg Y 0)) - (w32 (100 * p))))) q) 502 q (-1)) 501 q s) 500 q p) k q := fun k k0 k2 => by
      rw [← hF9]
      exact (u2_k k2).trans (u2_k k0)
    have bw : ∀ k, Bc (Yup Y 9 q 0 e (ya Y - 16) (yb Y - 256)) F9 k (120 + (A 19 0).toNat) = F9 k q := fun k => by
      rw [eT]
      show F9 k (gup Y 9 q 0 (bs 9 + yc Y 9)) = F9 k q
      rw [gup_w]
    have q1 : F 913 (yg Y 0) = A 2 0 := gG.2.1
    have q2 : rg (A 2 0) := gG.2.2.2.2.2.1
    have hN : 0 ≤ A 19 0 ∧ A 19 0 < 6 := by omega
    have hR1 := engine_rep (B' := Bc (Yup Y 9 q 0 e (ya Y - 16) (yb Y - 256)) F9) (A' := (sc (sc (ui (ui (ui (sc A 0 0) 20 (A 19 0) p) 21 (A 19 0) s) 22 (A 19 0) (-1)) 2 (w32 (A 2 0 - w32 (100 * p)))) 19 (A 19 0 + 1))) hR0 hN.2 hx hp9 hB0 ⟨by
        show F9 2 (gup Y 9 q 0 9) = _
        rw [go10, ← hF9, u2_s]
        omega, hB2⟩ ⟨by
        show F9 913 (gup Y 9 q 0 0) = (sc (sc (ui (ui (ui (sc A 0 0) 20 (A 19 0) p) 21 (A 19 0) s) 22 (A 19 0) (-1)) 2 (w32 (A 2 0 - w32 (100 * p)))) 19 (A 19 0 + 1)) 2 0
        rw [go0, ← hF9]
        refine (u2_k (by decide)).trans ((u2_k (by decide)).trans ((u2_k (by decide)).trans ((u2_k (by decide)).trans ((u2_k (by decide)).trans ((zf_o (nq.1 0)).trans ((u2_s).trans (?_)))))))
        rw [q1]
        exact ((sc_k (by decide)).trans (sc_s)).symm, by
        rw [show (sc (sc (ui (ui (ui (sc A 0 0) 20 (A 19 0) p) 21 (A 19 0) s) 22 (A 19 0) (-1)) 2 (w32 (A 2 0 - w32 (100 * p)))) 19 (A 19 0 + 1)) 2 0 = w32 (A 2 0 - w32 (100 * p)) from (sc_k (by decide)).trans (sc_s)]
        exact rg_w32 _⟩
      ((bw 500).trans ((f9 500 (by decide) (by decide)).trans (u2_s))) ((bw 501).trans ((f9 501 (by decide) (by decide)).trans ((u2_k (by decide)).trans (u2_s)))) ((bw 502).trans ((f9 502 (by decide) (by decide)).trans ((u2_k (by decide)).trans ((u2_k (by decide)).trans (u2_s)))))
      (fun a j h => (sc_k (by omega)).trans ((sc_k (by omega)).trans ((ui_k (by omega)).trans ((ui_k (by omega)).trans ((ui_k (by omega)).trans (sc_k (by omega))))))) (sc_s) ⟨(sc_k (by decide)).trans ((sc_k (by decide)).trans ((ui_k (by decide)).trans ((ui_k (by decide)).trans (ui_s)))), fun j hj => (sc_k (by decide)).trans ((sc_k (by decide)).trans ((ui_k (by decide)).trans ((ui_k (by decide)).trans ((ui_j hj).trans (sc_k (by decide))))))⟩ ⟨(sc_k (by decide)).trans ((sc_k (by decide)).trans ((ui_k (by decide)).trans (ui_s))), fun j hj => (sc_k (by decide)).trans ((sc_k (by decide)).trans ((ui_k (by decide)).trans ((ui_j hj).trans ((ui_k (by decide)).trans (sc_k (by decide))))))⟩ ⟨(sc_k (by decide)).trans ((sc_k (by decide)).trans (ui_s)), fun j hj => (sc_k (by decide)).trans ((sc_k (by decide)).trans ((ui_j hj).trans ((ui_k (by decide)).trans ((ui_k (by decide)).trans (sc_k (by decide))))))⟩
    have hpz : pz (sc (sc (ui (ui (ui (sc A 0 0) 20 (A 19 0) p) 21 (A 19 0) s) 22 (A 19 0) (-1)) 2 (w32 (A 2 0 - w32 (100 * p)))) 19 (A 19 0 + 1)) ≤ pz A + 2 := pz_fr ((sc_k (by decide)).trans ((sc_k (by decide)).trans ((ui_k (by decide)).trans ((ui_k (by decide)).trans ((ui_k (by decide)).trans (sc_k (by decide))))))) (fun _ => (sc_k (by decide)).trans ((sc_k (by decide)).trans ((ui_k (by decide)).trans ((ui_k (by decide)).trans ((ui_k (by decide)).trans (sc_k (by decide))))))) (fun _ => (sc_k (by decide)).trans ((sc_k (by decide)).trans ((ui_k (by decide)).trans ((ui_k (by decide)).trans ((ui_k (by decide)).trans (sc_k (by decide)))))))
    have eL : yc (Yup Y 9 q 0 e (ya Y - 16) (yb Y - 256)) 11 = yc Y 11 := cup_n (c := yc Y) (L := 9) (v := 11) (by decide)
    rw [← c1]
    refine hk _ _ _ ⟨Yup Y 9 q 0 e (ya Y - 16) (yb Y - 256), it, LN, go0.symm, hla (), hz, hLs, hC2, by rw [eL]; show _ ≤ ya Y - 16; omega, by rw [eL]; show _ ≤ yb Y - 256; omega, hR1, by omega⟩ ?_
    funext k j
    show (if k < 4 then I2 (la k) j else 0) = if k < 4 then I (la k) j else 0
    by_cases hk4 : k < 4
    · rw [if_pos hk4, if_pos hk4]
      exact hI2 _ (by rw [(VP.ls hP9).k hk4]; decide) j
    · rw [if_neg hk4, if_neg hk4]

set_option maxRecDepth 20000 in
set_option maxHeartbeats 4000000 in
theorem v_lay {n : Nat} {G : Gp} {x9 : Nat} {la : Nat → Nat} {A : Il} {S : Shp} {F : Fl} {I : Il} {x y p g : Int} {Q : Int → Shp → Fl → Il → Prop} {QX : String → Shp → Fl → Il → Prop} (hP : VP (n + 1) G x9 la A S F I) (hx : 0 ≤ x ∧ x < 8) (hy : 0 ≤ y ∧ y < 8) (hxy : x ≠ y) (hp9 : 2 ≤ p ∧ p ≤ 60) (hg9 : 0 ≤ g ∧ g ≤ 3) (h16 : A 6 0 < 16) (hk : ∀ (S' : Shp) (F' : Fl) (I' : Il), VP n G x9 la (sc (sc (ui (ui (ui (ui (ui (sc A 0 0) 7 (2 * A 6 0) x) 7 (2 * A 6 0 + 1) y) 8 (A 6 0) p) 9 (A 6 0) g) 17 (A 6 0) (-1)) 2 (w32 (A 2 0 - w32 (100 * p)))) 6 (A 6 0 + 1)) S' F' I' → lA la I' = lA la I → Q (A 6 0) S' F' I') : V_X8_lay G x9 x y p g S F I Q QX := by
  have hP9 := hP
  obtain ⟨Y, it, LN, rfl, hla0, hz, hLs, hC, ha, hb, hR, hp⟩ := hP
  have hla : ∀ _ : Unit, la 0 = ym Y 0 ∧ la 1 = ym Y 1 ∧ la 2 = ym Y 2 ∧ la 3 = yo Y := fun _ => hla0
  clear hla0
  unfold V_X8_lay
  have hR' := hR
  obtain ⟨gG, gS, ⟨⟨c1, c2, c3⟩, -⟩, g0, gH, gE, gC, gN, gK, gL, gR, -⟩ := hR
  have c2 : F 2 (yg Y 8) = A 6 0 := c2
  refine ⟨Cg.k hC rfl (by decide), v_station hC (fun _ => v_station hC (fun _ => ⟨fun w => absurd w hxy, fun _ => ?_⟩) (fun w => absurd hy w)) (fun w => absurd hx w)⟩
  unfold V_X8_lay_20
  refine v_arg hC (fun _ => v_range hC (fun _ => v_range hC (fun _ => ?_) (fun w => absurd hg9 w)) (fun w => absurd hp9 w)) (fun w => absurd w (by decide))
  refine ⟨Cg.k hC rfl (by decide), _, Cg.r901 hC rfl, Cg.k hC rfl (by decide), Cg.k hC rfl (by decide), fun h6 => ?_, fun h6 => ?_⟩
  · exfalso; omega
  · unfold V_X8_lay_54
    refine v_state hC (fun _ => ?_) (fun w => absurd w (by decide))
    refine ⟨Cg.k hC rfl (by decide), _, Cg.r901 hC rfl, Cg.sa hC, by have := hC.bud; omega, fun q hq => ?_⟩
    have nq := hC.nq hq
    have hF2 : (u2 (u2 (u2 (u2 (u2 (u2 (u2 (u2 (u2 (u2 (u2 (u2 (u2 (zF (u2 F 913 (yg Y 0) (w32 ((F 913 (yg Y 0)) - (w32 (100 * p))))) q) 204 q 0) 205 q 0) 206 q 0) 207 q 0) 208 q 0) 209 q 0) 210 q 0) 211 q (-1)) 212 q 0) 200 q x) 201 q y) 202 q p) 203 q g) 2 (yg Y 8) = (yc Y 8 : Int) := (u2_k (by decide)).trans ((u2_k (by decide)).trans ((u2_k (by decide)).trans ((u2_k (by decide)).trans ((u2_k (by decide)).trans ((u2_k (by decide)).trans ((u2_k (by decide)).trans ((u2_k (by decide)).trans ((u2_k (by decide)).trans ((u2_k (by decide)).trans ((u2_k (by decide)).trans ((u2_k (by decide)).trans ((u2_k (by decide)).trans ((zf_o (nq.1 8)).trans ((u2_k (by omega)).trans (c2.trans c1)))))))))))))))
    refine ⟨va_up_self _ _ _, (va_up_ne _ _ (nq.1 8)).trans (Cg.k hC rfl (by decide)), take_T (L := 8) hC hz (by decide) (by decide) hR'.caps (by show yc Y 8 < 16; omega) (by omega) (by omega) hq hF2 (fun e S2 I2 z9 hC2 hI2 => ?_)⟩
    have b10 : bs 8 = 100 := rfl
    have go0 : gup Y 8 q 0 0 = yg Y 0 := gup_o (by decide) (by omega)
    have go10 : gup Y 8 q 0 8 = yg Y 8 := gup_o (by decide) (by omega)
    have s0 : sK S2 (yg Y 0) = 9 := by rw [← go0]; exact Cg.k hC2 (v := 0) rfl (by decide)
    have r0 : sR S2 901 (yg Y 0) = some (yg Y 8) := by rw [← go0, ← go10]; exact Cg.r901 hC2 (v := 0) rfl
    have s10 : sK S2 (yg Y 8) = 0 := by rw [← go10]; exact Cg.k hC2 (v := 8) rfl (by decide)
    refine ⟨s0, _, r0, s10, s10, ?_⟩
    rw [u2_s]
    dsimp only
    rw [show w32 ((yc Y 8 : Int) + 1 - 1) = (yc Y 8 : Int) from (w32_id (by unfold rg; omega)).trans (by omega)]
    generalize hF9 : u2 (u2 (u2 (u2 (u2 (u2 (u2 (u2 (u2 (u2 (u2 (u2 (u2 (u2 (u2 (zF (u2 F 913 (yg Y 0) (w32 ((F 913 (yg Y 0)) - (w32 (100 * p))))) q) 204 q 0) 205 q 0) 206 q 0) 207 q 0) 208 q 0) 209 q 0) 210 q 0) 211 q (-1)) 212 q 0) 200 q x) 201 q y) 202 q p) 203 q g) 0 (yg Y 8) z9) 2 (yg Y 8) ((yc Y 8 : Int) + 1) = F9
    obtain ⟨B0, hR0, hB0, hB2⟩ := lv_T (F1 := (u2 (u2 (u2 (u2 (u2 (u2 (u2 (u2 (u2 (u2 (u2 (u2 (u2 (zF (u2 F 913 (yg Y 0) (w32 ((F 913 (yg Y 0)) - (w32 (100 * p))))) q) 204 q 0) 205 q 0) 206 q 0) 207 q 0) 208 q 0) 209 q 0) 210 q 0) 211 q (-1)) 212 q 0) 200 q x) 201 q y) 202 q p) 203 q g)) (L := 8) (e := e) (a := ya Y - 16) (b := yb Y - 256) (z := z9) (w := (yc Y 8 : Int) + 1) hR' hC (by decide) (by decide) (by show yc Y 8 < 16; omega) hq (fun k v hv hk9 => (u2_w hv).trans ((u2_w hv).trans ((u2_w hv).trans ((u2_w hv).trans ((u2_w hv).trans ((u2_w hv).trans ((u2_w hv).trans ((u2_w hv).trans ((u2_w hv).trans ((u2_w hv).trans ((u2_w hv).trans ((u2_w hv).trans ((u2_w hv).trans ((zf_o hv).trans (u2_k (by omega)))))))))))))))) hI2
    rw [hF9] at hB0 hB2
    have eT : 100 + (A 6 0).toNat = bs 8 + yc Y 8 := by omega
    have f9 : ∀ k, k ≠ 0 → k ≠ 2 → F9 k q = (u2 (u2 (u2 (u2 (u2 (u2 (u2 (u2 (u2 (u2 (u2 (u2 (u2 (zF (u2 F 913 (yg Y 0) (w32 ((F 913 (yg Y 0)) - (w32 (100 * p))))) q) 204 q 0) 205 q 0) 206 q 0) 207 q 0) 208 q 0) 209 q 0) 210 q 0) 211 q (-1)) 212 q 0) 200 q x) 201 q y) 202 q p) 203 q g) k q := fun k k0 k2 => by
      rw [← hF9]
      exact (u2_k k2).trans (u2_k k0)
    have bw : ∀ k, Bc (Yup Y 8 q 0 e (ya Y - 16) (yb Y - 256)) F9 k (100 + (A 6 0).toNat) = F9 k q := fun k => by
      rw [eT]
      show F9 k (gup Y 8 q 0 (bs 8 + yc Y 8)) = F9 k q
      rw [gup_w]
    have q1 : F 913 (yg Y 0) = A 2 0 := gG.2.1
    have q2 : rg (A 2 0) := gG.2.2.2.2.2.1
    have hN : 0 ≤ A 6 0 ∧ A 6 0 < 16 := by omega
    have hR1 := lay_rep (B' := Bc (Yup Y 8 q 0 e (ya Y - 16) (yb Y - 256)) F9) (A' := (sc (sc (ui (ui (ui (ui (ui (sc A 0 0) 7 (2 * A 6 0) x) 7 (2 * A 6 0 + 1) y) 8 (A 6 0) p) 9 (A 6 0) g) 17 (A 6 0) (-1)) 2 (w32 (A 2 0 - w32 (100 * p)))) 6 (A 6 0 + 1))) hR0 hN.2 hx hy hxy hp9 hg9 hB0 ⟨by
        show F9 2 (gup Y 8 q 0 8) = _
        rw [go10, ← hF9, u2_s]
        omega, hB2⟩ ⟨by
        show F9 913 (gup Y 8 q 0 0) = (sc (sc (ui (ui (ui (ui (ui (sc A 0 0) 7 (2 * A 6 0) x) 7 (2 * A 6 0 + 1) y) 8 (A 6 0) p) 9 (A 6 0) g) 17 (A 6 0) (-1)) 2 (w32 (A 2 0 - w32 (100 * p)))) 6 (A 6 0 + 1)) 2 0
        rw [go0, ← hF9]
        refine (u2_k (by decide)).trans ((u2_k (by decide)).trans ((u2_k (by decide)).trans ((u2_k (by decide)).trans ((u2_k (by decide)).trans ((u2_k (by decide)).trans ((u2_k (by decide)).trans ((u2_k (by decide)).trans ((u2_k (by decide)).trans ((u2_k (by decide)).trans ((u2_k (by decide)).trans ((u2_k (by decide)).trans ((u2_k (by decide)).trans ((u2_k (by decide)).trans ((u2_k (by decide)).trans ((zf_o (nq.1 0)).trans ((u2_s).trans (?_)))))))))))))))))
        rw [q1]
        exact ((sc_k (by decide)).trans (sc_s)).symm, by
        rw [show (sc (sc (ui (ui (ui (ui (ui (sc A 0 0) 7 (2 * A 6 0) x) 7 (2 * A 6 0 + 1) y) 8 (A 6 0) p) 9 (A 6 0) g) 17 (A 6 0) (-1)) 2 (w32 (A 2 0 - w32 (100 * p)))) 6 (A 6 0 + 1)) 2 0 = w32 (A 2 0 - w32 (100 * p)) from (sc_k (by decide)).trans (sc_s)]
        exact rg_w32 _⟩
      ((bw 200).trans ((f9 200 (by decide) (by decide)).trans ((u2_k (by decide)).trans ((u2_k (by decide)).trans ((u2_k (by decide)).trans (u2_s)))))) ((bw 201).trans ((f9 201 (by decide) (by decide)).trans ((u2_k (by decide)).trans ((u2_k (by decide)).trans (u2_s))))) ((bw 202).trans ((f9 202 (by decide) (by decide)).trans ((u2_k (by decide)).trans (u2_s)))) ((bw 203).trans ((f9 203 (by decide) (by decide)).trans (u2_s))) (fun k k0 k1 => by
        have : k = 204 ∨ k = 205 ∨ k = 206 ∨ k = 207 ∨ k = 208 ∨ k = 209 ∨ k = 210 := by omega
        rcases this with rfl | rfl | rfl | rfl | rfl | rfl | rfl
        · exact ((bw 204).trans ((f9 204 (by decide) (by decide)).trans ((u2_k (by decide)).trans ((u2_k (by decide)).trans ((u2_k (by decide)).trans ((u2_k (by decide)).trans ((u2_k (by decide)).trans ((u2_k (by decide)).trans ((u2_k (by decide)).trans ((u2_k (by decide)).trans ((u2_k (by decide)).trans ((u2_k (by decide)).trans ((u2_k (by decide)).trans ((u2_k (by decide)).trans (u2_s)))))))))))))))
        · exact ((bw 205).trans ((f9 205 (by decide) (by decide)).trans ((u2_k (by decide)).trans ((u2_k (by decide)).trans ((u2_k (by decide)).trans ((u2_k (by decide)).trans ((u2_k (by decide)).trans ((u2_k (by decide)).trans ((u2_k (by decide)).trans ((u2_k (by decide)).trans ((u2_k (by decide)).trans ((u2_k (by decide)).trans ((u2_k (by decide)).trans (u2_s))))))))))))))
        · exact ((bw 206).trans ((f9 206 (by decide) (by decide)).trans ((u2_k (by decide)).trans ((u2_k (by decide)).trans ((u2_k (by decide)).trans ((u2_k (by decide)).trans ((u2_k (by decide)).trans ((u2_k (by decide)).trans ((u2_k (by decide)).trans ((u2_k (by decide)).trans ((u2_k (by decide)).trans ((u2_k (by decide)).trans (u2_s)))))))))))))
        · exact ((bw 207).trans ((f9 207 (by decide) (by decide)).trans ((u2_k (by decide)).trans ((u2_k (by decide)).trans ((u2_k (by decide)).trans ((u2_k (by decide)).trans ((u2_k (by decide)).trans ((u2_k (by decide)).trans ((u2_k (by decide)).trans ((u2_k (by decide)).trans ((u2_k (by decide)).trans (u2_s))))))))))))
        · exact ((bw 208).trans ((f9 208 (by decide) (by decide)).trans ((u2_k (by decide)).trans ((u2_k (by decide)).trans ((u2_k (by decide)).trans ((u2_k (by decide)).trans ((u2_k (by decide)).trans ((u2_k (by decide)).trans ((u2_k (by decide)).trans ((u2_k (by decide)).trans (u2_s)))))))))))
        · exact ((bw 209).trans ((f9 209 (by decide) (by decide)).trans ((u2_k (by decide)).trans ((u2_k (by decide)).trans ((u2_k (by decide)).trans ((u2_k (by decide)).trans ((u2_k (by decide)).trans ((u2_k (by decide)).trans ((u2_k (by decide)).trans (u2_s))))))))))
        · exact ((bw 210).trans ((f9 210 (by decide) (by decide)).trans ((u2_k (by decide)).trans ((u2_k (by decide)).trans ((u2_k (by decide)).trans ((u2_k (by decide)).trans ((u2_k (by decide)).trans ((u2_k (by decide)).trans (u2_s)))))))))) ((bw 212).trans ((f9 212 (by decide) (by decide)).trans ((u2_k (by decide)).trans ((u2_k (by decide)).trans ((u2_k (by decide)).trans ((u2_k (by decide)).trans (u2_s)))))))
      (fun a j h => (sc_k (by omega)).trans ((sc_k (by omega)).trans ((ui_k (by omega)).trans ((ui_k (by omega)).trans ((ui_k (by omega)).trans ((ui_k (by omega)).trans ((ui_k (by omega)).trans (sc_k (by omega))))))))) (sc_s) ⟨(sc_k (by decide)).trans ((sc_k (by decide)).trans ((ui_k (by decide)).trans ((ui_k (by decide)).trans ((ui_k (by decide)).trans ((ui_j (by omega)).trans (ui_s)))))), (sc_k (by decide)).trans ((sc_k (by decide)).trans ((ui_k (by decide)).trans ((ui_k (by decide)).trans ((ui_k (by decide)).trans (ui_s))))), fun j hj => (sc_k (by decide)).trans ((sc_k (by decide)).trans ((ui_k (by decide)).trans ((ui_k (by decide)).trans ((ui_k (by decide)).trans ((ui_j hj.2).trans ((ui_j hj.1).trans (sc_k (by decide))))))))⟩ ⟨(sc_k (by decide)).trans ((sc_k (by decide)).trans ((ui_k (by decide)).trans ((ui_k (by decide)).trans (ui_s)))), fun j hj => (sc_k (by decide)).trans ((sc_k (by decide)).trans ((ui_k (by decide)).trans ((ui_k (by decide)).trans ((ui_j hj).trans ((ui_k (by decide)).trans ((ui_k (by decide)).trans (sc_k (by decide))))))))⟩ ⟨(sc_k (by decide)).trans ((sc_k (by decide)).trans ((ui_k (by decide)).trans (ui_s))), fun j hj => (sc_k (by decide)).trans ((sc_k (by decide)).trans ((ui_k (by decide)).trans ((ui_j hj).trans ((ui_k (by decide)).trans ((ui_k (by decide)).trans ((ui_k (by decide)).trans (sc_k (by decide))))))))⟩ ⟨(sc_k (by decide)).trans ((sc_k (by decide)).trans (ui_s)), fun j hj => (sc_k (by decide)).trans ((sc_k (by decide)).trans ((ui_j hj).trans ((ui_k (by decide)).trans ((ui_k (by decide)).trans ((ui_k (by decide)).trans ((ui_k (by decide)).trans (sc_k (by decide))))))))⟩
    have hpz : pz (sc (sc (ui (ui (ui (ui (ui (sc A 0 0) 7 (2 * A 6 0) x) 7 (2 * A 6 0 + 1) y) 8 (A 6 0) p) 9 (A 6 0) g) 17 (A 6 0) (-1)) 2 (w32 (A 2 0 - w32 (100 * p)))) 6 (A 6 0 + 1)) ≤ pz A + 2 := pz_fr ((sc_k (by decide)).trans ((sc_k (by decide)).trans ((ui_k (by decide)).trans ((ui_k (by decide)).trans ((ui_k (by decide)).trans ((ui_k (by decide)).trans ((ui_k (by decide)).trans (sc_k (by decide))))))))) (fun _ => (sc_k (by decide)).trans ((sc_k (by decide)).trans ((ui_k (by decide)).trans ((ui_k (by decide)).trans ((ui_k (by decide)).trans ((ui_k (by decide)).trans ((ui_k (by decide)).trans (sc_k (by decide))))))))) (fun _ => (sc_k (by decide)).trans ((sc_k (by decide)).trans ((ui_k (by decide)).trans ((ui_k (by decide)).trans ((ui_k (by decide)).trans ((ui_k (by decide)).trans ((ui_k (by decide)).trans (sc_k (by decide)))))))))
    have eL : yc (Yup Y 8 q 0 e (ya Y - 16) (yb Y - 256)) 11 = yc Y 11 := cup_n (c := yc Y) (L := 8) (v := 11) (by decide)
    rw [← c1]
    refine hk _ _ _ ⟨Yup Y 8 q 0 e (ya Y - 16) (yb Y - 256), it, LN, go0.symm, hla (), hz, hLs, hC2, by rw [eL]; show _ ≤ ya Y - 16; omega, by rw [eL]; show _ ≤ yb Y - 256; omega, hR1, by omega⟩ ?_
    funext k j
    show (if k < 4 then I2 (la k) j else 0) = if k < 4 then I (la k) j else 0
    by_cases hk4 : k < 4
    · rw [if_pos hk4, if_pos hk4]
      exact hI2 _ (by rw [(VP.ls hP9).k hk4]; decide) j
    · rw [if_neg hk4, if_neg hk4]

set_option maxRecDepth 20000 in
set_option maxHeartbeats 4000000 in
theorem v_car {n : Nat} {G : Gp} {x9 : Nat} {la : Nat → Nat} {A : Il} {S : Shp} {F : Fl} {I : Il} {s : Int} {Q : Int → Shp → Fl → Il → Prop} {QX : String → Shp → Fl → Il → Prop} (hP : VP (n + 1) G x9 la A S F I) (hx : 0 ≤ s ∧ s < 8) (h20 : A 29 0 < 20) (hk : ∀ (S' : Shp) (F' : Fl) (I' : Il), VP n G x9 la (cms (A1c A s) (A 29 0) s) S' F' I' → lA la I' = lA la I → Q (A 29 0) S' F' I') : V_X8_car G x9 s S F I Q QX := by
  have hP9 := hP
  obtain ⟨Y, it, LN, rfl, hla0, hz, hLs, hC, ha, hb, hR, hp⟩ := hP
  have hla : ∀ _ : Unit, la 0 = ym Y 0 ∧ la 1 = ym Y 1 ∧ la 2 = ym Y 2 ∧ la 3 = yo Y := fun _ => hla0
  clear hla0
  unfold V_X8_car
  have hR' := hR
  have hcp := hR'.caps
  obtain ⟨gG, gS, gB, g0, gH, gE, gC, gN, gK, gL, gR, gD, gY, gU, gW, gP, gT, gX, gZ9⟩ := hR
  obtain ⟨⟨k1, k2, k3⟩, -⟩ := id gK
  have k2 : F 2 (yg Y 11) = A 29 0 := k2
  have q1 : F 913 (yg Y 0) = A 2 0 := gG.2.1
  refine ⟨Cg.k hC rfl (by decide), v_stationOf hC (fun _ => ?_) (fun w => absurd hx w)⟩
  refine ⟨_, Cg.r904 hC rfl, Cg.k hC rfl (by decide), Cg.k hC rfl (by decide), fun h6 => ?_, fun h6 => ?_⟩
  · exfalso; omega
  unfold V_X8_car_23
  refine v_state hC (fun _ => ?_) (fun w => absurd w (by decide))
  refine ⟨Cg.k hC rfl (by decide), Cg.sa hC, by have := hC.sb; omega, fun q hq => ?_⟩
  have nq := hC.nq hq
  generalize hF1 : zF (u2 F 913 (yg Y 0) (w32 (F 913 (yg Y 0) - 50))) q = F1
  have p1 : ∀ k b, b ≠ q → k ≠ 913 → F1 k b = F k b := fun k b h h9 => by
    rw [← hF1]
    exact (zf_o h).trans (u2_k h9)
  have p2 : F1 913 (yg Y 0) = w32 (F 913 (yg Y 0) - 50) := by
    rw [← hF1]
    exact (zf_o (nq.1 0)).trans u2_s
  clear hF1
  have c20 : yc Y 11 < 20 := by omega
  refine mkcar_T hC hz hcp c20 (by omega) (by omega) hq hx ((p1 2 _ (nq.1 11) (by decide)).trans (k2.trans k1)) (fun q2 q3 e S2 F3 I3 hq2 hq3 nq2 nq3 nq32 hC2 o1 o2 o3 o4 o5 => ?_)
  have b11 : bs 11 = 140 := rfl
  have m2 := hC.nq hq2
  have lo : ∀ v, v < 100 → gup Y 11 q q2 v = yg Y v := fun v hv => (if_neg (by omega)).trans (if_neg (fun w => by have := w.2; omega))
  have go : ∀ v, kd (yc Y) v ≠ 99 → gup Y 11 q q2 v = yg Y v := fun v hv => by
    have kw := kd_up (c := yc Y) (L := 11) (by decide) (by show yc Y 11 < 20; exact c20)
    exact (if_neg (fun h => hv (by rw [h]; exact kw.1.1))).trans (if_neg (fun h => hv (by rw [h.2]; exact (kw.2.1 rfl).1)))
  have nm : ∀ v, kd (yc Y) v ≠ 99 → v ≠ 160 + yc Y 11 := fun v hv h => by
    have kw := kd_up (c := yc Y) (L := 11) (by decide) (by show yc Y 11 < 20; exact c20)
    exact hv (by rw [h]; exact (kw.2.1 rfl).1)
  generalize hY2 : Yup Y 11 q q2 e (ya Y - 1040) (yb Y - 2304) = Y2 at hC2
  have lo2 : ∀ v, v < 100 → yg Y2 v = yg Y v := fun v hv => by rw [← hY2]; exact lo v hv
  have eo : yo Y2 = yo Y := by
    rw [← hY2]
    rfl
  have em : ym Y2 = ym Y := by
    rw [← hY2]
    rfl
  have ec : yc Y2 = cup (yc Y) 11 := by
    rw [← hY2]
    rfl
  have ez : yz Y2 = gZ G := by
    rw [← hY2]
    exact hz
  have ea : ya Y2 = ya Y - 1040 := by
    rw [← hY2]
    rfl
  have eb : yb Y2 = yb Y - 2304 := by
    rw [← hY2]
    rfl
  have s20 : sK S2 (yg Y (20 + s.toNat)) = 7 := by rw [← lo2 _ (by omega)]; exact Cg.k hC2 (kdst (by omega) (by omega)) (by decide)
  have r701 : sR S2 701 (yg Y (20 + s.toNat)) = some (yg Y (30 + s.toNat)) := by
    have := Cg.r701 hC2 (v := 20 + s.toNat) (kdst (by omega) (by omega))
    rw [lo2 _ (by omega), lo2 _ (by omega), show 20 + s.toNat + 10 = 30 + s.toNat by omega] at this
    exact this
  have nam : ∀ (it' LN' : Nat → Nat) (S' : Shp), Cg Y2 it' LN' S' → sK S' (yg Y 0) = 9 ∧ sR S' 904 (yg Y 0) = some (yg Y 11) ∧ sK S' (yg Y 11) = 0 := fun it' LN' S' h => by
    rw [← lo2 0 (by decide), ← lo2 11 (by decide)]
    exact ⟨Cg.k h rfl (by decide), Cg.r904 h rfl, Cg.k h rfl (by decide)⟩
  have s30 : sK S2 (yg Y (30 + s.toNat)) = 6 := by rw [← lo2 _ (by omega)]; exact Cg.k hC2 (kdyd (by omega) (by omega)) (by decide)
  obtain ⟨s0, r0, s11⟩ := nam _ _ _ hC2
  refine ⟨s20, _, r701, s0, _, r0, s11, s11, ?_⟩
  rw [o3]
  dsimp only
  rw [show w32 ((yc Y 11 : Int) + 1 - 1) = (yc Y 11 : Int) from (w32_id (by unfold rg; omega)).trans (by omega)]
  refine ⟨s30, ?_⟩
  rw [← lo2 (30 + s.toNat) (by omega)]
  have hN : 0 ≤ A 29 0 ∧ A 29 0 < 20 := by omega
  have h60 : 0 ≤ A 60 0 ∧ A 60 0 ≤ 1022 := by
    have z0 : ∀ t : Int, 0 ≤ t → t < 6 → 0 ≤ tz A t := fun t t0 t1 => by
      unfold tz
      split
      · exact ((gU t t0 t1).2 ‹_›).1.2.1
      · exact Int.le_refl _
    have y0 := z0 0 (by decide) (by decide)
    have y1 := z0 1 (by decide) (by decide)
    have y2 := z0 2 (by decide) (by decide)
    have y3 := z0 3 (by decide) (by decide)
    have y4 := z0 4 (by decide) (by decide)
    have y5 := z0 5 (by decide) (by decide)
    have hp : A 60 0 + (tz A 0 + tz A 1 + tz A 2 + tz A 3 + tz A 4 + tz A 5) + 2 * ((n + 1 : Nat) : Int) ≤ 1022 := hp
    exact ⟨gP.1, by omega⟩
  have w1 : ∀ k, Bc Y2 F3 k (140 + (A 29 0).toNat) = F3 k q := fun k => by
    rw [← hY2]
    show F3 k (gup Y 11 q q2 (140 + (A 29 0).toNat)) = F3 k q
    rw [show 140 + (A 29 0).toNat = bs 11 + yc Y 11 by omega, gup_w]
  have w2 : ∀ k, Bc Y2 F3 k (160 + (A 29 0).toNat) = F3 k q2 := fun k => by
    rw [← hY2]
    show F3 k (gup Y 11 q q2 (160 + (A 29 0).toNat)) = F3 k q2
    rw [show gup Y 11 q q2 (160 + (A 29 0).toNat) = q2 from (if_neg (by omega)).trans (if_pos ⟨rfl, by omega⟩)]
  have b35 : Bc Y2 F3 601 (30 + s.toNat) = Bc Y F 601 (30 + s.toNat) := by
    show F3 601 (yg Y2 (30 + s.toNat)) = F 601 (yg Y (30 + s.toNat))
    rw [lo2 _ (by omega), o1 _ (nq.1 _) (m2.1 _) (fun w => absurd (hC.1 (30 + s.toNat) 11 (by rw [kdyd (by omega) (by omega)]; decide) w) (by omega)) 601, p1 601 _ (nq.1 _) (by decide)]
  have hV : RepV (fun k => k = A 29 0) 1 (cup (yc Y) 11) (fun v => if v = 160 + yc Y 11 then 4 else LN v) (fun k v => if k = 601 ∧ v = 30 + s.toNat then Bc Y F k v else if k = 601 ∧ v = 160 + yc Y 11 then 0 else Bc Y2 F3 k v) (Ec Y2 (iup Y 11 q3 it) I3) (ui (ui (A1c A s) 31 (A 29 0) s) 32 (A 29 0) (-1)) := by
    refine car_rep1 (s := s) (B := fun k v => if k = 0 ∨ (k = 2 ∧ v = 11) ∨ k = 913 then Bc Y F k v else (if k = 601 ∧ v = 30 + s.toNat then Bc Y F k v else if k = 601 ∧ v = 160 + yc Y 11 then 0 else Bc Y2 F3 k v)) (A := A) (hR'.lv (fun k v hv => ?_) (fun v hv j => ?_) (fun v hv j => ?_) (fun v hv => if_neg (nm v hv))) hN.2 hx (fun k v hk9 _ => (if_neg (by omega)).symm) ⟨?_, fun v hv => (if_neg (by omega)).symm⟩ ⟨?_, rg_w32 _⟩ ?_ ?_ ?_ ?_ ?_ (if_pos (by omega)) (fun a j h => (ui_k (by omega)).trans ((ui_k (by omega)).trans ((sc_k (by omega)).trans ((ui_k (by omega)).trans ((ui_k (by omega)).trans ((sc_k (by omega)).trans (sc_k (by omega)))))))) rfl ⟨(ui_k (by decide)).trans ((ui_k (by decide)).trans ((sc_k (by decide)).trans ((ui_k (by decide)).trans ui_s))), fun j hj => (ui_k (by decide)).trans ((ui_k (by decide)).trans ((sc_k (by decide)).trans ((ui_k (by decide)).trans ((ui_j hj).trans ((sc_k (by decide)).trans (sc_k (by decide)))))))⟩ ⟨(ui_k (by decide)).trans ui_s, fun j hj => (ui_k (by decide)).trans ((ui_j hj).trans ((sc_k (by decide)).trans ((ui_k (by decide)).trans ((ui_k (by decide)).trans ((sc_k (by decide)).trans (sc_k (by decide)))))))⟩ ⟨ui_s, fun j hj => (ui_j hj).trans ((ui_k (by decide)).trans ((sc_k (by decide)).trans ((ui_k (by decide)).trans ((ui_k (by decide)).trans ((sc_k (by decide)).trans (sc_k (by decide)))))))⟩ ⟨(ui_k (by decide)).trans ((ui_k (by decide)).trans ((sc_k (by decide)).trans ui_s)), fun j hj => (ui_k (by decide)).trans ((ui_k (by decide)).trans ((sc_k (by decide)).trans ((ui_j hj).trans ((ui_k (by decide)).trans ((sc_k (by decide)).trans (sc_k (by decide)))))))⟩
    · try dsimp only
      by_cases h1 : k = 0 ∨ (k = 2 ∧ v = 11) ∨ k = 913
      · rw [if_pos h1]
      · rw [if_neg h1]
        by_cases h2 : k = 601 ∧ v = 30 + s.toNat
        · rw [if_pos h2]
        · rw [if_neg h2, if_neg (fun w => nm v hv w.2), ← hY2]
          show F3 k (gup Y 11 q q2 v) = F k (yg Y v)
          rw [go v hv]
          by_cases h3 : v = 11
          · rw [h3] at h1 ⊢
            rw [o2 k (fun w => h1 (Or.inl w)) (fun w => h1 (Or.inr (Or.inl ⟨w, rfl⟩)))]
            exact p1 k _ (nq.1 11) (fun w => h1 (Or.inr (Or.inr w)))
          · exact (o1 _ (nq.1 v) (m2.1 v) (fun w => h3 (hC.1 v 11 hv w)) k).trans (p1 k _ (nq.1 v) (fun w => h1 (Or.inr (Or.inr w))))
    · show I3 (iup Y 11 q3 it v) j = I (it v) j
      rw [show iup Y 11 q3 it v = it v from if_neg (fun w => nm v (by rw [hv]; decide) w.2)]
      exact o5 _ (fun h => (hC.nq h).2.1 v rfl) j
    · rw [← hY2]
      show I3 (gup Y 11 q q2 v) j = I (yg Y v) j
      rw [go v hv]
      exact o5 _ (fun h => (hC.nq h).1 v rfl) j
    · try dsimp only
      rw [if_neg (by omega), if_neg (by omega)]
      show F3 2 (yg Y2 11) = _
      rw [lo2 11 (by decide), o3]
      omega
    · show (if (913 : Nat) = 601 ∧ (0 : Nat) = 30 + s.toNat then Bc Y F 913 0 else if (913 : Nat) = 601 ∧ (0 : Nat) = 160 + yc Y 11 then 0 else Bc Y2 F3 913 0) = w32 (A 2 0 - 50)
      rw [if_neg (by omega), if_neg (by omega)]
      show F3 913 (yg Y2 0) = _
      rw [lo2 0 (by decide), o1 _ (nq.1 0) (m2.1 0) (fun w => absurd (hC.1 0 11 (by show (9 : Nat) ≠ 99; decide) w) (by decide)) 913, p2, q1]
    all_goals try dsimp only
    · rw [if_neg (by omega), if_neg (by omega), w1]; exact o4.1
    · rw [if_neg (by omega), if_neg (by omega), w1]; exact o4.2.1
    · rw [if_neg (by omega), if_neg (by omega), w1]; exact o4.2.2.1
    · rw [if_neg (by omega), if_neg (by omega), w1]; exact o4.2.2.2.1
    · rw [if_neg (by omega), if_pos ⟨rfl, by omega⟩]
  refine T_X5_append (Y := Y2) (x0 := 30 + s.toNat) (F0 := F3) (I0 := I3) hC2 Fc.rf (Qw := fun LN' B' E' => Rep (cup (yc Y) 11) LN' B' E' (cms (A1c A s) (A 29 0) s)) (fun it' LN' S' F' I' hC3 hF3 hR3 => ?_) ?_
  · obtain ⟨s0', r0', s11'⟩ := nam _ _ _ hC3
    have ez9 : F' 2 (yg Y 11) = A 29 0 + 1 := by
      have : F' 2 (yg Y2 11) = cms (A1c A s) (A 29 0) s 29 0 := hR3.2.2.2.2.2.2.2.2.1.1.2.1
      rw [lo2 11 (by decide)] at this
      exact this
    refine ⟨s0', _, r0', s11', s11', ?_⟩
    rw [ez9]
    dsimp only
    rw [show w32 (A 29 0 + 1 - 1) = A 29 0 from (w32_id (by unfold rg; omega)).trans (by omega)]
    have hyr := hV.yroom (by decide) hx
    have hyr : 0 ≤ A 35 s ∧ A 35 s ≤ 19 := hyr
    have hpz : pz (cms (A1c A s) (A 29 0) s) ≤ pz A + 2 := by
      unfold pz tz
      show A 60 0 + 1 + ((if A 36 0 = 1 then A 44 0 else 0) + (if A 36 1 = 1 then A 44 1 else 0) + (if A 36 2 = 1 then A 44 2 else 0) + (if A 36 3 = 1 then A 44 3 else 0) + (if A 36 4 = 1 then A 44 4 else 0) + (if A 36 5 = 1 then A 44 5 else 0)) ≤ _
      omega
    have eL : yc Y2 11 = yc Y 11 + 1 := by rw [ec]; exact cup_s
    refine hk _ _ _ ⟨Y2, it', LN', (lo2 0 (by decide)).symm, by rw [em, eo]; exact hla (), ez, by rw [← hY2]; exact hLs, hC3, by rw [eL, ea]; omega, by rw [eL, eb]; omega, by rw [ec]; exact hR3, by omega⟩ ?_
    have hla2 : la 0 = ym Y2 0 ∧ la 1 = ym Y2 1 ∧ la 2 = ym Y2 2 ∧ la 3 = yo Y2 := by rw [em, eo]; exact hla ()
    rw [lA_fc hla2 hF3]
    funext k j
    show (if k < 4 then I3 (la k) j else 0) = if k < 4 then I (la k) j else 0
    by_cases hk4 : k < 4
    · rw [if_pos hk4, if_pos hk4]
      exact o5 _ (fun h => by have w := (VP.ls hP9).k hk4; rw [h] at w; exact absurd w (by decide)) j
    · rw [if_neg hk4, if_neg hk4]
  · obtain ⟨⟨y1, y2, y3, -⟩, y5, y6, -⟩ := gY s hx.1 hx.2
    have hyr := hV.yroom (by decide) hx
    have hyr : 0 ≤ A 35 s ∧ A 35 s ≤ 19 := hyr
    have l1 : ∀ v, v ≠ 160 + yc Y 11 → (fun v => if v = 160 + yc Y 11 then 4 else LN v) v = LN v := fun v hv => if_neg hv
    have l2 : (fun v => if v = 160 + yc Y 11 then 4 else LN v) (160 + yc Y 11) = 4 := if_pos rfl
    generalize (fun v => if v = 160 + yc Y 11 then 4 else LN v) = LN2 at hV l1 l2
    have i3 : Ec Y2 (iup Y 11 q3 it) I3 (.inr (160 + (A 29 0).toNat)) 0 = s := by
      show I3 (iup Y 11 q3 it (160 + (A 29 0).toNat)) 0 = s
      rw [show iup Y 11 q3 it (160 + (A 29 0).toNat) = q3 from if_pos ⟨rfl, by omega⟩]
      exact o4.2.2.2.2.2
    have f6' := w2 601
    rw [o4.2.2.2.2.1] at f6'
    generalize Bc Y2 F3 = Bn at hV w1 w2 b35 f6'
    generalize Ec Y2 (iup Y 11 q3 it) I3 = En at hV i3
    generalize hBf : (fun k v => if k = 601 ∧ v = 30 + s.toNat then Bc Y F k v else if k = 601 ∧ v = 160 + yc Y 11 then 0 else Bn k v) = Bf at hV
    have t1 : Bf 601 (30 + s.toNat) = A 35 s := by
      rw [← hBf]
      exact (if_pos ⟨rfl, rfl⟩).trans y1
    have t2 : Bf 601 (160 + (A 29 0).toNat) = 0 := by
      rw [← hBf]
      exact (if_neg (by omega)).trans (if_pos ⟨rfl, by omega⟩)
    have t3 : ∀ k v, ¬ (k = 601 ∧ v = 30 + s.toNat) → ¬ (k = 601 ∧ v = 160 + (A 29 0).toNat) → Bf k v = Bn k v := fun k v h1 h2 => by
      rw [← hBf]
      exact (if_neg h1).trans (if_neg (by omega))
    clear hBf
    have l3 : LN2 (160 + (A 29 0).toNat) = 4 := by rw [show 160 + (A 29 0).toNat = 160 + yc Y 11 by omega]; exact l2
    have l4 := l1 (30 + s.toNat) (by omega)
    have b36 : Bn 601 (30 + s.toNat) = A 35 s := b35.trans y1
    refine ⟨kdyd (by omega) (by omega), by rw [b36]; exact y2, by rw [b36, l4]; exact y3, by rw [b36, l4]; omega, fun LN' E' f1 f2 f3 f4 f5 f6 => ?_⟩
    have hfin := comes_rep (A' := cms (A1c A s) (A 29 0) s) (B' := u2 Bn 601 (30 + s.toNat) (Bn 601 (30 + s.toNat) + 1)) (E' := E') (LN' := LN') hV cms_pre.symm ⟨hN.1, by show A 29 0 < A 29 0 + 1; omega⟩ hx (by decide) rfl (by show A 60 0 ≤ 1023; omega) (fun s' p a b c9 d w => by
        have := (gY s' a b).2.2.2 p c9 d
        have w : A 34 (20 * s' + p) = A 29 0 := w
        omega) (fun t p a b h c9 d w => by
        have := ((gU t a b).2 h).2 p c9 d
        have w : A 43 (10 * t + p) = A 29 0 := w
        omega) (fun k v h => (u2_k h.2.2).trans (t3 k v (by omega) (by omega)).symm) ⟨(u2_k (by decide)).trans ((w1 301).trans o4.2.1), fun v _ => (u2_k (by decide)).trans (t3 301 v (by omega) (by omega)).symm⟩ ⟨(u2_k (by decide)).trans ((w1 302).trans o4.2.2.1), fun v _ => (u2_k (by decide)).trans (t3 302 v (by omega) (by omega)).symm⟩
      ⟨by rw [t2]; exact (u2_v (by omega)).trans f6', by rw [t1, u2_s, b36], fun v h => (u2_v h.2).trans (t3 601 v (fun w => h.2 w.2) (fun w => h.1 w.2)).symm⟩
      (fun v h => f1 v h.2) (Or.inl (f1 _ (by omega))) (by rw [t2, f1 _ (by omega), l3]; decide) (by rw [t1, ← b36]; exact f3) (fun v h => f4 (.inr v) (fun w => h.2 (Sum.inr.inj w))) (fun v j => f4 (.inl v) (fun w => by cases w) j)
      (fun j j0 j1 => by rw [t2] at j1; omega) (by rw [t2]; exact (f4 _ (fun w => by have := Sum.inr.inj w; omega) 0).trans i3) (fun j j0 j1 => f5 j j0 (by rw [b36]; rw [t1] at j1; exact j1)) (by rw [t1, ← b36]; exact f6.trans k1.symm)
    exact hfin.r (fun k w => w.2 w.1) (by decide)

