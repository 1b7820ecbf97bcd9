/-! the law's loop -/
theorem LJ.less {n : Nat} {G : Gp} {x m o : Nat} {S : Shp} {F : Fl} {I : Il} (h : LJ (n + 1) G x m o S F I) : LJ n G x m o S F I := by
  obtain ⟨Y, it, LN, h1, h2, h3, h4, h5, h6, h7, h8, h9, h10⟩ := h
  exact ⟨Y, it, LN, h1, h2, h3, h4, h5, h6, by omega, by omega, h9, by omega⟩
set_option maxRecDepth 20000 in
set_option maxHeartbeats 4000000 in
theorem law_loop {G : Gp} {ln : Int} {scr : Int → Int} {x1 x2 x3 : Nat} (hs : ∀ z, rg (scr z)) (h6 : ln ≤ 2560) (h7 : 0 ≤ ln) : ∀ (n : Nat) (x4 : Int) (S : Shp) (F : Fl) (I : Il), LJ n G x1 x2 x3 S F I → 0 ≤ x4 → x4 ≤ 2560 → ln ≤ x4 + 5 * n + 4 → V_L_law_23 G ln scr (n + 1) x1 x2 x3 x4 S F I (fun z _ _ _ => z = 1)
  | 0, x4, S, F, I, hI, h4, h5, h8 => by
    unfold V_L_law_23
    rw [show w32 (ln - 5) = ln - 5 from w32_id (by unfold rg; omega)]
    exact ⟨fun _ => rfl, fun c => absurd (by omega) c⟩
  | n + 1, x4, S, F, I, hI, h4, h5, h8 => by
    have ih := law_loop (G := G) (ln := ln) (scr := scr) (x1 := x1) (x2 := x2) (x3 := x3) hs h6 h7 n
    unfold V_L_law_23
    rw [show w32 (ln - 5) = ln - 5 from w32_id (by unfold rg; omega)]
    refine ⟨fun _ => rfl, fun c => ?_⟩
    have h9 : x4 + 4 < ln := by omega
    have e5 : w32 (x4 + 5) = x4 + 5 := w32_id (by unfold rg; omega)
    have hk : ∀ (S' : Shp) (F' : Fl) (I' : Il), LJ n G x1 x2 x3 S' F' I' → V_L_law_23 G ln scr (n + 1) x1 x2 x3 (w32 (x4 + 5)) S' F' I' (fun z _ _ _ => z = 1) := fun S' F' I' h => by
      rw [e5]
      exact ih (x4 + 5) S' F' I' h (by omega) (by omega) (by omega)
    refine ⟨h4, by omega, fun _ => law_tracks hI hs h4 h9 h6 hk,
      fun _ => law_lay hI hs h4 h9 h6 hk,
      fun _ => law_fail hI hs h4 h9 h6 hk,
      fun _ => law_flag hI hs h4 h9 h6 hk,
      fun _ => law_hours hI hs h4 h9 h6 hk,
      fun _ => law_repair hI hs h4 h9 h6 hk,
      fun _ => law_engine hI hs h4 h9 h6 hk,
      fun _ => law_crew hI hs h4 h9 h6 hk,
      fun _ => law_learn hI hs h4 h9 h6 hk,
      fun _ => law_rest hI hs h4 h9 h6 hk,
      fun _ => law_car hI hs h4 h9 h6 hk,
      fun _ => law_borrow hI hs h4 h9 h6 hk,
      fun _ => law_repay hI hs h4 h9 h6 hk,
      fun _ => law_form hI hs h4 h9 h6 hk,
      fun _ => law_dissolve hI hs h4 h9 h6 hk,
      fun _ => law_couple hI hs h4 h9 h6 hk,
      fun _ => law_uncouple hI hs h4 h9 h6 hk,
      fun _ => law_leg hI hs h4 h9 h6 hk,
      fun _ => law_plan hI hs h4 h9 h6 hk,
      fun _ => law_await hI hs h4 h9 h6 hk,
      fun _ => law_run hI hs h4 h9 h6 hk,
      fun _ => law_passSignal hI hs h4 h9 h6 hk,
      fun _ => law_clear hI hs h4 h9 h6 hk,
      fun _ => law_rate hI hs h4 h9 h6 hk,
      fun _ => law_offer hI hs h4 h9 h6 hk,
      fun _ => law_load hI hs h4 h9 h6 hk,
      fun _ => law_unload hI hs h4 h9 h6 hk,
      fun _ => law_sort hI hs h4 h9 h6 hk,
      fun _ => law_clock hI hs h4 h9 h6 hk,
      fun _ => law_cash hI hs h4 h9 h6 hk,
      fun _ => law_debt hI hs h4 h9 h6 hk,
      fun _ => law_broken hI hs h4 h9 h6 hk,
      fun _ => law_freeTracks hI hs h4 h9 h6 hk,
      fun _ => law_holder hI hs h4 h9 h6 hk,
      fun _ => law_holderByTrains hI hs h4 h9 h6 hk,
      fun _ => law_block hI hs h4 h9 h6 hk,
      fun _ => law_train hI hs h4 h9 h6 hk,
      fun _ => law_barred hI hs h4 h9 h6 hk,
      fun _ => law_duty hI hs h4 h9 h6 hk,
      fun _ => law_carAt hI hs h4 h9 h6 hk,
      fun _ => law_carByPapers hI hs h4 h9 h6 hk,
      fun _ => law_billOf hI hs h4 h9 h6 hk,
      fun _ => law_paper hI hs h4 h9 h6 hk,
      fun _ => law_yardAt hI hs h4 h9 h6 hk,
      fun _ => law_homeward hI hs h4 h9 h6 hk,
      fun _ => hk _ _ _ hI.less⟩
/-- the two objects, made: 512 calls may come -/
theorem law_init {G : Gp} {Q : Int → Shp → Fl → Il → Prop} {ln : Int} {scr : Int → Int} (h : ∀ (x m o : Nat) (S : Shp) (F : Fl) (I : Il), LJ 512 G x m o S F I → ∃ n9, V_L_law_23 G ln scr n9 x m o 0 S F I Q) : V_L_law G ln scr S00 (fun _ _ => 0) (fun _ _ => 0) Q := by
  have h0 : Mq G 0 (fun _ => gZ G) t00 S00 (fun _ _ => 0) (fun _ _ => 0) := ⟨rfl, fun i j hi => absurd hi (by omega), fun i hi => absurd hi (by omega), fun i hi => absurd hi (by omega), fun i f hi => absurd hi (by omega), fun i f r hi => absurd hi (by omega), fun i j hi => absurd hi (by omega), fun i j r hi => absurd hi (by omega), fun i k hi => absurd hi (by omega), fun i j hi => absurd hi (by omega), by decide, by decide, by decide⟩
  refine ⟨by decide, by decide, fun q1 hq1 => ?_⟩
  have h1 := h0.O_ (c := 9) hq1 (by decide) (by decide) (by decide) (by decide)
  refine w8_X8 (g := lup (fun _ => gZ G) 0 q1) (fun l S F I h2 g2 => ?_) _ _ _ _ h1 (fun _ _ => rfl)
  refine ⟨h2.a_ (by decide), h2.b_ (by decide) (by decide), fun q8 hq8 => ?_⟩
  have h3 := h2.O_ (c := 10) hq8 (by decide) (by decide) (by decide) (by decide)
  have e1 : lup l 75 q8 75 = q8 := lup_s
  have e0 : lup l 75 q8 0 = q1 := (lup_n (by decide)).trans ((g2 0 (by decide)).trans lup_s)
  have hw := w9_X9 (G := G) (g := lup l 75 q8) (Q := fun (S12 : Shp) (F13 : Fl) (I14 : Il) => 1 ≤ sa S12 ∧ 1 ≤ sb S12 ∧ ∀ q15 : Nat, sK S12 q15 = 99 → ∃ n9, V_L_law_23 G ln scr n9 q1 q8 q15 0 (newA S12 q15 22 1) F13 (zI I14 q15) Q) (fun l' S' F' I' h4 g4 => ?_) _ _ _ _ h3 (fun _ _ => rfl)
  · rw [e1] at hw
    exact hw
  · refine ⟨h4.a_ (by decide), h4.b_ (by decide) (by decide), fun q15 hq15 => ?_⟩
    have h5 := h4.A_ (c := 22) (m := 1) hq15 (by decide) (by decide) (by decide) (by decide) (by decide)
    have h6 := lj_start h5
    have f0 : lup l' 129 q15 0 = q1 := (lup_n (by decide)).trans ((g4 0 (by decide)).trans e0)
    have f1 : lup l' 129 q15 75 = q8 := (lup_n (by decide)).trans ((g4 75 (by decide)).trans e1)
    have f2 : lup l' 129 q15 129 = q15 := lup_s
    rw [f0, f1, f2] at h6
    exact h _ _ _ _ _ _ h6
/-- what is left: of numbers alone -/
theorem law_pure (G : Gp) (N : Nat) (scr : Int → Int) (hN : N ≤ 2560) (hs : ∀ z, rg (scr z)) : V_L_law G (N : Int) scr S00 (fun _ _ => 0) (fun _ _ => 0) (fun z _ _ _ => z = 1) :=
  law_init fun x m o S F I h => ⟨513, law_loop hs (by omega) (by omega) 512 0 S F I h (Int.le_refl _) (by omega) (by omega)⟩
