/-! the calls of the class, what the reference answers known -/
section Calls
variable {n : Nat} {G : Gp} {x : Nat} {la : Nat → Nat} {A : Il} {S : Shp} {F : Fl} {I : Il}
theorem c_tracks {a0 a1 : Int} {R : Int → Il → Prop} {Q : Int → Fl → Prop} {QX : String → Shp → Fl → Il → Prop} (hP : VP (n + 1) G x la A S F I) (hr0 : rg a0) (hr1 : rg a1) (hR : W_X9_tracks a0 a1 A R)
    (hQ : ∀ (z : Int) (F' : Fl) (A1 : Il), R z A1 → A1 0 0 = 0 → VP n G x la A1 S F' I → Q z F')
    (hX : ∀ (X9 : String) (z : Int) (A1 : Il) (F' : Fl) (I' : Il), R z A1 → ((X9 = "java/lang/IndexOutOfBoundsException" ∧ A1 0 0 = 1) ∨ (X9 = "java/lang/IllegalArgumentException" ∧ A1 0 0 = 2) ∨ (X9 = "java/lang/IllegalStateException" ∧ A1 0 0 = 3)) → VP n G x la A1 (thr S) F' I' → lA la I' = lA la I → QX X9 (thr S) F' I') : V_X8_tracks x a0 a1 S F I Q QX := by
  obtain ⟨Y, it, LN, rfl, hla, hz, hLs, hC, ha, hb, hRp, hp⟩ := hP
  obtain ⟨ans, A1, h1, h2, h3⟩ := sim_tracks hRp (by omega) hr0 hr1
  obtain ⟨z1, A2, e1, e2⟩ := D_X9_tracks (h1 (fun z A9 => z = ans ∧ A9 = A1) ⟨rfl, rfl⟩) hR
  obtain ⟨rfl, rfl⟩ := e1
  refine T_X8_tracks (F0 := F) (I0 := I) hC Fc.rf (fun z F2 hF h4 => ?_) (fun X9 F2 I2 hF h4 => ?_) h3
  · obtain ⟨a1, a2, a3⟩ := h4
    subst a2
    exact hQ _ _ _ e2 a1 ⟨Y, it, LN, rfl, hla, hz, hLs, hC, by omega, by omega, a3, by omega⟩
  · exact hX _ _ _ _ _ e2 h4.1 ⟨dn Y, it, LN, rfl, hla, hz, hLs, cg_thr hC (by omega) (by omega), by show _ + 1024 * (20 - yc Y 11) ≤ ya Y - 16; omega, by show _ + 2048 * (20 - yc Y 11) ≤ yb Y - 256; omega, h4.2, by omega⟩ (lA_fc hla hF)
theorem c_fail {a0 a1 : Int} {R : Int → Il → Prop} {Q : Int → Fl → Prop} {QX : String → Shp → Fl → Il → Prop} (hP : VP (n + 1) G x la A S F I) (hr0 : rg a0) (hb1 : a1 = 0 ∨ a1 = 1) (hR : W_X9_fail a0 a1 A R)
    (hQ : ∀ (z : Int) (F' : Fl) (A1 : Il), R z A1 → A1 0 0 = 0 → VP n G x la A1 S F' I → Q z F')
    (hX : ∀ (X9 : String) (z : Int) (A1 : Il) (F' : Fl) (I' : Il), R z A1 → ((X9 = "java/lang/IndexOutOfBoundsException" ∧ A1 0 0 = 1)) → VP n G x la A1 (thr S) F' I' → lA la I' = lA la I → QX X9 (thr S) F' I') : V_X8_fail x a0 a1 S F I Q QX := by
  obtain ⟨Y, it, LN, rfl, hla, hz, hLs, hC, ha, hb, hRp, hp⟩ := hP
  obtain ⟨ans, A1, h1, h2, _, h3⟩ := sim_fail hRp (by omega) hr0 hb1
  obtain ⟨z1, A2, e1, e2⟩ := D_X9_fail (h1 (fun z A9 => z = ans ∧ A9 = A1) ⟨rfl, rfl⟩) hR
  obtain ⟨rfl, rfl⟩ := e1
  refine T_X8_fail (F0 := F) (I0 := I) hC Fc.rf (fun z F2 hF h4 => ?_) (fun X9 F2 I2 hF h4 => ?_) h3
  · obtain ⟨a1, a2, a3⟩ := h4
    subst a2
    exact hQ _ _ _ e2 a1 ⟨Y, it, LN, rfl, hla, hz, hLs, hC, by omega, by omega, a3, by omega⟩
  · exact hX _ _ _ _ _ e2 h4.1 ⟨dn Y, it, LN, rfl, hla, hz, hLs, cg_thr hC (by omega) (by omega), by show _ + 1024 * (20 - yc Y 11) ≤ ya Y - 16; omega, by show _ + 2048 * (20 - yc Y 11) ≤ yb Y - 256; omega, h4.2, by omega⟩ (lA_fc hla hF)
theorem c_flag {a0 : Int} {R : Il → Prop} {Q : Fl → Prop} {QX : String → Shp → Fl → Il → Prop} (hP : VP (n + 1) G x la A S F I) (hr0 : rg a0) (hR : W_X9_flag a0 A R)
    (hQ : ∀ (F' : Fl) (A1 : Il), R A1 → A1 0 0 = 0 → VP n G x la A1 S F' I → Q F')
    (hX : ∀ (X9 : String) (A1 : Il) (F' : Fl) (I' : Il), R A1 → ((X9 = "java/lang/IndexOutOfBoundsException" ∧ A1 0 0 = 1) ∨ (X9 = "java/lang/IllegalStateException" ∧ A1 0 0 = 2)) → VP n G x la A1 (thr S) F' I' → lA la I' = lA la I → QX X9 (thr S) F' I') : V_X8_flag x a0 S F I Q QX := by
  obtain ⟨Y, it, LN, rfl, hla, hz, hLs, hC, ha, hb, hRp, hp⟩ := hP
  obtain ⟨A1, h1, h2, h3⟩ := sim_flag hRp (by omega) hr0
  obtain ⟨A2, e1, e2⟩ := D_X9_flag (h1 (fun A9 => A9 = A1) rfl) hR
  subst e1
  refine T_X8_flag (F0 := F) (I0 := I) hC Fc.rf (fun F2 hF h4 => ?_) (fun X9 F2 I2 hF h4 => ?_) h3
  · exact hQ _ _ e2 h4.1 ⟨Y, it, LN, rfl, hla, hz, hLs, hC, by omega, by omega, h4.2, by omega⟩
  · exact hX _ _ _ _ e2 h4.1 ⟨dn Y, it, LN, rfl, hla, hz, hLs, cg_thr hC (by omega) (by omega), by show _ + 1024 * (20 - yc Y 11) ≤ ya Y - 16; omega, by show _ + 2048 * (20 - yc Y 11) ≤ yb Y - 256; omega, h4.2, by omega⟩ (lA_fc hla hF)
theorem c_hours {a0 a1 a2 : Int} {R : Il → Prop} {Q : Fl → Prop} {QX : String → Shp → Fl → Il → Prop} (hP : VP (n + 1) G x la A S F I) (hr0 : rg a0) (hr1 : rg a1) (hr2 : rg a2) (hR : W_X9_hours a0 a1 a2 A R)
    (hQ : ∀ (F' : Fl) (A1 : Il), R A1 → A1 0 0 = 0 → VP n G x la A1 S F' I → Q F')
    (hX : ∀ (X9 : String) (A1 : Il) (F' : Fl) (I' : Il), R A1 → ((X9 = "java/lang/IndexOutOfBoundsException" ∧ A1 0 0 = 1) ∨ (X9 = "java/lang/IllegalArgumentException" ∧ A1 0 0 = 2)) → VP n G x la A1 (thr S) F' I' → lA la I' = lA la I → QX X9 (thr S) F' I') : V_X8_hours x a0 a1 a2 S F I Q QX := by
  obtain ⟨Y, it, LN, rfl, hla, hz, hLs, hC, ha, hb, hRp, hp⟩ := hP
  obtain ⟨A1, h1, h2, h3⟩ := sim_hours hRp (by omega) hr0 hr1 hr2
  obtain ⟨A2, e1, e2⟩ := D_X9_hours (h1 (fun A9 => A9 = A1) rfl) hR
  subst e1
  refine T_X8_hours (F0 := F) (I0 := I) hC Fc.rf (fun F2 hF h4 => ?_) (fun X9 F2 I2 hF h4 => ?_) h3
  · exact hQ _ _ e2 h4.1 ⟨Y, it, LN, rfl, hla, hz, hLs, hC, by omega, by omega, h4.2, by omega⟩
  · exact hX _ _ _ _ e2 h4.1 ⟨dn Y, it, LN, rfl, hla, hz, hLs, cg_thr hC (by omega) (by omega), by show _ + 1024 * (20 - yc Y 11) ≤ ya Y - 16; omega, by show _ + 2048 * (20 - yc Y 11) ≤ yb Y - 256; omega, h4.2, by omega⟩ (lA_fc hla hF)
theorem c_repair {a0 : Int} {R : Int → Il → Prop} {Q : Int → Fl → Prop} {QX : String → Shp → Fl → Il → Prop} (hP : VP (n + 1) G x la A S F I) (hr0 : rg a0) (hR : W_X9_repair a0 A R)
    (hQ : ∀ (z : Int) (F' : Fl) (A1 : Il), R z A1 → A1 0 0 = 0 → VP n G x la A1 S F' I → Q z F')
    (hX : ∀ (X9 : String) (z : Int) (A1 : Il) (F' : Fl) (I' : Il), R z A1 → ((X9 = "java/lang/IndexOutOfBoundsException" ∧ A1 0 0 = 1) ∨ (X9 = "java/lang/IllegalStateException" ∧ A1 0 0 = 2)) → VP n G x la A1 (thr S) F' I' → lA la I' = lA la I → QX X9 (thr S) F' I') : V_X8_repair x a0 S F I Q QX := by
  obtain ⟨Y, it, LN, rfl, hla, hz, hLs, hC, ha, hb, hRp, hp⟩ := hP
  obtain ⟨ans, A1, h1, h2, h3⟩ := sim_repair hRp (by omega) hr0
  obtain ⟨z1, A2, e1, e2⟩ := D_X9_repair (h1 (fun z A9 => z = ans ∧ A9 = A1) ⟨rfl, rfl⟩) hR
  obtain ⟨rfl, rfl⟩ := e1
  refine T_X8_repair (F0 := F) (I0 := I) hC Fc.rf (fun z F2 hF h4 => ?_) (fun X9 F2 I2 hF h4 => ?_) h3
  · obtain ⟨a1, a2, a3⟩ := h4
    subst a2
    exact hQ _ _ _ e2 a1 ⟨Y, it, LN, rfl, hla, hz, hLs, hC, by omega, by omega, a3, by omega⟩
  · exact hX _ _ _ _ _ e2 h4.1 ⟨dn Y, it, LN, rfl, hla, hz, hLs, cg_thr hC (by omega) (by omega), by show _ + 1024 * (20 - yc Y 11) ≤ ya Y - 16; omega, by show _ + 2048 * (20 - yc Y 11) ≤ yb Y - 256; omega, h4.2, by omega⟩ (lA_fc hla hF)
theorem c_learn {a0 a1 : Int} {R : Int → Il → Prop} {Q : Int → Fl → Prop} {QX : String → Shp → Fl → Il → Prop} (hP : VP (n + 1) G x la A S F I) (hr0 : rg a0) (hr1 : rg a1) (hR : W_X9_learn a0 a1 A R)
    (hQ : ∀ (z : Int) (F' : Fl) (A1 : Il), R z A1 → A1 0 0 = 0 → VP n G x la A1 S F' I → Q z F')
    (hX : ∀ (X9 : String) (z : Int) (A1 : Il) (F' : Fl) (I' : Il), R z A1 → ((X9 = "java/lang/IndexOutOfBoundsException" ∧ A1 0 0 = 1)) → VP n G x la A1 (thr S) F' I' → lA la I' = lA la I → QX X9 (thr S) F' I') : V_X8_learn x a0 a1 S F I Q QX := by
  obtain ⟨Y, it, LN, rfl, hla, hz, hLs, hC, ha, hb, hRp, hp⟩ := hP
  obtain ⟨ans, A1, h1, h2, h3⟩ := sim_learn hRp (by omega) hr0 hr1
  obtain ⟨z1, A2, e1, e2⟩ := D_X9_learn (h1 (fun z A9 => z = ans ∧ A9 = A1) ⟨rfl, rfl⟩) hR
  obtain ⟨rfl, rfl⟩ := e1
  refine T_X8_learn (F0 := F) (I0 := I) hC Fc.rf (fun z F2 hF h4 => ?_) (fun X9 F2 I2 hF h4 => ?_) h3
  · obtain ⟨a1, a2, a3⟩ := h4
    subst a2
    exact hQ _ _ _ e2 a1 ⟨Y, it, LN, rfl, hla, hz, hLs, hC, by omega, by omega, a3, by omega⟩
  · exact hX _ _ _ _ _ e2 h4.1 ⟨dn Y, it, LN, rfl, hla, hz, hLs, cg_thr hC (by omega) (by omega), by show _ + 1024 * (20 - yc Y 11) ≤ ya Y - 16; omega, by show _ + 2048 * (20 - yc Y 11) ≤ yb Y - 256; omega, h4.2, by omega⟩ (lA_fc hla hF)
theorem c_rest {a0 : Int} {R : Int → Il → Prop} {Q : Int → Fl → Prop} {QX : String → Shp → Fl → Il → Prop} (hP : VP (n + 1) G x la A S F I) (hr0 : rg a0) (hR : W_X9_rest a0 A R)
    (hQ : ∀ (z : Int) (F' : Fl) (A1 : Il), R z A1 → A1 0 0 = 0 → VP n G x la A1 S F' I → Q z F')
    (hX : ∀ (X9 : String) (z : Int) (A1 : Il) (F' : Fl) (I' : Il), R z A1 → ((X9 = "java/lang/IndexOutOfBoundsException" ∧ A1 0 0 = 1) ∨ (X9 = "java/lang/IllegalStateException" ∧ A1 0 0 = 2)) → VP n G x la A1 (thr S) F' I' → lA la I' = lA la I → QX X9 (thr S) F' I') : V_X8_rest x a0 S F I Q QX := by
  obtain ⟨Y, it, LN, rfl, hla, hz, hLs, hC, ha, hb, hRp, hp⟩ := hP
  obtain ⟨ans, A1, h1, h2, h3⟩ := sim_rest hRp (by omega) hr0
  obtain ⟨z1, A2, e1, e2⟩ := D_X9_rest (h1 (fun z A9 => z = ans ∧ A9 = A1) ⟨rfl, rfl⟩) hR
  obtain ⟨rfl, rfl⟩ := e1
  refine T_X8_rest (F0 := F) (I0 := I) hC Fc.rf (fun z F2 hF h4 => ?_) (fun X9 F2 I2 hF h4 => ?_) h3
  · obtain ⟨a1, a2, a3⟩ := h4
    subst a2
    exact hQ _ _ _ e2 a1 ⟨Y, it, LN, rfl, hla, hz, hLs, hC, by omega, by omega, a3, by omega⟩
  · exact hX _ _ _ _ _ e2 h4.1 ⟨dn Y, it, LN, rfl, hla, hz, hLs, cg_thr hC (by omega) (by omega), by show _ + 1024 * (20 - yc Y 11) ≤ ya Y - 16; omega, by show _ + 2048 * (20 - yc Y 11) ≤ yb Y - 256; omega, h4.2, by omega⟩ (lA_fc hla hF)
theorem c_form {a0 a1 : Int} {R : Int → Il → Prop} {Q : Int → Fl → Il → Prop} {QX : String → Shp → Fl → Il → Prop} (hP : VP (n + 1) G x la A S F I) (hr0 : rg a0) (hr1 : rg a1) (hR : W_X9_form a0 a1 A R)
    (hQ : ∀ (z : Int) (F' : Fl) (I' : Il) (A1 : Il), R z A1 → A1 0 0 = 0 → VP n G x la A1 S F' I' → lA la I' = lA la I → Q z F' I')
    (hX : ∀ (X9 : String) (z : Int) (A1 : Il) (F' : Fl) (I' : Il), R z A1 → ((X9 = "java/lang/IndexOutOfBoundsException" ∧ A1 0 0 = 1) ∨ (X9 = "java/lang/IllegalStateException" ∧ A1 0 0 = 2)) → VP n G x la A1 (thr S) F' I' → lA la I' = lA la I → QX X9 (thr S) F' I') : V_X8_form x a0 a1 S F I Q QX := by
  obtain ⟨Y, it, LN, rfl, hla, hz, hLs, hC, ha, hb, hRp, hp⟩ := hP
  obtain ⟨ans, A1, h1, h2, h3⟩ := sim_form hRp (by omega) hr0 hr1
  obtain ⟨z1, A2, e1, e2⟩ := D_X9_form (h1 (fun z A9 => z = ans ∧ A9 = A1) ⟨rfl, rfl⟩) hR
  obtain ⟨rfl, rfl⟩ := e1
  refine T_X8_form (F0 := F) (I0 := I) hC Fc.rf (fun z F2 I2 hF h4 => ?_) (fun X9 F2 I2 hF h4 => ?_) h3
  · obtain ⟨a1, a2, a3⟩ := h4
    subst a2
    exact hQ _ _ _ _ e2 a1 ⟨Y, it, LN, rfl, hla, hz, hLs, hC, by omega, by omega, a3, by omega⟩ (lA_fc hla hF)
  · exact hX _ _ _ _ _ e2 h4.1 ⟨dn Y, it, LN, rfl, hla, hz, hLs, cg_thr hC (by omega) (by omega), by show _ + 1024 * (20 - yc Y 11) ≤ ya Y - 16; omega, by show _ + 2048 * (20 - yc Y 11) ≤ yb Y - 256; omega, h4.2, by omega⟩ (lA_fc hla hF)
theorem c_couple {a0 a1 : Int} {R : Int → Il → Prop} {Q : Int → Shp → Fl → Il → Prop} {QX : String → Shp → Fl → Il → Prop} (hP : VP (n + 1) G x la A S F I) (hr0 : rg a0) (hr1 : rg a1) (hR : W_X9_couple a0 a1 A R)
    (hQ : ∀ (z : Int) (S' : Shp) (F' : Fl) (I' : Il) (A1 : Il), R z A1 → A1 0 0 = 0 → VP n G x la A1 S' F' I' → lA la I' = lA la I → Q z S' F' I')
    (hX : ∀ (X9 : String) (z : Int) (A1 : Il) (S' : Shp) (F' : Fl) (I' : Il), R z A1 → ((X9 = "java/lang/IndexOutOfBoundsException" ∧ A1 0 0 = 1) ∨ (X9 = "java/lang/IllegalStateException" ∧ A1 0 0 = 2)) → VP n G x la A1 (thr S') F' I' → lA la I' = lA la I → QX X9 (thr S') F' I') : V_X8_couple x a0 a1 S F I Q QX := by
  obtain ⟨Y, it, LN, rfl, hla, hz, hLs, hC, ha, hb, hRp, hp⟩ := hP
  obtain ⟨ans, A1, h1, h2, h3⟩ := sim_couple hRp (by omega) hr0 hr1
  obtain ⟨z1, A2, e1, e2⟩ := D_X9_couple (h1 (fun z A9 => z = ans ∧ A9 = A1) ⟨rfl, rfl⟩) hR
  obtain ⟨rfl, rfl⟩ := e1
  refine T_X8_couple (F0 := F) (I0 := I) hC Fc.rf (fun z it2 LN2 S2 F2 I2 hC2 hF h4 => ?_) (fun X9 it2 LN2 S2 F2 I2 hC2 hF h4 => ?_) h3
  · obtain ⟨a1, a2, a3⟩ := h4
    subst a2
    exact hQ _ _ _ _ _ e2 a1 ⟨Y, it2, LN2, rfl, hla, hz, hLs, hC2, by omega, by omega, a3, by omega⟩ (lA_fc hla hF)
  · exact hX _ _ _ _ _ _ e2 h4.1 ⟨dn Y, it2, LN2, rfl, hla, hz, hLs, cg_thr hC2 (by omega) (by omega), by show _ + 1024 * (20 - yc Y 11) ≤ ya Y - 16; omega, by show _ + 2048 * (20 - yc Y 11) ≤ yb Y - 256; omega, h4.2, by omega⟩ (lA_fc hla hF)
theorem c_leg {a0 : Int} {R : Int → Il → Prop} {Q : Int → Shp → Fl → Il → Prop} {QX : String → Shp → Fl → Il → Prop} (hP : VP (n + 1) G x la A S F I) (hr0 : rg a0) (hR : W_X9_leg a0 A R)
    (hQ : ∀ (z : Int) (S' : Shp) (F' : Fl) (I' : Il) (A1 : Il), R z A1 → A1 0 0 = 0 → VP n G x la A1 S' F' I' → lA la I' = lA la I → Q z S' F' I')
    (hX : ∀ (X9 : String) (z : Int) (A1 : Il) (S' : Shp) (F' : Fl) (I' : Il), R z A1 → ((X9 = "java/lang/IndexOutOfBoundsException" ∧ A1 0 0 = 1) ∨ (X9 = "java/lang/IllegalStateException" ∧ A1 0 0 = 2)) → VP n G x la A1 (thr S') F' I' → lA la I' = lA la I → QX X9 (thr S') F' I') : V_X8_leg x a0 S F I Q QX := by
  obtain ⟨Y, it, LN, rfl, hla, hz, hLs, hC, ha, hb, hRp, hp⟩ := hP
  obtain ⟨ans, A1, h1, h2, h3⟩ := sim_leg hRp (by omega) hr0
  obtain ⟨z1, A2, e1, e2⟩ := D_X9_leg (h1 (fun z A9 => z = ans ∧ A9 = A1) ⟨rfl, rfl⟩) hR
  obtain ⟨rfl, rfl⟩ := e1
  refine T_X8_leg (F0 := F) (I0 := I) hC Fc.rf (fun z it2 LN2 S2 F2 I2 hC2 hF h4 => ?_) (fun X9 it2 LN2 S2 F2 I2 hC2 hF h4 => ?_) h3
  · obtain ⟨a1, a2, a3⟩ := h4
    subst a2
    exact hQ _ _ _ _ _ e2 a1 ⟨Y, it2, LN2, rfl, hla, hz, hLs, hC2, by omega, by omega, a3, by omega⟩ (lA_fc hla hF)
  · exact hX _ _ _ _ _ _ e2 h4.1 ⟨dn Y, it2, LN2, rfl, hla, hz, hLs, cg_thr hC2 (by omega) (by omega), by show _ + 1024 * (20 - yc Y 11) ≤ ya Y - 16; omega, by show _ + 2048 * (20 - yc Y 11) ≤ yb Y - 256; omega, h4.2, by omega⟩ (lA_fc hla hF)
theorem c_plan {a0 a1 a2 : Int} {R : Int → Il → Prop} {Q : Int → Shp → Fl → Il → Prop} {QX : String → Shp → Fl → Il → Prop} (hP : VP (n + 1) G x la A S F I) (hr0 : rg a0) (hr1 : rg a1) (hr2 : rg a2) (hR : W_X9_plan a0 a1 a2 A R)
    (hQ : ∀ (z : Int) (S' : Shp) (F' : Fl) (I' : Il) (A1 : Il), R z A1 → A1 0 0 = 0 → VP n G x la A1 S' F' I' → lA la I' = lA la I → Q z S' F' I')
    (hX : ∀ (X9 : String) (z : Int) (A1 : Il) (S' : Shp) (F' : Fl) (I' : Il), R z A1 → ((X9 = "java/lang/IndexOutOfBoundsException" ∧ A1 0 0 = 1) ∨ (X9 = "java/lang/IllegalArgumentException" ∧ A1 0 0 = 2) ∨ (X9 = "java/lang/IllegalStateException" ∧ A1 0 0 = 3)) → VP n G x la A1 (thr S') F' I' → lA la I' = lA la I → QX X9 (thr S') F' I') : V_X8_plan x a0 a1 a2 S F I Q QX := by
  obtain ⟨Y, it, LN, rfl, hla, hz, hLs, hC, ha, hb, hRp, hp⟩ := hP
  obtain ⟨ans, A1, h1, h2, h3⟩ := sim_plan hRp (by omega) hr0 hr1 hr2
  obtain ⟨z1, A2, e1, e2⟩ := D_X9_plan (h1 (fun z A9 => z = ans ∧ A9 = A1) ⟨rfl, rfl⟩) hR
  obtain ⟨rfl, rfl⟩ := e1
  refine T_X8_plan (F0 := F) (I0 := I) hC Fc.rf (fun z it2 LN2 S2 F2 I2 hC2 hF h4 => ?_) (fun X9 it2 LN2 S2 F2 I2 hC2 hF h4 => ?_) h3
  · obtain ⟨a1, a2, a3⟩ := h4
    subst a2
    exact hQ _ _ _ _ _ e2 a1 ⟨Y, it2, LN2, rfl, hla, hz, hLs, hC2, by omega, by omega, a3, by omega⟩ (lA_fc hla hF)
  · exact hX _ _ _ _ _ _ e2 h4.1 ⟨dn Y, it2, LN2, rfl, hla, hz, hLs, cg_thr hC2 (by omega) (by omega), by show _ + 1024 * (20 - yc Y 11) ≤ ya Y - 16; omega, by show _ + 2048 * (20 - yc Y 11) ≤ yb Y - 256; omega, h4.2, by omega⟩ (lA_fc hla hF)
theorem c_run {a0 : Int} {R : Int → Il → Prop} {Q : Int → Fl → Il → Prop} {QX : String → Shp → Fl → Il → Prop} (hP : VP (n + 1) G x la A S F I) (hr0 : rg a0) (hR : W_X9_run a0 A R)
    (hQ : ∀ (z : Int) (F' : Fl) (I' : Il) (A1 : Il), R z A1 → A1 0 0 = 0 → VP n G x la A1 S F' I' → lA la I' = lA la I → Q z F' I')
    (hX : ∀ (X9 : String) (z : Int) (A1 : Il) (F' : Fl) (I' : Il), R z A1 → ((X9 = "java/lang/IllegalArgumentException" ∧ A1 0 0 = 1) ∨ (X9 = "java/lang/IllegalStateException" ∧ A1 0 0 = 2)) → VP n G x la A1 (thr S) F' I' → lA la I' = lA la I → QX X9 (thr S) F' I') : V_X8_run x a0 S F I Q QX := by
  obtain ⟨Y, it, LN, rfl, hla, hz, hLs, hC, ha, hb, hRp, hp⟩ := hP
  obtain ⟨ans, A1, h1, h2, h3⟩ := sim_run hRp (by omega) hr0
  obtain ⟨z1, A2, e1, e2⟩ := D_X9_run (h1 (fun z A9 => z = ans ∧ A9 = A1) ⟨rfl, rfl⟩) hR
  obtain ⟨rfl, rfl⟩ := e1
  refine T_X8_run (F0 := F) (I0 := I) hC Fc.rf (fun z F2 I2 hF h4 => ?_) (fun X9 F2 I2 hF h4 => ?_) h3
  · obtain ⟨a1, a2, a3⟩ := h4
    subst a2
    exact hQ _ _ _ _ e2 a1 ⟨Y, it, LN, rfl, hla, hz, hLs, hC, by omega, by omega, a3, by omega⟩ (lA_fc hla hF)
  · exact hX _ _ _ _ _ e2 h4.1 ⟨dn Y, it, LN, rfl, hla, hz, hLs, cg_thr hC (by omega) (by omega), by show _ + 1024 * (20 - yc Y 11) ≤ ya Y - 16; omega, by show _ + 2048 * (20 - yc Y 11) ≤ yb Y - 256; omega, h4.2, by omega⟩ (lA_fc hla hF)
theorem c_clock {v : Int} {Q : Int → Prop} (hP : VP n G x la A S F I)  (hR : W_X9_clock  A (fun z A2 => z = v ∧ A2 0 0 = 0)) (h : Q v) : V_X8_clock x  S F I Q := by
  obtain ⟨Y, it, LN, rfl, hla, hz, hLs, hC, ha, hb, hRp, hp⟩ := hP
  obtain ⟨ans, A1, h1, h2, h3⟩ := sim_clock hRp (by omega) 
  obtain ⟨z1, A2, e1, e2⟩ := D_X9_clock (h1 (fun z A9 => z = ans ∧ A9 = A1) ⟨rfl, rfl⟩) hR
  obtain ⟨rfl, rfl⟩ := e1
  obtain ⟨e2, e3⟩ := e2
  subst e2
  exact T_X8_clock (F0 := F) (I0 := I) hC Fc.rf (fun z h4 => by rw [h4.2.1]; exact h) h3
theorem c_cash {v : Int} {Q : Int → Prop} (hP : VP n G x la A S F I)  (hR : W_X9_cash  A (fun z A2 => z = v ∧ A2 0 0 = 0)) (h : Q v) : V_X8_cash x  S F I Q := by
  obtain ⟨Y, it, LN, rfl, hla, hz, hLs, hC, ha, hb, hRp, hp⟩ := hP
  obtain ⟨ans, A1, h1, h2, h3⟩ := sim_cash hRp (by omega) 
  obtain ⟨z1, A2, e1, e2⟩ := D_X9_cash (h1 (fun z A9 => z = ans ∧ A9 = A1) ⟨rfl, rfl⟩) hR
  obtain ⟨rfl, rfl⟩ := e1
  obtain ⟨e2, e3⟩ := e2
  subst e2
  exact T_X8_cash (F0 := F) (I0 := I) hC Fc.rf (fun z h4 => by rw [h4.2.1]; exact h) h3
theorem c_freeTracks {a0 : Int} {v : Int} {Q : Int → Prop} (hP : VP n G x la A S F I) (hr0 : rg a0) (hR : W_X9_freeTracks a0 A (fun z A2 => z = v ∧ A2 0 0 = 0)) (h : Q v) : V_X8_freeTracks x a0 S F I Q noX := by
  obtain ⟨Y, it, LN, rfl, hla, hz, hLs, hC, ha, hb, hRp, hp⟩ := hP
  obtain ⟨ans, A1, h1, h2, h3⟩ := sim_freeTracks hRp (by omega) hr0
  obtain ⟨z1, A2, e1, e2⟩ := D_X9_freeTracks (h1 (fun z A9 => z = ans ∧ A9 = A1) ⟨rfl, rfl⟩) hR
  obtain ⟨rfl, rfl⟩ := e1
  obtain ⟨e2, e3⟩ := e2
  subst e2
  exact T_X8_freeTracks (F0 := F) (I0 := I) hC Fc.rf (fun z h4 => by rw [h4.2.1]; exact h) (fun X9 F2 I2 hF h4 => by
    have h5 := h4.1
    rw [e3] at h5
    simp at h5) h3
theorem c_holder {a0 : Int} {v : Int} {Q : Int → Prop} (hP : VP n G x la A S F I) (hr0 : rg a0) (hR : W_X9_holder a0 A (fun z A2 => z = v ∧ A2 0 0 = 0)) (h : Q v) : V_X8_holder x a0 S F I Q noX := by
  obtain ⟨Y, it, LN, rfl, hla, hz, hLs, hC, ha, hb, hRp, hp⟩ := hP
  obtain ⟨ans, A1, h1, h2, h3⟩ := sim_holder hRp (by omega) hr0
  obtain ⟨z1, A2, e1, e2⟩ := D_X9_holder (h1 (fun z A9 => z = ans ∧ A9 = A1) ⟨rfl, rfl⟩) hR
  obtain ⟨rfl, rfl⟩ := e1
  obtain ⟨e2, e3⟩ := e2
  subst e2
  exact T_X8_holder (F0 := F) (I0 := I) hC Fc.rf (fun z h4 => by rw [h4.2.1]; exact h) (fun X9 F2 I2 hF h4 => by
    have h5 := h4.1
    rw [e3] at h5
    simp at h5) h3
theorem c_holderByTrains {a0 : Int} {v : Int} {Q : Int → Prop} (hP : VP n G x la A S F I) (hr0 : rg a0) (hR : W_X9_holderByTrains a0 A (fun z A2 => z = v ∧ A2 0 0 = 0)) (h : Q v) : V_X8_holderByTrains x a0 S F I Q noX := by
  obtain ⟨Y, it, LN, rfl, hla, hz, hLs, hC, ha, hb, hRp, hp⟩ := hP
  obtain ⟨ans, A1, h1, h2, h3⟩ := sim_holderByTrains hRp (by omega) hr0
  obtain ⟨z1, A2, e1, e2⟩ := D_X9_holderByTrains (h1 (fun z A9 => z = ans ∧ A9 = A1) ⟨rfl, rfl⟩) hR
  obtain ⟨rfl, rfl⟩ := e1
  obtain ⟨e2, e3⟩ := e2
  subst e2
  exact T_X8_holderByTrains (F0 := F) (I0 := I) hC Fc.rf (fun z h4 => by rw [h4.2.1]; exact h) (fun X9 F2 I2 hF h4 => by
    have h5 := h4.1
    rw [e3] at h5
    simp at h5) h3
theorem c_block {a0 a1 : Int} {v : Int} {Q : Int → Prop} (hP : VP n G x la A S F I) (hr0 : rg a0) (hr1 : rg a1) (hR : W_X9_block a0 a1 A (fun z A2 => z = v ∧ A2 0 0 = 0)) (h : Q v) : V_X8_block x a0 a1 S F I Q noX := by
  obtain ⟨Y, it, LN, rfl, hla, hz, hLs, hC, ha, hb, hRp, hp⟩ := hP
  obtain ⟨ans, A1, h1, h2, h3⟩ := sim_block hRp (by omega) hr0 hr1
  obtain ⟨z1, A2, e1, e2⟩ := D_X9_block (h1 (fun z A9 => z = ans ∧ A9 = A1) ⟨rfl, rfl⟩) hR
  obtain ⟨rfl, rfl⟩ := e1
  obtain ⟨e2, e3⟩ := e2
  subst e2
  exact T_X8_block (F0 := F) (I0 := I) hC Fc.rf (fun z h4 => by rw [h4.2.1]; exact h) (fun X9 F2 I2 hF h4 => by
    have h5 := h4.1
    rw [e3] at h5
    simp at h5) h3
theorem c_train {a0 a1 : Int} {v : Int} {Q : Int → Prop} (hP : VP n G x la A S F I) (hr0 : rg a0) (hr1 : rg a1) (hR : W_X9_train a0 a1 A (fun z A2 => z = v ∧ A2 0 0 = 0)) (h : Q v) : V_X8_train x a0 a1 S F I Q noX := by
  obtain ⟨Y, it, LN, rfl, hla, hz, hLs, hC, ha, hb, hRp, hp⟩ := hP
  obtain ⟨ans, A1, h1, h2, h3⟩ := sim_train hRp (by omega) hr0 hr1
  obtain ⟨z1, A2, e1, e2⟩ := D_X9_train (h1 (fun z A9 => z = ans ∧ A9 = A1) ⟨rfl, rfl⟩) hR
  obtain ⟨rfl, rfl⟩ := e1
  obtain ⟨e2, e3⟩ := e2
  subst e2
  exact T_X8_train (F0 := F) (I0 := I) hC Fc.rf (fun z h4 => by rw [h4.2.1]; exact h) (fun X9 F2 I2 hF h4 => by
    have h5 := h4.1
    rw [e3] at h5
    simp at h5) h3
theorem c_barred {a0 : Int} {v : Int} {Q : Int → Prop} (hP : VP n G x la A S F I) (hr0 : rg a0) (hR : W_X9_barred a0 A (fun z A2 => z = v ∧ A2 0 0 = 0)) (h : Q v) : V_X8_barred x a0 S F I Q noX := by
  obtain ⟨Y, it, LN, rfl, hla, hz, hLs, hC, ha, hb, hRp, hp⟩ := hP
  obtain ⟨ans, A1, h1, h2, h3⟩ := sim_barred hRp (by omega) hr0
  obtain ⟨z1, A2, e1, e2⟩ := D_X9_barred (h1 (fun z A9 => z = ans ∧ A9 = A1) ⟨rfl, rfl⟩) hR
  obtain ⟨rfl, rfl⟩ := e1
  obtain ⟨e2, e3⟩ := e2
  subst e2
  exact T_X8_barred (F0 := F) (I0 := I) hC Fc.rf (fun z h4 => by rw [h4.2.1]; exact h) (fun X9 F2 I2 hF h4 => by
    have h5 := h4.1
    rw [e3] at h5
    simp at h5) h3
theorem c_duty {a0 : Int} {v : Int} {Q : Int → Prop} (hP : VP n G x la A S F I) (hr0 : rg a0) (hR : W_X9_duty a0 A (fun z A2 => z = v ∧ A2 0 0 = 0)) (h : Q v) : V_X8_duty x a0 S F I Q noX := by
  obtain ⟨Y, it, LN, rfl, hla, hz, hLs, hC, ha, hb, hRp, hp⟩ := hP
  obtain ⟨ans, A1, h1, h2, h3⟩ := sim_duty hRp (by omega) hr0
  obtain ⟨z1, A2, e1, e2⟩ := D_X9_duty (h1 (fun z A9 => z = ans ∧ A9 = A1) ⟨rfl, rfl⟩) hR
  obtain ⟨rfl, rfl⟩ := e1
  obtain ⟨e2, e3⟩ := e2
  subst e2
  exact T_X8_duty (F0 := F) (I0 := I) hC Fc.rf (fun z h4 => by rw [h4.2.1]; exact h) (fun X9 F2 I2 hF h4 => by
    have h5 := h4.1
    rw [e3] at h5
    simp at h5) h3
theorem c_await {a0 a1 a2 : Int} {R : Il → Prop} {Q : Fl → Prop} {QX : String → Shp → Fl → Il → Prop} (hP : VP (n + 1) G x la A S F I) (hr0 : rg a0) (hr1 : rg a1) (hr2 : rg a2) (hR : W_X9_await a0 a1 a2 A R)
    (hQ : ∀ (F' : Fl) (A1 : Il), R A1 → A1 0 0 = 0 → VP n G x la A1 S F' I → Q F')
    (hX : ∀ (X9 : String) (A1 : Il) (F' : Fl) (I' : Il), R A1 → ((X9 = "java/lang/IndexOutOfBoundsException" ∧ A1 0 0 = 1) ∨ (X9 = "java/lang/IllegalStateException" ∧ A1 0 0 = 2)) → VP n G x la A1 (thr S) F' I' → lA la I' = lA la I → QX X9 (thr S) F' I') : V_X8_await x a0 a1 a2 S F I Q QX := by
  obtain ⟨Y, it, LN, rfl, hla, hz, hLs, hC, ha, hb, hRp, hp⟩ := hP
  obtain ⟨A1, h1, h2, h3⟩ := sim_await hRp (by omega) hr0 hr1 hr2
  obtain ⟨A2, e1, e2⟩ := D_X9_await (h1 (fun A9 => A9 = A1) rfl) hR
  subst e1
  refine T_X8_await (F0 := F) (I0 := I) hC Fc.rf (fun F2 hF h4 => ?_) (fun X9 F2 I2 hF h4 => ?_) h3
  · exact hQ _ _ e2 h4.1 ⟨Y, it, LN, rfl, hla, hz, hLs, hC, by omega, by omega, h4.2, by omega⟩
  · exact hX _ _ _ _ e2 h4.1 ⟨dn Y, it, LN, rfl, hla, hz, hLs, cg_thr hC (by omega) (by omega), by show _ + 1024 * (20 - yc Y 11) ≤ ya Y - 16; omega, by show _ + 2048 * (20 - yc Y 11) ≤ yb Y - 256; omega, h4.2, by omega⟩ (lA_fc hla hF)
theorem c_legx {lg : Nat} {a0 : Int} {R : Int → Il → Prop} {Q : Int → Shp → Fl → Il → Prop} {QX : String → Shp → Fl → Il → Prop} (hP : VPx (n + 1) G x la lg A S F I) (hr0 : rg a0) (hR : W_X9_leg a0 A R)
    (hQ : ∀ (z : Int) (S' : Shp) (F' : Fl) (I' : Il) (A1 : Il), R z A1 → A1 0 0 = 0 → VPx n G x la lg A1 S' F' I' → lA la I' = lA la I → (∀ j, I' lg j = I lg j) → Q z S' F' I')
    (hX : ∀ (X9 : String) (z : Int) (A1 : Il) (S' : Shp) (F' : Fl) (I' : Il), R z A1 → ((X9 = "java/lang/IndexOutOfBoundsException" ∧ A1 0 0 = 1) ∨ (X9 = "java/lang/IllegalStateException" ∧ A1 0 0 = 2)) → VPx n G x la lg A1 (thr S') F' I' → lA la I' = lA la I → (∀ j, I' lg j = I lg j) → QX X9 (thr S') F' I') : V_X8_leg x a0 S F I Q QX := by
  obtain ⟨Y, it, LN, rfl, hla, hlg, hz, hLs, hC, ha, hb, hRp, hp⟩ := hP
  obtain ⟨ans, A1, h1, h2, h3⟩ := sim_leg hRp (by omega) hr0
  obtain ⟨z1, A2, e1, e2⟩ := D_X9_leg (h1 (fun z A9 => z = ans ∧ A9 = A1) ⟨rfl, rfl⟩) hR
  obtain ⟨rfl, rfl⟩ := e1
  refine T_X8_leg (F0 := F) (I0 := I) hC Fc.rf (fun z it2 LN2 S2 F2 I2 hC2 hF h4 => ?_) (fun X9 it2 LN2 S2 F2 I2 hC2 hF h4 => ?_) h3
  · obtain ⟨a1, a2, a3⟩ := h4
    subst a2
    exact hQ _ _ _ _ _ e2 a1 ⟨Y, it2, LN2, rfl, hla, hlg, hz, hLs, hC2, by omega, by omega, a3, by omega⟩ (lA_fc hla hF) (fun j => by rw [← hlg.1]; exact hF.2.1 3 rfl j)
  · exact hX _ _ _ _ _ _ e2 h4.1 ⟨dn Y, it2, LN2, rfl, hla, hlg, hz, hLs, cg_thr hC2 (by omega) (by omega), by show _ + 1024 * (20 - yc Y 11) ≤ ya Y - 16; omega, by show _ + 2048 * (20 - yc Y 11) ≤ yb Y - 256; omega, h4.2, by omega⟩ (lA_fc hla hF) (fun j => by rw [← hlg.1]; exact hF.2.1 3 rfl j)
theorem c_planx {lg : Nat} {a0 a1 a2 : Int} {R : Int → Il → Prop} {Q : Int → Shp → Fl → Il → Prop} {QX : String → Shp → Fl → Il → Prop} (hP : VPx (n + 1) G x la lg A S F I) (hr0 : rg a0) (hr1 : rg a1) (hr2 : rg a2) (hR : W_X9_plan a0 a1 a2 A R)
    (hQ : ∀ (z : Int) (S' : Shp) (F' : Fl) (I' : Il) (A1 : Il), R z A1 → A1 0 0 = 0 → VPx n G x la lg A1 S' F' I' → lA la I' = lA la I → (∀ j, I' lg j = I lg j) → Q z S' F' I')
    (hX : ∀ (X9 : String) (z : Int) (A1 : Il) (S' : Shp) (F' : Fl) (I' : Il), R z A1 → ((X9 = "java/lang/IndexOutOfBoundsException" ∧ A1 0 0 = 1) ∨ (X9 = "java/lang/IllegalArgumentException" ∧ A1 0 0 = 2) ∨ (X9 = "java/lang/IllegalStateException" ∧ A1 0 0 = 3)) → VPx n G x la lg A1 (thr S') F' I' → lA la I' = lA la I → (∀ j, I' lg j = I lg j) → QX X9 (thr S') F' I') : V_X8_plan x a0 a1 a2 S F I Q QX := by
  obtain ⟨Y, it, LN, rfl, hla, hlg, hz, hLs, hC, ha, hb, hRp, hp⟩ := hP
  obtain ⟨ans, A1, h1, h2, h3⟩ := sim_plan hRp (by omega) hr0 hr1 hr2
  obtain ⟨z1, A2, e1, e2⟩ := D_X9_plan (h1 (fun z A9 => z = ans ∧ A9 = A1) ⟨rfl, rfl⟩) hR
  obtain ⟨rfl, rfl⟩ := e1
  refine T_X8_plan (F0 := F) (I0 := I) hC Fc.rf (fun z it2 LN2 S2 F2 I2 hC2 hF h4 => ?_) (fun X9 it2 LN2 S2 F2 I2 hC2 hF h4 => ?_) h3
  · obtain ⟨a1, a2, a3⟩ := h4
    subst a2
    exact hQ _ _ _ _ _ e2 a1 ⟨Y, it2, LN2, rfl, hla, hlg, hz, hLs, hC2, by omega, by omega, a3, by omega⟩ (lA_fc hla hF) (fun j => by rw [← hlg.1]; exact hF.2.1 3 rfl j)
  · exact hX _ _ _ _ _ _ e2 h4.1 ⟨dn Y, it2, LN2, rfl, hla, hlg, hz, hLs, cg_thr hC2 (by omega) (by omega), by show _ + 1024 * (20 - yc Y 11) ≤ ya Y - 16; omega, by show _ + 2048 * (20 - yc Y 11) ≤ yb Y - 256; omega, h4.2, by omega⟩ (lA_fc hla hF) (fun j => by rw [← hlg.1]; exact hF.2.1 3 rfl j)
end Calls
