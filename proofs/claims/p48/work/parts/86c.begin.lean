/-! the start: behind the constructors the relation stands -/
def c00 : Nat → Nat := fun _ => 0
def ogl : List Nat := [0, 1, 7, 8, 9, 14, 10, 12, 2, 3, 4, 5, 6, 77, 77, 77, 77, 77, 77, 77, 15, 18, 21, 24, 27, 30, 33, 36, 77, 77, 16, 19, 22, 25, 28, 31, 34, 37, 77, 77, 39, 45, 51, 57, 63, 69, 77, 77, 77, 77, 40, 46, 52, 58, 64, 70, 77, 77, 77, 77, 42, 48, 54, 60, 66, 72, 77, 77, 77, 77, 44, 50, 56, 62, 68, 74]
/-- names by the order of making: themselves; their items -/
def og (v : Nat) : Nat := if v < 76 then ogl.getD v 77 else 77
def oi (v : Nat) : Nat := if v < 76 ∧ kd c00 v = 6 then og v + 1 else 77
def lnr (v : Nat) : Nat := if v < 76 ∧ kd c00 v = 6 then nn0 (og v + 1) else 0
def mol : List Nat := [77, 75, 76, 77]
def mo (k : Nat) : Nat := mol.getD k 77
theorem kd_big {v : Nat} (h : ¬ v < 76) : kd c00 v = 99 := by
  unfold kd c00
  repeat' (first | omega | (refine ite_ez (fun _ => ?_) (fun _ => ?_)))
theorem og_big {v : Nat} (h : ¬ v < 76) : og v = 77 := if_neg h
theorem oi_no {v : Nat} (h : kd c00 v ≠ 6) : oi v = 77 := if_neg (fun w => h w.2)
theorem kd_lt {v : Nat} (h : kd c00 v ≠ 99) : v < 76 := by
  by_cases hv : v < 76
  · exact hv
  · exact absurd (kd_big hv) h
theorem g_1 : ∀ v, v < 76 → (kd c00 v ≠ 99 → og v < 75 ∧ kk0 (og v) = kd c00 v) ∧ (kd c00 v = 99 → og v = 77) := by decide +kernel
theorem g_2 : ∀ v, v < 76 → kd c00 v ≠ 99 → ∀ w, w < 76 → og v = og w → v = w := by decide +kernel
theorem g_3 : ∀ v, v < 76 → kd c00 v = 6 → oi v < 75 ∧ kk0 (oi v) = 20 ∧ nn0 (oi v) = lnr v ∧ lnr v ≤ 1024 ∧ t79.1 600 (og v) = some (oi v) := by decide +kernel
theorem g_4 : ∀ v, v < 76 → kd c00 v = 6 → ∀ w, w < 76 → oi v = oi w → v = w := by decide +kernel
theorem g_5 : ∀ v, v < 76 → kd c00 v ≠ 99 → ∀ w, w < 76 → kd c00 w = 6 → og v ≠ oi w := by decide +kernel
theorem g_6 : t79.1 900 0 = some (og 1) ∧ t79.1 901 0 = some (og 8) ∧ t79.1 902 0 = some (og 9) ∧ t79.1 903 0 = some (og 10) ∧ t79.1 904 0 = some (og 11) ∧ t79.1 905 0 = some (og 12) ∧ t79.1 906 0 = some (og 2) ∧ t79.1 907 0 = some (og 3) ∧ t79.1 908 0 = some (og 4) ∧ t79.1 909 0 = some (og 6) ∧ t79.1 910 0 = some (og 7) ∧ t79.1 911 0 = some (og 5) := by decide +kernel
theorem g_7 : ∀ v, v < 76 → (kd c00 v = 7 → t79.1 701 (og v) = some (og (v + 10))) ∧ (kd c00 v = 8 → t79.1 809 (og v) = some (og (v + 10)) ∧ t79.1 810 (og v) = some (og (v + 20)) ∧ t79.1 816 (og v) = some (og (v + 30))) ∧ kd c00 v ≠ 3 ∧ (kd c00 v = 0 → t79.1 1 (og v) = some 999) ∧ (kd c00 v = 20 ∨ kd c00 v = 23 ∨ kd c00 v = 24 → nn0 (og v) = ln v) := by decide +kernel
theorem g_8 : (∀ j, j < 8 → t79.2.1 1 ((j : Nat) : Int) = some (og (20 + j))) ∧ ∀ j, j < 6 → t79.2.1 7 ((j : Nat) : Int) = some (og (40 + j)) := by decide +kernel
theorem g_9 : ∀ k, k < 4 → (75 ≤ mo k ∧ mo k ≤ 77) ∧ kk0 (mo k) = 20 := by decide +kernel
theorem g_11 : t79.2.2.1 912 0 = 0 ∧ t79.2.2.1 913 0 = 5000 ∧ t79.2.2.1 914 0 = 0 ∧ t79.2.2.1 915 0 = 0 ∧ (∀ v, v < 76 → kd c00 v = 0 → t79.2.2.1 2 (og v) = 0) ∧ (∀ v, v < 76 → kd c00 v = 6 → t79.2.2.1 601 (og v) = 0) ∧ (∀ s, s < 8 → t79.2.2.1 700 (og (20 + s)) = 2) ∧ ∀ t, t < 6 → t79.2.2.1 800 (og (40 + t)) = ((t : Nat) : Int) ∧ t79.2.2.1 801 (og (40 + t)) = -1 := by decide +kernel
theorem g_13 : t79.2.2.2 8 = 20 ∧ t79.2.2.2 9 = 20 := by decide +kernel
theorem isA_lt {k : Nat} (h : isA k = true) : k < 4 := by
  have := Nat.blt_eq.mp h
  exact this
theorem d0 : ¬ (0 : Int) = 1 := by decide
section Begin
variable {G : Gp} {l : Nat → Nat} {S : Shp} {F : Fl} {I : Il}
/-- what the relation asks of the start -/
theorem rep_start {B : Fl} {E : El} {A : Il} (hA : ∀ k j, A k j = if k = 2 then 5000 else if k = 5 then 2 else if k = 59 then 20 else 0)
    (b0 : B 912 0 = 0 ∧ B 913 0 = 5000 ∧ B 914 0 = 0 ∧ B 915 0 = 0) (b1 : ∀ v, kd c00 v = 0 → B 2 v = 0) (b2 : ∀ v, kd c00 v = 6 → B 601 v = 0) (b3 : ∀ s, s < 8 → B 700 (20 + s) = 2) (b4 : ∀ t, t < 6 → B 800 (40 + t) = ((t : Nat) : Int) ∧ B 801 (40 + t) = -1)
    (e0 : ∀ j : Int, 0 ≤ j → j < 64 → E (.inl 3) j = 20 ∧ E (.inl 4) j = 20) : Rep c00 lnr B E A := by
  have z1 : A 1 0 = 0 := (hA 1 0).trans (by decide)
  have z2 : A 2 0 = 5000 := (hA 2 0).trans (by decide)
  have z3 : A 3 0 = 0 := (hA 3 0).trans (by decide)
  have z4 : A 4 0 = 0 := (hA 4 0).trans (by decide)
  have z6 : A 6 0 = 0 := (hA 6 0).trans (by decide)
  have z19 : A 19 0 = 0 := (hA 19 0).trans (by decide)
  have z23 : A 23 0 = 0 := (hA 23 0).trans (by decide)
  have z29 : A 29 0 = 0 := (hA 29 0).trans (by decide)
  have z52 : A 52 0 = 0 := (hA 52 0).trans (by decide)
  have z54 : A 54 0 = 0 := (hA 54 0).trans (by decide)
  have z60 : A 60 0 = 0 := (hA 60 0).trans (by decide)
  have y5 : ∀ j : Int, 0 ≤ j → j < 8 → A 5 j = 2 := fun j j0 j1 => (hA 5 j).trans (by decide)
  have y59 : ∀ j : Int, 0 ≤ j → j < 128 → A 59 j = 20 := fun j j0 j1 => (hA 59 j).trans (by decide)
  have y35 : ∀ j : Int, 0 ≤ j → j < 8 → A 35 j = 0 := fun j j0 j1 => (hA 35 j).trans (by decide)
  have y36 : ∀ j : Int, 0 ≤ j → j < 6 → A 36 j = 0 := fun j j0 j1 => (hA 36 j).trans (by decide)
  have y58 : ∀ j : Int, 0 ≤ j → j < 40 → A 58 j = 0 := fun j j0 j1 => (hA 58 j).trans (by decide)
  have y26 : ∀ j : Int, 0 ≤ j → j < 6 → A 26 j = 0 := fun j j0 j1 => (hA 26 j).trans (by decide)
  have y27 : ∀ j : Int, 0 ≤ j → j < 6 → A 27 j = 0 := fun j j0 j1 => (hA 27 j).trans (by decide)
  have y28 : ∀ j : Int, 0 ≤ j → j < 96 → A 28 j = 0 := fun j j0 j1 => (hA 28 j).trans (by decide)
  have yb : ∀ k, 10 ≤ k → k ≤ 16 → ∀ j : Int, 0 ≤ j → j < 16 → A k j = 0 := fun k k0 k1 j j0 j1 => by
    obtain rfl | rfl | rfl | rfl | rfl | rfl | rfl : k = 10 ∨ k = 11 ∨ k = 12 ∨ k = 13 ∨ k = 14 ∨ k = 15 ∨ k = 16 := by omega
    · exact (hA 10 j).trans (by decide)
    · exact (hA 11 j).trans (by decide)
    · exact (hA 12 j).trans (by decide)
    · exact (hA 13 j).trans (by decide)
    · exact (hA 14 j).trans (by decide)
    · exact (hA 15 j).trans (by decide)
    · exact (hA 16 j).trans (by decide)
  have vac : ∀ {p : Int → Prop}, ∀ j : Int, 0 ≤ j → j < 0 → p j := fun j j0 j1 => absurd j0 (by omega)
  have ev : ∀ (k base a : Nat), eqF B A k base a 0 := fun _ _ _ j j0 j1 => absurd j0 (by omega)
  have row0 : ∀ (v : Nat) (f : Int → Int), kd c00 v = 6 → rowR lnr B E v 0 f := fun v f hv => ⟨b2 v hv, by omega, by omega, fun p p0 p1 => absurd p0 (by omega)⟩
  refine ⟨?_, ?_, ?_, ?_, ?_, ?_, ?_, ?_, ?_, ?_, ?_, ?_, ?_, ?_, ?_, ?_, ?_, ?_, ?_⟩
  · obtain ⟨b01, b02, b03, b04⟩ := b0
    refine ⟨by rw [b01, z1], by rw [b02, z2], by rw [b03, z3], by rw [b04, z4], by rw [z1]; omega, by rw [z2]; unfold rg; omega, by rw [z3]; omega, by rw [z3]; omega⟩
  · refine ⟨fun j j0 j1 => ?_, fun j j0 j1 => by rw [y5 j j0 j1]; omega⟩
    rw [b3 j.toNat (by omega), y5 j j0 j1]
  · unfold RepB
    rw [z6]
    exact ⟨⟨rfl, b1 8 (by decide), by decide⟩, vac, ev _ _ _, ev _ _ _, ev _ _ _, ev _ _ _, ev _ _ _, ev _ _ _, ev _ _ _, ev _ _ _, ev _ _ _, vac⟩
  · intro j j0 j1
    rw [z6] at j0
    exact ⟨yb 10 (by decide) (by decide) j j0 j1, yb 11 (by decide) (by decide) j j0 j1, yb 12 (by decide) (by decide) j j0 j1, yb 13 (by decide) (by decide) j j0 j1, yb 14 (by decide) (by decide) j j0 j1, yb 15 (by decide) (by decide) j j0 j1, yb 16 (by decide) (by decide) j j0 j1⟩
  · unfold RepH
    rw [z6]
    exact vac
  · unfold RepE
    rw [z19]
    exact ⟨⟨rfl, b1 9 (by decide), by decide⟩, ev _ _ _, ev _ _ _, ev _ _ _, vac⟩
  · unfold RepC
    rw [z23]
    exact ⟨⟨rfl, b1 10 (by decide), by decide⟩, ev _ _ _, ev _ _ _, ev _ _ _, ev _ _ _, vac, fun j j0 j1 => ⟨y26 j j0 j1, y27 j j0 j1⟩⟩
  · unfold RepN
    rw [z23]
    exact ⟨vac, fun j j0 j1 => Or.inl (y28 j j0 j1), fun j j0 j1 => y28 j (by omega) j1⟩
  · unfold RepK
    rw [z29]
    exact ⟨⟨rfl, b1 11 (by decide), by decide⟩, ev _ _ _, ev _ _ _, ev _ _ _, ev _ _ _, vac⟩
  · unfold RepL
    rw [z54]
    exact ⟨⟨rfl, b1 12 (by decide), by decide⟩, ev _ _ _, ev _ _ _, ev _ _ _, ev _ _ _, vac, y58⟩
  · intro j j0 j1
    obtain ⟨p1, p2⟩ := e0 j j0 j1
    rw [p1, p2, y59 j j0 (by omega), y59 (64 + j) (by omega) (by omega)]
    omega
  · refine ⟨by decide, by decide, ?_, fun p p0 p1 => absurd p0 (by rw [z52] at p1; omega), by rw [b2 7 (by decide)]; omega, by rw [b2 7 (by decide)]; omega⟩
    rw [z52]
    exact row0 6 _ (by decide)
  · intro s s0 s1
    have hk : kd c00 (30 + s.toNat) = 6 ∧ 1 ≤ lnr (30 + s.toNat) := by
      have : ∀ s, s < 8 → kd c00 (30 + s) = 6 ∧ 1 ≤ lnr (30 + s) := by decide +kernel
      exact this _ (by omega)
    rw [y35 s s0 s1]
    exact ⟨row0 _ _ hk.1, by omega, hk.2, vac⟩
  · intro t t0 t1
    have hk : lnr (50 + t.toNat) = 10 := by
      have : ∀ t, t < 6 → lnr (50 + t) = 10 := by decide +kernel
      exact this _ (by omega)
    exact ⟨hk, fun w => absurd w (by rw [y36 t t0 t1]; omega)⟩
  · intro k k0 k1
    rw [z29] at k1
    exact absurd k0 (by omega)
  · unfold RepP
    rw [z60, z29]
    exact ⟨by omega, by omega, vac, vac⟩
  · intro t t0 t1
    have hk : lnr (60 + t.toNat) = 8 := by
      have : ∀ t, t < 6 → lnr (60 + t) = 8 := by decide +kernel
      exact this _ (by omega)
    obtain ⟨p1, p2⟩ := b4 t.toNat (by omega)
    refine ⟨p1.trans (by omega), hk, Or.inl (y36 t t0 t1), fun _ => p2, fun w => absurd w (by rw [y36 t t0 t1]; omega)⟩
  · unfold RepX
    rw [z19, z23, z6]
    exact ⟨vac, vac, vac⟩
  · unfold RepZ
    rw [z29, y35 0 (by decide) (by decide), y35 1 (by decide) (by decide), y35 2 (by decide) (by decide), y35 3 (by decide) (by decide), y35 4 (by decide) (by decide), y35 5 (by decide) (by decide), y35 6 (by decide) (by decide), y35 7 (by decide) (by decide), y36 0 (by decide) (by decide), y36 1 (by decide) (by decide), y36 2 (by decide) (by decide), y36 3 (by decide) (by decide), y36 4 (by decide) (by decide), y36 5 (by decide) (by decide), if_neg d0, if_neg d0, if_neg d0, if_neg d0, if_neg d0, if_neg d0]
    decide
def Yst (G : Gp) (l : Nat → Nat) (S : Shp) : Yt := (fun k => l (mo k), l 78, gZ G, S, fun v => l (og v), fun _ => 0, c00, 28672, 172032)
theorem cg_start (h : Mq G 79 l t79 S F I) : Cg (Yst G l S) (fun v => l (oi v)) lnr S := by
  have oL : ∀ v, og v < 79 := fun v => by
    by_cases hv : v < 76
    · by_cases hk : kd c00 v = 99
      · rw [(g_1 v hv).2 hk]; decide
      · have := ((g_1 v hv).1 hk).1
        omega
    · rw [og_big hv]; decide
  have iL : ∀ v, oi v < 79 := fun v => by
    by_cases hk : kd c00 v = 6
    · have := (g_3 v (kd_lt (by rw [hk]; decide)) hk).1
      omega
    · rw [oi_no hk]; decide
  have inj := h.2.1
  have k75 : ∀ v, kd c00 v = 99 → og v = 77 := fun v hv => by
    by_cases hv7 : v < 76
    · exact (g_1 v hv7).2 hv
    · exact og_big hv7
  have lo : ∀ v, kd c00 v ≠ 99 → og v < 75 := fun v hv => ((g_1 v (kd_lt hv)).1 hv).1
  have li : ∀ v, kd c00 v = 6 → oi v < 75 := fun v hv => (g_3 v (kd_lt (by rw [hv]; decide)) hv).1
  have mL : ∀ k, isA k = true → 75 ≤ mo k ∧ mo k ≤ 77 := fun k hk => (g_9 k (isA_lt hk)).1
  refine ⟨fun v w hv e => ?_, fun v w hv e => ?_, fun v w hv e => ?_, fun v w hv e => ?_, fun v k hk => ⟨fun hv e => ?_, fun hv e => ?_⟩, fun v => ⟨fun hv e => ?_, fun hv e => ?_, fun hv => ?_, fun hv => ?_⟩, fun v hv => ?_, fun v hv => ?_, ?_, fun v hv => ?_, fun v hv => ?_, fun v hv => ?_, fun v hv => ?_, ?_, fun v hv => Or.inl ⟨rfl, ?_⟩, fun v w hv hw h0 => absurd h0 (Nat.lt_irrefl 0), ?_, ?_⟩
  · have e2 := inj _ _ (oL v) (oL w) e
    by_cases hw : kd c00 w = 99
    · rw [k75 w hw] at e2
      have := lo v hv
      omega
    · exact g_2 v (kd_lt hv) hv w (kd_lt hw) e2
  · have e2 := inj _ _ (iL v) (iL w) e
    by_cases hw : kd c00 w = 6
    · exact g_4 v (kd_lt (by rw [show kd c00 v = 6 from hv]; decide)) hv w (kd_lt (by rw [hw]; decide)) e2
    · rw [oi_no hw] at e2
      have := li v hv
      omega
  · have e2 := inj _ _ (oL v) (iL w) e
    by_cases hw : kd c00 w = 6
    · exact g_5 v (kd_lt hv) hv w (kd_lt (by rw [hw]; decide)) hw e2
    · rw [oi_no hw] at e2
      have := lo v hv
      omega
  · have e2 := inj _ _ (iL v) (oL w) e
    by_cases hw : kd c00 w = 99
    · rw [k75 w hw] at e2
      have := li v hv
      omega
    · exact g_5 w (kd_lt hw) hw v (kd_lt (by rw [show kd c00 v = 6 from hv]; decide)) hv e2.symm
  · have e2 := inj _ _ (oL v) (by have := (mL k hk).2; omega) e
    have := (mL k hk).1
    have := lo v hv
    omega
  · have e2 := inj _ _ (iL v) (by have := (mL k hk).2; omega) e
    have := (mL k hk).1
    have := li v hv
    omega
  · have e2 := inj _ _ (oL v) (by decide) e
    have := lo v hv
    omega
  · have e2 := inj _ _ (iL v) (by decide) e
    have := li v hv
    omega
  · show l (og v) = l (mo 0)
    rw [k75 v hv]
    rfl
  · show l (oi v) = l (mo 0)
    rw [oi_no hv]
    rfl
  · exact (h.k_ (oL v)).trans ((g_1 v (kd_lt hv)).1 hv).2
  · have h6 : kd c00 v = 6 := hv
    have h9 : kd c00 v ≠ 99 := by rw [h6]; decide
    obtain ⟨p1, p2, p3, p4, p5⟩ := g_3 v (kd_lt h9) h6
    exact ⟨h.r_ (oL v) (by rw [((g_1 v (kd_lt h9)).1 h9).2, h6]; decide) p5, (h.k_ (iL v)).trans p2, (h.n_ (iL v) (by rw [p2]; decide)).trans p3, p4⟩
  · obtain ⟨p1, p2, p3, p4, p5, p6, p7, p8, p9, p10, p11, p12⟩ := g_6
    exact ⟨h.r_ (by decide) (by decide) p1, h.r_ (by decide) (by decide) p2, h.r_ (by decide) (by decide) p3, h.r_ (by decide) (by decide) p4, h.r_ (by decide) (by decide) p5, h.r_ (by decide) (by decide) p6, h.r_ (by decide) (by decide) p7, h.r_ (by decide) (by decide) p8, h.r_ (by decide) (by decide) p9, h.r_ (by decide) (by decide) p10, h.r_ (by decide) (by decide) p11, h.r_ (by decide) (by decide) p12⟩
  · have h7 : kd c00 v = 7 := hv
    have h9 : kd c00 v ≠ 99 := by rw [h7]; decide
    exact h.r_ (oL v) (by rw [((g_1 v (kd_lt h9)).1 h9).2, h7]; decide) ((g_7 v (kd_lt h9)).1 h7)
  · have h8 : kd c00 v = 8 := hv
    have h9 : kd c00 v ≠ 99 := by rw [h8]; decide
    have hk : kk0 (og v) < 20 := by rw [((g_1 v (kd_lt h9)).1 h9).2, h8]; decide
    obtain ⟨p1, p2, p3⟩ := (g_7 v (kd_lt h9)).2.1 h8
    exact ⟨h.r_ (oL v) hk p1, h.r_ (oL v) hk p2, h.r_ (oL v) hk p3⟩
  · exact absurd hv (g_7 v (kd_lt (by rw [show kd c00 v = 3 from hv]; decide))).2.2.1
  · have hv : kd c00 v = 20 ∨ kd c00 v = 23 ∨ kd c00 v = 24 := hv
    have h9 : kd c00 v ≠ 99 := by rcases hv with e | e | e <;> rw [e] <;> decide
    exact (h.n_ (oL v) (by rw [((g_1 v (kd_lt h9)).1 h9).2]; omega)).trans ((g_7 v (kd_lt h9)).2.2.2.2 hv)
  · refine ⟨fun j j0 j1 => ?_, fun j j0 j1 => ?_⟩
    · have j1 : j < 8 := j1
      refine h.g_ (i := 1) (by decide) (by decide) ?_
      have := g_8.1 j.toNat (by omega)
      rw [Int.toNat_of_nonneg j0] at this
      exact this
    · have j1 : j < 6 := j1
      refine h.g_ (i := 7) (by decide) (by decide) ?_
      have := g_8.2 j.toNat (by omega)
      rw [Int.toNat_of_nonneg j0] at this
      exact this
  · have h0 : kd c00 v = 0 := hv
    have h9 : kd c00 v ≠ 99 := by rw [h0]; decide
    exact (h.r_ (oL v) (by rw [((g_1 v (kd_lt h9)).1 h9).2, h0]; decide) ((g_7 v (kd_lt h9)).2.2.2.1 h0)).trans (congrArg some h.1)
  · have hp : pq lnr ≤ 20992 := by decide +kernel
    have := h.2.2.2.2.2.2.2.2.2.2
    show 28672 + 16 + pq lnr ≤ sa S ∧ 172032 + 256 + 2 * pq lnr ≤ sb S
    omega
  · refine ⟨fun q _ => ⟨rfl, rfl, fun _ _ => rfl⟩, fun k hk => ?_, ?_, ?_⟩
    · show sK S (l (mo k)) ≠ 99
      rw [h.k_ (by have := (mL k hk).2; omega), (g_9 k (isA_lt hk)).2]
      decide
    · show sK S (l 78) ≠ 99
      rw [h.k_ (by decide)]
      decide
    · show sK S (l (mo 0)) ≠ 99
      rw [h.k_ (by decide)]
      decide
/-- the reference's numbers at the start -/
def A00 : Il := fun k _ => if k = 2 then 5000 else if k = 5 then 2 else if k = 59 then 20 else 0
/-- the law's rows at the start: ways, blocks, trains, the whole -/
def l4 (l : Nat → Nat) : Nat → Nat := fun k => if k = 0 then l 77 else if k = 1 then l 75 else if k = 2 then l 76 else l 78
theorem vp_start (h : Mq G 79 l t79 S F I) : VP 463 G (l 0) (l4 l) A00 S F I := by
  have hf : ∀ k v, kd c00 v ≠ 99 → kd c00 v < 20 → F k (l (og v)) = t79.2.2.1 k (og v) := fun k v h9 h2 => by
    have := (g_1 v (kd_lt h9)).1 h9
    exact h.2.2.2.2.2.2.2.2.1 (og v) k (by omega) (by rw [this.2]; exact h2)
  obtain ⟨q1, q2, q3, q4, q5, q6, q7, q8⟩ := g_11
  have hR : Rep c00 lnr (Bc (Yst G l S) F) (Ec (Yst G l S) (fun v => l (oi v)) I) A00 := by
    refine rep_start (fun k j => rfl) ⟨?_, ?_, ?_, ?_⟩ (fun v hv => ?_) (fun v hv => ?_) (fun s hs => ?_) (fun t ht => ⟨?_, ?_⟩) (fun j j0 j1 => ⟨?_, ?_⟩)
    · exact (hf 912 0 (by decide) (by decide)).trans q1
    · exact (hf 913 0 (by decide) (by decide)).trans q2
    · exact (hf 914 0 (by decide) (by decide)).trans q3
    · exact (hf 915 0 (by decide) (by decide)).trans q4
    · exact (hf 2 v (by rw [hv]; decide) (by rw [hv]; decide)).trans (q5 v (kd_lt (by rw [hv]; decide)) hv)
    · exact (hf 601 v (by rw [hv]; decide) (by rw [hv]; decide)).trans (q6 v (kd_lt (by rw [hv]; decide)) hv)
    · have hk : kd c00 (20 + s) = 7 := by
        have : ∀ s, s < 8 → kd c00 (20 + s) = 7 := by decide +kernel
        exact this s hs
      exact (hf 700 (20 + s) (by rw [hk]; decide) (by rw [hk]; decide)).trans (q7 s hs)
    · have hk : kd c00 (40 + t) = 8 := by
        have : ∀ t, t < 6 → kd c00 (40 + t) = 8 := by decide +kernel
        exact this t ht
      exact (hf 800 (40 + t) (by rw [hk]; decide) (by rw [hk]; decide)).trans (q8 t ht).1
    · have hk : kd c00 (40 + t) = 8 := by
        have : ∀ t, t < 6 → kd c00 (40 + t) = 8 := by decide +kernel
        exact this t ht
      exact (hf 801 (40 + t) (by rw [hk]; decide) (by rw [hk]; decide)).trans (q8 t ht).2
    · exact (h.2.2.2.2.2.2.2.2.2.1 8 j (by decide) (by decide) j0 j1).trans g_13.1
    · exact (h.2.2.2.2.2.2.2.2.2.1 9 j (by decide) (by decide) j0 j1).trans g_13.2
  have k4 : ∀ i, i < 79 → 75 ≤ i → kk0 i = 20 := by decide +kernel
  have n4 : nn0 77 = 24 ∧ nn0 75 = 40 ∧ nn0 76 = 48 ∧ nn0 78 = 8 := by decide +kernel
  have row : ∀ i m : Nat, i < 79 → 75 ≤ i → nn0 i = m → sK S (l i) = 20 ∧ (sN S (l i) : Int) = (m : Int) := fun i m hi h7 hm => ⟨(h.k_ hi).trans (k4 i hi h7), by rw [h.n_ hi (by rw [k4 i hi h7]; decide), hm]⟩
  refine ⟨Yst G l S, fun v => l (oi v), lnr, rfl, ⟨rfl, rfl, rfl, rfl⟩, rfl, ⟨fun k hk => ?_, fun k j hk hj e => ?_⟩, cg_start h, by show 16 * 463 + 1024 * (20 - 0) ≤ 28672; decide, by show 256 * 463 + 2048 * (20 - 0) ≤ 172032; decide, hR, by decide⟩
  · have h4 : k = 0 ∨ k = 1 ∨ k = 2 ∨ k = 3 := by omega
    rcases h4 with rfl | rfl | rfl | rfl
    · exact row 77 24 (by decide) (by decide) n4.1
    · exact row 75 40 (by decide) (by decide) n4.2.1
    · exact row 76 48 (by decide) (by decide) n4.2.2.1
    · exact row 78 8 (by decide) (by decide) n4.2.2.2
  · have h4 : k = 0 ∨ k = 1 ∨ k = 2 ∨ k = 3 := by omega
    have j4 : j = 0 ∨ j = 1 ∨ j = 2 ∨ j = 3 := by omega
    have inj := h.2.1
    rcases h4 with rfl | rfl | rfl | rfl <;> rcases j4 with rfl | rfl | rfl | rfl <;> first | rfl | exact absurd (inj _ _ (by decide) (by decide) e) (by decide)
theorem S1.start {L : Il} (h3 : ∀ j, L 3 j = if j = 1 then 5000 else 0) (h1 : ∀ j : Int, 0 ≤ j → j < 40 → L 1 j = 0) (h2 : ∀ j : Int, 0 ≤ j → j < 48 → L 2 j = 0) : S1 0 L A00 := by
  refine ⟨⟨h3 0, h3 1, rfl, h3 3⟩, ⟨rfl, rfl⟩, fun s _ _ => rfl, fun s s0 s1 => absurd s0 (by omega), ⟨rfl, fun k k0 k1 => absurd k0 (by omega)⟩, fun k k0 k1 => ⟨⟨h1 _ (by omega) (by omega), h1 _ (by omega) (by omega), h1 _ (by omega) (by omega), h1 _ (by omega) (by omega), h1 _ (by omega) (by omega), h1 _ (by omega) (by omega)⟩, rfl, rfl, rfl, rfl, rfl, rfl, rfl⟩, fun m m0 m1 => ⟨fun i i0 i1 => h2 _ (by omega) (by omega), rfl, rfl, fun b _ _ => rfl⟩, ⟨rfl, rfl, rfl⟩, fun t _ _ => rfl⟩
end Begin
abbrev S00 : Shp := ([], fun _ => 99, fun _ _ => none, fun _ => 0, fun _ _ => none, 747000, 6850000)
/-- what is left: of numbers alone -/
theorem law_pure (G : Gp) : V_L_law G S00 (fun _ _ => 0) (fun _ _ => 0) (fun z _ _ _ => z = 1) := by
  have h0 : Mq G 0 (fun _ => gZ G) t00 S00 (fun _ _ => 0) (fun _ _ => 0) := ⟨rfl, fun i j hi => absurd hi (by omega), fun i hi => absurd hi (by omega), fun i hi => absurd hi (by omega), fun i f hi => absurd hi (by omega), fun i f r hi => absurd hi (by omega), fun i j hi => absurd hi (by omega), fun i j r hi => absurd hi (by omega), fun i k hi => absurd hi (by omega), fun i j hi => absurd hi (by omega), by decide, by decide, by decide⟩
  refine ⟨by decide, by decide, fun q1 hq1 => ?_⟩
  have h1 := h0.O_ (c := 9) hq1 (by decide) (by decide) (by decide) (by decide)
  refine w8_X8 (g := lup (fun _ => gZ G) 0 q1) (fun l S F I h2 g2 => ?_) _ _ _ _ h1 (fun _ _ => rfl)
  refine ⟨h2.a_ (by decide), h2.b_ (by decide) (by decide), fun q8 hq8 => ?_⟩
  have h3 := h2.A_ (c := 20) (m := 40) hq8 (by decide) (by decide) (by decide) (by decide) (by decide)
  refine ⟨h3.a_ (by decide), h3.b_ (by decide) (by decide), fun q12 hq12 => ?_⟩
  have h4 := h3.A_ (c := 20) (m := 48) hq12 (by decide) (by decide) (by decide) (by decide) (by decide)
  refine ⟨h4.a_ (by decide), h4.b_ (by decide) (by decide), fun q16 hq16 => ?_⟩
  have h5 := h4.A_ (c := 20) (m := 24) hq16 (by decide) (by decide) (by decide) (by decide) (by decide)
  refine ⟨h5.a_ (by decide), h5.b_ (by decide) (by decide), fun q20 hq20 => ?_⟩
  have h6 := h5.A_ (c := 20) (m := 8) hq20 (by decide) (by decide) (by decide) (by decide) (by decide)
  have hv := vp_start h6
  obtain ⟨l', hl⟩ : ∃ l', l' = lup (lup (lup (lup l 75 q8) 76 q12) 77 q16) 78 q20 := ⟨_, rfl⟩
  have f0 : l' 0 = q1 := by rw [hl]; exact (lup_n (by decide)).trans ((lup_n (by decide)).trans ((lup_n (by decide)).trans ((lup_n (by decide)).trans ((g2 0 (by decide)).trans lup_s))))
  have f75 : l' 75 = q8 := by rw [hl]; exact (lup_n (by decide)).trans ((lup_n (by decide)).trans ((lup_n (by decide)).trans lup_s))
  have f76 : l' 76 = q12 := by rw [hl]; exact (lup_n (by decide)).trans ((lup_n (by decide)).trans lup_s)
  have f77 : l' 77 = q16 := by rw [hl]; exact (lup_n (by decide)).trans lup_s
  have f78 : l' 78 = q20 := by rw [hl]; exact lup_s
  rw [← hl] at hv h6
  clear hl
  have e0 : l4 l' 0 = q16 := f77
  have e1 : l4 l' 1 = q8 := f75
  have e2 : l4 l' 2 = q12 := f76
  have e3 : l4 l' 3 = q20 := f78
  rw [f0] at hv
  have hS := hv.ls
  have n3 := hS.n3
  have k3 := hS.k (k := 3) (by decide)
  rw [e3] at n3 k3
  refine ⟨k3, by decide, by omega, fun I27 h27 => ?_⟩
  have h27 : I27 = ui (zI (zI (zI (zI I q8) q12) q16) q20) (l4 l' 3) 1 5000 := by rw [e3]; exact h27
  have k27 := FrL.rf.stp (la := l4 l') (by decide) h27
  have g27 := stp hS (by decide) h27
  have hv2 := hv.frl k27
  have z6 : ∀ (i : Nat) (j : Int), i < 79 → 75 ≤ i → 0 ≤ j → j < (nn0 i : Int) → zI (zI (zI (zI I q8) q12) q16) q20 (l' i) j = 0 := fun i j hi h7 j0 j1 => by
    have hk : kk0 i = 20 := (by decide +kernel : ∀ i, i < 79 → 75 ≤ i → kk0 i = 20) i hi h7
    have hz : t79.2.2.2 i = 0 := (by decide +kernel : ∀ i, i < 79 → 75 ≤ i → t79.2.2.2 i = 0) i hi h7
    exact (h6.2.2.2.2.2.2.2.2.2.1 i j hi (by rw [hk]; decide) j0 j1).trans hz
  have z3 : ∀ j : Int, zI (zI (zI (zI I q8) q12) q16) q20 q20 j = 0 := fun j => if_pos rfl
  have hS1 : S1 0 (lA (l4 l') I27) A00 := by
    rw [g27]
    refine S1.start (fun j => ?_) (fun j j0 j1 => ?_) (fun j j0 j1 => ?_)
    · by_cases e : j = 1
      · rw [if_pos e, e]
        exact ui_s
      · rw [if_neg e]
        refine (ui_j e).trans ?_
        show zI (zI (zI (zI I q8) q12) q16) q20 (l4 l' 3) j = 0
        rw [e3]
        exact z3 j
    · refine (ui_k (by decide)).trans ?_
      show zI (zI (zI (zI I q8) q12) q16) q20 (l' 75) j = 0
      exact z6 75 j (by decide) (by decide) j0 (by rw [show nn0 75 = 40 by decide]; omega)
    · refine (ui_k (by decide)).trans ?_
      show zI (zI (zI (zI I q8) q12) q16) q20 (l' 76) j = 0
      exact z6 76 j (by decide) (by decide) j0 (by rw [show nn0 76 = 48 by decide]; omega)
  refine ⟨5, ?_⟩
  rw [← e0, ← e1, ← e2, ← e3]
  refine l_blocks (N := 459) (fun A S F I a b => ⟨4, ?_⟩) 4 0 A00 _ F I27 rfl ?_ hS1
  · refine l_trains (N := 408) (fun A S F I a b c => ⟨51, ?_⟩) 3 0 A S F I rfl a b
    exact l_turns (fun _ _ _ => rfl) 50 0 A S F I rfl a b (by omega)
  · rw [e0, e1, e2, e3]
    exact hv2
