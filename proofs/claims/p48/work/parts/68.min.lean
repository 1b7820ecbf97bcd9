/-! a minute of the law beside a minute of the reference -/
def FrL (la : Nat → Nat) (I I' : Il) : Prop := ∀ a : Nat, (∀ k, k < 4 → a ≠ la k) → ∀ j, I' a j = I a j
theorem w32_l (a b : Int) : w32 (w32 a + b) = w32 (a + b) := by
  unfold w32 Int.bmod
  dsimp only
  repeat' split
  all_goals omega
theorem w32_r (a b : Int) : w32 (a + w32 b) = w32 (a + b) := by rw [Int.add_comm, w32_l, Int.add_comm]
section Fr4
variable {la : Nat → Nat} {S : Shp} {I I' I'' : Il}
theorem FrL.rf : FrL la I I := fun _ _ _ => rfl
theorem FrL.t (h : FrL la I I') (h2 : FrL la I' I'') : FrL la I I'' := fun a ha j => (h2 a ha j).trans (h a ha j)
theorem FrL.stp {k : Nat} {j z : Int} (hk : k < 4) (h : FrL la I I') (e : I'' = ui I' (la k) j z) : FrL la I I'' := fun a ha j' => by
  rw [e]
  exact (if_neg (fun w => ha k hk w.1)).trans (h a ha j')
theorem stp {k : Nat} {j z : Int} (hS : Ls la S) (hk : k < 4) (e : I' = ui I (la k) j z) : lA la I' = ui (lA la I) k j z := by
  rw [e]
  exact lA_ui hS hk
end Fr4
section Ent
variable {c LN : Nat → Nat} {B : Fl} {E : El} {la : Nat → Nat} {S : Shp} {F : Fl} {I : Il} {A : Il} {n : Int}
theorem l_e96 {b its U w s0 : Int} {Q : Il → Prop} {I0 : Il} {L : Il} (hS : Ls la S) (h0 : 0 ≤ n) (h1 : n < 3) (hb : 0 ≤ b ∧ b < 4) (h7 : A 7 (2 * b) = b ∧ A 7 (2 * b + 1) = nx b) (hs : s0 = w) (hF : FrL la I0 I) (hI : lA la I = ui (ui (ui L 1 (28 + b) n) 1 (32 + b) U) 1 (16 + b) 0) (t4 : L 2 (16 * n + 4) = A 40 n) (t7 : L 2 (16 * n + 7) = A 46 n) (t13 : L 2 (16 * n + 13) = A 26 n) (q0 : L 3 0 = A 1 0) (l46 : 0 ≤ A 46 n ∧ A 46 n ≤ 8) (l26 : 0 ≤ A 26 n ∧ A 26 n ≤ 600) (li : 2 ≤ its ∧ its ≤ 840) (lc : 0 ≤ A 1 0 ∧ A 1 0 ≤ 20000)
    (hQ : ∀ I', FrL la I0 I' → lA la I' = entL L n b U w (oth A b (A 40 n)) (A 1 0 + its) (A 46 n + 1) (A 26 n + its) → Q I') : V_L_enters_96 (16 * n) (la 2) (la 3) b its s0 (16 * n + 11) (la 2) S F I Q := by
  subst hs
  have n2 := hS.n2
  have n3 := hS.n3
  have e3 := ix (i := 3) h0 h1 (by decide) (by decide)
  have e4 := ix (i := 4) h0 h1 (by decide) (by decide)
  have e5 := ix (i := 5) h0 h1 (by decide) (by decide)
  have e6 := ix (i := 6) h0 h1 (by decide) (by decide)
  have e7 := ix (i := 7) h0 h1 (by decide) (by decide)
  have e13 := ix (i := 13) h0 h1 (by decide) (by decide)
  have r0 : ∀ j, lA la I 2 j = L 2 j := fun j => by rw [hI]; exact (ui_k (by decide)).trans ((ui_k (by decide)).trans (ui_k (by decide)))
  have r3 : ∀ j, lA la I 3 j = L 3 j := fun j => by rw [hI]; exact (ui_k (by decide)).trans ((ui_k (by decide)).trans (ui_k (by decide)))
  refine ⟨hS.k (by decide), by omega, by omega, fun I4 h4 => ⟨hS.k (by decide), by omega, by omega, fun I8 h8 => ⟨by omega, by omega, ?_⟩⟩⟩
  rw [e3] at h8
  have f4 := hF.stp (by decide) h4
  have f8 := f4.stp (by decide) h8
  have g4 := stp hS (by decide) h4
  have g8 := stp hS (by decide) h8
  rw [g4] at g8
  have x4 : I8 (la 2) (16 * n + 4) = A 40 n := by
    show lA la I8 2 (16 * n + 4) = _
    rw [g8]
    exact (ui_j (by omega)).trans ((ui_j (by omega)).trans ((r0 _).trans t4))
  rw [e4, x4]
  refine l_other hb h7 ⟨by omega, by omega, fun I14 h14 => ⟨by omega, by omega, fun I17 h17 => ⟨hS.k (by decide), by decide, by omega, by omega, by omega, fun I23 h23 => ⟨by omega, by omega, by omega, by omega, fun I28 h28 => ⟨by omega, by omega, by omega, by omega, fun I33 h33 => ⟨by decide, by omega, by decide, by omega, fun I9 h9 => ?_⟩⟩⟩⟩⟩⟩
  rw [e5] at h17
  have f14 := f8.stp (by decide) h14
  have f17 := f14.stp (by decide) h17
  have g14 := stp hS (by decide) h14
  have g17 := stp hS (by decide) h17
  rw [g14, g8] at g17
  have x0 : I17 (la 3) 0 = A 1 0 := by
    show lA la I17 3 0 = _
    rw [g17]
    exact (ui_k (by decide)).trans ((ui_k (by decide)).trans ((ui_k (by decide)).trans ((ui_k (by decide)).trans ((r3 _).trans q0))))
  rw [e6, x0, w32_id (by unfold rg; omega)] at h23
  have f23 := f17.stp (by decide) h23
  have g23 := stp hS (by decide) h23
  rw [g17] at g23
  have x7 : I23 (la 2) (16 * n + 7) = A 46 n := by
    show lA la I23 2 (16 * n + 7) = _
    rw [g23]
    exact (ui_j (by omega)).trans ((ui_j (by omega)).trans ((ui_j (by omega)).trans ((ui_j (by omega)).trans ((ui_j (by omega)).trans ((r0 _).trans t7)))))
  rw [e7, x7, w32_id (by unfold rg; omega)] at h28
  have f28 := f23.stp (by decide) h28
  have g28 := stp hS (by decide) h28
  rw [g23] at g28
  have x13 : I28 (la 2) (16 * n + 13) = A 26 n := by
    show lA la I28 2 (16 * n + 13) = _
    rw [g28]
    exact (ui_j (by omega)).trans ((ui_j (by omega)).trans ((ui_j (by omega)).trans ((ui_j (by omega)).trans ((ui_j (by omega)).trans ((ui_j (by omega)).trans ((r0 _).trans t13))))))
  rw [e13, x13, w32_id (by unfold rg; omega)] at h33
  have f33 := f28.stp (by decide) h33
  have g33 := stp hS (by decide) h33
  rw [g28] at g33
  have f9 := f33.stp (by decide) h9
  have g9 := stp hS (by decide) h9
  have x2 : I33 (la 3) 2 = L 3 2 := by
    show lA la I33 3 2 = _
    rw [g33]
    exact (ui_k (by decide)).trans ((ui_k (by decide)).trans ((ui_k (by decide)).trans ((ui_k (by decide)).trans ((ui_k (by decide)).trans ((ui_k (by decide)).trans ((ui_k (by decide)).trans (r3 _)))))))
  rw [x2, g33, hI] at g9
  exact hQ I9 f9 g9
theorem l_enters {Q : Il → Prop} (hS : Ls la S) (hL : LR (lA la I) A) (hR : Rep c LN B E A) (h0 : 0 ≤ n) (h1 : n < 3) (h36 : A 36 n = 1) (h39 : A 39 n = 1)
    (hQ : ∀ I', FrL la I I' → lA la I' = entL (lA la I) n (nb A n) (clm A n (nb A n)) (if A 51 n = A 40 n then -1 else A 50 n) (oth A (nb A n) (A 40 n)) (A 1 0 + rnv A n (nb A n)) (A 46 n + 1) (A 26 n + rnv A n (nb A n)) → Q I') : V_L_enters (16 * n) (la 1) (la 2) (la 0) (la 3) S F I Q := by
  obtain ⟨hD, hway, ⟨r8, r9, r10⟩, t8, t10, hr⟩ := rdL hL hR h0 h1 h36 h39
  obtain ⟨-, hb, ⟨t2, t1, t4, t7, t9, t11, t12, t13, t14⟩, ⟨b0, b4, b8, b12, b16, b20, b24, b28, b36⟩, ⟨q0, h37, h38, hw, h7, h7b, h12⟩, l8, l44, l20, l13, l9, l15, lrn, lc, l17, l26, l50, l40, -⟩ := id hD
  have n0 := hS.n0
  have n1 := hS.n1
  have n2 := hS.n2
  have n3 := hS.n3
  have e2 := ix (i := 2) h0 h1 (by decide) (by decide)
  have e4 := ix (i := 4) h0 h1 (by decide) (by decide)
  have e7 := ix (i := 7) h0 h1 (by decide) (by decide)
  have e11 := ix (i := 11) h0 h1 (by decide) (by decide)
  have e12 := ix (i := 12) h0 h1 (by decide) (by decide)
  have f16 := bx (i := 16) hb.1 hb.2 (by decide) (by decide)
  have f28 := bx (i := 28) hb.1 hb.2 (by decide) (by decide)
  have f32 := bx (i := 32) hb.1 hb.2 (by decide) (by decide)
  have d2 : w32 (Int.tdiv (16 * n) 2) = 8 * n := by
    rw [td_nn (by omega) (by decide)]
    omega
  have d16 : w32 (Int.tdiv (16 * n) 16) = n := by
    rw [td_nn (by omega) (by decide)]
    omega
  have ed : w32 (Int.tdiv (A 44 n) 4) = A 44 n / 4 := td_nn (by omega) (by decide)
  have ecl : w32 (w32 (w32 (A 1 0 + rnv A n (nb A n)) + 1) + A 44 n / 4) = clm A n (nb A n) := by
    unfold clm
    rw [w32_id (show rg (A 1 0 + rnv A n (nb A n)) by unfold rg; omega), w32_id (show rg (A 1 0 + rnv A n (nb A n) + 1) by unfold rg; omega), w32_id (by unfold rg; omega)]
    omega
  have ew : w32 (w32 (Int.tdiv (16 * n) 2) + I (la 2) (w32 (16 * n + 7))) = 8 * n + A 46 n := by
    rw [d2, e7, t7, w32_id (by unfold rg; omega)]
  unfold V_L_enters
  rw [ew]
  refine ⟨hS.k (by decide), by omega, by omega, hS.k (by decide), by omega, by omega, fun v hv => ?_⟩
  rw [hway] at hv
  subst hv
  refine l_runs hS h0 h1 hb b0 b8 b12 t2 t1 h37 hw l8 (by omega) (by omega) l13 ⟨hS.k (by decide), by omega, by omega, fun I12 h12 => ⟨hS.k (by decide), by decide, by omega, by omega, by omega, by omega, by omega, fun I20 h20 => ⟨by omega, by omega, fun I23 h23 => ⟨by omega, by omega, by omega, by omega, ?_⟩⟩⟩⟩
  rw [f28, d16] at h12
  have k12 := FrL.rf.stp (by decide) h12
  have g12 := stp hS (by decide) h12
  have x0 : I12 (la 3) 0 = A 1 0 := by
    show lA la I12 3 0 = _
    rw [g12]
    exact (ui_k (by decide)).trans q0
  have x2 : I12 (la 2) (16 * n + 2) = A 44 n := by
    show lA la I12 2 (16 * n + 2) = _
    rw [g12]
    exact (ui_k (by decide)).trans t2
  rw [f32, x0, e2, x2, ed, ecl] at h20
  have k20 := k12.stp (by decide) h20
  have g20 := stp hS (by decide) h20
  rw [g12] at g20
  rw [f16] at h23
  have k23 := k20.stp (by decide) h23
  have g23 := stp hS (by decide) h23
  rw [g20] at g23
  have r23 : ∀ j, I23 (la 2) j = I (la 2) j := fun j => by
    show lA la I23 2 j = _
    rw [g23]
    exact (ui_k (by decide)).trans ((ui_k (by decide)).trans (ui_k (by decide)))
  rw [e12, e4, e11, r23, r23, r23, t4, t11]
  have fin : ∀ s0, s0 = (if A 51 n = A 40 n then -1 else A 50 n) → V_L_enters_96 (16 * n) (la 2) (la 3) (nb A n) (rnv A n (nb A n)) s0 (16 * n + 11) (la 2) S F I23 Q := fun s0 hs =>
    l_e96 hS h0 h1 hb ⟨h7, h7b⟩ hs k23 g23 t4 t7 t13 q0 ⟨r8, by omega⟩ l26 lrn lc hQ
  refine ⟨fun c1 => ⟨by omega, by omega, fin _ ?_⟩, fun c1 => fin _ ?_⟩
  · by_cases c50 : A 50 n = -1
    · split <;> omega
    · rw [t12 c50] at c1
      rw [if_neg c1]
  · by_cases c50 : A 50 n = -1
    · split <;> omega
    · rw [t12 c50] at c1
      rw [if_pos c1]
end Ent
