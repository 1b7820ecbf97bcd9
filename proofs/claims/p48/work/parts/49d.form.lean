/-! form -/
section Form
variable {c LN LN' : Nat → Nat} {B B' : Fl} {E E' : El} {A A' : Il}
theorem u2_w {k k' v v' : Nat} {z : Int} (h : v' ≠ v) : u2 B k v z k' v' = B k' v' := if_neg (fun w => h w.2)
theorem ui_w {k k' : Nat} {i j z : Int} (h : j ≠ i) : ui A k i z k' j = A k' j := if_neg (fun w => h w.2)
theorem eqF.fr' {k base a : Nat} {n : Int} (h : eqF B A k base a n) (hB : ∀ v, B' k v = B k v) (hA : ∀ j, A' a j = A a j) : eqF B' A' k base a n := fun j j0 j1 => (hB _).trans ((h j j0 j1).trans (hA j).symm)
theorem eqF.put {k base a : Nat} {n i z : Int} (h : eqF B A k base a n) (hi : 0 ≤ i) (hb : B' k (base + i.toNat) = z ∧ ∀ v, v ≠ base + i.toNat → B' k v = B k v) (ha : A' a i = z ∧ ∀ j, j ≠ i → A' a j = A a j) : eqF B' A' k base a n := fun j j0 j1 => by
  by_cases e : j = i
  · rw [e, hb.1, ha.1]
  · rw [hb.2 _ (by omega), ha.2 j e]
    exact h j j0 j1
/-- each tz stays: all do -/
theorem RepZ.z (h : RepZ A) (h35 : ∀ j, A' 35 j = A 35 j) (h29 : A' 29 0 = A 29 0) (hz : ∀ q : Int, 0 ≤ q → q < 6 → tz A' q = tz A q) : RepZ A' := by
  unfold RepZ
  rw [h29]
  simp only [h35]
  have w := hz
  unfold tz at w
  rw [w 0 (by decide) (by decide), w 1 (by decide) (by decide), w 2 (by decide) (by decide), w 3 (by decide) (by decide), w 4 (by decide) (by decide), w 5 (by decide) (by decide)]
  exact h
theorem pz_z (h60 : A' 60 0 = A 60 0) (hz : ∀ q : Int, 0 ≤ q → q < 6 → tz A' q = tz A q) : pz A' = pz A := by
  unfold pz
  rw [h60, hz 0 (by decide) (by decide), hz 1 (by decide) (by decide), hz 2 (by decide) (by decide), hz 3 (by decide) (by decide), hz 4 (by decide) (by decide), hz 5 (by decide) (by decide)]
set_option maxHeartbeats 4000000 in
theorem form_rep {t e k : Int} (hR : Rep c LN B E A) (t0 : 0 ≤ t) (t1 : t < 6) (h36 : A 36 t = 0) (e0 : 0 ≤ e) (e1 : e < A 19 0) (k0 : 0 ≤ k) (k1 : k < A 23 0) (h22 : A 22 e = -1) (h25 : A 25 k = -1)
  (hB : ∀ q v, (q ≠ 802 ∧ q ≠ 803 ∧ q ≠ 804 ∧ q ≠ 805 ∧ q ≠ 801 ∧ q ≠ 806 ∧ q ≠ 808 ∧ q ≠ 811 ∧ q ≠ 814 ∧ q ≠ 815 ∧ q ≠ 601 ∧ q ≠ 502 ∧ q ≠ 401) → B' q v = B q v) (hBt : ∀ q v, (v ≠ 40 + t.toNat ∧ q ≠ 502 ∧ q ≠ 401 ∧ q ≠ 601) → B' q v = B q v)
  (hb : B' 802 (40 + t.toNat) = e ∧ B' 803 (40 + t.toNat) = k ∧ B' 804 (40 + t.toNat) = A 20 e ∧ B' 805 (40 + t.toNat) = A 21 e ∧ B' 801 (40 + t.toNat) = 0 ∧ B' 806 (40 + t.toNat) = -1 ∧ B' 808 (40 + t.toNat) = 0 ∧ B' 811 (40 + t.toNat) = 0 ∧ B' 814 (40 + t.toNat) = -1)
  (h601 : B' 601 (50 + t.toNat) = 0 ∧ B' 601 (60 + t.toNat) = 0 ∧ ∀ v, (v ≠ 50 + t.toNat ∧ v ≠ 60 + t.toNat) → B' 601 v = B 601 v)
  (h502 : B' 502 (120 + e.toNat) = t ∧ ∀ v, v ≠ 120 + e.toNat → B' 502 v = B 502 v) (h401 : B' 401 (130 + k.toNat) = t ∧ ∀ v, v ≠ 130 + k.toNat → B' 401 v = B 401 v)
  (hE : ∀ v j, E' (.inr v) j = E (.inr v) j) (hI : (∀ j : Int, 0 ≤ j → j < 16 → E' (.inl (70 + t.toNat)) j = 0) ∧ ∀ v, v ≠ 70 + t.toNat → ∀ j, E' (.inl v) j = E (.inl v) j)
  (hA : ∀ a j, (a ≠ 0 ∧ a ≠ 36 ∧ a ≠ 37 ∧ a ≠ 38 ∧ a ≠ 22 ∧ a ≠ 25 ∧ a ≠ 39 ∧ a ≠ 40 ∧ a ≠ 41 ∧ a ≠ 44 ∧ a ≠ 46 ∧ a ≠ 47 ∧ a ≠ 50) → A' a j = A a j) (hAt : ∀ a j, (j ≠ t ∧ a ≠ 0 ∧ a ≠ 22 ∧ a ≠ 25) → A' a j = A a j)
  (ha : A' 36 t = 1 ∧ A' 37 t = e ∧ A' 38 t = k ∧ A' 39 t = 0 ∧ A' 40 t = A 21 e ∧ A' 41 t = -1 ∧ A' 44 t = 0 ∧ A' 46 t = 0 ∧ A' 47 t = 0 ∧ A' 50 t = -1)
  (a22 : A' 22 e = t ∧ ∀ j, j ≠ e → A' 22 j = A 22 j) (a25 : A' 25 k = t ∧ ∀ j, j ≠ k → A' 25 j = A 25 j) : Rep c LN B' E' A' := by
  obtain ⟨gG, gS, gB, g0, gH, gE, gC, gN, gK, gL, gR, gD, gY, gU, gW, gP, gT, gX, gZ⟩ := id hR
  obtain ⟨⟨b1, b2, b3⟩, -⟩ := id gB
  obtain ⟨⟨n1, n2, n3⟩, n4, n5, n6, n7⟩ := id gE
  obtain ⟨⟨c1, c2, c3⟩, c4, c5, c6, c7, c8, c8z⟩ := id gC
  obtain ⟨x1, x2, x3⟩ := id gX
  have nt : ∀ j : Int, 0 ≤ j → j < A 6 0 → A 17 j ≠ t := fun j j0 j1 w => by
    have := (x3 j j0 j1 (by omega)).1
    rw [w] at this
    omega
  have a19 : A' 19 0 = A 19 0 := hA 19 0 (by omega)
  have a23 : A' 23 0 = A 23 0 := hA 23 0 (by omega)
  have a6 : A' 6 0 = A 6 0 := hA 6 0 (by omega)
  have a29 : A' 29 0 = A 29 0 := hA 29 0 (by omega)
  have hz : ∀ q : Int, 0 ≤ q → q < 6 → tz A' q = tz A q := fun q _ _ => by
    unfold tz
    by_cases eq : q = t
    · rw [eq, ha.1, if_pos rfl, ha.2.2.2.2.2.2.1, h36, if_neg (by decide)]
    · rw [hAt 36 q (by omega), hAt 44 q (by omega)]
  refine ⟨gG.fr (fun k v h => hB k v (by omega)) (fun a j h => hA a j (by omega)), gS.fr (fun k v h => hB k v (by omega)) (fun a j h => hA a j (by omega)), gB.fr (fun k v h => hB k v (by omega)) (fun a j h => hA a j (by omega)), g0.fr (fun a j h => hA a j (by omega)), gH.fr (fun k v h => hB k v (by omega)) (fun a j h => hA a j (by omega)), ?_, ?_, gN.fr (fun k v h => hB k v (by omega)) (fun a j h => hA a j (by omega)), gK.fr (fun k v h => hB k v (by omega)) (fun a j h => hA a j (by omega)), gL.fr (fun k v h => hB k v (by omega)) (fun a j h => hA a j (by omega)), gR.fr (fun j => hI.2 3 (by omega) j) (fun j => hI.2 4 (by omega) j) (fun a j h => hA a j (by omega)), gD.fz (fun v hv => h601.2.2 v (by omega)) (fun _ _ => rfl) (fun v _ => hE v) (fun a j h => hA a j (by omega)), gY.fz (fun v _ _ => h601.2.2 v (by omega)) (fun _ _ _ => rfl) (fun v _ _ => hE v) (fun a j h => hA a j (by omega)), ?_, ?_, gP.fz (fun v _ => h601.2.2 v (by omega)) (fun _ _ => rfl) (fun v _ => hE v) (fun a j h => hA a j (by omega)), ?_, ?_, ?_⟩
  · -- engines
    unfold RepE
    rw [a19]
    refine ⟨⟨n1, (hB 2 9 (by omega)).trans n2, n3⟩, n4.fr' (fun v => hB 500 v (by omega)) (fun j => hA 20 j (by omega)), n5.fr' (fun v => hB 501 v (by omega)) (fun j => hA 21 j (by omega)), n6.put e0 h502 a22, fun j j0 j1 => ?_⟩
    obtain ⟨w1, w2, w3, w4, w5, w6⟩ := n7 j j0 j1
    rw [hA 20 j (by omega), hA 21 j (by omega)]
    refine ⟨w1, w2, w3, w4, ?_⟩
    by_cases ej : j = e
    · rw [ej, a22.1]; omega
    · rw [a22.2 j ej]; exact ⟨w5, w6⟩
  · -- crews
    unfold RepC
    rw [a23]
    refine ⟨⟨c1, (hB 2 10 (by omega)).trans c2, c3⟩, c4.fr' (fun v => hB 400 v (by omega)) (fun j => hA 24 j (by omega)), c5.put k0 h401 a25, c6.fr' (fun v => hB 403 v (by omega)) (fun j => hA 26 j (by omega)), c7.fr' (fun v => hB 404 v (by omega)) (fun j => hA 27 j (by omega)), fun j j0 j1 => ?_, fun j j0 j1 => by rw [hA 26 j (by omega), hA 27 j (by omega)]; exact c8z j j0 j1⟩
    obtain ⟨w1, w2, w3, w4, w5⟩ := c8 j j0 j1
    rw [hA 24 j (by omega), hA 26 j (by omega), hA 27 j (by omega)]
    refine ⟨w1, w2, ?_⟩
    by_cases ej : j = k
    · rw [ej, a25.1]; exact ⟨by omega, by omega, by rw [← ej]; exact w5⟩
    · rw [a25.2 j ej]; exact ⟨w3, w4, w5⟩
  · -- cars of trains
    refine RepU.mk' fun q => ?_
    by_cases eq : q = t
    · subst eq
      intro _ _
      refine ⟨(gU q t0 t1).1, fun _ => ?_⟩
      rw [ha.2.2.2.2.2.2.1]
      exact ⟨⟨h601.1, Int.le_refl _, by omega, fun p p0 p1 => by omega⟩, fun p p0 p1 => by omega⟩
    · intro q0 q1
      exact (gU.uu q).fr rfl (hAt 36 q (by omega)) (fun _ => h601.2.2 _ (by omega)) (fun _ => hE _) (fun _ => hAt 44 q (by omega)) (fun _ p _ _ => hA 43 _ (by omega)) (by omega) (fun j _ _ _ => hA 32 j (by omega)) q0 q1
  · -- each car is somewhere
    intro j j0 j1
    rw [a29] at j1
    obtain ⟨w1, w2⟩ := gW j j0 j1
    rw [hA 32 j (by omega), hA 31 j (by omega), hA 35 _ (by omega)]
    refine ⟨fun n => ?_, fun n => ?_⟩
    · obtain ⟨p, p0, p1, p2⟩ := w1 n
      exact ⟨p, p0, p1, (hA 34 _ (by omega)).trans p2⟩
    · obtain ⟨w3, p, p0, p1, p2⟩ := w2 n
      have nq : A 32 j ≠ t := fun w => by rw [w] at w3; omega
      refine ⟨(hAt 36 _ (by omega)).trans w3, p, p0, ?_, (hA 43 _ (by omega)).trans p2⟩
      rw [hAt 44 _ (by omega)]
      exact p1
  · -- trains
    refine RepT.mk' fun q => ?_
    by_cases eq : q = t
    · subst eq
      intro _ _
      obtain ⟨t1', t2', -⟩ := gT q t0 t1
      obtain ⟨f1, f2, f3, f4, f5, f6, f7, f8, f9, f10⟩ := ha
      obtain ⟨g1, g2, g3, g4, g5, g6, g7, g8, g9⟩ := hb
      have ne7 := n7 e e0 e1
      refine ⟨(hB 800 _ (by omega)).trans t1', t2', Or.inr f1, fun w => by omega, fun _ => ?_⟩
      rw [f2, f3, f4, f5, f6, f7, f8, f9, f10, a19, a23, a22.1, a25.1, hA 20 e (by omega)]
      refine ⟨g5, by decide, by decide, g1, e0, e1, rfl, g2, k0, k1, rfl, g3, g4.trans (if_neg (by decide)).symm, ne7.2.2.1, ne7.2.2.2.1, g6, ⟨fun _ => by decide, fun _ => rfl⟩, by decide, by omega, fun w => absurd w (by decide), g7, by decide, by decide, by decide, by decide, by decide, fun w => absurd w (by decide), fun _ => ⟨⟨h601.2.1, by decide, by omega, fun p p0 p1 => by omega⟩, g8, fun p p0 p1 => by omega, fun n hn => ?_⟩, fun _ => rfl, fun w => absurd w (by decide), fun w => absurd w (by unfold Rn; decide), g9, by decide, by decide, fun w => absurd rfl w, fun b hb0 hb1 => ?_⟩
      · have n0 : n = 0 := by omega
        subst n0
        show A 21 e ≠ -1
        omega
      · rw [if_neg (fun w => nt b hb0 (by omega) ((hA 17 b (by omega)).symm.trans w.2.1)), hI.1 b hb0 hb1, hA 1 0 (by omega)]
        intro _
        exact gG.2.2.2.2.1.1
    · intro q0 q1
      refine TrB.fr (gT.tr q) (fun k' hk' => hBt k' _ (by omega)) (h601.2.2 _ (by omega)) rfl (hE _) (hI.2 _ (by omega)) (fun a h => hAt a q (by omega)) (hA 1 0 (by omega)) (by omega) (fun g1 g2 g3 g4 => ⟨hA 20 _ (by omega), a22.2 _ (fun w => ?_)⟩) (fun g1 g2 g3 g4 => a25.2 _ (fun w => ?_)) (fun _ => wgt_fr (fun j => hA 33 j (by omega)) (fun j => hA 43 j (by omega)) q _) (fun p _ _ => hA 45 _ (by omega)) (fun b _ _ => ⟨hA 7 _ (by omega), hA 7 _ (by omega)⟩) (fun _ b hb0 hb1 => ⟨by rw [a6, hA 17 b (by omega)], fun _ _ => hA 18 b (by omega)⟩) (by omega) q0 q1
      · rw [w] at g4; omega
      · rw [w] at g4; omega
  · -- who is held by whom
    rw [← a19] at x1
    refine ⟨fun j j0 j1 n => ?_, fun j j0 j1 n => ?_, fun j j0 j1 n => ?_⟩
    · by_cases ej : j = e
      · rw [ej, a22.1]; exact ⟨ha.1, ha.2.1⟩
      · rw [a22.2 j ej] at n ⊢
        obtain ⟨g1, g2⟩ := x1 j j0 j1 n
        have nq : A 22 j ≠ t := fun w => by rw [w] at g1; omega
        exact ⟨(hAt 36 _ (by omega)).trans g1, (hAt 37 _ (by omega)).trans g2⟩
    · by_cases ej : j = k
      · rw [ej, a25.1]; exact ⟨ha.1, ha.2.2.1⟩
      · rw [a25.2 j ej] at n ⊢
        obtain ⟨g1, g2⟩ := x2 j j0 (by omega) n
        have nq : A 25 j ≠ t := fun w => by rw [w] at g1; omega
        exact ⟨(hAt 36 _ (by omega)).trans g1, (hAt 38 _ (by omega)).trans g2⟩
    · rw [hA 17 j (by omega)] at n ⊢
      obtain ⟨g1, g2⟩ := x3 j j0 (by omega) n
      have nq := nt j j0 (by omega)
      refine ⟨(hAt 36 _ (by omega)).trans g1, ?_⟩
      rw [hAt 39 _ (by omega)]
      exact g2
  · exact gZ.z (fun j => hA 35 j (by omega)) a29 hz
end Form
section FormS
variable {c LN : Nat → Nat} {B : Fl} {E : El} {A : Il}
theorem tz_new {A' : Il} {t : Int} (h36 : A 36 t = 0) (ha : A' 44 t = 0) (h : ∀ q : Int, q ≠ t → A' 36 q = A 36 q ∧ A' 44 q = A 44 q) : ∀ q : Int, 0 ≤ q → q < 6 → tz A' q = tz A q := fun q _ _ => by
  unfold tz
  by_cases eq : q = t
  · rw [eq, ha, h36, if_neg (show ¬ (0 : Int) = 1 by decide)]
    split <;> rfl
  · rw [(h q eq).1, (h q eq).2]
set_option maxHeartbeats 4000000 in
theorem sim_form {a0 a1 : Int} (hR : Rep c LN B E A) (hp : pz A ≤ 1022) (hr0 : rg a0) (hr1 : rg a1) : ∃ (ans : Int) (A' : Il), (∀ Q, Q ans A' → W_X9_form a0 a1 A Q) ∧ pz A' ≤ pz A + 2 ∧ W_X8_form c LN 0 a0 a1 B E (fun z B' E' => A' 0 0 = 0 ∧ z = ans ∧ Rep c LN B' E' A') (fun X9 B' E' => ((X9 = "java/lang/IndexOutOfBoundsException" ∧ A' 0 0 = 1) ∨ (X9 = "java/lang/IllegalStateException" ∧ A' 0 0 = 2)) ∧ Rep c LN B' E' A') := by
  obtain ⟨gG, gS, gB, g0, gH, gE, gC, gN, gK, gL, gR, gD, gY, gU, gW, gP, gT, gX, gZ⟩ := id hR
  obtain ⟨⟨n1, n2, n3⟩, n4, n5, n6, n7⟩ := id gE
  obtain ⟨⟨c1, c2, c3⟩, c4, c5, c6, c7, c8, c8z⟩ := id gC
  have h23 : 0 ≤ A 23 0 ∧ A 23 0 ≤ 6 := by omega
  have h19 : w32 (A 19 0 - 1) = A 19 0 - 1 := w32_id (by unfold rg; omega)
  by_cases hx : 0 ≤ a0 ∧ a0 < A 19 0
  · by_cases hy : 0 ≤ a1 ∧ a1 < A 23 0
    · have hke := kd9 (c := c) (v := 120 + a0.toNat) (by omega) (by omega) n3
      have hkc := kd10 (c := c) (v := 130 + a1.toNat) (by omega) (by omega) c3
      have f1 := n4 a0 hx.1 hx.2
      have f2 := n5 a0 hx.1 hx.2
      have f3 := n6 a0 hx.1 hx.2
      have d0 := c4 a1 hy.1 hy.2
      have d1 := c5 a1 hy.1 hy.2
      have d4 := c7 a1 hy.1 hy.2
      obtain ⟨v1, v2, v3, v4, v5, v6⟩ := n7 a0 hx.1 hx.2
      obtain ⟨f, hf, l1, l2⟩ := lf_ex A
      have tk := tkn_rg A (A 21 a0) 6
      have s5 := gS.2 (A 21 a0) v3 v4
      have ew : w32 (A 5 (A 21 a0) - tkn A (A 21 a0) 6) = A 5 (A 21 a0) - tkn A (A 21 a0) 6 := w32_id (by unfold rg; omega)
      have l6 : ((ln 2 : Nat) : Int) = 6 := rfl
      by_cases can : f < 6 ∧ A 22 a0 = -1 ∧ A 25 a1 = -1 ∧ A 21 a0 = A 24 a1 ∧ ¬ A 1 0 < A 27 a1 ∧ tkn A (A 21 a0) 6 < A 5 (A 21 a0)
      · obtain ⟨g1, g2, g3, g4, g5, g6⟩ := can
        refine ⟨(f : Int), ui (ui (ui (ui (ui (ui (ui (ui (ui (ui (ui (ui (sc A 0 0) 36 (f : Int) 1) 37 (f : Int) a0) 38 (f : Int) a1) 22 a0 (f : Int)) 25 a1 (f : Int)) 39 (f : Int) 0) 40 (f : Int) (A 21 a0)) 41 (f : Int) (-1)) 44 (f : Int) 0) 46 (f : Int) 0) 47 (f : Int) 0) 50 (f : Int) (-1), fun Q hQ => ?_, ?_, rfl, q_engineOf1 gE hx (q_crewOf1 gC hy ⟨hke, ?_⟩)⟩
        · refine m_in1 (by rw [h19]; omega) (br_F (by decide) (m_isCrew1 h23 hy (br_F (by decide) ?_)))
          unfold W_X9_form_28
          refine br_T le0 ⟨f + 1, m_lf_go (A := sc A 0 0) hf l1 l2 ?_ f 0 (Nat.zero_add _)⟩
          refine br_F (by omega) ⟨hx.1, by omega, bn_T g2 ⟨hy.1, by omega, bn_T g3 ⟨hx.1, by omega, hy.1, by omega, bn_T g4 (m_rests ⟨hy.1, by omega⟩ ?_)⟩⟩⟩
          rw [if_neg (show ¬ sc A 0 0 1 0 < sc A 0 0 27 a1 from g5)]
          refine bn_T rfl ⟨hx.1, by omega, m_taken ⟨hx.1, by omega, v3, v4, br_F ?_ ?_⟩⟩
          · show ¬ A 5 (A 21 a0) ≤ tkn A (A 21 a0) 6
            omega
          · unfold W_X9_form_141
            exact bn_F (by decide) ⟨by omega, by omega, by omega, by omega, by omega, by omega, by omega, by omega, by omega, by omega, by omega, by omega, by omega, by omega, by omega, by omega, by omega, by omega, by omega, by omega, by omega, by omega, by omega, by omega, by omega, by omega, hQ⟩
        · have hzz := pz_z (A := A) (A' := ui (ui (ui (ui (ui (ui (ui (ui (ui (ui (ui (ui (sc A 0 0) 36 (f : Int) 1) 37 (f : Int) a0) 38 (f : Int) a1) 22 a0 (f : Int)) 25 a1 (f : Int)) 39 (f : Int) 0) 40 (f : Int) (A 21 a0)) 41 (f : Int) (-1)) 44 (f : Int) 0) 46 (f : Int) 0) 47 (f : Int) 0) 50 (f : Int) (-1)) rfl (tz_new (A := A) (A' := ui (ui (ui (ui (ui (ui (ui (ui (ui (ui (ui (ui (sc A 0 0) 36 (f : Int) 1) 37 (f : Int) a0) 38 (f : Int) a1) 22 a0 (f : Int)) 25 a1 (f : Int)) 39 (f : Int) 0) 40 (f : Int) (A 21 a0)) 41 (f : Int) (-1)) 44 (f : Int) 0) 46 (f : Int) 0) 47 (f : Int) 0) 50 (f : Int) (-1)) (t := (f : Int)) (l2 g1) ((ui_k (by decide)).trans ((ui_k (by decide)).trans ((ui_k (by decide)).trans (ui_s)))) (fun q hq => ⟨(ui_k (by decide)).trans ((ui_k (by decide)).trans ((ui_k (by decide)).trans ((ui_k (by decide)).trans ((ui_k (by decide)).trans ((ui_k (by decide)).trans ((ui_k (by decide)).trans ((ui_k (by decide)).trans ((ui_k (by decide)).trans ((ui_k (by decide)).trans ((ui_k (by decide)).trans ((ui_j hq).trans ((sc_k (by decide)).trans (rfl))))))))))))), (ui_k (by decide)).trans ((ui_k (by decide)).trans ((ui_k (by decide)).trans ((ui_j hq).trans ((ui_k (by decide)).trans ((ui_k (by decide)).trans ((ui_k (by decide)).trans ((ui_k (by decide)).trans ((ui_k (by decide)).trans ((ui_k (by decide)).trans ((ui_k (by decide)).trans ((ui_k (by decide)).trans ((sc_k (by decide)).trans (rfl)))))))))))))⟩))
          omega
        · refine bn_T (by rw [f3]; exact g2) ⟨hkc, bn_T (by rw [d1]; exact g3) ?_⟩
          unfold W_X8_form_35
          refine q_state1 ⟨hke, hkc, bn_T (by rw [f2, d0]; exact g4) ⟨rfl, q_restingAt hkc ?_⟩⟩
          rw [gG.1, d4, if_neg g5]
          refine bn_T rfl ?_
          unfold W_X8_form_67
          refine q_state1 ⟨hke, rfl, ?_⟩
          rw [f2]
          refine q_freeAt1 gS gT ⟨v3, v4⟩ ?_
          rw [ew]
          refine br_F (by omega) ?_
          unfold W_X8_form_86
          refine q_state1 ⟨rfl, q_leastFree gT hf l1 l2 ?_⟩
          rw [if_pos g1]
          refine br_F (by omega) ?_
          unfold W_X8_form_106
          refine q_state1 ⟨rfl, rfl, by omega, by omega, hke, kdtr (by omega) (by omega), ?_⟩
          rw [f1, f2]
          refine ⟨kdtr (by omega) (by omega), kdtc (by omega) (by omega), kdtc (by omega) (by omega), kdtw (by omega) (by omega), kdtw (by omega) (by omega), q_fill (kdcl (by omega) (by omega)) (fun E' i1 i2 => ⟨hkc, rfl, rfl, ?_⟩)⟩
          have e50 : 50 + (f : Int).toNat = 40 + (f : Int).toNat + 10 := by omega
          have e60 : 60 + (f : Int).toNat = 40 + (f : Int).toNat + 20 := by omega
          have e70 : 70 + (f : Int).toNat = 40 + (f : Int).toNat + 30 := by omega
          refine form_rep (t := (f : Int)) (e := a0) (k := a1) hR (by omega) (by omega) (l2 g1) hx.1 hx.2 hy.1 hy.2 g2 g3 (fun q v h => (u2_k (by omega)).trans ((u2_k (by omega)).trans ((u2_k (by omega)).trans ((u2_k (by omega)).trans ((u2_k (by omega)).trans ((u2_k (by omega)).trans ((u2_k (by omega)).trans ((u2_k (by omega)).trans ((u2_k (by omega)).trans ((u2_k (by omega)).trans ((u2_k (by omega)).trans ((u2_k (by omega)).trans ((u2_k (by omega)).trans ((u2_k (by omega)).trans (rfl))))))))))))))) (fun q v h => (u2_k (by omega)).trans ((u2_k (by omega)).trans ((u2_w (by omega)).trans ((u2_w (by omega)).trans ((u2_w (by omega)).trans ((u2_k (by omega)).trans ((u2_k (by omega)).trans ((u2_w (by omega)).trans ((u2_w (by omega)).trans ((u2_w (by omega)).trans ((u2_w (by omega)).trans ((u2_w (by omega)).trans ((u2_w (by omega)).trans ((u2_w (by omega)).trans (rfl))))))))))))))) ⟨(u2_k (by decide)).trans ((u2_k (by decide)).trans ((u2_k (by decide)).trans ((u2_k (by decide)).trans ((u2_k (by decide)).trans ((u2_k (by decide)).trans ((u2_k (by decide)).trans ((u2_k (by decide)).trans ((u2_k (by decide)).trans ((u2_k (by decide)).trans ((u2_k (by decide)).trans ((u2_k (by decide)).trans ((u2_k (by decide)).trans (u2_s))))))))))))), (u2_k (by decide)).trans ((u2_k (by decide)).trans ((u2_k (by decide)).trans ((u2_k (by decide)).trans ((u2_k (by decide)).trans ((u2_k (by decide)).trans ((u2_k (by decide)).trans ((u2_k (by decide)).trans ((u2_k (by decide)).trans ((u2_k (by decide)).trans ((u2_k (by decide)).trans ((u2_k (by decide)).trans (u2_s)))))))))))), (u2_k (by decide)).trans ((u2_k (by decide)).trans ((u2_k (by decide)).trans ((u2_k (by decide)).trans ((u2_k (by decide)).trans ((u2_k (by decide)).trans ((u2_k (by decide)).trans ((u2_k (by decide)).trans ((u2_k (by decide)).trans ((u2_k (by decide)).trans ((u2_k (by decide)).trans (u2_s))))))))))), (u2_k (by decide)).trans ((u2_k (by decide)).trans ((u2_k (by decide)).trans ((u2_k (by decide)).trans ((u2_k (by decide)).trans ((u2_k (by decide)).trans ((u2_k (by decide)).trans ((u2_k (by decide)).trans ((u2_k (by decide)).trans ((u2_k (by decide)).trans (u2_s)))))))))), (u2_k (by decide)).trans ((u2_k (by decide)).trans ((u2_k (by decide)).trans ((u2_k (by decide)).trans ((u2_k (by decide)).trans ((u2_k (by decide)).trans ((u2_k (by decide)).trans ((u2_k (by decide)).trans ((u2_k (by decide)).trans (u2_s))))))))), (u2_k (by decide)).trans ((u2_k (by decide)).trans ((u2_k (by decide)).trans ((u2_k (by decide)).trans ((u2_k (by decide)).trans ((u2_k (by decide)).trans ((u2_k (by decide)).trans ((u2_k (by decide)).trans (u2_s)))))))), (u2_k (by decide)).trans ((u2_k (by decide)).trans ((u2_k (by decide)).trans ((u2_k (by decide)).trans ((u2_k (by decide)).trans ((u2_k (by decide)).trans ((u2_k (by decide)).trans (u2_s))))))), (u2_k (by decide)).trans ((u2_k (by decide)).trans ((u2_k (by decide)).trans ((u2_k (by decide)).trans (u2_s)))), (u2_k (by decide)).trans ((u2_k (by decide)).trans ((u2_k (by decide)).trans (u2_s)))⟩ ⟨by rw [e50]; exact (u2_k (by decide)).trans ((u2_k (by decide)).trans ((u2_k (by decide)).trans ((u2_k (by decide)).trans ((u2_k (by decide)).trans ((u2_v (by omega)).trans (u2_s)))))), by rw [e60]; exact (u2_k (by decide)).trans ((u2_k (by decide)).trans ((u2_k (by decide)).trans ((u2_k (by decide)).trans ((u2_k (by decide)).trans (u2_s))))), fun v h => (u2_k (by omega)).trans ((u2_k (by omega)).trans ((u2_k (by omega)).trans ((u2_k (by omega)).trans ((u2_k (by omega)).trans ((u2_w (by omega)).trans ((u2_w (by omega)).trans ((u2_k (by omega)).trans ((u2_k (by omega)).trans ((u2_k (by omega)).trans ((u2_k (by omega)).trans ((u2_k (by omega)).trans ((u2_k (by omega)).trans ((u2_k (by omega)).trans (rfl))))))))))))))⟩ ⟨(u2_k (by decide)).trans (u2_s), fun v h => (u2_k (by omega)).trans ((u2_w (by omega)).trans ((u2_k (by omega)).trans ((u2_k (by omega)).trans ((u2_k (by omega)).trans ((u2_k (by omega)).trans ((u2_k (by omega)).trans ((u2_k (by omega)).trans ((u2_k (by omega)).trans ((u2_k (by omega)).trans ((u2_k (by omega)).trans ((u2_k (by omega)).trans ((u2_k (by omega)).trans ((u2_k (by omega)).trans (rfl))))))))))))))⟩ ⟨u2_s, fun v h => (u2_w (by omega)).trans ((u2_k (by omega)).trans ((u2_k (by omega)).trans ((u2_k (by omega)).trans ((u2_k (by omega)).trans ((u2_k (by omega)).trans ((u2_k (by omega)).trans ((u2_k (by omega)).trans ((u2_k (by omega)).trans ((u2_k (by omega)).trans ((u2_k (by omega)).trans ((u2_k (by omega)).trans ((u2_k (by omega)).trans ((u2_k (by omega)).trans (rfl))))))))))))))⟩ (fun v j => i1 (.inr v) (by intro w; cases w) j) ⟨fun j j0 j1 => by rw [e70]; exact i2 j j0 (by rw [ln16 (by omega)]; exact j1), fun v hv => i1 (.inl v) (by intro w; injection w with w; omega)⟩ (fun a j h => (ui_k (by omega)).trans ((ui_k (by omega)).trans ((ui_k (by omega)).trans ((ui_k (by omega)).trans ((ui_k (by omega)).trans ((ui_k (by omega)).trans ((ui_k (by omega)).trans ((ui_k (by omega)).trans ((ui_k (by omega)).trans ((ui_k (by omega)).trans ((ui_k (by omega)).trans ((ui_k (by omega)).trans ((sc_k (by omega)).trans (rfl)))))))))))))) (fun a j h => (ui_w (by omega)).trans ((ui_w (by omega)).trans ((ui_w (by omega)).trans ((ui_w (by omega)).trans ((ui_w (by omega)).trans ((ui_w (by omega)).trans ((ui_w (by omega)).trans ((ui_k (by omega)).trans ((ui_k (by omega)).trans ((ui_w (by omega)).trans ((ui_w (by omega)).trans ((ui_w (by omega)).trans ((sc_k (by omega)).trans (rfl)))))))))))))) ⟨(ui_k (by decide)).trans ((ui_k (by decide)).trans ((ui_k (by decide)).trans ((ui_k (by decide)).trans ((ui_k (by decide)).trans ((ui_k (by decide)).trans ((ui_k (by decide)).trans ((ui_k (by decide)).trans ((ui_k (by decide)).trans ((ui_k (by decide)).trans ((ui_k (by decide)).trans (ui_s))))))))))), (ui_k (by decide)).trans ((ui_k (by decide)).trans ((ui_k (by decide)).trans ((ui_k (by decide)).trans ((ui_k (by decide)).trans ((ui_k (by decide)).trans ((ui_k (by decide)).trans ((ui_k (by decide)).trans ((ui_k (by decide)).trans ((ui_k (by decide)).trans (ui_s)))))))))), (ui_k (by decide)).trans ((ui_k (by decide)).trans ((ui_k (by decide)).trans ((ui_k (by decide)).trans ((ui_k (by decide)).trans ((ui_k (by decide)).trans ((ui_k (by decide)).trans ((ui_k (by decide)).trans ((ui_k (by decide)).trans (ui_s))))))))), (ui_k (by decide)).trans ((ui_k (by decide)).trans ((ui_k (by decide)).trans ((ui_k (by decide)).trans ((ui_k (by decide)).trans ((ui_k (by decide)).trans (ui_s)))))), (ui_k (by decide)).trans ((ui_k (by decide)).trans ((ui_k (by decide)).trans ((ui_k (by decide)).trans ((ui_k (by decide)).trans (ui_s))))), (ui_k (by decide)).trans ((ui_k (by decide)).trans ((ui_k (by decide)).trans ((ui_k (by decide)).trans (ui_s)))), (ui_k (by decide)).trans ((ui_k (by decide)).trans ((ui_k (by decide)).trans (ui_s))), (ui_k (by decide)).trans ((ui_k (by decide)).trans (ui_s)), (ui_k (by decide)).trans (ui_s), ui_s⟩ ⟨(ui_k (by decide)).trans ((ui_k (by decide)).trans ((ui_k (by decide)).trans ((ui_k (by decide)).trans ((ui_k (by decide)).trans ((ui_k (by decide)).trans ((ui_k (by decide)).trans ((ui_k (by decide)).trans (ui_s)))))))), fun j h => (ui_k (by omega)).trans ((ui_k (by omega)).trans ((ui_k (by omega)).trans ((ui_k (by omega)).trans ((ui_k (by omega)).trans ((ui_k (by omega)).trans ((ui_k (by omega)).trans ((ui_k (by omega)).trans ((ui_w (by omega)).trans ((ui_k (by omega)).trans ((ui_k (by omega)).trans ((ui_k (by omega)).trans ((sc_k (by omega)).trans (rfl)))))))))))))⟩ ⟨(ui_k (by decide)).trans ((ui_k (by decide)).trans ((ui_k (by decide)).trans ((ui_k (by decide)).trans ((ui_k (by decide)).trans ((ui_k (by decide)).trans ((ui_k (by decide)).trans (ui_s))))))), fun j h => (ui_k (by omega)).trans ((ui_k (by omega)).trans ((ui_k (by omega)).trans ((ui_k (by omega)).trans ((ui_k (by omega)).trans ((ui_k (by omega)).trans ((ui_k (by omega)).trans ((ui_w (by omega)).trans ((ui_k (by omega)).trans ((ui_k (by omega)).trans ((ui_k (by omega)).trans ((ui_k (by omega)).trans ((sc_k (by omega)).trans (rfl)))))))))))))⟩
      · refine ⟨0, sc (sc A 0 0) 0 2, fun Q hQ => ?_, pz_thr, rfl, q_engineOf1 gE hx (q_crewOf1 gC hy ⟨hke, ?_⟩)⟩
        · have FF : ∀ x3, W_X9_form_140 a0 a1 x3 (sc A 0 0) Q := fun x3 => by
            unfold W_X9_form_140 W_X9_form_141
            exact bn_T rfl hQ
          refine m_in1 (by rw [h19]; omega) (br_F (by decide) (m_isCrew1 h23 hy (br_F (by decide) ?_)))
          unfold W_X9_form_28
          refine br_T le0 ⟨f + 1, m_lf_go (A := sc A 0 0) hf l1 l2 ?_ f 0 (Nat.zero_add _)⟩
          refine ⟨fun _ => FF _, fun g1 => ⟨hx.1, by omega, fun _ => FF _, fun g2 => ⟨hy.1, by omega, fun _ => FF _, fun g3 => ⟨hx.1, by omega, hy.1, by omega, fun _ => FF _, fun g4 => m_rests ⟨hy.1, by omega⟩ ?_⟩⟩⟩⟩
          by_cases g5 : A 1 0 < A 27 a1
          · rw [if_pos (show sc A 0 0 1 0 < sc A 0 0 27 a1 from g5)]
            exact bn_F (by decide) (FF _)
          · rw [if_neg (show ¬ sc A 0 0 1 0 < sc A 0 0 27 a1 from g5)]
            refine bn_T rfl ⟨hx.1, by omega, m_taken ⟨hx.1, by omega, v3, v4, fun _ => FF _, fun g6 => ?_⟩⟩
            have g6 : ¬ A 5 (A 21 a0) ≤ tkn A (A 21 a0) 6 := g6
            exact absurd ⟨by omega, g2, g3, g4, g5, by omega⟩ can
        · have fin : ∀ (X : String), X = "java/lang/IllegalStateException" → (((X = "java/lang/IndexOutOfBoundsException" ∧ sc (sc A 0 0) 0 2 0 0 = 1) ∨ (X = "java/lang/IllegalStateException" ∧ sc (sc A 0 0) 0 2 0 0 = 2)) ∧ Rep c LN B E (sc (sc A 0 0) 0 2)) := fun X hX => ⟨Or.inr ⟨hX, rfl⟩, hR.thr.thr⟩
          refine ⟨fun _ => ?_, fun g2 => ⟨hkc, fun _ => ?_, fun g3 => ?_⟩⟩
          · unfold W_X8_form_34 W_X8_form_35
            exact q_state0 (fin _ rfl)
          · unfold W_X8_form_34 W_X8_form_35
            exact q_state0 (fin _ rfl)
          · rw [f3] at g2
            rw [d1] at g3
            unfold W_X8_form_35
            refine q_state1 ⟨hke, hkc, fun _ => ?_, fun g4 => ⟨rfl, q_restingAt hkc ?_⟩⟩
            · unfold W_X8_form_66 W_X8_form_67
              exact q_state0 (fin _ rfl)
            · rw [f2, d0] at g4
              rw [gG.1, d4]
              by_cases g5 : A 1 0 < A 27 a1
              · rw [if_pos g5]
                refine bn_F (by decide) ?_
                unfold W_X8_form_66 W_X8_form_67
                exact q_state0 (fin _ rfl)
              · rw [if_neg g5]
                refine bn_T rfl ?_
                unfold W_X8_form_67
                refine q_state1 ⟨hke, rfl, ?_⟩
                rw [f2]
                refine q_freeAt1 gS gT ⟨v3, v4⟩ ?_
                rw [ew]
                refine ⟨fun _ => ?_, fun g6 => ?_⟩
                · unfold W_X8_form_86
                  exact q_state0 (fin _ rfl)
                · unfold W_X8_form_86
                  refine q_state1 ⟨rfl, q_leastFree gT hf l1 l2 ?_⟩
                  by_cases g1 : f < 6
                  · exact absurd ⟨g1, g2, g3, g4, g5, by omega⟩ can
                  · rw [if_neg g1]
                    refine br_T rfl ?_
                    unfold W_X8_form_106
                    exact q_state0 (fin _ rfl)
    · exact ⟨0, sc A 0 1, fun Q hQ => m_in1 (by rw [h19]; omega) (br_F (by decide) (m_isCrew0 h23 hy (br_T rfl (by unfold W_X9_form_27 W_X9_form_28; exact br_F no1 hQ)))), pz_thr, rfl, q_engineOf1 gE hx (q_crewOf0 gC hy ⟨Or.inl ⟨rfl, rfl⟩, hR.thr⟩)⟩
  · exact ⟨0, sc A 0 1, fun Q hQ => m_in0 (by rw [h19]; omega) (br_T rfl (by unfold W_X9_form_27 W_X9_form_28; exact br_F no1 hQ)), pz_thr, rfl, q_engineOf0 gE hx ⟨Or.inl ⟨rfl, rfl⟩, hR.thr⟩⟩
end FormS
