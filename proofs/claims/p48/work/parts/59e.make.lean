/-! the makers: what stands behind one more -/
section Make
variable {c c' LN LN' : Nat → Nat} {B B' : Fl} {E E' : El} {A A' : Il}
theorem RepG.up (h : RepG B A) (hB : ∀ k v, (k = 912 ∨ k = 914 ∨ k = 915) → B' k v = B k v) (h9 : B' 913 0 = A' 2 0 ∧ rg (A' 2 0)) (hA : ∀ a j, (a = 1 ∨ a = 3 ∨ a = 4) → A' a j = A a j) : RepG B' A' := by
  obtain ⟨q1, q2, q3, q4, q5, q6, q7, q8⟩ := h
  unfold RepG
  rw [hB 912 0 (by decide), hB 914 0 (by decide), hB 915 0 (by decide), hA 1 0 (by decide), hA 3 0 (by decide), hA 4 0 (by decide)]
  exact ⟨q1, h9.1, q3, q4, q5, h9.2, q7, q8⟩
theorem RepB.up (h : RepB c B A) (hc : c' 8 = c 8) (h2 : B' 2 8 = B 2 8) (hB : ∀ k v, (k = 200 ∨ k = 201 ∨ k = 202 ∨ k = 203 ∨ k = 204 ∨ k = 205 ∨ k = 206 ∨ k = 207 ∨ k = 208 ∨ k = 209 ∨ k = 210) → B' k v = B k v) (hA : ∀ a j, (a = 6 ∨ a = 7 ∨ a = 8 ∨ a = 9 ∨ a = 10 ∨ a = 11 ∨ a = 12 ∨ a = 13 ∨ a = 14 ∨ a = 15 ∨ a = 16) → A' a j = A a j) : RepB c' B' A' := by
  obtain ⟨⟨x1, x2, x3⟩, x4, e0, e1, e2, e3, e4, e5, e6, e7, e8, z1⟩ := h
  unfold RepB
  rw [hA 6 0 (by decide), hc]
  exact ⟨⟨x1, h2.trans x2, x3⟩, fun j j0 j1 => by rw [hB 200 _ (by decide), hB 201 _ (by decide), hA 7 (2 * j) (by decide), hA 7 (2 * j + 1) (by decide), hA 8 j (by decide), hA 9 j (by decide)]; exact x4 j j0 j1, e0.fr' (fun v => hB 202 v (by decide)) (fun j => hA 8 j (by decide)), e1.fr' (fun v => hB 203 v (by decide)) (fun j => hA 9 j (by decide)), e2.fr' (fun v => hB 204 v (by decide)) (fun j => hA 10 j (by decide)), e3.fr' (fun v => hB 205 v (by decide)) (fun j => hA 13 j (by decide)), e4.fr' (fun v => hB 206 v (by decide)) (fun j => hA 14 j (by decide)), e5.fr' (fun v => hB 207 v (by decide)) (fun j => hA 15 j (by decide)), e6.fr' (fun v => hB 208 v (by decide)) (fun j => hA 16 j (by decide)), e7.fr' (fun v => hB 209 v (by decide)) (fun j => hA 11 j (by decide)), e8.fr' (fun v => hB 210 v (by decide)) (fun j => hA 12 j (by decide)), fun j j0 j1 => by rw [hA 13 j (by decide), hA 14 j (by decide), hA 12 j (by decide), hA 15 j (by decide), hA 16 j (by decide)]; exact z1 j j0 j1⟩
theorem RepE.up (h : RepE c B A) (hc : c' 9 = c 9) (h2 : B' 2 9 = B 2 9) (hB : ∀ k v, (k = 500 ∨ k = 501 ∨ k = 502) → B' k v = B k v) (hA : ∀ a j, (a = 19 ∨ a = 20 ∨ a = 21 ∨ a = 22) → A' a j = A a j) : RepE c' B' A' := by
  obtain ⟨⟨x1, x2, x3⟩, e0, e1, e2, z1⟩ := h
  unfold RepE
  rw [hA 19 0 (by decide), hc]
  exact ⟨⟨x1, h2.trans x2, x3⟩, e0.fr' (fun v => hB 500 v (by decide)) (fun j => hA 20 j (by decide)), e1.fr' (fun v => hB 501 v (by decide)) (fun j => hA 21 j (by decide)), e2.fr' (fun v => hB 502 v (by decide)) (fun j => hA 22 j (by decide)), fun j j0 j1 => by rw [hA 20 j (by decide), hA 21 j (by decide), hA 22 j (by decide)]; exact z1 j j0 j1⟩
theorem RepC.up (h : RepC c B A) (hc : c' 10 = c 10) (h2 : B' 2 10 = B 2 10) (hB : ∀ k v, (k = 400 ∨ k = 401 ∨ k = 403 ∨ k = 404) → B' k v = B k v) (hA : ∀ a j, (a = 23 ∨ a = 24 ∨ a = 25 ∨ a = 26 ∨ a = 27) → A' a j = A a j) : RepC c' B' A' := by
  obtain ⟨⟨x1, x2, x3⟩, e0, e1, e2, e3, z1, z2⟩ := h
  unfold RepC
  rw [hA 23 0 (by decide), hc]
  exact ⟨⟨x1, h2.trans x2, x3⟩, e0.fr' (fun v => hB 400 v (by decide)) (fun j => hA 24 j (by decide)), e1.fr' (fun v => hB 401 v (by decide)) (fun j => hA 25 j (by decide)), e2.fr' (fun v => hB 403 v (by decide)) (fun j => hA 26 j (by decide)), e3.fr' (fun v => hB 404 v (by decide)) (fun j => hA 27 j (by decide)), fun j j0 j1 => by rw [hA 24 j (by decide), hA 25 j (by decide), hA 26 j (by decide), hA 27 j (by decide)]; exact z1 j j0 j1, fun j j0 j1 => by rw [hA 26 j (by decide), hA 27 j (by decide)]; exact z2 j j0 j1⟩
theorem RepK.up (h : RepK c B A) (hc : c' 11 = c 11) (h2 : B' 2 11 = B 2 11) (hB : ∀ k v, (k = 300 ∨ k = 301 ∨ k = 302 ∨ k = 303) → B' k v = B k v) (hA : ∀ a j, (a = 29 ∨ a = 30 ∨ a = 31 ∨ a = 32 ∨ a = 33 ∨ a = 54) → A' a j = A a j) : RepK c' B' A' := by
  obtain ⟨⟨x1, x2, x3⟩, e0, e1, e2, e3, z1⟩ := h
  unfold RepK
  rw [hA 29 0 (by decide), hc]
  rw [hA 54 0 (by decide)]
  exact ⟨⟨x1, h2.trans x2, x3⟩, e0.fr' (fun v => hB 300 v (by decide)) (fun j => hA 30 j (by decide)), e1.fr' (fun v => hB 301 v (by decide)) (fun j => hA 31 j (by decide)), e2.fr' (fun v => hB 302 v (by decide)) (fun j => hA 32 j (by decide)), e3.fr' (fun v => hB 303 v (by decide)) (fun j => hA 33 j (by decide)), fun j j0 j1 => by rw [hA 30 j (by decide), hA 31 j (by decide), hA 32 j (by decide), hA 33 j (by decide)]; exact z1 j j0 j1⟩
theorem RepL.up (h : RepL c B A) (hc : c' 12 = c 12) (h2 : B' 2 12 = B 2 12) (hB : ∀ k v, (k = 100 ∨ k = 101 ∨ k = 102 ∨ k = 103) → B' k v = B k v) (hA : ∀ a j, (a = 54 ∨ a = 55 ∨ a = 56 ∨ a = 57 ∨ a = 58) → A' a j = A a j) : RepL c' B' A' := by
  obtain ⟨⟨x1, x2, x3⟩, e0, e1, e2, e3, z1, z2⟩ := h
  unfold RepL
  rw [hA 54 0 (by decide), hc]
  exact ⟨⟨x1, h2.trans x2, x3⟩, e0.fr' (fun v => hB 100 v (by decide)) (fun j => hA 55 j (by decide)), e1.fr' (fun v => hB 101 v (by decide)) (fun j => hA 56 j (by decide)), e2.fr' (fun v => hB 102 v (by decide)) (fun j => hA 57 j (by decide)), e3.fr' (fun v => hB 103 v (by decide)) (fun j => hA 58 j (by decide)), fun j j0 j1 => by rw [hA 55 j (by decide), hA 56 j (by decide), hA 57 j (by decide), hA 58 j (by decide)]; exact z1 j j0 j1, fun j j0 j1 => by rw [hA 58 j (by decide)]; exact z2 j j0 j1⟩
set_option maxHeartbeats 2000000 in
theorem lay_rep {x y n g : Int} (hR : Rep c LN B E A) (hc : A 6 0 < 16) (hx : 0 ≤ x ∧ x < 8) (hy : 0 ≤ y ∧ y < 8) (hxy : x ≠ y) (hn : 2 ≤ n ∧ n ≤ 60) (hg : 0 ≤ g ∧ g ≤ 3) (hB : ∀ k v, (k ≠ 0 ∧ k ≠ 2 ∧ k ≠ 913) → k < 1000 → B' k v = B k v) (h2 : B' 2 8 = A 6 0 + 1 ∧ ∀ v, v ≠ 8 → B' 2 v = B 2 v) (h9 : B' 913 0 = A' 2 0 ∧ rg (A' 2 0))
  (w200 : B' 200 (100 + (A 6 0).toNat) = x) (w201 : B' 201 (100 + (A 6 0).toNat) = y) (w202 : B' 202 (100 + (A 6 0).toNat) = n) (w203 : B' 203 (100 + (A 6 0).toNat) = g) (w0 : ∀ k, 204 ≤ k → k ≤ 210 → B' k (100 + (A 6 0).toNat) = 0) (w212 : B' 212 (100 + (A 6 0).toNat) = 0)
  (hA : ∀ a j, (a ≠ 0 ∧ a ≠ 2 ∧ a ≠ 6 ∧ a ≠ 7 ∧ a ≠ 8 ∧ a ≠ 9 ∧ a ≠ 17) → A' a j = A a j) (a6 : A' 6 0 = A 6 0 + 1) (a7 : A' 7 (2 * A 6 0) = x ∧ A' 7 (2 * A 6 0 + 1) = y ∧ ∀ j, (j ≠ 2 * A 6 0 ∧ j ≠ 2 * A 6 0 + 1) → A' 7 j = A 7 j) (a8 : A' 8 (A 6 0) = n ∧ ∀ j, j ≠ A 6 0 → A' 8 j = A 8 j) (a9 : A' 9 (A 6 0) = g ∧ ∀ j, j ≠ A 6 0 → A' 9 j = A 9 j) (a17 : A' 17 (A 6 0) = -1 ∧ ∀ j, j ≠ A 6 0 → A' 17 j = A 17 j) : Rep (cup c 8) LN B' E A' := by
  obtain ⟨gG, gS, gB, g0, gH, gE, gC, gN, gK, gL, gR, gD, gY, gU, gW, gP, gT, gX, gZ⟩ := id hR
  obtain ⟨⟨b1, b2, b3⟩, b4, b5, b6, b7, b8, b9, b10, b11, b12, b13, b14⟩ := id gB
  have q5 := gG.2.2.2.2.1
  have N0 : 0 ≤ A 6 0 := by omega
  have zz := g0 (A 6 0) (Int.le_refl _) hc
  obtain ⟨z10, z11, z12, z13, z14, z15, z16⟩ := zz
  refine ⟨gG.up (fun k v h => hB k v (by omega) (by omega)) h9 (fun a j h => hA a j (by omega)), gS.fr (fun k v h => hB k v (by omega) (by omega)) (fun a j h => hA a j (by omega)), ?_, ?_, ?_, gE.up (cup_n (by decide)) (h2.2 9 (by decide)) (fun k v h => hB k v (by omega) (by omega)) (fun a j h => hA a j (by omega)), gC.up (cup_n (by decide)) (h2.2 10 (by decide)) (fun k v h => hB k v (by omega) (by omega)) (fun a j h => hA a j (by omega)), gN.fr (fun k v h => hB k v (by omega) (by omega)) (fun a j h => hA a j (by omega)), gK.up (cup_n (by decide)) (h2.2 11 (by decide)) (fun k v h => hB k v (by omega) (by omega)) (fun a j h => hA a j (by omega)), gL.up (cup_n (by decide)) (h2.2 12 (by decide)) (fun k v h => hB k v (by omega) (by omega)) (fun a j h => hA a j (by omega)), gR.fr (fun _ => rfl) (fun _ => rfl) (fun a j h => hA a j (by omega)), ?_, gY.fr (fun k v h => hB k v (by omega) (by omega)) (fun _ _ => rfl) (fun a j h => hA a j (by omega)), gU.fr (fun k v h => hB k v (by omega) (by omega)) (fun _ _ => rfl) (fun a j h => hA a j (by omega)), gW.fr (fun a j h => hA a j (by omega)), gP.fr (fun k v h => hB k v (by omega) (by omega)) (fun _ _ => rfl) (fun a j h => hA a j (by omega)), RepT.mk' fun t t0 t1 => ?_, ?_, gZ.fr (fun a j h => hA a j (by omega))⟩
  · unfold RepB
    rw [a6, cup_s]
    refine ⟨⟨by omega, h2.1, by omega⟩, fun j j0 j1 => ?_, b5.add N0 (fun v _ => hB 202 v (by decide) (by decide)) a8.2 (w202.trans a8.1.symm), b6.add N0 (fun v _ => hB 203 v (by decide) (by decide)) a9.2 (w203.trans a9.1.symm), b7.add N0 (fun v _ => hB 204 v (by decide) (by decide)) (fun j _ => hA 10 j (by decide)) ((w0 204 (by decide) (by decide)).trans ((hA 10 _ (by decide)).trans z10).symm), b8.add N0 (fun v _ => hB 205 v (by decide) (by decide)) (fun j _ => hA 13 j (by decide)) ((w0 205 (by decide) (by decide)).trans ((hA 13 _ (by decide)).trans z13).symm), b9.add N0 (fun v _ => hB 206 v (by decide) (by decide)) (fun j _ => hA 14 j (by decide)) ((w0 206 (by decide) (by decide)).trans ((hA 14 _ (by decide)).trans z14).symm), b10.add N0 (fun v _ => hB 207 v (by decide) (by decide)) (fun j _ => hA 15 j (by decide)) ((w0 207 (by decide) (by decide)).trans ((hA 15 _ (by decide)).trans z15).symm), b11.add N0 (fun v _ => hB 208 v (by decide) (by decide)) (fun j _ => hA 16 j (by decide)) ((w0 208 (by decide) (by decide)).trans ((hA 16 _ (by decide)).trans z16).symm), b12.add N0 (fun v _ => hB 209 v (by decide) (by decide)) (fun j _ => hA 11 j (by decide)) ((w0 209 (by decide) (by decide)).trans ((hA 11 _ (by decide)).trans z11).symm), b13.add N0 (fun v _ => hB 210 v (by decide) (by decide)) (fun j _ => hA 12 j (by decide)) ((w0 210 (by decide) (by decide)).trans ((hA 12 _ (by decide)).trans z12).symm), fun j j0 j1 => ?_⟩
    · by_cases e : j = A 6 0
      · rw [e, w200, w201, a7.1, a7.2.1, a8.1, a9.1]
        exact ⟨rfl, rfl, hx.1, hx.2, hy.1, hy.2, hxy, hn.1, hn.2, hg.1, hg.2⟩
      · rw [hB 200 _ (by decide) (by decide), hB 201 _ (by decide) (by decide), a7.2.2 (2 * j) (by omega), a7.2.2 (2 * j + 1) (by omega), a8.2 j e, a9.2 j e]
        exact b4 j j0 (by omega)
    · rw [hA 13 j (by decide), hA 14 j (by decide), hA 12 j (by decide), hA 15 j (by decide), hA 16 j (by decide)]
      by_cases e : j = A 6 0
      · rw [e, z12, z13, z14, z15, z16]
        decide
      · exact b14 j j0 (by omega)
  · intro j j0 j1
    rw [a6] at j0
    rw [hA 10 j (by decide), hA 11 j (by decide), hA 12 j (by decide), hA 13 j (by decide), hA 14 j (by decide), hA 15 j (by decide), hA 16 j (by decide)]
    exact g0 j (by omega) j1
  · intro j j0 j1
    rw [a6] at j1
    rw [hA 1 0 (by decide), hA 18 j (by decide)]
    by_cases e : j = A 6 0
    · rw [e, w212, a17.1, if_neg (by omega)]
      exact ⟨rfl, fun w => absurd rfl w, by decide, by decide⟩
    · rw [hB 211 _ (by decide) (by decide), hB 212 _ (by decide) (by decide), a17.2 j e]
      exact gH j j0 (by omega)
  · obtain ⟨d1, d2, ⟨r1, r2, r3, r4⟩, d4, d5, d6⟩ := gD
    unfold RepD rowR
    rw [hA 52 0 (by decide), a6, hB 601 6 (by decide) (by decide), hB 601 7 (by decide) (by decide)]
    exact ⟨d1, d2, ⟨r1, r2, r3, fun q q0 q1 => (r4 q q0 q1).trans (hA 53 q (by decide)).symm⟩, fun q q0 q1 => by rw [hA 53 q (by decide)]; have := d4 q q0 q1; omega, d5, d6⟩
  · exact (gT.tr t).fr (fun k h => hB k _ (by omega) (by omega)) (hB 601 _ (by omega) (by omega)) rfl (fun _ => rfl) (fun _ => rfl) (fun a h => hA a t (by omega)) (hA 1 0 (by omega)) ⟨by omega, by rw [hA 19 0 (by omega)]; exact Int.le_refl _, by rw [hA 23 0 (by omega)]; exact Int.le_refl _⟩ (fun _ _ _ _ => ⟨hA 20 _ (by omega), hA 22 _ (by omega)⟩) (fun _ _ _ _ => hA 25 _ (by omega)) (fun _ => wgt_fr (fun j => hA 33 j (by omega)) (fun j => hA 43 j (by omega)) t _) (fun p _ _ => hA 45 _ (by omega)) (fun b _ _ => ⟨a7.2.2 _ (by omega), a7.2.2 _ (by omega)⟩) (fun _ b _ _ => by
      rw [a6, hA 18 b (by omega)]
      refine ⟨?_, fun _ _ => rfl⟩
      by_cases e : b = A 6 0
      · rw [e, a17.1]
        exact ⟨fun w => by omega, fun w => by omega⟩
      · rw [a17.2 b e]
        exact ⟨fun w => ⟨by omega, w.2⟩, fun w => ⟨by omega, w.2⟩⟩) (by omega) t0 t1
  · obtain ⟨x1, x2, x3⟩ := gX
    refine ⟨fun j j0 j1 => ?_, fun j j0 j1 => ?_, fun j j0 j1 => ?_⟩
    · rw [hA 19 0 (by decide)] at j1
      rw [hA 22 j (by decide), hA 36 _ (by decide), hA 37 _ (by decide)]
      exact x1 j j0 j1
    · rw [hA 23 0 (by decide)] at j1
      rw [hA 25 j (by decide), hA 36 _ (by decide), hA 38 _ (by decide)]
      exact x2 j j0 j1
    · rw [a6] at j1
      rw [hA 36 _ (by decide), hA 39 _ (by decide)]
      by_cases e : j = A 6 0
      · rw [e, a17.1]
        exact fun w => absurd rfl w
      · rw [a17.2 j e]
        exact x3 j j0 (by omega)
set_option maxHeartbeats 2000000 in
theorem engine_rep {s z : Int} (hR : Rep c LN B E A) (hc : A 19 0 < 6) (hs : 0 ≤ s ∧ s < 8) (hz : 1 ≤ z ∧ z ≤ 9) (hB : ∀ k v, (k ≠ 0 ∧ k ≠ 2 ∧ k ≠ 913) → k < 1000 → B' k v = B k v) (h2 : B' 2 9 = A 19 0 + 1 ∧ ∀ v, v ≠ 9 → B' 2 v = B 2 v) (h9 : B' 913 0 = A' 2 0 ∧ rg (A' 2 0))
  (w500 : B' 500 (120 + (A 19 0).toNat) = z) (w501 : B' 501 (120 + (A 19 0).toNat) = s) (w502 : B' 502 (120 + (A 19 0).toNat) = -1)
  (hA : ∀ a j, (a ≠ 0 ∧ a ≠ 2 ∧ a ≠ 19 ∧ a ≠ 20 ∧ a ≠ 21 ∧ a ≠ 22) → A' a j = A a j) (a19 : A' 19 0 = A 19 0 + 1) (a20 : A' 20 (A 19 0) = z ∧ ∀ j, j ≠ A 19 0 → A' 20 j = A 20 j) (a21 : A' 21 (A 19 0) = s ∧ ∀ j, j ≠ A 19 0 → A' 21 j = A 21 j) (a22 : A' 22 (A 19 0) = -1 ∧ ∀ j, j ≠ A 19 0 → A' 22 j = A 22 j) : Rep (cup c 9) LN B' E A' := by
  obtain ⟨gG, gS, gB, g0, gH, gE, gC, gN, gK, gL, gR, gD, gY, gU, gW, gP, gT, gX, gZ⟩ := id hR
  obtain ⟨⟨e1, e2, e3⟩, e4, e5, e6, e7⟩ := id gE
  have b16 := gB.1
  have N0 : 0 ≤ A 19 0 := by omega
  refine ⟨gG.up (fun k v h => hB k v (by omega) (by omega)) h9 (fun a j h => hA a j (by omega)), gS.fr (fun k v h => hB k v (by omega) (by omega)) (fun a j h => hA a j (by omega)), gB.up (cup_n (by decide)) (h2.2 8 (by decide)) (fun k v h => hB k v (by omega) (by omega)) (fun a j h => hA a j (by omega)), g0.fr (fun a j h => hA a j (by omega)), gH.fr (fun k v h => hB k v (by omega) (by omega)) (fun a j h => hA a j (by omega)), ?_, gC.up (cup_n (by decide)) (h2.2 10 (by decide)) (fun k v h => hB k v (by omega) (by omega)) (fun a j h => hA a j (by omega)), gN.fr (fun k v h => hB k v (by omega) (by omega)) (fun a j h => hA a j (by omega)), gK.up (cup_n (by decide)) (h2.2 11 (by decide)) (fun k v h => hB k v (by omega) (by omega)) (fun a j h => hA a j (by omega)), gL.up (cup_n (by decide)) (h2.2 12 (by decide)) (fun k v h => hB k v (by omega) (by omega)) (fun a j h => hA a j (by omega)), gR.fr (fun _ => rfl) (fun _ => rfl) (fun a j h => hA a j (by omega)), gD.fr (fun k v h => hB k v (by omega) (by omega)) (fun _ _ => rfl) (fun a j h => hA a j (by omega)), gY.fr (fun k v h => hB k v (by omega) (by omega)) (fun _ _ => rfl) (fun a j h => hA a j (by omega)), gU.fr (fun k v h => hB k v (by omega) (by omega)) (fun _ _ => rfl) (fun a j h => hA a j (by omega)), gW.fr (fun a j h => hA a j (by omega)), gP.fr (fun k v h => hB k v (by omega) (by omega)) (fun _ _ => rfl) (fun a j h => hA a j (by omega)), RepT.mk' fun t t0 t1 => ?_, ?_, gZ.fr (fun a j h => hA a j (by omega))⟩
  · unfold RepE
    rw [a19, cup_s]
    refine ⟨⟨by omega, h2.1, by omega⟩, e4.add N0 (fun v _ => hB 500 v (by decide) (by decide)) a20.2 (w500.trans a20.1.symm), e5.add N0 (fun v _ => hB 501 v (by decide) (by decide)) a21.2 (w501.trans a21.1.symm), e6.add N0 (fun v _ => hB 502 v (by decide) (by decide)) a22.2 (w502.trans a22.1.symm), fun j j0 j1 => ?_⟩
    by_cases e : j = A 19 0
    · rw [e, a20.1, a21.1, a22.1]
      exact ⟨hz.1, hz.2, hs.1, hs.2, by decide, by decide⟩
    · rw [a20.2 j e, a21.2 j e, a22.2 j e]
      exact e7 j j0 (by omega)
  · exact (gT.tr t).fr (fun k h => hB k _ (by omega) (by omega)) (hB 601 _ (by omega) (by omega)) rfl (fun _ => rfl) (fun _ => rfl) (fun a h => hA a t (by omega)) (hA 1 0 (by omega)) ⟨by rw [hA 6 0 (by omega)]; exact Int.le_refl _, by omega, by rw [hA 23 0 (by omega)]; exact Int.le_refl _⟩ (fun _ _ w _ => ⟨a20.2 _ (by omega), a22.2 _ (by omega)⟩) (fun _ _ _ _ => hA 25 _ (by omega)) (fun _ => wgt_fr (fun j => hA 33 j (by omega)) (fun j => hA 43 j (by omega)) t _) (fun p _ _ => hA 45 _ (by omega)) (fun b _ _ => ⟨hA 7 _ (by omega), hA 7 _ (by omega)⟩) (fun _ b _ _ => by rw [hA 6 0 (by omega), hA 17 b (by omega), hA 18 b (by omega)]; exact ⟨Iff.rfl, fun _ _ => rfl⟩) (by omega) t0 t1
  · obtain ⟨x1, x2, x3⟩ := gX
    refine ⟨fun j j0 j1 => ?_, fun j j0 j1 => ?_, fun j j0 j1 => ?_⟩
    · rw [a19] at j1
      rw [hA 36 _ (by decide), hA 37 _ (by decide)]
      by_cases e : j = A 19 0
      · rw [e, a22.1]
        exact fun w => absurd rfl w
      · rw [a22.2 j e]
        exact x1 j j0 (by omega)
    · rw [hA 23 0 (by decide)] at j1
      rw [hA 25 j (by decide), hA 36 _ (by decide), hA 38 _ (by decide)]
      exact x2 j j0 j1
    · rw [hA 6 0 (by decide)] at j1
      rw [hA 17 j (by decide), hA 36 _ (by decide), hA 39 _ (by decide)]
      exact x3 j j0 j1
set_option maxHeartbeats 2000000 in
theorem crew_rep {s : Int} (hR : Rep c LN B E A) (hc : A 23 0 < 6) (hs : 0 ≤ s ∧ s < 8) (hB : ∀ k v, (k ≠ 0 ∧ k ≠ 2 ∧ k ≠ 913) → k < 1000 → B' k v = B k v) (h2 : B' 2 10 = A 23 0 + 1 ∧ ∀ v, v ≠ 10 → B' 2 v = B 2 v) (h9 : B' 913 0 = A' 2 0 ∧ rg (A' 2 0))
  (w400 : B' 400 (130 + (A 23 0).toNat) = s) (w401 : B' 401 (130 + (A 23 0).toNat) = -1) (w402 : B' 402 (130 + (A 23 0).toNat) = 0) (w403 : B' 403 (130 + (A 23 0).toNat) = 0) (w404 : B' 404 (130 + (A 23 0).toNat) = 0)
  (hA : ∀ a j, (a ≠ 0 ∧ a ≠ 2 ∧ a ≠ 23 ∧ a ≠ 24 ∧ a ≠ 25) → A' a j = A a j) (a23 : A' 23 0 = A 23 0 + 1) (a24 : A' 24 (A 23 0) = s ∧ ∀ j, j ≠ A 23 0 → A' 24 j = A 24 j) (a25 : A' 25 (A 23 0) = -1 ∧ ∀ j, j ≠ A 23 0 → A' 25 j = A 25 j) : Rep (cup c 10) LN B' E A' := by
  obtain ⟨gG, gS, gB, g0, gH, gE, gC, gN, gK, gL, gR, gD, gY, gU, gW, gP, gT, gX, gZ⟩ := id hR
  obtain ⟨⟨c1, c2, c3⟩, c4, c5, c6, c7, c8, c9⟩ := id gC
  have b16 := gB.1
  have N0 : 0 ≤ A 23 0 := by omega
  obtain ⟨z26, z27⟩ := c9 (A 23 0) (Int.le_refl _) hc
  refine ⟨gG.up (fun k v h => hB k v (by omega) (by omega)) h9 (fun a j h => hA a j (by omega)), gS.fr (fun k v h => hB k v (by omega) (by omega)) (fun a j h => hA a j (by omega)), gB.up (cup_n (by decide)) (h2.2 8 (by decide)) (fun k v h => hB k v (by omega) (by omega)) (fun a j h => hA a j (by omega)), g0.fr (fun a j h => hA a j (by omega)), gH.fr (fun k v h => hB k v (by omega) (by omega)) (fun a j h => hA a j (by omega)), gE.up (cup_n (by decide)) (h2.2 9 (by decide)) (fun k v h => hB k v (by omega) (by omega)) (fun a j h => hA a j (by omega)), ?_, ?_, gK.up (cup_n (by decide)) (h2.2 11 (by decide)) (fun k v h => hB k v (by omega) (by omega)) (fun a j h => hA a j (by omega)), gL.up (cup_n (by decide)) (h2.2 12 (by decide)) (fun k v h => hB k v (by omega) (by omega)) (fun a j h => hA a j (by omega)), gR.fr (fun _ => rfl) (fun _ => rfl) (fun a j h => hA a j (by omega)), gD.fr (fun k v h => hB k v (by omega) (by omega)) (fun _ _ => rfl) (fun a j h => hA a j (by omega)), gY.fr (fun k v h => hB k v (by omega) (by omega)) (fun _ _ => rfl) (fun a j h => hA a j (by omega)), gU.fr (fun k v h => hB k v (by omega) (by omega)) (fun _ _ => rfl) (fun a j h => hA a j (by omega)), gW.fr (fun a j h => hA a j (by omega)), gP.fr (fun k v h => hB k v (by omega) (by omega)) (fun _ _ => rfl) (fun a j h => hA a j (by omega)), RepT.mk' fun t t0 t1 => ?_, ?_, gZ.fr (fun a j h => hA a j (by omega))⟩
  · unfold RepC
    rw [a23, cup_s]
    refine ⟨⟨by omega, h2.1, by omega⟩, c4.add N0 (fun v _ => hB 400 v (by decide) (by decide)) a24.2 (w400.trans a24.1.symm), c5.add N0 (fun v _ => hB 401 v (by decide) (by decide)) a25.2 (w401.trans a25.1.symm), c6.add N0 (fun v _ => hB 403 v (by decide) (by decide)) (fun j _ => hA 26 j (by decide)) (w403.trans ((hA 26 _ (by decide)).trans z26).symm), c7.add N0 (fun v _ => hB 404 v (by decide) (by decide)) (fun j _ => hA 27 j (by decide)) (w404.trans ((hA 27 _ (by decide)).trans z27).symm), fun j j0 j1 => ?_, fun j j0 j1 => ?_⟩
    · rw [hA 26 j (by decide), hA 27 j (by decide)]
      by_cases e : j = A 23 0
      · rw [e, a24.1, a25.1, z26, z27]
        exact ⟨hs.1, hs.2, by decide, by decide, by decide, by decide, by decide, by decide⟩
      · rw [a24.2 j e, a25.2 j e]
        exact c8 j j0 (by omega)
    · rw [hA 26 j (by decide), hA 27 j (by decide)]
      exact c9 j (by omega) j1
  · obtain ⟨n1, n2, n3⟩ := gN
    refine ⟨fun j j0 j1 => ?_, fun j j0 j1 => ?_, fun j j0 j1 => ?_⟩
    · rw [a23] at j1
      by_cases e : j = A 23 0
      · rw [e, w402]
        refine ⟨by decide, by decide, fun b b0 b1 => ?_⟩
        rw [hA 28 _ (by decide), n3 (16 * A 23 0 + b) (by omega) (by omega)]
        exact ⟨fun w => by rw [show ((0 : Int).toNat) = 0 from rfl, Nat.zero_testBit] at w; exact absurd w (by decide), fun w => absurd rfl w⟩
      · rw [hB 402 _ (by decide) (by decide)]
        obtain ⟨m1, m2, m3⟩ := n1 j j0 (by omega)
        exact ⟨m1, m2, fun b b0 b1 => by rw [hA 28 _ (by decide)]; exact m3 b b0 b1⟩
    · rw [hA 28 j (by decide)]
      exact n2 j j0 j1
    · rw [hA 28 j (by decide)]
      rw [a23] at j0
      exact n3 j (by omega) j1
  · exact (gT.tr t).fr (fun k h => hB k _ (by omega) (by omega)) (hB 601 _ (by omega) (by omega)) rfl (fun _ => rfl) (fun _ => rfl) (fun a h => hA a t (by omega)) (hA 1 0 (by omega)) ⟨by rw [hA 6 0 (by omega)]; exact Int.le_refl _, by rw [hA 19 0 (by omega)]; exact Int.le_refl _, by omega⟩ (fun _ _ _ _ => ⟨hA 20 _ (by omega), hA 22 _ (by omega)⟩) (fun _ _ w _ => a25.2 _ (by omega)) (fun _ => wgt_fr (fun j => hA 33 j (by omega)) (fun j => hA 43 j (by omega)) t _) (fun p _ _ => hA 45 _ (by omega)) (fun b _ _ => ⟨hA 7 _ (by omega), hA 7 _ (by omega)⟩) (fun _ b _ _ => by rw [hA 6 0 (by omega), hA 17 b (by omega), hA 18 b (by omega)]; exact ⟨Iff.rfl, fun _ _ => rfl⟩) (by omega) t0 t1
  · obtain ⟨x1, x2, x3⟩ := gX
    refine ⟨fun j j0 j1 => ?_, fun j j0 j1 => ?_, fun j j0 j1 => ?_⟩
    · rw [hA 19 0 (by decide)] at j1
      rw [hA 22 j (by decide), hA 36 _ (by decide), hA 37 _ (by decide)]
      exact x1 j j0 j1
    · rw [a23] at j1
      rw [hA 36 _ (by decide), hA 38 _ (by decide)]
      by_cases e : j = A 23 0
      · rw [e, a25.1]
        exact fun w => absurd rfl w
      · rw [a25.2 j e]
        exact x2 j j0 (by omega)
    · rw [hA 6 0 (by decide)] at j1
      rw [hA 17 j (by decide), hA 36 _ (by decide), hA 39 _ (by decide)]
      exact x3 j j0 j1
end Make
