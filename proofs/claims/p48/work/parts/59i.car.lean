/-! the makers: the car -/
section Car
variable {c LN : Nat → Nat} {B B' : Fl} {E : El} {A A' : Il}
theorem pcn_none {k : Int} : ∀ n : Nat, (∀ i : Nat, i < n → A 61 (i : Int) ≠ k) → pcn A k n = 0
  | 0, _ => rfl
  | n + 1, h => by
    show pcn A k n + (if A 61 (n : Int) = k then 1 else 0) = 0
    rw [pcn_none n (fun i hi => h i (by omega)), if_neg (h n (by omega))]
    rfl
set_option maxHeartbeats 2000000 in
theorem car_rep1 {s : Int} (hR : Rep c LN B E A) (hc : A 29 0 < 20) (hs : 0 ≤ s ∧ s < 8) (hB : ∀ k v, (k ≠ 0 ∧ k ≠ 2 ∧ k ≠ 913) → k < 1000 → B' k v = B k v) (h2 : B' 2 11 = A 29 0 + 1 ∧ ∀ v, v ≠ 11 → B' 2 v = B 2 v) (h9 : B' 913 0 = A' 2 0 ∧ rg (A' 2 0))
  (w300 : B' 300 (140 + (A 29 0).toNat) = s) (w301 : B' 301 (140 + (A 29 0).toNat) = s) (w302 : B' 302 (140 + (A 29 0).toNat) = -1) (w303 : B' 303 (140 + (A 29 0).toNat) = -1) (w601 : B' 601 (160 + (A 29 0).toNat) = 0) (hL4 : LN (160 + (A 29 0).toNat) = 4)
  (hA : ∀ a j, (a ≠ 0 ∧ a ≠ 2 ∧ a ≠ 29 ∧ a ≠ 30 ∧ a ≠ 31 ∧ a ≠ 32 ∧ a ≠ 33) → A' a j = A a j) (a29 : A' 29 0 = A 29 0 + 1) (a30 : A' 30 (A 29 0) = s ∧ ∀ j, j ≠ A 29 0 → A' 30 j = A 30 j) (a31 : A' 31 (A 29 0) = s ∧ ∀ j, j ≠ A 29 0 → A' 31 j = A 31 j) (a32 : A' 32 (A 29 0) = -1 ∧ ∀ j, j ≠ A 29 0 → A' 32 j = A 32 j) (a33 : A' 33 (A 29 0) = -1 ∧ ∀ j, j ≠ A 29 0 → A' 33 j = A 33 j) : RepV (fun k => k = A 29 0) 1 (cup c 11) LN B' E A' := by
  obtain ⟨gG, gS, gB, g0, gH, gE, gC, gN, gK, gL, gR, gD, gY, gU, gW, gP, gT, gX, gZ⟩ := id hR
  obtain ⟨⟨k1, k2, k3⟩, k4, k5, k6, k7, k8⟩ := id gK
  have b16 := gB.1
  have l54 := gL.1
  have N0 : 0 ≤ A 29 0 := by omega
  refine ⟨gG.up (fun k v h => hB k v (by omega) (by omega)) h9 (fun a j h => hA a j (by omega)), gS.fr (fun k v h => hB k v (by omega) (by omega)) (fun a j h => hA a j (by omega)), gB.up (cup_n (by decide)) (h2.2 8 (by decide)) (fun k v h => hB k v (by omega) (by omega)) (fun a j h => hA a j (by omega)), g0.fr (fun a j h => hA a j (by omega)), gH.fr (fun k v h => hB k v (by omega) (by omega)) (fun a j h => hA a j (by omega)), gE.up (cup_n (by decide)) (h2.2 9 (by decide)) (fun k v h => hB k v (by omega) (by omega)) (fun a j h => hA a j (by omega)), gC.up (cup_n (by decide)) (h2.2 10 (by decide)) (fun k v h => hB k v (by omega) (by omega)) (fun a j h => hA a j (by omega)), gN.fr (fun k v h => hB k v (by omega) (by omega)) (fun a j h => hA a j (by omega)), ?_, gL.up (cup_n (by decide)) (h2.2 12 (by decide)) (fun k v h => hB k v (by omega) (by omega)) (fun a j h => hA a j (by omega)), gR.fr (fun _ => rfl) (fun _ => rfl) (fun a j h => hA a j (by omega)), gD.fr (fun k v h => hB k v (by omega) (by omega)) (fun _ _ => rfl) (fun a j h => hA a j (by omega)), RepY.mk' fun q => (gY.yy q).fr rfl (hB 601 _ (by decide) (by decide)) (fun _ => rfl) (hA 35 q (by decide)) (fun _ _ _ => hA 34 _ (by decide)) (by omega) (fun k k0 k1 _ _ => ⟨a32.2 k (by omega), a31.2 k (by omega)⟩), RepU.mk' fun t => (gU.uu t).fr rfl (hA 36 t (by decide)) (fun _ => hB 601 _ (by decide) (by decide)) (fun _ _ => rfl) (fun _ => hA 44 t (by decide)) (fun _ _ _ _ => hA 43 _ (by decide)) (by omega) (fun k k0 k1 _ => a32.2 k (by omega)), fun k u0 u1 nx => ?_, ?_, RepT.mk' fun t t0 t1 => ?_, gX.fr (fun a j h => hA a j (by omega)), ?_⟩
  · unfold RepK
    rw [a29, cup_s, hA 54 0 (by decide)]
    refine ⟨⟨by omega, h2.1, by omega⟩, k4.add N0 (fun v _ => hB 300 v (by decide) (by decide)) a30.2 (w300.trans a30.1.symm), k5.add N0 (fun v _ => hB 301 v (by decide) (by decide)) a31.2 (w301.trans a31.1.symm), k6.add N0 (fun v _ => hB 302 v (by decide) (by decide)) a32.2 (w302.trans a32.1.symm), k7.add N0 (fun v _ => hB 303 v (by decide) (by decide)) a33.2 (w303.trans a33.1.symm), fun j j0 j1 => ?_⟩
    by_cases e : j = A 29 0
    · rw [e, a30.1, a31.1, a32.1, a33.1]
      omega
    · rw [a30.2 j e, a31.2 j e, a32.2 j e, a33.2 j e]
      exact k8 j j0 (by omega)
  · have nx : k ≠ A 29 0 := nx
    have w := gW k u0 (by omega)
    rw [a32.2 k nx, a31.2 k nx]
    refine ⟨fun e => ?_, fun e => ?_⟩
    · obtain ⟨p, p0, p1, p2⟩ := w.1 e
      exact ⟨p, p0, by rw [hA 35 _ (by decide)]; exact p1, (hA 34 _ (by decide)).trans p2⟩
    · obtain ⟨h36, p, p0, p1, p2⟩ := w.2 e
      exact ⟨(hA 36 _ (by decide)).trans h36, p, p0, by rw [hA 44 _ (by decide)]; exact p1, (hA 43 _ (by decide)).trans p2⟩
  · obtain ⟨p1, p2, p3, p4⟩ := gP
    have pf := fun k n => pcn_fr (A := A) (A' := A') (fun j => hA 61 j (by decide)) k n
    refine ⟨by rw [hA 60 0 (by decide)]; exact p1, by rw [hA 60 0 (by decide)]; exact p2, fun i i0 i1 => ?_, fun k u0 u1 => ?_⟩
    · rw [hA 60 0 (by decide)] at i1
      rw [hA 61 i (by decide), a29]
      have := p3 i i0 i1
      omega
    · rw [hA 60 0 (by decide), pf]
      by_cases e : k = A 29 0
      · have nn : ∀ i : Nat, (i : Int) < A 60 0 → A 61 (i : Int) ≠ A 29 0 := fun i hi w => by
          have := p3 i (by omega) hi
          omega
        rw [e, w601, hL4]
        refine ⟨(pcn_none _ (fun i hi => nn i (by omega))).symm, by decide, ⟨0, by decide, rfl⟩, fun i hi he => ?_, fun nx => absurd rfl nx⟩
        rw [hA 61 _ (by decide)] at he
        exact absurd he (nn i hi)
      · obtain ⟨w1, w2, w3, w4, p, w5, w6, w7, w8⟩ := p4 k u0 (by omega)
        rw [hB 601 _ (by decide) (by decide), a32.2 k e, a31.2 k e]
        refine ⟨w1, w2, w3, fun i hi he => ?_, fun _ => ⟨p, w5, w6, w7, w8⟩⟩
        rw [hA 61 _ (by decide)] at he
        rw [pf, hA 62 _ (by decide)]
        exact w4 i hi he
  · exact (gT.tr t).fr (fun k h => hB k _ (by omega) (by omega)) (hB 601 _ (by omega) (by omega)) rfl (fun _ => rfl) (fun _ => rfl) (fun a h => hA a t (by omega)) (hA 1 0 (by omega)) ⟨by rw [hA 6 0 (by omega)]; exact Int.le_refl _, by rw [hA 19 0 (by omega)]; exact Int.le_refl _, by rw [hA 23 0 (by omega)]; exact Int.le_refl _⟩ (fun _ _ _ _ => ⟨hA 20 _ (by omega), hA 22 _ (by omega)⟩) (fun _ _ _ _ => hA 25 _ (by omega)) (fun e => wgt_loc _ (fun p hp => by rw [hA 43 _ (by decide)]; exact a33.2 _ (by have := ((gU t t0 t1).2 e).2 p (by omega) (by omega); omega))) (fun p _ _ => hA 45 _ (by omega)) (fun b _ _ => ⟨hA 7 _ (by omega), hA 7 _ (by omega)⟩) (fun _ b _ _ => by rw [hA 6 0 (by omega), hA 17 b (by omega), hA 18 b (by omega)]; exact ⟨Iff.rfl, fun _ _ => rfl⟩) (by omega) t0 t1
  · have h35 : ∀ j, A' 35 j = A 35 j := fun j => hA 35 j (by decide)
    have h36 : ∀ j, A' 36 j = A 36 j := fun j => hA 36 j (by decide)
    have h44 : ∀ j, A' 44 j = A 44 j := fun j => hA 44 j (by decide)
    unfold RepZx tz
    unfold RepZ at gZ
    simp only [h35, h36, h44, a29]
    omega
end Car
