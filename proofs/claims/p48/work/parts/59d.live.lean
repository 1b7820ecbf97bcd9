/-! the makers: what does not live is not looked at; one more of a kind -/
theorem eqF.lv {B B' : Fl} {A : Il} {k base a : Nat} {n : Int} (h : eqF B A k base a n) (hB : ∀ j : Int, 0 ≤ j → j < n → B' k (base + j.toNat) = B k (base + j.toNat)) : eqF B' A k base a n := fun j j0 j1 => (hB j j0 j1).trans (h j j0 j1)
theorem eqF.add {B B' : Fl} {A A' : Il} {k base a : Nat} {n : Int} (h : eqF B A k base a n) (hn : 0 ≤ n) (hB : ∀ v, v ≠ base + n.toNat → B' k v = B k v) (hA : ∀ j, j ≠ n → A' a j = A a j) (hz : B' k (base + n.toNat) = A' a n) : eqF B' A' k base a (n + 1) := fun j j0 j1 => by
  by_cases e : j = n
  · rw [e]
    exact hz
  · rw [hB _ (by omega), hA j e]
    exact h j j0 (by omega)
section Live
variable {c LN LN' : Nat → Nat} {B B' : Fl} {E E' : El} {A : Il}
set_option maxHeartbeats 2000000 in
theorem Rep.lv (hR : Rep c LN B E A) (hB : ∀ k v, kd c v ≠ 99 → B' k v = B k v) (hE : ∀ v, kd c v = 6 → ∀ j, E' (.inr v) j = E (.inr v) j) (hI : ∀ v, kd c v ≠ 99 → ∀ j, E' (.inl v) j = E (.inl v) j) (hL : ∀ v, kd c v ≠ 99 → LN' v = LN v) : Rep c LN' B' E' A := by
  obtain ⟨gG, gS, gB, g0, gH, gE, gC, gN, gK, gL, gR, gD, gY, gU, gW, gP, gT, gX, gZ⟩ := hR
  have l0 : kd c 0 ≠ 99 := by
    show (9 : Nat) ≠ 99
    decide
  obtain ⟨⟨b1, b2, b3⟩, b4, b5, b6, b7, b8, b9, b10, b11, b12, b13, b14⟩ := gB
  obtain ⟨⟨e1, e2, e3⟩, e4, e5, e6, e7⟩ := gE
  obtain ⟨⟨c1, c2, c3⟩, c4, c5, c6, c7, c8⟩ := gC
  obtain ⟨⟨k1, k2, k3⟩, k4, k5, k6, k7, k8⟩ := gK
  obtain ⟨⟨m1, m2, m3⟩, m4, m5, m6, m7, m8⟩ := gL
  have lb : ∀ j : Int, 0 ≤ j → j < A 6 0 → kd c (100 + j.toNat) ≠ 99 := fun j j0 j1 => by rw [kd8 (by omega) (by omega) b3]; decide
  have le : ∀ j : Int, 0 ≤ j → j < A 19 0 → kd c (120 + j.toNat) ≠ 99 := fun j j0 j1 => by rw [kd9 (by omega) (by omega) e3]; decide
  have lc : ∀ j : Int, 0 ≤ j → j < A 23 0 → kd c (130 + j.toNat) ≠ 99 := fun j j0 j1 => by rw [kd10 (by omega) (by omega) c3]; decide
  have lk : ∀ j : Int, 0 ≤ j → j < A 29 0 → kd c (140 + j.toNat) ≠ 99 := fun j j0 j1 => by rw [kd11 (by omega) (by omega) k3]; decide
  have lp : ∀ j : Int, 0 ≤ j → j < A 29 0 → kd c (160 + j.toNat) ≠ 99 := fun j j0 j1 => by rw [kdp (by omega) (by omega) k3]; decide
  have lm : ∀ j : Int, 0 ≤ j → j < A 54 0 → kd c (180 + j.toNat) ≠ 99 := fun j j0 j1 => by rw [kd12 (by omega) (by omega) m3]; decide
  have l8 : ∀ v, v < 8 → kd c v ≠ 99 := fun v hv => by
    unfold kd
    repeat' (first | omega | (refine ite_nz (fun _ => ?_) (fun _ => ?_)))
  have gD9 : RepD LN' B' E' A := by
    obtain ⟨d1, d2, ⟨d3, d4, d5, d6⟩, d7, d8⟩ := gD
    refine ⟨(hL 6 (l8 6 (by decide))).trans d1, (hL 7 (l8 7 (by decide))).trans d2, ⟨(hB 601 6 (l8 6 (by decide))).trans d3, d4, ?_, fun p p0 p1 => (hE 6 rfl p).trans (d6 p p0 p1)⟩, d7, ?_⟩
    · rw [hL 6 (l8 6 (by decide))]
      exact d5
    · rw [hB 601 7 (l8 7 (by decide))]
      exact d8
  refine ⟨?_, ?_, ⟨⟨b1, ?_, b3⟩, fun j j0 j1 => ?_, b5.lv fun j j0 j1 => hB _ _ (lb j j0 j1), b6.lv fun j j0 j1 => hB _ _ (lb j j0 j1), b7.lv fun j j0 j1 => hB _ _ (lb j j0 j1), b8.lv fun j j0 j1 => hB _ _ (lb j j0 j1), b9.lv fun j j0 j1 => hB _ _ (lb j j0 j1), b10.lv fun j j0 j1 => hB _ _ (lb j j0 j1), b11.lv fun j j0 j1 => hB _ _ (lb j j0 j1), b12.lv fun j j0 j1 => hB _ _ (lb j j0 j1), b13.lv fun j j0 j1 => hB _ _ (lb j j0 j1), b14⟩, g0, fun j j0 j1 => ?_,
    ⟨⟨e1, ?_, e3⟩, e4.lv fun j j0 j1 => hB _ _ (le j j0 j1), e5.lv fun j j0 j1 => hB _ _ (le j j0 j1), e6.lv fun j j0 j1 => hB _ _ (le j j0 j1), e7⟩,
    ⟨⟨c1, ?_, c3⟩, c4.lv fun j j0 j1 => hB _ _ (lc j j0 j1), c5.lv fun j j0 j1 => hB _ _ (lc j j0 j1), c6.lv fun j j0 j1 => hB _ _ (lc j j0 j1), c7.lv fun j j0 j1 => hB _ _ (lc j j0 j1), c8⟩,
    ⟨fun j j0 j1 => ?_, gN.2⟩,
    ⟨⟨k1, ?_, k3⟩, k4.lv fun j j0 j1 => hB _ _ (lk j j0 j1), k5.lv fun j j0 j1 => hB _ _ (lk j j0 j1), k6.lv fun j j0 j1 => hB _ _ (lk j j0 j1), k7.lv fun j j0 j1 => hB _ _ (lk j j0 j1), k8⟩,
    ⟨⟨m1, ?_, m3⟩, m4.lv fun j j0 j1 => hB _ _ (lm j j0 j1), m5.lv fun j j0 j1 => hB _ _ (lm j j0 j1), m6.lv fun j j0 j1 => hB _ _ (lm j j0 j1), m7.lv fun j j0 j1 => hB _ _ (lm j j0 j1), m8⟩,
    fun j j0 j1 => ?_, gD9, RepY.mk' fun s s0 s1 => ?_, RepU.mk' fun t t0 t1 => ?_, gW, ?_, RepT.mk' fun t t0 t1 => ?_, gX, gZ⟩
  · unfold RepG
    rw [hB 912 0 l0, hB 913 0 l0, hB 914 0 l0, hB 915 0 l0]
    exact gG
  · exact ⟨gS.1.lv fun j j0 j1 => hB _ _ (by rw [kdst (by omega) (by omega)]; decide), gS.2⟩
  · exact (hB 2 8 (by show (0 : Nat) ≠ 99; decide)).trans b2
  · rw [hB 200 _ (lb j j0 j1), hB 201 _ (lb j j0 j1)]
    exact b4 j j0 j1
  · rw [hB 211 _ (lb j j0 j1), hB 212 _ (lb j j0 j1)]
    exact gH j j0 j1
  · exact (hB 2 9 (by show (0 : Nat) ≠ 99; decide)).trans e2
  · exact (hB 2 10 (by show (0 : Nat) ≠ 99; decide)).trans c2
  · rw [hB 402 _ (lc j j0 j1)]
    exact gN.1 j j0 j1
  · exact (hB 2 11 (by show (0 : Nat) ≠ 99; decide)).trans k2
  · exact (hB 2 12 (by show (0 : Nat) ≠ 99; decide)).trans m2
  · rw [hI 3 (l8 3 (by decide)), hI 4 (l8 4 (by decide))]
    exact gR j j0 j1
  · have l : kd c (30 + s.toNat) ≠ 99 := by rw [kdyd (by omega) (by omega)]; decide
    exact (gY.yy s).fr (hL _ l) (hB _ _ l) (hE _ (kdyd (by omega) (by omega))) rfl (fun _ _ _ => rfl) (Int.le_refl _) (fun _ _ _ _ _ => ⟨rfl, rfl⟩) s0 s1
  · have l : kd c (50 + t.toNat) ≠ 99 := by rw [kdtc (by omega) (by omega)]; decide
    exact (gU.uu t).fr (hL _ l) rfl (fun _ => hB _ _ l) (fun _ => hE _ (kdtc (by omega) (by omega))) (fun _ => rfl) (fun _ _ _ _ => rfl) (Int.le_refl _) (fun _ _ _ _ => rfl) t0 t1
  · obtain ⟨p1, p2, p3, p4⟩ := gP
    refine ⟨p1, p2, p3, fun k q0 q1 => ?_⟩
    have x2 := hL _ (lp k q0 q1)
    have x3 := hE (160 + k.toNat) (kdp (by omega) (by omega) k3)
    rw [hB 601 _ (lp k q0 q1), x2]
    obtain ⟨w1, w2, w3, w4, p, w5, w6, w7, w8⟩ := p4 k q0 q1
    exact ⟨w1, w2, w3, fun i hi he => (x3 _).trans (w4 i hi he), p, w5, w6, (x3 p).trans w7, fun q hq hq1 => by rw [x3]; exact w8 q hq hq1⟩
  · have l : kd c (40 + t.toNat) ≠ 99 := by rw [kdtr (by omega) (by omega)]; decide
    have l6 : kd c (60 + t.toNat) ≠ 99 := by rw [kdtw (by omega) (by omega)]; decide
    have l7 : kd c (70 + t.toNat) ≠ 99 := by rw [kdcl (by omega) (by omega)]; decide
    exact (gT.tr t).fr (fun k _ => hB k _ l) (hB _ _ l6) (hL _ l6) (hE _ (kdtw (by omega) (by omega))) (hI _ l7) (fun _ _ => rfl) rfl ⟨Int.le_refl _, Int.le_refl _, Int.le_refl _⟩ (fun _ _ _ _ => ⟨rfl, rfl⟩) (fun _ _ _ _ => rfl) (fun _ => rfl) (fun _ _ _ => rfl) (fun _ _ _ => ⟨rfl, rfl⟩) (fun _ _ _ _ => ⟨Iff.rfl, fun _ _ => rfl⟩) (by omega) t0 t1
end Live
