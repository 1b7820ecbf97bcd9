/-! clear -/
section Clr
variable {c LN : Nat → Nat} {B B' : Fl} {E E' : El} {A A' : Il}
theorem RepV.mono {X X' : Int → Prop} {m : Int} (hR : RepV X m c LN B E A) (h : ∀ k, X k → X' k) : RepV X' m c LN B E A := by
  obtain ⟨gG, gS, gB, g0, gH, gE, gC, gN, gK, gL, gR, gD, gY, gU, gW, gP, gT, gX, gZ⟩ := id hR
  obtain ⟨p1, p2, p3, p4⟩ := gP
  refine ⟨gG, gS, gB, g0, gH, gE, gC, gN, gK, gL, gR, gD, gY, gU, fun k k0 k1 n => gW k k0 k1 (fun w => n (h k w)), ⟨p1, p2, p3, fun k k0 k1 => ?_⟩, gT, gX, gZ⟩
  obtain ⟨w1, w2, w3, w4, w5⟩ := p4 k k0 k1
  exact ⟨w1, w2, w3, w4, fun n => w5 (fun w => n (h k w))⟩
/-- a car that is with a train that is no more stands in no row -/
theorem RepV.nyu {X : Int → Prop} {m x t : Int} (hR : RepV X m c LN B E A) (h32 : A 32 x = t) (ht : t ≠ -1) (h36 : A 36 t = 0) : (∀ s' p : Int, 0 ≤ s' → s' < 8 → 0 ≤ p → p < A 35 s' → A 34 (20 * s' + p) ≠ x) ∧ ∀ q p : Int, 0 ≤ q → q < 6 → A 36 q = 1 → 0 ≤ p → p < A 44 q → A 43 (10 * q + p) ≠ x := by
  obtain ⟨gG, gS, gB, g0, gH, gE, gC, gN, gK, gL, gR, gD, gY, gU, gW, gP, gT, gX, gZ⟩ := id hR
  refine ⟨fun s' p s0 s1 p0 p1 w => ?_, fun q p q0 q1 e p0 p1 w => ?_⟩
  · obtain ⟨-, -, -, m4⟩ := gY s' s0 s1
    have m5 := (m4 p p0 p1).2.2.1
    rw [w, h32] at m5
    exact ht m5
  · have m5 := (((gU q q0 q1).2 e).2 p p0 p1).2.2.1
    rw [w, h32] at m5
    rw [← m5, h36] at e
    exact absurd e (by decide)
/-- there are rows behind a comes -/
theorem comes_ex {X : Int → Prop} {m x s : Int} (hR : RepV X m c LN B E A) (hx : 0 ≤ x ∧ x < A 29 0) (hs : 0 ≤ s ∧ s < 8) (hm : 1 ≤ m) (hX : X x) (hn : A 60 0 ≤ 1023)
  (ny : ∀ s' p : Int, 0 ≤ s' → s' < 8 → 0 ≤ p → p < A 35 s' → A 34 (20 * s' + p) ≠ x) (nu : ∀ t p : Int, 0 ≤ t → t < 6 → A 36 t = 1 → 0 ≤ p → p < A 44 t → A 43 (10 * t + p) ≠ x) : ∃ (LN' : Nat → Nat) (B' : Fl) (E' : El), RepV (fun k => X k ∧ k ≠ x) (m - 1) c LN' B' E' (cms A x s) := by
  have gP := hR.2.2.2.2.2.2.2.2.2.2.2.2.2.2.2.1
  have gK := hR.2.2.2.2.2.2.2.2.1
  have gY := hR.2.2.2.2.2.2.2.2.2.2.2.2.1
  obtain ⟨o1, o2, o3⟩ := gP.room hx (by have := gK.1; omega) hn
  obtain ⟨⟨t1, t2, t3, t4⟩, t5, t6, t7⟩ := gY s hs.1 hs.2
  have n1 : 160 + x.toNat ≠ 30 + s.toNat := by omega
  refine ⟨fun v => if v = 160 + x.toNat ∧ ¬ B 601 v < (LN v : Int) then 2 * LN v else if v = 30 + s.toNat ∧ ¬ B 601 v < (LN v : Int) then 2 * LN v else LN v, u2 (u2 (u2 (u2 B 302 (140 + x.toNat) (-1)) 301 (140 + x.toNat) s) 601 (160 + x.toNat) (B 601 (160 + x.toNat) + 1)) 601 (30 + s.toNat) (B 601 (30 + s.toNat) + 1), fun a j => if a = .inr (160 + x.toNat) ∧ j = B 601 (160 + x.toNat) then s else if a = .inr (30 + s.toNat) ∧ j = B 601 (30 + s.toNat) then x else E a j, ?_⟩
  refine comes_rep hR rfl hx hs hm hX hn ny nu (fun q v h => (u2_k (by omega)).trans ((u2_k (by omega)).trans ((u2_k (by omega)).trans (u2_k (by omega))))) ⟨(u2_k (by decide)).trans ((u2_k (by decide)).trans u2_s), fun v h => (u2_k (by decide)).trans ((u2_k (by decide)).trans ((u2_v h).trans (u2_k (by decide))))⟩ ⟨(u2_k (by decide)).trans ((u2_k (by decide)).trans ((u2_k (by decide)).trans u2_s)), fun v h => (u2_k (by decide)).trans ((u2_k (by decide)).trans ((u2_k (by decide)).trans (u2_v h)))⟩
    ⟨(u2_v n1).trans u2_s, u2_s, fun v h => (u2_v h.2).trans ((u2_v h.1).trans ((u2_k (by decide)).trans (u2_k (by decide))))⟩ (fun v h => (if_neg (fun w => h.1 w.1)).trans (if_neg (fun w => h.2 w.1))) ?_ ?_ ?_ (fun v h j => (if_neg (fun w => h.1 (by injection w.1))).trans (if_neg (fun w => h.2 (by injection w.1)))) (fun v j => (if_neg (fun w => by cases w.1)).trans (if_neg (fun w => by cases w.1))) (fun j j0 j1 => (if_neg (fun w => by omega)).trans (if_neg (fun w => n1 (by injection w.1)))) (if_pos ⟨rfl, rfl⟩) (fun j j0 j1 => (if_neg (fun w => n1 (by injection w.1 with w2; exact w2.symm))).trans (if_neg (fun w => by omega))) ((if_neg (fun w => n1 (by injection w.1 with w2; exact w2.symm))).trans (if_pos ⟨rfl, rfl⟩))
  · by_cases cc : B 601 (160 + x.toNat) < (LN (160 + x.toNat) : Int)
    · exact Or.inl ((if_neg (fun w => w.2 cc)).trans (if_neg (fun w => w.2 cc)))
    · exact Or.inr ⟨if_pos ⟨rfl, cc⟩, by omega⟩
  · by_cases cc : B 601 (160 + x.toNat) < (LN (160 + x.toNat) : Int)
    · rw [if_neg (fun w => w.2 cc), if_neg (fun w => w.2 cc)]
      exact cc
    · rw [if_pos ⟨rfl, cc⟩]
      rcases o3 with o3 | ⟨o4, -⟩
      · exact absurd o3 cc
      · omega
  · by_cases cc : B 601 (30 + s.toNat) < (LN (30 + s.toNat) : Int)
    · rw [if_neg (fun w => w.2 cc), if_neg (fun w => w.2 cc)]
      exact cc
    · rw [if_neg (fun w => n1 w.1.symm), if_pos ⟨rfl, cc⟩]
      omega
/-- what a train's end does to the reference's rows -/
def enA (A : Il) (t s : Int) : Il := ui (ui (ui (ui (ui A 36 t 0) 22 (A 37 t) (-1)) 21 (A 37 t) s) 25 (A 38 t) (-1)) 24 (A 38 t) s
theorem m_ends {t s : Int} {Q : Il → Prop} (h0 : 0 ≤ t) (h1 : t < 6) (he : 0 ≤ A 37 t ∧ A 37 t < 6) (hk : 0 ≤ A 38 t ∧ A 38 t < 6) (h : Q (enA A t s)) : W_X9_ends t s A Q := ⟨h0, h1, h0, h1, he.1, he.2, h0, h1, he.1, he.2, h0, h1, hk.1, hk.2, h0, h1, hk.1, hk.2, h⟩
/-- what a train's end does to the class's fields -/
def soB (B : Fl) (e k t s : Int) : Fl := u2 (u2 (u2 (u2 (u2 B 502 (120 + e.toNat) (-1)) 501 (120 + e.toNat) s) 401 (130 + k.toNat) (-1)) 400 (130 + k.toNat) s) 801 (40 + t.toNat) (-1)
set_option maxHeartbeats 2000000 in
theorem ends_rep {t s : Int} (hR : Rep c LN B E A) (t0 : 0 ≤ t) (t1 : t < 6) (h36 : A 36 t = 1) (h39 : A 39 t = 3) (hs : 0 ≤ s ∧ s < 8) : RepV (fun x => ∃ p : Int, 0 ≤ p ∧ p < A 44 t ∧ A 43 (10 * t + p) = x) (A 44 t) c LN (soB B (A 37 t) (A 38 t) t s) E (enA A t s) := by
  have gW0 := hR.2.2.2.2.2.2.2.2.2.2.2.2.2.2.1
  obtain ⟨gG, gS, gB, g0, gH, gE, gC, gN, gK, gL, gR, gD, gY, gU, gW, gP, gT, gX, gZ⟩ := hR.v (X := fun x => ∃ p : Int, 0 ≤ p ∧ p < A 44 t ∧ A 43 (10 * t + p) = x)
  obtain ⟨⟨n1, n2, n3⟩, n4, n5, n6, n7⟩ := id gE
  obtain ⟨⟨c1, c2, c3⟩, c4, c5, c6, c7, c8, c8z⟩ := id gC
  obtain ⟨x1, x2, x3⟩ := id gX
  obtain ⟨u_1, u_2, u_3, u_4, u_5⟩ := gT t t0 t1
  obtain ⟨y1, y2, y3, y4, y5, y6, y7, y8, y9, y10, y11, -⟩ := u_5 h36
  clear u_5
  have hB : ∀ q v, (q ≠ 502 ∧ q ≠ 501 ∧ q ≠ 401 ∧ q ≠ 400 ∧ q ≠ 801) → soB B (A 37 t) (A 38 t) t s q v = B q v := fun q v h => (u2_k (by omega)).trans ((u2_k (by omega)).trans ((u2_k (by omega)).trans ((u2_k (by omega)).trans (u2_k (by omega)))))
  have hBt : ∀ q v, (v ≠ 40 + t.toNat ∧ q ≠ 502 ∧ q ≠ 501 ∧ q ≠ 401 ∧ q ≠ 400) → soB B (A 37 t) (A 38 t) t s q v = B q v := fun q v h => (u2_w (by omega)).trans ((u2_k (by omega)).trans ((u2_k (by omega)).trans ((u2_k (by omega)).trans (u2_k (by omega)))))
  have h502 : soB B (A 37 t) (A 38 t) t s 502 (120 + (A 37 t).toNat) = -1 ∧ ∀ v, v ≠ 120 + (A 37 t).toNat → soB B (A 37 t) (A 38 t) t s 502 v = B 502 v := ⟨(u2_k (by decide)).trans ((u2_k (by decide)).trans ((u2_k (by decide)).trans ((u2_k (by decide)).trans u2_s))), fun v h => (u2_k (by decide)).trans ((u2_k (by decide)).trans ((u2_k (by decide)).trans ((u2_k (by decide)).trans (u2_v h))))⟩
  have h501 : soB B (A 37 t) (A 38 t) t s 501 (120 + (A 37 t).toNat) = s ∧ ∀ v, v ≠ 120 + (A 37 t).toNat → soB B (A 37 t) (A 38 t) t s 501 v = B 501 v := ⟨(u2_k (by decide)).trans ((u2_k (by decide)).trans ((u2_k (by decide)).trans u2_s)), fun v h => (u2_k (by decide)).trans ((u2_k (by decide)).trans ((u2_k (by decide)).trans ((u2_v h).trans (u2_k (by decide)))))⟩
  have h401 : soB B (A 37 t) (A 38 t) t s 401 (130 + (A 38 t).toNat) = -1 ∧ ∀ v, v ≠ 130 + (A 38 t).toNat → soB B (A 37 t) (A 38 t) t s 401 v = B 401 v := ⟨(u2_k (by decide)).trans ((u2_k (by decide)).trans u2_s), fun v h => (u2_k (by decide)).trans ((u2_k (by decide)).trans ((u2_v h).trans ((u2_k (by decide)).trans (u2_k (by decide)))))⟩
  have h400 : soB B (A 37 t) (A 38 t) t s 400 (130 + (A 38 t).toNat) = s ∧ ∀ v, v ≠ 130 + (A 38 t).toNat → soB B (A 37 t) (A 38 t) t s 400 v = B 400 v := ⟨(u2_k (by decide)).trans u2_s, fun v h => (u2_k (by decide)).trans ((u2_v h).trans ((u2_k (by decide)).trans ((u2_k (by decide)).trans (u2_k (by decide)))))⟩
  have h801 : soB B (A 37 t) (A 38 t) t s 801 (40 + t.toNat) = -1 := u2_s
  have hA : ∀ a j, (a ≠ 36 ∧ a ≠ 22 ∧ a ≠ 21 ∧ a ≠ 25 ∧ a ≠ 24) → enA A t s a j = A a j := fun a j h => (ui_k (by omega)).trans ((ui_k (by omega)).trans ((ui_k (by omega)).trans ((ui_k (by omega)).trans (ui_k (by omega)))))
  have a36 : enA A t s 36 t = 0 ∧ ∀ j, j ≠ t → enA A t s 36 j = A 36 j := ⟨(ui_k (by decide)).trans ((ui_k (by decide)).trans ((ui_k (by decide)).trans ((ui_k (by decide)).trans ui_s))), fun j h => (ui_k (by decide)).trans ((ui_k (by decide)).trans ((ui_k (by decide)).trans ((ui_k (by decide)).trans (ui_j h))))⟩
  have a22 : enA A t s 22 (A 37 t) = -1 ∧ ∀ j, j ≠ A 37 t → enA A t s 22 j = A 22 j := ⟨(ui_k (by decide)).trans ((ui_k (by decide)).trans ((ui_k (by decide)).trans ui_s)), fun j h => (ui_k (by decide)).trans ((ui_k (by decide)).trans ((ui_k (by decide)).trans ((ui_j h).trans (ui_k (by decide)))))⟩
  have a21 : enA A t s 21 (A 37 t) = s ∧ ∀ j, j ≠ A 37 t → enA A t s 21 j = A 21 j := ⟨(ui_k (by decide)).trans ((ui_k (by decide)).trans ui_s), fun j h => (ui_k (by decide)).trans ((ui_k (by decide)).trans ((ui_j h).trans ((ui_k (by decide)).trans (ui_k (by decide)))))⟩
  have a25 : enA A t s 25 (A 38 t) = -1 ∧ ∀ j, j ≠ A 38 t → enA A t s 25 j = A 25 j := ⟨(ui_k (by decide)).trans ui_s, fun j h => (ui_k (by decide)).trans ((ui_j h).trans ((ui_k (by decide)).trans ((ui_k (by decide)).trans (ui_k (by decide)))))⟩
  have a24 : enA A t s 24 (A 38 t) = s ∧ ∀ j, j ≠ A 38 t → enA A t s 24 j = A 24 j := ⟨ui_s, fun j h => (ui_j h).trans ((ui_k (by decide)).trans ((ui_k (by decide)).trans ((ui_k (by decide)).trans (ui_k (by decide)))))⟩
  generalize soB B (A 37 t) (A 38 t) t s = B' at *
  generalize enA A t s = A' at *
  have a19 : A' 19 0 = A 19 0 := hA 19 0 (by omega)
  have a23 : A' 23 0 = A 23 0 := hA 23 0 (by omega)
  have a29 : A' 29 0 = A 29 0 := hA 29 0 (by omega)
  refine ⟨gG.fr (fun k v h => hB k v (by omega)) (fun a j h => hA a j (by omega)), gS.fr (fun k v h => hB k v (by omega)) (fun a j h => hA a j (by omega)), gB.fr (fun k v h => hB k v (by omega)) (fun a j h => hA a j (by omega)), g0.fr (fun a j h => hA a j (by omega)), gH.fr (fun k v h => hB k v (by omega)) (fun a j h => hA a j (by omega)), ?_, ?_, gN.fr (fun k v h => hB k v (by omega)) (fun a j h => hA a j (by omega)), gK.fr (fun k v h => hB k v (by omega)) (fun a j h => hA a j (by omega)), gL.fr (fun k v h => hB k v (by omega)) (fun a j h => hA a j (by omega)), gR.fr (fun _ => rfl) (fun _ => rfl) (fun a j h => hA a j (by omega)), gD.fr (fun k v h => hB k v (by omega)) (fun _ _ => rfl) (fun a j h => hA a j (by omega)), gY.fr (fun k v h => hB k v (by omega)) (fun _ _ => rfl) (fun a j h => hA a j (by omega)), ?_, ?_, RepPx.fz gP (fun v _ => hB 601 v (by omega)) (fun _ _ => rfl) (fun _ _ _ => rfl) (fun a j h => hA a j (by omega)), ?_, ?_, ?_⟩
  · -- engines
    unfold RepE
    rw [a19]
    refine ⟨⟨n1, (hB 2 9 (by omega)).trans n2, n3⟩, n4.fr' (fun v => hB 500 v (by omega)) (fun j => hA 20 j (by omega)), n5.put y5 h501 a21, n6.put y5 h502 a22, fun j j0 j1 => ?_⟩
    obtain ⟨w1, w2, w3, w4, w5, w6⟩ := n7 j j0 j1
    rw [hA 20 j (by omega)]
    refine ⟨w1, w2, ?_⟩
    by_cases ej : j = A 37 t
    · rw [ej, a22.1, a21.1]; omega
    · rw [a22.2 j ej, a21.2 j ej]; exact ⟨w3, w4, w5, w6⟩
  · -- crews
    unfold RepC
    rw [a23]
    refine ⟨⟨c1, (hB 2 10 (by omega)).trans c2, c3⟩, c4.put y9 h400 a24, c5.put y9 h401 a25, c6.fr' (fun v => hB 403 v (by omega)) (fun j => hA 26 j (by omega)), c7.fr' (fun v => hB 404 v (by omega)) (fun j => hA 27 j (by omega)), fun j j0 j1 => ?_, fun j j0 j1 => by rw [hA 26 j (by omega), hA 27 j (by omega)]; exact c8z j j0 j1⟩
    obtain ⟨w1, w2, w3, w4, w5⟩ := c8 j j0 j1
    rw [hA 26 j (by omega), hA 27 j (by omega)]
    by_cases ej : j = A 38 t
    · rw [ej, a25.1, a24.1]
      rw [ej] at w5
      exact ⟨hs.1, hs.2, by decide, by decide, w5⟩
    · rw [a25.2 j ej, a24.2 j ej]; exact ⟨w1, w2, w3, w4, w5⟩
  · -- cars of trains
    refine RepU.mk' fun q => ?_
    by_cases eq : q = t
    · subst eq
      intro _ _
      exact ⟨(gU q t0 t1).1, fun w => absurd (a36.1.symm.trans w) (by decide)⟩
    · intro q0 q1
      exact (gU.uu q).fr rfl (a36.2 q eq) (fun _ => hB 601 _ (by omega)) (fun _ _ => rfl) (fun _ => hA 44 q (by omega)) (fun _ p _ _ => hA 43 _ (by omega)) (Int.le_of_eq a29.symm) (fun k _ _ _ => hA 32 k (by omega)) q0 q1
  · -- where each car is
    intro k k0 k1 nX
    rw [a29] at k1
    obtain ⟨w1, w2⟩ := gW0 k k0 k1
    rw [hA 32 k (by omega), hA 31 k (by omega), hA 35 _ (by omega), hA 44 _ (by omega)]
    refine ⟨fun n => ?_, fun n => ?_⟩
    · obtain ⟨p, p0, p1, p2⟩ := w1 n
      exact ⟨p, p0, p1, (hA 34 _ (by omega)).trans p2⟩
    · obtain ⟨w3, p, p0, p1, p2⟩ := w2 n
      have nt : A 32 k ≠ t := fun w => nX ⟨p, p0, by rw [w] at p1; exact p1, by rw [w] at p2; exact p2⟩
      exact ⟨(a36.2 _ nt).trans w3, p, p0, p1, (hA 43 _ (by omega)).trans p2⟩
  · -- trains
    refine RepT.mk' fun q => ?_
    by_cases eq : q = t
    · subst eq
      intro _ _
      exact ⟨(hB 800 _ (by omega)).trans u_1, u_2, Or.inl a36.1, fun _ => h801, fun w => absurd (a36.1.symm.trans w) (by decide)⟩
    · intro q0 q1
      exact TrB.fr (gT.tr q) (fun k' hk' => hBt k' _ (by omega)) (hB 601 _ (by omega)) rfl (fun _ => rfl) (fun _ => rfl) (fun a h => by
        by_cases e36 : a = 36
        · rw [e36]; exact a36.2 q eq
        · exact hA a q (by omega)) (hA 1 0 (by omega)) ⟨Int.le_of_eq (hA 6 0 (by omega)).symm, Int.le_of_eq a19.symm, Int.le_of_eq a23.symm⟩ (fun _ _ _ e => ⟨hA 20 _ (by omega), a22.2 _ (fun w => by rw [w, y7] at e; exact eq e.symm)⟩) (fun _ _ _ e => a25.2 _ (fun w => by rw [w, y11] at e; exact eq e.symm)) (fun _ => wgt_fr (fun j => hA 33 j (by omega)) (fun j => hA 43 j (by omega)) q _) (fun p _ _ => hA 45 _ (by omega)) (fun b _ _ => ⟨hA 7 _ (by omega), hA 7 _ (by omega)⟩) (fun _ b _ _ => ⟨by rw [hA 6 0 (by omega), hA 17 b (by omega)], fun _ _ => hA 18 b (by omega)⟩) (by have := gB.1; omega) q0 q1
  · -- who is held by whom
    refine ⟨fun j j0 j1 w => ?_, fun j j0 j1 w => ?_, fun j j0 j1 w => ?_⟩
    · rw [a19] at j1
      by_cases ej : j = A 37 t
      · rw [ej, a22.1] at w
        exact absurd rfl w
      · rw [a22.2 j ej] at w ⊢
        obtain ⟨v1, v2⟩ := x1 j j0 j1 w
        have nt : A 22 j ≠ t := fun w2 => by rw [w2] at v2; exact ej v2.symm
        rw [a36.2 _ nt, hA 37 _ (by omega)]
        exact ⟨v1, v2⟩
    · rw [a23] at j1
      by_cases ej : j = A 38 t
      · rw [ej, a25.1] at w
        exact absurd rfl w
      · rw [a25.2 j ej] at w ⊢
        obtain ⟨v1, v2⟩ := x2 j j0 j1 w
        have nt : A 25 j ≠ t := fun w2 => by rw [w2] at v2; exact ej v2.symm
        rw [a36.2 _ nt, hA 38 _ (by omega)]
        exact ⟨v1, v2⟩
    · rw [hA 6 0 (by omega)] at j1
      rw [hA 17 j (by omega)] at w ⊢
      obtain ⟨v1, v2⟩ := x3 j j0 j1 w
      have nt : A 17 j ≠ t := fun w2 => by rw [w2] at v2; exact v2 h39
      rw [a36.2 _ nt, hA 39 _ (by omega)]
      exact ⟨v1, v2⟩
  · -- how many
    have zz : RepZx 0 A := gZ
    unfold RepZx at zz ⊢
    have hz : ∀ q : Int, q ≠ t → tz A' q = tz A q := fun q nq => by
      unfold tz
      rw [hA 44 q (by omega), a36.2 q nq]
    have hzt : tz A' t = 0 := by
      unfold tz
      rw [a36.1, if_neg (by decide)]
    have hzt2 : tz A t = A 44 t := by
      unfold tz
      rw [if_pos h36]
    rw [a29, hA 35 0 (by omega), hA 35 1 (by omega), hA 35 2 (by omega), hA 35 3 (by omega), hA 35 4 (by omega), hA 35 5 (by omega), hA 35 6 (by omega), hA 35 7 (by omega)]
    have g0 := hz 0
    have g1 := hz 1
    have g2 := hz 2
    have g3 := hz 3
    have g4 := hz 4
    have g5 := hz 5
    have ss : t = 0 ∨ t = 1 ∨ t = 2 ∨ t = 3 ∨ t = 4 ∨ t = 5 := by omega
    clear hA hB hBt h502 h501 h401 h400 a36 a22 a21 a25 a24
    rcases ss with e | e | e | e | e | e <;> rw [e] at hzt hzt2 g0 g1 g2 g3 g4 g5 ⊢ <;> omega
end Clr
