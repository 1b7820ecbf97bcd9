/-! sort: the class's side -/
section Srts2
variable {c LN : Nat → Nat} {B B' : Fl} {E E' : El} {A A' : Il}
theorem ast_0 {s : Int} {N : Nat} : ast A (srg A s N 0) = A := by
  funext a j
  show (if a = 64 then A 64 j else A a j) = A a j
  by_cases e : a = 64
  · rw [if_pos e, e]
  · rw [if_neg e]
/-- the class's row for sorting is q -/
def Isq (LN : Nat → Nat) (B : Fl) (E E1 : El) (q : Srt) : Prop := (∀ a, a ≠ .inr 7 → ∀ j, E1 a j = E a j) ∧ ∀ j : Int, 0 ≤ j → j < (q.1 : Int) → E1 (.inr 7) j = q.2 j
theorem q_sort_in {s g : Int} {N : Nat} {p : Srt} {Q : (Nat → Nat) → Fl → El → Prop} {QX : String → (Nat → Nat) → Fl → El → Prop} (hK : RepK c B A) (hL : RepL c B A) (hs : 0 ≤ s ∧ s < 8) (hy : rowR LN B E (30 + s.toNat) (N : Int) (fun k => A 34 (20 * s + k))) (hl7 : LN 7 = 20) (hN2 : N ≤ 20) (hc : ∀ k : Int, 0 ≤ k → k < (N : Int) → 0 ≤ fy A s k ∧ fy A s k < A 29 0) (hp : p.1 + ceq A s g N ≤ 20) (h : ∀ E1 : El, Isq LN B E E1 (srk A s g p N) → Q LN (u2 B 601 7 ((srk A s g p N).1 : Int)) E1) : ∀ (k n : Nat) (E1 : El), n + k = N → Isq LN B E E1 (srk A s g p n) → W_X8_appendByGoal_2 c (k + 1) 0 (30 + s.toNat) g (n : Int) LN (u2 B 601 7 ((srk A s g p n).1 : Int)) E1 Q QX
  | 0, n, E1, e, hE => by
    have e' : n = N := by omega
    subst e'
    refine ⟨kdyd (by omega) (by omega), br_T ?_ (h E1 hE)⟩
    rw [u2_v (by omega), hy.1]
    exact Int.le_refl _
  | k + 1, n, E1, e, hE => by
    have ih := q_sort_in (QX := QX) hK hL hs hy hl7 hN2 hc hp h k (n + 1)
    have hkv := kdyd (c := c) (v := 30 + s.toNat) (by omega) (by omega)
    have rr : rowR LN (u2 B 601 7 ((srk A s g p n).1 : Int)) E1 (30 + s.toNat) (N : Int) (fun k => A 34 (20 * s + k)) := ⟨(u2_v (by omega)).trans hy.1, hy.2.1, hy.2.2.1, fun j j0 j1 => (hE.1 _ (by intro w; injection w with w; omega) j).trans (hy.2.2.2 j j0 j1)⟩
    have hK2 : RepK c (u2 B 601 7 ((srk A s g p n).1 : Int)) A := hK.fr (fun _ _ h => u2_k (by omega)) (fun _ _ _ => rfl)
    have hL2 : RepL c (u2 B 601 7 ((srk A s g p n).1 : Int)) A := hL.fr (fun _ _ h => u2_k (by omega)) (fun _ _ _ => rfl)
    have w1 := hc (n : Int) (by omega) (by omega)
    refine ⟨hkv, br_F (by rw [rr.1]; omega) (q_at hkv rr ?_)⟩
    rw [if_pos (by omega)]
    refine ⟨rfl, q_goal hK2 hL2 w1 ⟨fun c1 => ?_, fun c1 => ⟨rfl, ?_⟩⟩⟩
    · have c1 : ¬ gl A (fy A s (n : Int)) = g := c1
      show W_X8_appendByGoal_2 c (k + 1) 0 (30 + s.toNat) g (w32 ((n : Int) + 1)) LN (u2 B 601 7 ((srk A s g p n).1 : Int)) E1 Q QX
      rw [w32_up (by omega)]
      rw [srk_F c1] at ih
      exact ih E1 (by omega) hE
    · have c1 : gl A (fy A s (n : Int)) = g := c1
      have s1 := srk_1 (A := A) (s := s) (g := g) (p := p) n
      have m1 := ceq_mono (A := A) (s := s) (g := g) (n + 1) (N - (n + 1))
      rw [show n + 1 + (N - (n + 1)) = N by omega] at m1
      have m2 : ceq A s g (n + 1) = ceq A s g n + 1 := by
        show ceq A s g n + _ = _
        rw [if_pos c1]
      rw [srk_T c1] at ih
      refine q_app (n := ((srk A s g p n).1 : Int)) rfl u2_s (by omega) (by omega) (fun E2 i1 i2 i3 => ?_)
      show W_X8_appendByGoal_2 c (k + 1) 0 (30 + s.toNat) g (w32 ((n : Int) + 1)) LN (u2 (u2 B 601 7 ((srk A s g p n).1 : Int)) 601 7 (((srk A s g p n).1 : Int) + 1)) E2 Q QX
      rw [w32_up (by omega), u2_u2]
      refine ih E2 (by omega) ⟨fun a ha j => (i1 a ha j).trans (hE.1 a ha j), fun j j0 j1 => ?_⟩
      have j1 : j < (((srk A s g p n).1 + 1 : Nat) : Int) := j1
      show E2 (.inr 7) j = if j = ((srk A s g p n).1 : Int) then fy A s (n : Int) else (srk A s g p n).2 j
      by_cases ej : j = ((srk A s g p n).1 : Int)
      · rw [if_pos ej, ej]
        exact i3
      · rw [if_neg ej, i2 j j0 (by omega)]
        exact hE.2 j j0 (by omega)
theorem q_sort_out {s : Int} {N : Nat} {Q : Int → (Nat → Nat) → Fl → El → Prop} {QX : String → (Nat → Nat) → Fl → El → Prop} (hK : RepK c B A) (hL : RepL c B A) (hs : 0 ≤ s ∧ s < 8) (hy : rowR LN B E (30 + s.toNat) (N : Int) (fun k => A 34 (20 * s + k))) (hl7 : LN 7 = 20) (hN2 : N ≤ 20) (hc : ∀ k : Int, 0 ≤ k → k < (N : Int) → 0 ≤ fy A s k ∧ fy A s k < A 29 0) (h0 : ∀ k : Nat, k < N → 0 ≤ gl A (fy A s (k : Int))) (h : ∀ E1 : El, Isq LN B E E1 (srg A s N 8) → ∃ n9, W_X8_sort_41 c n9 0 (30 + s.toNat) 0 0 LN (u2 B 601 7 ((srg A s N 8).1 : Int)) E1 Q QX) : ∀ (k g : Nat) (E1 : El), g + k = 8 → Isq LN B E E1 (srg A s N g) → W_X8_sort_18 c (k + 1) 0 (30 + s.toNat) (g : Int) LN (u2 B 601 7 ((srg A s N g).1 : Int)) E1 Q QX
  | 0, g, E1, e, hE => by
    have e' : g = 8 := by omega
    subst e'
    exact br_T (by decide) (h E1 hE)
  | k + 1, g, E1, e, hE => by
    have ih := q_sort_out hK hL hs hy hl7 hN2 hc h0 h k (g + 1)
    have c1 := srg_1 h0 (g + 1)
    have c2 : (srg A s N (g + 1)).1 = (srg A s N g).1 + ceq A s (g : Int) N := srk_1 (A := A) (s := s) (g := (g : Int)) (p := srg A s N g) N
    have c3 := clt_le (A := A) (s := s) (g := ((g + 1 : Nat) : Int)) N
    refine br_F (by omega) ⟨rfl, N + 1, q_sort_in (p := srg A s N g) hK hL hs hy hl7 hN2 hc (by omega) (fun E2 hE2 => ?_) N 0 E1 (Nat.zero_add _) hE⟩
    show W_X8_sort_18 c (k + 1) 0 (30 + s.toNat) (w32 ((g : Int) + 1)) LN (u2 B 601 7 ((srg A s N (g + 1)).1 : Int)) E2 Q QX
    rw [w32_up (by omega)]
    exact ih E2 (by omega) hE2
theorem q_sort_cmp {s : Int} {N : Nat} {q : Srt} {Q : Int → (Nat → Nat) → Fl → El → Prop} {QX : String → (Nat → Nat) → Fl → El → Prop} (hs : 0 ≤ s ∧ s < 8) (hy : rowR LN B E (30 + s.toNat) (N : Int) (fun k => A 34 (20 * s + k))) (h7 : rowR LN B E 7 (N : Int) q.2) (hN2 : N ≤ 20) (h : W_X5_copy c (30 + s.toNat) 7 LN B E (fun LN4 B8 E9 => Q (cg A s q.2 N) LN4 B8 E9)) : ∀ k n : Nat, n + k = N → W_X8_sort_41 c (k + 1) 0 (30 + s.toNat) (cg A s q.2 n) (n : Int) LN B E Q QX
  | 0, n, e => by
    have e' : n = N := by omega
    subst e'
    exact ⟨kdyd (by omega) (by omega), br_T (by rw [hy.1]; exact Int.le_refl _) ⟨rfl, h⟩⟩
  | k + 1, n, e => by
    have ih : W_X8_sort_41 c (k + 1) 0 (30 + s.toNat) (cg A s q.2 (n + 1)) ((n + 1 : Nat) : Int) LN B E Q QX := q_sort_cmp hs hy h7 hN2 h k (n + 1) (by omega)
    have cr := cg_rg (A := A) (s := s) (R := q.2) n
    have hkv := kdyd (c := c) (v := 30 + s.toNat) (by omega) (by omega)
    refine ⟨hkv, br_F (by rw [hy.1]; omega) (q_at hkv hy ?_)⟩
    rw [if_pos (by omega)]
    refine ⟨rfl, rfl, q_at rfl h7 ?_⟩
    rw [if_pos (by omega)]
    refine ⟨fun c1 => ?_, fun c1 => ?_⟩
    · have e0 : cg A s q.2 (n + 1) = cg A s q.2 n := by
        show cg A s q.2 n + (if q.2 (n : Int) = fy A s (n : Int) then 0 else 1) = _
        rw [if_pos (show q.2 (n : Int) = fy A s (n : Int) from c1.symm), Int.add_zero]
      show W_X8_sort_41 c (k + 1) 0 (30 + s.toNat) (cg A s q.2 n) (w32 ((n : Int) + 1)) LN B E Q QX
      rw [w32_up (by omega), ← e0]
      exact ih
    · have e0 : cg A s q.2 (n + 1) = cg A s q.2 n + 1 := by
        show cg A s q.2 n + (if q.2 (n : Int) = fy A s (n : Int) then 0 else 1) = _
        rw [if_neg (fun w => c1 (show A 34 (20 * s + (n : Int)) = q.2 (n : Int) from w.symm))]
      show W_X8_sort_41 c (k + 1) 0 (30 + s.toNat) (w32 (cg A s q.2 n + 1)) (w32 ((n : Int) + 1)) LN B E Q QX
      rw [w32_up (by omega), w32_id (z := cg A s q.2 n + 1) (by unfold rg; omega), ← e0]
      exact ih
set_option maxHeartbeats 2000000 in
theorem sort_rep {s : Int} {N : Nat} {q : Srt} (hR : Rep c LN B E A) (hs : 0 ≤ s ∧ s < 8) (hN : A 35 s = (N : Int)) (hq : q.1 = N) (hI : Inr A s N q (fun _ => True))
  (hB : ∀ k v, k ≠ 601 → B' k v = B k v) (h601 : B' 601 7 = (N : Int) ∧ B' 601 (30 + s.toNat) = (N : Int) ∧ ∀ v, (v ≠ 7 ∧ v ≠ 30 + s.toNat) → B' 601 v = B 601 v)
  (hE : ∀ v, (v ≠ 7 ∧ v ≠ 30 + s.toNat) → ∀ j, E' (.inr v) j = E (.inr v) j) (hI2 : ∀ v j, E' (.inl v) j = E (.inl v) j) (hE1 : ∀ j : Int, 0 ≤ j → j < (N : Int) → E' (.inr (30 + s.toNat)) j = q.2 j) : Rep c LN B' E' (yst A s q (N : Int)) := by
  obtain ⟨gG, gS, gB, g0, gH, gE, gC, gN, gK, gL, gR, gD, gY, gU, gW, gP, gT, gX, gZ⟩ := id hR
  obtain ⟨d1, d2, d3, d4, d5⟩ := id gD
  obtain ⟨yy1, yy2, yy3, yy4⟩ := gY s hs.1 hs.2
  obtain ⟨j1, j2, j3⟩ := hI
  rw [hq] at j1 j2 j3
  have hA : ∀ a j, (a ≠ 34 ∧ a ≠ 64) → yst A s q (N : Int) a j = A a j := fun a j h => (yst_k h.1).trans (ast_k h.2)
  have h34 : ∀ j : Int, 0 ≤ j → j < (N : Int) → yst A s q (N : Int) 34 (20 * s + j) = q.2 j := fun j j0 j1 => by
    refine (if_pos ⟨rfl, by omega, by omega⟩).trans ?_
    rw [show 20 * s + j - 20 * s = j by omega]
  have o34 : ∀ j : Int, (j < 20 * s ∨ 20 * s + (N : Int) ≤ j) → yst A s q (N : Int) 34 j = A 34 j := fun j h => if_neg (fun w => by omega)
  generalize yst A s q (N : Int) = A' at *
  have N20 : (N : Int) ≤ 20 := by omega
  refine ⟨gG.fr (fun k v h => hB k v (by omega)) (fun a j h => hA a j (by omega)), gS.fr (fun k v h => hB k v (by omega)) (fun a j h => hA a j (by omega)), gB.fr (fun k v h => hB k v (by omega)) (fun a j h => hA a j (by omega)), g0.fr (fun a j h => hA a j (by omega)), gH.fr (fun k v h => hB k v (by omega)) (fun a j h => hA a j (by omega)), gE.fr (fun k v h => hB k v (by omega)) (fun a j h => hA a j (by omega)), gC.fr (fun k v h => hB k v (by omega)) (fun a j h => hA a j (by omega)), gN.fr (fun k v h => hB k v (by omega)) (fun a j h => hA a j (by omega)), gK.fr (fun k v h => hB k v (by omega)) (fun a j h => hA a j (by omega)), gL.fr (fun k v h => hB k v (by omega)) (fun a j h => hA a j (by omega)), gR.fr (fun j => hI2 3 j) (fun j => hI2 4 j) (fun a j h => hA a j (by omega)), ?_, ?_, gU.fz (fun v _ _ => h601.2.2 v (by omega)) (fun _ _ _ => rfl) (fun v _ _ => hE v (by omega)) (fun a j h => hA a j (by omega)), ?_, gP.fz (fun v _ => h601.2.2 v (by omega)) (fun _ _ => rfl) (fun v _ => hE v (by omega)) (fun a j h => hA a j (by omega)), ?_, gX.fr (fun a j h => hA a j (by omega)), gZ.fr (fun a j h => hA a j (by omega))⟩
  · -- the row for sorting
    exact ⟨d1, d2, ⟨(h601.2.2 6 (by omega)).trans (d3.1.trans (hA 52 0 (by omega)).symm), by rw [hA 52 0 (by omega)]; exact d3.2.1, by rw [hA 52 0 (by omega)]; exact d3.2.2.1, fun p p0 p1 => (hE 6 (by omega) p).trans ((d3.2.2.2 p p0 (by rw [hA 52 0 (by omega)] at p1; exact p1)).trans (hA 53 p (by omega)).symm)⟩, fun p p0 p1 => by
      rw [hA 52 0 (by omega)] at p1
      rw [hA 53 p (by omega), hA 6 0 (by omega)]
      exact d4 p p0 p1, by rw [h601.1]; omega, by rw [h601.1]; omega⟩
  · -- yards
    refine RepY.mk' fun t t0 t1 => ?_
    by_cases et : t = s
    · subst et
      rw [hA 35 t (by omega), hN, hA 29 0 (by omega)]
      rw [hN] at yy1 yy4
      refine ⟨⟨h601.2.1, by omega, yy1.2.2.1, fun j j0 k1 => (hE1 j j0 k1).trans (h34 j j0 k1).symm⟩, N20, yy3, fun j j0 k1 => ?_⟩
      rw [h34 j j0 k1]
      obtain ⟨k, k0, kN, -, k3⟩ := j1 j j0 k1
      obtain ⟨w1, w2, w3, w4, w5⟩ := yy4 k k0 kN
      rw [k3, hA 32 _ (by omega), hA 31 _ (by omega)]
      refine ⟨w1, w2, w3, w4, fun i i0 i1 e => ?_⟩
      rw [h34 i i0 i1, ← k3] at e
      exact j3 i j i0 i1 j0 k1 e
    · have nv : 30 + t.toNat ≠ 7 ∧ 30 + t.toNat ≠ 30 + s.toNat := by omega
      have y2 := (gY t t0 t1).2.1
      exact (gY.yy t).fr rfl (h601.2.2 _ nv) (hE _ nv) (hA 35 t (by omega)) (fun j j0 j1 => o34 _ (by omega)) (Int.le_of_eq (hA 29 0 (by omega)).symm) (fun k _ _ _ _ => ⟨hA 32 k (by omega), hA 31 k (by omega)⟩) t0 t1
  · -- where each car is
    intro k k0 k1
    rw [hA 29 0 (by omega)] at k1
    obtain ⟨w1, w2⟩ := gW k k0 k1
    rw [hA 32 k (by omega), hA 31 k (by omega), hA 35 _ (by omega), hA 36 _ (by omega), hA 44 _ (by omega)]
    refine ⟨fun n => ?_, fun n => ?_⟩
    · obtain ⟨p, p0, p1, p2⟩ := w1 n
      by_cases es : A 31 k = s
      · rw [es, hN] at p1 ⊢
        rw [es] at p2
        obtain ⟨i, i0, i1, i2⟩ := j2 p p0 p1 trivial
        exact ⟨i, i0, i1, (h34 i i0 i1).trans (i2.trans p2)⟩
      · obtain ⟨v1, v2, v3, v4, v5⟩ := gK.2.2.2.2.2 k k0 k1
        have y2 := (gY _ v3 v4).2.1
        exact ⟨p, p0, p1, (o34 _ (by omega)).trans p2⟩
    · obtain ⟨w3, p, p0, p1, p2⟩ := w2 n
      exact ⟨w3, p, p0, p1, (hA 43 _ (by omega)).trans p2⟩
  · exact RepT.mk' fun t t0 t1 => TrB.fr (gT.tr t) (fun k h => hB k _ (by omega)) (h601.2.2 _ (by omega)) rfl (hE _ (by omega)) (hI2 _) (fun a h => hA a t (by omega)) (hA 1 0 (by omega)) ⟨Int.le_of_eq (hA 6 0 (by omega)).symm, Int.le_of_eq (hA 19 0 (by omega)).symm, Int.le_of_eq (hA 23 0 (by omega)).symm⟩ (fun _ _ _ _ => ⟨hA 20 _ (by omega), hA 22 _ (by omega)⟩) (fun _ _ _ _ => hA 25 _ (by omega)) (fun _ => wgt_fr (fun j => hA 33 j (by omega)) (fun j => hA 43 j (by omega)) t _) (fun p _ _ => hA 45 _ (by omega)) (fun b _ _ => ⟨hA 7 _ (by omega), hA 7 _ (by omega)⟩) (fun _ b _ _ => ⟨by rw [hA 6 0 (by omega), hA 17 b (by omega)], fun _ _ => hA 18 b (by omega)⟩) (by have := gB.1; omega) t0 t1
theorem sim_sort {a0 : Int} (hR : Rep c LN B E A) (hp : pz A ≤ 1022) (hr0 : rg a0) : ∃ (ans : Int) (A' : Il), (∀ Q, Q ans A' → W_X9_sort a0 A Q) ∧ pz A' ≤ pz A + 2 ∧ W_X8_sort c  0 a0 LN B E (fun z LN' B' E' => A' 0 0 = 0 ∧ z = ans ∧ Rep c LN' B' E' A') (fun X9 LN' B' E' => ((X9 = "java/lang/IndexOutOfBoundsException" ∧ A' 0 0 = 1)) ∧ Rep c LN' B' E' A') := by
  by_cases hs : 0 ≤ a0 ∧ a0 < 8
  · have hR0 : Rep c LN B E (sc A 0 0) := hR.thr
    obtain ⟨gG, gS, gB, g0, gH, gE, gC, gN, gK, gL, gR, gD, gY, gU, gW, gP, gT, gX, gZ⟩ := id hR0
    obtain ⟨yy1, yy2, yy3, yy4⟩ := gY a0 hs.1 hs.2
    obtain ⟨N, hN⟩ := Int.eq_ofNat_of_zero_le yy1.2.1
    have N20 : N ≤ 20 := by omega
    have k20 : sc A 0 0 29 0 ≤ 20 := by have := gK.1; omega
    have inj : ∀ i j : Int, 0 ≤ i → i < (N : Int) → 0 ≤ j → j < (N : Int) → fy (sc A 0 0) a0 i = fy (sc A 0 0) a0 j → i = j := fun i j i0 i1 j0 j1 e => (yy4 j j0 (by omega)).2.2.2.2 i i0 (by omega) e
    have hc2 : ∀ k : Int, 0 ≤ k → k < (N : Int) → 0 ≤ fy (sc A 0 0) a0 k ∧ fy (sc A 0 0) a0 k < sc A 0 0 29 0 := fun k k0 k1 => ⟨(yy4 k k0 (by omega)).1, (yy4 k k0 (by omega)).2.1⟩
    have hc : ∀ k : Int, 0 ≤ k → k < (N : Int) → (0 ≤ fy (sc A 0 0) a0 k ∧ fy (sc A 0 0) a0 k < 20) ∧ (sc A 0 0 33 (fy (sc A 0 0) a0 k) = -1 ∨ (0 ≤ sc A 0 0 33 (fy (sc A 0 0) a0 k) ∧ sc A 0 0 33 (fy (sc A 0 0) a0 k) < 40)) := fun k k0 k1 => by
      have w := hc2 k k0 k1
      have w8 := gK.2.2.2.2.2 _ w.1 w.2
      have l40 := gL.1
      omega
    have hg : ∀ k : Int, 0 ≤ k → k < (N : Int) → 0 ≤ gl (sc A 0 0) (fy (sc A 0 0) a0 k) ∧ gl (sc A 0 0) (fy (sc A 0 0) a0 k) < 8 := fun k k0 k1 => gl_rg gK gL (hc2 k k0 k1)
    have h0 : ∀ k : Nat, k < N → 0 ≤ gl (sc A 0 0) (fy (sc A 0 0) a0 (k : Int)) := fun k hk => (hg (k : Int) (by omega) (by omega)).1
    have q1 : (srg (sc A 0 0) a0 N 8).1 = N := (srg_1 h0 8).trans (clt_8 N (fun k hk => (hg (k : Int) (by omega) (by omega)).2))
    have qI : Inr (sc A 0 0) a0 N (srg (sc A 0 0) a0 N 8) (fun _ => True) := (srg_I inj (fun k k0 k1 => (hg k k0 k1).1) 8).p (fun k k0 k1 => ⟨fun _ => (hg k k0 k1).2, fun _ => trivial⟩)
    have yy1' := yy1
    rw [hN] at yy1'
    refine ⟨cg (sc A 0 0) a0 (srg (sc A 0 0) a0 N 8).2 N, yst (sc A 0 0) a0 (srg (sc A 0 0) a0 N 8) (N : Int), fun Q hQ => m_isStation1 hs (br_F (by decide) ?_), ?_, rfl, q_stationOf1 hs ⟨kdst (by omega) (by omega), rfl, rfl, 9, ?_⟩⟩
    · unfold W_X9_sort_13
      refine br_T le0 ⟨9, ?_⟩
      have w := m_sort_out (A := sc A 0 0) (Q := Q) hs hN N20 hc h0 ⟨N + 1, ?_⟩ 8 0 rfl
      · rw [ast_0] at w
        exact w
      · have w2 := m_sort_cmp (A := sc A 0 0) (Q := Q) hs hN N20 hQ N 0 (Nat.zero_add _)
        rw [show ((0 : Nat) : Int) = 0 from rfl, yst_0] at w2
        exact w2
    · exact pz_fr ((yst_k (by decide)).trans (ast_k (by decide))) (fun _ => (yst_k (by decide)).trans (ast_k (by decide))) (fun _ => (yst_k (by decide)).trans (ast_k (by decide)))
    · have e30 : 20 + a0.toNat + 10 = 30 + a0.toNat := by omega
      rw [e30]
      have w := q_sort_out (B := B) (E := E) (A := sc A 0 0) (N := N) (s := a0) (Q := fun z LN' B' E' => yst (sc A 0 0) a0 (srg (sc A 0 0) a0 N 8) (N : Int) 0 0 = 0 ∧ z = cg (sc A 0 0) a0 (srg (sc A 0 0) a0 N 8).2 N ∧ Rep c LN' B' E' (yst (sc A 0 0) a0 (srg (sc A 0 0) a0 N 8) (N : Int))) (QX := fun X9 LN' B' E' => ((X9 = "java/lang/IndexOutOfBoundsException" ∧ yst (sc A 0 0) a0 (srg (sc A 0 0) a0 N 8) (N : Int) 0 0 = 1)) ∧ Rep c LN' B' E' (yst (sc A 0 0) a0 (srg (sc A 0 0) a0 N 8) (N : Int))) gK gL hs yy1' gD.2.1 N20 hc2 h0 (fun E1 hE1 => ?_) 8 0 E rfl ⟨fun _ _ _ => rfl, fun j j0 j1 => by have j1 : j < ((0 : Nat) : Int) := j1; omega⟩
      · exact w
      · rw [q1]
        have hE2 := hE1.2
        rw [q1] at hE2
        have ry : rowR LN (u2 B 601 7 (N : Int)) E1 (30 + a0.toNat) (N : Int) (fun k => sc A 0 0 34 (20 * a0 + k)) := ⟨(u2_v (by omega)).trans yy1'.1, yy1'.2.1, yy1'.2.2.1, fun j j0 j1 => (hE1.1 _ (by intro w; injection w with w; omega) j).trans (yy1'.2.2.2 j j0 j1)⟩
        have r7 : rowR LN (u2 B 601 7 (N : Int)) E1 7 (N : Int) (srg (sc A 0 0) a0 N 8).2 := ⟨u2_s, by omega, by rw [gD.2.1]; omega, hE2⟩
        refine ⟨N + 1, q_sort_cmp (q := srg (sc A 0 0) a0 N 8) hs ry r7 N20 ?_ N 0 (Nat.zero_add _)⟩
        refine q_copy (n := (N : Int)) (f := (srg (sc A 0 0) a0 N 8).2) (kdyd (by omega) (by omega)) rfl (by omega) r7 yy1'.2.2.1 (by omega) (fun E2 i1 i2 => ⟨(yst_k (by decide)).trans ((ast_k (by decide)).trans rfl), rfl, ?_⟩)
        exact sort_rep hR0 hs hN q1 qI (fun k v h => (u2_k h).trans (u2_k h)) ⟨(u2_v (by omega)).trans u2_s, u2_s, fun v h => (u2_v h.2).trans (u2_v h.1)⟩ (fun v h j => (i1 _ (by intro w; injection w with w; exact h.2 w) j).trans (hE1.1 _ (by intro w; injection w with w; exact h.1 w) j)) (fun v j => (i1 _ (by intro w; cases w) j).trans (hE1.1 _ (by intro w; cases w) j)) i2
  · exact ⟨0, sc A 0 1, fun Q hQ => m_isStation0 hs (br_T rfl (by unfold W_X9_sort_13; exact br_F no1 hQ)), pz_thr, rfl, q_stationOf0 hs ⟨⟨rfl, rfl⟩, hR.thr⟩⟩
end Srts2
