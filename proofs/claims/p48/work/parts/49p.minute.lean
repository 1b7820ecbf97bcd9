/-! a minute -/
section Minute
variable {c LN LN' : Nat → Nat} {B B' : Fl} {E E' : El} {A A' : Il}
/-- one train; if it runs it arrives behind minute k -/
def TrC (k : Int) (LN : Nat → Nat) (B : Fl) (E : El) (A : Il) (t : Int) : Prop := 0 ≤ t → t < 6 → B 800 (40 + t.toNat) = t ∧ LN (60 + t.toNat) = 8 ∧ (A 36 t = 0 ∨ A 36 t = 1) ∧ (A 36 t = 0 → B 801 (40 + t.toNat) = -1) ∧
  (A 36 t = 1 → B 801 (40 + t.toNat) = A 39 t ∧ 0 ≤ A 39 t ∧ A 39 t ≤ 3 ∧
    B 802 (40 + t.toNat) = A 37 t ∧ 0 ≤ A 37 t ∧ A 37 t < A 19 0 ∧ A 22 (A 37 t) = t ∧
    B 803 (40 + t.toNat) = A 38 t ∧ 0 ≤ A 38 t ∧ A 38 t < A 23 0 ∧ A 25 (A 38 t) = t ∧
    B 804 (40 + t.toNat) = A 20 (A 37 t) ∧
    B 805 (40 + t.toNat) = (if A 39 t = 3 then -1 else A 40 t) ∧ 0 ≤ A 40 t ∧ A 40 t < 8 ∧
    B 806 (40 + t.toNat) = A 41 t ∧ (A 41 t = -1 ↔ A 39 t ≤ 1) ∧ -1 ≤ A 41 t ∧ A 41 t < A 6 0 ∧
    (A 39 t = 2 → B 807 (40 + t.toNat) = A 42 t ∧ k < A 42 t ∧ A 42 t ≤ 30000 ∧ A 17 (A 41 t) = t ∧ A 18 (A 41 t) = A 42 t + (1 + A 44 t / 4)) ∧
    B 808 (40 + t.toNat) = wgt A t (A 44 t).toNat ∧ 0 ≤ A 44 t ∧ A 44 t ≤ 10 ∧
    0 ≤ A 46 t ∧ A 46 t ≤ A 47 t ∧ A 47 t ≤ 8 ∧
    (A 39 t = 3 → B 601 (60 + t.toNat) = 0 ∧ B 811 (40 + t.toNat) = 0 ∧ A 46 t = A 47 t) ∧
    (A 39 t ≠ 3 → rowR LN B E (60 + t.toNat) (A 47 t) (fun p => A 45 (8 * t + p)) ∧ B 811 (40 + t.toNat) = A 46 t ∧ (∀ p : Int, 0 ≤ p → p < A 47 t → 0 ≤ A 45 (8 * t + p) ∧ A 45 (8 * t + p) < A 6 0) ∧ ∀ n : Nat, (n : Int) ≤ A 47 t - A 46 t → wend A t n (A 46 t) (A 40 t) ≠ -1) ∧
    (A 39 t = 0 → A 46 t = A 47 t) ∧ (A 39 t = 1 → A 46 t < A 47 t) ∧
    (Rn (A 39 t) → B 812 (40 + t.toNat) = A 48 t ∧ B 813 (40 + t.toNat) = A 49 t ∧ 0 ≤ A 49 t ∧ A 49 t ≤ 9) ∧
    B 814 (40 + t.toNat) = A 50 t ∧ -1 ≤ A 50 t ∧ A 50 t < 6 ∧ (A 50 t ≠ -1 → B 815 (40 + t.toNat) = A 51 t) ∧
    ∀ b : Int, 0 ≤ b → b < 16 → (if b < A 6 0 ∧ A 17 b = t ∧ ¬ (A 39 t = 2 ∧ A 41 t = b) then E (.inl (70 + t.toNat)) b = A 18 b else A 39 t ≠ 3 → E (.inl (70 + t.toNat)) b ≤ A 1 0))
set_option maxHeartbeats 2000000 in
/-- a train of which nothing changes -/
theorem TrC.fr {k : Int} {t : Int} (h : TrC k LN B E A t) (hB : ∀ q, (q = 800 ∨ q = 801 ∨ q = 802 ∨ q = 803 ∨ q = 804 ∨ q = 805 ∨ q = 806 ∨ q = 807 ∨ q = 808 ∨ q = 811 ∨ q = 812 ∨ q = 813 ∨ q = 814 ∨ q = 815) → B' q (40 + t.toNat) = B q (40 + t.toNat)) (h6 : B' 601 (60 + t.toNat) = B 601 (60 + t.toNat)) (hL : LN' (60 + t.toNat) = LN (60 + t.toNat)) (hE : ∀ j, E' (.inr (60 + t.toNat)) j = E (.inr (60 + t.toNat)) j) (hI : ∀ j, E' (.inl (70 + t.toNat)) j = E (.inl (70 + t.toNat)) j)
  (hA : ∀ a, (a = 36 ∨ a = 37 ∨ a = 38 ∨ a = 39 ∨ a = 40 ∨ a = 41 ∨ a = 42 ∨ a = 44 ∨ a = 46 ∨ a = 47 ∨ a = 48 ∨ a = 49 ∨ a = 50 ∨ a = 51) → A' a t = A a t) (h1 : A' 1 0 = A 1 0) (hn : A 6 0 ≤ A' 6 0 ∧ A 19 0 ≤ A' 19 0 ∧ A 23 0 ≤ A' 23 0)
  (h20 : A 36 t = 1 → 0 ≤ A 37 t → A 37 t < A 19 0 → A 22 (A 37 t) = t → A' 20 (A 37 t) = A 20 (A 37 t) ∧ A' 22 (A 37 t) = A 22 (A 37 t)) (h25 : A 36 t = 1 → 0 ≤ A 38 t → A 38 t < A 23 0 → A 25 (A 38 t) = t → A' 25 (A 38 t) = A 25 (A 38 t))
  (hw : A 36 t = 1 → wgt A' t (A 44 t).toNat = wgt A t (A 44 t).toNat) (h45 : ∀ p : Int, 0 ≤ p → p < 8 → A' 45 (8 * t + p) = A 45 (8 * t + p)) (h7 : ∀ b : Int, 0 ≤ b → b < A 6 0 → A' 7 (2 * b) = A 7 (2 * b) ∧ A' 7 (2 * b + 1) = A 7 (2 * b + 1))
  (h17 : A 36 t = 1 → ∀ b : Int, 0 ≤ b → b < 16 → ((b < A' 6 0 ∧ A' 17 b = t) ↔ (b < A 6 0 ∧ A 17 b = t)) ∧ (b < A 6 0 → A 17 b = t → A' 18 b = A 18 b)) (h16 : A 6 0 ≤ 16) : TrC k LN' B' E' A' t := fun t0 t1 => by
  obtain ⟨x1, x2, x3, x4, x5⟩ := h t0 t1
  have a36 := hA 36 (by decide)
  refine ⟨(hB 800 (by decide)).trans x1, hL.trans x2, by rw [a36]; exact x3, fun e => (hB 801 (by decide)).trans (x4 (a36.symm.trans e)), fun e => ?_⟩
  have e : A 36 t = 1 := a36.symm.trans e
  obtain ⟨y1, y2, y3, y4, y5, y6, y7, y8, y9, y10, y11, y12, y13, y14, y15, y16, y17, y18, y19, y20, y21, y22, y23, y24, y25, y26, y27, y28, y29, y30, y31, y32, y33, y34, y35, y36⟩ := x5 e
  have h20 := h20 e y5 y6 y7
  have h25 := h25 e y9 y10 y11
  have hw := hw e
  have h17 := h17 e
  have a37 := hA 37 (by decide)
  have a38 := hA 38 (by decide)
  have a39 := hA 39 (by decide)
  have a40 := hA 40 (by decide)
  have a41 := hA 41 (by decide)
  have a42 := hA 42 (by decide)
  have a44 := hA 44 (by decide)
  have a46 := hA 46 (by decide)
  have a47 := hA 47 (by decide)
  have a48 := hA 48 (by decide)
  have a49 := hA 49 (by decide)
  have a50 := hA 50 (by decide)
  have a51 := hA 51 (by decide)
  rw [a37, a38, a39, a40, a41, a42, a44, a46, a47, a48, a49, a50, a51]
  refine ⟨(hB 801 (by decide)).trans y1, y2, y3, (hB 802 (by decide)).trans y4, y5, by omega, h20.2.trans y7, (hB 803 (by decide)).trans y8, y9, by omega, h25.trans y11, (hB 804 (by decide)).trans (y12.trans h20.1.symm), (hB 805 (by decide)).trans y13, y14, y15, (hB 806 (by decide)).trans y16, y17, y18, by omega, fun n => ?_, (hB 808 (by decide)).trans (y21.trans hw.symm), y22, y23, y24, y25, y26, fun n => ⟨h6.trans (y27 n).1, (hB 811 (by decide)).trans (y27 n).2.1, (y27 n).2.2⟩, fun n => ?_, y29, y30, fun n => ⟨(hB 812 (by decide)).trans (y31 n).1, (hB 813 (by decide)).trans (y31 n).2.1, (y31 n).2.2⟩, (hB 814 (by decide)).trans y32, y33, y34, fun n => (hB 815 (by decide)).trans (y35 n), fun b b0 b1 => ?_⟩
  · obtain ⟨z1, z2, z3, z4, z5⟩ := y20 n
    have ne : A 41 t ≠ -1 := fun w => by have := y17.1 w; omega
    obtain ⟨w1, w2⟩ := h17 (A 41 t) (by omega) (by omega)
    exact ⟨(hB 807 (by decide)).trans z1, z2, z3, (w1.2 ⟨y19, z4⟩).2, (w2 y19 z4).trans z5⟩
  · obtain ⟨⟨r1, r2, r3, r4⟩, z2, z3, z4⟩ := y28 n
    refine ⟨⟨h6.trans r1, r2, by rw [hL]; exact r3, fun p p0 p1 => (hE p).trans ((r4 p p0 p1).trans (h45 p p0 (by omega)).symm)⟩, (hB 811 (by decide)).trans z2, fun p p0 p1 => ?_, fun m hm => ?_⟩
    · rw [h45 p p0 (by omega)]
      have := z3 p p0 p1
      omega
    · rw [wend_loc (N := A 47 t) (A := A) (fun p p0 p1 => ?_) m _ _ y24 (by omega)]
      · exact z4 m hm
      · have := z3 p p0 p1
        exact ⟨h45 p p0 (by omega), h7 _ this.1 this.2⟩
  · have r := y36 b b0 b1
    obtain ⟨w1, w2⟩ := h17 b b0 b1
    rw [hI b, h1]
    by_cases cc : b < A 6 0 ∧ A 17 b = t ∧ ¬ (A 39 t = 2 ∧ A 41 t = b)
    · have w3 := w1.2 ⟨cc.1, cc.2.1⟩
      rw [if_pos cc] at r
      rw [if_pos ⟨w3.1, w3.2, cc.2.2⟩, w2 cc.1 cc.2.1]
      exact r
    · rw [if_neg cc] at r
      rw [if_neg (fun w => cc ⟨(w1.1 ⟨w.1, w.2.1⟩).1, (w1.1 ⟨w.1, w.2.1⟩).2, w.2.2⟩)]
      exact r
theorem TrC.b {t : Int} (h : TrC (A 1 0) LN B E A t) : TrB LN B E A t := h
theorem TrC.up {k k' t : Int} (h : TrC k LN B E A t) (hk : A 36 t = 1 → A 39 t = 2 → k < A 42 t → k' < A 42 t) : TrC k' LN B E A t := fun t0 t1 => by
  obtain ⟨u_1, u_2, u_3, u_4, u_5⟩ := h t0 t1
  refine ⟨u_1, u_2, u_3, u_4, fun e => ?_⟩
  obtain ⟨y1, y2, y3, y4, y5, y6, y7, y8, y9, y10, y11, y12, y13, y14, y15, y16, y17, y18, y19, y20, y21, y22, y23, y24, y25, y26, y27, y28, y29, y30, y31, y32, y33, y34, y35, y36⟩ := u_5 e
  exact ⟨y1, y2, y3, y4, y5, y6, y7, y8, y9, y10, y11, y12, y13, y14, y15, y16, y17, y18, y19, fun n => ⟨(y20 n).1, hk e n (y20 n).2.1, (y20 n).2.2⟩, y21, y22, y23, y24, y25, y26, y27, y28, y29, y30, y31, y32, y33, y34, y35, y36⟩
/-- within a minute: trains below i have arrived, if they do -/
def RepI (i : Int) (c LN : Nat → Nat) (B : Fl) (E : El) (A : Il) : Prop := RepG B A ∧ RepS B A ∧ RepB c B A ∧ Rep0 A ∧ RepH B A ∧ RepE c B A ∧ RepC c B A ∧ RepN B A ∧ RepK c B A ∧ RepL c B A ∧ RepR E A ∧ RepD LN B E A ∧ RepY LN B E A ∧ RepU LN B E A ∧ RepW A ∧ RepP LN B E A ∧ (∀ t : Int, (t < i → TrC (A 1 0) LN B E A t) ∧ (i ≤ t → TrC (A 1 0 - 1) LN B E A t)) ∧ RepX A ∧ RepZ A
theorem RepI.r {i : Int} (h : RepI i c LN B E A) (hi : 6 ≤ i) : Rep c LN B E A := by
  obtain ⟨gG, gS, gB, g0, gH, gE, gC, gN, gK, gL, gR, gD, gY, gU, gW, gP, gT, gX, gZ⟩ := h
  exact ⟨gG, gS, gB, g0, gH, gE, gC, gN, gK, gL, gR, gD, gY, gU, gW, gP, fun t t0 t1 => (gT t).1 (by omega) t0 t1, gX, gZ⟩
/-- what stays in a minute -/
def Smm (A A' : Il) : Prop := A' 0 0 = A 0 0 ∧ A' 60 0 = A 60 0 ∧ (∀ j, A' 36 j = A 36 j) ∧ ∀ j, A' 44 j = A 44 j
theorem Smm.t {A'' : Il} (h : Smm A A') (h2 : Smm A' A'') : Smm A A'' := ⟨h2.1.trans h.1, h2.2.1.trans h.2.1, fun j => (h2.2.2.1 j).trans (h.2.2.1 j), fun j => (h2.2.2.2 j).trans (h.2.2.2 j)⟩
theorem Smm.rf : Smm A A := ⟨rfl, rfl, fun _ => rfl, fun _ => rfl⟩
theorem Smm.zz (h : Smm A A') : pz A' = pz A := by
  unfold pz tz
  simp only [h.2.1, h.2.2.1, h.2.2.2]
/-- the clock goes on, blocks of which trains are clear are free -/
def tck (A : Il) : Il := fun a j => if a = 17 ∧ 0 ≤ j ∧ j < A 6 0 ∧ A 18 j ≤ A 1 0 + 1 then -1 else if a = 1 then A 1 0 + 1 else A a j
theorem tck_o {a : Nat} {j : Int} (h : a ≠ 17 ∧ a ≠ 1) : tck A a j = A a j := (if_neg (fun w => h.1 w.1)).trans (if_neg h.2)
theorem tck_1 {j : Int} : tck A 1 j = A 1 0 + 1 := (if_neg (fun w => absurd w.1 (by decide))).trans (if_pos rfl)
theorem tck_17 {j : Int} (h : 0 ≤ j ∧ j < A 6 0) : tck A 17 j = if A 18 j ≤ A 1 0 + 1 then -1 else A 17 j := by
  show (if 17 = 17 ∧ 0 ≤ j ∧ j < A 6 0 ∧ A 18 j ≤ A 1 0 + 1 then (-1 : Int) else A 17 j) = _
  by_cases cc : A 18 j ≤ A 1 0 + 1
  · rw [if_pos ⟨rfl, h.1, h.2, cc⟩, if_pos cc]
  · rw [if_neg (fun w => cc w.2.2.2), if_neg cc]
theorem m_tick_go {Q : Int → Il → Prop} {N : Nat} (hN : A 6 0 = (N : Int)) (hN2 : N ≤ 16) (h : ∃ n9, W_X9_ticks_67 n9 0 (tck A) Q) : ∀ (k n : Nat) (A1 : Il), n + k = N → (∀ a j, A1 a j = if a = 17 then (if 0 ≤ j ∧ j < (n : Int) ∧ A 18 j ≤ A 1 0 + 1 then -1 else A 17 j) else tck A a j) → (∀ j : Int, 0 ≤ j → j < (N : Int) → A 17 j = -1 → True) → W_X9_ticks_12 (k + 1) (n : Int) A1 Q
  | 0, n, A1, e, hA, _ => by
    have eA : A1 = tck A := by
      funext a j
      rw [hA]
      by_cases e17 : a = 17
      · rw [if_pos e17, e17]
        show _ = (if 17 = 17 ∧ 0 ≤ j ∧ j < A 6 0 ∧ A 18 j ≤ A 1 0 + 1 then (-1 : Int) else A 17 j)
        rw [hN, show (n : Int) = (N : Int) by omega]
        by_cases cc : 0 ≤ j ∧ j < (N : Int) ∧ A 18 j ≤ A 1 0 + 1
        · rw [if_pos cc, if_pos ⟨rfl, cc⟩]
        · rw [if_neg cc, if_neg (fun w => cc w.2)]
      · rw [if_neg e17]
    subst eA
    refine br_T ?_ h
    rw [tck_o (by decide)]
    omega
  | k + 1, n, A1, e, hA, hx => by
    have e6 : A1 6 0 = A 6 0 := by rw [hA, if_neg (by decide), tck_o (by decide)]
    have e18 : A1 18 (n : Int) = A 18 (n : Int) := by rw [hA, if_neg (by decide), tck_o (by decide)]
    have e1 : A1 1 0 = A 1 0 + 1 := by rw [hA, if_neg (by decide), tck_1]
    have e17 : A1 17 (n : Int) = A 17 (n : Int) := by rw [hA, if_pos rfl, if_neg (fun w => by omega)]
    have go : ∀ z : Int, (z = if A 18 (n : Int) ≤ A 1 0 + 1 then -1 else A 17 (n : Int)) → W_X9_ticks_12 (k + 1) ((n + 1 : Nat) : Int) (ui A1 17 (n : Int) z) Q := fun z hz => by
      refine m_tick_go hN hN2 h k (n + 1) _ (by omega) (fun a j => ?_) hx
      show (if a = 17 ∧ j = (n : Int) then z else A1 a j) = _
      rw [hA]
      by_cases ea : a = 17
      · rw [if_pos ea, if_pos ea]
        by_cases ej : j = (n : Int)
        · rw [if_pos ⟨ea, ej⟩, hz, ej]
          by_cases c1 : A 18 (n : Int) ≤ A 1 0 + 1
          · rw [if_pos c1, if_pos ⟨by omega, by omega, c1⟩]
          · rw [if_neg c1, if_neg (fun w => c1 w.2.2)]
        · rw [if_neg (fun w => ej w.2)]
          by_cases c1 : 0 ≤ j ∧ j < (n : Int) ∧ A 18 j ≤ A 1 0 + 1
          · rw [if_pos c1, if_pos ⟨c1.1, by omega, c1.2.2⟩]
          · rw [if_neg c1, if_neg (fun w => c1 ⟨w.1, by omega, w.2.2⟩)]
      · rw [if_neg ea, if_neg ea, if_neg (fun w => ea w.1)]
    have g52 : (A 18 (n : Int) ≤ A 1 0 + 1 → A 17 (n : Int) = -1) → W_X9_ticks_52 (fun y0 A' => W_X9_ticks_12 (k + 1) y0 A' Q) (n : Int) (n : Int) A1 Q := fun w => by
      refine ⟨by omega, by omega, by omega, by omega, ?_⟩
      rw [e17, w32_up (by omega)]
      refine go _ ?_
      by_cases c1 : A 18 (n : Int) ≤ A 1 0 + 1
      · rw [if_pos c1]; exact w c1
      · rw [if_neg c1]
    refine br_F (by rw [e6]; omega) ⟨by omega, by omega, ?_⟩
    rw [e17, e18, e1]
    refine ⟨fun c1 => g52 (fun _ => c1), fun c1 => ⟨by omega, by omega, fun c2 => g52 (fun w => by omega), fun c2 => ⟨by omega, by omega, ?_⟩⟩⟩
    rw [w32_up (by omega)]
    exact go _ (if_pos (by omega)).symm
theorem m_tick {Q : Int → Il → Prop} (h6 : 0 ≤ A 6 0 ∧ A 6 0 ≤ 16) (hc : 0 ≤ A 1 0 ∧ A 1 0 < 20000) (h : ∃ n9, W_X9_ticks_67 n9 0 (tck A) Q) : W_X9_ticks A Q := by
  obtain ⟨N, hN⟩ := Int.eq_ofNat_of_zero_le h6.1
  unfold W_X9_ticks
  rw [w32_id (z := A 1 0 + 1) (by unfold rg; omega)]
  refine ⟨N + 1, m_tick_go (A := A) hN (by omega) h N 0 _ (Nat.zero_add _) (fun a j => ?_) (fun _ _ _ _ => trivial)⟩
  by_cases e17 : a = 17
  · rw [if_pos e17, e17, if_neg (fun w => by omega)]
    exact sc_k (by decide)
  · rw [if_neg e17]
    by_cases e1 : a = 1
    · rw [e1, tck_1]; exact sc_s
    · rw [tck_o ⟨e17, e1⟩]; exact sc_k e1
set_option maxHeartbeats 2000000 in
theorem tick_rep (hR : Rep c LN B E A) (hc : A 1 0 < 20000) : RepI 0 c LN (u2 B 912 0 (A 1 0 + 1)) E (tck A) := by
  obtain ⟨gG, gS, gB, g0, gH, gE, gC, gN, gK, gL, gR, gD, gY, gU, gW, gP, gT, gX, gZ⟩ := id hR
  obtain ⟨q1, q2, q3, q4, ⟨q5, q5b⟩, q6, q7, q8⟩ := id gG
  obtain ⟨x1, x2, x3⟩ := id gX
  have b16 := gB.1
  have hB : ∀ q v, q ≠ 912 → u2 B 912 0 (A 1 0 + 1) q v = B q v := fun q v h => u2_k h
  have hA : ∀ a j, (a ≠ 17 ∧ a ≠ 1) → tck A a j = A a j := fun a j h => tck_o h
  have h1 : tck A 1 0 = A 1 0 + 1 := tck_1
  have h17 : ∀ j : Int, 0 ≤ j → j < A 6 0 → tck A 17 j = if A 18 j ≤ A 1 0 + 1 then -1 else A 17 j := fun j j0 j1 => tck_17 ⟨j0, j1⟩
  have hb912 : u2 B 912 0 (A 1 0 + 1) 912 0 = A 1 0 + 1 := u2_s
  generalize u2 B 912 0 (A 1 0 + 1) = B' at *
  generalize tck A = A' at *
  have a6 : A' 6 0 = A 6 0 := hA 6 0 (by omega)
  refine ⟨?_, gS.fr (fun k v h => hB k v (by omega)) (fun a j h => hA a j (by omega)), gB.fr (fun k v h => hB k v (by omega)) (fun a j h => hA a j (by omega)), g0.fr (fun a j h => hA a j (by omega)), ?_, gE.fr (fun k v h => hB k v (by omega)) (fun a j h => hA a j (by omega)), gC.fr (fun k v h => hB k v (by omega)) (fun a j h => hA a j (by omega)), gN.fr (fun k v h => hB k v (by omega)) (fun a j h => hA a j (by omega)), gK.fr (fun k v h => hB k v (by omega)) (fun a j h => hA a j (by omega)), gL.fr (fun k v h => hB k v (by omega)) (fun a j h => hA a j (by omega)), gR.fr (fun _ => rfl) (fun _ => rfl) (fun a j h => hA a j (by omega)), gD.fr (fun k v h => hB k v (by omega)) (fun _ _ => rfl) (fun a j h => hA a j (by omega)), gY.fr (fun k v h => hB k v (by omega)) (fun _ _ => rfl) (fun a j h => hA a j (by omega)), gU.fr (fun k v h => hB k v (by omega)) (fun _ _ => rfl) (fun a j h => hA a j (by omega)), gW.fr (fun a j h => hA a j (by omega)), gP.fr (fun k v h => hB k v (by omega)) (fun _ _ => rfl) (fun a j h => hA a j (by omega)), ?_, ?_, gZ.fr (fun a j h => hA a j (by omega))⟩
  · -- the whole
    refine ⟨hb912.trans h1.symm, (hB 913 0 (by omega)).trans (q2.trans (hA 2 0 (by omega)).symm), (hB 914 0 (by omega)).trans (q3.trans (hA 3 0 (by omega)).symm), (hB 915 0 (by omega)).trans (q4.trans (hA 4 0 (by omega)).symm), ?_, ?_, ?_⟩
    · rw [h1]; omega
    · rw [hA 2 0 (by omega)]; exact q6
    · rw [hA 3 0 (by omega)]; exact ⟨q7, q8⟩
  · -- holders
    intro j j0 j1
    rw [a6] at j1
    obtain ⟨k1, k2, k3, k4⟩ := gH j j0 j1
    rw [h17 j j0 j1, h1, hB 211 _ (by omega), hB 212 _ (by omega), hA 18 j (by omega)]
    by_cases c1 : A 17 j = -1
    · have e : (if A 18 j ≤ A 1 0 + 1 then -1 else A 17 j) = -1 := by
        split
        · rfl
        · exact c1
      rw [e]
      refine ⟨?_, fun w => absurd rfl w, by decide, by decide⟩
      by_cases c2 : A 1 0 + 1 < B 212 (100 + j.toNat)
      · rw [if_pos c2]
        rw [if_pos (by omega)] at k1
        omega
      · rw [if_neg c2]
    · have k2 := k2 c1
      have c3 : A 1 0 < B 212 (100 + j.toNat) := Classical.byContradiction (fun w => by
        rw [if_neg w] at k1
        exact c1 k1)
      rw [if_pos c3] at k1
      by_cases c2 : A 18 j ≤ A 1 0 + 1
      · rw [if_pos c2, if_neg (by omega)]
        exact ⟨rfl, fun w => absurd rfl w, by decide, by decide⟩
      · rw [if_neg c2, if_pos (by omega)]
        exact ⟨k1, fun _ => k2, k3, k4⟩
  · -- trains
    intro t
    refine ⟨fun w t0 _ => by omega, fun _ t0 t1 => ?_⟩
    obtain ⟨u_1, u_2, u_3, u_4, u_5⟩ := gT t t0 t1
    refine ⟨(hB 800 _ (by omega)).trans u_1, u_2, by rw [hA 36 t (by omega)]; exact u_3, fun e => (hB 801 _ (by omega)).trans (u_4 ((hA 36 t (by omega)).symm.trans e)), fun e => ?_⟩
    obtain ⟨y1, y2, y3, y4, y5, y6, y7, y8, y9, y10, y11, y12, y13, y14, y15, y16, y17, y18, y19, y20, y21, y22, y23, y24, y25, y26, y27, y28, y29, y30, y31, y32, y33, y34, y35, y36⟩ := u_5 ((hA 36 t (by omega)).symm.trans e)
    clear u_5
    rw [hA 37 t (by omega), hA 38 t (by omega), hA 39 t (by omega), hA 40 t (by omega), hA 41 t (by omega), hA 42 t (by omega), hA 44 t (by omega), hA 46 t (by omega), hA 47 t (by omega), hA 48 t (by omega), hA 49 t (by omega), hA 50 t (by omega), hA 51 t (by omega), hA 19 0 (by omega), hA 23 0 (by omega), a6, hA 22 _ (by omega), hA 25 _ (by omega), hA 20 _ (by omega), h1, hA 18 (A 41 t) (by omega)]
    refine ⟨(hB 801 _ (by omega)).trans y1, y2, y3, (hB 802 _ (by omega)).trans y4, y5, y6, y7, (hB 803 _ (by omega)).trans y8, y9, y10, y11, (hB 804 _ (by omega)).trans y12, (hB 805 _ (by omega)).trans y13, y14, y15, (hB 806 _ (by omega)).trans y16, y17, y18, y19, fun n => ?_, (hB 808 _ (by omega)).trans (y21.trans (wgt_fr (A := A) (A' := A') (fun j => hA 33 j (by omega)) (fun j => hA 43 j (by omega)) t _).symm), y22, y23, y24, y25, y26, fun n => ⟨(hB 601 _ (by omega)).trans (y27 n).1, (hB 811 _ (by omega)).trans (y27 n).2.1, (y27 n).2.2⟩, fun n => ?_, y29, y30, fun n => ⟨(hB 812 _ (by omega)).trans (y31 n).1, (hB 813 _ (by omega)).trans (y31 n).2.1, (y31 n).2.2⟩, (hB 814 _ (by omega)).trans y32, y33, y34, fun n => (hB 815 _ (by omega)).trans (y35 n), fun b b0 b1 => ?_⟩
    · obtain ⟨z1, z2, z3, z4, z5⟩ := y20 n
      have ne : A 41 t ≠ -1 := fun w => by have := y17.1 w; omega
      refine ⟨(hB 807 _ (by omega)).trans z1, by omega, z3, ?_, z5⟩
      rw [h17 _ (by omega) y19, if_neg (by omega)]
      exact z4
    · obtain ⟨⟨r1, r2, r3, r4⟩, z2, z3, z4⟩ := y28 n
      refine ⟨⟨(hB 601 _ (by omega)).trans r1, r2, r3, fun p p0 p1 => (r4 p p0 p1).trans (hA 45 _ (by omega)).symm⟩, (hB 811 _ (by omega)).trans z2, fun p p0 p1 => ?_, fun m hm => ?_⟩
      · rw [hA 45 _ (by omega)]
        exact z3 p p0 p1
      · rw [wend_fr (A := A) (A' := A') (fun j => hA 7 j (by omega)) (fun j => hA 45 j (by omega))]
        exact z4 m hm
    · have r := y36 b b0 b1
      rw [hA 18 b (by omega)]
      by_cases b6 : b < A 6 0
      · rw [h17 b b0 b6]
        by_cases c2 : A 18 b ≤ A 1 0 + 1
        · rw [if_pos c2, if_neg (fun w => by have := w.2.1; omega)]
          intro n3
          by_cases cc : b < A 6 0 ∧ A 17 b = t ∧ ¬ (A 39 t = 2 ∧ A 41 t = b)
          · rw [if_pos cc] at r
            omega
          · rw [if_neg cc] at r
            have := r n3
            omega
        · rw [if_neg c2]
          by_cases cc : b < A 6 0 ∧ A 17 b = t ∧ ¬ (A 39 t = 2 ∧ A 41 t = b)
          · rw [if_pos cc] at r ⊢
            exact r
          · rw [if_neg cc] at r ⊢
            intro n3
            have := r n3
            omega
      · rw [if_neg (fun w => b6 w.1)]
        rw [if_neg (fun w => b6 w.1)] at r
        intro n3
        have := r n3
        omega
  · -- who is held by whom
    refine ⟨fun j j0 j1 w => ?_, fun j j0 j1 w => ?_, fun j j0 j1 w => ?_⟩
    · rw [hA 19 0 (by omega)] at j1
      rw [hA 22 j (by omega)] at w ⊢
      rw [hA 36 _ (by omega), hA 37 _ (by omega)]
      exact x1 j j0 j1 w
    · rw [hA 23 0 (by omega)] at j1
      rw [hA 25 j (by omega)] at w ⊢
      rw [hA 36 _ (by omega), hA 38 _ (by omega)]
      exact x2 j j0 j1 w
    · rw [a6] at j1
      rw [h17 j j0 j1] at w ⊢
      by_cases c2 : A 18 j ≤ A 1 0 + 1
      · rw [if_pos c2] at w
        exact absurd rfl w
      · rw [if_neg c2] at w ⊢
        rw [hA 36 _ (by omega), hA 39 _ (by omega)]
        exact x3 j j0 j1 w
end Minute
