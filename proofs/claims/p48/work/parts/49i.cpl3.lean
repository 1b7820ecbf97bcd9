/-! couple, uncouple: the trains' side -/
section Cpl3
variable {c LN LN' : Nat → Nat} {B B' : Fl} {E E' : El} {A A' : Il}
/-- the weight without what stood at p -/
theorem wgt_shf {t p N : Int} (h33 : ∀ j, A' 33 j = A 33 j) (a43 : ∀ j, (10 * t + p ≤ j ∧ j < 10 * t + (N - 1)) → A' 43 j = A 43 (j + 1)) (b43 : ∀ j, (j < 10 * t + p ∨ 10 * t + (N - 1) ≤ j) → A' 43 j = A 43 j) : ∀ m : Nat, (m : Int) ≤ N - 1 → ((m : Int) ≤ p → wgt A' t m = wgt A t m) ∧ (p < (m : Int) → 0 ≤ p → wgt A' t m = wgt A t (m + 1) - cw A (A 43 (10 * t + p)))
  | 0, _ => ⟨fun _ => rfl, fun h h0 => by omega⟩
  | m + 1, hm => by
    obtain ⟨i1, i2⟩ := wgt_shf h33 a43 b43 m (by omega)
    have st : wgt A' t (m + 1) = wgt A' t m + if A 33 (A' 43 (10 * t + (m : Int))) = -1 then 2 else 5 := by
      show wgt A' t m + (if A' 33 (A' 43 (10 * t + (m : Int))) = -1 then 2 else 5) = _
      rw [h33]
    have s1 : wgt A t (m + 1) = wgt A t m + if A 33 (A 43 (10 * t + (m : Int))) = -1 then 2 else 5 := rfl
    have s2 : wgt A t (m + 1 + 1) = wgt A t (m + 1) + if A 33 (A 43 (10 * t + ((m + 1 : Nat) : Int))) = -1 then 2 else 5 := rfl
    refine ⟨fun h => ?_, fun h h0 => ?_⟩
    · rw [st, s1, i1 (by omega), b43 _ (by omega)]
    · by_cases c1 : (m : Int) = p
      · rw [st, s2, s1, i1 (by omega), a43 _ (by omega), ← c1, show 10 * t + (m : Int) + 1 = 10 * t + ((m + 1 : Nat) : Int) by omega]
        unfold cw
        omega
      · rw [st, s2, i2 (by omega) h0, a43 _ (by omega), show 10 * t + (m : Int) + 1 = 10 * t + ((m + 1 : Nat) : Int) by omega]
        omega
set_option maxHeartbeats 4000000 in
/-- a car leaves its train -/
theorem td_rep {t x p N : Int} (hR : Rep c LN B E A) (t0 : 0 ≤ t) (t1 : t < 6) (h36 : A 36 t = 1) (hs : A 39 t = 0 ∨ A 39 t = 1) (hN : A 44 t = N) (hp : 0 ≤ p) (hpN : p < N) (hx : A 43 (10 * t + p) = x) (hB : ∀ q v, (q ≠ 601 ∧ q ≠ 808) → B' q v = B q v) (h601 : B' 601 (50 + t.toNat) = N - 1 ∧ ∀ v, v ≠ 50 + t.toNat → B' 601 v = B 601 v) (h808 : B' 808 (40 + t.toNat) = B 808 (40 + t.toNat) - cw A x ∧ ∀ v, v ≠ 40 + t.toNat → B' 808 v = B 808 v)
  (hE : ∀ v, v ≠ 50 + t.toNat → ∀ j, E' (.inr v) j = E (.inr v) j) (hI : ∀ v j, E' (.inl v) j = E (.inl v) j) (hE1 : ∀ j : Int, 0 ≤ j → j < N - 1 → E' (.inr (50 + t.toNat)) j = if j < p then A 43 (10 * t + j) else A 43 (10 * t + (j + 1)))
  (hA' : A' = ui (shf A 43 (10 * t) p (N - 1)) 44 t (N - 1)) : RepV (fun k => k = x) 1 c LN B' E' A' ∧ ∀ q j : Int, 0 ≤ q → q < 6 → A' 36 q = 1 → 0 ≤ j → j < A' 44 q → A' 43 (10 * q + j) ≠ x := by
  have gW0 := hR.2.2.2.2.2.2.2.2.2.2.2.2.2.2.1
  obtain ⟨gG, gS, gB, g0, gH, gE, gC, gN, gK, gL, gR, gD, gY, gU, gW, gP, gT, gX, gZ⟩ := hR.v (X := fun k => k = x)
  have hA : ∀ a j, (a ≠ 43 ∧ a ≠ 44) → A' a j = A a j := fun a j h => by
    rw [hA']
    exact (ui_k (by omega)).trans (shf_k (by omega))
  have a44 : A' 44 t = N - 1 ∧ ∀ j, j ≠ t → A' 44 j = A 44 j := by
    rw [hA']
    exact ⟨ui_s, fun j h => (ui_j h).trans (shf_k (by decide))⟩
  have a43 : ∀ j, (10 * t + p ≤ j ∧ j < 10 * t + (N - 1)) → A' 43 j = A 43 (j + 1) := fun j h => by
    rw [hA']
    exact (ui_k (by decide)).trans (shf_i h.1 h.2)
  have b43 : ∀ j, (j < 10 * t + p ∨ 10 * t + (N - 1) ≤ j) → A' 43 j = A 43 j := fun j h => by
    rw [hA']
    exact (ui_k (by decide)).trans (shf_o h)
  clear hA'
  have h44 : ∀ q : Int, 0 ≤ q → q < 6 → A 36 q = 1 → 0 ≤ A 44 q ∧ A 44 q ≤ 10 := fun q q0 q1 e => by
    obtain ⟨u_1, u_2, u_3, u_4, u_5⟩ := gT q q0 q1
    obtain ⟨y1, y2, y3, y4, y5, y6, y7, y8, y9, y10, y11, y12, y13, y14, y15, y16, y17, y18, y19, y20, y21, y22, y23, y24, y25, y26, y27, y28, y29, y30, y31, y32, y33, y34, y35, y36⟩ := u_5 e
    exact ⟨y22, y23⟩
  obtain ⟨ru0, ru⟩ := id (gU t t0 t1)
  obtain ⟨⟨r1, r2, r3, r4⟩, r7⟩ := ru h36
  have n10 := h44 t t0 t1 h36
  have a29 : A' 29 0 = A 29 0 := hA 29 0 (by omega)
  have pl : ∀ q : Int, 0 ≤ q → q < N - 1 → ∃ o : Int, 0 ≤ o ∧ o < N ∧ o ≠ p ∧ A' 43 (10 * t + q) = A 43 (10 * t + o) ∧ (q < p → o = q) ∧ (p ≤ q → o = q + 1) := fun q q0 q1 => by
    by_cases cc : q < p
    · exact ⟨q, q0, by omega, by omega, b43 _ (by omega), fun _ => rfl, fun w => by omega⟩
    · exact ⟨q + 1, by omega, by omega, by omega, (a43 _ (by omega)).trans (by rw [show 10 * t + q + 1 = 10 * t + (q + 1) by omega]), fun w => by omega, fun _ => rfl⟩
  have nx : ∀ q j : Int, 0 ≤ q → q < 6 → A' 36 q = 1 → 0 ≤ j → j < A' 44 q → A' 43 (10 * q + j) ≠ x := fun q j q0 q1 e j0 j1 w => by
    rw [hA 36 q (by omega)] at e
    obtain ⟨v1, v2, v3, v4⟩ := r7 p hp (by omega)
    by_cases es : q = t
    · subst es
      rw [a44.1] at j1
      obtain ⟨o, o0, o1, o2, o3, -⟩ := pl j j0 j1
      rw [o3, ← hx] at w
      exact o2 (v4 o o0 (by omega) w)
    · rw [a44.2 _ es] at j1
      have y2 := h44 q q0 q1 e
      rw [b43 _ (by omega)] at w
      obtain ⟨-, w4⟩ := gU q q0 q1
      obtain ⟨z1, z2, z3, z4⟩ := (w4 e).2 j j0 j1
      rw [w, ← hx, v3] at z3
      exact es z3.symm
  refine ⟨⟨gG.fr (fun k v h => hB k v (by omega)) (fun a j h => hA a j (by omega)), gS.fr (fun k v h => hB k v (by omega)) (fun a j h => hA a j (by omega)), gB.fr (fun k v h => hB k v (by omega)) (fun a j h => hA a j (by omega)), g0.fr (fun a j h => hA a j (by omega)), gH.fr (fun k v h => hB k v (by omega)) (fun a j h => hA a j (by omega)), gE.fr (fun k v h => hB k v (by omega)) (fun a j h => hA a j (by omega)), gC.fr (fun k v h => hB k v (by omega)) (fun a j h => hA a j (by omega)), gN.fr (fun k v h => hB k v (by omega)) (fun a j h => hA a j (by omega)), gK.fr (fun k v h => hB k v (by omega)) (fun a j h => hA a j (by omega)), gL.fr (fun k v h => hB k v (by omega)) (fun a j h => hA a j (by omega)), gR.fr (fun j => hI 3 j) (fun j => hI 4 j) (fun a j h => hA a j (by omega)), gD.fz (fun v hv => h601.2 v (by omega)) (fun _ _ => rfl) (fun v _ => hE v (by omega)) (fun a j h => hA a j (by omega)), gY.fz (fun v _ _ => h601.2 v (by omega)) (fun _ _ _ => rfl) (fun v _ _ => hE v (by omega)) (fun a j h => hA a j (by omega)), ?_, ?_, RepPx.fz gP (fun v _ => h601.2 v (by omega)) (fun _ _ => rfl) (fun v _ => hE v (by omega)) (fun a j h => hA a j (by omega)), ?_, gX.fr (fun a j h => hA a j (by omega)), ?_⟩, nx⟩
  · -- cars of trains
    refine RepU.mk' fun q => ?_
    by_cases eq : q = t
    · subst eq
      intro _ _
      refine ⟨ru0, fun _ => ?_⟩
      rw [a44.1]
      refine ⟨⟨h601.1, by omega, by omega, fun j j0 j1 => ?_⟩, fun j j0 j1 => ?_⟩
      · rw [hE1 j j0 j1]
        by_cases cc : j < p
        · rw [if_pos cc]
          exact (b43 _ (by omega)).symm
        · rw [if_neg cc]
          exact ((a43 _ (by omega)).trans (by rw [show 10 * q + j + 1 = 10 * q + (j + 1) by omega])).symm
      · obtain ⟨o, o0, o1, o2, o3, o4, o5⟩ := pl j j0 j1
        obtain ⟨v1, v2, v3, v4⟩ := r7 o o0 (by omega)
        rw [o3, a29, hA 32 _ (by omega)]
        refine ⟨v1, v2, v3, fun j2 j20 j21 e => ?_⟩
        obtain ⟨o', o0', o1', o2', o3', o4', o5'⟩ := pl j2 j20 j21
        rw [o3'] at e
        have := v4 o' o0' (by omega) e
        omega
    · intro q0 q1
      exact (gU.uu q).fr rfl (hA 36 q (by omega)) (fun _ => h601.2 _ (by omega)) (fun _ => hE _ (by omega)) (fun _ => a44.2 q eq) (fun e j j0 j1 => b43 _ (by have := h44 q q0 q1 e; omega)) (by omega) (fun k _ _ _ => hA 32 k (by omega)) q0 q1
  · -- where each car is
    intro k k0 k1 nk
    have nk : k ≠ x := nk
    rw [a29] at k1
    obtain ⟨w1, w2⟩ := gW0 k k0 k1
    rw [hA 32 k (by omega), hA 31 k (by omega), hA 35 _ (by omega), hA 36 _ (by omega)]
    refine ⟨fun n => ?_, fun n => ?_⟩
    · obtain ⟨q, q0, q1, q2⟩ := w1 n
      exact ⟨q, q0, q1, (hA 34 _ (by omega)).trans q2⟩
    · obtain ⟨w3, q, q0, q1, q2⟩ := w2 n
      refine ⟨w3, ?_⟩
      by_cases es : A 32 k = t
      · rw [es, a44.1]
        rw [es] at q1 q2
        have nq : q ≠ p := fun e => nk (by rw [← q2, e, hx])
        by_cases cc : q < p
        · exact ⟨q, q0, by omega, (b43 _ (by omega)).trans q2⟩
        · exact ⟨q - 1, by omega, by omega, (a43 _ (by omega)).trans (by rw [show 10 * t + (q - 1) + 1 = 10 * t + q by omega]; exact q2)⟩
      · rw [a44.2 _ es]
        obtain ⟨v1, v2, v3, v4, v5, v6, v7⟩ := gK.2.2.2.2.2 k k0 k1
        have y2 := h44 (A 32 k) (by omega) v6 w3
        exact ⟨q, q0, q1, (b43 _ (by omega)).trans q2⟩
  · -- trains
    refine RepT.mk' fun q q0 q1 => ?_
    by_cases eq : q = t
    · subst eq
      obtain ⟨u_1, u_2, u_3, u_4, u_5⟩ := gT q t0 t1
      obtain ⟨y1, y2, y3, y4, y5, y6, y7, y8, y9, y10, y11, y12, y13, y14, y15, y16, y17, y18, y19, y20, y21, y22, y23, y24, y25, y26, y27, y28, y29, y30, y31, y32, y33, y34, y35, y36⟩ := u_5 h36
      have wl : wgt A' q (N - 1).toNat = wgt A q (A 44 q).toNat - cw A x := by
        have e1 : ((N - 1).toNat : Int) = N - 1 := by omega
        have e2 : (A 44 q).toNat = (N - 1).toNat + 1 := by omega
        obtain ⟨z1, z2⟩ := wgt_shf (A := A) (A' := A') (t := q) (p := p) (N := N) (fun j => hA 33 j (by omega)) a43 b43 (N - 1).toNat (by omega)
        rw [e2, ← hx]
        by_cases cc : p < N - 1
        · exact z2 (by omega) hp
        · rw [z1 (by omega)]
          have ep : p = (((N - 1).toNat : Nat) : Int) := by omega
          show wgt A q (N - 1).toNat = wgt A q (N - 1).toNat + (if A 33 (A 43 (10 * q + (((N - 1).toNat : Nat) : Int))) = -1 then 2 else 5) - cw A (A 43 (10 * q + p))
          rw [← ep]
          unfold cw
          omega
      refine ⟨(hB 800 _ (by omega)).trans u_1, u_2, by rw [hA 36 q (by omega)]; exact u_3, fun w => absurd ((hA 36 q (by omega)).symm.trans w) (by omega), fun _ => ?_⟩
      rw [a44.1, hA 39 q (by omega), hA 37 q (by omega), hA 38 q (by omega), hA 40 q (by omega), hA 41 q (by omega), hA 42 q (by omega), hA 46 q (by omega), hA 47 q (by omega), hA 48 q (by omega), hA 49 q (by omega), hA 50 q (by omega), hA 51 q (by omega), hA 19 0 (by omega), hA 23 0 (by omega), hA 6 0 (by omega), hA 22 _ (by omega), hA 25 _ (by omega), hA 20 _ (by omega), hA 1 0 (by omega)]
      refine ⟨(hB 801 _ (by omega)).trans y1, y2, y3, (hB 802 _ (by omega)).trans y4, y5, y6, y7, (hB 803 _ (by omega)).trans y8, y9, y10, y11, (hB 804 _ (by omega)).trans y12, (hB 805 _ (by omega)).trans y13, y14, y15, (hB 806 _ (by omega)).trans y16, y17, y18, y19, fun w => by omega, h808.1.trans (by rw [y21]; exact wl.symm), by omega, by omega, y24, y25, y26, fun w => by omega, fun n => ?_, y29, y30, fun n => ⟨(hB 812 _ (by omega)).trans (y31 n).1, (hB 813 _ (by omega)).trans (y31 n).2.1, (y31 n).2.2⟩, (hB 814 _ (by omega)).trans y32, y33, y34, fun n => (hB 815 _ (by omega)).trans (y35 n), fun b b0 b1 => ?_⟩
      · obtain ⟨⟨s1, s2, s3, s4⟩, z2, z3, z4⟩ := y28 n
        refine ⟨⟨(h601.2 _ (by omega)).trans s1, s2, s3, fun j j0 j1 => (hE _ (by omega) j).trans ((s4 j j0 j1).trans (hA 45 _ (by omega)).symm)⟩, (hB 811 _ (by omega)).trans z2, fun j j0 j1 => ?_, fun m hm => ?_⟩
        · rw [hA 45 _ (by omega)]
          exact z3 j j0 j1
        · rw [wend_fr (A := A) (A' := A') (fun j => hA 7 j (by omega)) (fun j => hA 45 j (by omega))]
          exact z4 m hm
      · rw [hA 17 b (by omega), hA 18 b (by omega), hI]
        exact y36 b b0 b1
    · exact TrB.fr (gT.tr q) (fun k h => (by
        by_cases e8 : k = 808
        · subst e8; exact h808.2 _ (by omega)
        · exact hB k _ (by omega))) (h601.2 _ (by omega)) rfl (hE _ (by omega)) (hI _) (fun a h => (by
        by_cases e8 : a = 44
        · subst e8; exact a44.2 q eq
        · exact hA a q (by omega))) (hA 1 0 (by omega)) ⟨Int.le_of_eq (hA 6 0 (by omega)).symm, Int.le_of_eq (hA 19 0 (by omega)).symm, Int.le_of_eq (hA 23 0 (by omega)).symm⟩ (fun _ _ _ _ => ⟨hA 20 _ (by omega), hA 22 _ (by omega)⟩) (fun _ _ _ _ => hA 25 _ (by omega)) (fun e => wgt_loc (A := A) (A' := A') _ (fun p hp => by have b10 := h44 q q0 q1 e; rw [b43 _ (by omega), hA 33 _ (by omega)])) (fun p _ _ => hA 45 _ (by omega)) (fun b _ _ => ⟨hA 7 _ (by omega), hA 7 _ (by omega)⟩) (fun _ b _ _ => ⟨by rw [hA 6 0 (by omega), hA 17 b (by omega)], fun _ _ => hA 18 b (by omega)⟩) (by have := gB.1; omega) q0 q1
  · -- how many
    have zz : RepZx 0 A := gZ
    unfold RepZx at zz ⊢
    have hz : ∀ q : Int, q ≠ t → tz A' q = tz A q := fun q nq => by
      unfold tz
      rw [hA 36 q (by omega), a44.2 q nq]
    have hzt : tz A' t = tz A t - 1 := by
      unfold tz
      rw [hA 36 t (by omega), if_pos h36, if_pos h36, a44.1]
      omega
    rw [a29, hA 35 0 (by omega), hA 35 1 (by omega), hA 35 2 (by omega), hA 35 3 (by omega), hA 35 4 (by omega), hA 35 5 (by omega), hA 35 6 (by omega), hA 35 7 (by omega)]
    have g0 := hz 0
    have g1 := hz 1
    have g2 := hz 2
    have g3 := hz 3
    have g4 := hz 4
    have g5 := hz 5
    have ss : t = 0 ∨ t = 1 ∨ t = 2 ∨ t = 3 ∨ t = 4 ∨ t = 5 := by omega
    rcases ss with e | e | e | e | e | e <;> rw [e] at hzt g0 g1 g2 g3 g4 g5 <;> omega
/-- what couple's end does to the reference's rows -/
def atr (A : Il) (t x : Int) : Il := sc (ui (ui (ui (ui (ui A 32 x t) 43 (10 * t + A 44 t) x) 44 t (A 44 t + 1)) 61 (A 60 0) x) 62 (A 60 0) (100 + t)) 60 (A 60 0 + 1)
set_option maxHeartbeats 4000000 in
/-- a car that is nowhere comes behind a train -/
theorem at_rep {t x : Int} (hR : RepV (fun k => k = x) 1 c LN B E A) (hA' : A' = atr A t x) (t0 : 0 ≤ t) (t1 : t < 6) (h36 : A 36 t = 1) (hs : A 39 t = 0 ∨ A 39 t = 1) (hx : 0 ≤ x ∧ x < A 29 0) (h32 : A 32 x = -1) (h44 : A 44 t < 10) (hn : A 60 0 ≤ 1023)
  (ny : ∀ s' p : Int, 0 ≤ s' → s' < 8 → 0 ≤ p → p < A 35 s' → A 34 (20 * s' + p) ≠ x)
  (hB : ∀ q v, (q ≠ 302 ∧ q ≠ 808 ∧ q ≠ 601) → B' q v = B q v) (h302 : B' 302 (140 + x.toNat) = t ∧ ∀ v, v ≠ 140 + x.toNat → B' 302 v = B 302 v) (h808 : B' 808 (40 + t.toNat) = B 808 (40 + t.toNat) + cw A x ∧ ∀ v, v ≠ 40 + t.toNat → B' 808 v = B 808 v)
  (h601 : B' 601 (160 + x.toNat) = B 601 (160 + x.toNat) + 1 ∧ B' 601 (50 + t.toNat) = A 44 t + 1 ∧ ∀ v, (v ≠ 160 + x.toNat ∧ v ≠ 50 + t.toNat) → B' 601 v = B 601 v)
  (hL : ∀ v, v ≠ 160 + x.toNat → LN' v = LN v) (hL1 : LN' (160 + x.toNat) = LN (160 + x.toNat) ∨ (LN' (160 + x.toNat) = 2 * LN (160 + x.toNat) ∧ (LN (160 + x.toNat) : Int) ≤ B 601 (160 + x.toNat))) (hL2 : B 601 (160 + x.toNat) < (LN' (160 + x.toNat) : Int))
  (hE : ∀ v, (v ≠ 160 + x.toNat ∧ v ≠ 50 + t.toNat) → ∀ j, E' (.inr v) j = E (.inr v) j) (hI : ∀ v j, E' (.inl v) j = E (.inl v) j)
  (hE1 : ∀ j, 0 ≤ j → j < B 601 (160 + x.toNat) → E' (.inr (160 + x.toNat)) j = E (.inr (160 + x.toNat)) j) (hE2 : E' (.inr (160 + x.toNat)) (B 601 (160 + x.toNat)) = 100 + t)
  (hE3 : ∀ j, 0 ≤ j → j < A 44 t → E' (.inr (50 + t.toNat)) j = E (.inr (50 + t.toNat)) j) (hE4 : E' (.inr (50 + t.toNat)) (A 44 t) = x) : Rep c LN' B' E' A' := by
  obtain ⟨gG, gS, gB, g0, gH, gE, gC, gN, gK, gL, gR, gD, gY, gU, gW, gP, gT, gX, gZ⟩ := id hR
  obtain ⟨⟨k1, k2, k3⟩, k4, k5, k6, k7, k8⟩ := id gK
  have hA : ∀ a j, (a ≠ 32 ∧ a ≠ 43 ∧ a ≠ 44 ∧ a ≠ 60 ∧ a ≠ 61 ∧ a ≠ 62) → A' a j = A a j := fun a j h => by
    rw [hA']
    exact (sc_k (by omega)).trans ((ui_k (by omega)).trans ((ui_k (by omega)).trans ((ui_k (by omega)).trans ((ui_k (by omega)).trans ((ui_k (by omega)).trans (rfl))))))
  have a32 : A' 32 x = t ∧ ∀ j, j ≠ x → A' 32 j = A 32 j := by
    rw [hA']
    exact ⟨(sc_k (by decide)).trans ((ui_k (by decide)).trans ((ui_k (by decide)).trans ((ui_k (by decide)).trans ((ui_k (by decide)).trans (ui_s))))), fun j h => (sc_k (by decide)).trans ((ui_k (by decide)).trans ((ui_k (by decide)).trans ((ui_k (by decide)).trans ((ui_k (by decide)).trans ((ui_w h).trans (rfl))))))⟩
  have a43 : A' 43 (10 * t + A 44 t) = x ∧ ∀ j, j ≠ 10 * t + A 44 t → A' 43 j = A 43 j := by
    rw [hA']
    exact ⟨(sc_k (by decide)).trans ((ui_k (by decide)).trans ((ui_k (by decide)).trans ((ui_k (by decide)).trans (ui_s)))), fun j h => (sc_k (by decide)).trans ((ui_k (by decide)).trans ((ui_k (by decide)).trans ((ui_k (by decide)).trans ((ui_w h).trans ((ui_k (by decide)).trans (rfl))))))⟩
  have a44 : A' 44 t = A 44 t + 1 ∧ ∀ j, j ≠ t → A' 44 j = A 44 j := by
    rw [hA']
    exact ⟨(sc_k (by decide)).trans ((ui_k (by decide)).trans ((ui_k (by decide)).trans (ui_s))), fun j h => (sc_k (by decide)).trans ((ui_k (by decide)).trans ((ui_k (by decide)).trans ((ui_w h).trans ((ui_k (by decide)).trans ((ui_k (by decide)).trans (rfl))))))⟩
  have a60 : A' 60 0 = A 60 0 + 1 := by
    rw [hA']
    exact sc_s
  have a61 : A' 61 (A 60 0) = x ∧ ∀ j, j ≠ A 60 0 → A' 61 j = A 61 j := by
    rw [hA']
    exact ⟨(sc_k (by decide)).trans ((ui_k (by decide)).trans (ui_s)), fun j h => (sc_k (by decide)).trans ((ui_k (by decide)).trans ((ui_w h).trans ((ui_k (by decide)).trans ((ui_k (by decide)).trans ((ui_k (by decide)).trans (rfl))))))⟩
  have a62 : A' 62 (A 60 0) = 100 + t ∧ ∀ j, j ≠ A 60 0 → A' 62 j = A 62 j := by
    rw [hA']
    exact ⟨(sc_k (by decide)).trans (ui_s), fun j h => (sc_k (by decide)).trans ((ui_w h).trans ((ui_k (by decide)).trans ((ui_k (by decide)).trans ((ui_k (by decide)).trans ((ui_k (by decide)).trans (rfl))))))⟩
  clear hA'
  have h440 : ∀ q : Int, 0 ≤ q → q < 6 → A 36 q = 1 → 0 ≤ A 44 q ∧ A 44 q ≤ 10 := fun q q0 q1 e => by
    obtain ⟨u_1, u_2, u_3, u_4, u_5⟩ := gT q q0 q1
    obtain ⟨y1, y2, y3, y4, y5, y6, y7, y8, y9, y10, y11, y12, y13, y14, y15, y16, y17, y18, y19, y20, y21, y22, y23, y24, y25, y26, y27, y28, y29, y30, y31, y32, y33, y34, y35, y36⟩ := u_5 e
    exact ⟨y22, y23⟩
  obtain ⟨ru0, ru⟩ := id (gU t t0 t1)
  obtain ⟨⟨r1, r2, r3, r4⟩, r7⟩ := ru h36
  have a29 : A' 29 0 = A 29 0 := hA 29 0 (by omega)
  have nu : ∀ q j : Int, 0 ≤ q → q < 6 → A 36 q = 1 → 0 ≤ j → j < A 44 q → A 43 (10 * q + j) ≠ x := fun q j q0 q1 e j0 j1 w => by
    obtain ⟨z1, z2, z3, z4⟩ := ((gU q q0 q1).2 e).2 j j0 j1
    rw [w, h32] at z3
    omega
  refine RepV.r (X := fun j => j = x ∧ j ≠ x) (m := 0) ⟨gG.fr (fun k v h => hB k v (by omega)) (fun a j h => hA a j (by omega)), gS.fr (fun k v h => hB k v (by omega)) (fun a j h => hA a j (by omega)), gB.fr (fun k v h => hB k v (by omega)) (fun a j h => hA a j (by omega)), g0.fr (fun a j h => hA a j (by omega)), gH.fr (fun k v h => hB k v (by omega)) (fun a j h => hA a j (by omega)), gE.fr (fun k v h => hB k v (by omega)) (fun a j h => hA a j (by omega)), gC.fr (fun k v h => hB k v (by omega)) (fun a j h => hA a j (by omega)), gN.fr (fun k v h => hB k v (by omega)) (fun a j h => hA a j (by omega)), ?_, gL.fr (fun k v h => hB k v (by omega)) (fun a j h => hA a j (by omega)), gR.fr (fun j => hI 3 j) (fun j => hI 4 j) (fun a j h => hA a j (by omega)), gD.fz (fun v hv => h601.2.2 v (by omega)) (fun v hv => hL v (by omega)) (fun v _ => hE v (by omega)) (fun a j h => hA a j (by omega)), ?_, ?_, ?_, RepPx.put gP hx hn h601.1 (fun v hv => h601.2.2 v (by omega)) (fun v hv => hL v (by omega)) hL1 hL2 (fun v hv => hE v (by omega)) hE1 hE2 a29 a60 a61 a62 (fun j hj => ⟨a32.2 j hj, hA 31 j (by omega)⟩) (by rw [a32.1, if_neg (by omega)]), ?_, gX.fr (fun a j h => hA a j (by omega)), ?_⟩ (fun k w => w.2 w.1) rfl
  · -- cars
    unfold RepK
    rw [a29]
    refine ⟨⟨k1, (hB 2 11 (by omega)).trans k2, k3⟩, k4.fr' (fun v => hB 300 v (by omega)) (fun j => hA 30 j (by omega)), k5.fr' (fun v => hB 301 v (by omega)) (fun j => hA 31 j (by omega)), k6.put hx.1 h302 a32, k7.fr' (fun v => hB 303 v (by omega)) (fun j => hA 33 j (by omega)), fun j j0 j1 => ?_⟩
    obtain ⟨w1, w2, w3, w4, w5, w6, w7, w8⟩ := k8 j j0 j1
    rw [hA 30 j (by omega), hA 31 j (by omega), hA 33 j (by omega), hA 54 0 (by omega)]
    by_cases ej : j = x
    · rw [ej, a32.1]
      rw [ej] at w1 w2 w3 w4 w7 w8
      exact ⟨w1, w2, w3, w4, by omega, t1, w7, w8⟩
    · rw [a32.2 j ej]
      exact ⟨w1, w2, w3, w4, w5, w6, w7, w8⟩
  · -- yards
    refine RepY.mk' fun q q0 q1 => ?_
    obtain ⟨⟨t1', t2', t3', t4'⟩, t5', t6', t7'⟩ := gY q q0 q1
    have nv : 30 + q.toNat ≠ 160 + x.toNat ∧ 30 + q.toNat ≠ 50 + t.toNat := by omega
    rw [hA 35 q (by omega)]
    refine ⟨⟨(h601.2.2 _ nv).trans t1', t2', by rw [hL _ nv.1]; exact t3', fun j j0 j1 => (hE _ nv j).trans ((t4' j j0 j1).trans (hA 34 _ (by omega)).symm)⟩, t5', by rw [hL _ nv.1]; exact t6', fun j j0 j1 => ?_⟩
    obtain ⟨w1, w2, w3, w4, w5⟩ := t7' j j0 j1
    have nx := ny q j q0 q1 j0 j1
    rw [hA 34 _ (by omega), a29, a32.2 _ nx, hA 31 _ (by omega)]
    refine ⟨w1, w2, w3, w4, fun p2 p20 p21 e => ?_⟩
    rw [hA 34 _ (by omega)] at e
    exact w5 p2 p20 p21 e
  · -- cars of trains
    refine RepU.mk' fun q q0 q1 => ?_
    by_cases eq : q = t
    · subst eq
      refine ⟨(hL _ (by omega)).trans ru0, fun _ => ?_⟩
      rw [a44.1]
      refine ⟨⟨h601.2.1, by omega, by rw [hL _ (by omega)]; omega, fun j j0 j1 => ?_⟩, fun j j0 j1 => ?_⟩
      · show _ = A' 43 (10 * q + j)
        by_cases ej : j = A 44 q
        · rw [ej, a43.1]; exact hE4
        · rw [a43.2 _ (by omega), hE3 j j0 (by omega)]
          exact r4 j j0 (by omega)
      · by_cases ej : j = A 44 q
        · rw [ej, a43.1, a29, a32.1]
          refine ⟨hx.1, hx.2, rfl, fun j2 j20 j21 e => ?_⟩
          by_cases ej2 : j2 = A 44 q
          · exact ej2
          · rw [a43.2 _ (by omega)] at e
            exact absurd e (nu q j2 q0 q1 h36 j20 (by omega))
        · obtain ⟨w1, w2, w3, w4⟩ := r7 j j0 (by omega)
          have nx := nu q j q0 q1 h36 j0 (by omega)
          rw [a43.2 _ (by omega), a29, a32.2 _ nx]
          refine ⟨w1, w2, w3, fun j2 j20 j21 e => ?_⟩
          by_cases ej2 : j2 = A 44 q
          · rw [ej2, a43.1] at e
            exact absurd e.symm nx
          · rw [a43.2 _ (by omega)] at e
            exact w4 j2 j20 (by omega) e
    · obtain ⟨s1, s2⟩ := gU q q0 q1
      refine ⟨(hL _ (by omega)).trans s1, fun e => ?_⟩
      rw [hA 36 q (by omega)] at e
      obtain ⟨⟨z1, z2, z3, z4⟩, z5⟩ := s2 e
      have b10 := h440 q q0 q1 e
      rw [a44.2 q eq]
      refine ⟨⟨(h601.2.2 _ (by omega)).trans z1, z2, by rw [hL _ (by omega)]; exact z3, fun j j0 j1 => (hE _ (by omega) j).trans ((z4 j j0 j1).trans (a43.2 _ (by omega)).symm)⟩, fun j j0 j1 => ?_⟩
      obtain ⟨w1, w2, w3, w4⟩ := z5 j j0 j1
      have nx := nu q j q0 q1 e j0 j1
      rw [a43.2 _ (by omega), a29, a32.2 _ nx]
      refine ⟨w1, w2, w3, fun j2 j20 j21 e2 => ?_⟩
      rw [a43.2 _ (by omega)] at e2
      exact w4 j2 j20 j21 e2
  · -- where each car is
    intro j j0 j1 _
    rw [a29] at j1
    by_cases ej : j = x
    · rw [ej, a32.1, hA 36 t (by omega), a44.1]
      exact ⟨fun w => by omega, fun _ => ⟨h36, A 44 t, by omega, by omega, a43.1⟩⟩
    · obtain ⟨w1, w2⟩ := gW j j0 j1 ej
      rw [a32.2 j ej, hA 31 j (by omega), hA 35 _ (by omega), hA 36 _ (by omega)]
      refine ⟨fun n => ?_, fun n => ?_⟩
      · obtain ⟨p, p0, p1, p2⟩ := w1 n
        exact ⟨p, p0, p1, (hA 34 _ (by omega)).trans p2⟩
      · obtain ⟨w3, p, p0, p1, p2⟩ := w2 n
        refine ⟨w3, ?_⟩
        obtain ⟨v1, v2, v3, v4, v5, v6, v7⟩ := k8 j j0 j1
        by_cases es : A 32 j = t
        · rw [es] at p1 p2 ⊢
          rw [a44.1]
          exact ⟨p, p0, by omega, (a43.2 _ (by omega)).trans p2⟩
        · rw [a44.2 _ es]
          have b10 := h440 (A 32 j) (by omega) v6 w3
          exact ⟨p, p0, p1, (a43.2 _ (by omega)).trans p2⟩
  · -- trains
    refine RepT.mk' fun q q0 q1 => ?_
    by_cases eq : q = t
    · subst eq
      obtain ⟨u_1, u_2, u_3, u_4, u_5⟩ := gT q t0 t1
      obtain ⟨y1, y2, y3, y4, y5, y6, y7, y8, y9, y10, y11, y12, y13, y14, y15, y16, y17, y18, y19, y20, y21, y22, y23, y24, y25, y26, y27, y28, y29, y30, y31, y32, y33, y34, y35, y36⟩ := u_5 h36
      have wl : wgt A' q (A 44 q + 1).toNat = wgt A q (A 44 q).toNat + cw A x := by
        have e2 : (A 44 q + 1).toNat = (A 44 q).toNat + 1 := by omega
        have e3 : (((A 44 q).toNat : Nat) : Int) = A 44 q := by omega
        rw [e2]
        show wgt A' q (A 44 q).toNat + (if A' 33 (A' 43 (10 * q + (((A 44 q).toNat : Nat) : Int))) = -1 then 2 else 5) = _
        rw [e3, a43.1, hA 33 x (by omega), wgt_loc (A := A) (A' := A') (A 44 q).toNat (fun p hp => by rw [a43.2 _ (by omega), hA 33 _ (by omega)])]
        rfl
      refine ⟨(hB 800 _ (by omega)).trans u_1, (hL _ (by omega)).trans u_2, by rw [hA 36 q (by omega)]; exact u_3, fun w => absurd ((hA 36 q (by omega)).symm.trans w) (by omega), fun _ => ?_⟩
      rw [a44.1, hA 39 q (by omega), hA 37 q (by omega), hA 38 q (by omega), hA 40 q (by omega), hA 41 q (by omega), hA 42 q (by omega), hA 46 q (by omega), hA 47 q (by omega), hA 48 q (by omega), hA 49 q (by omega), hA 50 q (by omega), hA 51 q (by omega), hA 19 0 (by omega), hA 23 0 (by omega), hA 6 0 (by omega), hA 22 _ (by omega), hA 25 _ (by omega), hA 20 _ (by omega), hA 1 0 (by omega)]
      refine ⟨(hB 801 _ (by omega)).trans y1, y2, y3, (hB 802 _ (by omega)).trans y4, y5, y6, y7, (hB 803 _ (by omega)).trans y8, y9, y10, y11, (hB 804 _ (by omega)).trans y12, (hB 805 _ (by omega)).trans y13, y14, y15, (hB 806 _ (by omega)).trans y16, y17, y18, y19, fun w => by omega, h808.1.trans (by rw [y21]; exact wl.symm), by omega, by omega, y24, y25, y26, fun w => by omega, fun n => ?_, y29, y30, fun n => ⟨(hB 812 _ (by omega)).trans (y31 n).1, (hB 813 _ (by omega)).trans (y31 n).2.1, (y31 n).2.2⟩, (hB 814 _ (by omega)).trans y32, y33, y34, fun n => (hB 815 _ (by omega)).trans (y35 n), fun b b0 b1 => ?_⟩
      · obtain ⟨⟨s1, s2, s3, s4⟩, z2, z3, z4⟩ := y28 n
        refine ⟨⟨(h601.2.2 _ (by omega)).trans s1, s2, by rw [hL _ (by omega)]; exact s3, fun j j0 j1 => (hE _ (by omega) j).trans ((s4 j j0 j1).trans (hA 45 _ (by omega)).symm)⟩, (hB 811 _ (by omega)).trans z2, fun j j0 j1 => ?_, fun m hm => ?_⟩
        · rw [hA 45 _ (by omega)]
          exact z3 j j0 j1
        · rw [wend_fr (A := A) (A' := A') (fun j => hA 7 j (by omega)) (fun j => hA 45 j (by omega))]
          exact z4 m hm
      · rw [hA 17 b (by omega), hA 18 b (by omega), hI]
        exact y36 b b0 b1
    · exact TrB.fr (gT.tr q) (fun k h => (by
        by_cases e8 : k = 808
        · subst e8; exact h808.2 _ (by omega)
        · exact hB k _ (by omega))) (h601.2.2 _ (by omega)) (hL _ (by omega)) (hE _ (by omega)) (hI _) (fun a h => (by
        by_cases e8 : a = 44
        · subst e8; exact a44.2 q eq
        · exact hA a q (by omega))) (hA 1 0 (by omega)) ⟨Int.le_of_eq (hA 6 0 (by omega)).symm, Int.le_of_eq (hA 19 0 (by omega)).symm, Int.le_of_eq (hA 23 0 (by omega)).symm⟩ (fun _ _ _ _ => ⟨hA 20 _ (by omega), hA 22 _ (by omega)⟩) (fun _ _ _ _ => hA 25 _ (by omega)) (fun e => wgt_loc (A := A) (A' := A') _ (fun p hp => by have b10 := h440 q q0 q1 e; rw [a43.2 _ (by omega), hA 33 _ (by omega)])) (fun p _ _ => hA 45 _ (by omega)) (fun b _ _ => ⟨hA 7 _ (by omega), hA 7 _ (by omega)⟩) (fun _ b _ _ => ⟨by rw [hA 6 0 (by omega), hA 17 b (by omega)], fun _ _ => hA 18 b (by omega)⟩) (by have := gB.1; omega) q0 q1
  · -- how many
    have zz : RepZx 1 A := gZ
    unfold RepZx at zz ⊢
    have hz : ∀ q : Int, q ≠ t → tz A' q = tz A q := fun q nq => by
      unfold tz
      rw [hA 36 q (by omega), a44.2 q nq]
    have hzt : tz A' t = tz A t + 1 := by
      unfold tz
      rw [hA 36 t (by omega), if_pos h36, if_pos h36, a44.1]
    rw [a29, hA 35 0 (by omega), hA 35 1 (by omega), hA 35 2 (by omega), hA 35 3 (by omega), hA 35 4 (by omega), hA 35 5 (by omega), hA 35 6 (by omega), hA 35 7 (by omega)]
    have g0 := hz 0
    have g1 := hz 1
    have g2 := hz 2
    have g3 := hz 3
    have g4 := hz 4
    have g5 := hz 5
    have ss : t = 0 ∨ t = 1 ∨ t = 2 ∨ t = 3 ∨ t = 4 ∨ t = 5 := by omega
    rcases ss with e | e | e | e | e | e <;> rw [e] at hzt g0 g1 g2 g3 g4 g5 <;> omega
end Cpl3
