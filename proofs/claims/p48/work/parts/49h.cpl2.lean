/-! couple, uncouple -/
section Cpl
variable {c LN LN' : Nat → Nat} {B B' : Fl} {E E' : El} {A A' : Il}
/-- what a car weighs -/
def cw (A : Il) (x : Int) : Int := if A 33 x = -1 then 2 else 5
theorem q_weight {x : Int} {Q : Int → Prop} (hk : kd c (140 + x.toNat) = 3) (h33 : B 303 (140 + x.toNat) = A 33 x) (h : Q (cw A x)) : W_X2_weight c LN (140 + x.toNat) B E Q := by
  unfold cw at h
  refine ⟨hk, ?_⟩
  rw [h33]
  by_cases e : A 33 x = -1
  · rw [if_pos e] at h
    exact bn_T e h
  · rw [if_neg e] at h
    exact bn_F e h
theorem q_bring {x s : Int} {Q : (Nat → Nat) → Fl → El → Prop} {QX : String → (Nat → Nat) → Fl → El → Prop} (hK : RepK c B A) (hx : 0 ≤ x ∧ x < A 29 0) (hs : 0 ≤ s ∧ s < 8)
  (hP : 0 ≤ B 601 (160 + x.toNat) ∧ B 601 (160 + x.toNat) ≤ (LN (160 + x.toNat) : Int) ∧ (B 601 (160 + x.toNat) < (LN (160 + x.toNat) : Int) ∨ (1 ≤ LN (160 + x.toNat) ∧ ((160 ≤ 160 + x.toNat ∧ 160 + x.toNat < 180 ∧ LN (160 + x.toNat) ≤ 512) ∨ (30 ≤ 160 + x.toNat ∧ 160 + x.toNat < 38 ∧ LN (160 + x.toNat) ≤ 32)))))
  (hY : 0 ≤ B 601 (30 + s.toNat) ∧ B 601 (30 + s.toNat) ≤ (LN (30 + s.toNat) : Int) ∧ 1 ≤ LN (30 + s.toNat) ∧ B 601 (30 + s.toNat) ≤ 20)
  (hQ : ∀ (LN' : Nat → Nat) (E' : El), (∀ v, (v ≠ 160 + x.toNat ∧ v ≠ 30 + s.toNat) → LN' v = LN v) → (LN' (160 + x.toNat) = LN (160 + x.toNat) ∨ (LN' (160 + x.toNat) = 2 * LN (160 + x.toNat) ∧ (LN (160 + x.toNat) : Int) ≤ B 601 (160 + x.toNat))) → B 601 (160 + x.toNat) < (LN' (160 + x.toNat) : Int) → B 601 (30 + s.toNat) < (LN' (30 + s.toNat) : Int) →
    (∀ v, (v ≠ 160 + x.toNat ∧ v ≠ 30 + s.toNat) → ∀ j, E' (.inr v) j = E (.inr v) j) → (∀ v j, E' (.inl v) j = E (.inl v) j) → (∀ j, 0 ≤ j → j < B 601 (160 + x.toNat) → E' (.inr (160 + x.toNat)) j = E (.inr (160 + x.toNat)) j) → E' (.inr (160 + x.toNat)) (B 601 (160 + x.toNat)) = s → (∀ j, 0 ≤ j → j < B 601 (30 + s.toNat) → E' (.inr (30 + s.toNat)) j = E (.inr (30 + s.toNat)) j) → E' (.inr (30 + s.toNat)) (B 601 (30 + s.toNat)) = x → Q LN' (u2 (u2 (u2 (u2 B 302 (140 + x.toNat) (-1)) 301 (140 + x.toNat) s) 601 (160 + x.toNat) (B 601 (160 + x.toNat) + 1)) 601 (30 + s.toNat) (B 601 (30 + s.toNat) + 1)) E') : W_X8_bringToYard c 0 x s LN B E Q QX := by
  obtain ⟨⟨k1, k2, k3⟩, -⟩ := id hK
  have hk := kd11 (c := c) (v := 140 + x.toNat) (by omega) (by omega) k3
  have hkp := kdp (c := c) (v := 160 + x.toNat) (by omega) (by omega) k3
  have e1 : 140 + x.toNat + 20 = 160 + x.toNat := by omega
  have e2 : 20 + s.toNat + 10 = 30 + s.toNat := by omega
  have e3 : w32 (w32 (100 * 0) + s) = s := by
    show w32 (0 + s) = s
    rw [Int.zero_add]
    exact w32_id (by unfold rg; omega)
  refine ⟨rfl, q_carOf1 hK hx ⟨hk, hk, ?_⟩⟩
  rw [e1, e3]
  refine ⟨hkp, hkp, hP.1, hP.2.1, hP.2.2, fun LN1 E1 x1 x2 x3 x4 x5 x6 => ⟨rfl, q_stationOf1 hs ⟨kdst (by omega) (by omega), ?_⟩⟩⟩
  rw [e2]
  have e4 : u2 (u2 (u2 B 302 (140 + x.toNat) (-1)) 301 (140 + x.toNat) s) 601 (160 + x.toNat) (B 601 (160 + x.toNat) + 1) 601 (30 + s.toNat) = B 601 (30 + s.toNat) := (u2_v (by omega)).trans ((u2_k (by decide)).trans (u2_k (by decide)))
  have l1 := x1 (30 + s.toNat) (by omega)
  have e6 : u2 (u2 B 302 (140 + x.toNat) (-1)) 301 (140 + x.toNat) s 601 (160 + x.toNat) = B 601 (160 + x.toNat) := (u2_k (by decide)).trans (u2_k (by decide))
  refine ⟨kdyd (by omega) (by omega), kdyd (by omega) (by omega), ?_⟩
  rw [e6, e4]
  refine ⟨hY.1, by rw [l1]; exact hY.2.1, ?_, fun LN2 E2 z1 z2 z3 z4 z5 z6 => hQ LN2 E2 (fun v hv => (z1 v hv.2).trans (x1 v hv.1)) ?_ ?_ z3 (fun v hv j => (z4 _ (by intro w; injection w with w; exact hv.2 w) j).trans (x4 _ (by intro w; injection w with w; exact hv.1 w) j)) (fun v j => (z4 _ (by intro w; cases w) j).trans (x4 _ (by intro w; cases w) j)) (fun j j0 j1 => (z4 _ (by intro w; injection w with w; omega) j).trans (x5 j j0 j1)) ((z4 _ (by intro w; injection w with w; omega) _).trans x6) (fun j j0 j1 => (z5 j j0 j1).trans (x4 _ (by intro w; injection w with w; omega) j)) z6⟩
  · by_cases cc : B 601 (30 + s.toNat) < (LN (30 + s.toNat) : Int)
    · exact Or.inl (by rw [l1]; exact cc)
    · exact Or.inr ⟨by omega, Or.inr ⟨by omega, by omega, by omega⟩⟩
  · rw [z1 _ (by omega)]
    exact x2
  · rw [z1 _ (by omega)]
    exact x3
set_option maxHeartbeats 4000000 in
/-- a car leaves its yard -/
theorem yd_rep {s x p N : Int} (hR : Rep c LN B E A) (hs : 0 ≤ s ∧ s < 8) (hN : A 35 s = N) (hp : 0 ≤ p) (hpN : p < N) (hx : A 34 (20 * s + p) = x) (hB : ∀ q v, q ≠ 601 → B' q v = B q v) (h601 : B' 601 (30 + s.toNat) = N - 1 ∧ ∀ v, v ≠ 30 + s.toNat → B' 601 v = B 601 v)
  (hE : ∀ v, v ≠ 30 + s.toNat → ∀ j, E' (.inr v) j = E (.inr v) j) (hI : ∀ v j, E' (.inl v) j = E (.inl v) j) (hE1 : ∀ j : Int, 0 ≤ j → j < N - 1 → E' (.inr (30 + s.toNat)) j = if j < p then A 34 (20 * s + j) else A 34 (20 * s + (j + 1)))
  (hA' : A' = ui (shf A 34 (20 * s) p (N - 1)) 35 s (N - 1)) : RepV (fun k => k = x) 1 c LN B' E' A' ∧ ∀ s' q : Int, 0 ≤ s' → s' < 8 → 0 ≤ q → q < A' 35 s' → A' 34 (20 * s' + q) ≠ x := by
  have gW0 := hR.2.2.2.2.2.2.2.2.2.2.2.2.2.2.1
  obtain ⟨gG, gS, gB, g0, gH, gE, gC, gN, gK, gL, gR, gD, gY, gU, gW, gP, gT, gX, gZ⟩ := hR.v (X := fun k => k = x)
  have hA : ∀ a j, (a ≠ 34 ∧ a ≠ 35) → A' a j = A a j := fun a j h => by
    rw [hA']
    exact (ui_k (by omega)).trans (shf_k (by omega))
  have a35 : A' 35 s = N - 1 ∧ ∀ j, j ≠ s → A' 35 j = A 35 j := by
    rw [hA']
    exact ⟨ui_s, fun j h => (ui_j h).trans (shf_k (by decide))⟩
  have a34 : ∀ j, (20 * s + p ≤ j ∧ j < 20 * s + (N - 1)) → A' 34 j = A 34 (j + 1) := fun j h => by
    rw [hA']
    exact (ui_k (by decide)).trans (shf_i h.1 h.2)
  have b34 : ∀ j, (j < 20 * s + p ∨ 20 * s + (N - 1) ≤ j) → A' 34 j = A 34 j := fun j h => by
    rw [hA']
    exact (ui_k (by decide)).trans (shf_o h)
  clear hA'
  obtain ⟨⟨r1, r2, r3, r4⟩, r5, r6, r7⟩ := id (gY s hs.1 hs.2)
  have a29 : A' 29 0 = A 29 0 := hA 29 0 (by omega)
  -- where a place's car stood
  have pl : ∀ q : Int, 0 ≤ q → q < N - 1 → ∃ o : Int, 0 ≤ o ∧ o < N ∧ o ≠ p ∧ A' 34 (20 * s + q) = A 34 (20 * s + o) ∧ (q < p → o = q) ∧ (p ≤ q → o = q + 1) := fun q q0 q1 => by
    by_cases cc : q < p
    · exact ⟨q, q0, by omega, by omega, b34 _ (by omega), fun _ => rfl, fun w => by omega⟩
    · exact ⟨q + 1, by omega, by omega, by omega, (a34 _ (by omega)).trans (by rw [show 20 * s + q + 1 = 20 * s + (q + 1) by omega]), fun w => by omega, fun _ => rfl⟩
  have nx : ∀ s' q : Int, 0 ≤ s' → s' < 8 → 0 ≤ q → q < A' 35 s' → A' 34 (20 * s' + q) ≠ x := fun s' q s0 s1 q0 q1 w => by
    obtain ⟨v1, v2, v3, v4, v5⟩ := r7 p hp (by omega)
    by_cases es : s' = s
    · subst es
      rw [a35.1] at q1
      obtain ⟨o, o0, o1, o2, o3, -⟩ := pl q q0 q1
      rw [o3, ← hx] at w
      exact o2 (v5 o o0 (by omega) w)
    · rw [a35.2 _ es] at q1
      have y2 := (gY s' s0 s1).2.1
      rw [b34 _ (by omega)] at w
      obtain ⟨-, -, -, w4⟩ := gY s' s0 s1
      obtain ⟨z1, z2, z3, z4, z5⟩ := w4 q q0 q1
      rw [w, ← hx, v4] at z4
      exact es z4.symm
  refine ⟨⟨gG.fr (fun k v h => hB k v (by omega)) (fun a j h => hA a j (by omega)), gS.fr (fun k v h => hB k v (by omega)) (fun a j h => hA a j (by omega)), gB.fr (fun k v h => hB k v (by omega)) (fun a j h => hA a j (by omega)), g0.fr (fun a j h => hA a j (by omega)), gH.fr (fun k v h => hB k v (by omega)) (fun a j h => hA a j (by omega)), gE.fr (fun k v h => hB k v (by omega)) (fun a j h => hA a j (by omega)), gC.fr (fun k v h => hB k v (by omega)) (fun a j h => hA a j (by omega)), gN.fr (fun k v h => hB k v (by omega)) (fun a j h => hA a j (by omega)), gK.fr (fun k v h => hB k v (by omega)) (fun a j h => hA a j (by omega)), gL.fr (fun k v h => hB k v (by omega)) (fun a j h => hA a j (by omega)), gR.fr (fun j => hI 3 j) (fun j => hI 4 j) (fun a j h => hA a j (by omega)), gD.fz (fun v hv => h601.2 v (by omega)) (fun _ _ => rfl) (fun v _ => hE v (by omega)) (fun a j h => hA a j (by omega)), ?_, gU.fz (fun v _ _ => h601.2 v (by omega)) (fun _ _ _ => rfl) (fun v _ _ => hE v (by omega)) (fun a j h => hA a j (by omega)), ?_, RepPx.fz gP (fun v _ => h601.2 v (by omega)) (fun _ _ => rfl) (fun v _ => hE v (by omega)) (fun a j h => hA a j (by omega)), ?_, gX.fr (fun a j h => hA a j (by omega)), ?_⟩, nx⟩
  · -- yards
    refine RepY.mk' fun q => ?_
    by_cases eq : q = s
    · subst eq
      intro _ _
      rw [a35.1]
      refine ⟨⟨h601.1, by omega, by omega, fun j j0 j1 => ?_⟩, by omega, r6, fun j j0 j1 => ?_⟩
      · rw [hE1 j j0 j1]
        by_cases cc : j < p
        · rw [if_pos cc]
          exact (b34 _ (by omega)).symm
        · rw [if_neg cc]
          exact ((a34 _ (by omega)).trans (by rw [show 20 * q + j + 1 = 20 * q + (j + 1) by omega])).symm
      · obtain ⟨o, o0, o1, o2, o3, o4, o5⟩ := pl j j0 j1
        obtain ⟨v1, v2, v3, v4, v5⟩ := r7 o o0 (by omega)
        rw [o3, a29, hA 32 _ (by omega), hA 31 _ (by omega)]
        refine ⟨v1, v2, v3, v4, fun j2 j20 j21 e => ?_⟩
        obtain ⟨o', o0', o1', o2', o3', o4', o5'⟩ := pl j2 j20 j21
        rw [o3'] at e
        have := v5 o' o0' (by omega) e
        omega
    · intro q0 q1
      have y2 := (gY q q0 q1).2.1
      exact (gY.yy q).fr rfl (h601.2 _ (by omega)) (hE _ (by omega)) (a35.2 q eq) (fun j j0 j1 => b34 _ (by omega)) (by omega) (fun k _ _ _ _ => ⟨hA 32 k (by omega), hA 31 k (by omega)⟩) q0 q1
  · -- where each car is
    intro k k0 k1 nk
    have nk : k ≠ x := nk
    rw [a29] at k1
    obtain ⟨w1, w2⟩ := gW0 k k0 k1
    rw [hA 32 k (by omega), hA 31 k (by omega)]
    refine ⟨fun n => ?_, fun n => ?_⟩
    · obtain ⟨q, q0, q1, q2⟩ := w1 n
      by_cases es : A 31 k = s
      · rw [es, a35.1]
        rw [es] at q1 q2
        have nq : q ≠ p := fun e => nk (by rw [← q2, e, hx])
        by_cases cc : q < p
        · exact ⟨q, q0, by omega, (b34 _ (by omega)).trans q2⟩
        · exact ⟨q - 1, by omega, by omega, (a34 _ (by omega)).trans (by rw [show 20 * s + (q - 1) + 1 = 20 * s + q by omega]; exact q2)⟩
      · rw [a35.2 _ es]
        obtain ⟨v1, v2, v3, v4, v5⟩ := gK.2.2.2.2.2 k k0 k1
        have y2 := (gY _ v3 v4).2.1
        exact ⟨q, q0, q1, (b34 _ (by omega)).trans q2⟩
    · rw [hA 36 _ (by omega), hA 44 _ (by omega)]
      obtain ⟨w3, q, q0, q1, q2⟩ := w2 n
      exact ⟨w3, q, q0, q1, (hA 43 _ (by omega)).trans q2⟩
  · exact RepT.mk' fun q q0 q1 => TrB.fr (gT.tr q) (fun k h => hB k _ (by omega)) (h601.2 _ (by omega)) rfl (hE _ (by omega)) (hI _) (fun a h => hA a q (by omega)) (hA 1 0 (by omega)) ⟨Int.le_of_eq (hA 6 0 (by omega)).symm, Int.le_of_eq (hA 19 0 (by omega)).symm, Int.le_of_eq (hA 23 0 (by omega)).symm⟩ (fun _ _ _ _ => ⟨hA 20 _ (by omega), hA 22 _ (by omega)⟩) (fun _ _ _ _ => hA 25 _ (by omega)) (fun _ => wgt_fr (fun j => hA 33 j (by omega)) (fun j => hA 43 j (by omega)) q _) (fun p _ _ => hA 45 _ (by omega)) (fun b _ _ => ⟨hA 7 _ (by omega), hA 7 _ (by omega)⟩) (fun _ b _ _ => ⟨by rw [hA 6 0 (by omega), hA 17 b (by omega)], fun _ _ => hA 18 b (by omega)⟩) (by have := gB.1; omega) q0 q1
  · -- how many
    have zz : RepZx 0 A := gZ
    unfold RepZx at zz ⊢
    have hz : ∀ q : Int, tz A' q = tz A q := fun q => by
      unfold tz
      rw [hA 36 q (by omega), hA 44 q (by omega)]
    rw [a29, hz, hz, hz, hz, hz, hz]
    have ss : s = 0 ∨ s = 1 ∨ s = 2 ∨ s = 3 ∨ s = 4 ∨ s = 5 ∨ s = 6 ∨ s = 7 := by omega
    obtain ⟨f1, f2⟩ := a35
    have g0 := f2 0
    have g1 := f2 1
    have g2 := f2 2
    have g3 := f2 3
    have g4 := f2 4
    have g5 := f2 5
    have g6 := f2 6
    have g7 := f2 7
    rcases ss with e | e | e | e | e | e | e | e <;> rw [e] at f1 g0 g1 g2 g3 g4 g5 g6 g7 hN <;> omega
end Cpl
