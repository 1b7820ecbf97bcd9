/-! rows copied; ways; plan -/
section Plan
variable {c LN LN' : Nat → Nat} {B B' : Fl} {E E' : El} {A A' : Il}
theorem u2_u2 {k v : Nat} {z z' : Int} : u2 (u2 B k v z) k v z' = u2 B k v z' := by
  funext k' v'
  unfold u2
  by_cases e : k' = k ∧ v' = v
  · rw [if_pos e, if_pos e]
  · rw [if_neg e, if_neg e, if_neg e]
theorem u2_id {k v : Nat} : u2 B k v (B k v) = B := by
  funext k' v'
  unfold u2
  by_cases e : k' = k ∧ v' = v
  · rw [if_pos e, e.1, e.2]
  · rw [if_neg e]
theorem u2_com {k v k1 v1 : Nat} {z z1 : Int} (h : k ≠ k1 ∨ v ≠ v1) : u2 (u2 B k v z) k1 v1 z1 = u2 (u2 B k1 v1 z1) k v z := by
  funext k' v'
  unfold u2
  by_cases e : k' = k ∧ v' = v
  · have e1 : ¬ (k' = k1 ∧ v' = v1) := fun w => by
      rcases h with h | h
      · exact h (e.1.symm.trans w.1)
      · exact h (e.2.symm.trans w.2)
    rw [if_neg e1, if_pos e, if_pos e]
  · rw [if_neg e, if_neg e]
/-- a Row, made anew out of another one -/
theorem q_copy_go {v w N : Nat} {f : Int → Int} {Q : (Nat → Nat) → Fl → El → Prop} (hv : kd c v = 6) (hw : kd c w = 6) (hvw : w ≠ v) (hr : rowR LN B E w (N : Int) f) (hN : N ≤ LN v) (hN5 : N < 5000) (hQ : ∀ E', (∀ a, a ≠ .inr v → ∀ j, E' a j = E a j) → (∀ j : Int, 0 ≤ j → j < (N : Int) → E' (.inr v) j = f j) → Q LN (u2 B 601 v (N : Int)) E') : ∀ (k i : Nat) (E1 : El), i + k = N → (∀ a, a ≠ .inr v → ∀ j, E1 a j = E a j) → (∀ j : Int, 0 ≤ j → j < (i : Int) → E1 (.inr v) j = f j) → W_X5_copy_6 c (k + 1) v w (i : Int) LN (u2 B 601 v (i : Int)) E1 Q
  | 0, i, E1, e, i1, i2 => by
    have e' : i = N := by omega
    subst e'
    refine ⟨hw, br_T ?_ (hQ E1 i1 i2)⟩
    rw [u2_v hvw, hr.1]
    exact Int.le_refl _
  | k + 1, i, E1, e, i1, i2 => by
    have rr : rowR LN (u2 B 601 v (i : Int)) E1 w (N : Int) f := ⟨(u2_v hvw).trans hr.1, hr.2.1, hr.2.2.1, fun p p0 p1 => (i1 _ (by intro x; injection x with x; exact hvw x) p).trans (hr.2.2.2 p p0 p1)⟩
    refine ⟨hw, br_F (by rw [rr.1]; omega) (q_at hw rr ?_)⟩
    rw [if_pos (by omega)]
    have es : u2 B 601 v (i : Int) 601 v = (i : Int) := u2_s
    refine ⟨hv, hv, ?_⟩
    rw [es]
    refine ⟨by omega, by omega, Or.inl (by omega), fun LN1 E2 x1 x2 x3 x4 x5 x6 => ?_⟩
    have eL : LN1 = LN := by
      funext q
      by_cases eq : q = v
      · rw [eq]; omega
      · exact x1 q eq
    rw [eL, u2_u2, w32_up (by omega)]
    rw [show (i : Int) + 1 = ((i + 1 : Nat) : Int) by omega]
    refine q_copy_go hv hw hvw hr hN hN5 hQ k (i + 1) E2 (by omega) (fun a ha j => (x4 a ha j).trans (i1 a ha j)) (fun j j0 j1 => ?_)
    by_cases ej : j = (i : Int)
    · rw [ej]; exact x6
    · rw [x5 j j0 (by omega)]
      exact i2 j j0 (by omega)
theorem q_copy {v w : Nat} {n : Int} {f : Int → Int} {Q : (Nat → Nat) → Fl → El → Prop} (hv : kd c v = 6) (hw : kd c w = 6) (hvw : w ≠ v) (hr : rowR LN B E w n f) (hn : n ≤ (LN v : Int)) (hn5 : n < 5000) (hQ : ∀ E', (∀ a, a ≠ .inr v → ∀ j, E' a j = E a j) → (∀ j : Int, 0 ≤ j → j < n → E' (.inr v) j = f j) → Q LN (u2 B 601 v n) E') : W_X5_copy c v w LN B E Q := by
  obtain ⟨N, eN⟩ := Int.eq_ofNat_of_zero_le hr.2.1
  subst eN
  exact ⟨hv, hv, N + 1, q_copy_go hv hw hvw hr (by omega) (by omega) hQ N 0 E (Nat.zero_add _) (fun _ _ _ => rfl) (fun j j0 j1 => by omega)⟩
theorem m_other {b s : Int} {Q : Int → Prop} (hb : 0 ≤ b ∧ b < 16) (h : Q (oth A b s)) : W_X9_other b s A Q := by
  have e1 : w32 (2 * b) = 2 * b := w32_id (by unfold rg; omega)
  have e2 : w32 (2 * b + 1) = 2 * b + 1 := w32_id (by unfold rg; omega)
  unfold oth at h
  unfold W_X9_other
  rw [e1, e2]
  refine ⟨by omega, by omega, ?_⟩
  by_cases c1 : A 7 (2 * b) = s
  · rw [if_pos c1] at h
    exact bn_T c1 ⟨by omega, by omega, h⟩
  · rw [if_neg c1] at h
    refine bn_F c1 ⟨by omega, by omega, ?_⟩
    by_cases c2 : A 7 (2 * b + 1) = s
    · rw [if_pos c2] at h
      exact bn_T c2 ⟨by omega, by omega, h⟩
    · rw [if_neg c2] at h
      exact bn_F c2 h
theorem q_otherEnd {b s : Int} {Q : Int → Prop} (hB : RepB c B A) (hb : 0 ≤ b ∧ b < A 6 0) (h : Q (oth A b s)) : W_X1_otherEnd c LN (100 + b.toNat) s B E Q := by
  obtain ⟨⟨b1, b2, b3⟩, b4, -⟩ := hB
  obtain ⟨f1, f2, f3, f4, f5, f6, f7, -⟩ := b4 b hb.1 hb.2
  refine ⟨kd8 (by omega) (by omega) b3, ?_⟩
  rw [f1, f2]
  unfold oth at h
  by_cases c1 : A 7 (2 * b) = s
  · rw [if_pos c1] at h
    exact bn_T c1.symm h
  · rw [if_neg c1] at h
    refine bn_F (fun w => c1 w.symm) ?_
    by_cases c2 : A 7 (2 * b + 1) = s
    · rw [if_pos c2] at h
      exact bn_T c2.symm h
    · rw [if_neg c2] at h
      exact bn_F (fun w => c2 w.symm) h
/-- where the other end is, if there is one -/
theorem oth_rg {b s : Int} (hB : RepB c B A) (hb : 0 ≤ b ∧ b < A 6 0) : -1 ≤ oth A b s ∧ oth A b s < 8 ∧ oth A b (-1) = -1 := by
  obtain ⟨-, b4, -⟩ := hB
  obtain ⟨f1, f2, f3, f4, f5, f6, f7, -⟩ := b4 b hb.1 hb.2
  refine ⟨?_, ?_, ?_⟩
  · unfold oth
    split
    · omega
    · split <;> omega
  · unfold oth
    split
    · omega
    · split <;> omega
  · unfold oth
    rw [if_neg (by omega), if_neg (by omega)]
/-- where the way that is drafted leads, n blocks of it from its place i on -/
def dnd (A : Il) : Nat → Int → Int → Int
  | 0, _, s => s
  | n + 1, i, s => dnd A n (i + 1) (oth A (A 53 i) s)
theorem dnd_none (hB : RepB c B A) (hd : ∀ p : Int, 0 ≤ p → p < A 52 0 → 0 ≤ A 53 p ∧ A 53 p < A 6 0) : ∀ (n : Nat) (i : Int), 0 ≤ i → i + n ≤ A 52 0 → dnd A n i (-1) = -1
  | 0, _, _, _ => rfl
  | n + 1, i, i0, i1 => by
    show dnd A n (i + 1) (oth A (A 53 i) (-1)) = -1
    rw [(oth_rg (s := 0) hB (hd i i0 (by omega))).2.2]
    exact dnd_none hB hd n (i + 1) (by omega) (by omega)
theorem dnd_add (A : Il) : ∀ (n m : Nat) (i s : Int), dnd A (n + m) i s = dnd A m (i + n) (dnd A n i s)
  | 0, m, i, s => by
    rw [Nat.zero_add]
    show dnd A m i s = dnd A m (i + 0) s
    rw [Int.add_zero]
  | n + 1, m, i, s => by
    rw [show n + 1 + m = (n + m) + 1 by omega]
    show dnd A (n + m) (i + 1) (oth A (A 53 i) s) = dnd A m (i + ((n + 1 : Nat) : Int)) (dnd A n (i + 1) (oth A (A 53 i) s))
    rw [dnd_add A n m, show i + 1 + (n : Int) = i + ((n + 1 : Nat) : Int) by omega]
theorem dnd_fr (h : ∀ j, A' 53 j = A 53 j) (h7 : ∀ j, A' 7 j = A 7 j) : ∀ (n : Nat) (i s : Int), dnd A' n i s = dnd A n i s
  | 0, _, _ => rfl
  | n + 1, i, s => by
    show dnd A' n (i + 1) (oth A' (A' 53 i) s) = dnd A n (i + 1) (oth A (A 53 i) s)
    rw [h, oth_fr h7]
    exact dnd_fr h h7 n (i + 1) _
theorem m_end_go {x1 x2 x3 : Int} {Q : Int → Il → Prop} {N : Nat} (hB : RepB c B A) (hN : A 52 0 = (N : Int)) (hN8 : N ≤ 8) (hd : ∀ p : Int, 0 ≤ p → p < A 52 0 → 0 ≤ A 53 p ∧ A 53 p < A 6 0) : ∀ (k n : Nat) (s : Int), n + k = N → W_X9_plan_98 x1 x2 x3 (dnd A k n s) A Q → W_X9_plan_62 (k + 1) x1 x2 x3 s (n : Int) A Q
  | 0, n, s, e, h => br_T (by omega) h
  | k + 1, n, s, e, h => by
    refine br_F (by omega) ?_
    have hb := hd n (by omega) (by omega)
    have b16 := hB.1
    by_cases c1 : s = -1
    · rw [c1, dnd_none hB hd (k + 1) n (by omega) (by omega), ← c1] at h
      exact br_T c1 h
    · refine br_F c1 ⟨by omega, by omega, m_other ⟨hb.1, by omega⟩ ?_⟩
      show W_X9_plan_62 (k + 1) x1 x2 x3 (oth A (A 53 n) s) (w32 ((n : Int) + 1)) A Q
      rw [w32_up (by omega)]
      refine m_end_go hB hN hN8 hd k (n + 1) _ (by omega) ?_
      rw [show ((n + 1 : Nat) : Int) = (n : Int) + 1 by omega]
      exact h
theorem q_end_go {Q : Int → Prop} {QX : String → Fl → El → Prop} {N : Nat} (hB : RepB c B A) (hr : rowR LN B E 6 (A 52 0) (fun p => A 53 p)) (hN : A 52 0 = (N : Int)) (hN8 : N ≤ 8) (hd : ∀ p : Int, 0 ≤ p → p < A 52 0 → 0 ≤ A 53 p ∧ A 53 p < A 6 0) : ∀ (k n : Nat) (s : Int), n + k = N → Q (dnd A k n s) → W_X8_endOfDraft_4 c LN (k + 1) 0 s (n : Int) B E Q QX
  | 0, n, s, e, h => ⟨rfl, rfl, br_T (by rw [hr.1]; omega) h⟩
  | k + 1, n, s, e, h => by
    refine ⟨rfl, rfl, br_F (by rw [hr.1]; omega) ?_⟩
    have hb := hd n (by omega) (by omega)
    by_cases c1 : s = -1
    · rw [c1, dnd_none hB hd (k + 1) n (by omega) (by omega), ← c1] at h
      exact br_T c1 h
    · refine br_F c1 (q_at rfl hr ?_)
      rw [if_pos (by omega)]
      refine q_blockOf1 hB hb ⟨kd8 (by omega) (by have := hB.1; omega) hB.1.2.2, q_otherEnd hB hb ?_⟩
      rw [w32_up (by omega)]
      refine q_end_go hB hr hN hN8 hd k (n + 1) _ (by omega) ?_
      rw [show ((n + 1 : Nat) : Int) = (n : Int) + 1 by omega]
      exact h
/-- the way, its first n blocks out of what is drafted -/
def cpw (A : Il) (t n : Int) : Il := fun a j => if a = 45 ∧ 8 * t ≤ j ∧ j < 8 * t + n then A 53 (j - 8 * t) else A a j
theorem cpw_0 {t : Int} : cpw A t 0 = A := by
  funext a j
  exact if_neg (fun w => by omega)
theorem cpw_s {t n : Int} (hn : 0 ≤ n) : ui (cpw A t n) 45 (8 * t + n) (A 53 n) = cpw A t (n + 1) := by
  funext a j
  show (if a = 45 ∧ j = 8 * t + n then A 53 n else if a = 45 ∧ 8 * t ≤ j ∧ j < 8 * t + n then A 53 (j - 8 * t) else A a j) = if a = 45 ∧ 8 * t ≤ j ∧ j < 8 * t + (n + 1) then A 53 (j - 8 * t) else A a j
  by_cases e : a = 45 ∧ j = 8 * t + n
  · rw [if_pos e, if_pos ⟨e.1, by omega, by omega⟩, e.2, show 8 * t + n - 8 * t = n by omega]
  · rw [if_neg e]
    by_cases e2 : a = 45 ∧ 8 * t ≤ j ∧ j < 8 * t + n
    · rw [if_pos e2, if_pos ⟨e2.1, e2.2.1, by omega⟩]
    · rw [if_neg e2, if_neg (fun w => by
        by_cases e3 : j = 8 * t + n
        · exact e ⟨w.1, e3⟩
        · exact e2 ⟨w.1, w.2.1, by omega⟩)]
theorem m_way_go {x1 x2 x3 x4 : Int} {Q : Int → Il → Prop} {N : Nat} (hx : 0 ≤ x1 ∧ x1 < 6) (hN : A 52 0 = (N : Int)) (hN8 : N ≤ 8) (h : Q x4 (sc (ui (ui (ui (ui (ui (cpw A x1 (A 52 0)) 46 x1 0) 47 x1 (A 52 0)) 48 x1 x2) 49 x1 x3) 39 x1 1) 52 0)) : ∀ (k n : Nat), n + k = N → W_X9_plan_128 (k + 1) x1 x2 x3 x4 (n : Int) (cpw A x1 (n : Int)) Q
  | 0, n, e => by
    have e' : n = N := by omega
    subst e'
    rw [← hN]
    refine br_T (Int.le_refl _) ⟨hx.1, hx.2, hx.1, hx.2, hx.1, hx.2, hx.1, hx.2, hx.1, hx.2, h⟩
  | k + 1, n, e => by
    have e1 : w32 (8 * x1) = 8 * x1 := w32_id (by unfold rg; omega)
    have e2 : w32 (8 * x1 + (n : Int)) = 8 * x1 + (n : Int) := w32_id (by unfold rg; omega)
    refine br_F (by show ¬ A 52 0 ≤ _; omega) ?_
    rw [e1, e2, w32_up (by omega)]
    refine ⟨by omega, by omega, by omega, by omega, ?_⟩
    show W_X9_plan_128 (k + 1) x1 x2 x3 x4 ((n + 1 : Nat) : Int) (ui (cpw A x1 (n : Int)) 45 (8 * x1 + (n : Int)) (A 53 (n : Int))) Q
    rw [cpw_s (by omega), show (n : Int) + 1 = ((n + 1 : Nat) : Int) by omega]
    exact m_way_go hx hN hN8 h k (n + 1) (by omega)
theorem wend_dnd {t N : Int} (h : ∀ p : Int, 0 ≤ p → p < N → A' 45 (8 * t + p) = A 53 p) (h7 : ∀ j, A' 7 j = A 7 j) : ∀ (n : Nat) (i s : Int), 0 ≤ i → i + n ≤ N → wend A' t n i s = dnd A n i s
  | 0, _, _, _, _ => rfl
  | n + 1, i, s, i0, i1 => by
    show wend A' t n (i + 1) (oth A' (A' 45 (8 * t + i)) s) = dnd A n (i + 1) (oth A (A 53 i) s)
    rw [h i i0 (by omega), oth_fr h7]
    exact wend_dnd h h7 n (i + 1) _ (by omega) (by omega)
set_option maxHeartbeats 4000000 in
theorem plan_rep {t n mi ra : Int} (hR : Rep c LN B E A) (t0 : 0 ≤ t) (t1 : t < 6) (h36 : A 36 t = 1) (hs : A 39 t = 0 ∨ A 39 t = 1) (hn : A 52 0 = n) (n1 : 0 < n) (n8 : n ≤ 8) (hend : ∀ m : Nat, (m : Int) ≤ n → dnd A m 0 (A 40 t) ≠ -1) (hra : 0 ≤ ra ∧ ra ≤ 9)
  (hB : ∀ q v, (q ≠ 811 ∧ q ≠ 812 ∧ q ≠ 813 ∧ q ≠ 801 ∧ q ≠ 601) → B' q v = B q v) (hBt : ∀ q v, (v ≠ 40 + t.toNat ∧ q ≠ 601) → B' q v = B q v)
  (hb : B' 811 (40 + t.toNat) = 0 ∧ B' 812 (40 + t.toNat) = mi ∧ B' 813 (40 + t.toNat) = ra ∧ B' 801 (40 + t.toNat) = 1)
  (h601 : B' 601 (60 + t.toNat) = n ∧ B' 601 6 = 0 ∧ ∀ v, (v ≠ 60 + t.toNat ∧ v ≠ 6) → B' 601 v = B 601 v)
  (hE : ∀ v, v ≠ 60 + t.toNat → ∀ j, E' (.inr v) j = E (.inr v) j) (hI : ∀ v j, E' (.inl v) j = E (.inl v) j) (hE1 : ∀ j : Int, 0 ≤ j → j < n → E' (.inr (60 + t.toNat)) j = A 53 j)
  (hA : ∀ a j, (a ≠ 0 ∧ a ≠ 45 ∧ a ≠ 46 ∧ a ≠ 47 ∧ a ≠ 48 ∧ a ≠ 49 ∧ a ≠ 39 ∧ a ≠ 52) → A' a j = A a j) (hAt : ∀ a j, (j ≠ t ∧ a ≠ 0 ∧ a ≠ 45 ∧ a ≠ 52) → A' a j = A a j)
  (ha : A' 46 t = 0 ∧ A' 47 t = n ∧ A' 48 t = mi ∧ A' 49 t = ra ∧ A' 39 t = 1 ∧ A' 52 0 = 0)
  (h45 : (∀ p : Int, 0 ≤ p → p < n → A' 45 (8 * t + p) = A 53 p) ∧ ∀ j : Int, ¬ (8 * t ≤ j ∧ j < 8 * t + n) → A' 45 j = A 45 j) : Rep c LN B' E' A' := by
  obtain ⟨gG, gS, gB, g0, gH, gE, gC, gN, gK, gL, gR, gD, gY, gU, gW, gP, gT, gX, gZ⟩ := id hR
  obtain ⟨d1, d2, d3, d4, d5⟩ := id gD
  obtain ⟨x1, x2, x3⟩ := id gX
  have l2 := (gT t t0 t1).2.1
  have b16 := gB.1
  have hz : ∀ q : Int, 0 ≤ q → q < 6 → tz A' q = tz A q := fun q _ _ => by
    unfold tz
    rw [hA 36 q (by omega), hA 44 q (by omega)]
  refine ⟨gG.fr (fun k v h => hB k v (by omega)) (fun a j h => hA a j (by omega)), gS.fr (fun k v h => hB k v (by omega)) (fun a j h => hA a j (by omega)), gB.fr (fun k v h => hB k v (by omega)) (fun a j h => hA a j (by omega)), g0.fr (fun a j h => hA a j (by omega)), gH.fr (fun k v h => hB k v (by omega)) (fun a j h => hA a j (by omega)), gE.fr (fun k v h => hB k v (by omega)) (fun a j h => hA a j (by omega)), gC.fr (fun k v h => hB k v (by omega)) (fun a j h => hA a j (by omega)), gN.fr (fun k v h => hB k v (by omega)) (fun a j h => hA a j (by omega)), gK.fr (fun k v h => hB k v (by omega)) (fun a j h => hA a j (by omega)), gL.fr (fun k v h => hB k v (by omega)) (fun a j h => hA a j (by omega)), gR.fr (fun j => hI 3 j) (fun j => hI 4 j) (fun a j h => hA a j (by omega)), ?_, gY.fz (fun v _ _ => h601.2.2 v (by omega)) (fun _ _ _ => rfl) (fun v _ _ => hE v (by omega)) (fun a j h => hA a j (by omega)), gU.fz (fun v _ _ => h601.2.2 v (by omega)) (fun _ _ _ => rfl) (fun v _ _ => hE v (by omega)) (fun a j h => hA a j (by omega)), gW.fr (fun a j h => hA a j (by omega)), gP.fz (fun v _ => h601.2.2 v (by omega)) (fun _ _ => rfl) (fun v _ => hE v (by omega)) (fun a j h => hA a j (by omega)), ?_, ?_, gZ.z (fun j => hA 35 j (by omega)) (hA 29 0 (by omega)) hz⟩
  · -- what is drafted
    refine ⟨d1, d2, ?_, ?_, ?_⟩
    · rw [ha.2.2.2.2.2]
      exact ⟨h601.2.1, Int.le_refl _, by omega, fun p p0 p1 => by omega⟩
    · rw [ha.2.2.2.2.2]
      exact fun p p0 p1 => by omega
    · rw [h601.2.2 7 (by omega)]
      exact d5
  · -- trains
    refine RepT.mk' fun q => ?_
    by_cases eq : q = t
    · subst eq
      intro _ _
      obtain ⟨u_1, u_2, u_3, u_4, u_5⟩ := gT q t0 t1
      obtain ⟨y1, y2, y3, y4, y5, y6, y7, y8, y9, y10, y11, y12, y13, y14, y15, y16, y17, y18, y19, y20, y21, y22, y23, y24, y25, y26, y27, y28, y29, y30, y31, y32, y33, y34, y35, y36⟩ := u_5 h36
      obtain ⟨f1, f2, f3, f4, f5, f6⟩ := ha
      obtain ⟨g1, g2, g3, g4⟩ := hb
      refine ⟨(hB 800 _ (by omega)).trans u_1, u_2, Or.inr ((hA 36 q (by omega)).trans h36), fun w => absurd ((hA 36 q (by omega)).symm.trans w) (by omega), fun _ => ?_⟩
      rw [f1, f2, f3, f4, f5, hA 37 q (by omega), hA 38 q (by omega), hA 40 q (by omega), hA 41 q (by omega), hA 44 q (by omega), hA 50 q (by omega), hA 51 q (by omega), hA 19 0 (by omega), hA 23 0 (by omega), hA 6 0 (by omega), hA 22 _ (by omega), hA 25 _ (by omega), hA 20 _ (by omega), hA 1 0 (by omega)]
      have n41 : A 41 q = -1 := y17.2 (by omega)
      refine ⟨g4, by decide, by decide, (hB 802 _ (by omega)).trans y4, y5, y6, y7, (hB 803 _ (by omega)).trans y8, y9, y10, y11, (hB 804 _ (by omega)).trans y12, (hB 805 _ (by omega)).trans (y13.trans ((if_neg (by omega)).trans (if_neg (by decide)).symm)), y14, y15, (hB 806 _ (by omega)).trans y16, ⟨fun _ => by decide, fun _ => n41⟩, y18, y19, fun w => absurd w (by decide), (hB 808 _ (by omega)).trans (y21.trans (wgt_fr (A := A) (A' := A') (fun j => hA 33 j (by omega)) (fun j => hA 43 j (by omega)) q _).symm), y22, y23, by omega, by omega, by omega, fun w => absurd w (by decide), fun _ => ⟨⟨h601.1, by omega, by omega, fun p p0 p1 => (hE1 p p0 p1).trans (h45.1 p p0 p1).symm⟩, g1, fun p p0 p1 => ?_, fun m hm => ?_⟩, fun w => absurd w (by decide), fun _ => n1, fun _ => ⟨g2, g3, hra.1, hra.2⟩, (hB 814 _ (by omega)).trans y32, y33, y34, fun w => (hB 815 _ (by omega)).trans (y35 w), fun b hb0 hb1 => ?_⟩
      · rw [h45.1 p p0 p1]
        exact d4 p p0 (by omega)
      · rw [wend_dnd (A := A) (N := n) h45.1 (fun j => hA 7 j (by omega)) m 0 _ (Int.le_refl _) (by omega)]
        exact hend m (by omega)
      · have r := y36 b hb0 hb1
        rw [hA 17 b (by omega), hA 18 b (by omega), hI]
        by_cases cc : b < A 6 0 ∧ A 17 b = q
        · rw [if_pos ⟨cc.1, cc.2, fun w => by omega⟩] at r
          rw [if_pos ⟨cc.1, cc.2, fun w => by omega⟩]
          exact r
        · rw [if_neg (fun w => cc ⟨w.1, w.2.1⟩)] at r
          rw [if_neg (fun w => cc ⟨w.1, w.2.1⟩)]
          exact fun _ => r (by omega)
    · intro q0 q1
      exact TrB.fr (gT.tr q) (fun k' hk' => hBt k' _ (by omega)) (h601.2.2 _ (by omega)) rfl (hE _ (by omega)) (hI _) (fun a h => hAt a q (by omega)) (hA 1 0 (by omega)) ⟨Int.le_of_eq (hA 6 0 (by omega)).symm, Int.le_of_eq (hA 19 0 (by omega)).symm, Int.le_of_eq (hA 23 0 (by omega)).symm⟩ (fun _ _ _ _ => ⟨hA 20 _ (by omega), hA 22 _ (by omega)⟩) (fun _ _ _ _ => hA 25 _ (by omega)) (fun _ => wgt_fr (fun j => hA 33 j (by omega)) (fun j => hA 43 j (by omega)) q _) (fun p _ _ => h45.2 _ (by omega)) (fun b _ _ => ⟨hA 7 _ (by omega), hA 7 _ (by omega)⟩) (fun _ b _ _ => ⟨by rw [hA 6 0 (by omega), hA 17 b (by omega)], fun _ _ => hA 18 b (by omega)⟩) (by omega) q0 q1
  · -- who is held by whom
    refine ⟨fun j j0 j1 w => ?_, fun j j0 j1 w => ?_, fun j j0 j1 w => ?_⟩
    · rw [hA 19 0 (by omega)] at j1
      rw [hA 22 j (by omega)] at w ⊢
      rw [hA 36 _ (by omega), hA 37 _ (by omega)]
      exact x1 j j0 j1 w
    · rw [hA 23 0 (by omega)] at j1
      rw [hA 25 j (by omega)] at w ⊢
      rw [hA 36 _ (by omega), hA 38 _ (by omega)]
      exact x2 j j0 j1 w
    · rw [hA 6 0 (by omega)] at j1
      rw [hA 17 j (by omega)] at w ⊢
      rw [hA 36 _ (by omega)]
      obtain ⟨w1, w2⟩ := x3 j j0 j1 w
      refine ⟨w1, ?_⟩
      by_cases et : A 17 j = t
      · rw [et, ha.2.2.2.2.1]; decide
      · rw [hAt 39 _ (by omega)]; exact w2
set_option maxHeartbeats 4000000 in
theorem sim_plan {a0 a1 a2 : Int} (hR : Rep c LN B E A) (hp : pz A ≤ 1022) (hr0 : rg a0) (hr1 : rg a1) (hr2 : rg a2) : ∃ (ans : Int) (A' : Il), (∀ Q, Q ans A' → W_X9_plan a0 a1 a2 A Q) ∧ pz A' ≤ pz A + 2 ∧ W_X8_plan c  0 a0 a1 a2 LN B E (fun z LN' B' E' => A' 0 0 = 0 ∧ z = ans ∧ Rep c LN' B' E' A') (fun X9 LN' B' E' => ((X9 = "java/lang/IndexOutOfBoundsException" ∧ A' 0 0 = 1) ∨ (X9 = "java/lang/IllegalArgumentException" ∧ A' 0 0 = 2) ∨ (X9 = "java/lang/IllegalStateException" ∧ A' 0 0 = 3)) ∧ Rep c LN' B' E' A') := by
  obtain ⟨gG, gS, gB, g0, gH, gE, gC, gN, gK, gL, gR, gD, gY, gU, gW, gP, gT, gX, gZ⟩ := id hR
  obtain ⟨d1, d2, d3, d4, d5⟩ := id gD
  obtain ⟨D, eD⟩ := Int.eq_ofNat_of_zero_le d3.2.1
  have dl := d3.2.2.1
  have D8 : D ≤ 8 := by omega
  by_cases h1 : 0 ≤ a0 ∧ a0 < 6 ∧ ¬ A 36 a0 = 0
  · have hk := kdtr (c := c) (v := 40 + a0.toNat) (by omega) (by omega)
    obtain ⟨t1, t2, t3, t4, t5⟩ := gT a0 h1.1 h1.2.1
    have h36 : A 36 a0 = 1 := by omega
    obtain ⟨y1, y2, y3, y4, y5, y6, y7, y8, y9, y10, y11, y12, y13, y14, y15, y16, y17, y18, y19, y20, y21, y22, y23, y24, y25, y26, y27, y28, y29, y30, y31, y32, y33, y34, y35, y36⟩ := t5 h36
    by_cases hm : 0 ≤ a1 ∧ a1 ≤ 20000
    · by_cases hq : 0 ≤ a2 ∧ a2 ≤ 9
      · by_cases can : (A 39 a0 = 0 ∨ A 39 a0 = 1) ∧ ¬ A 52 0 = 0 ∧ ¬ dnd A D 0 (A 40 a0) = -1
        · obtain ⟨g1, g2, g3⟩ := can
          refine ⟨dnd A D 0 (A 40 a0), sc (ui (ui (ui (ui (ui (cpw (sc A 0 0) a0 (A 52 0)) 46 a0 0) 47 a0 (A 52 0)) 48 a0 a1) 49 a0 a2) 39 a0 1) 52 0, fun Q hQ => ?_, ?_, rfl, q_trainOf1 gT h1 (q_range1 hm (q_range1 hq ⟨hk, q_X7stands gT h1.1 h1.2.1 h36 ?_⟩))⟩
          · refine m_isTrain1 h1 (bn_F (by decide) (m_in1 hm (br_F (by decide) (m_in1 hq (bn_F (by decide) ?_)))))
            unfold W_X9_plan_39
            refine br_T le0 ⟨h1.1, h1.2.1, D + 1, m_end_go (A := sc A 0 0) (B := B) (c := c) (gB.fr (fun _ _ _ => rfl) (fun a j h => sc_k (by omega))) eD D8 d4 D 0 _ (Nat.zero_add _) ?_⟩
            have ed : dnd (sc A 0 0) D ((0 : Nat) : Int) (sc A 0 0 40 a0) = dnd A D 0 (A 40 a0) := dnd_fr (A := A) (A' := sc A 0 0) (fun _ => rfl) (fun _ => rfl) D ((0 : Nat) : Int) _
            rw [ed]
            refine m_stands ⟨h1.1, h1.2.1⟩ ?_
            rw [if_pos (show sc A 0 0 39 a0 = 0 ∨ sc A 0 0 39 a0 = 1 from g1)]
            refine br_F (by decide) (br_F g2 (bn_F g3 ⟨D + 1, ?_⟩))
            have w := m_way_go (A := sc A 0 0) (x1 := a0) (x2 := a1) (x3 := a2) (x4 := dnd A D 0 (A 40 a0)) (Q := Q) ⟨h1.1, h1.2.1⟩ eD D8 hQ D 0 (Nat.zero_add _)
            rw [show ((0 : Nat) : Int) = 0 from rfl, cpw_0] at w
            exact w
          · exact pz_fr rfl (fun _ => rfl) (fun _ => rfl)
          · rw [if_pos g1]
            refine br_F (by decide) ⟨rfl, br_F (by rw [d3.1]; omega) ?_⟩
            unfold W_X8_plan_45
            refine q_state1 ⟨hk, rfl, D + 1, ?_⟩
            rw [y13, if_neg (by omega)]
            refine q_end_go gB d3 eD D8 d4 D 0 _ (Nat.zero_add _) ?_
            rw [show ((0 : Nat) : Int) = 0 from rfl]
            refine br_F g3 ?_
            unfold W_X8_plan_70
            refine q_state1 ⟨hk, rfl, by exact kdtw (by omega) (by omega), q_copy (n := A 52 0) (f := fun p => A 53 p) (kdtw (by omega) (by omega)) rfl (by omega) d3 (by rw [show 40 + a0.toNat + 20 = 60 + a0.toNat by omega, t2]; omega) (by omega) (fun E' i1 i2 => ⟨hk, rfl, rfl, rfl, rfl, rfl, ?_⟩)⟩
            have e60 : 40 + a0.toNat + 20 = 60 + a0.toNat := by omega
            rw [e60] at i1 i2 ⊢
            refine plan_rep (t := a0) (n := A 52 0) (mi := a1) (ra := a2) hR h1.1 h1.2.1 h36 g1 rfl (by omega) (by omega) (fun m hm2 w => g3 ?_) hq (fun q v h => (u2_k (by omega)).trans ((u2_k (by omega)).trans ((u2_k (by omega)).trans ((u2_k (by omega)).trans ((u2_k (by omega)).trans ((u2_k (by omega)).trans (rfl))))))) (fun q v h => (u2_k (by omega)).trans ((u2_w (by omega)).trans ((u2_w (by omega)).trans ((u2_w (by omega)).trans ((u2_w (by omega)).trans ((u2_k (by omega)).trans (rfl))))))) ⟨(u2_k (by decide)).trans ((u2_k (by decide)).trans ((u2_k (by decide)).trans ((u2_k (by decide)).trans (u2_s)))), (u2_k (by decide)).trans ((u2_k (by decide)).trans ((u2_k (by decide)).trans (u2_s))), (u2_k (by decide)).trans ((u2_k (by decide)).trans (u2_s)), (u2_k (by decide)).trans (u2_s)⟩ ⟨(u2_v (by omega)).trans ((u2_k (by decide)).trans ((u2_k (by decide)).trans ((u2_k (by decide)).trans ((u2_k (by decide)).trans (u2_s))))), u2_s, fun v h => (u2_w (by omega)).trans ((u2_k (by omega)).trans ((u2_k (by omega)).trans ((u2_k (by omega)).trans ((u2_k (by omega)).trans ((u2_w (by omega)).trans (rfl))))))⟩ (fun v hv => i1 (.inr v) (by intro w; injection w with w; exact hv w)) (fun v => i1 (.inl v) (by intro w; cases w)) i2 (fun a j h => (sc_k (by omega)).trans ((ui_k (by omega)).trans ((ui_k (by omega)).trans ((ui_k (by omega)).trans ((ui_k (by omega)).trans ((ui_k (by omega)).trans ((if_neg (fun w => absurd w.1 (by omega))).trans ((sc_k (by omega)).trans (rfl))))))))) (fun a j h => (sc_k (by omega)).trans ((ui_w (by omega)).trans ((ui_w (by omega)).trans ((ui_w (by omega)).trans ((ui_w (by omega)).trans ((ui_w (by omega)).trans ((if_neg (fun w => absurd w.1 (by omega))).trans ((sc_k (by omega)).trans (rfl))))))))) ⟨(sc_k (by decide)).trans ((ui_k (by decide)).trans ((ui_k (by decide)).trans ((ui_k (by decide)).trans ((ui_k (by decide)).trans (ui_s))))), (sc_k (by decide)).trans ((ui_k (by decide)).trans ((ui_k (by decide)).trans ((ui_k (by decide)).trans (ui_s)))), (sc_k (by decide)).trans ((ui_k (by decide)).trans ((ui_k (by decide)).trans (ui_s))), (sc_k (by decide)).trans ((ui_k (by decide)).trans (ui_s)), (sc_k (by decide)).trans (ui_s), sc_s⟩ ⟨fun p p0 p1 => (sc_k (by decide)).trans ((ui_k (by decide)).trans ((ui_k (by decide)).trans ((ui_k (by decide)).trans ((ui_k (by decide)).trans ((ui_k (by decide)).trans ((if_pos ⟨rfl, by omega, by omega⟩).trans ((sc_k (by decide)).trans (by rw [show 8 * a0 + p - 8 * a0 = p by omega])))))))), fun j hj => (sc_k (by decide)).trans ((ui_k (by decide)).trans ((ui_k (by decide)).trans ((ui_k (by decide)).trans ((ui_k (by decide)).trans ((ui_k (by decide)).trans ((if_neg (fun w => hj w.2)).trans (sc_k (by decide))))))))⟩
            · rw [show D = m + (D - m) by omega, dnd_add, w]
              exact dnd_none gB d4 _ _ (by omega) (by omega)
        · refine ⟨0, sc (sc A 0 0) 0 3, fun Q hQ => ?_, pz_thr, rfl, q_trainOf1 gT h1 (q_range1 hm (q_range1 hq ⟨hk, q_X7stands gT h1.1 h1.2.1 h36 ?_⟩))⟩
          · refine m_isTrain1 h1 (bn_F (by decide) (m_in1 hm (br_F (by decide) (m_in1 hq (bn_F (by decide) ?_)))))
            unfold W_X9_plan_39
            refine br_T le0 ⟨h1.1, h1.2.1, D + 1, m_end_go (A := sc A 0 0) (B := B) (c := c) (gB.fr (fun _ _ _ => rfl) (fun a j h => sc_k (by omega))) eD D8 d4 D 0 _ (Nat.zero_add _) ?_⟩
            have ed : dnd (sc A 0 0) D ((0 : Nat) : Int) (sc A 0 0 40 a0) = dnd A D 0 (A 40 a0) := dnd_fr (A := A) (A' := sc A 0 0) (fun _ => rfl) (fun _ => rfl) D ((0 : Nat) : Int) _
            rw [ed]
            refine m_stands ⟨h1.1, h1.2.1⟩ ?_
            by_cases g1 : A 39 a0 = 0 ∨ A 39 a0 = 1
            · rw [if_pos (show sc A 0 0 39 a0 = 0 ∨ sc A 0 0 39 a0 = 1 from g1)]
              exact br_F (by decide) ⟨fun _ => hQ, fun g2 => ⟨fun g3 => absurd ⟨g1, g2, g3⟩ can, fun _ => hQ⟩⟩
            · rw [if_neg (show ¬ (sc A 0 0 39 a0 = 0 ∨ sc A 0 0 39 a0 = 1) from g1)]
              exact br_T rfl hQ
          · have fin : ∀ (X : String), X = "java/lang/IllegalStateException" → (((X = "java/lang/IndexOutOfBoundsException" ∧ sc (sc A 0 0) 0 3 0 0 = 1) ∨ (X = "java/lang/IllegalArgumentException" ∧ sc (sc A 0 0) 0 3 0 0 = 2) ∨ (X = "java/lang/IllegalStateException" ∧ sc (sc A 0 0) 0 3 0 0 = 3)) ∧ Rep c LN B E (sc (sc A 0 0) 0 3)) := fun X hX => ⟨Or.inr (Or.inr ⟨hX, rfl⟩), hR.thr.thr⟩
            by_cases g1 : A 39 a0 = 0 ∨ A 39 a0 = 1
            · rw [if_pos g1]
              refine br_F (by decide) ⟨rfl, fun _ => ?_, fun g2 => ?_⟩
              · unfold W_X8_plan_44 W_X8_plan_45
                exact q_state0 (fin _ rfl)
              · rw [d3.1] at g2
                unfold W_X8_plan_45
                refine q_state1 ⟨hk, rfl, D + 1, ?_⟩
                rw [y13, if_neg (by omega)]
                refine q_end_go gB d3 eD D8 d4 D 0 _ (Nat.zero_add _) ?_
                rw [show ((0 : Nat) : Int) = 0 from rfl]
                refine ⟨fun _ => ?_, fun g3 => absurd ⟨g1, by omega, g3⟩ can⟩
                unfold W_X8_plan_70
                exact q_state0 (fin _ rfl)
            · rw [if_neg g1]
              refine br_T rfl ?_
              unfold W_X8_plan_44 W_X8_plan_45
              exact q_state0 (fin _ rfl)
      · exact ⟨0, sc A 0 2, fun Q hQ => m_isTrain1 h1 (bn_F (by decide) (m_in1 hm (br_F (by decide) (m_in0 hq (bn_T rfl (by unfold W_X9_plan_34 W_X9_plan_39; exact br_F no2 hQ)))))), pz_thr, rfl, q_trainOf1 gT h1 (q_range1 hm (q_range0 hq ⟨Or.inr (Or.inl ⟨rfl, rfl⟩), hR.thr⟩))⟩
    · exact ⟨0, sc A 0 2, fun Q hQ => m_isTrain1 h1 (bn_F (by decide) (m_in0 hm (br_T rfl (by unfold W_X9_plan_34 W_X9_plan_39; exact br_F no2 hQ)))), pz_thr, rfl, q_trainOf1 gT h1 (q_range0 hm ⟨Or.inr (Or.inl ⟨rfl, rfl⟩), hR.thr⟩)⟩
  · exact ⟨0, sc A 0 1, fun Q hQ => m_isTrain0 h1 (bn_T rfl (by unfold W_X9_plan_39; exact br_F no1 hQ)), pz_thr, rfl, q_trainOf0 gT h1 ⟨Or.inl ⟨rfl, rfl⟩, hR.thr⟩⟩
end Plan
