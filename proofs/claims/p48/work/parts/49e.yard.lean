/-! a car comes to a yard, leaves one -/
section Yard
variable {c LN LN' : Nat → Nat} {B B' : Fl} {E E' : El} {A A' : Il}
/-- each car is where it is said to be, but for those in X -/
def RepWx (X : Int → Prop) (A : Il) : Prop := ∀ k : Int, 0 ≤ k → k < A 29 0 → ¬ X k → (A 32 k = -1 → ∃ p : Int, 0 ≤ p ∧ p < A 35 (A 31 k) ∧ A 34 (20 * A 31 k + p) = k) ∧ (A 32 k ≠ -1 → A 36 (A 32 k) = 1 ∧ ∃ p : Int, 0 ≤ p ∧ p < A 44 (A 32 k) ∧ A 43 (10 * A 32 k + p) = k)
/-- papers; of those in X the last ones may say what they like -/
def RepPx (X : Int → Prop) (LN : Nat → Nat) (B : Fl) (E : El) (A : Il) : Prop := 0 ≤ A 60 0 ∧ A 60 0 ≤ 1024 ∧ (∀ i : Int, 0 ≤ i → i < A 60 0 → 0 ≤ A 61 i ∧ A 61 i < A 29 0) ∧ ∀ k : Int, 0 ≤ k → k < A 29 0 → B 601 (160 + k.toNat) = pcn A k (A 60 0).toNat ∧ B 601 (160 + k.toNat) ≤ (LN (160 + k.toNat) : Int) ∧ (∃ e : Nat, e ≤ 8 ∧ LN (160 + k.toNat) = 4 * 2 ^ e) ∧ (∀ i : Nat, (i : Int) < A 60 0 → A 61 (i : Int) = k → E (.inr (160 + k.toNat)) (pcn A k i) = A 62 (i : Int)) ∧ (¬ X k → ∃ p : Int, 0 ≤ p ∧ p < B 601 (160 + k.toNat) ∧ E (.inr (160 + k.toNat)) p = (if A 32 k = -1 then A 31 k else 100 + A 32 k) ∧ ∀ q : Int, p < q → q < B 601 (160 + k.toNat) → 200 ≤ E (.inr (160 + k.toNat)) q)
/-- m cars are nowhere -/
def RepZx (m : Int) (A : Il) : Prop := A 35 0 + A 35 1 + A 35 2 + A 35 3 + A 35 4 + A 35 5 + A 35 6 + A 35 7 + (tz A 0 + tz A 1 + tz A 2 + tz A 3 + tz A 4 + tz A 5) + m = A 29 0
def RepV (X : Int → Prop) (m : Int) (c LN : Nat → Nat) (B : Fl) (E : El) (A : Il) : Prop := RepG B A ∧ RepS B A ∧ RepB c B A ∧ Rep0 A ∧ RepH B A ∧ RepE c B A ∧ RepC c B A ∧ RepN B A ∧ RepK c B A ∧ RepL c B A ∧ RepR E A ∧ RepD LN B E A ∧ RepY LN B E A ∧ RepU LN B E A ∧ RepWx X A ∧ RepPx X LN B E A ∧ RepT LN B E A ∧ RepX A ∧ RepZx m A
theorem Rep.v {X : Int → Prop} (hR : Rep c LN B E A) : RepV X 0 c LN B E A := by
  obtain ⟨gG, gS, gB, g0, gH, gE, gC, gN, gK, gL, gR, gD, gY, gU, gW, gP, gT, gX, gZ⟩ := id hR
  obtain ⟨p1, p2, p3, p4⟩ := gP
  refine ⟨gG, gS, gB, g0, gH, gE, gC, gN, gK, gL, gR, gD, gY, gU, fun k k0 k1 _ => gW k k0 k1, ⟨p1, p2, p3, fun k k0 k1 => ?_⟩, gT, gX, ?_⟩
  · obtain ⟨w1, w2, w3, w4, w5⟩ := p4 k k0 k1
    exact ⟨w1, w2, w3, w4, fun _ => w5⟩
  · unfold RepZx tz
    unfold RepZ at gZ
    omega
theorem RepV.r {X : Int → Prop} {m : Int} (hR : RepV X m c LN B E A) (hX : ∀ k, ¬ X k) (hm : m = 0) : Rep c LN B E A := by
  obtain ⟨gG, gS, gB, g0, gH, gE, gC, gN, gK, gL, gR, gD, gY, gU, gW, gP, gT, gX, gZ⟩ := id hR
  obtain ⟨p1, p2, p3, p4⟩ := gP
  refine ⟨gG, gS, gB, g0, gH, gE, gC, gN, gK, gL, gR, gD, gY, gU, fun k k0 k1 => gW k k0 k1 (hX k), ⟨p1, p2, p3, fun k k0 k1 => ?_⟩, gT, gX, ?_⟩
  · obtain ⟨w1, w2, w3, w4, w5⟩ := p4 k k0 k1
    exact ⟨w1, w2, w3, w4, w5 (hX k)⟩
  · unfold RepZx tz at gZ
    unfold RepZ
    omega
theorem RepPx.room {X : Int → Prop} {k : Int} (h : RepPx X LN B E A) (hk : 0 ≤ k ∧ k < A 29 0) (h20 : A 29 0 ≤ 20) (hn : A 60 0 ≤ 1023) : 0 ≤ B 601 (160 + k.toNat) ∧ B 601 (160 + k.toNat) ≤ (LN (160 + k.toNat) : Int) ∧ (B 601 (160 + k.toNat) < (LN (160 + k.toNat) : Int) ∨ (1 ≤ LN (160 + k.toNat) ∧ ((160 ≤ 160 + k.toNat ∧ 160 + k.toNat < 180 ∧ LN (160 + k.toNat) ≤ 512) ∨ (30 ≤ 160 + k.toNat ∧ 160 + k.toNat < 38 ∧ LN (160 + k.toNat) ≤ 32)))) := by
  obtain ⟨p1, p2, p3, p4⟩ := h
  obtain ⟨r1, r2, ⟨e, r3, r4⟩, -⟩ := p4 k hk.1 hk.2
  have w := pcn_rg A k (A 60 0).toNat
  refine ⟨by rw [r1]; exact w.1, r2, ?_⟩
  by_cases c1 : B 601 (160 + k.toNat) < (LN (160 + k.toNat) : Int)
  · exact Or.inl c1
  · refine Or.inr ⟨by have : 1 ≤ 2 ^ e := Nat.one_le_two_pow; omega, Or.inl ⟨by omega, by omega, ?_⟩⟩
    have e8 : e ≤ 7 := by
      by_cases c2 : e = 8
      · subst c2
        have : (2 : Nat) ^ 8 = 256 := rfl
        omega
      · omega
    have w2 : 2 ^ e ≤ 2 ^ 7 := Nat.pow_le_pow_right (by decide) e8
    have : (2 : Nat) ^ 7 = 128 := rfl
    omega
/-- a paper that says where a car is -/
theorem RepPx.put {X : Int → Prop} {k z : Int} (h : RepPx X LN B E A) (hk : 0 ≤ k ∧ k < A 29 0) (hn : A 60 0 ≤ 1023) (hB : B' 601 (160 + k.toNat) = B 601 (160 + k.toNat) + 1) (hB' : ∀ v, (160 ≤ v ∧ v ≠ 160 + k.toNat) → B' 601 v = B 601 v)
  (x1 : ∀ v, (160 ≤ v ∧ v ≠ 160 + k.toNat) → LN' v = LN v) (x2 : LN' (160 + k.toNat) = LN (160 + k.toNat) ∨ (LN' (160 + k.toNat) = 2 * LN (160 + k.toNat) ∧ (LN (160 + k.toNat) : Int) ≤ B 601 (160 + k.toNat))) (x3 : B 601 (160 + k.toNat) < (LN' (160 + k.toNat) : Int))
  (x4 : ∀ v, (160 ≤ v ∧ v ≠ 160 + k.toNat) → ∀ j, E' (.inr v) j = E (.inr v) j) (x5 : ∀ j, 0 ≤ j → j < B 601 (160 + k.toNat) → E' (.inr (160 + k.toNat)) j = E (.inr (160 + k.toNat)) j) (x6 : E' (.inr (160 + k.toNat)) (B 601 (160 + k.toNat)) = z)
  (h29 : A' 29 0 = A 29 0) (h60 : A' 60 0 = A 60 0 + 1) (h61 : A' 61 (A 60 0) = k ∧ ∀ j, j ≠ A 60 0 → A' 61 j = A 61 j) (h62 : A' 62 (A 60 0) = z ∧ ∀ j, j ≠ A 60 0 → A' 62 j = A 62 j)
  (ho : ∀ j, j ≠ k → A' 32 j = A 32 j ∧ A' 31 j = A 31 j) (hl : z = if A' 32 k = -1 then A' 31 k else 100 + A' 32 k) : RepPx (fun j => X j ∧ j ≠ k) LN' B' E' A' := by
  obtain ⟨p1, p2, p3, p4⟩ := h
  have nn : ((A 60 0).toNat : Int) = A 60 0 := by omega
  have n1 : (A' 60 0).toNat = (A 60 0).toNat + 1 := by omega
  have ps : ∀ (k' : Int) (m : Nat), m ≤ (A 60 0).toNat → pcn A' k' m = pcn A k' m := fun k' m hm => pcn_same m (fun j hj => h61.2 _ (by omega))
  have pe : ∀ k' : Int, pcn A' k' (A' 60 0).toNat = pcn A k' (A 60 0).toNat + if k = k' then 1 else 0 := fun k' => by
    rw [n1]
    show pcn A' k' (A 60 0).toNat + (if A' 61 ((A 60 0).toNat : Int) = k' then 1 else 0) = _
    rw [ps k' _ (Nat.le_refl _), nn, h61.1]
  refine ⟨by omega, by omega, fun i i0 i1 => ?_, fun k' k0 k1 => ?_⟩
  · by_cases e : i = A 60 0
    · rw [e, h61.1, h29]; exact hk
    · rw [h61.2 i e, h29]; exact p3 i i0 (by omega)
  · rw [h29] at k1
    have w := p4 k' k0 k1
    rw [pe k']
    by_cases e : k' = k
    · subst e
      rw [if_pos rfl, hB]
      obtain ⟨r1, r2, ⟨ee, r3, r4⟩, r5, -⟩ := w
      have pl := pcn_rg A k' (A 60 0).toNat
      refine ⟨by rw [r1], by omega, ?_, fun i hi hc => ?_, fun _ => ⟨B 601 (160 + k'.toNat), by omega, by omega, x6.trans hl, fun q q0 q1 => by omega⟩⟩
      · rcases x2 with x2 | ⟨x2, x2b⟩
        · exact ⟨ee, r3, x2.trans r4⟩
        · refine ⟨ee + 1, ?_, by rw [x2, r4, Nat.pow_succ]; omega⟩
          by_cases c2 : ee = 8
          · subst c2
            have : (2 : Nat) ^ 8 = 256 := rfl
            omega
          · omega
      · by_cases ei : (i : Int) = A 60 0
        · have ein : i = (A 60 0).toNat := by omega
          rw [ei, h62.1, ps k' i (by omega), ein, ← r1]
          exact x6
        · rw [h61.2 _ ei] at hc
          rw [h62.2 _ ei, ps k' i (by omega)]
          have mo := pcn_mono A k' (i + 1) ((A 60 0).toNat - (i + 1))
          have en : i + 1 + ((A 60 0).toNat - (i + 1)) = (A 60 0).toNat := by omega
          rw [en] at mo
          have ep : pcn A k' (i + 1) = pcn A k' i + 1 := by
            show pcn A k' i + (if A 61 (i : Int) = k' then 1 else 0) = _
            rw [if_pos hc]
          have pi := pcn_rg A k' i
          rw [x5 _ pi.1 (by omega)]
          exact r5 i (by omega) hc
    · have nv : 160 ≤ 160 + k'.toNat ∧ 160 + k'.toNat ≠ 160 + k.toNat := by omega
      rw [if_neg (fun w => e w.symm), hB' _ nv, x1 _ nv, (ho k' e).1, (ho k' e).2]
      obtain ⟨r1, r2, r3, r5, r6⟩ := w
      refine ⟨by omega, r2, r3, fun i hi hc => ?_, fun n => ?_⟩
      · by_cases ei : (i : Int) = A 60 0
        · rw [ei, h61.1] at hc
          exact absurd hc (fun w => e w.symm)
        · rw [h61.2 _ ei] at hc
          rw [h62.2 _ ei, ps k' i (by omega), x4 _ nv]
          exact r5 i (by omega) hc
      · obtain ⟨p, r6, r7, r8, r9⟩ := r6 (fun w => n ⟨w, e⟩)
        exact ⟨p, r6, r7, (x4 _ nv p).trans r8, fun q q0 q1 => by rw [x4 _ nv]; exact r9 q q0 q1⟩
/-- papers, where no car's papers and place change -/
theorem RepPx.fz {X : Int → Prop} (h : RepPx X LN B E A) (h6 : ∀ v, 160 ≤ v → B' 601 v = B 601 v) (hL : ∀ v, 160 ≤ v → LN' v = LN v) (hE : ∀ v, 160 ≤ v → ∀ j, E' (.inr v) j = E (.inr v) j) (hA : ∀ a j, (a = 29 ∨ a = 31 ∨ a = 32 ∨ a = 60 ∨ a = 61 ∨ a = 62) → A' a j = A a j) : RepPx X LN' B' E' A' := by
  obtain ⟨p1, p2, p3, p4⟩ := h
  unfold RepPx
  rw [hA 60 0 (by omega), hA 29 0 (by omega)]
  refine ⟨p1, p2, fun i i0 i1 => ?_, fun k k0 k1 => ?_⟩
  · rw [hA 61 i (by omega)]
    exact p3 i i0 i1
  · obtain ⟨w1, w2, w3, w4, w5⟩ := p4 k k0 k1
    have e61 : ∀ n, pcn A' k n = pcn A k n := pcn_fr (fun j => hA 61 j (by omega)) k
    rw [h6 _ (by omega), hL _ (by omega), e61, hA 32 k (by omega), hA 31 k (by omega)]
    refine ⟨w1, w2, w3, fun i hi hc => ?_, fun n => ?_⟩
    · rw [e61, hE _ (by omega), hA 62 _ (by omega)]
      exact w4 i hi ((hA 61 _ (by omega)).symm.trans hc)
    · obtain ⟨p, q1, q2, q3, q4⟩ := w5 n
      exact ⟨p, q1, q2, (hE _ (by omega) p).trans q3, fun q a b => by rw [hE _ (by omega)]; exact q4 q a b⟩
/-- what comes does to the reference's rows -/
def cms (A : Il) (x s : Int) : Il := sc (ui (ui (ui (ui (ui (ui A 32 x (-1)) 31 x s) 34 (20 * s + A 35 s) x) 35 s (A 35 s + 1)) 61 (A 60 0) x) 62 (A 60 0) s) 60 (A 60 0 + 1)
theorem m_comes {x s : Int} {Q : Il → Prop} (hx : 0 ≤ x ∧ x < 20) (hs : 0 ≤ s ∧ s < 8) (h35 : 0 ≤ A 35 s ∧ A 35 s < 20) (h60 : 0 ≤ A 60 0 ∧ A 60 0 < 3999) (h : Q (cms A x s)) : W_X9_comes x s A Q := by
  have e1 : w32 (20 * s) = 20 * s := w32_id (by unfold rg; omega)
  have e2 : w32 (20 * s + A 35 s) = 20 * s + A 35 s := w32_id (by unfold rg; omega)
  have e3 : w32 (A 35 s + 1) = A 35 s + 1 := w32_id (by unfold rg; omega)
  have e4 : w32 (w32 (100 * 0) + s) = s := by
    show w32 (0 + s) = s
    rw [Int.zero_add]
    exact w32_id (by unfold rg; omega)
  refine ⟨hx.1, hx.2, hx.1, hx.2, hs.1, hs.2, ?_⟩
  show 0 ≤ w32 (w32 (20 * s) + A 35 s) ∧ w32 (w32 (20 * s) + A 35 s) < 160 ∧ 0 ≤ s ∧ s < 8 ∧ 0 ≤ s ∧ s < 8 ∧ W_X9_writes x 0 s (ui (ui (ui (ui A 32 x (-1)) 31 x s) 34 (w32 (w32 (20 * s) + A 35 s)) x) 35 s (w32 (A 35 s + 1))) (fun A1 => Q A1)
  rw [e1, e2, e3]
  exact ⟨by omega, by omega, hs.1, hs.2, hs.1, hs.2, m_writes h60 e4 h⟩
set_option maxHeartbeats 4000000 in
/-- a car that is nowhere comes to a yard -/
theorem comes_rep {X : Int → Prop} {m x s : Int} (hR : RepV X m c LN B E A) (hA' : A' = cms A x s) (hx : 0 ≤ x ∧ x < A 29 0) (hs : 0 ≤ s ∧ s < 8) (hm : 1 ≤ m) (hX : X x) (hn : A 60 0 ≤ 1023)
  (ny : ∀ s' p : Int, 0 ≤ s' → s' < 8 → 0 ≤ p → p < A 35 s' → A 34 (20 * s' + p) ≠ x) (nu : ∀ t p : Int, 0 ≤ t → t < 6 → A 36 t = 1 → 0 ≤ p → p < A 44 t → A 43 (10 * t + p) ≠ x)
  (hB : ∀ q v, (q ≠ 301 ∧ q ≠ 302 ∧ q ≠ 601) → B' q v = B q v) (h301 : B' 301 (140 + x.toNat) = s ∧ ∀ v, v ≠ 140 + x.toNat → B' 301 v = B 301 v) (h302 : B' 302 (140 + x.toNat) = -1 ∧ ∀ v, v ≠ 140 + x.toNat → B' 302 v = B 302 v)
  (h601 : B' 601 (160 + x.toNat) = B 601 (160 + x.toNat) + 1 ∧ B' 601 (30 + s.toNat) = B 601 (30 + s.toNat) + 1 ∧ ∀ v, (v ≠ 160 + x.toNat ∧ v ≠ 30 + s.toNat) → B' 601 v = B 601 v)
  (hL : ∀ v, (v ≠ 160 + x.toNat ∧ v ≠ 30 + s.toNat) → LN' v = LN v) (hL1 : LN' (160 + x.toNat) = LN (160 + x.toNat) ∨ (LN' (160 + x.toNat) = 2 * LN (160 + x.toNat) ∧ (LN (160 + x.toNat) : Int) ≤ B 601 (160 + x.toNat))) (hL2 : B 601 (160 + x.toNat) < (LN' (160 + x.toNat) : Int)) (hL3 : B 601 (30 + s.toNat) < (LN' (30 + s.toNat) : Int))
  (hE : ∀ v, (v ≠ 160 + x.toNat ∧ v ≠ 30 + s.toNat) → ∀ j, E' (.inr v) j = E (.inr v) j) (hI : ∀ v j, E' (.inl v) j = E (.inl v) j)
  (hE1 : ∀ j, 0 ≤ j → j < B 601 (160 + x.toNat) → E' (.inr (160 + x.toNat)) j = E (.inr (160 + x.toNat)) j) (hE2 : E' (.inr (160 + x.toNat)) (B 601 (160 + x.toNat)) = s)
  (hE3 : ∀ j, 0 ≤ j → j < B 601 (30 + s.toNat) → E' (.inr (30 + s.toNat)) j = E (.inr (30 + s.toNat)) j) (hE4 : E' (.inr (30 + s.toNat)) (B 601 (30 + s.toNat)) = x) : RepV (fun k => X k ∧ k ≠ x) (m - 1) c LN' B' E' A' := by
  obtain ⟨gG, gS, gB, g0, gH, gE, gC, gN, gK, gL, gR, gD, gY, gU, gW, gP, gT, gX, gZ⟩ := id hR
  obtain ⟨⟨k1, k2, k3⟩, k4, k5, k6, k7, k8⟩ := id gK
  have hA : ∀ a j, (a ≠ 31 ∧ a ≠ 32 ∧ a ≠ 34 ∧ a ≠ 35 ∧ a ≠ 60 ∧ a ≠ 61 ∧ a ≠ 62) → A' a j = A a j := fun a j h => by
    rw [hA']
    exact (sc_k (by omega)).trans ((ui_k (by omega)).trans ((ui_k (by omega)).trans ((ui_k (by omega)).trans ((ui_k (by omega)).trans ((ui_k (by omega)).trans ((ui_k (by omega)).trans (rfl)))))))
  have a31 : A' 31 x = s ∧ ∀ j, j ≠ x → A' 31 j = A 31 j := by
    rw [hA']
    exact ⟨(sc_k (by decide)).trans ((ui_k (by decide)).trans ((ui_k (by decide)).trans ((ui_k (by decide)).trans ((ui_k (by decide)).trans (ui_s))))), fun j h => (sc_k (by decide)).trans ((ui_k (by decide)).trans ((ui_k (by decide)).trans ((ui_k (by decide)).trans ((ui_k (by decide)).trans ((ui_j h).trans ((ui_k (by decide)).trans (rfl)))))))⟩
  have a32 : A' 32 x = -1 ∧ ∀ j, j ≠ x → A' 32 j = A 32 j := by
    rw [hA']
    exact ⟨(sc_k (by decide)).trans ((ui_k (by decide)).trans ((ui_k (by decide)).trans ((ui_k (by decide)).trans ((ui_k (by decide)).trans ((ui_k (by decide)).trans (ui_s)))))), fun j h => (sc_k (by decide)).trans ((ui_k (by decide)).trans ((ui_k (by decide)).trans ((ui_k (by decide)).trans ((ui_k (by decide)).trans ((ui_k (by decide)).trans ((ui_j h).trans (rfl)))))))⟩
  have a34 : A' 34 (20 * s + A 35 s) = x ∧ ∀ j, j ≠ 20 * s + A 35 s → A' 34 j = A 34 j := by
    rw [hA']
    exact ⟨(sc_k (by decide)).trans ((ui_k (by decide)).trans ((ui_k (by decide)).trans ((ui_k (by decide)).trans (ui_s)))), fun j h => (sc_k (by decide)).trans ((ui_k (by decide)).trans ((ui_k (by decide)).trans ((ui_k (by decide)).trans ((ui_j h).trans ((ui_k (by decide)).trans ((ui_k (by decide)).trans (rfl)))))))⟩
  have a35 : A' 35 s = A 35 s + 1 ∧ ∀ j, j ≠ s → A' 35 j = A 35 j := by
    rw [hA']
    exact ⟨(sc_k (by decide)).trans ((ui_k (by decide)).trans ((ui_k (by decide)).trans (ui_s))), fun j h => (sc_k (by decide)).trans ((ui_k (by decide)).trans ((ui_k (by decide)).trans ((ui_j h).trans ((ui_k (by decide)).trans ((ui_k (by decide)).trans ((ui_k (by decide)).trans (rfl)))))))⟩
  have a60 : A' 60 0 = A 60 0 + 1 := by
    rw [hA']
    exact sc_s
  have a61 : A' 61 (A 60 0) = x ∧ ∀ j, j ≠ A 60 0 → A' 61 j = A 61 j := by
    rw [hA']
    exact ⟨(sc_k (by decide)).trans ((ui_k (by decide)).trans (ui_s)), fun j h => (sc_k (by decide)).trans ((ui_k (by decide)).trans ((ui_j h).trans ((ui_k (by decide)).trans ((ui_k (by decide)).trans ((ui_k (by decide)).trans ((ui_k (by decide)).trans (rfl)))))))⟩
  have a62 : A' 62 (A 60 0) = s ∧ ∀ j, j ≠ A 60 0 → A' 62 j = A 62 j := by
    rw [hA']
    exact ⟨(sc_k (by decide)).trans (ui_s), fun j h => (sc_k (by decide)).trans ((ui_j h).trans ((ui_k (by decide)).trans ((ui_k (by decide)).trans ((ui_k (by decide)).trans ((ui_k (by decide)).trans ((ui_k (by decide)).trans (rfl)))))))⟩
  clear hA'
  have a29 : A' 29 0 = A 29 0 := hA 29 0 (by omega)
  have hz : ∀ q : Int, tz A' q = tz A q := fun q => by
    unfold tz
    rw [hA 36 q (by omega), hA 44 q (by omega)]
  obtain ⟨⟨r1, r2, r3, r4⟩, r5, r6, r7⟩ := id (gY s hs.1 hs.2)
  have sum20 : A 35 s ≤ 19 := by
    have w : ∀ q : Int, 0 ≤ q → q < 8 → 0 ≤ A 35 q := fun q q0 q1 => (gY q q0 q1).1.2.1
    have w2 : ∀ q : Int, 0 ≤ q → q < 6 → 0 ≤ tz A q := fun q q0 q1 => by
      unfold tz
      split
      · exact ((gU q q0 q1).2 ‹_›).1.2.1
      · exact Int.le_refl _
    have y0 := w 0 (by decide) (by decide)
    have y1 := w 1 (by decide) (by decide)
    have y2 := w 2 (by decide) (by decide)
    have y3 := w 3 (by decide) (by decide)
    have y4 := w 4 (by decide) (by decide)
    have y5 := w 5 (by decide) (by decide)
    have y6 := w 6 (by decide) (by decide)
    have y7 := w 7 (by decide) (by decide)
    have z0 := w2 0 (by decide) (by decide)
    have z1 := w2 1 (by decide) (by decide)
    have z2 := w2 2 (by decide) (by decide)
    have z3 := w2 3 (by decide) (by decide)
    have z4 := w2 4 (by decide) (by decide)
    have z5 := w2 5 (by decide) (by decide)
    have zz : RepZx m A := gZ
    unfold RepZx at zz
    have ss : s = 0 ∨ s = 1 ∨ s = 2 ∨ s = 3 ∨ s = 4 ∨ s = 5 ∨ s = 6 ∨ s = 7 := by omega
    rcases ss with e | e | e | e | e | e | e | e <;> rw [e] <;> omega
  refine ⟨gG.fr (fun k v h => hB k v (by omega)) (fun a j h => hA a j (by omega)), gS.fr (fun k v h => hB k v (by omega)) (fun a j h => hA a j (by omega)), gB.fr (fun k v h => hB k v (by omega)) (fun a j h => hA a j (by omega)), g0.fr (fun a j h => hA a j (by omega)), gH.fr (fun k v h => hB k v (by omega)) (fun a j h => hA a j (by omega)), gE.fr (fun k v h => hB k v (by omega)) (fun a j h => hA a j (by omega)), gC.fr (fun k v h => hB k v (by omega)) (fun a j h => hA a j (by omega)), gN.fr (fun k v h => hB k v (by omega)) (fun a j h => hA a j (by omega)), ?_, gL.fr (fun k v h => hB k v (by omega)) (fun a j h => hA a j (by omega)), gR.fr (fun j => hI 3 j) (fun j => hI 4 j) (fun a j h => hA a j (by omega)), gD.fz (fun v hv => h601.2.2 v (by omega)) (fun v hv => hL v (by omega)) (fun v hv => hE v (by omega)) (fun a j h => hA a j (by omega)), ?_, ?_, ?_, RepPx.put gP hx hn h601.1 (fun v hv => h601.2.2 v (by omega)) (fun v hv => hL v (by omega)) hL1 hL2 (fun v hv => hE v (by omega)) hE1 hE2 a29 a60 a61 a62 (fun j hj => ⟨a32.2 j hj, a31.2 j hj⟩) (by rw [a32.1, a31.1]; rfl), ?_, gX.fr (fun a j h => hA a j (by omega)), ?_⟩
  · -- cars
    unfold RepK
    rw [a29]
    refine ⟨⟨k1, (hB 2 11 (by omega)).trans k2, k3⟩, k4.fr' (fun v => hB 300 v (by omega)) (fun j => hA 30 j (by omega)), k5.put hx.1 h301 a31, k6.put hx.1 h302 a32, k7.fr' (fun v => hB 303 v (by omega)) (fun j => hA 33 j (by omega)), fun j j0 j1 => ?_⟩
    obtain ⟨w1, w2, w3, w4, w5, w6, w7, w8⟩ := k8 j j0 j1
    rw [hA 30 j (by omega), hA 33 j (by omega), hA 54 0 (by omega)]
    by_cases ej : j = x
    · rw [ej, a31.1, a32.1]
      refine ⟨by rw [← ej]; exact w1, by rw [← ej]; exact w2, hs.1, hs.2, by decide, by decide, by rw [← ej]; exact w7, by rw [← ej]; exact w8⟩
    · rw [a31.2 j ej, a32.2 j ej]
      exact ⟨w1, w2, w3, w4, w5, w6, w7, w8⟩
  · -- yards
    refine RepY.mk' fun q => ?_
    by_cases eq : q = s
    · subst eq
      intro _ _
      rw [a35.1]
      refine ⟨⟨h601.2.1.trans (by rw [r1]), by omega, by omega, fun p p0 p1 => ?_⟩, by omega, by omega, fun p p0 p1 => ?_⟩
      · show _ = A' 34 (20 * q + p)
        by_cases ep : p = A 35 q
        · rw [ep, a34.1, ← r1]; exact hE4
        · rw [a34.2 _ (by omega), hE3 p p0 (by omega)]
          exact r4 p p0 (by omega)
      · by_cases ep : p = A 35 q
        · rw [ep, a34.1, a29, a32.1, a31.1]
          refine ⟨hx.1, hx.2, rfl, rfl, fun p2 p20 p21 e => ?_⟩
          by_cases ep2 : p2 = A 35 q
          · exact ep2
          · rw [a34.2 _ (by omega)] at e
            exact absurd e (ny q p2 hs.1 hs.2 p20 (by omega))
        · obtain ⟨w1, w2, w3, w4, w5⟩ := r7 p p0 (by omega)
          have nx := ny q p hs.1 hs.2 p0 (by omega)
          rw [a34.2 _ (by omega), a29, a32.2 _ nx, a31.2 _ nx]
          refine ⟨w1, w2, w3, w4, fun p2 p20 p21 e => ?_⟩
          by_cases ep2 : p2 = A 35 q
          · rw [ep2, a34.1] at e
            exact absurd e.symm nx
          · rw [a34.2 _ (by omega)] at e
            exact w5 p2 p20 (by omega) e
    · intro q0 q1
      have yb := (gY q q0 q1).2.1
      have nx : ∀ k : Int, A 32 k = -1 → A 31 k = q → (∃ p : Int, 0 ≤ p ∧ p < A 35 q ∧ A 34 (20 * q + p) = k) → k ≠ x := fun k _ _ w e => by
        obtain ⟨p, p0, p1, p2⟩ := w
        exact ny q p q0 q1 p0 p1 (p2.trans e)
      obtain ⟨⟨t1, t2, t3, t4⟩, t5, t6, t7⟩ := gY q q0 q1
      have rA : ∀ p : Int, 0 ≤ p → p < A 35 q → A' 34 (20 * q + p) = A 34 (20 * q + p) := fun p p0 p1 => a34.2 _ (by omega)
      have nv : 30 + q.toNat ≠ 160 + x.toNat ∧ 30 + q.toNat ≠ 30 + s.toNat := by omega
      rw [a35.2 q eq]
      refine ⟨⟨(h601.2.2 _ nv).trans t1, t2, by rw [hL _ nv]; exact t3, fun p p0 p1 => (hE _ nv p).trans ((t4 p p0 p1).trans (rA p p0 p1).symm)⟩, t5, by rw [hL _ nv]; exact t6, fun p p0 p1 => ?_⟩
      obtain ⟨w1, w2, w3, w4, w5⟩ := t7 p p0 p1
      have nx := ny q p q0 q1 p0 p1
      rw [rA p p0 p1, a29, a32.2 _ nx, a31.2 _ nx]
      refine ⟨w1, w2, w3, w4, fun p2 p20 p21 e => ?_⟩
      rw [rA p2 p20 p21] at e
      exact w5 p2 p20 p21 e
  · -- cars of trains
    refine RepU.mk' fun q => ?_
    intro q0 q1
    obtain ⟨t1, t2⟩ := gU q q0 q1
    have nv : 50 + q.toNat ≠ 160 + x.toNat ∧ 50 + q.toNat ≠ 30 + s.toNat := by omega
    refine ⟨(hL _ nv).trans t1, fun e => ?_⟩
    rw [hA 36 q (by omega)] at e
    obtain ⟨⟨s1, s2, s3, s4⟩, s5⟩ := t2 e
    rw [hA 44 q (by omega)]
    refine ⟨⟨(h601.2.2 _ nv).trans s1, s2, by rw [hL _ nv]; exact s3, fun p p0 p1 => (hE _ nv p).trans ((s4 p p0 p1).trans (hA 43 _ (by omega)).symm)⟩, fun p p0 p1 => ?_⟩
    obtain ⟨w1, w2, w3, w4⟩ := s5 p p0 p1
    rw [hA 43 _ (by omega), a29, a32.2 _ (nu q p q0 q1 e p0 p1)]
    refine ⟨w1, w2, w3, fun p2 p20 p21 e2 => ?_⟩
    rw [hA 43 _ (by omega)] at e2
    exact w4 p2 p20 p21 e2
  · -- each car is somewhere
    intro j j0 j1 nX
    rw [a29] at j1
    by_cases ej : j = x
    · rw [ej, a32.1, a31.1, a35.1]
      exact ⟨fun _ => ⟨A 35 s, by omega, by omega, a34.1⟩, fun n => absurd rfl n⟩
    · obtain ⟨w1, w2⟩ := gW j j0 j1 (fun w => nX ⟨w, ej⟩)
      rw [a32.2 j ej, a31.2 j ej]
      refine ⟨fun n => ?_, fun n => ?_⟩
      · obtain ⟨p, p0, p1, p2⟩ := w1 n
        by_cases es : A 31 j = s
        · rw [es] at p1 p2 ⊢
          refine ⟨p, p0, by omega, ?_⟩
          rw [a34.2 _ (by omega)]
          exact p2
        · rw [a35.2 _ es]
          obtain ⟨v1, v2, v3, v4, -⟩ := k8 j j0 j1
          have yb := (gY (A 31 j) v3 v4).2.1
          refine ⟨p, p0, p1, ?_⟩
          rw [a34.2 _ (by omega)]
          exact p2
      · obtain ⟨w3, p, p0, p1, p2⟩ := w2 n
        rw [hA 36 _ (by omega), hA 44 _ (by omega)]
        exact ⟨w3, p, p0, p1, (hA 43 _ (by omega)).trans p2⟩
  · -- trains
    refine RepT.mk' fun q q0 q1 => ?_
    exact TrB.fr (gT.tr q) (fun k hk => hB k _ (by omega)) (h601.2.2 _ (by omega)) (hL _ (by omega)) (hE _ (by omega)) (hI _) (fun a h => hA a q (by omega)) (hA 1 0 (by omega)) ⟨Int.le_of_eq (hA 6 0 (by omega)).symm, Int.le_of_eq (hA 19 0 (by omega)).symm, Int.le_of_eq (hA 23 0 (by omega)).symm⟩ (fun _ _ _ _ => ⟨hA 20 _ (by omega), hA 22 _ (by omega)⟩) (fun _ _ _ _ => hA 25 _ (by omega)) (fun _ => wgt_fr (fun j => hA 33 j (by omega)) (fun j => hA 43 j (by omega)) q _) (fun p _ _ => hA 45 _ (by omega)) (fun b _ _ => ⟨hA 7 _ (by omega), hA 7 _ (by omega)⟩) (fun _ b _ _ => ⟨by rw [hA 6 0 (by omega), hA 17 b (by omega)], fun _ _ => hA 18 b (by omega)⟩) (by have := gB.1; omega) q0 q1
  · -- how many
    have zz : RepZx m A := gZ
    unfold RepZx at zz ⊢
    rw [a29, hz, hz, hz, hz, hz, hz]
    have ss : s = 0 ∨ s = 1 ∨ s = 2 ∨ s = 3 ∨ s = 4 ∨ s = 5 ∨ s = 6 ∨ s = 7 := by omega
    obtain ⟨f1, f2⟩ := a35
    have g0 := f2 0
    have g1 := f2 1
    have g2 := f2 2
    have g3 := f2 3
    have g4 := f2 4
    have g5 := f2 5
    have g6 := f2 6
    have g7 := f2 7
    rcases ss with e | e | e | e | e | e | e | e <;> rw [e] at f1 g0 g1 g2 g3 g4 g5 g6 g7 <;> omega
end Yard
