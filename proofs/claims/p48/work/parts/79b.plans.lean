/-! plans: the law's beside the reference's -/
/-- the law's rows, what is drafted aside -/
def LRd (L A : Il) : Prop := (L 3 0 = A 1 0 ∧ L 3 1 = A 2 0 ∧ A 3 0 = 0) ∧ Lst L A ∧ Lbk 4 L A ∧ Lcw 3 L A ∧ Ltr L A
def plA (A : Il) (n mi ra : Int) : Il := sc (ui (ui (ui (ui (ui (cpw (sc A 0 0) n (A 52 0)) 46 n 0) 47 n (A 52 0)) 48 n mi) 49 n ra) 39 n 1) 52 0
def wL (L : Il) (n : Int) (f : Int → Int) (i : Int) : Il := fun r j => if r = 0 ∧ 8 * n ≤ j ∧ j < 8 * n + i then f (j - 8 * n) else L r j
/-- what is drafted: so far i blocks, out of s0 -/
def PD (lg : Nat) (n s0 : Int) (i : Nat) (A : Il) (I : Il) : Prop := A 52 0 = (i : Int) ∧ A 40 n = s0 ∧ (∀ p : Int, 0 ≤ p → p < (i : Int) → A 53 p = I lg p ∧ 0 ≤ A 53 p ∧ A 53 p < 4) ∧ ∀ w : Nat, w < i → dnd A w 0 s0 ≠ -1
section Pln
variable {L A A' : Il} {n s0 : Int}
theorem LR.d (h : LR L A) : LRd L A := ⟨⟨h.1.1, h.1.2.1, h.1.2.2.1⟩, h.2⟩
theorem LRd.frA (h : LRd L A) (h47 : ∀ n : Int, 0 ≤ n → n < 3 → A 36 n = 1 → A 47 n ≤ 8) (hA : ∀ a j, a ≠ 0 → a ≠ 52 → a ≠ 53 → A' a j = A a j) : LRd L A' :=
  ⟨⟨h.1.1.trans (hA 1 0 (by decide) (by decide) (by decide)).symm, h.1.2.1.trans (hA 2 0 (by decide) (by decide) (by decide)).symm, (hA 3 0 (by decide) (by decide) (by decide)).trans h.1.2.2⟩, h.2.1.fr (fun _ _ => rfl) (fun j => hA 5 j (by decide) (by decide) (by decide)), h.2.2.1.fr (fun _ => rfl) (fun a j h => hA a j (by omega) (by omega) (by omega)), h.2.2.2.1.fr (fun _ _ _ _ _ => rfl) (fun a j h => hA a j (by omega) (by omega) (by omega)), h.2.2.2.2.fr h47 (fun _ _ _ _ _ _ => rfl) (fun _ => rfl) (fun a j a0 a1 a3 => hA a j (by omega) (by omega) (by omega))⟩
/-- .. a draft put down in q[3] -/
theorem LRd.put (h : LRd L A) (h47 : ∀ n : Int, 0 ≤ n → n < 3 → A 36 n = 1 → A 47 n ≤ 8) : LR (ui L 3 3 (A 52 0)) A := by
  have r3 : ∀ j : Int, j ≠ 3 → ui L 3 3 (A 52 0) 3 j = L 3 j := fun j h => ui_j h
  have rk : ∀ r j, r ≠ 3 → ui L 3 3 (A 52 0) r j = L r j := fun r j h => ui_k h
  exact ⟨⟨(r3 0 (by decide)).trans h.1.1, (r3 1 (by decide)).trans h.1.2.1, h.1.2.2, ui_s⟩, h.2.1.fr (fun j w => r3 j (by omega)) (fun _ => rfl), h.2.2.1.fr (fun j => rk 1 j (by decide)) (fun _ _ _ => rfl), h.2.2.2.1.fr (fun _ _ _ _ _ => rk 2 _ (by decide)) (fun _ _ _ => rfl), h.2.2.2.2.fr h47 (fun _ _ _ _ _ _ => rk 2 _ (by decide)) (fun _ => rk 0 _ (by decide)) (fun _ _ _ _ _ => rfl)⟩
theorem dnd_pre {N : Int} (h : ∀ p : Int, 0 ≤ p → p < N → A' 53 p = A 53 p) (h7 : ∀ j, A' 7 j = A 7 j) : ∀ (n : Nat) (i s : Int), 0 ≤ i → i + n ≤ N → dnd A' n i s = dnd A n i s
  | 0, _, _, _, _ => rfl
  | n + 1, i, s, i0, i1 => by
    show dnd A' n (i + 1) (oth A' (A' 53 i) s) = dnd A n (i + 1) (oth A (A 53 i) s)
    rw [h i i0 (by omega), oth_fr h7]
    exact dnd_pre h h7 n (i + 1) _ (by omega) (by omega)
theorem oth4 {b s : Int} (hL : LRd L A) (hb : 0 ≤ b ∧ b < 4) : -1 ≤ oth A b s ∧ oth A b s < 4 := by
  have w := hL.2.2.1.2 b hb.1 hb.2
  have e1 := w.1
  have e2 := w.2.1
  have e3 : 0 ≤ nx b ∧ nx b < 4 := by unfold nx; split <;> omega
  clear w
  unfold oth
  rw [e1, e2]
  split
  · omega
  · split <;> omega
theorem wL_0 {f : Int → Int} : wL L n f 0 = L := by
  funext r j
  exact if_neg (fun w => by omega)
theorem wL_s {f : Int → Int} {i : Int} (hi : 0 ≤ i) : ui (wL L n f i) 0 (8 * n + i) (f i) = wL L n f (i + 1) := by
  funext r j
  show (if r = 0 ∧ j = 8 * n + i then f i else if r = 0 ∧ 8 * n ≤ j ∧ j < 8 * n + i then f (j - 8 * n) else L r j) = if r = 0 ∧ 8 * n ≤ j ∧ j < 8 * n + (i + 1) then f (j - 8 * n) else L r j
  by_cases e : r = 0 ∧ j = 8 * n + i
  · rw [if_pos e, if_pos ⟨e.1, by omega, by omega⟩, e.2, show 8 * n + i - 8 * n = i by omega]
  · rw [if_neg e]
    by_cases e2 : r = 0 ∧ 8 * n ≤ j ∧ j < 8 * n + i
    · rw [if_pos e2, if_pos ⟨e2.1, e2.2.1, by omega⟩]
    · rw [if_neg e2, if_neg (fun w => by
        by_cases e3 : j = 8 * n + i
        · exact e ⟨w.1, e3⟩
        · exact e2 ⟨w.1, w.2.1, by omega⟩)]
theorem LRd.plan {mi ra : Int} {f : Int → Int} (hL : LRd L A) (h47 : ∀ n : Int, 0 ≤ n → n < 3 → A 36 n = 1 → A 47 n ≤ 8) (hn : 0 ≤ n ∧ n < 3) (hi : 0 ≤ A 52 0 ∧ A 52 0 ≤ 8) (hf : ∀ p : Int, 0 ≤ p → p < A 52 0 → A 53 p = f p) : LR (ui (ui (ui (ui (ui (ui (wL L n f 8) 2 (16 * n + 3) 1) 2 (16 * n + 7) 0) 2 (16 * n + 8) (A 52 0)) 2 (16 * n + 9) mi) 2 (16 * n + 10) ra) 3 3 0) (plA A n mi ra) := by
  obtain ⟨⟨g1, g2, g3⟩, hs, hbk, hc, ht, ht6⟩ := hL
  have r0 : ∀ j, (ui (ui (ui (ui (ui (ui (wL L n f 8) 2 (16 * n + 3) 1) 2 (16 * n + 7) 0) 2 (16 * n + 8) (A 52 0)) 2 (16 * n + 9) mi) 2 (16 * n + 10) ra) 3 3 0) 0 j = if 8 * n ≤ j ∧ j < 8 * n + 8 then f (j - 8 * n) else L 0 j := fun j => by simp [ui, wL]
  have r1 : ∀ j, (ui (ui (ui (ui (ui (ui (wL L n f 8) 2 (16 * n + 3) 1) 2 (16 * n + 7) 0) 2 (16 * n + 8) (A 52 0)) 2 (16 * n + 9) mi) 2 (16 * n + 10) ra) 3 3 0) 1 j = L 1 j := fun j => by simp [ui, wL]
  have r2 : ∀ j, (ui (ui (ui (ui (ui (ui (wL L n f 8) 2 (16 * n + 3) 1) 2 (16 * n + 7) 0) 2 (16 * n + 8) (A 52 0)) 2 (16 * n + 9) mi) 2 (16 * n + 10) ra) 3 3 0) 2 j = if j = 16 * n + 10 then ra else if j = 16 * n + 9 then mi else if j = 16 * n + 8 then A 52 0 else if j = 16 * n + 7 then 0 else if j = 16 * n + 3 then 1 else L 2 j := fun j => by simp [ui, wL]
  have r3 : ∀ j, (ui (ui (ui (ui (ui (ui (wL L n f 8) 2 (16 * n + 3) 1) 2 (16 * n + 7) 0) 2 (16 * n + 8) (A 52 0)) 2 (16 * n + 9) mi) 2 (16 * n + 10) ra) 3 3 0) 3 j = if j = 3 then 0 else L 3 j := fun j => by simp [ui, wL]
  have hA : ∀ a j, (a ≠ 0 ∧ a ≠ 45 ∧ a ≠ 46 ∧ a ≠ 47 ∧ a ≠ 48 ∧ a ≠ 49 ∧ a ≠ 39 ∧ a ≠ 52) → plA A n mi ra a j = A a j := fun a j h => (sc_k (by omega)).trans ((ui_k (by omega)).trans ((ui_k (by omega)).trans ((ui_k (by omega)).trans ((ui_k (by omega)).trans ((ui_k (by omega)).trans ((if_neg (fun w => absurd w.1 (by omega))).trans ((sc_k (by omega)).trans (rfl))))))))
  have hAt : ∀ a j, (j ≠ n ∧ a ≠ 0 ∧ a ≠ 45 ∧ a ≠ 52) → plA A n mi ra a j = A a j := fun a j h => (sc_k (by omega)).trans ((ui_w (by omega)).trans ((ui_w (by omega)).trans ((ui_w (by omega)).trans ((ui_w (by omega)).trans ((ui_w (by omega)).trans ((if_neg (fun w => absurd w.1 (by omega))).trans ((sc_k (by omega)).trans (rfl))))))))
  have ha : plA A n mi ra 46 n = 0 ∧ plA A n mi ra 47 n = A 52 0 ∧ plA A n mi ra 48 n = mi ∧ plA A n mi ra 49 n = ra ∧ plA A n mi ra 39 n = 1 ∧ plA A n mi ra 52 0 = 0 := ⟨(sc_k (by decide)).trans ((ui_k (by decide)).trans ((ui_k (by decide)).trans ((ui_k (by decide)).trans ((ui_k (by decide)).trans (ui_s))))), (sc_k (by decide)).trans ((ui_k (by decide)).trans ((ui_k (by decide)).trans ((ui_k (by decide)).trans (ui_s)))), (sc_k (by decide)).trans ((ui_k (by decide)).trans ((ui_k (by decide)).trans (ui_s))), (sc_k (by decide)).trans ((ui_k (by decide)).trans (ui_s)), (sc_k (by decide)).trans (ui_s), sc_s⟩
  have h45 : (∀ p : Int, 0 ≤ p → p < A 52 0 → plA A n mi ra 45 (8 * n + p) = A 53 p) ∧ ∀ j : Int, ¬ (8 * n ≤ j ∧ j < 8 * n + A 52 0) → plA A n mi ra 45 j = A 45 j := ⟨fun p p0 p1 => (sc_k (by decide)).trans ((ui_k (by decide)).trans ((ui_k (by decide)).trans ((ui_k (by decide)).trans ((ui_k (by decide)).trans ((ui_k (by decide)).trans ((if_pos ⟨rfl, by omega, by omega⟩).trans ((sc_k (by decide)).trans (by rw [show 8 * n + p - 8 * n = p by omega])))))))), fun j hj => (sc_k (by decide)).trans ((ui_k (by decide)).trans ((ui_k (by decide)).trans ((ui_k (by decide)).trans ((ui_k (by decide)).trans ((ui_k (by decide)).trans ((if_neg (fun w => hj w.2)).trans (sc_k (by decide))))))))⟩
  obtain ⟨a46, a47, a48, a49, a39, a52⟩ := ha
  generalize (ui (ui (ui (ui (ui (ui (wL L n f 8) 2 (16 * n + 3) 1) 2 (16 * n + 7) 0) 2 (16 * n + 8) (A 52 0)) 2 (16 * n + 9) mi) 2 (16 * n + 10) ra) 3 3 0) = L' at *
  generalize plA A n mi ra = A' at *
  have n2 : ∀ j, (j ≠ 16 * n + 3 ∧ j ≠ 16 * n + 7 ∧ j ≠ 16 * n + 8 ∧ j ≠ 16 * n + 9 ∧ j ≠ 16 * n + 10) → L' 2 j = L 2 j := fun j h => by rw [r2, if_neg h.2.2.2.2, if_neg h.2.2.2.1, if_neg h.2.2.1, if_neg h.2.1, if_neg h.1]
  refine ⟨⟨?_, ?_, ?_, ?_⟩, hs.fr (fun j hj => by rw [r3, if_neg (by omega)]) (fun j => hA 5 j (by decide)), hbk.fr r1 (fun a j h => hA a j (by omega)), hc.fr (fun m i m0 m1 hi => n2 _ (by omega)) (fun a j h => hA a j (by omega)), fun m m0 m1 => ?_, fun m m0 m1 => (hA 36 m (by decide)).trans (ht6 m m0 m1)⟩
  · rw [r3, if_neg (by decide), hA 1 0 (by decide)]; exact g1
  · rw [r3, if_neg (by decide), hA 2 0 (by decide)]; exact g2
  · rw [hA 3 0 (by decide)]; exact g3
  · rw [r3, if_pos rfl]; exact a52.symm
  · obtain ⟨u1, u2⟩ := ht m m0 m1
    rw [n2 (16 * m) (by omega), hA 36 m (by decide)]
    refine ⟨u1, fun c36 => ?_⟩
    by_cases e : m = n
    · subst e
      obtain ⟨w1, w2, w3, w4, w5, w6, w7, w8, w9, w10, w11, w12, w13, w14, w15, w16, w17⟩ := u2 c36
      unfold LT
      rw [hA 37 _ (by decide), hA 38 _ (by decide), a39, hA 40 _ (by decide), hA 41 _ (by decide), hA 44 _ (by decide), a46, a47, a48, a49, hA 50 _ (by decide), hA 51 _ (by decide)]
      refine ⟨w1, w2, ?_, by decide, (n2 _ (by omega)).trans w5, w6, (n2 _ (by omega)).trans w7, fun w => absurd w (by decide), (n2 _ (by omega)).trans w9, w10, ?_, ?_, fun _ => ⟨?_, ?_⟩, (n2 _ (by omega)).trans w14, w15, fun w => (n2 _ (by omega)).trans (w16 w), fun p p0 p1 => ?_⟩
      · rw [r2, if_neg (by omega), if_neg (by omega), if_neg (by omega), if_neg (by omega), if_pos rfl]
      · rw [r2, if_neg (by omega), if_neg (by omega), if_neg (by omega), if_pos rfl]
      · rw [r2, if_neg (by omega), if_neg (by omega), if_pos rfl]
      · rw [r2, if_neg (by omega), if_pos rfl]
      · rw [r2, if_pos rfl]
      · rw [r0, if_pos ⟨by omega, by omega⟩, h45.1 p p0 p1, show 8 * m + p - 8 * m = p by omega]
        exact (hf p p0 p1).symm
    · refine (u2 c36).fr (h47 m m0 m1 c36) (fun i i0 i1 => n2 _ (by omega)) (fun i i0 i1 => ?_) (fun a a0 a1 a2 a3 => hAt a m ⟨e, by omega, a3, by omega⟩) (fun i i0 i1 => h45.2 _ (by omega))
      rw [r0, if_neg (by omega)]
end Pln
section Plan2
variable {m : Nat} {G : Gp} {x lg : Nat} {la : Nat → Nat} {A : Il} {S : Shp} {F : Fl} {I : Il} {x7 b n z many ahead rank s s0 : Int} {Q : Int → Shp → Fl → Il → Prop}
/-- where a plan may end -/
def FinP (m : Nat) (G : Gp) (x : Nat) (la : Nat → Nat) (T : Int) (Q : Int → Shp → Fl → Il → Prop) : Prop := ∀ (A' : Il) (S' : Shp) (F' : Fl) (I' : Il), VP m G x la A' S' F' I' → LR (lA la I') A' → A' 1 0 ≤ T → Q 1 S' F' I'
theorem l_pw (hS : Ls la S) (hlg : sK S lg = 20 ∧ (sN S lg : Int) = 8) (hne : ∀ k, k < 4 → lg ≠ la k) (hn : 0 ≤ n ∧ n < 3) {I0 : Il} (hQ : ∀ I', FrL la I0 I' → lA la I' = wL (lA la I0) n (I0 lg) 8 → V_L_plans_313 (la 2) (la 3) (16 * n) many 1 ahead rank 1 S F I' Q) : ∀ (k i : Nat) (I1 : Il), i + k = 8 → FrL la I0 I1 → lA la I1 = wL (lA la I0) n (I0 lg) (i : Int) → V_L_plans_280 (k + 1) n (la 2) (la 0) (la 3) (16 * n) many 1 lg ahead rank 1 (i : Int) S F I1 Q
  | 0, i, I1, e, hF, hI => by
    obtain rfl : i = 8 := by omega
    exact br_T (by decide) (hQ I1 hF hI)
  | k + 1, i, I1, e, hF, hI => by
    have n0 := hS.n0
    have e8 : w32 (8 * n) = 8 * n := w32_id (by unfold rg; omega)
    have e1 : w32 (8 * n + (i : Int)) = 8 * n + (i : Int) := w32_id (by unfold rg; omega)
    refine br_F (by omega) (br_F (by decide) ⟨hlg.1, by omega, by omega, hS.k (by decide), ?_⟩)
    rw [e8, e1]
    refine ⟨by omega, by omega, fun I7 h7 => ?_⟩
    have k7 := hF.stp (by decide) h7
    have g7 := stp hS (by decide) h7
    rw [hI, show I1 lg (i : Int) = I0 lg (i : Int) from hF lg hne _, wL_s (by omega)] at g7
    rw [w32_up (by omega)]
    refine l_pw hS hlg hne hn hQ k (i + 1) I7 (by omega) k7 ?_
    rw [g7, show (i : Int) + 1 = ((i + 1 : Nat) : Int) by omega]
/-- the plan is called; it may be none -/
theorem l_pcall (i : Nat) (hP : VPx (m + 1) G x la lg A S F I) (hne : ∀ k, k < 4 → lg ≠ la k) (hD : LRd (lA la I) A) (hn : 0 ≤ n ∧ n < 3) (h36 : A 36 n = 1) (h39 : A 39 n = 0 ∨ A 39 n = 1) (hi : 1 ≤ i ∧ i ≤ 5) (hp : PD lg n s0 i A I) (ha : 0 ≤ ahead ∧ ahead ≤ 20000) (hr : 0 ≤ rank ∧ rank ≤ 9) (hF : FinP m G x la (A 1 0) Q)
    (c : Int) (hs : (c = 1 ∧ s = dnd A i 0 s0 ∧ s ≠ -1) ∨ (c = 0 ∧ dnd A i 0 s0 = -1)) : V_L_plans_237 x n (la 2) (la 0) (la 3) (16 * n) (i : Int) s 1 lg ahead rank c S F I Q := by
  have hS := hP.vp.ls
  have n2 := hS.n2
  have n3 := hS.n3
  have h47 := hP.vp.w47
  have hlg := hP.row
  obtain ⟨cc, LN, B, E, hR⟩ := hP.vp.rep
  obtain ⟨p1, p2, p3, p4⟩ := hp
  have gB := hR.2.2.1
  have b6 := hD.2.2.1.1
  have d4 : ∀ p : Int, 0 ≤ p → p < (sc A 0 0) 52 0 → 0 ≤ (sc A 0 0) 53 p ∧ (sc A 0 0) 53 p < (sc A 0 0) 6 0 := fun p p0 pp => by
    have pp : p < A 52 0 := pp
    have w := p3 p p0 (by omega)
    show 0 ≤ A 53 p ∧ A 53 p < A 6 0
    omega
  have ed : dnd (sc A 0 0) i ((0 : Nat) : Int) (sc A 0 0 40 n) = dnd A i 0 s0 := by
    rw [← p2]
    exact dnd_fr (A := A) (A' := sc A 0 0) (fun _ => rfl) (fun _ => rfl) i ((0 : Nat) : Int) _
  have start : ∀ {R : Int → Il → Prop}, W_X9_plan_98 n ahead rank (dnd A i 0 s0) (sc A 0 0) R → W_X9_plan n ahead rank A R := fun {R} w => by
    refine m_isTrain1 (by omega) (bn_F (by decide) (m_in1 ha (br_F (by decide) (m_in1 hr (bn_F (by decide) ?_)))))
    unfold W_X9_plan_39
    refine br_T le0 ⟨hn.1, by omega, i + 1, m_end_go (A := sc A 0 0) (B := B) (c := cc) (gB.fr (fun _ _ _ => rfl) (fun a j h => sc_k (by omega))) p1 (by omega) d4 i 0 _ (Nat.zero_add _) ?_⟩
    rw [ed]
    exact w
  have w1 : sc A 0 0 39 n = 0 ∨ sc A 0 0 39 n = 1 := h39
  rcases hs with ⟨rfl, rfl, hs⟩ | ⟨rfl, hs⟩
  · refine br_F (by decide) (bn_F (by decide) (bn_T rfl ⟨hP.vp.xk, c_planx (R := fun z A2 => z = dnd A i 0 s0 ∧ A2 = plA A n ahead rank) hP (by unfold rg; omega) (by unfold rg; omega) (by unfold rg; omega) (start ?_) (fun z S' F' I' A1 hr2 h0 hP2 hI2 hg2 => ?_) (fun X9 z A1 S' F' I' hr2 hd _ _ _ => ?_)⟩))
    · refine m_stands ⟨hn.1, by omega⟩ ?_
      rw [if_pos w1]
      refine br_F (by decide) (br_F (by show ¬ A 52 0 = 0; omega) (bn_F hs ⟨i + 1, ?_⟩))
      have w := m_way_go (A := sc A 0 0) (x1 := n) (x2 := ahead) (x3 := rank) (x4 := dnd A i 0 s0) (Q := fun z A2 => z = dnd A i 0 s0 ∧ A2 = plA A n ahead rank) ⟨hn.1, by omega⟩ p1 (by omega) ⟨rfl, rfl⟩ i 0 (Nat.zero_add _)
      rw [show ((0 : Nat) : Int) = 0 from rfl, cpw_0] at w
      exact w
    · obtain ⟨rfl, rfl⟩ := hr2
      have hS2 := hP2.vp.ls
      have m2 := hS2.n2
      have m3 := hS2.n3
      have hlg2 := hP2.row
      refine br_F (by decide) (bn_T rfl ⟨9, l_pw (I0 := I') hS2 hlg2 hne hn (fun I1 k1 g1 => ?_) 8 0 I' rfl FrL.rf wL_0.symm⟩)
      have e3 := ix (i := 3) hn.1 hn.2 (by decide) (by decide)
      have e7 := ix (i := 7) hn.1 hn.2 (by decide) (by decide)
      have e8 := ix (i := 8) hn.1 hn.2 (by decide) (by decide)
      have e9 := ix (i := 9) hn.1 hn.2 (by decide) (by decide)
      have e10 := ix (i := 10) hn.1 hn.2 (by decide) (by decide)
      refine br_F (by decide) ⟨hS2.k (by decide), ?_⟩
      rw [e3, e7, e8, e9, e10]
      refine ⟨by omega, by omega, fun I4 h4 => ⟨by omega, by omega, fun I5 h5 => ⟨by omega, by omega, fun I6 h6 => ⟨by omega, by omega, fun I7 h7 => ⟨by omega, by omega, fun I8 h8 => br_F (by decide) ⟨hS2.k (by decide), by decide, by omega, fun I9 h9 => ⟨Or.inr rfl, ?_⟩⟩⟩⟩⟩⟩⟩
      have k4 := k1.stp (by decide) h4
      have k5 := k4.stp (by decide) h5
      have k6 := k5.stp (by decide) h6
      have k7 := k6.stp (by decide) h7
      have k8 := k7.stp (by decide) h8
      have k9 := k8.stp (by decide) h9
      have g4 := stp hS2 (by decide) h4
      have g5 := stp hS2 (by decide) h5
      have g6 := stp hS2 (by decide) h6
      have g7 := stp hS2 (by decide) h7
      have g8 := stp hS2 (by decide) h8
      have g9 := stp hS2 (by decide) h9
      rw [g8, g7, g6, g5, g4, g1, hI2, ← p1] at g9
      refine hF _ _ _ _ (hP2.vp.frl k9) ?_ (Int.le_of_eq (show plA A n ahead rank 1 0 = A 1 0 from ?_))
      · rw [g9]
        exact hD.plan h47 hn (by omega) (fun p p0 pp => by rw [hg2]; exact (p3 p p0 (by omega)).1)
      · simp [plA, sc, ui, cpw]
    · obtain ⟨-, rfl⟩ := hr2
      have e0 : plA A n ahead rank 0 0 = 0 := by simp [plA, sc, ui, cpw]
      rw [e0] at hd
      rcases hd with hd | hd | hd
      · exact absurd hd.2 (by decide)
      · exact absurd hd.2 (by decide)
      · exact absurd hd.2 (by decide)
  · refine br_F (by decide) (bn_F (by decide) (bn_T rfl ⟨hP.vp.xk, c_planx (R := fun z A2 => A2 = sc (sc A 0 0) 0 3) hP (by unfold rg; omega) (by unfold rg; omega) (by unfold rg; omega) (start ?_) (fun z S' F' I' A1 hr2 h0 hP2 hI2 hg2 => ?_) (fun X9 z A1 S' F' I' hr2 hd hP2 hI2 hg2 => ?_)⟩))
    · refine m_stands ⟨hn.1, by omega⟩ ?_
      rw [if_pos w1, hs]
      exact br_F (by decide) (br_F (by show ¬ A 52 0 = 0; omega) (bn_T rfl rfl))
    · have hr2 : A1 = _ := hr2
      subst hr2
      exact absurd h0 (by show ¬ (3 : Int) = 0; decide)
    · have hr2 : A1 = _ := hr2
      subst hr2
      have hX : X9 = "java/lang/IllegalStateException" := by
        rcases hd with hd | hd | hd
        · exact absurd hd.2 (by show ¬ (3 : Int) = 1; decide)
        · exact absurd hd.2 (by show ¬ (3 : Int) = 2; decide)
        · exact hd.1
      have hS2 := hP2.vp.ls
      have m3 := hS2.n3
      refine ⟨hX, br_T rfl (bn_T rfl ⟨1, br_F (by decide) (br_T rfl (br_T rfl (br_T rfl ⟨hS2.k (by decide), by decide, by omega, fun I4 h4 => ⟨Or.inr rfl, ?_⟩⟩)))⟩)⟩
      have k4 := FrL.rf.stp (by decide) h4
      have g4 := stp hS2 (by decide) h4
      have hD2 : LRd (lA la I) (sc (sc A 0 0) 0 3) := hD.frA h47 (fun a j h _ _ => (sc_k h).trans (sc_k h))
      have h47b : ∀ n : Int, 0 ≤ n → n < 3 → (sc (sc A 0 0) 0 3) 36 n = 1 → (sc (sc A 0 0) 0 3) 47 n ≤ 8 := h47
      refine hF _ _ _ _ (hP2.vp.frl k4) ?_ (Int.le_refl _)
      rw [g4, hI2, ← p1]
      exact hD2.put h47b
/-- the way is drafted: where it ends, the plan is called -/
theorem l_pexit (i : Nat) (hP : VPx (m + 1) G x la lg A S F I) (hne : ∀ k, k < 4 → lg ≠ la k) (hD : LRd (lA la I) A) (hn : 0 ≤ n ∧ n < 3) (h36 : A 36 n = 1) (h39 : A 39 n = 0 ∨ A 39 n = 1) (hi : 1 ≤ i ∧ i ≤ 5) (hp : PD lg n s0 i A I) (hcl : A 1 0 + 300 ≤ 20000) (hF : FinP m G x la (A 1 0) Q)
    (hs : (0 ≤ s ∧ s = dnd A i 0 s0) ∨ (s < 0 ∧ dnd A i 0 s0 = -1)) (k : Nat) : V_L_plans_35 (k + 1) x n z (la 2) (la 0) (la 3) (16 * n) (i : Int) s 1 lg (i : Int) S F I Q := by
  have hS := hP.vp.ls
  have n2 := hS.n2
  have n3 := hS.n3
  obtain ⟨cc, LN, B, E, hR⟩ := hP.vp.rep
  have hc0 := hR.1.2.2.2.2.1
  have e3 := ix (i := 3) hn.1 hn.2 (by decide) (by decide)
  have q0 : I (la 3) 0 = A 1 0 := hD.1.1
  have r3 : I (la 2) (16 * n + 3) = A 39 n := ((hD.2.2.2.2.1 n hn.1 hn.2).2 h36).2.2.1
  refine br_T (Int.le_refl _) ⟨hS.k (by decide), by decide, by omega, pick _ _ (by decide) (fun z4 a0 a1 => pick _ _ (by decide) (fun z5 b0 b1 => fun v hv => pick _ _ (by decide) (fun z7 c0 c1 => ?_) (by decide)) (by decide)) (by decide)⟩
  have hm : 0 ≤ z4 * z5 ∧ z4 * z5 ≤ 38 := by
    have h3 : z4 = 0 ∨ z4 = 1 ∨ z4 = 2 := by omega
    rcases h3 with rfl | rfl | rfl <;> omega
  rw [q0, w32_id (z := z4 * z5) (by unfold rg; omega), w32_id (by unfold rg; omega)] at hv
  rw [e3, r3]
  refine ⟨hS.k (by decide), by omega, by omega, br_F (by omega) ⟨fun c9 => ?_, fun c9 => ?_⟩⟩
  · exact l_pcall i hP hne hD hn h36 h39 hi hp (by omega) (by omega) hF 0 (Or.inr ⟨rfl, by omega⟩)
  · exact l_pcall i hP hne hD hn h36 h39 hi hp (by omega) (by omega) hF 1 (Or.inl ⟨rfl, by omega, by omega⟩)
theorem l_pdraft (hne : ∀ k, k < 4 → lg ≠ la k) (hn : 0 ≤ n ∧ n < 3) (hs0 : 0 ≤ s0 ∧ s0 < 4) (hmany : 1 ≤ many ∧ many ≤ 5) {T : Int} (hF : FinP m G x la T Q) (hT : T + 300 ≤ 20000) : ∀ (k i : Nat) (s : Int) (A : Il) (S : Shp) (F : Fl) (I : Il), i + k = 6 → (i : Int) ≤ many → VPx (m + 1 + k) G x la lg A S F I → LRd (lA la I) A → A 1 0 = T → A 36 n = 1 → (A 39 n = 0 ∨ A 39 n = 1) → PD lg n s0 i A I → (0 ≤ s ∧ s < 4 ∧ s = dnd A i 0 s0) → V_L_plans_35 (k + 1) x n z (la 2) (la 0) (la 3) (16 * n) many s 1 lg (i : Int) S F I Q
  | 0, i, s, A, S, F, I, e, hi, hP, hD, hc, h36, h39, hp, hs => absurd hi (by omega)
  | k + 1, i, s, A, S, F, I, e, hi, hP, hD, hc, h36, h39, hp, hs => by
    by_cases he : many ≤ (i : Int)
    · have he2 : many = (i : Int) := by omega
      rw [he2]
      exact l_pexit (m := m) i (hP.less (by omega)) hne hD hn h36 h39 (by omega) hp (by omega) (by rw [hc]; exact hF) (Or.inl ⟨hs.1, hs.2.2⟩) (k + 1)
    · have hlg := hP.row
      have h47 := hP.vp.w47
      obtain ⟨p1, p2, p3, p4⟩ := hp
      -- whatever block it is
      have leg : ∀ b : Int, 0 ≤ b → b < 4 → V_L_plans_97 (fun y0 y1 y2 y3 y4 y5 y6 y7 y8 y9 y10 y11 S' F' I' => V_L_plans_35 (k + 1) y0 y1 y2 y3 y4 y5 y6 y7 y8 y9 y10 y11 S' F' I' Q) x n z (la 2) (la 0) (la 3) (16 * n) many s 1 lg (i : Int) b S F I Q := fun b b0 b1 => by
        refine ⟨hlg.1, by omega, by omega, fun I4 h4 => br_F (by decide) ⟨hP.vp.xk, ?_⟩⟩
        have fr4 : ∀ a, (∀ k, k < 4 → a ≠ la k) → a ≠ lg → ∀ j, I4 a j = I a j := fun a _ ha j => by rw [h4]; exact if_neg (fun w => ha w.1)
        have l4 : lA la I4 = lA la I := by
          funext r j
          show (if r < 4 then I4 (la r) j else 0) = if r < 4 then I (la r) j else 0
          by_cases hr : r < 4
          · rw [if_pos hr, if_pos hr, h4]
            exact if_neg (fun w => hne r hr w.1.symm)
          · rw [if_neg hr, if_neg hr]
        have g4 : ∀ j, I4 lg j = if j = (i : Int) then b else I lg j := fun j => by
          rw [h4]
          by_cases ej : j = (i : Int)
          · rw [if_pos ej, ej]; exact ui_s
          · rw [if_neg ej]; exact ui_j ej
        have hP4 := hP.frl fr4
        have h6 := hD.2.2.1.1
        refine c_legx (R := fun z A2 => z = (i : Int) + 1 ∧ A2 = sc (ui (sc A 0 0) 53 (A 52 0) b) 52 ((i : Int) + 1)) (n := m + 1 + k) hP4 (by unfold rg; omega) (m_isBlock1 (by omega) (by omega) (bn_F (by decide) (bn_F (by omega) ?_))) (fun z S' F' I' A1 hr h0 hP2 hI2 hg2 => ?_) (fun X9 z A1 S' F' I' hr hd _ _ _ => ?_)
        · refine br_T le0 ⟨by show 0 ≤ A 52 0; omega, by show A 52 0 < 8; omega, ?_, ?_⟩
          · show w32 (A 52 0 + 1) = _
            rw [p1]
            exact w32_id (by unfold rg; omega)
          · show sc (ui (sc A 0 0) 53 (A 52 0) b) 52 (w32 (A 52 0 + 1)) = _
            rw [show w32 (A 52 0 + 1) = (i : Int) + 1 from by rw [p1]; exact w32_id (by unfold rg; omega)]
        · obtain ⟨rfl, rfl⟩ := hr
          rw [w32_id (z := (i : Int) + 1) (by unfold rg; omega)]
          refine bn_T rfl ?_
          rw [p1] at hP2
          have hA : ∀ a j, a ≠ 0 → a ≠ 52 → a ≠ 53 → sc (ui (sc A 0 0) 53 (i : Int) b) 52 ((i : Int) + 1) a j = A a j := fun a j h1 h2 h3 => (sc_k h2).trans ((ui_k h3).trans (sc_k h1))
          have h53 : ∀ p : Int, p ≠ (i : Int) → sc (ui (sc A 0 0) 53 (i : Int) b) 52 ((i : Int) + 1) 53 p = A 53 p := fun p hp => (sc_k (by decide)).trans ((ui_j hp).trans (sc_k (by decide)))
          have h53i : sc (ui (sc A 0 0) 53 (i : Int) b) 52 ((i : Int) + 1) 53 (i : Int) = b := (sc_k (by decide)).trans ui_s
          have h52 : sc (ui (sc A 0 0) 53 (i : Int) b) 52 ((i : Int) + 1) 52 0 = (i : Int) + 1 := sc_s
          generalize sc (ui (sc A 0 0) 53 (i : Int) b) 52 ((i : Int) + 1) = A1 at *
          have hD1 : LRd (lA la I') A1 := by rw [hI2, l4]; exact hD.frA h47 hA
          have pre : ∀ w : Nat, w ≤ i → dnd A1 w 0 s0 = dnd A w 0 s0 := fun w hw => dnd_pre (N := (i : Int)) (fun p p0 p1 => h53 p (by omega)) (fun j => hA 7 j (by decide) (by decide) (by decide)) w 0 s0 (by decide) (by omega)
          have hnx : dnd A1 (i + 1) 0 s0 = oth A1 b s := by
            rw [dnd_add A1 i 1 0 s0, pre i (Nat.le_refl _), ← hs.2.2, Int.zero_add]
            show oth A1 (A1 53 (i : Int)) s = _
            rw [h53i]
          have o4 := oth4 (s := s) hD1 ⟨b0, b1⟩
          have hp1 : PD lg n s0 (i + 1) A1 I' := by
            refine ⟨by rw [h52]; omega, (hA 40 n (by decide) (by decide) (by decide)).trans p2, fun p p0 pp => ?_, fun w hw => ?_⟩
            · rw [hg2, g4]
              by_cases ep : p = (i : Int)
              · rw [if_pos ep, ep, h53i]
                exact ⟨rfl, b0, b1⟩
              · rw [if_neg ep, h53 p ep]
                exact p3 p p0 (by omega)
            · rw [pre w (by omega)]
              by_cases ew : w < i
              · exact p4 w ew
              · obtain rfl : w = i := by omega
                rw [← hs.2.2]
                omega
          have h36' : A1 36 n = 1 := (hA 36 n (by decide) (by decide) (by decide)).trans h36
          have h39' : A1 39 n = 0 ∨ A1 39 n = 1 := by rw [hA 39 n (by decide) (by decide) (by decide)]; exact h39
          have hc' : A1 1 0 = T := (hA 1 0 (by decide) (by decide) (by decide)).trans hc
          have h7 := (hD1.2.2.1.2 b b0 b1)
          unfold V_L_plans_129
          refine br_T hs.1 (l_other (A := A1) ⟨b0, b1⟩ ⟨h7.1, h7.2.1⟩ ?_)
          by_cases co : 0 ≤ oth A1 b s
          · refine br_T co (br_T co ?_)
            show V_L_plans_35 (k + 1) x n _ (la 2) (la 0) (la 3) (16 * n) many (oth A1 b s) 1 lg (w32 ((i : Int) + 1)) S' F' I' Q
            rw [w32_up (by omega)]
            exact l_pdraft hne hn hs0 hmany hF hT k (i + 1) _ A1 S' F' I' (by omega) (by omega) hP2 hD1 hc' h36' h39' hp1 ⟨co, o4.2, hnx.symm⟩
          · refine br_F co (br_F (by decide) (fun v hv => ?_))
            rw [w32_up (by omega)] at hv
            subst hv
            show V_L_plans_35 (k + 1) x n _ (la 2) (la 0) (la 3) (16 * n) ((i + 1 : Nat) : Int) (-20) 1 lg (w32 ((i : Int) + 1)) S' F' I' Q
            rw [w32_up (by omega)]
            exact l_pexit (m := m) (i + 1) (hP2.less (by omega)) hne hD1 hn h36' h39' (by omega) hp1 (by omega) (by rw [hc']; exact hF) (Or.inr ⟨by decide, by rw [hnx]; omega⟩) k
        · obtain ⟨-, rfl⟩ := hr
          rcases hd with hd | hd
          · exact absurd hd.2 (by show ¬ (0 : Int) = 1; decide)
          · exact absurd hd.2 (by show ¬ (0 : Int) = 2; decide)
      have md : ∀ y : Int, 0 ≤ y → y < 8 → 0 ≤ w32 (Int.tmod (w32 y) 4) ∧ w32 (Int.tmod (w32 y) 4) < 4 := fun y y0 y1 => by
        rw [w32_id (z := y) (by unfold rg; omega), Int.tmod_eq_emod_of_nonneg y0, w32_id (by unfold rg; omega)]
        omega
      have e66 : ∀ b : Int, 0 ≤ b → b < 4 → V_L_plans_66 (fun y0 y1 y2 y3 y4 y5 y6 y7 y8 y9 y10 y11 S' F' I' => V_L_plans_35 (k + 1) y0 y1 y2 y3 y4 y5 y6 y7 y8 y9 y10 y11 S' F' I' Q) x n z (la 2) (la 0) (la 3) (16 * n) many s 1 lg (i : Int) b S F I Q := fun b b0 b1 => by
        have m1 := md (s + 1) (by omega) (by omega)
        exact pick _ _ (by decide) (fun z1 _ _ => ⟨fun _ => leg b b0 b1, fun _ => ⟨fun _ => leg b b0 b1, fun _ => leg _ m1.1 m1.2⟩⟩) (by decide)
      have m3 := md (s + 3) (by omega) (by omega)
      exact br_F he (pick _ _ (by decide) (fun z11 _ _ => ⟨fun _ => e66 _ m3.1 m3.2, fun _ => e66 s hs.1 hs.2.1⟩) (by decide))
theorem t_plan (hP : VP (m + 8) G x la A S F I) (hL : LR (lA la I) A) (hn : 0 ≤ n ∧ n < 3) (h36 : A 36 n = 1) (h39 : A 39 n = 0 ∨ A 39 n = 1) (h52 : A 52 0 = 0) (hcl : A 1 0 + 300 ≤ 20000) (hF : FinP m G x la (A 1 0) Q) : V_L_plans x n z (la 2) (la 0) (la 3) S F I Q := by
  have hS := hP.ls
  have n2 := hS.n2
  have hrm := hP.rm
  obtain ⟨cc, LN, B, E, hR⟩ := hP.rep
  have gT := hR.2.2.2.2.2.2.2.2.2.2.2.2.2.2.2.2.1
  have w40 := ((hL.2.2.2.2.1 n hn.1 hn.2).2 h36)
  have r4 : I (la 2) (16 * n + 4) = A 40 n := w40.2.2.2.2.1
  have r4b : A 40 n < 4 := w40.2.2.2.2.2.1
  have r4a : 0 ≤ A 40 n := by
    obtain ⟨y1, y2, y3, y4, y5, y6, y7, y8, y9, y10, y11, y12, y13, y14, -⟩ := (gT n hn.1 (by omega)).2.2.2.2 h36
    exact y14
  have e4 := ix (i := 4) hn.1 hn.2 (by decide) (by decide)
  refine fun v1 hv1 => ?_
  rw [w32_id (by unfold rg; omega)] at hv1
  subst hv1
  refine pick _ _ (by decide) (fun z2 a0 a1 => fun v3 hv3 => ?_) (by decide)
  rw [w32_id (by unfold rg; omega)] at hv3
  rw [e4, r4]
  refine ⟨hS.k (by decide), by omega, by omega, fun v7 hv7 => ⟨hrm.1, by omega, fun q hq => ?_⟩⟩
  obtain ⟨x1, x2, x3, x4, x5⟩ := (hP.less (m := m + 7 + 1) (by omega)).new hq
  refine ⟨7, l_pdraft (m := m) (T := A 1 0) (s0 := A 40 n) (fun k hk e => x5 k hk e.symm) hn ⟨r4a, r4b⟩ (by omega) hF (by omega) 6 0 v7 A _ F _ rfl (by omega) x1 (by rw [x2]; exact hL.d) rfl h36 h39 ⟨h52, rfl, fun p p0 p1 => absurd p1 (by omega), fun w hw => absurd hw (by omega)⟩ ⟨by omega, by omega, hv7⟩⟩
end Plan2
