/-! the class, the reference's numbers and the law's rows in one place -/
def dn (Y : Yt) : Yt := (ym Y, yo Y, yz Y, yS Y, yg Y, ye Y, yc Y, ya Y - 16, yb Y - 256)
theorem cg_thr {Y : Yt} {it LN : Nat → Nat} {S : Shp} (hC : Cg Y it LN S) (ha : 16 ≤ ya Y) (hb : 256 ≤ yb Y) : Cg (dn Y) it LN (thr S) := by
  obtain ⟨a1, a2, a3, a4, a5, a6, a7, a8, a9, a10, a11, a12, a13, a14, a15, a16, ⟨a17, a17b⟩, a18⟩ := hC
  exact ⟨a1, a2, a3, a4, a5, a6, a7, a8, a9, a10, a11, a12, a13, a14, a15, a16, ⟨by show ya Y - 16 + 16 + _ ≤ sa S - 1; omega, by show yb Y - 256 + 256 + _ ≤ sb S - 6; omega⟩, a18⟩
/-- n calls may come; the class x; the law's rows la; the reference's numbers A -/
def VP (n : Nat) (G : Gp) (x : Nat) (la : Nat → Nat) (A : Il) (S : Shp) (F : Fl) (I : Il) : Prop := ∃ (Y : Yt) (it LN : Nat → Nat), x = yg Y 0 ∧ (la 0 = ym Y 0 ∧ la 1 = ym Y 1 ∧ la 2 = ym Y 2 ∧ la 3 = yo Y) ∧ yz Y = gZ G ∧ Ls la (yS Y) ∧ Cg Y it LN S ∧ 16 * n + 1024 * (20 - yc Y 11) ≤ ya Y ∧ 256 * n + 2048 * (20 - yc Y 11) ≤ yb Y ∧ Rep (yc Y) LN (Bc Y F) (Ec Y it I) A ∧ pz A + 2 * (n : Int) ≤ 1022
section Vp
variable {n : Nat} {G : Gp} {x : Nat} {la : Nat → Nat} {A : Il} {S S' : Shp} {F F' : Fl} {I I' : Il} {Y : Yt} {it LN : Nat → Nat}
theorem lA_fc (hla : la 0 = ym Y 0 ∧ la 1 = ym Y 1 ∧ la 2 = ym Y 2 ∧ la 3 = yo Y) (h : Fc Y F I F' I') : lA la I' = lA la I := by
  funext k j
  show (if k < 4 then I' (la k) j else 0) = if k < 4 then I (la k) j else 0
  by_cases hk : k < 4
  · rw [if_pos hk, if_pos hk]
    have h4 : k = 0 ∨ k = 1 ∨ k = 2 ∨ k = 3 := by omega
    rcases h4 with rfl | rfl | rfl | rfl
    · rw [hla.1]; exact h.2.1 0 rfl j
    · rw [hla.2.1]; exact h.2.1 1 rfl j
    · rw [hla.2.2.1]; exact h.2.1 2 rfl j
    · rw [hla.2.2.2]; exact h.2.2 j
  · rw [if_neg hk, if_neg hk]
theorem VP.ls (h : VP n G x la A S F I) : Ls la S := by
  obtain ⟨Y, it, LN, hx, hla, hz, hLs, hC, ha, hb, hRp, hp⟩ := h
  refine ⟨fun k hk => ?_, hLs.2⟩
  obtain ⟨k1, k2⟩ := hLs.1 k hk
  obtain ⟨o1, o2, o3⟩ := hC.old.1 (la k) (by rw [k1]; decide)
  exact ⟨o1.trans k1, by rw [o2]; exact k2⟩
theorem VP.rep (h : VP n G x la A S F I) : ∃ (c LN : Nat → Nat) (B : Fl) (E : El), Rep c LN B E A := by
  obtain ⟨Y, it, LN, hx, hla, hz, hLs, hC, ha, hb, hRp, hp⟩ := h
  exact ⟨_, _, _, _, hRp⟩
theorem VP.xk (h : VP n G x la A S F I) : sK S x = 9 := by
  obtain ⟨Y, it, LN, hx, hla, hz, hLs, hC, ha, hb, hRp, hp⟩ := h
  rw [hx]
  exact Cg.k hC (v := 0) rfl (by decide)
theorem VP.less {m : Nat} (hm : m ≤ n) (h : VP n G x la A S F I) : VP m G x la A S F I := by
  obtain ⟨Y, it, LN, hx, hla, hz, hLs, hC, ha, hb, hRp, hp⟩ := h
  exact ⟨Y, it, LN, hx, hla, hz, hLs, hC, by omega, by omega, hRp, by omega⟩
theorem VP.rm (h : VP n G x la A S F I) : 1 ≤ sa S ∧ 64 ≤ sb S := by
  obtain ⟨Y, it, LN, hx, hla, hz, hLs, hC, ha, hb, hRp, hp⟩ := h
  have := hC.bud
  omega
/-- names of the class are none of the law's rows -/
theorem la_ne (hla : la 0 = ym Y 0 ∧ la 1 = ym Y 1 ∧ la 2 = ym Y 2 ∧ la 3 = yo Y) (hC : Cg Y it LN S) {k : Nat} (hk : k < 4) : (∀ v, kd (yc Y) v ≠ 99 → yg Y v ≠ la k) ∧ ∀ v, kd (yc Y) v = 6 → it v ≠ la k := by
  have h4 : k = 0 ∨ k = 1 ∨ k = 2 ∨ k = 3 := by omega
  rcases h4 with rfl | rfl | rfl | rfl
  · rw [hla.1]; exact ⟨fun v hv => (hC.2.2.2.2.1 v 0 rfl).1 hv, fun v hv => (hC.2.2.2.2.1 v 0 rfl).2 hv⟩
  · rw [hla.2.1]; exact ⟨fun v hv => (hC.2.2.2.2.1 v 1 rfl).1 hv, fun v hv => (hC.2.2.2.2.1 v 1 rfl).2 hv⟩
  · rw [hla.2.2.1]; exact ⟨fun v hv => (hC.2.2.2.2.1 v 2 rfl).1 hv, fun v hv => (hC.2.2.2.2.1 v 2 rfl).2 hv⟩
  · rw [hla.2.2.2]; exact ⟨fun v hv => (hC.2.2.2.2.2.1 v).1 hv, fun v hv => (hC.2.2.2.2.2.1 v).2.1 hv⟩
/-- the law writes into its own rows alone -/
theorem VP.frl (hF : FrL la I I') (h : VP n G x la A S F I) : VP n G x la A S F I' := by
  obtain ⟨Y, it, LN, hx, hla, hz, hLs, hC, ha, hb, hRp, hp⟩ := h
  refine ⟨Y, it, LN, hx, hla, hz, hLs, hC, ha, hb, hRp.lv (fun _ _ _ => rfl) (fun v hv j => ?_) (fun v hv j => ?_) (fun _ _ => rfl), hp⟩
  · exact hF (it v) (fun k hk => (la_ne hla hC hk).2 v hv) j
  · exact hF (yg Y v) (fun k hk => (la_ne hla hC hk).1 v hv) j
theorem VP.set {k : Nat} {j z : Int} (hk : k < 4) (h : VP n G x la A S F I) : VP n G x la A S F (ui I (la k) j z) := h.frl (FrL.rf.stp hk rfl)
set_option maxHeartbeats 1000000 in
theorem cg_ext {a9 b9 : Nat} (hC : Cg Y it LN S) (h : ∀ b, sK S b ≠ 99 → sK S' b = sK S b ∧ sN S' b = sN S b ∧ (∀ f, sR S' f b = sR S f b) ∧ ∀ j, sG S' b j = sG S b j) (hb : a9 + 16 + pq LN ≤ sa S' ∧ b9 + 256 + 2 * pq LN ≤ sb S') : Cg (ym Y, yo Y, yz Y, yS Y, yg Y, ye Y, yc Y, a9, b9) it LN S' := by
  obtain ⟨a1, a2, a3, a4, a5, a6, a7, a8, a9', a10, a11, a12, a13, ⟨a14, a14b⟩, a15, a16, a17, ⟨o1, o2⟩⟩ := hC
  have hv : ∀ v, kd (yc Y) v ≠ 99 → sK S' (yg Y v) = sK S (yg Y v) ∧ sN S' (yg Y v) = sN S (yg Y v) ∧ (∀ f, sR S' f (yg Y v) = sR S f (yg Y v)) ∧ ∀ j, sG S' (yg Y v) j = sG S (yg Y v) j := fun v hv => h (yg Y v) (by rw [a7 v hv]; exact hv)
  have h0 : kd (yc Y) 0 ≠ 99 := by show (9 : Nat) ≠ 99; decide
  have h1 : kd (yc Y) 1 ≠ 99 := by show (23 : Nat) ≠ 99; decide
  have h2 : kd (yc Y) 2 ≠ 99 := by show (24 : Nat) ≠ 99; decide
  refine ⟨a1, a2, a3, a4, a5, a6, fun v w => (hv v w).1.trans (a7 v w), fun v w => ?_, ?_, fun v w => ?_, fun v w => ?_, fun v w => ?_, fun v w => ?_, ⟨fun j j0 j1 => ((hv 1 h1).2.2.2 j).trans (a14 j j0 j1), fun j j0 j1 => ((hv 2 h2).2.2.2 j).trans (a14b j j0 j1)⟩, fun v w => ?_, a16, hb, ⟨fun q hq => ?_, o2⟩⟩
  · obtain ⟨w1, w2, w3, w4⟩ := a8 v w
    have hi := h (it v) (by rw [w2]; decide)
    exact ⟨((hv v (by rw [show kd (yc Y) v = 6 from w]; decide)).2.2.1 600).trans w1, hi.1.trans w2, hi.2.1.trans w3, w4⟩
  · have r := (hv 0 h0).2.2.1
    rw [r, r, r, r, r, r, r, r, r, r, r, r]
    exact a9'
  · exact ((hv v (by rw [show kd (yc Y) v = 7 from w]; decide)).2.2.1 701).trans (a10 v w)
  · have r := (hv v (by rw [show kd (yc Y) v = 8 from w]; decide)).2.2.1
    rw [r, r, r]
    exact a11 v w
  · exact ((hv v (by rw [show kd (yc Y) v = 3 from w]; decide)).2.2.1 304).trans (a12 v w)
  · exact ((hv v (by rcases w with w | w | w <;> rw [show kd (yc Y) v = _ from w] <;> decide)).2.1).trans (a13 v w)
  · have r := (hv v (by rw [show kd (yc Y) v = 0 from w]; decide)).2.2.1
    rcases a15 v w with ⟨e1, e2⟩ | ⟨e1, e2, e3, e4, e5, e6⟩
    · exact Or.inl ⟨e1, (r 1).trans e2⟩
    · have he := h (ye Y v) (by rw [e3]; decide)
      exact Or.inr ⟨e1, (r 1).trans e2, he.1.trans e3, by show yc Y v ≤ sN S' (ye Y v); rw [he.2.1]; exact e4, by show sN S' (ye Y v) ≤ 64; rw [he.2.1]; exact e5, fun j j0 j1 => (he.2.2.2 j).trans (e6 j j0 j1)⟩
  · obtain ⟨k1, k2, k3⟩ := o1 q hq
    have hq2 := h q (by rw [k1]; exact hq)
    exact ⟨hq2.1.trans k1, hq2.2.1.trans k2, fun f hf => (hq2.2.2.1 f).trans (k3 f hf)⟩
/-- .. and a row lg beside the law's four: the legs of a draft -/
def VPx (n : Nat) (G : Gp) (x : Nat) (la : Nat → Nat) (lg : Nat) (A : Il) (S : Shp) (F : Fl) (I : Il) : Prop := ∃ (Y : Yt) (it LN : Nat → Nat), x = yg Y 0 ∧ (la 0 = ym Y 0 ∧ la 1 = ym Y 1 ∧ la 2 = ym Y 2 ∧ la 3 = yo Y) ∧ (ym Y 3 = lg ∧ sK (yS Y) lg = 20 ∧ sN (yS Y) lg = 8) ∧ yz Y = gZ G ∧ Ls la (yS Y) ∧ Cg Y it LN S ∧ 16 * n + 1024 * (20 - yc Y 11) ≤ ya Y ∧ 256 * n + 2048 * (20 - yc Y 11) ≤ yb Y ∧ Rep (yc Y) LN (Bc Y F) (Ec Y it I) A ∧ pz A + 2 * (n : Int) ≤ 1022
theorem VPx.vp {lg : Nat} (h : VPx n G x la lg A S F I) : VP n G x la A S F I := by
  obtain ⟨Y, it, LN, hx, hla, hlg, hz, hLs, hC, ha, hb, hRp, hp⟩ := h
  exact ⟨Y, it, LN, hx, hla, hz, hLs, hC, ha, hb, hRp, hp⟩
theorem cg_ym {q : Nat} (hC : Cg Y it LN S) (hq : sK S q ≠ 99) (n1 : ∀ v, yg Y v ≠ q) (n2 : ∀ v, it v ≠ q) : Cg ((fun k => if k = 3 then q else ym Y k), yo Y, yz Y, S, yg Y, ye Y, yc Y, ya Y, yb Y) it LN S := by
  obtain ⟨a1, a2, a3, a4, a5, a6, a7, a8, a9, a10, a11, a12, a13, a14, a15, a16, a17, ⟨o1, o2, o3, o4⟩⟩ := hC
  have live : ∀ a, sK (yS Y) a ≠ 99 → sK S a ≠ 99 := fun a ha => by rw [(o1 a ha).1]; exact ha
  refine ⟨a1, a2, a3, a4, fun v k hk => ?_, a6, a7, a8, a9, a10, a11, a12, a13, a14, a15, a16, a17, ⟨fun a _ => ⟨rfl, rfl, fun _ _ => rfl⟩, fun k hk => ?_, live _ o3, live _ o4⟩⟩
  · show (kd (yc Y) v ≠ 99 → yg Y v ≠ if k = 3 then q else ym Y k) ∧ (kd (yc Y) v = 6 → it v ≠ if k = 3 then q else ym Y k)
    by_cases e : k = 3
    · rw [if_pos e]; exact ⟨fun _ => n1 v, fun _ => n2 v⟩
    · rw [if_neg e]; exact a5 v k hk
  · show sK S (if k = 3 then q else ym Y k) ≠ 99
    by_cases e : k = 3
    · rw [if_pos e]; exact hq
    · rw [if_neg e]; exact live _ (o2 k hk)
/-- a row of eight, made new -/
theorem VP.new {q : Nat} (hq : sK S q = 99) (h : VP (n + 1) G x la A S F I) : VPx n G x la q A (newA S q 20 8) F (zI I q) ∧ lA la (zI I q) = lA la I ∧ sK (newA S q 20 8) q = 20 ∧ sN (newA S q 20 8) q = 8 ∧ ∀ k, k < 4 → la k ≠ q := by
  have hls := h.ls
  have hne : ∀ k, k < 4 → la k ≠ q := fun k hk e => by
    have := hls.k hk
    rw [e, hq] at this
    exact absurd this (by decide)
  obtain ⟨Y, it, LN, hx, hla, hz, hLs, hC, ha, hb, hRp, hp⟩ := h
  obtain ⟨n1, n2, -⟩ := hC.nq hq
  have hbud := hC.bud
  have e20 : sK (newA S q 20 8) q = 20 := va_up_self _ _ _
  have hk : ∀ b, b ≠ q → sK (newA S q 20 8) b = sK S b ∧ sN (newA S q 20 8) b = sN S b := fun b e => ⟨va_up_ne _ _ e, va_up_ne _ _ e⟩
  have hC2 := cg_ext (S' := newA S q 20 8) (a9 := ya Y - 16) (b9 := yb Y - 256) hC (fun b hb9 => by
    have e : b ≠ q := fun e => hb9 (by rw [e]; exact hq)
    exact ⟨(hk b e).1, (hk b e).2, fun _ => rfl, fun j => if_neg e⟩) ⟨by show ya Y - 16 + 16 + pq LN ≤ sa S - 1; omega, by show yb Y - 256 + 256 + 2 * pq LN ≤ sb S - 8; omega⟩
  have hC3 := cg_ym (q := q) hC2 (by rw [e20]; decide) n1 n2
  refine ⟨⟨((fun k => if k = 3 then q else ym Y k), yo Y, yz Y, newA S q 20 8, yg Y, ye Y, yc Y, ya Y - 16, yb Y - 256), it, LN, hx, hla, ⟨rfl, e20, va_up_self _ _ _⟩, hz, ⟨fun k hk4 => ?_, hls.2⟩, hC3, ?_, ?_, ?_, by omega⟩, ?_, e20, va_up_self _ _ _, hne⟩
  · have w := hls.1 k hk4
    have w2 := hk (la k) (hne k hk4)
    show sK (newA S q 20 8) (la k) = 20 ∧ (sN (newA S q 20 8) (la k) : Int) = _
    rw [w2.1, w2.2]
    exact w
  · show _ + 1024 * (20 - yc Y 11) ≤ ya Y - 16
    omega
  · show _ + 2048 * (20 - yc Y 11) ≤ yb Y - 256
    omega
  · exact hRp.lv (fun _ _ _ => rfl) (fun v hv j => if_neg (n2 v)) (fun v hv j => if_neg (n1 v)) (fun _ _ => rfl)
  · funext k j
    show (if k < 4 then zI I q (la k) j else 0) = if k < 4 then I (la k) j else 0
    by_cases hk : k < 4
    · rw [if_pos hk, if_pos hk]
      exact if_neg (hne k hk)
    · rw [if_neg hk, if_neg hk]
/-- the law writes into its own rows and the legs -/
theorem VPx.frl {lg : Nat} (hF : ∀ a, (∀ k, k < 4 → a ≠ la k) → a ≠ lg → ∀ j, I' a j = I a j) (h : VPx n G x la lg A S F I) : VPx n G x la lg A S F I' := by
  obtain ⟨Y, it, LN, hx, hla, hlg, hz, hLs, hC, ha, hb, hRp, hp⟩ := h
  refine ⟨Y, it, LN, hx, hla, hlg, hz, hLs, hC, ha, hb, hRp.lv (fun _ _ _ => rfl) (fun v hv j => ?_) (fun v hv j => ?_) (fun _ _ => rfl), hp⟩
  · exact hF (it v) (fun k hk => (la_ne hla hC hk).2 v hv) (by rw [← hlg.1]; exact (hC.2.2.2.2.1 v 3 rfl).2 hv) j
  · exact hF (yg Y v) (fun k hk => (la_ne hla hC hk).1 v hv) (by rw [← hlg.1]; exact (hC.2.2.2.2.1 v 3 rfl).1 hv) j
theorem VPx.lg {lg : Nat} (h : VPx n G x la lg A S F I) : sK S lg ≠ 99 := by
  obtain ⟨Y, it, LN, hx, hla, hlg, hz, hLs, hC, ha, hb, hRp, hp⟩ := h
  have o := hC.old
  have o3 := o.2.1 3 rfl
  rw [← hlg.1, (o.1 _ o3).1]
  exact o3
theorem VPx.row {lg : Nat} (h : VPx n G x la lg A S F I) : sK S lg = 20 ∧ (sN S lg : Int) = 8 := by
  obtain ⟨Y, it, LN, hx, hla, ⟨h1, h2, h3⟩, hz, hLs, hC, ha, hb, hRp, hp⟩ := h
  obtain ⟨o1, o2, o3⟩ := hC.old.1 lg (by rw [h2]; decide)
  exact ⟨o1.trans h2, by rw [o2, h3]; rfl⟩
theorem VPx.less {lg m : Nat} (hm : m ≤ n) (h : VPx n G x la lg A S F I) : VPx m G x la lg A S F I := by
  obtain ⟨Y, it, LN, hx, hla, hlg, hz, hLs, hC, ha, hb, hRp, hp⟩ := h
  exact ⟨Y, it, LN, hx, hla, hlg, hz, hLs, hC, by omega, by omega, hRp, by omega⟩
theorem VPx.ne {lg : Nat} (h : VPx n G x la lg A S F I) (hk : ∀ k, k < 4 → la k ≠ lg) (k : Nat) (k4 : k < 4) : lg ≠ la k := fun e => hk k k4 e.symm
end Vp
