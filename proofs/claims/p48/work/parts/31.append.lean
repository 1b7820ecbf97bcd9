/-! Row.append: the row may grow; what stood there stays -/
def W_X5_append (c : Nat → Nat) (x0 : Nat) (x1 : Int) (LN : Nat → Nat) (B : Fl) (E : El) (Q : (Nat → Nat) → Fl → El → Prop) : Prop :=
  kd c x0 = 6 ∧ 0 ≤ B 601 x0 ∧ B 601 x0 ≤ (LN x0 : Int) ∧ (B 601 x0 < (LN x0 : Int) ∨ (1 ≤ LN x0 ∧ ((160 ≤ x0 ∧ x0 < 180 ∧ LN x0 ≤ 512) ∨ (30 ≤ x0 ∧ x0 < 38 ∧ LN x0 ≤ 32)))) ∧
  ∀ (LN' : Nat → Nat) (E' : El), (∀ v, v ≠ x0 → LN' v = LN v) → (LN' x0 = LN x0 ∨ (LN' x0 = 2 * LN x0 ∧ (LN x0 : Int) ≤ B 601 x0)) → B 601 x0 < (LN' x0 : Int) → (∀ a, a ≠ .inr x0 → ∀ j, E' a j = E a j) → (∀ j, 0 ≤ j → j < B 601 x0 → E' (.inr x0) j = E (.inr x0) j) → E' (.inr x0) (B 601 x0) = x1 → Q LN' (u2 B 601 x0 (B 601 x0 + 1)) E'
theorem ap_41 {Y : Yt} {F0 : Fl} {I0 : Il} {it LN : Nat → Nat} {S : Shp} {F : Fl} {I : Il} {x0 : Nat} {x1 : Int} {Q : Shp → Fl → Il → Prop} {Qw : (Nat → Nat) → Fl → El → Prop} (hC : Cg Y it LN S) (hF : Fc Y F0 I0 F I) (hQ : ∀ (it' LN' : Nat → Nat) (S' : Shp) (F' : Fl) (I' : Il), Cg Y it' LN' S' → Fc Y F0 I0 F' I' → Qw LN' (Bc Y F') (Ec Y it' I') → Q S' F' I')
    (hk : kd (yc Y) x0 = 6) (h0 : 0 ≤ F 601 (yg Y x0)) (h1 : F 601 (yg Y x0) < (LN x0 : Int)) (h : Qw LN (u2 (Bc Y F) 601 x0 (F 601 (yg Y x0) + 1)) (ue (Ec Y it I) (.inr x0) (F 601 (yg Y x0)) x1)) : V_X5_append_41 (yg Y x0) x1 S F I Q := by
  obtain ⟨f1, f2, f3, f4⟩ := Cg.itm hC hk
  unfold V_X5_append_41
  refine ⟨Cg.k hC hk (by decide), fun c => absurd h0 (by omega), fun _ => ⟨it x0, f1, f2, by rw [f3]; omega, ?_⟩⟩
  rw [f3]
  refine ⟨fun c => absurd h1 (by omega), fun _ => ⟨h0, h1, ?_⟩⟩
  have e : w32 (F 601 (yg Y x0) + 1) = F 601 (yg Y x0) + 1 := w32_id (by unfold rg; omega)
  rw [e]
  rw [← Bc_f (F := F) hC hk (by decide), ← Ec_t (I := I) hC hk] at h
  exact hQ _ _ _ _ _ hC (Fc.f (k := 601) (by decide) (Fc.itm hC hk hF)) h
theorem pq_grow {LN : Nat → Nat} {x0 : Nat} (h1 : 1 ≤ LN x0) (h2 : (160 ≤ x0 ∧ x0 < 180 ∧ LN x0 ≤ 512) ∨ (30 ≤ x0 ∧ x0 < 38 ∧ LN x0 ≤ 32)) : pq (fun v => if v = x0 then 2 * LN x0 else LN v) + LN x0 ≤ pq LN := by
  show sm 20 (fun i => 1024 - (if 160 + i = x0 then 2 * LN x0 else LN (160 + i))) + sm 8 (fun i => 64 - (if 30 + i = x0 then 2 * LN x0 else LN (30 + i))) + LN x0 ≤ sm 20 (fun i => 1024 - LN (160 + i)) + sm 8 (fun i => 64 - LN (30 + i))
  rcases h2 with ⟨h2, h3, h4⟩ | ⟨h2, h3, h4⟩
  · have e1 := (sm_upd (f := fun i => 1024 - LN (160 + i)) (f' := fun i => 1024 - (if 160 + i = x0 then 2 * LN x0 else LN (160 + i))) (i0 := x0 - 160) (fun i hi => by
      show 1024 - (if 160 + i = x0 then 2 * LN x0 else LN (160 + i)) = 1024 - LN (160 + i)
      rw [if_neg (by omega)]) 20).1 (by omega)
    have e2 := sm_eq (f := fun i => 64 - LN (30 + i)) (f' := fun i => 64 - (if 30 + i = x0 then 2 * LN x0 else LN (30 + i))) 8 (fun i hi => by
      show 64 - (if 30 + i = x0 then 2 * LN x0 else LN (30 + i)) = 64 - LN (30 + i)
      rw [if_neg (by omega)])
    rw [show 160 + (x0 - 160) = x0 by omega, if_pos rfl] at e1
    rw [e2]
    omega
  · have e1 := (sm_upd (f := fun i => 64 - LN (30 + i)) (f' := fun i => 64 - (if 30 + i = x0 then 2 * LN x0 else LN (30 + i))) (i0 := x0 - 30) (fun i hi => by
      show 64 - (if 30 + i = x0 then 2 * LN x0 else LN (30 + i)) = 64 - LN (30 + i)
      rw [if_neg (by omega)]) 8).1 (by omega)
    have e2 := sm_eq (f := fun i => 1024 - LN (160 + i)) (f' := fun i => 1024 - (if 160 + i = x0 then 2 * LN x0 else LN (160 + i))) 20 (fun i hi => by
      show 1024 - (if 160 + i = x0 then 2 * LN x0 else LN (160 + i)) = 1024 - LN (160 + i)
      rw [if_neg (by omega)])
    rw [show 30 + (x0 - 30) = x0 by omega, if_pos rfl] at e1
    rw [e2]
    omega
/-- the shape behind a row that has grown: its new row q, twice as long -/
theorem ap_grow {Y : Yt} {it LN : Nat → Nat} {S : Shp} {x0 q : Nat} (hC : Cg Y it LN S) (hk : kd (yc Y) x0 = 6) (hq : sK S q = 99) (h1 : 1 ≤ LN x0) (h2 : (160 ≤ x0 ∧ x0 < 180 ∧ LN x0 ≤ 512) ∨ (30 ≤ x0 ∧ x0 < 38 ∧ LN x0 ≤ 32)) :
    Cg Y (fun v => if v = x0 then q else it v) (fun v => if v = x0 then 2 * LN x0 else LN v) (setR (newA S q 20 (2 * LN x0)) 600 (yg Y x0) (some q)) ∧ (∀ v, yg Y v ≠ q) ∧ (∀ v, it v ≠ q) ∧ (∀ k, isA k = true → ym Y k ≠ q) ∧ yo Y ≠ q := by
  obtain ⟨a1, a2, a3, a4, a5, a6, a7, a8, a9, a10, a11, a12, a13, a14, a15, a16, a17, a18⟩ := hC
  obtain ⟨o1, o2, o3, o4⟩ := a18
  have qo : yo Y ≠ q := fun e => by
    have := (o1 (yo Y) o3).1
    rw [e, hq] at this
    exact o3 (by rw [e]; exact this.symm)
  have qj : ym Y 0 ≠ q := fun e => by
    have := (o1 (ym Y 0) o4).1
    rw [e, hq] at this
    exact o4 (by rw [e]; exact this.symm)
  have qm : ∀ k, isA k = true → ym Y k ≠ q := fun k hk e => by
    have := (o1 (ym Y k) (o2 k hk)).1
    rw [e, hq] at this
    exact o2 k hk (by rw [e]; exact this.symm)
  have qg : ∀ v, yg Y v ≠ q := fun v e => by
    by_cases hv : kd (yc Y) v = 99
    · exact qj (((a6 v).2.2.1 hv).symm.trans e)
    · have := a7 v hv
      rw [e, hq] at this
      exact hv this.symm
  have qi : ∀ v, it v ≠ q := fun v e => by
    by_cases hv : kd (yc Y) v = 6
    · have := (a8 v hv).2.1
      rw [e, hq] at this
      cases this
    · exact qj (((a6 v).2.2.2 hv).symm.trans e)
  have ne0 : kd (yc Y) x0 ≠ 99 := by rw [hk]; decide
  have K : ∀ b, b ≠ q → sK (setR (newA S q 20 (2 * LN x0)) 600 (yg Y x0) (some q)) b = sK S b := fun b hb => va_up_ne _ _ hb
  have N : ∀ b, b ≠ q → sN (setR (newA S q 20 (2 * LN x0)) 600 (yg Y x0) (some q)) b = sN S b := fun b hb => va_up_ne _ _ hb
  have G9 : ∀ b j, b ≠ q → sG (setR (newA S q 20 (2 * LN x0)) 600 (yg Y x0) (some q)) b j = sG S b j := fun b j hb => if_neg hb
  have R : ∀ f b, ¬ (f = 600 ∧ b = yg Y x0) → sR (setR (newA S q 20 (2 * LN x0)) 600 (yg Y x0) (some q)) f b = sR S f b := fun f b hb => if_neg hb
  refine ⟨⟨a1, fun v w hv => ?_, fun v w hv => ?_, fun v w hv => ?_, fun v k hk9 => ⟨(a5 v k hk9).1, fun hv => ?_⟩, fun v => ⟨(a6 v).1, fun hv => ?_, (a6 v).2.2.1, fun hv => ?_⟩, fun v hv => (K _ (qg v)).trans (a7 v hv), fun v hv => ?_, ?_, fun v hv => ?_, fun v hv => ?_, fun v hv => ?_, fun v hv => (N _ (qg v)).trans (a13 v hv), ⟨fun j h0 h1 => (G9 _ _ (qg 1)).trans (a14.1 j h0 h1), fun j h0 h1 => (G9 _ _ (qg 2)).trans (a14.2 j h0 h1)⟩, fun v hv => ?_, a16, ?_, ?_, o2, o3, o4⟩, qg, qi, qm, qo⟩
  · show (if v = x0 then q else it v) = (if w = x0 then q else it w) → v = w
    by_cases e1 : v = x0
    · rw [if_pos e1]
      by_cases e2 : w = x0
      · exact fun _ => e1.trans e2.symm
      · rw [if_neg e2]
        exact fun e => absurd e.symm (qi w)
    · rw [if_neg e1]
      by_cases e2 : w = x0
      · rw [if_pos e2]
        exact fun e => absurd e (qi v)
      · rw [if_neg e2]
        exact a2 v w hv
  · show yg Y v ≠ (if w = x0 then q else it w)
    split
    · exact qg v
    · exact a3 v w hv
  · show (if v = x0 then q else it v) ≠ yg Y w
    split
    · exact (qg w).symm
    · exact a4 v w hv
  · show (if v = x0 then q else it v) ≠ ym Y k
    split
    · exact (qm k hk9).symm
    · exact (a5 v k hk9).2 hv
  · show (if v = x0 then q else it v) ≠ yo Y
    split
    · exact qo.symm
    · exact (a6 v).2.1 hv
  · show (if v = x0 then q else it v) = ym Y 0
    rw [if_neg (fun e => hv (by rw [e]; exact hk))]
    exact (a6 v).2.2.2 hv
  · obtain ⟨b1, b2, b3, b4⟩ := a8 v hv
    by_cases e1 : v = x0
    · subst e1
      show (if (600 : Nat) = 600 ∧ yg Y v = yg Y v then some q else _) = some (if v = v then q else it v) ∧ sK _ (if v = v then q else it v) = 20 ∧ sN _ (if v = v then q else it v) = (if v = v then 2 * LN v else LN v) ∧ (if v = v then 2 * LN v else LN v) ≤ 1024
      rw [if_pos ⟨rfl, rfl⟩, if_pos rfl, if_pos rfl]
      exact ⟨rfl, va_up_self _ _ _, va_up_self _ _ _, by omega⟩
    · show _ = some (if v = x0 then q else it v) ∧ sK _ (if v = x0 then q else it v) = 20 ∧ sN _ (if v = x0 then q else it v) = (if v = x0 then 2 * LN x0 else LN v) ∧ (if v = x0 then 2 * LN x0 else LN v) ≤ 1024
      rw [if_neg e1, if_neg e1]
      refine ⟨(R _ _ (fun e => e1 (a1 x0 v ne0 e.2.symm).symm)).trans ?_, (K _ (qi v)).trans b2, (N _ (qi v)).trans b3, b4⟩
      exact b1
  · exact a9
  · exact a10 v hv
  · exact a11 v hv
  · exact a12 v hv
  · rcases a15 v hv with b | ⟨b1, b2, b3, b4, b5, b6⟩
    · exact Or.inl b
    · have qe : ye Y v ≠ q := fun e => by
        rw [e, hq] at b3
        cases b3
      exact Or.inr ⟨b1, b2, (K _ qe).trans b3, by rw [N _ qe]; exact b4, by rw [N _ qe]; exact b5, fun j h0 h1 => (G9 _ _ qe).trans (b6 j h0 h1)⟩
  · have hp := pq_grow h1 h2
    obtain ⟨b1, b2⟩ := a17
    show ya Y + 16 + pq _ ≤ sa S - 1 ∧ yb Y + 256 + 2 * pq _ ≤ sb S - 2 * LN x0
    omega
  · intro b hb
    have hbq : b ≠ q := fun e => by
      have := (o1 b hb).1
      rw [e, hq] at this
      exact hb (by rw [e]; exact this.symm)
    obtain ⟨c1, c2, c3⟩ := o1 b hb
    exact ⟨(K b hbq).trans c1, (N b hbq).trans c2, fun f hf => (R f b (fun e => by omega)).trans (c3 f hf)⟩
theorem T_X5_append {Y : Yt} {F0 : Fl} {I0 : Il} {it LN : Nat → Nat} {S : Shp} {F : Fl} {I : Il} {x0 : Nat} {x1 : Int} {Q : Shp → Fl → Il → Prop} {Qw : (Nat → Nat) → Fl → El → Prop} (hC : Cg Y it LN S) (hF : Fc Y F0 I0 F I) (hQ : ∀ (it' LN' : Nat → Nat) (S' : Shp) (F' : Fl) (I' : Il), Cg Y it' LN' S' → Fc Y F0 I0 F' I' → Qw LN' (Bc Y F') (Ec Y it' I') → Q S' F' I') (h : W_X5_append (yc Y) x0 x1 LN (Bc Y F) (Ec Y it I) Qw) : V_X5_append (yg Y x0) x1 S F I Q := by
  obtain ⟨hk, h0, h1, h2, h⟩ := h
  obtain ⟨f1, f2, f3, f4⟩ := Cg.itm hC hk
  have h0 : 0 ≤ F 601 (yg Y x0) := h0
  have h1 : F 601 (yg Y x0) ≤ (LN x0 : Int) := h1
  have h2 : F 601 (yg Y x0) < (LN x0 : Int) ∨ (1 ≤ LN x0 ∧ ((160 ≤ x0 ∧ x0 < 180 ∧ LN x0 ≤ 512) ∨ (30 ≤ x0 ∧ x0 < 38 ∧ LN x0 ≤ 32))) := h2
  unfold V_X5_append
  refine ⟨Cg.k hC hk (by decide), it x0, f1, f2, by rw [f3]; omega, ?_⟩
  rw [f3]
  refine ⟨fun c1 => ?_, fun c1 => ⟨by omega, fun c2 => ?_, fun c2 => ⟨by omega, ?_⟩⟩⟩
  · refine ap_41 hC hF hQ hk h0 c1 (h LN _ (fun _ _ => rfl) (Or.inl rfl) c1 (fun a ha j => if_neg (fun e => ha e.1)) (fun j j0 j1 => if_neg (fun e => ?_)) (if_pos ⟨rfl, rfl⟩))
    have j1 : j < F 601 (yg Y x0) := j1
    omega
  · exfalso
    rcases h2 with h2 | ⟨-, h2 | h2⟩ <;> omega
  · have h3 : 1 ≤ LN x0 ∧ ((160 ≤ x0 ∧ x0 < 180 ∧ LN x0 ≤ 512) ∨ (30 ≤ x0 ∧ x0 < 38 ∧ LN x0 ≤ 32)) := by
      rcases h2 with h2 | h2
      · exact absurd h2 c1
      · exact h2
    have hL : LN x0 ≤ 512 := by omega
    have e : w32 (2 * (LN x0 : Int)) = ((2 * LN x0 : Nat) : Int) := (w32_id (by unfold rg; omega)).trans (by omega)
    rw [e]
    unfold V_J7_copyOf_59c91
    have hb := hC.bud
    refine ⟨f2, by rw [f3]; omega, fun c3 => ⟨2 * LN x0, rfl, by omega, by omega, ?_, fun q hq => ?_⟩, fun c3 => ?_⟩
    · have hp := pq_grow h3.1 h3.2
      omega
    · obtain ⟨hC2, qg, qi, qm, qo⟩ := ap_grow hC hk hq h3.1 h3.2
      have e1 : sK (newA S q 20 (2 * LN x0)) (it x0) = 20 := (va_up_ne _ _ (qi x0)).trans f2
      have e2 : sN (newA S q 20 (2 * LN x0)) (it x0) = LN x0 := (va_up_ne _ _ (qi x0)).trans f3
      have e3 : sK (newA S q 20 (2 * LN x0)) q = 20 := va_up_self _ _ _
      have e4 : sN (newA S q 20 (2 * LN x0)) q = 2 * LN x0 := va_up_self _ _ _
      rw [e2]
      have e5 : (if ((2 * LN x0 : Nat) : Int) < (LN x0 : Int) then ((2 * LN x0 : Nat) : Int) else (LN x0 : Int)) = (LN x0 : Int) := if_neg (by omega)
      rw [e5]
      refine ⟨e1, by omega, e3, ⟨Int.le_refl _, Int.le_refl _, by omega, by rw [e2]; omega, by rw [e4]; omega, by rw [e2]; omega, by rw [e4]; omega⟩, (va_up_ne _ _ (qg x0)).trans (Cg.k hC hk (by decide)), ?_⟩
      have hF2 : Fc Y F0 I0 F (cpI (zI I q) (it x0) q 0 0 (LN x0 : Int)) := by
        refine ⟨hF.1, fun k hk j => ?_, fun j => ?_⟩
        · unfold cpI zI
          rw [if_neg (fun w => qm k hk w.1), if_neg (qm k hk)]
          exact hF.2.1 k hk j
        · unfold cpI zI
          rw [if_neg (fun w => qo w.1), if_neg qo]
          exact hF.2.2 j
      have r1 : ∀ b j, b ≠ q → cpI (zI I q) (it x0) q 0 0 (LN x0 : Int) b j = I b j := fun b j hb => by
        unfold cpI zI
        rw [if_neg (fun w => hb w.1), if_neg hb]
      have r2 : ∀ j : Int, 0 ≤ j → j < (LN x0 : Int) → cpI (zI I q) (it x0) q 0 0 (LN x0 : Int) q j = I (it x0) j := fun j j0 j1 => by
        unfold cpI zI
        rw [if_pos ⟨rfl, j0, by omega⟩, if_neg (qi x0)]
        show I (it x0) (0 + (j - 0)) = I (it x0) j
        rw [show (0 : Int) + (j - 0) = j by omega]
      refine ap_41 hC2 hF2 hQ hk h0 (by show F 601 (yg Y x0) < (((if x0 = x0 then 2 * LN x0 else LN x0) : Nat) : Int); rw [if_pos rfl]; omega) (h _ _ (fun v hv => if_neg hv) (Or.inr ⟨if_pos rfl, by show (LN x0 : Int) ≤ F 601 (yg Y x0); omega⟩) (by show F 601 (yg Y x0) < (((if x0 = x0 then 2 * LN x0 else LN x0) : Nat) : Int); rw [if_pos rfl]; omega) (fun a ha j => (if_neg (fun e => ha e.1)).trans ?_) (fun j j0 j1 => (if_neg (fun e => ?_)).trans ?_) (if_pos ⟨rfl, rfl⟩))
      · rcases a with w | w
        · exact r1 _ j (qg w)
        · show cpI _ _ _ _ _ _ (if w = x0 then q else it w) j = I (it w) j
          rw [if_neg (fun e => ha (by rw [e]))]
          exact r1 _ j (qi w)
      · have j1 : j < F 601 (yg Y x0) := j1
        omega
      · have j1 : j < F 601 (yg Y x0) := j1
        show cpI _ _ _ _ _ _ (if x0 = x0 then q else it x0) j = I (it x0) j
        rw [if_pos rfl]
        exact r2 j j0 (by omega)
    · rw [f3] at c3
      exfalso
      omega
