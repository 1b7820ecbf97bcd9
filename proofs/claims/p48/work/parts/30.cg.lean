/-! the class over names: its objects by number; which of them live, of what kind, where they point -/
abbrev El : Type := Nat ⊕ Nat → Int → Int
def ue (E : El) (a : Nat ⊕ Nat) (j z : Int) : El := fun a' j' => if a' = a ∧ j' = j then z else E a' j'
/-- what stays: the reference's rows (at 0, which is none: the reference itself, where names that don't live lead), the law's own row, the JDK's empty row, the shape at the start, the addresses of names, of lists' rows, the sizes of the lists, room for later -/
abbrev Yt : Type := (Nat → Nat) × Nat × Nat × Shp × (Nat → Nat) × (Nat → Nat) × (Nat → Nat) × Nat × Nat
abbrev ym (Y : Yt) : Nat → Nat := Y.1
abbrev yo (Y : Yt) : Nat := Y.2.1
abbrev yz (Y : Yt) : Nat := Y.2.2.1
abbrev yS (Y : Yt) : Shp := Y.2.2.2.1
abbrev yg (Y : Yt) : Nat → Nat := Y.2.2.2.2.1
abbrev ye (Y : Yt) : Nat → Nat := Y.2.2.2.2.2.1
abbrev yc (Y : Yt) : Nat → Nat := Y.2.2.2.2.2.2.1
abbrev ya (Y : Yt) : Nat := Y.2.2.2.2.2.2.2.1
abbrev yb (Y : Yt) : Nat := Y.2.2.2.2.2.2.2.2
/-- the kind of a name: 0 the class's object; 1, 2 rows of stations, trains; 3, 4 rates; 5 distances; 6, 7 draft, sorted; 8 to 12 lists; 20 stations, 30 their yards; 40 trains, 50 their cars, 60 their ways, 70 their rows of minutes; 100 blocks, 120 engines, 130 crews, 140 cars, 160 their papers, 180 bills -/
def kd (c : Nat → Nat) (v : Nat) : Nat := if v = 0 then 9 else if v = 1 then 23 else if v = 2 then 24 else if v ≤ 5 then 20 else if v ≤ 7 then 6 else if v ≤ 12 then 0 else if v < 20 then 99 else if v < 28 then 7 else if v < 30 then 99 else if v < 38 then 6 else if v < 40 then 99 else if v < 46 then 8 else if v < 50 then 99 else if v < 56 then 6 else if v < 60 then 99 else if v < 66 then 6 else if v < 70 then 99 else if v < 76 then 20 else if v < 100 then 99 else if v < 116 then (if v < 100 + c 8 then 2 else 99) else if v < 120 then 99 else if v < 126 then (if v < 120 + c 9 then 5 else 99) else if v < 130 then 99 else if v < 136 then (if v < 130 + c 10 then 4 else 99) else if v < 140 then 99 else if v < 160 then (if v < 140 + c 11 then 3 else 99) else if v < 180 then (if v < 160 + c 11 then 6 else 99) else if v < 220 then (if v < 180 + c 12 then 1 else 99) else 99
def ln (v : Nat) : Nat := if v = 1 then 8 else if v = 2 then 6 else if v ≤ 4 then 64 else if v = 5 then 8 else 16
theorem ite_nz {p : Prop} [Decidable p] {a b x : Nat} (ha : p → a ≠ x) (hb : ¬ p → b ≠ x) : (if p then a else b) ≠ x := by
  split
  · exact ha ‹_›
  · exact hb ‹_›
theorem ite_ez {p : Prop} [Decidable p] {a b x : Nat} (ha : p → a = x) (hb : ¬ p → b = x) : (if p then a else b) = x := by
  split
  · exact ha ‹_›
  · exact hb ‹_›
theorem kd_0 {c : Nat → Nat} {v : Nat} (h : kd c v = 9) : v = 0 := by
  by_cases hv : v = 0
  · exact hv
  · exfalso
    have h2 : kd c v ≠ 9 := by
      unfold kd
      repeat' (first | omega | (refine ite_nz (fun _ => ?_) (fun _ => ?_)))
    exact h2 h
theorem ln_le (v : Nat) : ln v ≤ 65536 := by
  unfold ln
  split
  · omega
  · split
    · omega
    · split
      · omega
      · split <;> omega
def bs (v : Nat) : Nat := if v = 8 then 100 else if v = 9 then 120 else if v = 10 then 130 else if v = 11 then 140 else 180
def sm : Nat → (Nat → Nat) → Nat
  | 0, _ => 0
  | n + 1, f => sm n f + f n
theorem sm_upd {f f' : Nat → Nat} {i0 : Nat} (h : ∀ i, i ≠ i0 → f' i = f i) : ∀ n, (i0 < n → sm n f' + f i0 = sm n f + f' i0) ∧ (n ≤ i0 → sm n f' = sm n f)
  | 0 => ⟨fun h => absurd h (Nat.not_lt_zero _), fun _ => rfl⟩
  | n + 1 => by
    obtain ⟨h1, h2⟩ := sm_upd h n
    show (_ → sm n f' + f' n + f i0 = sm n f + f n + f' i0) ∧ (_ → sm n f' + f' n = sm n f + f n)
    by_cases e : n = i0
    · subst e
      have := h2 (Nat.le_refl _)
      exact ⟨fun _ => by omega, fun w => by omega⟩
    · have e1 := h n e
      exact ⟨fun w => by have := h1 (by omega); omega, fun w => by have := h2 (by omega); omega⟩
theorem sm_eq {f f' : Nat → Nat} : ∀ n, (∀ i, i < n → f' i = f i) → sm n f' = sm n f
  | 0, _ => rfl
  | n + 1, h => by
    show sm n f' + f' n = sm n f + f n
    rw [sm_eq n (fun i hi => h i (by omega)), h n (by omega)]
/-- what rows may still grow by: things, places -/
def pq (LN : Nat → Nat) : Nat := sm 20 (fun i => 1024 - LN (160 + i)) + sm 8 (fun i => 64 - LN (30 + i))
def Sx (S0 S : Shp) : Prop := ∀ q, sK S0 q ≠ 99 → sK S q = sK S0 q ∧ sN S q = sN S0 q ∧ ∀ f, 1000 ≤ f → sR S f q = sR S0 f q
/-- the shape of the class's part -/
def Cg (Y : Yt) (it LN : Nat → Nat) (S : Shp) : Prop :=
  (∀ v w, kd (yc Y) v ≠ 99 → yg Y v = yg Y w → v = w) ∧
  (∀ v w, kd (yc Y) v = 6 → it v = it w → v = w) ∧
  (∀ v w, kd (yc Y) v ≠ 99 → yg Y v ≠ it w) ∧
  (∀ v w, kd (yc Y) v = 6 → it v ≠ yg Y w) ∧
  (∀ v k, isA k = true → (kd (yc Y) v ≠ 99 → yg Y v ≠ ym Y k) ∧ (kd (yc Y) v = 6 → it v ≠ ym Y k)) ∧
  (∀ v, (kd (yc Y) v ≠ 99 → yg Y v ≠ yo Y) ∧ (kd (yc Y) v = 6 → it v ≠ yo Y) ∧ (kd (yc Y) v = 99 → yg Y v = ym Y 0) ∧ (kd (yc Y) v ≠ 6 → it v = ym Y 0)) ∧
  (∀ v, kd (yc Y) v ≠ 99 → sK S (yg Y v) = kd (yc Y) v) ∧
  (∀ v, kd (yc Y) v = 6 → sR S 600 (yg Y v) = some (it v) ∧ sK S (it v) = 20 ∧ sN S (it v) = LN v ∧ LN v ≤ 1024) ∧
  (sR S 900 (yg Y 0) = some (yg Y 1) ∧ sR S 901 (yg Y 0) = some (yg Y 8) ∧ sR S 902 (yg Y 0) = some (yg Y 9) ∧ sR S 903 (yg Y 0) = some (yg Y 10) ∧ sR S 904 (yg Y 0) = some (yg Y 11) ∧ sR S 905 (yg Y 0) = some (yg Y 12) ∧ sR S 906 (yg Y 0) = some (yg Y 2) ∧ sR S 907 (yg Y 0) = some (yg Y 3) ∧ sR S 908 (yg Y 0) = some (yg Y 4) ∧ sR S 909 (yg Y 0) = some (yg Y 6) ∧ sR S 910 (yg Y 0) = some (yg Y 7) ∧ sR S 911 (yg Y 0) = some (yg Y 5)) ∧
  (∀ v, kd (yc Y) v = 7 → sR S 701 (yg Y v) = some (yg Y (v + 10))) ∧
  (∀ v, kd (yc Y) v = 8 → sR S 809 (yg Y v) = some (yg Y (v + 10)) ∧ sR S 810 (yg Y v) = some (yg Y (v + 20)) ∧ sR S 816 (yg Y v) = some (yg Y (v + 30))) ∧
  (∀ v, kd (yc Y) v = 3 → sR S 304 (yg Y v) = some (yg Y (v + 20))) ∧
  (∀ v, (kd (yc Y) v = 20 ∨ kd (yc Y) v = 23 ∨ kd (yc Y) v = 24) → sN S (yg Y v) = ln v) ∧
  ((∀ j : Int, 0 ≤ j → j < (ln 1 : Nat) → sG S (yg Y 1) j = some (yg Y (20 + j.toNat))) ∧ (∀ j : Int, 0 ≤ j → j < (ln 2 : Nat) → sG S (yg Y 2) j = some (yg Y (40 + j.toNat)))) ∧
  (∀ v, kd (yc Y) v = 0 → (yc Y v = 0 ∧ sR S 1 (yg Y v) = some (yz Y)) ∨ (0 < yc Y v ∧ sR S 1 (yg Y v) = some (ye Y v) ∧ sK S (ye Y v) = 25 ∧ yc Y v ≤ sN S (ye Y v) ∧ sN S (ye Y v) ≤ 64 ∧ ∀ j : Int, 0 ≤ j → j < (yc Y v : Int) → sG S (ye Y v) j = some (yg Y (bs v + j.toNat)))) ∧
  (∀ v w, kd (yc Y) v = 0 → kd (yc Y) w = 0 → 0 < yc Y v → 0 < yc Y w → ye Y v = ye Y w → v = w) ∧
  (ya Y + 16 + pq LN ≤ sa S ∧ yb Y + 256 + 2 * pq LN ≤ sb S) ∧
  (Sx (yS Y) S ∧ (∀ k, isA k = true → sK (yS Y) (ym Y k) ≠ 99) ∧ sK (yS Y) (yo Y) ≠ 99 ∧ sK (yS Y) (ym Y 0) ≠ 99)
def Bc (Y : Yt) (F : Fl) : Fl := fun k v => F k (yg Y v)
def adr (Y : Yt) (it : Nat → Nat) : Nat ⊕ Nat → Nat
  | .inl v => yg Y v
  | .inr v => it v
def Ec (Y : Yt) (it : Nat → Nat) (I : Il) : El := fun a j => I (adr Y it a) j
def Fc (Y : Yt) (F0 : Fl) (I0 : Il) (F : Fl) (I : Il) : Prop := (∀ k q, 1000 ≤ k → F k q = F0 k q) ∧ (∀ k, isA k = true → ∀ j, I (ym Y k) j = I0 (ym Y k) j) ∧ ∀ j, I (yo Y) j = I0 (yo Y) j
section CgS
variable {Y : Yt} {it LN : Nat → Nat} {S : Shp} {F0 F : Fl} {I0 I : Il}
theorem Cg.k (hC : Cg Y it LN S) {v k : Nat} (h : kd (yc Y) v = k) (hk : k ≠ 99) : sK S (yg Y v) = k := by
  subst h
  exact hC.2.2.2.2.2.2.1 v hk
theorem Cg.itm (hC : Cg Y it LN S) {v : Nat} (h : kd (yc Y) v = 6) : sR S 600 (yg Y v) = some (it v) ∧ sK S (it v) = 20 ∧ sN S (it v) = LN v ∧ LN v ≤ 1024 := hC.2.2.2.2.2.2.2.1 v h
theorem Cg.n (hC : Cg Y it LN S) {v k : Nat} (h : kd (yc Y) v = k) (hk : k = 20 ∨ k = 23 ∨ k = 24 := by decide) : sN S (yg Y v) = ln v := by
  subst h
  exact hC.2.2.2.2.2.2.2.2.2.2.2.2.1 v hk
theorem Cg.r900 (hC : Cg Y it LN S) {v : Nat} (h : kd (yc Y) v = 9) : sR S 900 (yg Y v) = some (yg Y 1) := by rw [kd_0 h]; exact hC.2.2.2.2.2.2.2.2.1.1
theorem Cg.r901 (hC : Cg Y it LN S) {v : Nat} (h : kd (yc Y) v = 9) : sR S 901 (yg Y v) = some (yg Y 8) := by rw [kd_0 h]; exact hC.2.2.2.2.2.2.2.2.1.2.1
theorem Cg.r902 (hC : Cg Y it LN S) {v : Nat} (h : kd (yc Y) v = 9) : sR S 902 (yg Y v) = some (yg Y 9) := by rw [kd_0 h]; exact hC.2.2.2.2.2.2.2.2.1.2.2.1
theorem Cg.r903 (hC : Cg Y it LN S) {v : Nat} (h : kd (yc Y) v = 9) : sR S 903 (yg Y v) = some (yg Y 10) := by rw [kd_0 h]; exact hC.2.2.2.2.2.2.2.2.1.2.2.2.1
theorem Cg.r904 (hC : Cg Y it LN S) {v : Nat} (h : kd (yc Y) v = 9) : sR S 904 (yg Y v) = some (yg Y 11) := by rw [kd_0 h]; exact hC.2.2.2.2.2.2.2.2.1.2.2.2.2.1
theorem Cg.r905 (hC : Cg Y it LN S) {v : Nat} (h : kd (yc Y) v = 9) : sR S 905 (yg Y v) = some (yg Y 12) := by rw [kd_0 h]; exact hC.2.2.2.2.2.2.2.2.1.2.2.2.2.2.1
theorem Cg.r906 (hC : Cg Y it LN S) {v : Nat} (h : kd (yc Y) v = 9) : sR S 906 (yg Y v) = some (yg Y 2) := by rw [kd_0 h]; exact hC.2.2.2.2.2.2.2.2.1.2.2.2.2.2.2.1
theorem Cg.r907 (hC : Cg Y it LN S) {v : Nat} (h : kd (yc Y) v = 9) : sR S 907 (yg Y v) = some (yg Y 3) := by rw [kd_0 h]; exact hC.2.2.2.2.2.2.2.2.1.2.2.2.2.2.2.2.1
theorem Cg.r908 (hC : Cg Y it LN S) {v : Nat} (h : kd (yc Y) v = 9) : sR S 908 (yg Y v) = some (yg Y 4) := by rw [kd_0 h]; exact hC.2.2.2.2.2.2.2.2.1.2.2.2.2.2.2.2.2.1
theorem Cg.r909 (hC : Cg Y it LN S) {v : Nat} (h : kd (yc Y) v = 9) : sR S 909 (yg Y v) = some (yg Y 6) := by rw [kd_0 h]; exact hC.2.2.2.2.2.2.2.2.1.2.2.2.2.2.2.2.2.2.1
theorem Cg.r910 (hC : Cg Y it LN S) {v : Nat} (h : kd (yc Y) v = 9) : sR S 910 (yg Y v) = some (yg Y 7) := by rw [kd_0 h]; exact hC.2.2.2.2.2.2.2.2.1.2.2.2.2.2.2.2.2.2.2.1
theorem Cg.r911 (hC : Cg Y it LN S) {v : Nat} (h : kd (yc Y) v = 9) : sR S 911 (yg Y v) = some (yg Y 5) := by rw [kd_0 h]; exact hC.2.2.2.2.2.2.2.2.1.2.2.2.2.2.2.2.2.2.2.2
theorem Cg.r701 (hC : Cg Y it LN S) {v : Nat} (h : kd (yc Y) v = 7) : sR S 701 (yg Y v) = some (yg Y (v + 10)) := hC.2.2.2.2.2.2.2.2.2.1 v h
theorem Cg.r809 (hC : Cg Y it LN S) {v : Nat} (h : kd (yc Y) v = 8) : sR S 809 (yg Y v) = some (yg Y (v + 10)) := (hC.2.2.2.2.2.2.2.2.2.2.1 v h).1
theorem Cg.r810 (hC : Cg Y it LN S) {v : Nat} (h : kd (yc Y) v = 8) : sR S 810 (yg Y v) = some (yg Y (v + 20)) := (hC.2.2.2.2.2.2.2.2.2.2.1 v h).2.1
theorem Cg.r816 (hC : Cg Y it LN S) {v : Nat} (h : kd (yc Y) v = 8) : sR S 816 (yg Y v) = some (yg Y (v + 30)) := (hC.2.2.2.2.2.2.2.2.2.2.1 v h).2.2
theorem Cg.r304 (hC : Cg Y it LN S) {v : Nat} (h : kd (yc Y) v = 3) : sR S 304 (yg Y v) = some (yg Y (v + 20)) := hC.2.2.2.2.2.2.2.2.2.2.2.1 v h
theorem Cg.a1 (hC : Cg Y it LN S) {j : Int} (h0 : 0 ≤ j) (h1 : j < (ln 1 : Nat)) : sG S (yg Y 1) j = some (yg Y (20 + j.toNat)) := hC.2.2.2.2.2.2.2.2.2.2.2.2.2.1.1 j h0 h1
theorem Cg.a2 (hC : Cg Y it LN S) {j : Int} (h0 : 0 ≤ j) (h1 : j < (ln 2 : Nat)) : sG S (yg Y 2) j = some (yg Y (40 + j.toNat)) := hC.2.2.2.2.2.2.2.2.2.2.2.2.2.1.2 j h0 h1
theorem Cg.lst (hC : Cg Y it LN S) {v : Nat} (h : kd (yc Y) v = 0) : (yc Y v = 0 ∧ sR S 1 (yg Y v) = some (yz Y)) ∨ (0 < yc Y v ∧ sR S 1 (yg Y v) = some (ye Y v) ∧ sK S (ye Y v) = 25 ∧ yc Y v ≤ sN S (ye Y v) ∧ sN S (ye Y v) ≤ 64 ∧ ∀ j : Int, 0 ≤ j → j < (yc Y v : Int) → sG S (ye Y v) j = some (yg Y (bs v + j.toNat))) := hC.2.2.2.2.2.2.2.2.2.2.2.2.2.2.1 v h
theorem Cg.bud (hC : Cg Y it LN S) : ya Y + 16 + pq LN ≤ sa S ∧ yb Y + 256 + 2 * pq LN ≤ sb S := hC.2.2.2.2.2.2.2.2.2.2.2.2.2.2.2.2.1
theorem Cg.sa (hC : Cg Y it LN S) : 1 ≤ sa S := by have := hC.bud.1; omega
theorem Cg.sb (hC : Cg Y it LN S) : 6 ≤ sb S := by have := hC.bud.2; omega
theorem Cg.old (hC : Cg Y it LN S) : Sx (yS Y) S ∧ (∀ k, isA k = true → sK (yS Y) (ym Y k) ≠ 99) ∧ sK (yS Y) (yo Y) ≠ 99 ∧ sK (yS Y) (ym Y 0) ≠ 99 := hC.2.2.2.2.2.2.2.2.2.2.2.2.2.2.2.2.2
theorem Bc_f (hC : Cg Y it LN S) {k v ci : Nat} {z : Int} (hk : kd (yc Y) v = ci) (hne : ci ≠ 99) : Bc Y (u2 F k (yg Y v) z) = u2 (Bc Y F) k v z := by
  funext k' w
  show (if k' = k ∧ yg Y w = yg Y v then z else F k' (yg Y w)) = if k' = k ∧ w = v then z else F k' (yg Y w)
  by_cases h : w = v
  · subst h
    by_cases e : k' = k
    · rw [if_pos ⟨e, rfl⟩, if_pos ⟨e, rfl⟩]
    · rw [if_neg (fun x => e x.1), if_neg (fun x => e x.1)]
  · rw [if_neg (fun e => h (hC.1 v w (by rw [hk]; exact hne) e.2.symm).symm), if_neg (fun e => h e.2)]
theorem Ec_g (hC : Cg Y it LN S) {v ci : Nat} {j z : Int} (hk : kd (yc Y) v = ci) (hne : ci ≠ 99) : Ec Y it (ui I (yg Y v) j z) = ue (Ec Y it I) (.inl v) j z := by
  funext a j'
  show (if adr Y it a = yg Y v ∧ j' = j then z else I (adr Y it a) j') = if a = .inl v ∧ j' = j then z else I (adr Y it a) j'
  have hv : kd (yc Y) v ≠ 99 := by rw [hk]; exact hne
  rcases a with w | w
  · by_cases h : w = v
    · subst h
      by_cases e : j' = j
      · rw [if_pos ⟨rfl, e⟩, if_pos ⟨rfl, e⟩]
      · rw [if_neg (fun x => e x.2), if_neg (fun x => e x.2)]
    · rw [if_neg (fun e => h (hC.1 v w hv e.1.symm).symm), if_neg (fun e => h (Sum.inl.inj e.1))]
  · rw [if_neg (fun e => hC.2.2.1 v w hv e.1.symm), if_neg (fun e => by cases e.1)]
theorem Ec_t (hC : Cg Y it LN S) {v : Nat} {j z : Int} (hk : kd (yc Y) v = 6) : Ec Y it (ui I (it v) j z) = ue (Ec Y it I) (.inr v) j z := by
  funext a j'
  show (if adr Y it a = it v ∧ j' = j then z else I (adr Y it a) j') = if a = .inr v ∧ j' = j then z else I (adr Y it a) j'
  rcases a with w | w
  · rw [if_neg (fun e => hC.2.2.2.1 v w hk e.1.symm), if_neg (fun e => by cases e.1)]
  · by_cases h : w = v
    · subst h
      by_cases e : j' = j
      · rw [if_pos ⟨rfl, e⟩, if_pos ⟨rfl, e⟩]
      · rw [if_neg (fun x => e x.2), if_neg (fun x => e x.2)]
    · rw [if_neg (fun e => h (hC.2.1 v w hk e.1.symm).symm), if_neg (fun e => h (Sum.inr.inj e.1))]
theorem Fc.rf : Fc Y F0 I0 F0 I0 := ⟨fun _ _ _ => rfl, fun _ _ _ => rfl, fun _ => rfl⟩
theorem Fc.f {k q : Nat} {z : Int} (hk : k < 1000) (h : Fc Y F0 I0 F I) : Fc Y F0 I0 (u2 F k q z) I := ⟨fun k' q' hk' => by
  unfold u2
  rw [if_neg (fun w => by omega)]
  exact h.1 k' q' hk', h.2⟩
theorem Fc.g (hC : Cg Y it LN S) {v ci : Nat} {j z : Int} (hk : kd (yc Y) v = ci) (hne : ci ≠ 99) (h : Fc Y F0 I0 F I) : Fc Y F0 I0 F (ui I (yg Y v) j z) := by
  have hv : kd (yc Y) v ≠ 99 := by rw [hk]; exact hne
  refine ⟨h.1, fun k hk j' => ?_, fun j' => ?_⟩
  · unfold ui
    rw [if_neg (fun e => (hC.2.2.2.2.1 v k hk).1 hv e.1.symm)]
    exact h.2.1 k hk j'
  · unfold ui
    rw [if_neg (fun e => (hC.2.2.2.2.2.1 v).1 hv e.1.symm)]
    exact h.2.2 j'
theorem Fc.itm (hC : Cg Y it LN S) {v : Nat} {j z : Int} (hv : kd (yc Y) v = 6) (h : Fc Y F0 I0 F I) : Fc Y F0 I0 F (ui I (it v) j z) := by
  refine ⟨h.1, fun k hk j' => ?_, fun j' => ?_⟩
  · unfold ui
    rw [if_neg (fun e => (hC.2.2.2.2.1 v k hk).2 hv e.1.symm)]
    exact h.2.1 k hk j'
  · unfold ui
    rw [if_neg (fun e => (hC.2.2.2.2.2.1 v).2.1 hv e.1.symm)]
    exact h.2.2 j'
end CgS
/-! lists: their size, what stands at a place -/
def W_Jx4a65c_size_8abf5 (c LN : Nat → Nat) (x0 : Nat) (B : Fl) (E : El) (Q : Int → Prop) : Prop := kd c x0 = 0 ∧ Q (B 2 x0)
def W_Jx4a65c_get_915e3 (c LN : Nat → Nat) (x0 : Nat) (x1 : Int) (B : Fl) (E : El) (Q : Nat → Prop) : Prop := kd c x0 = 0 ∧ 0 ≤ x1 ∧ x1 < B 2 x0 ∧ x1 < (c x0 : Int) ∧ Q (bs x0 + x1.toNat)
theorem T_Jx4a65c_size_8abf5 {Y : Yt} {F0 : Fl} {I0 : Il} {it LN : Nat → Nat} {S : Shp} {F : Fl} {I : Il} {x0 : Nat} {Q Qw : Int → Prop} (hC : Cg Y it LN S) (_ : Fc Y F0 I0 F I) (hQ : ∀ z, Qw z → Q z) (h : W_Jx4a65c_size_8abf5 (yc Y) LN x0 (Bc Y F) (Ec Y it I) Qw) : V_Jx4a65c_size_8abf5 (yg Y x0) S F I Q :=
  ⟨Cg.k hC h.1 (by decide), hQ _ h.2⟩
theorem T_Jx4a65c_get_915e3 {Y : Yt} {F0 : Fl} {I0 : Il} {it LN : Nat → Nat} {S : Shp} {F : Fl} {I : Il} {x0 : Nat} {x1 : Int} {Q Qw : Nat → Prop} (hC : Cg Y it LN S) (_ : Fc Y F0 I0 F I) (hQ : ∀ z : Nat, Qw z → Q (yg Y z)) (h : W_Jx4a65c_get_915e3 (yc Y) LN x0 x1 (Bc Y F) (Ec Y it I) Qw) : V_Jx4a65c_get_915e3 (yg Y x0) x1 S F I Q := by
  obtain ⟨h1, h2, h3, h4, h5⟩ := h
  have h3 : x1 < F 2 (yg Y x0) := h3
  unfold V_Jx4a65c_get_915e3 V_J15_checkIndex_7cf53 V_J3_checkIndex_8e157
  refine ⟨Cg.k hC h1 (by decide), fun c => absurd h2 (by omega), fun _ => ⟨fun _ => ?_, fun c => absurd h3 c⟩⟩
  unfold V_Jx4a65c_elementData_915e3
  rcases Cg.lst hC h1 with ⟨e0, -⟩ | ⟨_, e1, e2, e3, e4, e5⟩
  · omega
  · exact ⟨Cg.k hC h1 (by decide), _, e1, e2, h2, by omega, _, e5 x1 h2 h4, hQ _ h5⟩
