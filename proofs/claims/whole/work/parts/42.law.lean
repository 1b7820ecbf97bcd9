/-! the law's loop: what stands before each call, and what a call's end brings -/
def dn (Y : Yt) : Yt := (ym Y, yo Y, yz Y, yS Y, yg Y, ye Y, yc Y, ya Y - 16, yb Y - 256)
theorem cg_dn0 {Y : Yt} {it LN : Nat → Nat} {S : Shp} (hC : Cg Y it LN S) (ha : 16 ≤ ya Y) (hb : 256 ≤ yb Y) : Cg (dn Y) it LN S := by
  obtain ⟨a1, a2, a3, a4, a5, a6, a7, a8, a9, a10, a11, a12, a13, a14, a15, a16, ⟨a17, a17b⟩, a18⟩ := hC
  exact ⟨a1, a2, a3, a4, a5, a6, a7, a8, a9, a10, a11, a12, a13, a14, a15, a16, ⟨by show ya Y - 16 + 16 + _ ≤ _; omega, by show yb Y - 256 + 256 + _ ≤ _; omega⟩, a18⟩
theorem cg_thr {Y : Yt} {it LN : Nat → Nat} {S : Shp} (hC : Cg Y it LN S) (ha : 16 ≤ ya Y) (hb : 256 ≤ yb Y) : Cg (dn Y) it LN (thr S) := by
  obtain ⟨a1, a2, a3, a4, a5, a6, a7, a8, a9, a10, a11, a12, a13, a14, a15, a16, ⟨a17, a17b⟩, a18⟩ := hC
  exact ⟨a1, a2, a3, a4, a5, a6, a7, a8, a9, a10, a11, a12, a13, a14, a15, a16, ⟨by show ya Y - 16 + 16 + _ ≤ sa S - 1; omega, by show yb Y - 256 + 256 + _ ≤ sb S - 6; omega⟩, a18⟩
theorem akd_ne (k : Nat) : akd k ≠ 99 ∧ akd k ≠ 22 ∧ akd k ≠ 10 := by
  unfold akd
  split <;> decide
theorem Ms.sx {m : Nat} {ma : Nat → Nat} {S0 S : Shp} (h : Ms m ma S0) (hs : Sx S0 S) : Ms m ma S := by
  obtain ⟨h1, h2, h3⟩ := h
  have hm := hs m (by rw [h1]; decide)
  refine ⟨hm.1.trans h1, fun k hk => ?_, h3⟩
  obtain ⟨k1, k2, k3⟩ := h2 k hk
  have hk9 := hs (ma k) (by rw [k2]; exact (akd_ne k).1)
  exact ⟨(hm.2.2 (1000 + k) (by omega)).trans k1, hk9.1.trans k2, hk9.2.1.trans k3⟩
/-- what stays: the reference's shape, the law's own row -/
def Lm (Y : Yt) : Prop := Ms (ym Y 0) (ym Y) (yS Y) ∧ sK (yS Y) (yo Y) = 22 ∧ sN (yS Y) (yo Y) = 1
/-- before a call, with n calls left -/
def LI (n : Nat) (G : Gp) (x m o : Nat) (S : Shp) (F : Fl) (I : Il) : Prop := ∃ (Y : Yt) (it LN : Nat → Nat), x = yg Y 0 ∧ m = ym Y 0 ∧ o = yo Y ∧ yz Y = gZ G ∧ Lm Y ∧ Cg Y it LN S ∧ 16 * n ≤ ya Y ∧ 256 * n ≤ yb Y ∧ Rep (yc Y) LN (Bc Y F) (Ec Y it I) (mA (ym Y) (ym Y 0) F I) ∧ pz (mA (ym Y) (ym Y 0) F I) + 2 * (n : Int) ≤ 1024
section Law
variable {Y : Yt} {it LN : Nat → Nat} {S : Shp} {F F1 F2 : Fl} {I I1 I2 : Il} {A A' : Il}
theorem Lm.ms (hL : Lm Y) (hC : Cg Y it LN S) : Ms (ym Y 0) (ym Y) S := hL.1.sx hC.old.1
theorem Lm.out (hL : Lm Y) (hC : Cg Y it LN S) : sK S (yo Y) = 22 ∧ (0 : Int) < (sN S (yo Y) : Int) := by
  have h := hC.old.1 (yo Y) (by rw [hL.2.1]; decide)
  refine ⟨h.1.trans hL.2.1, ?_⟩
  rw [h.2.1, hL.2.2]
  decide
theorem Lm.ne (hL : Lm Y) : (∀ k, isA k = true → ym Y k ≠ yo Y ∧ ym Y 0 ≠ ym Y k) ∧ ym Y 0 ≠ yo Y := by
  refine ⟨fun k hk => ⟨fun e => ?_, fun e => ?_⟩, fun e => ?_⟩
  · have h := (hL.1.2.1 k hk).2.1
    rw [e, hL.2.1] at h
    exact (akd_ne k).2.1 h.symm
  · have h := (hL.1.2.1 k hk).2.1
    rw [← e, hL.1.1] at h
    exact (akd_ne k).2.2 h.symm
  · have h := hL.1.1
    rw [e, hL.2.1] at h
    cases h
theorem adr_ne (hL : Lm Y) (hC : Cg Y it LN S) (a : Nat ⊕ Nat) : adr Y it a ≠ yo Y ∧ ∀ k, isA k = true → adr Y it a ≠ ym Y k := by
  obtain ⟨n1, n2⟩ := hL.ne
  rcases a with v | v
  · show yg Y v ≠ _ ∧ ∀ k, _ → yg Y v ≠ _
    by_cases hv : kd (yc Y) v = 99
    · rw [(hC.2.2.2.2.2.1 v).2.2.1 hv]
      exact ⟨n2, fun k hk => (n1 k hk).2⟩
    · exact ⟨(hC.2.2.2.2.2.1 v).1 hv, fun k hk => (hC.2.2.2.2.1 v k hk).1 hv⟩
  · show it v ≠ _ ∧ ∀ k, _ → it v ≠ _
    by_cases hv : kd (yc Y) v = 6
    · exact ⟨(hC.2.2.2.2.2.1 v).2.1 hv, fun k hk => (hC.2.2.2.2.1 v k hk).2 hv⟩
    · rw [(hC.2.2.2.2.2.1 v).2.2.2 hv]
      exact ⟨n2, fun k hk => (n1 k hk).2⟩
theorem mA_fc (h : Fc Y F I F1 I1) : mA (ym Y) (ym Y 0) F1 I1 = mA (ym Y) (ym Y 0) F I := by
  funext k j
  show (if isA k = true then I1 (ym Y k) j else F1 (1000 + k) (ym Y 0)) = if isA k = true then I (ym Y k) j else F (1000 + k) (ym Y 0)
  by_cases hk : isA k = true
  · rw [if_pos hk, if_pos hk]
    exact h.2.1 k hk j
  · rw [if_neg hk, if_neg hk]
    exact h.1 _ _ (by omega)
theorem mA_out (hL : Lm Y) {z : Int} : mA (ym Y) (ym Y 0) F (ui I (yo Y) 0 z) = mA (ym Y) (ym Y 0) F I := by
  funext k j
  show (if isA k = true then ui I (yo Y) 0 z (ym Y k) j else _) = if isA k = true then I (ym Y k) j else _
  by_cases hk : isA k = true
  · rw [if_pos hk, if_pos hk]
    exact if_neg (fun e => (hL.ne.1 k hk).1 e.1)
  · rw [if_neg hk, if_neg hk]
theorem Ec_out (hL : Lm Y) (hC : Cg Y it LN S) {z : Int} : Ec Y it (ui I (yo Y) 0 z) = Ec Y it I := by
  funext a j
  exact if_neg (fun e => (adr_ne hL hC a).1 e.1)
theorem Ec_fr (hL : Lm Y) (hC : Cg Y it LN S) (h : Fr (ym Y 0) (ym Y) F1 I1 F2 I2) : Ec Y it I2 = Ec Y it I1 := by
  funext a j
  exact h.2 _ (fun k hk => (adr_ne hL hC a).2 k hk) j
theorem Rep.frB {c : Nat → Nat} {B B' : Fl} {E : El} (hB : ∀ k v, k < 1000 → B' k v = B k v) (h : Rep c LN B E A) : Rep c LN B' E A := by
  obtain ⟨g1, g2, g3, g4, g5, g6, g7, g8, g9, g10, g11, g12, g13, g14, g15, g16, g17, g18, g19⟩ := h
  exact ⟨g1.fr (fun k v h => hB k v (by omega)) (fun _ _ _ => rfl), g2.fr (fun k v h => hB k v (by omega)) (fun _ _ _ => rfl), g3.fr (fun k v h => hB k v (by omega)) (fun _ _ _ => rfl), g4, g5.fr (fun k v h => hB k v (by omega)) (fun _ _ _ => rfl), g6.fr (fun k v h => hB k v (by omega)) (fun _ _ _ => rfl), g7.fr (fun k v h => hB k v (by omega)) (fun _ _ _ => rfl), g8.fr (fun k v h => hB k v (by omega)) (fun _ _ _ => rfl), g9.fr (fun k v h => hB k v (by omega)) (fun _ _ _ => rfl), g10.fr (fun k v h => hB k v (by omega)) (fun _ _ _ => rfl), g11, g12.fr (fun k v h => hB k v (by omega)) (fun _ _ => rfl) (fun _ _ _ => rfl), g13.fr (fun k v h => hB k v (by omega)) (fun _ _ => rfl) (fun _ _ _ => rfl), g14.fr (fun k v h => hB k v (by omega)) (fun _ _ => rfl) (fun _ _ _ => rfl), g15, g16.fr (fun k v h => hB k v (by omega)) (fun _ _ => rfl) (fun _ _ _ => rfl), g17.fr (fun k v h => hB k v (by omega)) (fun _ _ => rfl) (fun _ _ => rfl) (fun _ _ _ => rfl), g18, g19⟩
/-- behind the reference's call: the next place of the loop -/
theorem li_end {n : Nat} {G : Gp} {z : Int} {S0 : Shp} (hz : yz Y = gZ G) (hL : Lm Y) (hC : Cg Y it LN S0) (hCd : Cg (dn Y) it LN S) (ha : 16 * (n + 1) ≤ ya Y) (hb : 256 * (n + 1) ≤ yb Y) (hR : Rep (yc Y) LN (Bc Y F1) (Ec Y it I1) A') (hp : pz A' + 2 * (n : Int) ≤ 1024) (hI : I = ui I1 (yo Y) 0 z ∨ I = I1) (hF : Fr (ym Y 0) (ym Y) F1 I F2 I2) (hA : mA (ym Y) (ym Y 0) F2 I2 = A') : LI n G (yg Y 0) (ym Y 0) (yo Y) S F2 I2 := by
  have e : Ec Y it I = Ec Y it I1 := by
    rcases hI with rfl | rfl
    · exact Ec_out hL hC
    · rfl
  refine ⟨dn Y, it, LN, rfl, rfl, rfl, hz, hL, hCd, by show 16 * n ≤ ya Y - 16; omega, by show 256 * n ≤ yb Y - 256; omega, ?_, ?_⟩
  · show Rep (yc Y) LN (Bc Y F2) (Ec Y it I2) (mA (ym Y) (ym Y 0) F2 I2)
    rw [hA, Ec_fr hL hC hF, e]
    exact hR.frB (fun k v hk => hF.1 k _ hk)
  · show pz (mA (ym Y) (ym Y 0) F2 I2) + _ ≤ _
    rw [hA]
    exact hp
theorem icmp_eq (a : Int) : icmp a a = 0 := by
  unfold icmp
  rw [if_neg (Int.lt_irrefl a), if_pos rfl]
end Law
