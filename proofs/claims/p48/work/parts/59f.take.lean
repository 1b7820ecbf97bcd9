/-! the makers: the class takes one more -/
def clN9 : Prop := clN 1 ≤ 64 ∧ clN 2 ≤ 64 ∧ clN 3 ≤ 64 ∧ clN 4 ≤ 64 ∧ clN 5 ≤ 64 ∧ clN 6 ≤ 64
theorem clN_9 : clN9 := by
  unfold clN9
  decide
theorem clN_k {L : Nat} (hL : 8 ≤ L ∧ L ≤ 12) : clN (knd L) ≤ 64 ∧ 1 ≤ knd L ∧ knd L ≤ 8 := by
  obtain ⟨h1, h2, h3, h4, h5, h6⟩ := clN_9
  obtain ⟨rfl, e1, e2, e3⟩ | ⟨rfl, e1, e2, e3⟩ | ⟨rfl, e1, e2, e3⟩ | ⟨rfl, e1, e2, e3⟩ | ⟨rfl, e1, e2, e3⟩ := bs_L hL <;> rw [e3]
  · exact ⟨h2, by decide, by decide⟩
  · exact ⟨h5, by decide, by decide⟩
  · exact ⟨h4, by decide, by decide⟩
  · exact ⟨h3, by decide, by decide⟩
  · exact ⟨h1, by decide, by decide⟩
theorem kd_in {c : Nat → Nat} {L i : Nat} (hL : 8 ≤ L ∧ L ≤ 12) (hc : c L ≤ cap L) (hi : i < c L) : kd c (bs L + i) = knd L := by
  obtain ⟨rfl, e1, e2, e3⟩ | ⟨rfl, e1, e2, e3⟩ | ⟨rfl, e1, e2, e3⟩ | ⟨rfl, e1, e2, e3⟩ | ⟨rfl, e1, e2, e3⟩ := bs_L hL <;> rw [e1, e3] <;> rw [e2] at hc
  · exact kd8 (by omega) (by omega) hc
  · exact kd9 (by omega) (by omega) hc
  · exact kd10 (by omega) (by omega) hc
  · exact kd11 (by omega) (by omega) hc
  · exact kd12o (by omega) (by omega) hc
theorem kd_l0 {c : Nat → Nat} {L : Nat} (hL : 8 ≤ L ∧ L ≤ 12) : kd c L = 0 := by
  obtain rfl | rfl | rfl | rfl | rfl : L = 8 ∨ L = 9 ∨ L = 10 ∨ L = 11 ∨ L = 12 := by omega
  all_goals rfl
section Take
variable {Y : Yt} {it LN : Nat → Nat} {S S2 : Shp} {F F1 : Fl} {I I2 : Il} {G : Gp} {L q : Nat}
/-- what lives stays in its place -/
def Lv (S : Shp) (F : Fl) (I : Il) (F' : Fl) (I' : Il) : Prop := ∀ b, sK S b ≠ 99 → (∀ k, F' k b = F k b) ∧ ∀ j, I' b j = I b j
set_option maxHeartbeats 2000000 in
theorem take_T {Q : Int → Shp → Fl → Il → Prop} (hC : Cg Y it LN S) (hz : yz Y = gZ G) (hL : 8 ≤ L ∧ L ≤ 12) (hn : L ≠ 11) (hcs : ∀ l, 8 ≤ l → l ≤ 12 → yc Y l ≤ cap l) (hc : yc Y L < cap L) (ha : 16 ≤ ya Y) (hb : 256 ≤ yb Y) (hq : sK S q = 99) (hF : F1 2 (yg Y L) = (yc Y L : Int))
    (hQ : ∀ (e : Nat) (S2 : Shp) (I2 : Il) (z : Int), Cg (Yup Y L q 0 e (ya Y - 16) (yb Y - 256)) it LN S2 → (∀ b, sK S b ≠ 99 → ∀ j, I2 b j = I b j) → Q 1 S2 (u2 (u2 F1 0 (yg Y L) z) 2 (yg Y L) ((yc Y L : Int) + 1)) I2) : V_Jx4a65c_add_9ea2d G (yg Y L) q (newO S q (knd L)) F1 I Q := by
  have hk := kd_l0 (c := yc Y) hL
  have cl := clN_k hL
  have bud := hC.bud
  obtain ⟨n1, n2, n3, n4, n5⟩ := hC.nq hq
  have K : ∀ b, sK S b ≠ 99 → sK (newO S q (knd L)) b = sK S b := fun b hb9 => va_up_ne _ _ (fun c => hb9 (by rw [c]; exact hq))
  have c40 : yc Y L < 40 := by
    have : cap L ≤ 40 := by
      obtain ⟨rfl, e1, e2, e3⟩ | ⟨rfl, e1, e2, e3⟩ | ⟨rfl, e1, e2, e3⟩ | ⟨rfl, e1, e2, e3⟩ | ⟨rfl, e1, e2, e3⟩ := bs_L hL <;> omega
    omega
  have k9 : ∀ j : Int, 0 ≤ j → j < (yc Y L : Int) → sK S (yg Y (bs L + j.toNat)) = knd L := fun j j0 j1 => Cg.k hC (kd_in hL (by omega) (by omega)) (knd_L hL).1
  have sL0 : sK S (yg Y L) = 0 := Cg.k hC hk (by decide)
  refine add_T (k := yc Y L) (e0 := ye Y L) (ci := knd L) (nm := fun j => yg Y (bs L + j.toNat)) ((K _ (by rw [sL0]; decide)).trans sL0) ?_ c40 hF ⟨?_, ?_⟩ ?_ ⟨cl.2.1, cl.2.2, fun j j0 j1 => (K _ (by rw [k9 j j0 j1]; exact (knd_L hL).1)).trans (k9 j j0 j1)⟩ (fun e S2 I2 z hA => ?_)
  · show 1 ≤ va_up (sK S) q (knd L) q ∧ va_up (sK S) q (knd L) q ≤ 8
    rw [va_up_self]
    exact cl.2
  · show 1 ≤ sa S - 1
    omega
  · show 64 ≤ sb S - clN (knd L)
    omega
  · have r1 : sR (newO S q (knd L)) 1 (yg Y L) = sR S 1 (yg Y L) := if_neg (n1 L)
    rcases Cg.lst hC hk with ⟨z1, z2⟩ | ⟨z1, z2, z3, z4, z5, z6⟩
    · exact Or.inl ⟨z1, r1.trans (z2.trans (by rw [hz]))⟩
    · exact Or.inr ⟨z1, r1.trans z2, (K _ (by rw [z3]; decide)).trans z3, z4, z5, z6⟩
  · obtain ⟨d1, d2, d3, d4, d5, ⟨d6, d7⟩, d8⟩ := hA
    have q9 : sK (newO S q (knd L)) q = knd L := va_up_self _ _ _
    have e99 : sK S e = 99 ∨ (0 < yc Y L ∧ e = ye Y L) := by
      rcases d5 with h | h
      · refine Or.inl ?_
        have eq : e ≠ q := fun w => (knd_L hL).1 (q9.symm.trans (by rw [w] at h; exact h))
        exact ((va_up_ne _ _ eq).symm.trans h)
      · exact Or.inr h
    have hC2 := cg_add (q := q) (q2 := 0) (q3 := 0) (e := e) (S' := S2) (LN' := LN) (ya' := ya Y - 16) (yb' := yb Y - 256) hC hL hcs hc (fun b hb9 => ?_) (fun f b hb9 w => ?_) (fun b j hb9 w => ?_) ⟨hq, ?_⟩ d4 e99 (fun w => absurd w hn) ⟨fun w => absurd w hn, fun _ _ => rfl⟩ ⟨?_, ?_⟩
    · have ei : iup Y L 0 it = it := by
        funext v
        exact if_neg (fun w => hn w.1)
      rw [ei] at hC2
      exact hQ e S2 I2 z hC2 (fun b hb9 j => d8 b (by rw [K b hb9]; exact hb9) j)
    · have := d1 b (by rw [K b hb9]; exact hb9)
      exact ⟨this.1.trans (K b hb9), this.2⟩
    · exact (d2 f b w).trans (if_neg (fun c => hb9 (by rw [c]; exact hq)))
    · exact d3 b j w
    · exact (d1 q (by rw [q9]; exact (knd_L hL).1)).1.trans q9
    · have d6 : sa S - 1 ≤ sa S2 + 1 := d6
      omega
    · have d7 : sb S - clN (knd L) ≤ sb S2 + 64 := d7
      omega
/-- behind the taking: the cells and rows by name -/
theorem gup_o {q2 v : Nat} (hn : L ≠ 11) (hv : v ≠ bs L + yc Y L) : gup Y L q q2 v = yg Y v := (if_neg hv).trans (if_neg (fun w => hn w.1))
theorem gup_w {q2 : Nat} : gup Y L q q2 (bs L + yc Y L) = q := if_pos rfl
end Take
