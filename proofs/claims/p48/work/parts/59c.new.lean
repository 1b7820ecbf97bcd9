/-! the makers: the shape behind a new thing -/
/-- who lives is not new -/
theorem Cg.nq {Y : Yt} {it LN : Nat → Nat} {S : Shp} {q : Nat} (hC : Cg Y it LN S) (hq : sK S q = 99) : (∀ v, yg Y v ≠ q) ∧ (∀ v, it v ≠ q) ∧ (∀ k, isA k = true → ym Y k ≠ q) ∧ yo Y ≠ q ∧ ym Y 0 ≠ q := by
  obtain ⟨a1, a2, a3, a4, a5, a6, a7, a8, a9, a10, a11, a12, a13, a14, a15, a16, a17, o1, o2, o3, o4⟩ := hC
  have qo : yo Y ≠ q := fun e => by
    have := (o1 (yo Y) o3).1
    rw [e, hq] at this
    exact o3 (by rw [e]; exact this.symm)
  have qj : ym Y 0 ≠ q := fun e => by
    have := (o1 (ym Y 0) o4).1
    rw [e, hq] at this
    exact o4 (by rw [e]; exact this.symm)
  refine ⟨fun v e => ?_, fun v e => ?_, fun k hk e => ?_, qo, qj⟩
  · by_cases hv : kd (yc Y) v = 99
    · exact qj (((a6 v).2.2.1 hv).symm.trans e)
    · have := a7 v hv
      rw [e, hq] at this
      exact hv this.symm
  · by_cases hv : kd (yc Y) v = 6
    · have := (a8 v hv).2.1
      rw [e, hq] at this
      cases this
    · exact qj (((a6 v).2.2.2 hv).symm.trans e)
  · have := (o1 (ym Y k) (o2 k hk)).1
    rw [e, hq] at this
    exact o2 k hk (by rw [e]; exact this.symm)
def gup (Y : Yt) (L q q2 : Nat) : Nat → Nat := fun v => if v = bs L + yc Y L then q else if L = 11 ∧ v = 160 + yc Y 11 then q2 else yg Y v
def iup (Y : Yt) (L q3 : Nat) (it : Nat → Nat) : Nat → Nat := fun v => if L = 11 ∧ v = 160 + yc Y 11 then q3 else it v
def Yup (Y : Yt) (L q q2 e ya' yb' : Nat) : Yt := (ym Y, yo Y, yz Y, yS Y, gup Y L q q2, (fun v => if v = L then e else ye Y v), cup (yc Y) L, ya', yb')
theorem bs_w {L k : Nat} (hL : 8 ≤ L ∧ L ≤ 12) (hc : k < cap L) : 100 ≤ bs L + k ∧ (L = 11 → 140 ≤ bs L + k ∧ bs L + k < 160) ∧ (L ≠ 11 → ∀ i, i < 20 → bs L + k ≠ 160 + i ∧ bs L + k ≠ 140 + i) := by
  obtain ⟨rfl, e1, e2, e3⟩ | ⟨rfl, e1, e2, e3⟩ | ⟨rfl, e1, e2, e3⟩ | ⟨rfl, e1, e2, e3⟩ | ⟨rfl, e1, e2, e3⟩ := bs_L hL
  all_goals
    rw [e1]
    rw [e2] at hc
    exact ⟨by omega, fun h => by omega, fun h i hi => by omega⟩
theorem bs_i {L M i j : Nat} (hL : 8 ≤ L ∧ L ≤ 12) (hM : 8 ≤ M ∧ M ≤ 12) (hi : i < cap L) (hj : j < cap M) (h : bs L + i = bs M + j) : L = M := by
  obtain ⟨rfl, e1, e2, e3⟩ | ⟨rfl, e1, e2, e3⟩ | ⟨rfl, e1, e2, e3⟩ | ⟨rfl, e1, e2, e3⟩ | ⟨rfl, e1, e2, e3⟩ := bs_L hL <;>
  obtain ⟨rfl, f1, f2, f3⟩ | ⟨rfl, f1, f2, f3⟩ | ⟨rfl, f1, f2, f3⟩ | ⟨rfl, f1, f2, f3⟩ | ⟨rfl, f1, f2, f3⟩ := bs_L hM <;> omega
theorem knd_L {L : Nat} (hL : 8 ≤ L ∧ L ≤ 12) : knd L ≠ 99 ∧ knd L ≠ 6 ∧ knd L ≠ 7 ∧ knd L ≠ 8 ∧ knd L ≠ 20 ∧ knd L ≠ 23 ∧ knd L ≠ 24 ∧ knd L ≠ 0 ∧ (knd L = 3 → L = 11) ∧ knd L ≠ 9 := by
  obtain ⟨rfl, e1, e2, e3⟩ | ⟨rfl, e1, e2, e3⟩ | ⟨rfl, e1, e2, e3⟩ | ⟨rfl, e1, e2, e3⟩ | ⟨rfl, e1, e2, e3⟩ := bs_L hL <;> (rw [e3]; decide)
set_option maxHeartbeats 4000000 in
theorem cg_add {Y : Yt} {it LN : Nat → Nat} {S S' : Shp} {L q q2 q3 e ya' yb' : Nat} (hC : Cg Y it LN S) (hL : 8 ≤ L ∧ L ≤ 12) (hcs : ∀ l, 8 ≤ l → l ≤ 12 → yc Y l ≤ cap l) (hc : yc Y L < cap L)
    (hK : ∀ b, sK S b ≠ 99 → sK S' b = sK S b ∧ sN S' b = sN S b) (hR : ∀ f b, sK S b ≠ 99 → ¬ (f = 1 ∧ b = yg Y L) → sR S' f b = sR S f b) (hG : ∀ b j, sK S b ≠ 99 → b ≠ e → sG S' b j = sG S b j)
    (hq : sK S q = 99 ∧ sK S' q = knd L) (he : sR S' 1 (yg Y L) = some e ∧ sK S' e = 25 ∧ yc Y L + 1 ≤ sN S' e ∧ sN S' e ≤ 64 ∧ (∀ j : Int, 0 ≤ j → j < (yc Y L : Int) → sG S' e j = some (yg Y (bs L + j.toNat))) ∧ sG S' e (yc Y L : Int) = some q)
    (hne : sK S e = 99 ∨ (0 < yc Y L ∧ e = ye Y L))
    (h11 : L = 11 → (sK S q2 = 99 ∧ sK S' q2 = 6) ∧ sR S' 304 q = some q2 ∧ (sK S q3 = 99 ∧ sK S' q3 = 20) ∧ sR S' 600 q2 = some q3 ∧ sN S' q3 = 4)
    {LN' : Nat → Nat} (hLN : (L = 11 → LN' (160 + yc Y 11) = 4) ∧ ∀ v, ¬ (L = 11 ∧ v = 160 + yc Y 11) → LN' v = LN v)
    (hb : ya' + 16 + pq LN' ≤ sa S' ∧ yb' + 256 + 2 * pq LN' ≤ sb S') : Cg (Yup Y L q q2 e ya' yb') (iup Y L q3 it) LN' S' := by
  obtain ⟨n1, n2, n3, n4, n5⟩ := hC.nq hq.1
  have m2 : L = 11 → (∀ v, yg Y v ≠ q2) ∧ (∀ v, it v ≠ q2) ∧ (∀ k, isA k = true → ym Y k ≠ q2) ∧ yo Y ≠ q2 ∧ ym Y 0 ≠ q2 := fun h => hC.nq (h11 h).1.1
  have m3 : L = 11 → (∀ v, yg Y v ≠ q3) ∧ (∀ v, it v ≠ q3) ∧ (∀ k, isA k = true → ym Y k ≠ q3) ∧ yo Y ≠ q3 ∧ ym Y 0 ≠ q3 := fun h => hC.nq (h11 h).2.2.1.1
  have kl := knd_L hL
  obtain ⟨⟨d1, d2⟩, d3, d4⟩ := kd_up hL hc
  obtain ⟨b1, b2, b3⟩ := bs_w hL hc
  have q12 : L = 11 → q2 ≠ q := fun h w => by
    have := (h11 h).1.2
    rw [w, hq.2] at this
    exact kl.2.1 this
  have q13 : L = 11 → q3 ≠ q := fun h w => by
    have := (h11 h).2.2.1.2
    rw [w, hq.2] at this
    exact kl.2.2.2.2.1 this
  have q23 : L = 11 → q2 ≠ q3 := fun h w => by
    have := (h11 h).1.2
    rw [w, (h11 h).2.2.1.2] at this
    cases this
  obtain ⟨a1, a2, a3, a4, a5, a6, a7, a8, a9, a10, a11, a12, a13, a14, a15, a16, a17, o1, o2, o3, o4⟩ := hC
  have w01 : L = 11 → bs L + yc Y L ≠ 160 + yc Y 11 := fun h => by
    have := b2 h
    omega
  have cs : ∀ v, (v = bs L + yc Y L ∧ gup Y L q q2 v = q ∧ kd (cup (yc Y) L) v = knd L ∧ iup Y L q3 it v = it v ∧ kd (yc Y) v = 99 ∧ LN' v = LN v) ∨ (L = 11 ∧ v = 160 + yc Y 11 ∧ gup Y L q q2 v = q2 ∧ kd (cup (yc Y) L) v = 6 ∧ iup Y L q3 it v = q3 ∧ kd (yc Y) v = 99 ∧ LN' v = 4) ∨ (v ≠ bs L + yc Y L ∧ ¬ (L = 11 ∧ v = 160 + yc Y 11) ∧ gup Y L q q2 v = yg Y v ∧ kd (cup (yc Y) L) v = kd (yc Y) v ∧ iup Y L q3 it v = it v ∧ LN' v = LN v) := fun v => by
    by_cases c1 : v = bs L + yc Y L
    · have c2 : ¬ (L = 11 ∧ v = 160 + yc Y 11) := fun w => w01 w.1 (c1.symm.trans w.2)
      exact Or.inl ⟨c1, if_pos c1, by rw [c1]; exact d2, if_neg c2, by rw [c1]; exact d1, hLN.2 v c2⟩
    · by_cases c2 : L = 11 ∧ v = 160 + yc Y 11
      · exact Or.inr (Or.inl ⟨c2.1, c2.2, (if_neg c1).trans (if_pos c2), by rw [c2.2]; exact (d3 c2.1).2, if_pos c2, by rw [c2.2]; exact (d3 c2.1).1, by rw [c2.2]; exact hLN.1 c2.1⟩)
      · exact Or.inr (Or.inr ⟨c1, c2, (if_neg c1).trans (if_neg c2), d4 v c1 c2, if_neg c2, hLN.2 v c2⟩)
  have lo : ∀ v, v < 100 → gup Y L q q2 v = yg Y v := fun v hv => by
    rcases cs v with ⟨c1, -⟩ | ⟨-, c1, -⟩ | ⟨-, -, c1, -⟩
    · omega
    · omega
    · exact c1
  have R : ∀ f v, f ≠ 1 → kd (yc Y) v ≠ 99 → sR S' f (yg Y v) = sR S f (yg Y v) := fun f v hf hv => hR f _ (by rw [a7 v hv]; exact hv) (fun w => hf w.1)
  refine ⟨fun v w hv => ?_, fun v w hv => ?_, fun v w hv => ?_, fun v w hv => ?_, fun v k hk9 => ⟨fun hv => ?_, fun hv => ?_⟩, fun v => ⟨fun hv => ?_, fun hv => ?_, fun hv => ?_, fun hv => ?_⟩, fun v hv => ?_, fun v hv => ?_, ?_, fun v hv => ?_, fun v hv => ?_, fun v hv => ?_, fun v hv => ?_, ⟨fun j h0 h1 => ?_, fun j h0 h1 => ?_⟩, fun v hv => ?_, fun v w hv hw => ?_, hb, ?_, o2, o3, o4⟩
  · show gup Y L q q2 v = gup Y L q q2 w → v = w
    have hv : kd (cup (yc Y) L) v ≠ 99 := hv
    rcases cs v with ⟨c1, c2, -⟩ | ⟨l1, c1, c2, -⟩ | ⟨-, -, c2, c3, -⟩ <;> rcases cs w with ⟨e1, e2, -⟩ | ⟨l2, e1, e2, -⟩ | ⟨-, -, e2, -⟩ <;> rw [c2, e2] <;> intro h
    · exact c1.trans e1.symm
    · exact absurd h.symm (q12 l2)
    · exact absurd h.symm (n1 w)
    · exact absurd h (q12 l1)
    · exact c1.trans e1.symm
    · exact absurd h.symm ((m2 l1).1 w)
    · exact absurd h (n1 v)
    · exact absurd h ((m2 l2).1 v)
    · exact a1 v w (by rw [← c3]; exact hv) h
  · show iup Y L q3 it v = iup Y L q3 it w → v = w
    have hv : kd (cup (yc Y) L) v = 6 := hv
    rcases cs v with ⟨c1, c2, c3, -⟩ | ⟨l1, c1, c2, c3, c4, -⟩ | ⟨-, -, c2, c3, c4, -⟩
    · exact absurd (c3.symm.trans hv) kl.2.1
    · rcases cs w with ⟨e1, e2, e3, e4, -⟩ | ⟨l2, e1, e2, e3, e4, -⟩ | ⟨-, -, e2, e3, e4, -⟩ <;> rw [c4, e4] <;> intro h
      · exact absurd h.symm ((m3 l1).2.1 w)
      · exact c1.trans e1.symm
      · exact absurd h.symm ((m3 l1).2.1 w)
    · rcases cs w with ⟨e1, e2, e3, e4, -⟩ | ⟨l2, e1, e2, e3, e4, -⟩ | ⟨-, -, e2, e3, e4, -⟩ <;> rw [c4, e4] <;> intro h
      · exact a2 v w (c3.symm.trans hv) h
      · exact absurd h ((m3 l2).2.1 v)
      · exact a2 v w (c3.symm.trans hv) h
  · show gup Y L q q2 v ≠ iup Y L q3 it w
    have hv : kd (cup (yc Y) L) v ≠ 99 := hv
    rcases cs v with ⟨c1, c2, -⟩ | ⟨l1, c1, c2, -⟩ | ⟨-, -, c2, c3, -⟩ <;> rcases cs w with ⟨e1, e2, e3, e4, -⟩ | ⟨l2, e1, e2, e3, e4, -⟩ | ⟨-, -, e2, e3, e4, -⟩ <;> rw [c2, e4]
    · exact (n2 w).symm
    · exact (q13 l2).symm
    · exact (n2 w).symm
    · exact ((m2 l1).2.1 w).symm
    · exact q23 l1
    · exact ((m2 l1).2.1 w).symm
    · exact a3 v w (by rw [← c3]; exact hv)
    · exact (m3 l2).1 v
    · exact a3 v w (by rw [← c3]; exact hv)
  · show iup Y L q3 it v ≠ gup Y L q q2 w
    have hv : kd (cup (yc Y) L) v = 6 := hv
    rcases cs v with ⟨c1, c2, c3, -⟩ | ⟨l1, c1, c2, c3, c4, -⟩ | ⟨-, -, c2, c3, c4, -⟩
    · exact absurd (c3.symm.trans hv) kl.2.1
    · rcases cs w with ⟨e1, e2, -⟩ | ⟨l2, e1, e2, -⟩ | ⟨-, -, e2, -⟩ <;> rw [c4, e2]
      · exact q13 l1
      · exact (q23 l1).symm
      · exact ((m3 l1).1 w).symm
    · rcases cs w with ⟨e1, e2, -⟩ | ⟨l2, e1, e2, -⟩ | ⟨-, -, e2, -⟩ <;> rw [c4, e2]
      · exact n2 v
      · exact (m2 l2).2.1 v
      · exact a4 v w (c3.symm.trans hv)
  · show gup Y L q q2 v ≠ ym Y k
    have hv : kd (cup (yc Y) L) v ≠ 99 := hv
    rcases cs v with ⟨c1, c2, -⟩ | ⟨l1, c1, c2, -⟩ | ⟨-, -, c2, c3, -⟩ <;> rw [c2]
    · exact (n3 k hk9).symm
    · exact ((m2 l1).2.2.1 k hk9).symm
    · exact (a5 v k hk9).1 (by rw [← c3]; exact hv)
  · show iup Y L q3 it v ≠ ym Y k
    have hv : kd (cup (yc Y) L) v = 6 := hv
    rcases cs v with ⟨c1, c2, c3, -⟩ | ⟨l1, c1, c2, c3, c4, -⟩ | ⟨-, -, c2, c3, c4, -⟩
    · exact absurd (c3.symm.trans hv) kl.2.1
    · rw [c4]
      exact ((m3 l1).2.2.1 k hk9).symm
    · rw [c4]
      exact (a5 v k hk9).2 (c3.symm.trans hv)
  · show gup Y L q q2 v ≠ yo Y
    have hv : kd (cup (yc Y) L) v ≠ 99 := hv
    rcases cs v with ⟨c1, c2, -⟩ | ⟨l1, c1, c2, -⟩ | ⟨-, -, c2, c3, -⟩ <;> rw [c2]
    · exact n4.symm
    · exact (m2 l1).2.2.2.1.symm
    · exact (a6 v).1 (by rw [← c3]; exact hv)
  · show iup Y L q3 it v ≠ yo Y
    have hv : kd (cup (yc Y) L) v = 6 := hv
    rcases cs v with ⟨c1, c2, c3, -⟩ | ⟨l1, c1, c2, c3, c4, -⟩ | ⟨-, -, c2, c3, c4, -⟩
    · exact absurd (c3.symm.trans hv) kl.2.1
    · rw [c4]
      exact (m3 l1).2.2.2.1.symm
    · rw [c4]
      exact (a6 v).2.1 (c3.symm.trans hv)
  · show gup Y L q q2 v = ym Y 0
    have hv : kd (cup (yc Y) L) v = 99 := hv
    rcases cs v with ⟨c1, c2, c3, -⟩ | ⟨l1, c1, c2, c3, -⟩ | ⟨-, -, c2, c3, -⟩
    · exact absurd (c3.symm.trans hv) kl.1
    · rw [c3] at hv
      cases hv
    · rw [c2]
      exact (a6 v).2.2.1 (c3.symm.trans hv)
  · show iup Y L q3 it v = ym Y 0
    have hv : kd (cup (yc Y) L) v ≠ 6 := hv
    rcases cs v with ⟨c1, c2, c3, c4, c5, -⟩ | ⟨l1, c1, c2, c3, -⟩ | ⟨-, -, c2, c3, c4, -⟩
    · rw [c4]
      exact (a6 v).2.2.2 (by rw [c5]; decide)
    · exact absurd c3 hv
    · rw [c4]
      exact (a6 v).2.2.2 (by rw [← c3]; exact hv)
  · show sK S' (gup Y L q q2 v) = kd (cup (yc Y) L) v
    have hv : kd (cup (yc Y) L) v ≠ 99 := hv
    rcases cs v with ⟨c1, c2, c3, -⟩ | ⟨l1, c1, c2, c3, -⟩ | ⟨-, -, c2, c3, -⟩ <;> rw [c2, c3]
    · exact hq.2
    · exact (h11 l1).1.2
    · have h9 : kd (yc Y) v ≠ 99 := by rw [← c3]; exact hv
      exact ((hK _ (by rw [a7 v h9]; exact h9)).1).trans (a7 v h9)
  · show sR S' 600 (gup Y L q q2 v) = some (iup Y L q3 it v) ∧ sK S' (iup Y L q3 it v) = 20 ∧ sN S' (iup Y L q3 it v) = LN' v ∧ LN' v ≤ 1024
    have hv : kd (cup (yc Y) L) v = 6 := hv
    rcases cs v with ⟨c1, c2, c3, -⟩ | ⟨l1, c1, c2, c3, c4, c5, c6⟩ | ⟨-, -, c2, c3, c4, c5⟩
    · exact absurd (c3.symm.trans hv) kl.2.1
    · rw [c2, c4, c6]
      obtain ⟨-, -, g1, g2, g3⟩ := h11 l1
      exact ⟨g2, g1.2, g3, by decide⟩
    · have h9 : kd (yc Y) v = 6 := c3.symm.trans hv
      obtain ⟨f1, f2, f3, f4⟩ := a8 v h9
      have fk := hK (it v) (by rw [f2]; decide)
      rw [c2, c4, c5]
      exact ⟨(R 600 v (by decide) (by rw [h9]; decide)).trans f1, fk.1.trans f2, fk.2.trans f3, f4⟩
  · have k0 : kd (yc Y) 0 ≠ 99 := by
      show (9 : Nat) ≠ 99
      decide
    have R0 : ∀ f, f ≠ 1 → sR S' f (gup Y L q q2 0) = sR S f (yg Y 0) := fun f hf => by
      rw [lo 0 (by decide)]
      exact R f 0 hf k0
    obtain ⟨r0, r1, r2, r3, r4, r5, r6, r7, r8, r9, r10, r11⟩ := a9
    refine ⟨(R0 900 (by decide)).trans (r0.trans ?_), (R0 901 (by decide)).trans (r1.trans ?_), (R0 902 (by decide)).trans (r2.trans ?_), (R0 903 (by decide)).trans (r3.trans ?_), (R0 904 (by decide)).trans (r4.trans ?_), (R0 905 (by decide)).trans (r5.trans ?_), (R0 906 (by decide)).trans (r6.trans ?_), (R0 907 (by decide)).trans (r7.trans ?_), (R0 908 (by decide)).trans (r8.trans ?_), (R0 909 (by decide)).trans (r9.trans ?_), (R0 910 (by decide)).trans (r10.trans ?_), (R0 911 (by decide)).trans (r11.trans ?_)⟩
    all_goals exact congrArg some (lo _ (by decide)).symm
  · have hv : kd (cup (yc Y) L) v = 7 := hv
    have v1 := kd_7 hv
    show sR S' 701 (gup Y L q q2 v) = some (gup Y L q q2 (v + 10))
    rcases cs v with ⟨c1, c2, c3, -⟩ | ⟨l1, c1, c2, c3, -⟩ | ⟨-, -, c2, c3, -⟩
    · exact absurd (c3.symm.trans hv) kl.2.2.1
    · omega
    · have h9 : kd (yc Y) v = 7 := c3.symm.trans hv
      rw [c2, lo (v + 10) (by omega)]
      exact (R 701 v (by decide) (by rw [h9]; decide)).trans (a10 v h9)
  · have hv : kd (cup (yc Y) L) v = 8 := hv
    have v1 := kd_8 hv
    show sR S' 809 (gup Y L q q2 v) = some (gup Y L q q2 (v + 10)) ∧ sR S' 810 (gup Y L q q2 v) = some (gup Y L q q2 (v + 20)) ∧ sR S' 816 (gup Y L q q2 v) = some (gup Y L q q2 (v + 30))
    rcases cs v with ⟨c1, c2, c3, -⟩ | ⟨l1, c1, c2, c3, -⟩ | ⟨-, -, c2, c3, -⟩
    · exact absurd (c3.symm.trans hv) kl.2.2.2.1
    · omega
    · have h9 : kd (yc Y) v = 8 := c3.symm.trans hv
      rw [c2, lo (v + 10) (by omega), lo (v + 20) (by omega), lo (v + 30) (by omega)]
      exact ⟨(R 809 v (by decide) (by rw [h9]; decide)).trans (a11 v h9).1, (R 810 v (by decide) (by rw [h9]; decide)).trans (a11 v h9).2.1, (R 816 v (by decide) (by rw [h9]; decide)).trans (a11 v h9).2.2⟩
  · have hv : kd (cup (yc Y) L) v = 3 := hv
    show sR S' 304 (gup Y L q q2 v) = some (gup Y L q q2 (v + 20))
    rcases cs v with ⟨c1, c2, c3, -⟩ | ⟨l1, c1, c2, c3, -⟩ | ⟨-, -, c2, c3, -⟩
    · have l1 : L = 11 := kl.2.2.2.2.2.2.2.2.1 (c3.symm.trans hv)
      have e1 : v + 20 = 160 + yc Y 11 := by
        rw [c1, l1]
        show 140 + yc Y 11 + 20 = _
        omega
      have e2 : gup Y L q q2 (v + 20) = q2 := (if_neg (fun w => w01 l1 (w.symm.trans e1))).trans (if_pos ⟨l1, e1⟩)
      rw [c2, e2]
      exact (h11 l1).2.1
    · rw [c3] at hv
      cases hv
    · have h9 : kd (yc Y) v = 3 := c3.symm.trans hv
      have v1 := kd_3 h9
      have u1 := hcs 11 (by decide) (by decide)
      have u2 : cap 11 = 20 := rfl
      have e2 : gup Y L q q2 (v + 20) = yg Y (v + 20) := (if_neg (fun w => by
        by_cases l1 : L = 11
        · have := b2 l1
          omega
        · have := (b3 l1 (v + 20 - 160) (by omega)).1
          omega)).trans (if_neg (fun w => by
        have := w.2
        omega))
      rw [c2, e2]
      exact (R 304 v (by decide) (by rw [h9]; decide)).trans (a12 v h9)
  · have hv : kd (cup (yc Y) L) v = 20 ∨ kd (cup (yc Y) L) v = 23 ∨ kd (cup (yc Y) L) v = 24 := hv
    have v1 : v < 100 := kd_h (c := cup (yc Y) L) (by omega)
    show sN S' (gup Y L q q2 v) = ln v
    rcases cs v with ⟨c1, -⟩ | ⟨-, c1, -⟩ | ⟨-, -, c2, c3, -⟩
    · omega
    · omega
    · rw [c3] at hv
      rw [c2]
      have h9 : kd (yc Y) v ≠ 99 := by omega
      exact (hK _ (by rw [a7 v h9]; exact h9)).2.trans (a13 v hv)
  · show sG S' (gup Y L q q2 1) j = some (gup Y L q q2 (20 + j.toNat))
    have h1 : j < (8 : Nat) := h1
    rw [lo 1 (by decide), lo (20 + j.toNat) (by omega)]
    have k1 : kd (yc Y) 1 = 23 := rfl
    have k2 := a7 1 (by rw [k1]; decide)
    rw [k1] at k2
    refine (hG _ j (by rw [k2]; decide) (fun w => ?_)).trans (a14.1 j h0 h1)
    have := (hK (yg Y 1) (by rw [k2]; decide)).1
    rw [w, he.2.1] at this
    rw [w, ← this] at k2
    cases k2
  · show sG S' (gup Y L q q2 2) j = some (gup Y L q q2 (40 + j.toNat))
    have h1 : j < (6 : Nat) := h1
    rw [lo 2 (by decide), lo (40 + j.toNat) (by omega)]
    have k1 : kd (yc Y) 2 = 24 := rfl
    have k2 := a7 2 (by rw [k1]; decide)
    rw [k1] at k2
    refine (hG _ j (by rw [k2]; decide) (fun w => ?_)).trans (a14.2 j h0 h1)
    have := (hK (yg Y 2) (by rw [k2]; decide)).1
    rw [w, he.2.1] at this
    rw [w, ← this] at k2
    cases k2
  · have hv : kd (cup (yc Y) L) v = 0 := hv
    have v1 := kd_L hv
    have h9 : kd (yc Y) v = 0 := (d4 v (by omega) (by omega)).symm.trans hv
    show (cup (yc Y) L v = 0 ∧ sR S' 1 (gup Y L q q2 v) = some (yz Y)) ∨ (0 < cup (yc Y) L v ∧ sR S' 1 (gup Y L q q2 v) = some (if v = L then e else ye Y v) ∧ sK S' (if v = L then e else ye Y v) = 25 ∧ cup (yc Y) L v ≤ sN S' (if v = L then e else ye Y v) ∧ sN S' (if v = L then e else ye Y v) ≤ 64 ∧ ∀ j : Int, 0 ≤ j → j < (cup (yc Y) L v : Int) → sG S' (if v = L then e else ye Y v) j = some (gup Y L q q2 (bs v + j.toNat)))
    rw [lo v (by omega)]
    by_cases vL : v = L
    · subst vL
      rw [if_pos rfl, cup_s]
      obtain ⟨g1, g2, g3, g4, g5, g6⟩ := he
      refine Or.inr ⟨by omega, g1, g2, g3, g4, fun j j0 j1 => ?_⟩
      by_cases e1 : j = (yc Y v : Int)
      · rw [e1, g6, show gup Y v q q2 (bs v + ((yc Y v : Nat) : Int).toNat) = q from if_pos (by omega)]
      · rw [g5 j j0 (by omega)]
        refine congrArg some (Eq.symm ((if_neg (by omega)).trans (if_neg (fun w => ?_))))
        have := w.2
        have := b2 w.1
        omega
    · rw [if_neg vL, cup_n vL]
      have nR : sR S' 1 (yg Y v) = sR S 1 (yg Y v) := hR 1 _ (by rw [a7 v (by rw [h9]; decide), h9]; decide) (fun w => vL (a1 v L (by rw [h9]; decide) w.2))
      rcases a15 v h9 with ⟨z1, z2⟩ | ⟨z1, z2, z3, z4, z5, z6⟩
      · exact Or.inl ⟨z1, nR.trans z2⟩
      · have ne : ye Y v ≠ e := fun w => by
          rcases hne with h | ⟨h, h'⟩
          · rw [w, h] at z3
            cases z3
          · exact vL (a16 v L h9 (by rw [← d4 L (by omega) (by omega)]; exact (d4 L (by omega) (by omega)).trans (by
              obtain rfl | rfl | rfl | rfl | rfl : L = 8 ∨ L = 9 ∨ L = 10 ∨ L = 11 ∨ L = 12 := by omega
              all_goals rfl)) z1 h (w.trans h'))
        have ek := hK (ye Y v) (by rw [z3]; decide)
        refine Or.inr ⟨z1, nR.trans z2, ek.1.trans z3, by rw [ek.2]; exact z4, by rw [ek.2]; exact z5, fun j j0 j1 => ?_⟩
        rw [hG (ye Y v) j (by rw [z3]; decide) ne, z6 j j0 j1]
        have cv := hcs v v1.1 v1.2
        refine congrArg some (Eq.symm ((if_neg (fun w => ?_)).trans (if_neg (fun w => ?_))))
        · exact vL (bs_i v1 hL (by omega) hc w)
        · have w2 := w.2
          have w3 := bs_w (L := v) (k := j.toNat) v1 (by omega)
          have u1 := hcs 11 (by decide) (by decide)
          have u2 : cap 11 = 20 := rfl
          have u3 : yc Y 11 < 20 := by
            have := w.1
            rw [this] at hc
            exact hc
          exact (w3.2.2 (fun h => vL (h.trans w.1.symm)) _ u3).1 w2
  · have hv : kd (cup (yc Y) L) v = 0 := hv
    have hw : kd (cup (yc Y) L) w = 0 := hw
    have v1 := kd_L hv
    have w1 := kd_L hw
    have v9 : kd (yc Y) v = 0 := (d4 v (by omega) (by omega)).symm.trans hv
    have w9 : kd (yc Y) w = 0 := (d4 w (by omega) (by omega)).symm.trans hw
    have kL : kd (yc Y) L = 0 := by
      obtain rfl | rfl | rfl | rfl | rfl : L = 8 ∨ L = 9 ∨ L = 10 ∨ L = 11 ∨ L = 12 := by omega
      all_goals rfl
    show 0 < cup (yc Y) L v → 0 < cup (yc Y) L w → (if v = L then e else ye Y v) = (if w = L then e else ye Y w) → v = w
    have ne : ∀ u, kd (yc Y) u = 0 → u ≠ L → 0 < yc Y u → ye Y u ≠ e := fun u hu uL u0 h => by
      rcases hne with h' | ⟨h', h2⟩
      · rcases a15 u hu with ⟨z1, -⟩ | ⟨z1, z2, z3, -⟩
        · omega
        · rw [h, h'] at z3
          cases z3
      · exact uL (a16 u L hu kL u0 h' (h.trans h2))
    by_cases vL : v = L
    · by_cases wL : w = L
      · exact fun _ _ _ => vL.trans wL.symm
      · rw [if_pos vL, if_neg wL, cup_n wL]
        exact fun _ h0 h => absurd h.symm (ne w w9 wL h0)
    · by_cases wL : w = L
      · rw [if_neg vL, if_pos wL, cup_n vL]
        exact fun h0 _ h => absurd h (ne v v9 vL h0)
      · rw [if_neg vL, if_neg wL, cup_n vL, cup_n wL]
        exact fun h0 h1 h => a16 v w v9 w9 h0 h1 h
  · intro b hb9
    obtain ⟨c1, c2, c3⟩ := o1 b hb9
    have hb9' : sK S b ≠ 99 := by
      rw [c1]
      exact hb9
    have k9 := hK b hb9'
    exact ⟨k9.1.trans c1, k9.2.trans c2, fun f hf => (hR f b hb9' (fun w => by omega)).trans (c3 f hf)⟩
