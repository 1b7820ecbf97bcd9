/-! the makers: the car, made -/
set_option maxHeartbeats 4000000 in
theorem mkcar_T {G : Gp} {Y : Yt} {it LN : Nat → Nat} {S : Shp} {F1 : Fl} {I : Il} {q : Nat} {s : Int} {Q : Shp → Fl → Il → Prop} (hC : Cg Y it LN S) (hz : yz Y = gZ G) (hcs : ∀ l, 8 ≤ l → l ≤ 12 → yc Y l ≤ cap l) (hc : yc Y 11 < 20) (ha : 1040 ≤ ya Y) (hb : 2304 ≤ yb Y) (hq : sK S q = 99) (hs : 0 ≤ s ∧ s < 8) (hF : F1 2 (yg Y 11) = (yc Y 11 : Int))
    (hQ : ∀ (q2 q3 e : Nat) (S2 : Shp) (F3 : Fl) (I3 : Il), sK S q2 = 99 → sK S q3 = 99 → q2 ≠ q → q3 ≠ q → q3 ≠ q2 → Cg (Yup Y 11 q q2 e (ya Y - 1040) (yb Y - 2304)) (iup Y 11 q3 it) (fun v => if v = 160 + yc Y 11 then 4 else LN v) S2 → (∀ b, b ≠ q → b ≠ q2 → b ≠ yg Y 11 → ∀ k, F3 k b = F1 k b) → (∀ k, k ≠ 0 → k ≠ 2 → F3 k (yg Y 11) = F1 k (yg Y 11)) → F3 2 (yg Y 11) = (yc Y 11 : Int) + 1 → (F3 300 q = s ∧ F3 301 q = s ∧ F3 302 q = -1 ∧ F3 303 q = -1 ∧ F3 601 q2 = 1 ∧ I3 q3 0 = s) → (∀ b, sK S b ≠ 99 → ∀ j, I3 b j = I b j) → Q S2 F3 I3) :
    V_X2_init q s (newO S q 3) F1 I (fun (S6 : Shp) (F7 : Fl) (I8 : Il) => sK S6 q = 3 ∧ V_X2_write q 0 s S6 F7 I8 (fun (S10 : Shp) (F11 : Fl) (I12 : Il) => sK S10 (yg Y 0) = 9 ∧ ∃ r14, sR S10 904 (yg Y 0) = some r14 ∧ sK S10 r14 = 0 ∧ V_Jx4a65c_add_9ea2d G r14 q S10 F11 I12 (fun (_ : Int) (S18 : Shp) (F19 : Fl) (I20 : Il) => Q S18 F19 I20))) := by
  have bud := hC.bud
  obtain ⟨n1, n2, n3, n4, n5⟩ := hC.nq hq
  unfold V_X2_init
  refine ⟨va_up_self _ _ _, by show 1 ≤ sa S - 1; omega, by show 2 ≤ sb S - 5; omega, fun q2 hq2 => ?_⟩
  have nq2 : q2 ≠ q := fun w => by
    rw [w] at hq2
    have : (99 : Nat) = 3 := hq2.symm.trans (va_up_self _ _ _)
    cases this
  have hq2S : sK S q2 = 99 := (va_up_ne _ _ nq2).symm.trans hq2
  unfold V_X5_init
  refine ⟨va_up_self _ _ _, fun c => absurd c (by decide), fun _ => ⟨4, rfl, by decide, by show 1 ≤ sa S - 1 - 1; omega, by show 4 ≤ sb S - 5 - 2; omega, fun q3 hq3 => ?_⟩⟩
  have nq32 : q3 ≠ q2 := fun w => by
    rw [w] at hq3
    have : (99 : Nat) = 6 := hq3.symm.trans (va_up_self _ _ _)
    cases this
  have nq3 : q3 ≠ q := fun w => by
    rw [w] at hq3
    have : (99 : Nat) = 3 := hq3.symm.trans ((va_up_ne _ _ nq2.symm).trans (va_up_self _ _ _))
    cases this
  have hq3S : sK S q3 = 99 := (va_up_ne _ _ nq3).symm.trans ((va_up_ne _ _ nq32).symm.trans hq3)
  obtain ⟨m1, -, -, -, -⟩ := hC.nq hq2S
  obtain ⟨t1, -, -, -, -⟩ := hC.nq hq3S
  refine ⟨(va_up_ne _ _ nq32.symm).trans (va_up_self _ _ _), (va_up_ne _ _ nq3.symm).trans ((va_up_ne _ _ nq2.symm).trans (va_up_self _ _ _)), ?_⟩
  generalize hSe : setR (setR (newA (newO (newO S q 3) q2 6) q3 20 4) 600 q2 (some q3)) 304 q (some q2) = Se
  have Kq : sK Se q = 3 := by rw [← hSe]; exact (va_up_ne _ _ nq3.symm).trans ((va_up_ne _ _ nq2.symm).trans (va_up_self _ _ _))
  have Kq2 : sK Se q2 = 6 := by rw [← hSe]; exact (va_up_ne _ _ nq32.symm).trans (va_up_self _ _ _)
  have Kq3 : sK Se q3 = 20 := by rw [← hSe]; exact va_up_self _ _ _
  have Nq3 : sN Se q3 = 4 := by rw [← hSe]; exact va_up_self _ _ _
  have R304 : sR Se 304 q = some q2 := by rw [← hSe]; exact if_pos ⟨rfl, rfl⟩
  have R600 : sR Se 600 q2 = some q3 := by
    rw [← hSe]
    show u2 (u2 (sR (newA (newO (newO S q 3) q2 6) q3 20 4)) 600 q2 (some q3)) 304 q (some q2) 600 q2 = some q3
    rw [u2_k (by decide), u2_s]
  have nl : ∀ b, sK S b ≠ 99 → b ≠ q ∧ b ≠ q2 ∧ b ≠ q3 := fun b h => ⟨fun w => h (by rw [w]; exact hq), fun w => h (by rw [w]; exact hq2S), fun w => h (by rw [w]; exact hq3S)⟩
  have KE : ∀ b, sK S b ≠ 99 → sK Se b = sK S b := fun b h => by
    rw [← hSe]
    exact (va_up_ne _ _ (nl b h).2.2).trans ((va_up_ne _ _ (nl b h).2.1).trans (va_up_ne _ _ (nl b h).1))
  have NE : ∀ b, sK S b ≠ 99 → sN Se b = sN S b := fun b h => by
    rw [← hSe]
    exact va_up_ne _ _ (nl b h).2.2
  have RE : ∀ f b, sK S b ≠ 99 → sR Se f b = sR S f b := fun f b h => by
    rw [← hSe]
    exact (if_neg (fun w => (nl b h).1 w.2)).trans ((if_neg (fun w => (nl b h).2.1 w.2)).trans ((if_neg (nl b h).2.1).trans (if_neg (nl b h).1)))
  have GE : ∀ b j, sK S b ≠ 99 → sG Se b j = sG S b j := fun b j h => by
    rw [← hSe]
    exact if_neg (nl b h).2.2
  have sae : sa S = sa Se + 3 := by
    rw [← hSe]
    show sa S = sa S - 1 - 1 - 1 + 3
    omega
  have sbe : sb S = sb Se + 11 := by
    rw [← hSe]
    show sb S = sb S - 5 - 2 - 4 + 11
    omega
  clear hSe
  have f0 : (u2 (u2 (u2 (zF (u2 (u2 F1 302 q (-1)) 303 q (-1)) q2) 601 q2 0) 300 q s) 301 q s) 601 q2 = 0 := (u2_k (by decide)).trans ((u2_k (by decide)).trans u2_s)
  have es : w32 (w32 (100 * 0) + s) = s := by
    show w32 (0 + s) = s
    rw [Int.zero_add]
    exact w32_id (by unfold rg; omega)
  refine ⟨Kq, Kq, q2, R304, Kq2, Kq2, q3, R600, Kq3, by rw [Nq3]; decide, fun _ => ⟨Kq2, fun c => absurd c (by rw [f0]; decide), fun _ => ⟨q3, R600, Kq3, by rw [Nq3]; decide, fun c => absurd c (by rw [f0, Nq3]; decide), fun _ => ⟨by rw [f0]; decide, by rw [f0, Nq3]; decide, ?_⟩⟩⟩, fun c => absurd (by rw [f0, Nq3]; decide) c⟩
  rw [f0, es]
  generalize hF2 : u2 (u2 (u2 (u2 (zF (u2 (u2 F1 302 q (-1)) 303 q (-1)) q2) 601 q2 0) 300 q s) 301 q s) 601 q2 (w32 (0 + 1)) = F2
  have g0 : sK S (yg Y 0) = 9 := Cg.k hC rfl (by decide)
  have g11 : sK S (yg Y 11) = 0 := Cg.k hC rfl (by decide)
  have F2o : ∀ b, b ≠ q → b ≠ q2 → ∀ k, F2 k b = F1 k b := fun b h1 h2 k => by
    rw [← hF2]
    exact (u2_w h2).trans ((u2_w h1).trans ((u2_w h1).trans ((u2_w h2).trans ((zf_o h2).trans ((u2_w h1).trans (u2_w h1))))))
  have F2q : F2 300 q = s ∧ F2 301 q = s ∧ F2 302 q = -1 ∧ F2 303 q = -1 ∧ F2 601 q2 = 1 := by
    rw [← hF2]
    refine ⟨(u2_k (by decide)).trans ((u2_k (by decide)).trans u2_s), (u2_k (by decide)).trans u2_s, (u2_k (by decide)).trans ((u2_k (by decide)).trans ((u2_k (by decide)).trans ((u2_k (by decide)).trans ((zf_o nq2.symm).trans ((u2_k (by decide)).trans u2_s))))), (u2_k (by decide)).trans ((u2_k (by decide)).trans ((u2_k (by decide)).trans ((u2_k (by decide)).trans ((zf_o nq2.symm).trans u2_s)))), u2_s⟩
  clear hF2
  have I2q : ui (zI I q3) q3 0 s q3 0 = s := ui_s
  have I2o : ∀ b, b ≠ q3 → ∀ j, ui (zI I q3) q3 0 s b j = I b j := fun b h j => (if_neg (fun w => h w.1)).trans (if_neg h)
  generalize ui (zI I q3) q3 0 s = I2 at I2q I2o
  refine ⟨(KE _ (by rw [g0]; decide)).trans g0, yg Y 11, (RE _ _ (by rw [g0]; decide)).trans (Cg.r904 hC rfl), (KE _ (by rw [g11]; decide)).trans g11, ?_⟩
  have hcc : yc Y 11 ≤ cap 11 := hcs 11 (by decide) (by decide)
  have k9 : ∀ j : Int, 0 ≤ j → j < (yc Y 11 : Int) → sK S (yg Y (bs 11 + j.toNat)) = 3 := fun j j0 j1 => Cg.k hC (kd_in (L := 11) (by decide) hcc (by omega)) (by decide)
  refine add_T (k := yc Y 11) (e0 := ye Y 11) (ci := 3) (nm := fun j => yg Y (bs 11 + j.toNat)) ((KE _ (by rw [g11]; decide)).trans g11) (by unfold isObj; rw [Kq]; decide) (by omega) ((F2o _ (n1 11) (m1 11) 2).trans hF) ⟨by omega, by omega⟩ ?_ ⟨by decide, by decide, fun j j0 j1 => (KE _ (by rw [k9 j j0 j1]; decide)).trans (k9 j j0 j1)⟩ (fun e S2 I3 z hA => ?_)
  · have r1 : sR Se 1 (yg Y 11) = sR S 1 (yg Y 11) := RE _ _ (by rw [g11]; decide)
    rcases Cg.lst hC (v := 11) rfl with ⟨z1, z2⟩ | ⟨z1, z2, z3, z4, z5, z6⟩
    · exact Or.inl ⟨z1, r1.trans (z2.trans (by rw [hz]))⟩
    · have z9 : sK S (ye Y 11) ≠ 99 := by rw [z3]; decide
      exact Or.inr ⟨z1, r1.trans z2, (KE _ z9).trans z3, by rw [NE _ z9]; exact z4, by rw [NE _ z9]; exact z5, fun j j0 j1 => (GE _ _ z9).trans (z6 j j0 j1)⟩
  · obtain ⟨d1, d2, d3, d4, d5, ⟨d6, d7⟩, d8⟩ := hA
    have e99 : sK S e = 99 ∨ (0 < yc Y 11 ∧ e = ye Y 11) := by
      rcases d5 with h | h
      · refine Or.inl (Classical.byContradiction fun w => w ?_)
        exact (KE e w).symm.trans h
      · exact Or.inr h
    have hp := pq_new (LN := LN) (LN' := fun v => if v = 160 + yc Y 11 then 4 else LN v) (i0 := yc Y 11) hc (fun v hv => if_neg hv)
    have hC2 := cg_add (L := 11) (q := q) (q2 := q2) (q3 := q3) (e := e) (S' := S2) (LN' := fun v => if v = 160 + yc Y 11 then 4 else LN v) (ya' := ya Y - 1040) (yb' := yb Y - 2304) hC (by decide) hcs hc (fun b hb9 => ?_) (fun f b hb9 w => ?_) (fun b j hb9 w => ?_) ⟨hq, ?_⟩ d4 e99 (fun _ => ⟨⟨hq2S, ?_⟩, ?_, ⟨hq3S, ?_⟩, ?_, ?_⟩) ⟨fun _ => if_pos rfl, fun v hv => if_neg (fun w => hv ⟨rfl, w⟩)⟩ ⟨?_, ?_⟩
    · refine hQ q2 q3 e S2 _ I3 hq2S hq3S nq2 nq3 nq32 hC2 (fun b h1 h2 h3 k => (u2_w h3).trans ((u2_w h3).trans (F2o b h1 h2 k))) (fun k k0 k2 => (u2_k k2).trans ((u2_k k0).trans (F2o _ (n1 11) (m1 11) k))) u2_s ⟨(u2_k (by decide)).trans ((u2_k (by decide)).trans F2q.1), (u2_k (by decide)).trans ((u2_k (by decide)).trans F2q.2.1), (u2_k (by decide)).trans ((u2_k (by decide)).trans F2q.2.2.1), (u2_k (by decide)).trans ((u2_k (by decide)).trans F2q.2.2.2.1), (u2_k (by decide)).trans ((u2_k (by decide)).trans F2q.2.2.2.2), (d8 q3 (by rw [Kq3]; decide) 0).trans I2q⟩ (fun b hb9 j => (d8 b (by rw [KE b hb9]; exact hb9) j).trans (I2o b (nl b hb9).2.2 j))
    · have := d1 b (by rw [KE b hb9]; exact hb9)
      exact ⟨this.1.trans (KE b hb9), this.2.trans (NE b hb9)⟩
    · exact (d2 f b w).trans (RE f b hb9)
    · exact (d3 b j w).trans (GE b j hb9)
    · exact (d1 q (by rw [Kq]; decide)).1.trans Kq
    · exact (d1 q2 (by rw [Kq2]; decide)).1.trans Kq2
    · exact (d2 304 q (fun w => by cases w.1)).trans R304
    · exact (d1 q3 (by rw [Kq3]; decide)).1.trans Kq3
    · exact (d2 600 q2 (fun w => by cases w.1)).trans R600
    · exact (d1 q3 (by rw [Kq3]; decide)).2.trans Nq3
    · omega
    · omega
