/-! the makers: a list takes one more -/
theorem ishr_1 {n : Nat} (h : n ≤ 40) : 0 ≤ ishr (n : Int) 1 ∧ ishr (n : Int) 1 ≤ 20 := by
  have : ∀ k : Fin 41, 0 ≤ ishr ((k : Nat) : Int) 1 ∧ ishr ((k : Nat) : Int) 1 ≤ 20 := by decide
  exact this ⟨n, by omega⟩
/-- what a list's taking leaves -/
def Ad (x0 q k : Nat) (nm : Int → Nat) (e0 : Nat) (S1 : Shp) (I1 : Il) (e : Nat) (S2 : Shp) (I2 : Il) : Prop :=
  (∀ b, sK S1 b ≠ 99 → sK S2 b = sK S1 b ∧ sN S2 b = sN S1 b) ∧ (∀ f b, ¬ (f = 1 ∧ b = x0) → sR S2 f b = sR S1 f b) ∧ (∀ b j, b ≠ e → sG S2 b j = sG S1 b j) ∧
  (sR S2 1 x0 = some e ∧ sK S2 e = 25 ∧ k + 1 ≤ sN S2 e ∧ sN S2 e ≤ 64 ∧ (∀ j : Int, 0 ≤ j → j < (k : Int) → sG S2 e j = some (nm j)) ∧ sG S2 e (k : Int) = some q) ∧
  (sK S1 e = 99 ∨ (0 < k ∧ e = e0)) ∧ (sa S1 ≤ sa S2 + 1 ∧ sb S1 ≤ sb S2 + 64) ∧ (∀ b, sK S1 b ≠ 99 → ∀ j, I2 b j = I1 b j)
set_option maxHeartbeats 2000000 in
theorem add_T {G : Gp} {x0 q k e0 ci : Nat} {nm : Int → Nat} {S1 : Shp} {F1 : Fl} {I1 : Il} {Q : Int → Shp → Fl → Il → Prop} (h0 : sK S1 x0 = 0) (ho : isObj S1 q) (hk : k < 40) (hF : F1 2 x0 = (k : Int)) (hb : 1 ≤ sa S1 ∧ 64 ≤ sb S1)
    (hr : (k = 0 ∧ sR S1 1 x0 = some (gZ G)) ∨ (0 < k ∧ sR S1 1 x0 = some e0 ∧ sK S1 e0 = 25 ∧ k ≤ sN S1 e0 ∧ sN S1 e0 ≤ 64 ∧ ∀ j : Int, 0 ≤ j → j < (k : Int) → sG S1 e0 j = some (nm j)))
    (hc : 1 ≤ ci ∧ ci ≤ 8 ∧ ∀ j : Int, 0 ≤ j → j < (k : Int) → sK S1 (nm j) = ci)
    (hQ : ∀ (e : Nat) (S2 : Shp) (I2 : Il) (z : Int), Ad x0 q k nm e0 S1 I1 e S2 I2 → Q 1 S2 (u2 (u2 F1 0 x0 z) 2 x0 ((k : Int) + 1)) I2) : V_Jx4a65c_add_9ea2d G x0 q S1 F1 I1 Q := by
  unfold V_Jx4a65c_add_9ea2d
  generalize w32 (F1 0 x0 + 1) = z
  have e2 : (u2 F1 0 x0 z) 2 x0 = (k : Int) := (u2_k (by decide)).trans hF
  rw [e2]
  have ez : w32 ((k : Int) + 1) = (k : Int) + 1 := w32_id (by unfold rg; omega)
  have q99 : sK S1 q ≠ 99 := fun e => by
    have := ho.2
    omega
  have x99 : sK S1 x0 ≠ 99 := by rw [h0]; decide
  rcases hr with ⟨k0, hr⟩ | ⟨k0, hr, r1, r2, r3, r4⟩
  · subst k0
    refine ⟨h0, _, hr, 0, Or.inl ⟨rfl, rfl⟩, by decide, fun c => absurd rfl c, fun _ => ⟨h0, h0, h0, _, hr, 0, Or.inl ⟨rfl, rfl⟩, by decide, fun c => absurd c (by decide), fun _ => ⟨fun _ => ⟨10, ?_, by decide, hb.1, by omega, fun e he => ⟨?_, ?_⟩⟩, fun c => absurd rfl c⟩⟩⟩
    · rw [e2]
      decide
    · exact (va_up_ne _ _ (fun c => by rw [c, he] at h0; cases h0)).trans h0
    · have x0e : x0 ≠ e := fun c => by rw [c, he] at h0; cases h0
      have qe : q ≠ e := fun c => q99 (by rw [c]; exact he)
      refine ⟨va_up_self _ _ _, ?_, by decide, ?_, (va_up_ne _ _ x0e).trans h0, ?_⟩
      · show 1 ≤ va_up (sK S1) e 25 q ∧ va_up (sK S1) e 25 q ≤ 8
        rw [va_up_ne _ _ qe]
        exact ho
      · show (0 : Int) < (va_up (sN S1) e 10 e : Nat)
        rw [va_up_self]
        decide
      · rw [ez]
        refine hQ e _ _ z ⟨fun b h9 => ?_, fun f b h9 => ?_, fun b j h9 => ?_, ⟨?_, va_up_self _ _ _, ?_, ?_, fun j j0 j1 => ?_, ?_⟩, Or.inl he, ⟨?_, ?_⟩, fun b h9 j => ?_⟩
        · have be : b ≠ e := fun c => h9 (by rw [c]; exact he)
          exact ⟨va_up_ne _ _ be, va_up_ne _ _ be⟩
        · exact if_neg h9
        · exact (if_neg (fun w => h9 w.1)).trans (if_neg h9)
        · exact if_pos ⟨rfl, rfl⟩
        · show 0 + 1 ≤ va_up (sN S1) e 10 e
          rw [va_up_self]
          decide
        · show va_up (sN S1) e 10 e ≤ 64
          rw [va_up_self]
          decide
        · omega
        · exact if_pos ⟨rfl, rfl⟩
        · show sa S1 ≤ sa S1 - 1 + 1
          omega
        · show sb S1 ≤ sb S1 - 10 + 64
          omega
        · exact if_neg (fun c => h9 (by rw [c]; exact he))
  · refine ⟨h0, _, hr, sN S1 e0, Or.inr ⟨r1, rfl⟩, by omega, fun c => ?_, fun c => ?_⟩
    · have hl : (k : Int) < (sN S1 e0 : Int) := by omega
      refine ⟨r1, ho, by omega, hl, h0, ?_⟩
      rw [ez]
      refine hQ e0 _ _ z ⟨fun b h9 => ⟨rfl, rfl⟩, fun f b h9 => rfl, fun b j h9 => if_neg (fun w => h9 w.1), ⟨hr, r1, ?_, r3, fun j j0 j1 => (if_neg (fun w => ?_)).trans (r4 j j0 j1), if_pos ⟨rfl, rfl⟩⟩, Or.inr ⟨k0, rfl⟩, ⟨?_, ?_⟩, fun b h9 j => rfl⟩
      · show k + 1 ≤ sN S1 e0
        omega
      · omega
      · show sa S1 ≤ sa S1 + 1
        omega
      · show sb S1 ≤ sb S1 + 64
        omega
    · have hn : sN S1 e0 = k := by omega
      refine ⟨h0, h0, h0, e0, hr, sN S1 e0, Or.inr ⟨r1, rfl⟩, by omega, fun _ => ?_, fun c9 => absurd (by omega) c9⟩
      rw [e2, hn, ez]
      unfold V_Jx4a65c_grow_92f84_20 V_J8_newLength_cabcc
      have i1 := ishr_1 (n := k) (by omega)
      generalize ishr (k : Int) 1 = s at i1
      have ew : w32 ((k : Int) + 1 - (k : Int)) = 1 := by
        rw [show (k : Int) + 1 - (k : Int) = 1 by omega]
        decide
      rw [ew]
      obtain ⟨m, hm, m1, m2⟩ : ∃ m : Nat, (if (1 : Int) < s then s else 1) = (m : Int) ∧ 1 ≤ m ∧ m ≤ 20 := by
        by_cases c1 : (1 : Int) < s
        · exact ⟨s.toNat, by rw [if_pos c1]; omega, by omega, by omega⟩
        · exact ⟨1, by rw [if_neg c1]; rfl, by omega, by omega⟩
      rw [hm]
      have em : w32 ((k : Int) + (m : Int)) = ((k + m : Nat) : Int) := (w32_id (by unfold rg; omega)).trans (by omega)
      rw [em]
      clear em ew e2 ez hm i1 hF
      refine ⟨fun c9 => absurd c9 (by omega), fun _ => ⟨fun c9 => absurd c9 (by omega), fun _ => ⟨h0, e0, hr, r1, fun c9 => absurd rfl c9, fun _ => ⟨k + m, rfl, by omega, hb.1, by omega, fun e he => ?_⟩⟩⟩⟩
      have x0e : x0 ≠ e := fun c => by rw [c, he] at h0; cases h0
      have qe : q ≠ e := fun c => q99 (by rw [c]; exact he)
      have e0e : e0 ≠ e := fun c => by rw [c, he] at r1; cases r1
      have n0 : sN (newA S1 e 25 (k + m)) e0 = k := (va_up_ne _ _ e0e).trans hn
      have n1 : sN (newA S1 e 25 (k + m)) e = k + m := va_up_self _ _ _
      have g0 : ∀ j, sG (newA S1 e 25 (k + m)) e0 j = sG S1 e0 j := fun j => if_neg e0e
      refine ⟨k, Or.inr ⟨(va_up_ne _ _ e0e).trans r1, n0.symm⟩, by omega, (va_up_ne _ _ e0e).trans r1, va_up_self _ _ _, ?_⟩
      have em2 : (if ((k + m : Nat) : Int) < (k : Int) then ((k + m : Nat) : Int) else (k : Int)) = (k : Int) := if_neg (by omega)
      rw [em2]
      refine ⟨⟨by omega, by omega, by omega, by rw [n0]; omega, by rw [n1]; omega, by rw [n0]; omega, by rw [n1]; omega⟩, ⟨ci, hc.1, hc.2.1, fun j j0 j1 y hy => ?_⟩, (va_up_ne _ _ x0e).trans h0, va_up_self _ _ _, ?_, by omega, ?_, (va_up_ne _ _ x0e).trans h0, ?_⟩
      · rw [g0, r4 j j0 (by omega)] at hy
        have := hc.2.2 j j0 (by omega)
        rw [← Option.some.inj hy]
        exact (va_up_ne _ _ (fun c => by rw [c, he] at this; omega)).trans this
      · show 1 ≤ va_up (sK S1) e 25 q ∧ va_up (sK S1) e 25 q ≤ 8
        rw [va_up_ne _ _ qe]
        exact ho
      · show (k : Int) < (va_up (sN S1) e (k + m) e : Nat)
        rw [va_up_self]
        omega
      · rw [show w32 ((k : Int) + 1) = (k : Int) + 1 from w32_id (by unfold rg; omega)]
        refine hQ e _ _ z ⟨fun b h9 => ?_, fun f b h9 => ?_, fun b j h9 => ?_, ⟨?_, va_up_self _ _ _, ?_, ?_, fun j j0 j1 => ?_, ?_⟩, Or.inl he, ⟨?_, ?_⟩, fun b h9 j => ?_⟩
        · have be : b ≠ e := fun c => h9 (by rw [c]; exact he)
          exact ⟨va_up_ne _ _ be, va_up_ne _ _ be⟩
        · exact if_neg h9
        · exact (if_neg (fun w => h9 w.1)).trans ((if_neg (fun w => h9 w.1)).trans (if_neg h9))
        · exact if_pos ⟨rfl, rfl⟩
        · show k + 1 ≤ va_up (sN S1) e (k + m) e
          rw [va_up_self]
          omega
        · show va_up (sN S1) e (k + m) e ≤ 64
          rw [va_up_self]
          omega
        · refine (if_neg (fun w => by omega)).trans ((if_pos ⟨rfl, by omega, by omega⟩).trans ?_)
          rw [show (0 : Int) + (j - 0) = j by omega]
          exact (g0 j).trans (r4 j j0 j1)
        · exact if_pos ⟨rfl, rfl⟩
        · show sa S1 ≤ sa S1 - 1 + 1
          omega
        · show sb S1 ≤ sb S1 - (k + m) + 64
          omega
        · exact if_neg (fun c => h9 (by rw [c]; exact he))
