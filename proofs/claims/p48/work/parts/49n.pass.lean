/-! the class's train enters a block; wrecks -/
section Pass
variable {c LN : Nat → Nat} {B B' : Fl} {E : El} {A A' : Il}
/-- what entering does to the class's fields; z: for whom the train waits then -/
def enz (B : Fl) (A : Il) (t z : Int) : Fl := u2 (u2 (u2 (u2 (u2 (u2 (u2 (u2 (u2 (u2 B 403 (130 + (A 38 t).toNat) (A 26 (A 38 t) + rnv A t (nb A t))) 814 (40 + t.toNat) z) 805 (40 + t.toNat) (oth A (nb A t) (A 40 t))) 806 (40 + t.toNat) (nb A t)) 811 (40 + t.toNat) (A 46 t + 1)) 807 (40 + t.toNat) (A 1 0 + rnv A t (nb A t))) 801 (40 + t.toNat) 2) 206 (100 + (nb A t).toNat) 0) 211 (100 + (nb A t).toNat) t) 212 (100 + (nb A t).toNat) (clm A t (nb A t))
def enB (B : Fl) (A : Il) (t : Int) : Fl := enz B A t (if A 51 t = A 40 t then -1 else A 50 t)
theorem q_enter41 {t z : Int} {Q : Fl → El → Prop} {QX : String → Fl → El → Prop} (hR : Rep c LN B E A) (hr : Rdy c A t) (h : Q (enz B A t z) E) : W_X8_enter_41 c LN 0 (40 + t.toNat) (100 + (nb A t).toNat) (nb A t) (rnv A t (nb A t)) (u2 (u2 B 403 (130 + (A 38 t).toNat) (A 26 (A 38 t) + rnv A t (nb A t))) 814 (40 + t.toNat) z) E Q QX := by
  obtain ⟨⟨r1, r2, r3, r4⟩, ⟨r5, r6, r7⟩, ⟨r8, r9, r10⟩, ⟨r11, r12⟩, ⟨r13, r14, r15, r16, r17⟩, ⟨r18, r19, r20⟩, r21, r22, r23, r24, r25, r26, r27, r28⟩ := hr
  obtain ⟨⟨f0, f1, f2, f3, f4, f5, f6⟩, ⟨g1, g2, g3, g4, g5⟩, -, ⟨ru1, -⟩, -⟩ := hR.flds r1 r2 r3 (by omega)
  have gB := hR.2.2.1
  have e1 := hR.1.1
  have ecl : clm A t (nb A t) = A 1 0 + rnv A t (nb A t) + (1 + A 44 t / 4) := rfl
  have b16 := gB.1
  have hk := kd8 (c := c) (v := 100 + (nb A t).toNat) (by omega) (by omega) gB.1.2.2
  have hkt := kdtr (c := c) (v := 40 + t.toNat) (by omega) (by omega)
  unfold enz at h
  generalize nb A t = b at *
  generalize rnv A t b = its at *
  have q805 : u2 (u2 B 403 (130 + (A 38 t).toNat) (A 26 (A 38 t) + its)) 814 (40 + t.toNat) z 805 (40 + t.toNat) = A 40 t := (u2_k (by decide)).trans ((u2_k (by decide)).trans f5)
  have q811 : u2 (u2 B 403 (130 + (A 38 t).toNat) (A 26 (A 38 t) + its)) 814 (40 + t.toNat) z 811 (40 + t.toNat) = A 46 t := (u2_k (by decide)).trans ((u2_k (by decide)).trans g2)
  have q800 : u2 (u2 B 403 (130 + (A 38 t).toNat) (A 26 (A 38 t) + its)) 814 (40 + t.toNat) z 800 (40 + t.toNat) = t := (u2_k (by decide)).trans ((u2_k (by decide)).trans f0)
  have q912 : u2 (u2 B 403 (130 + (A 38 t).toNat) (A 26 (A 38 t) + its)) 814 (40 + t.toNat) z 912 0 = A 1 0 := (u2_k (by decide)).trans ((u2_k (by decide)).trans e1)
  have q601 : u2 (u2 B 403 (130 + (A 38 t).toNat) (A 26 (A 38 t) + its)) 814 (40 + t.toNat) z 601 (50 + t.toNat) = A 44 t := (u2_k (by decide)).trans ((u2_k (by decide)).trans ru1)
  have gB2 : RepB c (u2 (u2 B 403 (130 + (A 38 t).toNat) (A 26 (A 38 t) + its)) 814 (40 + t.toNat) z) A := gB.fr (fun k v h => (u2_k (by omega)).trans (u2_k (by omega))) (fun _ _ _ => rfl)
  generalize u2 (u2 B 403 (130 + (A 38 t).toNat) (A 26 (A 38 t) + its)) 814 (40 + t.toNat) z = B2 at *
  refine ⟨hkt, hk, ?_⟩
  rw [q805]
  refine q_otherEnd gB2 ⟨r5, r6⟩ ⟨rfl, ?_⟩
  have d1 : w32 (A 46 t + 1) = A 46 t + 1 := w32_id (by unfold rg; omega)
  have d2 : w32 (A 1 0 + its) = A 1 0 + its := w32_id (by unfold rg; omega)
  rw [show (u2 (u2 B2 805 (40 + t.toNat) (oth A b (A 40 t))) 806 (40 + t.toNat) b) 811 (40 + t.toNat) = A 46 t from (u2_k (by decide)).trans ((u2_k (by decide)).trans q811), d1]
  rw [show (u2 (u2 (u2 B2 805 (40 + t.toNat) (oth A b (A 40 t))) 806 (40 + t.toNat) b) 811 (40 + t.toNat) (A 46 t + 1)) 912 0 = A 1 0 from (u2_k (by decide)).trans ((u2_k (by decide)).trans ((u2_k (by decide)).trans q912)), d2]
  rw [show (u2 (u2 (u2 (u2 (u2 (u2 B2 805 (40 + t.toNat) (oth A b (A 40 t))) 806 (40 + t.toNat) b) 811 (40 + t.toNat) (A 46 t + 1)) 807 (40 + t.toNat) (A 1 0 + its)) 801 (40 + t.toNat) 2) 206 (100 + b.toNat) 0) 800 (40 + t.toNat) = t from (u2_k (by decide)).trans ((u2_k (by decide)).trans ((u2_k (by decide)).trans ((u2_k (by decide)).trans ((u2_k (by decide)).trans ((u2_k (by decide)).trans q800)))))]
  rw [show (u2 (u2 (u2 (u2 (u2 (u2 (u2 B2 805 (40 + t.toNat) (oth A b (A 40 t))) 806 (40 + t.toNat) b) 811 (40 + t.toNat) (A 46 t + 1)) 807 (40 + t.toNat) (A 1 0 + its)) 801 (40 + t.toNat) 2) 206 (100 + b.toNat) 0) 211 (100 + b.toNat) t) 807 (40 + t.toNat) = A 1 0 + its from (u2_k (by decide)).trans ((u2_k (by decide)).trans ((u2_k (by decide)).trans u2_s))]
  refine q_mins (n := A 44 t) hkt (kdtc (v := 50 + t.toNat) (by omega) (by omega)) (by omega) ((u2_k (by decide)).trans ((u2_k (by decide)).trans ((u2_k (by decide)).trans ((u2_k (by decide)).trans ((u2_k (by decide)).trans ((u2_k (by decide)).trans ((u2_k (by decide)).trans q601))))))) r22 ?_
  rw [w32_id (z := A 1 0 + its + (1 + A 44 t / 4)) (by unfold rg; omega), ← ecl]
  exact h
theorem q_enter {t : Int} {Q : Fl → El → Prop} {QX : String → Fl → El → Prop} (hR : Rep c LN B E A) (hr : Rdy c A t) (h : Q (enB B A t) E) : W_X8_enter c LN 0 (40 + t.toNat) (100 + (nb A t).toNat) (nb A t) B E Q QX := by
  obtain ⟨⟨r1, r2, r3, r4⟩, ⟨r5, r6, r7⟩, ⟨r8, r9, r10⟩, ⟨r11, r12⟩, ⟨r13, r14, r15, r16, r17⟩, ⟨r18, r19, r20⟩, r21, r22, r23, r24, r25, r26, r27, r28⟩ := id hr
  obtain ⟨⟨f0, f1, f2, f3, f4, f5, f6⟩, ⟨g1, g2, g3, g4, g5⟩, -, ⟨ru1, -⟩, -⟩ := hR.flds r1 r2 r3 (by omega)
  have gT := hR.2.2.2.2.2.2.2.2.2.2.2.2.2.2.2.2.1
  have gB := hR.2.2.1
  have gE := hR.2.2.2.2.2.1
  have gC := hR.2.2.2.2.2.2.1
  obtain ⟨⟨c1, c2, c3⟩, c4, c5, c6, c7, c8, c8z⟩ := id gC
  have hkc := kd10 (c := c) (v := 130 + (A 38 t).toNat) (by omega) (by omega) c3
  have hkt := kdtr (c := c) (v := 40 + t.toNat) (by omega) (by omega)
  have d403 := c6 (A 38 t) r18 r19
  have d8 := c8 (A 38 t) r18 r19
  refine q_runs gT gB gE r1 r2 r3 ⟨r5, r6⟩ ⟨hkt, rfl, ?_⟩
  rw [f3]
  refine q_crewOf1 gC ⟨r18, r19⟩ ⟨hkc, ?_⟩
  rw [d403, w32_id (z := A 26 (A 38 t) + rnv A t (nb A t)) (by unfold rg; omega)]
  rw [show u2 B 403 (130 + (A 38 t).toNat) (A 26 (A 38 t) + rnv A t (nb A t)) 815 (40 + t.toNat) = B 815 (40 + t.toNat) from u2_k (by decide), show u2 B 403 (130 + (A 38 t).toNat) (A 26 (A 38 t) + rnv A t (nb A t)) 805 (40 + t.toNat) = A 40 t from (u2_k (by decide)).trans f5]
  have e814 : u2 B 403 (130 + (A 38 t).toNat) (A 26 (A 38 t) + rnv A t (nb A t)) 814 (40 + t.toNat) = A 50 t := (u2_k (by decide)).trans g3
  have ei : u2 (u2 B 403 (130 + (A 38 t).toNat) (A 26 (A 38 t) + rnv A t (nb A t))) 814 (40 + t.toNat) (A 50 t) = u2 B 403 (130 + (A 38 t).toNat) (A 26 (A 38 t) + rnv A t (nb A t)) := by
    rw [← e814]
    exact u2_id
  unfold enB at h
  refine ⟨fun c1' => ?_, fun c1' => ?_⟩
  · rw [← ei]
    refine q_enter41 hR hr ?_
    by_cases cc : A 51 t = A 40 t
    · rw [if_pos cc] at h
      have n50 : A 50 t = -1 := Classical.byContradiction (fun w => c1' ((g4 w).trans cc))
      rw [n50]
      exact h
    · rw [if_neg cc] at h
      exact h
  · refine q_enter41 hR hr ?_
    by_cases cc : A 51 t = A 40 t
    · rw [if_pos cc] at h
      exact h
    · rw [if_neg cc] at h
      have n50 : A 50 t = -1 := Classical.byContradiction (fun w => cc ((g4 w).symm.trans c1'))
      rw [n50] at h
      exact h
theorem ent_rep {t : Int} (hR : Rep c LN B E A) (hr : Rdy c A t) (h17 : A 17 (nb A t) = -1) (hd : A 26 (A 38 t) + rnv A t (nb A t) ≤ 600) : Rep c LN (enB B A t) E (ent A t) := by
  unfold enB enz ent
  refine enter_rep (b := nb A t) hR hr rfl rfl rfl h17 hd (fun q v h => (u2_k (by omega)).trans ((u2_k (by omega)).trans ((u2_k (by omega)).trans ((u2_k (by omega)).trans ((u2_k (by omega)).trans ((u2_k (by omega)).trans ((u2_k (by omega)).trans ((u2_k (by omega)).trans ((u2_k (by omega)).trans ((u2_k (by omega)).trans (rfl))))))))))) (fun q v h => (u2_k (by omega)).trans ((u2_k (by omega)).trans ((u2_k (by omega)).trans ((u2_w (by omega)).trans ((u2_w (by omega)).trans ((u2_w (by omega)).trans ((u2_w (by omega)).trans ((u2_w (by omega)).trans ((u2_w (by omega)).trans ((u2_k (by omega)).trans (rfl))))))))))) ⟨((u2_k (by decide)).trans ((u2_k (by decide)).trans ((u2_k (by decide)).trans ((u2_k (by decide)).trans ((u2_k (by decide)).trans ((u2_k (by decide)).trans ((u2_k (by decide)).trans ((u2_k (by decide)).trans (u2_s))))))))).trans ((ui_k (by decide)).trans ((ui_k (by decide)).trans ((ui_k (by decide)).trans ((ui_k (by decide)).trans (ui_s))))).symm, (u2_k (by decide)).trans ((u2_k (by decide)).trans ((u2_k (by decide)).trans ((u2_k (by decide)).trans ((u2_k (by decide)).trans ((u2_k (by decide)).trans ((u2_k (by decide)).trans (u2_s))))))), (u2_k (by decide)).trans ((u2_k (by decide)).trans ((u2_k (by decide)).trans ((u2_k (by decide)).trans ((u2_k (by decide)).trans ((u2_k (by decide)).trans (u2_s)))))), (u2_k (by decide)).trans ((u2_k (by decide)).trans ((u2_k (by decide)).trans ((u2_k (by decide)).trans ((u2_k (by decide)).trans (u2_s))))), (u2_k (by decide)).trans ((u2_k (by decide)).trans ((u2_k (by decide)).trans ((u2_k (by decide)).trans (u2_s)))), (u2_k (by decide)).trans ((u2_k (by decide)).trans ((u2_k (by decide)).trans (u2_s)))⟩ ⟨(u2_k (by decide)).trans ((u2_k (by decide)).trans ((u2_k (by decide)).trans ((u2_k (by decide)).trans ((u2_k (by decide)).trans ((u2_k (by decide)).trans ((u2_k (by decide)).trans ((u2_k (by decide)).trans ((u2_k (by decide)).trans (u2_s))))))))), fun v h => (u2_k (by omega)).trans ((u2_k (by omega)).trans ((u2_k (by omega)).trans ((u2_k (by omega)).trans ((u2_k (by omega)).trans ((u2_k (by omega)).trans ((u2_k (by omega)).trans ((u2_k (by omega)).trans ((u2_k (by omega)).trans ((u2_w (by omega)).trans (rfl))))))))))⟩ ⟨(u2_k (by decide)).trans ((u2_k (by decide)).trans (u2_s)), fun v h => (u2_k (by omega)).trans ((u2_k (by omega)).trans ((u2_w (by omega)).trans ((u2_k (by omega)).trans ((u2_k (by omega)).trans ((u2_k (by omega)).trans ((u2_k (by omega)).trans ((u2_k (by omega)).trans ((u2_k (by omega)).trans ((u2_k (by omega)).trans (rfl))))))))))⟩ ⟨(u2_k (by decide)).trans (u2_s), fun v h => (u2_k (by omega)).trans ((u2_w (by omega)).trans ((u2_k (by omega)).trans ((u2_k (by omega)).trans ((u2_k (by omega)).trans ((u2_k (by omega)).trans ((u2_k (by omega)).trans ((u2_k (by omega)).trans ((u2_k (by omega)).trans ((u2_k (by omega)).trans (rfl))))))))))⟩ ⟨u2_s, fun v h => (u2_w (by omega)).trans ((u2_k (by omega)).trans ((u2_k (by omega)).trans ((u2_k (by omega)).trans ((u2_k (by omega)).trans ((u2_k (by omega)).trans ((u2_k (by omega)).trans ((u2_k (by omega)).trans ((u2_k (by omega)).trans ((u2_k (by omega)).trans (rfl))))))))))⟩ (fun a j h => (ui_k (by omega)).trans ((ui_k (by omega)).trans ((ui_k (by omega)).trans ((ui_k (by omega)).trans ((ui_k (by omega)).trans ((ui_k (by omega)).trans ((ui_k (by omega)).trans ((ui_k (by omega)).trans ((ui_k (by omega)).trans ((ui_k (by omega)).trans (rfl))))))))))) (fun a j h => (ui_w (by omega)).trans ((ui_w (by omega)).trans ((ui_w (by omega)).trans ((ui_w (by omega)).trans ((ui_w (by omega)).trans ((ui_w (by omega)).trans ((ui_k (by omega)).trans ((ui_k (by omega)).trans ((ui_k (by omega)).trans ((ui_k (by omega)).trans (rfl))))))))))) ⟨(ui_k (by decide)).trans ((ui_k (by decide)).trans ((ui_k (by decide)).trans ((ui_k (by decide)).trans ((ui_k (by decide)).trans (ui_s))))), ?_, (ui_k (by decide)).trans ((ui_k (by decide)).trans ((ui_k (by decide)).trans (ui_s))), (ui_k (by decide)).trans ((ui_k (by decide)).trans (ui_s)), (ui_k (by decide)).trans (ui_s), ui_s⟩ ⟨(ui_k (by decide)).trans ((ui_k (by decide)).trans ((ui_k (by decide)).trans ((ui_k (by decide)).trans ((ui_k (by decide)).trans ((ui_k (by decide)).trans ((ui_k (by decide)).trans ((ui_k (by decide)).trans ((ui_k (by decide)).trans (ui_s))))))))), fun j h => (ui_k (by omega)).trans ((ui_k (by omega)).trans ((ui_k (by omega)).trans ((ui_k (by omega)).trans ((ui_k (by omega)).trans ((ui_k (by omega)).trans ((ui_k (by omega)).trans ((ui_k (by omega)).trans ((ui_k (by omega)).trans ((ui_w (by omega)).trans (rfl))))))))))⟩ ⟨(ui_k (by decide)).trans ((ui_k (by decide)).trans ((ui_k (by decide)).trans ((ui_k (by decide)).trans ((ui_k (by decide)).trans ((ui_k (by decide)).trans ((ui_k (by decide)).trans ((ui_k (by decide)).trans (ui_s)))))))), fun j h => (ui_k (by omega)).trans ((ui_k (by omega)).trans ((ui_k (by omega)).trans ((ui_k (by omega)).trans ((ui_k (by omega)).trans ((ui_k (by omega)).trans ((ui_k (by omega)).trans ((ui_k (by omega)).trans ((ui_w (by omega)).trans ((ui_k (by omega)).trans (rfl))))))))))⟩ ⟨(ui_k (by decide)).trans ((ui_k (by decide)).trans ((ui_k (by decide)).trans ((ui_k (by decide)).trans ((ui_k (by decide)).trans ((ui_k (by decide)).trans ((ui_k (by decide)).trans (ui_s))))))), fun j h => (ui_k (by omega)).trans ((ui_k (by omega)).trans ((ui_k (by omega)).trans ((ui_k (by omega)).trans ((ui_k (by omega)).trans ((ui_k (by omega)).trans ((ui_k (by omega)).trans ((ui_w (by omega)).trans ((ui_k (by omega)).trans ((ui_k (by omega)).trans (rfl))))))))))⟩ ⟨(ui_k (by decide)).trans ((ui_k (by decide)).trans ((ui_k (by decide)).trans ((ui_k (by decide)).trans ((ui_k (by decide)).trans ((ui_k (by decide)).trans (ui_s)))))), fun j h => (ui_k (by omega)).trans ((ui_k (by omega)).trans ((ui_k (by omega)).trans ((ui_k (by omega)).trans ((ui_k (by omega)).trans ((ui_k (by omega)).trans ((ui_w (by omega)).trans ((ui_k (by omega)).trans ((ui_k (by omega)).trans ((ui_k (by omega)).trans (rfl))))))))))⟩
  by_cases cc : A 51 t = A 40 t
  · rw [if_pos cc]
    exact Or.inl ((ui_k (by decide)).trans ((ui_k (by decide)).trans ((ui_k (by decide)).trans ((ui_k (by decide)).trans (ui_s)))))
  · rw [if_neg cc]
    exact Or.inr ((ui_k (by decide)).trans ((ui_k (by decide)).trans ((ui_k (by decide)).trans ((ui_k (by decide)).trans (ui_s)))))
/-- wrecks in the reference's rows -/
def wrk (A : Il) (t b : Int) : Il := fun a j => if a = 17 then (if 0 ≤ j ∧ j < A 6 0 ∧ A 17 j = t then -1 else A 17 j) else if j = t then (if a = 39 then 3 else if a = 41 then b else if a = 46 then A 47 t else A a j) else A a j
theorem wrk_o {t b j : Int} {a : Nat} (h : a ≠ 17 ∧ a ≠ 39 ∧ a ≠ 41 ∧ a ≠ 46) : wrk A t b a j = A a j := by
  show (if a = 17 then _ else if j = t then (if a = 39 then 3 else if a = 41 then b else if a = 46 then A 47 t else A a j) else A a j) = A a j
  rw [if_neg h.1, if_neg h.2.1, if_neg h.2.2.1, if_neg h.2.2.2]
  split <;> rfl
theorem wrk_com {t s b : Int} (h : t ≠ s) (ht : t ≠ -1) (hs : s ≠ -1) : wrk (wrk A t b) s b = wrk (wrk A s b) t b := by
  funext a j
  by_cases e17 : a = 17
  · subst e17
    have k : ∀ (A : Il) (t : Int), wrk A t b 17 j = if 0 ≤ j ∧ j < A 6 0 ∧ A 17 j = t then -1 else A 17 j := fun A t => rfl
    rw [k (wrk A t b) s, k (wrk A s b) t, wrk_o (a := 6) (by decide), wrk_o (a := 6) (by decide), k A t, k A s]
    by_cases c2 : 0 ≤ j ∧ j < A 6 0 ∧ A 17 j = t
    · have c3 : ¬ (0 ≤ j ∧ j < A 6 0 ∧ A 17 j = s) := fun w => h (c2.2.2.symm.trans w.2.2)
      rw [if_pos c2, if_neg c3, if_pos c2, ite_self]
    · by_cases c3 : 0 ≤ j ∧ j < A 6 0 ∧ A 17 j = s
      · rw [if_neg c2, if_pos c3, ite_self]
      · rw [if_neg c2, if_neg c3, if_neg c2]
  · have k : ∀ (A : Il) (t : Int), wrk A t b a j = if j = t then (if a = 39 then 3 else if a = 41 then b else if a = 46 then A 47 t else A a j) else A a j := fun A t => if_neg e17
    rw [k (wrk A t b) s, k (wrk A s b) t, wrk_o (a := 47) (by decide), wrk_o (a := 47) (by decide), k A t, k A s]
    by_cases c1 : j = s
    · subst c1
      have c2 : ¬ j = t := fun w => h w.symm
      rw [if_pos rfl, if_neg c2, if_neg c2, if_pos rfl]
    · rw [if_neg c1, if_neg c1]
theorem m_wrecks_go {t b : Int} {Q : Il → Prop} {N : Nat} (hN : A 6 0 = (N : Int)) (hN2 : N ≤ 16) (h : Q (wrk A t b)) : ∀ (k n : Nat) (A1 : Il), n + k = N → (∀ a j, A1 a j = if a = 17 then (if 0 ≤ j ∧ j < (n : Int) ∧ A 17 j = t then -1 else A 17 j) else wrk A t b a j) → W_X9_wrecks_28 (k + 1) t (n : Int) A1 Q
  | 0, n, A1, e, hA => by
    have eA : A1 = wrk A t b := by
      funext a j
      rw [hA]
      by_cases e17 : a = 17
      · rw [if_pos e17, e17]
        show _ = (if 0 ≤ j ∧ j < A 6 0 ∧ A 17 j = t then -1 else A 17 j)
        rw [hN, show (n : Int) = (N : Int) by omega]
      · rw [if_neg e17]
    subst eA
    refine br_T ?_ h
    rw [wrk_o (by decide)]
    omega
  | k + 1, n, A1, e, hA => by
    have e6 : A1 6 0 = A 6 0 := by
      rw [hA, if_neg (by decide), wrk_o (by decide)]
    have e17 : A1 17 (n : Int) = A 17 (n : Int) := by
      rw [hA, if_pos rfl, if_neg (fun w => by omega)]
    have go : ∀ z : Int, (z = if A 17 (n : Int) = t then -1 else A 17 (n : Int)) → W_X9_wrecks_28 (k + 1) t ((n + 1 : Nat) : Int) (ui A1 17 (n : Int) z) Q := fun z hz => by
      refine m_wrecks_go hN hN2 h k (n + 1) _ (by omega) (fun a j => ?_)
      show (if a = 17 ∧ j = (n : Int) then z else A1 a j) = _
      rw [hA]
      by_cases ea : a = 17
      · rw [if_pos ea, if_pos ea]
        by_cases ej : j = (n : Int)
        · rw [if_pos ⟨ea, ej⟩, hz, ej]
          by_cases c1 : A 17 (n : Int) = t
          · rw [if_pos c1, if_pos ⟨by omega, by omega, c1⟩]
          · rw [if_neg c1, if_neg (fun w => c1 w.2.2)]
        · rw [if_neg (fun w => ej w.2)]
          by_cases c1 : 0 ≤ j ∧ j < (n : Int) ∧ A 17 j = t
          · rw [if_pos c1, if_pos ⟨c1.1, by omega, c1.2.2⟩]
          · rw [if_neg c1, if_neg (fun w => c1 ⟨w.1, by omega, w.2.2⟩)]
      · rw [if_neg ea, if_neg ea, if_neg (fun w => ea w.1)]
    refine br_F (by rw [e6]; omega) ⟨by omega, by omega, ?_⟩
    rw [e17]
    refine ⟨fun c1 => ⟨by omega, by omega, by omega, by omega, ?_⟩, fun c1 => ⟨by omega, by omega, ?_⟩⟩
    · rw [w32_up (by omega)]
      exact go _ (if_neg c1).symm
    · rw [w32_up (by omega)]
      exact go _ (if_pos c1).symm
theorem m_wrecks {t b : Int} {Q : Il → Prop} (h0 : 0 ≤ t) (h1 : t < 6) (h6 : 0 ≤ A 6 0 ∧ A 6 0 ≤ 16) (h : Q (wrk A t b)) : W_X9_wrecks t b A Q := by
  obtain ⟨N, hN⟩ := Int.eq_ofNat_of_zero_le h6.1
  refine ⟨h0, h1, h0, h1, h0, h1, h0, h1, N + 1, m_wrecks_go (A := A) (b := b) hN (by omega) h N 0 _ (Nat.zero_add _) (fun a j => ?_)⟩
  have e47 : (ui (ui A 39 t 3) 41 t b) 47 t = A 47 t := rfl
  by_cases e17 : a = 17
  · rw [if_pos e17, e17, if_neg (fun w => by omega)]
    rfl
  · rw [if_neg e17, e47]
    show (if a = 46 ∧ j = t then A 47 t else if a = 41 ∧ j = t then b else if a = 39 ∧ j = t then 3 else A a j) = (if a = 17 then (if 0 ≤ j ∧ j < A 6 0 ∧ A 17 j = t then -1 else A 17 j) else if j = t then (if a = 39 then 3 else if a = 41 then b else if a = 46 then A 47 t else A a j) else A a j)
    rw [if_neg e17]
    by_cases ej : j = t
    · rw [if_pos ej]
      by_cases e39 : a = 39
      · rw [if_pos e39, if_neg (fun w => by omega), if_neg (fun w => by omega), if_pos ⟨e39, ej⟩]
      · rw [if_neg e39]
        by_cases e41 : a = 41
        · rw [if_pos e41, if_neg (fun w => by omega), if_pos ⟨e41, ej⟩]
        · rw [if_neg e41]
          by_cases e46 : a = 46
          · rw [if_pos e46, if_pos ⟨e46, ej⟩]
          · rw [if_neg e46, if_neg (fun w => e46 w.1), if_neg (fun w => e41 w.1), if_neg (fun w => e39 w.1)]
    · rw [if_neg ej, if_neg (fun w => ej w.2), if_neg (fun w => ej w.2), if_neg (fun w => ej w.2)]
end Pass
