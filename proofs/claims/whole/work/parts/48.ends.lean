/-! a train's end -/
section Ends
variable {c LN : Nat → Nat} {B : Fl} {E : El} {A : Il}
theorem m_holds_one {t : Int} {Q : Int → Prop} {N : Nat} (hN : A 6 0 = (N : Int)) (hN2 : N ≤ 16) (h : Q 1) : ∀ k n : Nat, n + k = N → W_X9_holds_4 (k + 1) t 1 (n : Int) A Q
  | 0, n, e => br_T (by omega) ⟨Or.inr rfl, h⟩
  | k + 1, n, e => by
    refine br_F (by omega) (bn_F (by decide) ?_)
    show W_X9_holds_4 (k + 1) t 1 (w32 ((n : Int) + 1)) A Q
    rw [w32_up (by omega)]
    exact m_holds_one hN hN2 h k (n + 1) (by omega)
theorem m_holds_go {t : Int} {Q : Int → Prop} {N : Nat} (hN : A 6 0 = (N : Int)) (hN2 : N ≤ 16) : ∀ k n : Nat, n + k = N → ((∀ j : Int, (n : Int) ≤ j → j < A 6 0 → A 17 j ≠ t) → Q 0) → ((∃ j : Int, (n : Int) ≤ j ∧ j < A 6 0 ∧ A 17 j = t) → Q 1) → W_X9_holds_4 (k + 1) t 0 (n : Int) A Q
  | 0, n, e, h0, h1 => br_T (by omega) ⟨Or.inl rfl, h0 (fun j j0 j1 => by omega)⟩
  | k + 1, n, e, h0, h1 => by
    refine br_F (by omega) (bn_T rfl ⟨by omega, by omega, ?_⟩)
    by_cases c1 : A 17 (n : Int) = t
    · refine bn_T c1 ?_
      show W_X9_holds_4 (k + 1) t 1 (w32 ((n : Int) + 1)) A Q
      rw [w32_up (by omega)]
      exact m_holds_one hN hN2 (h1 ⟨(n : Int), Int.le_refl _, by omega, c1⟩) k (n + 1) (by omega)
    · refine bn_F c1 ?_
      show W_X9_holds_4 (k + 1) t 0 (w32 ((n : Int) + 1)) A Q
      rw [w32_up (by omega)]
      refine m_holds_go hN hN2 k (n + 1) (by omega) (fun w => h0 (fun j j0 j1 => ?_)) (fun w => h1 ?_)
      · by_cases ej : j = (n : Int)
        · rw [ej]; exact c1
        · exact w j (by omega) j1
      · obtain ⟨j, j0, j1, j2⟩ := w
        exact ⟨j, by omega, j1, j2⟩
theorem m_holds {t : Int} {Q : Int → Prop} (h6 : 0 ≤ A 6 0 ∧ A 6 0 ≤ 16) (h0 : (∀ j : Int, 0 ≤ j → j < A 6 0 → A 17 j ≠ t) → Q 0) (h1 : (∃ j : Int, 0 ≤ j ∧ j < A 6 0 ∧ A 17 j = t) → Q 1) : W_X9_holds t A Q := ⟨(A 6 0).toNat + 1, m_holds_go (N := (A 6 0).toNat) (by omega) (by omega) _ 0 (Nat.zero_add _) h0 h1⟩
theorem q_clear_go {v : Nat} {m : Int} {Q : Int → Prop} (hk : kd c v = 8) (hk2 : kd c (v + 30) = 20) (hl : ((ln (v + 30) : Nat) : Int) = 16) : ∀ k n : Nat, n + k = 16 → ((∀ j : Int, (n : Int) ≤ j → j < 16 → E (.inl (v + 30)) j ≤ m) → Q 1) → ((∃ j : Int, (n : Int) ≤ j ∧ j < 16 ∧ ¬ E (.inl (v + 30)) j ≤ m) → Q 0) → W_X7_isClearAt_2 c LN (k + 1) v m (n : Int) B E Q
  | 0, n, e, h0, h1 => ⟨hk, hk2, br_T (by omega) (h0 (fun j j0 j1 => by omega))⟩
  | k + 1, n, e, h0, h1 => by
    refine ⟨hk, hk2, br_F (by omega) ⟨by omega, by omega, ?_⟩⟩
    by_cases c1 : E (.inl (v + 30)) (n : Int) ≤ m
    · refine br_T c1 ?_
      rw [w32_up (by omega)]
      refine q_clear_go hk hk2 hl k (n + 1) (by omega) (fun w => h0 (fun j j0 j1 => ?_)) (fun w => h1 ?_)
      · by_cases ej : j = (n : Int)
        · rw [ej]; exact c1
        · exact w j (by omega) j1
      · obtain ⟨j, j0, j1, j2⟩ := w
        exact ⟨j, by omega, j1, j2⟩
    · exact br_F c1 (h1 ⟨(n : Int), Int.le_refl _, by omega, c1⟩)
/-- a standing train is clear of all blocks just when it holds none -/
theorem q_clear {t : Int} {Q : Int → Prop} (hR : Rep c LN B E A) (h0 : 0 ≤ t) (h1 : t < 6) (h36 : A 36 t = 1) (hs : A 39 t = 0 ∨ A 39 t = 1) (hq1 : (∀ j : Int, 0 ≤ j → j < A 6 0 → A 17 j ≠ t) → Q 1) (hq0 : (∃ j : Int, 0 ≤ j ∧ j < A 6 0 ∧ A 17 j = t) → Q 0) : W_X7_isClearAt c LN (40 + t.toNat) (B 912 0) B E Q := by
  obtain ⟨gG, gS, gB, g0, gH, gE, gC, gN, gK, gL, gR, gD, gY, gU, gW, gP, gT, gX, gZ⟩ := id hR
  obtain ⟨⟨b1, b2, b3⟩, -⟩ := id gB
  have e1 := gG.1
  obtain ⟨t1, t2, t3, t4, t5⟩ := gT t h0 h1
  obtain ⟨y1, y2, y3, y4, y5, y6, y7, y8, y9, y10, y11, y12, y13, y14, y15, y16, y17, y18, y19, y20, y21, y22, y23, y24, y25, y26, y27, y28, y29, y30, y31, y32, y33, y34, y35, y36⟩ := t5 h36
  clear t5
  have e70 : 40 + t.toNat + 30 = 70 + t.toNat := by omega
  have hd : ∀ j : Int, 0 ≤ j → j < 16 → (¬ E (.inl (70 + t.toNat)) j ≤ A 1 0 ↔ j < A 6 0 ∧ A 17 j = t) := fun j j0 j1 => by
    have r := y36 j j0 j1
    by_cases e : j < A 6 0 ∧ A 17 j = t
    · rw [if_pos ⟨e.1, e.2, fun w => by omega⟩] at r
      obtain ⟨k1, k2, k3, k4⟩ := gH j j0 e.1
      have w := k2 (by omega)
      by_cases cc : A 1 0 < B 212 (100 + j.toNat)
      · exact ⟨fun _ => e, fun _ => by omega⟩
      · rw [if_neg cc] at k1
        omega
    · rw [if_neg (fun w => e ⟨w.1, w.2.1⟩)] at r
      have r' := r (fun w3 => by rcases hs with h | h <;> rw [h] at w3 <;> exact absurd w3 (by decide))
      exact ⟨fun n => absurd r' n, fun w => absurd w e⟩
  refine ⟨17, q_clear_go (kdtr (by omega) (by omega)) (kdcl (by omega) (by omega)) (by rw [e70, ln16 (by omega)]; rfl) 16 0 rfl (fun w => hq1 (fun j j0 j1 e => ?_)) (fun w => hq0 ?_)⟩
  · have w2 := w j j0 (by omega)
    rw [e70, e1] at w2
    exact (hd j j0 (by omega)).2 ⟨j1, e⟩ w2
  · obtain ⟨j, j0, j1, j2⟩ := w
    rw [e70, e1] at j2
    have j3 := (hd j j0 j1).1 j2
    exact ⟨j, j0, j3.1, j3.2⟩
theorem dis_zz {a0 : Int} (h36 : A 36 a0 = 1) (h44 : A 44 a0 = 0) : ∀ q : Int, (if (ui (ui (ui (ui (ui (sc A 0 0) 36 a0 0) 22 (A 37 a0) (-1)) 21 (A 37 a0) (A 40 a0)) 25 (A 38 a0) (-1)) 24 (A 38 a0) (A 40 a0)) 36 q = 1 then (ui (ui (ui (ui (ui (sc A 0 0) 36 a0 0) 22 (A 37 a0) (-1)) 21 (A 37 a0) (A 40 a0)) 25 (A 38 a0) (-1)) 24 (A 38 a0) (A 40 a0)) 44 q else 0) = (if A 36 q = 1 then A 44 q else 0) := fun q => by
  by_cases eq : q = a0
  · have s6 : (ui (ui (ui (ui (ui (sc A 0 0) 36 a0 0) 22 (A 37 a0) (-1)) 21 (A 37 a0) (A 40 a0)) 25 (A 38 a0) (-1)) 24 (A 38 a0) (A 40 a0)) 36 a0 = 0 := ui_s
    rw [eq, s6, if_neg (by decide), if_pos h36, h44]
  · have s6 : (ui (ui (ui (ui (ui (sc A 0 0) 36 a0 0) 22 (A 37 a0) (-1)) 21 (A 37 a0) (A 40 a0)) 25 (A 38 a0) (-1)) 24 (A 38 a0) (A 40 a0)) 36 q = A 36 q := ui_j eq
    rw [s6]
    rfl
set_option maxHeartbeats 4000000 in
theorem dis_rep {a0 : Int} (hR : Rep c LN B E A) (h1a : 0 ≤ a0) (h1b : a0 < 6) (h36 : A 36 a0 = 1) (h44 : A 44 a0 = 0) (y5 : 0 ≤ A 37 a0) (y6 : A 37 a0 < A 19 0) (y7 : A 22 (A 37 a0) = a0) (y9 : 0 ≤ A 38 a0) (y10 : A 38 a0 < A 23 0) (y11 : A 25 (A 38 a0) = a0) (y14 : 0 ≤ A 40 a0) (y15 : A 40 a0 < 8) (nh : ∀ j : Int, 0 ≤ j → j < A 6 0 → A 17 j ≠ a0) : Rep c LN (u2 (u2 (u2 (u2 (u2 B 502 (120 + (A 37 a0).toNat) (-1)) 501 (120 + (A 37 a0).toNat) (A 40 a0)) 401 (130 + (A 38 a0).toNat) (-1)) 400 (130 + (A 38 a0).toNat) (A 40 a0)) 801 (40 + a0.toNat) (-1)) E (ui (ui (ui (ui (ui (sc A 0 0) 36 a0 0) 22 (A 37 a0) (-1)) 21 (A 37 a0) (A 40 a0)) 25 (A 38 a0) (-1)) 24 (A 38 a0) (A 40 a0)) := by
  obtain ⟨gG, gS, gB, g0, gH, gE, gC, gN, gK, gL, gR, gD, gY, gU, gW, gP, gT, gX, gZ⟩ := id hR
  obtain ⟨⟨e1, e2, e3⟩, e4, e5, e6, e7⟩ := id gE
  obtain ⟨⟨c1, c2, c3⟩, c4, c5, c6, c7, c8, c8z⟩ := id gC
  obtain ⟨t1, t2, -⟩ := gT a0 h1a h1b
  have q6 : ∀ q : Int, q ≠ a0 → (ui (ui (ui (ui (ui (sc A 0 0) 36 a0 0) 22 (A 37 a0) (-1)) 21 (A 37 a0) (A 40 a0)) 25 (A 38 a0) (-1)) 24 (A 38 a0) (A 40 a0)) 36 q = A 36 q := fun q hq => ui_j hq
  have s6 : (ui (ui (ui (ui (ui (sc A 0 0) 36 a0 0) 22 (A 37 a0) (-1)) 21 (A 37 a0) (A 40 a0)) 25 (A 38 a0) (-1)) 24 (A 38 a0) (A 40 a0)) 36 a0 = 0 := ui_s
  have zz := dis_zz (A := A) (a0 := a0) h36 h44
  refine ⟨gG.fr (fun k v h => (u2_k (by omega)).trans ((u2_k (by omega)).trans ((u2_k (by omega)).trans ((u2_k (by omega)).trans ((u2_k (by omega)).trans (rfl)))))) (fun a j h => (ui_k (by omega)).trans ((ui_k (by omega)).trans ((ui_k (by omega)).trans ((ui_k (by omega)).trans ((ui_k (by omega)).trans ((sc_k (by omega)).trans (rfl))))))), gS.fr (fun k v h => (u2_k (by omega)).trans ((u2_k (by omega)).trans ((u2_k (by omega)).trans ((u2_k (by omega)).trans ((u2_k (by omega)).trans (rfl)))))) (fun a j h => (ui_k (by omega)).trans ((ui_k (by omega)).trans ((ui_k (by omega)).trans ((ui_k (by omega)).trans ((ui_k (by omega)).trans ((sc_k (by omega)).trans (rfl))))))), gB.fr (fun k v h => (u2_k (by omega)).trans ((u2_k (by omega)).trans ((u2_k (by omega)).trans ((u2_k (by omega)).trans ((u2_k (by omega)).trans (rfl)))))) (fun a j h => (ui_k (by omega)).trans ((ui_k (by omega)).trans ((ui_k (by omega)).trans ((ui_k (by omega)).trans ((ui_k (by omega)).trans ((sc_k (by omega)).trans (rfl))))))), g0.fr (fun a j h => (ui_k (by omega)).trans ((ui_k (by omega)).trans ((ui_k (by omega)).trans ((ui_k (by omega)).trans ((ui_k (by omega)).trans ((sc_k (by omega)).trans (rfl))))))), gH.fr (fun k v h => (u2_k (by omega)).trans ((u2_k (by omega)).trans ((u2_k (by omega)).trans ((u2_k (by omega)).trans ((u2_k (by omega)).trans (rfl)))))) (fun a j h => (ui_k (by omega)).trans ((ui_k (by omega)).trans ((ui_k (by omega)).trans ((ui_k (by omega)).trans ((ui_k (by omega)).trans ((sc_k (by omega)).trans (rfl))))))), ⟨⟨e1, (u2_k (by decide)).trans ((u2_k (by decide)).trans ((u2_k (by decide)).trans ((u2_k (by decide)).trans ((u2_k (by decide)).trans (e2))))), e3⟩, (eqF.oB (by decide) (eqF.oB (by decide) (eqF.oB (by decide) (eqF.oB (by decide) (eqF.oB (by decide) (eqF.oA (by decide) (eqF.oA (by decide) (eqF.oA (by decide) (eqF.oA (by decide) (eqF.oA (by decide) (eqF.oS (by decide) e4))))))))))), (eqF.oB (by decide) (eqF.oB (by decide) (eqF.oB (by decide) (eqF.oA (by decide) (eqF.oA (by decide) (eqF.set y5 (eqF.oB (by decide) (eqF.oA (by decide) (eqF.oA (by decide) (eqF.oS (by decide) e5)))))))))), (eqF.oB (by decide) (eqF.oB (by decide) (eqF.oB (by decide) (eqF.oB (by decide) (eqF.oA (by decide) (eqF.oA (by decide) (eqF.oA (by decide) (eqF.set y5 (eqF.oA (by decide) (eqF.oS (by decide) e6)))))))))), fun j j0 j1 => ?_⟩, ⟨⟨c1, (u2_k (by decide)).trans ((u2_k (by decide)).trans ((u2_k (by decide)).trans ((u2_k (by decide)).trans ((u2_k (by decide)).trans (c2))))), c3⟩, (eqF.oB (by decide) (eqF.set y9 (eqF.oB (by decide) (eqF.oB (by decide) (eqF.oB (by decide) (eqF.oA (by decide) (eqF.oA (by decide) (eqF.oA (by decide) (eqF.oA (by decide) (eqF.oS (by decide) c4)))))))))), (eqF.oB (by decide) (eqF.oB (by decide) (eqF.oA (by decide) (eqF.set y9 (eqF.oB (by decide) (eqF.oB (by decide) (eqF.oA (by decide) (eqF.oA (by decide) (eqF.oA (by decide) (eqF.oS (by decide) c5)))))))))), (eqF.oB (by decide) (eqF.oB (by decide) (eqF.oB (by decide) (eqF.oB (by decide) (eqF.oB (by decide) (eqF.oA (by decide) (eqF.oA (by decide) (eqF.oA (by decide) (eqF.oA (by decide) (eqF.oA (by decide) (eqF.oS (by decide) c6))))))))))), (eqF.oB (by decide) (eqF.oB (by decide) (eqF.oB (by decide) (eqF.oB (by decide) (eqF.oB (by decide) (eqF.oA (by decide) (eqF.oA (by decide) (eqF.oA (by decide) (eqF.oA (by decide) (eqF.oA (by decide) (eqF.oS (by decide) c7))))))))))), fun j j0 j1 => ?_, c8z⟩, gN.fr (fun k v h => (u2_k (by omega)).trans ((u2_k (by omega)).trans ((u2_k (by omega)).trans ((u2_k (by omega)).trans ((u2_k (by omega)).trans (rfl)))))) (fun a j h => (ui_k (by omega)).trans ((ui_k (by omega)).trans ((ui_k (by omega)).trans ((ui_k (by omega)).trans ((ui_k (by omega)).trans ((sc_k (by omega)).trans (rfl))))))), gK.fr (fun k v h => (u2_k (by omega)).trans ((u2_k (by omega)).trans ((u2_k (by omega)).trans ((u2_k (by omega)).trans ((u2_k (by omega)).trans (rfl)))))) (fun a j h => (ui_k (by omega)).trans ((ui_k (by omega)).trans ((ui_k (by omega)).trans ((ui_k (by omega)).trans ((ui_k (by omega)).trans ((sc_k (by omega)).trans (rfl))))))), gL.fr (fun k v h => (u2_k (by omega)).trans ((u2_k (by omega)).trans ((u2_k (by omega)).trans ((u2_k (by omega)).trans ((u2_k (by omega)).trans (rfl)))))) (fun a j h => (ui_k (by omega)).trans ((ui_k (by omega)).trans ((ui_k (by omega)).trans ((ui_k (by omega)).trans ((ui_k (by omega)).trans ((sc_k (by omega)).trans (rfl))))))), gR.fr (fun _ => rfl) (fun _ => rfl) (fun a j h => (ui_k (by omega)).trans ((ui_k (by omega)).trans ((ui_k (by omega)).trans ((ui_k (by omega)).trans ((ui_k (by omega)).trans ((sc_k (by omega)).trans (rfl))))))), gD.fr (fun k v h => (u2_k (by omega)).trans ((u2_k (by omega)).trans ((u2_k (by omega)).trans ((u2_k (by omega)).trans ((u2_k (by omega)).trans (rfl)))))) (fun _ _ => rfl) (fun a j h => (ui_k (by omega)).trans ((ui_k (by omega)).trans ((ui_k (by omega)).trans ((ui_k (by omega)).trans ((ui_k (by omega)).trans ((sc_k (by omega)).trans (rfl))))))), gY.fr (fun k v h => (u2_k (by omega)).trans ((u2_k (by omega)).trans ((u2_k (by omega)).trans ((u2_k (by omega)).trans ((u2_k (by omega)).trans (rfl)))))) (fun _ _ => rfl) (fun a j h => (ui_k (by omega)).trans ((ui_k (by omega)).trans ((ui_k (by omega)).trans ((ui_k (by omega)).trans ((ui_k (by omega)).trans ((sc_k (by omega)).trans (rfl))))))), fun t h0 hh1 => ⟨(gU t h0 hh1).1, fun e => ?_⟩, fun k k0 k1 => ⟨(gW k k0 k1).1, fun n => ?_⟩, gP.fr (fun k v h => (u2_k (by omega)).trans ((u2_k (by omega)).trans ((u2_k (by omega)).trans ((u2_k (by omega)).trans ((u2_k (by omega)).trans (rfl)))))) (fun _ _ => rfl) (fun a j h => (ui_k (by omega)).trans ((ui_k (by omega)).trans ((ui_k (by omega)).trans ((ui_k (by omega)).trans ((ui_k (by omega)).trans ((sc_k (by omega)).trans (rfl))))))), fun t h0 hh1 => ?_, ⟨fun j j0 j1 n => ?_, fun j j0 j1 n => ?_, fun j j0 j1 n => ?_⟩, ?_⟩
  · obtain ⟨w1, w2, w3, w4, w5, w6⟩ := e7 j j0 j1
    refine ⟨w1, w2, ?_⟩
    show 0 ≤ ui (sc A 0 0) 21 (A 37 a0) (A 40 a0) 21 j ∧ ui (sc A 0 0) 21 (A 37 a0) (A 40 a0) 21 j < 8 ∧ -1 ≤ ui (sc A 0 0) 22 (A 37 a0) (-1) 22 j ∧ ui (sc A 0 0) 22 (A 37 a0) (-1) 22 j < 6
    by_cases ej : j = A 37 a0
    · rw [ej, ui_s, ui_s]; omega
    · rw [ui_j ej, ui_j ej]; exact ⟨w3, w4, w5, w6⟩
  · obtain ⟨w1, w2, w3, w4, w5⟩ := c8 j j0 j1
    show 0 ≤ ui (sc A 0 0) 24 (A 38 a0) (A 40 a0) 24 j ∧ ui (sc A 0 0) 24 (A 38 a0) (A 40 a0) 24 j < 8 ∧ -1 ≤ ui (sc A 0 0) 25 (A 38 a0) (-1) 25 j ∧ ui (sc A 0 0) 25 (A 38 a0) (-1) 25 j < 6 ∧ _
    by_cases ej : j = A 38 a0
    · rw [ej, ui_s, ui_s]; exact ⟨y14, y15, by decide, by decide, by rw [← ej]; exact w5⟩
    · rw [ui_j ej, ui_j ej]; exact ⟨w1, w2, w3, w4, w5⟩
  · by_cases et : t = a0
    · rw [et, s6] at e; exact absurd e (by decide)
    · rw [q6 t et] at e; exact (gU t h0 hh1).2 e
  · obtain ⟨g1, p, p0, p1, p2⟩ := (gW k k0 k1).2 n
    have ne : A 32 k ≠ a0 := fun w => by rw [w] at p1; omega
    exact ⟨(q6 _ ne).trans g1, p, p0, p1, p2⟩
  · by_cases et : t = a0
    · rw [et]; exact ⟨t1, t2, Or.inl s6, fun _ => u2_s, fun e => absurd (s6.symm.trans e) (by decide)⟩
    · obtain ⟨v1, v2, v3, v4, v5⟩ := gT t h0 hh1
      have nv : 40 + t.toNat ≠ 40 + a0.toNat := by omega
      refine ⟨v1, v2, by rw [q6 t et]; exact v3, fun e => (u2_v nv).trans (v4 ((q6 t et).symm.trans e)), fun e => ?_⟩
      have yy := y7
      have yz := y11
      obtain ⟨y1, y2, y3, y4, y5, y6, y7, y8, y9, y10, y11, y12, y13, y14, y15, y16, y17, y18, y19, y20, y21, y22, y23, y24, y25, y26, y27, y28, y29, y30, y31, y32, y33, y34, y35, y36⟩ := v5 ((q6 t et).symm.trans e)
      have ne1 : A 37 t ≠ A 37 a0 := fun w => et (y7.symm.trans ((congrArg (A 22) w).trans yy))
      have ne2 : A 38 t ≠ A 38 a0 := fun w => et (y11.symm.trans ((congrArg (A 25) w).trans yz))
      exact ⟨(u2_v nv).trans y1, y2, y3, y4, y5, y6, (ui_j ne1).trans y7, y8, y9, y10, (ui_j ne2).trans y11, y12, y13, y14, y15, y16, y17, y18, y19, y20, y21.trans (wgt_fr (A := A) (A' := ui (ui (ui (ui (ui (sc A 0 0) 36 a0 0) 22 (A 37 a0) (-1)) 21 (A 37 a0) (A 40 a0)) 25 (A 38 a0) (-1)) 24 (A 38 a0) (A 40 a0)) (fun _ => rfl) (fun _ => rfl) t _).symm, y22, y23, y24, y25, y26, y27, fun n3 => ⟨(y28 n3).1, (y28 n3).2.1, (y28 n3).2.2.1, fun m hm ew => (y28 n3).2.2.2 m hm ((wend_fr (A := A) (A' := ui (ui (ui (ui (ui (sc A 0 0) 36 a0 0) 22 (A 37 a0) (-1)) 21 (A 37 a0) (A 40 a0)) 25 (A 38 a0) (-1)) 24 (A 38 a0) (A 40 a0)) (fun _ => rfl) (fun _ => rfl) t m _ _).symm.trans ew)⟩, y29, y30, y31, y32, y33, y34, y35, y36⟩
  · by_cases ej : j = A 37 a0
    · rw [ej] at n; exact absurd ui_s n
    · have n2 : A 22 j ≠ -1 := fun w => n ((ui_j ej).trans w)
      have e22 : (ui (ui (ui (ui (ui (sc A 0 0) 36 a0 0) 22 (A 37 a0) (-1)) 21 (A 37 a0) (A 40 a0)) 25 (A 38 a0) (-1)) 24 (A 38 a0) (A 40 a0)) 22 j = A 22 j := ui_j ej
      obtain ⟨g1, g2⟩ := gX.1 j j0 j1 n2
      rw [e22]
      exact ⟨(q6 _ (fun w => by rw [w] at g2; exact ej g2.symm)).trans g1, g2⟩
  · by_cases ej : j = A 38 a0
    · rw [ej] at n; exact absurd ui_s n
    · have n2 : A 25 j ≠ -1 := fun w => n ((ui_j ej).trans w)
      have e22 : (ui (ui (ui (ui (ui (sc A 0 0) 36 a0 0) 22 (A 37 a0) (-1)) 21 (A 37 a0) (A 40 a0)) 25 (A 38 a0) (-1)) 24 (A 38 a0) (A 40 a0)) 25 j = A 25 j := ui_j ej
      obtain ⟨g1, g2⟩ := gX.2.1 j j0 j1 n2
      rw [e22]
      exact ⟨(q6 _ (fun w => by rw [w] at g2; exact ej g2.symm)).trans g1, g2⟩
  · obtain ⟨g1, g2⟩ := gX.2.2 j j0 j1 n
    exact ⟨(q6 _ (nh j j0 j1)).trans g1, g2⟩
  · unfold RepZ
    simp only [zz]
    exact gZ
set_option maxHeartbeats 4000000 in
theorem sim_dissolve {a0 : Int} (hR : Rep c LN B E A) (hp : pz A ≤ 1022) (hr0 : rg a0) : ∃ (ans : Int) (A' : Il), (∀ Q, Q ans A' → W_X9_dissolve a0 A Q) ∧ pz A' ≤ pz A + 2 ∧ W_X8_dissolve c LN 0 a0 B E (fun z B' E' => A' 0 0 = 0 ∧ z = ans ∧ Rep c LN B' E' A') (fun X9 B' E' => ((X9 = "java/lang/IndexOutOfBoundsException" ∧ A' 0 0 = 1) ∨ (X9 = "java/lang/IllegalStateException" ∧ A' 0 0 = 2)) ∧ Rep c LN B' E' A') := by
  obtain ⟨gG, gS, gB, g0, gH, gE, gC, gN, gK, gL, gR, gD, gY, gU, gW, gP, gT, gX, gZ⟩ := id hR
  obtain ⟨⟨b1, b2, b3⟩, -⟩ := id gB
  obtain ⟨⟨e1, e2, e3⟩, e4, e5, e6, e7⟩ := id gE
  obtain ⟨⟨c1, c2, c3⟩, c4, c5, c6, c7, c8, c8z⟩ := id gC
  have h6 : 0 ≤ A 6 0 ∧ A 6 0 ≤ 16 := by omega
  by_cases h1 : 0 ≤ a0 ∧ a0 < 6 ∧ ¬ A 36 a0 = 0
  · have hk := kdtr (c := c) (v := 40 + a0.toNat) (by omega) (by omega)
    obtain ⟨t1, t2, t3, t4, t5⟩ := gT a0 h1.1 h1.2.1
    have h36 : A 36 a0 = 1 := by omega
    obtain ⟨y1, y2, y3, y4, y5, y6, y7, y8, y9, y10, y11, y12, y13, y14, y15, y16, y17, y18, y19, y20, y21, y22, y23, y24, y25, y26, y27, y28, y29, y30, y31, y32, y33, y34, y35, y36⟩ := t5 h36
    clear t5
    by_cases hs : A 39 a0 = 0 ∨ A 39 a0 = 1
    · have r44 : B 601 (40 + a0.toNat + 10) = A 44 a0 := (congrArg (B 601) (show 40 + a0.toNat + 10 = 50 + a0.toNat by omega)).trans ((gU a0 h1.1 h1.2.1).2 h36).1.1
      by_cases h44 : 0 < A 44 a0
      · exact ⟨0, sc A 0 2, fun Q hQ => m_isTrain1 h1 (bn_F (by decide) (m_stands ⟨h1.1, h1.2.1⟩ (by rw [if_pos hs]; exact br_F (by decide) ⟨h1.1, h1.2.1, br_T h44 (by unfold W_X9_dissolve_38 W_X9_dissolve_43; exact br_F no2 hQ)⟩))), pz_thr, rfl, q_trainOf1 gT h1 ⟨hk, q_X7stands gT h1.1 h1.2.1 h36 (by rw [if_pos hs]; exact br_F (by decide) ⟨kdtc (by omega) (by omega), bn_F (by rw [r44]; omega) (by unfold W_X8_dissolve_38 W_X8_dissolve_39; exact q_state0 ⟨Or.inr ⟨rfl, rfl⟩, hR.thr⟩)⟩)⟩⟩
      · by_cases hh : ∃ j : Int, 0 ≤ j ∧ j < A 6 0 ∧ A 17 j = a0
        · exact ⟨0, sc A 0 2, fun Q hQ => m_isTrain1 h1 (bn_F (by decide) (m_stands ⟨h1.1, h1.2.1⟩ (by rw [if_pos hs]; exact br_F (by decide) ⟨h1.1, h1.2.1, br_F h44 (m_holds h6 (fun w => absurd hh (fun ⟨j, j0, j1, j2⟩ => w j j0 j1 j2)) (fun _ => br_F (by decide) (by unfold W_X9_dissolve_38 W_X9_dissolve_43; exact br_F no2 hQ)))⟩))), pz_thr, rfl, q_trainOf1 gT h1 ⟨hk, q_X7stands gT h1.1 h1.2.1 h36 (by rw [if_pos hs]; exact br_F (by decide) ⟨kdtc (by omega) (by omega), bn_T (by rw [r44]; omega) (q_clear hR h1.1 h1.2.1 h36 hs (fun w => absurd hh (fun ⟨j, j0, j1, j2⟩ => w j j0 j1 j2)) (fun _ => br_T rfl (by unfold W_X8_dissolve_38 W_X8_dissolve_39; exact q_state0 ⟨Or.inr ⟨rfl, rfl⟩, hR.thr⟩)))⟩)⟩⟩
        · have nh : ∀ j : Int, 0 ≤ j → j < A 6 0 → A 17 j ≠ a0 := fun j j0 j1 j2 => hh ⟨j, j0, j1, j2⟩
          have r805 : B 805 (40 + a0.toNat) = A 40 a0 := y13.trans (if_neg (by omega))
          have zz := dis_zz (A := A) (a0 := a0) h36 (by omega)
          refine ⟨A 40 a0, ui (ui (ui (ui (ui (sc A 0 0) 36 a0 0) 22 (A 37 a0) (-1)) 21 (A 37 a0) (A 40 a0)) 25 (A 38 a0) (-1)) 24 (A 38 a0) (A 40 a0), fun Q hQ => m_isTrain1 h1 (bn_F (by decide) (m_stands ⟨h1.1, h1.2.1⟩ ?_)), ?_, rfl, q_trainOf1 gT h1 ⟨hk, q_X7stands gT h1.1 h1.2.1 h36 ?_⟩⟩
          · rw [if_pos hs]
            refine br_F (by decide) ⟨h1.1, h1.2.1, br_F h44 (m_holds h6 (fun _ => br_T rfl ?_) (fun w => absurd w hh))⟩
            unfold W_X9_dissolve_43
            exact br_T le0 ⟨h1.1, h1.2.1, h1.1, h1.2.1, h1.1, h1.2.1, y5, (by show A 37 a0 < 6; omega), h1.1, h1.2.1, y5, (by show A 37 a0 < 6; omega), h1.1, h1.2.1, y9, (by show A 38 a0 < 6; omega), h1.1, h1.2.1, y9, (by show A 38 a0 < 6; omega), h1.1, h1.2.1, hQ⟩
          · unfold pz
            have z9 : ∀ q : Int, tz (ui (ui (ui (ui (ui (sc A 0 0) 36 a0 0) 22 (A 37 a0) (-1)) 21 (A 37 a0) (A 40 a0)) 25 (A 38 a0) (-1)) 24 (A 38 a0) (A 40 a0)) q = tz A q := zz
            simp only [z9]
            show A 60 0 + _ ≤ _
            omega
          · rw [if_pos hs]
            refine br_F (by decide) ⟨kdtc (by omega) (by omega), bn_T (by rw [r44]; omega) (q_clear hR h1.1 h1.2.1 h36 hs (fun _ => br_F (by decide) ?_) (fun w => absurd w hh))⟩
            unfold W_X8_dissolve_39
            refine q_state1 ⟨hk, rfl, ?_⟩
            rw [r805]
            refine ⟨hk, rfl, ?_⟩
            rw [y4]
            have ke := kd9 (c := c) (v := 120 + (A 37 a0).toNat) (by omega) (by omega) e3
            have kc := kd10 (c := c) (v := 130 + (A 38 a0).toNat) (by omega) (by omega) c3
            refine q_engineOf1 gE ⟨y5, y6⟩ ⟨ke, ?_⟩
            show W_X8_crewOf c LN 0 (B 803 (40 + a0.toNat)) (u2 (u2 B 502 (120 + (A 37 a0).toNat) (-1)) 501 (120 + (A 37 a0).toNat) (A 40 a0)) E _ _
            rw [y8]
            refine q_crewOf1 (gC.fr (fun k v h => (u2_k (by omega)).trans ((u2_k (by omega)).trans (rfl))) (fun _ _ _ => rfl)) ⟨y9, y10⟩ ⟨kc, rfl, r805, ?_⟩
            show Rep c LN (u2 (u2 (u2 (u2 (u2 B 502 (120 + (A 37 a0).toNat) (-1)) 501 (120 + (A 37 a0).toNat) (A 40 a0)) 401 (130 + (A 38 a0).toNat) (-1)) 400 (130 + (A 38 a0).toNat) (A 40 a0)) 801 (40 + a0.toNat) (-1)) E (ui (ui (ui (ui (ui (sc A 0 0) 36 a0 0) 22 (A 37 a0) (-1)) 21 (A 37 a0) (A 40 a0)) 25 (A 38 a0) (-1)) 24 (A 38 a0) (A 40 a0))
            exact dis_rep hR h1.1 h1.2.1 h36 (by omega) y5 y6 y7 y9 y10 y11 y14 y15 nh
    · exact ⟨0, sc A 0 2, fun Q hQ => m_isTrain1 h1 (bn_F (by decide) (m_stands ⟨h1.1, h1.2.1⟩ (by rw [if_neg hs]; exact br_T rfl (by unfold W_X9_dissolve_38 W_X9_dissolve_43; exact br_F no2 hQ)))), pz_thr, rfl, q_trainOf1 gT h1 ⟨hk, q_X7stands gT h1.1 h1.2.1 h36 (by rw [if_neg hs]; exact br_T rfl (by unfold W_X8_dissolve_38 W_X8_dissolve_39; exact q_state0 ⟨Or.inr ⟨rfl, rfl⟩, hR.thr⟩))⟩⟩
  · exact ⟨0, sc A 0 1, fun Q hQ => m_isTrain0 h1 (bn_T rfl (by unfold W_X9_dissolve_43; exact br_F no1 hQ)), pz_thr, rfl, q_trainOf0 gT h1 ⟨Or.inl ⟨rfl, rfl⟩, hR.thr⟩⟩
end Ends
