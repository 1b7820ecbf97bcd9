/-! the end of a minute: no pay that changes anything, trains enter by rank; the whole minute -/
section Ent2
variable {c LN : Nat → Nat} {B : Fl} {E : El} {la : Nat → Nat} {S : Shp} {F : Fl} {I : Il} {A : Il}
/-- no train beyond the third: these are passed over -/
theorem m_arr_skip {Q : Int → Il → Prop} (h6 : ∀ n : Int, 3 ≤ n → n < 6 → A 36 n = 0) (h : mEnd A Q) : ∀ k n : Nat, n + k = 6 → 3 ≤ n → W_X9_ticks_67 (k + 1) (n : Int) A Q
  | 0, n, e, _ => br_T (by omega) h
  | k + 1, n, e, h3 => by
    have ih := m_arr_skip h6 h k (n + 1) (by omega) (by omega)
    refine br_F (by omega) ⟨by omega, by omega, fun _ => ?_, fun c1 => absurd (h6 (n : Int) (by omega) (by omega)) c1⟩
    show W_X9_ticks_67 (k + 1) (w32 ((n : Int) + 1)) A Q
    rw [w32_up (by omega)]
    exact ih
theorem RepI.end3 (h6 : ∀ n : Int, 3 ≤ n → n < 6 → A 36 n = 0) (h : RepI 3 c LN B E A) : Rep c LN B E A := by
  have h3 := RepI.up (n := 3) h (fun w => absurd w (by rw [h6 (3 : Nat) (by decide) (by decide)]; decide))
  have h4 := RepI.up (n := 4) h3 (fun w => absurd w (by rw [h6 (4 : Nat) (by decide) (by decide)]; decide))
  have h5 := RepI.up (n := 5) h4 (fun w => absurd w (by rw [h6 (5 : Nat) (by decide) (by decide)]; decide))
  exact h5.r (by decide)
theorem pys_0 (hR : Rep c LN B E A) (h3 : A 3 0 = 0) : ∀ n : Nat, (n : Int) ≤ A 29 0 → pys A n = A 2 0
  | 0, _ => by
    show w32 (A 2 0 - w32 (Int.tdiv (A 3 0) 200)) = A 2 0
    rw [h3, show w32 (Int.tdiv 0 200) = 0 by decide, Int.sub_zero]
    exact w32_id hR.1.2.2.2.2.2.1
  | n + 1, hn => by
    have gK := hR.2.2.2.2.2.2.2.2.1
    have gL := hR.2.2.2.2.2.2.2.2.2.1
    have k8 := gK.2.2.2.2.2 (n : Int) (by omega) (by omega)
    have l54 := gL.1
    rw [pys_F (fun w => w.1 (by omega))]
    exact pys_0 hR h3 n (by omega)
theorem lk_pays (hR : Rep c LN B E A) (hL : LR (lA la I) A) : ∃ A', BR la I A' ∧ Smm A A' ∧ A' 1 0 = A 1 0 ∧ ∀ Q, Q A' → W_X9_pays A Q := by
  have gK := hR.2.2.2.2.2.2.2.2.1
  have gL := hR.2.2.2.2.2.2.2.2.2.1
  obtain ⟨N, hN⟩ := Int.eq_ofNat_of_zero_le (show 0 ≤ A 29 0 by have := gK.1.1; omega)
  have hp := pys_0 hR hL.1.2.2.1 N (by omega)
  refine ⟨sc A 2 (pys A N), ⟨⟨c, LN, _, E, cash1_rep hR (pys_rg A N)⟩, ?_⟩, ⟨rfl, rfl, fun _ => rfl, fun _ => rfl⟩, rfl, fun Q hQ => ⟨N + 1, m_pays_go gK gL hN hQ N 0 (Nat.zero_add _)⟩⟩
  obtain ⟨hg, hs, hb, hc, ht⟩ := hL
  have hA : ∀ a j, a ≠ 2 → sc A 2 (pys A N) a j = A a j := fun a j h => sc_k h
  refine ⟨⟨hg.1, ?_, hg.2.2.1, hg.2.2.2⟩, hs.fr (fun _ _ => rfl) (fun j => rfl), hb.fr (fun _ => rfl) (fun a j h => hA a j (by omega)), hc.fr (fun _ _ _ _ _ => rfl) (fun a j h => hA a j (by omega)), ht.fr hR.w47 (fun _ _ _ _ _ _ => rfl) (fun _ => rfl) (fun a j a0 a1 a2 => hA a j (by omega))⟩
  show lA la I 3 1 = pys A N
  rw [hp]
  exact hg.2.1
/-- how many entered, beside the law's count -/
def Cn (z0 : Int) (la : Nat → Nat) (I : Il) (cnt : Int) : Prop := lA la I 3 2 = w32 (z0 + cnt)
theorem Cn.up {z0 cnt : Int} {I' : Il} (h : Cn z0 la I cnt) (e : lA la I' 3 2 = w32 (lA la I 3 2 + 1)) : Cn z0 la I' (w32 (cnt + 1)) := by
  unfold Cn at *
  rw [e, h, w32_l, w32_r, Int.add_assoc]
/-- the trains beyond the third in the inner loop of a rank -/
theorem m_ent_skip {Q : Int → Il → Prop} {kk : Int → Int → Il → Prop} {cnt its : Int} (h6 : ∀ n : Int, 3 ≤ n → n < 6 → A 36 n = 0) (h : kk cnt (w32 (its + (-1))) A) : ∀ k n : Nat, n + k = 6 → 3 ≤ n → W_X9_ticks_142 (k + 1) kk cnt its (n : Int) A Q
  | 0, n, e, _ => br_T (by omega) h
  | k + 1, n, e, h3 => by
    have ih := m_ent_skip (Q := Q) h6 h k (n + 1) (by omega) (by omega)
    refine br_F (by omega) ⟨by omega, by omega, fun _ => ?_, fun c1 => absurd (h6 (n : Int) (by omega) (by omega)) c1⟩
    show W_X9_ticks_142 (k + 1) kk cnt its (w32 ((n : Int) + 1)) A Q
    rw [w32_up (by omega)]
    exact ih
/-- both sides of one rank from train n on -/
def EnB (z0 : Int) (la : Nat → Nat) (I A : Il) (cnt : Int) (W9 : (Int → Il → Prop) → Prop) (VL : (Il → Prop) → Prop) : Prop := ∃ (cnt' : Int) (I' A' : Il), BR la I' A' ∧ FrL la I I' ∧ Cn z0 la I' cnt' ∧ Smm A A' ∧ A' 1 0 = A 1 0 ∧ (∀ Q, Q cnt' A' → W9 Q) ∧ ∀ Q, Q I' → VL Q
theorem lk_ent_in {z0 : Int} {K : Nat} (hK : K ≤ 9) (hS : Ls la S) (ihK : ∀ (I A : Il) (cnt : Int), BR la I A → Cn z0 la I cnt → EnB z0 la I A cnt (fun Q => W_X9_ticks_136 (K + 1) cnt ((K : Int) - 1) A Q) (fun Q => V_L_minute_171 (K + 1) (la 1) (la 2) (la 0) (la 3) ((K : Int) - 1) S F I Q)) : ∀ (k n : Nat) (I A : Il) (cnt : Int), n + k = 3 → BR la I A → Cn z0 la I cnt → EnB z0 la I A cnt (fun Q => W_X9_ticks_142 (k + 4) (fun y0 y1 A' => W_X9_ticks_136 (K + 1) y0 y1 A' Q) cnt (K : Int) (n : Int) A Q) (fun Q => V_L_minute_179 (k + 1) (fun y0 y1 y2 y3 y4 I' => V_L_minute_171 (K + 1) y0 y1 y2 y3 y4 S F I' Q) (la 1) (la 2) (la 0) (la 3) (K : Int) (16 * (n : Int)) S F I Q)
  | 0, n, I, A, cnt, e, hB, hC => by
    have e' : n = 3 := by omega
    subst e'
    obtain ⟨cnt', I', A', i1, i2, i3, i4, i5, i6, i7⟩ := ihK I A cnt hB hC
    have eK : w32 ((K : Int) + (-1)) = (K : Int) - 1 := by
      rw [w32_id (by unfold rg; omega)]
      omega
    refine ⟨cnt', I', A', i1, i2, i3, i4, i5, fun Q hQ => ?_, fun Q hQ => ?_⟩
    · refine m_ent_skip hB.2.2.2.2.2.2 ?_ 3 3 rfl (Nat.le_refl _)
      rw [eK]
      exact i6 Q hQ
    · refine br_T (by decide) ?_
      show V_L_minute_171 (K + 1) (la 1) (la 2) (la 0) (la 3) (w32 ((K : Int) + (-1))) S F I Q
      rw [eK]
      exact i7 Q hQ
  | k + 1, n, I, A, cnt, e, ⟨⟨c, LN, B, E, hR⟩, hL⟩, hC => by
    have n2 := hS.n2
    have e3 := ix (n := (n : Int)) (i := 3) (by omega) (by omega) (by decide) (by decide)
    have e10 := ix (n := (n : Int)) (i := 10) (by omega) (by omega) (by decide) (by decide)
    have e16 : w32 (16 * (n : Int) + 16) = 16 * ((n + 1 : Nat) : Int) := by
      rw [w32_id (by unfold rg; omega)]
      omega
    obtain ⟨-, -, -, -, ht, ht6⟩ := id hL
    obtain ⟨t0, t36⟩ := ht (n : Int) (by omega) (by omega)
    have t0 : I (la 2) (16 * (n : Int)) = A 36 (n : Int) := t0
    have t01 := hR.t01 (n : Int) (by omega) (by omega)
    -- the law's way from what it has looked at on
    have vgo : ∀ (I9 : Il) (Q : Il → Prop), V_L_minute_179 (k + 1) (fun y0 y1 y2 y3 y4 I' => V_L_minute_171 (K + 1) y0 y1 y2 y3 y4 S F I' Q) (la 1) (la 2) (la 0) (la 3) (K : Int) (16 * ((n + 1 : Nat) : Int)) S F I9 Q → V_L_minute_237 (fun y0 y1 y2 y3 y4 I' => V_L_minute_171 (K + 1) y0 y1 y2 y3 y4 S F I' Q) (fun y0 y1 y2 y3 y4 y5 I' => V_L_minute_179 (k + 1) (fun y0 y1 y2 y3 y4 I' => V_L_minute_171 (K + 1) y0 y1 y2 y3 y4 S F I' Q) y0 y1 y2 y3 y4 y5 S F I' Q) (la 1) (la 2) (la 0) (la 3) (K : Int) (16 * (n : Int)) S F I9 Q := fun I9 Q h => by
      show V_L_minute_179 (k + 1) (fun y0 y1 y2 y3 y4 I' => V_L_minute_171 (K + 1) y0 y1 y2 y3 y4 S F I' Q) (la 1) (la 2) (la 0) (la 3) (K : Int) (w32 (16 * (n : Int) + 16)) S F I9 Q
      rw [e16]
      exact h
    by_cases go : A 36 (n : Int) = 1 ∧ A 39 (n : Int) = 1 ∧ A 49 (n : Int) = (K : Int)
    · obtain ⟨k1, k2, k3⟩ := go
      obtain ⟨hD, hway, -, -, t10, hr⟩ := rdL hL hR (by omega) (by omega) k1 k2
      obtain ⟨v1, v2, v3, -⟩ := t36 k1
      have v3 : I (la 2) (16 * (n : Int) + 3) = A 39 (n : Int) := v3
      have vhead : ∀ Q : Il → Prop, V_L_bars (16 * (n : Int)) (la 1) (la 2) (la 0) (la 3) S F I (fun (z8 : Int) => ((¬ z8 = 0 → V_L_minute_237 (fun y0 y1 y2 y3 y4 I' => V_L_minute_171 (K + 1) y0 y1 y2 y3 y4 S F I' Q) (fun y0 y1 y2 y3 y4 y5 I' => V_L_minute_179 (k + 1) (fun y0 y1 y2 y3 y4 I' => V_L_minute_171 (K + 1) y0 y1 y2 y3 y4 S F I' Q) y0 y1 y2 y3 y4 y5 S F I' Q) (la 1) (la 2) (la 0) (la 3) (K : Int) (16 * (n : Int)) S F I Q) ∧ (z8 = 0 → V_L_enters (16 * (n : Int)) (la 1) (la 2) (la 0) (la 3) S F I (fun (I9 : Il) => V_L_minute_237 (fun y0 y1 y2 y3 y4 I' => V_L_minute_171 (K + 1) y0 y1 y2 y3 y4 S F I' Q) (fun y0 y1 y2 y3 y4 y5 I' => V_L_minute_179 (k + 1) (fun y0 y1 y2 y3 y4 I' => V_L_minute_171 (K + 1) y0 y1 y2 y3 y4 S F I' Q) y0 y1 y2 y3 y4 y5 S F I' Q) (la 1) (la 2) (la 0) (la 3) (K : Int) (16 * (n : Int)) S F I9 Q)))) → V_L_minute_179 (k + 1 + 1) (fun y0 y1 y2 y3 y4 I' => V_L_minute_171 (K + 1) y0 y1 y2 y3 y4 S F I' Q) (la 1) (la 2) (la 0) (la 3) (K : Int) (16 * (n : Int)) S F I Q := fun Q h => by
        refine br_F (by omega) ⟨hS.k (by decide), by omega, by omega, ?_⟩
        rw [t0, e3, v3, e10, t10]
        exact bn_T k1 ⟨by omega, by omega, bn_T k2 ⟨by omega, by omega, bn_T k3 h⟩⟩
      by_cases hb : fb (bp A (n : Int) (nb A (n : Int))) 10 1 = 0
      · have zn := fb_none (P := bp A (n : Int) (nb A (n : Int))) 10 1 (by decide) hb
        have h17 : A 17 (nb A (n : Int)) = -1 := Classical.byContradiction (fun w => zn 3 (by decide) (by decide) w)
        have hd : A 26 (A 38 (n : Int)) + rnv A (n : Int) (nb A (n : Int)) ≤ 600 := Classical.byContradiction (fun w => zn 9 (by decide) (by decide) (Or.inr w))
        have hLe := ent_LR (t := (n : Int)) hL hR (by omega) (by omega) k1 k2
        -- where the law's rows are behind it
        have hex : ∃ I9 : Il, FrL la I I9 ∧ lA la I9 = entL (lA la I) (n : Int) (nb A (n : Int)) (clm A (n : Int) (nb A (n : Int))) (if A 51 (n : Int) = A 40 (n : Int) then -1 else A 50 (n : Int)) (oth A (nb A (n : Int)) (A 40 (n : Int))) (A 1 0 + rnv A (n : Int) (nb A (n : Int))) (A 46 (n : Int) + 1) (A 26 (n : Int) + rnv A (n : Int) (nb A (n : Int))) ∧ ∀ Q : Il → Prop, Q I9 → V_L_enters (16 * (n : Int)) (la 1) (la 2) (la 0) (la 3) S F I Q := by
          obtain ⟨I9, j1, j2⟩ : ∃ I9 : Il, FrL la I I9 ∧ lA la I9 = entL (lA la I) (n : Int) (nb A (n : Int)) (clm A (n : Int) (nb A (n : Int))) (if A 51 (n : Int) = A 40 (n : Int) then -1 else A 50 (n : Int)) (oth A (nb A (n : Int)) (A 40 (n : Int))) (A 1 0 + rnv A (n : Int) (nb A (n : Int))) (A 46 (n : Int) + 1) (A 26 (n : Int) + rnv A (n : Int) (nb A (n : Int))) := by
            refine ⟨ui (ui (ui (ui (ui (ui (ui (ui (ui (ui (ui I (la 1) (28 + nb A (n : Int)) (n : Int)) (la 1) (32 + nb A (n : Int)) (clm A (n : Int) (nb A (n : Int)))) (la 1) (16 + nb A (n : Int)) 0) (la 2) (16 * (n : Int) + 11) (if A 51 (n : Int) = A 40 (n : Int) then -1 else A 50 (n : Int))) (la 2) (16 * (n : Int) + 3) 2) (la 2) (16 * (n : Int) + 4) (oth A (nb A (n : Int)) (A 40 (n : Int)))) (la 2) (16 * (n : Int) + 5) (nb A (n : Int))) (la 2) (16 * (n : Int) + 6) (A 1 0 + rnv A (n : Int) (nb A (n : Int)))) (la 2) (16 * (n : Int) + 7) (A 46 (n : Int) + 1)) (la 2) (16 * (n : Int) + 13) (A 26 (n : Int) + rnv A (n : Int) (nb A (n : Int)))) (la 3) 2 (w32 (lA la I 3 2 + 1)), ?_, ?_⟩
            · exact (((((((((((FrL.rf.stp (k := 1) (by decide) rfl).stp (k := 1) (by decide) rfl).stp (k := 1) (by decide) rfl).stp (k := 2) (by decide) rfl).stp (k := 2) (by decide) rfl).stp (k := 2) (by decide) rfl).stp (k := 2) (by decide) rfl).stp (k := 2) (by decide) rfl).stp (k := 2) (by decide) rfl).stp (k := 2) (by decide) rfl).stp (k := 3) (by decide) rfl)
            · rw [lA_ui hS (by decide), lA_ui hS (by decide), lA_ui hS (by decide), lA_ui hS (by decide), lA_ui hS (by decide), lA_ui hS (by decide), lA_ui hS (by decide), lA_ui hS (by decide), lA_ui hS (by decide), lA_ui hS (by decide), lA_ui hS (by decide)]
              rfl
          refine ⟨I9, j1, j2, fun Q hQ => l_enters hS hL hR (by omega) (by omega) k1 k2 (fun I' f g => ?_)⟩
          have : I' = I9 := by
            funext a j
            by_cases ha : ∀ k, k < 4 → a ≠ la k
            · rw [f a ha j, j1 a ha j]
            · obtain ⟨k9, h9⟩ := Classical.not_forall.mp ha
              have hk9 : k9 < 4 ∧ a = la k9 := by
                refine ⟨Classical.byContradiction (fun w => h9 (fun h => absurd h w)), Classical.byContradiction (fun w => h9 (fun _ => w))⟩
              have g2 := congrFun (congrFun (g.trans j2.symm) k9) j
              have g3 : (if k9 < 4 then I' (la k9) j else 0) = (if k9 < 4 then I9 (la k9) j else 0) := g2
              rw [if_pos hk9.1, if_pos hk9.1] at g3
              rw [hk9.2]
              exact g3
          rw [this]
          exact hQ
        obtain ⟨I9, j1, j2, j3⟩ := hex
        rw [← j2] at hLe
        have hC9 : Cn z0 la I9 (w32 (cnt + 1)) := hC.up (by rw [j2, entL_3, if_pos rfl])
        obtain ⟨cnt', I', A', i1, i2, i3, i4, i5, i6, i7⟩ := lk_ent_in hK hS ihK k (n + 1) I9 (ent A (n : Int)) (w32 (cnt + 1)) (by omega) ⟨⟨c, LN, _, E, ent_rep hR hr h17 hd⟩, hLe⟩ hC9
        refine ⟨cnt', I', A', i1, j1.t i2, i3, (ent_smm A (n : Int)).t i4, i5.trans (ent_o (by decide)), fun Q hQ => ?_, fun Q hQ => ?_⟩
        · show W_X9_ticks_142 (k + 4 + 1) (fun y0 y1 A' => W_X9_ticks_136 (K + 1) y0 y1 A' Q) cnt (K : Int) (n : Int) A Q
          refine br_F (by omega) ⟨by omega, by omega, br_F (by omega) ⟨by omega, by omega, bn_T k2 ⟨by omega, by omega, bn_T k3 (m_bar hR hr (bn_T hb (m_enters hR hr hd ?_)))⟩⟩⟩
          show W_X9_ticks_142 (k + 4) (fun y0 y1 A' => W_X9_ticks_136 (K + 1) y0 y1 A' Q) (w32 (cnt + 1)) (K : Int) (w32 ((n : Int) + 1)) (ent A (n : Int)) Q
          rw [w32_up (by omega)]
          exact i6 Q hQ
        · exact vhead Q (l_bars hS hL hR (by omega) (by omega) k1 k2 (bn_T hb (j3 _ (vgo I9 Q (i7 Q hQ)))))
      · obtain ⟨cnt', I', A', i1, i2, i3, i4, i5, i6, i7⟩ := lk_ent_in hK hS ihK k (n + 1) I A cnt (by omega) ⟨⟨c, LN, B, E, hR⟩, hL⟩ hC
        refine ⟨cnt', I', A', i1, i2, i3, i4, i5, fun Q hQ => ?_, fun Q hQ => ?_⟩
        · show W_X9_ticks_142 (k + 4 + 1) (fun y0 y1 A' => W_X9_ticks_136 (K + 1) y0 y1 A' Q) cnt (K : Int) (n : Int) A Q
          refine br_F (by omega) ⟨by omega, by omega, br_F (by omega) ⟨by omega, by omega, bn_T k2 ⟨by omega, by omega, bn_T k3 (m_bar hR hr (bn_F hb ?_))⟩⟩⟩
          show W_X9_ticks_142 (k + 4) (fun y0 y1 A' => W_X9_ticks_136 (K + 1) y0 y1 A' Q) cnt (K : Int) (w32 ((n : Int) + 1)) A Q
          rw [w32_up (by omega)]
          exact i6 Q hQ
        · exact vhead Q (l_bars hS hL hR (by omega) (by omega) k1 k2 (bn_F hb (vgo I Q (i7 Q hQ))))
    · obtain ⟨cnt', I', A', i1, i2, i3, i4, i5, i6, i7⟩ := lk_ent_in hK hS ihK k (n + 1) I A cnt (by omega) ⟨⟨c, LN, B, E, hR⟩, hL⟩ hC
      refine ⟨cnt', I', A', i1, i2, i3, i4, i5, fun Q hQ => ?_, fun Q hQ => ?_⟩
      · have F9 : W_X9_ticks_194 (fun y0 y1 A' => W_X9_ticks_136 (K + 1) y0 y1 A' Q) (fun y0 y1 y2 A' => W_X9_ticks_142 (k + 4) (fun y0 y1 A' => W_X9_ticks_136 (K + 1) y0 y1 A' Q) y0 y1 y2 A' Q) cnt (K : Int) (n : Int) A Q := by
          show W_X9_ticks_142 (k + 4) (fun y0 y1 A' => W_X9_ticks_136 (K + 1) y0 y1 A' Q) cnt (K : Int) (w32 ((n : Int) + 1)) A Q
          rw [w32_up (by omega)]
          exact i6 Q hQ
        show W_X9_ticks_142 (k + 4 + 1) (fun y0 y1 A' => W_X9_ticks_136 (K + 1) y0 y1 A' Q) cnt (K : Int) (n : Int) A Q
        refine br_F (by omega) ⟨by omega, by omega, fun _ => F9, fun c1 => ⟨by omega, by omega, fun _ => F9, fun c2 => ⟨by omega, by omega, fun _ => F9, fun c3 => ?_⟩⟩⟩
        exact absurd ⟨by omega, c2, c3⟩ go
      · have F9 := vgo I Q (i7 Q hQ)
        refine br_F (by omega) ⟨hS.k (by decide), by omega, by omega, ?_⟩
        rw [t0]
        refine ⟨fun _ => F9, fun c1 => ⟨by omega, by omega, ?_⟩⟩
        obtain ⟨v1, v2, v3, v4, v5, v6, v7, v8, v9, v10, v11, v12, v13, -⟩ := t36 c1
        have v3 : I (la 2) (16 * (n : Int) + 3) = A 39 (n : Int) := v3
        rw [e3, v3]
        refine ⟨fun _ => F9, fun c2 => ⟨by omega, by omega, ?_⟩⟩
        have v10 : I (la 2) (16 * (n : Int) + 10) = A 49 (n : Int) := (v13 (Or.inl c2)).2
        rw [e10, v10]
        exact ⟨fun _ => F9, fun c3 => absurd ⟨c1, c2, c3⟩ go⟩
theorem lk_ent {z0 : Int} (hS : Ls la S) : ∀ (K : Nat), K ≤ 10 → ∀ (I A : Il) (cnt : Int), BR la I A → Cn z0 la I cnt → EnB z0 la I A cnt (fun Q => W_X9_ticks_136 (K + 1) cnt ((K : Int) - 1) A Q) (fun Q => V_L_minute_171 (K + 1) (la 1) (la 2) (la 0) (la 3) ((K : Int) - 1) S F I Q)
  | 0, _, I, A, cnt, hB, hC => ⟨cnt, I, A, hB, FrL.rf, hC, Smm.rf, rfl, fun Q hQ => br_T (by decide) hQ, fun Q hQ => br_T (by decide) hQ⟩
  | K + 1, hK, I, A, cnt, hB, hC => by
    have eK : ((K + 1 : Nat) : Int) - 1 = (K : Int) := by omega
    obtain ⟨cnt', I', A', i1, i2, i3, i4, i5, i6, i7⟩ := lk_ent_in (F := F) (K := K) (by omega) hS (lk_ent hS K (by omega)) 3 0 I A cnt rfl hB hC
    refine ⟨cnt', I', A', i1, i2, i3, i4, i5, fun Q hQ => ?_, fun Q hQ => ?_⟩
    · show W_X9_ticks_136 (K + 1 + 1) cnt (((K + 1 : Nat) : Int) - 1) A Q
      rw [eK]
      exact br_F (by omega) ⟨7, i6 Q hQ⟩
    · show V_L_minute_171 (K + 1 + 1) (la 1) (la 2) (la 0) (la 3) (((K + 1 : Nat) : Int) - 1) S F I Q
      rw [eK]
      exact br_F (by omega) ⟨4, i7 Q hQ⟩
/-- A MINUTE -/
theorem lk_tick (hS : Ls la S) (hB : BR la I A) (hc : A 1 0 < 20000) (hz : rg (lA la I 3 2)) : ∃ (cnt : Int) (I' A' : Il), BR la I' A' ∧ FrL la I I' ∧ lA la I' 3 2 = w32 (lA la I 3 2 + cnt) ∧ Smm A A' ∧ A' 1 0 = A 1 0 + 1 ∧ (∀ Q, Q cnt A' → W_X9_ticks A Q) ∧ ∀ Q, Q I' → V_L_minute (la 1) (la 2) (la 0) (la 3) S F I Q := by
  obtain ⟨⟨c, LN, B, E, hR⟩, hL⟩ := hB
  have n3 := hS.n3
  have b16 := hR.2.2.1.1
  have hc0 := hR.1.2.2.2.2.1
  have hb4 := hL.2.2.1.1
  have sm0 : Smm A (tck A) := ⟨tck_o (by decide), tck_o (by decide), fun _ => tck_o (by decide), fun _ => tck_o (by decide)⟩
  -- the law's first loop
  obtain ⟨I1, h1e⟩ : ∃ J : Il, J = ui I (la 3) 0 (A 1 0 + 1) := ⟨_, rfl⟩
  obtain ⟨I2, h2e⟩ : ∃ J : Il, J = ui (ui (ui (ui I1 (la 1) 28 (tck A 17 0)) (la 1) 29 (tck A 17 1)) (la 1) 30 (tck A 17 2)) (la 1) 31 (tck A 17 3) := ⟨_, rfl⟩
  have f1 : FrL la I I1 := FrL.rf.stp (by decide) h1e
  have f2 : FrL la I I2 := (((f1.stp (k := 1) (by decide) rfl).stp (k := 1) (by decide) rfl).stp (k := 1) (by decide) rfl).stp (k := 1) (by decide) h2e
  have g1 : lA la I1 = tckL (lA la I) A 0 := by
    rw [h1e, lA_ui hS (by decide)]
    funext r j
    show (if r = 3 ∧ j = 0 then A 1 0 + 1 else lA la I r j) = if r = 1 ∧ 28 ≤ j ∧ j < 28 + 0 then _ else if r = 3 ∧ j = 0 then A 1 0 + 1 else lA la I r j
    rw [if_neg (show ¬ (r = 1 ∧ 28 ≤ j ∧ j < 28 + 0) from fun w => by omega)]
  have g2 : lA la I2 = tckL (lA la I) A 4 := by
    have e0 := tckL_s (L := lA la I) (A := A) (k := 0) (by decide) rfl
    have e1 := tckL_s (L := lA la I) (A := A) (k := 1) (by decide) rfl
    have e2 := tckL_s (L := lA la I) (A := A) (k := 2) (by decide) rfl
    have e3 := tckL_s (L := lA la I) (A := A) (k := 3) (by decide) rfl
    rw [h2e, lA_ui hS (by decide), lA_ui hS (by decide), lA_ui hS (by decide), lA_ui hS (by decide), g1]
    exact (congrArg (fun L => ui (ui (ui L 1 29 (tck A 17 1)) 1 30 (tck A 17 2)) 1 31 (tck A 17 3)) e0).trans ((congrArg (fun L => ui (ui L 1 30 (tck A 17 2)) 1 31 (tck A 17 3)) e1).trans ((congrArg (fun L => ui L 1 31 (tck A 17 3)) e2).trans e3))
  have uniq : ∀ I' : Il, FrL la I I' → lA la I' = tckL (lA la I) A 4 → I' = I2 := fun I' f g => by
    funext a j
    by_cases ha : ∀ k, k < 4 → a ≠ la k
    · rw [f a ha j, f2 a ha j]
    · obtain ⟨k9, h9⟩ := Classical.not_forall.mp ha
      have hk9 : k9 < 4 ∧ a = la k9 := ⟨Classical.byContradiction (fun w => h9 (fun h => absurd h w)), Classical.byContradiction (fun w => h9 (fun _ => w))⟩
      have g3 : (if k9 < 4 then I' (la k9) j else 0) = (if k9 < 4 then I2 (la k9) j else 0) := congrFun (congrFun (g.trans g2.symm) k9) j
      rw [if_pos hk9.1, if_pos hk9.1] at g3
      rw [hk9.2]
      exact g3
  have hL2 : LR (lA la I2) (tck A) := by
    rw [g2]
    exact tckL_LR hL hR
  obtain ⟨I3, A3, ⟨⟨c3, LN3, B3, E3, hR3⟩, hL3⟩, f3, q3, s3, c13, m3, v3⟩ := lk_arrs (F := F) hS 3 0 I2 (tck A) rfl ⟨⟨c, LN, _, E, tick_rep hR hc⟩, hL2⟩
  have h6 := hL3.2.2.2.2.2
  have hR4 := hR3.end3 h6
  have hq2 : lA la I2 3 2 = lA la I 3 2 := by
    rw [g2]
    exact (if_neg (fun w => absurd w.1 (by decide))).trans (if_neg (fun w => absurd w.2 (by decide)))
  -- the day's end
  have day : ∃ A4, BR la I3 A4 ∧ Smm A3 A4 ∧ A4 1 0 = A3 1 0 ∧ ∀ Q, W_X9_ticks_131 A4 Q → mEnd A3 Q := by
    by_cases hd : w32 (Int.tmod (A3 1 0) 1440) = 0
    · obtain ⟨A4, p1, p2, p3, p4⟩ := lk_pays hR4 hL3
      exact ⟨A4, p1, p2, p3, fun Q h => ⟨fun w => absurd hd w, fun _ => p4 _ h⟩⟩
    · exact ⟨A3, ⟨⟨c3, LN3, B3, E3, hR4⟩, hL3⟩, Smm.rf, rfl, fun Q h => ⟨fun _ => h, fun w => absurd w hd⟩⟩
  obtain ⟨A4, p1, p2, p3, p4⟩ := day
  obtain ⟨cnt', I', A', i1, i2, i3, i4, i5, i6, i7⟩ := lk_ent (F := F) (z0 := lA la I 3 2) hS 10 (Nat.le_refl _) I3 A4 0 p1 (by
    unfold Cn
    rw [q3, hq2, Int.add_zero, w32_id hz])
  refine ⟨cnt', I', A', i1, f2.t (f3.t i2), i3, sm0.t (s3.t (p2.t i4)), i5.trans (p3.trans (c13.trans tck_1)), fun Q hQ => ?_, fun Q hQ => ?_⟩
  · refine m_tick (by omega) (by omega) ⟨7, m3 Q ?_⟩
    exact m_arr_skip h6 (p4 Q ⟨11, i6 Q hQ⟩) 3 3 rfl (Nat.le_refl _)
  · have hq0 : I (la 3) 0 = A 1 0 := hL.1.1
    refine ⟨hS.k (by decide), by decide, by omega, by decide, by omega, ?_⟩
    intro J1 j1
    rw [hq0, w32_id (by unfold rg; omega)] at j1
    have j1 : I1 = J1 := h1e.trans j1.symm
    subst j1
    refine ⟨5, l_free hS hL hR (fun J2 f g => ?_) 4 0 I1 rfl f1 g1⟩
    rw [uniq J2 f g]
    refine ⟨4, v3 Q (br_T (by decide) ⟨11, ?_⟩)⟩
    exact i7 Q hQ
end Ent2
