/-! the makers: asking; the crew -/
section Ask2
variable {Y : Yt} {it LN : Nat → Nat} {S : Shp} {F F1 : Fl} {I I2 : Il} {G : Gp} {L q e : Nat} {x lo hi : Int} {Q : Prop} {QX : String → Shp → Fl → Il → Prop} {A A' : Il}
theorem v_station (hC : Cg Y it LN S) (h1 : 0 ≤ x ∧ x < 8 → Q) (h0 : ¬ (0 ≤ x ∧ x < 8) → QX "java/lang/IndexOutOfBoundsException" (thr S) F I) : V_X8_requireStation (yg Y 0) x S F I Q QX := by
  have h9 := Cg.sa hC
  have h6 := Cg.sb hC
  have n := Cg.n hC (v := 1) (k := 23) rfl
  unfold V_X8_requireStation V_X8_requireIndex V_X8_requireIndex_9
  refine ⟨Cg.k hC rfl (by decide), _, Cg.r900 hC rfl, Cg.k hC rfl (by decide), by rw [n]; exact ln_le _, ?_⟩
  rw [n]
  have e : ((ln 1 : Nat) : Int) = 8 := rfl
  rw [e]
  exact ⟨fun c => ⟨h9, h6, h0 (by omega)⟩, fun c => ⟨fun c2 => h1 (by omega), fun c2 => ⟨h9, h6, h0 (by omega)⟩⟩⟩
theorem v_state (hC : Cg Y it LN S) (h1 : ¬ x = 0 → Q) (h0 : x = 0 → QX "java/lang/IllegalStateException" (thr S) F I) : V_X8_requireState x S F I Q QX :=
  ⟨h1, fun c => ⟨Cg.sa hC, Cg.sb hC, h0 c⟩⟩
theorem v_arg (hC : Cg Y it LN S) (h1 : ¬ x = 0 → Q) (h0 : x = 0 → QX "java/lang/IllegalArgumentException" (thr S) F I) : V_X8_requireArgument x S F I Q QX :=
  ⟨h1, fun c => ⟨Cg.sa hC, Cg.sb hC, h0 c⟩⟩
theorem v_range (hC : Cg Y it LN S) (h1 : lo ≤ x ∧ x ≤ hi → Q) (h0 : ¬ (lo ≤ x ∧ x ≤ hi) → QX "java/lang/IllegalArgumentException" (thr S) F I) : V_X8_requireRange x lo hi S F I Q QX := by
  unfold V_X8_requireRange V_X8_requireRange_14 V_X8_requireRange_15
  exact ⟨fun c => v_arg hC (fun w => absurd rfl w) (fun _ => h0 (by omega)), fun c => ⟨fun c2 => v_arg hC (fun w => absurd rfl w) (fun _ => h0 (by omega)), fun c2 => v_arg hC (fun _ => h1 (by omega)) (fun w => absurd w (by decide))⟩⟩
theorem Rep.caps {c : Nat → Nat} {B : Fl} {E : El} (hR : Rep c LN B E A) : ∀ l, 8 ≤ l → l ≤ 12 → c l ≤ cap l := fun l l0 l1 => by
  obtain ⟨gG, gS, gB, g0, gH, gE, gC, gN, gK, gL, -⟩ := hR
  have h8 := gB.1.2.2
  have h9 := gE.1.2.2
  have h10 := gC.1.2.2
  have h11 := gK.1.2.2
  have h12 := gL.1.2.2
  obtain ⟨rfl, e1, e2, e3⟩ | ⟨rfl, e1, e2, e3⟩ | ⟨rfl, e1, e2, e3⟩ | ⟨rfl, e1, e2, e3⟩ | ⟨rfl, e1, e2, e3⟩ := bs_L ⟨l0, l1⟩ <;> omega
set_option maxHeartbeats 2000000 in
theorem lv_T {a b : Nat} {z w : Int} (hR : Rep (yc Y) LN (Bc Y F) (Ec Y it I) A) (hC : Cg Y it LN S) (hL : 8 ≤ L ∧ L ≤ 12) (hn : L ≠ 11) (hc : yc Y L < cap L) (hq : sK S q = 99) (hF1 : ∀ k v, v ≠ q → k ≠ 913 → F1 k v = F k v) (hI2 : ∀ b, sK S b ≠ 99 → ∀ j, I2 b j = I b j) :
    ∃ B0, Rep (yc Y) LN B0 (Ec (Yup Y L q 0 e a b) it I2) A ∧ (∀ k v, (k ≠ 0 ∧ k ≠ 2 ∧ k ≠ 913) → k < 1000 → Bc (Yup Y L q 0 e a b) (u2 (u2 F1 0 (yg Y L) z) 2 (yg Y L) w) k v = B0 k v) ∧ ∀ v, v ≠ L → Bc (Yup Y L q 0 e a b) (u2 (u2 F1 0 (yg Y L) z) 2 (yg Y L) w) 2 v = B0 2 v := by
  have kw := (kd_up hL hc).1.1
  have go : ∀ v, kd (yc Y) v ≠ 99 → gup Y L q 0 v = yg Y v := fun v hv => gup_o hn (fun h => hv (by rw [h]; exact kw))
  have nq := hC.nq hq
  have kL : kd (yc Y) L ≠ 99 := by rw [kd_l0 hL]; decide
  refine ⟨fun k v => if k = 0 ∨ (k = 2 ∧ v = L) ∨ k = 913 then Bc Y F k v else Bc (Yup Y L q 0 e a b) (u2 (u2 F1 0 (yg Y L) z) 2 (yg Y L) w) k v, hR.lv (fun k v hv => ?_) (fun v hv j => ?_) (fun v hv j => ?_) (fun _ _ => rfl), fun k v hk _ => (if_neg (by omega)).symm, fun v hv => (if_neg (by omega)).symm⟩
  · show (if k = 0 ∨ (k = 2 ∧ v = L) ∨ k = 913 then Bc Y F k v else Bc (Yup Y L q 0 e a b) (u2 (u2 F1 0 (yg Y L) z) 2 (yg Y L) w) k v) = Bc Y F k v
    by_cases h : k = 0 ∨ (k = 2 ∧ v = L) ∨ k = 913
    · rw [if_pos h]
    · rw [if_neg h]
      show u2 (u2 F1 0 (yg Y L) z) 2 (yg Y L) w k (gup Y L q 0 v) = F k (yg Y v)
      rw [go v hv]
      have h2 : ¬ (k = 2 ∧ yg Y v = yg Y L) := fun e9 => h (Or.inr (Or.inl ⟨e9.1, (hC.1 L v kL e9.2.symm).symm⟩))
      exact (if_neg h2).trans ((if_neg (fun e9 => h (Or.inl e9.1))).trans (hF1 k _ (nq.1 v) (fun e9 => h (Or.inr (Or.inr e9)))))
  · show I2 (it v) j = I (it v) j
    exact hI2 _ (fun h => (hC.nq h).2.1 v rfl) j
  · show I2 (gup Y L q 0 v) j = I (yg Y v) j
    rw [go v hv]
    exact hI2 _ (fun h => (hC.nq h).1 v rfl) j
theorem m_crew {s : Int} (hN : 0 ≤ A 23 0 ∧ A 23 0 < 6) (hs : 0 ≤ s ∧ s < 8) {Q : Int → Il → Prop} (h : Q (A 23 0) (sc (ui (ui (sc A 0 0) 24 (A 23 0) s) 25 (A 23 0) (-1)) 23 (A 23 0 + 1))) : W_X9_crew s A Q := by
  refine m_isStation1 hs (bn_F (by decide) (bn_F (by omega) ?_))
  unfold W_X9_crew_26
  refine br_T le0 ?_
  show 0 ≤ A 23 0 ∧ A 23 0 < 6 ∧ 0 ≤ A 23 0 ∧ A 23 0 < 6 ∧ Q (w32 (w32 (A 23 0 + 1) - 1)) (sc (ui (ui (sc A 0 0) 24 (A 23 0) s) 25 (A 23 0) (-1)) 23 (w32 (A 23 0 + 1)))
  rw [show w32 (A 23 0 + 1) = A 23 0 + 1 from w32_id (by unfold rg; omega), show w32 (A 23 0 + 1 - 1) = A 23 0 from (w32_id (by unfold rg; omega)).trans (by omega)]
  exact ⟨hN.1, hN.2, hN.1, hN.2, h⟩
end Ask2
