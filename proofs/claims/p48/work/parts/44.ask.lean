/-! what is asked: simulations that change nothing -/
section Ask
variable {c LN : Nat → Nat} {B : Fl} {E : El} {A : Il}
theorem sim_clock (hR : Rep c LN B E A) (hp : pz A ≤ 1022) : ∃ (ans : Int) (A' : Il), (∀ Q, Q ans A' → W_X9_clock  A Q) ∧ pz A' ≤ pz A + 2 ∧ W_X8_clock c LN 0  B E (fun z => A' 0 0 = 0 ∧ z = ans ∧ Rep c LN B E A')  :=
  ⟨A 1 0, sc A 0 0, fun _ h => h, pz_thr, rfl, rfl, hR.1.1, hR.thr⟩
theorem sim_cash (hR : Rep c LN B E A) (hp : pz A ≤ 1022) : ∃ (ans : Int) (A' : Il), (∀ Q, Q ans A' → W_X9_cash  A Q) ∧ pz A' ≤ pz A + 2 ∧ W_X8_cash c LN 0  B E (fun z => A' 0 0 = 0 ∧ z = ans ∧ Rep c LN B E A')  :=
  ⟨A 2 0, sc A 0 0, fun _ h => h, pz_thr, rfl, rfl, hR.1.2.1, hR.thr⟩
theorem sim_debt (hR : Rep c LN B E A) (hp : pz A ≤ 1022) : ∃ (ans : Int) (A' : Il), (∀ Q, Q ans A' → W_X9_debt  A Q) ∧ pz A' ≤ pz A + 2 ∧ W_X8_debt c LN 0  B E (fun z => A' 0 0 = 0 ∧ z = ans ∧ Rep c LN B E A')  :=
  ⟨A 3 0, sc A 0 0, fun _ h => h, pz_thr, rfl, rfl, hR.1.2.2.1, hR.thr⟩
theorem sim_broken (hR : Rep c LN B E A) (hp : pz A ≤ 1022) : ∃ (ans : Int) (A' : Il), (∀ Q, Q ans A' → W_X9_broken  A Q) ∧ pz A' ≤ pz A + 2 ∧ W_X8_broken c LN 0  B E (fun z => A' 0 0 = 0 ∧ z = ans ∧ Rep c LN B E A')  :=
  ⟨A 4 0, sc A 0 0, fun _ h => h, pz_thr, rfl, rfl, hR.1.2.2.2.1, hR.thr⟩
theorem no1 : ¬ (1 : Int) ≤ 0 := by decide
theorem no2 : ¬ (2 : Int) ≤ 0 := by decide
theorem no3 : ¬ (3 : Int) ≤ 0 := by decide
theorem le0 : (0 : Int) ≤ 0 := Int.le_refl _
theorem sim_billOf {a0 : Int} (hR : Rep c LN B E A) (hp : pz A ≤ 1022) (hr0 : rg a0) : ∃ (ans : Int) (A' : Il), (∀ Q, Q ans A' → W_X9_billOf a0 A Q) ∧ pz A' ≤ pz A + 2 ∧ W_X8_billOf c LN 0 a0 B E (fun z => A' 0 0 = 0 ∧ z = ans ∧ Rep c LN B E A') (fun X9 B' E' => ((X9 = "java/lang/IndexOutOfBoundsException" ∧ A' 0 0 = 1)) ∧ Rep c LN B' E' A') := by
  have hK := hR.2.2.2.2.2.2.2.2.1
  obtain ⟨⟨b1, b2, b3⟩, k0, k1, k2, k3, k4⟩ := id hK
  by_cases hx : 0 ≤ a0 ∧ a0 < A 29 0
  · exact ⟨A 33 a0, sc A 0 0, fun Q hQ => m_isCar1 (by omega) hx (br_F (by decide) (br_T le0 ⟨hx.1, by omega, hQ⟩)), pz_thr, rfl, q_carOf1 hK hx ⟨kd11 (by omega) (by omega) b3, rfl, k3 a0 hx.1 hx.2, hR.thr⟩⟩
  · exact ⟨0, sc A 0 1, fun Q hQ => m_isCar0 (by omega) hx (br_T rfl (br_F no1 hQ)), pz_thr, rfl, q_carOf0 hK hx ⟨⟨rfl, rfl⟩, hR.thr⟩⟩
theorem sim_carAt {a0 : Int} (hR : Rep c LN B E A) (hp : pz A ≤ 1022) (hr0 : rg a0) : ∃ (ans : Int) (A' : Il), (∀ Q, Q ans A' → W_X9_carAt a0 A Q) ∧ pz A' ≤ pz A + 2 ∧ W_X8_carAt c LN 0 a0 B E (fun z => A' 0 0 = 0 ∧ z = ans ∧ Rep c LN B E A') (fun X9 B' E' => ((X9 = "java/lang/IndexOutOfBoundsException" ∧ A' 0 0 = 1)) ∧ Rep c LN B' E' A') := by
  have hK := hR.2.2.2.2.2.2.2.2.1
  obtain ⟨⟨b1, b2, b3⟩, k0, k1, k2, k3, k4⟩ := id hK
  by_cases hx : 0 ≤ a0 ∧ a0 < A 29 0
  · have hk := kd11 (c := c) (v := 140 + a0.toNat) (by omega) (by omega) b3
    by_cases hy : A 32 a0 = -1
    · exact ⟨A 31 a0, sc A 0 0, fun Q hQ => m_isCar1 (by omega) hx (br_F (by decide) (br_T le0 ⟨hx.1, by omega, br_T hy ⟨hx.1, by omega, hQ⟩⟩)), pz_thr, rfl, q_carOf1 hK hx ⟨hk, bn_T (by rw [k2 a0 hx.1 hx.2]; exact hy) ⟨rfl, k1 a0 hx.1 hx.2, hR.thr⟩⟩⟩
    · exact ⟨w32 (100 + A 32 a0), sc A 0 0, fun Q hQ => m_isCar1 (by omega) hx (br_F (by decide) (br_T le0 ⟨hx.1, by omega, br_F hy ⟨hx.1, by omega, hQ⟩⟩)), pz_thr, rfl, q_carOf1 hK hx ⟨hk, bn_F (by rw [k2 a0 hx.1 hx.2]; exact hy) ⟨rfl, by rw [k2 a0 hx.1 hx.2], hR.thr⟩⟩⟩
  · exact ⟨0, sc A 0 1, fun Q hQ => m_isCar0 (by omega) hx (br_T rfl (br_F no1 hQ)), pz_thr, rfl, q_carOf0 hK hx ⟨⟨rfl, rfl⟩, hR.thr⟩⟩
theorem sim_duty {a0 : Int} (hR : Rep c LN B E A) (hp : pz A ≤ 1022) (hr0 : rg a0) : ∃ (ans : Int) (A' : Il), (∀ Q, Q ans A' → W_X9_duty a0 A Q) ∧ pz A' ≤ pz A + 2 ∧ W_X8_duty c LN 0 a0 B E (fun z => A' 0 0 = 0 ∧ z = ans ∧ Rep c LN B E A') (fun X9 B' E' => ((X9 = "java/lang/IndexOutOfBoundsException" ∧ A' 0 0 = 1)) ∧ Rep c LN B' E' A') := by
  have hC := hR.2.2.2.2.2.2.1
  obtain ⟨⟨b1, b2, b3⟩, k0, k1, k2, k3, k4⟩ := id hC
  by_cases hx : 0 ≤ a0 ∧ a0 < A 23 0
  · have hk := kd10 (c := c) (v := 130 + a0.toNat) (by omega) (by omega) b3
    by_cases hy : A 1 0 < A 27 a0
    · refine ⟨-1, sc A 0 0, fun Q hQ => m_isCrew1 (by omega) hx (br_F (by decide) (br_T le0 (m_rests ⟨hx.1, by omega⟩ ?_))), pz_thr, rfl, q_crewOf1 hC hx ⟨hk, q_restingAt hk ?_⟩⟩
      · rw [if_pos (show sc A 0 0 1 0 < sc A 0 0 27 a0 from hy)]
        exact br_F (by decide) hQ
      · rw [hR.1.1, k3 a0 hx.1 hx.2, if_pos hy]
        exact br_F (by decide) ⟨rfl, rfl, hR.thr⟩
    · refine ⟨A 26 a0, sc A 0 0, fun Q hQ => m_isCrew1 (by omega) hx (br_F (by decide) (br_T le0 (m_rests ⟨hx.1, by omega⟩ ?_))), pz_thr, rfl, q_crewOf1 hC hx ⟨hk, q_restingAt hk ?_⟩⟩
      · rw [if_neg (show ¬ sc A 0 0 1 0 < sc A 0 0 27 a0 from hy)]
        exact br_T rfl ⟨hx.1, by omega, hQ⟩
      · rw [hR.1.1, k3 a0 hx.1 hx.2, if_neg hy]
        exact br_T rfl ⟨rfl, k2 a0 hx.1 hx.2, hR.thr⟩
  · exact ⟨0, sc A 0 1, fun Q hQ => m_isCrew0 (by omega) hx (br_T rfl (br_F no1 hQ)), pz_thr, rfl, q_crewOf0 hC hx ⟨⟨rfl, rfl⟩, hR.thr⟩⟩
theorem sim_holder {a0 : Int} (hR : Rep c LN B E A) (hp : pz A ≤ 1022) (hr0 : rg a0) : ∃ (ans : Int) (A' : Il), (∀ Q, Q ans A' → W_X9_holder a0 A Q) ∧ pz A' ≤ pz A + 2 ∧ W_X8_holder c LN 0 a0 B E (fun z => A' 0 0 = 0 ∧ z = ans ∧ Rep c LN B E A') (fun X9 B' E' => ((X9 = "java/lang/IndexOutOfBoundsException" ∧ A' 0 0 = 1)) ∧ Rep c LN B' E' A') := by
  have hB := hR.2.2.1
  have hH := hR.2.2.2.2.1
  obtain ⟨⟨b1, b2, b3⟩, -⟩ := id hB
  by_cases hx : 0 ≤ a0 ∧ a0 < A 6 0
  · have hk := kd8 (c := c) (v := 100 + a0.toNat) (by omega) (by omega) b3
    refine ⟨A 17 a0, sc A 0 0, fun Q hQ => m_isBlock1 (by omega) hx (br_F (by decide) (br_T le0 ⟨hx.1, by omega, hQ⟩)), pz_thr, rfl, q_blockOf1 hB hx ⟨hk, q_holderAt hk ⟨rfl, ?_, hR.thr⟩⟩⟩
    rw [hR.1.1]
    exact (hH a0 hx.1 hx.2).1.symm
  · exact ⟨0, sc A 0 1, fun Q hQ => m_isBlock0 (by omega) hx (br_T rfl (br_F no1 hQ)), pz_thr, rfl, q_blockOf0 hB hx ⟨⟨rfl, rfl⟩, hR.thr⟩⟩
theorem sim_yardAt {a0 a1 : Int} (hR : Rep c LN B E A) (hp : pz A ≤ 1022) (hr0 : rg a0) (hr1 : rg a1) : ∃ (ans : Int) (A' : Il), (∀ Q, Q ans A' → W_X9_yardAt a0 a1 A Q) ∧ pz A' ≤ pz A + 2 ∧ W_X8_yardAt c LN 0 a0 a1 B E (fun z => A' 0 0 = 0 ∧ z = ans ∧ Rep c LN B E A') (fun X9 B' E' => ((X9 = "java/lang/IndexOutOfBoundsException" ∧ A' 0 0 = 1)) ∧ Rep c LN B' E' A') := by
  have hY := hR.2.2.2.2.2.2.2.2.2.2.2.2.1
  by_cases hx : 0 ≤ a0 ∧ a0 < 8
  · by_cases hy : 0 ≤ a1
    · obtain ⟨y1, y2, y3, y4⟩ := hY a0 hx.1 hx.2
      have y0 := y1.2.1
      refine ⟨if 0 ≤ a1 ∧ a1 < A 35 a0 then A 34 (20 * a0 + a1) else -1, sc A 0 0, fun Q hQ => m_isStation1 hx (br_F (by decide) (br_F (by omega) (br_T le0 ⟨hx.1, by omega, fun c1 => ?_, fun c1 => ?_⟩))), pz_thr, rfl, q_stationOf1 hx (q_fromZero1 hy ⟨kdst (by omega) (by omega), kdyd (by omega) (by omega), ?_⟩)⟩
      · have c1 : A 35 a0 ≤ a1 := c1
        rw [if_neg (by omega)] at hQ
        exact hQ
      · have c1 : ¬ A 35 a0 ≤ a1 := c1
        have e1 : w32 (20 * a0) = 20 * a0 := w32_id (by unfold rg; omega)
        have e2 : w32 (20 * a0 + a1) = 20 * a0 + a1 := w32_id (by unfold rg; omega)
        rw [if_pos (by omega)] at hQ
        rw [e1, e2]
        exact ⟨by omega, by omega, hQ⟩
      · rw [show 20 + a0.toNat + 10 = 30 + a0.toNat by omega]
        exact q_at (kdyd (by omega) (by omega)) y1 ⟨rfl, rfl, hR.thr⟩
    · exact ⟨0, sc A 0 1, fun Q hQ => m_isStation1 hx (br_F (by decide) (br_T (by omega) (br_F no1 hQ))), pz_thr, rfl, q_stationOf1 hx (q_fromZero0 hy ⟨⟨rfl, rfl⟩, hR.thr⟩)⟩
  · exact ⟨0, sc A 0 1, fun Q hQ => m_isStation0 hx (br_T rfl (br_F no1 hQ)), pz_thr, rfl, q_stationOf0 hx ⟨⟨rfl, rfl⟩, hR.thr⟩⟩
theorem sim_block {a0 a1 : Int} (hR : Rep c LN B E A) (hp : pz A ≤ 1022) (hr0 : rg a0) (hr1 : rg a1) : ∃ (ans : Int) (A' : Il), (∀ Q, Q ans A' → W_X9_block a0 a1 A Q) ∧ pz A' ≤ pz A + 2 ∧ W_X8_block c LN 0 a0 a1 B E (fun z => A' 0 0 = 0 ∧ z = ans ∧ Rep c LN B E A') (fun X9 B' E' => ((X9 = "java/lang/IndexOutOfBoundsException" ∧ A' 0 0 = 1)) ∧ Rep c LN B' E' A') := by
  have hB := hR.2.2.1
  obtain ⟨⟨b1, b2, b3⟩, b4, b5, b6, b7, b8, b9, b10, b11, b12, b13, b14⟩ := id hB
  by_cases hx : 0 ≤ a0 ∧ a0 < A 6 0
  · have hk := kd8 (c := c) (v := 100 + a0.toNat) (by omega) (by omega) b3
    obtain ⟨g1, g2, g3, -⟩ := b14 a0 hx.1 hx.2
    by_cases hy : 0 ≤ a1 ∧ a1 < 3
    · by_cases y0 : a1 = 0
      · exact ⟨A 10 a0, sc A 0 0, fun Q hQ => m_isBlock1 (by omega) hx (br_F (by decide) (m_in1 (by omega) (br_F (by decide) (br_T le0 (bn_T y0 ⟨hx.1, by omega, hQ⟩))))), pz_thr, rfl, q_blockOf1 hB hx (q_index1 hy (bn_T y0 ⟨hk, rfl, b7 a0 hx.1 hx.2, hR.thr⟩))⟩
      · by_cases y1 : a1 = 1
        · refine ⟨if ¬ A 12 a0 = 0 ∨ A 1 0 < A 11 a0 then 1 else 0, sc A 0 0, fun Q hQ => m_isBlock1 (by omega) hx (br_F (by decide) (m_in1 (by omega) (br_F (by decide) (br_T le0 (bn_F y0 (bn_T y1 (m_isClosed ⟨hx.1, by omega⟩ ?_))))))), pz_thr, rfl, q_blockOf1 hB hx (q_index1 hy (bn_F y0 (bn_T y1 ⟨hk, q_isClosedAt hk ?_⟩)))⟩
          · show (_ = 0 → _) ∧ (¬ _ = 0 → _)
            by_cases hz : ¬ A 12 a0 = 0 ∨ A 1 0 < A 11 a0
            · rw [if_pos hz] at hQ
              rw [if_pos (show ¬ sc A 0 0 12 a0 = 0 ∨ sc A 0 0 1 0 < sc A 0 0 11 a0 from hz)]
              exact br_F (by decide) hQ
            · rw [if_neg hz] at hQ
              rw [if_neg (show ¬ (¬ sc A 0 0 12 a0 = 0 ∨ sc A 0 0 1 0 < sc A 0 0 11 a0) from hz)]
              exact br_T rfl hQ
          · rw [b13 a0 hx.1 hx.2, b12 a0 hx.1 hx.2, hR.1.1]
            by_cases hz : ¬ A 12 a0 = 0 ∨ A 1 0 < A 11 a0
            · rw [if_pos hz]
              exact br_F (by decide) ⟨rfl, rfl, hR.thr⟩
            · rw [if_neg hz]
              exact br_T rfl ⟨rfl, rfl, hR.thr⟩
        · refine ⟨A 14 a0, sc A 0 0, fun Q hQ => m_isBlock1 (by omega) hx (br_F (by decide) (m_in1 (by omega) (br_F (by decide) (br_T le0 (bn_F y0 (bn_F y1 ⟨hx.1, by omega, ?_⟩)))))), pz_thr, rfl, q_blockOf1 hB hx (q_index1 hy (bn_F y0 (bn_F y1 ⟨hk, ?_⟩)))⟩
          · rcases g2 with g2 | g2
            · rw [g2] at hQ; exact br_T g2 hQ
            · rw [g2] at hQ; exact br_F (by show ¬ A 14 a0 = 0; omega) hQ
          · rw [b9 a0 hx.1 hx.2]
            rcases g2 with g2 | g2
            · rw [g2]; exact br_T rfl ⟨rfl, rfl, hR.thr⟩
            · rw [g2]; exact br_F (by decide) ⟨rfl, rfl, hR.thr⟩
    · exact ⟨0, sc A 0 1, fun Q hQ => m_isBlock1 (by omega) hx (br_F (by decide) (m_in0 (by omega) (br_T rfl (br_F no1 hQ)))), pz_thr, rfl, q_blockOf1 hB hx (q_index0 hy ⟨⟨rfl, rfl⟩, hR.thr⟩)⟩
  · exact ⟨0, sc A 0 1, fun Q hQ => m_isBlock0 (by omega) hx (br_T rfl (br_F no1 hQ)), pz_thr, rfl, q_blockOf0 hB hx ⟨⟨rfl, rfl⟩, hR.thr⟩⟩
end Ask
