/-! the makers' laws -/
theorem zf_o {F : Fl} {q k b : Nat} (h : b ≠ q) : zF F q k b = F k b := if_neg h
section Mm
variable {A : Il} {Q : Int → Il → Prop}
theorem m_engine {s p : Int} (hN : 0 ≤ A 19 0 ∧ A 19 0 < 6) (hs : 0 ≤ s ∧ s < 8) (hp : 1 ≤ p ∧ p ≤ 9) (h : Q (A 19 0) (sc (sc (ui (ui (ui (sc A 0 0) 20 (A 19 0) p) 21 (A 19 0) s) 22 (A 19 0) (-1)) 2 (w32 (A 2 0 - w32 (100 * p)))) 19 (A 19 0 + 1))) : W_X9_engine s p A Q := by
  refine m_isStation1 hs (bn_F (by decide) (m_in1 hp (bn_F (by decide) (bn_F (by omega) ?_))))
  unfold W_X9_engine_40
  refine br_T le0 ?_
  show 0 ≤ A 19 0 ∧ A 19 0 < 6 ∧ 0 ≤ A 19 0 ∧ A 19 0 < 6 ∧ 0 ≤ A 19 0 ∧ A 19 0 < 6 ∧ Q (w32 (w32 (A 19 0 + 1) - 1)) (sc (sc (ui (ui (ui (sc A 0 0) 20 (A 19 0) p) 21 (A 19 0) s) 22 (A 19 0) (-1)) 2 (w32 (A 2 0 - w32 (100 * p)))) 19 (w32 (A 19 0 + 1)))
  rw [show w32 (A 19 0 + 1) = A 19 0 + 1 from w32_id (by unfold rg; omega), show w32 (A 19 0 + 1 - 1) = A 19 0 from (w32_id (by unfold rg; omega)).trans (by omega)]
  exact ⟨hN.1, hN.2, hN.1, hN.2, hN.1, hN.2, h⟩
theorem m_lay {x y p g : Int} (hN : 0 ≤ A 6 0 ∧ A 6 0 < 16) (hx : 0 ≤ x ∧ x < 8) (hy : 0 ≤ y ∧ y < 8) (hxy : x ≠ y) (hp : 2 ≤ p ∧ p ≤ 60) (hg : 0 ≤ g ∧ g ≤ 3) (h : Q (A 6 0) (sc (sc (ui (ui (ui (ui (ui (sc A 0 0) 7 (2 * A 6 0) x) 7 (2 * A 6 0 + 1) y) 8 (A 6 0) p) 9 (A 6 0) g) 17 (A 6 0) (-1)) 2 (w32 (A 2 0 - w32 (100 * p)))) 6 (A 6 0 + 1))) : W_X9_lay x y p g A Q := by
  refine m_isStation1 hx (br_F (by decide) (m_isStation1 hy (bn_F (by decide) (br_F hxy (m_in1 hp (br_F (by decide) (m_in1 hg (bn_F (by decide) (bn_F (by omega) ?_)))))))))
  have e1 : w32 (A 6 0 + 1) = A 6 0 + 1 := w32_id (by unfold rg; omega)
  have e2 : w32 (A 6 0 + 1 - 1) = A 6 0 := (w32_id (by unfold rg; omega)).trans (by omega)
  have e3 : w32 (2 * A 6 0) = 2 * A 6 0 := w32_id (by unfold rg; omega)
  have e4 : w32 (2 * A 6 0 + 1) = 2 * A 6 0 + 1 := w32_id (by unfold rg; omega)
  unfold W_X9_lay_62
  refine br_T le0 ?_
  show 0 ≤ w32 (2 * A 6 0) ∧ w32 (2 * A 6 0) < 32 ∧ 0 ≤ w32 (w32 (2 * A 6 0) + 1) ∧ w32 (w32 (2 * A 6 0) + 1) < 32 ∧ 0 ≤ A 6 0 ∧ A 6 0 < 16 ∧ 0 ≤ A 6 0 ∧ A 6 0 < 16 ∧ 0 ≤ A 6 0 ∧ A 6 0 < 16 ∧ Q (w32 (w32 (A 6 0 + 1) - 1)) (sc (sc (ui (ui (ui (ui (ui (sc A 0 0) 7 (w32 (2 * A 6 0)) x) 7 (w32 (w32 (2 * A 6 0) + 1)) y) 8 (A 6 0) p) 9 (A 6 0) g) 17 (A 6 0) (-1)) 2 (w32 (A 2 0 - w32 (100 * p)))) 6 (w32 (A 6 0 + 1)))
  rw [e1, e2, e3, e4]
  exact ⟨by omega, by omega, by omega, by omega, hN.1, hN.2, hN.1, hN.2, hN.1, hN.2, h⟩
end Mm
