/-! rows for the simulations: kinds, the reference's small methods, the class's -/
theorem kd9 {c : Nat → Nat} {v : Nat} (h0 : 120 ≤ v) (h1 : v < 120 + c 9) (h2 : c 9 ≤ 6) : kd c v = 5 := by
  unfold kd
  repeat' (first | omega | (refine ite_ez (fun _ => ?_) (fun _ => ?_)))
theorem kd10 {c : Nat → Nat} {v : Nat} (h0 : 130 ≤ v) (h1 : v < 130 + c 10) (h2 : c 10 ≤ 6) : kd c v = 4 := by
  unfold kd
  repeat' (first | omega | (refine ite_ez (fun _ => ?_) (fun _ => ?_)))
theorem kd11 {c : Nat → Nat} {v : Nat} (h0 : 140 ≤ v) (h1 : v < 140 + c 11) (h2 : c 11 ≤ 20) : kd c v = 3 := by
  unfold kd
  repeat' (first | omega | (refine ite_ez (fun _ => ?_) (fun _ => ?_)))
theorem kdp {c : Nat → Nat} {v : Nat} (h0 : 160 ≤ v) (h1 : v < 160 + c 11) (h2 : c 11 ≤ 20) : kd c v = 6 := by
  unfold kd
  repeat' (first | omega | (refine ite_ez (fun _ => ?_) (fun _ => ?_)))
theorem kd12 {c : Nat → Nat} {v : Nat} (h0 : 180 ≤ v) (h1 : v < 180 + c 12) (h2 : c 12 ≤ 0) : kd c v = 1 := absurd h1 (by omega)
theorem kdst {c : Nat → Nat} {v : Nat} (h0 : 20 ≤ v) (h1 : v < 28) : kd c v = 7 := by
  unfold kd
  repeat' (first | omega | (refine ite_ez (fun _ => ?_) (fun _ => ?_)))
theorem kdyd {c : Nat → Nat} {v : Nat} (h0 : 30 ≤ v) (h1 : v < 38) : kd c v = 6 := by
  unfold kd
  repeat' (first | omega | (refine ite_ez (fun _ => ?_) (fun _ => ?_)))
theorem kdtr {c : Nat → Nat} {v : Nat} (h0 : 40 ≤ v) (h1 : v < 46) : kd c v = 8 := by
  unfold kd
  repeat' (first | omega | (refine ite_ez (fun _ => ?_) (fun _ => ?_)))
theorem kdtc {c : Nat → Nat} {v : Nat} (h0 : 50 ≤ v) (h1 : v < 56) : kd c v = 6 := by
  unfold kd
  repeat' (first | omega | (refine ite_ez (fun _ => ?_) (fun _ => ?_)))
theorem kdtw {c : Nat → Nat} {v : Nat} (h0 : 60 ≤ v) (h1 : v < 66) : kd c v = 6 := by
  unfold kd
  repeat' (first | omega | (refine ite_ez (fun _ => ?_) (fun _ => ?_)))
theorem kdcl {c : Nat → Nat} {v : Nat} (h0 : 70 ≤ v) (h1 : v < 76) : kd c v = 20 := by
  unfold kd
  repeat' (first | omega | (refine ite_ez (fun _ => ?_) (fun _ => ?_)))
section MM
variable {A : Il} {Q : Int → Prop} {x : Int}
theorem m_isStation1 (hx : 0 ≤ x ∧ x < 8) (h : Q 1) : W_X9_isStation x A Q := m_in1 (by omega) ⟨Or.inr rfl, h⟩
theorem m_isStation0 (hx : ¬ (0 ≤ x ∧ x < 8)) (h : Q 0) : W_X9_isStation x A Q := m_in0 (by omega) ⟨Or.inl rfl, h⟩
theorem m_isCar1 (h0 : 0 ≤ A 29 0 ∧ A 29 0 ≤ 20) (hx : 0 ≤ x ∧ x < A 29 0) (h : Q 1) : W_X9_isCar x A Q := by
  unfold W_X9_isCar
  rw [w32_id (by unfold rg; omega)]
  exact m_in1 (by omega) ⟨Or.inr rfl, h⟩
theorem m_isCar0 (h0 : 0 ≤ A 29 0 ∧ A 29 0 ≤ 20) (hx : ¬ (0 ≤ x ∧ x < A 29 0)) (h : Q 0) : W_X9_isCar x A Q := by
  unfold W_X9_isCar
  rw [w32_id (by unfold rg; omega)]
  exact m_in0 (by omega) ⟨Or.inl rfl, h⟩
theorem m_isCrew1 (h0 : 0 ≤ A 23 0 ∧ A 23 0 ≤ 6) (hx : 0 ≤ x ∧ x < A 23 0) (h : Q 1) : W_X9_isCrew x A Q := by
  unfold W_X9_isCrew
  rw [w32_id (by unfold rg; omega)]
  exact m_in1 (by omega) ⟨Or.inr rfl, h⟩
theorem m_isCrew0 (h0 : 0 ≤ A 23 0 ∧ A 23 0 ≤ 6) (hx : ¬ (0 ≤ x ∧ x < A 23 0)) (h : Q 0) : W_X9_isCrew x A Q := by
  unfold W_X9_isCrew
  rw [w32_id (by unfold rg; omega)]
  exact m_in0 (by omega) ⟨Or.inl rfl, h⟩
theorem m_isTrain1 (hx : 0 ≤ x ∧ x < 6 ∧ ¬ A 36 x = 0) (h : Q 1) : W_X9_isTrain x A Q := m_in1 (by omega) (br_F (by decide) ⟨hx.1, hx.2.1, br_F hx.2.2 h⟩)
theorem m_isTrain0 (hx : ¬ (0 ≤ x ∧ x < 6 ∧ ¬ A 36 x = 0)) (h : Q 0) : W_X9_isTrain x A Q := by
  by_cases h1 : 0 ≤ x ∧ x < 6
  · refine m_in1 (by omega) (br_F (by decide) ⟨h1.1, h1.2, br_T ?_ h⟩)
    exact Classical.byContradiction fun n => hx ⟨h1.1, h1.2, n⟩
  · exact m_in0 (by omega) (br_T rfl h)
theorem m_rests (hx : 0 ≤ x ∧ x < 6) (h : Q (if A 1 0 < A 27 x then 1 else 0)) : W_X9_rests x A Q := by
  refine ⟨hx.1, hx.2, fun c1 => ?_, fun c1 => ?_⟩
  · rw [if_neg (by omega)] at h; exact h
  · rw [if_pos (by omega)] at h; exact h
theorem m_isClosed (hx : 0 ≤ x ∧ x < 16) (h : Q (if ¬ A 12 x = 0 ∨ A 1 0 < A 11 x then 1 else 0)) : W_X9_isClosed x A Q := by
  refine ⟨hx.1, hx.2, fun c1 => ?_, fun c1 => ⟨hx.1, hx.2, fun c2 => ?_, fun c2 => ?_⟩⟩
  · rw [if_pos (Or.inl c1)] at h; exact h
  · rw [if_neg (by omega)] at h; exact h
  · rw [if_pos (by omega)] at h; exact h
theorem m_stands (hx : 0 ≤ x ∧ x < 6) (h : Q (if A 39 x = 0 ∨ A 39 x = 1 then 1 else 0)) : W_X9_stands x A Q := by
  refine ⟨hx.1, hx.2, fun c1 => ?_, fun c1 => ⟨hx.1, hx.2, fun c2 => ?_, fun c2 => ?_⟩⟩
  · rw [if_pos (Or.inl c1)] at h; exact h
  · rw [if_neg (by omega)] at h; exact h
  · rw [if_pos (Or.inr c2)] at h; exact h
end MM
section QQ9
variable {c LN : Nat → Nat} {B : Fl} {E : El} {QX : String → Fl → El → Prop} {A : Il} {x : Int}
theorem q_station1 {Q : Prop} (hx : 0 ≤ x ∧ x < 8) (h : Q) : W_X8_requireStation c LN 0 x B E Q QX := ⟨rfl, rfl, q_index1 hx h⟩
theorem q_station0 {Q : Prop} (hx : ¬ (0 ≤ x ∧ x < 8)) (h : QX "java/lang/IndexOutOfBoundsException" B E) : W_X8_requireStation c LN 0 x B E Q QX := ⟨rfl, rfl, q_index0 hx h⟩
theorem q_stationOf1 {Q : Nat → Prop} (hx : 0 ≤ x ∧ x < 8) (h : Q (20 + x.toNat)) : W_X8_stationOf c LN 0 x B E Q QX := ⟨rfl, rfl, q_index1 hx ⟨hx.1, hx.2, h⟩⟩
theorem q_stationOf0 {Q : Nat → Prop} (hx : ¬ (0 ≤ x ∧ x < 8)) (h : QX "java/lang/IndexOutOfBoundsException" B E) : W_X8_stationOf c LN 0 x B E Q QX := ⟨rfl, rfl, q_index0 hx h⟩
theorem q_block1 {Q : Prop} (hB : RepB c B A) (hx : 0 ≤ x ∧ x < A 6 0) (h : Q) : W_X8_requireBlock c LN 0 x B E Q QX := ⟨rfl, rfl, rfl, q_index1 (by rw [hB.1.2.1]; exact hx) h⟩
theorem q_block0 {Q : Prop} (hB : RepB c B A) (hx : ¬ (0 ≤ x ∧ x < A 6 0)) (h : QX "java/lang/IndexOutOfBoundsException" B E) : W_X8_requireBlock c LN 0 x B E Q QX := ⟨rfl, rfl, rfl, q_index0 (by rw [hB.1.2.1]; exact hx) h⟩
theorem q_crewOf1 {Q : Nat → Prop} (hB : RepC c B A) (hx : 0 ≤ x ∧ x < A 23 0) (h : Q (130 + x.toNat)) : W_X8_crewOf c LN 0 x B E Q QX := by
  obtain ⟨⟨b1, b2, b3⟩, -⟩ := hB
  refine ⟨rfl, rfl, rfl, ?_⟩
  dsimp only
  refine q_index1 (by rw [b2]; exact hx) ⟨rfl, hx.1, by rw [b2]; exact hx.2, by omega, ?_⟩
  exact ⟨kd10 (by show 130 ≤ 130 + _; omega) (by show 130 + _ < _; omega) b3, h⟩
theorem q_crewOf0 {Q : Nat → Prop} (hB : RepC c B A) (hx : ¬ (0 ≤ x ∧ x < A 23 0)) (h : QX "java/lang/IndexOutOfBoundsException" B E) : W_X8_crewOf c LN 0 x B E Q QX := by
  refine ⟨rfl, rfl, rfl, ?_⟩
  dsimp only
  exact q_index0 (by rw [hB.1.2.1]; exact hx) h
theorem q_engineOf1 {Q : Nat → Prop} (hB : RepE c B A) (hx : 0 ≤ x ∧ x < A 19 0) (h : Q (120 + x.toNat)) : W_X8_engineOf c LN 0 x B E Q QX := by
  obtain ⟨⟨b1, b2, b3⟩, -⟩ := hB
  refine ⟨rfl, rfl, rfl, ?_⟩
  dsimp only
  refine q_index1 (by rw [b2]; exact hx) ⟨rfl, hx.1, by rw [b2]; exact hx.2, by omega, ?_⟩
  exact ⟨kd9 (by show 120 ≤ 120 + _; omega) (by show 120 + _ < _; omega) b3, h⟩
theorem q_engineOf0 {Q : Nat → Prop} (hB : RepE c B A) (hx : ¬ (0 ≤ x ∧ x < A 19 0)) (h : QX "java/lang/IndexOutOfBoundsException" B E) : W_X8_engineOf c LN 0 x B E Q QX := by
  refine ⟨rfl, rfl, rfl, ?_⟩
  dsimp only
  exact q_index0 (by rw [hB.1.2.1]; exact hx) h
theorem q_carOf1 {Q : Nat → Prop} (hB : RepK c B A) (hx : 0 ≤ x ∧ x < A 29 0) (h : Q (140 + x.toNat)) : W_X8_carOf c LN 0 x B E Q QX := by
  obtain ⟨⟨b1, b2, b3⟩, -⟩ := hB
  refine ⟨rfl, rfl, rfl, ?_⟩
  dsimp only
  refine q_index1 (by rw [b2]; exact hx) ⟨rfl, hx.1, by rw [b2]; exact hx.2, by omega, ?_⟩
  exact ⟨kd11 (by show 140 ≤ 140 + _; omega) (by show 140 + _ < _; omega) b3, h⟩
theorem q_carOf0 {Q : Nat → Prop} (hB : RepK c B A) (hx : ¬ (0 ≤ x ∧ x < A 29 0)) (h : QX "java/lang/IndexOutOfBoundsException" B E) : W_X8_carOf c LN 0 x B E Q QX := by
  refine ⟨rfl, rfl, rfl, ?_⟩
  dsimp only
  exact q_index0 (by rw [hB.1.2.1]; exact hx) h
theorem q_bill1 {Q : Nat → Prop} (hB : RepL c B A) (hx : 0 ≤ x ∧ x < A 54 0) (h : Q (180 + x.toNat)) : W_X8_billNumbered c LN 0 x B E Q QX := by
  have l9 := hB.1
  exfalso
  omega
theorem q_bill0 {Q : Nat → Prop} (hB : RepL c B A) (hx : ¬ (0 ≤ x ∧ x < A 54 0)) (h : QX "java/lang/IndexOutOfBoundsException" B E) : W_X8_billNumbered c LN 0 x B E Q QX := by
  refine ⟨rfl, rfl, rfl, ?_⟩
  dsimp only
  exact q_index0 (by rw [hB.1.2.1]; exact hx) h
/-- a train of this number: there in both -/
theorem RepT.is (hT : RepT LN B E A) (h0 : 0 ≤ x) (h1 : x < 6) : (A 36 x = 0 → B 801 (40 + x.toNat) = -1) ∧ (¬ A 36 x = 0 → A 36 x = 1 ∧ B 801 (40 + x.toNat) = A 39 x ∧ 0 ≤ A 39 x ∧ A 39 x ≤ 3) := by
  obtain ⟨t1, t2, t3, t4, t5⟩ := hT x h0 h1
  refine ⟨t4, fun n => ?_⟩
  have e : A 36 x = 1 := by omega
  obtain ⟨u1, u2, u3, -⟩ := t5 e
  exact ⟨e, u1, u2, u3⟩
theorem q_reqTrain1 {Q : Prop} (hT : RepT LN B E A) (hx : 0 ≤ x ∧ x < 6 ∧ ¬ A 36 x = 0) (h : Q) : W_X8_requireTrain c LN 0 x B E Q QX := by
  obtain ⟨e, u1, u2, u3⟩ := (hT.is hx.1 hx.2.1).2 hx.2.2
  exact ⟨rfl, rfl, q_index1 ⟨hx.1, hx.2.1⟩ ⟨hx.1, hx.2.1, kdtr (by omega) (by omega), bn_F (by rw [u1]; omega) h⟩⟩
theorem q_reqTrain0 {Q : Prop} (hT : RepT LN B E A) (hx : ¬ (0 ≤ x ∧ x < 6 ∧ ¬ A 36 x = 0)) (h : QX "java/lang/IndexOutOfBoundsException" B E) : W_X8_requireTrain c LN 0 x B E Q QX := by
  by_cases h1 : 0 ≤ x ∧ x < 6
  · refine ⟨rfl, rfl, q_index1 h1 ⟨h1.1, h1.2, kdtr (by omega) (by omega), bn_T ((hT.is h1.1 h1.2).1 ?_) h⟩⟩
    exact Classical.byContradiction fun n => hx ⟨h1.1, h1.2, n⟩
  · exact ⟨rfl, rfl, q_index0 h1 h⟩
theorem q_trainOf1 {Q : Nat → Prop} (hT : RepT LN B E A) (hx : 0 ≤ x ∧ x < 6 ∧ ¬ A 36 x = 0) (h : Q (40 + x.toNat)) : W_X8_trainOf c LN 0 x B E Q QX := ⟨rfl, q_reqTrain1 hT hx ⟨rfl, hx.1, hx.2.1, h⟩⟩
theorem q_trainOf0 {Q : Nat → Prop} (hT : RepT LN B E A) (hx : ¬ (0 ≤ x ∧ x < 6 ∧ ¬ A 36 x = 0)) (h : QX "java/lang/IndexOutOfBoundsException" B E) : W_X8_trainOf c LN 0 x B E Q QX := ⟨rfl, q_reqTrain0 hT hx h⟩
theorem q_holderAt {v : Nat} {m : Int} {Q : Int → Prop} (hk : kd c v = 2) (h : Q (if m < B 212 v then B 211 v else -1)) : W_X1_holderAt c LN v m B E Q := by
  refine ⟨hk, fun c1 => ?_, fun c1 => ?_⟩
  · rw [if_neg (by omega)] at h; exact h
  · rw [if_pos (by omega)] at h; exact h
theorem q_isClosedAt {v : Nat} {m : Int} {Q : Int → Prop} (hk : kd c v = 2) (h : Q (if ¬ B 210 v = 0 ∨ m < B 209 v then 1 else 0)) : W_X1_isClosedAt c LN v m B E Q := by
  refine ⟨hk, fun c1 => ?_, fun c1 => ⟨fun c2 => ?_, fun c2 => ?_⟩⟩
  · rw [if_pos (Or.inl c1)] at h; exact h
  · rw [if_neg (by omega)] at h; exact h
  · rw [if_pos (by omega)] at h; exact h
theorem q_restingAt {v : Nat} {m : Int} {Q : Int → Prop} (hk : kd c v = 4) (h : Q (if m < B 404 v then 1 else 0)) : W_X3_isRestingAt c LN v m B E Q := by
  refine ⟨hk, fun c1 => ?_, fun c1 => ?_⟩
  · rw [if_neg (by omega)] at h; exact h
  · rw [if_pos (by omega)] at h; exact h
theorem q_fromZero1 {Q : Prop} (hx : 0 ≤ x) (h : Q) : W_X8_requireFromZero c LN x B E Q QX := br_T hx h
theorem q_fromZero0 {Q : Prop} (hx : ¬ 0 ≤ x) (h : QX "java/lang/IndexOutOfBoundsException" B E) : W_X8_requireFromZero c LN x B E Q QX := br_F hx h
/-- a Row's place -/
theorem q_at {v : Nat} {n : Int} {f : Int → Int} {Q : Int → Prop} (hk : kd c v = 6) (hr : rowR LN B E v n f) (h : Q (if 0 ≤ x ∧ x < n then f x else -1)) : W_X5_at c LN v x B E Q := by
  obtain ⟨r1, r2, r3, r4⟩ := hr
  refine ⟨fun c1 => ?_, fun c1 => ⟨hk, fun c2 => ?_, fun c2 => ⟨hk, fun c3 => by omega, fun c3 => ⟨by omega, by omega, ?_⟩⟩⟩⟩
  · rw [if_neg (by omega)] at h; exact h
  · rw [if_neg (by omega)] at h; exact h
  · rw [if_pos (by omega)] at h
    rw [r4 x (by omega) (by omega)]
    exact h
theorem Rep.frA {A' : Il} (hA : ∀ a j, 1 ≤ a → A' a j = A a j) (h : Rep c LN B E A) : Rep c LN B E A' := by
  obtain ⟨g1, g2, g3, g4, g5, g6, g7, g8, g9, g10, g11, g12, g13, g14, g15, g16, g17, g18, g19⟩ := h
  exact ⟨g1.fr (fun _ _ _ => rfl) (fun a j h => hA a j (by omega)), g2.fr (fun _ _ _ => rfl) (fun a j h => hA a j (by omega)), g3.fr (fun _ _ _ => rfl) (fun a j h => hA a j (by omega)), g4.fr (fun a j h => hA a j (by omega)), g5.fr (fun _ _ _ => rfl) (fun a j h => hA a j (by omega)), g6.fr (fun _ _ _ => rfl) (fun a j h => hA a j (by omega)), g7.fr (fun _ _ _ => rfl) (fun a j h => hA a j (by omega)), g8.fr (fun _ _ _ => rfl) (fun a j h => hA a j (by omega)), g9.fr (fun _ _ _ => rfl) (fun a j h => hA a j (by omega)), g10.fr (fun _ _ _ => rfl) (fun a j h => hA a j (by omega)), g11.fr (fun _ => rfl) (fun _ => rfl) (fun a j h => hA a j (by omega)), g12.fr (fun _ _ _ => rfl) (fun _ _ => rfl) (fun a j h => hA a j (by omega)), g13.fr (fun _ _ _ => rfl) (fun _ _ => rfl) (fun a j h => hA a j (by omega)), g14.fr (fun _ _ _ => rfl) (fun _ _ => rfl) (fun a j h => hA a j (by omega)), g15.fr (fun a j h => hA a j (by omega)), g16.fr (fun _ _ _ => rfl) (fun _ _ => rfl) (fun a j h => hA a j (by omega)), g17.fr (fun _ _ _ => rfl) (fun _ _ => rfl) (fun _ _ => rfl) (fun a j h => hA a j (by omega)), g18.fr (fun a j h => hA a j (by omega)), g19.fr (fun a j h => hA a j (by omega))⟩
theorem Rep.thr {z : Int} (h : Rep c LN B E A) : Rep c LN B E (sc A 0 z) := h.frA (fun a j ha => sc_k (by omega))
theorem pz_fr {A' : Il} (h1 : A' 60 0 = A 60 0) (h2 : ∀ j, A' 36 j = A 36 j) (h3 : ∀ j, A' 44 j = A 44 j) : pz A' ≤ pz A + 2 := by
  unfold pz tz
  simp only [h1, h2, h3]
  omega
theorem pz_thr {z : Int} : pz (sc A 0 z) ≤ pz A + 2 := pz_fr (sc_k (by decide)) (fun _ => sc_k (by decide)) (fun _ => sc_k (by decide))
end QQ9
