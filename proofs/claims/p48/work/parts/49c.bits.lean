/-! bits: the blocks that a crew knows -/
section Bits
theorem iand_nat {a b : Nat} (ha : a < 2147483648) (hb : b < 2147483648) : iand (a : Int) (b : Int) = ((a &&& b : Nat) : Int) := by
  unfold iand
  show ((Int32.ofInt (a : Int) &&& Int32.ofInt (b : Int)).toBitVec).toInt = _
  rw [Int32.toBitVec_and]
  show (BitVec.ofInt 32 (a : Int) &&& BitVec.ofInt 32 (b : Int)).toInt = _
  rw [BitVec.ofInt_natCast, BitVec.ofInt_natCast]
  have e : (BitVec.ofNat 32 a &&& BitVec.ofNat 32 b).toNat = a &&& b := by
    rw [BitVec.toNat_and, BitVec.toNat_ofNat, BitVec.toNat_ofNat, Nat.mod_eq_of_lt (by omega), Nat.mod_eq_of_lt (by omega)]
  have h : a &&& b ≤ a := Nat.and_le_left
  rw [BitVec.toInt_eq_toNat_of_lt (by rw [e]; omega), e]
theorem ior_nat {a b : Nat} (ha : a < 65536) (hb : b < 65536) : ior (a : Int) (b : Int) = ((a ||| b : Nat) : Int) := by
  unfold ior
  show ((Int32.ofInt (a : Int) ||| Int32.ofInt (b : Int)).toBitVec).toInt = _
  rw [Int32.toBitVec_or]
  show (BitVec.ofInt 32 (a : Int) ||| BitVec.ofInt 32 (b : Int)).toInt = _
  rw [BitVec.ofInt_natCast, BitVec.ofInt_natCast]
  have e : (BitVec.ofNat 32 a ||| BitVec.ofNat 32 b).toNat = a ||| b := by
    rw [BitVec.toNat_or, BitVec.toNat_ofNat, BitVec.toNat_ofNat, Nat.mod_eq_of_lt (by omega), Nat.mod_eq_of_lt (by omega)]
  have h : a ||| b < 2 ^ 16 := Nat.or_lt_two_pow ha hb
  rw [BitVec.toInt_eq_toNat_of_lt (by rw [e]; omega), e]
theorem ishl_one : ∀ b : Nat, b < 16 → ishl 1 (b : Int) = ((2 ^ b : Nat) : Int) := by decide +kernel
theorem bit_k : ∀ k : Nat, k < 32 → (((Int32.ofInt (k : Int)).toUInt32 &&& Int32.toUInt32 31).toBitVec % 32).toNat = k := by decide +kernel
theorem iushr_nat {a k : Nat} (ha : a < 2147483648) (hk : k < 32) : iushr (a : Int) (k : Int) = ((a >>> k : Nat) : Int) := by
  unfold iushr
  show (((Int32.ofInt (a : Int)).toUInt32 >>> ((Int32.ofInt (k : Int)).toUInt32 &&& Int32.toUInt32 31)).toBitVec).toInt = _
  rw [UInt32.toBitVec_shiftRight]
  show ((Int32.ofInt (a : Int)).toUInt32.toBitVec >>> (((Int32.ofInt (k : Int)).toUInt32 &&& Int32.toUInt32 31).toBitVec % 32).toNat).toInt = _
  rw [bit_k k hk]
  show (BitVec.ofInt 32 (a : Int) >>> k).toInt = _
  rw [BitVec.ofInt_natCast]
  have e : (BitVec.ofNat 32 a >>> k).toNat = a >>> k := by
    rw [BitVec.toNat_ushiftRight, BitVec.toNat_ofNat, Nat.mod_eq_of_lt (by omega)]
  have h : a >>> k ≤ a := by
    rw [Nat.shiftRight_eq_div_pow]
    exact Nat.div_le_self _ _
  rw [BitVec.toInt_eq_toNat_of_lt (by rw [e]; omega), e]
/-- how many of the first n bits are set -/
def pcb (x : Nat) : Nat → Nat
  | 0 => 0
  | n + 1 => Nat.add (pcb x n) (Nat.land 1 (Nat.shiftRight x n))
def bc1 (x : Nat) : Nat := Nat.sub x (Nat.land (Nat.shiftRight x 1) 1431655765)
def bc2 (x : Nat) : Nat := Nat.add (Nat.land x 858993459) (Nat.land (Nat.shiftRight x 2) 858993459)
def bc3 (x : Nat) : Nat := Nat.land (Nat.add x (Nat.shiftRight x 4)) 252645135
def bc4 (x : Nat) : Nat := Nat.add x (Nat.shiftRight x 8)
def bc5 (x : Nat) : Nat := Nat.land (Nat.add x (Nat.shiftRight x 16)) 63
def alB : Nat → (Nat → Bool) → Bool
  | 0, _ => true
  | n + 1, f => (f n).and (alB n f)
theorem alB_spec {f : Nat → Bool} : ∀ n, alB n f = true → ∀ k, k < n → f k = true
  | 0, _, k, hk => absurd hk (Nat.not_lt_zero _)
  | n + 1, h, k, hk => by
    have h2 : f n = true ∧ alB n f = true := (Bool.and_eq_true _ _).mp h
    by_cases e : k = n
    · rw [e]; exact h2.1
    · exact alB_spec n h2.2 k (by omega)
set_option maxRecDepth 100000 in
theorem bc_all : alB 256 (fun h => alB 256 (fun l => Nat.beq (bc5 (bc4 (bc3 (bc2 (bc1 (Nat.add (Nat.mul 256 h) l)))))) (pcb (Nat.add (Nat.mul 256 h) l) 16))) = true := by decide +kernel
theorem bc_eq {x : Nat} (hx : x < 65536) : bc5 (bc4 (bc3 (bc2 (bc1 x)))) = pcb x 16 := by
  have h := alB_spec 256 (alB_spec 256 bc_all (x / 256) (by omega)) (x % 256) (by omega)
  have e : Nat.add (Nat.mul 256 (x / 256)) (x % 256) = x := Nat.div_add_mod x 256
  rw [e] at h
  exact Nat.eq_of_beq_eq_true h
theorem pcb_s (x n : Nat) : pcb x (n + 1) = pcb x n + if x.testBit n = true then 1 else 0 := by
  show pcb x n + (1 &&& (x >>> n)) = _
  have h : x.testBit n = (1 &&& (x >>> n) != 0) := rfl
  have h2 : 1 &&& (x >>> n) < 2 := by
    have : 1 &&& (x >>> n) ≤ 1 := Nat.and_le_left
    omega
  rw [h]
  by_cases e : 1 &&& (x >>> n) = 0
  · rw [e]; rfl
  · have e1 : 1 &&& (x >>> n) = 1 := by omega
    rw [e1]; rfl
theorem sh_le (x k : Nat) : x >>> k ≤ x := by
  rw [Nat.shiftRight_eq_div_pow]
  exact Nat.div_le_self _ _
theorem iand_nat' {a m : Nat} (ha : a < 2147483648) (hm : m < 2147483648) : iand (a : Int) ((m : Nat) : Int) = ((Nat.land a m : Nat) : Int) := iand_nat ha hm
theorem land_le (a m : Nat) : Nat.land a m ≤ a := Nat.and_le_left
theorem w32_nat {a : Nat} (h : a < 2147483648) : w32 (a : Int) = (a : Int) := w32_id (by unfold rg; omega)
theorem bcs1 {x : Nat} (h : x < 65536) : w32 ((x : Int) - iand (iushr (x : Int) 1) 1431655765) = ((bc1 x : Nat) : Int) ∧ bc1 x < 65536 := by
  have u : iushr (x : Int) 1 = ((Nat.shiftRight x 1 : Nat) : Int) := iushr_nat (k := 1) (by omega) (by decide)
  have l : Nat.shiftRight x 1 ≤ x := sh_le x 1
  unfold bc1
  rw [u]
  generalize Nat.shiftRight x 1 = d at l ⊢
  have a : iand ((d : Nat) : Int) 1431655765 = ((Nat.land d 1431655765 : Nat) : Int) := iand_nat' (m := 1431655765) (by omega) (by decide)
  have m := land_le d 1431655765
  rw [a]
  generalize Nat.land d 1431655765 = e at m ⊢
  have k : Nat.sub x e = x - e := rfl
  rw [k, ← w32_nat (a := x - e) (by omega)]
  refine ⟨?_, by omega⟩
  rw [show (x : Int) - (e : Int) = ((x - e : Nat) : Int) by omega]
theorem bcs2 {x : Nat} (h : x < 65536) : w32 (iand (x : Int) 858993459 + iand (iushr (x : Int) 2) 858993459) = ((bc2 x : Nat) : Int) ∧ bc2 x < 131072 := by
  have u : iushr (x : Int) 2 = ((Nat.shiftRight x 2 : Nat) : Int) := iushr_nat (k := 2) (by omega) (by decide)
  have l : Nat.shiftRight x 2 ≤ x := sh_le x 2
  unfold bc2
  rw [u]
  generalize Nat.shiftRight x 2 = d at l ⊢
  have a : iand ((d : Nat) : Int) 858993459 = ((Nat.land d 858993459 : Nat) : Int) := iand_nat' (m := 858993459) (by omega) (by decide)
  have a2 : iand ((x : Nat) : Int) 858993459 = ((Nat.land x 858993459 : Nat) : Int) := iand_nat' (m := 858993459) (by omega) (by decide)
  have m := land_le d 858993459
  have m2 := land_le x 858993459
  rw [a, a2]
  generalize Nat.land d 858993459 = e at m ⊢
  generalize Nat.land x 858993459 = f at m2 ⊢
  have k : Nat.add f e = f + e := rfl
  rw [k, ← w32_nat (a := f + e) (by omega)]
  refine ⟨?_, by omega⟩
  rw [show (f : Int) + (e : Int) = ((f + e : Nat) : Int) by omega]
theorem bcs3 {x : Nat} (h : x < 131072) : iand (w32 ((x : Int) + iushr (x : Int) 4)) 252645135 = ((bc3 x : Nat) : Int) ∧ bc3 x < 262144 := by
  have u : iushr (x : Int) 4 = ((Nat.shiftRight x 4 : Nat) : Int) := iushr_nat (k := 4) (by omega) (by decide)
  have l : Nat.shiftRight x 4 ≤ x := sh_le x 4
  unfold bc3
  rw [u]
  generalize Nat.shiftRight x 4 = d at l ⊢
  have k : Nat.add x d = x + d := rfl
  rw [k, show (x : Int) + (d : Int) = ((x + d : Nat) : Int) by omega, w32_nat (by omega)]
  have kk : x + d < 262144 := by omega
  generalize x + d = e at kk ⊢
  have a : iand ((e : Nat) : Int) 252645135 = ((Nat.land e 252645135 : Nat) : Int) := iand_nat' (m := 252645135) (by omega) (by decide)
  have m := land_le e 252645135
  exact ⟨a, Nat.lt_of_le_of_lt m kk⟩
theorem bcs4 {x : Nat} (h : x < 262144) : w32 ((x : Int) + iushr (x : Int) 8) = ((bc4 x : Nat) : Int) ∧ bc4 x < 524288 := by
  have u : iushr (x : Int) 8 = ((Nat.shiftRight x 8 : Nat) : Int) := iushr_nat (k := 8) (by omega) (by decide)
  have l : Nat.shiftRight x 8 ≤ x := sh_le x 8
  unfold bc4
  rw [u]
  generalize Nat.shiftRight x 8 = d at l ⊢
  have k : Nat.add x d = x + d := rfl
  rw [k, show (x : Int) + (d : Int) = ((x + d : Nat) : Int) by omega, w32_nat (by omega)]
  exact ⟨rfl, by omega⟩
theorem bcs5 {x : Nat} (h : x < 524288) : iand (w32 ((x : Int) + iushr (x : Int) 16)) 63 = ((bc5 x : Nat) : Int) := by
  have u : iushr (x : Int) 16 = ((Nat.shiftRight x 16 : Nat) : Int) := iushr_nat (k := 16) (by omega) (by decide)
  have l : Nat.shiftRight x 16 ≤ x := sh_le x 16
  unfold bc5
  rw [u]
  generalize Nat.shiftRight x 16 = d at l ⊢
  have k : Nat.add x d = x + d := rfl
  rw [k, show (x : Int) + (d : Int) = ((x + d : Nat) : Int) by omega, w32_nat (by omega)]
  exact iand_nat' (m := 63) (by omega) (by decide)
theorem q_bits {c LN : Nat → Nat} {B : Fl} {E : El} {x : Nat} {Q : Int → Prop} (hx : x < 65536) (h : Q ((pcb x 16 : Nat) : Int)) : W_J6_bitCount_0f7a4 c LN (x : Int) B E Q := by
  unfold W_J6_bitCount_0f7a4
  rw [← bc_eq hx] at h
  obtain ⟨e1, k1⟩ := bcs1 hx
  rw [e1]
  obtain ⟨e2, k2⟩ := bcs2 k1
  rw [e2]
  obtain ⟨e3, k3⟩ := bcs3 k2
  rw [e3]
  obtain ⟨e4, k4⟩ := bcs4 k3
  rw [e4, bcs5 k4]
  exact h
end Bits
section Learn
variable {c LN : Nat → Nat} {B : Fl} {E : El} {A : Il}
/-- how many of the first n blocks crew x knows -/
def knn (A : Il) (x : Int) : Nat → Int
  | 0 => 0
  | n + 1 => knn A x n + if A 28 (16 * x + (n : Int)) = 0 then 0 else 1
theorem knn_rg (A : Il) (x : Int) : ∀ n : Nat, 0 ≤ knn A x n ∧ knn A x n ≤ (n : Int)
  | 0 => ⟨Int.le_refl _, Int.le_refl _⟩
  | n + 1 => by
    have h := knn_rg A x n
    show 0 ≤ knn A x n + _ ∧ knn A x n + _ ≤ ((n + 1 : Nat) : Int)
    split <;> omega
theorem knn_s {x z : Int} {n : Nat} (h : (if A 28 (16 * x + (n : Int)) = 0 then (0 : Int) else 1) = z) : knn A x (n + 1) = knn A x n + z := by
  rw [← h]
  rfl
theorem m_learn_go {x : Int} {Q : Int → Il → Prop} (hx : 0 ≤ x ∧ x < 6) (h : Q (knn A x 16) A) : ∀ k n : Nat, n + k = 16 → W_X9_learn_54 (k + 1) x (knn A x n) (16 * x + (n : Int)) A Q
  | 0, n, e => by
    have e' : n = 16 := by omega
    subst e'
    have e1 : w32 (16 * x) = 16 * x := w32_id (by unfold rg; omega)
    have e2 : w32 (16 * x + 16) = 16 * x + 16 := w32_id (by unfold rg; omega)
    refine br_T (by rw [e1, e2]; omega) h
  | k + 1, n, e => by
    have hn := knn_rg A x n
    have ih := m_learn_go hx h k (n + 1) (by omega)
    have e1 : w32 (16 * x) = 16 * x := w32_id (by unfold rg; omega)
    have e2 : w32 (16 * x + 16) = 16 * x + 16 := w32_id (by unfold rg; omega)
    have e3 : w32 (16 * x + (n : Int) + 1) = 16 * x + ((n + 1 : Nat) : Int) := by
      rw [w32_id (by unfold rg; omega)]
      omega
    have go : ∀ z : Int, knn A x (n + 1) = knn A x n + z → (z = 0 ∨ z = 1) → W_X9_learn_82 (fun y0 y1 y2 A' => W_X9_learn_54 (k + 1) y0 y1 y2 A' Q) x (16 * x + (n : Int)) z (knn A x n) A Q := by
      intro z ez hz
      show W_X9_learn_54 (k + 1) x (w32 (knn A x n + z)) (w32 (16 * x + (n : Int) + 1)) A Q
      rw [e3, w32_id (by unfold rg; omega), ← ez]
      exact ih
    refine br_F (by rw [e1, e2]; omega) ⟨by omega, by omega, ?_⟩
    by_cases c1 : A 28 (16 * x + (n : Int)) = 0
    · exact br_T c1 (go 0 (knn_s (if_pos c1)) (Or.inl rfl))
    · exact br_F c1 (go 1 (knn_s (if_neg c1)) (Or.inr rfl))
theorem knn_pcb {x : Int} {z : Nat} (h : ∀ b : Nat, b < 16 → (z.testBit b = true ↔ ¬ A 28 (16 * x + (b : Int)) = 0)) : ∀ n : Nat, n ≤ 16 → knn A x n = ((pcb z n : Nat) : Int)
  | 0, _ => rfl
  | n + 1, hn => by
    rw [pcb_s]
    show knn A x n + (if A 28 (16 * x + (n : Int)) = 0 then 0 else 1) = _
    rw [knn_pcb h n (by omega)]
    have w := h n (by omega)
    by_cases c1 : A 28 (16 * x + (n : Int)) = 0
    · rw [if_pos c1, if_neg (fun w2 => w.1 w2 c1)]
      rfl
    · rw [if_neg c1, if_pos (w.2 c1)]
      rfl
set_option maxHeartbeats 1000000 in
theorem sim_learn {a0 a1 : Int} (hR : Rep c LN B E A) (hp : pz A ≤ 1022) (hr0 : rg a0) (hr1 : rg a1) : ∃ (ans : Int) (A' : Il), (∀ Q, Q ans A' → W_X9_learn a0 a1 A Q) ∧ pz A' ≤ pz A + 2 ∧ W_X8_learn c LN 0 a0 a1 B E (fun z B' E' => A' 0 0 = 0 ∧ z = ans ∧ Rep c LN B' E' A') (fun X9 B' E' => ((X9 = "java/lang/IndexOutOfBoundsException" ∧ A' 0 0 = 1)) ∧ Rep c LN B' E' A') := by
  obtain ⟨gG, gS, gB, g0, gH, gE, gC, gN, gK, gL, gR, gD, gY, gU, gW, gP, gT, gX, gZ⟩ := id hR
  obtain ⟨⟨b1, b2, b3⟩, -⟩ := id gB
  obtain ⟨⟨c1, c2, c3⟩, -⟩ := id gC
  obtain ⟨n1, n2, n3⟩ := id gN
  have h6 : 0 ≤ A 6 0 ∧ A 6 0 ≤ 16 := by omega
  have h23 : 0 ≤ A 23 0 ∧ A 23 0 ≤ 6 := by omega
  by_cases hx : 0 ≤ a0 ∧ a0 < A 23 0
  · by_cases hy : 0 ≤ a1 ∧ a1 < A 6 0
    · obtain ⟨k0, k1, k2⟩ := n1 a0 hx.1 hx.2
      have hk := kd10 (c := c) (v := 130 + a0.toNat) (by omega) (by omega) c3
      obtain ⟨z, ez⟩ := Int.eq_ofNat_of_zero_le k0
      have z1 : z < 65536 := by omega
      have tz : (B 402 (130 + a0.toNat)).toNat = z := by omega
      have ay : a1 = ((a1.toNat : Nat) : Int) := by omega
      have y2 : 2 ^ a1.toNat < 65536 := by
        have : 2 ^ a1.toNat < 2 ^ 16 := Nat.pow_lt_pow_right (by decide) (by omega)
        omega
      have eo : ior (B 402 (130 + a0.toNat)) (ishl 1 a1) = ((z ||| 2 ^ a1.toNat : Nat) : Int) := by
        rw [ez, ay, ishl_one _ (by omega)]
        exact ior_nat z1 y2
      have z2 : z ||| 2 ^ a1.toNat < 65536 := Nat.or_lt_two_pow (n := 16) z1 y2
      have e1 : w32 (16 * a0) = 16 * a0 := w32_id (by unfold rg; omega)
      have e2 : w32 (16 * a0 + a1) = 16 * a0 + a1 := w32_id (by unfold rg; omega)
      have tb : ∀ b : Nat, b < 16 → ((z ||| 2 ^ a1.toNat).testBit b = true ↔ ¬ ui (sc A 0 0) 28 (16 * a0 + a1) 1 28 (16 * a0 + (b : Int)) = 0) := fun b hb => by
        have w := k2 (b : Int) (by omega) (by omega)
        rw [tz] at w
        rw [Nat.testBit_or, Nat.testBit_two_pow]
        by_cases eb : a1.toNat = b
        · have : 16 * a0 + (b : Int) = 16 * a0 + a1 := by omega
          rw [this, ui_s]
          simp [eb]
        · rw [ui_j (by omega)]
          have : (b : Int).toNat = b := by omega
          rw [this] at w
          rw [decide_eq_false eb, Bool.or_false]
          exact w
      refine ⟨knn (ui (sc A 0 0) 28 (16 * a0 + a1) 1) a0 16, ui (sc A 0 0) 28 (16 * a0 + a1) 1, fun Q hQ => m_isCrew1 h23 hx (br_F (by decide) (m_isBlock1 h6 hy (br_F (by decide) ?_))), ?_, rfl, q_crewOf1 gC hx (q_block1 gB hy ⟨hk, ?_⟩)⟩
      · unfold W_X9_learn_22
        refine br_T le0 ?_
        rw [e1, e2]
        refine ⟨by omega, by omega, 17, ?_⟩
        have w := m_learn_go (A := ui (sc A 0 0) 28 (16 * a0 + a1) 1) (Q := Q) (x := a0) (by omega) hQ 16 0 rfl
        rw [show 16 * a0 + ((0 : Nat) : Int) = 16 * a0 by omega] at w
        exact w
      · exact pz_fr rfl (fun _ => rfl) (fun _ => rfl)
      · have e3 : u2 B 402 (130 + a0.toNat) (ior (B 402 (130 + a0.toNat)) (ishl 1 a1)) 402 (130 + a0.toNat) = ((z ||| 2 ^ a1.toNat : Nat) : Int) := u2_s.trans eo
        rw [e3, eo]
        refine q_bits z2 ⟨rfl, (knn_pcb tb 16 (Nat.le_refl _)).symm, ?_⟩
        have hB : ∀ k v, k ≠ 402 → u2 B 402 (130 + a0.toNat) ((z ||| 2 ^ a1.toNat : Nat) : Int) k v = B k v := fun k v h => u2_k h
        have hA : ∀ a j, (a ≠ 0 ∧ a ≠ 28) → ui (sc A 0 0) 28 (16 * a0 + a1) 1 a j = A a j := fun a j h => (ui_k h.2).trans (sc_k h.1)
        refine ⟨gG.fr (fun k v h => hB k v (by omega)) (fun a j h => hA a j (by omega)), gS.fr (fun k v h => hB k v (by omega)) (fun a j h => hA a j (by omega)), gB.fr (fun k v h => hB k v (by omega)) (fun a j h => hA a j (by omega)), g0.fr (fun a j h => hA a j (by omega)), gH.fr (fun k v h => hB k v (by omega)) (fun a j h => hA a j (by omega)), gE.fr (fun k v h => hB k v (by omega)) (fun a j h => hA a j (by omega)), gC.fr (fun k v h => hB k v (by omega)) (fun a j h => hA a j (by omega)), ?_, gK.fr (fun k v h => hB k v (by omega)) (fun a j h => hA a j (by omega)), gL.fr (fun k v h => hB k v (by omega)) (fun a j h => hA a j (by omega)), gR.fr (fun _ => rfl) (fun _ => rfl) (fun a j h => hA a j (by omega)), gD.fr (fun k v h => hB k v (by omega)) (fun _ _ => rfl) (fun a j h => hA a j (by omega)), gY.fr (fun k v h => hB k v (by omega)) (fun _ _ => rfl) (fun a j h => hA a j (by omega)), gU.fr (fun k v h => hB k v (by omega)) (fun _ _ => rfl) (fun a j h => hA a j (by omega)), gW.fr (fun a j h => hA a j (by omega)), gP.fr (fun k v h => hB k v (by omega)) (fun _ _ => rfl) (fun a j h => hA a j (by omega)), gT.fr (fun k v h => hB k v (by omega)) (fun _ _ => rfl) (fun _ _ => rfl) (fun a j h => hA a j (by omega)), gX.fr (fun a j h => hA a j (by omega)), gZ.fr (fun a j h => hA a j (by omega))⟩
        · have eA : ui (sc A 0 0) 28 (16 * a0 + a1) 1 23 0 = A 23 0 := rfl
          refine ⟨fun j j0 j1 => ?_, fun j j0 j1 => ?_, fun j j0 j1 => ?_⟩
          · by_cases ej : j = a0
            · subst ej
              rw [u2_s]
              refine ⟨by omega, by omega, fun b hb0 hb1 => ?_⟩
              have w := tb b.toNat (by omega)
              rw [show ((b.toNat : Nat) : Int) = b by omega] at w
              exact w
            · obtain ⟨m1, m2, m3⟩ := n1 j j0 j1
              rw [u2_v (by omega)]
              refine ⟨m1, m2, fun b hb0 hb1 => ?_⟩
              rw [ui_j (by omega)]
              exact m3 b hb0 hb1
          · by_cases ej : j = 16 * a0 + a1
            · rw [ej, ui_s]; exact Or.inr rfl
            · rw [ui_j ej]; exact n2 j j0 j1
          · have j0 : 16 * A 23 0 ≤ j := j0
            rw [ui_j (by omega)]
            exact n3 j j0 j1
    · exact ⟨0, sc A 0 1, fun Q hQ => m_isCrew1 h23 hx (br_F (by decide) (m_isBlock0 h6 hy (br_T rfl (by unfold W_X9_learn_21 W_X9_learn_22; exact br_F no1 hQ)))), pz_thr, rfl, q_crewOf1 gC hx (q_block0 gB hy ⟨⟨rfl, rfl⟩, hR.thr⟩)⟩
  · exact ⟨0, sc A 0 1, fun Q hQ => m_isCrew0 h23 hx (br_T rfl (by unfold W_X9_learn_21 W_X9_learn_22; exact br_F no1 hQ)), pz_thr, rfl, q_crewOf0 gC hx ⟨⟨rfl, rfl⟩, hR.thr⟩⟩
end Learn
