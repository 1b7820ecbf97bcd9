/-! the law's own rows: their places; what they hold, beside the reference's numbers -/
def Ls (la : Nat → Nat) (S : Shp) : Prop := (∀ k, k < 4 → sK S (la k) = 20 ∧ (sN S (la k) : Int) = (if k = 0 then 24 else if k = 1 then 40 else if k = 2 then 48 else 8)) ∧ ∀ k j, k < 4 → j < 4 → la k = la j → k = j
def lA (la : Nat → Nat) (I : Il) : Il := fun k j => if k < 4 then I (la k) j else 0
section LsS
variable {la : Nat → Nat} {S : Shp} {I : Il}
theorem Ls.k (h : Ls la S) {k : Nat} (hk : k < 4) : sK S (la k) = 20 := (h.1 k hk).1
theorem Ls.n0 (h : Ls la S) : (sN S (la 0) : Int) = 24 := (h.1 0 (by decide)).2
theorem Ls.n1 (h : Ls la S) : (sN S (la 1) : Int) = 40 := (h.1 1 (by decide)).2
theorem Ls.n2 (h : Ls la S) : (sN S (la 2) : Int) = 48 := (h.1 2 (by decide)).2
theorem Ls.n3 (h : Ls la S) : (sN S (la 3) : Int) = 8 := (h.1 3 (by decide)).2
theorem lA_ui (h : Ls la S) {k : Nat} (hk : k < 4) {j z : Int} : lA la (ui I (la k) j z) = ui (lA la I) k j z := by
  funext k' j'
  show (if k' < 4 then (if la k' = la k ∧ j' = j then z else I (la k') j') else 0) = if k' = k ∧ j' = j then z else (if k' < 4 then I (la k') j' else 0)
  by_cases c : k' < 4
  · rw [if_pos c, if_pos c]
    by_cases e : k' = k
    · subst e
      by_cases e2 : j' = j
      · rw [if_pos ⟨rfl, e2⟩, if_pos ⟨rfl, e2⟩]
      · rw [if_neg (fun w => e2 w.2), if_neg (fun w => e2 w.2)]
    · rw [if_neg (fun w => e (h.2 _ _ c hk w.1)), if_neg (fun w => e w.1)]
  · rw [if_neg c, if_neg c, if_neg (fun w => c (by rw [w.1]; exact hk))]
end LsS
/-- the next of four in the ring -/
def nx (b : Int) : Int := if b = 3 then 0 else b + 1
theorem nx_w {b : Int} (hb : 0 ≤ b ∧ b < 4) : w32 (Int.tmod (w32 (b + 1)) 4) = nx b := by
  have h : b = 0 ∨ b = 1 ∨ b = 2 ∨ b = 3 := by omega
  rcases h with rfl | rfl | rfl | rfl <;> decide
/-- the whole -/
def Lg (L A : Il) : Prop := L 3 0 = A 1 0 ∧ L 3 1 = A 2 0 ∧ A 3 0 = 0 ∧ L 3 3 = A 52 0
/-- tracks -/
def Lst (L A : Il) : Prop := ∀ s : Int, 0 ≤ s → s < 4 → L 3 (4 + s) = A 5 s
/-- the blocks laid so far -/
def Lbk (m : Int) (L A : Il) : Prop := A 6 0 = m ∧ ∀ k : Int, 0 ≤ k → k < m → A 7 (2 * k) = k ∧ A 7 (2 * k + 1) = nx k ∧ L 1 k = A 8 k ∧ L 1 (4 + k) = A 9 k ∧ L 1 (8 + k) = A 10 k ∧ L 1 (12 + k) = A 13 k ∧ L 1 (16 + k) = A 14 k ∧ L 1 (20 + k) = A 15 k ∧ L 1 (24 + k) = A 16 k ∧ L 1 (28 + k) = A 17 k ∧ (A 17 k ≠ -1 → L 1 (32 + k) = A 18 k) ∧ L 1 (36 + k) = A 11 k ∧ A 12 k = 0
/-- the engines and crews made so far -/
def Lcw (m : Int) (L A : Il) : Prop := A 19 0 = m ∧ A 23 0 = m ∧ ∀ n : Int, 0 ≤ n → n < m → L 2 (16 * n + 1) = A 20 n ∧ A 20 n ≤ 3 ∧ L 2 (16 * n + 13) = A 26 n ∧ L 2 (16 * n + 14) = A 27 n ∧ (0 ≤ L 2 (16 * n + 15) ∧ L 2 (16 * n + 15) < 16) ∧ ∀ b : Int, 0 ≤ b → b < 4 → ((L 2 (16 * n + 15)).toNat.testBit b.toNat = true ↔ ¬ A 28 (16 * n + b) = 0)
/-- a train -/
def LT (n : Int) (L A : Il) : Prop := A 37 n = n ∧ A 38 n = n ∧ L 2 (16 * n + 3) = A 39 n ∧ A 39 n ≤ 2 ∧ L 2 (16 * n + 4) = A 40 n ∧ A 40 n < 4 ∧ L 2 (16 * n + 5) = A 41 n ∧ (A 39 n = 2 → L 2 (16 * n + 6) = A 42 n) ∧ L 2 (16 * n + 2) = A 44 n ∧ A 44 n ≤ 5 ∧ L 2 (16 * n + 7) = A 46 n ∧ L 2 (16 * n + 8) = A 47 n ∧ (Rn (A 39 n) → L 2 (16 * n + 9) = A 48 n ∧ L 2 (16 * n + 10) = A 49 n) ∧ L 2 (16 * n + 11) = A 50 n ∧ A 50 n < 3 ∧ (A 50 n ≠ -1 → L 2 (16 * n + 12) = A 51 n) ∧ ∀ i : Int, 0 ≤ i → i < A 47 n → L 0 (8 * n + i) = A 45 (8 * n + i)
/-- the trains -/
def Ltr (L A : Il) : Prop := (∀ n : Int, 0 ≤ n → n < 3 → L 2 (16 * n) = A 36 n ∧ (A 36 n = 1 → LT n L A)) ∧ ∀ n : Int, 3 ≤ n → n < 6 → A 36 n = 0
def LR (L A : Il) : Prop := Lg L A ∧ Lst L A ∧ Lbk 4 L A ∧ Lcw 3 L A ∧ Ltr L A
/-- no car has a bill: two for each -/
theorem wgt_two {A : Il} {t : Int} : ∀ n : Nat, (∀ p : Int, 0 ≤ p → p < (n : Int) → A 33 (A 43 (10 * t + p)) = -1) → wgt A t n = 2 * (n : Int)
  | 0, _ => rfl
  | n + 1, h => by
    have ih := wgt_two n (fun p p0 p1 => h p p0 (by omega))
    show wgt A t n + (if A 33 (A 43 (10 * t + (n : Int))) = -1 then 2 else 5) = _
    rw [if_pos (h (n : Int) (by omega) (by omega)), ih]
    omega
theorem Rep.wgt2 {c LN : Nat → Nat} {B : Fl} {E : El} {A : Il} {t : Int} (hR : Rep c LN B E A) (h0 : 0 ≤ t) (h1 : t < 6) (h36 : A 36 t = 1) : wgt A t (A 44 t).toNat = 2 * A 44 t := by
  obtain ⟨gG, gS, gB, g0, gH, gE, gC, gN, gK, gL, gR, gD, gY, gU, gW, gP, gT, gX, gZ⟩ := id hR
  obtain ⟨u1, u2⟩ := gU t h0 h1
  obtain ⟨u3, u4⟩ := u2 h36
  have l54 := gL.1
  have h44 : 0 ≤ A 44 t := u3.2.1
  rw [wgt_two (A 44 t).toNat (fun p p0 p1 => by
    obtain ⟨w1, w2, -⟩ := u4 p p0 (by omega)
    have k8 := gK.2.2.2.2.2 _ w1 w2
    omega)]
  omega
section Nums
variable {la : Nat → Nat} {S : Shp} {F : Fl} {I : Il} {A : Il}
theorem ix {n i : Int} (h0 : 0 ≤ n) (h1 : n < 3) (i0 : 0 ≤ i) (i1 : i < 16) : w32 (16 * n + i) = 16 * n + i := w32_id (by unfold rg; omega)
theorem bx {b i : Int} (h0 : 0 ≤ b) (h1 : b < 4) (i0 : 0 ≤ i) (i1 : i < 40) : w32 (i + b) = i + b := w32_id (by unfold rg; omega)
theorem l_other {b s : Int} {Q : Int → Prop} (hb : 0 ≤ b ∧ b < 4) (h7 : A 7 (2 * b) = b ∧ A 7 (2 * b + 1) = nx b) (h : Q (oth A b s)) : V_L_other b s S F I Q := by
  unfold V_L_other
  rw [nx_w hb]
  unfold oth at h
  rw [h7.1, h7.2] at h
  refine ⟨fun c => ⟨fun c2 => ?_, fun c2 => ?_⟩, fun c => ?_⟩
  · rw [if_neg (fun w => c w.symm), if_neg (fun w => c2 w.symm)] at h
    exact h
  · rw [if_neg (fun w => c w.symm), if_pos c2.symm] at h
    exact h
  · rw [if_pos c.symm] at h
    exact h
theorem l_taken_go {s : Int} {Q : Int → Prop} (hS : Ls la S) (ht : ∀ n : Int, 0 ≤ n → n < 3 → I (la 2) (16 * n) = A 36 n ∧ (A 36 n = 0 ∨ A 36 n = 1) ∧ (A 36 n = 1 → I (la 2) (16 * n + 4) = A 40 n ∧ A 39 n ≤ 2)) (h : Q (tkn A s 3)) : ∀ k n : Nat, n + k = 3 → V_L_taken_4 (k + 1) s (la 2) (tkn A s n) (16 * (n : Int)) S F I Q
  | 0, n, e => by
    have e' : n = 3 := by omega
    subst e'
    exact br_T (by decide) h
  | k + 1, n, e => by
    have ih := l_taken_go hS ht h k (n + 1) (by omega)
    have n2 := hS.n2
    obtain ⟨t1, t2, t3⟩ := ht (n : Int) (by omega) (by omega)
    have e4 : w32 (16 * (n : Int) + 4) = 16 * (n : Int) + 4 := ix (by omega) (by omega) (by decide) (by decide)
    have e16 : w32 (16 * (n : Int) + 16) = 16 * ((n + 1 : Nat) : Int) := by
      rw [w32_id (by unfold rg; omega)]
      omega
    have rgk := tkn_rg A s n
    have go : ∀ z : Int, (if ¬ A 36 (n : Int) = 0 ∧ ¬ A 39 (n : Int) = 3 ∧ A 40 (n : Int) = s then (1 : Int) else 0) = z → (z = 0 ∨ z = 1) → V_L_taken_4 (k + 1) s (la 2) (w32 (tkn A s n + z)) (w32 (16 * (n : Int) + 16)) S F I Q := fun z hz h01 => by
      rw [e16, w32_id (by unfold rg; omega), ← tkn_s hz]
      exact ih
    refine br_F (by omega) ⟨hS.k (by decide), by omega, by omega, ?_⟩
    rw [t1, e4]
    refine ⟨fun c => ?_, fun c => ⟨by omega, by omega, ?_⟩⟩
    · exact fun v hv => by
        rw [hv]
        exact go 0 (if_neg (fun w => by omega)) (Or.inl rfl)
    · obtain ⟨t4, t5⟩ := t3 c
      rw [t4]
      exact ⟨fun c2 v hv => by
        rw [hv]
        exact go 0 (if_neg (fun w => c2 w.2.2)) (Or.inl rfl), fun c2 v hv => by
        rw [hv]
        exact go 1 (if_pos ⟨by omega, by omega, c2⟩) (Or.inr rfl)⟩
theorem tkn_3 {s : Int} (h6 : ∀ n : Int, 3 ≤ n → n < 6 → A 36 n = 0) : tkn A s 6 = tkn A s 3 := by
  have e3 : tkn A s 4 = tkn A s 3 + 0 := tkn_s (n := 3) (if_neg (fun w => w.1 (h6 3 (by decide) (by decide))))
  have e4 : tkn A s 5 = tkn A s 4 + 0 := tkn_s (n := 4) (if_neg (fun w => w.1 (h6 4 (by decide) (by decide))))
  have e5 : tkn A s 6 = tkn A s 5 + 0 := tkn_s (n := 5) (if_neg (fun w => w.1 (h6 5 (by decide) (by decide))))
  omega
theorem l_taken {s : Int} {Q : Int → Prop} (hS : Ls la S) (hT : Ltr (lA la I) A) (h01 : ∀ n : Int, 0 ≤ n → n < 3 → A 36 n = 0 ∨ A 36 n = 1) (h : Q (tkn A s 6)) : V_L_taken s (la 2) S F I Q :=
  ⟨4, l_taken_go hS (fun n n0 n1 => ⟨(hT.1 n n0 n1).1, h01 n n0 n1, fun c => by
    obtain ⟨w1, w2, w3, w4, w5, -⟩ := (hT.1 n n0 n1).2 c
    exact ⟨w5, w4⟩⟩) (by rw [← tkn_3 hT.2]; exact h) 3 0 rfl⟩
theorem l_runs {n b : Int} {Q : Int → Prop} (hS : Ls la S) (h0 : 0 ≤ n) (h1 : n < 3) (hb : 0 ≤ b ∧ b < 4) (r1 : I (la 1) b = A 8 b) (r2 : I (la 1) (8 + b) = A 10 b) (r3 : I (la 1) (12 + b) = A 13 b) (r4 : I (la 2) (16 * n + 2) = A 44 n) (r5 : I (la 2) (16 * n + 1) = A 20 n) (h37 : A 37 n = n) (hw : wgt A n (A 44 n).toNat = 2 * A 44 n) (h8 : 2 ≤ A 8 b ∧ A 8 b ≤ 60) (h44 : 0 ≤ A 44 n ∧ A 44 n ≤ 10) (h20 : 1 ≤ A 20 n ∧ A 20 n ≤ 9) (h13 : A 13 b = 0 ∨ A 13 b = 1) (h : Q (rnv A n b)) : V_L_runs (16 * n) b (la 1) (la 2) S F I Q := by
  have n1 := hS.n1
  have n2 := hS.n2
  have e1 := ix (i := 1) h0 h1 (by decide) (by decide)
  have e2 := ix (i := 2) h0 h1 (by decide) (by decide)
  have e8 := bx (i := 8) hb.1 hb.2 (by decide) (by decide)
  have e12 := bx (i := 12) hb.1 hb.2 (by decide) (by decide)
  have hm : w32 (w32 (A 8 b * 2) * A 44 n) = w32 (A 8 b * (2 * A 44 n)) := by
    rw [w32_id (show rg (A 8 b * 2) by unfold rg; omega), Int.mul_assoc]
  have en : w32 (A 8 b + w32 (Int.tdiv (w32 (w32 (A 8 b * 2) * A 44 n)) (w32 (10 * A 20 n)))) = rnn A n b := by
    rw [hm]
    unfold rnn
    rw [hw, h37]
  have fin : ∀ s0 : Int, w32 (rnn A n b + s0) = rnm A n b → V_L_runs_46 b (la 1) s0 (rnn A n b) S F I Q := fun s0 hs => by
    refine fun v hv => ⟨hS.k (by decide), by omega, by omega, ?_⟩
    rw [hs] at hv
    rw [e12, r3, hv]
    unfold rnv at h
    refine ⟨fun c => ?_, fun c => ?_⟩
    · rw [if_pos (by omega)] at h
      exact h
    · rw [if_neg (by omega)] at h
      rw [Int.mul_comm]
      exact h
  refine ⟨hS.k (by decide), by omega, by omega, by omega, by omega, hS.k (by decide), by omega, by omega, by omega, by omega, ?_, fun v hv => ⟨by omega, by omega, ?_⟩⟩
  · rw [e1, r5, w32_id (by unfold rg; omega)]
    omega
  · rw [e1, e2, r1, r4, r5, en] at hv
    subst hv
    rw [e8, r1, r2]
    refine ⟨fun c => fin 0 ?_, fun c => ⟨by omega, by omega, fin _ ?_⟩⟩
    · unfold rnm
      rw [if_pos (by omega)]
      exact rnn_w n b
    · unfold rnm
      rw [if_neg (by omega)]
end Nums
