/-! Math.max, Math.min -/
theorem mm_words : (Cond.static Lib.Math.max.name ∈ lw_good ∧ Cond.code Lib.Math.max.name Lib.Math.max.code 2 (some .int) ∈ lw_good) ∧ (Cond.static Lib.Math.min.name ∈ lw_good ∧ Cond.code Lib.Math.min.name Lib.Math.min.code 2 (some .int) ∈ lw_good) ∧ Cond.initialized "java/lang/Math" ∈ lw_good :=
  ⟨⟨List.mem_filter.mpr ⟨by decide +kernel, by decide +kernel⟩, List.mem_filter.mpr ⟨by decide +kernel, by decide +kernel⟩⟩, ⟨List.mem_filter.mpr ⟨by decide +kernel, by decide +kernel⟩, List.mem_filter.mpr ⟨by decide +kernel, by decide +kernel⟩⟩, List.mem_filter.mpr ⟨by decide +kernel, by decide +kernel⟩⟩
theorem rg_ite {p : Prop} [Decidable p] {a b : Int} (ha : rg a) (hb : rg b) : rg (if p then a else b) := by
  split
  · exact ha
  · exact hb
section RulesM
variable {G : Gp} {own : String} {cc : ByteArray} {nL : Nat} {X : Xt} {QQ : State → Prop} {pc : Nat} {L st : List PV} {S : Shp} {F : Fl} {I : Il} {ret : Option FieldType} {nm : String} {d : Nat}
theorem K_mmax (C : CO G own cc nL X) (M : MX (d + 1) ret nm X) {index : Nat} {a b : Int} (hl : Cond.methodLink own index Lib.Math.max.name ∈ lw_good) (hd : decode cc pc = .ok (.invokestatic index, 3)) (hlen : L.length = nL) (hcat : (st.map fun v => (tv v).category).sum ≤ 8) (h : J G X QQ (pc + 3) L (vi (if a < b then b else a) :: st) S F I) : J G X QQ pc L (vi b :: vi a :: st) S F I := by
  intro H locs ls cells slots hW hS hls hL hst hca hcb
  have hb : rg b := whi hst
  have ha : rg a := whi (wt hst)
  refine va_mmax C.1 C.2.1 (by rw [C.2.2.2.2.2.2.1, ← hlen]; exact hls.1.symm) C.2.2.1 (C.2.2.2.1 _ hl) (C.2.2.2.1 _ mm_words.1.1) (C.2.2.2.1 _ mm_words.2.2) (C.2.2.2.1 _ mm_words.1.2) (by rw [M.1]; omega) (by have := cat_le st hcat; have h9 := M.2.1; omega) (by omega) (by omega) hd ?_
  have e : Value.int (if Int32.ofInt a < Int32.ofInt b then Int32.ofInt b else Int32.ofInt a) = tv (vi (if a < b then b else a)) := by
    show _ = Value.int (Int32.ofInt (if a < b then b else a))
    by_cases c : a < b
    · rw [if_pos c, if_pos ((i_lt ha hb).mpr c)]
    · rw [if_neg c, if_neg (fun w => c ((i_lt ha hb).mp w))]
  rw [e]
  exact h H locs ls cells slots hW hS hls hL (wci (rg_ite hb ha) (wt (wt hst))) hca hcb
theorem K_mmin (C : CO G own cc nL X) (M : MX (d + 1) ret nm X) {index : Nat} {a b : Int} (hl : Cond.methodLink own index Lib.Math.min.name ∈ lw_good) (hd : decode cc pc = .ok (.invokestatic index, 3)) (hlen : L.length = nL) (hcat : (st.map fun v => (tv v).category).sum ≤ 8) (h : J G X QQ (pc + 3) L (vi (if b < a then b else a) :: st) S F I) : J G X QQ pc L (vi b :: vi a :: st) S F I := by
  intro H locs ls cells slots hW hS hls hL hst hca hcb
  have hb : rg b := whi hst
  have ha : rg a := whi (wt hst)
  refine va_mmin C.1 C.2.1 (by rw [C.2.2.2.2.2.2.1, ← hlen]; exact hls.1.symm) C.2.2.1 (C.2.2.2.1 _ hl) (C.2.2.2.1 _ mm_words.2.1.1) (C.2.2.2.1 _ mm_words.2.2) (C.2.2.2.1 _ mm_words.2.1.2) (by rw [M.1]; omega) (by have := cat_le st hcat; have h9 := M.2.1; omega) (by omega) (by omega) hd ?_
  have e : Value.int (if Int32.ofInt b < Int32.ofInt a then Int32.ofInt b else Int32.ofInt a) = tv (vi (if b < a then b else a)) := by
    show _ = Value.int (Int32.ofInt (if b < a then b else a))
    by_cases c : b < a
    · rw [if_pos c, if_pos ((i_lt hb ha).mpr c)]
    · rw [if_neg c, if_neg (fun w => c ((i_lt hb ha).mp w))]
  rw [e]
  exact h H locs ls cells slots hW hS hls hL (wci (rg_ite hb ha) (wt (wt hst))) hca hcb
end RulesM
