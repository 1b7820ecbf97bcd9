/-! entry, returns, throws, calls -/
section RulesC
variable {G : Gp} {own : String} {cc : ByteArray} {nL : Nat} {X : Xt} {QQ : State → Prop} {pc : Nat} {L st : List PV} {S : Shp} {F : Fl} {I : Il}
variable {Q : Option PV → Shp → Fl → Il → Prop} {QX : String → Shp → Fl → Il → Prop}
theorem ret_i (C : CO G own cc nL X) {z : Int} {ty : FieldType} (hd : decode cc pc = .ok (.ireturn, 1)) (hr : (xf X).sig.returnType = some ty) (hn : narrow ty (.int (Int32.ofInt z)) = .int (Int32.ofInt z)) (h : Q (some (vi z)) S F I) : J G X (QD X G Q QX) pc L [vi z] S F I := by
  intro H locs ls cells slots hW hS hls hL hst hca hcb
  refine Wmono (Q := MQ (xb X) (fun _ st o t => o = .returned (some (.int (Int32.ofInt z))) ∧ t.heap = H) (xa X) (xs X) cells slots (gAd G)) ?_ (W.zret (v := Int32.ofInt z) C.1 C.2.1 hr hn (fun t ht _ => ⟨rfl, ht⟩) hS.2.2 hd C.2.2.2.2.2.1)
  rintro t ⟨o, h1, h2, ⟨rfl, ht⟩, L9, hfe, hL9⟩
  exact ⟨_, h1, h2, Or.inl ⟨some (vi z), S, F, I, L9, cells, slots, rfl, fun x hx => by cases hx; exact whi hst, h, by rw [ht]; exact hW, hS.F ht, hfe, hL9, hca, hcb⟩⟩
theorem J_iret (C : CO G own cc nL X) {z : Int} (hd : decode cc pc = .ok (.ireturn, 1)) (hr : (xf X).sig.returnType = some .int) (h : Q (some (vi z)) S F I) : J G X (QD X G Q QX) pc L [vi z] S F I := ret_i C hd hr rfl h
theorem J_zret (C : CO G own cc nL X) {z : Int} (hd : decode cc pc = .ok (.ireturn, 1)) (hr : (xf X).sig.returnType = some .boolean) (hz : z = 0 ∨ z = 1) (h : Q (some (vi z)) S F I) : J G X (QD X G Q QX) pc L [vi z] S F I := ret_i C hd hr (nar_bool hz).1 h
theorem J_vret (C : CO G own cc nL X) (hd : decode cc pc = .ok (.return_, 1)) (hr : (xf X).sig.returnType = none) (h : Q none S F I) : J G X (QD X G Q QX) pc L [] S F I := by
  intro H locs ls cells slots hW hS hls hL hst hca hcb
  refine Wmono (Q := MQ (xb X) (fun _ st o t => o = .returned none ∧ t.heap = H) (xa X) (xs X) cells slots (gAd G)) ?_ (W.vret C.1 C.2.1 hr (fun t ht _ => ⟨rfl, ht⟩) hS.2.2 hd C.2.2.2.2.2.1)
  rintro t ⟨o, h1, h2, ⟨rfl, ht⟩, L9, hfe, hL9⟩
  exact ⟨_, h1, h2, Or.inl ⟨none, S, F, I, L9, cells, slots, rfl, (fun x hx => by cases hx), h, by rw [ht]; exact hW, hS.F ht, hfe, hL9, hca, hcb⟩⟩
theorem J_aret (C : CO G own cc nL X) {a : Option Nat} {rt : FieldType} (hd : decode cc pc = .ok (.areturn, 1)) (hr : (xf X).sig.returnType = some rt) (hrt : (∃ n, rt = .object n) ∨ ∃ t, rt = .array t) (h : Q (some (vr a)) S F I) : J G X (QD X G Q QX) pc L [vr a] S F I := by
  intro H locs ls cells slots hW hS hls hL hst hca hcb
  refine Wmono (Q := MQ (xb X) (fun _ st o t => o = .returned (some (va_rf a)) ∧ t.heap = H) (xa X) (xs X) cells slots (gAd G)) ?_ (W.aret (v := va_rf a) C.1 C.2.1 hr hrt (va_rf_or a) (fun t ht _ => ⟨rfl, ht⟩) hS.2.2 hd C.2.2.2.2.2.1)
  rintro t ⟨o, h1, h2, ⟨rfl, ht⟩, L9, hfe, hL9⟩
  exact ⟨_, h1, h2, Or.inl ⟨some (vr a), S, F, I, L9, cells, slots, rfl, fun x hx => by cases hx; trivial, h, by rw [ht]; exact hW, hS.F ht, hfe, hL9, hca, hcb⟩⟩
/-- an exception on its way, thrown or come back at pc -/
def JX (G : Gp) (X : Xt) (QQ : State → Prop) (E : String) (pc : Nat) (L : List PV) (S : Shp) (F : Fl) (I : Il) : Prop :=
  ∀ (H : Heap) (locs : List Loc) (ls : Array Slot) (cells slots : Nat) (q : Addr) (ce : Cell) (rest : List Value), Wld G S F I H → va_S (gAd G) (xs X).heap H locs → lv_has ls L.length (kp 0 L) → (∀ v ∈ L, wfv v) → cells + sa S ≤ (xR X).cells → slots + sb S ≤ (xR X).slots → H[q]? = some ce → ce.vm = .none → (xs X).vm.findClass E = some ce.cls → vx_W (xp X) (xl X) (xe X) (xR X) (xs X) (xm X) (xa X) (xb X) (xf X) (xc X) H locs cells slots QQ (F0 (xm X) pc ls rest) q
theorem JX_out (C : CO G own cc nL X) {E : String} (hout : ∀ x ∈ (xc X).exceptionTable.toList, covers x pc = false) (h : QX E S F I) : JX G X (QD X G Q QX) E pc L S F I := by
  intro H locs ls cells slots q ce rest hW hS hls hL hca hcb hce hcv hcl
  have k := vx_out (p := xp X) (l := xl X) (e := xe X) (R := xR X) (m := xm X) (args := xa X) (below := xb X) (ls := ls) (rest := rest) (Qc := fun _ _ _ _ => False) (XC := fun E9 st t => E9 = E ∧ t.heap = H) (free := gAd G) (mc := cells) (ms := slots) (cells := cells) (slots := slots) hout C.2.2.2.2.2.1 hce hcv hcl (fun t ht _ => ⟨rfl, ht⟩) hS.2.2 (Nat.le_refl _) (Nat.le_refl _)
  intro T hT X9
  obtain ⟨t, h1, o, h2, h3, h4⟩ := k T hT X9
  refine ⟨t, h1, o, h2, h3, ?_⟩
  rcases h4 with ⟨h4, -⟩ | ⟨q9, rfl, E9, ce9, L9, ⟨rfl, ht⟩, g1, g2, g3, g4, g5, g6⟩
  · exact h4.elim
  · exact Or.inr ⟨q9, E9, ce9, S, F, I, L9, cells, slots, rfl, h, by rw [ht]; exact hW, hS.F ht, g1, g2, g3, g4, g5, g6, hca, hcb⟩
/-- new E(text), thrown -/
theorem J_throwS (C : CO G own cc nL X) (hown : own = "Ironbark") {cls text : String} {names : List String} {ik is ic : Nat} (hcls : Bundle.fit cls = true) (hnames : ∀ n ∈ names, Bundle.fit n = true) (hstr : (is, text) ∈ strs)
    (hat : ∀ w ∈ vx_atS own ic cls names, w ∈ lw_tbl ∧ (goodWord w || (isNw w && w.onTables)) = true) (hk : Cond.classLink own ik cls ∈ lw_good) (hini : Cond.initialized cls ∈ lw_good)
    (hgood : ∀ w ∈ Cond.classLink own ik cls :: Cond.initialized cls :: vx_atS own ic cls names, vx_ot w = true) (hlen : L.length = nL)
    (d0 : decode cc pc = .ok (.new ik, 3)) (d3 : decode cc (pc + 3) = .ok (.dup, 1)) (d4 : decode cc (pc + 4) = .ok (.ldc is, 2)) (d6 : decode cc (pc + 6) = .ok (.invokespecial ic, 3)) (d9 : decode cc (pc + 9) = .ok (.athrow, 1))
    (hout : ∀ x ∈ (xc X).exceptionTable.toList, covers x (pc + 9) = false) (hst0 : st = []) (hRf : names.length + 3 < (xR X).frames) (hRl : 13 * (names.length + 1) + 43 ≤ (xR X).locals) (ha : 1 ≤ sa S) (hb : 6 ≤ sb S)
    (h : QX cls (sL S, sK S, sR S, sN S, sG S, sa S - 1, sb S - 6) F I) : J G X (QD X G Q QX) pc L st S F I := by
  subst hst0
  intro H locs ls cells slots hW hS hls hL hst hca hcb
  subst hown
  obtain ⟨sx, hsx⟩ := C.2.2.2.2.1.2.2.2.2.2.2.1 _ hstr
  have k := vx_throwS (p := xp X) (l := xl X) (e := xe X) (R := xR X) (s := xs X) (m := xm X) (args := xa X) (below := xb X) (ls := ls) (rest := []) (H := H) (locs := locs) (cells := cells) (slots := slots) (Qc := fun _ _ _ _ => False) (XC := fun E9 _ t => E9 = cls ∧ H.size ≤ t.heap.size ∧ (∀ q : Nat, q < H.size → t.heap[q]? = H[q]?)) (free := gAd G) (mc := cells + 1) (ms := slots + 6) (A := gAd G) (names := names) C.1 C.2.1 C.2.2.2.2.2.2.2 C.2.2.1 hcls hnames (C.2.2.2.1 _ hk) (C.2.2.2.1 _ hini) hsx (fun w hw => by
      obtain ⟨h8, h9⟩ := hat w hw
      rw [Bool.or_eq_true] at h9
      rcases h9 with h9 | h9
      · exact C.2.2.2.1 _ (List.mem_filter.mpr ⟨h8, h9⟩)
      · rw [Bool.and_eq_true] at h9
        exact va_Nw.use h9.2 (C.2.2.2.2.1.2.1 _ h8 h9.1)) hgood C.2.2.2.2.1.2.2.1.1 C.2.2.2.2.1.2.2.1.2 hS (by rw [hls.1, hlen]; exact C.2.2.2.2.2.2.1.symm) d0 d3 d4 d6 d9 hout hRf (by simpa using hRl) (by omega) (by omega) C.2.2.2.2.2.1 (fun t _ h1 h2 => ⟨rfl, h1, h2⟩) hS.2.2 (Nat.le_refl _) (Nat.le_refl _)
  refine Wmono ?_ k
  rintro t ⟨o, h1, h2, h4⟩
  refine ⟨o, h1, h2, ?_⟩
  rcases h4 with ⟨h4, -⟩ | ⟨q9, rfl, E9, ce9, L9, ⟨rfl, hz, hh⟩, g1, g2, g3, g4, g5, g6⟩
  · exact h4.elim
  · have hW2 : Wld G S F I t.heap := by
      obtain ⟨w1, w2, w3, w4, w5⟩ := hW
      exact ⟨w1.kept fun k q hk => hh _ (w1 k q hk).lt, w2, w3, w4, w5⟩
    have hF : va_F (gAd G) (xs X) t := ⟨Nat.le_trans hS.1 hz, fun q hq hA => by rw [hh q (Nat.lt_of_lt_of_le hq hS.1)]; exact hS.2.1 q hq hA⟩
    exact Or.inr ⟨q9, E9, ce9, (sL S, sK S, sR S, sN S, sG S, sa S - 1, sb S - 6), F, I, L9, cells + 1, slots + 6, rfl, h, hW2, hF, g1, g2, g3, g4, g5, g6, by show cells + 1 + (sa S - 1) ≤ _; omega, by show slots + 6 + (sb S - 6) ≤ _; omega⟩
end RulesC
/-! entry -/
theorem kp_args : ∀ (args : List PV) (i n : Nat), (∀ v ∈ args, knw v) → ∀ q ∈ kp i (args ++ List.replicate n (vl 0)), q ∈ lv_args i (args.map tv)
  | [], i, 0, _, q, hq => by cases hq
  | [], i, n + 1, h, q, hq => by
    rw [List.nil_append, List.replicate_succ] at hq
    exact kp_args [] (i + 1) n h q hq
  | v :: args, i, n, h, q, hq => by
    obtain ⟨h1, h2⟩ := List.forall_mem_cons.mp h
    rw [List.cons_append, kp_cons h1] at hq
    show q ∈ (i, tv v) :: lv_args (if (tv v).category = 2 then i + 2 else i + 1) (args.map tv)
    rw [knw_cat h1]
    rcases List.mem_cons.mp hq with hq | hq
    · rw [hq]; exact List.mem_cons_self
    · exact List.mem_cons_of_mem _ (kp_args args (i + 1) n h2 q hq)
theorem lg_len : ∀ (args : List PV), (∀ v ∈ args, knw v) → (lg_sl (args.map tv)).length = args.length
  | [], _ => rfl
  | v :: args, h => by
    obtain ⟨h1, h2⟩ := List.forall_mem_cons.mp h
    have ih := lg_len args h2
    unfold lg_sl at ih ⊢
    rw [List.map_cons, List.flatMap_cons, List.length_append, ih, knw_cat h1]
    simp
    omega
/-- a method without handlers, by its body -/
theorem CM_of {l : Launch} {G : Gp} {d : Nat} {y : MethodName} {cc : ByteArray} {nL : Nat} {ret : Option FieldType} {args : List PV} {S : Shp} {F : Fl} {I : Il} {Q : Option PV → Shp → Fl → Il → Prop} {QX : String → Shp → Fl → Il → Prop}
    (hl : l.stackTraces = false) (hy : plainName y.cls = true) (hk : ∀ v ∈ args, knw v) (hn : args.length ≤ nL)
    (body : ∀ X : Xt, xl X = l → CO G y.cls cc nL X → xR X = rmD d S → (xf X).sig.returnType = ret → (xf X).name = y.name → (∀ x ∈ (xc X).exceptionTable.toList, False) → J G X (QD X G Q QX) 0 (args ++ List.replicate (nL - args.length) (vl 0)) [] S F I) : CM l G d y (.code y cc nL ret) args S F I Q QX := by
  refine MetFree.of_bodyS (code := cc) (maxLocals := nL) (ret := ret) hy ?_ ?_
  · intro args s m h hn
    obtain ⟨meth, c, h1, h2, h3, h4, h5, h6, -, -⟩ := Cond.code_spec hn (atoms_spec (ws := Cond.code y cc nL ret :: lw_good) h _ List.mem_cons_self)
    exact ⟨meth, c, h1, h2, h3, h4, h5, h6⟩
  · intro p e s m args' below meth c s₁ B hml hP _
    obtain ⟨rfl, hwa, hW, hE⟩ := hP
    have hh0 : s₁.heap = s.heap := by rw [B.state]; rfl
    have ht : ∀ x ∈ c.exceptionTable.toList, False := by
      obtain ⟨meth9, c9, h1, h2, -, -, -, -, h7, -⟩ := Cond.code_spec B.named (atoms_spec (ws := Cond.code y cc nL ret :: lw_good) B.pre _ List.mem_cons_self)
      cases Option.some.inj (h1.symm.trans B.method)
      cases Option.some.inj (h2.symm.trans (Stand.of_body B).code)
      intro x hx
      rw [Array.isEmpty_iff.mp h7] at hx
      cases hx
    have hts := atoms_spec (ws := Cond.code y cc nL ret :: lw_good) B.pre
    have b := body (p, l, e, rmD d S, s, m, (args.map tv).toArray, below, meth, c) rfl ⟨B.exec, B.bytes, findClass_of_methodNamed B.named, fun w hw => hts w (List.mem_cons_of_mem _ hw), hE, B.notSynchronized, hml, hl⟩ rfl B.returns (name_of_methodNamed B.named B.method).1 ht
    have hlv := lv_entry (args.map tv) (n := nL) (by rw [lg_len args hk]; exact hn)
    have hlen : (args ++ List.replicate (nL - args.length) (vl 0)).length = nL := by rw [List.length_append, List.length_replicate]; omega
    have b2 := b s.heap [] _ 0 0 hW va_S.rf (by rw [hlen]; exact lv_less hlv (kp_args args 0 _ hk)) (fun v hv => by
      rcases List.mem_append.mp hv with hv | hv
      · exact hwa v hv
      · rw [List.eq_of_mem_replicate hv]; exact rg0) (fun v hv => by cases hv) (Nat.le_of_eq (Nat.zero_add _)) (Nat.le_of_eq (Nat.zero_add _))
    obtain ⟨t, a1, o, b1, b2, b3⟩ := b2 s₁ hh0 (Stand.of_body B)
    refine ⟨t, o, ?_, b1, b2, b3⟩
    rw [lg_entry_eq]
    exact a1
