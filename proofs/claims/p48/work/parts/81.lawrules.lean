/-! what the law wants: methods with handlers, the script -/
def MIW (y : MethodName) (bytes : ByteArray) (maxL : Nat) (ret : Option FieldType) (hh : List (Nat × Nat × Nat × Nat)) (n : Nat) : Prop := Cond.codeWith y bytes maxL ret hh ∈ lw_good ∧ Cond.initialized y.cls ∈ lw_good ∧ (y.cls ≠ "java/lang/invoke/MethodHandle" ∧ y.cls ≠ "java/lang/invoke/VarHandle") ∧ (parseMethodDescriptor y.desc).map (fun d => d.parameters.length) = some n
def MH (d : Nat) (ret : Option FieldType) (hh : List (Nat × Nat × Nat × Nat)) (X : Xt) : Prop := (xR X).frames = d ∧ 38 * d ≤ (xR X).locals ∧ (xf X).sig.returnType = ret ∧ (xc X).exceptionTable.toList = tableOf hh
/-- the law's own place -/
def ML (d : Nat) (ret : Option FieldType) (X : Xt) : Prop := (xR X).frames = d ∧ 38 * d ≤ (xR X).locals ∧ (xf X).sig.returnType = ret ∧ True
theorem kc0 {own E : String} : ∀ z ∈ ([] : List ExceptionTableEntry), z.catchType ≠ 0 ∧ ∃ nm : String, Cond.classLink own z.catchType nm ∈ lw_good ∧ (E, nm) ∈ ncs := fun z h => nomatch h
theorem kc1 {own E nm : String} {z : ExceptionTableEntry} {l : List ExceptionTableEntry} (h0 : z.catchType ≠ 0) (hl : Cond.classLink own z.catchType nm ∈ lw_good) (hn : (E, nm) ∈ ncs) (h : ∀ z ∈ l, z.catchType ≠ 0 ∧ ∃ nm : String, Cond.classLink own z.catchType nm ∈ lw_good ∧ (E, nm) ∈ ncs) : ∀ w ∈ z :: l, w.catchType ≠ 0 ∧ ∃ nm : String, Cond.classLink own w.catchType nm ∈ lw_good ∧ (E, nm) ∈ ncs := List.forall_mem_cons.mpr ⟨⟨h0, nm, hl, hn⟩, h⟩
section RulesL
variable {G : Gp} {own : String} {cc : ByteArray} {nL : Nat} {X : Xt} {QQ : State → Prop} {pc : Nat} {L st : List PV} {S : Shp} {F : Fl} {I : Il}
variable {Q : Option PV → Shp → Fl → Il → Prop} {QX : String → Shp → Fl → Il → Prop}
theorem JX_catch {hh : List (Nat × Nat × Nat × Nat)} {pre suf : List ExceptionTableEntry} {x : ExceptionTableEntry} {tgt : Nat} {E : String} (C : CO G own cc nL X) (htab : (xc X).exceptionTable.toList = tableOf hh) (hsplit : tableOf hh = pre ++ x :: suf) (hpass : ∀ z ∈ pre, z.catchType ≠ 0 ∧ ∃ nm : String, Cond.classLink own z.catchType nm ∈ lw_good ∧ (E, nm) ∈ ncs)
    (hx : covers x pc = true) (h0 : x.catchType ≠ 0) (hlink : Cond.classLink own x.catchType E ∈ lw_good) (hcast : Cond.castable E E ∈ lw_tbl) (ht : x.handlerPc = tgt) (h : ∀ q : Nat, J G X QQ tgt L [vr (some q)] S F I) : JX G X QQ E pc L S F I := by
  intro H locs ls cells slots q ce rest hW hS hls hL hca hcb hce hcv hcl
  refine vx_catch C.2.2.1 pre x suf (htab.trans hsplit) (fun z hz => ?_) hx h0 (C.2.2.2.1 _ hlink) (va_Nw.use rfl (C.2.2.2.2.1.2.1 _ hcast rfl)) hce hcv hcl ?_
  · obtain ⟨z0, nm, h1, h2⟩ := hpass z hz
    exact Or.inr ⟨z0, nm, C.2.2.2.1 _ h1, C.2.2.2.2.1.2.2.2.2.2.2.2.1 _ h2⟩
  · rw [ht]
    exact h q H locs ls cells slots hW hS hls hL (wcr (fun v hv => nomatch hv)) hca hcb
theorem K_VH (C : CO G own cc nL X) {d : Nat} (M1 : (xR X).frames = d + 1) (M2 : 38 * (d + 1) ≤ (xR X).locals) {index ci N n maxL b : Nat} {Cn : String} {T9 : u_T} {y : MethodName} {bytes : ByteArray} {rt : Option FieldType} (as rest : List PV) (hI : MI y bytes maxL rt n) (hlink : Cond.methodLink own index y ∈ lw_good) (hinst : Cond.instanceMethod y ∈ lw_good) (hsel : Cond.selects Cn y y ∈ lw_good) (hc : vwCl[ci]? = some (Cn, T9, N) ∧ ci < 20) (hd : decode cc pc = .ok (.invokevirtual index, 3)) (hK : sK S b = ci) (hn : as.length = n) (hlen : L.length = nL) (hml : maxL ≤ 19) (hcat : (rest.map fun v => (tv v).category).sum ≤ 8)
    (hM : CM (xl X) G d y (.code y bytes maxL rt) (vr (some b) :: as) S F I Q QX) (kr : ∀ v S' F' I', Q v S' F' I' → J G X QQ (pc + 3) L (v.toList ++ rest) S' F' I') (kx : ∀ E S' F' I', QX E S' F' I' → JX G X QQ E pc L S' F' I') {st : List PV} (e : as.reverse ++ vr (some b) :: rest = st) : J G X QQ pc L st S F I := by
  subst e
  exact J_callV C hI hlink hinst hsel hc.1 hc.2 hd hK hn hlen (by omega) (by omega) hcat hM kr kx
theorem K_IH (C : CO G own cc nL X) {d : Nat} (M1 : (xR X).frames = d + 1) (M2 : 38 * (d + 1) ≤ (xR X).locals) {index n maxL b : Nat} {y : MethodName} {bytes : ByteArray} (as rest : List PV) (hI : MI y bytes maxL none n) (hy1 : y.name = "<init>") (hlink : Cond.methodLink own index y ∈ lw_good) (hinst : Cond.instanceMethod y ∈ lw_good) (hd : decode cc pc = .ok (.invokespecial index, 3)) (hn : as.length = n) (hlen : L.length = nL) (hml : maxL ≤ 19) (hcat : (rest.map fun v => (tv v).category).sum ≤ 8)
    (hM : CM (xl X) G d y (.code y bytes maxL none) (vr (some b) :: as) S F I Q QX) (kr : ∀ v S' F' I', Q v S' F' I' → J G X QQ (pc + 3) L (v.toList ++ rest) S' F' I') (kx : ∀ E S' F' I', QX E S' F' I' → JX G X QQ E pc L S' F' I') {st : List PV} (e : as.reverse ++ vr (some b) :: rest = st) : J G X QQ pc L st S F I := by
  subst e
  exact J_callI C hI hy1 hlink hinst hd hn hlen (by omega) (by omega) hcat hM kr kx
theorem J_callSW (C : CO G own cc nL X) {d index n maxL : Nat} {y : MethodName} {bytes : ByteArray} {ret : Option FieldType} {hh : List (Nat × Nat × Nat × Nat)} {as rest : List PV} (hI : MIW y bytes maxL ret hh n) (hlink : Cond.methodLink own index y ∈ lw_good) (hstat : Cond.static y ∈ lw_good) (hd : decode cc pc = .ok (.invokestatic index, 3)) (hn : as.length = n) (hlen : L.length = nL) (hf : d + 1 ≤ (xR X).frames) (hlo : 19 + maxL + 38 * d ≤ (xR X).locals) (hcat : (rest.map fun v => (tv v).category).sum ≤ 8)
    (hM : CM (xl X) G d y (.codeWith y bytes maxL ret hh) as S F I Q noX) (kr : ∀ v S' F' I', Q v S' F' I' → J G X QQ (pc + 3) L (v.toList ++ rest) S' F' I') : J G X QQ pc L (as.reverse ++ rest) S F I := by
  intro H locs ls cells slots hW hS hls hL hst hca hcb T hT X9
  have hts := C.2.2.2.1
  have hstr : ∀ v ∈ rest, wfv v := fun v hv => hst v (List.mem_append_right _ hv)
  have hsta : ∀ v ∈ as, wfv v := fun v hv => hst v (List.mem_append_left _ (List.mem_reverse.mpr hv))
  have hK9 := md_back (R := xR X) (p := xp X) (e := xe X) (below := xb X) (s := xs X) (sargs := xa X) (len := 3) (W9 := 8) hM hf (by omega) (CodeW.codeWith y bytes maxL ret hh) (List.forall_mem_cons.mpr ⟨good_warm hI.1 hts, fun w hw => good_warm hw hts⟩) (good_warm hI.2.1 hts) PcD.blind
  have hK8 : Back (xl X) (xR X) (xp X) (xe X) (xb X) (xs X) (xa X) y 3 8 (PreD (xR X) (sa S) (sb S) (PcD G as S F I)) (PostD G (rmD d S) Q) := fun m meth c A g ig mk a h1 h2 h3 h4 h5 h6 h7 => by
    rcases hK9 m meth c A g ig mk a h1 h2 h3 h4 h5 h6 h7 with h | ⟨q, B, _, ⟨E, ce, S1, F1, I1, L9, k, n9, hq, _⟩, _⟩
    · exact h
    · exact hq.elim
  obtain ⟨v, vm₁, B, hW1, X', hp, st⟩ := vx_callSW X9 C.1 (own := own) (index := index) (y := y) (bytes := bytes) (maxL := maxL) (ret := ret) (hh := hh) C.2.2.1 (hts _ hlink) (hts _ hstat) (hts _ hI.2.1) (hts _ hI.1) hI.2.2.1 hK8 (g := F0 (xm X) pc ls ((as.reverse ++ rest).map tv)) rfl (by rw [C.2.2.2.2.2.2.1, ← hlen]; exact hls.1) (argsL := as.map tv) (rest := rest.map tv) (params_len hI.2.2.2 (by rw [List.length_map]; exact hn)) (by rw [List.map_append, List.map_reverse]) (by simpa using cat_le rest hcat) (by rw [C.2.1]; exact hd)
    (fun vm₁ hW1 => ⟨hca, hcb, Pc_at (as := as) C hT hW hS hsta hW1⟩)
  exact call_back (QX := noX) C (rest := rest) (pc := pc) (g := F0 (xm X) pc ls (rest.map tv)) hT hW1 hS hls hL hstr hca hcb rfl kr (fun E S' F' I' h => h.elim) (Or.inl ⟨v, B, X', hp, st⟩)
theorem K_SW (C : CO G own cc nL X) {d : Nat} (M1 : (xR X).frames = d + 1) (M2 : 38 * (d + 1) ≤ (xR X).locals) {index n maxL : Nat} {y : MethodName} {bytes : ByteArray} {rt : Option FieldType} {hh : List (Nat × Nat × Nat × Nat)} (as rest : List PV) (hI : MIW y bytes maxL rt hh n) (hlink : Cond.methodLink own index y ∈ lw_good) (hstat : Cond.static y ∈ lw_good) (hd : decode cc pc = .ok (.invokestatic index, 3)) (hn : as.length = n) (hlen : L.length = nL) (hml : maxL ≤ 19) (hcat : (rest.map fun v => (tv v).category).sum ≤ 8)
    (hM : CM (xl X) G d y (.codeWith y bytes maxL rt hh) as S F I Q noX) (kr : ∀ v S' F' I', Q v S' F' I' → J G X QQ (pc + 3) L (v.toList ++ rest) S' F' I') {st : List PV} (e : as.reverse ++ rest = st) : J G X QQ pc L st S F I := by
  subst e
  exact J_callSW C hI hlink hstat hd hn hlen (by omega) (by omega) hcat hM kr
theorem i_ofNat (N : Nat) : Int32.ofNat N = Int32.ofInt (N : Int) := by
  first | rfl | exact (Int32.ofInt_natCast N).symm | (rw [← Int32.toInt_inj]; simp)
theorem K_slen (C : CO G own cc nL X) (hd : decode cc pc = .ok (.arraylength, 1)) (h : J G X QQ (pc + 1) L (vi (gln G) :: st) S F I) : J G X QQ pc L (vr (some (gX G)) :: st) S F I := by
  intro H locs ls cells slots hW hS hls hL hst hca hcb
  obtain ⟨h1, h2, h3, h4⟩ := C.2.2.2.2.1.2.2.2.2.2.2.2.2.2
  refine va_slen C.1 C.2.1 h1 h2 h3 hS hd ?_
  rw [i_ofNat]
  exact h H locs ls cells slots hW hS hls hL (wci (rg_len (by omega)) (wt hst)) hca hcb
theorem K_sld (C : CO G own cc nL X) {z : Int} (hd : decode cc pc = .ok (.iaload, 1)) (h0 : 0 ≤ z) (hn : z < gln G) (h : J G X QQ (pc + 1) L (vi (gsc G z) :: st) S F I) : J G X QQ pc L (vi z :: vr (some (gX G)) :: st) S F I := by
  intro H locs ls cells slots hW hS hls hL hst hca hcb
  obtain ⟨h1, h2, h3, h4⟩ := C.2.2.2.2.1.2.2.2.2.2.2.2.2.2
  have hz : rg z := whi hst
  refine va_sld C.1 C.2.1 h1 h2 h3 hS (i_in hz h0 hn) hd ?_
  rw [i_cl hz h0]
  have e : Value.int (gYs G z.toNat) = tv (vi (gsc G z)) := by
    show _ = Value.int (Int32.ofInt (gYs G z.toNat).toInt)
    rw [asI]
  rw [e]
  exact h H locs ls cells slots hW hS hls hL (wci (rgI _) (wt (wt hst))) hca hcb
theorem K_SH (C : CO G own cc nL X) {d : Nat} (M1 : (xR X).frames = d + 1) (M2 : 38 * (d + 1) ≤ (xR X).locals) {index n maxL : Nat} {y : MethodName} {bytes : ByteArray} {rt : Option FieldType} (as rest : List PV) (hI : MI y bytes maxL rt n) (hlink : Cond.methodLink own index y ∈ lw_good) (hstat : Cond.static y ∈ lw_good) (hd : decode cc pc = .ok (.invokestatic index, 3)) (hn : as.length = n) (hlen : L.length = nL) (hml : maxL ≤ 19) (hcat : (rest.map fun v => (tv v).category).sum ≤ 8)
    (hM : CM (xl X) G d y (.code y bytes maxL rt) as S F I Q QX) (kr : ∀ v S' F' I', Q v S' F' I' → J G X QQ (pc + 3) L (v.toList ++ rest) S' F' I') (kx : ∀ E S' F' I', QX E S' F' I' → JX G X QQ E pc L S' F' I') {st : List PV} (e : as.reverse ++ rest = st) : J G X QQ pc L st S F I := by
  subst e
  exact J_callS C hI hlink hstat hd hn hlen (by omega) (by omega) hcat hM kr kx
end RulesL
/-- a method with handlers, by its body -/
theorem CM_ofH {l : Launch} {G : Gp} {d : Nat} {y : MethodName} {cc : ByteArray} {nL : Nat} {ret : Option FieldType} {hh : List (Nat × Nat × Nat × Nat)} {args : List PV} {S : Shp} {F : Fl} {I : Il} {Q : Option PV → Shp → Fl → Il → Prop} {QX : String → Shp → Fl → Il → Prop} (L0 : List PV)
    (hl : l.stackTraces = false) (hy : plainName y.cls = true) (hk : ∀ v ∈ args, knw v) (hn : args.length ≤ nL) (e : args ++ List.replicate (nL - args.length) (vl 0) = L0)
    (body : ∀ X : Xt, xl X = l → CO G y.cls cc nL X → MH d ret hh X → J G X (QD X G Q QX) 0 L0 [] S F I) : CM l G d y (.codeWith y cc nL ret hh) args S F I Q QX := by
  refine MetFree.of_bodyS (code := cc) (maxLocals := nL) (ret := ret) hy ?_ ?_
  · intro args s m h hn
    obtain ⟨m9, meth, c, hn9, h1, h2, h3, h4, -, h5, h6, -⟩ := Cond.codeWith_spec (atoms_spec (ws := Cond.codeWith y cc nL ret hh :: lw_good) h _ List.mem_cons_self)
    cases Option.some.inj (hn9.symm.trans hn)
    exact ⟨meth, c, h1, h2, h3, h4, h5, h6⟩
  · intro p e9 s m args' below meth c s₁ B hml hP _
    obtain ⟨rfl, hwa, hW, hE⟩ := hP
    have hh0 : s₁.heap = s.heap := by rw [B.state]; rfl
    have hts := atoms_spec (ws := Cond.codeWith y cc nL ret hh :: lw_good) B.pre
    have ht : c.exceptionTable.toList = tableOf hh := vx_table (x := y) B (hts _ List.mem_cons_self)
    have b := body (p, l, e9, rmD d S, s, m, (args.map tv).toArray, below, meth, c) rfl ⟨B.exec, B.bytes, findClass_of_methodNamed B.named, fun w hw => hts w (List.mem_cons_of_mem _ hw), hE, B.notSynchronized, hml, hl⟩ ⟨rfl, Nat.le_refl _, B.returns, ht⟩
    have hlv := lv_entry (args.map tv) (n := nL) (by rw [lg_len args hk]; exact hn)
    have hlen : (args ++ List.replicate (nL - args.length) (vl 0)).length = nL := by rw [List.length_append, List.length_replicate]; omega
    rw [← e] at b
    have b2 := b s.heap [] _ 0 0 hW va_S.rf (by rw [hlen]; exact lv_less hlv (kp_args args 0 _ hk)) (fun v hv => by
      rcases List.mem_append.mp hv with hv | hv
      · exact hwa v hv
      · rw [List.eq_of_mem_replicate hv]; exact rg0) (fun v hv => by cases hv) (Nat.le_of_eq (Nat.zero_add _)) (Nat.le_of_eq (Nat.zero_add _))
    obtain ⟨t, a1, o, b1, b2, b3⟩ := b2 s₁ hh0 (Stand.of_body B)
    refine ⟨t, o, ?_, b1, b2, b3⟩
    rw [lg_entry_eq]
    exact a1
