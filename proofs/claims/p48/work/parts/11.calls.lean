/-! calls -/
/-- a method without handlers: its code, its class is initialised, how many parameters -/
def MI (y : MethodName) (bytes : ByteArray) (maxL : Nat) (ret : Option FieldType) (n : Nat) : Prop := Cond.code y bytes maxL ret ∈ lw_good ∧ Cond.initialized y.cls ∈ lw_good ∧ (y.cls ≠ "java/lang/invoke/MethodHandle" ∧ y.cls ≠ "java/lang/invoke/VarHandle") ∧ (parseMethodDescriptor y.desc).map (fun d => d.parameters.length) = some n
theorem good_warm {w : Cond} (h : w ∈ lw_good) {args : Array Value} {s : State} (hts : ∀ w ∈ lw_good, w.before args s = true) : ∀ (a' : Array Value) (U : State), s.WarmedH U.vm → w.before a' U = true := fun a' U hW => word_at hW (good_of_word (List.mem_filter.mp h).2) (hts w h)
theorem params_len {y : MethodName} {n : Nat} (h : (parseMethodDescriptor y.desc).map (fun d => d.parameters.length) = some n) {k : Nat} (hk : k = n) : ∀ sig, parseMethodDescriptor y.desc = some sig → k = sig.parameters.length := fun sig hs => by
  rw [hs] at h
  exact hk.trans (Option.some.inj h).symm
section RulesD
variable {G : Gp} {own : String} {cc : ByteArray} {nL : Nat} {X : Xt} {QQ : State → Prop} {pc : Nat} {L : List PV} {S : Shp} {F : Fl} {I : Il}
variable {Q : Option PV → Shp → Fl → Il → Prop} {QX : String → Shp → Fl → Il → Prop}
/-- behind a call that came back: both ways on -/
theorem call_back (C : CO G own cc nL X) {d : Nat} {a : Array Value} {H : Heap} {locs : List Loc} {ls : Array Slot} {cells slots : Nat} {T : State} {vm₁ : Vm} {rest : List PV} {g : JFrame} {tgt0 : State}
    (hT : T.heap = H) (hW1 : (xs X).WarmedH vm₁) (hS : va_S (gAd G) (xs X).heap H locs) (hls : lv_has ls L.length (kp 0 L)) (hL : ∀ v ∈ L, wfv v) (hst : ∀ v ∈ rest, wfv v) (hca : cells + sa S ≤ (xR X).cells) (hcb : slots + sb S ≤ (xR X).slots) (hg : g = F0 (xm X) pc ls (rest.map tv))
    (kr : ∀ v S' F' I', Q v S' F' I' → J G X QQ (pc + 3) L (v.toList ++ rest) S' F' I') (kx : ∀ E S' F' I', QX E S' F' I' → JX G X QQ E pc L S' F' I')
    (h : (∃ (v : Option Value) (B : Pt), Stand (xp X) (xl X) (xe X) (xR X) (xs X) (xm X) (xa X) (xb X) (xf X) (xc X) B.U B.locs B.cells B.slots ∧ PostD G (rmD d S) Q ⟨T.setVm vm₁, locs, cells, slots⟩ a v B ∧ ∀ target, Steps (xp X).tables (xe X) (xb X) (B.U.setTop { g with pc := g.pc + 3, stack := v.toList ++ rest.map tv }) target → Steps (xp X).tables (xe X) (xb X) tgt0 target) ∨
      (∃ (q : Addr) (B : Pt), Stand (xp X) (xl X) (xe X) (xR X) (xs X) (xm X) (xa X) (xb X) (xf X) (xc X) B.U B.locs B.cells B.slots ∧ PostXD G (rmD d S) QX ⟨T.setVm vm₁, locs, cells, slots⟩ a q B ∧ Steps (xp X).tables (xe X) (xb X) tgt0 ((B.U.setTop { g with stack := rest.map tv }).pushFrame (.throwing q)))) :
    ∃ t, Steps (xp X).tables (xe X) (xb X) tgt0 t ∧ QQ t := by
  subst hg
  subst hT
  have hS2 : ∀ {H1 : Heap} {L9 : List Loc}, T.heap.size ≤ H1.size → (∀ q : Nat, q < T.heap.size → ¬ gB G ≤ q → H1[q]? = T.heap[q]?) → (∀ q ∈ L9, gB G ≤ q.base) → va_S (gAd G) (xs X).heap H1 (locs ++ L9) := fun h1 h2 h3 =>
    ⟨Nat.le_trans hS.1 h1, fun q hq hA => by rw [h2 q (Nat.lt_of_lt_of_le hq hS.1) hA]; exact hS.2.1 q hq hA, fun q hq => (List.mem_append.mp hq).elim (fun h => hS.2.2 q h) (fun h => h3 q h)⟩
  rcases h with ⟨v, ⟨U, l9, c9, s9⟩, X', ⟨w, S1, F1, I1, t, L9, k, n, rfl, hww, hq, hwld, -, hz, hk, h1, h2, h3, h4, h5, h6⟩, st⟩ | ⟨q, ⟨U, l9, c9, s9⟩, X', ⟨E, ce, S1, F1, I1, L9, k, n, hq, hwld, hz, hk, hce, hcv, hcl, h1, h2, h3, h4, h5, h6⟩, st⟩
  · dsimp only [Pt.U, Pt.locs, Pt.cells, Pt.slots] at X' hwld hz hk h1 h3 h4 st
    subst h1; subst h3; subst h4
    dsimp only [rmD] at h5 h6
    have e : (w.map tv).toList ++ rest.map tv = (w.toList ++ rest).map tv := by cases w <;> rfl
    rw [e] at st
    obtain ⟨t2, a1, b1⟩ := kr w S1 F1 I1 hq U.heap _ ls (cells + k) (slots + n) hwld (hS2 hz hk h2) hls hL (fun v hv => (List.mem_append.mp hv).elim (fun h => by cases w with
      | none => cases h
      | some x => rw [List.mem_singleton.mp h]; exact hww x rfl) (fun h => hst v h)) (by omega) (by omega) U rfl X'
    exact ⟨t2, st t2 a1, b1⟩
  · dsimp only [Pt.U, Pt.locs, Pt.cells, Pt.slots] at X' hwld hz hk h1 h3 h4 st hce hcl
    subst h1; subst h3; subst h4
    dsimp only [rmD] at h5 h6
    have hcl9 : (xs X).vm.findClass E = some ce.cls := by
      rw [← hW1.alike.findClass]
      exact hcl
    obtain ⟨t2, a1, b1⟩ := kx E S1 F1 I1 hq U.heap _ ls (cells + k) (slots + n) q ce (rest.map tv) hwld (hS2 hz hk h2) hls hL (by omega) (by omega) hce hcv hcl9 U rfl X'
    exact ⟨t2, st.trans a1, b1⟩
theorem cat_le (rest : List PV) (h : (rest.map fun v => (tv v).category).sum ≤ 8) : ((rest.map tv).map fun v => v.category).sum ≤ 8 := by
  rw [List.map_map]
  exact h
theorem Pc_at (C : CO G own cc nL X) {as : List PV} {H : Heap} {locs : List Loc} {T : State} {vm₁ : Vm} (hT : T.heap = H) (hW : Wld G S F I H) (hS : va_S (gAd G) (xs X).heap H locs) (hw : ∀ v ∈ as, wfv v) (hW1 : (xs X).WarmedH vm₁) : PcD G as S F I (as.map tv).toArray (T.setVm vm₁) := by
  subst hT
  exact ⟨rfl, hw, hW, Env9.go (U := T.setVm vm₁) C.2.2.2.2.1 hW1 hS⟩
theorem J_callV (C : CO G own cc nL X) {d index ci N n maxL b : Nat} {Cn : String} {T9 : u_T} {y : MethodName} {bytes : ByteArray} {ret : Option FieldType} {as rest : List PV} (hI : MI y bytes maxL ret n) (hlink : Cond.methodLink own index y ∈ lw_good) (hinst : Cond.instanceMethod y ∈ lw_good) (hsel : Cond.selects Cn y y ∈ lw_good) (hc : vwCl[ci]? = some (Cn, T9, N)) (hci : ci < 20) (hd : decode cc pc = .ok (.invokevirtual index, 3)) (hK : sK S b = ci) (hn : as.length = n) (hlen : L.length = nL) (hf : d + 1 ≤ (xR X).frames) (hlo : 19 + maxL + 38 * d ≤ (xR X).locals) (hcat : (rest.map fun v => (tv v).category).sum ≤ 8)
    (hM : CM (xl X) G d y (.code y bytes maxL ret) (vr (some b) :: as) S F I Q QX) (kr : ∀ v S' F' I', Q v S' F' I' → J G X QQ (pc + 3) L (v.toList ++ rest) S' F' I') (kx : ∀ E S' F' I', QX E S' F' I' → JX G X QQ E pc L S' F' I') : J G X QQ pc L (as.reverse ++ vr (some b) :: rest) S F I := by
  intro H locs ls cells slots hW hS hls hL hst hca hcb T hT X9
  have hts := C.2.2.2.1
  obtain ⟨q0, hq0⟩ := hW.at (q := b) (by rw [hK]; omega)
  rw [cont_o hK hci] at hq0
  obtain ⟨cell, g1, g2, g3⟩ := va_recv C.2.2.2.2.1.1 hW.1 hc hq0
  have hstr : ∀ v ∈ rest, wfv v := fun v hv => hst v (List.mem_append_right _ (List.mem_cons_of_mem _ hv))
  have hsta : ∀ v ∈ vr (some b) :: as, wfv v := List.forall_mem_cons.mpr ⟨trivial, fun v hv => hst v (List.mem_append_left _ (List.mem_reverse.mpr hv))⟩
  have hK9 := md_back (R := xR X) (p := xp X) (e := xe X) (below := xb X) (s := xs X) (sargs := xa X) (len := 3) (W9 := 8) hM hf (by omega) (CodeW.code y bytes maxL ret) (List.forall_mem_cons.mpr ⟨good_warm hI.1 hts, fun w hw => good_warm hw hts⟩) (good_warm hI.2.1 hts) PcD.blind
  have hcall := vx_callV X9 C.1 (own := own) (C := Cn) (index := index) (y := y) (bytes := bytes) (maxL := maxL) (ret := ret) C.2.2.1 (hts _ hlink) (hts _ hinst) (hts _ hsel) (hts _ hI.1) hI.2.2.1 hK9 (b := b) (cellB := cell) (by rw [hT]; exact g1) g2 g3 (g := F0 (xm X) pc ls ((as.reverse ++ vr (some b) :: rest).map tv)) rfl (by rw [C.2.2.2.2.2.2.1, ← hlen]; exact hls.1) (argsL := as.map tv) (rest := rest.map tv) (params_len hI.2.2.2 (by rw [List.length_map]; exact hn)) (by rw [List.map_append, List.map_reverse]; rfl) (by simpa using cat_le rest hcat) (by rw [C.2.1]; exact hd)
    (fun vm₁ hW1 => ⟨hca, hcb, Pc_at (as := vr (some b) :: as) C hT hW hS hsta hW1⟩)
  rcases hcall with ⟨v, vm₁, B, hW1, X', hp, st⟩ | ⟨q, vm₁, B, hW1, X', hp, st⟩
  · exact call_back C (rest := rest) (pc := pc) (g := F0 (xm X) pc ls (rest.map tv)) hT hW1 hS hls hL hstr hca hcb rfl kr kx (Or.inl ⟨v, B, X', hp, st⟩)
  · exact call_back C (rest := rest) (pc := pc) (g := F0 (xm X) pc ls (rest.map tv)) hT hW1 hS hls hL hstr hca hcb rfl kr kx (Or.inr ⟨q, B, X', hp, st⟩)
theorem J_callS (C : CO G own cc nL X) {d index n maxL : Nat} {y : MethodName} {bytes : ByteArray} {ret : Option FieldType} {as rest : List PV} (hI : MI y bytes maxL ret n) (hlink : Cond.methodLink own index y ∈ lw_good) (hstat : Cond.static y ∈ lw_good) (hd : decode cc pc = .ok (.invokestatic index, 3)) (hn : as.length = n) (hlen : L.length = nL) (hf : d + 1 ≤ (xR X).frames) (hlo : 19 + maxL + 38 * d ≤ (xR X).locals) (hcat : (rest.map fun v => (tv v).category).sum ≤ 8)
    (hM : CM (xl X) G d y (.code y bytes maxL ret) as S F I Q QX) (kr : ∀ v S' F' I', Q v S' F' I' → J G X QQ (pc + 3) L (v.toList ++ rest) S' F' I') (kx : ∀ E S' F' I', QX E S' F' I' → JX G X QQ E pc L S' F' I') : J G X QQ pc L (as.reverse ++ rest) S F I := by
  intro H locs ls cells slots hW hS hls hL hst hca hcb T hT X9
  have hts := C.2.2.2.1
  have hstr : ∀ v ∈ rest, wfv v := fun v hv => hst v (List.mem_append_right _ hv)
  have hsta : ∀ v ∈ as, wfv v := fun v hv => hst v (List.mem_append_left _ (List.mem_reverse.mpr hv))
  have hK9 := md_back (R := xR X) (p := xp X) (e := xe X) (below := xb X) (s := xs X) (sargs := xa X) (len := 3) (W9 := 8) hM hf (by omega) (CodeW.code y bytes maxL ret) (List.forall_mem_cons.mpr ⟨good_warm hI.1 hts, fun w hw => good_warm hw hts⟩) (good_warm hI.2.1 hts) PcD.blind
  have hcall := vx_callS X9 C.1 (own := own) (index := index) (y := y) (bytes := bytes) (maxL := maxL) (ret := ret) C.2.2.1 (hts _ hlink) (hts _ hstat) (hts _ hI.2.1) (hts _ hI.1) hI.2.2.1 hK9 (g := F0 (xm X) pc ls ((as.reverse ++ rest).map tv)) rfl (by rw [C.2.2.2.2.2.2.1, ← hlen]; exact hls.1) (argsL := as.map tv) (rest := rest.map tv) (params_len hI.2.2.2 (by rw [List.length_map]; exact hn)) (by rw [List.map_append, List.map_reverse]) (by simpa using cat_le rest hcat) (by rw [C.2.1]; exact hd)
    (fun vm₁ hW1 => ⟨hca, hcb, Pc_at (as := as) C hT hW hS hsta hW1⟩)
  rcases hcall with ⟨v, vm₁, B, hW1, X', hp, st⟩ | ⟨q, vm₁, B, hW1, X', hp, st⟩
  · exact call_back C (rest := rest) (pc := pc) (g := F0 (xm X) pc ls (rest.map tv)) hT hW1 hS hls hL hstr hca hcb rfl kr kx (Or.inl ⟨v, B, X', hp, st⟩)
  · exact call_back C (rest := rest) (pc := pc) (g := F0 (xm X) pc ls (rest.map tv)) hT hW1 hS hls hL hstr hca hcb rfl kr kx (Or.inr ⟨q, B, X', hp, st⟩)
end RulesD
