/-! what the JDK's lists want: their first row, copies, class objects -/
def isObj (S : Shp) (v : Nat) : Prop := 1 ≤ sK S v ∧ sK S v ≤ 8
/-- the length of a row of objects: of the JDK's own empty one, or of one of ours -/
def lenO (G : Gp) (S : Shp) (q n : Nat) : Prop := (q = gZ G ∧ n = 0) ∨ (sK S q = 25 ∧ n = sN S q)
def okCp (S : Shp) (a b : Nat) (sp dp n : Int) : Prop := 0 ≤ sp ∧ 0 ≤ dp ∧ 0 ≤ n ∧ sp + n ≤ (sN S a : Int) ∧ dp + n ≤ (sN S b : Int) ∧ sN S a ≤ 65536 ∧ sN S b ≤ 65536
def cpI (I : Il) (a b : Nat) (sp dp n : Int) : Il := fun q j => if q = b ∧ dp ≤ j ∧ j < dp + n then I a (sp + (j - dp)) else I q j
def cpG (S : Shp) (a b : Nat) (sp dp n : Int) : Shp := (sL S, sK S, sR S, sN S, (fun q j => if q = b ∧ dp ≤ j ∧ j < dp + n then sG S a (sp + (j - dp)) else sG S q j), sa S, sb S)
def allObj (S : Shp) (a : Nat) (sp n : Int) : Prop := ∃ ci, 1 ≤ ci ∧ ci ≤ 8 ∧ ∀ j : Int, sp ≤ j → j < sp + n → ∀ y, sG S a j = some y → sK S y = ci
section RulesG
variable {G : Gp} {own : String} {cc : ByteArray} {nL : Nat} {X : Xt} {QQ : State → Prop} {pc : Nat} {L st : List PV} {S : Shp} {F : Fl} {I : Il} {ret : Option FieldType} {nm : String} {d : Nat}
theorem obj_cast {ci : Nat} (h1 : 1 ≤ ci) (h2 : ci ≤ 8) : ∃ (Cn : String) (T : u_T) (N : Nat), vwCl[ci]? = some (Cn, T, N) ∧ Cond.castable Cn "java/lang/Object" ∈ lw_tbl := by
  obtain rfl | rfl | rfl | rfl | rfl | rfl | rfl | rfl : ci = 1 ∨ ci = 2 ∨ ci = 3 ∨ ci = 4 ∨ ci = 5 ∨ ci = 6 ∨ ci = 7 ∨ ci = 8 := by omega
  all_goals exact ⟨_, _, _, rfl, by decide +kernel⟩
theorem K_aastO (C : CO G own cc nL X) {q v : Nat} {z : Int} (hd : decode cc pc = .ok (.aastore, 1)) (hK : sK S q = 25) (hv : isObj S v) (h0 : 0 ≤ z) (hn : z < (sN S q : Int)) (h : J G X QQ (pc + 1) L st (setG S q z (some v)) F I) : J G X QQ pc L (vr (some v) :: vi z :: vr (some q) :: st) S F I := by
  obtain ⟨Cn, T, N, h1, h2⟩ := obj_cast hv.1 hv.2
  exact J_aast C hd hK (by decide) (by decide) (En := "java/lang/Object") rfl rfl h1 (by have := hv.2; omega) (Or.inr h2) h0 hn h
theorem K_alenO (C : CO G own cc nL X) {q n : Nat} (hd : decode cc pc = .ok (.arraylength, 1)) (hq : lenO G S q n) (hn : n ≤ 65536) (h : J G X QQ (pc + 1) L (vi (n : Int) :: st) S F I) : J G X QQ pc L (vr (some q) :: st) S F I := by
  rcases hq with ⟨rfl, rfl⟩ | ⟨hK, rfl⟩
  · intro H locs ls cells slots hW hS hls hL hst hca hcb
    exact va_tlen C.1 C.2.1 C.2.2.2.2.1.2.2.2.2.1.2 hS rfl hd (h H locs ls cells slots hW hS hls hL (wci rg0 (wt hst)) hca hcb)
  · exact J_alen C hd hK (by decide) (by decide) (rg_len hn) h
theorem K_getZ (C : CO G own cc nL X) {index : Nat} (hl : Cond.fieldLink own index "java/util/ArrayList" "DEFAULTCAPACITY_EMPTY_ELEMENTDATA" "[Ljava/lang/Object;" ∈ lw_good) (hd : decode cc pc = .ok (.getstatic index, 3)) (h : J G X QQ (pc + 3) L (vr (some (gZ G)) :: st) S F I) : J G X QQ pc L st S F I := by
  intro H locs ls cells slots hW hS hls hL hst hca hcb
  exact va_gets C.1 C.2.1 C.2.2.2.2.1.2.2.2.2.1.1 hS C.2.2.1 (C.2.2.2.1 _ hl) (fun x hx => hx) hd (h H locs ls cells slots hW hS hls hL (wcr hst) hca hcb)
theorem K_ldcM (C : CO G own cc nL X) {index : Nat} (hl : Cond.classLink own index "[Ljava/lang/Object;" ∈ lw_good) (hd : decode cc pc = .ok (.ldc index, 2)) (h : J G X QQ (pc + 2) L (vr (some (gM G)) :: st) S F I) : J G X QQ pc L st S F I := by
  intro H locs ls cells slots hW hS hls hL hst hca hcb
  exact va_ldcM C.1 C.2.1 C.2.2.1 (C.2.2.2.1 _ hl) C.2.2.2.2.1.2.2.2.2.2.1.1 hd (h H locs ls cells slots hW hS hls hL (wcr hst) hca hcb)
theorem J_acmp_eq (C : CO G own cc nL X) {a b : Nat} {off : Int} {tgt : Nat} (hd : decode cc pc = .ok (.if_acmp .eq off, 3)) (ht : (pc : Int) + off = (tgt : Int)) (kt : a = b → J G X QQ tgt L st S F I) (kf : ¬ a = b → J G X QQ (pc + 3) L st S F I) : J G X QQ pc L (vr (some b) :: vr (some a) :: st) S F I :=
  fun H locs ls cells slots hW hS hl hL hst hca hcb => lv_acmp_eq (rx := some a) (ry := some b) C.1 C.2.1 hd ht (fun c => kt (Option.some.inj c) H locs ls cells slots hW hS hl hL (wt (wt hst)) hca hcb) (fun c => kf (fun z => c (congrArg some z)) H locs ls cells slots hW hS hl hL (wt (wt hst)) hca hcb)
theorem J_acmp_ne (C : CO G own cc nL X) {a b : Nat} {off : Int} {tgt : Nat} (hd : decode cc pc = .ok (.if_acmp .ne off, 3)) (ht : (pc : Int) + off = (tgt : Int)) (kt : ¬ a = b → J G X QQ tgt L st S F I) (kf : a = b → J G X QQ (pc + 3) L st S F I) : J G X QQ pc L (vr (some b) :: vr (some a) :: st) S F I :=
  fun H locs ls cells slots hW hS hl hL hst hca hcb => lv_acmp_ne (rx := some a) (ry := some b) C.1 C.2.1 hd ht (fun c => kt (fun z => c (congrArg some z)) H locs ls cells slots hW hS hl hL (wt (wt hst)) hca hcb) (fun c => kf (by first | exact Option.some.inj c | exact Classical.byContradiction fun n => c (fun z => n (Option.some.inj z))) H locs ls cells slots hW hS hl hL (wt (wt hst)) hca hcb)
theorem ac_words : Cond.native arraycopyName ∈ lw_good ∧ Cond.static arraycopyName ∈ lw_good ∧ Cond.initialized "java/lang/System" ∈ lw_good := ⟨List.mem_filter.mpr ⟨by decide +kernel, by decide +kernel⟩, List.mem_filter.mpr ⟨by decide +kernel, by decide +kernel⟩, List.mem_filter.mpr ⟨by decide +kernel, by decide +kernel⟩⟩
theorem K_copyI (C : CO G own cc nL X) (M : MX (d + 1) ret nm X) {a b index : Nat} {sp dp n : Int} (hl : Cond.methodLink own index arraycopyName ∈ lw_good) (hd : decode cc pc = .ok (.invokestatic index, 3)) (ha : sK S a = 20) (hb : sK S b = 20) (hc : okCp S a b sp dp n) (hlen : L.length = nL) (hcat : (st.map fun v => (tv v).category).sum ≤ 8 := by exact Nat.le_of_ble_eq_true rfl) (h : J G X QQ (pc + 3) L st S F (cpI I a b sp dp n)) : J G X QQ pc L (vi n :: vi dp :: vr (some b) :: vi sp :: vr (some a) :: st) S F I := by
  intro H locs ls cells slots hW hS hls hL hst hca hcb
  obtain ⟨c1, c2, c3, c4, c5, c6, c7⟩ := hc
  obtain ⟨q0, hq0⟩ := hW.at (q := a) (by rw [ha]; omega)
  obtain ⟨q1, hq1⟩ := hW.at (q := b) (by rw [hb]; omega)
  have hq2 := hq1
  rw [cont_a ha (by omega)] at hq0
  rw [cont_a hb (by omega)] at hq2
  have rsp : rg sp := whi (wt (wt (wt hst)))
  have rdp : rg dp := whi (wt hst)
  have rn : rg n := whi hst
  have neg : ∀ {z : Int}, rg z → 0 ≤ z → ¬ Int32.ofInt z < 0 := fun hz h0 w => by rw [← i_0, i_lt hz rg0] at w; omega
  refine va_copyi C.1 C.2.1 (by rw [C.2.2.2.2.2.2.1, ← hlen]; exact hls.1.symm) C.2.2.1 (C.2.2.2.1 _ hl) (C.2.2.2.1 _ ac_words.1) (C.2.2.2.1 _ ac_words.2.1) (C.2.2.2.1 _ ac_words.2.2) C.2.2.2.2.1.1 hW.1 hW.2.1 hS q0 q1 0 0 (ty := .int) hq0 hq2 rfl rfl rfl (neg rsp c1) (neg rdp c2) (neg rn c3) (by rw [i_cl rsp c1, i_cl rn c3]; omega) (by rw [i_cl rdp c2, i_cl rn c3]; omega) (fun i _ => rfl) (by rw [M.1]; omega) ?_ hd fun H1 locs1 x y z => ?_
  · have := cat_le st hcat
    have hw : nativeFrameWords "java/lang/System" "arraycopy" 5 + 11 ≤ 30 := by decide
    have h9 := M.2.1
    omega
  · refine h H1 locs1 ls cells slots (pw_arr hW hb (by omega) (by omega) hq1 rfl rfl rfl rfl (fun q hq j => ?_) (fun _ _ _ => rfl) (fun q j => ?_) (congrArg Sum.inl ?_) x y) z hls hL (wt (wt (wt (wt (wt hst))))) hca hcb
    · unfold cpI
      rw [if_neg (fun w => hq w.1)]
    · unfold cpI
      split
      · exact hW.2.2.2.2 _ _
      · exact hW.2.2.2.2 _ _
    · rw [i_cl rsp c1, i_cl rdp c2, i_cl rn c3]
      funext j
      by_cases hj : dp ≤ (j : Int) ∧ (j : Int) < dp + n
      · rw [pk_cpy_in (by omega) (by omega)]
        unfold cpI
        rw [if_pos ⟨rfl, hj⟩]
        congr 2
        omega
      · rw [pk_cpy_out (by omega)]
        unfold cpI
        rw [if_neg (fun w => hj w.2)]
theorem K_copyQ (C : CO G own cc nL X) (M : MX (d + 1) ret nm X) {a b index : Nat} {sp dp n : Int} (hl : Cond.methodLink own index arraycopyName ∈ lw_good) (hd : decode cc pc = .ok (.invokestatic index, 3)) (ha : sK S a = 25) (hb : sK S b = 25) (hc : okCp S a b sp dp n) (ho : allObj S a sp n) (hlen : L.length = nL) (hcat : (st.map fun v => (tv v).category).sum ≤ 8 := by exact Nat.le_of_ble_eq_true rfl) (h : J G X QQ (pc + 3) L st (cpG S a b sp dp n) F I) : J G X QQ pc L (vi n :: vi dp :: vr (some b) :: vi sp :: vr (some a) :: st) S F I := by
  intro H locs ls cells slots hW hS hls hL hst hca hcb
  obtain ⟨c1, c2, c3, c4, c5, c6, c7⟩ := hc
  obtain ⟨ci, o1, o2, o3⟩ := ho
  obtain ⟨Cn, T, N, k1, k2⟩ := obj_cast o1 o2
  obtain ⟨q0, hq0⟩ := hW.at (q := a) (by rw [ha]; omega)
  obtain ⟨q1, hq1⟩ := hW.at (q := b) (by rw [hb]; omega)
  have hq2 := hq1
  rw [cont_a ha (by omega)] at hq0
  rw [cont_a hb (by omega)] at hq2
  have rsp : rg sp := whi (wt (wt (wt hst)))
  have rdp : rg dp := whi (wt hst)
  have rn : rg n := whi hst
  have neg : ∀ {z : Int}, rg z → 0 ≤ z → ¬ Int32.ofInt z < 0 := fun hz h0 w => by rw [← i_0, i_lt hz rg0] at w; omega
  refine va_copyq (C := Cn) (E0 := "java/lang/Object") (E1 := "java/lang/Object") C.1 C.2.1 (by rw [C.2.2.2.2.2.2.1, ← hlen]; exact hls.1.symm) C.2.2.1 (C.2.2.2.1 _ hl) (C.2.2.2.1 _ ac_words.1) (C.2.2.2.1 _ ac_words.2.1) (C.2.2.2.1 _ ac_words.2.2) C.2.2.2.2.1.1 hW.1 hW.2.1 hS q0 q1 5 5 hq0 hq2 rfl rfl (neg rsp c1) (neg rdp c2) (neg rn c3) (by rw [i_cl rsp c1, i_cl rn c3]; omega) (by rw [i_cl rdp c2, i_cl rn c3]; omega) (fun i hi y hy => ?_) (fun comp c0 h1 h2 => vb_asgC (C.2.2.2.2.1.2.1 _ k2 rfl) comp c0 h1 h2) (by rw [M.1]; omega) ?_ hd fun H1 locs1 x y z => ?_
  · rw [i_cl rsp c1] at hy
    rw [i_cl rn c3] at hi
    have hKy := o3 _ (by omega) (by omega) y hy
    obtain ⟨qv, hqv⟩ := hW.at (q := y) (by rw [hKy]; omega)
    rw [cont_o hKy (by omega)] at hqv
    exact va_recv C.2.2.2.2.1.1 hW.1 k1 hqv
  · have := cat_le st hcat
    have hw : nativeFrameWords "java/lang/System" "arraycopy" 5 + 11 ≤ 30 := by decide
    have h9 := M.2.1
    omega
  · refine h H1 locs1 ls cells slots (pw_arr hW hb (by omega) (by omega) hq1 rfl rfl rfl rfl (fun _ _ _ => rfl) (fun q hq j => ?_) hW.2.2.2.2 (congrArg (fun f => Sum.inr (Sum.inr (Sum.inr (Sum.inr f)))) ?_) x y) z hls hL (wt (wt (wt (wt (wt hst))))) hca hcb
    · show (if q = b ∧ dp ≤ j ∧ j < dp + n then _ else _) = _
      rw [if_neg (fun w => hq w.1)]
    · rw [i_cl rsp c1, i_cl rdp c2, i_cl rn c3]
      funext j
      show (if b = b ∧ dp ≤ (j : Int) ∧ (j : Int) < dp + n then sG S a (sp + ((j : Int) - dp)) else sG S b (j : Int)) = _
      by_cases hj : dp ≤ (j : Int) ∧ (j : Int) < dp + n
      · rw [pk_cpy_in (by omega) (by omega), if_pos ⟨rfl, hj⟩]
        congr 1
        omega
      · rw [pk_cpy_out (by omega), if_neg (fun w => hj w.2)]
theorem gc_words : Cond.selects "[Ljava/lang/Object;" ⟨"java/lang/Object", "getClass", "()Ljava/lang/Class;"⟩ ⟨"java/lang/Object", "getClass", "()Ljava/lang/Class;"⟩ ∈ lw_good ∧ Cond.instanceMethod ⟨"java/lang/Object", "getClass", "()Ljava/lang/Class;"⟩ ∈ lw_good ∧ Cond.native ⟨"java/lang/Object", "getClass", "()Ljava/lang/Class;"⟩ ∈ lw_good := ⟨List.mem_filter.mpr ⟨by decide +kernel, by decide +kernel⟩, List.mem_filter.mpr ⟨by decide +kernel, by decide +kernel⟩, List.mem_filter.mpr ⟨by decide +kernel, by decide +kernel⟩⟩
theorem K_getC (C : CO G own cc nL X) (M : MX (d + 1) ret nm X) {q index : Nat} (hl : Cond.methodLink own index ⟨"java/lang/Object", "getClass", "()Ljava/lang/Class;"⟩ ∈ lw_good) (hd : decode cc pc = .ok (.invokevirtual index, 3)) (hK : sK S q = 25) (hlen : L.length = nL) (hcat : (st.map fun v => (tv v).category).sum ≤ 8) (h : J G X QQ (pc + 3) L (vr (some (gM G)) :: st) S F I) : J G X QQ pc L (vr (some q) :: st) S F I := by
  intro H locs ls cells slots hW hS hls hL hst hca hcb
  obtain ⟨q0, hq0⟩ := hW.at (q := q) (by rw [hK]; omega)
  rw [cont_a hK (by omega)] at hq0
  have hcell : H[q]? = some (vp_cell (gA G 5) (sN S q, arc 25 S I q)) := hW.1 q0 _ hq0
  have hcl : (xs X).vm.findClass "[Ljava/lang/Object;" = some (gA G 5) := va_nmO (C.2.2.2.2.1.1.2 5 _ rfl).2 rfl
  refine va_getC (C := "[Ljava/lang/Object;") C.1 C.2.1 (by rw [C.2.2.2.2.2.2.1, ← hlen]; exact hls.1.symm) C.2.2.1 (C.2.2.2.1 _ hl) (va_Dc.use C.2.2.2.2.1.2.2.2.2.2.1.2) (C.2.2.2.1 _ gc_words.1) (C.2.2.2.1 _ gc_words.2.1) (C.2.2.2.1 _ gc_words.2.2) C.2.2.2.2.1.2.2.2.2.2.1.1 ⟨_, hcell, rfl, hcl⟩ (by rw [M.1]; omega) ?_ hd (h H locs ls cells slots hW hS hls hL (wcr (wt hst)) hca hcb)
  have := cat_le st hcat
  have h9 := M.2.1
  omega
end RulesG
section RulesH
variable {G : Gp} {own : String} {cc : ByteArray} {nL : Nat} {X : Xt} {QQ : State → Prop} {pc : Nat} {L st : List PV} {S : Shp} {F : Fl} {I : Il}
variable {Q : Option PV → Shp → Fl → Il → Prop} {QX : String → Shp → Fl → Il → Prop}
/-- new E(text), thrown; the text by a wide index -/
theorem J_throwSW (C : CO G own cc nL X) (hown : own = "Ironbark") {cls text : String} {names : List String} {ik is ic : Nat} (hcls : Bundle.fit cls = true) (hnames : ∀ n ∈ names, Bundle.fit n = true) (hstr : (is, text) ∈ strs)
    (hk : Cond.classLink own ik cls ∈ lw_good) (hini : Cond.initialized cls ∈ lw_good) (hat : ∀ w ∈ vx_atS own ic cls names, w ∈ lw_tbl ∧ (goodWord w || (isNw w && w.onTables)) = true)
    (hgood : ∀ w ∈ Cond.classLink own ik cls :: Cond.initialized cls :: vx_atS own ic cls names, vx_ot w = true) (hlen : L.length = nL)
    (d0 : decode cc pc = .ok (.new ik, 3)) (d3 : decode cc (pc + 3) = .ok (.dup, 1)) (d4 : decode cc (pc + 4) = .ok (.ldc_w is, 3)) (d6 : decode cc (pc + 7) = .ok (.invokespecial ic, 3)) (d9 : decode cc (pc + 10) = .ok (.athrow, 1))
    (hout : ∀ x ∈ (xc X).exceptionTable.toList, covers x (pc + 10) = false) (hst0 : st = []) (hRf : names.length + 3 < (xR X).frames) (hRl : 13 * (names.length + 1) + 43 ≤ (xR X).locals) (ha : 1 ≤ sa S) (hb : 6 ≤ sb S)
    (h : QX cls (sL S, sK S, sR S, sN S, sG S, sa S - 1, sb S - 6) F I) : J G X (QD X G Q QX) pc L st S F I := by
  subst hst0
  intro H locs ls cells slots hW hS hls hL hst hca hcb
  subst hown
  obtain ⟨sx, hsx⟩ := C.2.2.2.2.1.2.2.2.2.2.2.1 _ hstr
  have k := vx_throwSW (p := xp X) (l := xl X) (e := xe X) (R := xR X) (s := xs X) (m := xm X) (args := xa X) (below := xb X) (ls := ls) (rest := []) (H := H) (locs := locs) (cells := cells) (slots := slots) (Qc := fun _ _ _ _ => False) (XC := fun E9 _ t => E9 = cls ∧ H.size ≤ t.heap.size ∧ (∀ q : Nat, q < H.size → t.heap[q]? = H[q]?)) (free := gAd G) (mc := cells + 1) (ms := slots + 6) (A := gAd G) (names := names) C.1 C.2.1 C.2.2.2.2.2.2.2 C.2.2.1 hcls hnames (C.2.2.2.1 _ hk) (C.2.2.2.1 _ hini) hsx (fun w hw => by
      obtain ⟨h8, h9⟩ := hat w hw
      rw [Bool.or_eq_true] at h9
      rcases h9 with h9 | h9
      · exact C.2.2.2.1 _ (List.mem_filter.mpr ⟨h8, h9⟩)
      · rw [Bool.and_eq_true] at h9
        exact va_Nw.use h9.2 (C.2.2.2.2.1.2.1 _ h8 h9.1)) hgood C.2.2.2.2.1.2.2.1.1 C.2.2.2.2.1.2.2.1.2 hS (by rw [hls.1, hlen]; exact C.2.2.2.2.2.2.1.symm) d0 d3 d4 d6 d9 hout hRf (by simpa using hRl) (by omega) (by omega) C.2.2.2.2.2.1 (fun t _ h1 h2 => ⟨rfl, h1, h2⟩) hS.2.2 (Nat.le_refl _) (Nat.le_refl _)
  refine Wmono ?_ k
  rintro t ⟨o, h1, h2, h4⟩
  refine ⟨o, h1, h2, ?_⟩
  rcases h4 with ⟨h4, -⟩ | ⟨q9, rfl, E9, ce9, L9, ⟨rfl, hz, hh⟩, g1, g2, g3, g4, g5, g6⟩
  · exact h4.elim
  · have hW2 : Wld G S F I t.heap := by
      obtain ⟨w1, w2, w3, w4, w5⟩ := hW
      exact ⟨w1.kept fun k q hk => hh _ (w1 k q hk).lt, w2, w3, w4, w5⟩
    have hF : va_F (gAd G) (xs X) t := ⟨Nat.le_trans hS.1 hz, fun q hq hA => by rw [hh q (Nat.lt_of_lt_of_le hq hS.1)]; exact hS.2.1 q hq hA⟩
    exact Or.inr ⟨q9, E9, ce9, (sL S, sK S, sR S, sN S, sG S, sa S - 1, sb S - 6), F, I, L9, cells + 1, slots + 6, rfl, h, hW2, hF, g1, g2, g3, g4, g5, g6, by show cells + 1 + (sa S - 1) ≤ _; omega, by show slots + 6 + (sb S - 6) ≤ _; omega⟩
end RulesH
