/-! new things; constructors; casts -/
section RulesE
variable {G : Gp} {own : String} {cc : ByteArray} {nL : Nat} {X : Xt} {QQ : State → Prop} {pc : Nat} {L st : List PV} {S : Shp} {F : Fl} {I : Il}
variable {Q : Option PV → Shp → Fl → Il → Prop} {QX : String → Shp → Fl → Il → Prop}
theorem J_objInit (C : CO G own cc nL X) {index : Nat} {o : Nat} (hlink : Cond.methodLink own index objectInit ∈ lw_good) (hinst : Cond.instanceMethod objectInit ∈ lw_good) (hcode : Cond.code objectInit ⟨#[0xb1]⟩ 1 none ∈ lw_good) (hlen : L.length = nL) (hd : decode cc pc = .ok (.invokespecial index, 3)) (hf : 1 ≤ (xR X).frames) (hlo : 20 ≤ (xR X).locals) (hcat : (st.map fun v => (tv v).category).sum ≤ 8) (h : J G X QQ (pc + 3) L st S F I) : J G X QQ pc L (vr (some o) :: st) S F I := by
  intro H locs ls cells slots hW hS hls hL hst hca hcb
  refine W.objInit C.1 C.2.1 C.2.2.1 (C.2.2.2.1 _ hlink) (C.2.2.2.1 _ hinst) (C.2.2.2.1 _ hcode) rfl (by rw [C.2.2.2.2.2.2.1, ← hlen]; exact hls.1) (rest := st.map tv) rfl hd hf ?_ (h H locs ls cells slots hW hS hls hL (wt hst) hca hcb)
  have := cat_le st hcat
  simp only [JFrame.monitorRoom] at *
  simp
  simp at this
  omega
theorem J_callI (C : CO G own cc nL X) {d index n maxL b : Nat} {y : MethodName} {bytes : ByteArray} {as rest : List PV} (hI : MI y bytes maxL none n) (hy1 : y.name = "<init>") (hlink : Cond.methodLink own index y ∈ lw_good) (hinst : Cond.instanceMethod y ∈ lw_good) (hd : decode cc pc = .ok (.invokespecial index, 3)) (hn : as.length = n) (hlen : L.length = nL) (hf : d + 1 ≤ (xR X).frames) (hlo : 19 + maxL + 38 * d ≤ (xR X).locals) (hcat : (rest.map fun v => (tv v).category).sum ≤ 8)
    (hM : CM (xl X) G d y (.code y bytes maxL none) (vr (some b) :: as) S F I Q QX) (kr : ∀ v S' F' I', Q v S' F' I' → J G X QQ (pc + 3) L (v.toList ++ rest) S' F' I') (kx : ∀ E S' F' I', QX E S' F' I' → JX G X QQ E pc L S' F' I') : J G X QQ pc L (as.reverse ++ vr (some b) :: rest) S F I := by
  intro H locs ls cells slots hW hS hls hL hst hca hcb T hT X9
  have hts := C.2.2.2.1
  have hstr : ∀ v ∈ rest, wfv v := fun v hv => hst v (List.mem_append_right _ (List.mem_cons_of_mem _ hv))
  have hsta : ∀ v ∈ vr (some b) :: as, wfv v := List.forall_mem_cons.mpr ⟨trivial, fun v hv => hst v (List.mem_append_left _ (List.mem_reverse.mpr hv))⟩
  have hK9 := md_back (R := xR X) (p := xp X) (e := xe X) (below := xb X) (s := xs X) (sargs := xa X) (len := 3) (W9 := 8) hM hf (by omega) (CodeW.code y bytes maxL none) (List.forall_mem_cons.mpr ⟨good_warm hI.1 hts, fun w hw => good_warm hw hts⟩) (good_warm hI.2.1 hts) PcD.blind
  have hcall := vx_callI X9 C.1 (own := own) (index := index) (y := y) (bytes := bytes) (maxL := maxL) C.2.2.1 hy1 (hts _ hlink) (hts _ hinst) (hts _ hI.1) hI.2.2.1 hK9 (a := b) (g := F0 (xm X) pc ls ((as.reverse ++ vr (some b) :: rest).map tv)) rfl (by rw [C.2.2.2.2.2.2.1, ← hlen]; exact hls.1) (argsL := as.map tv) (rest := rest.map tv) (params_len hI.2.2.2 (by rw [List.length_map]; exact hn)) (by rw [List.map_append, List.map_reverse]; rfl) (by simpa using cat_le rest hcat) (by rw [C.2.1]; exact hd)
    (fun vm₁ hW1 => ⟨hca, hcb, Pc_at (as := vr (some b) :: as) C hT hW hS hsta hW1⟩)
  rcases hcall with ⟨v, vm₁, B, hW1, X', hp, st⟩ | ⟨q, vm₁, B, hW1, X', hp, st⟩
  · exact call_back C (rest := rest) (pc := pc) (g := F0 (xm X) pc ls (rest.map tv)) hT hW1 hS hls hL hstr hca hcb rfl kr kx (Or.inl ⟨v, B, X', hp, st⟩)
  · exact call_back C (rest := rest) (pc := pc) (g := F0 (xm X) pc ls (rest.map tv)) hT hW1 hS hls hL hstr hca hcb rfl kr kx (Or.inr ⟨q, B, X', hp, st⟩)
theorem J_callIN (C : CO G own cc nL X) {d index n maxL b : Nat} {y : MethodName} {host : String} {bytes : ByteArray} {as rest : List PV} (hI : MI y bytes maxL none n) (hy1 : y.name = "<init>") (hlink : Cond.methodLinkNest own index y host ∈ lw_tbl) (hinst : Cond.instanceMethod y ∈ lw_good) (hd : decode cc pc = .ok (.invokespecial index, 3)) (hn : as.length = n) (hlen : L.length = nL) (hf : d + 1 ≤ (xR X).frames) (hlo : 19 + maxL + 38 * d ≤ (xR X).locals) (hcat : (rest.map fun v => (tv v).category).sum ≤ 8)
    (hM : CM (xl X) G d y (.code y bytes maxL none) (vr (some b) :: as) S F I Q QX) (kr : ∀ v S' F' I', Q v S' F' I' → J G X QQ (pc + 3) L (v.toList ++ rest) S' F' I') (kx : ∀ E S' F' I', QX E S' F' I' → JX G X QQ E pc L S' F' I') : J G X QQ pc L (as.reverse ++ vr (some b) :: rest) S F I := by
  intro H locs ls cells slots hW hS hls hL hst hca hcb T hT X9
  have hts := C.2.2.2.1
  have hstr : ∀ v ∈ rest, wfv v := fun v hv => hst v (List.mem_append_right _ (List.mem_cons_of_mem _ hv))
  have hsta : ∀ v ∈ vr (some b) :: as, wfv v := List.forall_mem_cons.mpr ⟨trivial, fun v hv => hst v (List.mem_append_left _ (List.mem_reverse.mpr hv))⟩
  have hK9 := md_back (R := xR X) (p := xp X) (e := xe X) (below := xb X) (s := xs X) (sargs := xa X) (len := 3) (W9 := 8) hM hf (by omega) (CodeW.code y bytes maxL none) (List.forall_mem_cons.mpr ⟨good_warm hI.1 hts, fun w hw => good_warm hw hts⟩) (good_warm hI.2.1 hts) PcD.blind
  have hcall := vx_callIN X9 C.1 (own := own) (index := index) (host := host) (y := y) (bytes := bytes) (maxL := maxL) C.2.2.1 hy1 (va_Nw.use rfl (C.2.2.2.2.1.2.1 _ hlink rfl)) (hts _ hinst) (hts _ hI.1) hI.2.2.1 hK9 (a := b) (g := F0 (xm X) pc ls ((as.reverse ++ vr (some b) :: rest).map tv)) rfl (by rw [C.2.2.2.2.2.2.1, ← hlen]; exact hls.1) (argsL := as.map tv) (rest := rest.map tv) (params_len hI.2.2.2 (by rw [List.length_map]; exact hn)) (by rw [List.map_append, List.map_reverse]; rfl) (by simpa using cat_le rest hcat) (by rw [C.2.1]; exact hd)
    (fun vm₁ hW1 => ⟨hca, hcb, Pc_at (as := vr (some b) :: as) C hT hW hS hsta hW1⟩)
  rcases hcall with ⟨v, vm₁, B, hW1, X', hp, st⟩ | ⟨q, vm₁, B, hW1, X', hp, st⟩
  · exact call_back C (rest := rest) (pc := pc) (g := F0 (xm X) pc ls (rest.map tv)) hT hW1 hS hls hL hstr hca hcb rfl kr kx (Or.inl ⟨v, B, X', hp, st⟩)
  · exact call_back C (rest := rest) (pc := pc) (g := F0 (xm X) pc ls (rest.map tv)) hT hW1 hS hls hL hstr hca hcb rfl kr kx (Or.inr ⟨q, B, X', hp, st⟩)
theorem rg_zF {F : Fl} {q : Nat} (h : ∀ k b, rg (F k b)) (k b : Nat) : rg (zF F q k b) := by
  unfold zF
  by_cases hb : b = q
  · rw [if_pos hb]; exact rg0
  · rw [if_neg hb]; exact h k b
theorem rg_zI {I : Il} {q : Nat} (h : ∀ b j, rg (I b j)) (b : Nat) (j : Int) : rg (zI I q b j) := by
  unfold zI
  by_cases hb : b = q
  · rw [if_pos hb]; exact rg0
  · rw [if_neg hb]; exact h b j
/-- a world behind a new thing -/
theorem Wld.push {H H1 : Heap} {S' : Shp} {F' : Fl} {I' : Il} {q : Nat} {e : va_E} (h : Wld G S F I H) (hL : sL S' = sL S ++ [q]) (hK : ∀ b, sK S' b ≠ 99 → b = q ∨ sK S b ≠ 99) (h1 : cont G S' F' I' q = e) (h2 : ∀ b, b ≠ q → cont G S' F' I' b = cont G S F I b) (hF : ∀ k q, rg (F' k q)) (hI : ∀ q j, rg (I' q j))
    (hP : va_P (gD G) vwCl (pw G S F I ++ [(q, e)]) H1) (hD : va_D (gAd G) (pw G S F I ++ [(q, e)])) : Wld G S' F' I' H1 ∧ q ∉ sL S := by
  have hnot : q ∉ sL S := fun hq => by
    obtain ⟨k, hk⟩ := va_pl_get (X := []) (f := cont G S F I) hq
    have hk' : (pw G S F I)[k]? = some (q, cont G S F I q) := hk
    have hl := (List.getElem?_eq_some_iff.mp hk').1
    have e2 : (pw G S F I ++ [(q, e)])[(pw G S F I).length]? = some (q, e) := by simp
    have e1 : (pw G S F I ++ [(q, e)])[k]? = some (q, cont G S F I q) := by rw [List.getElem?_append_left hl]; exact hk'
    have := hD.1 k (pw G S F I).length _ _ e1 e2 rfl
    omega
  have e3 : pw G S F I ++ [(q, e)] = pw G S' F' I' := by
    show va_pl (sL S) (cont G S F I) ++ [(q, e)] = va_pl (sL S') (cont G S' F' I')
    rw [va_pl_push hnot, hL]
    refine va_pl_congr fun b => ?_
    by_cases hb : b = q
    · subst hb
      rw [va_up_self, h1]
    · rw [va_up_ne _ _ hb, h2 b hb]
  rw [e3] at hP hD
  refine ⟨⟨hP, hD, fun b hb => ?_, hF, hI⟩, hnot⟩
  rw [hL]
  rcases hK b hb with rfl | hb
  · exact List.mem_append_right _ (List.mem_singleton.mpr rfl)
  · exact List.mem_append_left _ (h.2.2.1 b hb)
theorem not_live {H : Heap} (h : Wld G S F I H) {q : Nat} (hq : q ∉ sL S) : sK S q = 99 := Classical.byContradiction fun n => hq (h.2.2.1 q n)
theorem fvv_new (c k q ci : Nat) : fvv c (newO S q ci) (zF F q) q k = if refT (clT c k) = true then .null else .int 0 := by
  show (if refT (clT c k) = true then va_rf (if q = q then none else sR S (100 * c + k) q) else .int (Int32.ofInt (if q = q then 0 else F (100 * c + k) q))) = _
  rw [if_pos rfl, if_pos rfl]
  rfl
theorem J_new (C : CO G own cc nL X) {ci index N : Nat} {Cn : String} {T : u_T} (hf : vwCl[ci]? = some (Cn, T, N) ∧ clN ci = N ∧ ci < 20 ∧ (∀ w ∈ u_ws Cn T N, w ∈ lw_good)) (hp : ∀ k, k < N → parseFieldDescriptor (T k).2.2.1 = some (clT ci k)) (hdef : ∀ k, k < N → defaultValue (clT ci k) = if refT (clT ci k) = true then .null else .int 0) (hlink : Cond.classLink own index Cn ∈ lw_good) (hins : Cond.instantiable Cn N ∈ lw_good) (hini : Cond.initialized Cn ∈ lw_good) (hd : decode cc pc = .ok (.new index, 3)) (ha : 1 ≤ sa S) (hb : N ≤ sb S)
    (h : ∀ q : Nat, sK S q = 99 → J G X QQ (pc + 3) L (vr (some q) :: st) (newO S q ci) (zF F q) I) : J G X QQ pc L st S F I := by
  intro H locs ls cells slots hW hS hls hL hst hca hcb
  obtain ⟨f1, f2, f3, f4⟩ := hf
  have hts := C.2.2.2.1
  refine va_new (fs := fvs ci (newO S 0 ci) (zF F 0) 0) C.1 C.2.1 hts f4 (clT ci) hp C.2.2.1 (hts _ hlink) (hts _ hins) (hts _ hini) C.2.2.2.2.1.1 hW.1 hW.2.1 hS (fun q hq => Nat.le_trans C.2.2.2.2.1.2.2.2.1 hq) f1 (fun j hj => ?_) (by omega) (by omega) hd fun q H1 hP hD hS1 => ?_
  · show _ = (fvs ci (newO S 0 ci) (zF F 0) 0).getD j .null
    rw [List.getD_eq_getElem?_getD, fvs_get (by rw [f2]; exact hj), hdef j hj, fvv_new]
    rfl
  · have e0 : fvs ci (newO S 0 ci) (zF F 0) 0 = fvs ci (newO S q ci) (zF F q) q := by
      unfold fvs
      congr 1
      funext k
      rw [fvv_new, fvv_new]
    rw [e0] at hP hD
    obtain ⟨hW1, hq⟩ := hW.push (S' := newO S q ci) (F' := zF F q) (I' := I) rfl (fun b hb => by
        by_cases hbq : b = q
        · exact Or.inl hbq
        · refine Or.inr ?_
          rwa [show sK (newO S q ci) b = sK S b from va_up_ne _ _ hbq] at hb) (cont_o (show sK (newO S q ci) q = ci from va_up_self _ _ _) f3) (fun b hb => cont_congr (va_up_ne _ _ hb) rfl (fun c j => by
          show (if refT (clT c j) = true then va_rf (if b = q then none else sR S (100 * c + j) b) else .int (Int32.ofInt (if b = q then 0 else F (100 * c + j) b))) = _
          rw [if_neg hb, if_neg hb]
          rfl) (fun _ => rfl) (fun _ => rfl)) (rg_zF hW.2.2.2.1) hW.2.2.2.2 hP hD
    exact h q (not_live hW hq) H1 locs ls (cells + 1) (slots + N) hW1 hS1 hls hL (wcr hst) (by show cells + 1 + (sa S - 1) ≤ _; omega) (by show slots + N + (sb S - clN ci) ≤ _; omega)
theorem va_RA_prim {U : State} {a b : ClassId} {t : FieldType} (h1 : va_RA U a t) (h2 : va_RA U b t) : a = b := by
  cases t with
  | object Cn =>
    obtain ⟨-, -, -, -, -, h1⟩ := h1
    obtain ⟨-, -, -, -, -, h2⟩ := h2
    exact Option.some.inj (h1.symm.trans h2)
  | _ => exact Option.some.inj (Eq.trans (Eq.symm h1) h2)
theorem newA_wld {H H1 : Heap} {k q n : Nat} {cA : ClassId} {r : vpR} (hW : Wld G S F I H) (hk : 20 ≤ k) (hcA : cA = gA G (k - 20)) (hr : arc k (newA S q k n) (zI I q) q = r) (hP : va_P (gD G) vwCl (pw G S F I ++ [(q, .inl (cA, (n, r)))]) H1) (hD : va_D (gAd G) (pw G S F I ++ [(q, .inl (cA, (n, r)))])) : Wld G (newA S q k n) F (zI I q) H1 ∧ q ∉ sL S := by
  subst hcA
  refine hW.push (S' := newA S q k n) (F' := F) (I' := zI I q) rfl (fun b hb => ?_) ?_ (fun b hb => cont_congr (va_up_ne _ _ hb) (va_up_ne _ _ hb) (fun c j => rfl) (fun j => by unfold zI; rw [if_neg hb]) (fun j => by show (if b = q then none else sG S b j) = _; rw [if_neg hb])) hW.2.2.2.1 (rg_zI hW.2.2.2.2) hP hD
  · by_cases hbq : b = q
    · exact Or.inl hbq
    · refine Or.inr ?_
      rwa [show sK (newA S q k n) b = sK S b from va_up_ne _ _ hbq] at hb
  · rw [cont_a (show sK (newA S q k n) q = k from va_up_self _ _ _) hk, hr, show sN (newA S q k n) q = n from va_up_self _ _ _]
theorem arc_z {k q n : Nat} : arc k (newA S q k n) (zI I q) q = if k ≤ 21 then .inl (fun _ => 0) else if k = 22 then .inr (.inl (fun _ => 0)) else .inr (.inr (.inr (.inr (fun _ => none)))) := by
  have e1 : ∀ j : Nat, zI I q q (j : Int) = 0 := fun j => if_pos rfl
  have e2 : ∀ j : Nat, sG (newA S q k n) q (j : Int) = none := fun j => if_pos rfl
  unfold arc
  simp only [e1, e2]
  rfl
theorem newarr (C : CO G own cc nL X) {atype : ArrayType} {k n : Nat} {z : Int} {ty : FieldType} (hk : 20 ≤ k) (hty : newarray.typeOf atype = ty) (htk : (tysG G)[k - 20]? = some (gA G (k - 20), ty)) (hz : z = (n : Int)) {r : vpR} (ha0 : ∀ cA : ClassId, vp_cell cA (n, r) = arrV cA n (fun _ => defaultValue ty)) (hrr : ∀ q, arc k (newA S q k n) (zI I q) q = r) (harr : Cond.arrayClass ty ∈ lw_good) (hd : decode cc pc = .ok (.newarray atype, 2)) (hn : n ≤ 65536) (hbytes : componentBytes ty ≤ 8) (ha : 1 ≤ sa S) (hb : n ≤ sb S)
    (h : ∀ q : Nat, sK S q = 99 → J G X QQ (pc + 2) L (vr (some q) :: st) (newA S q k n) F (zI I q)) : J G X QQ pc L (vi z :: st) S F I := by
  subst hz
  intro H locs ls cells slots hW hS hls hL hst hca hcb
  have hz : rg (n : Int) := whi hst
  subst hty
  refine va_newa (a0 := (n, r)) (N' := n) C.1 C.2.1 (C.2.2.2.1 _ harr) rfl C.2.2.2.2.1.1 hW.1 hW.2.1 hS (fun q hq => Nat.le_trans C.2.2.2.2.1.2.2.2.1 hq) (fun cA => ha0 cA) (fun w => ?_) (by rw [i_cl hz (by omega)]; omega) ?_ (by omega) (by omega) hd fun q cA H1 hK1 hP hD hS1 => ?_
  · rw [← i_0, i_lt hz rg0] at w
    omega
  · have : n * componentBytes (newarray.typeOf atype) ≤ 65536 * 8 := Nat.mul_le_mul hn hbytes
    omega
  · have hcA : cA = gA G (k - 20) := va_RA_prim (hK1.2 6 (cA, newarray.typeOf atype) rfl).2 (C.2.2.2.2.1.1.2 _ _ htk).2
    obtain ⟨hW1, hq⟩ := newA_wld hW hk hcA (hrr q) hP hD
    exact h q (not_live hW hq) H1 locs ls (cells + 1) (slots + n) hW1 hS1 hls hL (wcr (wt hst)) (by show cells + 1 + (sa S - 1) ≤ _; omega) (by show slots + n + (sb S - n) ≤ _; omega)
theorem J_newI (C : CO G own cc nL X) {n : Nat} {z : Int} (hz : z = (n : Int)) (harr : Cond.arrayClass .int ∈ lw_good) (hd : decode cc pc = .ok (.newarray .int, 2)) (hn : n ≤ 65536) (ha : 1 ≤ sa S) (hb : n ≤ sb S) (h : ∀ q : Nat, sK S q = 99 → J G X QQ (pc + 2) L (vr (some q) :: st) (newA S q 20 n) F (zI I q)) : J G X QQ pc L (vi z :: st) S F I :=
  newarr C (ty := .int) (k := 20) (r := .inl (fun _ => 0)) (by omega) rfl rfl hz (fun cA => rfl) (fun q => arc_z) harr hd hn (by decide) ha hb h
theorem J_newQ (C : CO G own cc nL X) {k n index : Nat} {z : Int} {Cn : String} (hk : 23 ≤ k) (htk : (tysG G)[k - 20]? = some (gA G (k - 20), .object Cn)) (hz : z = (n : Int)) (hlink : Cond.classLink own index Cn ∈ lw_good) (hover : Cn ∈ aos) (hd : decode cc pc = .ok (.anewarray index, 3)) (hn : n ≤ 65536) (ha : 1 ≤ sa S) (hb : n ≤ sb S)
    (h : ∀ q : Nat, sK S q = 99 → J G X QQ (pc + 3) L (vr (some q) :: st) (newA S q k n) F (zI I q)) : J G X QQ pc L (vi z :: st) S F I := by
  subst hz
  intro H locs ls cells slots hW hS hls hL hst hca hcb
  have hz : rg (n : Int) := whi hst
  have hover9 : va_AO Cn (xs X) := C.2.2.2.2.1.2.2.2.2.2.2.2.2.1 _ hover
  refine va_newq (N' := n) C.1 C.2.1 C.2.2.1 (C.2.2.2.1 _ hlink) hover9 C.2.2.2.2.1.1 hW.1 hW.2.1 hS (fun q hq => Nat.le_trans C.2.2.2.2.1.2.2.2.1 hq) (fun w => ?_) (by rw [i_cl hz (by omega)]; omega) (by omega) (by omega) (by omega) hd fun q cA H1 hK1 hP hD hS1 => ?_
  · rw [← i_0, i_lt hz rg0] at w
    omega
  · have hcA : cA = gA G (k - 20) := va_RA_prim (hK1.2 6 (cA, .object Cn) rfl).2 (C.2.2.2.2.1.1.2 _ _ htk).2
    obtain ⟨hW1, hq⟩ := newA_wld hW (by omega) hcA (r := .inr (.inr (.inr (.inr (fun _ => none))))) (by rw [arc_z, if_neg (by omega), if_neg (by omega)]) hP hD
    exact h q (not_live hW hq) H1 locs ls (cells + 1) (slots + n) hW1 hS1 hls hL (wcr (wt hst)) (by show cells + 1 + (sa S - 1) ≤ _; omega) (by show slots + n + (sb S - n) ≤ _; omega)
theorem upd_uq {f : Nat → Int → Option Nat} {q : Nat} {z : Int} {x : Option Nat} (h0 : 0 ≤ z) : (fun j : Nat => ui f q z x q (j : Int)) = va_up (fun j : Nat => f q (j : Int)) z.toNat x := by
  funext j
  unfold ui va_up
  by_cases hj : (j : Int) = z
  · rw [if_pos ⟨rfl, hj⟩, if_pos (by omega)]
  · rw [if_neg (fun w => hj w.2), if_neg (by omega)]
theorem J_aast (C : CO G own cc nL X) {q k v ci N : Nat} {Cn En : String} {T : u_T} {z : Int} (hd : decode cc pc = .ok (.aastore, 1)) (hK : sK S q = k) (hk : 23 ≤ k) (hk2 : k < 26) (htk : (tysG G)[k - 20]? = some (gA G (k - 20), .object En)) (hKv : sK S v = ci) (hc : vwCl[ci]? = some (Cn, T, N)) (hci : ci < 20) (he : En = Cn ∨ Cond.castable Cn En ∈ lw_tbl) (h0 : 0 ≤ z) (hn : z < (sN S q : Int)) (h : J G X QQ (pc + 1) L st (setG S q z (some v)) F I) : J G X QQ pc L (vr (some v) :: vi z :: vr (some q) :: st) S F I := by
  intro H locs ls cells slots hW hS hls hL hst hca hcb
  obtain ⟨q0, hq0⟩ := hW.at (q := q) (by rw [hK]; omega)
  have hq1 := hq0
  rw [cont_a hK (by omega)] at hq1
  have ea : arc k S I q = .inr (.inr (.inr (.inr (fun j : Nat => sG S q (j : Int))))) := by
    unfold arc
    rw [if_neg (by omega), if_neg (by omega)]
  rw [ea] at hq1
  obtain ⟨qv, hqv⟩ := hW.at (q := v) (by rw [hKv]; omega)
  rw [cont_o hKv hci] at hqv
  have hz : rg z := whi (wt hst)
  have hr := va_recv C.2.2.2.2.1.1 hW.1 hc hqv
  refine vb_astq (E := En) (C := Cn) C.1 C.2.1 C.2.2.2.2.1.1 hW.1 hW.2.1 hS q0 (k - 20) hq1 htk hr (fun comp c0 h1 h2 => ?_) (i_in hz h0 hn) hd fun H1 locs1 a b c => ?_
  · rcases he with rfl | he
    · exact vb_asgS comp c0 h1 h2
    · exact vb_asgC (C.2.2.2.2.1.2.1 _ he rfl) comp c0 h1 h2
  · rw [i_cl hz h0] at a b
    exact h H1 locs1 ls cells slots (pw_arr hW hK (by omega) (by omega) hq0 rfl rfl rfl rfl (fun _ _ _ => rfl) (fun b hb j => ui_ne hb j) hW.2.2.2.2 (by
      unfold arc
      rw [if_neg (by omega), if_neg (by omega)]
      exact congrArg (fun f => Sum.inr (Sum.inr (Sum.inr (Sum.inr f)))) (upd_uq h0)) a b) c hls hL (wt (wt (wt hst))) hca hcb
theorem J_cast (C : CO G own cc nL X) {q ci N index : Nat} {Cn : String} {T : u_T} (hc : vwCl[ci]? = some (Cn, T, N)) (hci : ci < 20) (hlink : Cond.classLink own index Cn ∈ lw_good) (hd : decode cc pc = .ok (.checkcast index, 3)) (hK : sK S q = ci) (h : J G X QQ (pc + 3) L (vr (some q) :: st) S F I) : J G X QQ pc L (vr (some q) :: st) S F I := by
  intro H locs ls cells slots hW hS hls hL hst hca hcb
  obtain ⟨q0, hq0⟩ := hW.at (q := q) (by rw [hK]; omega)
  rw [cont_o hK hci] at hq0
  obtain ⟨cell, g1, g2, g3⟩ := va_recv C.2.2.2.2.1.1 hW.1 hc hq0
  exact va_castS C.1 C.2.1 C.2.2.1 (C.2.2.2.1 _ hlink) (C.2.2.2.2.1.1.1 ci _ hc).2 ⟨cell, g1, g2, g3⟩ hd (h H locs ls cells slots hW hS hls hL hst hca hcb)
end RulesE
