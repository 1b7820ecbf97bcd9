/-! the rules in the forms that the printed rows take -/
theorem rg_of {z : Int} (h : (decide (-2147483648 ≤ z) && decide (z < 2147483648)) = true) : rg z := by
  simp only [Bool.and_eq_true, decide_eq_true_eq] at h
  exact h
abbrev thr (S : Shp) : Shp := (sL S, sK S, sR S, sN S, sG S, sa S - 1, sb S - 6)
abbrev noX : String → Shp → Fl → Il → Prop := fun _ _ _ _ => False
abbrev qI (Q : Int → Shp → Fl → Il → Prop) : Option PV → Shp → Fl → Il → Prop := fun v S F I => ∃ z, v = some (vi z) ∧ Q z S F I
abbrev qR (Q : Nat → Shp → Fl → Il → Prop) : Option PV → Shp → Fl → Il → Prop := fun v S F I => ∃ r, v = some (vr (some r)) ∧ Q r S F I
abbrev qV (Q : Shp → Fl → Il → Prop) : Option PV → Shp → Fl → Il → Prop := fun v S F I => v = none ∧ Q S F I
/-- what a cut of a method's body knows of its place -/
def MX (d : Nat) (ret : Option FieldType) (nm : String) (X : Xt) : Prop := (xR X).frames = d ∧ 38 * d ≤ (xR X).locals ∧ (xf X).sig.returnType = ret ∧ (xf X).name = nm ∧ ∀ x ∈ (xc X).exceptionTable.toList, False
section RulesF
variable {G : Gp} {own : String} {cc : ByteArray} {nL : Nat} {X : Xt} {QQ : State → Prop} {pc : Nat} {L st : List PV} {S : Shp} {F : Fl} {I : Il}
theorem K_istore_n (C : CO G own cc nL X) {k : Fin 4} {i : Nat} {z : Int} (L' : List PV) (hd : decode cc pc = .ok (.istore_n k, 1)) (hi : (k : Nat) = i) (hl : i < L.length) (e : L.set i (vi z) = L') (h : J G X QQ (pc + 1) L' st S F I) : J G X QQ pc L (vi z :: st) S F I := J_istore_n C hd hi hl (by rw [e]; exact h)
theorem K_istore (C : CO G own cc nL X) {i : Nat} {z : Int} (L' : List PV) (hd : decode cc pc = .ok (.istore i, 2)) (hl : i < L.length) (e : L.set i (vi z) = L') (h : J G X QQ (pc + 2) L' st S F I) : J G X QQ pc L (vi z :: st) S F I := J_istore C hd hl (by rw [e]; exact h)
theorem K_astore_n (C : CO G own cc nL X) {k : Fin 4} {i : Nat} {o : Option Nat} (L' : List PV) (hd : decode cc pc = .ok (.astore_n k, 1)) (hi : (k : Nat) = i) (hl : i < L.length) (e : L.set i (vr o) = L') (h : J G X QQ (pc + 1) L' st S F I) : J G X QQ pc L (vr o :: st) S F I := J_astore_n C hd hi hl (by rw [e]; exact h)
theorem K_astore (C : CO G own cc nL X) {i : Nat} {o : Option Nat} (L' : List PV) (hd : decode cc pc = .ok (.astore i, 2)) (hl : i < L.length) (e : L.set i (vr o) = L') (h : J G X QQ (pc + 2) L' st S F I) : J G X QQ pc L (vr o :: st) S F I := J_astore C hd hl (by rw [e]; exact h)
theorem K_iinc (C : CO G own cc nL X) {i : Nat} {n z : Int} (L' : List PV) (hd : decode cc pc = .ok (.iinc i n, 3)) (hg : L[i]? = some (vi z)) (e : L.set i (vi (w32 (z + n))) = L') (h : J G X QQ (pc + 3) L' st S F I) : J G X QQ pc L st S F I := J_iinc C hd hg (by rw [e]; exact h)
/-- less is known of the locals -/
theorem kp_sub : ∀ (L L' : List PV) (i : Nat), L'.length = L.length → (∀ (j : Nat) (v : PV), L'[j]? = some v → knw v → L[j]? = some v) → ∀ q ∈ kp i L', q ∈ kp i L := by
  intro L L' i hl h q hq
  obtain ⟨j, v, rfl, h1, h2⟩ := kp_of L' i q hq
  exact kp_mem L i j v (h j v h1 h2) h2
def lessL : List PV → List PV → Prop
  | [], [] => True
  | a :: L, b :: L' => (b = a ∨ b = vl 0) ∧ lessL L L'
  | _, _ => False
theorem lessL_at : ∀ (L L' : List PV), lessL L L' → L'.length = L.length ∧ (∀ (j : Nat) (v : PV), L'[j]? = some v → knw v → L[j]? = some v) ∧ ((∀ v ∈ L, wfv v) → ∀ v ∈ L', wfv v)
  | [], [], _ => ⟨rfl, fun _ _ h _ => h, fun h => h⟩
  | [], _ :: _, h => h.elim
  | _ :: _, [], h => h.elim
  | a :: L, b :: L', h => by
    obtain ⟨h0, h1⟩ := h
    obtain ⟨a1, a2, a3⟩ := lessL_at L L' h1
    refine ⟨by rw [List.length_cons, List.length_cons, a1], fun j v hj hv => ?_, fun hw v hv => ?_⟩
    · cases j with
      | zero =>
        rw [List.getElem?_cons_zero] at hj ⊢
        cases hj
        rcases h0 with rfl | rfl
        · rfl
        · exact hv.elim
      | succ j =>
        rw [List.getElem?_cons_succ] at hj ⊢
        exact a2 j v hj hv
    · obtain ⟨w1, w2⟩ := List.forall_mem_cons.mp hw
      rcases List.mem_cons.mp hv with rfl | hv
      · rcases h0 with rfl | rfl
        · exact w1
        · exact rg0
      · exact a3 w2 v hv
theorem J_less (L' : List PV) (hl : lessL L L') (h : J G X QQ pc L' st S F I) : J G X QQ pc L st S F I := fun H locs ls cells slots hW hS hls hL hst ha hb => by
  obtain ⟨a1, a2, a3⟩ := lessL_at L L' hl
  exact h H locs ls cells slots hW hS (by rw [a1]; exact lv_less hls (kp_sub L L' 0 a1 a2)) (a3 hL) hst ha hb
variable {Q : Option PV → Shp → Fl → Il → Prop} {QX : String → Shp → Fl → Il → Prop} {ret : Option FieldType} {nm : String} {d : Nat}
theorem K_out {Q' : Option PV → Shp → Fl → Il → Prop} (C : CO G own cc nL X) (M : MX d ret nm X) (E : String) (S' : Shp) (F' : Fl) (I' : Il) (h : QX E S' F' I') : JX G X (QD X G Q' QX) E pc L S' F' I' := JX_out C (fun x hx => (M.2.2.2.2 x hx).elim) h
theorem K_no (E : String) (S' : Shp) (F' : Fl) (I' : Il) (h : noX E S' F' I') : JX G X QQ E pc L S' F' I' := h.elim
theorem K_V (C : CO G own cc nL X) (M : MX (d + 1) ret nm X) {index ci N n maxL b : Nat} {Cn : String} {T9 : u_T} {y : MethodName} {bytes : ByteArray} {rt : Option FieldType} (as rest : List PV) (hI : MI y bytes maxL rt n) (hlink : Cond.methodLink own index y ∈ lw_good) (hinst : Cond.instanceMethod y ∈ lw_good) (hsel : Cond.selects Cn y y ∈ lw_good) (hc : vwCl[ci]? = some (Cn, T9, N) ∧ ci < 20) (hd : decode cc pc = .ok (.invokevirtual index, 3)) (hK : sK S b = ci) (hn : as.length = n) (hlen : L.length = nL) (hml : maxL ≤ 19) (hcat : (rest.map fun v => (tv v).category).sum ≤ 8)
    (hM : CM (xl X) G d y (.code y bytes maxL rt) (vr (some b) :: as) S F I Q QX) (kr : ∀ v S' F' I', Q v S' F' I' → J G X QQ (pc + 3) L (v.toList ++ rest) S' F' I') (kx : ∀ E S' F' I', QX E S' F' I' → JX G X QQ E pc L S' F' I') {st : List PV} (e : as.reverse ++ vr (some b) :: rest = st) : J G X QQ pc L st S F I := by
  subst e
  exact J_callV C hI hlink hinst hsel hc.1 hc.2 hd hK hn hlen (by rw [M.1]; omega) (by have := M.2.1; omega) hcat hM kr kx
theorem K_S (C : CO G own cc nL X) (M : MX (d + 1) ret nm X) {index n maxL : Nat} {y : MethodName} {bytes : ByteArray} {rt : Option FieldType} (as rest : List PV) (hI : MI y bytes maxL rt n) (hlink : Cond.methodLink own index y ∈ lw_good) (hstat : Cond.static y ∈ lw_good) (hd : decode cc pc = .ok (.invokestatic index, 3)) (hn : as.length = n) (hlen : L.length = nL) (hml : maxL ≤ 19) (hcat : (rest.map fun v => (tv v).category).sum ≤ 8)
    (hM : CM (xl X) G d y (.code y bytes maxL rt) as S F I Q QX) (kr : ∀ v S' F' I', Q v S' F' I' → J G X QQ (pc + 3) L (v.toList ++ rest) S' F' I') (kx : ∀ E S' F' I', QX E S' F' I' → JX G X QQ E pc L S' F' I') {st : List PV} (e : as.reverse ++ rest = st) : J G X QQ pc L st S F I := by
  subst e
  exact J_callS C hI hlink hstat hd hn hlen (by rw [M.1]; omega) (by have := M.2.1; omega) hcat hM kr kx
theorem K_I (C : CO G own cc nL X) (M : MX (d + 1) ret nm X) {index n maxL b : Nat} {y : MethodName} {bytes : ByteArray} (as rest : List PV) (hI : MI y bytes maxL none n) (hy1 : y.name = "<init>") (hlink : Cond.methodLink own index y ∈ lw_good) (hinst : Cond.instanceMethod y ∈ lw_good) (hd : decode cc pc = .ok (.invokespecial index, 3)) (hn : as.length = n) (hlen : L.length = nL) (hml : maxL ≤ 19) (hcat : (rest.map fun v => (tv v).category).sum ≤ 8)
    (hM : CM (xl X) G d y (.code y bytes maxL none) (vr (some b) :: as) S F I Q QX) (kr : ∀ v S' F' I', Q v S' F' I' → J G X QQ (pc + 3) L (v.toList ++ rest) S' F' I') (kx : ∀ E S' F' I', QX E S' F' I' → JX G X QQ E pc L S' F' I') {st : List PV} (e : as.reverse ++ vr (some b) :: rest = st) : J G X QQ pc L st S F I := by
  subst e
  exact J_callI C hI hy1 hlink hinst hd hn hlen (by rw [M.1]; omega) (by have := M.2.1; omega) hcat hM kr kx
theorem K_IN (C : CO G own cc nL X) (M : MX (d + 1) ret nm X) {index n maxL b : Nat} {y : MethodName} {host : String} {bytes : ByteArray} (as rest : List PV) (hI : MI y bytes maxL none n) (hy1 : y.name = "<init>") (hlink : Cond.methodLinkNest own index y host ∈ lw_tbl) (hinst : Cond.instanceMethod y ∈ lw_good) (hd : decode cc pc = .ok (.invokespecial index, 3)) (hn : as.length = n) (hlen : L.length = nL) (hml : maxL ≤ 19) (hcat : (rest.map fun v => (tv v).category).sum ≤ 8)
    (hM : CM (xl X) G d y (.code y bytes maxL none) (vr (some b) :: as) S F I Q QX) (kr : ∀ v S' F' I', Q v S' F' I' → J G X QQ (pc + 3) L (v.toList ++ rest) S' F' I') (kx : ∀ E S' F' I', QX E S' F' I' → JX G X QQ E pc L S' F' I') {st : List PV} (e : as.reverse ++ vr (some b) :: rest = st) : J G X QQ pc L st S F I := by
  subst e
  exact J_callIN C hI hy1 hlink hinst hd hn hlen (by rw [M.1]; omega) (by have := M.2.1; omega) hcat hM kr kx
theorem K_objInit (C : CO G own cc nL X) (M : MX (d + 1) ret nm X) {index : Nat} {o : Nat} (hlink : Cond.methodLink own index objectInit ∈ lw_good) (hinst : Cond.instanceMethod objectInit ∈ lw_good) (hcode : Cond.code objectInit ⟨#[0xb1]⟩ 1 none ∈ lw_good) (hlen : L.length = nL) (hd : decode cc pc = .ok (.invokespecial index, 3)) (hcat : (st.map fun v => (tv v).category).sum ≤ 8) (h : J G X QQ (pc + 3) L st S F I) : J G X QQ pc L (vr (some o) :: st) S F I :=
  J_objInit C hlink hinst hcode hlen hd (by rw [M.1]; omega) (by have := M.2.1; omega) hcat h
end RulesF
theorem CM_ofM {l : Launch} {G : Gp} {d : Nat} {y : MethodName} {cc : ByteArray} {nL : Nat} {ret : Option FieldType} {args : List PV} {S : Shp} {F : Fl} {I : Il} {Q : Option PV → Shp → Fl → Il → Prop} {QX : String → Shp → Fl → Il → Prop} (L0 : List PV) (hl : l.stackTraces = false) (hy : plainName y.cls = true) (hk : ∀ v ∈ args, knw v) (hn : args.length ≤ nL) (e : args ++ List.replicate (nL - args.length) (vl 0) = L0)
    (body : ∀ X : Xt, xl X = l → CO G y.cls cc nL X → MX d ret y.name X → J G X (QD X G Q QX) 0 L0 [] S F I) : CM l G d y (.code y cc nL ret) args S F I Q QX :=
  CM_of hl hy hk hn fun X hX C hR h1 h2 h3 => by
    rw [e]
    exact body X hX C ⟨by rw [hR], by rw [hR]; exact Nat.le_refl _, h1, h2, h3⟩
theorem kn0 : ∀ v ∈ ([] : List PV), knw v := fun v h => by cases h
theorem kn1 {v : PV} {L : List PV} (h : knw v) (h2 : ∀ v ∈ L, knw v) : ∀ w ∈ v :: L, knw w := List.forall_mem_cons.mpr ⟨h, h2⟩
theorem rg_len {n : Nat} (h : n ≤ 65536) : rg (n : Int) := by unfold rg; omega
