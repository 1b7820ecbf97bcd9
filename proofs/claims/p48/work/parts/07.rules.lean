/-! the judgement J: from here, with these locals, this stack, this shape, this content, the machine comes to an end that QQ allows -/
abbrev Xt : Type := Program × Launch × Env × Room × State × MethodId × Array Value × List Frame × Method × Code
abbrev xp (X : Xt) : Program := X.1
abbrev xl (X : Xt) : Launch := X.2.1
abbrev xe (X : Xt) : Env := X.2.2.1
abbrev xR (X : Xt) : Room := X.2.2.2.1
abbrev xs (X : Xt) : State := X.2.2.2.2.1
abbrev xm (X : Xt) : MethodId := X.2.2.2.2.2.1
abbrev xa (X : Xt) : Array Value := X.2.2.2.2.2.2.1
abbrev xb (X : Xt) : List Frame := X.2.2.2.2.2.2.2.1
abbrev xf (X : Xt) : Method := X.2.2.2.2.2.2.2.2.1
abbrev xc (X : Xt) : Code := X.2.2.2.2.2.2.2.2.2
abbrev WX (X : Xt) (H : Heap) (locs : List Loc) (cells slots : Nat) (Q : State → Prop) (g : JFrame) : Prop := W (xp X) (xl X) (xe X) (xR X) (xs X) (xm X) (xa X) (xb X) (xf X) (xc X) H locs cells slots Q g
/-- the locals that are known: a long stands for 'not yet set' -/
def kp : Nat → List PV → List (Nat × Value)
  | _, [] => []
  | i, (.inr (.inr _)) :: L => kp (i + 1) L
  | i, v :: L => (i, tv v) :: kp (i + 1) L
def knw : PV → Prop
  | .inr (.inr _) => False
  | _ => True
theorem kp_cons {i : Nat} {v : PV} {L : List PV} (h : knw v) : kp i (v :: L) = (i, tv v) :: kp (i + 1) L := by
  rcases v with z | o | z
  · rfl
  · rfl
  · exact h.elim
theorem kp_mem : ∀ (L : List PV) (i j : Nat) (v : PV), L[j]? = some v → knw v → (i + j, tv v) ∈ kp i L
  | [], _, _, _, h, _ => by simp at h
  | w :: L, i, 0, v, h, hv => by
    rw [List.getElem?_cons_zero] at h
    cases h
    rw [kp_cons hv]
    exact List.mem_cons_self
  | w :: L, i, j + 1, v, h, hv => by
    rw [List.getElem?_cons_succ] at h
    have ih := kp_mem L (i + 1) j v h hv
    rw [show i + (j + 1) = i + 1 + j by omega]
    rcases w with z | o | z
    · exact List.mem_cons_of_mem _ ih
    · exact List.mem_cons_of_mem _ ih
    · exact ih
theorem kp_of : ∀ (L : List PV) (i : Nat) (q : Nat × Value), q ∈ kp i L → ∃ (j : Nat) (v : PV), q = (i + j, tv v) ∧ L[j]? = some v ∧ knw v
  | [], _, _, h => by cases h
  | w :: L, i, q, h => by
    have key : q ∈ kp (i + 1) L → ∃ (j : Nat) (v : PV), q = (i + j, tv v) ∧ (w :: L)[j]? = some v ∧ knw v := fun h => by
      obtain ⟨j, v, h1, h2, h3⟩ := kp_of L (i + 1) q h
      exact ⟨j + 1, v, by rw [h1, show i + 1 + j = i + (j + 1) by omega], by rw [List.getElem?_cons_succ]; exact h2, h3⟩
    rcases w with z | o | z
    · rcases List.mem_cons.mp h with h | h
      · exact ⟨0, vi z, h, rfl, trivial⟩
      · exact key h
    · rcases List.mem_cons.mp h with h | h
      · exact ⟨0, vr o, h, rfl, trivial⟩
      · exact key h
    · exact key h
theorem knw_cat {v : PV} (h : knw v) : (tv v).category = 1 := by
  rcases v with z | o | z
  · rfl
  · cases o <;> rfl
  · exact h.elim
theorem kp_get {L : List PV} {ls : Array Slot} {n j : Nat} {v : PV} (h : lv_has ls n (kp 0 L)) (hj : L[j]? = some v) (hv : knw v) : ls[j]? = some (.val (tv v)) := by
  have := h.2.2 _ (kp_mem L 0 j v hj hv)
  simpa using this
/-- locals behind a store -/
theorem kp_set {L : List PV} {i : Nat} {v : PV} : ∀ q ∈ kp 0 (L.set i v), q ∈ (i, tv v) :: (kp 0 L).filter (fun q => !(q.1 == i) && !(q.1 + 1 == i && q.2.category == 2)) := by
  intro q hq
  obtain ⟨j, w, h1, h2, h3⟩ := kp_of _ 0 q hq
  rw [Nat.zero_add] at h1
  subst h1
  by_cases hj : j = i
  · subst hj
    have hl := (List.getElem?_eq_some_iff.mp h2).1
    rw [List.length_set] at hl
    rw [List.getElem?_set_self hl] at h2
    cases h2
    exact List.mem_cons_self
  · rw [List.getElem?_set_ne (fun z => hj z.symm)] at h2
    refine List.mem_cons_of_mem _ (List.mem_filter.mpr ⟨?_, ?_⟩)
    · have := kp_mem L 0 j w h2 h3
      rwa [Nat.zero_add] at this
    · have hc := knw_cat h3
      simp [hj, hc]
theorem lv_less {ls : Array Slot} {n : Nat} {l l' : List (Nat × Value)} (h : lv_has ls n l) (hs : ∀ q ∈ l', q ∈ l) : lv_has ls n l' := ⟨h.1, h.2.1, fun q hq => h.2.2 q (hs q hq)⟩
/-- words that stay true though not good ones: nests, casts -/
def isNw : Cond → Bool
  | .fieldLinkNest _ _ _ _ _ _ => true
  | .methodLinkNest _ _ _ _ => true
  | .castable _ _ => true
  | .declares _ => true
  | _ => false
/-- pairs of exceptions, the one no other; classes over which there are rows -/
def ncs : List (String × String) := []
def aos : List String := ["Ironbark$Station", "Ironbark$Train", "java/lang/Object"]
def lw_good : List Cond := lw_tbl.filter goodWord
/-- what holds of a state beside its world: classes, words, statics, texts -/
def Env9 (G : Gp) (U : State) (H : Heap) : Prop := va_K (gD G) vwCl (tysG G) U ∧ (∀ w ∈ lw_tbl, isNw w = true → va_Nw w U) ∧ (vx_Zq Bundle.tN "UNASSIGNED_STACK" Bundle.steD (gAd G) U H ∧ vx_Zq Bundle.tN "SUPPRESSED_SENTINEL" Bundle.listD (gAd G) U H) ∧ gB G ≤ H.size ∧ (va_Z "java/util/ArrayList" "DEFAULTCAPACITY_EMPTY_ELEMENTDATA" "[Ljava/lang/Object;" (.ref (gZ G)) (gAd G) U H ∧ va_T (.object "java/lang/Object") (gZ G) 0 (fun _ => .null) (gAd G) U H) ∧ (va_Mi "[Ljava/lang/Object;" (gM G) U ∧ va_Dc U) ∧ (∀ x ∈ strs, ∃ sa : Nat, vk_R "Ironbark" x.1 x.2 sa U) ∧ (∀ p ∈ ncs, va_Nc p.1 p.2 U) ∧ (∀ n ∈ aos, va_AO n U) ∧ va_X (gX G) (gNx G) (gYs G) U H ∧ gX G < H.size ∧ ¬ gB G ≤ gX G ∧ gNx G ≤ 260
theorem nw_warm {w : Cond} (hw : isNw w = true) {s U : State} (hW : s.WarmedH U.vm) (h : va_Nw w s) : va_Nw w U := by
  cases w <;> first | (exact Bool.noConfusion hw) | exact va_Nw.warmF hW h | exact va_Nw.warmM hW h | exact va_Nw.warmC hW h | exact va_Nw.warmD hW h
theorem Env9.go {G : Gp} {s U : State} {H H0 : Heap} {locs : List Loc} (h : Env9 G s H0) (hW : s.WarmedH U.vm) (hS : va_S (gAd G) H0 H locs) : Env9 G U H := by
  obtain ⟨h1, h2, ⟨h3, h4⟩, h5, ⟨h6, h7⟩, ⟨h8, h9⟩, h10, h11, h12, h13, h14, h15, h16⟩ := h
  refine ⟨va_K.moved hW.alike h1, fun w hw hn => nw_warm hn hW (h2 w hw hn), ⟨vx_Zq.moved hW.alike (h3.kept hS.2.1), vx_Zq.moved hW.alike (h4.kept hS.2.1)⟩, Nat.le_trans h5 hS.1, ⟨va_Z.moved hW.alike (h6.kept hS.2.1), va_T.moved hW.alike (h7.kept hS.2.1)⟩, ⟨va_Mi.moved hW.alike h8, va_Dc.moved hW.alike h9⟩, fun x hx => ?_, fun p hp => va_Nc.moved hW.alike (h11 p hp), fun n hn => va_AO.moved hW.alike (h12 n hn), va_X.moved hW.alike (h13.kept (hS.2.1 _ h14 h15)), Nat.lt_of_lt_of_le h14 hS.1, h15, h16⟩
  obtain ⟨sa, h⟩ := h10 x hx
  exact ⟨sa, vk_R.warm hW h⟩
/-- the context of a method's body -/
def CO (G : Gp) (own : String) (cc : ByteArray) (nL : Nat) (X : Xt) : Prop := (xp X).tables.exec = Jvm.exec ∧ (xc X).code = cc ∧ (xs X).vm.findClass own = some (xm X).cls ∧ (∀ w ∈ lw_good, w.before (xa X) (xs X) = true) ∧ Env9 G (xs X) (xs X).heap ∧ (xf X).locks = false ∧ (xc X).maxLocals = nL ∧ (xl X).stackTraces = false
def J (G : Gp) (X : Xt) (QQ : State → Prop) (pc : Nat) (L st : List PV) (S : Shp) (F : Fl) (I : Il) : Prop :=
  ∀ (H : Heap) (locs : List Loc) (ls : Array Slot) (cells slots : Nat), Wld G S F I H → va_S (gAd G) (xs X).heap H locs → lv_has ls L.length (kp 0 L) → (∀ v ∈ L, wfv v) → (∀ v ∈ st, wfv v) → cells + sa S ≤ (xR X).cells → slots + sb S ≤ (xR X).slots → WX X H locs cells slots QQ (F0 (xm X) pc ls (st.map tv))
theorem wci {z : Int} {st : List PV} (hz : rg z) (b : ∀ v ∈ st, wfv v) : ∀ v ∈ vi z :: st, wfv v := List.forall_mem_cons.mpr ⟨hz, b⟩
theorem wcl {z : Int} {st : List PV} (hz : rg z) (b : ∀ v ∈ st, wfv v) : ∀ v ∈ vl z :: st, wfv v := List.forall_mem_cons.mpr ⟨hz, b⟩
theorem wcr {o : Option Nat} {st : List PV} (b : ∀ v ∈ st, wfv v) : ∀ v ∈ vr o :: st, wfv v := List.forall_mem_cons.mpr ⟨trivial, b⟩
theorem wt {u : PV} {st : List PV} (b : ∀ v ∈ u :: st, wfv v) : ∀ v ∈ st, wfv v := (List.forall_mem_cons.mp b).2
theorem wh {u : PV} {st : List PV} (b : ∀ v ∈ u :: st, wfv v) : wfv u := (List.forall_mem_cons.mp b).1
theorem whi {z : Int} {st : List PV} (b : ∀ v ∈ vi z :: st, wfv v) : rg z := (List.forall_mem_cons.mp b).1
theorem whl {z : Int} {st : List PV} (b : ∀ v ∈ vl z :: st, wfv v) : rg z := (List.forall_mem_cons.mp b).1
section RulesA
variable {G : Gp} {own : String} {cc : ByteArray} {nL : Nat} {X : Xt} {QQ : State → Prop} {pc : Nat} {L st : List PV} {S : Shp} {F : Fl} {I : Il}
/-- an instruction that moves the counter and the stack alone -/
theorem J_pure {pc' : Nat} {st' : List PV} (hw : (∀ v ∈ L, wfv v) → (∀ v ∈ st, wfv v) → ∀ v ∈ st', wfv v)
    (hs : ∀ (H : Heap) (locs : List Loc) (ls : Array Slot) (cells slots : Nat), lv_has ls L.length (kp 0 L) → (∀ v ∈ L, wfv v) → (∀ v ∈ st, wfv v) → WX X H locs cells slots QQ (F0 (xm X) pc' ls (st'.map tv)) → WX X H locs cells slots QQ (F0 (xm X) pc ls (st.map tv)))
    (h : J G X QQ pc' L st' S F I) : J G X QQ pc L st S F I := fun H locs ls cells slots hW hS hl hL hst ha hb => hs H locs ls cells slots hl hL hst (h H locs ls cells slots hW hS hl hL (hw hL hst) ha hb)
theorem J_iload_n (C : CO G own cc nL X) {k : Fin 4} {i : Nat} {z : Int} (hd : decode cc pc = .ok (.iload_n k, 1)) (hi : (k : Nat) = i) (hl : L[i]? = some (vi z)) (h : J G X QQ (pc + 1) L (vi z :: st) S F I) : J G X QQ pc L st S F I :=
  J_pure (fun a b => List.forall_mem_cons.mpr ⟨a _ (List.mem_of_getElem? hl), b⟩) (fun _ _ _ _ _ q _ _ w => lv_iload_n C.1 C.2.1 hd hi (kp_get q hl trivial) w) h
theorem J_iload (C : CO G own cc nL X) {i : Nat} {z : Int} (hd : decode cc pc = .ok (.iload i, 2)) (hl : L[i]? = some (vi z)) (h : J G X QQ (pc + 2) L (vi z :: st) S F I) : J G X QQ pc L st S F I :=
  J_pure (fun a b => List.forall_mem_cons.mpr ⟨a _ (List.mem_of_getElem? hl), b⟩) (fun _ _ _ _ _ q _ _ w => lv_iload C.1 C.2.1 hd (kp_get q hl trivial) w) h
theorem J_aload_n (C : CO G own cc nL X) {k : Fin 4} {i : Nat} {o : Option Nat} (hd : decode cc pc = .ok (.aload_n k, 1)) (hi : (k : Nat) = i) (hl : L[i]? = some (vr o)) (h : J G X QQ (pc + 1) L (vr o :: st) S F I) : J G X QQ pc L st S F I :=
  J_pure (fun a b => List.forall_mem_cons.mpr ⟨a _ (List.mem_of_getElem? hl), b⟩) (fun _ _ _ _ _ q _ _ w => by
    have g := kp_get q hl trivial
    cases o with
    | none => exact lv_aload_nN C.1 C.2.1 hd hi g w
    | some a => exact lv_aload_n C.1 C.2.1 hd hi g w) h
theorem J_aload (C : CO G own cc nL X) {i : Nat} {o : Option Nat} (hd : decode cc pc = .ok (.aload i, 2)) (hl : L[i]? = some (vr o)) (h : J G X QQ (pc + 2) L (vr o :: st) S F I) : J G X QQ pc L st S F I :=
  J_pure (fun a b => List.forall_mem_cons.mpr ⟨a _ (List.mem_of_getElem? hl), b⟩) (fun _ _ _ _ _ q _ _ w => by
    have g := kp_get q hl trivial
    cases o with
    | none => exact lv_aloadN C.1 C.2.1 hd g w
    | some a => exact lv_aload C.1 C.2.1 hd g w) h
theorem J_iconst (C : CO G own cc nL X) {z : Int} (hd : decode cc pc = .ok (.iconst z, 1)) (hz : rg z) (h : J G X QQ (pc + 1) L (vi z :: st) S F I) : J G X QQ pc L st S F I :=
  J_pure (fun _ b => wci hz b) (fun _ _ _ _ _ _ _ _ w => lv_iconst C.1 C.2.1 hd rfl w) h
theorem J_bipush (C : CO G own cc nL X) {z : Int} (hd : decode cc pc = .ok (.bipush z, 2)) (hv : (Int8.ofInt z).toInt32 = Int32.ofInt z) (hz : rg z) (h : J G X QQ (pc + 2) L (vi z :: st) S F I) : J G X QQ pc L st S F I :=
  J_pure (fun _ b => wci hz b) (fun _ _ _ _ _ _ _ _ w => lv_bipush C.1 C.2.1 hd hv w) h
theorem J_sipush (C : CO G own cc nL X) {z : Int} (hd : decode cc pc = .ok (.sipush z, 3)) (hv : (Int16.ofInt z).toInt32 = Int32.ofInt z) (hz : rg z) (h : J G X QQ (pc + 3) L (vi z :: st) S F I) : J G X QQ pc L st S F I :=
  J_pure (fun _ b => wci hz b) (fun _ _ _ _ _ _ _ _ w => lv_sipush C.1 C.2.1 hd hv w) h
theorem J_ldc (C : CO G own cc nL X) {i : Nat} {z : Int} {v : Int32} (hd : decode cc pc = .ok (.ldc i, 2)) (hw : Cond.constant own i v ∈ lw_good) (hv : Int32.ofInt z = v) (hz : rg z) (h : J G X QQ (pc + 2) L (vi z :: st) S F I) : J G X QQ pc L st S F I :=
  J_pure (fun _ b => wci hz b) (fun _ _ _ _ _ _ _ _ w => lv_ldc C.1 C.2.1 C.2.2.1 (C.2.2.2.1 _ hw) hd (by subst hv; exact w)) h
theorem J_ldcw (C : CO G own cc nL X) {i : Nat} {z : Int} {v : Int32} (hd : decode cc pc = .ok (.ldc_w i, 3)) (hw : Cond.constant own i v ∈ lw_good) (hv : Int32.ofInt z = v) (hz : rg z) (h : J G X QQ (pc + 3) L (vi z :: st) S F I) : J G X QQ pc L st S F I :=
  J_pure (fun _ b => wci hz b) (fun _ _ _ _ _ _ _ _ w => lv_ldcw C.1 C.2.1 C.2.2.1 (C.2.2.2.1 _ hw) hd (by subst hv; exact w)) h
theorem J_lconst (C : CO G own cc nL X) {n : Fin 2} {z : Int} (hd : decode cc pc = .ok (.lconst n, 1)) (hv : Int64.ofNat (n : Nat) = Int64.ofInt z) (hz : rg z) (h : J G X QQ (pc + 1) L (vl z :: st) S F I) : J G X QQ pc L st S F I :=
  J_pure (fun _ b => wcl hz b) (fun _ _ _ _ _ _ _ _ w => lv_lconst C.1 C.2.1 hd hv w) h
/-- a store into a local -/
theorem J_store {pc' i : Nat} {v : PV}
    (hs : ∀ (H : Heap) (locs : List Loc) (ls : Array Slot) (cells slots : Nat), lv_has ls L.length (kp 0 L) → (∀ v ∈ L, wfv v) → (∀ ls' : Array Slot, lv_has ls' L.length ((i, tv v) :: (kp 0 L).filter (fun q => !(q.1 == i) && !(q.1 + 1 == i && q.2.category == 2))) → WX X H locs cells slots QQ (F0 (xm X) pc' ls' (st.map tv))) → WX X H locs cells slots QQ (F0 (xm X) pc ls ((v :: st).map tv)))
    (h : J G X QQ pc' (L.set i v) st S F I) : J G X QQ pc L (v :: st) S F I := fun H locs ls cells slots hW hS hl hL hst ha hb =>
  hs H locs ls cells slots hl hL fun ls' hl' => h H locs ls' cells slots hW hS (by rw [List.length_set]; exact lv_less hl' kp_set)
    (fun w hw => by
      rcases List.mem_or_eq_of_mem_set hw with hw | hw
      · exact hL w hw
      · rw [hw]; exact hst v List.mem_cons_self) (fun w hw => hst w (List.mem_cons_of_mem _ hw)) ha hb
theorem J_istore_n (C : CO G own cc nL X) {k : Fin 4} {i : Nat} {z : Int} (hd : decode cc pc = .ok (.istore_n k, 1)) (hi : (k : Nat) = i) (hl : i < L.length) (h : J G X QQ (pc + 1) (L.set i (vi z)) st S F I) : J G X QQ pc L (vi z :: st) S F I :=
  J_store (fun _ _ _ _ _ q _ w => lv_istore_n C.1 C.2.1 hd hi q hl rfl w) h
theorem J_istore (C : CO G own cc nL X) {i : Nat} {z : Int} (hd : decode cc pc = .ok (.istore i, 2)) (hl : i < L.length) (h : J G X QQ (pc + 2) (L.set i (vi z)) st S F I) : J G X QQ pc L (vi z :: st) S F I :=
  J_store (fun _ _ _ _ _ q _ w => lv_istore C.1 C.2.1 hd q hl rfl w) h
theorem J_astore_n (C : CO G own cc nL X) {k : Fin 4} {i : Nat} {o : Option Nat} (hd : decode cc pc = .ok (.astore_n k, 1)) (hi : (k : Nat) = i) (hl : i < L.length) (h : J G X QQ (pc + 1) (L.set i (vr o)) st S F I) : J G X QQ pc L (vr o :: st) S F I :=
  J_store (fun _ _ _ _ _ q _ w => by
    cases o with
    | none => exact lv_astore_nN C.1 C.2.1 hd hi q hl rfl w
    | some a => exact lv_astore_n C.1 C.2.1 hd hi q hl rfl w) h
theorem J_astore (C : CO G own cc nL X) {i : Nat} {o : Option Nat} (hd : decode cc pc = .ok (.astore i, 2)) (hl : i < L.length) (h : J G X QQ (pc + 2) (L.set i (vr o)) st S F I) : J G X QQ pc L (vr o :: st) S F I :=
  J_store (fun _ _ _ _ _ q _ w => by
    cases o with
    | none => exact lv_astoreN C.1 C.2.1 hd q hl rfl w
    | some a => exact lv_astore C.1 C.2.1 hd q hl rfl w) h
theorem J_iinc (C : CO G own cc nL X) {i : Nat} {n z : Int} (hd : decode cc pc = .ok (.iinc i n, 3)) (hg : L[i]? = some (vi z)) (h : J G X QQ (pc + 3) (L.set i (vi (w32 (z + n)))) st S F I) : J G X QQ pc L st S F I :=
  fun H locs ls cells slots hW hS hl hL hst ha hb => by
    obtain ⟨k, hk⟩ := List.getElem?_of_mem (kp_mem L 0 i (vi z) hg trivial)
    rw [Nat.zero_add] at hk
    refine lv_iinc (k := k) (x := Int32.ofInt z) (v := Int32.ofInt (w32 (z + n))) C.1 C.2.1 hd hl hk (i_add z n) (List.getElem?_eq_some_iff.mp hg).1 rfl fun ls' hl' => ?_
    refine h H locs ls' cells slots hW hS (by rw [List.length_set]; exact lv_less hl' (kp_set (v := vi (w32 (z + n))))) (fun w hw => ?_) hst ha hb
    rcases List.mem_or_eq_of_mem_set hw with hw | hw
    · exact hL w hw
    · rw [hw]; exact rg_w32 _
theorem J_iadd (C : CO G own cc nL X) {a b : Int} (hd : decode cc pc = .ok (.iadd, 1)) (h : J G X QQ (pc + 1) L (vi (w32 (a + b)) :: st) S F I) : J G X QQ pc L (vi b :: vi a :: st) S F I :=
  J_pure (fun _ q => wci (rg_w32 _) (wt (wt q))) (fun _ _ _ _ _ _ _ _ w => lv_iadd C.1 C.2.1 hd (by rw [i_add]; exact w)) h
theorem J_isub (C : CO G own cc nL X) {a b : Int} (hd : decode cc pc = .ok (.isub, 1)) (h : J G X QQ (pc + 1) L (vi (w32 (a - b)) :: st) S F I) : J G X QQ pc L (vi b :: vi a :: st) S F I :=
  J_pure (fun _ q => wci (rg_w32 _) (wt (wt q))) (fun _ _ _ _ _ _ _ _ w => lv_isub C.1 C.2.1 hd (by rw [i_sub]; exact w)) h
theorem J_imul (C : CO G own cc nL X) {a b : Int} (hd : decode cc pc = .ok (.imul, 1)) (h : J G X QQ (pc + 1) L (vi (w32 (a * b)) :: st) S F I) : J G X QQ pc L (vi b :: vi a :: st) S F I :=
  J_pure (fun _ q => wci (rg_w32 _) (wt (wt q))) (fun _ _ _ _ _ _ _ _ w => lv_imul C.1 C.2.1 hd (by rw [i_mul]; exact w)) h
theorem ne0 {b : Int} (hb : rg b) (h0 : b ≠ 0) : ¬ Int32.ofInt b = 0 := fun z => h0 ((i_eq hb rg0).mp z)
theorem J_idiv (C : CO G own cc nL X) {a b : Int} (hd : decode cc pc = .ok (.idiv, 1)) (h0 : b ≠ 0) (h : J G X QQ (pc + 1) L (vi (w32 (a.tdiv b)) :: st) S F I) : J G X QQ pc L (vi b :: vi a :: st) S F I :=
  J_pure (fun _ q => wci (rg_w32 _) (wt (wt q))) (fun _ _ _ _ _ _ _ q w => lv_idiv C.1 C.2.1 hd (ne0 (whi q) h0) (by rw [i_div (whi (wt q)) (whi q)]; exact w)) h
theorem J_irem (C : CO G own cc nL X) {a b : Int} (hd : decode cc pc = .ok (.irem, 1)) (h0 : b ≠ 0) (h : J G X QQ (pc + 1) L (vi (w32 (a.tmod b)) :: st) S F I) : J G X QQ pc L (vi b :: vi a :: st) S F I :=
  J_pure (fun _ q => wci (rg_w32 _) (wt (wt q))) (fun _ _ _ _ _ _ _ q w => lv_irem C.1 C.2.1 hd (ne0 (whi q) h0) (by rw [i_rem (whi (wt q)) (whi q)]; exact w)) h
theorem J_iand (C : CO G own cc nL X) {a b : Int} (hd : decode cc pc = .ok (.iand, 1)) (h : J G X QQ (pc + 1) L (vi (iand a b) :: st) S F I) : J G X QQ pc L (vi b :: vi a :: st) S F I :=
  J_pure (fun _ q => wci (rgI _) (wt (wt q))) (fun _ _ _ _ _ _ _ _ w => lv_iand C.1 C.2.1 hd (by rw [← asI (Int32.ofInt a &&& Int32.ofInt b)]; exact w)) h
theorem J_ior (C : CO G own cc nL X) {a b : Int} (hd : decode cc pc = .ok (.ior, 1)) (h : J G X QQ (pc + 1) L (vi (ior a b) :: st) S F I) : J G X QQ pc L (vi b :: vi a :: st) S F I :=
  J_pure (fun _ q => wci (rgI _) (wt (wt q))) (fun _ _ _ _ _ _ _ _ w => lv_ior C.1 C.2.1 hd (by rw [← asI (Int32.ofInt a ||| Int32.ofInt b)]; exact w)) h
theorem J_ishl (C : CO G own cc nL X) {a b : Int} (hd : decode cc pc = .ok (.ishl, 1)) (h : J G X QQ (pc + 1) L (vi (ishl a b) :: st) S F I) : J G X QQ pc L (vi b :: vi a :: st) S F I :=
  J_pure (fun _ q => wci (rgI _) (wt (wt q))) (fun _ _ _ _ _ _ _ _ w => lv_ishl C.1 C.2.1 hd (by rw [← asI (Int32.ofInt a <<< (Int32.ofInt b &&& 31))]; exact w)) h
theorem J_ishr (C : CO G own cc nL X) {a b : Int} (hd : decode cc pc = .ok (.ishr, 1)) (h : J G X QQ (pc + 1) L (vi (ishr a b) :: st) S F I) : J G X QQ pc L (vi b :: vi a :: st) S F I :=
  J_pure (fun _ q => wci (rgI _) (wt (wt q))) (fun _ _ _ _ _ _ _ _ w => lv_ishr C.1 C.2.1 hd (by rw [← asI (Int32.ofInt a >>> (Int32.ofInt b &&& 31))]; exact w)) h
theorem J_iushr (C : CO G own cc nL X) {a b : Int} (hd : decode cc pc = .ok (.iushr, 1)) (h : J G X QQ (pc + 1) L (vi (iushr a b) :: st) S F I) : J G X QQ pc L (vi b :: vi a :: st) S F I :=
  J_pure (fun _ q => wci (rgI _) (wt (wt q))) (fun _ _ _ _ _ _ _ _ w => lv_iushr C.1 C.2.1 hd (v := Int32.ofInt (iushr a b)) (asI _).symm w) h
theorem J_i2l (C : CO G own cc nL X) {a : Int} (hd : decode cc pc = .ok (.i2l, 1)) (h : J G X QQ (pc + 1) L (vl a :: st) S F I) : J G X QQ pc L (vi a :: st) S F I :=
  J_pure (fun _ q => wcl (whi q) (wt q)) (fun _ _ _ _ _ _ _ q w => lv_i2l C.1 C.2.1 hd (i_long (whi q)) w) h
theorem rg_icmp (a b : Int) : rg (icmp a b) := by unfold icmp rg; split; · omega
                                                  · split <;> omega
theorem J_lcmp (C : CO G own cc nL X) {a b : Int} (hd : decode cc pc = .ok (.lcmp, 1)) (h : J G X QQ (pc + 1) L (vi (icmp a b) :: st) S F I) : J G X QQ pc L (vl b :: vl a :: st) S F I :=
  J_pure (fun _ q => wci (rg_icmp a b) (wt (wt q))) (fun _ _ _ _ _ _ _ q w => W.lcmp C.1 C.2.1 hd (by rw [l_cmp (whl (wt q)) (whl q)]; exact w)) h
theorem tv_cat1 {v : PV} (h : knw v) : (tv v).category = 1 := knw_cat h
theorem J_dup (C : CO G own cc nL X) {v : PV} (hd : decode cc pc = .ok (.dup, 1)) (hv : knw v) (h : J G X QQ (pc + 1) L (v :: v :: st) S F I) : J G X QQ pc L (v :: st) S F I :=
  J_pure (fun _ q => List.forall_mem_cons.mpr ⟨(List.forall_mem_cons.mp q).1, q⟩) (fun _ _ _ _ _ _ _ _ w => lv_dup C.1 C.2.1 hd (knw_cat hv) w) h
theorem J_dup_x1 (C : CO G own cc nL X) {v u : PV} (hd : decode cc pc = .ok (.dup_x1, 1)) (hv : knw v) (hu : knw u) (h : J G X QQ (pc + 1) L (v :: u :: v :: st) S F I) : J G X QQ pc L (v :: u :: st) S F I :=
  J_pure (fun _ q => List.forall_mem_cons.mpr ⟨(List.forall_mem_cons.mp q).1, List.forall_mem_cons.mpr ⟨(List.forall_mem_cons.mp (List.forall_mem_cons.mp q).2).1, List.forall_mem_cons.mpr ⟨(List.forall_mem_cons.mp q).1, (List.forall_mem_cons.mp (List.forall_mem_cons.mp q).2).2⟩⟩⟩) (fun _ _ _ _ _ _ _ _ w => lv_dup_x1 C.1 C.2.1 hd (knw_cat hv) (knw_cat hu) w) h
theorem J_dup2 (C : CO G own cc nL X) {v u : PV} (hd : decode cc pc = .ok (.dup2, 1)) (hv : knw v) (hu : knw u) (h : J G X QQ (pc + 1) L (v :: u :: v :: u :: st) S F I) : J G X QQ pc L (v :: u :: st) S F I :=
  J_pure (fun _ q => List.forall_mem_cons.mpr ⟨(List.forall_mem_cons.mp q).1, List.forall_mem_cons.mpr ⟨(List.forall_mem_cons.mp (List.forall_mem_cons.mp q).2).1, q⟩⟩) (fun _ _ _ _ _ _ _ _ w => lv_dup2_11 C.1 C.2.1 hd (knw_cat hv) (knw_cat hu) w) h
theorem J_pop (C : CO G own cc nL X) {v : PV} (hd : decode cc pc = .ok (.pop, 1)) (hv : knw v) (h : J G X QQ (pc + 1) L st S F I) : J G X QQ pc L (v :: st) S F I :=
  J_pure (fun _ q => (List.forall_mem_cons.mp q).2) (fun _ _ _ _ _ _ _ _ w => lv_pop C.1 C.2.1 hd (knw_cat hv) w) h
theorem J_null (C : CO G own cc nL X) (hd : decode cc pc = .ok (.aconst_null, 1)) (h : J G X QQ (pc + 1) L (vr none :: st) S F I) : J G X QQ pc L st S F I :=
  J_pure (fun _ q => wcr q) (fun _ _ _ _ _ _ _ _ w => lv_null C.1 C.2.1 hd w) h
theorem J_goto (C : CO G own cc nL X) {off : Int} {tgt : Nat} (hd : decode cc pc = .ok (.goto off, 3)) (ht : (pc : Int) + off = (tgt : Int)) (h : J G X QQ tgt L st S F I) : J G X QQ pc L st S F I :=
  J_pure (fun _ q => q) (fun _ _ _ _ _ _ _ _ w => lv_goto C.1 C.2.1 hd ht w) h
theorem J_icmp_eq (C : CO G own cc nL X) {a b : Int} {off : Int} {tgt : Nat} (hd : decode cc pc = .ok (.if_icmp .eq off, 3)) (ht : (pc : Int) + off = (tgt : Int)) (kt : (a = b) → J G X QQ tgt L st S F I) (kf : (¬ a = b) → J G X QQ (pc + 3) L st S F I) : J G X QQ pc L (vi b :: vi a :: st) S F I :=
  fun H locs ls cells slots hW hS hl hL hst hca hcb => by
    have hb : rg b := whi hst
    have ha : rg a := whi (wt hst)
    have hr := wt (wt hst)
    have e := i_eq ha hb
    exact lv_icmp_eq C.1 C.2.1 hd ht (fun c => kt (e.mp c) H locs ls cells slots hW hS hl hL hr hca hcb) (fun c => kf (fun z => c (e.mpr z)) H locs ls cells slots hW hS hl hL hr hca hcb)
theorem J_if_eq (C : CO G own cc nL X) {a : Int} {off : Int} {tgt : Nat} (hd : decode cc pc = .ok (.ifCond .eq off, 3)) (ht : (pc : Int) + off = (tgt : Int)) (kt : (a = 0) → J G X QQ tgt L st S F I) (kf : (¬ a = 0) → J G X QQ (pc + 3) L st S F I) : J G X QQ pc L (vi a :: st) S F I :=
  fun H locs ls cells slots hW hS hl hL hst hca hcb => by
    have hb : rg 0 := rg0
    have ha : rg a := whi hst
    have hr := wt hst
    have e := i_eq ha hb
    exact lv_if_eq C.1 C.2.1 hd ht (fun c => kt (e.mp c) H locs ls cells slots hW hS hl hL hr hca hcb) (fun c => kf (fun z => c (e.mpr z)) H locs ls cells slots hW hS hl hL hr hca hcb)
theorem J_icmp_ne (C : CO G own cc nL X) {a b : Int} {off : Int} {tgt : Nat} (hd : decode cc pc = .ok (.if_icmp .ne off, 3)) (ht : (pc : Int) + off = (tgt : Int)) (kt : (¬ a = b) → J G X QQ tgt L st S F I) (kf : (a = b) → J G X QQ (pc + 3) L st S F I) : J G X QQ pc L (vi b :: vi a :: st) S F I :=
  fun H locs ls cells slots hW hS hl hL hst hca hcb => by
    have hb : rg b := whi hst
    have ha : rg a := whi (wt hst)
    have hr := wt (wt hst)
    have e := i_eq ha hb
    exact lv_icmp_ne C.1 C.2.1 hd ht (fun c => kt (fun z => c (e.mpr z)) H locs ls cells slots hW hS hl hL hr hca hcb) (fun c => kf (e.mp c) H locs ls cells slots hW hS hl hL hr hca hcb)
theorem J_if_ne (C : CO G own cc nL X) {a : Int} {off : Int} {tgt : Nat} (hd : decode cc pc = .ok (.ifCond .ne off, 3)) (ht : (pc : Int) + off = (tgt : Int)) (kt : (¬ a = 0) → J G X QQ tgt L st S F I) (kf : (a = 0) → J G X QQ (pc + 3) L st S F I) : J G X QQ pc L (vi a :: st) S F I :=
  fun H locs ls cells slots hW hS hl hL hst hca hcb => by
    have hb : rg 0 := rg0
    have ha : rg a := whi hst
    have hr := wt hst
    have e := i_eq ha hb
    exact lv_if_ne C.1 C.2.1 hd ht (fun c => kt (fun z => c (e.mpr z)) H locs ls cells slots hW hS hl hL hr hca hcb) (fun c => kf (e.mp c) H locs ls cells slots hW hS hl hL hr hca hcb)
theorem J_icmp_lt (C : CO G own cc nL X) {a b : Int} {off : Int} {tgt : Nat} (hd : decode cc pc = .ok (.if_icmp .lt off, 3)) (ht : (pc : Int) + off = (tgt : Int)) (kt : (a < b) → J G X QQ tgt L st S F I) (kf : (¬ a < b) → J G X QQ (pc + 3) L st S F I) : J G X QQ pc L (vi b :: vi a :: st) S F I :=
  fun H locs ls cells slots hW hS hl hL hst hca hcb => by
    have hb : rg b := whi hst
    have ha : rg a := whi (wt hst)
    have hr := wt (wt hst)
    have e := i_lt ha hb
    exact lv_icmp_lt C.1 C.2.1 hd ht (fun c => kt (e.mp c) H locs ls cells slots hW hS hl hL hr hca hcb) (fun c => kf (fun z => c (e.mpr z)) H locs ls cells slots hW hS hl hL hr hca hcb)
theorem J_if_lt (C : CO G own cc nL X) {a : Int} {off : Int} {tgt : Nat} (hd : decode cc pc = .ok (.ifCond .lt off, 3)) (ht : (pc : Int) + off = (tgt : Int)) (kt : (a < 0) → J G X QQ tgt L st S F I) (kf : (¬ a < 0) → J G X QQ (pc + 3) L st S F I) : J G X QQ pc L (vi a :: st) S F I :=
  fun H locs ls cells slots hW hS hl hL hst hca hcb => by
    have hb : rg 0 := rg0
    have ha : rg a := whi hst
    have hr := wt hst
    have e := i_lt ha hb
    exact lv_if_lt C.1 C.2.1 hd ht (fun c => kt (e.mp c) H locs ls cells slots hW hS hl hL hr hca hcb) (fun c => kf (fun z => c (e.mpr z)) H locs ls cells slots hW hS hl hL hr hca hcb)
theorem J_icmp_ge (C : CO G own cc nL X) {a b : Int} {off : Int} {tgt : Nat} (hd : decode cc pc = .ok (.if_icmp .ge off, 3)) (ht : (pc : Int) + off = (tgt : Int)) (kt : (b ≤ a) → J G X QQ tgt L st S F I) (kf : (¬ b ≤ a) → J G X QQ (pc + 3) L st S F I) : J G X QQ pc L (vi b :: vi a :: st) S F I :=
  fun H locs ls cells slots hW hS hl hL hst hca hcb => by
    have hb : rg b := whi hst
    have ha : rg a := whi (wt hst)
    have hr := wt (wt hst)
    have e := i_le hb ha
    exact lv_icmp_ge C.1 C.2.1 hd ht (fun c => kt (e.mp c) H locs ls cells slots hW hS hl hL hr hca hcb) (fun c => kf (fun z => c (e.mpr z)) H locs ls cells slots hW hS hl hL hr hca hcb)
theorem J_if_ge (C : CO G own cc nL X) {a : Int} {off : Int} {tgt : Nat} (hd : decode cc pc = .ok (.ifCond .ge off, 3)) (ht : (pc : Int) + off = (tgt : Int)) (kt : (0 ≤ a) → J G X QQ tgt L st S F I) (kf : (¬ 0 ≤ a) → J G X QQ (pc + 3) L st S F I) : J G X QQ pc L (vi a :: st) S F I :=
  fun H locs ls cells slots hW hS hl hL hst hca hcb => by
    have hb : rg 0 := rg0
    have ha : rg a := whi hst
    have hr := wt hst
    have e := i_le hb ha
    exact lv_if_ge C.1 C.2.1 hd ht (fun c => kt (e.mp c) H locs ls cells slots hW hS hl hL hr hca hcb) (fun c => kf (fun z => c (e.mpr z)) H locs ls cells slots hW hS hl hL hr hca hcb)
theorem J_icmp_gt (C : CO G own cc nL X) {a b : Int} {off : Int} {tgt : Nat} (hd : decode cc pc = .ok (.if_icmp .gt off, 3)) (ht : (pc : Int) + off = (tgt : Int)) (kt : (b < a) → J G X QQ tgt L st S F I) (kf : (¬ b < a) → J G X QQ (pc + 3) L st S F I) : J G X QQ pc L (vi b :: vi a :: st) S F I :=
  fun H locs ls cells slots hW hS hl hL hst hca hcb => by
    have hb : rg b := whi hst
    have ha : rg a := whi (wt hst)
    have hr := wt (wt hst)
    have e := i_lt hb ha
    exact lv_icmp_gt C.1 C.2.1 hd ht (fun c => kt (e.mp c) H locs ls cells slots hW hS hl hL hr hca hcb) (fun c => kf (fun z => c (e.mpr z)) H locs ls cells slots hW hS hl hL hr hca hcb)
theorem J_if_gt (C : CO G own cc nL X) {a : Int} {off : Int} {tgt : Nat} (hd : decode cc pc = .ok (.ifCond .gt off, 3)) (ht : (pc : Int) + off = (tgt : Int)) (kt : (0 < a) → J G X QQ tgt L st S F I) (kf : (¬ 0 < a) → J G X QQ (pc + 3) L st S F I) : J G X QQ pc L (vi a :: st) S F I :=
  fun H locs ls cells slots hW hS hl hL hst hca hcb => by
    have hb : rg 0 := rg0
    have ha : rg a := whi hst
    have hr := wt hst
    have e := i_lt hb ha
    exact lv_if_gt C.1 C.2.1 hd ht (fun c => kt (e.mp c) H locs ls cells slots hW hS hl hL hr hca hcb) (fun c => kf (fun z => c (e.mpr z)) H locs ls cells slots hW hS hl hL hr hca hcb)
theorem J_icmp_le (C : CO G own cc nL X) {a b : Int} {off : Int} {tgt : Nat} (hd : decode cc pc = .ok (.if_icmp .le off, 3)) (ht : (pc : Int) + off = (tgt : Int)) (kt : (a ≤ b) → J G X QQ tgt L st S F I) (kf : (¬ a ≤ b) → J G X QQ (pc + 3) L st S F I) : J G X QQ pc L (vi b :: vi a :: st) S F I :=
  fun H locs ls cells slots hW hS hl hL hst hca hcb => by
    have hb : rg b := whi hst
    have ha : rg a := whi (wt hst)
    have hr := wt (wt hst)
    have e := i_le ha hb
    exact lv_icmp_le C.1 C.2.1 hd ht (fun c => kt (e.mp c) H locs ls cells slots hW hS hl hL hr hca hcb) (fun c => kf (fun z => c (e.mpr z)) H locs ls cells slots hW hS hl hL hr hca hcb)
theorem J_if_le (C : CO G own cc nL X) {a : Int} {off : Int} {tgt : Nat} (hd : decode cc pc = .ok (.ifCond .le off, 3)) (ht : (pc : Int) + off = (tgt : Int)) (kt : (a ≤ 0) → J G X QQ tgt L st S F I) (kf : (¬ a ≤ 0) → J G X QQ (pc + 3) L st S F I) : J G X QQ pc L (vi a :: st) S F I :=
  fun H locs ls cells slots hW hS hl hL hst hca hcb => by
    have hb : rg 0 := rg0
    have ha : rg a := whi hst
    have hr := wt hst
    have e := i_le ha hb
    exact lv_if_le C.1 C.2.1 hd ht (fun c => kt (e.mp c) H locs ls cells slots hW hS hl hL hr hca hcb) (fun c => kf (fun z => c (e.mpr z)) H locs ls cells slots hW hS hl hL hr hca hcb)
theorem J_tableIn (C : CO G own cc nL X) {dflt lo hi : Int} {offs : Array Int} {len : Nat} {z off : Int} {tgt : Nat} (hd : decode cc pc = .ok (.tableswitch dflt lo hi offs, len)) (h1 : ¬ z < lo) (h2 : ¬ hi < z) (ho : offs[(z - lo).toNat]? = some off) (ht : (pc : Int) + off = (tgt : Int)) (h : J G X QQ tgt L st S F I) : J G X QQ pc L (vi z :: st) S F I :=
  J_pure (fun _ q => (List.forall_mem_cons.mp q).2) (fun _ _ _ _ _ _ _ q w => by
    have e := toI (whi q)
    exact lv_tableIn C.1 C.2.1 hd (by rw [e]; exact h1) (by rw [e]; exact h2) (by rw [e]; exact ho) ht w) h
theorem J_tableOut (C : CO G own cc nL X) {dflt lo hi : Int} {offs : Array Int} {len : Nat} {z : Int} {tgt : Nat} (hd : decode cc pc = .ok (.tableswitch dflt lo hi offs, len)) (h1 : z < lo ∨ hi < z) (ht : (pc : Int) + dflt = (tgt : Int)) (h : J G X QQ tgt L st S F I) : J G X QQ pc L (vi z :: st) S F I :=
  J_pure (fun _ q => (List.forall_mem_cons.mp q).2) (fun _ _ _ _ _ _ _ q w => by
    have e := toI (whi q)
    exact lv_tableOut C.1 C.2.1 hd (by rw [e]; exact h1) ht w) h
/-- what is known of the values at any point -/
theorem J_wf (h : (∀ v ∈ L, wfv v) → (∀ v ∈ st, wfv v) → (∀ k q, rg (F k q)) → (∀ q j, rg (I q j)) → J G X QQ pc L st S F I) : J G X QQ pc L st S F I :=
  fun H locs ls cells slots hW hS hl hL hst ha hb => h hL hst hW.2.2.2.1 hW.2.2.2.2 H locs ls cells slots hW hS hl hL hst ha hb
end RulesA
