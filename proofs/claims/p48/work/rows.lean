section
/-! ===== BEGIN words of one list among another's, by their places ===== -/
theorem goodIn_r {big : List Cond} (ws : List Cond) (ps : List Nat) (hp : ws = ps.filterMap (fun i => big[i]?)) (h : ws.all goodWord = true) : GoodIn big ws := by
  intro w hw
  have h1 := List.all_eq_true.mp h w hw
  rw [hp] at hw
  obtain ⟨i, -, hi⟩ := List.mem_filterMap.mp hw
  have hm : w ∈ big := by first | exact List.mem_of_getElem? hi | exact List.getElem?_mem hi
  exact ⟨hm, good_of_word h1⟩
theorem goodIn_app {big a b : List Cond} (ha : GoodIn big a) (hb : GoodIn big b) : GoodIn big (a ++ b) := fun w h => (List.mem_append.mp h).elim (ha w) (hb w)
theorem goodIn_ca {big a b : List Cond} {c : Cond} (ha : GoodIn big (c :: a)) (hb : GoodIn big b) : GoodIn big (c :: (a ++ b)) := fun w h => (List.mem_cons.mp h).elim (fun e => ha w (List.mem_cons.mpr (Or.inl e))) (fun h => (List.mem_append.mp h).elim (fun h => ha w (List.mem_cons.mpr (Or.inr h))) (hb w))
theorem goodIn_sub {big ws : List Cond} (hm : ∀ w ∈ ws, w ∈ big) (h : ws.all goodWord = true) : GoodIn big ws := fun w hw => ⟨hm w hw, good_of_word (List.all_eq_true.mp h w hw)⟩
/-! ===== END ===== -/
/-! ===== BEGIN exceptions that leave a method, and their catching by the caller (launches without stack traces) ===== -/
section VXA
/-! The laws vx_back, vx_callV, vx_callS, vx_callSW, vx_throw0, vx_throwS follow proofs of the library, with one case more: JvmDerived/Free/Laws.lean (Back.of_free), Shelf42/LK1.lean (callV, callS), Shelf/KitTraced.lean (throwNew0V, throwNewS). -/
/-- where a method has thrown q: the class by its name, the cell, what was written, the world -/
def vx_T (XC : String → State → State → Prop) (st : State) (q : Addr) (t : State) (mc ms : Nat) (free : Addr → Prop) : Prop :=
  ∃ (E : String) (ce : Cell) (L : List Loc), XC E st t ∧ t.heap[q]? = some ce ∧ ce.vm = .none ∧ st.vm.findClass E = some ce.cls ∧ st.WarmedH t.vm ∧ st.sameButNew ({ t with vm := st.vm } : State) L mc ms ∧ ∀ z ∈ L, free z.base
def vx_Q (Qc : Array Value → State → Outcome → State → Prop) (XC : String → State → State → Prop) (mc ms : Nat) (free : Addr → Prop) : Array Value → State → Outcome → State → Prop := fun a st o t =>
  (Qc a st o t ∧ ∃ L, FrameEnd st o t L mc ms ∧ ∀ q ∈ L, free q.base) ∨ ∃ q, o = .threw q ∧ vx_T XC st q t mc ms free
/-- a callee that returns or throws -/
def vx_Met (l : Launch) (y : MethodName) (ws : List Cond) (rm : Room) (Pc : Array Value → State → Prop) (Qc : Array Value → State → Outcome → State → Prop) (XC : String → State → State → Prop) (mc ms : Nat) (free : Addr → Prop) : Prop :=
  MetFree l y (headSpec ws rm) Pc (fun _ _ _ _ _ => True) (vx_Q Qc XC mc ms free)
def vx_Post (XC : String → State → State → Prop) (mc ms : Nat) (free : Addr → Prop) : Pt → Array Value → Addr → Pt → Prop := fun A a q B =>
  ∃ (g : JFrame) (mk : MethodId) (t : State) (L : List Loc) (E : String) (ce : Cell), B.U.heap = t.heap ∧ B.U.vm = t.vm ∧ XC E (A.U.calling g mk a) t ∧ t.heap[q]? = some ce ∧ ce.vm = .none ∧ A.U.vm.findClass E = some ce.cls ∧ B.locs = A.locs ++ L ∧ (∀ z ∈ L, free z.base) ∧ B.cells = A.cells + mc ∧ B.slots = A.slots + ms
def vx_Back (l : Launch) (R : Room) (p : Program) (e : Env) (below : List Frame) (s : State) (sargs : Array Value) (y : MethodName) (len W9 : Nat)
    (Pre : Pt → Array Value → Prop) (Post : Pt → Array Value → Option Value → Pt → Prop) (PostX : Pt → Array Value → Addr → Pt → Prop) : Prop :=
  ∀ (m : MethodId) (meth : Method) (c : Code) (A : Pt) (g : JFrame) (ig : Instr) (mk : MethodId) (a : Array Value),
    Stand p l e R s m sargs below meth c A.U A.locs A.cells A.slots → g.method = m → g.locals.size = c.maxLocals → decode c.code g.pc = .ok (ig, len) →
    2 * g.monitorRoom + (g.stack.map fun v => v.category).sum ≤ W9 → A.U.methodNamed? y = some mk → Pre A a →
    (∃ (v : Option Value) (B : Pt), Stand p l e R s m sargs below meth c B.U B.locs B.cells B.slots ∧ Post A a v B ∧
      Steps p.tables e below (doInvoke e (A.U.setTop g) [] mk a).1 (B.U.setTop { g with pc := g.pc + len, stack := v.toList ++ g.stack })) ∨
    (∃ (q : Addr) (B : Pt), Stand p l e R s m sargs below meth c B.U B.locs B.cells B.slots ∧ PostX A a q B ∧
      Steps p.tables e below (doInvoke e (A.U.setTop g) [] mk a).1 ((B.U.setTop g).pushFrame (.throwing q)))
section Payer
variable {l : Launch} {R : Room} {p : Program} {e : Env} {below : List Frame} {s : State} {sargs : Array Value} {y : MethodName} {len W9 : Nat}
theorem vx_back {ws : List Cond} {rm : Room} {Pc : Array Value → State → Prop} {Qc : Array Value → State → Outcome → State → Prop} {XC : String → State → State → Prop} {mc ms : Nat} {free : Addr → Prop} {bytes : ByteArray} {maxL : Nat} {ret : Option FieldType}
    (hM : vx_Met l y ws rm Pc Qc XC mc ms free) (hblind : FrameBlind Pc) (hrc : rm.cells = mc) (hrs : rm.slots = ms)
    (hframes : rm.frames + 1 ≤ R.frames) (hlocals : W9 + (maxL + 11) + rm.locals ≤ R.locals)
    (hws : ∀ w ∈ ws, ∀ a' U, s.WarmedH U.vm → w.before a' U = true) (hcode : Cond.code y bytes maxL ret ∈ ws) (hinit : ∀ a' U, s.WarmedH U.vm → (Cond.initialized y.cls).before a' U = true) :
    vx_Back l R p e below s sargs y len W9 (PreOf R mc ms Pc) (PostOf Qc mc ms free) (vx_Post XC mc ms free) := by
  intro m meth c A g ig mk a X hg hsize hdg hW hn hp
  have h1 : (headSpec ws rm).pre.before a A.U = true := atoms_intro fun w hw => hws w hw _ _ X.warmed
  have h2 : (Cond.code y bytes maxL ret).before a A.U = true := hws _ hcode _ _ X.warmed
  have h3 : (Cond.initialized y.cls).before a A.U = true := hinit _ _ X.warmed
  have h4 : A.cells + (headSpec ws rm).room.cells ≤ R.cells := by rw [show (headSpec ws rm).room.cells = mc from hrc]; exact hp.1
  have h5 : A.slots + (headSpec ws rm).room.slots ≤ R.slots := by rw [show (headSpec ws rm).room.slots = ms from hrs]; exact hp.2.1
  have hPc : Pc a (A.U.calling g mk a) := hblind _ _ _ _ hp.2.2
  obtain ⟨U, Ls, c0, s0⟩ := A
  dsimp only [Pt.U, Pt.locs, Pt.cells, Pt.slots] at h1 h2 h3 h4 h5 X hn hPc ⊢
  obtain ⟨methY, cY, hmY, hcY, -, hlY, -, -, -, -⟩ := Cond.code_spec hn h2
  obtain ⟨kY, hkY, -⟩ := className_of_methodNamed hn
  have hinitY : kY.init = .initialized := Cond.initialized_spec (findClass_of_methodNamed hn) hkY h3
  have h : At U g.method c below := by rw [hg]; exact X.here
  have hlocals9 : W9 + (maxL + 11) + (headSpec ws rm).room.locals ≤ R.locals := hlocals
  have happ : (headSpec ws rm).appliesLoose y e.platform (U.calling g mk a) = true :=
    Spec.appliesLoose_calling (g := g) h hdg hn hkY hinitY
      (X.room_calling (g := g) (R' := (headSpec ws rm).room) hsize hmY hcY hframes (by rw [hlY]; omega) h4 h5) h1
  obtain ⟨mid, hmid⟩ := h.above
  have hfr : (U.setTop g).frames = (.java g :: mid) ++ below := by rw [State.frames_setTop' g h.top, hmid]; rfl
  obtain ⟨o, s₂, hsteps, -, hend, hq⟩ := Steps.callFree hM p X.admits X.cas X.clock (acts := []) hfr happ hPc trivial
  have hq' : vx_Q Qc XC mc ms free a (U.calling g mk a) o s₂ := hq
  rw [State.frames_setTop' g h.top] at hend
  obtain ⟨g₀, hg0⟩ := Option.isSome_iff_exists.mp h.top
  obtain ⟨r, hr⟩ := State.topJava?_eq_some.mp hg0
  have hr' : (({ U with heap := s₂.heap, slotsUsed := s₂.slotsUsed } : State).setVm s₂.vm).frames = .java g₀ :: r := hr
  rcases hq' with ⟨hqc, L, hfe, hL⟩ | ⟨q, rfl, E, ce, L, hx, hce, hcv, hcl, hW₂, hsm, hL⟩
  · obtain ⟨⟨v, rfl⟩, hW₂, e2, q2, q3, q4, q5, q6⟩ := id hfe
    have e3 : s₂ = ({ (U.calling g mk a).setFrames s₂.frames with heap := s₂.heap, slotsUsed := s₂.slotsUsed } : State).setVm s₂.vm := by
      have : s₂ = ({ s₂ with vm := (U.calling g mk a).vm } : State).setVm s₂.vm := rfl
      rw [e2] at this
      exact this
    obtain ⟨c₂, i₂, len₂, hc₂, hd₂, hf₂⟩ := hend
    have hW' : U.WarmedH s₂.vm := hW₂
    have hcc : c₂ = c := by
      have h1 : s₂.code? g.method = U.code? g.method := by
        rw [State.code?_eq, State.code?_eq, hW'.alike.method?]
      exact Option.some.inj (hc₂.symm.trans (h1.trans h.code))
    subst hcc
    have hlen : len₂ = len := by rw [hdg] at hd₂; cases hd₂; rfl
    subst hlen
    have hs₂ : s₂ = (({ U with heap := s₂.heap, slotsUsed := s₂.slotsUsed } : State).setVm s₂.vm).setTop { g with pc := g.pc + len₂, stack := v.toList ++ g.stack } := by
      refine e3.trans ?_
      rw [hf₂, State.calling_eq h.top, State.setFrames_setFrames, State.setTop_of_frames _ hr', hr]
      rfl
    have hsame : U.sameButNew ({ U with heap := s₂.heap, slotsUsed := s₂.slotsUsed } : State) L mc ms := by
      refine ⟨?_, q2, q3, q4, q5, q6⟩
      obtain ⟨t, ht, -⟩ := State.frames_cons hr
      show ({ U with heap := s₂.heap, slotsUsed := s₂.slotsUsed } : State) = { U.setFrames U.frames with heap := s₂.heap, slotsUsed := s₂.slotsUsed }
      rw [State.setFrames_self ht]
    subst hg
    refine Or.inl ⟨v, ⟨(({ U with heap := s₂.heap, slotsUsed := s₂.slotsUsed } : State).setVm s₂.vm), Ls ++ L, c0 + mc, s0 + ms⟩,
      ⟨X.admits, X.cas, X.clock, X.frames, X.room, X.hears, X.method, X.code, (X.here.setHeapUsed s₂.heap s₂.slotsUsed).setVm hW'.alike, X.tail, State.WarmedH.trans X.warmed hW', X.limits, X.bytes, X.same.trans (hsame.setVm s.vm)⟩,
      ⟨g, mk, s₂, L, rfl, rfl, hqc, rfl, hL, rfl, rfl⟩, ?_⟩
    show Steps p.tables e below _ ((({ U with heap := s₂.heap, slotsUsed := s₂.slotsUsed } : State).setVm s₂.vm).setTop { g with pc := g.pc + len₂, stack := v.toList ++ g.stack })
    rw [← hs₂]
    exact hsteps
  · obtain ⟨e2, q2, q3, q4, q5, q6⟩ := id hsm
    have e3 : s₂ = ({ (U.calling g mk a).setFrames s₂.frames with heap := s₂.heap, slotsUsed := s₂.slotsUsed } : State).setVm s₂.vm := by
      have : s₂ = ({ s₂ with vm := (U.calling g mk a).vm } : State).setVm s₂.vm := rfl
      rw [e2] at this
      exact this
    have hf₂ : s₂.frames = .throwing q :: .java g :: U.frames.tail := hend
    have hW' : U.WarmedH s₂.vm := hW₂
    have hs₂ : s₂ = ((({ U with heap := s₂.heap, slotsUsed := s₂.slotsUsed } : State).setVm s₂.vm).setTop g).pushFrame (.throwing q) := by
      refine e3.trans ?_
      rw [hf₂, State.calling_eq h.top, State.setFrames_setFrames, State.pushFrame, State.frames_setTop _ hr', State.setTop_of_frames _ hr', State.setFrames_setFrames, hr]
      rfl
    have hsame : U.sameButNew ({ U with heap := s₂.heap, slotsUsed := s₂.slotsUsed } : State) L mc ms := by
      refine ⟨?_, q2, q3, q4, q5, q6⟩
      obtain ⟨t, ht, -⟩ := State.frames_cons hr
      show ({ U with heap := s₂.heap, slotsUsed := s₂.slotsUsed } : State) = { U.setFrames U.frames with heap := s₂.heap, slotsUsed := s₂.slotsUsed }
      rw [State.setFrames_self ht]
    subst hg
    refine Or.inr ⟨q, ⟨(({ U with heap := s₂.heap, slotsUsed := s₂.slotsUsed } : State).setVm s₂.vm), Ls ++ L, c0 + mc, s0 + ms⟩,
      ⟨X.admits, X.cas, X.clock, X.frames, X.room, X.hears, X.method, X.code, (X.here.setHeapUsed s₂.heap s₂.slotsUsed).setVm hW'.alike, X.tail, State.WarmedH.trans X.warmed hW', X.limits, X.bytes, X.same.trans (hsame.setVm s.vm)⟩,
      ⟨g, mk, s₂, L, E, ce, rfl, rfl, hx, hce, hcv, hcl, rfl, hL, rfl, rfl⟩, ?_⟩
    show Steps p.tables e below _ (((({ U with heap := s₂.heap, slotsUsed := s₂.slotsUsed } : State).setVm s₂.vm).setTop g).pushFrame (.throwing q))
    rw [← hs₂]
    exact hsteps
end Payer
section Calls
variable {p : Program} {l : Launch} {e : Env} {R : Room} {s : State} {m : MethodId} {args : Array Value} {below : List Frame} {meth : Method} {c : Code} {T : State} {locs : List Loc} {cells slots : Nat}
theorem vx_callV (X : Stand p l e R s m args below meth c T locs cells slots) (hexec : p.tables.exec = Jvm.exec) {own C : String} {index : Nat} {y : MethodName} {bytes : ByteArray} {maxL : Nat} {ret : Option FieldType}
    (hown : s.vm.findClass own = some m.cls) (hlink : (Cond.methodLink own index y).before args s = true) (hinst : (Cond.instanceMethod y).before args s = true) (hsel : (Cond.selects C y y).before args s = true)
    (hcode : (Cond.code y bytes maxL ret).before args s = true) (hy : y.cls ≠ "java/lang/invoke/MethodHandle" ∧ y.cls ≠ "java/lang/invoke/VarHandle")
    {W9 : Nat} {Pre : Pt → Array Value → Prop} {Post : Pt → Array Value → Option Value → Pt → Prop} {PostX : Pt → Array Value → Addr → Pt → Prop} (hK : vx_Back l R p e below s args y 3 W9 Pre Post PostX)
    {b : Addr} {cellB : Cell} (hcell : T.heap[b]? = some cellB) (hobj : cellB.vm.isStatics = false) (hcls : s.vm.findClass C = some cellB.cls)
    {g : JFrame} (hg : g.method = m) (hsize : g.locals.size = c.maxLocals) {argsL rest : List Value} (hlen : ∀ sig, parseMethodDescriptor y.desc = some sig → argsL.length = sig.parameters.length)
    (hstack : g.stack = argsL.reverse ++ .ref b :: rest) (hW : 2 * g.monitorRoom + (rest.map fun v => v.category).sum ≤ W9) (hdg : decode c.code g.pc = .ok (.invokevirtual index, 3))
    (hpre : ∀ vm₁, s.WarmedH vm₁ → Pre ⟨T.setVm vm₁, locs, cells, slots⟩ (Value.ref b :: argsL).toArray) :
    (∃ (v : Option Value) (vm₁ : Vm) (B : Pt), s.WarmedH vm₁ ∧ Stand p l e R s m args below meth c B.U B.locs B.cells B.slots ∧ Post ⟨T.setVm vm₁, locs, cells, slots⟩ (Value.ref b :: argsL).toArray v B ∧
      ∀ target, Steps p.tables e below (B.U.setTop { g with pc := g.pc + 3, stack := v.toList ++ rest }) target → Steps p.tables e below (T.setTop g) target) ∨
    (∃ (q : Addr) (vm₁ : Vm) (B : Pt), s.WarmedH vm₁ ∧ Stand p l e R s m args below meth c B.U B.locs B.cells B.slots ∧ PostX ⟨T.setVm vm₁, locs, cells, slots⟩ (Value.ref b :: argsL).toArray q B ∧
      Steps p.tables e below (T.setTop g) ((B.U.setTop { g with stack := rest }).pushFrame (.throwing q))) := by
  obtain ⟨mk, methM, hnamed, hmethM, hstM, habM⟩ := Cond.instanceMethod_spec hinst
  obtain ⟨methM', cM, hmethM', -, -, -, -, -, -, hsigM⟩ := Cond.code_spec hnamed hcode
  cases hmethM.symm.trans hmethM'
  obtain ⟨c2, r2, m2, q1, q2, q3, q4, kP, hkP, hkPi⟩ := Cond.selects_spec hsel
  cases hcls.symm.trans q1
  cases (State.methodFound?_of_named hnamed hy).symm.trans q2
  cases hnamed.symm.trans q3
  have hselP : selectMethod e.platform s.vm cellB.cls mk = .method mk := by rw [Launch.admits_selectMethod X.admits]; exact q4
  obtain ⟨vm₁, X₁, hstep₁⟩ := X.invokevirtual hexec hown hlink hnamed hmethM hstM hkP hkPi hy (a := b) (cell := cellB) hcell
    (fun z h => by rw [h] at hobj; cases hobj) hselP hmethM habM hkP hkPi (g := g) hg (argsL := argsL) (rest := rest) (hlen _ hsigM) hstack hdg
  rcases hK m meth c ⟨T.setVm vm₁, locs, cells, slots⟩ { g with stack := rest } (.invokevirtual index) mk (Value.ref b :: argsL).toArray X₁ hg hsize hdg hW (X₁.named hnamed) (hpre vm₁ X₁.warmed) with ⟨v, B, X', hpost, hsteps⟩ | ⟨q, B, X', hpost, hsteps⟩
  · exact Or.inl ⟨v, vm₁, B, X₁.warmed, X', hpost, fun target h => hstep₁ _ fun acts => by rw [doInvoke_state]; exact hsteps.trans h⟩
  · exact Or.inr ⟨q, vm₁, B, X₁.warmed, X', hpost, hstep₁ _ fun acts => by rw [doInvoke_state]; exact hsteps⟩
theorem vx_callS (X : Stand p l e R s m args below meth c T locs cells slots) (hexec : p.tables.exec = Jvm.exec) {own : String} {index : Nat} {y : MethodName} {bytes : ByteArray} {maxL : Nat} {ret : Option FieldType}
    (hown : s.vm.findClass own = some m.cls) (hlink : (Cond.methodLink own index y).before args s = true) (hstat : (Cond.static y).before args s = true) (hinit : (Cond.initialized y.cls).before args s = true)
    (hcode : (Cond.code y bytes maxL ret).before args s = true) (hy : y.cls ≠ "java/lang/invoke/MethodHandle" ∧ y.cls ≠ "java/lang/invoke/VarHandle")
    {W9 : Nat} {Pre : Pt → Array Value → Prop} {Post : Pt → Array Value → Option Value → Pt → Prop} {PostX : Pt → Array Value → Addr → Pt → Prop} (hK : vx_Back l R p e below s args y 3 W9 Pre Post PostX)
    {g : JFrame} (hg : g.method = m) (hsize : g.locals.size = c.maxLocals) {argsL rest : List Value} (hlen : ∀ sig, parseMethodDescriptor y.desc = some sig → argsL.length = sig.parameters.length)
    (hstack : g.stack = argsL.reverse ++ rest) (hW : 2 * g.monitorRoom + (rest.map fun v => v.category).sum ≤ W9) (hdg : decode c.code g.pc = .ok (.invokestatic index, 3))
    (hpre : ∀ vm₁, s.WarmedH vm₁ → Pre ⟨T.setVm vm₁, locs, cells, slots⟩ argsL.toArray) :
    (∃ (v : Option Value) (vm₁ : Vm) (B : Pt), s.WarmedH vm₁ ∧ Stand p l e R s m args below meth c B.U B.locs B.cells B.slots ∧ Post ⟨T.setVm vm₁, locs, cells, slots⟩ argsL.toArray v B ∧
      ∀ target, Steps p.tables e below (B.U.setTop { g with pc := g.pc + 3, stack := v.toList ++ rest }) target → Steps p.tables e below (T.setTop g) target) ∨
    (∃ (q : Addr) (vm₁ : Vm) (B : Pt), s.WarmedH vm₁ ∧ Stand p l e R s m args below meth c B.U B.locs B.cells B.slots ∧ PostX ⟨T.setVm vm₁, locs, cells, slots⟩ argsL.toArray q B ∧
      Steps p.tables e below (T.setTop g) ((B.U.setTop { g with stack := rest }).pushFrame (.throwing q))) := by
  obtain ⟨mk, hnamed⟩ := Cond.code_named hcode
  obtain ⟨methM, cM, hmethM, -, -, -, -, -, -, hsigM⟩ := Cond.code_spec hnamed hcode
  have hstatic : methM.isStatic = true := Cond.static_spec hnamed hmethM hstat
  obtain ⟨kP, hkP, -⟩ := className_of_methodNamed hnamed
  have hinitP : kP.init = .initialized := Cond.initialized_spec (findClass_of_methodNamed hnamed) hkP hinit
  obtain ⟨vm₁, X₁, hstep₁⟩ := X.invokestatic hexec hown hlink hnamed hmethM hstatic hkP hinitP hy (g := g) hg (argsL := argsL) (rest := rest) (hlen _ hsigM) hstack hdg
  rcases hK m meth c ⟨T.setVm vm₁, locs, cells, slots⟩ { g with stack := rest } (.invokestatic index) mk argsL.toArray X₁ hg hsize hdg hW (X₁.named hnamed) (hpre vm₁ X₁.warmed) with ⟨v, B, X', hpost, hsteps⟩ | ⟨q, B, X', hpost, hsteps⟩
  · exact Or.inl ⟨v, vm₁, B, X₁.warmed, X', hpost, fun target h => hstep₁ _ fun acts => by rw [doInvoke_state]; exact hsteps.trans h⟩
  · exact Or.inr ⟨q, vm₁, B, X₁.warmed, X', hpost, hstep₁ _ fun acts => by rw [doInvoke_state]; exact hsteps⟩
end Calls
theorem vx_cls {s : State} {T : State} {vm₁ : Vm} {E : String} {k : ClassId} (hW : s.WarmedH vm₁) (h : (T.setVm vm₁).vm.findClass E = some k) : s.vm.findClass E = some k := by
  have h1 : vm₁.findClass E = some k := h
  rw [hW.alike.findClass] at h1
  exact h1
/-- the method's frame g, with q thrown over it -/
def vx_W (p : Program) (l : Launch) (e : Env) (R : Room) (s : State) (m : MethodId) (args : Array Value) (below : List Frame) (meth : Method) (c : Code) (H : Heap) (locs : List Loc) (cells slots : Nat) (Q : State → Prop) (g : JFrame) (q : Addr) : Prop :=
  ∀ T : State, T.heap = H → Stand p l e R s m args below meth c T locs cells slots → ∃ t, Steps p.tables e below ((T.setTop g).pushFrame (.throwing q)) t ∧ Q t
def vx_Run (p : Program) (l : Launch) (e : Env) (R : Room) (s : State) (m : MethodId) (args : Array Value) (below : List Frame) (meth : Method) (c : Code) (H : Heap) (locs : List Loc) (cells slots mc ms : Nat) (g : JFrame) (rest : List Value) (Qa : State → Outcome → State → Prop) (XC : String → State → State → Prop) (free : Addr → Prop) : Prop :=
  ∀ T : State, T.heap = H → Stand p l e R s m args below meth c T locs cells slots →
    (∃ (v : Option Value) (st₀ t T' : State) (L : List Loc), st₀.heap = H ∧ Stand p l e R s m args below meth c T' (locs ++ L) (cells + mc) (slots + ms) ∧ (∀ q ∈ L, free q.base) ∧ T'.heap = t.heap ∧ T'.vm = t.vm ∧ Qa st₀ (.returned v) t ∧
      Goes p e below T g T' { g with pc := g.pc + 3, stack := v.toList ++ rest }) ∨
    (∃ (q : Addr) (st₀ t T' : State) (L : List Loc) (E : String) (ce : Cell), st₀.heap = H ∧ Stand p l e R s m args below meth c T' (locs ++ L) (cells + mc) (slots + ms) ∧ (∀ z ∈ L, free z.base) ∧ T'.heap = t.heap ∧ T'.vm = t.vm ∧ XC E st₀ t ∧ t.heap[q]? = some ce ∧ ce.vm = .none ∧ s.vm.findClass E = some ce.cls ∧
      Steps p.tables e below (T.setTop g) ((T'.setTop { g with stack := rest }).pushFrame (.throwing q)))
def vx_X {S : Type} (px : S → Prop) (B : String → S → State → Prop) (A : Nat → Prop) : String → State → State → Prop := fun E st t => ∃ u : S, px u ∧ B E u t ∧ va_F A st t
section Runs
variable {p : Program} {l : Launch} {e : Env} {R : Room} {s : State} {m : MethodId} {args : Array Value} {below : List Frame} {meth : Method} {c : Code} {H : Heap} {locs : List Loc} {cells slots : Nat}
variable {y : MethodName} {bytes cc : ByteArray} {maxL nL mc ms n index : Nat} {ret : Option FieldType} {ws : List Cond} {rm : Room} {Pc : Array Value → State → Prop} {Qc : Array Value → State → Outcome → State → Prop} {XC : String → State → State → Prop} {free : Addr → Prop} {Ts : List Cond} {own C : String} {b : Addr} {As rest : List Value} {g : JFrame}
theorem vx_callBack (cb : CallB R s args own index y bytes maxL ret ws rm mc ms n) (hM : vx_Met l y ws rm Pc Qc XC mc ms free) (hbl : FrameBlind Pc) : vx_Back l R p e below s args y 3 8 (PreOf R mc ms Pc) (PostOf Qc mc ms free) (vx_Post XC mc ms free) := by
  obtain ⟨hrc, hrs, hfr, hlo, hws, hcw, -, hini, -⟩ := cb
  exact vx_back (bytes := bytes) (maxL := maxL) (ret := ret) hM hbl hrc hrs hfr hlo hws hcw (fun a' U hW => word_at hW (Or.inl (by first | rfl | simp [Cond.onTables, Cond.keeps, Cond.steady])) hini)
theorem vx_runV (S : CallFix p m c cc nL s args Ts own) (hM : vx_Met l y ws rm Pc Qc XC mc ms free) (cw : CallW R s args own C index y bytes maxL ret ws rm mc ms n) (hp : PreV s H C b Pc As)
    (hg : g.method = m) (hn : As.length = n) (hsize : g.locals.size = nL) (hstack : g.stack = As.reverse ++ .ref b :: rest) (hW : 2 * g.monitorRoom + (rest.map fun v => v.category).sum ≤ 8) (hdg : decode cc g.pc = .ok (.invokevirtual index, 3)) (hf : cells + mc ≤ R.cells ∧ slots + ms ≤ R.slots) :
    vx_Run p l e R s m args below meth c H locs cells slots mc ms g rest (Qc (Value.ref b :: As).toArray) XC free := by
  have hK : vx_Back l R p e below s args y 3 8 (PreOf R mc ms Pc) (PostOf Qc mc ms free) (vx_Post XC mc ms free) := vx_callBack cw.1 hM hp.1
  obtain ⟨⟨-, -, -, -, -, -, hcode, -, hy, hlen, hl⟩, hin, hse⟩ := cw
  obtain ⟨hx, hb, hml, ho, -⟩ := S
  obtain ⟨-, ⟨cellB, hcB, hoB, hclB⟩, hPc⟩ := hp
  intro T hT X
  rcases vx_callV X hx (C := C) (bytes := bytes) (maxL := maxL) (ret := ret) ho hl hin hse hcode hy hK (by rw [hT]; exact hcB) hoB hclB hg (hsize.trans hml.symm) (argsL := As) (rest := rest) (fun sig h => hn.trans (hlen sig h)) hstack hW (by rw [hb]; exact hdg)
    (fun vm₁ hW₁ => ⟨hf.1, hf.2, hPc (T.setVm vm₁) hT hW₁⟩) with ⟨v, vm₁, ⟨U', l2, c2, s2⟩, hW₁, X', ⟨g', mk, t, L, e1, e2, hq, h1, hL, h2, h3⟩, st⟩ | ⟨q, vm₁, ⟨U', l2, c2, s2⟩, hW₁, X', ⟨g', mk, t, L, E, ce, e1, e2, hq, hce, hcv, hcl, h1, hL, h2, h3⟩, st⟩
  · dsimp only [Pt.U, Pt.locs, Pt.cells, Pt.slots] at X' e1 e2 h1 h2 h3 st
    subst h1; subst h2; subst h3
    exact Or.inl ⟨v, (T.setVm vm₁).calling g' mk (Value.ref b :: As).toArray, t, U', L, hT, X', hL, e1, e2, hq, st⟩
  · dsimp only [Pt.U, Pt.locs, Pt.cells, Pt.slots] at X' e1 e2 h1 h2 h3 st hcl
    subst h1; subst h2; subst h3
    exact Or.inr ⟨q, (T.setVm vm₁).calling g' mk (Value.ref b :: As).toArray, t, U', L, E, ce, hT, X', hL, e1, e2, hq, hce, hcv, vx_cls hW₁ hcl, st⟩
theorem vx_runS (S : CallFix p m c cc nL s args Ts own) (hM : vx_Met l y ws rm Pc Qc XC mc ms free) (cw : CallB R s args own index y bytes maxL ret ws rm mc ms n ∧ (Cond.static y).before args s = true) (hp : PreS s H Pc As)
    (hg : g.method = m) (hn : As.length = n) (hsize : g.locals.size = nL) (hstack : g.stack = As.reverse ++ rest) (hW : 2 * g.monitorRoom + (rest.map fun v => v.category).sum ≤ 8) (hdg : decode cc g.pc = .ok (.invokestatic index, 3)) (hf : cells + mc ≤ R.cells ∧ slots + ms ≤ R.slots) :
    vx_Run p l e R s m args below meth c H locs cells slots mc ms g rest (Qc As.toArray) XC free := by
  have hK : vx_Back l R p e below s args y 3 8 (PreOf R mc ms Pc) (PostOf Qc mc ms free) (vx_Post XC mc ms free) := vx_callBack cw.1 hM hp.1
  obtain ⟨⟨-, -, -, -, -, -, hcode, hini, hy, hlen, hl⟩, hstt⟩ := cw
  obtain ⟨hx, hb, hml, ho, -⟩ := S
  intro T hT X
  rcases vx_callS X hx (bytes := bytes) (maxL := maxL) (ret := ret) ho hl hstt hini hcode hy hK hg (hsize.trans hml.symm) (argsL := As) (rest := rest) (fun sig h => hn.trans (hlen sig h)) hstack hW (by rw [hb]; exact hdg)
    (fun vm₁ hW₁ => ⟨hf.1, hf.2, hp.2 (T.setVm vm₁) hT hW₁⟩) with ⟨v, vm₁, ⟨U', l2, c2, s2⟩, hW₁, X', ⟨g', mk, t, L, e1, e2, hq, h1, hL, h2, h3⟩, st⟩ | ⟨q, vm₁, ⟨U', l2, c2, s2⟩, hW₁, X', ⟨g', mk, t, L, E, ce, e1, e2, hq, hce, hcv, hcl, h1, hL, h2, h3⟩, st⟩
  · dsimp only [Pt.U, Pt.locs, Pt.cells, Pt.slots] at X' e1 e2 h1 h2 h3 st
    subst h1; subst h2; subst h3
    exact Or.inl ⟨v, (T.setVm vm₁).calling g' mk As.toArray, t, U', L, hT, X', hL, e1, e2, hq, st⟩
  · dsimp only [Pt.U, Pt.locs, Pt.cells, Pt.slots] at X' e1 e2 h1 h2 h3 st hcl
    subst h1; subst h2; subst h3
    exact Or.inr ⟨q, (T.setVm vm₁).calling g' mk As.toArray, t, U', L, E, ce, hT, X', hL, e1, e2, hq, hce, hcv, vx_cls hW₁ hcl, st⟩
end Runs
section Rows
variable {p : Program} {l : Launch} {e : Env} {R : Room} {s : State} {m : MethodId} {args : Array Value} {below : List Frame} {meth : Method} {c : Code} {H : Heap} {locs : List Loc} {cells slots : Nat} {Q : State → Prop}
variable {mc ms : Nat} {free : Addr → Prop} {A0 A1 : Nat → Prop} {H0 : Heap} {a : Array Value} {pc : Nat} {ls : Array Slot} {st0 rest : List Value}
theorem vx_keep {st₀ t T' : State} {L : List Loc} (h0 : st₀.heap = H) (e1 : T'.heap = t.heap) (hS : va_S A0 H0 H locs) (hA : ∀ q, q < H.size → A1 q → A0 q) (hf : ∀ q, free q → A0 q) (hL : ∀ q ∈ L, free q.base) (hF : va_F A1 st₀ t) :
    H.size ≤ T'.heap.size ∧ (∀ q : Nat, q < H.size → ¬ A1 q → T'.heap[q]? = H[q]?) ∧ va_S A0 H0 T'.heap (locs ++ L) := by
  obtain ⟨hz, hk⟩ := hF
  rw [h0] at hz hk
  exact ⟨by rw [e1]; exact hz, fun q h1 h2 => by rw [e1]; exact hk q h1 h2,
    ⟨Nat.le_trans hS.1 (by rw [e1]; exact hz), fun q h1 h2 => by rw [e1, hk q (Nat.lt_of_lt_of_le h1 hS.1) (fun z => h2 (hA q (Nat.lt_of_lt_of_le h1 hS.1) z))]; exact hS.2.1 q h1 h2, fun q hq => by
      rcases List.mem_append.mp hq with h | h
      · exact hS.2.2 q h
      · exact hf _ (hL q h)⟩⟩
theorem vx_calli {S SX : Type} {post : Int32 → S → Prop} {px : SX → Prop} {B : S → State → Prop} {BX : String → SX → State → Prop} {AX : Nat → Prop} (hr : vx_Run p l e R s m args below meth c H locs cells slots mc ms (F0 m pc ls st0) rest (va_Qi post B A1 a) (vx_X px BX AX) free) (hS : va_S A0 H0 H locs) (hA : ∀ q, q < H.size → A1 q → A0 q) (hf : ∀ q, free q → A0 q) (hAX : ∀ q, q < H.size → AX q → A0 q)
    (kx : ∀ (E : String) (ce : Cell) (q9 : Addr) (u : SX) (t : State) (H1 : Heap) (locs1 : List Loc), t.heap = H1 → s.vm.Alike t.vm → px u → BX E u t → H.size ≤ H1.size → (∀ q : Nat, q < H.size → ¬ AX q → H1[q]? = H[q]?) → va_S A0 H0 H1 locs1 → H1[q9]? = some ce → ce.vm = .none → s.vm.findClass E = some ce.cls → vx_W p l e R s m args below meth c H1 locs1 (cells + mc) (slots + ms) Q (F0 m pc ls rest) q9)
    (kk : ∀ (r : Int32) (u : S) (t : State) (H1 : Heap) (locs1 : List Loc), t.heap = H1 → s.vm.Alike t.vm → post r u → B u t → H.size ≤ H1.size → (∀ q : Nat, q < H.size → ¬ A1 q → H1[q]? = H[q]?) → va_S A0 H0 H1 locs1 → W p l e R s m args below meth c H1 locs1 (cells + mc) (slots + ms) Q (F0 m (pc + 3) ls (.int r :: rest))) : W p l e R s m args below meth c H locs cells slots Q (F0 m pc ls st0) := by
  intro T hT X
  rcases hr T hT X with ⟨v, st₀, t, T', L, h0, X', hL, e1, e2, ⟨⟨r, u, hv, hp, hb⟩, hF⟩, st⟩ | ⟨q, st₀, t, T', L, E, ce, h0, X', hL, e1, e2, ⟨u, hp, hb, hF⟩, hce, hcv, hcl, st⟩
  · cases hv
    obtain ⟨k1, k2, k3⟩ := vx_keep h0 e1 hS hA hf hL hF
    obtain ⟨t2, a1, b1⟩ := kk r u t T'.heap (locs ++ L) e1.symm (by rw [← e2]; exact X'.warmed.alike) hp hb k1 k2 k3 T' rfl X'
    exact ⟨t2, st t2 a1, b1⟩
  · obtain ⟨k1, k2, k3⟩ := vx_keep h0 e1 hS hAX hf hL hF
    obtain ⟨t2, a1, b1⟩ := kx E ce q u t T'.heap (locs ++ L) e1.symm (by rw [← e2]; exact X'.warmed.alike) hp hb k1 k2 k3 (by rw [e1]; exact hce) hcv hcl T' rfl X'
    exact ⟨t2, st.trans a1, b1⟩
theorem vx_calll {S SX : Type} {post : Int64 → S → Prop} {px : SX → Prop} {B : S → State → Prop} {BX : String → SX → State → Prop} {AX : Nat → Prop} (hr : vx_Run p l e R s m args below meth c H locs cells slots mc ms (F0 m pc ls st0) rest (va_Ql post B A1 a) (vx_X px BX AX) free) (hS : va_S A0 H0 H locs) (hA : ∀ q, q < H.size → A1 q → A0 q) (hf : ∀ q, free q → A0 q) (hAX : ∀ q, q < H.size → AX q → A0 q)
    (kx : ∀ (E : String) (ce : Cell) (q9 : Addr) (u : SX) (t : State) (H1 : Heap) (locs1 : List Loc), t.heap = H1 → s.vm.Alike t.vm → px u → BX E u t → H.size ≤ H1.size → (∀ q : Nat, q < H.size → ¬ AX q → H1[q]? = H[q]?) → va_S A0 H0 H1 locs1 → H1[q9]? = some ce → ce.vm = .none → s.vm.findClass E = some ce.cls → vx_W p l e R s m args below meth c H1 locs1 (cells + mc) (slots + ms) Q (F0 m pc ls rest) q9)
    (kk : ∀ (r : Int64) (u : S) (t : State) (H1 : Heap) (locs1 : List Loc), t.heap = H1 → s.vm.Alike t.vm → post r u → B u t → H.size ≤ H1.size → (∀ q : Nat, q < H.size → ¬ A1 q → H1[q]? = H[q]?) → va_S A0 H0 H1 locs1 → W p l e R s m args below meth c H1 locs1 (cells + mc) (slots + ms) Q (F0 m (pc + 3) ls (.long r :: rest))) : W p l e R s m args below meth c H locs cells slots Q (F0 m pc ls st0) := by
  intro T hT X
  rcases hr T hT X with ⟨v, st₀, t, T', L, h0, X', hL, e1, e2, ⟨⟨r, u, hv, hp, hb⟩, hF⟩, st⟩ | ⟨q, st₀, t, T', L, E, ce, h0, X', hL, e1, e2, ⟨u, hp, hb, hF⟩, hce, hcv, hcl, st⟩
  · cases hv
    obtain ⟨k1, k2, k3⟩ := vx_keep h0 e1 hS hA hf hL hF
    obtain ⟨t2, a1, b1⟩ := kk r u t T'.heap (locs ++ L) e1.symm (by rw [← e2]; exact X'.warmed.alike) hp hb k1 k2 k3 T' rfl X'
    exact ⟨t2, st t2 a1, b1⟩
  · obtain ⟨k1, k2, k3⟩ := vx_keep h0 e1 hS hAX hf hL hF
    obtain ⟨t2, a1, b1⟩ := kx E ce q u t T'.heap (locs ++ L) e1.symm (by rw [← e2]; exact X'.warmed.alike) hp hb k1 k2 k3 (by rw [e1]; exact hce) hcv hcl T' rfl X'
    exact ⟨t2, st.trans a1, b1⟩
theorem vx_callf {S SX : Type} {post : UInt32 → S → Prop} {px : SX → Prop} {B : S → State → Prop} {BX : String → SX → State → Prop} {AX : Nat → Prop} (hr : vx_Run p l e R s m args below meth c H locs cells slots mc ms (F0 m pc ls st0) rest (va_Qf post B A1 a) (vx_X px BX AX) free) (hS : va_S A0 H0 H locs) (hA : ∀ q, q < H.size → A1 q → A0 q) (hf : ∀ q, free q → A0 q) (hAX : ∀ q, q < H.size → AX q → A0 q)
    (kx : ∀ (E : String) (ce : Cell) (q9 : Addr) (u : SX) (t : State) (H1 : Heap) (locs1 : List Loc), t.heap = H1 → s.vm.Alike t.vm → px u → BX E u t → H.size ≤ H1.size → (∀ q : Nat, q < H.size → ¬ AX q → H1[q]? = H[q]?) → va_S A0 H0 H1 locs1 → H1[q9]? = some ce → ce.vm = .none → s.vm.findClass E = some ce.cls → vx_W p l e R s m args below meth c H1 locs1 (cells + mc) (slots + ms) Q (F0 m pc ls rest) q9)
    (kk : ∀ (r : UInt32) (u : S) (t : State) (H1 : Heap) (locs1 : List Loc), t.heap = H1 → s.vm.Alike t.vm → post r u → B u t → H.size ≤ H1.size → (∀ q : Nat, q < H.size → ¬ A1 q → H1[q]? = H[q]?) → va_S A0 H0 H1 locs1 → W p l e R s m args below meth c H1 locs1 (cells + mc) (slots + ms) Q (F0 m (pc + 3) ls (.float r :: rest))) : W p l e R s m args below meth c H locs cells slots Q (F0 m pc ls st0) := by
  intro T hT X
  rcases hr T hT X with ⟨v, st₀, t, T', L, h0, X', hL, e1, e2, ⟨⟨r, u, hv, hp, hb⟩, hF⟩, st⟩ | ⟨q, st₀, t, T', L, E, ce, h0, X', hL, e1, e2, ⟨u, hp, hb, hF⟩, hce, hcv, hcl, st⟩
  · cases hv
    obtain ⟨k1, k2, k3⟩ := vx_keep h0 e1 hS hA hf hL hF
    obtain ⟨t2, a1, b1⟩ := kk r u t T'.heap (locs ++ L) e1.symm (by rw [← e2]; exact X'.warmed.alike) hp hb k1 k2 k3 T' rfl X'
    exact ⟨t2, st t2 a1, b1⟩
  · obtain ⟨k1, k2, k3⟩ := vx_keep h0 e1 hS hAX hf hL hF
    obtain ⟨t2, a1, b1⟩ := kx E ce q u t T'.heap (locs ++ L) e1.symm (by rw [← e2]; exact X'.warmed.alike) hp hb k1 k2 k3 (by rw [e1]; exact hce) hcv hcl T' rfl X'
    exact ⟨t2, st.trans a1, b1⟩
theorem vx_calld {S SX : Type} {post : UInt64 → S → Prop} {px : SX → Prop} {B : S → State → Prop} {BX : String → SX → State → Prop} {AX : Nat → Prop} (hr : vx_Run p l e R s m args below meth c H locs cells slots mc ms (F0 m pc ls st0) rest (va_Qd post B A1 a) (vx_X px BX AX) free) (hS : va_S A0 H0 H locs) (hA : ∀ q, q < H.size → A1 q → A0 q) (hf : ∀ q, free q → A0 q) (hAX : ∀ q, q < H.size → AX q → A0 q)
    (kx : ∀ (E : String) (ce : Cell) (q9 : Addr) (u : SX) (t : State) (H1 : Heap) (locs1 : List Loc), t.heap = H1 → s.vm.Alike t.vm → px u → BX E u t → H.size ≤ H1.size → (∀ q : Nat, q < H.size → ¬ AX q → H1[q]? = H[q]?) → va_S A0 H0 H1 locs1 → H1[q9]? = some ce → ce.vm = .none → s.vm.findClass E = some ce.cls → vx_W p l e R s m args below meth c H1 locs1 (cells + mc) (slots + ms) Q (F0 m pc ls rest) q9)
    (kk : ∀ (r : UInt64) (u : S) (t : State) (H1 : Heap) (locs1 : List Loc), t.heap = H1 → s.vm.Alike t.vm → post r u → B u t → H.size ≤ H1.size → (∀ q : Nat, q < H.size → ¬ A1 q → H1[q]? = H[q]?) → va_S A0 H0 H1 locs1 → W p l e R s m args below meth c H1 locs1 (cells + mc) (slots + ms) Q (F0 m (pc + 3) ls (.double r :: rest))) : W p l e R s m args below meth c H locs cells slots Q (F0 m pc ls st0) := by
  intro T hT X
  rcases hr T hT X with ⟨v, st₀, t, T', L, h0, X', hL, e1, e2, ⟨⟨r, u, hv, hp, hb⟩, hF⟩, st⟩ | ⟨q, st₀, t, T', L, E, ce, h0, X', hL, e1, e2, ⟨u, hp, hb, hF⟩, hce, hcv, hcl, st⟩
  · cases hv
    obtain ⟨k1, k2, k3⟩ := vx_keep h0 e1 hS hA hf hL hF
    obtain ⟨t2, a1, b1⟩ := kk r u t T'.heap (locs ++ L) e1.symm (by rw [← e2]; exact X'.warmed.alike) hp hb k1 k2 k3 T' rfl X'
    exact ⟨t2, st t2 a1, b1⟩
  · obtain ⟨k1, k2, k3⟩ := vx_keep h0 e1 hS hAX hf hL hF
    obtain ⟨t2, a1, b1⟩ := kx E ce q u t T'.heap (locs ++ L) e1.symm (by rw [← e2]; exact X'.warmed.alike) hp hb k1 k2 k3 (by rw [e1]; exact hce) hcv hcl T' rfl X'
    exact ⟨t2, st.trans a1, b1⟩
theorem vx_callv {S SX : Type} {post : S → Prop} {px : SX → Prop} {B : S → State → Prop} {BX : String → SX → State → Prop} {AX : Nat → Prop} (hr : vx_Run p l e R s m args below meth c H locs cells slots mc ms (F0 m pc ls st0) rest (va_Qv post B A1 a) (vx_X px BX AX) free) (hS : va_S A0 H0 H locs) (hA : ∀ q, q < H.size → A1 q → A0 q) (hf : ∀ q, free q → A0 q) (hAX : ∀ q, q < H.size → AX q → A0 q)
    (kx : ∀ (E : String) (ce : Cell) (q9 : Addr) (u : SX) (t : State) (H1 : Heap) (locs1 : List Loc), t.heap = H1 → s.vm.Alike t.vm → px u → BX E u t → H.size ≤ H1.size → (∀ q : Nat, q < H.size → ¬ AX q → H1[q]? = H[q]?) → va_S A0 H0 H1 locs1 → H1[q9]? = some ce → ce.vm = .none → s.vm.findClass E = some ce.cls → vx_W p l e R s m args below meth c H1 locs1 (cells + mc) (slots + ms) Q (F0 m pc ls rest) q9)
    (kk : ∀ (u : S) (t : State) (H1 : Heap) (locs1 : List Loc), t.heap = H1 → s.vm.Alike t.vm → post u → B u t → H.size ≤ H1.size → (∀ q : Nat, q < H.size → ¬ A1 q → H1[q]? = H[q]?) → va_S A0 H0 H1 locs1 → W p l e R s m args below meth c H1 locs1 (cells + mc) (slots + ms) Q (F0 m (pc + 3) ls (rest))) : W p l e R s m args below meth c H locs cells slots Q (F0 m pc ls st0) := by
  intro T hT X
  rcases hr T hT X with ⟨v, st₀, t, T', L, h0, X', hL, e1, e2, ⟨⟨u, hv, hp, hb⟩, hF⟩, st⟩ | ⟨q, st₀, t, T', L, E, ce, h0, X', hL, e1, e2, ⟨u, hp, hb, hF⟩, hce, hcv, hcl, st⟩
  · cases hv
    obtain ⟨k1, k2, k3⟩ := vx_keep h0 e1 hS hA hf hL hF
    obtain ⟨t2, a1, b1⟩ := kk u t T'.heap (locs ++ L) e1.symm (by rw [← e2]; exact X'.warmed.alike) hp hb k1 k2 k3 T' rfl X'
    exact ⟨t2, st t2 a1, b1⟩
  · obtain ⟨k1, k2, k3⟩ := vx_keep h0 e1 hS hAX hf hL hF
    obtain ⟨t2, a1, b1⟩ := kx E ce q u t T'.heap (locs ++ L) e1.symm (by rw [← e2]; exact X'.warmed.alike) hp hb k1 k2 k3 (by rw [e1]; exact hce) hcv hcl T' rfl X'
    exact ⟨t2, st.trans a1, b1⟩
/-- caught by the row x of this method's table; the rows ahead don't take it -/
theorem vx_catch {own name : String} {E : String} {ce : Cell} {q : Addr} (hown : s.vm.findClass own = some m.cls) (pre : List ExceptionTableEntry) (x : ExceptionTableEntry) (suf : List ExceptionTableEntry) (hsplit : c.exceptionTable.toList = pre ++ x :: suf)
    (hpass : ∀ z ∈ pre, covers z pc = false ∨ (z.catchType ≠ 0 ∧ ∃ nm : String, (Cond.classLink own z.catchType nm).before args s = true ∧ va_Nc E nm s)) (hx : covers x pc = true) (h0 : x.catchType ≠ 0)
    (hlink : (Cond.classLink own x.catchType name).before args s = true) (hcast : (Cond.castable E name).before args s = true) (hcell : H[q]? = some ce) (hv : ce.vm = .none) (hcl : s.vm.findClass E = some ce.cls)
    (kk : W p l e R s m args below meth c H locs cells slots Q (F0 m x.handlerPc ls [.ref q])) : vx_W p l e R s m args below meth c H locs cells slots Q (F0 m pc ls rest) q := by
  intro T hT X
  have hpl : e.platform.magicAccessors = ({} : Platform).magicAccessors := by rw [X.admits.platform]
  obtain ⟨c3, c4, hc3, hc4, hasg⟩ := Cond.castable_spec hcast
  cases Option.some.inj (hc3.symm.trans hcl)
  obtain ⟨c5, hc5, hcl5⟩ := Cond.classLink_spec hown hlink e.platform hpl
  cases Option.some.inj (hc4.symm.trans hc5)
  obtain ⟨vm', X', st⟩ := X.thenCaughtThrough q (g := F0 m pc ls rest) rfl (Steps.refl _) (by rw [hT]; exact hcell) (by rw [hv]; rfl) (by obtain ⟨k9, h9, -⟩ := Vm.findClass_spec hcl; exact ⟨k9, h9⟩) pre x suf hsplit
    (fun z hz => by
      rcases hpass z hz with h | ⟨hz0, nm, hl1, hn1⟩
      · exact Or.inl h
      · obtain ⟨c6, hc6, hcl6⟩ := Cond.classLink_spec hown hl1 e.platform hpl
        obtain ⟨a8, b8, h1, h2, h3⟩ := hn1
        cases Option.some.inj (h1.symm.trans hcl)
        cases Option.some.inj (h2.symm.trans hc6)
        exact Or.inr ⟨hz0, _, hcl6, h3⟩) hx (Or.inr ⟨h0, c4, hcl5, hasg⟩)
  obtain ⟨t, a1, b1⟩ := kk (T.setVm vm') hT X'
  exact ⟨t, st.trans a1, b1⟩
end Rows
section Ends
variable {p : Program} {l : Launch} {e : Env} {R : Room} {s : State} {m : MethodId} {args : Array Value} {below : List Frame} {meth : Method} {c : Code} {H : Heap} {locs : List Loc} {cells slots : Nat} {Q : State → Prop}
variable {mc ms : Nat} {free : Addr → Prop} {A0 A1 : Nat → Prop} {H0 : Heap} {a : Array Value} {ls : Array Slot} {st0 rest : List Value}
variable {Qc : Array Value → State → Outcome → State → Prop} {XC : String → State → State → Prop}
/-- what a body that may throw owes at its end -/
def vx_MQ (below : List Frame) (Qc : Array Value → State → Outcome → State → Prop) (XC : String → State → State → Prop) (a : Array Value) (s : State) (mc ms : Nat) (free : Addr → Prop) : State → Prop := fun t =>
  ∃ o, t.status = .running ∧ Ended t below o ∧ vx_Q Qc XC mc ms free a s o t
theorem vx_ret {g : JFrame} {mc ms : Nat} (k : W p l e R s m args below meth c H locs cells slots (MQ below Qc args s mc ms free) g) : W p l e R s m args below meth c H locs cells slots (vx_MQ below Qc XC args s mc ms free) g := by
  intro T hT X
  obtain ⟨t, a1, o, b1, b2, b3, b4⟩ := k T hT X
  exact ⟨t, a1, o, b1, b2, Or.inl ⟨b3, b4⟩⟩
/-- not caught here: it goes on to the caller -/
theorem vx_widen {g : JFrame} {q : Addr} {k n : Nat} (h1 : cells ≤ k) (h2 : slots ≤ n) (kk : vx_W p l e R s m args below meth c H locs k n Q g q) : vx_W p l e R s m args below meth c H locs cells slots Q g q := fun T hT X => kk T hT (stand_widen X h1 h2)
theorem vx_out {pc : Nat} {E : String} {ce : Cell} {q : Addr} {mc ms : Nat} (hout : ∀ x ∈ c.exceptionTable.toList, covers x pc = false) (hlocks : meth.locks = false) (hcell : H[q]? = some ce) (hv : ce.vm = .none) (hcl : s.vm.findClass E = some ce.cls)
    (hx : ∀ t : State, t.heap = H → s.vm.Alike t.vm → XC E s t) (hf : ∀ z ∈ locs, free z.base) (hc : cells ≤ mc) (hs : slots ≤ ms) :
    vx_W p l e R s m args below meth c H locs cells slots (vx_MQ below Qc XC args s mc ms free) (F0 m pc ls rest) q := by
  intro T hT X
  obtain ⟨st1, hrun, hend, hW, hsm⟩ := X.leaveThrown q (g := F0 m pc ls rest) rfl rfl rfl hout hlocks
  have hcell9 : (T.setFrames (.throwing q :: below)).heap[q]? = some ce := by
    show T.heap[q]? = some ce
    rw [hT]; exact hcell
  exact ⟨_, st1, .threw q, hrun, hend, Or.inr ⟨q, rfl, E, ce, locs, hx _ hT hW.alike, hcell9, hv, hcl, hW, hsm.mono hc hs, hf⟩⟩
theorem vx_frame {U : State} {k n : Nat} (h : s.sameButNew ({ U with vm := s.vm } : State) locs k n) : s.heap.size ≤ U.heap.size ∧ ∀ q : Nat, q < s.heap.size → (∀ z ∈ locs, z.base ≠ q) → U.heap[q]? = s.heap[q]? := by
  obtain ⟨-, h2, -, -, -, h6⟩ := h
  refine ⟨h2, fun q hq hz => ?_⟩
  obtain ⟨c9, e1, e2, e3, e4⟩ := h6 q _ (Array.getElem?_eq_getElem hq)
  have hs : c9.slots = (s.heap[q]).slots := Array.ext_getElem? fun i => e4 i fun hm => hz _ hm rfl
  have h9 : c9 = s.heap[q] := by
    rw [hs] at e2
    exact e2
  have e5 : U.heap[q]? = some c9 := e1
  rw [e5, h9, Array.getElem?_eq_getElem hq]
/-- the words of a throw but the four that speak of the heap -/
def vx_no (w : Cond) : Bool := decide (w ≠ .isRef (.static Bundle.tN "UNASSIGNED_STACK" Bundle.steD)) && decide (w ≠ .isRef (.static Bundle.tN "SUPPRESSED_SENTINEL" Bundle.listD)) && decide (w ≠ .laysStatic Bundle.tN "UNASSIGNED_STACK" Bundle.steD) && decide (w ≠ .laysStatic Bundle.tN "SUPPRESSED_SENTINEL" Bundle.listD)
def vx_at0 (own : String) (ic : Nat) (X : String) (names : List String) : List Cond := (Bundle.ownAtoms0 own ic X names).filter vx_no
def vx_atS (own : String) (ic : Nat) (X : String) (names : List String) : List Cond := (Bundle.ownAtoms own ic X names).filter vx_no
/-- a word that the tables alone decide, or a good one -/
def vx_ot (w : Cond) : Bool := w.onTables || goodWord w
theorem vx_ot_at {args a' : Array Value} {s U : State} {w : Cond} (hW : s.WarmedH U.vm) (hvm : s.vm = U.vm) (hg : vx_ot w = true) (h : w.before args s = true) : w.before a' U = true := by
  simp only [vx_ot, Bool.or_eq_true] at hg
  rcases hg with hg | hg
  · exact va_tabs hg hvm h
  · exact word_at hW (good_of_word hg) h
/-- a list's words: the good ones out of the method's own list, the others by premises of their own -/
theorem vx_hat {args : Array Value} {s : State} {L B : List Cond} (h1 : ∀ w ∈ L.filter goodWord, w.before args s = true) (h2 : ∀ w ∈ L.filter (fun w => !goodWord w), w ∈ B) (h3 : ∀ w ∈ B, w.before args s = true) : ∀ w ∈ L, w.before args s = true := by
  intro w hw
  by_cases g : goodWord w = true
  · exact h1 w (List.mem_filter.mpr ⟨hw, g⟩)
  · refine h3 w (h2 w (List.mem_filter.mpr ⟨hw, ?_⟩))
    show (!goodWord w) = true
    cases hgw : goodWord w
    · rfl
    · exact absurd hgw g
theorem vx_c {args : Array Value} {s : State} {w : Cond} {B : List Cond} (h : w.before args s = true) (t : ∀ w ∈ B, w.before args s = true) : ∀ w' ∈ w :: B, w'.before args s = true := fun w' h' => (List.mem_cons.mp h').elim (fun e => by rw [e]; exact h) (t w')
theorem vx_n {args : Array Value} {s : State} : ∀ w ∈ ([] : List Cond), w.before args s = true := fun _ h => nomatch h
theorem vx_own {args : Array Value} {s : State} {L : List Cond} (h1 : ∀ w ∈ L.filter vx_no, w.before args s = true)
    (hU : (Cond.isRef (.static Bundle.tN "UNASSIGNED_STACK" Bundle.steD)).before args s = true) (hN : (Cond.isRef (.static Bundle.tN "SUPPRESSED_SENTINEL" Bundle.listD)).before args s = true)
    (lU : (Cond.laysStatic Bundle.tN "UNASSIGNED_STACK" Bundle.steD).before args s = true) (lN : (Cond.laysStatic Bundle.tN "SUPPRESSED_SENTINEL" Bundle.listD).before args s = true) : ∀ w ∈ L, w.before args s = true := by
  intro w hw
  by_cases e1 : w = .isRef (.static Bundle.tN "UNASSIGNED_STACK" Bundle.steD)
  · rw [e1]; exact hU
  · by_cases e2 : w = .isRef (.static Bundle.tN "SUPPRESSED_SENTINEL" Bundle.listD)
    · rw [e2]; exact hN
    · by_cases e3 : w = .laysStatic Bundle.tN "UNASSIGNED_STACK" Bundle.steD
      · rw [e3]; exact lU
      · by_cases e4 : w = .laysStatic Bundle.tN "SUPPRESSED_SENTINEL" Bundle.listD
        · rw [e4]; exact lN
        · exact h1 w (List.mem_filter.mpr ⟨hw, by unfold vx_no; rw [decide_eq_true e1, decide_eq_true e2, decide_eq_true e3, decide_eq_true e4]; rfl⟩)
/-- where a static field lies, its class's statics cell in H -/
def vx_L (C n d : String) (A : Nat → Prop) (U : State) (H : Heap) : Prop := ∃ (c : ClassId) (k : Class) (i : Nat) (f : Field) (a : Nat) (cell : Cell), U.vm.findClass C = some c ∧ U.fieldFound? C n d = some (c, k, i, f) ∧ f.isStatic = true ∧ k.statics = some a ∧ H[a]? = some cell ∧ cell.vm.isStatics = true ∧ cell.cls = c ∧ f.slot < cell.slots.size ∧ k.staticTypes[f.slot]? = some f.type ∧ ¬ A a
theorem vx_L.moved {C n d : String} {A : Nat → Prop} {u U : State} {H : Heap} (hvm : u.vm.Alike U.vm) (h : vx_L C n d A u H) : vx_L C n d A U H := by
  obtain ⟨c, k, i, f, a, cell, h1, h2, h3, h4, h5, h6, h7, h8, h9, h10⟩ := h
  obtain ⟨k', hi', he⟩ := State.fieldFound?_setVm hvm h2
  exact ⟨c, k', i, f, a, cell, by rw [hvm.findClass]; exact h1, hi', h3, by rw [he]; exact h4, h5, h6, h7, h8, by rw [he]; exact h9, h10⟩
theorem vx_L.kept {C n d : String} {A : Nat → Prop} {U : State} {H H1 : Heap} (h : vx_L C n d A U H) (hq : ∀ a : Nat, a < H.size → ¬ A a → H1[a]? = H[a]?) : vx_L C n d A U H1 := by
  obtain ⟨c, k, i, f, a, cell, h1, h2, h3, h4, h5, h6, h7, h8, h9, h10⟩ := h
  exact ⟨c, k, i, f, a, cell, h1, h2, h3, h4, by rw [hq a (Array.getElem?_eq_some_iff.mp h5).1 h10]; exact h5, h6, h7, h8, h9, h10⟩
theorem vx_L.narrow {C n d : String} {A B : Nat → Prop} {U : State} {H : Heap} (h : vx_L C n d A U H) (hAB : ∀ q, B q → A q) : vx_L C n d B U H := by
  obtain ⟨c, k, i, f, a, cell, h1, h2, h3, h4, h5, h6, h7, h8, h9, h10⟩ := h
  exact ⟨c, k, i, f, a, cell, h1, h2, h3, h4, h5, h6, h7, h8, h9, fun z => h10 (hAB _ z)⟩
theorem vx_L.word {C n d : String} {A : Nat → Prop} {s : State} {args : Array Value} (h : vx_L C n d A s s.heap) : (Cond.laysStatic C n d).before args s = true := by
  obtain ⟨c, k, i, f, a, cell, h1, h2, h3, h4, h5, h6, h7, h8, h9, -⟩ := h
  show (Cond.laysStatic C n d).holds args s none s [] = true
  exact Cond.laysStatic_of h1 h2 h3 h4 h5 h6 h7 h8 h9
/-- .. and what it holds: null or some reference -/
def vx_Zq (C n d : String) (A : Nat → Prop) (U : State) (H : Heap) : Prop := va_Zq C n d A U H ∧ vx_L C n d A U H
theorem vx_Zq.moved {C n d : String} {A : Nat → Prop} {u U : State} {H : Heap} (hvm : u.vm.Alike U.vm) (h : vx_Zq C n d A u H) : vx_Zq C n d A U H := ⟨va_Zq.moved hvm h.1, vx_L.moved hvm h.2⟩
theorem vx_Zq.kept {C n d : String} {A : Nat → Prop} {U : State} {H H1 : Heap} (h : vx_Zq C n d A U H) (hq : ∀ a : Nat, a < H.size → ¬ A a → H1[a]? = H[a]?) : vx_Zq C n d A U H1 := ⟨va_Zq.kept h.1 hq, vx_L.kept h.2 hq⟩
theorem vx_Zq.narrow {C n d : String} {A B : Nat → Prop} {U : State} {H : Heap} (h : vx_Zq C n d A U H) (hAB : ∀ q, B q → A q) : vx_Zq C n d B U H := ⟨va_Zq.narrow h.1 hAB, vx_L.narrow h.2 hAB⟩
theorem vx_Zqof {args : Array Value} {s : State} {C n d : String} {A : Nat → Prop} (hl : (Cond.laysStatic C n d).before args s = true) (hini : (Cond.initialized C).before args s = true) (h : (Cond.isRef (.static C n d)).before args s = true) (hA : ∀ a : Nat, a < s.heap.size → ¬ A a) : vx_Zq C n d A s s.heap := by
  refine ⟨va_Zqof hl hini h hA, ?_⟩
  obtain ⟨c, k, i, f, a, cell, h1, h2, h3, h4, h5, h6, h7, h8, h9⟩ := Cond.laysStatic_spec hl
  exact ⟨c, k, i, f, a, cell, h1, h2, h3, h4, h5, h6, h7, h8, h9, hA a (Array.getElem?_eq_some_iff.mp h5).1⟩
theorem vx_isRef {C n d : String} {v : Value} {A : Nat → Prop} {s : State} {args : Array Value} (h : va_Z C n d v A s s.heap) (hv : v.isRef = true) : (Cond.isRef (.static C n d)).before args s = true := by
  obtain ⟨cf, kf, fi, f, a, cell, h1, h2, h3, h4, h5, h6, h7, -⟩ := h
  have he : (Term.static C n d).eval args s none [] s = some v := by
    simp [Term.eval, State.fieldNamed?, h1, h2, h4, h5, h6, h7]
  simp only [Cond.before, Cond.holds, Cond.value, he]
  cases v <;> simp_all [Value.isRef]
theorem vx_isRefq {C n d : String} {A : Nat → Prop} {s : State} {args : Array Value} (h : va_Zq C n d A s s.heap) : (Cond.isRef (.static C n d)).before args s = true := by
  rcases h with h | ⟨t, h⟩
  · exact vx_isRef h rfl
  · exact vx_isRef h rfl
/-- the same frame, seen from here: as if the method were called anew in this heap -/
theorem vx_rebase {T : State} (X : Stand p l e R s m args below meth c T locs cells slots) {R' : Room} (hf : R'.frames ≤ R.frames) (hl : R'.locals ≤ R.locals) (hc : cells + R'.cells ≤ R.cells) (hs : slots + R'.slots ≤ R.slots) :
    Stand p l e R' ((T.setVm s.vm).setFrames (.invoking m args :: below)) m args below meth c T [] 0 0 := by
  have htop : (T.setVm s.vm).topJava?.isSome := X.here.top
  have hF : ((T.setVm s.vm).setFrames (.invoking m args :: below)).frames = .invoking m args :: below := State.frames_setFrames _ (State.cur_lt_of_top htop)
  obtain ⟨g₀, hg0⟩ := Option.isSome_iff_exists.mp htop
  obtain ⟨r, hr⟩ := State.topJava?_eq_some.mp hg0
  have hl9 : e.platform.stackLimits (T.setVm s.vm).me = e.platform.stackLimits s.me := X.limits
  have hb9 : (T.setVm s.vm).me.stackBytes = s.me.stackBytes := X.bytes
  refine ⟨X.admits, X.cas, X.clock, hF, ?_, X.hears, X.method, X.code, X.here, X.tail, X.warmed, ?_, ?_, ?_⟩
  · have h := X.room
    have hU : ((T.setVm s.vm).setFrames (.invoking m args :: below)).localsInUse = s.localsInUse := by
      rw [State.localsInUse_invoking hF (meth := meth) (c := c) X.method X.code, State.localsInUse_invoking X.frames X.method X.code]
    simp only [State.hasRoom, Bool.and_eq_true, decide_eq_true_eq] at h ⊢
    obtain ⟨⟨⟨⟨h1, h2, h3, h4, h5, h6⟩, h7⟩, h8⟩, h9⟩ := h
    rw [X.frames, List.length_cons] at h2 h3
    have q1 := X.heapSize
    have q2 := X.used
    simp only [hF, hU, List.length_cons, State.stackLimits_setFrames, State.stackBytes_setFrames, hl9, hb9]
    refine ⟨⟨⟨⟨by omega, by omega, by omega, by omega, by omega, h6⟩, ?_⟩, ?_⟩, X.book⟩
    · show T.heap.size + R'.cells ≤ e.platform.maxCells
      omega
    · show T.slotsUsed + R'.slots ≤ e.platform.maxSlots
      omega
  · rw [State.stackLimits_setFrames]; rfl
  · rw [State.stackBytes_setFrames]; rfl
  · refine ⟨?_, Nat.le_refl _, Nat.le_refl _, ?_, ?_, fun a c9 h9 => ⟨c9, h9, rfl, rfl, fun _ _ => rfl⟩⟩
    · obtain ⟨t, ht, -⟩ := State.frames_cons hr
      show T.setVm s.vm = { ((T.setVm s.vm).setFrames (.invoking m args :: below)).setFrames (T.setVm s.vm).frames with heap := T.heap, slotsUsed := T.slotsUsed }
      rw [State.setFrames_setFrames, State.setFrames_self ht]
      rfl
    · show T.slotsUsed = T.slotsUsed + ((T.heap.toList.drop T.heap.size).map (·.slots.size)).sum
      rw [List.drop_eq_nil_of_le (Nat.le_of_eq Array.length_toList)]
      rfl
    · show ((T.heap.toList.drop T.heap.size).map (·.slots.size)).sum ≤ 0
      rw [List.drop_eq_nil_of_le (Nat.le_of_eq Array.length_toList)]
      exact Nat.le_refl _
/-- 'throw new E()': new; dup; invokespecial; athrow -/
theorem vx_throw0 {cc : ByteArray} {pc : Nat} (hexec : p.tables.exec = Jvm.exec) (hb : c.code = cc) (hl : l.stackTraces = false) {own cls : String} {names : List String} {ik ic mc ms : Nat} {A : Nat → Prop}
    (hown : s.vm.findClass own = some m.cls) (hcls : Bundle.fit cls = true) (hnames : ∀ n ∈ names, Bundle.fit n = true)
    (hk : (Cond.classLink own ik cls).before args s = true) (hini : (Cond.initialized cls).before args s = true) (hat : ∀ w ∈ vx_at0 own ic cls names, w.before args s = true)
    (hgood : ∀ w ∈ Cond.classLink own ik cls :: Cond.initialized cls :: vx_at0 own ic cls names, vx_ot w = true)
    (hU : vx_Zq Bundle.tN "UNASSIGNED_STACK" Bundle.steD A s s.heap) (hN : vx_Zq Bundle.tN "SUPPRESSED_SENTINEL" Bundle.listD A s s.heap) (hS : va_S A s.heap H locs) (hsize : ls.size = c.maxLocals)
    (d0 : decode cc pc = .ok (.new ik, 3)) (d3 : decode cc (pc + 3) = .ok (.dup, 1)) (d4 : decode cc (pc + 4) = .ok (.invokespecial ic, 3)) (d7 : decode cc (pc + 7) = .ok (.athrow, 1))
    (hout : ∀ x ∈ c.exceptionTable.toList, covers x (pc + 7) = false)
    (hRframes : names.length + 3 < R.frames) (hRlocals : (rest.map fun v => v.category).sum + (13 * (names.length + 1) + 42) ≤ R.locals) (hRcells : cells + 1 ≤ R.cells) (hRslots : slots + 6 ≤ R.slots) (hlocks : meth.locks = false)
    (hx : ∀ t : State, s.vm.Alike t.vm → H.size ≤ t.heap.size → (∀ q : Nat, q < H.size → t.heap[q]? = H[q]?) → XC cls s t)
    (hf : ∀ z ∈ locs, free z.base) (hc : cells + 1 ≤ mc) (hs : slots + 6 ≤ ms) :
    W p l e R s m args below meth c H locs cells slots (vx_MQ below Qc XC args s mc ms free) (F0 m pc ls rest) := by
  intro T hT X
  have htr : e.platform.stackTraces = false := (show e.platform.stackTraces = l.stackTraces by rw [X.admits.platform]).trans hl
  have Y := vx_rebase X (R' := { frames := R.frames, locals := R.locals, cells := 1, slots := 6 }) (Nat.le_refl _) (Nat.le_refl _) hRcells hRslots
  obtain ⟨s', hA⟩ : ∃ z, z = (T.setVm s.vm).setFrames (.invoking m args :: below) := ⟨_, rfl⟩
  rw [← hA] at Y
  have hvm : s'.vm = s.vm := by rw [hA]; rfl
  have hhp : s'.heap = H := by rw [hA]; exact hT
  have hW0 : s.WarmedH s'.vm := by rw [hvm]; exact State.WarmedH.refl s
  have hat' : ∀ w ∈ vx_at0 own ic cls names, w.before args s' = true := fun w hw => vx_ot_at hW0 hvm.symm (hgood w (List.mem_cons_of_mem _ (List.mem_cons_of_mem _ hw))) (hat w hw)
  have hk' : (Cond.classLink own ik cls).before args s' = true := vx_ot_at hW0 hvm.symm (hgood _ List.mem_cons_self) hk
  have hini' : (Cond.initialized cls).before args s' = true := vx_ot_at hW0 hvm.symm (hgood _ (List.mem_cons_of_mem _ List.mem_cons_self)) hini
  have hU' : vx_Zq Bundle.tN "UNASSIGNED_STACK" Bundle.steD A s' s'.heap := by rw [hhp]; exact vx_Zq.moved hW0.alike (hU.kept hS.2.1)
  have hN' : vx_Zq Bundle.tN "SUPPRESSED_SENTINEL" Bundle.listD A s' s'.heap := by rw [hhp]; exact vx_Zq.moved hW0.alike (hN.kept hS.2.1)
  have h : ∀ w ∈ Bundle.ownAtoms0 own ic cls names, w.before args s' = true := vx_own hat' (vx_isRefq hU'.1) (vx_isRefq hN'.1) hU'.2.word hN'.2.word
  have hown' : s'.vm.findClass own = some m.cls := by rw [hvm]; exact hown
  have hins : (Cond.instantiable cls 6).before args s' = true := h _ (by simp [Bundle.ownAtoms0])
  obtain ⟨vm₁, cX, kX, hfX, hkX, -, -, X₁, st1⟩ := Y.newCold hexec (own := own) (C := cls) (index := ik) (n := 6) hown' hk' hins hini'
    (g := F0 m pc ls rest) rfl (by rw [hb]; exact d0) (Nat.le_refl _) (Nat.le_refl _)
  generalize hT1 : (T.setVm vm₁).pushCell { cls := cX, slots := kX.instanceTypes.map defaultValue, vm := .none } = T1 at X₁ st1
  have hcat : (Value.ref T.heap.size).category = 1 := rfl
  have hcellA : T1.heap[T.heap.size]? = some (freshCell cX kX) := by rw [← hT1]; exact State.heap_pushCell_size _ _
  have d3' : decode c.code (pc + 3) = .ok (.dup, 1) := by rw [hb]; exact d3
  obtain ⟨U, hsteps, hrun, hend, hW, hsame, ce, hce, hO⟩ := X₁.ctorThrow0 hexec htr (own := own) (cls := cls) (names := names) (ic := ic) hown' hcls hnames h (fun x hx => nomatch hx) hfX hkX hcellA (by rw [hhp, hT]; exact Nat.le_refl _)
    (g := { method := m, pc := pc + 4, locals := ls, stack := .ref T.heap.size :: .ref T.heap.size :: rest, locked := none }) rfl hsize rfl rfl (rest := rest) rfl
    (by rw [hb]; exact d4) (by rw [hb]; exact d7) hout hRframes (by simp only [List.map_cons, List.sum_cons, hcat]; omega) hlocks
  obtain ⟨f1, f2⟩ := vx_frame hsame
  rw [hhp] at f1 f2
  have hWs : s.WarmedH U.vm := State.WarmedH.trans hW0 hW
  have hcl : s.vm.findClass cls = some ce.cls := by
    have h9 := hO.cls
    rw [hvm] at h9
    exact h9
  have hall : s.sameButNew ({ U with vm := s.vm } : State) locs mc ms := by
    subst hA
    obtain ⟨e1, e2⟩ := hsame
    rw [State.setFrames_setFrames] at e1
    have h2 : (T.setVm s.vm).sameButNew ({ U with vm := s.vm } : State) [] (0 + 1) (0 + 6) := ⟨e1, e2⟩
    have h3 := X.same.trans h2
    rw [List.append_nil] at h3
    exact h3.mono hc hs
  refine ⟨U, ?_, .threw T.heap.size, hrun, hend, Or.inr ⟨T.heap.size, rfl, cls, ce, locs, hx U hWs.alike f1 (fun q hq => f2 q hq (fun z hz => nomatch hz)), hce, hO.vm, hcl, hWs, hall, hf⟩⟩
  refine st1 _ ?_
  show Steps p.tables e below (T1.setTop { method := m, pc := pc + 3, locals := ls, stack := .ref T.heap.size :: rest, locked := none }) _
  jvm_step X₁.here [X₁.here.top, hexec, d3', Value.category]
  exact hsteps
/-- 'throw new E("text")': new; dup; ldc; invokespecial; athrow -/
theorem vx_throwS {cc : ByteArray} {pc : Nat} (hexec : p.tables.exec = Jvm.exec) (hb : c.code = cc) (hl : l.stackTraces = false) {own cls text : String} {names : List String} {ik is ic mc ms sa : Nat} {A : Nat → Prop}
    (hown : s.vm.findClass own = some m.cls) (hcls : Bundle.fit cls = true) (hnames : ∀ n ∈ names, Bundle.fit n = true)
    (hk : (Cond.classLink own ik cls).before args s = true) (hini : (Cond.initialized cls).before args s = true) (hstr : vk_R own is text sa s) (hat : ∀ w ∈ vx_atS own ic cls names, w.before args s = true)
    (hgood : ∀ w ∈ Cond.classLink own ik cls :: Cond.initialized cls :: vx_atS own ic cls names, vx_ot w = true)
    (hU : vx_Zq Bundle.tN "UNASSIGNED_STACK" Bundle.steD A s s.heap) (hN : vx_Zq Bundle.tN "SUPPRESSED_SENTINEL" Bundle.listD A s s.heap) (hS : va_S A s.heap H locs) (hsize : ls.size = c.maxLocals)
    (d0 : decode cc pc = .ok (.new ik, 3)) (d3 : decode cc (pc + 3) = .ok (.dup, 1)) (d4 : decode cc (pc + 4) = .ok (.ldc is, 2)) (d6 : decode cc (pc + 6) = .ok (.invokespecial ic, 3)) (d9 : decode cc (pc + 9) = .ok (.athrow, 1))
    (hout : ∀ x ∈ c.exceptionTable.toList, covers x (pc + 9) = false)
    (hRframes : names.length + 3 < R.frames) (hRlocals : (rest.map fun v => v.category).sum + (13 * (names.length + 1) + 43) ≤ R.locals) (hRcells : cells + 1 ≤ R.cells) (hRslots : slots + 6 ≤ R.slots) (hlocks : meth.locks = false)
    (hx : ∀ t : State, s.vm.Alike t.vm → H.size ≤ t.heap.size → (∀ q : Nat, q < H.size → t.heap[q]? = H[q]?) → XC cls s t)
    (hf : ∀ z ∈ locs, free z.base) (hc : cells + 1 ≤ mc) (hs : slots + 6 ≤ ms) :
    W p l e R s m args below meth c H locs cells slots (vx_MQ below Qc XC args s mc ms free) (F0 m pc ls rest) := by
  intro T hT X
  have htr : e.platform.stackTraces = false := (show e.platform.stackTraces = l.stackTraces by rw [X.admits.platform]).trans hl
  have Y := vx_rebase X (R' := { frames := R.frames, locals := R.locals, cells := 1, slots := 6 }) (Nat.le_refl _) (Nat.le_refl _) hRcells hRslots
  obtain ⟨s', hA⟩ : ∃ z, z = (T.setVm s.vm).setFrames (.invoking m args :: below) := ⟨_, rfl⟩
  rw [← hA] at Y
  have hvm : s'.vm = s.vm := by rw [hA]; rfl
  have hhp : s'.heap = H := by rw [hA]; exact hT
  have hW0 : s.WarmedH s'.vm := by rw [hvm]; exact State.WarmedH.refl s
  have hat' : ∀ w ∈ vx_atS own ic cls names, w.before args s' = true := fun w hw => vx_ot_at hW0 hvm.symm (hgood w (List.mem_cons_of_mem _ (List.mem_cons_of_mem _ hw))) (hat w hw)
  have hk' : (Cond.classLink own ik cls).before args s' = true := vx_ot_at hW0 hvm.symm (hgood _ List.mem_cons_self) hk
  have hini' : (Cond.initialized cls).before args s' = true := vx_ot_at hW0 hvm.symm (hgood _ (List.mem_cons_of_mem _ List.mem_cons_self)) hini
  have hU' : vx_Zq Bundle.tN "UNASSIGNED_STACK" Bundle.steD A s' s'.heap := by rw [hhp]; exact vx_Zq.moved hW0.alike (hU.kept hS.2.1)
  have hN' : vx_Zq Bundle.tN "SUPPRESSED_SENTINEL" Bundle.listD A s' s'.heap := by rw [hhp]; exact vx_Zq.moved hW0.alike (hN.kept hS.2.1)
  have h : ∀ w ∈ Bundle.ownAtoms own ic cls names, w.before args s' = true := vx_own hat' (vx_isRefq hU'.1) (vx_isRefq hN'.1) hU'.2.word hN'.2.word
  have hown' : s'.vm.findClass own = some m.cls := by rw [hvm]; exact hown
  have hins : (Cond.instantiable cls 6).before args s' = true := h _ (by simp [Bundle.ownAtoms])
  obtain ⟨vm₁, cX, kX, hfX, hkX, -, -, X₁, st1⟩ := Y.newCold hexec (own := own) (C := cls) (index := ik) (n := 6) hown' hk' hins hini'
    (g := F0 m pc ls rest) rfl (by rw [hb]; exact d0) (Nat.le_refl _) (Nat.le_refl _)
  generalize hT1 : (T.setVm vm₁).pushCell { cls := cX, slots := kX.instanceTypes.map defaultValue, vm := .none } = T1 at X₁ st1
  have hcat : (Value.ref T.heap.size).category = 1 := rfl
  have hcellA : T1.heap[T.heap.size]? = some (freshCell cX kX) := by rw [← hT1]; exact State.heap_pushCell_size _ _
  have d3' : decode c.code (pc + 3) = .ok (.dup, 1) := by rw [hb]; exact d3
  have d4' : decode c.code (pc + 4) = .ok (.ldc is, 2) := by rw [hb]; exact d4
  have hstr' : vk_R own is text sa s' := vk_R.warm hW0 hstr
  obtain ⟨U, hsteps, hrun, hend, hW, hsame, ce, hce, hO⟩ := X₁.ctorThrowS hexec htr (own := own) (cls := cls) (names := names) (ic := ic) hown' hcls hnames h (fun x hx => nomatch hx) hfX hkX hcellA (by rw [hhp, hT]; exact Nat.le_refl _) (msg := .ref sa) rfl
    (g := { method := m, pc := pc + 6, locals := ls, stack := .ref sa :: .ref T.heap.size :: .ref T.heap.size :: rest, locked := none }) rfl hsize rfl rfl (rest := rest) rfl
    (by rw [hb]; exact d6) (by rw [hb]; exact d9) hout hRframes (by simp only [List.map_cons, List.sum_cons, hcat]; omega) hlocks
  obtain ⟨f1, f2⟩ := vx_frame hsame
  rw [hhp] at f1 f2
  have hWs : s.WarmedH U.vm := State.WarmedH.trans hW0 hW
  have hcl : s.vm.findClass cls = some ce.cls := by
    have h9 := hO.cls
    rw [hvm] at h9
    exact h9
  have hall : s.sameButNew ({ U with vm := s.vm } : State) locs mc ms := by
    subst hA
    obtain ⟨e1, e2⟩ := hsame
    rw [State.setFrames_setFrames] at e1
    have h2 : (T.setVm s.vm).sameButNew ({ U with vm := s.vm } : State) [] (0 + 1) (0 + 6) := ⟨e1, e2⟩
    have h3 := X.same.trans h2
    rw [List.append_nil] at h3
    exact h3.mono hc hs
  refine ⟨U, ?_, .threw T.heap.size, hrun, hend, Or.inr ⟨T.heap.size, rfl, cls, ce, locs, hx U hWs.alike f1 (fun q hq => f2 q hq (fun z hz => nomatch hz)), hce, hO.vm, hcl, hWs, hall, hf⟩⟩
  refine st1 _ ?_
  show Steps p.tables e below (T1.setTop { method := m, pc := pc + 3, locals := ls, stack := .ref T.heap.size :: rest, locked := none }) _
  jvm_step X₁.here [X₁.here.top, hexec, d3', Value.category]
  exact X₁.ldcString hexec (own := own) (text := text) (index := is) (a := sa) hown' hstr'.1 hstr'.2
    (g := { method := m, pc := pc + 4, locals := ls, stack := .ref T.heap.size :: .ref T.heap.size :: rest, locked := none }) rfl d4' _ hsteps
/-- 'throw new E("text")', the text by a wide index -/
theorem vx_throwSW {cc : ByteArray} {pc : Nat} (hexec : p.tables.exec = Jvm.exec) (hb : c.code = cc) (hl : l.stackTraces = false) {own cls text : String} {names : List String} {ik is ic mc ms sa : Nat} {A : Nat → Prop}
    (hown : s.vm.findClass own = some m.cls) (hcls : Bundle.fit cls = true) (hnames : ∀ n ∈ names, Bundle.fit n = true)
    (hk : (Cond.classLink own ik cls).before args s = true) (hini : (Cond.initialized cls).before args s = true) (hstr : vk_R own is text sa s) (hat : ∀ w ∈ vx_atS own ic cls names, w.before args s = true)
    (hgood : ∀ w ∈ Cond.classLink own ik cls :: Cond.initialized cls :: vx_atS own ic cls names, vx_ot w = true)
    (hU : vx_Zq Bundle.tN "UNASSIGNED_STACK" Bundle.steD A s s.heap) (hN : vx_Zq Bundle.tN "SUPPRESSED_SENTINEL" Bundle.listD A s s.heap) (hS : va_S A s.heap H locs) (hsize : ls.size = c.maxLocals)
    (d0 : decode cc pc = .ok (.new ik, 3)) (d3 : decode cc (pc + 3) = .ok (.dup, 1)) (d4 : decode cc (pc + 4) = .ok (.ldc_w is, 3)) (d7 : decode cc (pc + 7) = .ok (.invokespecial ic, 3)) (d10 : decode cc (pc + 10) = .ok (.athrow, 1))
    (hout : ∀ x ∈ c.exceptionTable.toList, covers x (pc + 10) = false)
    (hRframes : names.length + 3 < R.frames) (hRlocals : (rest.map fun v => v.category).sum + (13 * (names.length + 1) + 43) ≤ R.locals) (hRcells : cells + 1 ≤ R.cells) (hRslots : slots + 6 ≤ R.slots) (hlocks : meth.locks = false)
    (hx : ∀ t : State, s.vm.Alike t.vm → H.size ≤ t.heap.size → (∀ q : Nat, q < H.size → t.heap[q]? = H[q]?) → XC cls s t)
    (hf : ∀ z ∈ locs, free z.base) (hc : cells + 1 ≤ mc) (hs : slots + 6 ≤ ms) :
    W p l e R s m args below meth c H locs cells slots (vx_MQ below Qc XC args s mc ms free) (F0 m pc ls rest) := by
  intro T hT X
  have htr : e.platform.stackTraces = false := (show e.platform.stackTraces = l.stackTraces by rw [X.admits.platform]).trans hl
  have Y := vx_rebase X (R' := { frames := R.frames, locals := R.locals, cells := 1, slots := 6 }) (Nat.le_refl _) (Nat.le_refl _) hRcells hRslots
  obtain ⟨s', hA⟩ : ∃ z, z = (T.setVm s.vm).setFrames (.invoking m args :: below) := ⟨_, rfl⟩
  rw [← hA] at Y
  have hvm : s'.vm = s.vm := by rw [hA]; rfl
  have hhp : s'.heap = H := by rw [hA]; exact hT
  have hW0 : s.WarmedH s'.vm := by rw [hvm]; exact State.WarmedH.refl s
  have hat' : ∀ w ∈ vx_atS own ic cls names, w.before args s' = true := fun w hw => vx_ot_at hW0 hvm.symm (hgood w (List.mem_cons_of_mem _ (List.mem_cons_of_mem _ hw))) (hat w hw)
  have hk' : (Cond.classLink own ik cls).before args s' = true := vx_ot_at hW0 hvm.symm (hgood _ List.mem_cons_self) hk
  have hini' : (Cond.initialized cls).before args s' = true := vx_ot_at hW0 hvm.symm (hgood _ (List.mem_cons_of_mem _ List.mem_cons_self)) hini
  have hU' : vx_Zq Bundle.tN "UNASSIGNED_STACK" Bundle.steD A s' s'.heap := by rw [hhp]; exact vx_Zq.moved hW0.alike (hU.kept hS.2.1)
  have hN' : vx_Zq Bundle.tN "SUPPRESSED_SENTINEL" Bundle.listD A s' s'.heap := by rw [hhp]; exact vx_Zq.moved hW0.alike (hN.kept hS.2.1)
  have h : ∀ w ∈ Bundle.ownAtoms own ic cls names, w.before args s' = true := vx_own hat' (vx_isRefq hU'.1) (vx_isRefq hN'.1) hU'.2.word hN'.2.word
  have hown' : s'.vm.findClass own = some m.cls := by rw [hvm]; exact hown
  have hins : (Cond.instantiable cls 6).before args s' = true := h _ (by simp [Bundle.ownAtoms])
  obtain ⟨vm₁, cX, kX, hfX, hkX, -, -, X₁, st1⟩ := Y.newCold hexec (own := own) (C := cls) (index := ik) (n := 6) hown' hk' hins hini'
    (g := F0 m pc ls rest) rfl (by rw [hb]; exact d0) (Nat.le_refl _) (Nat.le_refl _)
  generalize hT1 : (T.setVm vm₁).pushCell { cls := cX, slots := kX.instanceTypes.map defaultValue, vm := .none } = T1 at X₁ st1
  have hcat : (Value.ref T.heap.size).category = 1 := rfl
  have hcellA : T1.heap[T.heap.size]? = some (freshCell cX kX) := by rw [← hT1]; exact State.heap_pushCell_size _ _
  have d3' : decode c.code (pc + 3) = .ok (.dup, 1) := by rw [hb]; exact d3
  have d4' : decode c.code (pc + 4) = .ok (.ldc_w is, 3) := by rw [hb]; exact d4
  have hstr' : vk_R own is text sa s' := vk_R.warm hW0 hstr
  obtain ⟨U, hsteps, hrun, hend, hW, hsame, ce, hce, hO⟩ := X₁.ctorThrowS hexec htr (own := own) (cls := cls) (names := names) (ic := ic) hown' hcls hnames h (fun x hx => nomatch hx) hfX hkX hcellA (by rw [hhp, hT]; exact Nat.le_refl _) (msg := .ref sa) rfl
    (g := { method := m, pc := pc + 7, locals := ls, stack := .ref sa :: .ref T.heap.size :: .ref T.heap.size :: rest, locked := none }) rfl hsize rfl rfl (rest := rest) rfl
    (by rw [hb]; exact d7) (by rw [hb]; exact d10) hout hRframes (by simp only [List.map_cons, List.sum_cons, hcat]; omega) hlocks
  obtain ⟨f1, f2⟩ := vx_frame hsame
  rw [hhp] at f1 f2
  have hWs : s.WarmedH U.vm := State.WarmedH.trans hW0 hW
  have hcl : s.vm.findClass cls = some ce.cls := by
    have h9 := hO.cls
    rw [hvm] at h9
    exact h9
  have hall : s.sameButNew ({ U with vm := s.vm } : State) locs mc ms := by
    subst hA
    obtain ⟨e1, e2⟩ := hsame
    rw [State.setFrames_setFrames] at e1
    have h2 : (T.setVm s.vm).sameButNew ({ U with vm := s.vm } : State) [] (0 + 1) (0 + 6) := ⟨e1, e2⟩
    have h3 := X.same.trans h2
    rw [List.append_nil] at h3
    exact h3.mono hc hs
  refine ⟨U, ?_, .threw T.heap.size, hrun, hend, Or.inr ⟨T.heap.size, rfl, cls, ce, locs, hx U hWs.alike f1 (fun q hq => f2 q hq (fun z hz => nomatch hz)), hce, hO.vm, hcl, hWs, hall, hf⟩⟩
  refine st1 _ ?_
  show Steps p.tables e below (T1.setTop { method := m, pc := pc + 3, locals := ls, stack := .ref T.heap.size :: rest, locked := none }) _
  jvm_step X₁.here [X₁.here.top, hexec, d3', Value.category]
  exact X₁.ldcStringW hexec (own := own) (text := text) (index := is) (a := sa) hown' hstr'.1 hstr'.2
    (g := { method := m, pc := pc + 4, locals := ls, stack := .ref T.heap.size :: .ref T.heap.size :: rest, locked := none }) rfl d4' _ hsteps
end Ends
section Bodies
variable {l : Launch}
theorem vx_ofW {y : MethodName} {ws ws' : List Cond} {rm : Room} {Pc : Array Value → State → Prop} {Qc : Array Value → State → Outcome → State → Prop} {XC : String → State → State → Prop} {mc ms : Nat} {free : Addr → Prop} {cc : ByteArray} {maxL : Nat} {ret : Option FieldType}
    (hy : plainName y.cls = true) (hw : ws = Cond.code y cc maxL ret :: ws')
    (body : ∀ p e s m args below meth c s₁, BodyLoose p l y (headSpec ws rm) cc maxL ret e s m args below meth c s₁ → c.maxLocals = maxL → (∀ x ∈ c.exceptionTable.toList, False) → Pc args s →
      W p l e (headSpec ws rm).room s m args below meth c s.heap [] 0 0 (vx_MQ below Qc XC args s mc ms free) (entryFrame m args maxL)) : vx_Met l y ws rm Pc Qc XC mc ms free := by
  refine MetFree.of_bodyS (code := cc) (maxLocals := maxL) (ret := ret) hy ?_ ?_
  · intro args s m h hn
    obtain ⟨meth, c, h1, h2, h3, h4, h5, h6, -, -⟩ := Cond.code_spec hn (atoms_spec (ws := ws) h _ (by rw [hw]; exact List.mem_cons_self))
    exact ⟨meth, c, h1, h2, h3, h4, h5, h6⟩
  · intro p e s m args below meth c s₁ B hml hP _
    have hh0 : s₁.heap = s.heap := by rw [B.state]; rfl
    have ht : ∀ x ∈ c.exceptionTable.toList, False := by
      obtain ⟨meth9, c9, h1, h2, -, -, -, -, h7, -⟩ := Cond.code_spec B.named (atoms_spec (ws := ws) B.pre _ (by rw [hw]; exact List.mem_cons_self))
      cases Option.some.inj (h1.symm.trans B.method)
      cases Option.some.inj (h2.symm.trans (Stand.of_body B).code)
      intro x hx
      rw [Array.isEmpty_iff.mp h7] at hx
      cases hx
    obtain ⟨t, a1, o, b1, b2, b3⟩ := body p e s m args below meth c s₁ B hml ht hP s₁ hh0 (Stand.of_body B)
    exact ⟨t, o, a1, b1, b2, b3⟩
/-- the table of a body with handlers -/
theorem vx_table {p : Program} {x y : MethodName} {S : Spec} {cc bytes : ByteArray} {maxL maxL' : Nat} {ret ret' : Option FieldType} {e : Env} {s s₁ : State} {m : MethodId} {args : Array Value} {below : List Frame} {meth : Method} {c : Code} {hh : List (Nat × Nat × Nat × Nat)}
    (B : BodyLoose p l y S cc maxL ret e s m args below meth c s₁) (h : (Cond.codeWith y bytes maxL' ret' hh).before args s = true) : c.exceptionTable.toList = tableOf hh := by
  obtain ⟨m9, meth9, c9, hn9, h1, h2, -, -, h6, -⟩ := Cond.codeWith_spec h
  cases Option.some.inj (hn9.symm.trans B.named)
  cases Option.some.inj (h1.symm.trans B.method)
  cases Option.some.inj (h2.symm.trans (Stand.of_body B).code)
  rw [← h6, table_eq]
end Bodies
end VXA
/-! ===== END ===== -/
/-! ===== BEGIN a static call of a method with an exception table ===== -/
section VXS
variable {p : Program} {l : Launch} {e : Env} {R : Room} {s : State} {m : MethodId} {args : Array Value} {below : List Frame} {meth : Method} {c : Code} {T : State} {H : Heap} {locs : List Loc} {cells slots : Nat}
abbrev vx_CSW (R : Room) (s : State) (args : Array Value) (own : String) (index : Nat) (y : MethodName) (bytes : ByteArray) (maxL : Nat) (ret : Option FieldType) (hh : List (Nat × Nat × Nat × Nat)) (ws : List Cond) (rm : Room) (mc ms n : Nat) : Prop :=
  (rm.cells = mc ∧ rm.slots = ms ∧ rm.frames + 1 ≤ R.frames ∧ 8 + (maxL + 11) + rm.locals ≤ R.locals ∧ (∀ w ∈ ws, ∀ (a' : Array Value) (U : State), s.WarmedH U.vm → w.before a' U = true) ∧ Cond.codeWith y bytes maxL ret hh ∈ ws) ∧
  (Cond.codeWith y bytes maxL ret hh).before args s = true ∧ (Cond.initialized y.cls).before args s = true ∧ (y.cls ≠ "java/lang/invoke/MethodHandle" ∧ y.cls ≠ "java/lang/invoke/VarHandle") ∧
  (∀ sig, parseMethodDescriptor y.desc = some sig → n = sig.parameters.length) ∧ (Cond.methodLink own index y).before args s = true ∧ (Cond.static y).before args s = true
theorem vx_cwSW {own : String} {index maxL mc ms : Nat} {y : MethodName} {bytes : ByteArray} {ret : Option FieldType} {hh : List (Nat × Nat × Nat × Nat)} {Ts ws ws' : List Cond} {rm : Room} (n : Nat) (ht : ∀ w ∈ Ts, w.before args s = true) (hT : GoodIn Ts (va_wsS own index y ws)) (hw : ws = Cond.codeWith y bytes maxL ret hh :: ws') (hrc : rm.cells = mc) (hrs : rm.slots = ms)
    (hd : y.cls ≠ "java/lang/invoke/MethodHandle" ∧ y.cls ≠ "java/lang/invoke/VarHandle" ∧ (parseMethodDescriptor y.desc).map (fun d => d.parameters.length) = some n) (hR : rm.frames + 1 ≤ R.frames ∧ 8 + (maxL + 11) + rm.locals ≤ R.locals) :
    vx_CSW R s args own index y bytes maxL ret hh ws rm mc ms n := by
  have ok : ∀ w ∈ va_wsS own index y ws, w.before args s = true := fun w h => ht w (hT w h).1
  have hG : GoodIn Ts ws := fun w h => hT w (by unfold va_wsS; exact List.mem_append_right _ h)
  have hc : Cond.codeWith y bytes maxL ret hh ∈ ws := by rw [hw]; exact List.mem_cons_self
  refine ⟨⟨hrc, hrs, hR.1, hR.2, pay_in ht hG, hc⟩, ht _ (hG _ hc).1, ok _ (by simp [va_wsS]), ⟨hd.1, hd.2.1⟩, fun sig h => ?_, ok _ (by simp [va_wsS]), ok _ (by simp [va_wsS])⟩
  have h2 := hd.2.2
  rw [h] at h2
  exact (Option.some.inj h2).symm
theorem vx_callSW (X : Stand p l e R s m args below meth c T locs cells slots) (hexec : p.tables.exec = Jvm.exec) {own : String} {index : Nat} {y : MethodName} {bytes : ByteArray} {maxL : Nat} {ret : Option FieldType} {hh : List (Nat × Nat × Nat × Nat)}
    (hown : s.vm.findClass own = some m.cls) (hlink : (Cond.methodLink own index y).before args s = true) (hstat : (Cond.static y).before args s = true) (hinit : (Cond.initialized y.cls).before args s = true)
    (hcode : (Cond.codeWith y bytes maxL ret hh).before args s = true) (hy : y.cls ≠ "java/lang/invoke/MethodHandle" ∧ y.cls ≠ "java/lang/invoke/VarHandle")
    {W9 : Nat} {Pre : Pt → Array Value → Prop} {Post : Pt → Array Value → Option Value → Pt → Prop} (hK : Back l R p e below s args y 3 W9 Pre Post)
    {g : JFrame} (hg : g.method = m) (hsize : g.locals.size = c.maxLocals) {argsL rest : List Value} (hlen : ∀ sig, parseMethodDescriptor y.desc = some sig → argsL.length = sig.parameters.length)
    (hstack : g.stack = argsL.reverse ++ rest) (hW : 2 * g.monitorRoom + (rest.map fun v => v.category).sum ≤ W9) (hdg : decode c.code g.pc = .ok (.invokestatic index, 3))
    (hpre : ∀ vm₁, s.WarmedH vm₁ → Pre ⟨T.setVm vm₁, locs, cells, slots⟩ argsL.toArray) :
    ∃ (v : Option Value) (vm₁ : Vm) (B : Pt), s.WarmedH vm₁ ∧ Stand p l e R s m args below meth c B.U B.locs B.cells B.slots ∧ Post ⟨T.setVm vm₁, locs, cells, slots⟩ argsL.toArray v B ∧
      ∀ target, Steps p.tables e below (B.U.setTop { g with pc := g.pc + 3, stack := v.toList ++ rest }) target → Steps p.tables e below (T.setTop g) target := by
  obtain ⟨mk, methM, cM, hnamed, hmethM, -, -, -, -, -, -, hsigM⟩ := Cond.codeWith_spec hcode
  have hstatic : methM.isStatic = true := Cond.static_spec hnamed hmethM hstat
  obtain ⟨kP, hkP, -⟩ := className_of_methodNamed hnamed
  have hinitP : kP.init = .initialized := Cond.initialized_spec (findClass_of_methodNamed hnamed) hkP hinit
  obtain ⟨vm₁, X₁, hstep₁⟩ := X.invokestatic hexec hown hlink hnamed hmethM hstatic hkP hinitP hy (g := g) hg (argsL := argsL) (rest := rest) (hlen _ hsigM) hstack hdg
  obtain ⟨v, B, X', hpost, hsteps⟩ := hK m meth c ⟨T.setVm vm₁, locs, cells, slots⟩ { g with stack := rest } (.invokestatic index) mk argsL.toArray X₁ hg hsize hdg hW (X₁.named hnamed) (hpre vm₁ X₁.warmed)
  exact ⟨v, vm₁, B, X₁.warmed, X', hpost, fun target h => hstep₁ _ fun acts => by rw [doInvoke_state]; exact hsteps.trans h⟩
theorem vx_runSW {y : MethodName} {bytes cc : ByteArray} {maxL nL mc ms n index : Nat} {ret : Option FieldType} {hh : List (Nat × Nat × Nat × Nat)} {ws : List Cond} {rm : Room} {Pc : Array Value → State → Prop} {Qc : Array Value → State → Outcome → State → Prop} {free : Addr → Prop} {Ts : List Cond} {own : String} {As rest : List Value} {g : JFrame}
    (S : CallFix p m c cc nL s args Ts own) (hM : Met l y ws rm Pc Qc mc ms free) (cw : vx_CSW R s args own index y bytes maxL ret hh ws rm mc ms n) (hp : PreS s H Pc As)
    (hg : g.method = m) (hn : As.length = n) (hsize : g.locals.size = nL) (hstack : g.stack = As.reverse ++ rest) (hW : 2 * g.monitorRoom + (rest.map fun v => v.category).sum ≤ 8) (hdg : decode cc g.pc = .ok (.invokestatic index, 3)) (hf : cells + mc ≤ R.cells ∧ slots + ms ≤ R.slots) :
    va_Run p l e R s m args below meth c H locs cells slots mc ms g rest (Qc As.toArray) (free) := by
  obtain ⟨⟨hrc, hrs, hfr, hlo, hws, hcw⟩, hcode, hini, hy, hlen, hl, hstt⟩ := cw
  have hK : Back l R p e below s args y 3 8 (PreOf R mc ms Pc) (PostOf Qc mc ms free) := va_backW (hh := hh) (bytes := bytes) (maxL := maxL) (ret := ret) hM hp.1 hrc hrs hfr hlo hws hcw (fun a' U hW => word_at hW (Or.inl (by first | rfl | simp [Cond.onTables, Cond.keeps, Cond.steady])) hini)
  obtain ⟨hx, hb, hml, ho, -⟩ := S
  intro T hT X
  obtain ⟨v, vm₁, ⟨U', l2, c2, s2⟩, hW₁, X', ⟨g', mk, t, L, e1, e2, hq, h1, hL, h2, h3⟩, st⟩ := vx_callSW X hx (hh := hh) (bytes := bytes) (maxL := maxL) (ret := ret) ho hl hstt hini hcode hy hK hg (hsize.trans hml.symm) (argsL := As) (rest := rest) (fun sig h => hn.trans (hlen sig h)) hstack hW (by rw [hb]; exact hdg)
    (fun vm₁ hW₁ => ⟨hf.1, hf.2, hp.2 (T.setVm vm₁) hT hW₁⟩)
  dsimp only [Pt.U, Pt.locs, Pt.cells, Pt.slots] at X' e1 e2 h1 h2 h3 st
  subst h1; subst h2; subst h3
  exact ⟨v, (T.setVm vm₁).calling g' mk As.toArray, t, U', L, hT, X', hL, e1, e2, hq, st⟩
/-- not caught here, past rows that name other classes: it goes on to the caller -/
theorem vx_outP {p : Program} {l : Launch} {e : Env} {R : Room} {s : State} {m : MethodId} {args : Array Value} {below : List Frame} {meth : Method} {c : Code} {H : Heap} {locs : List Loc} {cells slots : Nat} {free : Addr → Prop} {ls : Array Slot} {rest : List Value} {Qc : Array Value → State → Outcome → State → Prop} {XC : String → State → State → Prop}
    {pc : Nat} {own E : String} {ce : Cell} {q : Addr} {mc ms : Nat} (hown : s.vm.findClass own = some m.cls) (hlocks : meth.locks = false)
    (hpass : ∀ z ∈ c.exceptionTable.toList, covers z pc = false ∨ (z.catchType ≠ 0 ∧ ∃ nm : String, (Cond.classLink own z.catchType nm).before args s = true ∧ va_Nc E nm s)) (hcell : H[q]? = some ce) (hv : ce.vm = .none) (hcl : s.vm.findClass E = some ce.cls)
    (hx : ∀ t : State, t.heap = H → s.vm.Alike t.vm → XC E s t) (hf : ∀ z ∈ locs, free z.base) (hc : cells ≤ mc) (hs : slots ≤ ms) :
    vx_W p l e R s m args below meth c H locs cells slots (vx_MQ below Qc XC args s mc ms free) (F0 m pc ls rest) q := by
  intro T hT X
  have hpl : e.platform.magicAccessors = ({} : Platform).magicAccessors := by rw [X.admits.platform]
  obtain ⟨vm', hW', X', st⟩ := X.outThrough hlocks q (g := F0 m pc ls rest) rfl rfl rfl (cell := ce) (by rw [hT]; exact hcell) (by rw [hv]; rfl)
    (by obtain ⟨k9, h9, -⟩ := Vm.findClass_spec hcl; exact ⟨k9, h9⟩) (fun z hz => by
      rcases hpass z hz with h | ⟨hz0, nm, hl1, hn1⟩
      · exact Or.inl h
      · obtain ⟨c6, hc6, hcl6⟩ := Cond.classLink_spec hown hl1 e.platform hpl
        obtain ⟨a8, b8, h1, h2, h3⟩ := hn1
        cases Option.some.inj (h1.symm.trans hcl)
        cases Option.some.inj (h2.symm.trans hc6)
        exact Or.inr ⟨hz0, _, hcl6, h3⟩)
  obtain ⟨g₀, hfr⟩ := X'.frames_eq
  have hcell9 : ((T.setVm vm').setFrames (.throwing q :: below)).heap[q]? = some ce := by
    show T.heap[q]? = some ce
    rw [hT]; exact hcell
  have hend : Ended ((T.setVm vm').setFrames (.throwing q :: below)) below (.threw q) := State.frames_setFrames _ (State.cur_lt_of_frames hfr)
  refine ⟨(T.setVm vm').setFrames (.throwing q :: below), ?_, .threw q, X'.here.running, hend, Or.inr ⟨q, rfl, E, ce, locs, hx _ hT (X'.ends _).1.alike, hcell9, hv, hcl, (X'.ends _).1, (X'.ends _).2.mono hc hs, hf⟩⟩
  rw [X.pushThrowing_eq]
  exact st
/-- a thing of a world lies in the heap -/
theorem vx_lt {D : va_G} {cl : List vw_C} {ws : va_W} {H1 : Heap} (h : va_P D cl ws H1) {k : Nat} {q : Nat × va_E} (hk : ws[k]? = some q) : q.1 < H1.size := (h k q hk).lt
end VXS
/-! ===== END ===== -/
/-! ===== BEGIN methods with a table of their own: called by a name, returning or throwing ===== -/
section VXH
/-! vx_backW, vx_callVX, vx_callSX, vx_callVW, vx_runVW, vx_runVX, vx_runSX, vx_ofWH follow the same proofs as their sisters above (Free/Laws.lean, Shelf42/LK1.lean); vx_outP calls Shelf42/NT130.lean (outThrough). -/
section
variable {l : Launch} {R : Room} {p : Program} {e : Env} {below : List Frame} {s : State} {sargs : Array Value} {y : MethodName} {len W9 : Nat}
theorem vx_backW {ws : List Cond} {rm : Room} {Pc : Array Value → State → Prop} {Qc : Array Value → State → Outcome → State → Prop} {XC : String → State → State → Prop} {mc ms : Nat} {free : Addr → Prop} {bytes : ByteArray} {maxL : Nat} {ret : Option FieldType} {hh : List (Nat × Nat × Nat × Nat)}
    (hM : vx_Met l y ws rm Pc Qc XC mc ms free) (hblind : FrameBlind Pc) (hrc : rm.cells = mc) (hrs : rm.slots = ms)
    (hframes : rm.frames + 1 ≤ R.frames) (hlocals : W9 + (maxL + 11) + rm.locals ≤ R.locals)
    (hws : ∀ w ∈ ws, ∀ a' U, s.WarmedH U.vm → w.before a' U = true) (hcode : Cond.codeWith y bytes maxL ret hh ∈ ws) (hinit : ∀ a' U, s.WarmedH U.vm → (Cond.initialized y.cls).before a' U = true) :
    vx_Back l R p e below s sargs y len W9 (PreOf R mc ms Pc) (PostOf Qc mc ms free) (vx_Post XC mc ms free) := by
  intro m meth c A g ig mk a X hg hsize hdg hW hn hp
  have h1 : (headSpec ws rm).pre.before a A.U = true := atoms_intro fun w hw => hws w hw _ _ X.warmed
  have h2 : (Cond.codeWith y bytes maxL ret hh).before a A.U = true := hws _ hcode _ _ X.warmed
  have h3 : (Cond.initialized y.cls).before a A.U = true := hinit _ _ X.warmed
  have h4 : A.cells + (headSpec ws rm).room.cells ≤ R.cells := by rw [show (headSpec ws rm).room.cells = mc from hrc]; exact hp.1
  have h5 : A.slots + (headSpec ws rm).room.slots ≤ R.slots := by rw [show (headSpec ws rm).room.slots = ms from hrs]; exact hp.2.1
  have hPc : Pc a (A.U.calling g mk a) := hblind _ _ _ _ hp.2.2
  obtain ⟨U, Ls, c0, s0⟩ := A
  dsimp only [Pt.U, Pt.locs, Pt.cells, Pt.slots] at h1 h2 h3 h4 h5 X hn hPc ⊢
  obtain ⟨m9, methY, cY, hn9, hmY, hcY, -, hlY, -⟩ := Cond.codeWith_spec h2
  cases Option.some.inj (hn9.symm.trans hn)
  obtain ⟨kY, hkY, -⟩ := className_of_methodNamed hn
  have hinitY : kY.init = .initialized := Cond.initialized_spec (findClass_of_methodNamed hn) hkY h3
  have h : At U g.method c below := by rw [hg]; exact X.here
  have hlocals9 : W9 + (maxL + 11) + (headSpec ws rm).room.locals ≤ R.locals := hlocals
  have happ : (headSpec ws rm).appliesLoose y e.platform (U.calling g mk a) = true :=
    Spec.appliesLoose_calling (g := g) h hdg hn hkY hinitY
      (X.room_calling (g := g) (R' := (headSpec ws rm).room) hsize hmY hcY hframes (by rw [hlY]; omega) h4 h5) h1
  obtain ⟨mid, hmid⟩ := h.above
  have hfr : (U.setTop g).frames = (.java g :: mid) ++ below := by rw [State.frames_setTop' g h.top, hmid]; rfl
  obtain ⟨o, s₂, hsteps, -, hend, hq⟩ := Steps.callFree hM p X.admits X.cas X.clock (acts := []) hfr happ hPc trivial
  have hq' : vx_Q Qc XC mc ms free a (U.calling g mk a) o s₂ := hq
  rw [State.frames_setTop' g h.top] at hend
  obtain ⟨g₀, hg0⟩ := Option.isSome_iff_exists.mp h.top
  obtain ⟨r, hr⟩ := State.topJava?_eq_some.mp hg0
  have hr' : (({ U with heap := s₂.heap, slotsUsed := s₂.slotsUsed } : State).setVm s₂.vm).frames = .java g₀ :: r := hr
  rcases hq' with ⟨hqc, L, hfe, hL⟩ | ⟨q, rfl, E, ce, L, hx, hce, hcv, hcl, hW₂, hsm, hL⟩
  · obtain ⟨⟨v, rfl⟩, hW₂, e2, q2, q3, q4, q5, q6⟩ := id hfe
    have e3 : s₂ = ({ (U.calling g mk a).setFrames s₂.frames with heap := s₂.heap, slotsUsed := s₂.slotsUsed } : State).setVm s₂.vm := by
      have : s₂ = ({ s₂ with vm := (U.calling g mk a).vm } : State).setVm s₂.vm := rfl
      rw [e2] at this
      exact this
    obtain ⟨c₂, i₂, len₂, hc₂, hd₂, hf₂⟩ := hend
    have hW' : U.WarmedH s₂.vm := hW₂
    have hcc : c₂ = c := by
      have h1 : s₂.code? g.method = U.code? g.method := by
        rw [State.code?_eq, State.code?_eq, hW'.alike.method?]
      exact Option.some.inj (hc₂.symm.trans (h1.trans h.code))
    subst hcc
    have hlen : len₂ = len := by rw [hdg] at hd₂; cases hd₂; rfl
    subst hlen
    have hs₂ : s₂ = (({ U with heap := s₂.heap, slotsUsed := s₂.slotsUsed } : State).setVm s₂.vm).setTop { g with pc := g.pc + len₂, stack := v.toList ++ g.stack } := by
      refine e3.trans ?_
      rw [hf₂, State.calling_eq h.top, State.setFrames_setFrames, State.setTop_of_frames _ hr', hr]
      rfl
    have hsame : U.sameButNew ({ U with heap := s₂.heap, slotsUsed := s₂.slotsUsed } : State) L mc ms := by
      refine ⟨?_, q2, q3, q4, q5, q6⟩
      obtain ⟨t, ht, -⟩ := State.frames_cons hr
      show ({ U with heap := s₂.heap, slotsUsed := s₂.slotsUsed } : State) = { U.setFrames U.frames with heap := s₂.heap, slotsUsed := s₂.slotsUsed }
      rw [State.setFrames_self ht]
    subst hg
    refine Or.inl ⟨v, ⟨(({ U with heap := s₂.heap, slotsUsed := s₂.slotsUsed } : State).setVm s₂.vm), Ls ++ L, c0 + mc, s0 + ms⟩,
      ⟨X.admits, X.cas, X.clock, X.frames, X.room, X.hears, X.method, X.code, (X.here.setHeapUsed s₂.heap s₂.slotsUsed).setVm hW'.alike, X.tail, State.WarmedH.trans X.warmed hW', X.limits, X.bytes, X.same.trans (hsame.setVm s.vm)⟩,
      ⟨g, mk, s₂, L, rfl, rfl, hqc, rfl, hL, rfl, rfl⟩, ?_⟩
    show Steps p.tables e below _ ((({ U with heap := s₂.heap, slotsUsed := s₂.slotsUsed } : State).setVm s₂.vm).setTop { g with pc := g.pc + len₂, stack := v.toList ++ g.stack })
    rw [← hs₂]
    exact hsteps
  · obtain ⟨e2, q2, q3, q4, q5, q6⟩ := id hsm
    have e3 : s₂ = ({ (U.calling g mk a).setFrames s₂.frames with heap := s₂.heap, slotsUsed := s₂.slotsUsed } : State).setVm s₂.vm := by
      have : s₂ = ({ s₂ with vm := (U.calling g mk a).vm } : State).setVm s₂.vm := rfl
      rw [e2] at this
      exact this
    have hf₂ : s₂.frames = .throwing q :: .java g :: U.frames.tail := hend
    have hW' : U.WarmedH s₂.vm := hW₂
    have hs₂ : s₂ = ((({ U with heap := s₂.heap, slotsUsed := s₂.slotsUsed } : State).setVm s₂.vm).setTop g).pushFrame (.throwing q) := by
      refine e3.trans ?_
      rw [hf₂, State.calling_eq h.top, State.setFrames_setFrames, State.pushFrame, State.frames_setTop _ hr', State.setTop_of_frames _ hr', State.setFrames_setFrames, hr]
      rfl
    have hsame : U.sameButNew ({ U with heap := s₂.heap, slotsUsed := s₂.slotsUsed } : State) L mc ms := by
      refine ⟨?_, q2, q3, q4, q5, q6⟩
      obtain ⟨t, ht, -⟩ := State.frames_cons hr
      show ({ U with heap := s₂.heap, slotsUsed := s₂.slotsUsed } : State) = { U.setFrames U.frames with heap := s₂.heap, slotsUsed := s₂.slotsUsed }
      rw [State.setFrames_self ht]
    subst hg
    refine Or.inr ⟨q, ⟨(({ U with heap := s₂.heap, slotsUsed := s₂.slotsUsed } : State).setVm s₂.vm), Ls ++ L, c0 + mc, s0 + ms⟩,
      ⟨X.admits, X.cas, X.clock, X.frames, X.room, X.hears, X.method, X.code, (X.here.setHeapUsed s₂.heap s₂.slotsUsed).setVm hW'.alike, X.tail, State.WarmedH.trans X.warmed hW', X.limits, X.bytes, X.same.trans (hsame.setVm s.vm)⟩,
      ⟨g, mk, s₂, L, E, ce, rfl, rfl, hx, hce, hcv, hcl, rfl, hL, rfl, rfl⟩, ?_⟩
    show Steps p.tables e below _ (((({ U with heap := s₂.heap, slotsUsed := s₂.slotsUsed } : State).setVm s₂.vm).setTop g).pushFrame (.throwing q))
    rw [← hs₂]
    exact hsteps
end
variable {p : Program} {l : Launch} {e : Env} {R : Room} {s : State} {m : MethodId} {args : Array Value} {below : List Frame} {meth : Method} {c : Code} {T : State} {H : Heap} {locs : List Loc} {cells slots : Nat}
theorem vx_callVX (X : Stand p l e R s m args below meth c T locs cells slots) (hexec : p.tables.exec = Jvm.exec) {own C : String} {index : Nat} {y : MethodName} {bytes : ByteArray} {maxL : Nat} {ret : Option FieldType} {hh : List (Nat × Nat × Nat × Nat)}
    (hown : s.vm.findClass own = some m.cls) (hlink : (Cond.methodLink own index y).before args s = true) (hinst : (Cond.instanceMethod y).before args s = true) (hsel : (Cond.selects C y y).before args s = true)
    (hcode : (Cond.codeWith y bytes maxL ret hh).before args s = true) (hy : y.cls ≠ "java/lang/invoke/MethodHandle" ∧ y.cls ≠ "java/lang/invoke/VarHandle")
    {W9 : Nat} {Pre : Pt → Array Value → Prop} {Post : Pt → Array Value → Option Value → Pt → Prop} {PostX : Pt → Array Value → Addr → Pt → Prop} (hK : vx_Back l R p e below s args y 3 W9 Pre Post PostX)
    {b : Addr} {cellB : Cell} (hcell : T.heap[b]? = some cellB) (hobj : cellB.vm.isStatics = false) (hcls : s.vm.findClass C = some cellB.cls)
    {g : JFrame} (hg : g.method = m) (hsize : g.locals.size = c.maxLocals) {argsL rest : List Value} (hlen : ∀ sig, parseMethodDescriptor y.desc = some sig → argsL.length = sig.parameters.length)
    (hstack : g.stack = argsL.reverse ++ .ref b :: rest) (hW : 2 * g.monitorRoom + (rest.map fun v => v.category).sum ≤ W9) (hdg : decode c.code g.pc = .ok (.invokevirtual index, 3))
    (hpre : ∀ vm₁, s.WarmedH vm₁ → Pre ⟨T.setVm vm₁, locs, cells, slots⟩ (Value.ref b :: argsL).toArray) :
    (∃ (v : Option Value) (vm₁ : Vm) (B : Pt), s.WarmedH vm₁ ∧ Stand p l e R s m args below meth c B.U B.locs B.cells B.slots ∧ Post ⟨T.setVm vm₁, locs, cells, slots⟩ (Value.ref b :: argsL).toArray v B ∧
      ∀ target, Steps p.tables e below (B.U.setTop { g with pc := g.pc + 3, stack := v.toList ++ rest }) target → Steps p.tables e below (T.setTop g) target) ∨
    (∃ (q : Addr) (vm₁ : Vm) (B : Pt), s.WarmedH vm₁ ∧ Stand p l e R s m args below meth c B.U B.locs B.cells B.slots ∧ PostX ⟨T.setVm vm₁, locs, cells, slots⟩ (Value.ref b :: argsL).toArray q B ∧
      Steps p.tables e below (T.setTop g) ((B.U.setTop { g with stack := rest }).pushFrame (.throwing q))) := by
  obtain ⟨mk, methM, hnamed, hmethM, hstM, habM⟩ := Cond.instanceMethod_spec hinst
  obtain ⟨m8, methM', cM, hn8, hmethM', -, -, -, -, -, -, hsigM⟩ := Cond.codeWith_spec hcode
  cases Option.some.inj (hn8.symm.trans hnamed)
  cases hmethM.symm.trans hmethM'
  obtain ⟨c2, r2, m2, q1, q2, q3, q4, kP, hkP, hkPi⟩ := Cond.selects_spec hsel
  cases hcls.symm.trans q1
  cases (State.methodFound?_of_named hnamed hy).symm.trans q2
  cases hnamed.symm.trans q3
  have hselP : selectMethod e.platform s.vm cellB.cls mk = .method mk := by rw [Launch.admits_selectMethod X.admits]; exact q4
  obtain ⟨vm₁, X₁, hstep₁⟩ := X.invokevirtual hexec hown hlink hnamed hmethM hstM hkP hkPi hy (a := b) (cell := cellB) hcell
    (fun z h => by rw [h] at hobj; cases hobj) hselP hmethM habM hkP hkPi (g := g) hg (argsL := argsL) (rest := rest) (hlen _ hsigM) hstack hdg
  rcases hK m meth c ⟨T.setVm vm₁, locs, cells, slots⟩ { g with stack := rest } (.invokevirtual index) mk (Value.ref b :: argsL).toArray X₁ hg hsize hdg hW (X₁.named hnamed) (hpre vm₁ X₁.warmed) with ⟨v, B, X', hpost, hsteps⟩ | ⟨q, B, X', hpost, hsteps⟩
  · exact Or.inl ⟨v, vm₁, B, X₁.warmed, X', hpost, fun target h => hstep₁ _ fun acts => by rw [doInvoke_state]; exact hsteps.trans h⟩
  · exact Or.inr ⟨q, vm₁, B, X₁.warmed, X', hpost, hstep₁ _ fun acts => by rw [doInvoke_state]; exact hsteps⟩
theorem vx_callSX (X : Stand p l e R s m args below meth c T locs cells slots) (hexec : p.tables.exec = Jvm.exec) {own : String} {index : Nat} {y : MethodName} {bytes : ByteArray} {maxL : Nat} {ret : Option FieldType} {hh : List (Nat × Nat × Nat × Nat)}
    (hown : s.vm.findClass own = some m.cls) (hlink : (Cond.methodLink own index y).before args s = true) (hstat : (Cond.static y).before args s = true) (hinit : (Cond.initialized y.cls).before args s = true)
    (hcode : (Cond.codeWith y bytes maxL ret hh).before args s = true) (hy : y.cls ≠ "java/lang/invoke/MethodHandle" ∧ y.cls ≠ "java/lang/invoke/VarHandle")
    {W9 : Nat} {Pre : Pt → Array Value → Prop} {Post : Pt → Array Value → Option Value → Pt → Prop} {PostX : Pt → Array Value → Addr → Pt → Prop} (hK : vx_Back l R p e below s args y 3 W9 Pre Post PostX)
    {g : JFrame} (hg : g.method = m) (hsize : g.locals.size = c.maxLocals) {argsL rest : List Value} (hlen : ∀ sig, parseMethodDescriptor y.desc = some sig → argsL.length = sig.parameters.length)
    (hstack : g.stack = argsL.reverse ++ rest) (hW : 2 * g.monitorRoom + (rest.map fun v => v.category).sum ≤ W9) (hdg : decode c.code g.pc = .ok (.invokestatic index, 3))
    (hpre : ∀ vm₁, s.WarmedH vm₁ → Pre ⟨T.setVm vm₁, locs, cells, slots⟩ argsL.toArray) :
    (∃ (v : Option Value) (vm₁ : Vm) (B : Pt), s.WarmedH vm₁ ∧ Stand p l e R s m args below meth c B.U B.locs B.cells B.slots ∧ Post ⟨T.setVm vm₁, locs, cells, slots⟩ argsL.toArray v B ∧
      ∀ target, Steps p.tables e below (B.U.setTop { g with pc := g.pc + 3, stack := v.toList ++ rest }) target → Steps p.tables e below (T.setTop g) target) ∨
    (∃ (q : Addr) (vm₁ : Vm) (B : Pt), s.WarmedH vm₁ ∧ Stand p l e R s m args below meth c B.U B.locs B.cells B.slots ∧ PostX ⟨T.setVm vm₁, locs, cells, slots⟩ argsL.toArray q B ∧
      Steps p.tables e below (T.setTop g) ((B.U.setTop { g with stack := rest }).pushFrame (.throwing q))) := by
  obtain ⟨mk, methM, cM, hnamed, hmethM, -, -, -, -, -, -, hsigM⟩ := Cond.codeWith_spec hcode
  have hstatic : methM.isStatic = true := Cond.static_spec hnamed hmethM hstat
  obtain ⟨kP, hkP, -⟩ := className_of_methodNamed hnamed
  have hinitP : kP.init = .initialized := Cond.initialized_spec (findClass_of_methodNamed hnamed) hkP hinit
  obtain ⟨vm₁, X₁, hstep₁⟩ := X.invokestatic hexec hown hlink hnamed hmethM hstatic hkP hinitP hy (g := g) hg (argsL := argsL) (rest := rest) (hlen _ hsigM) hstack hdg
  rcases hK m meth c ⟨T.setVm vm₁, locs, cells, slots⟩ { g with stack := rest } (.invokestatic index) mk argsL.toArray X₁ hg hsize hdg hW (X₁.named hnamed) (hpre vm₁ X₁.warmed) with ⟨v, B, X', hpost, hsteps⟩ | ⟨q, B, X', hpost, hsteps⟩
  · exact Or.inl ⟨v, vm₁, B, X₁.warmed, X', hpost, fun target h => hstep₁ _ fun acts => by rw [doInvoke_state]; exact hsteps.trans h⟩
  · exact Or.inr ⟨q, vm₁, B, X₁.warmed, X', hpost, hstep₁ _ fun acts => by rw [doInvoke_state]; exact hsteps⟩
theorem vx_callVW (X : Stand p l e R s m args below meth c T locs cells slots) (hexec : p.tables.exec = Jvm.exec) {own C : String} {index : Nat} {y : MethodName} {bytes : ByteArray} {maxL : Nat} {ret : Option FieldType} {hh : List (Nat × Nat × Nat × Nat)}
    (hown : s.vm.findClass own = some m.cls) (hlink : (Cond.methodLink own index y).before args s = true) (hinst : (Cond.instanceMethod y).before args s = true) (hsel : (Cond.selects C y y).before args s = true)
    (hcode : (Cond.codeWith y bytes maxL ret hh).before args s = true) (hy : y.cls ≠ "java/lang/invoke/MethodHandle" ∧ y.cls ≠ "java/lang/invoke/VarHandle")
    {W9 : Nat} {Pre : Pt → Array Value → Prop} {Post : Pt → Array Value → Option Value → Pt → Prop} (hK : Back l R p e below s args y 3 W9 Pre Post)
    {b : Addr} {cellB : Cell} (hcell : T.heap[b]? = some cellB) (hobj : cellB.vm.isStatics = false) (hcls : s.vm.findClass C = some cellB.cls)
    {g : JFrame} (hg : g.method = m) (hsize : g.locals.size = c.maxLocals) {argsL rest : List Value} (hlen : ∀ sig, parseMethodDescriptor y.desc = some sig → argsL.length = sig.parameters.length)
    (hstack : g.stack = argsL.reverse ++ .ref b :: rest) (hW : 2 * g.monitorRoom + (rest.map fun v => v.category).sum ≤ W9) (hdg : decode c.code g.pc = .ok (.invokevirtual index, 3))
    (hpre : ∀ vm₁, s.WarmedH vm₁ → Pre ⟨T.setVm vm₁, locs, cells, slots⟩ (Value.ref b :: argsL).toArray) :
    ∃ (v : Option Value) (vm₁ : Vm) (B : Pt), s.WarmedH vm₁ ∧ Stand p l e R s m args below meth c B.U B.locs B.cells B.slots ∧ Post ⟨T.setVm vm₁, locs, cells, slots⟩ (Value.ref b :: argsL).toArray v B ∧
      ∀ target, Steps p.tables e below (B.U.setTop { g with pc := g.pc + 3, stack := v.toList ++ rest }) target → Steps p.tables e below (T.setTop g) target := by
  obtain ⟨mk, methM, hnamed, hmethM, hstM, habM⟩ := Cond.instanceMethod_spec hinst
  obtain ⟨m8, methM', cM, hn8, hmethM', -, -, -, -, -, -, hsigM⟩ := Cond.codeWith_spec hcode
  cases Option.some.inj (hn8.symm.trans hnamed)
  cases hmethM.symm.trans hmethM'
  obtain ⟨c2, r2, m2, q1, q2, q3, q4, kP, hkP, hkPi⟩ := Cond.selects_spec hsel
  cases hcls.symm.trans q1
  cases (State.methodFound?_of_named hnamed hy).symm.trans q2
  cases hnamed.symm.trans q3
  have hselP : selectMethod e.platform s.vm cellB.cls mk = .method mk := by rw [Launch.admits_selectMethod X.admits]; exact q4
  obtain ⟨vm₁, X₁, hstep₁⟩ := X.invokevirtual hexec hown hlink hnamed hmethM hstM hkP hkPi hy (a := b) (cell := cellB) hcell
    (fun z h => by rw [h] at hobj; cases hobj) hselP hmethM habM hkP hkPi (g := g) hg (argsL := argsL) (rest := rest) (hlen _ hsigM) hstack hdg
  obtain ⟨v, B, X', hpost, hsteps⟩ := hK m meth c ⟨T.setVm vm₁, locs, cells, slots⟩ { g with stack := rest } (.invokevirtual index) mk (Value.ref b :: argsL).toArray X₁ hg hsize hdg hW (X₁.named hnamed) (hpre vm₁ X₁.warmed)
  exact ⟨v, vm₁, B, X₁.warmed, X', hpost, fun target h => hstep₁ _ fun acts => by rw [doInvoke_state]; exact hsteps.trans h⟩
abbrev vx_CVW (R : Room) (s : State) (args : Array Value) (own C : String) (index : Nat) (y : MethodName) (bytes : ByteArray) (maxL : Nat) (ret : Option FieldType) (hh : List (Nat × Nat × Nat × Nat)) (ws : List Cond) (rm : Room) (mc ms n : Nat) : Prop :=
  (rm.cells = mc ∧ rm.slots = ms ∧ rm.frames + 1 ≤ R.frames ∧ 8 + (maxL + 11) + rm.locals ≤ R.locals ∧ (∀ w ∈ ws, ∀ (a' : Array Value) (U : State), s.WarmedH U.vm → w.before a' U = true) ∧ Cond.codeWith y bytes maxL ret hh ∈ ws) ∧
  (Cond.codeWith y bytes maxL ret hh).before args s = true ∧ (Cond.initialized y.cls).before args s = true ∧ (y.cls ≠ "java/lang/invoke/MethodHandle" ∧ y.cls ≠ "java/lang/invoke/VarHandle") ∧
  (∀ sig, parseMethodDescriptor y.desc = some sig → n = sig.parameters.length) ∧ (Cond.methodLink own index y).before args s = true ∧ (Cond.instanceMethod y).before args s = true ∧ (Cond.selects C y y).before args s = true
theorem vx_cwVW {own C : String} {index maxL mc ms : Nat} {y : MethodName} {bytes : ByteArray} {ret : Option FieldType} {hh : List (Nat × Nat × Nat × Nat)} {Ts ws ws' : List Cond} {rm : Room} (n : Nat) (ht : ∀ w ∈ Ts, w.before args s = true) (hT : GoodIn Ts (wsV own index C y ws)) (hw : ws = Cond.codeWith y bytes maxL ret hh :: ws') (hrc : rm.cells = mc) (hrs : rm.slots = ms)
    (hd : y.cls = C ∧ y.cls ≠ "java/lang/invoke/MethodHandle" ∧ y.cls ≠ "java/lang/invoke/VarHandle" ∧ (parseMethodDescriptor y.desc).map (fun d => d.parameters.length) = some n) (hR : rm.frames + 1 ≤ R.frames ∧ 8 + (maxL + 11) + rm.locals ≤ R.locals) :
    vx_CVW R s args own C index y bytes maxL ret hh ws rm mc ms n := by
  obtain ⟨hC, hd⟩ := hd
  subst hC
  have ok : ∀ w ∈ wsV own index y.cls y ws, w.before args s = true := fun w h => ht w (hT w h).1
  have hG : GoodIn Ts ws := fun w h => hT w (by unfold wsV; exact List.mem_append_right _ h)
  have hc : Cond.codeWith y bytes maxL ret hh ∈ ws := by rw [hw]; exact List.mem_cons_self
  refine ⟨⟨hrc, hrs, hR.1, hR.2, pay_in ht hG, hc⟩, ht _ (hG _ hc).1, ok _ (by simp [wsV]), ⟨hd.1, hd.2.1⟩, fun sig h => ?_, ok _ (by simp [wsV]), ok _ (by simp [wsV]), ok _ (by simp [wsV])⟩
  have h2 := hd.2.2
  rw [h] at h2
  exact (Option.some.inj h2).symm
theorem vx_runVW {y : MethodName} {bytes cc : ByteArray} {maxL nL mc ms n index : Nat} {ret : Option FieldType} {hh : List (Nat × Nat × Nat × Nat)} {ws : List Cond} {rm : Room} {Pc : Array Value → State → Prop} {Qc : Array Value → State → Outcome → State → Prop} {free : Addr → Prop} {Ts : List Cond} {own C : String} {b : Addr} {As rest : List Value} {g : JFrame}
    (S : CallFix p m c cc nL s args Ts own) (hM : Met l y ws rm Pc Qc mc ms free) (cw : vx_CVW R s args own C index y bytes maxL ret hh ws rm mc ms n) (hp : PreV s H C b Pc As)
    (hg : g.method = m) (hn : As.length = n) (hsize : g.locals.size = nL) (hstack : g.stack = As.reverse ++ .ref b :: rest) (hW : 2 * g.monitorRoom + (rest.map fun v => v.category).sum ≤ 8) (hdg : decode cc g.pc = .ok (.invokevirtual index, 3)) (hf : cells + mc ≤ R.cells ∧ slots + ms ≤ R.slots) :
    va_Run p l e R s m args below meth c H locs cells slots mc ms g rest (Qc (Value.ref b :: As).toArray) free := by
  obtain ⟨⟨hrc, hrs, hfr, hlo, hws, hcw⟩, hcode, hini, hy, hlen, hl, hin, hse⟩ := cw
  have hK : Back l R p e below s args y 3 8 (PreOf R mc ms Pc) (PostOf Qc mc ms free) := va_backW (hh := hh) (bytes := bytes) (maxL := maxL) (ret := ret) hM hp.1 hrc hrs hfr hlo hws hcw (fun a' U hW => word_at hW (Or.inl (by first | rfl | simp [Cond.onTables, Cond.keeps, Cond.steady])) hini)
  obtain ⟨hx, hb, hml, ho, -⟩ := S
  obtain ⟨-, ⟨cellB, hcB, hoB, hclB⟩, hPc⟩ := hp
  intro T hT X
  obtain ⟨v, vm₁, ⟨U', l2, c2, s2⟩, hW₁, X', ⟨g', mk, t, L, e1, e2, hq, h1, hL, h2, h3⟩, st⟩ := vx_callVW X hx (C := C) (hh := hh) (bytes := bytes) (maxL := maxL) (ret := ret) ho hl hin hse hcode hy hK (by rw [hT]; exact hcB) hoB hclB hg (hsize.trans hml.symm) (argsL := As) (rest := rest) (fun sig h => hn.trans (hlen sig h)) hstack hW (by rw [hb]; exact hdg)
    (fun vm₁ hW₁ => ⟨hf.1, hf.2, hPc (T.setVm vm₁) hT hW₁⟩)
  dsimp only [Pt.U, Pt.locs, Pt.cells, Pt.slots] at X' e1 e2 h1 h2 h3 st
  subst h1; subst h2; subst h3
  exact ⟨v, (T.setVm vm₁).calling g' mk (Value.ref b :: As).toArray, t, U', L, hT, X', hL, e1, e2, hq, st⟩
section
variable {y : MethodName} {bytes cc : ByteArray} {maxL nL mc ms n index : Nat} {ret : Option FieldType} {ws : List Cond} {rm : Room} {Pc : Array Value → State → Prop} {Qc : Array Value → State → Outcome → State → Prop} {XC : String → State → State → Prop} {free : Addr → Prop} {Ts : List Cond} {own C : String} {b : Addr} {As rest : List Value} {g : JFrame}
theorem vx_runVX {hh : List (Nat × Nat × Nat × Nat)} (S : CallFix p m c cc nL s args Ts own) (hM : vx_Met l y ws rm Pc Qc XC mc ms free) (cw : vx_CVW R s args own C index y bytes maxL ret hh ws rm mc ms n) (hp : PreV s H C b Pc As)
    (hg : g.method = m) (hn : As.length = n) (hsize : g.locals.size = nL) (hstack : g.stack = As.reverse ++ .ref b :: rest) (hW : 2 * g.monitorRoom + (rest.map fun v => v.category).sum ≤ 8) (hdg : decode cc g.pc = .ok (.invokevirtual index, 3)) (hf : cells + mc ≤ R.cells ∧ slots + ms ≤ R.slots) :
    vx_Run p l e R s m args below meth c H locs cells slots mc ms g rest (Qc (Value.ref b :: As).toArray) XC free := by
  obtain ⟨⟨hrc, hrs, hfr, hlo, hws, hcw⟩, hcode, hini, hy, hlen, hl, hin, hse⟩ := cw
  have hK : vx_Back l R p e below s args y 3 8 (PreOf R mc ms Pc) (PostOf Qc mc ms free) (vx_Post XC mc ms free) := vx_backW (hh := hh) (bytes := bytes) (maxL := maxL) (ret := ret) hM hp.1 hrc hrs hfr hlo hws hcw (fun a' U hW => word_at hW (Or.inl (by first | rfl | simp [Cond.onTables, Cond.keeps, Cond.steady])) hini)
  obtain ⟨hx, hb, hml, ho, -⟩ := S
  obtain ⟨-, ⟨cellB, hcB, hoB, hclB⟩, hPc⟩ := hp
  intro T hT X
  rcases vx_callVX X hx (C := C) (hh := hh) (bytes := bytes) (maxL := maxL) (ret := ret) ho hl hin hse hcode hy hK (by rw [hT]; exact hcB) hoB hclB hg (hsize.trans hml.symm) (argsL := As) (rest := rest) (fun sig h => hn.trans (hlen sig h)) hstack hW (by rw [hb]; exact hdg)
    (fun vm₁ hW₁ => ⟨hf.1, hf.2, hPc (T.setVm vm₁) hT hW₁⟩) with ⟨v, vm₁, ⟨U', l2, c2, s2⟩, hW₁, X', ⟨g', mk, t, L, e1, e2, hq, h1, hL, h2, h3⟩, st⟩ | ⟨q, vm₁, ⟨U', l2, c2, s2⟩, hW₁, X', ⟨g', mk, t, L, E, ce, e1, e2, hq, hce, hcv, hcl, h1, hL, h2, h3⟩, st⟩
  · dsimp only [Pt.U, Pt.locs, Pt.cells, Pt.slots] at X' e1 e2 h1 h2 h3 st
    subst h1; subst h2; subst h3
    exact Or.inl ⟨v, (T.setVm vm₁).calling g' mk (Value.ref b :: As).toArray, t, U', L, hT, X', hL, e1, e2, hq, st⟩
  · dsimp only [Pt.U, Pt.locs, Pt.cells, Pt.slots] at X' e1 e2 h1 h2 h3 st hcl
    subst h1; subst h2; subst h3
    exact Or.inr ⟨q, (T.setVm vm₁).calling g' mk (Value.ref b :: As).toArray, t, U', L, E, ce, hT, X', hL, e1, e2, hq, hce, hcv, vx_cls hW₁ hcl, st⟩
theorem vx_runSX {hh : List (Nat × Nat × Nat × Nat)} (S : CallFix p m c cc nL s args Ts own) (hM : vx_Met l y ws rm Pc Qc XC mc ms free) (cw : vx_CSW R s args own index y bytes maxL ret hh ws rm mc ms n) (hp : PreS s H Pc As)
    (hg : g.method = m) (hn : As.length = n) (hsize : g.locals.size = nL) (hstack : g.stack = As.reverse ++ rest) (hW : 2 * g.monitorRoom + (rest.map fun v => v.category).sum ≤ 8) (hdg : decode cc g.pc = .ok (.invokestatic index, 3)) (hf : cells + mc ≤ R.cells ∧ slots + ms ≤ R.slots) :
    vx_Run p l e R s m args below meth c H locs cells slots mc ms g rest (Qc As.toArray) XC free := by
  obtain ⟨⟨hrc, hrs, hfr, hlo, hws, hcw⟩, hcode, hini, hy, hlen, hl, hstt⟩ := cw
  have hK : vx_Back l R p e below s args y 3 8 (PreOf R mc ms Pc) (PostOf Qc mc ms free) (vx_Post XC mc ms free) := vx_backW (hh := hh) (bytes := bytes) (maxL := maxL) (ret := ret) hM hp.1 hrc hrs hfr hlo hws hcw (fun a' U hW => word_at hW (Or.inl (by first | rfl | simp [Cond.onTables, Cond.keeps, Cond.steady])) hini)
  obtain ⟨hx, hb, hml, ho, -⟩ := S
  intro T hT X
  rcases vx_callSX X hx (hh := hh) (bytes := bytes) (maxL := maxL) (ret := ret) ho hl hstt hini hcode hy hK hg (hsize.trans hml.symm) (argsL := As) (rest := rest) (fun sig h => hn.trans (hlen sig h)) hstack hW (by rw [hb]; exact hdg)
    (fun vm₁ hW₁ => ⟨hf.1, hf.2, hp.2 (T.setVm vm₁) hT hW₁⟩) with ⟨v, vm₁, ⟨U', l2, c2, s2⟩, hW₁, X', ⟨g', mk, t, L, e1, e2, hq, h1, hL, h2, h3⟩, st⟩ | ⟨q, vm₁, ⟨U', l2, c2, s2⟩, hW₁, X', ⟨g', mk, t, L, E, ce, e1, e2, hq, hce, hcv, hcl, h1, hL, h2, h3⟩, st⟩
  · dsimp only [Pt.U, Pt.locs, Pt.cells, Pt.slots] at X' e1 e2 h1 h2 h3 st
    subst h1; subst h2; subst h3
    exact Or.inl ⟨v, (T.setVm vm₁).calling g' mk As.toArray, t, U', L, hT, X', hL, e1, e2, hq, st⟩
  · dsimp only [Pt.U, Pt.locs, Pt.cells, Pt.slots] at X' e1 e2 h1 h2 h3 st hcl
    subst h1; subst h2; subst h3
    exact Or.inr ⟨q, (T.setVm vm₁).calling g' mk As.toArray, t, U', L, E, ce, hT, X', hL, e1, e2, hq, hce, hcv, vx_cls hW₁ hcl, st⟩
end
end VXH
theorem vx_ofWH {l : Launch} {y : MethodName} {ws ws' : List Cond} {rm : Room} {Pc : Array Value → State → Prop} {Qc : Array Value → State → Outcome → State → Prop} {XC : String → State → State → Prop} {mc ms : Nat} {free : Addr → Prop} {cc : ByteArray} {maxL : Nat} {ret : Option FieldType} {hh : List (Nat × Nat × Nat × Nat)}
    (hy : plainName y.cls = true) (hw : ws = Cond.codeWith y cc maxL ret hh :: ws')
    (body : ∀ p e s m args below meth c s₁, BodyLoose p l y (headSpec ws rm) cc maxL ret e s m args below meth c s₁ → c.maxLocals = maxL → Pc args s →
      W p l e (headSpec ws rm).room s m args below meth c s.heap [] 0 0 (vx_MQ below Qc XC args s mc ms free) (entryFrame m args maxL)) : vx_Met l y ws rm Pc Qc XC mc ms free := by
  refine MetFree.of_bodyS (code := cc) (maxLocals := maxL) (ret := ret) hy ?_ ?_
  · intro args s m h hn
    obtain ⟨m9, meth, c, hn9, h1, h2, h3, h4, -, h5, h6, -⟩ := Cond.codeWith_spec (atoms_spec (ws := ws) h _ (by rw [hw]; exact List.mem_cons_self))
    cases hn.symm.trans hn9
    exact ⟨meth, c, h1, h2, h3, h4, h5, h6⟩
  · intro p e s m args below meth c s₁ B hml hP _
    have hh0 : s₁.heap = s.heap := by rw [B.state]; rfl
    obtain ⟨t, a1, o, b1, b2, b3⟩ := body p e s m args below meth c s₁ B hml hP s₁ hh0 (Stand.of_body B)
    exact ⟨t, o, a1, b1, b2, b3⟩
/-! ===== END ===== -/
/-! ===== BEGIN what the machine throws by itself, no traces kept ===== -/
section VXM
set_option maxHeartbeats 1000000 in
/-- the machine throws cls with the message text, no traces kept: from its note over the frame g to 'throwing' over the same frame (follows the proofs of Stand.vmThrowsMessage, Shelf/KitTracedVmS.lean, and Stand.throwsMessageColdBareV, StandMessageColdV.lean, without the step out of the frame) -/
theorem vx_vmAt {p : Program} {l : Launch} {e : Env} {R : Room} {s : State} {m₀ : MethodId} {args : Array Value} {below : List Frame} {meth : Method} {c : Code} {W : State} {locs : List Loc} {cells slots : Nat}
    (X : Stand p l e R s m₀ args below meth c W locs cells slots) (hexec : p.tables.exec = Jvm.exec) (htr : e.platform.stackTraces = false) {cls : String} {names : List String} {text : String}
    (hcls : Bundle.fit cls = true) (hnames : ∀ n ∈ names, Bundle.fit n = true) (hsoe : (cls == "java/lang/StackOverflowError") = false) (hoom : (cls == "java/lang/OutOfMemoryError") = false)
    (h : ∀ a ∈ Bundle.messageArmAtoms cls names, a.before args s = true)
    (hlocs : ∀ x ∈ locs, ∀ cell, s.heap[x.base]? = some cell → cell.vm.isStatics = false)
    (htext : (text == notModelled) = false) (hlimit : ¬ (stringBytes (stringToUtf16 text)).size > e.platform.arrayLengthLimit) (hheap : ¬ (stringBytes (stringToUtf16 text)).size * componentBytes .byte > e.platform.maxHeapBytes)
    {g : JFrame} (hg : g.method = m₀) (hsize : g.locals.size = c.maxLocals)
    (hRframes : names.length + 4 < R.frames) (hRlocals : 2 * g.monitorRoom + (g.stack.map fun v => v.category).sum + 10240 ≤ R.locals) (hshort : 13 * names.length + 55 ≤ 10240)
    (hRcells : cells + 3 ≤ R.cells) (hRslots : slots + ((stringBytes (stringToUtf16 text)).size + 4 + 6) ≤ R.slots) (hlocks : meth.locks = false) :
    ∃ (S : State) (q : Addr) (ce : Cell), (∀ target, Steps p.tables e below ((S.setTop g).pushFrame (.throwing q)) target → Steps p.tables e below ((W.setTop g).pushFrame (.throwNew cls (some text) none)) target) ∧
      Stand p l e R s m₀ args below meth c S locs (cells + 3) (slots + ((stringBytes (stringToUtf16 text)).size + 4 + 6)) ∧ S.heap[q]? = some ce ∧ s.vm.findClass cls = some ce.cls ∧ ce.vm = .none := by
  have howns : e.platform.frameOwnsMonitors = true := by rw [X.admits.platform]
  have hfin : e.platform.finalization = false := by rw [X.admits.platform]
  have hpl : e.platform.magicAccessors = ({} : Platform).magicAccessors := by rw [X.admits.platform]
  have a : ∀ x, x ∈ Bundle.messageArmAtoms cls names → x.holds args s none s [] = true := fun x hx => h x hx
  obtain ⟨T, Z0, L, -, Y⟩ := ThrowableC.of_atoms (args := args) howns hfin hpl (fun x hx => h x (by simp [Bundle.messageArmAtoms, hx]))
  obtain ⟨Z, M, LZ, LM, hnZ⟩ := Init0T.ofS_atoms (args := args) hpl L Y (fun x hx => h x (by simp [Bundle.messageArmAtoms, hx]))
  obtain ⟨P1, Ps, hlen, L1, hL, hP1m, hlink1, hlink⟩ := Bundle.chainS (args := args) hpl hnZ names cls hcls hnames (fun x hx => h x (by simp [Bundle.messageArmAtoms, hx]))
  obtain ⟨Zs, LZs, hn4, hfitv, hfitc⟩ := StringT.of_atoms (args := args) (fun x hx => h x (by simp [Bundle.messageArmAtoms, hx]))
  have hfound : s.vm.findClass cls = some P1.m.cls := findClass_of_methodNamed hP1m
  obtain ⟨c1, kX, hc1, hk, hord, -, -, hn6⟩ := Cond.instantiable_spec (a (.instantiable cls 6) (by simp [Bundle.messageArmAtoms]))
  cases Option.some.inj (hc1.symm.trans hfound)
  have hinit := Cond.initialized_spec hfound hk (a (.initialized cls) (by simp [Bundle.messageArmAtoms]))
  have hctor : kX.findMethod "<init>" "(Ljava/lang/String;)V" = some P1.m.idx := findMethod_of_methodNamed hP1m hk
  have hsel0 : selectMethod e.platform s.vm P1.m.cls T.fill0 = .method T.fill0 := by
    obtain ⟨c2, r2, m2, q1, q2, q3, q4, -⟩ := Cond.selects_spec (a (.selects cls Bundle.tFill0 Bundle.tFill0) (by simp [Bundle.messageArmAtoms]))
    cases Option.some.inj (q1.symm.trans hfound)
    cases Option.some.inj (q2.symm.trans (State.methodFound?_of_named Y.fill0 (by decide)))
    cases Option.some.inj (q3.symm.trans Y.fill0)
    rw [Launch.admits_selectMethod X.admits]; exact q4
  have hselF : selectMethod e.platform s.vm P1.m.cls T.fill = .method T.fill := by
    obtain ⟨c2, r2, m2, q1, q2, q3, q4, -⟩ := Cond.selects_spec (a (.selects cls Bundle.tFill Bundle.tFill) (by simp [Bundle.messageArmAtoms]))
    cases Option.some.inj (q1.symm.trans hfound)
    cases Option.some.inj (q2.symm.trans (State.methodFound?_of_named Y.fill (by decide)))
    cases Option.some.inj (q3.symm.trans Y.fill)
    rw [Launch.admits_selectMethod X.admits]; exact q4
  obtain ⟨cellS0, hcS0, hiss⟩ := Y.statics
  obtain ⟨u0, hu0⟩ := Cond.staticRefV Y.unassigned L.unassignedStatic L.statics hcS0 hiss (a (.isRef (.static Bundle.tN "UNASSIGNED_STACK" Bundle.steD)) (by simp [Bundle.messageArmAtoms]))
  obtain ⟨sen, hsen⟩ := Cond.staticRefV Y.sentinel L.sentinelStatic L.statics hcS0 hiss (a (.isRef (.static Bundle.tN "SUPPRESSED_SENTINEL" Bundle.listD)) (by simp [Bundle.messageArmAtoms]))
  obtain ⟨ci198, i198, fB, hk198, hg198, ha198, hsB, -, hnB, htB, hffB⟩ := Cond.ownField (t := .object "java/lang/Object") Y.found L.cls (by decide +kernel) (a (.fieldLink Bundle.tN 198 Bundle.tN "backtrace" "Ljava/lang/Object;") (by simp [Bundle.messageArmAtoms])) (a (.lays Bundle.tN Bundle.tN "backtrace" "Ljava/lang/Object;") (by simp [Bundle.messageArmAtoms])) e.platform hpl
  obtain ⟨cellS, hcS', heS, -, hkeep⟩ := X.same.2.2.2.2.2 T.aS cellS0 hcS0
  have hcellS : W.heap[T.aS]? = some cellS := hcS'
  have hout' : ∀ i, (⟨T.aS, i⟩ : Loc) ∉ locs := fun i hmem => by
    have := hlocs _ hmem cellS0 hcS0
    rw [hiss] at this; cases this
  have hknownS : cellS.vm ≠ .unknown := by
    rw [heS]; intro hu
    rw [show cellS0.vm = .unknown from hu] at hiss
    cases hiss
  have hvU : cellS.slots[T.fUnassigned.slot]? = some u0.v := by rw [hkeep _ (hout' _)]; exact hu0
  have hvSen : cellS.slots[T.fSentinel.slot]? = some sen.v := by rw [hkeep _ (hout' _)]; exact hsen
  obtain ⟨iM, hffM⟩ := Y.msg
  obtain ⟨tyC, dC, hdC, hdnC⟩ := Cond.laysAt hfound hk Y.cause (a (.lays cls Bundle.tN "cause" "Ljava/lang/Throwable;") (by simp [Bundle.messageArmAtoms]))
  obtain ⟨tyS, dS, hdS, hdnS⟩ := Cond.laysAt hfound hk Y.stack (a (.lays cls Bundle.tN "stackTrace" Bundle.steD) (by simp [Bundle.messageArmAtoms]))
  obtain ⟨tyP, dP, hdP, hdnP⟩ := Cond.laysAt hfound hk Y.supp (a (.lays cls Bundle.tN "suppressedExceptions" Bundle.listD) (by simp [Bundle.messageArmAtoms]))
  obtain ⟨tyM, dM, hdM, hdnM⟩ := Cond.laysAt hfound hk hffM (a (.lays cls Bundle.tN "detailMessage" "Ljava/lang/String;") (by simp [Bundle.messageArmAtoms]))
  obtain ⟨tyB, dB, hdB, hdnB⟩ := Cond.laysAt hfound hk hffB (a (.lays cls Bundle.tN "backtrace" "Ljava/lang/Object;") (by simp [Bundle.messageArmAtoms]))
  have bC := Cond.laysApart hdB hdC hdnB hdnC (by rw [hnB, Y.causeName]; decide)
  have bS := Cond.laysApart hdB hdS hdnB hdnS (by rw [hnB, Y.stackName]; decide)
  have bP := Cond.laysApart hdB hdP hdnB hdnP (by rw [hnB, Y.suppName]; decide)
  have hbk : ((preparedCellV T.toThrowableT (freshCell P1.m.cls kX) (W.heap.size + 2) u0 sen).withEntry W.cur).slots[fB.slot]? = some .null := by
    have := fresh_default (c := P1.m.cls) tyB
    rw [htB] at this
    simpa [preparedCellV, Cell.setSlot, Cell.withEntry, Array.getElem?_setIfInBounds, bC, bS, bP, bC.symm, bS.symm, bP.symm, defaultValue] using this
  have tkC := Takes.of_laid (v := .ref (W.heap.size + 2)) hk hord tyC (by rw [Y.causeType]; rfl)
  have tkS := Takes.of_laid (v := u0.v) hk hord tyS (by rw [Y.stackType]; exact fits_refV_array _ u0)
  have tkP := Takes.of_laid (v := sen.v) hk hord tyP (by rw [Y.suppType]; exact fits_refV_object _ sen)
  have tkM := Takes.of_laid (v := .ref (W.heap.size + 1)) hk hord tyM (by rw [Y.msgType]; rfl)
  have hskip : SkipFacts T e.platform s (fun u => u) u0 ((preparedCellV T.toThrowableT (freshCell P1.m.cls kX) (W.heap.size + 2) u0 sen).withEntry W.cur) := ⟨{ ci198 := ci198, i198 := i198, fBack := fB }, ⟨hk198, hg198, ha198, hsB⟩, hbk, fun _ _ => rfl⟩
  have h0 : At W g.method c below := by rw [hg]; exact X.here
  obtain ⟨hbeyond, hfreeW⟩ := X.vmMayThrow hsize (.throwNew cls (some text) none) (fun f hf => by cases hf) rfl hRlocals
  have hfr' : W.frames.length + Ps.length + 4 < (e.platform.stackLimits W.me).1 := by have := X.framesAbove hRframes; omega
  have hwd' : (stackUse (.java g :: W.frames.tail)).2 + 13 * Ps.length + 55 ≤ (e.platform.stackLimits W.me).2 := by have := X.stackAbove hsize (K := 13 * Ps.length + 55) (by omega); omega
  have hslots : W.slotsUsed + (stringBytes (stringToUtf16 text)).size + Zs.kS.instanceTypes.size + kX.instanceTypes.size ≤ e.platform.maxSlots := by
    have := X.slotsAbove hRslots
    rw [hn4, hn6]
    omega
  obtain ⟨vm', hW', st⟩ := Steps.vmThrowsMessageColdByV p (s₀ := s) (S := W) (g := g) h0 hexec T L Z LZ M LM X.warmed (t := W.cur) rfl Zs LZs P1 L1 Ps hL hlink1 hlink hsoe hoom hfound hk hinit hord hctor
    (Launch.admits_hotImplicitExceptions X.admits) hbeyond hfreeW htext hlimit hheap (X.cellsAbove hRcells) hslots (hfitv _) (hfitc _)
    (Nn := fun u => u) heapOnly_id (fun _ _ => rfl) (fun _ => rfl) (fun u x y => setCell_twice _ _ _ _) (fun _ => Nat.le_refl _) (cN := ((preparedCellV T.toThrowableT (freshCell P1.m.cls kX) (W.heap.size + 2) u0 sen).withEntry W.cur))
    hsel0 hcellS hknownS hvU tkS (fun _ hu => hu) (fun _ hu => hu) rfl rfl rfl (by simp [preparedCellV, Cell.setSlot, Cell.withEntry]) hskip (fun _ _ hA hW _ hroom _ hrest => L.nativeOff p htr hA hW hroom hrest) hselF hvSen tkC tkP tkM Y.objLocals rfl hfr' hwd'
  rw [plainBareV_eq T.toThrowableT (W.heap.size + 2) u0 sen (.ref (W.heap.size + 1)) W.cur rfl rfl] at st
  obtain ⟨-, -, w3, w4, -, -, -⟩ := withThrown_facts e.platform W Zs text P1.m.cls kX
  have X3 := ((X.pushed (bytesOf Zs.cB (stringToUtf16 text))).pushed (stringAt Zs.cS Zs.kS Zs.fv Zs.fc (stringToUtf16 text) W.heap.size)).pushed (freshCell P1.m.cls kX)
  rw [← withString_eq] at X3
  have X4 := X3.noted hW'
  have ha : (W.heap.size + 2) < ((withThrown W Zs text P1.m.cls kX).setVm vm').heap.size := by show _ < (withThrown W Zs text P1.m.cls kX).heap.size; rw [w3]; omega
  have hcell : ((withThrown W Zs text P1.m.cls kX).setVm vm').heap[(W.heap.size + 2)]? = some (freshCell P1.m.cls kX) := w4
  have X5 := ((((X4.stored hcell T.fCause.slot (.ref (W.heap.size + 2))).storedAgain ha T.fStack.slot u0.v).storedAgain ha T.fSupp.slot sen.v).storedAgain ha T.fStack.slot u0.v).storedAgain ha T.fMsg.slot (.ref (W.heap.size + 1))
  obtain ⟨g₁, hfrM⟩ := X5.frames_eq
  have hU : ((((withThrown W Zs text P1.m.cls kX).setVm vm').setCell (W.heap.size + 2) (plainBareV T.toThrowableT (freshCell P1.m.cls kX) (W.heap.size + 2) u0 sen (.ref (W.heap.size + 1)))).setTop g).pushFrame (.throwing (W.heap.size + 2)) = (((withThrown W Zs text P1.m.cls kX).setVm vm').setCell (W.heap.size + 2) (plainBareV T.toThrowableT (freshCell P1.m.cls kX) (W.heap.size + 2) u0 sen (.ref (W.heap.size + 1)))).setFrames (.throwing (W.heap.size + 2) :: .java g :: below) := by
    rw [State.pushFrame, State.frames_setTop _ hfrM, State.setTop_of_frames _ hfrM, State.setFrames_setFrames]
  have b1 : (bytesOf Zs.cB (stringToUtf16 text)).slots.size = (stringBytes (stringToUtf16 text)).size := by
    rw [(Cell.writeAll_facts _ _).2.2]; simp [bytes0]
  have b2 : (stringAt Zs.cS Zs.kS Zs.fv Zs.fc (stringToUtf16 text) W.heap.size).slots.size = 4 := by simp [string0, Cell.setSlot, hn4]
  have b3 : (freshCell P1.m.cls kX).slots.size = 6 := by simp [hn6]
  rw [b1, b2, b3] at X5
  have e9 : slots + (stringBytes (stringToUtf16 text)).size + 4 + 6 = slots + ((stringBytes (stringToUtf16 text)).size + 4 + 6) := by omega
  rw [e9] at X5
  simp only [List.append_assoc, List.cons_append, List.nil_append] at X5
  refine ⟨((withThrown W Zs text P1.m.cls kX).setVm vm').setCell (W.heap.size + 2) (plainBareV T.toThrowableT (freshCell P1.m.cls kX) (W.heap.size + 2) u0 sen (.ref (W.heap.size + 1))), W.heap.size + 2, _, fun target ht => st _ (by rw [X.tail, ← hU]; exact ht),
    X5.forget (fun y hy => ?_), heapAt_setCell_self _ ha, hfound, rfl⟩
  simp only [List.mem_cons, List.not_mem_nil, or_false] at hy
  have hge : s.heap.size ≤ W.heap.size := X.same.2.1
  rcases hy with rfl | rfl | rfl | rfl | rfl <;> exact Nat.le_trans hge (Nat.le_add_right _ 2)
set_option maxHeartbeats 1000000 in
/-- the machine throws NullPointerException, no traces kept: from its note over the frame g to 'throwing' over the same frame (follows the proof of Stand.vmThrowsNpe, Shelf42/KT2.lean; throwsNpeColdBareVAt, Shelf42/NT91.lean, called) -/
theorem vx_npeAt {p : Program} {l : Launch} {e : Env} {R : Room} {s : State} {m₀ : MethodId} {args : Array Value} {below : List Frame} {meth : Method} {c : Code} {W : State} {locs : List Loc} {cells slots : Nat}
    (X : Stand p l e R s m₀ args below meth c W locs cells slots) (hexec : p.tables.exec = Jvm.exec) (htr : e.platform.stackTraces = false) {n : Nat}
    (h : ∀ a ∈ Bundle.npeArmAtoms n, a.before args s = true)
    (hlocs : ∀ x ∈ locs, ∀ cell, s.heap[x.base]? = some cell → cell.vm.isStatics = false)
    {g : JFrame} (hg : g.method = m₀) (hsize : g.locals.size = c.maxLocals)
    (hRframes : 7 < R.frames) (hRlocals : 2 * g.monitorRoom + (g.stack.map fun v => v.category).sum + 10240 ≤ R.locals)
    (hRcells : cells + 1 ≤ R.cells) (hRslots : slots + n ≤ R.slots) (hlocks : meth.locks = false) :
    ∃ (S : State) (q : Addr) (ce : Cell), (∀ target, Steps p.tables e below ((S.setTop g).pushFrame (.throwing q)) target → Steps p.tables e below ((W.setTop g).pushFrame (.throwNew "java/lang/NullPointerException" none none)) target) ∧
      Stand p l e R s m₀ args below meth c S locs (cells + 1) (slots + n) ∧ S.heap[q]? = some ce ∧ s.vm.findClass "java/lang/NullPointerException" = some ce.cls ∧ ce.vm = .none := by
  have howns : e.platform.frameOwnsMonitors = true := by rw [X.admits.platform]
  have hfin : e.platform.finalization = false := by rw [X.admits.platform]
  have hpl : e.platform.magicAccessors = ({} : Platform).magicAccessors := by rw [X.admits.platform]
  have hpl2 : e.platform.arrayCloneIsPublic = true := by rw [X.admits.platform]
  have a' : ∀ x, x ∈ Bundle.npeArmAtoms n → x.holds args s none s [] = true := fun x hx => h x hx
  obtain ⟨T, Z, L, LZ, Y⟩ := ThrowableC.of_atoms (args := args) howns hfin hpl (fun x hx => h x (by simp [Bundle.npeArmAtoms, hx]))
  obtain ⟨N, LN, hcN, hnNF, hordN, hffS⟩ := NpeC.of_atoms (args := args) hpl hpl2 L Y (fun x hx => h x (by simp [Bundle.npeArmAtoms, hx]))
  obtain ⟨P1, L1, hP1m, hP1s⟩ := PassC.of_atoms (args := args) (s := s) hpl (X := Bundle.nN) (Y := Bundle.rN) (by decide) (by decide) LibCode.NullPointerException.Init0.at_0 LibCode.NullPointerException.Init0.at_1 LibCode.NullPointerException.Init0.at_4 (fun x hx => h x (by simp [Bundle.npeArmAtoms, hx]))
  obtain ⟨PR, LR, hPRm, hPRs⟩ := PassC.of_atoms (args := args) (s := s) hpl (X := Bundle.rN) (Y := Bundle.eN) (by decide) (by decide) LibCode.RuntimeException.Init0.at_0 LibCode.RuntimeException.Init0.at_1 LibCode.RuntimeException.Init0.at_4 (fun x hx => h x (by simp [Bundle.npeArmAtoms, hx]))
  obtain ⟨PE, LEx, hPEm, hPEs⟩ := PassC.of_atoms (args := args) (s := s) hpl (X := Bundle.eN) (Y := Bundle.tN) (by decide) (by decide) LibCode.Exception.Init0.at_0 LibCode.Exception.Init0.at_1 LibCode.Exception.Init0.at_4 (fun x hx => h x (by simp [Bundle.npeArmAtoms, hx]))
  have hfound : s.vm.findClass Bundle.nN = some P1.m.cls := findClass_of_methodNamed hP1m
  have ecls : N.cN = P1.m.cls := Option.some.inj (hcN.symm.trans hfound)
  have hk : s.vm.classes[P1.m.cls]? = some N.kN := by rw [← ecls]; exact LN.cls
  have hinit := Cond.initialized_spec hfound hk (a' (.initialized Bundle.nN) (by simp [Bundle.npeArmAtoms]))
  have hctor : N.kN.findMethod "<init>" "()V" = some P1.m.idx := findMethod_of_methodNamed hP1m hk
  obtain ⟨c1, k1, hc1, hk1, -, -, -, hn⟩ := Cond.instantiable_spec (a' (.instantiable Bundle.nN n) (by simp [Bundle.npeArmAtoms]))
  cases Option.some.inj (hc1.symm.trans hfound)
  cases Option.some.inj (hk1.symm.trans hk)
  have hfsz : (freshCell P1.m.cls N.kN).slots.size = n := by simp [hn]
  have hlink1 : P1.sup = PR.m := Option.some.inj (hP1s.symm.trans hPRm)
  have hlinkR : PR.sup = PE.m := Option.some.inj (hPRs.symm.trans hPEm)
  have hlinkE : PE.sup = Z.m T.toThrowableT := Option.some.inj (hPEs.symm.trans Y.init0)
  have hLs : ∀ P, P ∈ [PR, PE] → P.Links0 e.platform s := fun P hP => by
    simp only [List.mem_cons, List.not_mem_nil, or_false] at hP
    rcases hP with rfl | rfl
    · exact LR
    · exact LEx
  have hsel0 : selectMethod e.platform s.vm P1.m.cls T.fill0 = .method T.fill0 := by
    obtain ⟨c2, r2, m2, q1, q2, q3, q4, -⟩ := Cond.selects_spec (a' (.selects Bundle.nN Bundle.tFill0 Bundle.tFill0) (by simp [Bundle.npeArmAtoms]))
    cases Option.some.inj (q1.symm.trans hfound)
    cases Option.some.inj (q2.symm.trans (State.methodFound?_of_named Y.fill0 (by decide)))
    cases Option.some.inj (q3.symm.trans Y.fill0)
    rw [Launch.admits_selectMethod X.admits]; exact q4
  have hselF : selectMethod e.platform s.vm P1.m.cls T.fill = .method N.fill := by
    obtain ⟨c2, r2, m2, q1, q2, q3, q4, -⟩ := Cond.selects_spec (a' (.selects Bundle.nN Bundle.tFill Bundle.nFill) (by simp [Bundle.npeArmAtoms]))
    cases Option.some.inj (q1.symm.trans hfound)
    cases Option.some.inj (q2.symm.trans (State.methodFound?_of_named Y.fill (by decide)))
    cases Option.some.inj (q3.symm.trans hnNF)
    rw [Launch.admits_selectMethod X.admits]; exact q4
  obtain ⟨cellS0, hcS0, hiss⟩ := Y.statics
  obtain ⟨u0, hu0⟩ := Cond.staticRefV Y.unassigned L.unassignedStatic L.statics hcS0 hiss (a' (.isRef (.static Bundle.tN "UNASSIGNED_STACK" Bundle.steD)) (by simp [Bundle.npeArmAtoms]))
  obtain ⟨sen, hsen⟩ := Cond.staticRefV Y.sentinel L.sentinelStatic L.statics hcS0 hiss (a' (.isRef (.static Bundle.tN "SUPPRESSED_SENTINEL" Bundle.listD)) (by simp [Bundle.npeArmAtoms]))
  obtain ⟨ci198, i198, fB, hk198, hg198, ha198, hsB, -, hnB, htB, hffB⟩ := Cond.ownField (t := .object "java/lang/Object") Y.found L.cls (by decide +kernel) (a' (.fieldLink Bundle.tN 198 Bundle.tN "backtrace" Bundle.objD) (by simp [Bundle.npeArmAtoms])) (a' (.lays Bundle.tN Bundle.tN "backtrace" Bundle.objD) (by simp [Bundle.npeArmAtoms])) e.platform hpl
  obtain ⟨cellS, hcS', heS, -, hkeep⟩ := X.same.2.2.2.2.2 T.aS cellS0 hcS0
  have hcellS : W.heap[T.aS]? = some cellS := hcS'
  have hout' : ∀ i, (⟨T.aS, i⟩ : Loc) ∉ locs := fun i hmem => by
    have := hlocs _ hmem cellS0 hcS0
    rw [hiss] at this; cases this
  have hknownS : cellS.vm ≠ .unknown := by
    rw [heS]; intro hu
    rw [show cellS0.vm = .unknown from hu] at hiss
    cases hiss
  have hvU : cellS.slots[T.fUnassigned.slot]? = some u0.v := by rw [hkeep _ (hout' _)]; exact hu0
  have hvSen : cellS.slots[T.fSentinel.slot]? = some sen.v := by rw [hkeep _ (hout' _)]; exact hsen
  obtain ⟨tyC, dC, hdC, hdnC⟩ := Cond.laysAt hfound hk Y.cause (a' (.lays Bundle.nN Bundle.tN "cause" "Ljava/lang/Throwable;") (by simp [Bundle.npeArmAtoms]))
  obtain ⟨tyS, dS, hdS, hdnS⟩ := Cond.laysAt hfound hk Y.stack (a' (.lays Bundle.nN Bundle.tN "stackTrace" Bundle.steD) (by simp [Bundle.npeArmAtoms]))
  obtain ⟨tyP, dP, hdP, hdnP⟩ := Cond.laysAt hfound hk Y.supp (a' (.lays Bundle.nN Bundle.tN "suppressedExceptions" Bundle.listD) (by simp [Bundle.npeArmAtoms]))
  obtain ⟨tyX, dX, hdX, hdnX⟩ := Cond.laysAt hfound hk hffS (a' (.lays Bundle.nN Bundle.nN "extendedMessageState" "I") (by simp [Bundle.npeArmAtoms, Bundle.npeAtoms]))
  obtain ⟨hnX, htX⟩ := State.fieldFound?_type hffS (t := .int) (by decide +kernel)
  have xC := Cond.laysApart hdC hdX hdnC hdnX (by rw [hnX, Y.causeName]; decide)
  have xS := Cond.laysApart hdS hdX hdnS hdnX (by rw [hnX, Y.stackName]; decide)
  have xP := Cond.laysApart hdP hdX hdnP hdnX (by rw [hnX, Y.suppName]; decide)
  have hv0 : (freshCell P1.m.cls N.kN).slots[N.fState.slot]? = some (.int 0) := by
    have := fresh_default (c := P1.m.cls) tyX
    rw [htX] at this; exact this
  obtain ⟨tyB, dB, hdB, hdnB⟩ := Cond.laysAt hfound hk hffB (a' (.lays Bundle.nN Bundle.tN "backtrace" Bundle.objD) (by simp [Bundle.npeArmAtoms]))
  have bC := Cond.laysApart hdB hdC hdnB hdnC (by rw [hnB, Y.causeName]; decide)
  have bS := Cond.laysApart hdB hdS hdnB hdnS (by rw [hnB, Y.stackName]; decide)
  have bP := Cond.laysApart hdB hdP hdnB hdnP (by rw [hnB, Y.suppName]; decide)
  have bX := Cond.laysApart hdB hdX hdnB hdnX (by rw [hnB, hnX]; decide)
  have hbk : ((npeCell N.toNpeT (preparedCellV T.toThrowableT (freshCell P1.m.cls N.kN) W.heap.size u0 sen) W.cur).withEntry W.cur).slots[fB.slot]? = some .null := by
    have := fresh_default (c := P1.m.cls) tyB
    rw [htB] at this
    simpa [npeCell, preparedCellV, Cell.setSlot, Cell.withEntry, Array.getElem?_setIfInBounds, bC, bS, bP, bX, bC.symm, bS.symm, bP.symm, bX.symm, defaultValue] using this
  have tkC := Takes.of_laid (v := .ref W.heap.size) hk hordN tyC (by rw [Y.causeType]; rfl)
  have tkS := Takes.of_laid (v := u0.v) hk hordN tyS (by rw [Y.stackType]; exact fits_refV_array _ u0)
  have tkP := Takes.of_laid (v := sen.v) hk hordN tyP (by rw [Y.suppType]; exact fits_refV_object _ sen)
  have tkX := Takes.of_laid (v := .int 1) hk hordN tyX (by rw [htX]; rfl)
  have hskip : SkipFacts T e.platform s (fun u => u) u0 ((npeCell N.toNpeT (preparedCellV T.toThrowableT (freshCell P1.m.cls N.kN) W.heap.size u0 sen) W.cur).withEntry W.cur) := ⟨{ ci198 := ci198, i198 := i198, fBack := fB }, ⟨hk198, hg198, ha198, hsB⟩, hbk, fun _ _ => rfl⟩
  obtain ⟨vm', X3, st, -⟩ := X.throwsNpeColdBareVAt hexec hg hsize T L Z LZ N LN P1 L1 [PR, PE] hLs hlink1 ⟨hlinkR, hlinkE, trivial⟩ hfound hk hinit hordN hctor hsel0 hselF hcellS hknownS hvU hvSen
    hv0 xC xS xP tkC tkS tkP tkX Y.objLocals hskip (fun _ _ hA hW _ hroom _ hrest => L.nativeOff p htr hA hW hroom hrest) (by simpa using hRframes) hRlocals (by simp) hRcells (by rw [hn]; exact hRslots)
  have hlt : W.heap.size < ((W.pushCell (freshCell P1.m.cls N.kN)).setVm vm').heap.size := by
    show W.heap.size < (W.pushCell (freshCell P1.m.cls N.kN)).heap.size
    rw [State.heap_size_pushCell]; omega
  rw [hfsz] at X3
  obtain ⟨g₁, hfrM⟩ := X3.frames_eq
  have hU : ((((W.pushCell (freshCell P1.m.cls N.kN)).setVm vm').setCell W.heap.size (npeBareV T.toThrowableT N.toNpeT (freshCell P1.m.cls N.kN) W.heap.size u0 sen)).setTop g).pushFrame (.throwing W.heap.size) = (((W.pushCell (freshCell P1.m.cls N.kN)).setVm vm').setCell W.heap.size (npeBareV T.toThrowableT N.toNpeT (freshCell P1.m.cls N.kN) W.heap.size u0 sen)).setFrames (.throwing W.heap.size :: .java g :: below) := by
    rw [State.pushFrame, State.frames_setTop _ hfrM, State.setTop_of_frames _ hfrM, State.setFrames_setFrames]
  refine ⟨_, W.heap.size, _, fun target ht => st.trans (by rw [← hU]; exact ht), X3.forget (fun y hy => ?_), heapAt_setCell_self _ hlt, hfound, rfl⟩
  simp only [List.mem_cons, List.not_mem_nil, or_false] at hy
  have hge : s.heap.size ≤ W.heap.size := X.same.2.1
  rcases hy with rfl | rfl | rfl | rfl | rfl <;> exact hge
/-- the words of a machine's NullPointerException, but the four that speak of the heap -/
def vx_atN (n : Nat) : List Cond := (Bundle.npeArmAtoms n).filter vx_no
/-- the words of a machine's throw with a message, but the four that speak of the heap -/
def vx_atM (X : String) (names : List String) : List Cond := (Bundle.messageArmAtoms X names).filter vx_no
section
variable {p : Program} {l : Launch} {e : Env} {R : Room} {s : State} {m : MethodId} {args : Array Value} {below : List Frame} {meth : Method} {c : Code} {H : Heap} {locs : List Loc} {cells slots : Nat}
/-- a frame seen from a rebased start, seen from the first start again -/
theorem vx_back9 {T S : State} {R' : Room} {k n : Nat} (X : Stand p l e R s m args below meth c T locs cells slots) (Y : Stand p l e R' ((T.setVm s.vm).setFrames (.invoking m args :: below)) m args below meth c T [] 0 0) (Z : Stand p l e R' ((T.setVm s.vm).setFrames (.invoking m args :: below)) m args below meth c S [] k n) :
    Stand p l e R s m args below meth c S locs (cells + k) (slots + n) := by
  have hW0 : s.WarmedH ((T.setVm s.vm).setFrames (.invoking m args :: below)).vm := State.WarmedH.refl s
  refine { admits := X.admits, cas := X.cas, clock := X.clock, frames := X.frames, room := X.room, hears := X.hears, method := X.method, code := X.code, here := Z.here, tail := Z.tail, warmed := State.WarmedH.trans hW0 Z.warmed, limits := Z.limits.trans (Y.limits.symm.trans X.limits), bytes := Z.bytes.trans (Y.bytes.symm.trans X.bytes), same := ?_ }
  obtain ⟨e1, e2⟩ := Z.same
  rw [State.setFrames_setFrames] at e1
  have h2 : (T.setVm s.vm).sameButNew (S.setVm s.vm) [] k n := ⟨e1, e2⟩
  have h3 := X.same.trans h2
  rw [List.append_nil] at h3
  exact h3
/-- from the machine's note that E is thrown here with this text -/
def vx_Note (p : Program) (l : Launch) (e : Env) (R : Room) (s : State) (m : MethodId) (args : Array Value) (below : List Frame) (meth : Method) (c : Code) (H : Heap) (locs : List Loc) (cells slots : Nat) (Q : State → Prop) (g : JFrame) (E text : String) : Prop :=
  ∀ T : State, T.heap = H → Stand p l e R s m args below meth c T locs cells slots → ∃ t, Steps p.tables e below ((T.setTop g).pushFrame (.throwNew E (some text) none)) t ∧ Q t
theorem vx_vm {pc : Nat} {ls : Array Slot} {rest : List Value} {Q : State → Prop} (hexec : p.tables.exec = Jvm.exec) (hl : l.stackTraces = false) {cls text : String} {names : List String} {nb : Nat} {A : Nat → Prop}
    (hcls : Bundle.fit cls = true) (hnames : ∀ n ∈ names, Bundle.fit n = true) (hsoe : (cls == "java/lang/StackOverflowError") = false) (hoom : (cls == "java/lang/OutOfMemoryError") = false)
    (hat : ∀ w ∈ vx_atM cls names, w.before args s = true) (hgood : ∀ w ∈ vx_atM cls names, vx_ot w = true)
    (hU : vx_Zq Bundle.tN "UNASSIGNED_STACK" Bundle.steD A s s.heap) (hN : vx_Zq Bundle.tN "SUPPRESSED_SENTINEL" Bundle.listD A s s.heap) (hS : va_S A s.heap H locs) (hsize : ls.size = c.maxLocals)
    (htext : (text == notModelled) = false) (hnb : (stringBytes (stringToUtf16 text)).size ≤ nb) (hnb1 : nb ≤ 1000)
    (hRframes : names.length + 4 < R.frames) (hRlocals : (rest.map fun v => v.category).sum + 10240 ≤ R.locals) (hshort : 13 * names.length + 55 ≤ 10240) (hRcells : cells + 3 ≤ R.cells) (hRslots : slots + (nb + 10) ≤ R.slots) (hlocks : meth.locks = false)
    (k : ∀ (H1 : Heap) (q9 : Addr) (ce : Cell), H.size ≤ H1.size → (∀ q : Nat, q < H.size → H1[q]? = H[q]?) → va_S A s.heap H1 locs → H1[q9]? = some ce → ce.vm = .none → s.vm.findClass cls = some ce.cls → vx_W p l e R s m args below meth c H1 locs (cells + 3) (slots + (nb + 10)) Q (F0 m pc ls rest) q9) :
    vx_Note p l e R s m args below meth c H locs cells slots Q (F0 m pc ls rest) cls text := by
  intro T hT X
  have htr : e.platform.stackTraces = false := (show e.platform.stackTraces = l.stackTraces by rw [X.admits.platform]).trans hl
  have Y := vx_rebase X (R' := { frames := R.frames, locals := R.locals, cells := 3, slots := nb + 10 }) (Nat.le_refl _) (Nat.le_refl _) hRcells hRslots
  have hhp : ((T.setVm s.vm).setFrames (.invoking m args :: below)).heap = H := hT
  have hW0 : s.WarmedH ((T.setVm s.vm).setFrames (.invoking m args :: below)).vm := State.WarmedH.refl s
  have hat' : ∀ w ∈ vx_atM cls names, w.before args ((T.setVm s.vm).setFrames (.invoking m args :: below)) = true := fun w hw => vx_ot_at hW0 rfl (hgood w hw) (hat w hw)
  have hU' : vx_Zq Bundle.tN "UNASSIGNED_STACK" Bundle.steD A ((T.setVm s.vm).setFrames (.invoking m args :: below)) ((T.setVm s.vm).setFrames (.invoking m args :: below)).heap := by rw [hhp]; exact vx_Zq.moved hW0.alike (hU.kept hS.2.1)
  have hN' : vx_Zq Bundle.tN "SUPPRESSED_SENTINEL" Bundle.listD A ((T.setVm s.vm).setFrames (.invoking m args :: below)) ((T.setVm s.vm).setFrames (.invoking m args :: below)).heap := by rw [hhp]; exact vx_Zq.moved hW0.alike (hN.kept hS.2.1)
  obtain ⟨S, q, ce, st, Z, hce, hcl', hv⟩ := vx_vmAt Y hexec htr (cls := cls) (names := names) (text := text) hcls hnames hsoe hoom (vx_own hat' (vx_isRefq hU'.1) (vx_isRefq hN'.1) hU'.2.word hN'.2.word) (fun x hx => nomatch hx) htext
    (by rw [Launch.admits_arrayLengthLimit X.admits]; omega) (by rw [Launch.admits_maxHeapBytes X.admits]; simp only [componentBytes]; omega)
    (g := F0 m pc ls rest) rfl hsize hRframes (by show 2 * 0 + (rest.map fun v => v.category).sum + 10240 ≤ R.locals; omega) hshort (by show 0 + 3 ≤ 3; omega) (by show 0 + (_ + 4 + 6) ≤ nb + 10; omega) hlocks
  obtain ⟨f1, f2⟩ := vx_frame Z.same
  have f1' : H.size ≤ S.heap.size := by rw [← hT]; exact f1
  have f2' : ∀ q : Nat, q < H.size → S.heap[q]? = H[q]? := fun q hq => by
    rw [← hT]
    exact f2 q (by rw [← hT] at hq; exact hq) (fun z hz => nomatch hz)
  have X5 := vx_back9 X Y Z
  have X6 : Stand p l e R s m args below meth c S locs (cells + 3) (slots + (nb + 10)) := { X5 with same := X5.same.mono (by omega) (by omega) }
  obtain ⟨t, a1, b1⟩ := k S.heap q ce f1' f2' ⟨Nat.le_trans hS.1 f1', fun q h1 h2 => (f2' q (Nat.lt_of_lt_of_le h1 hS.1)).trans (hS.2.1 q h1 h2), hS.2.2⟩ hce hv hcl' S rfl X6
  exact ⟨t, st t a1, b1⟩
/-- from the machine's note that NullPointerException is thrown here -/
def vx_NoteN (p : Program) (l : Launch) (e : Env) (R : Room) (s : State) (m : MethodId) (args : Array Value) (below : List Frame) (meth : Method) (c : Code) (H : Heap) (locs : List Loc) (cells slots : Nat) (Q : State → Prop) (g : JFrame) : Prop :=
  ∀ T : State, T.heap = H → Stand p l e R s m args below meth c T locs cells slots → ∃ t, Steps p.tables e below ((T.setTop g).pushFrame (.throwNew "java/lang/NullPointerException" none none)) t ∧ Q t
theorem vx_npe {pc : Nat} {ls : Array Slot} {rest : List Value} {Q : State → Prop} (hexec : p.tables.exec = Jvm.exec) (hl : l.stackTraces = false) {nb : Nat} {A : Nat → Prop}
    (hat : ∀ w ∈ vx_atN nb, w.before args s = true) (hgood : ∀ w ∈ vx_atN nb, vx_ot w = true)
    (hU : vx_Zq Bundle.tN "UNASSIGNED_STACK" Bundle.steD A s s.heap) (hN : vx_Zq Bundle.tN "SUPPRESSED_SENTINEL" Bundle.listD A s s.heap) (hS : va_S A s.heap H locs) (hsize : ls.size = c.maxLocals)
    (hRframes : 7 < R.frames) (hRlocals : (rest.map fun v => v.category).sum + 10240 ≤ R.locals) (hRcells : cells + 1 ≤ R.cells) (hRslots : slots + nb ≤ R.slots) (hlocks : meth.locks = false)
    (k : ∀ (H1 : Heap) (q9 : Addr) (ce : Cell), H.size ≤ H1.size → (∀ q : Nat, q < H.size → H1[q]? = H[q]?) → va_S A s.heap H1 locs → H1[q9]? = some ce → ce.vm = .none → s.vm.findClass "java/lang/NullPointerException" = some ce.cls → vx_W p l e R s m args below meth c H1 locs (cells + 1) (slots + nb) Q (F0 m pc ls rest) q9) :
    vx_NoteN p l e R s m args below meth c H locs cells slots Q (F0 m pc ls rest) := by
  intro T hT X
  have htr : e.platform.stackTraces = false := (show e.platform.stackTraces = l.stackTraces by rw [X.admits.platform]).trans hl
  have Y := vx_rebase X (R' := { frames := R.frames, locals := R.locals, cells := 1, slots := nb }) (Nat.le_refl _) (Nat.le_refl _) hRcells hRslots
  have hhp : ((T.setVm s.vm).setFrames (.invoking m args :: below)).heap = H := hT
  have hW0 : s.WarmedH ((T.setVm s.vm).setFrames (.invoking m args :: below)).vm := State.WarmedH.refl s
  have hat' : ∀ w ∈ vx_atN nb, w.before args ((T.setVm s.vm).setFrames (.invoking m args :: below)) = true := fun w hw => vx_ot_at hW0 rfl (hgood w hw) (hat w hw)
  have hU' : vx_Zq Bundle.tN "UNASSIGNED_STACK" Bundle.steD A ((T.setVm s.vm).setFrames (.invoking m args :: below)) ((T.setVm s.vm).setFrames (.invoking m args :: below)).heap := by rw [hhp]; exact vx_Zq.moved hW0.alike (hU.kept hS.2.1)
  have hN' : vx_Zq Bundle.tN "SUPPRESSED_SENTINEL" Bundle.listD A ((T.setVm s.vm).setFrames (.invoking m args :: below)) ((T.setVm s.vm).setFrames (.invoking m args :: below)).heap := by rw [hhp]; exact vx_Zq.moved hW0.alike (hN.kept hS.2.1)
  obtain ⟨S, q, ce, st, Z, hce, hcl', hv⟩ := vx_npeAt Y hexec htr (n := nb) (vx_own hat' (vx_isRefq hU'.1) (vx_isRefq hN'.1) hU'.2.word hN'.2.word) (fun x hx => nomatch hx)
    (g := F0 m pc ls rest) rfl hsize hRframes (by show 2 * 0 + (rest.map fun v => v.category).sum + 10240 ≤ R.locals; omega) (by show 0 + 1 ≤ 1; omega) (by show 0 + nb ≤ nb; omega) hlocks
  obtain ⟨f1, f2⟩ := vx_frame Z.same
  have f1' : H.size ≤ S.heap.size := by rw [← hT]; exact f1
  have f2' : ∀ q : Nat, q < H.size → S.heap[q]? = H[q]? := fun q hq => by
    rw [← hT]
    exact f2 q (by rw [← hT] at hq; exact hq) (fun z hz => nomatch hz)
  have X5 := vx_back9 X Y Z
  have X6 : Stand p l e R s m args below meth c S locs (cells + 1) (slots + nb) := { X5 with same := X5.same.mono (by omega) (by omega) }
  obtain ⟨t, a1, b1⟩ := k S.heap q ce f1' f2' ⟨Nat.le_trans hS.1 f1', fun q h1 h2 => (f2' q (Nat.lt_of_lt_of_le h1 hS.1)).trans (hS.2.1 q h1 h2), hS.2.2⟩ hce hv hcl' S rfl X6
  exact ⟨t, st t a1, b1⟩
variable {Q : State → Prop} {cc : ByteArray} {pc : Nat} {ls : Array Slot} {rest : List Value}
theorem vx_idivZ (hexec : p.tables.exec = Jvm.exec) (hb : c.code = cc) {a b : Int32} (h0 : b = 0) (d : decode cc pc = .ok (.idiv, 1)) (k : vx_Note p l e R s m args below meth c H locs cells slots Q (F0 m pc ls rest) "java/lang/ArithmeticException" "/ by zero") :
    W p l e R s m args below meth c H locs cells slots Q (F0 m pc ls (.int b :: .int a :: rest)) := by
  intro T hT X
  obtain ⟨t, st, q⟩ := k T hT X
  exact ⟨t, X.idivZero hexec (g := F0 m pc ls (.int b :: .int a :: rest)) rfl (a := a) (rest := rest) (by rw [h0]) (by rw [hb]; exact d) t st, q⟩
theorem vx_iremZ (hexec : p.tables.exec = Jvm.exec) (hb : c.code = cc) {a b : Int32} (h0 : b = 0) (d : decode cc pc = .ok (.irem, 1)) (k : vx_Note p l e R s m args below meth c H locs cells slots Q (F0 m pc ls rest) "java/lang/ArithmeticException" "/ by zero") :
    W p l e R s m args below meth c H locs cells slots Q (F0 m pc ls (.int b :: .int a :: rest)) := by
  intro T hT X
  obtain ⟨t, st, q⟩ := k T hT X
  exact ⟨t, X.iremZero hexec (g := F0 m pc ls (.int b :: .int a :: rest)) rfl (a := a) (rest := rest) (by rw [h0]) (by rw [hb]; exact d) t st, q⟩
theorem vx_ldivZ (hexec : p.tables.exec = Jvm.exec) (hb : c.code = cc) {a b : Int64} (h0 : b = 0) (d : decode cc pc = .ok (.ldiv, 1)) (k : vx_Note p l e R s m args below meth c H locs cells slots Q (F0 m pc ls rest) "java/lang/ArithmeticException" "/ by zero") :
    W p l e R s m args below meth c H locs cells slots Q (F0 m pc ls (.long b :: .long a :: rest)) := by
  intro T hT X
  obtain ⟨t, st, q⟩ := k T hT X
  exact ⟨t, X.ldivZero hexec (g := F0 m pc ls (.long b :: .long a :: rest)) rfl (a := a) (rest := rest) (by rw [h0]) (by rw [hb]; exact d) t st, q⟩
theorem vx_lremZ (hexec : p.tables.exec = Jvm.exec) (hb : c.code = cc) {a b : Int64} (h0 : b = 0) (d : decode cc pc = .ok (.lrem, 1)) (k : vx_Note p l e R s m args below meth c H locs cells slots Q (F0 m pc ls rest) "java/lang/ArithmeticException" "/ by zero") :
    W p l e R s m args below meth c H locs cells slots Q (F0 m pc ls (.long b :: .long a :: rest)) := by
  intro T hT X
  obtain ⟨t, st, q⟩ := k T hT X
  exact ⟨t, X.lremZero hexec (g := F0 m pc ls (.long b :: .long a :: rest)) rfl (a := a) (rest := rest) (by rw [h0]) (by rw [hb]; exact d) t st, q⟩
theorem vx_ialdZ {D : va_G} {cl : List vw_C} {ws : va_W} {tys : List (ClassId × FieldType)} {a : Nat} (hexec : p.tables.exec = Jvm.exec) (hb : c.code = cc) (hK : va_K D cl tys s) (hP : va_P D cl ws H) (q0 t0 : Nat) {cA : ClassId} {n : Nat} {f : Nat → Int32} (ha : ws[q0]? = some (a, .inl (cA, n, .inl f))) (ht : tys[t0]? = some (cA, .int)) {i : Int32} (hout : ¬ vp_in i n) (hdg : decode cc pc = .ok (.iaload, 1))
    (k : ∀ tx : String, tx = (toString "Index " ++ toString i ++ toString " out of bounds for length " ++ toString n : String) → vx_Note p l e R s m args below meth c H locs cells slots Q (F0 m pc ls rest) "java/lang/ArrayIndexOutOfBoundsException" tx) : W p l e R s m args below meth c H locs cells slots Q (F0 m pc ls (.int i :: .ref a :: rest)) := by
  intro T hT X
  obtain ⟨t, st, q⟩ := k _ rfl T hT X
  refine ⟨t, ?_, q⟩
  have h1 := X.ialoadOut hexec (by rw [hT]; exact hP q0 _ ha) ((hK.2 t0 _ ht).1 n (fun j => .int (f j))) (j := i) (by show (i < 0 ∨ (arrV _ _ _).slots.size ≤ _); rw [arrV_size]; exact Classical.byContradiction hout) (g := F0 m pc ls (.int i :: .ref a :: rest)) rfl (rest := rest) rfl (by rw [hb]; exact hdg) t
  simp only [arrV_size] at h1
  exact h1 st
theorem vx_iastZ {D : va_G} {cl : List vw_C} {ws : va_W} {tys : List (ClassId × FieldType)} {a : Nat} (hexec : p.tables.exec = Jvm.exec) (hb : c.code = cc) (hK : va_K D cl tys s) (hP : va_P D cl ws H) (q0 t0 : Nat) {cA : ClassId} {n : Nat} {f : Nat → Int32} (ha : ws[q0]? = some (a, .inl (cA, n, .inl f))) (ht : tys[t0]? = some (cA, .int)) {i : Int32} {x : Int32} (hout : ¬ vp_in i n) (hdg : decode cc pc = .ok (.iastore, 1))
    (k : ∀ tx : String, tx = (toString "Index " ++ toString i ++ toString " out of bounds for length " ++ toString n : String) → vx_Note p l e R s m args below meth c H locs cells slots Q (F0 m pc ls rest) "java/lang/ArrayIndexOutOfBoundsException" tx) : W p l e R s m args below meth c H locs cells slots Q (F0 m pc ls (.int x :: .int i :: .ref a :: rest)) := by
  intro T hT X
  obtain ⟨t, st, q⟩ := k _ rfl T hT X
  refine ⟨t, ?_, q⟩
  have h1 := X.iastoreOut hexec (by rw [hT]; exact hP q0 _ ha) ((hK.2 t0 _ ht).1 n (fun j => .int (f j))) (j := i) (by show (i < 0 ∨ (arrV _ _ _).slots.size ≤ _); rw [arrV_size]; exact Classical.byContradiction hout) (g := F0 m pc ls (.int x :: .int i :: .ref a :: rest)) rfl (rest := rest) rfl (by rw [hb]; exact hdg) t
  simp only [arrV_size] at h1
  exact h1 st
theorem vx_baldZ {D : va_G} {cl : List vw_C} {ws : va_W} {tys : List (ClassId × FieldType)} {a : Nat} (hexec : p.tables.exec = Jvm.exec) (hb : c.code = cc) (hK : va_K D cl tys s) (hP : va_P D cl ws H) (q0 t0 : Nat) {cA : ClassId} {n : Nat} {f : Nat → Int32} (ha : ws[q0]? = some (a, .inl (cA, n, .inl f))) (ht : tys[t0]? = some (cA, .byte)) {i : Int32} (hout : ¬ vp_in i n) (hdg : decode cc pc = .ok (.baload, 1))
    (k : ∀ tx : String, tx = (toString "Index " ++ toString i ++ toString " out of bounds for length " ++ toString n : String) → vx_Note p l e R s m args below meth c H locs cells slots Q (F0 m pc ls rest) "java/lang/ArrayIndexOutOfBoundsException" tx) : W p l e R s m args below meth c H locs cells slots Q (F0 m pc ls (.int i :: .ref a :: rest)) := by
  intro T hT X
  obtain ⟨t, st, q⟩ := k _ rfl T hT X
  refine ⟨t, ?_, q⟩
  have h1 := X.baloadOut hexec (by rw [hT]; exact hP q0 _ ha) ((hK.2 t0 _ ht).1 n (fun j => .int (f j))) (j := i) (by show (i < 0 ∨ (arrV _ _ _).slots.size ≤ _); rw [arrV_size]; exact Classical.byContradiction hout) (g := F0 m pc ls (.int i :: .ref a :: rest)) rfl (rest := rest) rfl (by rw [hb]; exact hdg) t
  simp only [arrV_size] at h1
  exact h1 st
theorem vx_bastZ {D : va_G} {cl : List vw_C} {ws : va_W} {tys : List (ClassId × FieldType)} {a : Nat} (hexec : p.tables.exec = Jvm.exec) (hb : c.code = cc) (hK : va_K D cl tys s) (hP : va_P D cl ws H) (q0 t0 : Nat) {cA : ClassId} {n : Nat} {f : Nat → Int32} (ha : ws[q0]? = some (a, .inl (cA, n, .inl f))) (ht : tys[t0]? = some (cA, .byte)) {i : Int32} {x : Int32} (hout : ¬ vp_in i n) (hdg : decode cc pc = .ok (.bastore, 1))
    (k : ∀ tx : String, tx = (toString "Index " ++ toString i ++ toString " out of bounds for length " ++ toString n : String) → vx_Note p l e R s m args below meth c H locs cells slots Q (F0 m pc ls rest) "java/lang/ArrayIndexOutOfBoundsException" tx) : W p l e R s m args below meth c H locs cells slots Q (F0 m pc ls (.int x :: .int i :: .ref a :: rest)) := by
  intro T hT X
  obtain ⟨t, st, q⟩ := k _ rfl T hT X
  refine ⟨t, ?_, q⟩
  have h1 := X.bastoreOut hexec (by rw [hT]; exact hP q0 _ ha) ((hK.2 t0 _ ht).1 n (fun j => .int (f j))) (j := i) (by show (i < 0 ∨ (arrV _ _ _).slots.size ≤ _); rw [arrV_size]; exact Classical.byContradiction hout) (g := F0 m pc ls (.int x :: .int i :: .ref a :: rest)) rfl (rest := rest) rfl (by rw [hb]; exact hdg) t
  simp only [arrV_size] at h1
  exact h1 st
theorem vx_zaldZ {D : va_G} {cl : List vw_C} {ws : va_W} {tys : List (ClassId × FieldType)} {a : Nat} (hexec : p.tables.exec = Jvm.exec) (hb : c.code = cc) (hK : va_K D cl tys s) (hP : va_P D cl ws H) (q0 t0 : Nat) {cA : ClassId} {n : Nat} {f : Nat → Int32} (ha : ws[q0]? = some (a, .inl (cA, n, .inl f))) (ht : tys[t0]? = some (cA, .boolean)) {i : Int32} (hout : ¬ vp_in i n) (hdg : decode cc pc = .ok (.baload, 1))
    (k : ∀ tx : String, tx = (toString "Index " ++ toString i ++ toString " out of bounds for length " ++ toString n : String) → vx_Note p l e R s m args below meth c H locs cells slots Q (F0 m pc ls rest) "java/lang/ArrayIndexOutOfBoundsException" tx) : W p l e R s m args below meth c H locs cells slots Q (F0 m pc ls (.int i :: .ref a :: rest)) := by
  intro T hT X
  obtain ⟨t, st, q⟩ := k _ rfl T hT X
  refine ⟨t, ?_, q⟩
  have h1 := X.baloadOut hexec (by rw [hT]; exact hP q0 _ ha) ((hK.2 t0 _ ht).1 n (fun j => .int (f j))) (j := i) (by show (i < 0 ∨ (arrV _ _ _).slots.size ≤ _); rw [arrV_size]; exact Classical.byContradiction hout) (g := F0 m pc ls (.int i :: .ref a :: rest)) rfl (rest := rest) rfl (by rw [hb]; exact hdg) t
  simp only [arrV_size] at h1
  exact h1 st
theorem vx_zastZ {D : va_G} {cl : List vw_C} {ws : va_W} {tys : List (ClassId × FieldType)} {a : Nat} (hexec : p.tables.exec = Jvm.exec) (hb : c.code = cc) (hK : va_K D cl tys s) (hP : va_P D cl ws H) (q0 t0 : Nat) {cA : ClassId} {n : Nat} {f : Nat → Int32} (ha : ws[q0]? = some (a, .inl (cA, n, .inl f))) (ht : tys[t0]? = some (cA, .boolean)) {i : Int32} {x : Int32} (hout : ¬ vp_in i n) (hdg : decode cc pc = .ok (.bastore, 1))
    (k : ∀ tx : String, tx = (toString "Index " ++ toString i ++ toString " out of bounds for length " ++ toString n : String) → vx_Note p l e R s m args below meth c H locs cells slots Q (F0 m pc ls rest) "java/lang/ArrayIndexOutOfBoundsException" tx) : W p l e R s m args below meth c H locs cells slots Q (F0 m pc ls (.int x :: .int i :: .ref a :: rest)) := by
  intro T hT X
  obtain ⟨t, st, q⟩ := k _ rfl T hT X
  refine ⟨t, ?_, q⟩
  have h1 := X.bastoreOut hexec (by rw [hT]; exact hP q0 _ ha) ((hK.2 t0 _ ht).1 n (fun j => .int (f j))) (j := i) (by show (i < 0 ∨ (arrV _ _ _).slots.size ≤ _); rw [arrV_size]; exact Classical.byContradiction hout) (g := F0 m pc ls (.int x :: .int i :: .ref a :: rest)) rfl (rest := rest) rfl (by rw [hb]; exact hdg) t
  simp only [arrV_size] at h1
  exact h1 st
theorem vx_caldZ {D : va_G} {cl : List vw_C} {ws : va_W} {tys : List (ClassId × FieldType)} {a : Nat} (hexec : p.tables.exec = Jvm.exec) (hb : c.code = cc) (hK : va_K D cl tys s) (hP : va_P D cl ws H) (q0 t0 : Nat) {cA : ClassId} {n : Nat} {f : Nat → Int32} (ha : ws[q0]? = some (a, .inl (cA, n, .inl f))) (ht : tys[t0]? = some (cA, .char)) {i : Int32} (hout : ¬ vp_in i n) (hdg : decode cc pc = .ok (.caload, 1))
    (k : ∀ tx : String, tx = (toString "Index " ++ toString i ++ toString " out of bounds for length " ++ toString n : String) → vx_Note p l e R s m args below meth c H locs cells slots Q (F0 m pc ls rest) "java/lang/ArrayIndexOutOfBoundsException" tx) : W p l e R s m args below meth c H locs cells slots Q (F0 m pc ls (.int i :: .ref a :: rest)) := by
  intro T hT X
  obtain ⟨t, st, q⟩ := k _ rfl T hT X
  refine ⟨t, ?_, q⟩
  have h1 := X.caloadOut hexec (by rw [hT]; exact hP q0 _ ha) ((hK.2 t0 _ ht).1 n (fun j => .int (f j))) (j := i) (by show (i < 0 ∨ (arrV _ _ _).slots.size ≤ _); rw [arrV_size]; exact Classical.byContradiction hout) (g := F0 m pc ls (.int i :: .ref a :: rest)) rfl (rest := rest) rfl (by rw [hb]; exact hdg) t
  simp only [arrV_size] at h1
  exact h1 st
theorem vx_castZ {D : va_G} {cl : List vw_C} {ws : va_W} {tys : List (ClassId × FieldType)} {a : Nat} (hexec : p.tables.exec = Jvm.exec) (hb : c.code = cc) (hK : va_K D cl tys s) (hP : va_P D cl ws H) (q0 t0 : Nat) {cA : ClassId} {n : Nat} {f : Nat → Int32} (ha : ws[q0]? = some (a, .inl (cA, n, .inl f))) (ht : tys[t0]? = some (cA, .char)) {i : Int32} {x : Int32} (hout : ¬ vp_in i n) (hdg : decode cc pc = .ok (.castore, 1))
    (k : ∀ tx : String, tx = (toString "Index " ++ toString i ++ toString " out of bounds for length " ++ toString n : String) → vx_Note p l e R s m args below meth c H locs cells slots Q (F0 m pc ls rest) "java/lang/ArrayIndexOutOfBoundsException" tx) : W p l e R s m args below meth c H locs cells slots Q (F0 m pc ls (.int x :: .int i :: .ref a :: rest)) := by
  intro T hT X
  obtain ⟨t, st, q⟩ := k _ rfl T hT X
  refine ⟨t, ?_, q⟩
  have h1 := X.castoreOut hexec (by rw [hT]; exact hP q0 _ ha) ((hK.2 t0 _ ht).1 n (fun j => .int (f j))) (j := i) (by show (i < 0 ∨ (arrV _ _ _).slots.size ≤ _); rw [arrV_size]; exact Classical.byContradiction hout) (g := F0 m pc ls (.int x :: .int i :: .ref a :: rest)) rfl (rest := rest) rfl (by rw [hb]; exact hdg) t
  simp only [arrV_size] at h1
  exact h1 st
theorem vx_saldZ {D : va_G} {cl : List vw_C} {ws : va_W} {tys : List (ClassId × FieldType)} {a : Nat} (hexec : p.tables.exec = Jvm.exec) (hb : c.code = cc) (hK : va_K D cl tys s) (hP : va_P D cl ws H) (q0 t0 : Nat) {cA : ClassId} {n : Nat} {f : Nat → Int32} (ha : ws[q0]? = some (a, .inl (cA, n, .inl f))) (ht : tys[t0]? = some (cA, .short)) {i : Int32} (hout : ¬ vp_in i n) (hdg : decode cc pc = .ok (.saload, 1))
    (k : ∀ tx : String, tx = (toString "Index " ++ toString i ++ toString " out of bounds for length " ++ toString n : String) → vx_Note p l e R s m args below meth c H locs cells slots Q (F0 m pc ls rest) "java/lang/ArrayIndexOutOfBoundsException" tx) : W p l e R s m args below meth c H locs cells slots Q (F0 m pc ls (.int i :: .ref a :: rest)) := by
  intro T hT X
  obtain ⟨t, st, q⟩ := k _ rfl T hT X
  refine ⟨t, ?_, q⟩
  have h1 := X.saloadOut hexec (by rw [hT]; exact hP q0 _ ha) ((hK.2 t0 _ ht).1 n (fun j => .int (f j))) (j := i) (by show (i < 0 ∨ (arrV _ _ _).slots.size ≤ _); rw [arrV_size]; exact Classical.byContradiction hout) (g := F0 m pc ls (.int i :: .ref a :: rest)) rfl (rest := rest) rfl (by rw [hb]; exact hdg) t
  simp only [arrV_size] at h1
  exact h1 st
theorem vx_sastZ {D : va_G} {cl : List vw_C} {ws : va_W} {tys : List (ClassId × FieldType)} {a : Nat} (hexec : p.tables.exec = Jvm.exec) (hb : c.code = cc) (hK : va_K D cl tys s) (hP : va_P D cl ws H) (q0 t0 : Nat) {cA : ClassId} {n : Nat} {f : Nat → Int32} (ha : ws[q0]? = some (a, .inl (cA, n, .inl f))) (ht : tys[t0]? = some (cA, .short)) {i : Int32} {x : Int32} (hout : ¬ vp_in i n) (hdg : decode cc pc = .ok (.sastore, 1))
    (k : ∀ tx : String, tx = (toString "Index " ++ toString i ++ toString " out of bounds for length " ++ toString n : String) → vx_Note p l e R s m args below meth c H locs cells slots Q (F0 m pc ls rest) "java/lang/ArrayIndexOutOfBoundsException" tx) : W p l e R s m args below meth c H locs cells slots Q (F0 m pc ls (.int x :: .int i :: .ref a :: rest)) := by
  intro T hT X
  obtain ⟨t, st, q⟩ := k _ rfl T hT X
  refine ⟨t, ?_, q⟩
  have h1 := X.sastoreOut hexec (by rw [hT]; exact hP q0 _ ha) ((hK.2 t0 _ ht).1 n (fun j => .int (f j))) (j := i) (by show (i < 0 ∨ (arrV _ _ _).slots.size ≤ _); rw [arrV_size]; exact Classical.byContradiction hout) (g := F0 m pc ls (.int x :: .int i :: .ref a :: rest)) rfl (rest := rest) rfl (by rw [hb]; exact hdg) t
  simp only [arrV_size] at h1
  exact h1 st
theorem vx_laldZ {D : va_G} {cl : List vw_C} {ws : va_W} {tys : List (ClassId × FieldType)} {a : Nat} (hexec : p.tables.exec = Jvm.exec) (hb : c.code = cc) (hK : va_K D cl tys s) (hP : va_P D cl ws H) (q0 t0 : Nat) {cA : ClassId} {n : Nat} {f : Nat → Int64} (ha : ws[q0]? = some (a, .inl (cA, n, .inr (.inl f)))) (ht : tys[t0]? = some (cA, .long)) {i : Int32} (hout : ¬ vp_in i n) (hdg : decode cc pc = .ok (.laload, 1))
    (k : ∀ tx : String, tx = (toString "Index " ++ toString i ++ toString " out of bounds for length " ++ toString n : String) → vx_Note p l e R s m args below meth c H locs cells slots Q (F0 m pc ls rest) "java/lang/ArrayIndexOutOfBoundsException" tx) : W p l e R s m args below meth c H locs cells slots Q (F0 m pc ls (.int i :: .ref a :: rest)) := by
  intro T hT X
  obtain ⟨t, st, q⟩ := k _ rfl T hT X
  refine ⟨t, ?_, q⟩
  have h1 := X.laloadOut hexec (by rw [hT]; exact hP q0 _ ha) ((hK.2 t0 _ ht).1 n (fun j => .long (f j))) (j := i) (by show (i < 0 ∨ (arrV _ _ _).slots.size ≤ _); rw [arrV_size]; exact Classical.byContradiction hout) (g := F0 m pc ls (.int i :: .ref a :: rest)) rfl (rest := rest) rfl (by rw [hb]; exact hdg) t
  simp only [arrV_size] at h1
  exact h1 st
theorem vx_lastZ {D : va_G} {cl : List vw_C} {ws : va_W} {tys : List (ClassId × FieldType)} {a : Nat} (hexec : p.tables.exec = Jvm.exec) (hb : c.code = cc) (hK : va_K D cl tys s) (hP : va_P D cl ws H) (q0 t0 : Nat) {cA : ClassId} {n : Nat} {f : Nat → Int64} (ha : ws[q0]? = some (a, .inl (cA, n, .inr (.inl f)))) (ht : tys[t0]? = some (cA, .long)) {i : Int32} {x : Int64} (hout : ¬ vp_in i n) (hdg : decode cc pc = .ok (.lastore, 1))
    (k : ∀ tx : String, tx = (toString "Index " ++ toString i ++ toString " out of bounds for length " ++ toString n : String) → vx_Note p l e R s m args below meth c H locs cells slots Q (F0 m pc ls rest) "java/lang/ArrayIndexOutOfBoundsException" tx) : W p l e R s m args below meth c H locs cells slots Q (F0 m pc ls (.long x :: .int i :: .ref a :: rest)) := by
  intro T hT X
  obtain ⟨t, st, q⟩ := k _ rfl T hT X
  refine ⟨t, ?_, q⟩
  have h1 := X.lastoreOut hexec (by rw [hT]; exact hP q0 _ ha) ((hK.2 t0 _ ht).1 n (fun j => .long (f j))) (j := i) (by show (i < 0 ∨ (arrV _ _ _).slots.size ≤ _); rw [arrV_size]; exact Classical.byContradiction hout) (g := F0 m pc ls (.long x :: .int i :: .ref a :: rest)) rfl (rest := rest) rfl (by rw [hb]; exact hdg) t
  simp only [arrV_size] at h1
  exact h1 st
theorem vx_faldZ {D : va_G} {cl : List vw_C} {ws : va_W} {tys : List (ClassId × FieldType)} {a : Nat} (hexec : p.tables.exec = Jvm.exec) (hb : c.code = cc) (hK : va_K D cl tys s) (hP : va_P D cl ws H) (q0 t0 : Nat) {cA : ClassId} {n : Nat} {f : Nat → UInt32} (ha : ws[q0]? = some (a, .inl (cA, n, .inr (.inr (.inl f))))) (ht : tys[t0]? = some (cA, .float)) {i : Int32} (hout : ¬ vp_in i n) (hdg : decode cc pc = .ok (.faload, 1))
    (k : ∀ tx : String, tx = (toString "Index " ++ toString i ++ toString " out of bounds for length " ++ toString n : String) → vx_Note p l e R s m args below meth c H locs cells slots Q (F0 m pc ls rest) "java/lang/ArrayIndexOutOfBoundsException" tx) : W p l e R s m args below meth c H locs cells slots Q (F0 m pc ls (.int i :: .ref a :: rest)) := by
  intro T hT X
  obtain ⟨t, st, q⟩ := k _ rfl T hT X
  refine ⟨t, ?_, q⟩
  have h1 := X.faloadOut hexec (by rw [hT]; exact hP q0 _ ha) ((hK.2 t0 _ ht).1 n (fun j => .float (f j))) (j := i) (by show (i < 0 ∨ (arrV _ _ _).slots.size ≤ _); rw [arrV_size]; exact Classical.byContradiction hout) (g := F0 m pc ls (.int i :: .ref a :: rest)) rfl (rest := rest) rfl (by rw [hb]; exact hdg) t
  simp only [arrV_size] at h1
  exact h1 st
theorem vx_fastZ {D : va_G} {cl : List vw_C} {ws : va_W} {tys : List (ClassId × FieldType)} {a : Nat} (hexec : p.tables.exec = Jvm.exec) (hb : c.code = cc) (hK : va_K D cl tys s) (hP : va_P D cl ws H) (q0 t0 : Nat) {cA : ClassId} {n : Nat} {f : Nat → UInt32} (ha : ws[q0]? = some (a, .inl (cA, n, .inr (.inr (.inl f))))) (ht : tys[t0]? = some (cA, .float)) {i : Int32} {x : UInt32} (hout : ¬ vp_in i n) (hdg : decode cc pc = .ok (.fastore, 1))
    (k : ∀ tx : String, tx = (toString "Index " ++ toString i ++ toString " out of bounds for length " ++ toString n : String) → vx_Note p l e R s m args below meth c H locs cells slots Q (F0 m pc ls rest) "java/lang/ArrayIndexOutOfBoundsException" tx) : W p l e R s m args below meth c H locs cells slots Q (F0 m pc ls (.float x :: .int i :: .ref a :: rest)) := by
  intro T hT X
  obtain ⟨t, st, q⟩ := k _ rfl T hT X
  refine ⟨t, ?_, q⟩
  have h1 := X.fastoreOut hexec (by rw [hT]; exact hP q0 _ ha) ((hK.2 t0 _ ht).1 n (fun j => .float (f j))) (j := i) (by show (i < 0 ∨ (arrV _ _ _).slots.size ≤ _); rw [arrV_size]; exact Classical.byContradiction hout) (g := F0 m pc ls (.float x :: .int i :: .ref a :: rest)) rfl (rest := rest) rfl (by rw [hb]; exact hdg) t
  simp only [arrV_size] at h1
  exact h1 st
theorem vx_daldZ {D : va_G} {cl : List vw_C} {ws : va_W} {tys : List (ClassId × FieldType)} {a : Nat} (hexec : p.tables.exec = Jvm.exec) (hb : c.code = cc) (hK : va_K D cl tys s) (hP : va_P D cl ws H) (q0 t0 : Nat) {cA : ClassId} {n : Nat} {f : Nat → UInt64} (ha : ws[q0]? = some (a, .inl (cA, n, .inr (.inr (.inr (.inl f)))))) (ht : tys[t0]? = some (cA, .double)) {i : Int32} (hout : ¬ vp_in i n) (hdg : decode cc pc = .ok (.daload, 1))
    (k : ∀ tx : String, tx = (toString "Index " ++ toString i ++ toString " out of bounds for length " ++ toString n : String) → vx_Note p l e R s m args below meth c H locs cells slots Q (F0 m pc ls rest) "java/lang/ArrayIndexOutOfBoundsException" tx) : W p l e R s m args below meth c H locs cells slots Q (F0 m pc ls (.int i :: .ref a :: rest)) := by
  intro T hT X
  obtain ⟨t, st, q⟩ := k _ rfl T hT X
  refine ⟨t, ?_, q⟩
  have h1 := X.daloadOut hexec (by rw [hT]; exact hP q0 _ ha) ((hK.2 t0 _ ht).1 n (fun j => .double (f j))) (j := i) (by show (i < 0 ∨ (arrV _ _ _).slots.size ≤ _); rw [arrV_size]; exact Classical.byContradiction hout) (g := F0 m pc ls (.int i :: .ref a :: rest)) rfl (rest := rest) rfl (by rw [hb]; exact hdg) t
  simp only [arrV_size] at h1
  exact h1 st
theorem vx_dastZ {D : va_G} {cl : List vw_C} {ws : va_W} {tys : List (ClassId × FieldType)} {a : Nat} (hexec : p.tables.exec = Jvm.exec) (hb : c.code = cc) (hK : va_K D cl tys s) (hP : va_P D cl ws H) (q0 t0 : Nat) {cA : ClassId} {n : Nat} {f : Nat → UInt64} (ha : ws[q0]? = some (a, .inl (cA, n, .inr (.inr (.inr (.inl f)))))) (ht : tys[t0]? = some (cA, .double)) {i : Int32} {x : UInt64} (hout : ¬ vp_in i n) (hdg : decode cc pc = .ok (.dastore, 1))
    (k : ∀ tx : String, tx = (toString "Index " ++ toString i ++ toString " out of bounds for length " ++ toString n : String) → vx_Note p l e R s m args below meth c H locs cells slots Q (F0 m pc ls rest) "java/lang/ArrayIndexOutOfBoundsException" tx) : W p l e R s m args below meth c H locs cells slots Q (F0 m pc ls (.double x :: .int i :: .ref a :: rest)) := by
  intro T hT X
  obtain ⟨t, st, q⟩ := k _ rfl T hT X
  refine ⟨t, ?_, q⟩
  have h1 := X.dastoreOut hexec (by rw [hT]; exact hP q0 _ ha) ((hK.2 t0 _ ht).1 n (fun j => .double (f j))) (j := i) (by show (i < 0 ∨ (arrV _ _ _).slots.size ≤ _); rw [arrV_size]; exact Classical.byContradiction hout) (g := F0 m pc ls (.double x :: .int i :: .ref a :: rest)) rfl (rest := rest) rfl (by rw [hb]; exact hdg) t
  simp only [arrV_size] at h1
  exact h1 st
theorem vx_arraylengthN (hexec : p.tables.exec = Jvm.exec) (hb : c.code = cc) (hdg : decode cc pc = .ok (.arraylength, 1)) (k : vx_NoteN p l e R s m args below meth c H locs cells slots Q (F0 m pc ls rest)) : W p l e R s m args below meth c H locs cells slots Q (F0 m pc ls (.null :: rest)) := by
  intro T hT X
  obtain ⟨t, st, q⟩ := k T hT X
  exact ⟨t, X.arraylengthNull hexec (g := F0 m pc ls (.null :: rest)) rfl (rest := rest) rfl (by rw [hb]; exact hdg) t st, q⟩
theorem vx_ialoadN (hexec : p.tables.exec = Jvm.exec) (hb : c.code = cc) {i : Int32} (hdg : decode cc pc = .ok (.iaload, 1)) (k : vx_NoteN p l e R s m args below meth c H locs cells slots Q (F0 m pc ls rest)) : W p l e R s m args below meth c H locs cells slots Q (F0 m pc ls (.int i :: .null :: rest)) := by
  intro T hT X
  obtain ⟨t, st, q⟩ := k T hT X
  exact ⟨t, X.ialoadNull hexec (g := F0 m pc ls (.int i :: .null :: rest)) rfl (rest := rest) rfl (by rw [hb]; exact hdg) t st, q⟩
theorem vx_laloadN (hexec : p.tables.exec = Jvm.exec) (hb : c.code = cc) {i : Int32} (hdg : decode cc pc = .ok (.laload, 1)) (k : vx_NoteN p l e R s m args below meth c H locs cells slots Q (F0 m pc ls rest)) : W p l e R s m args below meth c H locs cells slots Q (F0 m pc ls (.int i :: .null :: rest)) := by
  intro T hT X
  obtain ⟨t, st, q⟩ := k T hT X
  exact ⟨t, X.laloadNull hexec (g := F0 m pc ls (.int i :: .null :: rest)) rfl (rest := rest) rfl (by rw [hb]; exact hdg) t st, q⟩
theorem vx_faloadN (hexec : p.tables.exec = Jvm.exec) (hb : c.code = cc) {i : Int32} (hdg : decode cc pc = .ok (.faload, 1)) (k : vx_NoteN p l e R s m args below meth c H locs cells slots Q (F0 m pc ls rest)) : W p l e R s m args below meth c H locs cells slots Q (F0 m pc ls (.int i :: .null :: rest)) := by
  intro T hT X
  obtain ⟨t, st, q⟩ := k T hT X
  exact ⟨t, X.faloadNull hexec (g := F0 m pc ls (.int i :: .null :: rest)) rfl (rest := rest) rfl (by rw [hb]; exact hdg) t st, q⟩
theorem vx_daloadN (hexec : p.tables.exec = Jvm.exec) (hb : c.code = cc) {i : Int32} (hdg : decode cc pc = .ok (.daload, 1)) (k : vx_NoteN p l e R s m args below meth c H locs cells slots Q (F0 m pc ls rest)) : W p l e R s m args below meth c H locs cells slots Q (F0 m pc ls (.int i :: .null :: rest)) := by
  intro T hT X
  obtain ⟨t, st, q⟩ := k T hT X
  exact ⟨t, X.daloadNull hexec (g := F0 m pc ls (.int i :: .null :: rest)) rfl (rest := rest) rfl (by rw [hb]; exact hdg) t st, q⟩
theorem vx_aaloadN (hexec : p.tables.exec = Jvm.exec) (hb : c.code = cc) {i : Int32} (hdg : decode cc pc = .ok (.aaload, 1)) (k : vx_NoteN p l e R s m args below meth c H locs cells slots Q (F0 m pc ls rest)) : W p l e R s m args below meth c H locs cells slots Q (F0 m pc ls (.int i :: .null :: rest)) := by
  intro T hT X
  obtain ⟨t, st, q⟩ := k T hT X
  exact ⟨t, X.aaloadNull hexec (g := F0 m pc ls (.int i :: .null :: rest)) rfl (rest := rest) rfl (by rw [hb]; exact hdg) t st, q⟩
theorem vx_baloadN (hexec : p.tables.exec = Jvm.exec) (hb : c.code = cc) {i : Int32} (hdg : decode cc pc = .ok (.baload, 1)) (k : vx_NoteN p l e R s m args below meth c H locs cells slots Q (F0 m pc ls rest)) : W p l e R s m args below meth c H locs cells slots Q (F0 m pc ls (.int i :: .null :: rest)) := by
  intro T hT X
  obtain ⟨t, st, q⟩ := k T hT X
  exact ⟨t, X.baloadNull hexec (g := F0 m pc ls (.int i :: .null :: rest)) rfl (rest := rest) rfl (by rw [hb]; exact hdg) t st, q⟩
theorem vx_caloadN (hexec : p.tables.exec = Jvm.exec) (hb : c.code = cc) {i : Int32} (hdg : decode cc pc = .ok (.caload, 1)) (k : vx_NoteN p l e R s m args below meth c H locs cells slots Q (F0 m pc ls rest)) : W p l e R s m args below meth c H locs cells slots Q (F0 m pc ls (.int i :: .null :: rest)) := by
  intro T hT X
  obtain ⟨t, st, q⟩ := k T hT X
  exact ⟨t, X.caloadNull hexec (g := F0 m pc ls (.int i :: .null :: rest)) rfl (rest := rest) rfl (by rw [hb]; exact hdg) t st, q⟩
theorem vx_saloadN (hexec : p.tables.exec = Jvm.exec) (hb : c.code = cc) {i : Int32} (hdg : decode cc pc = .ok (.saload, 1)) (k : vx_NoteN p l e R s m args below meth c H locs cells slots Q (F0 m pc ls rest)) : W p l e R s m args below meth c H locs cells slots Q (F0 m pc ls (.int i :: .null :: rest)) := by
  intro T hT X
  obtain ⟨t, st, q⟩ := k T hT X
  exact ⟨t, X.saloadNull hexec (g := F0 m pc ls (.int i :: .null :: rest)) rfl (rest := rest) rfl (by rw [hb]; exact hdg) t st, q⟩
theorem vx_iastoreN (hexec : p.tables.exec = Jvm.exec) (hb : c.code = cc) {x : Int32} {i : Int32} (hdg : decode cc pc = .ok (.iastore, 1)) (k : vx_NoteN p l e R s m args below meth c H locs cells slots Q (F0 m pc ls rest)) : W p l e R s m args below meth c H locs cells slots Q (F0 m pc ls (.int x :: .int i :: .null :: rest)) := by
  intro T hT X
  obtain ⟨t, st, q⟩ := k T hT X
  exact ⟨t, X.iastoreNull hexec (g := F0 m pc ls (.int x :: .int i :: .null :: rest)) rfl (rest := rest) rfl (by rw [hb]; exact hdg) t st, q⟩
theorem vx_lastoreN (hexec : p.tables.exec = Jvm.exec) (hb : c.code = cc) {x : Int64} {i : Int32} (hdg : decode cc pc = .ok (.lastore, 1)) (k : vx_NoteN p l e R s m args below meth c H locs cells slots Q (F0 m pc ls rest)) : W p l e R s m args below meth c H locs cells slots Q (F0 m pc ls (.long x :: .int i :: .null :: rest)) := by
  intro T hT X
  obtain ⟨t, st, q⟩ := k T hT X
  exact ⟨t, X.lastoreNull hexec (g := F0 m pc ls (.long x :: .int i :: .null :: rest)) rfl (rest := rest) rfl (by rw [hb]; exact hdg) t st, q⟩
theorem vx_fastoreN (hexec : p.tables.exec = Jvm.exec) (hb : c.code = cc) {x : UInt32} {i : Int32} (hdg : decode cc pc = .ok (.fastore, 1)) (k : vx_NoteN p l e R s m args below meth c H locs cells slots Q (F0 m pc ls rest)) : W p l e R s m args below meth c H locs cells slots Q (F0 m pc ls (.float x :: .int i :: .null :: rest)) := by
  intro T hT X
  obtain ⟨t, st, q⟩ := k T hT X
  exact ⟨t, X.fastoreNull hexec (g := F0 m pc ls (.float x :: .int i :: .null :: rest)) rfl (rest := rest) rfl (by rw [hb]; exact hdg) t st, q⟩
theorem vx_dastoreN (hexec : p.tables.exec = Jvm.exec) (hb : c.code = cc) {x : UInt64} {i : Int32} (hdg : decode cc pc = .ok (.dastore, 1)) (k : vx_NoteN p l e R s m args below meth c H locs cells slots Q (F0 m pc ls rest)) : W p l e R s m args below meth c H locs cells slots Q (F0 m pc ls (.double x :: .int i :: .null :: rest)) := by
  intro T hT X
  obtain ⟨t, st, q⟩ := k T hT X
  exact ⟨t, X.dastoreNull hexec (g := F0 m pc ls (.double x :: .int i :: .null :: rest)) rfl (rest := rest) rfl (by rw [hb]; exact hdg) t st, q⟩
theorem vx_bastoreN (hexec : p.tables.exec = Jvm.exec) (hb : c.code = cc) {x : Int32} {i : Int32} (hdg : decode cc pc = .ok (.bastore, 1)) (k : vx_NoteN p l e R s m args below meth c H locs cells slots Q (F0 m pc ls rest)) : W p l e R s m args below meth c H locs cells slots Q (F0 m pc ls (.int x :: .int i :: .null :: rest)) := by
  intro T hT X
  obtain ⟨t, st, q⟩ := k T hT X
  exact ⟨t, X.bastoreNull hexec (g := F0 m pc ls (.int x :: .int i :: .null :: rest)) rfl (rest := rest) rfl (by rw [hb]; exact hdg) t st, q⟩
theorem vx_castoreN (hexec : p.tables.exec = Jvm.exec) (hb : c.code = cc) {x : Int32} {i : Int32} (hdg : decode cc pc = .ok (.castore, 1)) (k : vx_NoteN p l e R s m args below meth c H locs cells slots Q (F0 m pc ls rest)) : W p l e R s m args below meth c H locs cells slots Q (F0 m pc ls (.int x :: .int i :: .null :: rest)) := by
  intro T hT X
  obtain ⟨t, st, q⟩ := k T hT X
  exact ⟨t, X.castoreNull hexec (g := F0 m pc ls (.int x :: .int i :: .null :: rest)) rfl (rest := rest) rfl (by rw [hb]; exact hdg) t st, q⟩
theorem vx_sastoreN (hexec : p.tables.exec = Jvm.exec) (hb : c.code = cc) {x : Int32} {i : Int32} (hdg : decode cc pc = .ok (.sastore, 1)) (k : vx_NoteN p l e R s m args below meth c H locs cells slots Q (F0 m pc ls rest)) : W p l e R s m args below meth c H locs cells slots Q (F0 m pc ls (.int x :: .int i :: .null :: rest)) := by
  intro T hT X
  obtain ⟨t, st, q⟩ := k T hT X
  exact ⟨t, X.sastoreNull hexec (g := F0 m pc ls (.int x :: .int i :: .null :: rest)) rfl (rest := rest) rfl (by rw [hb]; exact hdg) t st, q⟩
theorem vx_invokeN {own C : String} {index maxL : Nat} {y : MethodName} {bytes : ByteArray} {ret : Option FieldType} (hexec : p.tables.exec = Jvm.exec) (hb : c.code = cc) (hown : s.vm.findClass own = some m.cls) (hlink : (Cond.methodLink own index y).before args s = true) (hinst : (Cond.instanceMethod y).before args s = true) (hcode : (Cond.code y bytes maxL ret).before args s = true) (hsel : (Cond.selects C y y).before args s = true)
    (hx : y.cls ≠ "java/lang/invoke/MethodHandle" ∧ y.cls ≠ "java/lang/invoke/VarHandle") {As : List Value} (hlen : (parseMethodDescriptor y.desc).map (fun d => d.parameters.length) = some As.length) (hdg : decode cc pc = .ok (.invokevirtual index, 3))
    (k : vx_NoteN p l e R s m args below meth c H locs cells slots Q (F0 m pc ls rest)) {st0 : List Value} (hst : st0 = As.reverse ++ .null :: rest) : W p l e R s m args below meth c H locs cells slots Q (F0 m pc ls st0) := by
  intro T hT X
  obtain ⟨r0, r, hn, hrm, hstR, hsigR⟩ := va_Decl.of hinst hcode
  obtain ⟨c2, r2, m2, q1, q2, q3, q4, kP, hkP, hkPi⟩ := Cond.selects_spec hsel
  cases hn.symm.trans q3
  have hl9 : As.length = r.sig.parameters.length := by
    rw [hsigR] at hlen
    exact (Option.some.inj hlen).symm
  obtain ⟨vm', X1, st1⟩ := X.invokevirtualNull hexec hown hlink hn hrm hstR hkP hkPi hx (g := F0 m pc ls st0) rfl (argsL := As) (rest := rest) hl9 hst (by rw [hb]; exact hdg)
  obtain ⟨t, st, q⟩ := k (T.setVm vm') hT X1
  exact ⟨t, st1 t st, q⟩
theorem vx_newarrayZ {atype : ArrayType} (hexec : p.tables.exec = Jvm.exec) (hb : c.code = cc) {n : Int32} (h0 : n < 0) (hdg : decode cc pc = .ok (.newarray atype, 2)) (k : ∀ tx : String, tx = toString n → vx_Note p l e R s m args below meth c H locs cells slots Q (F0 m pc ls rest) "java/lang/NegativeArraySizeException" tx) : W p l e R s m args below meth c H locs cells slots Q (F0 m pc ls (.int n :: rest)) := by
  intro T hT X
  obtain ⟨t, st, q⟩ := k _ rfl T hT X
  exact ⟨t, X.newarrayNegative hexec (g := F0 m pc ls (.int n :: rest)) rfl h0 (rest := rest) rfl (by rw [hb]; exact hdg) t st, q⟩
end
end VXM
/-! ===== END ===== -/
/-! ===== BEGIN an exception as an object: made, kept, thrown later (no traces kept) ===== -/
section VXK
variable {p : Program} {l : Launch} {e : Env} {R : Room} {s : State} {m₀ : MethodId} {args : Array Value} {below : List Frame} {meth : Method} {c : Code} {W : State} {locs : List Loc} {cells slots : Nat}
set_option maxHeartbeats 1000000 in
theorem vx_ctorMadeS (X : Stand p l e R s m₀ args below meth c W locs cells slots) (hexec : p.tables.exec = Jvm.exec) (htr : e.platform.stackTraces = false) {own cls : String} {names : List String} {ic : Nat}
    (hown : s.vm.findClass own = some m₀.cls) (hcls : Bundle.fit cls = true) (hnames : ∀ n ∈ names, Bundle.fit n = true)
    (h : ∀ a ∈ Bundle.ownAtoms own ic cls names, a.before args s = true)
    (hlocs : ∀ x ∈ locs, ∀ cell, s.heap[x.base]? = some cell → cell.vm.isStatics = false)
    {a : Addr} {cX : ClassId} {kX : Class} (hfoundX : s.vm.findClass cls = some cX) (hkX : s.vm.classes[cX]? = some kX) (hcell : W.heap[a]? = some (freshCell cX kX)) (hnew : s.heap.size ≤ a)
    {msg : Value} (hmsg : msg.isRef = true)
    {g : JFrame} (hg : g.method = m₀) (hsize : g.locals.size = c.maxLocals) {rest : List Value} (hstack : g.stack = msg :: .ref a :: .ref a :: rest)
    (hd6 : decode c.code g.pc = .ok (.invokespecial ic, 3))
    (hRframes : names.length + 3 < R.frames) (hRlocals : 2 * g.monitorRoom + ((Value.ref a :: rest).map fun v => v.category).sum + (13 * (names.length + 1) + 42) ≤ R.locals) :
    ∃ (V : State) (ce : Cell) (L : List Loc), Stand p l e R s m₀ args below meth c (V.setCell a ce) (locs ++ L) cells slots ∧ (∀ y ∈ L, y.base = a) ∧ a < V.heap.size ∧ ce.cls = cX ∧ ce.vm = .none ∧
      ∀ target, Steps p.tables e below ((V.setCell a ce).setTop { g with stack := .ref a :: rest, pc := g.pc + 3 }) target → Steps p.tables e below (W.setTop g) target := by
  have howns : e.platform.frameOwnsMonitors = true := by rw [X.admits.platform]
  have hfin : e.platform.finalization = false := by rw [X.admits.platform]
  have hpl : e.platform.magicAccessors = ({} : Platform).magicAccessors := by rw [X.admits.platform]
  have a' : ∀ x, x ∈ Bundle.ownAtoms own ic cls names → x.holds args s none s [] = true := fun x hx => h x hx
  obtain ⟨T, Z0, L, -, Y⟩ := ThrowableC.of_atoms (args := args) howns hfin hpl (fun x hx => h x (by simp [Bundle.ownAtoms, hx]))
  obtain ⟨Z, M, LZ, LM, hnZ⟩ := Init0T.ofS_atoms (args := args) hpl L Y (fun x hx => h x (by simp [Bundle.ownAtoms, hx]))
  obtain ⟨P1, Ps, hlen, L1, hL, hP1m, hlink1, hlink⟩ := Bundle.chainS (args := args) hpl hnZ names cls hcls hnames (fun x hx => h x (by simp [Bundle.ownAtoms, hx]))
  have hfound : s.vm.findClass cls = some P1.m.cls := findClass_of_methodNamed hP1m
  cases Option.some.inj (hfoundX.symm.trans hfound)
  obtain ⟨c1, kX', hc1, hk, hord, -, -, hn6⟩ := Cond.instantiable_spec (a' (.instantiable cls 6) (by simp [Bundle.ownAtoms]))
  cases Option.some.inj (hc1.symm.trans hfound)
  cases Option.some.inj (hkX.symm.trans hk)
  have hsel0 : selectMethod e.platform s.vm P1.m.cls T.fill0 = .method T.fill0 := by
    obtain ⟨c2, r2, m2, q1, q2, q3, q4, -⟩ := Cond.selects_spec (a' (.selects cls Bundle.tFill0 Bundle.tFill0) (by simp [Bundle.ownAtoms]))
    cases Option.some.inj (q1.symm.trans hfound)
    cases Option.some.inj (q2.symm.trans (State.methodFound?_of_named Y.fill0 (by decide)))
    cases Option.some.inj (q3.symm.trans Y.fill0)
    rw [Launch.admits_selectMethod X.admits]; exact q4
  have hselF : selectMethod e.platform s.vm P1.m.cls T.fill = .method T.fill := by
    obtain ⟨c2, r2, m2, q1, q2, q3, q4, -⟩ := Cond.selects_spec (a' (.selects cls Bundle.tFill Bundle.tFill) (by simp [Bundle.ownAtoms]))
    cases Option.some.inj (q1.symm.trans hfound)
    cases Option.some.inj (q2.symm.trans (State.methodFound?_of_named Y.fill (by decide)))
    cases Option.some.inj (q3.symm.trans Y.fill)
    rw [Launch.admits_selectMethod X.admits]; exact q4
  obtain ⟨cellS0, hcS0, hiss⟩ := Y.statics
  obtain ⟨u0, hu0⟩ := Cond.staticRefV Y.unassigned L.unassignedStatic L.statics hcS0 hiss (a' (.isRef (.static Bundle.tN "UNASSIGNED_STACK" Bundle.steD)) (by simp [Bundle.ownAtoms]))
  obtain ⟨sen, hsen⟩ := Cond.staticRefV Y.sentinel L.sentinelStatic L.statics hcS0 hiss (a' (.isRef (.static Bundle.tN "SUPPRESSED_SENTINEL" Bundle.listD)) (by simp [Bundle.ownAtoms]))
  obtain ⟨ci198, i198, fB, hk198, hg198, ha198, hsB, -, hnB, htB, hffB⟩ := Cond.ownField (t := .object "java/lang/Object") Y.found L.cls (by decide +kernel) (a' (.fieldLink Bundle.tN 198 Bundle.tN "backtrace" "Ljava/lang/Object;") (by simp [Bundle.ownAtoms])) (a' (.lays Bundle.tN Bundle.tN "backtrace" "Ljava/lang/Object;") (by simp [Bundle.ownAtoms])) e.platform hpl
  obtain ⟨cellS, hcS', heS, -, hkeep⟩ := X.same.2.2.2.2.2 T.aS cellS0 hcS0
  have hcellS : W.heap[T.aS]? = some cellS := hcS'
  have hout' : ∀ i, (⟨T.aS, i⟩ : Loc) ∉ locs := fun i hmem => by
    have := hlocs _ hmem cellS0 hcS0
    rw [hiss] at this; cases this
  have hknownS : cellS.vm ≠ .unknown := by
    rw [heS]; intro hu
    rw [show cellS0.vm = .unknown from hu] at hiss
    cases hiss
  have hneS : T.aS ≠ a := Nat.ne_of_lt (Nat.lt_of_lt_of_le (Array.getElem?_eq_some_iff.mp hcS0).1 hnew)
  obtain ⟨iM, hffM⟩ := Y.msg
  obtain ⟨tyC, dC, hdC, hdnC⟩ := Cond.laysAt hfound hk Y.cause (a' (.lays cls Bundle.tN "cause" "Ljava/lang/Throwable;") (by simp [Bundle.ownAtoms]))
  obtain ⟨tyS, dS, hdS, hdnS⟩ := Cond.laysAt hfound hk Y.stack (a' (.lays cls Bundle.tN "stackTrace" Bundle.steD) (by simp [Bundle.ownAtoms]))
  obtain ⟨tyP, dP, hdP, hdnP⟩ := Cond.laysAt hfound hk Y.supp (a' (.lays cls Bundle.tN "suppressedExceptions" Bundle.listD) (by simp [Bundle.ownAtoms]))
  obtain ⟨tyM, dM, hdM, hdnM⟩ := Cond.laysAt hfound hk hffM (a' (.lays cls Bundle.tN "detailMessage" "Ljava/lang/String;") (by simp [Bundle.ownAtoms]))
  obtain ⟨tyB, dB, hdB, hdnB⟩ := Cond.laysAt hfound hk hffB (a' (.lays cls Bundle.tN "backtrace" "Ljava/lang/Object;") (by simp [Bundle.ownAtoms]))
  have bC := Cond.laysApart hdB hdC hdnB hdnC (by rw [hnB, Y.causeName]; decide)
  have bS := Cond.laysApart hdB hdS hdnB hdnS (by rw [hnB, Y.stackName]; decide)
  have bP := Cond.laysApart hdB hdP hdnB hdnP (by rw [hnB, Y.suppName]; decide)
  have hskip : SkipFacts T e.platform s (fun u => u) u0 ((preparedCellV T.toThrowableT (freshCell P1.m.cls kX) a u0 sen).withEntry W.cur) :=
    ⟨{ ci198 := ci198, i198 := i198, fBack := fB }, ⟨hk198, hg198, ha198, hsB⟩, by
      have := fresh_default (c := P1.m.cls) tyB
      rw [htB] at this
      simpa [preparedCellV, Cell.setSlot, Cell.withEntry, Array.getElem?_setIfInBounds, bC, bS, bP, bC.symm, bS.symm, bP.symm, defaultValue] using this, fun _ _ => rfl⟩
  obtain ⟨tm, methC, cdC, kC, vm₁, hnC, -, -, -, -, -, -, -, hW₁, st1⟩ := Steps.initColdS (tb := p.tables) (e := e) (below := below) (s := s) (U := W) X.here hexec X.warmed hpl hown (t := Bundle.initS cls) rfl rfl (Bundle.fit_spec hcls).2
    (a' (.methodLink own ic (Bundle.initS cls)) (by simp [Bundle.ownAtoms])) (h (.instanceMethod (Bundle.initS cls)) (by cases names <;> simp [Bundle.ownAtoms, Bundle.chainSAtoms, Bundle.passSAtoms])) (bytes := Bundle.six) (maxL := 2) (h (.code (Bundle.initS cls) Bundle.six 2 none) (by cases names <;> simp [Bundle.ownAtoms, Bundle.chainSAtoms, Bundle.passSAtoms]))
    (f := g) hg (a := a) (msg := msg) (rest := .ref a :: rest) hstack hd6
  cases Option.some.inj (hnC.symm.trans hP1m)
  have X₁ := X.noted hW₁
  obtain ⟨vm₂, X₂, st2⟩ := X₁.ctorMessageOffV hexec (g := { g with stack := .ref a :: rest }) hg hsize T L Z LZ M LM (P1 :: Ps)
    (fun P hP => by rcases List.mem_cons.mp hP with rfl | hP; exact L1; exact hL P hP) ⟨hlink1, hlink⟩ (u0 := u0) (sen := sen) (self := a) hmsg (cell := freshCell P1.m.cls kX) (cellS := cellS)
    hcell (fun _ => by simp) (by simp) rfl rfl hsel0 hselF hcellS hneS hknownS (by rw [hkeep _ (hout' _)]; exact hu0) (by rw [hkeep _ (hout' _)]; exact hsen)
    (Takes.of_laid hk hord tyC (by rw [Y.causeType]; rfl)) (Takes.of_laid hk hord tyS (by rw [Y.stackType]; exact fits_refV_array _ u0)) (Takes.of_laid hk hord tyP (by rw [Y.suppType]; exact fits_refV_object _ sen))
    (Takes.of_laid hk hord tyM (by rw [Y.msgType]; exact fits_refV_object _ ⟨msg, hmsg⟩)) Y.objLocals hskip htr [] hd6
    (by simp only [List.length_cons, hlen]; omega) (by simp only [List.length_cons, hlen]; exact hRlocals)
  have hlt : a < ((W.setVm vm₁).setVm vm₂).heap.size := (Array.getElem?_eq_some_iff.mp hcell).1
  refine ⟨(W.setVm vm₁).setVm vm₂, _, _, X₂, fun y hy => ?_, hlt, rfl, rfl, fun target hwalk => st1 _ (fun acts => ?_)⟩
  · simp only [List.mem_cons, List.not_mem_nil, or_false] at hy
    rcases hy with rfl | rfl | rfl | rfl | rfl <;> rfl
  · rw [doInvoke_state]
    exact st2 _ hwalk
set_option maxHeartbeats 1000000 in
theorem vx_ctorMade0 (X : Stand p l e R s m₀ args below meth c W locs cells slots) (hexec : p.tables.exec = Jvm.exec) (htr : e.platform.stackTraces = false) {own cls : String} {names : List String} {ic : Nat}
    (hown : s.vm.findClass own = some m₀.cls) (hcls : Bundle.fit cls = true) (hnames : ∀ n ∈ names, Bundle.fit n = true)
    (h : ∀ a ∈ Bundle.ownAtoms0 own ic cls names, a.before args s = true)
    (hlocs : ∀ x ∈ locs, ∀ cell, s.heap[x.base]? = some cell → cell.vm.isStatics = false)
    {a : Addr} {cX : ClassId} {kX : Class} (hfoundX : s.vm.findClass cls = some cX) (hkX : s.vm.classes[cX]? = some kX) (hcell : W.heap[a]? = some (freshCell cX kX)) (hnew : s.heap.size ≤ a)
    {g : JFrame} (hg : g.method = m₀) (hsize : g.locals.size = c.maxLocals) {rest : List Value} (hstack : g.stack = .ref a :: .ref a :: rest)
    (hd6 : decode c.code g.pc = .ok (.invokespecial ic, 3))
    (hRframes : names.length + 3 < R.frames) (hRlocals : 2 * g.monitorRoom + ((Value.ref a :: rest).map fun v => v.category).sum + (13 * (names.length + 1) + 41) ≤ R.locals) :
    ∃ (V : State) (ce : Cell) (L : List Loc), Stand p l e R s m₀ args below meth c (V.setCell a ce) (locs ++ L) cells slots ∧ (∀ y ∈ L, y.base = a) ∧ a < V.heap.size ∧ ce.cls = cX ∧ ce.vm = .none ∧
      ∀ target, Steps p.tables e below ((V.setCell a ce).setTop { g with stack := .ref a :: rest, pc := g.pc + 3 }) target → Steps p.tables e below (W.setTop g) target := by
  have howns : e.platform.frameOwnsMonitors = true := by rw [X.admits.platform]
  have hfin : e.platform.finalization = false := by rw [X.admits.platform]
  have hpl : e.platform.magicAccessors = ({} : Platform).magicAccessors := by rw [X.admits.platform]
  have a' : ∀ x, x ∈ Bundle.ownAtoms0 own ic cls names → x.holds args s none s [] = true := fun x hx => h x hx
  obtain ⟨T, Z, L, LZ, Y⟩ := ThrowableC.of_atoms (args := args) howns hfin hpl (fun x hx => h x (by simp [Bundle.ownAtoms0, hx]))
  obtain ⟨P1, Ps, hlen, L1, hL, hP1m, hlink1, hlink⟩ := Bundle.chain0 (args := args) hpl Y.init0 names cls hcls hnames (fun x hx => h x (by simp [Bundle.ownAtoms0, hx]))
  have hfound : s.vm.findClass cls = some P1.m.cls := findClass_of_methodNamed hP1m
  cases Option.some.inj (hfoundX.symm.trans hfound)
  obtain ⟨c1, kX', hc1, hk, hord, -, -, hn6⟩ := Cond.instantiable_spec (a' (.instantiable cls 6) (by simp [Bundle.ownAtoms0]))
  cases Option.some.inj (hc1.symm.trans hfound)
  cases Option.some.inj (hkX.symm.trans hk)
  have hsel0 : selectMethod e.platform s.vm P1.m.cls T.fill0 = .method T.fill0 := by
    obtain ⟨c2, r2, m2, q1, q2, q3, q4, -⟩ := Cond.selects_spec (a' (.selects cls Bundle.tFill0 Bundle.tFill0) (by simp [Bundle.ownAtoms0]))
    cases Option.some.inj (q1.symm.trans hfound)
    cases Option.some.inj (q2.symm.trans (State.methodFound?_of_named Y.fill0 (by decide)))
    cases Option.some.inj (q3.symm.trans Y.fill0)
    rw [Launch.admits_selectMethod X.admits]; exact q4
  have hselF : selectMethod e.platform s.vm P1.m.cls T.fill = .method T.fill := by
    obtain ⟨c2, r2, m2, q1, q2, q3, q4, -⟩ := Cond.selects_spec (a' (.selects cls Bundle.tFill Bundle.tFill) (by simp [Bundle.ownAtoms0]))
    cases Option.some.inj (q1.symm.trans hfound)
    cases Option.some.inj (q2.symm.trans (State.methodFound?_of_named Y.fill (by decide)))
    cases Option.some.inj (q3.symm.trans Y.fill)
    rw [Launch.admits_selectMethod X.admits]; exact q4
  obtain ⟨cellS0, hcS0, hiss⟩ := Y.statics
  obtain ⟨u0, hu0⟩ := Cond.staticRefV Y.unassigned L.unassignedStatic L.statics hcS0 hiss (a' (.isRef (.static Bundle.tN "UNASSIGNED_STACK" Bundle.steD)) (by simp [Bundle.ownAtoms0]))
  obtain ⟨sen, hsen⟩ := Cond.staticRefV Y.sentinel L.sentinelStatic L.statics hcS0 hiss (a' (.isRef (.static Bundle.tN "SUPPRESSED_SENTINEL" Bundle.listD)) (by simp [Bundle.ownAtoms0]))
  obtain ⟨ci198, i198, fB, hk198, hg198, ha198, hsB, -, hnB, htB, hffB⟩ := Cond.ownField (t := .object "java/lang/Object") Y.found L.cls (by decide +kernel) (a' (.fieldLink Bundle.tN 198 Bundle.tN "backtrace" "Ljava/lang/Object;") (by simp [Bundle.ownAtoms0])) (a' (.lays Bundle.tN Bundle.tN "backtrace" "Ljava/lang/Object;") (by simp [Bundle.ownAtoms0])) e.platform hpl
  obtain ⟨cellS, hcS', heS, -, hkeep⟩ := X.same.2.2.2.2.2 T.aS cellS0 hcS0
  have hcellS : W.heap[T.aS]? = some cellS := hcS'
  have hout' : ∀ i, (⟨T.aS, i⟩ : Loc) ∉ locs := fun i hmem => by
    have := hlocs _ hmem cellS0 hcS0
    rw [hiss] at this; cases this
  have hknownS : cellS.vm ≠ .unknown := by
    rw [heS]; intro hu
    rw [show cellS0.vm = .unknown from hu] at hiss
    cases hiss
  have hneS : T.aS ≠ a := Nat.ne_of_lt (Nat.lt_of_lt_of_le (Array.getElem?_eq_some_iff.mp hcS0).1 hnew)
  obtain ⟨iM, hffM⟩ := Y.msg
  obtain ⟨tyC, dC, hdC, hdnC⟩ := Cond.laysAt hfound hk Y.cause (a' (.lays cls Bundle.tN "cause" "Ljava/lang/Throwable;") (by simp [Bundle.ownAtoms0]))
  obtain ⟨tyS, dS, hdS, hdnS⟩ := Cond.laysAt hfound hk Y.stack (a' (.lays cls Bundle.tN "stackTrace" Bundle.steD) (by simp [Bundle.ownAtoms0]))
  obtain ⟨tyP, dP, hdP, hdnP⟩ := Cond.laysAt hfound hk Y.supp (a' (.lays cls Bundle.tN "suppressedExceptions" Bundle.listD) (by simp [Bundle.ownAtoms0]))
  obtain ⟨tyM, dM, hdM, hdnM⟩ := Cond.laysAt hfound hk hffM (a' (.lays cls Bundle.tN "detailMessage" "Ljava/lang/String;") (by simp [Bundle.ownAtoms0]))
  obtain ⟨tyB, dB, hdB, hdnB⟩ := Cond.laysAt hfound hk hffB (a' (.lays cls Bundle.tN "backtrace" "Ljava/lang/Object;") (by simp [Bundle.ownAtoms0]))
  have bC := Cond.laysApart hdB hdC hdnB hdnC (by rw [hnB, Y.causeName]; decide)
  have bS := Cond.laysApart hdB hdS hdnB hdnS (by rw [hnB, Y.stackName]; decide)
  have bP := Cond.laysApart hdB hdP hdnB hdnP (by rw [hnB, Y.suppName]; decide)
  have hskip : SkipFacts T e.platform s (fun u => u) u0 ((preparedCellV T.toThrowableT (freshCell P1.m.cls kX) a u0 sen).withEntry W.cur) :=
    ⟨{ ci198 := ci198, i198 := i198, fBack := fB }, ⟨hk198, hg198, ha198, hsB⟩, by
      have := fresh_default (c := P1.m.cls) tyB
      rw [htB] at this
      simpa [preparedCellV, Cell.setSlot, Cell.withEntry, Array.getElem?_setIfInBounds, bC, bS, bP, bC.symm, bS.symm, bP.symm, defaultValue] using this, fun _ _ => rfl⟩
  obtain ⟨tm, methC, cdC, kC, vm₁, hnC, -, -, -, -, -, -, -, hW₁, st1⟩ := Steps.initCold (tb := p.tables) (e := e) (below := below) (s := s) (U := W) X.here hexec X.warmed hpl hown (t := Bundle.init0 cls) rfl rfl (Bundle.fit_spec hcls).2
    (a' (.methodLink own ic (Bundle.init0 cls)) (by simp [Bundle.ownAtoms0])) (h (.instanceMethod (Bundle.init0 cls)) (by cases names <;> simp [Bundle.ownAtoms0, Bundle.chain0Atoms, Bundle.passAtoms])) (bytes := Bundle.five) (maxL := 1) (h (.code (Bundle.init0 cls) Bundle.five 1 none) (by cases names <;> simp [Bundle.ownAtoms0, Bundle.chain0Atoms, Bundle.passAtoms]))
    (f := g) hg (a := a) (rest := .ref a :: rest) hstack hd6
  cases Option.some.inj (hnC.symm.trans hP1m)
  have X₁ := X.noted hW₁
  obtain ⟨vm₂, X₂, st2⟩ := X₁.ctorPlainOffV hexec (g := { g with stack := .ref a :: rest }) hg hsize T L Z LZ (P1 :: Ps)
    (fun P hP => by rcases List.mem_cons.mp hP with rfl | hP; exact L1; exact hL P hP) ⟨hlink1, hlink⟩ (u0 := u0) (sen := sen) (self := a) (cell := freshCell P1.m.cls kX) (cellS := cellS)
    hcell (fun _ => by simp) (by simp) rfl rfl hsel0 hselF hcellS hneS hknownS (by rw [hkeep _ (hout' _)]; exact hu0) (by rw [hkeep _ (hout' _)]; exact hsen)
    (Takes.of_laid hk hord tyC (by rw [Y.causeType]; rfl)) (Takes.of_laid hk hord tyS (by rw [Y.stackType]; exact fits_refV_array _ u0)) (Takes.of_laid hk hord tyP (by rw [Y.suppType]; exact fits_refV_object _ sen)) Y.objLocals hskip htr [] hd6
    (by simp only [List.length_cons, hlen]; omega) (by simp only [List.length_cons, hlen]; exact hRlocals)
  have hlt : a < ((W.setVm vm₁).setVm vm₂).heap.size := (Array.getElem?_eq_some_iff.mp hcell).1
  refine ⟨(W.setVm vm₁).setVm vm₂, _, _, X₂, fun y hy => ?_, hlt, rfl, rfl, fun target hwalk => st1 _ (fun acts => ?_)⟩
  · simp only [List.mem_cons, List.not_mem_nil, or_false] at hy
    rcases hy with rfl | rfl | rfl | rfl <;> rfl
  · rw [doInvoke_state]
    exact st2 _ hwalk
end VXK
section VXK2
variable {p : Program} {l : Launch} {e : Env} {R : Room} {s : State} {m : MethodId} {args : Array Value} {below : List Frame} {meth : Method} {c : Code} {H : Heap} {locs : List Loc} {cells slots : Nat} {Q : State → Prop}
variable {ls : Array Slot} {rest : List Value} {D : va_G} {cl : List vw_C} {tys : List (ClassId × FieldType)} {ws : va_W}
/-- 'new E("text")' that isn't thrown at once: the object goes on the stack -/
theorem vx_makeS {cc : ByteArray} {pc : Nat} (hexec : p.tables.exec = Jvm.exec) (hb : c.code = cc) (hl : l.stackTraces = false) {own cls text : String} {names : List String} {ik is ic sa ci : Nat} {A : Nat → Prop} {T0 : u_T}
    (hown : s.vm.findClass own = some m.cls) (hcls : Bundle.fit cls = true) (hnames : ∀ n ∈ names, Bundle.fit n = true)
    (hk : (Cond.classLink own ik cls).before args s = true) (hini : (Cond.initialized cls).before args s = true) (hstr : vk_R own is text sa s) (hat : ∀ w ∈ vx_atS own ic cls names, w.before args s = true)
    (hgood : ∀ w ∈ Cond.classLink own ik cls :: Cond.initialized cls :: vx_atS own ic cls names, vx_ot w = true)
    (hU : vx_Zq Bundle.tN "UNASSIGNED_STACK" Bundle.steD A s s.heap) (hN : vx_Zq Bundle.tN "SUPPRESSED_SENTINEL" Bundle.listD A s s.heap) (hS : va_S A s.heap H locs) (hsize : ls.size = c.maxLocals)
    (d0 : decode cc pc = .ok (.new ik, 3)) (d3 : decode cc (pc + 3) = .ok (.dup, 1)) (d4 : decode cc (pc + 4) = .ok (.ldc is, 2)) (d6 : decode cc (pc + 6) = .ok (.invokespecial ic, 3))
    (hK : va_K D cl tys s) (hP : va_P D cl ws H) (hD : va_D A ws) (hA : ∀ q, s.heap.size ≤ q → A q) (hc : cl[ci]? = some (cls, T0, 0))
    (hRframes : names.length + 3 < R.frames) (hRlocals : (rest.map fun v => v.category).sum + (13 * (names.length + 1) + 43) ≤ R.locals) (hRcells : cells + 1 ≤ R.cells) (hRslots : slots + 6 ≤ R.slots)
    (kk : ∀ (q : Nat) (H1 : Heap), va_P D cl (ws ++ [(q, .inr (ci, []))]) H1 → va_D A (ws ++ [(q, .inr (ci, []))]) → va_S A s.heap H1 locs → W p l e R s m args below meth c H1 locs (cells + 1) (slots + 6) Q (F0 m (pc + 9) ls (.ref q :: rest))) :
    W p l e R s m args below meth c H locs cells slots Q (F0 m pc ls rest) := by
  intro T hT X
  subst hT
  have htr : e.platform.stackTraces = false := (show e.platform.stackTraces = l.stackTraces by rw [X.admits.platform]).trans hl
  have Y := vx_rebase X (R' := { frames := R.frames, locals := R.locals, cells := 1, slots := 6 }) (Nat.le_refl _) (Nat.le_refl _) hRcells hRslots
  obtain ⟨s', hA'⟩ : ∃ z, z = (T.setVm s.vm).setFrames (.invoking m args :: below) := ⟨_, rfl⟩
  rw [← hA'] at Y
  have hvm : s'.vm = s.vm := by rw [hA']; rfl
  have hhp : s'.heap = T.heap := by rw [hA']; rfl
  have hW0 : s.WarmedH s'.vm := by rw [hvm]; exact State.WarmedH.refl s
  have hat' : ∀ w ∈ vx_atS own ic cls names, w.before args s' = true := fun w hw => vx_ot_at hW0 hvm.symm (hgood w (List.mem_cons_of_mem _ (List.mem_cons_of_mem _ hw))) (hat w hw)
  have hk' : (Cond.classLink own ik cls).before args s' = true := vx_ot_at hW0 hvm.symm (hgood _ List.mem_cons_self) hk
  have hini' : (Cond.initialized cls).before args s' = true := vx_ot_at hW0 hvm.symm (hgood _ (List.mem_cons_of_mem _ List.mem_cons_self)) hini
  have hU' : vx_Zq Bundle.tN "UNASSIGNED_STACK" Bundle.steD A s' s'.heap := by rw [hhp]; exact vx_Zq.moved hW0.alike (hU.kept hS.2.1)
  have hN' : vx_Zq Bundle.tN "SUPPRESSED_SENTINEL" Bundle.listD A s' s'.heap := by rw [hhp]; exact vx_Zq.moved hW0.alike (hN.kept hS.2.1)
  have h : ∀ w ∈ Bundle.ownAtoms own ic cls names, w.before args s' = true := vx_own hat' (vx_isRefq hU'.1) (vx_isRefq hN'.1) hU'.2.word hN'.2.word
  have hown' : s'.vm.findClass own = some m.cls := by rw [hvm]; exact hown
  have hins : (Cond.instantiable cls 6).before args s' = true := h _ (by simp [Bundle.ownAtoms])
  obtain ⟨vm₁, cX, kX, hfX, hkX, -, -, X₁, st1⟩ := Y.newCold hexec (own := own) (C := cls) (index := ik) (n := 6) hown' hk' hins hini'
    (g := F0 m pc ls rest) rfl (by rw [hb]; exact d0) (Nat.le_refl _) (Nat.le_refl _)
  generalize hT1 : (T.setVm vm₁).pushCell { cls := cX, slots := kX.instanceTypes.map defaultValue, vm := .none } = T1 at X₁ st1
  have hcat : (Value.ref T.heap.size).category = 1 := rfl
  have hcellA : T1.heap[T.heap.size]? = some (freshCell cX kX) := by rw [← hT1]; exact State.heap_pushCell_size _ _
  have d3' : decode c.code (pc + 3) = .ok (.dup, 1) := by rw [hb]; exact d3
  have d4' : decode c.code (pc + 4) = .ok (.ldc is, 2) := by rw [hb]; exact d4
  have hstr' : vk_R own is text sa s' := vk_R.warm hW0 hstr
  obtain ⟨V, ce, L, Z, hL, hlt, hcl9, hvm9, st⟩ := vx_ctorMadeS X₁ hexec htr (own := own) (cls := cls) (names := names) (ic := ic) hown' hcls hnames h (fun x hx => nomatch hx) hfX hkX hcellA (by rw [hhp]; exact Nat.le_refl _) (msg := .ref sa) rfl
    (g := { method := m, pc := pc + 6, locals := ls, stack := .ref sa :: .ref T.heap.size :: .ref T.heap.size :: rest, locked := none }) rfl hsize (rest := rest) rfl
    (by rw [hb]; exact d6) hRframes (by simp only [List.map_cons, List.sum_cons, hcat]; omega)
  have Z0 := Stand.forget (locs := []) Z (fun y hy => by rw [hL y hy, hhp]; exact Nat.le_refl _)
  obtain ⟨f1, f2⟩ := vx_frame Z0.same
  rw [hhp] at f1 f2
  have hcid : ce.cls = D.1 ci := by
    rw [hcl9]
    have h1 := (hK.1 ci _ hc).2.1
    rw [hvm] at hfX
    exact Option.some.inj (hfX.symm.trans h1)
  have hh : (V.setCell T.heap.size ce).heap[T.heap.size]? = some ce := heapAt_setCell_self (s := V) ce hlt
  subst hA'
  have X5 := vx_back9 X Y Z0
  have X6 : Stand p l e R s m args below meth c (V.setCell T.heap.size ce) locs (cells + 1) (slots + 6) := { X5 with same := X5.same.mono (by omega) (by omega) }
  have hk9 : ∀ (k : Nat) (x : Nat × va_E), ws[k]? = some x → (V.setCell T.heap.size ce).heap[x.1]? = T.heap[x.1]? := fun k x hx => f2 x.1 ((hP k x hx).lt) (fun z hz => nomatch hz)
  obtain ⟨t, a1, b1⟩ := kk T.heap.size (V.setCell T.heap.size ce).heap ((hP.kept hk9).app (fun k x hx => by
      have hz : k < 1 := (List.getElem?_eq_some_iff.mp hx).1
      rw [show k = 0 by omega] at hx
      cases hx
      exact ⟨_, hc, ce, hh, hcid, hvm9, fun k hk => absurd hk (Nat.not_lt_zero k)⟩)) (hD.push hP rfl (hA _ hS.1)) ⟨Nat.le_trans hS.1 f1, fun q h1 h2 => (f2 q (Nat.lt_of_lt_of_le h1 hS.1) (fun z hz => nomatch hz)).trans (hS.2.1 q h1 h2), hS.2.2⟩ _ rfl X6
  refine ⟨t, st1 _ ?_, b1⟩
  show Steps p.tables e below (T1.setTop { method := m, pc := pc + 3, locals := ls, stack := .ref T.heap.size :: rest, locked := none }) _
  jvm_step X₁.here [X₁.here.top, hexec, d3', Value.category]
  exact X₁.ldcString hexec (own := own) (text := text) (index := is) (a := sa) hown' hstr'.1 hstr'.2
    (g := { method := m, pc := pc + 4, locals := ls, stack := .ref T.heap.size :: .ref T.heap.size :: rest, locked := none }) rfl d4' _ (st _ a1)
/-- 'new E()' that isn't thrown at once: the object goes on the stack -/
theorem vx_make0 {cc : ByteArray} {pc : Nat} (hexec : p.tables.exec = Jvm.exec) (hb : c.code = cc) (hl : l.stackTraces = false) {own cls : String} {names : List String} {ik ic ci : Nat} {A : Nat → Prop} {T0 : u_T}
    (hown : s.vm.findClass own = some m.cls) (hcls : Bundle.fit cls = true) (hnames : ∀ n ∈ names, Bundle.fit n = true)
    (hk : (Cond.classLink own ik cls).before args s = true) (hini : (Cond.initialized cls).before args s = true) (hat : ∀ w ∈ vx_at0 own ic cls names, w.before args s = true)
    (hgood : ∀ w ∈ Cond.classLink own ik cls :: Cond.initialized cls :: vx_at0 own ic cls names, vx_ot w = true)
    (hU : vx_Zq Bundle.tN "UNASSIGNED_STACK" Bundle.steD A s s.heap) (hN : vx_Zq Bundle.tN "SUPPRESSED_SENTINEL" Bundle.listD A s s.heap) (hS : va_S A s.heap H locs) (hsize : ls.size = c.maxLocals)
    (d0 : decode cc pc = .ok (.new ik, 3)) (d3 : decode cc (pc + 3) = .ok (.dup, 1)) (d4 : decode cc (pc + 4) = .ok (.invokespecial ic, 3))
    (hK : va_K D cl tys s) (hP : va_P D cl ws H) (hD : va_D A ws) (hA : ∀ q, s.heap.size ≤ q → A q) (hc : cl[ci]? = some (cls, T0, 0))
    (hRframes : names.length + 3 < R.frames) (hRlocals : (rest.map fun v => v.category).sum + (13 * (names.length + 1) + 42) ≤ R.locals) (hRcells : cells + 1 ≤ R.cells) (hRslots : slots + 6 ≤ R.slots)
    (kk : ∀ (q : Nat) (H1 : Heap), va_P D cl (ws ++ [(q, .inr (ci, []))]) H1 → va_D A (ws ++ [(q, .inr (ci, []))]) → va_S A s.heap H1 locs → W p l e R s m args below meth c H1 locs (cells + 1) (slots + 6) Q (F0 m (pc + 7) ls (.ref q :: rest))) :
    W p l e R s m args below meth c H locs cells slots Q (F0 m pc ls rest) := by
  intro T hT X
  subst hT
  have htr : e.platform.stackTraces = false := (show e.platform.stackTraces = l.stackTraces by rw [X.admits.platform]).trans hl
  have Y := vx_rebase X (R' := { frames := R.frames, locals := R.locals, cells := 1, slots := 6 }) (Nat.le_refl _) (Nat.le_refl _) hRcells hRslots
  obtain ⟨s', hA'⟩ : ∃ z, z = (T.setVm s.vm).setFrames (.invoking m args :: below) := ⟨_, rfl⟩
  rw [← hA'] at Y
  have hvm : s'.vm = s.vm := by rw [hA']; rfl
  have hhp : s'.heap = T.heap := by rw [hA']; rfl
  have hW0 : s.WarmedH s'.vm := by rw [hvm]; exact State.WarmedH.refl s
  have hat' : ∀ w ∈ vx_at0 own ic cls names, w.before args s' = true := fun w hw => vx_ot_at hW0 hvm.symm (hgood w (List.mem_cons_of_mem _ (List.mem_cons_of_mem _ hw))) (hat w hw)
  have hk' : (Cond.classLink own ik cls).before args s' = true := vx_ot_at hW0 hvm.symm (hgood _ List.mem_cons_self) hk
  have hini' : (Cond.initialized cls).before args s' = true := vx_ot_at hW0 hvm.symm (hgood _ (List.mem_cons_of_mem _ List.mem_cons_self)) hini
  have hU' : vx_Zq Bundle.tN "UNASSIGNED_STACK" Bundle.steD A s' s'.heap := by rw [hhp]; exact vx_Zq.moved hW0.alike (hU.kept hS.2.1)
  have hN' : vx_Zq Bundle.tN "SUPPRESSED_SENTINEL" Bundle.listD A s' s'.heap := by rw [hhp]; exact vx_Zq.moved hW0.alike (hN.kept hS.2.1)
  have h : ∀ w ∈ Bundle.ownAtoms0 own ic cls names, w.before args s' = true := vx_own hat' (vx_isRefq hU'.1) (vx_isRefq hN'.1) hU'.2.word hN'.2.word
  have hown' : s'.vm.findClass own = some m.cls := by rw [hvm]; exact hown
  have hins : (Cond.instantiable cls 6).before args s' = true := h _ (by simp [Bundle.ownAtoms0])
  obtain ⟨vm₁, cX, kX, hfX, hkX, -, -, X₁, st1⟩ := Y.newCold hexec (own := own) (C := cls) (index := ik) (n := 6) hown' hk' hins hini'
    (g := F0 m pc ls rest) rfl (by rw [hb]; exact d0) (Nat.le_refl _) (Nat.le_refl _)
  generalize hT1 : (T.setVm vm₁).pushCell { cls := cX, slots := kX.instanceTypes.map defaultValue, vm := .none } = T1 at X₁ st1
  have hcat : (Value.ref T.heap.size).category = 1 := rfl
  have hcellA : T1.heap[T.heap.size]? = some (freshCell cX kX) := by rw [← hT1]; exact State.heap_pushCell_size _ _
  have d3' : decode c.code (pc + 3) = .ok (.dup, 1) := by rw [hb]; exact d3
  obtain ⟨V, ce, L, Z, hL, hlt, hcl9, hvm9, st⟩ := vx_ctorMade0 X₁ hexec htr (own := own) (cls := cls) (names := names) (ic := ic) hown' hcls hnames h (fun x hx => nomatch hx) hfX hkX hcellA (by rw [hhp]; exact Nat.le_refl _)
    (g := { method := m, pc := pc + 4, locals := ls, stack := .ref T.heap.size :: .ref T.heap.size :: rest, locked := none }) rfl hsize (rest := rest) rfl
    (by rw [hb]; exact d4) hRframes (by simp only [List.map_cons, List.sum_cons, hcat]; omega)
  have Z0 := Stand.forget (locs := []) Z (fun y hy => by rw [hL y hy, hhp]; exact Nat.le_refl _)
  obtain ⟨f1, f2⟩ := vx_frame Z0.same
  rw [hhp] at f1 f2
  have hcid : ce.cls = D.1 ci := by
    rw [hcl9]
    have h1 := (hK.1 ci _ hc).2.1
    rw [hvm] at hfX
    exact Option.some.inj (hfX.symm.trans h1)
  have hh : (V.setCell T.heap.size ce).heap[T.heap.size]? = some ce := heapAt_setCell_self (s := V) ce hlt
  subst hA'
  have X5 := vx_back9 X Y Z0
  have X6 : Stand p l e R s m args below meth c (V.setCell T.heap.size ce) locs (cells + 1) (slots + 6) := { X5 with same := X5.same.mono (by omega) (by omega) }
  have hk9 : ∀ (k : Nat) (x : Nat × va_E), ws[k]? = some x → (V.setCell T.heap.size ce).heap[x.1]? = T.heap[x.1]? := fun k x hx => f2 x.1 ((hP k x hx).lt) (fun z hz => nomatch hz)
  obtain ⟨t, a1, b1⟩ := kk T.heap.size (V.setCell T.heap.size ce).heap ((hP.kept hk9).app (fun k x hx => by
      have hz : k < 1 := (List.getElem?_eq_some_iff.mp hx).1
      rw [show k = 0 by omega] at hx
      cases hx
      exact ⟨_, hc, ce, hh, hcid, hvm9, fun k hk => absurd hk (Nat.not_lt_zero k)⟩)) (hD.push hP rfl (hA _ hS.1)) ⟨Nat.le_trans hS.1 f1, fun q h1 h2 => (f2 q (Nat.lt_of_lt_of_le h1 hS.1) (fun z hz => nomatch hz)).trans (hS.2.1 q h1 h2), hS.2.2⟩ _ rfl X6
  refine ⟨t, st1 _ ?_, b1⟩
  show Steps p.tables e below (T1.setTop { method := m, pc := pc + 3, locals := ls, stack := .ref T.heap.size :: rest, locked := none }) _
  jvm_step X₁.here [X₁.here.top, hexec, d3', Value.category]
  exact st _ a1
/-- 'throw x' of an object that was made before -/
theorem vx_athrow {cc : ByteArray} {pc : Nat} (hexec : p.tables.exec = Jvm.exec) (hb : c.code = cc) {q : Addr} (hdg : decode cc pc = .ok (.athrow, 1)) (k : vx_W p l e R s m args below meth c H locs cells slots Q (F0 m pc ls rest) q) : W p l e R s m args below meth c H locs cells slots Q (F0 m pc ls (.ref q :: rest)) := by
  intro T hT X
  obtain ⟨t, st, hq⟩ := k T hT X
  refine ⟨t, ?_, hq⟩
  have hdg' : decode c.code pc = .ok (.athrow, 1) := by rw [hb]; exact hdg
  jvm_step X.here [X.here.top, hexec, hdg', athrow.wp_sem]
  exact st
end VXK2
/-! ===== END ===== -/
/-! ===== BEGIN a constructor that throws (launches without stack traces) ===== -/
section VXIA
variable {p : Program} {l : Launch} {e : Env} {R : Room} {s : State} {m : MethodId} {args : Array Value} {below : List Frame} {meth : Method} {c : Code} {T : State} {locs : List Loc} {cells slots : Nat}
theorem vx_callI (X : Stand p l e R s m args below meth c T locs cells slots) (hexec : p.tables.exec = Jvm.exec) {own : String} {index : Nat} {y : MethodName} {bytes : ByteArray} {maxL : Nat}
    (hown : s.vm.findClass own = some m.cls) (hy1 : y.name = "<init>") (hlink : (Cond.methodLink own index y).before args s = true) (hinst : (Cond.instanceMethod y).before args s = true)
    (hcode : (Cond.code y bytes maxL none).before args s = true) (hy : y.cls ≠ "java/lang/invoke/MethodHandle" ∧ y.cls ≠ "java/lang/invoke/VarHandle")
    {W9 : Nat} {Pre : Pt → Array Value → Prop} {Post : Pt → Array Value → Option Value → Pt → Prop} {PostX : Pt → Array Value → Addr → Pt → Prop} (hK : vx_Back l R p e below s args y 3 W9 Pre Post PostX)
    {g : JFrame} (hg : g.method = m) (hsize : g.locals.size = c.maxLocals) {a : Addr} {argsL rest : List Value} (hlen : ∀ sig, parseMethodDescriptor y.desc = some sig → argsL.length = sig.parameters.length)
    (hstack : g.stack = argsL.reverse ++ .ref a :: rest) (hW : 2 * g.monitorRoom + (rest.map fun v => v.category).sum ≤ W9) (hdg : decode c.code g.pc = .ok (.invokespecial index, 3))
    (hpre : ∀ vm₁, s.WarmedH vm₁ → Pre ⟨T.setVm vm₁, locs, cells, slots⟩ (Value.ref a :: argsL).toArray) :
    (∃ (v : Option Value) (vm₁ : Vm) (B : Pt), s.WarmedH vm₁ ∧ Stand p l e R s m args below meth c B.U B.locs B.cells B.slots ∧ Post ⟨T.setVm vm₁, locs, cells, slots⟩ (Value.ref a :: argsL).toArray v B ∧
      ∀ target, Steps p.tables e below (B.U.setTop { g with pc := g.pc + 3, stack := v.toList ++ rest }) target → Steps p.tables e below (T.setTop g) target) ∨
    (∃ (q : Addr) (vm₁ : Vm) (B : Pt), s.WarmedH vm₁ ∧ Stand p l e R s m args below meth c B.U B.locs B.cells B.slots ∧ PostX ⟨T.setVm vm₁, locs, cells, slots⟩ (Value.ref a :: argsL).toArray q B ∧
      Steps p.tables e below (T.setTop g) ((B.U.setTop { g with stack := rest }).pushFrame (.throwing q))) := by
  subst hg
  have hpl : e.platform.magicAccessors = ({} : Platform).magicAccessors := by rw [X.admits.platform]
  obtain ⟨mk, methM, cM, kP, vm₁, hnamed, hmethM, hcodeM, -, hlocalsM, -, hkP, -, hW₁, hstep₁⟩ := Steps.initColdArgs (e := e) X.here hexec X.warmed hpl hown hy1 hy hlink hinst hcode (f := g) rfl hlen hstack hdg
  have X₁ := X.noted hW₁
  rcases hK g.method meth c ⟨T.setVm vm₁, locs, cells, slots⟩ { g with stack := rest } (.invokespecial index) mk (Value.ref a :: argsL).toArray X₁ rfl hsize hdg hW (X₁.named hnamed) (hpre vm₁ X₁.warmed) with ⟨v, B, X', hpost, hsteps⟩ | ⟨q, B, X', hpost, hsteps⟩
  · exact Or.inl ⟨v, vm₁, B, X₁.warmed, X', hpost, fun target h => hstep₁ _ fun acts => by rw [doInvoke_state]; exact hsteps.trans h⟩
  · exact Or.inr ⟨q, vm₁, B, X₁.warmed, X', hpost, hstep₁ _ fun acts => by rw [doInvoke_state]; exact hsteps⟩
end VXIA
section VXIB
variable {p : Program} {l : Launch} {e : Env} {R : Room} {s : State} {m : MethodId} {args : Array Value} {below : List Frame} {meth : Method} {c : Code} {H : Heap} {locs : List Loc} {cells slots : Nat}
variable {y : MethodName} {bytes cc : ByteArray} {maxL nL mc ms n index : Nat} {ret : Option FieldType} {ws : List Cond} {rm : Room} {Pc : Array Value → State → Prop} {Qc : Array Value → State → Outcome → State → Prop} {XC : String → State → State → Prop} {free : Addr → Prop} {Ts : List Cond} {own C : String} {b : Addr} {As rest : List Value} {g : JFrame}
theorem vx_runI (S : CallFix p m c cc nL s args Ts own) (hM : vx_Met l y ws rm Pc Qc XC mc ms free) (cw : CallB R s args own index y bytes maxL none ws rm mc ms n ∧ y.name = "<init>" ∧ (Cond.instanceMethod y).before args s = true) (hp : PreS s H Pc (.ref b :: As))
    (hg : g.method = m) (hn : As.length = n) (hsize : g.locals.size = nL) (hstack : g.stack = As.reverse ++ .ref b :: rest) (hW : 2 * g.monitorRoom + (rest.map fun v => v.category).sum ≤ 8) (hdg : decode cc g.pc = .ok (.invokespecial index, 3)) (hf : cells + mc ≤ R.cells ∧ slots + ms ≤ R.slots) :
    vx_Run p l e R s m args below meth c H locs cells slots mc ms g rest (Qc (Value.ref b :: As).toArray) XC free := by
  have hK : vx_Back l R p e below s args y 3 8 (PreOf R mc ms Pc) (PostOf Qc mc ms free) (vx_Post XC mc ms free) := vx_callBack cw.1 hM hp.1
  obtain ⟨⟨-, -, -, -, -, -, hcode, -, hy, hlen, hl⟩, hy1, hin⟩ := cw
  obtain ⟨hx, hb, hml, ho, -⟩ := S
  have hPc := hp.2
  intro T hT X
  rcases vx_callI X hx (bytes := bytes) (maxL := maxL) ho hy1 hl hin hcode hy hK hg (hsize.trans hml.symm) (a := b) (argsL := As) (rest := rest) (fun sig h => hn.trans (hlen sig h)) hstack hW (by rw [hb]; exact hdg)
    (fun vm₁ hW₁ => ⟨hf.1, hf.2, hPc (T.setVm vm₁) hT hW₁⟩) with ⟨v, vm₁, ⟨U', l2, c2, s2⟩, hW₁, X', ⟨g', mk, t, L, e1, e2, hq, h1, hL, h2, h3⟩, st⟩ | ⟨q, vm₁, ⟨U', l2, c2, s2⟩, hW₁, X', ⟨g', mk, t, L, E, ce, e1, e2, hq, hce, hcv, hcl, h1, hL, h2, h3⟩, st⟩
  · dsimp only [Pt.U, Pt.locs, Pt.cells, Pt.slots] at X' e1 e2 h1 h2 h3 st
    subst h1; subst h2; subst h3
    exact Or.inl ⟨v, (T.setVm vm₁).calling g' mk (Value.ref b :: As).toArray, t, U', L, hT, X', hL, e1, e2, hq, st⟩
  · dsimp only [Pt.U, Pt.locs, Pt.cells, Pt.slots] at X' e1 e2 h1 h2 h3 st hcl
    subst h1; subst h2; subst h3
    exact Or.inr ⟨q, (T.setVm vm₁).calling g' mk (Value.ref b :: As).toArray, t, U', L, E, ce, hT, X', hL, e1, e2, hq, hce, hcv, vx_cls hW₁ hcl, st⟩
end VXIB
/-! ===== END ===== -/
/-! ===== BEGIN a private constructor of a nest mate that throws ===== -/
section VXIC
variable {p : Program} {l : Launch} {e : Env} {R : Room} {s : State} {m : MethodId} {args : Array Value} {below : List Frame} {meth : Method} {c : Code} {T : State} {locs : List Loc} {cells slots : Nat}
theorem vx_callIN (X : Stand p l e R s m args below meth c T locs cells slots) (hexec : p.tables.exec = Jvm.exec) {own : String} {index : Nat} {host : String} {y : MethodName} {bytes : ByteArray} {maxL : Nat}
    (hown : s.vm.findClass own = some m.cls) (hy1 : y.name = "<init>") (hlink : (Cond.methodLinkNest own index y host).before args s = true) (hinst : (Cond.instanceMethod y).before args s = true)
    (hcode : (Cond.code y bytes maxL none).before args s = true) (hy : y.cls ≠ "java/lang/invoke/MethodHandle" ∧ y.cls ≠ "java/lang/invoke/VarHandle")
    {W9 : Nat} {Pre : Pt → Array Value → Prop} {Post : Pt → Array Value → Option Value → Pt → Prop} {PostX : Pt → Array Value → Addr → Pt → Prop} (hK : vx_Back l R p e below s args y 3 W9 Pre Post PostX)
    {g : JFrame} (hg : g.method = m) (hsize : g.locals.size = c.maxLocals) {a : Addr} {argsL rest : List Value} (hlen : ∀ sig, parseMethodDescriptor y.desc = some sig → argsL.length = sig.parameters.length)
    (hstack : g.stack = argsL.reverse ++ .ref a :: rest) (hW : 2 * g.monitorRoom + (rest.map fun v => v.category).sum ≤ W9) (hdg : decode c.code g.pc = .ok (.invokespecial index, 3))
    (hpre : ∀ vm₁, s.WarmedH vm₁ → Pre ⟨T.setVm vm₁, locs, cells, slots⟩ (Value.ref a :: argsL).toArray) :
    (∃ (v : Option Value) (vm₁ : Vm) (B : Pt), s.WarmedH vm₁ ∧ Stand p l e R s m args below meth c B.U B.locs B.cells B.slots ∧ Post ⟨T.setVm vm₁, locs, cells, slots⟩ (Value.ref a :: argsL).toArray v B ∧
      ∀ target, Steps p.tables e below (B.U.setTop { g with pc := g.pc + 3, stack := v.toList ++ rest }) target → Steps p.tables e below (T.setTop g) target) ∨
    (∃ (q : Addr) (vm₁ : Vm) (B : Pt), s.WarmedH vm₁ ∧ Stand p l e R s m args below meth c B.U B.locs B.cells B.slots ∧ PostX ⟨T.setVm vm₁, locs, cells, slots⟩ (Value.ref a :: argsL).toArray q B ∧
      Steps p.tables e below (T.setTop g) ((B.U.setTop { g with stack := rest }).pushFrame (.throwing q))) := by
  subst hg
  have hpl : e.platform.magicAccessors = ({} : Platform).magicAccessors := by rw [X.admits.platform]
  obtain ⟨mk, methM, cM, kP, vm₁, hnamed, hmethM, hcodeM, -, hlocalsM, -, hkP, -, hW₁, hstep₁⟩ := Steps.initColdArgsNest (e := e) X.here hexec X.warmed hpl hown hy1 hy hlink hinst hcode (f := g) rfl hlen hstack hdg
  have X₁ := X.noted hW₁
  rcases hK g.method meth c ⟨T.setVm vm₁, locs, cells, slots⟩ { g with stack := rest } (.invokespecial index) mk (Value.ref a :: argsL).toArray X₁ rfl hsize hdg hW (X₁.named hnamed) (hpre vm₁ X₁.warmed) with ⟨v, B, X', hpost, hsteps⟩ | ⟨q, B, X', hpost, hsteps⟩
  · exact Or.inl ⟨v, vm₁, B, X₁.warmed, X', hpost, fun target h => hstep₁ _ fun acts => by rw [doInvoke_state]; exact hsteps.trans h⟩
  · exact Or.inr ⟨q, vm₁, B, X₁.warmed, X', hpost, hstep₁ _ fun acts => by rw [doInvoke_state]; exact hsteps⟩
end VXIC
section VXID
variable {p : Program} {l : Launch} {e : Env} {R : Room} {s : State} {m : MethodId} {args : Array Value} {below : List Frame} {meth : Method} {c : Code} {H : Heap} {locs : List Loc} {cells slots : Nat}
theorem vx_runIN {y : MethodName} {bytes cc : ByteArray} {maxL nL mc ms n index : Nat} {ws : List Cond} {rm : Room} {Pc : Array Value → State → Prop} {Qc : Array Value → State → Outcome → State → Prop} {XC : String → State → State → Prop} {free : Addr → Prop} {Ts : List Cond} {own host : String} {b : Addr} {As rest : List Value} {g : JFrame}
    (S : CallFix p m c cc nL s args Ts own) (hM : vx_Met l y ws rm Pc Qc XC mc ms free) (cw : va_CN R s args own index y host bytes maxL none ws rm mc ms n ∧ y.name = "<init>" ∧ (Cond.instanceMethod y).before args s = true) (hp : PreS s H Pc (.ref b :: As))
    (hg : g.method = m) (hn : As.length = n) (hsize : g.locals.size = nL) (hstack : g.stack = As.reverse ++ .ref b :: rest) (hW : 2 * g.monitorRoom + (rest.map fun v => v.category).sum ≤ 8) (hdg : decode cc g.pc = .ok (.invokespecial index, 3)) (hf : cells + mc ≤ R.cells ∧ slots + ms ≤ R.slots) :
    vx_Run p l e R s m args below meth c H locs cells slots mc ms g rest (Qc (Value.ref b :: As).toArray) XC free := by
  obtain ⟨⟨⟨hrc, hrs, hfr, hlo, hws, hcw⟩, hcode, hini, hy, hlen, hl⟩, hx1, hx2⟩ := cw
  have hK : vx_Back l R p e below s args y 3 8 (PreOf R mc ms Pc) (PostOf Qc mc ms free) (vx_Post XC mc ms free) := vx_back (bytes := bytes) (maxL := maxL) (ret := none) hM hp.1 hrc hrs hfr hlo hws hcw (fun a' U hW => word_at hW (Or.inl (by first | rfl | simp [Cond.onTables, Cond.keeps, Cond.steady])) hini)
  obtain ⟨hx, hb, hml, ho, -⟩ := S
  have hPc := hp.2
  intro T hT X
  rcases vx_callIN X hx (bytes := bytes) (maxL := maxL) ho hx1 hl hx2 hcode hy hK hg (hsize.trans hml.symm) (a := b) (argsL := As) (rest := rest) (fun sig h => hn.trans (hlen sig h)) hstack hW (by rw [hb]; exact hdg)
    (fun vm₁ hW₁ => ⟨hf.1, hf.2, hPc (T.setVm vm₁) hT hW₁⟩) with ⟨v, vm₁, ⟨U', l2, c2, s2⟩, hW₁, X', ⟨g', mk, t, L, e1, e2, hq, h1, hL, h2, h3⟩, st⟩ | ⟨q, vm₁, ⟨U', l2, c2, s2⟩, hW₁, X', ⟨g', mk, t, L, E, ce, e1, e2, hq, hce, hcv, hcl, h1, hL, h2, h3⟩, st⟩
  · dsimp only [Pt.U, Pt.locs, Pt.cells, Pt.slots] at X' e1 e2 h1 h2 h3 st
    subst h1; subst h2; subst h3
    exact Or.inl ⟨v, (T.setVm vm₁).calling g' mk (Value.ref b :: As).toArray, t, U', L, hT, X', hL, e1, e2, hq, st⟩
  · dsimp only [Pt.U, Pt.locs, Pt.cells, Pt.slots] at X' e1 e2 h1 h2 h3 st hcl
    subst h1; subst h2; subst h3
    exact Or.inr ⟨q, (T.setVm vm₁).calling g' mk (Value.ref b :: As).toArray, t, U', L, E, ce, hT, X', hL, e1, e2, hq, hce, hcv, vx_cls hW₁ hcl, st⟩
end VXID
/-! ===== END ===== -/
/-! ===== BEGIN a method of a class above, found by the receiver, that may throw (follows va_callVU, va_runU of this kit) ===== -/
section
variable {p : Program} {l : Launch} {e : Env} {R : Room} {s : State} {m : MethodId} {args : Array Value} {below : List Frame} {meth : Method} {c : Code} {H : Heap} {locs : List Loc} {cells slots : Nat}
theorem vx_callVU {T : State} {locs : List Loc} {cells slots : Nat} (X : Stand p l e R s m args below meth c T locs cells slots) (hexec : p.tables.exec = Jvm.exec) {own C owner : String} {index : Nat} {x y : MethodName} {bytes : ByteArray} {maxL : Nat} {ret : Option FieldType}
    (hown : s.vm.findClass own = some m.cls) (hlink : (Cond.methodLink own index x).before args s = true) (hsame : (Cond.sameMethod x.cls owner x.name x.desc).before args s = true)
    (hd0 : va_Decl s ⟨owner, x.name, x.desc⟩) (howner : owner ≠ "java/lang/invoke/MethodHandle" ∧ owner ≠ "java/lang/invoke/VarHandle")
    (hsel : (Cond.selects C x y).before args s = true) (hinst : (Cond.instanceMethod y).before args s = true) (hcode : (Cond.code y bytes maxL ret).before args s = true)
    {W : Nat} {Pre : Pt → Array Value → Prop} {Post : Pt → Array Value → Option Value → Pt → Prop} {PostX : Pt → Array Value → Addr → Pt → Prop} (hK : vx_Back l R p e below s args y 3 W Pre Post PostX)
    {b : Addr} {cellB : Cell} (hcell : T.heap[b]? = some cellB) (hobj : cellB.vm.isStatics = false) (hcls : s.vm.findClass C = some cellB.cls)
    {g : JFrame} (hg : g.method = m) (hsize : g.locals.size = c.maxLocals) {argsL rest : List Value} (hlen : ∀ sig, parseMethodDescriptor x.desc = some sig → argsL.length = sig.parameters.length)
    (hstack : g.stack = argsL.reverse ++ .ref b :: rest) (hW : 2 * g.monitorRoom + (rest.map fun v => v.category).sum ≤ W) (hdg : decode c.code g.pc = .ok (.invokevirtual index, 3))
    (hpre : ∀ vm₁, s.WarmedH vm₁ → Pre ⟨T.setVm vm₁, locs, cells, slots⟩ (Value.ref b :: argsL).toArray) :
    (∃ (v : Option Value) (vm₁ : Vm) (B : Pt), s.WarmedH vm₁ ∧ Stand p l e R s m args below meth c B.U B.locs B.cells B.slots ∧ Post ⟨T.setVm vm₁, locs, cells, slots⟩ (Value.ref b :: argsL).toArray v B ∧
      ∀ target, Steps p.tables e below (B.U.setTop { g with pc := g.pc + 3, stack := v.toList ++ rest }) target → Steps p.tables e below (T.setTop g) target) ∨
    (∃ (q : Addr) (vm₁ : Vm) (B : Pt), s.WarmedH vm₁ ∧ Stand p l e R s m args below meth c B.U B.locs B.cells B.slots ∧ PostX ⟨T.setVm vm₁, locs, cells, slots⟩ (Value.ref b :: argsL).toArray q B ∧
      Steps p.tables e below (T.setTop g) ((B.U.setTop { g with stack := rest }).pushFrame (.throwing q))) := by
  obtain ⟨r0, r, hn, hrm, hstR, hsigR⟩ := hd0
  obtain ⟨cn, ck, r1, hcn, hck, hni, hf, hn1⟩ := Cond.sameMethod_found hsame
  cases hn.symm.trans hn1
  obtain ⟨mk, methM, hnamed, hmethM, -, habM⟩ := Cond.instanceMethod_spec hinst
  obtain ⟨c2, r2, m2, q1, q2, q3, q4, kP, hkP, hkPi⟩ := Cond.selects_spec hsel
  cases hcls.symm.trans q1
  cases hf.symm.trans q2
  cases hnamed.symm.trans q3
  have hselP : selectMethod e.platform s.vm cellB.cls r0 = .method mk := by rw [Launch.admits_selectMethod X.admits]; exact q4
  obtain ⟨vm₁, X₁, hstep₁⟩ := X.invokevirtualUp hexec hown hlink hsame howner hn hrm hstR (a := b) (cell := cellB) hcell
    (fun z h => by rw [h] at hobj; cases hobj) hselP hmethM habM hkP hkPi (g := g) hg (argsL := argsL) (rest := rest) (hlen _ hsigR) hstack hdg
  rcases hK m meth c ⟨T.setVm vm₁, locs, cells, slots⟩ { g with stack := rest } (.invokevirtual index) mk (Value.ref b :: argsL).toArray X₁ hg hsize hdg hW (X₁.named hnamed) (hpre vm₁ X₁.warmed) with ⟨v, B, X', hpost, hsteps⟩ | ⟨q, B, X', hpost, hsteps⟩
  · exact Or.inl ⟨v, vm₁, B, X₁.warmed, X', hpost, fun target h => hstep₁ _ fun acts => by rw [doInvoke_state]; exact hsteps.trans h⟩
  · exact Or.inr ⟨q, vm₁, B, X₁.warmed, X', hpost, hstep₁ _ fun acts => by rw [doInvoke_state]; exact hsteps⟩
theorem vx_runU {x y : MethodName} {bytes cc : ByteArray} {maxL nL mc ms n index : Nat} {ret : Option FieldType} {ws : List Cond} {rm : Room} {Pc : Array Value → State → Prop} {Qc : Array Value → State → Outcome → State → Prop} {XC : String → State → State → Prop} {free : Addr → Prop} {Ts : List Cond} {own C owner : String} {b : Addr} {As rest : List Value} {g : JFrame}
    (S : CallFix p m c cc nL s args Ts own) (hM : vx_Met l y ws rm Pc Qc XC mc ms free) (cw : va_CU R s args own C owner index x y bytes maxL ret ws rm mc ms n) (hp : PreV s H C b Pc As)
    (hg : g.method = m) (hn : As.length = n) (hsize : g.locals.size = nL) (hstack : g.stack = As.reverse ++ .ref b :: rest) (hW : 2 * g.monitorRoom + (rest.map fun v => v.category).sum ≤ 8) (hdg : decode cc g.pc = .ok (.invokevirtual index, 3)) (hf : cells + mc ≤ R.cells ∧ slots + ms ≤ R.slots) :
    vx_Run p l e R s m args below meth c H locs cells slots mc ms g rest (Qc (Value.ref b :: As).toArray) XC free := by
  obtain ⟨hrc, hrs, hfr, hlo, hws, hcw⟩ := cw.back
  have hini := cw.init
  have hK : vx_Back l R p e below s args y 3 8 (PreOf R mc ms Pc) (PostOf Qc mc ms free) (vx_Post XC mc ms free) := vx_back (bytes := bytes) (maxL := maxL) (ret := ret) hM hp.1 hrc hrs hfr hlo hws hcw (fun a' U hW => word_at hW (Or.inl (by first | rfl | simp [Cond.onTables, Cond.keeps, Cond.steady])) hini)
  obtain ⟨hx, hb, hml, ho, -⟩ := S
  obtain ⟨-, ⟨cellB, hcB, hoB, hclB⟩, hPc⟩ := hp
  intro T hT X
  rcases vx_callVU X hx (C := C) (owner := owner) (bytes := bytes) (maxL := maxL) (ret := ret) ho cw.link cw.same cw.decl cw.notMH cw.sel cw.inst cw.code hK (by rw [hT]; exact hcB) hoB hclB hg (hsize.trans hml.symm) (argsL := As) (rest := rest) (fun sig h => hn.trans (cw.len sig h)) hstack hW (by rw [hb]; exact hdg)
    (fun vm₁ hW₁ => ⟨hf.1, hf.2, hPc (T.setVm vm₁) hT hW₁⟩) with ⟨v, vm₁, ⟨U', l2, c2, s2⟩, hW₁, X', ⟨g', mk, t, L, e1, e2, hq, h1, hL, h2, h3⟩, st⟩ | ⟨q, vm₁, ⟨U', l2, c2, s2⟩, hW₁, X', ⟨g', mk, t, L, E, ce, e1, e2, hq, hce, hcv, hcl, h1, hL, h2, h3⟩, st⟩
  · dsimp only [Pt.U, Pt.locs, Pt.cells, Pt.slots] at X' e1 e2 h1 h2 h3 st
    subst h1; subst h2; subst h3
    exact Or.inl ⟨v, (T.setVm vm₁).calling g' mk (Value.ref b :: As).toArray, t, U', L, hT, X', hL, e1, e2, hq, st⟩
  · dsimp only [Pt.U, Pt.locs, Pt.cells, Pt.slots] at X' e1 e2 h1 h2 h3 st hcl
    subst h1; subst h2; subst h3
    exact Or.inr ⟨q, (T.setVm vm₁).calling g' mk (Value.ref b :: As).toArray, t, U', L, E, ce, hT, X', hL, e1, e2, hq, hce, hcv, vx_cls hW₁ hcl, st⟩
end
/-! ===== END ===== -/
/-! ===== BEGIN super.m(..) that may throw (follows va_callSU, va_runSU) ===== -/
section
variable {p : Program} {l : Launch} {e : Env} {R : Room} {s : State} {m : MethodId} {args : Array Value} {below : List Frame} {meth : Method} {c : Code} {H : Heap} {locs : List Loc} {cells slots : Nat}
theorem vx_callSU {T : State} {locs : List Loc} {cells slots : Nat} (X : Stand p l e R s m args below meth c T locs cells slots) (hexec : p.tables.exec = Jvm.exec) {own : String} {index : Nat} {y : MethodName} {bytes : ByteArray} {maxL : Nat} {ret : Option FieldType}
    (hown : s.vm.findClass own = some m.cls) (hlink : (Cond.methodLink own index y).before args s = true) (hsame : (Cond.sameMethod y.cls y.cls y.name y.desc).before args s = true) (hsup : (Cond.superclass own y.cls).before args s = true)
    (hinst : (Cond.instanceMethod y).before args s = true) (hcode : (Cond.code y bytes maxL ret).before args s = true) (hno : y.name ≠ "<init>")
    {W : Nat} {Pre : Pt → Array Value → Prop} {Post : Pt → Array Value → Option Value → Pt → Prop} {PostX : Pt → Array Value → Addr → Pt → Prop} (hK : vx_Back l R p e below s args y 3 W Pre Post PostX)
    {b : Addr} {cellB : Cell} {kB : Class} (hcell : T.heap[b]? = some cellB) (hobj : cellB.vm.isStatics = false) (hkB : s.vm.classes[cellB.cls]? = some kB)
    {g : JFrame} (hg : g.method = m) (hsize : g.locals.size = c.maxLocals) {argsL rest : List Value} (hlen : ∀ sig, parseMethodDescriptor y.desc = some sig → argsL.length = sig.parameters.length)
    (hstack : g.stack = argsL.reverse ++ .ref b :: rest) (hW : 2 * g.monitorRoom + (rest.map fun v => v.category).sum ≤ W) (hdg : decode c.code g.pc = .ok (.invokespecial index, 3))
    (hpre : ∀ vm₁, s.WarmedH vm₁ → Pre ⟨T.setVm vm₁, locs, cells, slots⟩ (Value.ref b :: argsL).toArray) :
    (∃ (v : Option Value) (vm₁ : Vm) (B : Pt), s.WarmedH vm₁ ∧ Stand p l e R s m args below meth c B.U B.locs B.cells B.slots ∧ Post ⟨T.setVm vm₁, locs, cells, slots⟩ (Value.ref b :: argsL).toArray v B ∧
      ∀ target, Steps p.tables e below (B.U.setTop { g with pc := g.pc + 3, stack := v.toList ++ rest }) target → Steps p.tables e below (T.setTop g) target) ∨
    (∃ (q : Addr) (vm₁ : Vm) (B : Pt), s.WarmedH vm₁ ∧ Stand p l e R s m args below meth c B.U B.locs B.cells B.slots ∧ PostX ⟨T.setVm vm₁, locs, cells, slots⟩ (Value.ref b :: argsL).toArray q B ∧
      Steps p.tables e below (T.setTop g) ((B.U.setTop { g with stack := rest }).pushFrame (.throwing q))) := by
  obtain ⟨mk, methM, hnamed, hmethM, hstM, habM⟩ := Cond.instanceMethod_spec hinst
  obtain ⟨methM', cM, hmethM', -, -, -, -, -, -, hsigM⟩ := Cond.code_spec hnamed hcode
  cases hmethM.symm.trans hmethM'
  obtain ⟨ps, dk, kp, hps, hdk, hkp, hsuper, -, -, hnid⟩ := Cond.superclass_spec hown hsup
  have hn : s.methodNamed? ⟨y.cls, y.name, y.desc⟩ = some mk := hnamed
  have hpm : ps = mk.cls := Option.some.inj (hps.symm.trans (findClass_of_methodNamed hnamed))
  have hsub : s.vm.isSubclass ps mk.cls = true := by rw [hpm]; simp [Vm.isSubclass, Vm.isSubclassAux]
  obtain ⟨vm₁, X₁, hstep₁⟩ := X.invokespecialUp hexec hown hlink hsame hn hmethM hstM habM hno hdk hnid hps hsuper hsub (a := b) (cell := cellB) hcell
    (fun z h => by rw [h] at hobj; cases hobj) hkB (g := g) hg (argsL := argsL) (rest := rest) (hlen _ hsigM) hstack hdg
  rcases hK m meth c ⟨T.setVm vm₁, locs, cells, slots⟩ { g with stack := rest } (.invokespecial index) mk (Value.ref b :: argsL).toArray X₁ hg hsize hdg hW (X₁.named hnamed) (hpre vm₁ X₁.warmed) with ⟨v, B, X', hpost, hsteps⟩ | ⟨q, B, X', hpost, hsteps⟩
  · exact Or.inl ⟨v, vm₁, B, X₁.warmed, X', hpost, fun target h => hstep₁ _ (by rw [doInvoke_state]; exact hsteps.trans h)⟩
  · exact Or.inr ⟨q, vm₁, B, X₁.warmed, X', hpost, hstep₁ _ (by rw [doInvoke_state]; exact hsteps)⟩
theorem vx_runSU {y : MethodName} {bytes cc : ByteArray} {maxL nL mc ms n index : Nat} {ret : Option FieldType} {ws : List Cond} {rm : Room} {Pc : Array Value → State → Prop} {Qc : Array Value → State → Outcome → State → Prop} {XC : String → State → State → Prop} {free : Addr → Prop} {Ts : List Cond} {own C : String} {cC : ClassId} {b : Addr} {As rest : List Value} {g : JFrame}
    (hat : ClassAt s C cC) (S : CallFix p m c cc nL s args Ts own) (hM : vx_Met l y ws rm Pc Qc XC mc ms free) (cw : va_CS R s args own index y bytes maxL ret ws rm mc ms n) (hp : PreV s H C b Pc As)
    (hg : g.method = m) (hn : As.length = n) (hsize : g.locals.size = nL) (hstack : g.stack = As.reverse ++ .ref b :: rest) (hW : 2 * g.monitorRoom + (rest.map fun v => v.category).sum ≤ 8) (hdg : decode cc g.pc = .ok (.invokespecial index, 3)) (hf : cells + mc ≤ R.cells ∧ slots + ms ≤ R.slots) :
    vx_Run p l e R s m args below meth c H locs cells slots mc ms g rest (Qc (Value.ref b :: As).toArray) XC free := by
  obtain ⟨⟨hrc, hrs, hfr, hlo, hws, hcw⟩, hl1, hl2, hl3, hl4, hini, hcode, hno, hlen⟩ := cw
  have hK : vx_Back l R p e below s args y 3 8 (PreOf R mc ms Pc) (PostOf Qc mc ms free) (vx_Post XC mc ms free) := vx_back (bytes := bytes) (maxL := maxL) (ret := ret) hM hp.1 hrc hrs hfr hlo hws hcw (fun a' U hW => word_at hW (Or.inl (by first | rfl | simp [Cond.onTables, Cond.keeps, Cond.steady])) hini)
  obtain ⟨hx, hb, hml, ho, -⟩ := S
  obtain ⟨-, ⟨cellB, hcB, hoB, hclB⟩, hPc⟩ := hp
  obtain ⟨hfc, kB, hkB, -⟩ := hat
  cases hfc.symm.trans hclB
  intro T hT X
  rcases vx_callSU X hx (bytes := bytes) (maxL := maxL) (ret := ret) ho hl1 hl2 hl3 hl4 hcode hno hK (by rw [hT]; exact hcB) hoB hkB hg (hsize.trans hml.symm) (argsL := As) (rest := rest) (fun sig h => hn.trans (hlen sig h)) hstack hW (by rw [hb]; exact hdg)
    (fun vm₁ hW₁ => ⟨hf.1, hf.2, hPc (T.setVm vm₁) hT hW₁⟩) with ⟨v, vm₁, ⟨U', l2, c2, s2⟩, hW₁, X', ⟨g', mk, t, L, e1, e2, hq, h1, hL, h2, h3⟩, st⟩ | ⟨q, vm₁, ⟨U', l2, c2, s2⟩, hW₁, X', ⟨g', mk, t, L, E, ce, e1, e2, hq, hce, hcv, hcl, h1, hL, h2, h3⟩, st⟩
  · dsimp only [Pt.U, Pt.locs, Pt.cells, Pt.slots] at X' e1 e2 h1 h2 h3 st
    subst h1; subst h2; subst h3
    exact Or.inl ⟨v, (T.setVm vm₁).calling g' mk (Value.ref b :: As).toArray, t, U', L, hT, X', hL, e1, e2, hq, st⟩
  · dsimp only [Pt.U, Pt.locs, Pt.cells, Pt.slots] at X' e1 e2 h1 h2 h3 st hcl
    subst h1; subst h2; subst h3
    exact Or.inr ⟨q, (T.setVm vm₁).calling g' mk (Value.ref b :: As).toArray, t, U', L, E, ce, hT, X', hL, e1, e2, hq, hce, hcv, vx_cls hW₁ hcl, st⟩
end
/-! ===== END ===== -/
/-! ===== BEGIN a private method of a nest mate that may throw (follows va_callVN, va_callSN, va_runVN, va_runSN) ===== -/
section
variable {p : Program} {l : Launch} {e : Env} {R : Room} {s : State} {m : MethodId} {args : Array Value} {below : List Frame} {meth : Method} {c : Code} {H : Heap} {locs : List Loc} {cells slots : Nat}
variable {T : State}
theorem vx_callVN (X : Stand p l e R s m args below meth c T locs cells slots) (hexec : p.tables.exec = Jvm.exec) {own C : String} {index : Nat} {host : String} {y : MethodName} {bytes : ByteArray} {maxL : Nat} {ret : Option FieldType}
    (hown : s.vm.findClass own = some m.cls) (hlink : (Cond.methodLinkNest own index y host).before args s = true) (hinst : (Cond.instanceMethod y).before args s = true) (hsel : (Cond.selects C y y).before args s = true)
    (hcode : (Cond.code y bytes maxL ret).before args s = true) (hy : y.cls ≠ "java/lang/invoke/MethodHandle" ∧ y.cls ≠ "java/lang/invoke/VarHandle")
    {W : Nat} {Pre : Pt → Array Value → Prop} {Post : Pt → Array Value → Option Value → Pt → Prop} {PostX : Pt → Array Value → Addr → Pt → Prop} (hK : vx_Back l R p e below s args y 3 W Pre Post PostX)
    {b : Addr} {cellB : Cell} (hcell : T.heap[b]? = some cellB) (hobj : cellB.vm.isStatics = false) (hcls : s.vm.findClass C = some cellB.cls)
    {g : JFrame} (hg : g.method = m) (hsize : g.locals.size = c.maxLocals) {argsL rest : List Value} (hlen : ∀ sig, parseMethodDescriptor y.desc = some sig → argsL.length = sig.parameters.length)
    (hstack : g.stack = argsL.reverse ++ .ref b :: rest) (hW : 2 * g.monitorRoom + (rest.map fun v => v.category).sum ≤ W) (hdg : decode c.code g.pc = .ok (.invokevirtual index, 3))
    (hpre : ∀ vm₁, s.WarmedH vm₁ → Pre ⟨T.setVm vm₁, locs, cells, slots⟩ (Value.ref b :: argsL).toArray) :
    (∃ (v : Option Value) (vm₁ : Vm) (B : Pt), s.WarmedH vm₁ ∧ Stand p l e R s m args below meth c B.U B.locs B.cells B.slots ∧ Post ⟨T.setVm vm₁, locs, cells, slots⟩ (Value.ref b :: argsL).toArray v B ∧
      ∀ target, Steps p.tables e below (B.U.setTop { g with pc := g.pc + 3, stack := v.toList ++ rest }) target → Steps p.tables e below (T.setTop g) target) ∨
    (∃ (q : Addr) (vm₁ : Vm) (B : Pt), s.WarmedH vm₁ ∧ Stand p l e R s m args below meth c B.U B.locs B.cells B.slots ∧ PostX ⟨T.setVm vm₁, locs, cells, slots⟩ (Value.ref b :: argsL).toArray q B ∧
      Steps p.tables e below (T.setTop g) ((B.U.setTop { g with stack := rest }).pushFrame (.throwing q))) := by
  obtain ⟨mk, methM, hnamed, hmethM, hstM, habM⟩ := Cond.instanceMethod_spec hinst
  obtain ⟨methM', cM, hmethM', -, -, -, -, -, -, hsigM⟩ := Cond.code_spec hnamed hcode
  cases hmethM.symm.trans hmethM'
  obtain ⟨c2, r2, m2, q1, q2, q3, q4, kP, hkP, hkPi⟩ := Cond.selects_spec hsel
  cases hcls.symm.trans q1
  cases (State.methodFound?_of_named hnamed hy).symm.trans q2
  cases hnamed.symm.trans q3
  have hselP : selectMethod e.platform s.vm cellB.cls mk = .method mk := by rw [Launch.admits_selectMethod X.admits]; exact q4
  obtain ⟨vm₁, X₁, hstep₁⟩ := X.invokevirtualNest hexec hown hlink hnamed hmethM hstM hkP hkPi hy (a := b) (cell := cellB) hcell
    (fun z h => by rw [h] at hobj; cases hobj) hselP hmethM habM hkP hkPi (g := g) hg (argsL := argsL) (rest := rest) (hlen _ hsigM) hstack hdg
  rcases hK m meth c ⟨T.setVm vm₁, locs, cells, slots⟩ { g with stack := rest } (.invokevirtual index) mk (Value.ref b :: argsL).toArray X₁ hg hsize hdg hW (X₁.named hnamed) (hpre vm₁ X₁.warmed) with ⟨v, B, X', hpost, hsteps⟩ | ⟨q, B, X', hpost, hsteps⟩
  · exact Or.inl ⟨v, vm₁, B, X₁.warmed, X', hpost, fun target h => hstep₁ _ fun acts => by rw [doInvoke_state]; exact hsteps.trans h⟩
  · exact Or.inr ⟨q, vm₁, B, X₁.warmed, X', hpost, hstep₁ _ fun acts => by rw [doInvoke_state]; exact hsteps⟩
theorem vx_callSN (X : Stand p l e R s m args below meth c T locs cells slots) (hexec : p.tables.exec = Jvm.exec) {own : String} {index : Nat} {host : String} {y : MethodName} {bytes : ByteArray} {maxL : Nat} {ret : Option FieldType}
    (hown : s.vm.findClass own = some m.cls) (hlink : (Cond.methodLinkNest own index y host).before args s = true) (hstat : (Cond.static y).before args s = true) (hinit : (Cond.initialized y.cls).before args s = true)
    (hcode : (Cond.code y bytes maxL ret).before args s = true) (hy : y.cls ≠ "java/lang/invoke/MethodHandle" ∧ y.cls ≠ "java/lang/invoke/VarHandle")
    {W : Nat} {Pre : Pt → Array Value → Prop} {Post : Pt → Array Value → Option Value → Pt → Prop} {PostX : Pt → Array Value → Addr → Pt → Prop} (hK : vx_Back l R p e below s args y 3 W Pre Post PostX)
    {g : JFrame} (hg : g.method = m) (hsize : g.locals.size = c.maxLocals) {argsL rest : List Value} (hlen : ∀ sig, parseMethodDescriptor y.desc = some sig → argsL.length = sig.parameters.length)
    (hstack : g.stack = argsL.reverse ++ rest) (hW : 2 * g.monitorRoom + (rest.map fun v => v.category).sum ≤ W) (hdg : decode c.code g.pc = .ok (.invokestatic index, 3))
    (hpre : ∀ vm₁, s.WarmedH vm₁ → Pre ⟨T.setVm vm₁, locs, cells, slots⟩ argsL.toArray) :
    (∃ (v : Option Value) (vm₁ : Vm) (B : Pt), s.WarmedH vm₁ ∧ Stand p l e R s m args below meth c B.U B.locs B.cells B.slots ∧ Post ⟨T.setVm vm₁, locs, cells, slots⟩ argsL.toArray v B ∧
      ∀ target, Steps p.tables e below (B.U.setTop { g with pc := g.pc + 3, stack := v.toList ++ rest }) target → Steps p.tables e below (T.setTop g) target) ∨
    (∃ (q : Addr) (vm₁ : Vm) (B : Pt), s.WarmedH vm₁ ∧ Stand p l e R s m args below meth c B.U B.locs B.cells B.slots ∧ PostX ⟨T.setVm vm₁, locs, cells, slots⟩ argsL.toArray q B ∧
      Steps p.tables e below (T.setTop g) ((B.U.setTop { g with stack := rest }).pushFrame (.throwing q))) := by
  obtain ⟨mk, hnamed⟩ := Cond.code_named hcode
  obtain ⟨methM, cM, hmethM, -, -, -, -, -, -, hsigM⟩ := Cond.code_spec hnamed hcode
  have hstatic : methM.isStatic = true := Cond.static_spec hnamed hmethM hstat
  obtain ⟨kP, hkP, -⟩ := className_of_methodNamed hnamed
  have hinitP : kP.init = .initialized := Cond.initialized_spec (findClass_of_methodNamed hnamed) hkP hinit
  obtain ⟨vm₁, X₁, hstep₁⟩ := X.invokestaticNest hexec hown hlink hnamed hmethM hstatic hkP hinitP hy (g := g) hg (argsL := argsL) (rest := rest) (hlen _ hsigM) hstack hdg
  rcases hK m meth c ⟨T.setVm vm₁, locs, cells, slots⟩ { g with stack := rest } (.invokestatic index) mk argsL.toArray X₁ hg hsize hdg hW (X₁.named hnamed) (hpre vm₁ X₁.warmed) with ⟨v, B, X', hpost, hsteps⟩ | ⟨q, B, X', hpost, hsteps⟩
  · exact Or.inl ⟨v, vm₁, B, X₁.warmed, X', hpost, fun target h => hstep₁ _ fun acts => by rw [doInvoke_state]; exact hsteps.trans h⟩
  · exact Or.inr ⟨q, vm₁, B, X₁.warmed, X', hpost, hstep₁ _ fun acts => by rw [doInvoke_state]; exact hsteps⟩
theorem vx_runVN {y : MethodName} {bytes cc : ByteArray} {maxL nL mc ms n index : Nat} {ret : Option FieldType} {ws : List Cond} {rm : Room} {Pc : Array Value → State → Prop} {Qc : Array Value → State → Outcome → State → Prop} {XC : String → State → State → Prop} {free : Addr → Prop} {Ts : List Cond} {own C host : String} {b : Addr} {As rest : List Value} {g : JFrame}
    (S : CallFix p m c cc nL s args Ts own) (hM : vx_Met l y ws rm Pc Qc XC mc ms free) (cw : va_CN R s args own index y host bytes maxL ret ws rm mc ms n ∧ (Cond.instanceMethod y).before args s = true ∧ (Cond.selects C y y).before args s = true) (hp : PreV s H C b Pc As)
    (hg : g.method = m) (hn : As.length = n) (hsize : g.locals.size = nL) (hstack : g.stack = As.reverse ++ .ref b :: rest) (hW : 2 * g.monitorRoom + (rest.map fun v => v.category).sum ≤ 8) (hdg : decode cc g.pc = .ok (.invokevirtual index, 3)) (hf : cells + mc ≤ R.cells ∧ slots + ms ≤ R.slots) :
    vx_Run p l e R s m args below meth c H locs cells slots mc ms g rest (Qc (Value.ref b :: As).toArray) XC free := by
  obtain ⟨⟨⟨hrc, hrs, hfr, hlo, hws, hcw⟩, hcode, hini, hy, hlen, hl⟩, hx1, hx2⟩ := cw
  have hK : vx_Back l R p e below s args y 3 8 (PreOf R mc ms Pc) (PostOf Qc mc ms free) (vx_Post XC mc ms free) := vx_back (bytes := bytes) (maxL := maxL) (ret := ret) hM hp.1 hrc hrs hfr hlo hws hcw (fun a' U hW => word_at hW (Or.inl (by first | rfl | simp [Cond.onTables, Cond.keeps, Cond.steady])) hini)
  obtain ⟨hx, hb, hml, ho, -⟩ := S
  obtain ⟨-, ⟨cellB, hcB, hoB, hclB⟩, hPc⟩ := hp
  intro T hT X
  rcases vx_callVN X hx (C := C) (bytes := bytes) (maxL := maxL) (ret := ret) ho hl hx1 hx2 hcode hy hK (by rw [hT]; exact hcB) hoB hclB hg (hsize.trans hml.symm) (argsL := As) (rest := rest) (fun sig h => hn.trans (hlen sig h)) hstack hW (by rw [hb]; exact hdg)
    (fun vm₁ hW₁ => ⟨hf.1, hf.2, hPc (T.setVm vm₁) hT hW₁⟩) with ⟨v, vm₁, ⟨U', l2, c2, s2⟩, hW₁, X', ⟨g', mk, t, L, e1, e2, hq, h1, hL, h2, h3⟩, st⟩ | ⟨q, vm₁, ⟨U', l2, c2, s2⟩, hW₁, X', ⟨g', mk, t, L, E, ce, e1, e2, hq, hce, hcv, hcl, h1, hL, h2, h3⟩, st⟩
  · dsimp only [Pt.U, Pt.locs, Pt.cells, Pt.slots] at X' e1 e2 h1 h2 h3 st
    subst h1; subst h2; subst h3
    exact Or.inl ⟨v, (T.setVm vm₁).calling g' mk (Value.ref b :: As).toArray, t, U', L, hT, X', hL, e1, e2, hq, st⟩
  · dsimp only [Pt.U, Pt.locs, Pt.cells, Pt.slots] at X' e1 e2 h1 h2 h3 st hcl
    subst h1; subst h2; subst h3
    exact Or.inr ⟨q, (T.setVm vm₁).calling g' mk (Value.ref b :: As).toArray, t, U', L, E, ce, hT, X', hL, e1, e2, hq, hce, hcv, vx_cls hW₁ hcl, st⟩
theorem vx_runSN {y : MethodName} {bytes cc : ByteArray} {maxL nL mc ms n index : Nat} {ret : Option FieldType} {ws : List Cond} {rm : Room} {Pc : Array Value → State → Prop} {Qc : Array Value → State → Outcome → State → Prop} {XC : String → State → State → Prop} {free : Addr → Prop} {Ts : List Cond} {own host : String} {As rest : List Value} {g : JFrame}
    (S : CallFix p m c cc nL s args Ts own) (hM : vx_Met l y ws rm Pc Qc XC mc ms free) (cw : va_CN R s args own index y host bytes maxL ret ws rm mc ms n ∧ (Cond.static y).before args s = true ∧ True) (hp : PreS s H Pc As)
    (hg : g.method = m) (hn : As.length = n) (hsize : g.locals.size = nL) (hstack : g.stack = As.reverse ++ rest) (hW : 2 * g.monitorRoom + (rest.map fun v => v.category).sum ≤ 8) (hdg : decode cc g.pc = .ok (.invokestatic index, 3)) (hf : cells + mc ≤ R.cells ∧ slots + ms ≤ R.slots) :
    vx_Run p l e R s m args below meth c H locs cells slots mc ms g rest (Qc As.toArray) XC free := by
  obtain ⟨⟨⟨hrc, hrs, hfr, hlo, hws, hcw⟩, hcode, hini, hy, hlen, hl⟩, hx1, hx2⟩ := cw
  have hK : vx_Back l R p e below s args y 3 8 (PreOf R mc ms Pc) (PostOf Qc mc ms free) (vx_Post XC mc ms free) := vx_back (bytes := bytes) (maxL := maxL) (ret := ret) hM hp.1 hrc hrs hfr hlo hws hcw (fun a' U hW => word_at hW (Or.inl (by first | rfl | simp [Cond.onTables, Cond.keeps, Cond.steady])) hini)
  obtain ⟨hx, hb, hml, ho, -⟩ := S
  have hPc := hp.2
  intro T hT X
  rcases vx_callSN X hx (bytes := bytes) (maxL := maxL) (ret := ret) ho hl hx1 hini hcode hy hK hg (hsize.trans hml.symm) (argsL := As) (rest := rest) (fun sig h => hn.trans (hlen sig h)) hstack hW (by rw [hb]; exact hdg)
    (fun vm₁ hW₁ => ⟨hf.1, hf.2, hPc (T.setVm vm₁) hT hW₁⟩) with ⟨v, vm₁, ⟨U', l2, c2, s2⟩, hW₁, X', ⟨g', mk, t, L, e1, e2, hq, h1, hL, h2, h3⟩, st⟩ | ⟨q, vm₁, ⟨U', l2, c2, s2⟩, hW₁, X', ⟨g', mk, t, L, E, ce, e1, e2, hq, hce, hcv, hcl, h1, hL, h2, h3⟩, st⟩
  · dsimp only [Pt.U, Pt.locs, Pt.cells, Pt.slots] at X' e1 e2 h1 h2 h3 st
    subst h1; subst h2; subst h3
    exact Or.inl ⟨v, (T.setVm vm₁).calling g' mk As.toArray, t, U', L, hT, X', hL, e1, e2, hq, st⟩
  · dsimp only [Pt.U, Pt.locs, Pt.cells, Pt.slots] at X' e1 e2 h1 h2 h3 st hcl
    subst h1; subst h2; subst h3
    exact Or.inr ⟨q, (T.setVm vm₁).calling g' mk As.toArray, t, U', L, E, ce, hT, X', hL, e1, e2, hq, hce, hcv, vx_cls hW₁ hcl, st⟩
end
/-! ===== END ===== -/
/-! ===== BEGIN calls by an interface of methods that may throw (vx_callIF, vx_runF follow va_callIF, va_runF of this kit) ===== -/
section
variable {p : Program} {l : Launch} {e : Env} {R : Room} {s : State} {m : MethodId} {args : Array Value} {below : List Frame} {meth : Method} {c : Code} {H : Heap} {locs : List Loc} {cells slots : Nat} {Q : State → Prop}
variable {mc ms : Nat} {free : Addr → Prop} {A0 A1 : Nat → Prop} {H0 : Heap} {a : Array Value} {pc : Nat} {ls : Array Slot} {st0 rest : List Value}
def vx_Run5 (p : Program) (l : Launch) (e : Env) (R : Room) (s : State) (m : MethodId) (args : Array Value) (below : List Frame) (meth : Method) (c : Code) (H : Heap) (locs : List Loc) (cells slots mc ms : Nat) (g : JFrame) (rest : List Value) (Qa : State → Outcome → State → Prop) (XC : String → State → State → Prop) (free : Addr → Prop) : Prop :=
  ∀ T : State, T.heap = H → Stand p l e R s m args below meth c T locs cells slots →
    (∃ (v : Option Value) (st₀ t T' : State) (L : List Loc), st₀.heap = H ∧ Stand p l e R s m args below meth c T' (locs ++ L) (cells + mc) (slots + ms) ∧ (∀ q ∈ L, free q.base) ∧ T'.heap = t.heap ∧ T'.vm = t.vm ∧ Qa st₀ (.returned v) t ∧
      Goes p e below T g T' { g with pc := g.pc + 5, stack := v.toList ++ rest }) ∨
    (∃ (q : Addr) (st₀ t T' : State) (L : List Loc) (E : String) (ce : Cell), st₀.heap = H ∧ Stand p l e R s m args below meth c T' (locs ++ L) (cells + mc) (slots + ms) ∧ (∀ z ∈ L, free z.base) ∧ T'.heap = t.heap ∧ T'.vm = t.vm ∧ XC E st₀ t ∧ t.heap[q]? = some ce ∧ ce.vm = .none ∧ s.vm.findClass E = some ce.cls ∧
      Steps p.tables e below (T.setTop g) ((T'.setTop { g with stack := rest }).pushFrame (.throwing q)))
theorem vx_callIF {T : State} (X : Stand p l e R s m args below meth c T locs cells slots) (hexec : p.tables.exec = Jvm.exec) {own C : String} {index count : Nat} {x y : MethodName} {bytes : ByteArray} {maxL : Nat} {ret : Option FieldType}
    (hown : s.vm.findClass own = some m.cls) (hlink : (Cond.methodLink own index x).before args s = true) (hdecl : (Cond.declares x).before args s = true) (hface : (Cond.interfaceMethod x.cls x.cls x.name x.desc).before args s = true)
    (hsel : (Cond.selects C x y).before args s = true) (hinst : (Cond.instanceMethod y).before args s = true) (hpub : (Cond.publicMethod y).before args s = true) (hunh : (Cond.unhidden C x.name x.desc).before args s = true)
    (hcast : (Cond.castable C x.cls).before args s = true) (hcode : (Cond.code y bytes maxL ret).before args s = true) (hx : x.cls ≠ "java/lang/invoke/MethodHandle" ∧ x.cls ≠ "java/lang/invoke/VarHandle")
    {W9 : Nat} {Pre : Pt → Array Value → Prop} {Post : Pt → Array Value → Option Value → Pt → Prop} {PostX : Pt → Array Value → Addr → Pt → Prop} (hK : vx_Back l R p e below s args y 5 W9 Pre Post PostX)
    {b : Addr} {cellB : Cell} {kB : Class} (hcell : T.heap[b]? = some cellB) (hobj : cellB.vm.isStatics = false) (hcls : s.vm.findClass C = some cellB.cls) (hkB : s.vm.classes[cellB.cls]? = some kB)
    {g : JFrame} (hg : g.method = m) (hsize : g.locals.size = c.maxLocals) {argsL rest : List Value} (hlen : ∀ sig, parseMethodDescriptor x.desc = some sig → argsL.length = sig.parameters.length)
    (hstack : g.stack = argsL.reverse ++ .ref b :: rest) (hW : 2 * g.monitorRoom + (rest.map fun v => v.category).sum ≤ W9) (hdg : decode c.code g.pc = .ok (.invokeinterface index count, 5))
    (hpre : ∀ vm₁, s.WarmedH vm₁ → Pre ⟨T.setVm vm₁, locs, cells, slots⟩ (Value.ref b :: argsL).toArray) :
    (∃ (v : Option Value) (vm₁ : Vm) (B : Pt), s.WarmedH vm₁ ∧ Stand p l e R s m args below meth c B.U B.locs B.cells B.slots ∧ Post ⟨T.setVm vm₁, locs, cells, slots⟩ (Value.ref b :: argsL).toArray v B ∧
      ∀ target, Steps p.tables e below (B.U.setTop { g with pc := g.pc + 5, stack := v.toList ++ rest }) target → Steps p.tables e below (T.setTop g) target) ∨
    (∃ (q : Addr) (vm₁ : Vm) (B : Pt), s.WarmedH vm₁ ∧ Stand p l e R s m args below meth c B.U B.locs B.cells B.slots ∧ PostX ⟨T.setVm vm₁, locs, cells, slots⟩ (Value.ref b :: argsL).toArray q B ∧
      Steps p.tables e below (T.setTop g) ((B.U.setTop { g with stack := rest }).pushFrame (.throwing q))) := by
  obtain ⟨r0, r, hn, hrm, hstR, hsigR⟩ := Cond.declares_spec hdecl
  obtain ⟨cL, kL, r1, hcL, hkL, hiL, hfoundL, hn1⟩ := Cond.interfaceMethod_spec hface
  cases hn.symm.trans hn1
  have hr0cls : r0.cls = cL := Option.some.inj ((findClass_of_methodNamed hn).symm.trans hcL)
  obtain ⟨hnameR, hdescR⟩ := name_of_methodNamed hn hrm
  obtain ⟨mk, methM, hnamed, hmethM, -, habM⟩ := Cond.instanceMethod_spec hinst
  obtain ⟨c2, r2, m2, q1, q2, q3, q4, -⟩ := Cond.selects_spec hsel
  cases hcls.symm.trans q1
  cases hfoundL.symm.trans q2
  cases hnamed.symm.trans q3
  have hselP : selectMethod e.platform s.vm cellB.cls r0 = .method mk := by rw [Launch.admits_selectMethod X.admits]; exact q4
  have hpubM : hasFlag methM.accessFlags Acc.public_ = true := Cond.publicMethod_spec hnamed hmethM hpub
  have hway : ((cellB.cls :: s.vm.superclasses cellB.cls).any fun k => (declaredIn s.vm r.name r.desc k).any fun (_, z) => z.isPrivate || z.isStatic) = false := by
    rw [hnameR, hdescR]; exact Cond.unhidden_spec hcls hunh
  obtain ⟨c3, t3, w1, w2, w3⟩ := Cond.castable_spec hcast
  cases hcls.symm.trans w1
  cases hcL.symm.trans w2
  obtain ⟨vm₁, X₁, hstep₁⟩ := X.invokeinterface hexec hown hlink hn hrm hstR (by rw [hr0cls]; exact hkL) hiL hx (a := b) (cell := cellB) (kcell := kB) hcell
    (fun z h => by rw [h] at hobj; cases hobj) hkB (by rw [hr0cls]; exact w3) hselP hmethM hway hpubM habM (g := g) hg (argsL := argsL) (rest := rest) (hlen _ hsigR) hstack hdg
  rcases hK m meth c ⟨T.setVm vm₁, locs, cells, slots⟩ { g with stack := rest } (.invokeinterface index count) mk (Value.ref b :: argsL).toArray X₁ hg hsize hdg hW (X₁.named hnamed) (hpre vm₁ X₁.warmed) with ⟨v, B, X', hpost, hsteps⟩ | ⟨q, B, X', hpost, hsteps⟩
  · exact Or.inl ⟨v, vm₁, B, X₁.warmed, X', hpost, fun target h => hstep₁ _ fun acts => by rw [doInvoke_state]; exact hsteps.trans h⟩
  · exact Or.inr ⟨q, vm₁, B, X₁.warmed, X', hpost, hstep₁ _ fun acts => by rw [doInvoke_state]; exact hsteps⟩
theorem vx_runF {x y : MethodName} {bytes cc : ByteArray} {maxL nL mc ms n index count : Nat} {ret : Option FieldType} {ws : List Cond} {rm : Room} {Pc : Array Value → State → Prop} {Qc : Array Value → State → Outcome → State → Prop} {XC : String → State → State → Prop} {free : Addr → Prop} {Ts : List Cond} {own C : String} {cC : ClassId} {b : Addr} {As rest : List Value} {g : JFrame}
    (hat : ClassAt s C cC) (S : CallFix p m c cc nL s args Ts own) (hM : vx_Met l y ws rm Pc Qc XC mc ms free) (cw : va_CI R s args own C index x y bytes maxL ret ws rm mc ms n) (hp : PreV s H C b Pc As)
    (hg : g.method = m) (hn : As.length = n) (hsize : g.locals.size = nL) (hstack : g.stack = As.reverse ++ .ref b :: rest) (hW : 2 * g.monitorRoom + (rest.map fun v => v.category).sum ≤ 8) (hdg : decode cc g.pc = .ok (.invokeinterface index count, 5)) (hf : cells + mc ≤ R.cells ∧ slots + ms ≤ R.slots) :
    vx_Run5 p l e R s m args below meth c H locs cells slots mc ms g rest (Qc (Value.ref b :: As).toArray) XC free := by
  obtain ⟨hrc, hrs, hfr, hlo, hws, hcw⟩ := cw.back
  have hini := cw.init
  have hK : vx_Back l R p e below s args y 5 8 (PreOf R mc ms Pc) (PostOf Qc mc ms free) (vx_Post XC mc ms free) := vx_back (bytes := bytes) (maxL := maxL) (ret := ret) hM hp.1 hrc hrs hfr hlo hws hcw (fun a' U hW => word_at hW (Or.inl (by first | rfl | simp [Cond.onTables, Cond.keeps, Cond.steady])) hini)
  obtain ⟨hx, hb, hml, ho, -⟩ := S
  obtain ⟨-, ⟨cellB, hcB, hoB, hclB⟩, hPc⟩ := hp
  obtain ⟨hfc, kB, hkB, -⟩ := hat
  cases hfc.symm.trans hclB
  intro T hT X
  rcases vx_callIF X hx (C := C) (bytes := bytes) (maxL := maxL) (ret := ret) ho cw.link cw.decl cw.face cw.sel cw.inst cw.pub cw.unh cw.cast cw.code cw.notMH hK (by rw [hT]; exact hcB) hoB hclB hkB hg (hsize.trans hml.symm) (argsL := As) (rest := rest) (fun sig h => hn.trans (cw.len sig h)) hstack hW (by rw [hb]; exact hdg)
    (fun vm₁ hW₁ => ⟨hf.1, hf.2, hPc (T.setVm vm₁) hT hW₁⟩) with ⟨v, vm₁, ⟨U', l2, c2, s2⟩, hW₁, X', ⟨g', mk, t, L, e1, e2, hq, h1, hL, h2, h3⟩, st⟩ | ⟨q, vm₁, ⟨U', l2, c2, s2⟩, hW₁, X', ⟨g', mk, t, L, E, ce, e1, e2, hq, hce, hcv, hcl, h1, hL, h2, h3⟩, st⟩
  · dsimp only [Pt.U, Pt.locs, Pt.cells, Pt.slots] at X' e1 e2 h1 h2 h3 st
    subst h1; subst h2; subst h3
    exact Or.inl ⟨v, (T.setVm vm₁).calling g' mk (Value.ref b :: As).toArray, t, U', L, hT, X', hL, e1, e2, hq, st⟩
  · dsimp only [Pt.U, Pt.locs, Pt.cells, Pt.slots] at X' e1 e2 h1 h2 h3 st hcl
    subst h1; subst h2; subst h3
    exact Or.inr ⟨q, (T.setVm vm₁).calling g' mk (Value.ref b :: As).toArray, t, U', L, E, ce, hT, X', hL, e1, e2, hq, hce, hcv, vx_cls hW₁ hcl, st⟩
theorem vx_callFv {S SX : Type} {post : S → Prop} {px : SX → Prop} {B : S → State → Prop} {BX : String → SX → State → Prop} {AX : Nat → Prop} (hr : vx_Run5 p l e R s m args below meth c H locs cells slots mc ms (F0 m pc ls st0) rest (va_Qv post B A1 a) (vx_X px BX AX) free) (hS : va_S A0 H0 H locs) (hA : ∀ q, q < H.size → A1 q → A0 q) (hf : ∀ q, free q → A0 q) (hAX : ∀ q, q < H.size → AX q → A0 q)
    (kx : ∀ (E : String) (ce : Cell) (q9 : Addr) (u : SX) (t : State) (H1 : Heap) (locs1 : List Loc), t.heap = H1 → s.vm.Alike t.vm → px u → BX E u t → H.size ≤ H1.size → (∀ q : Nat, q < H.size → ¬ AX q → H1[q]? = H[q]?) → va_S A0 H0 H1 locs1 → H1[q9]? = some ce → ce.vm = .none → s.vm.findClass E = some ce.cls → vx_W p l e R s m args below meth c H1 locs1 (cells + mc) (slots + ms) Q (F0 m pc ls rest) q9)
    (kk : ∀ (u : S) (t : State) (H1 : Heap) (locs1 : List Loc), t.heap = H1 → s.vm.Alike t.vm → post u → B u t → H.size ≤ H1.size → (∀ q : Nat, q < H.size → ¬ A1 q → H1[q]? = H[q]?) → va_S A0 H0 H1 locs1 → W p l e R s m args below meth c H1 locs1 (cells + mc) (slots + ms) Q (F0 m (pc + 5) ls (rest))) : W p l e R s m args below meth c H locs cells slots Q (F0 m pc ls st0) := by
  intro T hT X
  rcases hr T hT X with ⟨v, st₀, t, T', L, h0, X', hL, e1, e2, ⟨⟨u, hv, hp, hb⟩, hF⟩, st⟩ | ⟨q, st₀, t, T', L, E, ce, h0, X', hL, e1, e2, ⟨u, hp, hb, hF⟩, hce, hcv, hcl, st⟩
  · cases hv
    obtain ⟨k1, k2, k3⟩ := vx_keep h0 e1 hS hA hf hL hF
    obtain ⟨t2, a1, b1⟩ := kk u t T'.heap (locs ++ L) e1.symm (by rw [← e2]; exact X'.warmed.alike) hp hb k1 k2 k3 T' rfl X'
    exact ⟨t2, st t2 a1, b1⟩
  · obtain ⟨k1, k2, k3⟩ := vx_keep h0 e1 hS hAX hf hL hF
    obtain ⟨t2, a1, b1⟩ := kx E ce q u t T'.heap (locs ++ L) e1.symm (by rw [← e2]; exact X'.warmed.alike) hp hb k1 k2 k3 (by rw [e1]; exact hce) hcv hcl T' rfl X'
    exact ⟨t2, st.trans a1, b1⟩
theorem vx_callFi {S SX : Type} {post : Int32 → S → Prop} {px : SX → Prop} {B : S → State → Prop} {BX : String → SX → State → Prop} {AX : Nat → Prop} (hr : vx_Run5 p l e R s m args below meth c H locs cells slots mc ms (F0 m pc ls st0) rest (va_Qi post B A1 a) (vx_X px BX AX) free) (hS : va_S A0 H0 H locs) (hA : ∀ q, q < H.size → A1 q → A0 q) (hf : ∀ q, free q → A0 q) (hAX : ∀ q, q < H.size → AX q → A0 q)
    (kx : ∀ (E : String) (ce : Cell) (q9 : Addr) (u : SX) (t : State) (H1 : Heap) (locs1 : List Loc), t.heap = H1 → s.vm.Alike t.vm → px u → BX E u t → H.size ≤ H1.size → (∀ q : Nat, q < H.size → ¬ AX q → H1[q]? = H[q]?) → va_S A0 H0 H1 locs1 → H1[q9]? = some ce → ce.vm = .none → s.vm.findClass E = some ce.cls → vx_W p l e R s m args below meth c H1 locs1 (cells + mc) (slots + ms) Q (F0 m pc ls rest) q9)
    (kk : ∀ (r : Int32) (u : S) (t : State) (H1 : Heap) (locs1 : List Loc), t.heap = H1 → s.vm.Alike t.vm → post r u → B u t → H.size ≤ H1.size → (∀ q : Nat, q < H.size → ¬ A1 q → H1[q]? = H[q]?) → va_S A0 H0 H1 locs1 → W p l e R s m args below meth c H1 locs1 (cells + mc) (slots + ms) Q (F0 m (pc + 5) ls (.int r :: rest))) : W p l e R s m args below meth c H locs cells slots Q (F0 m pc ls st0) := by
  intro T hT X
  rcases hr T hT X with ⟨v, st₀, t, T', L, h0, X', hL, e1, e2, ⟨⟨r, u, hv, hp, hb⟩, hF⟩, st⟩ | ⟨q, st₀, t, T', L, E, ce, h0, X', hL, e1, e2, ⟨u, hp, hb, hF⟩, hce, hcv, hcl, st⟩
  · cases hv
    obtain ⟨k1, k2, k3⟩ := vx_keep h0 e1 hS hA hf hL hF
    obtain ⟨t2, a1, b1⟩ := kk r u t T'.heap (locs ++ L) e1.symm (by rw [← e2]; exact X'.warmed.alike) hp hb k1 k2 k3 T' rfl X'
    exact ⟨t2, st t2 a1, b1⟩
  · obtain ⟨k1, k2, k3⟩ := vx_keep h0 e1 hS hAX hf hL hF
    obtain ⟨t2, a1, b1⟩ := kx E ce q u t T'.heap (locs ++ L) e1.symm (by rw [← e2]; exact X'.warmed.alike) hp hb k1 k2 k3 (by rw [e1]; exact hce) hcv hcl T' rfl X'
    exact ⟨t2, st.trans a1, b1⟩
theorem vx_callFl {S SX : Type} {post : Int64 → S → Prop} {px : SX → Prop} {B : S → State → Prop} {BX : String → SX → State → Prop} {AX : Nat → Prop} (hr : vx_Run5 p l e R s m args below meth c H locs cells slots mc ms (F0 m pc ls st0) rest (va_Ql post B A1 a) (vx_X px BX AX) free) (hS : va_S A0 H0 H locs) (hA : ∀ q, q < H.size → A1 q → A0 q) (hf : ∀ q, free q → A0 q) (hAX : ∀ q, q < H.size → AX q → A0 q)
    (kx : ∀ (E : String) (ce : Cell) (q9 : Addr) (u : SX) (t : State) (H1 : Heap) (locs1 : List Loc), t.heap = H1 → s.vm.Alike t.vm → px u → BX E u t → H.size ≤ H1.size → (∀ q : Nat, q < H.size → ¬ AX q → H1[q]? = H[q]?) → va_S A0 H0 H1 locs1 → H1[q9]? = some ce → ce.vm = .none → s.vm.findClass E = some ce.cls → vx_W p l e R s m args below meth c H1 locs1 (cells + mc) (slots + ms) Q (F0 m pc ls rest) q9)
    (kk : ∀ (r : Int64) (u : S) (t : State) (H1 : Heap) (locs1 : List Loc), t.heap = H1 → s.vm.Alike t.vm → post r u → B u t → H.size ≤ H1.size → (∀ q : Nat, q < H.size → ¬ A1 q → H1[q]? = H[q]?) → va_S A0 H0 H1 locs1 → W p l e R s m args below meth c H1 locs1 (cells + mc) (slots + ms) Q (F0 m (pc + 5) ls (.long r :: rest))) : W p l e R s m args below meth c H locs cells slots Q (F0 m pc ls st0) := by
  intro T hT X
  rcases hr T hT X with ⟨v, st₀, t, T', L, h0, X', hL, e1, e2, ⟨⟨r, u, hv, hp, hb⟩, hF⟩, st⟩ | ⟨q, st₀, t, T', L, E, ce, h0, X', hL, e1, e2, ⟨u, hp, hb, hF⟩, hce, hcv, hcl, st⟩
  · cases hv
    obtain ⟨k1, k2, k3⟩ := vx_keep h0 e1 hS hA hf hL hF
    obtain ⟨t2, a1, b1⟩ := kk r u t T'.heap (locs ++ L) e1.symm (by rw [← e2]; exact X'.warmed.alike) hp hb k1 k2 k3 T' rfl X'
    exact ⟨t2, st t2 a1, b1⟩
  · obtain ⟨k1, k2, k3⟩ := vx_keep h0 e1 hS hAX hf hL hF
    obtain ⟨t2, a1, b1⟩ := kx E ce q u t T'.heap (locs ++ L) e1.symm (by rw [← e2]; exact X'.warmed.alike) hp hb k1 k2 k3 (by rw [e1]; exact hce) hcv hcl T' rfl X'
    exact ⟨t2, st.trans a1, b1⟩
theorem vx_callFf {S SX : Type} {post : UInt32 → S → Prop} {px : SX → Prop} {B : S → State → Prop} {BX : String → SX → State → Prop} {AX : Nat → Prop} (hr : vx_Run5 p l e R s m args below meth c H locs cells slots mc ms (F0 m pc ls st0) rest (va_Qf post B A1 a) (vx_X px BX AX) free) (hS : va_S A0 H0 H locs) (hA : ∀ q, q < H.size → A1 q → A0 q) (hf : ∀ q, free q → A0 q) (hAX : ∀ q, q < H.size → AX q → A0 q)
    (kx : ∀ (E : String) (ce : Cell) (q9 : Addr) (u : SX) (t : State) (H1 : Heap) (locs1 : List Loc), t.heap = H1 → s.vm.Alike t.vm → px u → BX E u t → H.size ≤ H1.size → (∀ q : Nat, q < H.size → ¬ AX q → H1[q]? = H[q]?) → va_S A0 H0 H1 locs1 → H1[q9]? = some ce → ce.vm = .none → s.vm.findClass E = some ce.cls → vx_W p l e R s m args below meth c H1 locs1 (cells + mc) (slots + ms) Q (F0 m pc ls rest) q9)
    (kk : ∀ (r : UInt32) (u : S) (t : State) (H1 : Heap) (locs1 : List Loc), t.heap = H1 → s.vm.Alike t.vm → post r u → B u t → H.size ≤ H1.size → (∀ q : Nat, q < H.size → ¬ A1 q → H1[q]? = H[q]?) → va_S A0 H0 H1 locs1 → W p l e R s m args below meth c H1 locs1 (cells + mc) (slots + ms) Q (F0 m (pc + 5) ls (.float r :: rest))) : W p l e R s m args below meth c H locs cells slots Q (F0 m pc ls st0) := by
  intro T hT X
  rcases hr T hT X with ⟨v, st₀, t, T', L, h0, X', hL, e1, e2, ⟨⟨r, u, hv, hp, hb⟩, hF⟩, st⟩ | ⟨q, st₀, t, T', L, E, ce, h0, X', hL, e1, e2, ⟨u, hp, hb, hF⟩, hce, hcv, hcl, st⟩
  · cases hv
    obtain ⟨k1, k2, k3⟩ := vx_keep h0 e1 hS hA hf hL hF
    obtain ⟨t2, a1, b1⟩ := kk r u t T'.heap (locs ++ L) e1.symm (by rw [← e2]; exact X'.warmed.alike) hp hb k1 k2 k3 T' rfl X'
    exact ⟨t2, st t2 a1, b1⟩
  · obtain ⟨k1, k2, k3⟩ := vx_keep h0 e1 hS hAX hf hL hF
    obtain ⟨t2, a1, b1⟩ := kx E ce q u t T'.heap (locs ++ L) e1.symm (by rw [← e2]; exact X'.warmed.alike) hp hb k1 k2 k3 (by rw [e1]; exact hce) hcv hcl T' rfl X'
    exact ⟨t2, st.trans a1, b1⟩
theorem vx_callFd {S SX : Type} {post : UInt64 → S → Prop} {px : SX → Prop} {B : S → State → Prop} {BX : String → SX → State → Prop} {AX : Nat → Prop} (hr : vx_Run5 p l e R s m args below meth c H locs cells slots mc ms (F0 m pc ls st0) rest (va_Qd post B A1 a) (vx_X px BX AX) free) (hS : va_S A0 H0 H locs) (hA : ∀ q, q < H.size → A1 q → A0 q) (hf : ∀ q, free q → A0 q) (hAX : ∀ q, q < H.size → AX q → A0 q)
    (kx : ∀ (E : String) (ce : Cell) (q9 : Addr) (u : SX) (t : State) (H1 : Heap) (locs1 : List Loc), t.heap = H1 → s.vm.Alike t.vm → px u → BX E u t → H.size ≤ H1.size → (∀ q : Nat, q < H.size → ¬ AX q → H1[q]? = H[q]?) → va_S A0 H0 H1 locs1 → H1[q9]? = some ce → ce.vm = .none → s.vm.findClass E = some ce.cls → vx_W p l e R s m args below meth c H1 locs1 (cells + mc) (slots + ms) Q (F0 m pc ls rest) q9)
    (kk : ∀ (r : UInt64) (u : S) (t : State) (H1 : Heap) (locs1 : List Loc), t.heap = H1 → s.vm.Alike t.vm → post r u → B u t → H.size ≤ H1.size → (∀ q : Nat, q < H.size → ¬ A1 q → H1[q]? = H[q]?) → va_S A0 H0 H1 locs1 → W p l e R s m args below meth c H1 locs1 (cells + mc) (slots + ms) Q (F0 m (pc + 5) ls (.double r :: rest))) : W p l e R s m args below meth c H locs cells slots Q (F0 m pc ls st0) := by
  intro T hT X
  rcases hr T hT X with ⟨v, st₀, t, T', L, h0, X', hL, e1, e2, ⟨⟨r, u, hv, hp, hb⟩, hF⟩, st⟩ | ⟨q, st₀, t, T', L, E, ce, h0, X', hL, e1, e2, ⟨u, hp, hb, hF⟩, hce, hcv, hcl, st⟩
  · cases hv
    obtain ⟨k1, k2, k3⟩ := vx_keep h0 e1 hS hA hf hL hF
    obtain ⟨t2, a1, b1⟩ := kk r u t T'.heap (locs ++ L) e1.symm (by rw [← e2]; exact X'.warmed.alike) hp hb k1 k2 k3 T' rfl X'
    exact ⟨t2, st t2 a1, b1⟩
  · obtain ⟨k1, k2, k3⟩ := vx_keep h0 e1 hS hAX hf hL hF
    obtain ⟨t2, a1, b1⟩ := kx E ce q u t T'.heap (locs ++ L) e1.symm (by rw [← e2]; exact X'.warmed.alike) hp hb k1 k2 k3 (by rw [e1]; exact hce) hcv hcl T' rfl X'
    exact ⟨t2, st.trans a1, b1⟩
end
/-! ===== END ===== -/
/-! ===== BEGIN by an interface, a method with a table of its own that may throw (follows va_callIFW, va_runFW) ===== -/
section
variable {p : Program} {l : Launch} {e : Env} {R : Room} {s : State} {m : MethodId} {args : Array Value} {below : List Frame} {meth : Method} {c : Code} {H : Heap} {locs : List Loc} {cells slots : Nat}
theorem vx_callIFW {T : State} (X : Stand p l e R s m args below meth c T locs cells slots) (hexec : p.tables.exec = Jvm.exec) {own C : String} {index count : Nat} {x y : MethodName} {bytes : ByteArray} {maxL : Nat} {ret : Option FieldType} {hh : List (Nat × Nat × Nat × Nat)}
    (hown : s.vm.findClass own = some m.cls) (hlink : (Cond.methodLink own index x).before args s = true) (hdecl : (Cond.declares x).before args s = true) (hface : (Cond.interfaceMethod x.cls x.cls x.name x.desc).before args s = true)
    (hsel : (Cond.selects C x y).before args s = true) (hinst : (Cond.instanceMethod y).before args s = true) (hpub : (Cond.publicMethod y).before args s = true) (hunh : (Cond.unhidden C x.name x.desc).before args s = true)
    (hcast : (Cond.castable C x.cls).before args s = true) (hcode : (Cond.codeWith y bytes maxL ret hh).before args s = true) (hx : x.cls ≠ "java/lang/invoke/MethodHandle" ∧ x.cls ≠ "java/lang/invoke/VarHandle")
    {W : Nat} {Pre : Pt → Array Value → Prop} {Post : Pt → Array Value → Option Value → Pt → Prop} {PostX : Pt → Array Value → Addr → Pt → Prop} (hK : vx_Back l R p e below s args y 5 W Pre Post PostX)
    {b : Addr} {cellB : Cell} {kB : Class} (hcell : T.heap[b]? = some cellB) (hobj : cellB.vm.isStatics = false) (hcls : s.vm.findClass C = some cellB.cls) (hkB : s.vm.classes[cellB.cls]? = some kB)
    {g : JFrame} (hg : g.method = m) (hsize : g.locals.size = c.maxLocals) {argsL rest : List Value} (hlen : ∀ sig, parseMethodDescriptor x.desc = some sig → argsL.length = sig.parameters.length)
    (hstack : g.stack = argsL.reverse ++ .ref b :: rest) (hW : 2 * g.monitorRoom + (rest.map fun v => v.category).sum ≤ W) (hdg : decode c.code g.pc = .ok (.invokeinterface index count, 5))
    (hpre : ∀ vm₁, s.WarmedH vm₁ → Pre ⟨T.setVm vm₁, locs, cells, slots⟩ (Value.ref b :: argsL).toArray) :
    (∃ (v : Option Value) (vm₁ : Vm) (B : Pt), s.WarmedH vm₁ ∧ Stand p l e R s m args below meth c B.U B.locs B.cells B.slots ∧ Post ⟨T.setVm vm₁, locs, cells, slots⟩ (Value.ref b :: argsL).toArray v B ∧
      ∀ target, Steps p.tables e below (B.U.setTop { g with pc := g.pc + 5, stack := v.toList ++ rest }) target → Steps p.tables e below (T.setTop g) target) ∨
    (∃ (q : Addr) (vm₁ : Vm) (B : Pt), s.WarmedH vm₁ ∧ Stand p l e R s m args below meth c B.U B.locs B.cells B.slots ∧ PostX ⟨T.setVm vm₁, locs, cells, slots⟩ (Value.ref b :: argsL).toArray q B ∧
      Steps p.tables e below (T.setTop g) ((B.U.setTop { g with stack := rest }).pushFrame (.throwing q))) := by
  obtain ⟨r0, r, hn, hrm, hstR, hsigR⟩ := Cond.declares_spec hdecl
  obtain ⟨cL, kL, r1, hcL, hkL, hiL, hfoundL, hn1⟩ := Cond.interfaceMethod_spec hface
  cases hn.symm.trans hn1
  have hr0cls : r0.cls = cL := Option.some.inj ((findClass_of_methodNamed hn).symm.trans hcL)
  obtain ⟨hnameR, hdescR⟩ := name_of_methodNamed hn hrm
  obtain ⟨mk, methM, hnamed, hmethM, -, habM⟩ := Cond.instanceMethod_spec hinst
  obtain ⟨c2, r2, m2, q1, q2, q3, q4, -⟩ := Cond.selects_spec hsel
  cases hcls.symm.trans q1
  cases hfoundL.symm.trans q2
  cases hnamed.symm.trans q3
  have hselP : selectMethod e.platform s.vm cellB.cls r0 = .method mk := by rw [Launch.admits_selectMethod X.admits]; exact q4
  have hpubM : hasFlag methM.accessFlags Acc.public_ = true := Cond.publicMethod_spec hnamed hmethM hpub
  have hway : ((cellB.cls :: s.vm.superclasses cellB.cls).any fun k => (declaredIn s.vm r.name r.desc k).any fun (_, z) => z.isPrivate || z.isStatic) = false := by
    rw [hnameR, hdescR]; exact Cond.unhidden_spec hcls hunh
  obtain ⟨c3, t3, w1, w2, w3⟩ := Cond.castable_spec hcast
  cases hcls.symm.trans w1
  cases hcL.symm.trans w2
  obtain ⟨vm₁, X₁, hstep₁⟩ := X.invokeinterface hexec hown hlink hn hrm hstR (by rw [hr0cls]; exact hkL) hiL hx (a := b) (cell := cellB) (kcell := kB) hcell
    (fun z h => by rw [h] at hobj; cases hobj) hkB (by rw [hr0cls]; exact w3) hselP hmethM hway hpubM habM (g := g) hg (argsL := argsL) (rest := rest) (hlen _ hsigR) hstack hdg
  rcases hK m meth c ⟨T.setVm vm₁, locs, cells, slots⟩ { g with stack := rest } (.invokeinterface index count) mk (Value.ref b :: argsL).toArray X₁ hg hsize hdg hW (X₁.named hnamed) (hpre vm₁ X₁.warmed) with ⟨v, B, X', hpost, hsteps⟩ | ⟨q, B, X', hpost, hsteps⟩
  · exact Or.inl ⟨v, vm₁, B, X₁.warmed, X', hpost, fun target h => hstep₁ _ fun acts => by rw [doInvoke_state]; exact hsteps.trans h⟩
  · exact Or.inr ⟨q, vm₁, B, X₁.warmed, X', hpost, hstep₁ _ fun acts => by rw [doInvoke_state]; exact hsteps⟩
theorem vx_runFW {x y : MethodName} {bytes cc : ByteArray} {maxL nL mc ms n index count : Nat} {ret : Option FieldType} {hh : List (Nat × Nat × Nat × Nat)} {ws : List Cond} {rm : Room} {Pc : Array Value → State → Prop} {Qc : Array Value → State → Outcome → State → Prop} {XC : String → State → State → Prop} {free : Addr → Prop} {Ts : List Cond} {own C : String} {cC : ClassId} {b : Addr} {As rest : List Value} {g : JFrame}
    (hat : ClassAt s C cC) (S : CallFix p m c cc nL s args Ts own) (hM : vx_Met l y ws rm Pc Qc XC mc ms free) (cw : va_CIW R s args own C index x y bytes maxL ret hh ws rm mc ms n) (hp : PreV s H C b Pc As)
    (hg : g.method = m) (hn : As.length = n) (hsize : g.locals.size = nL) (hstack : g.stack = As.reverse ++ .ref b :: rest) (hW : 2 * g.monitorRoom + (rest.map fun v => v.category).sum ≤ 8) (hdg : decode cc g.pc = .ok (.invokeinterface index count, 5)) (hf : cells + mc ≤ R.cells ∧ slots + ms ≤ R.slots) :
    vx_Run5 p l e R s m args below meth c H locs cells slots mc ms g rest (Qc (Value.ref b :: As).toArray) XC free := by
  obtain ⟨hrc, hrs, hfr, hlo, hws, hcw⟩ := cw.back
  have hini := cw.init
  have hK : vx_Back l R p e below s args y 5 8 (PreOf R mc ms Pc) (PostOf Qc mc ms free) (vx_Post XC mc ms free) := vx_backW (hh := hh) (bytes := bytes) (maxL := maxL) (ret := ret) hM hp.1 hrc hrs hfr hlo hws hcw (fun a' U hW => word_at hW (Or.inl (by first | rfl | simp [Cond.onTables, Cond.keeps, Cond.steady])) hini)
  obtain ⟨hx, hb, hml, ho, -⟩ := S
  obtain ⟨-, ⟨cellB, hcB, hoB, hclB⟩, hPc⟩ := hp
  obtain ⟨hfc, kB, hkB, -⟩ := hat
  cases hfc.symm.trans hclB
  intro T hT X
  rcases vx_callIFW X hx (C := C) (hh := hh) (bytes := bytes) (maxL := maxL) (ret := ret) ho cw.link cw.decl cw.face cw.sel cw.inst cw.pub cw.unh cw.cast cw.code cw.notMH hK (by rw [hT]; exact hcB) hoB hclB hkB hg (hsize.trans hml.symm) (argsL := As) (rest := rest) (fun sig h => hn.trans (cw.len sig h)) hstack hW (by rw [hb]; exact hdg)
    (fun vm₁ hW₁ => ⟨hf.1, hf.2, hPc (T.setVm vm₁) hT hW₁⟩) with ⟨v, vm₁, ⟨U', l2, c2, s2⟩, hW₁, X', ⟨g', mk, t, L, e1, e2, hq, h1, hL, h2, h3⟩, st⟩ | ⟨q, vm₁, ⟨U', l2, c2, s2⟩, hW₁, X', ⟨g', mk, t, L, E, ce, e1, e2, hq, hce, hcv, hcl, h1, hL, h2, h3⟩, st⟩
  · dsimp only [Pt.U, Pt.locs, Pt.cells, Pt.slots] at X' e1 e2 h1 h2 h3 st
    subst h1; subst h2; subst h3
    exact Or.inl ⟨v, (T.setVm vm₁).calling g' mk (Value.ref b :: As).toArray, t, U', L, hT, X', hL, e1, e2, hq, st⟩
  · dsimp only [Pt.U, Pt.locs, Pt.cells, Pt.slots] at X' e1 e2 h1 h2 h3 st hcl
    subst h1; subst h2; subst h3
    exact Or.inr ⟨q, (T.setVm vm₁).calling g' mk (Value.ref b :: As).toArray, t, U', L, E, ce, hT, X', hL, e1, e2, hq, hce, hcv, vx_cls hW₁ hcl, st⟩
end
/-! ===== END ===== -/
/-! ===== BEGIN .. of methods that hand back an object of the pool ===== -/
section
variable {p : Program} {l : Launch} {e : Env} {R : Room} {s : State} {m : MethodId} {args : Array Value} {below : List Frame} {meth : Method} {c : Code} {H : Heap} {locs : List Loc} {cells slots : Nat} {Q : State → Prop}
variable {mc ms : Nat} {free : Addr → Prop} {A0 A1 : Nat → Prop} {H0 : Heap} {a : Array Value} {pc : Nat} {ls : Array Slot} {st0 rest : List Value}
theorem vx_callq {S SX : Type} {post : Option Nat → S → Prop} {px : SX → Prop} {B : S → State → Prop} {BX : String → SX → State → Prop} {AX : Nat → Prop} (hr : vx_Run p l e R s m args below meth c H locs cells slots mc ms (F0 m pc ls st0) rest (va_Qq post B A1 a) (vx_X px BX AX) free) (hS : va_S A0 H0 H locs) (hA : ∀ q, q < H.size → A1 q → A0 q) (hf : ∀ q, free q → A0 q) (hAX : ∀ q, q < H.size → AX q → A0 q)
    (kx : ∀ (E : String) (ce : Cell) (q9 : Addr) (u : SX) (t : State) (H1 : Heap) (locs1 : List Loc), t.heap = H1 → s.vm.Alike t.vm → px u → BX E u t → H.size ≤ H1.size → (∀ q : Nat, q < H.size → ¬ AX q → H1[q]? = H[q]?) → va_S A0 H0 H1 locs1 → H1[q9]? = some ce → ce.vm = .none → s.vm.findClass E = some ce.cls → vx_W p l e R s m args below meth c H1 locs1 (cells + mc) (slots + ms) Q (F0 m pc ls rest) q9)
    (kk : ∀ (r : Option Nat) (u : S) (t : State) (H1 : Heap) (locs1 : List Loc), t.heap = H1 → s.vm.Alike t.vm → post r u → B u t → H.size ≤ H1.size → (∀ q : Nat, q < H.size → ¬ A1 q → H1[q]? = H[q]?) → va_S A0 H0 H1 locs1 → W p l e R s m args below meth c H1 locs1 (cells + mc) (slots + ms) Q (F0 m (pc + 3) ls (va_rf r :: rest))) : W p l e R s m args below meth c H locs cells slots Q (F0 m pc ls st0) := by
  intro T hT X
  rcases hr T hT X with ⟨v, st₀, t, T', L, h0, X', hL, e1, e2, ⟨⟨r, u, hv, hp, hb⟩, hF⟩, st⟩ | ⟨q, st₀, t, T', L, E, ce, h0, X', hL, e1, e2, ⟨u, hp, hb, hF⟩, hce, hcv, hcl, st⟩
  · cases hv
    obtain ⟨k1, k2, k3⟩ := vx_keep h0 e1 hS hA hf hL hF
    obtain ⟨t2, a1, b1⟩ := kk r u t T'.heap (locs ++ L) e1.symm (by rw [← e2]; exact X'.warmed.alike) hp hb k1 k2 k3 T' rfl X'
    exact ⟨t2, st t2 a1, b1⟩
  · obtain ⟨k1, k2, k3⟩ := vx_keep h0 e1 hS hAX hf hL hF
    obtain ⟨t2, a1, b1⟩ := kx E ce q u t T'.heap (locs ++ L) e1.symm (by rw [← e2]; exact X'.warmed.alike) hp hb k1 k2 k3 (by rw [e1]; exact hce) hcv hcl T' rfl X'
    exact ⟨t2, st.trans a1, b1⟩
end
/-! ===== END ===== -/
/-! ===== BEGIN .. a constant ===== -/
section
variable {p : Program} {l : Launch} {e : Env} {R : Room} {s : State} {m : MethodId} {args : Array Value} {below : List Frame} {meth : Method} {c : Code} {H : Heap} {locs : List Loc} {cells slots : Nat} {Q : State → Prop}
variable {mc ms : Nat} {free : Addr → Prop} {A0 A1 : Nat → Prop} {H0 : Heap} {a : Array Value} {pc : Nat} {ls : Array Slot} {st0 rest : List Value}
theorem vx_calle {ad : Nat → Nat} {S SX : Type} {post : Option Nat → S → Prop} {px : SX → Prop} {B : S → State → Prop} {BX : String → SX → State → Prop} {AX : Nat → Prop} (hr : vx_Run p l e R s m args below meth c H locs cells slots mc ms (F0 m pc ls st0) rest (va_Qe ad post B A1 a) (vx_X px BX AX) free) (hS : va_S A0 H0 H locs) (hA : ∀ q, q < H.size → A1 q → A0 q) (hf : ∀ q, free q → A0 q) (hAX : ∀ q, q < H.size → AX q → A0 q)
    (kx : ∀ (E : String) (ce : Cell) (q9 : Addr) (u : SX) (t : State) (H1 : Heap) (locs1 : List Loc), t.heap = H1 → s.vm.Alike t.vm → px u → BX E u t → H.size ≤ H1.size → (∀ q : Nat, q < H.size → ¬ AX q → H1[q]? = H[q]?) → va_S A0 H0 H1 locs1 → H1[q9]? = some ce → ce.vm = .none → s.vm.findClass E = some ce.cls → vx_W p l e R s m args below meth c H1 locs1 (cells + mc) (slots + ms) Q (F0 m pc ls rest) q9)
    (kk : ∀ (r : Option Nat) (u : S) (t : State) (H1 : Heap) (locs1 : List Loc), t.heap = H1 → s.vm.Alike t.vm → post r u → B u t → H.size ≤ H1.size → (∀ q : Nat, q < H.size → ¬ A1 q → H1[q]? = H[q]?) → va_S A0 H0 H1 locs1 → W p l e R s m args below meth c H1 locs1 (cells + mc) (slots + ms) Q (F0 m (pc + 3) ls (va_re ad r :: rest))) : W p l e R s m args below meth c H locs cells slots Q (F0 m pc ls st0) := by
  intro T hT X
  rcases hr T hT X with ⟨v, st₀, t, T', L, h0, X', hL, e1, e2, ⟨⟨r, u, hv, hp, hb⟩, hF⟩, st⟩ | ⟨q, st₀, t, T', L, E, ce, h0, X', hL, e1, e2, ⟨u, hp, hb, hF⟩, hce, hcv, hcl, st⟩
  · cases hv
    obtain ⟨k1, k2, k3⟩ := vx_keep h0 e1 hS hA hf hL hF
    obtain ⟨t2, a1, b1⟩ := kk r u t T'.heap (locs ++ L) e1.symm (by rw [← e2]; exact X'.warmed.alike) hp hb k1 k2 k3 T' rfl X'
    exact ⟨t2, st t2 a1, b1⟩
  · obtain ⟨k1, k2, k3⟩ := vx_keep h0 e1 hS hAX hf hL hF
    obtain ⟨t2, a1, b1⟩ := kx E ce q u t T'.heap (locs ++ L) e1.symm (by rw [← e2]; exact X'.warmed.alike) hp hb k1 k2 k3 (by rw [e1]; exact hce) hcv hcl T' rfl X'
    exact ⟨t2, st.trans a1, b1⟩
end
/-! ===== END ===== -/
/-! ===== BEGIN .. by an interface, an object ===== -/
section
variable {p : Program} {l : Launch} {e : Env} {R : Room} {s : State} {m : MethodId} {args : Array Value} {below : List Frame} {meth : Method} {c : Code} {H : Heap} {locs : List Loc} {cells slots : Nat} {Q : State → Prop}
variable {mc ms : Nat} {free : Addr → Prop} {A0 A1 : Nat → Prop} {H0 : Heap} {a : Array Value} {pc : Nat} {ls : Array Slot} {st0 rest : List Value}
theorem vx_callFq {S SX : Type} {post : Option Nat → S → Prop} {px : SX → Prop} {B : S → State → Prop} {BX : String → SX → State → Prop} {AX : Nat → Prop} (hr : vx_Run5 p l e R s m args below meth c H locs cells slots mc ms (F0 m pc ls st0) rest (va_Qq post B A1 a) (vx_X px BX AX) free) (hS : va_S A0 H0 H locs) (hA : ∀ q, q < H.size → A1 q → A0 q) (hf : ∀ q, free q → A0 q) (hAX : ∀ q, q < H.size → AX q → A0 q)
    (kx : ∀ (E : String) (ce : Cell) (q9 : Addr) (u : SX) (t : State) (H1 : Heap) (locs1 : List Loc), t.heap = H1 → s.vm.Alike t.vm → px u → BX E u t → H.size ≤ H1.size → (∀ q : Nat, q < H.size → ¬ AX q → H1[q]? = H[q]?) → va_S A0 H0 H1 locs1 → H1[q9]? = some ce → ce.vm = .none → s.vm.findClass E = some ce.cls → vx_W p l e R s m args below meth c H1 locs1 (cells + mc) (slots + ms) Q (F0 m pc ls rest) q9)
    (kk : ∀ (r : Option Nat) (u : S) (t : State) (H1 : Heap) (locs1 : List Loc), t.heap = H1 → s.vm.Alike t.vm → post r u → B u t → H.size ≤ H1.size → (∀ q : Nat, q < H.size → ¬ A1 q → H1[q]? = H[q]?) → va_S A0 H0 H1 locs1 → W p l e R s m args below meth c H1 locs1 (cells + mc) (slots + ms) Q (F0 m (pc + 5) ls (va_rf r :: rest))) : W p l e R s m args below meth c H locs cells slots Q (F0 m pc ls st0) := by
  intro T hT X
  rcases hr T hT X with ⟨v, st₀, t, T', L, h0, X', hL, e1, e2, ⟨⟨r, u, hv, hp, hb⟩, hF⟩, st⟩ | ⟨q, st₀, t, T', L, E, ce, h0, X', hL, e1, e2, ⟨u, hp, hb, hF⟩, hce, hcv, hcl, st⟩
  · cases hv
    obtain ⟨k1, k2, k3⟩ := vx_keep h0 e1 hS hA hf hL hF
    obtain ⟨t2, a1, b1⟩ := kk r u t T'.heap (locs ++ L) e1.symm (by rw [← e2]; exact X'.warmed.alike) hp hb k1 k2 k3 T' rfl X'
    exact ⟨t2, st t2 a1, b1⟩
  · obtain ⟨k1, k2, k3⟩ := vx_keep h0 e1 hS hAX hf hL hF
    obtain ⟨t2, a1, b1⟩ := kx E ce q u t T'.heap (locs ++ L) e1.symm (by rw [← e2]; exact X'.warmed.alike) hp hb k1 k2 k3 (by rw [e1]; exact hce) hcv hcl T' rfl X'
    exact ⟨t2, st.trans a1, b1⟩
end
/-! ===== END ===== -/
/-! ===== BEGIN .. by an interface, a constant ===== -/
section
variable {p : Program} {l : Launch} {e : Env} {R : Room} {s : State} {m : MethodId} {args : Array Value} {below : List Frame} {meth : Method} {c : Code} {H : Heap} {locs : List Loc} {cells slots : Nat} {Q : State → Prop}
variable {mc ms : Nat} {free : Addr → Prop} {A0 A1 : Nat → Prop} {H0 : Heap} {a : Array Value} {pc : Nat} {ls : Array Slot} {st0 rest : List Value}
theorem vx_callFe {ad : Nat → Nat} {S SX : Type} {post : Option Nat → S → Prop} {px : SX → Prop} {B : S → State → Prop} {BX : String → SX → State → Prop} {AX : Nat → Prop} (hr : vx_Run5 p l e R s m args below meth c H locs cells slots mc ms (F0 m pc ls st0) rest (va_Qe ad post B A1 a) (vx_X px BX AX) free) (hS : va_S A0 H0 H locs) (hA : ∀ q, q < H.size → A1 q → A0 q) (hf : ∀ q, free q → A0 q) (hAX : ∀ q, q < H.size → AX q → A0 q)
    (kx : ∀ (E : String) (ce : Cell) (q9 : Addr) (u : SX) (t : State) (H1 : Heap) (locs1 : List Loc), t.heap = H1 → s.vm.Alike t.vm → px u → BX E u t → H.size ≤ H1.size → (∀ q : Nat, q < H.size → ¬ AX q → H1[q]? = H[q]?) → va_S A0 H0 H1 locs1 → H1[q9]? = some ce → ce.vm = .none → s.vm.findClass E = some ce.cls → vx_W p l e R s m args below meth c H1 locs1 (cells + mc) (slots + ms) Q (F0 m pc ls rest) q9)
    (kk : ∀ (r : Option Nat) (u : S) (t : State) (H1 : Heap) (locs1 : List Loc), t.heap = H1 → s.vm.Alike t.vm → post r u → B u t → H.size ≤ H1.size → (∀ q : Nat, q < H.size → ¬ A1 q → H1[q]? = H[q]?) → va_S A0 H0 H1 locs1 → W p l e R s m args below meth c H1 locs1 (cells + mc) (slots + ms) Q (F0 m (pc + 5) ls (va_re ad r :: rest))) : W p l e R s m args below meth c H locs cells slots Q (F0 m pc ls st0) := by
  intro T hT X
  rcases hr T hT X with ⟨v, st₀, t, T', L, h0, X', hL, e1, e2, ⟨⟨r, u, hv, hp, hb⟩, hF⟩, st⟩ | ⟨q, st₀, t, T', L, E, ce, h0, X', hL, e1, e2, ⟨u, hp, hb, hF⟩, hce, hcv, hcl, st⟩
  · cases hv
    obtain ⟨k1, k2, k3⟩ := vx_keep h0 e1 hS hA hf hL hF
    obtain ⟨t2, a1, b1⟩ := kk r u t T'.heap (locs ++ L) e1.symm (by rw [← e2]; exact X'.warmed.alike) hp hb k1 k2 k3 T' rfl X'
    exact ⟨t2, st t2 a1, b1⟩
  · obtain ⟨k1, k2, k3⟩ := vx_keep h0 e1 hS hAX hf hL hF
    obtain ⟨t2, a1, b1⟩ := kx E ce q u t T'.heap (locs ++ L) e1.symm (by rw [← e2]; exact X'.warmed.alike) hp hb k1 k2 k3 (by rw [e1]; exact hce) hcv hcl T' rfl X'
    exact ⟨t2, st.trans a1, b1⟩
end
/-! ===== END ===== -/
/-! ===== BEGIN what the machine throws by itself: null at a field, at athrow ===== -/
section VXM2
variable {p : Program} {l : Launch} {e : Env} {R : Room} {s : State} {m : MethodId} {args : Array Value} {below : List Frame} {meth : Method} {c : Code} {H : Heap} {locs : List Loc} {cells slots : Nat}
variable {Q : State → Prop} {cc : ByteArray} {pc : Nat} {ls : Array Slot} {rest : List Value}
theorem vx_getfN {D cl tys} {own ref C : String} {T : u_T} {N ci index : Nat} {Ts : List Cond} (hexec : p.tables.exec = Jvm.exec) (hb : c.code = cc) (hts : ∀ w ∈ Ts, w.before args s = true) (hin : ∀ w ∈ u_ws C T N, w ∈ Ts) (hown : s.vm.findClass own = some m.cls) (hK : va_K D cl tys s) (hc : cl[ci]? = some (C, T, N)) (k : Nat) (hk : k < N) (hlink : (Cond.fieldLink own index ref (T k).2.1 (T k).2.2.1).before args s = true) (hsame : ∀ x, s.fieldFound? (T k).1 (T k).2.1 (T k).2.2.1 = some x → s.fieldFound? ref (T k).2.1 (T k).2.2.1 = some x) (hdg : decode cc pc = .ok (.getfield index, 3)) (kk : vx_NoteN p l e R s m args below meth c H locs cells slots Q (F0 m pc ls rest)) : W p l e R s m args below meth c H locs cells slots Q (F0 m pc ls (.null :: rest)) := by
  obtain ⟨hS, hfc, kC, hkC, -⟩ := hK.1 ci _ hc
  obtain ⟨cf, kf, fi, f, hi, -⟩ := hS k hk
  intro U hU X
  obtain ⟨vm', X1, st1⟩ := X.getfieldNull hexec hown hlink (hsame _ hi) (u_facts hfc hkC (u_lays hts hin hk) hi).1 (g := F0 m pc ls (.null :: rest)) rfl (rest := rest) rfl (by rw [hb]; exact hdg)
  obtain ⟨t, st, q⟩ := kk (U.setVm vm') hU X1
  exact ⟨t, st1 t st, q⟩
theorem vx_getfNN {D cl tys} {own ref C host : String} {T : u_T} {N ci index : Nat} {Ts : List Cond} (hexec : p.tables.exec = Jvm.exec) (hb : c.code = cc) (hts : ∀ w ∈ Ts, w.before args s = true) (hin : ∀ w ∈ u_ws C T N, w ∈ Ts) (hown : s.vm.findClass own = some m.cls) (hK : va_K D cl tys s) (hc : cl[ci]? = some (C, T, N)) (k : Nat) (hk : k < N) (hlink : (Cond.fieldLinkNest own index ref (T k).2.1 (T k).2.2.1 host).before args s = true) (hsame : ∀ x, s.fieldFound? (T k).1 (T k).2.1 (T k).2.2.1 = some x → s.fieldFound? ref (T k).2.1 (T k).2.2.1 = some x) (hdg : decode cc pc = .ok (.getfield index, 3)) (kk : vx_NoteN p l e R s m args below meth c H locs cells slots Q (F0 m pc ls rest)) : W p l e R s m args below meth c H locs cells slots Q (F0 m pc ls (.null :: rest)) := by
  obtain ⟨hS, hfc, kC, hkC, -⟩ := hK.1 ci _ hc
  obtain ⟨cf, kf, fi, f, hi, -⟩ := hS k hk
  intro U hU X
  obtain ⟨vm', X1, st1⟩ := X.getfieldNullNest hexec hown hlink (hsame _ hi) (u_facts hfc hkC (u_lays hts hin hk) hi).1 (g := F0 m pc ls (.null :: rest)) rfl (rest := rest) rfl (by rw [hb]; exact hdg)
  obtain ⟨t, st, q⟩ := kk (U.setVm vm') hU X1
  exact ⟨t, st1 t st, q⟩
theorem vx_putfN {D cl tys} {own ref C : String} {T : u_T} {N ci index : Nat} {Ts : List Cond} (hexec : p.tables.exec = Jvm.exec) (hb : c.code = cc) (hts : ∀ w ∈ Ts, w.before args s = true) (hin : ∀ w ∈ u_ws C T N, w ∈ Ts) (hown : s.vm.findClass own = some m.cls) (hK : va_K D cl tys s) (hc : cl[ci]? = some (C, T, N)) (k : Nat) (hk : k < N) (hlink : (Cond.fieldLink own index ref (T k).2.1 (T k).2.2.1).before args s = true) (hsame : ∀ x, s.fieldFound? (T k).1 (T k).2.1 (T k).2.2.1 = some x → s.fieldFound? ref (T k).2.1 (T k).2.2.1 = some x) (hfin : (T k).2.2.2 = false) {v : Value} (hdg : decode cc pc = .ok (.putfield index, 3)) (kk : vx_NoteN p l e R s m args below meth c H locs cells slots Q (F0 m pc ls rest)) : W p l e R s m args below meth c H locs cells slots Q (F0 m pc ls (v :: .null :: rest)) := by
  obtain ⟨hS, hfc, kC, hkC, -⟩ := hK.1 ci _ hc
  obtain ⟨cf, kf, fi, f, hi, -⟩ := hS k hk
  have hlay := hts _ (hin _ (u_in_lay hk))
  unfold u_lay at hlay
  rw [if_neg (by rw [hfin]; decide)] at hlay
  obtain ⟨c9, k9, cf9, kf9, fi9, f9, -, -, hi9, hst9, hnf9, -⟩ := Cond.lays_spec hlay
  cases hi.symm.trans hi9
  intro U hU X
  obtain ⟨vm', X1, st1⟩ := X.putfieldNull hexec hown hlink (hsame _ hi) hst9 hnf9 (g := F0 m pc ls (v :: .null :: rest)) rfl (v := v) (rest := rest) rfl (by rw [hb]; exact hdg)
  obtain ⟨t, st, q⟩ := kk (U.setVm vm') hU X1
  exact ⟨t, st1 t st, q⟩
theorem vx_putfNN {D cl tys} {own ref C host : String} {T : u_T} {N ci index : Nat} {Ts : List Cond} (hexec : p.tables.exec = Jvm.exec) (hb : c.code = cc) (hts : ∀ w ∈ Ts, w.before args s = true) (hin : ∀ w ∈ u_ws C T N, w ∈ Ts) (hown : s.vm.findClass own = some m.cls) (hK : va_K D cl tys s) (hc : cl[ci]? = some (C, T, N)) (k : Nat) (hk : k < N) (hlink : (Cond.fieldLinkNest own index ref (T k).2.1 (T k).2.2.1 host).before args s = true) (hsame : ∀ x, s.fieldFound? (T k).1 (T k).2.1 (T k).2.2.1 = some x → s.fieldFound? ref (T k).2.1 (T k).2.2.1 = some x) (hfin : (T k).2.2.2 = false) {v : Value} (hdg : decode cc pc = .ok (.putfield index, 3)) (kk : vx_NoteN p l e R s m args below meth c H locs cells slots Q (F0 m pc ls rest)) : W p l e R s m args below meth c H locs cells slots Q (F0 m pc ls (v :: .null :: rest)) := by
  obtain ⟨hS, hfc, kC, hkC, -⟩ := hK.1 ci _ hc
  obtain ⟨cf, kf, fi, f, hi, -⟩ := hS k hk
  have hlay := hts _ (hin _ (u_in_lay hk))
  unfold u_lay at hlay
  rw [if_neg (by rw [hfin]; decide)] at hlay
  obtain ⟨c9, k9, cf9, kf9, fi9, f9, -, -, hi9, hst9, hnf9, -⟩ := Cond.lays_spec hlay
  cases hi.symm.trans hi9
  intro U hU X
  obtain ⟨vm', X1, st1⟩ := X.putfieldNullNest hexec hown hlink (hsame _ hi) hst9 hnf9 (g := F0 m pc ls (v :: .null :: rest)) rfl (v := v) (rest := rest) rfl (by rw [hb]; exact hdg)
  obtain ⟨t, st, q⟩ := kk (U.setVm vm') hU X1
  exact ⟨t, st1 t st, q⟩
theorem vx_athrowN (hexec : p.tables.exec = Jvm.exec) (hb : c.code = cc) (hdg : decode cc pc = .ok (.athrow, 1)) (k : vx_NoteN p l e R s m args below meth c H locs cells slots Q (F0 m pc ls rest)) : W p l e R s m args below meth c H locs cells slots Q (F0 m pc ls (.null :: rest)) := by
  intro T hT X
  obtain ⟨t, st, q⟩ := k T hT X
  exact ⟨t, X.athrowNull hexec (g := F0 m pc ls (.null :: rest)) rfl (rest := rest) rfl (by rw [hb]; exact hdg) t st, q⟩
end VXM2
/-! ===== END ===== -/
end
section
-- ===== PART A: goes FIRST, ahead of the names: the tables' words, and 'selects' of the private methods out of them =====
/-- a private method of a class that the tables say can be made, by its rows of tables_1 -/
def lw_okq (q : MethodName × Nat) : Prop := (q.1.cls ≠ "java/lang/invoke/MethodHandle" ∧ q.1.cls ≠ "java/lang/invoke/VarHandle") ∧ Cond.instantiable q.1.cls q.2 ∈ tables_1 ∧ Cond.privateMethod q.1 ∈ tables_1 ∧ Cond.instanceMethod q.1 ∈ tables_1
theorem lw_p0 : lw_okq (⟨"Ironbark", "requireStation", "(I)V"⟩, 16) := ⟨⟨by decide +kernel, by decide +kernel⟩, List.mem_of_getElem? (i := 26) (by decide +kernel), List.mem_of_getElem? (i := 226) (by decide +kernel), List.mem_of_getElem? (i := 227) (by decide +kernel)⟩
theorem lw_p1 : lw_okq (⟨"java/lang/Throwable", "fillInStackTrace", "(I)Ljava/lang/Throwable;"⟩, 6) := ⟨⟨by decide +kernel, by decide +kernel⟩, List.mem_of_getElem? (i := 271) (by decide +kernel), List.mem_of_getElem? (i := 269) (by decide +kernel), List.mem_of_getElem? (i := 270) (by decide +kernel)⟩
theorem lw_p2 : lw_okq (⟨"java/util/ArrayList", "add", "(Ljava/lang/Object;[Ljava/lang/Object;I)V"⟩, 3) := ⟨⟨by decide +kernel, by decide +kernel⟩, List.mem_of_getElem? (i := 36) (by decide +kernel), List.mem_of_getElem? (i := 406) (by decide +kernel), List.mem_of_getElem? (i := 407) (by decide +kernel)⟩
theorem lw_p3 : lw_okq (⟨"java/util/ArrayList", "grow", "()[Ljava/lang/Object;"⟩, 3) := ⟨⟨by decide +kernel, by decide +kernel⟩, List.mem_of_getElem? (i := 36) (by decide +kernel), List.mem_of_getElem? (i := 410) (by decide +kernel), List.mem_of_getElem? (i := 411) (by decide +kernel)⟩
theorem lw_p4 : lw_okq (⟨"java/util/ArrayList", "grow", "(I)[Ljava/lang/Object;"⟩, 3) := ⟨⟨by decide +kernel, by decide +kernel⟩, List.mem_of_getElem? (i := 36) (by decide +kernel), List.mem_of_getElem? (i := 414) (by decide +kernel), List.mem_of_getElem? (i := 415) (by decide +kernel)⟩
theorem lw_p5 : lw_okq (⟨"Ironbark", "blockOf", "(I)LIronbark$Block;"⟩, 16) := ⟨⟨by decide +kernel, by decide +kernel⟩, List.mem_of_getElem? (i := 26) (by decide +kernel), List.mem_of_getElem? (i := 465) (by decide +kernel), List.mem_of_getElem? (i := 466) (by decide +kernel)⟩
theorem lw_p6 : lw_okq (⟨"Ironbark", "crewOf", "(I)LIronbark$Crew;"⟩, 16) := ⟨⟨by decide +kernel, by decide +kernel⟩, List.mem_of_getElem? (i := 26) (by decide +kernel), List.mem_of_getElem? (i := 549) (by decide +kernel), List.mem_of_getElem? (i := 550) (by decide +kernel)⟩
theorem lw_p7 : lw_okq (⟨"Ironbark", "requireBlock", "(I)V"⟩, 16) := ⟨⟨by decide +kernel, by decide +kernel⟩, List.mem_of_getElem? (i := 26) (by decide +kernel), List.mem_of_getElem? (i := 553) (by decide +kernel), List.mem_of_getElem? (i := 554) (by decide +kernel)⟩
theorem lw_p8 : lw_okq (⟨"Ironbark", "stationOf", "(I)LIronbark$Station;"⟩, 16) := ⟨⟨by decide +kernel, by decide +kernel⟩, List.mem_of_getElem? (i := 26) (by decide +kernel), List.mem_of_getElem? (i := 567) (by decide +kernel), List.mem_of_getElem? (i := 568) (by decide +kernel)⟩
theorem lw_p9 : lw_okq (⟨"Ironbark", "trainOf", "(I)LIronbark$Train;"⟩, 16) := ⟨⟨by decide +kernel, by decide +kernel⟩, List.mem_of_getElem? (i := 26) (by decide +kernel), List.mem_of_getElem? (i := 621) (by decide +kernel), List.mem_of_getElem? (i := 622) (by decide +kernel)⟩
theorem lw_p10 : lw_okq (⟨"Ironbark", "requireTrain", "(I)V"⟩, 16) := ⟨⟨by decide +kernel, by decide +kernel⟩, List.mem_of_getElem? (i := 26) (by decide +kernel), List.mem_of_getElem? (i := 625) (by decide +kernel), List.mem_of_getElem? (i := 626) (by decide +kernel)⟩
theorem lw_p11 : lw_okq (⟨"Ironbark", "arriveAll", "()V"⟩, 16) := ⟨⟨by decide +kernel, by decide +kernel⟩, List.mem_of_getElem? (i := 26) (by decide +kernel), List.mem_of_getElem? (i := 634) (by decide +kernel), List.mem_of_getElem? (i := 635) (by decide +kernel)⟩
theorem lw_p12 : lw_okq (⟨"Ironbark", "arrive", "(LIronbark$Train;)V"⟩, 16) := ⟨⟨by decide +kernel, by decide +kernel⟩, List.mem_of_getElem? (i := 26) (by decide +kernel), List.mem_of_getElem? (i := 638) (by decide +kernel), List.mem_of_getElem? (i := 639) (by decide +kernel)⟩
theorem lw_p13 : lw_okq (⟨"Ironbark", "beginDay", "()V"⟩, 16) := ⟨⟨by decide +kernel, by decide +kernel⟩, List.mem_of_getElem? (i := 26) (by decide +kernel), List.mem_of_getElem? (i := 658) (by decide +kernel), List.mem_of_getElem? (i := 659) (by decide +kernel)⟩
theorem lw_p14 : lw_okq (⟨"Ironbark", "billNumbered", "(I)LIronbark$Bill;"⟩, 16) := ⟨⟨by decide +kernel, by decide +kernel⟩, List.mem_of_getElem? (i := 26) (by decide +kernel), List.mem_of_getElem? (i := 662) (by decide +kernel), List.mem_of_getElem? (i := 663) (by decide +kernel)⟩
theorem lw_p15 : lw_okq (⟨"Ironbark", "enterAll", "()I"⟩, 16) := ⟨⟨by decide +kernel, by decide +kernel⟩, List.mem_of_getElem? (i := 26) (by decide +kernel), List.mem_of_getElem? (i := 667) (by decide +kernel), List.mem_of_getElem? (i := 668) (by decide +kernel)⟩
def lw_privs_1 : List (MethodName × Nat) := [(⟨"Ironbark", "requireStation", "(I)V"⟩, 16), (⟨"java/lang/Throwable", "fillInStackTrace", "(I)Ljava/lang/Throwable;"⟩, 6), (⟨"java/util/ArrayList", "add", "(Ljava/lang/Object;[Ljava/lang/Object;I)V"⟩, 3), (⟨"java/util/ArrayList", "grow", "()[Ljava/lang/Object;"⟩, 3), (⟨"java/util/ArrayList", "grow", "(I)[Ljava/lang/Object;"⟩, 3), (⟨"Ironbark", "blockOf", "(I)LIronbark$Block;"⟩, 16), (⟨"Ironbark", "crewOf", "(I)LIronbark$Crew;"⟩, 16), (⟨"Ironbark", "requireBlock", "(I)V"⟩, 16), (⟨"Ironbark", "stationOf", "(I)LIronbark$Station;"⟩, 16), (⟨"Ironbark", "trainOf", "(I)LIronbark$Train;"⟩, 16), (⟨"Ironbark", "requireTrain", "(I)V"⟩, 16), (⟨"Ironbark", "arriveAll", "()V"⟩, 16), (⟨"Ironbark", "arrive", "(LIronbark$Train;)V"⟩, 16), (⟨"Ironbark", "beginDay", "()V"⟩, 16), (⟨"Ironbark", "billNumbered", "(I)LIronbark$Bill;"⟩, 16), (⟨"Ironbark", "enterAll", "()I"⟩, 16)]
theorem lw_r1 : ∀ q ∈ lw_privs_1, lw_okq q := List.forall_mem_cons.mpr ⟨lw_p0, List.forall_mem_cons.mpr ⟨lw_p1, List.forall_mem_cons.mpr ⟨lw_p2, List.forall_mem_cons.mpr ⟨lw_p3, List.forall_mem_cons.mpr ⟨lw_p4, List.forall_mem_cons.mpr ⟨lw_p5, List.forall_mem_cons.mpr ⟨lw_p6, List.forall_mem_cons.mpr ⟨lw_p7, List.forall_mem_cons.mpr ⟨lw_p8, List.forall_mem_cons.mpr ⟨lw_p9, List.forall_mem_cons.mpr ⟨lw_p10, List.forall_mem_cons.mpr ⟨lw_p11, List.forall_mem_cons.mpr ⟨lw_p12, List.forall_mem_cons.mpr ⟨lw_p13, List.forall_mem_cons.mpr ⟨lw_p14, List.forall_mem_cons.mpr ⟨lw_p15, fun _ h => absurd h List.not_mem_nil⟩⟩⟩⟩⟩⟩⟩⟩⟩⟩⟩⟩⟩⟩⟩⟩
theorem lw_p16 : lw_okq (⟨"Ironbark", "nextToEnter", "(I)I"⟩, 16) := ⟨⟨by decide +kernel, by decide +kernel⟩, List.mem_of_getElem? (i := 26) (by decide +kernel), List.mem_of_getElem? (i := 671) (by decide +kernel), List.mem_of_getElem? (i := 672) (by decide +kernel)⟩
theorem lw_p17 : lw_okq (⟨"Ironbark", "barOf", "(LIronbark$Train;)I"⟩, 16) := ⟨⟨by decide +kernel, by decide +kernel⟩, List.mem_of_getElem? (i := 26) (by decide +kernel), List.mem_of_getElem? (i := 675) (by decide +kernel), List.mem_of_getElem? (i := 676) (by decide +kernel)⟩
theorem lw_p18 : lw_okq (⟨"Ironbark", "barOfStart", "(LIronbark$Train;LIronbark$Block;)I"⟩, 16) := ⟨⟨by decide +kernel, by decide +kernel⟩, List.mem_of_getElem? (i := 26) (by decide +kernel), List.mem_of_getElem? (i := 679) (by decide +kernel), List.mem_of_getElem? (i := 680) (by decide +kernel)⟩
theorem lw_p19 : lw_okq (⟨"Ironbark", "isWaiting", "(LIronbark$Train;)Z"⟩, 16) := ⟨⟨by decide +kernel, by decide +kernel⟩, List.mem_of_getElem? (i := 26) (by decide +kernel), List.mem_of_getElem? (i := 683) (by decide +kernel), List.mem_of_getElem? (i := 684) (by decide +kernel)⟩
theorem lw_p20 : lw_okq (⟨"Ironbark", "barOfRun", "(LIronbark$Train;LIronbark$Block;I)I"⟩, 16) := ⟨⟨by decide +kernel, by decide +kernel⟩, List.mem_of_getElem? (i := 26) (by decide +kernel), List.mem_of_getElem? (i := 699) (by decide +kernel), List.mem_of_getElem? (i := 700) (by decide +kernel)⟩
theorem lw_p21 : lw_okq (⟨"Ironbark", "freeTracksAt", "(I)I"⟩, 16) := ⟨⟨by decide +kernel, by decide +kernel⟩, List.mem_of_getElem? (i := 26) (by decide +kernel), List.mem_of_getElem? (i := 718) (by decide +kernel), List.mem_of_getElem? (i := 719) (by decide +kernel)⟩
theorem lw_p22 : lw_okq (⟨"Ironbark", "takenTracks", "(I)I"⟩, 16) := ⟨⟨by decide +kernel, by decide +kernel⟩, List.mem_of_getElem? (i := 26) (by decide +kernel), List.mem_of_getElem? (i := 722) (by decide +kernel), List.mem_of_getElem? (i := 723) (by decide +kernel)⟩
theorem lw_p23 : lw_okq (⟨"Ironbark", "enter", "(LIronbark$Train;LIronbark$Block;I)V"⟩, 16) := ⟨⟨by decide +kernel, by decide +kernel⟩, List.mem_of_getElem? (i := 26) (by decide +kernel), List.mem_of_getElem? (i := 730) (by decide +kernel), List.mem_of_getElem? (i := 731) (by decide +kernel)⟩
theorem lw_p24 : lw_okq (⟨"Ironbark", "engineOf", "(I)LIronbark$Engine;"⟩, 16) := ⟨⟨by decide +kernel, by decide +kernel⟩, List.mem_of_getElem? (i := 26) (by decide +kernel), List.mem_of_getElem? (i := 751) (by decide +kernel), List.mem_of_getElem? (i := 752) (by decide +kernel)⟩
theorem lw_p25 : lw_okq (⟨"Ironbark", "leastFreeNumber", "()I"⟩, 16) := ⟨⟨by decide +kernel, by decide +kernel⟩, List.mem_of_getElem? (i := 26) (by decide +kernel), List.mem_of_getElem? (i := 755) (by decide +kernel), List.mem_of_getElem? (i := 756) (by decide +kernel)⟩
theorem lw_p26 : lw_okq (⟨"Ironbark", "endOfDraft", "(I)I"⟩, 16) := ⟨⟨by decide +kernel, by decide +kernel⟩, List.mem_of_getElem? (i := 26) (by decide +kernel), List.mem_of_getElem? (i := 772) (by decide +kernel), List.mem_of_getElem? (i := 773) (by decide +kernel)⟩
theorem lw_p27 : lw_okq (⟨"Ironbark", "carOf", "(I)LIronbark$Car;"⟩, 16) := ⟨⟨by decide +kernel, by decide +kernel⟩, List.mem_of_getElem? (i := 26) (by decide +kernel), List.mem_of_getElem? (i := 801) (by decide +kernel), List.mem_of_getElem? (i := 802) (by decide +kernel)⟩
def lw_privs_2 : List (MethodName × Nat) := [(⟨"Ironbark", "nextToEnter", "(I)I"⟩, 16), (⟨"Ironbark", "barOf", "(LIronbark$Train;)I"⟩, 16), (⟨"Ironbark", "barOfStart", "(LIronbark$Train;LIronbark$Block;)I"⟩, 16), (⟨"Ironbark", "isWaiting", "(LIronbark$Train;)Z"⟩, 16), (⟨"Ironbark", "barOfRun", "(LIronbark$Train;LIronbark$Block;I)I"⟩, 16), (⟨"Ironbark", "freeTracksAt", "(I)I"⟩, 16), (⟨"Ironbark", "takenTracks", "(I)I"⟩, 16), (⟨"Ironbark", "enter", "(LIronbark$Train;LIronbark$Block;I)V"⟩, 16), (⟨"Ironbark", "engineOf", "(I)LIronbark$Engine;"⟩, 16), (⟨"Ironbark", "leastFreeNumber", "()I"⟩, 16), (⟨"Ironbark", "endOfDraft", "(I)I"⟩, 16), (⟨"Ironbark", "carOf", "(I)LIronbark$Car;"⟩, 16)]
theorem lw_r2 : ∀ q ∈ lw_privs_2, lw_okq q := List.forall_mem_cons.mpr ⟨lw_p16, List.forall_mem_cons.mpr ⟨lw_p17, List.forall_mem_cons.mpr ⟨lw_p18, List.forall_mem_cons.mpr ⟨lw_p19, List.forall_mem_cons.mpr ⟨lw_p20, List.forall_mem_cons.mpr ⟨lw_p21, List.forall_mem_cons.mpr ⟨lw_p22, List.forall_mem_cons.mpr ⟨lw_p23, List.forall_mem_cons.mpr ⟨lw_p24, List.forall_mem_cons.mpr ⟨lw_p25, List.forall_mem_cons.mpr ⟨lw_p26, List.forall_mem_cons.mpr ⟨lw_p27, fun _ h => absurd h List.not_mem_nil⟩⟩⟩⟩⟩⟩⟩⟩⟩⟩⟩⟩
def lw_privs : List (MethodName × Nat) := lw_privs_1 ++ (lw_privs_2)
def lw_tbl : List Cond := k2_sels lw_privs ++ tables_1
theorem lw_privs_ok : ∀ q ∈ lw_privs, lw_okq q := by
  show ∀ q ∈ lw_privs_1 ++ (lw_privs_2), lw_okq q
  exact List.forall_mem_append.mpr ⟨lw_r1, lw_r2⟩
-- ===== end of PART A; then your names; then what follows =====
def RX0 : String := "Ironbark$Bill"
def TX0 : u_T := fun k => match k with
  | _ => ("", "", "", false)
def tyX0 : Nat → FieldType := fun k => match k with
  | _ => .int
abbrev wsX00 : List Cond := u_ws RX0 TX0 0
theorem nmX0 : ∀ a, a < 0 → ∀ b, b < 0 → a ≠ b → (TX0 a).2.1 ≠ (TX0 b).2.1 := by decide +kernel
theorem tyX0_ok : ∀ k, k < 0 → parseFieldDescriptor (TX0 k).2.2.1 = some (tyX0 k) := by decide +kernel
def RX1 : String := "Ironbark$Block"
def TX1 : u_T := fun k => match k with
  | 0 => ("Ironbark$Block", "first", "I", true)
  | 1 => ("Ironbark$Block", "second", "I", true)
  | 2 => ("Ironbark$Block", "minutes", "I", true)
  | 3 => ("Ironbark$Block", "grade", "I", true)
  | 4 => ("Ironbark$Block", "wear", "I", false)
  | 5 => ("Ironbark$Block", "failed", "Z", false)
  | 6 => ("Ironbark$Block", "flagged", "Z", false)
  | 7 => ("Ironbark$Block", "othersFrom", "I", false)
  | 8 => ("Ironbark$Block", "othersTo", "I", false)
  | 9 => ("Ironbark$Block", "closedUntil", "I", false)
  | 10 => ("Ironbark$Block", "hasWrecks", "Z", false)
  | 11 => ("Ironbark$Block", "holder", "I", false)
  | _ => ("Ironbark$Block", "clearAt", "I", false)
def tyX1 : Nat → FieldType := fun k => match k with
  | 0 => .int
  | 1 => .int
  | 2 => .int
  | 3 => .int
  | 4 => .int
  | 5 => .boolean
  | 6 => .boolean
  | 7 => .int
  | 8 => .int
  | 9 => .int
  | 10 => .boolean
  | 11 => .int
  | _ => .int
abbrev wsX10 : List Cond := u_ws RX1 TX1 13
theorem nmX1 : ∀ a, a < 13 → ∀ b, b < 13 → a ≠ b → (TX1 a).2.1 ≠ (TX1 b).2.1 := by decide +kernel
theorem tyX1_ok : ∀ k, k < 13 → parseFieldDescriptor (TX1 k).2.2.1 = some (tyX1 k) := by decide +kernel
abbrev cX1_init : ByteArray := prog_3_method_1_code
def yX1_init : MethodName := ⟨RX1, "<init>", "(IIII)V"⟩
abbrev cX1_otherEnd : ByteArray := prog_3_method_2_code
def yX1_otherEnd : MethodName := ⟨RX1, "otherEnd", "(I)I"⟩
abbrev cX1_holderAt : ByteArray := prog_3_method_3_code
def yX1_holderAt : MethodName := ⟨RX1, "holderAt", "(I)I"⟩
abbrev cX1_isClosedAt : ByteArray := prog_3_method_4_code
def yX1_isClosedAt : MethodName := ⟨RX1, "isClosedAt", "(I)Z"⟩
abbrev cX1_isOfOthers : ByteArray := prog_3_method_5_code
def yX1_isOfOthers : MethodName := ⟨RX1, "isOfOthers", "(II)Z"⟩
def RX2 : String := "Ironbark$Car"
def TX2 : u_T := fun k => match k with
  | 0 => ("Ironbark$Car", "home", "I", true)
  | 1 => ("Ironbark$Car", "station", "I", false)
  | 2 => ("Ironbark$Car", "train", "I", false)
  | 3 => ("Ironbark$Car", "bill", "I", false)
  | _ => ("Ironbark$Car", "papers", "LIronbark$Row;", true)
def tyX2 : Nat → FieldType := fun k => match k with
  | 0 => .int
  | 1 => .int
  | 2 => .int
  | 3 => .int
  | _ => .object "Ironbark$Row"
abbrev wsX20 : List Cond := u_ws RX2 TX2 5
theorem nmX2 : ∀ a, a < 5 → ∀ b, b < 5 → a ≠ b → (TX2 a).2.1 ≠ (TX2 b).2.1 := by decide +kernel
theorem tyX2_ok : ∀ k, k < 5 → parseFieldDescriptor (TX2 k).2.2.1 = some (tyX2 k) := by decide +kernel
abbrev cX2_init : ByteArray := prog_4_method_1_code
def yX2_init : MethodName := ⟨RX2, "<init>", "(I)V"⟩
abbrev cX2_weight : ByteArray := prog_4_method_2_code
def yX2_weight : MethodName := ⟨RX2, "weight", "()I"⟩
abbrev cX2_write : ByteArray := prog_4_method_3_code
def yX2_write : MethodName := ⟨RX2, "write", "(II)V"⟩
def RX3 : String := "Ironbark$Crew"
def TX3 : u_T := fun k => match k with
  | 0 => ("Ironbark$Crew", "station", "I", false)
  | 1 => ("Ironbark$Crew", "train", "I", false)
  | 2 => ("Ironbark$Crew", "known", "I", false)
  | 3 => ("Ironbark$Crew", "duty", "I", false)
  | _ => ("Ironbark$Crew", "restEnd", "I", false)
def tyX3 : Nat → FieldType := fun k => match k with
  | 0 => .int
  | 1 => .int
  | 2 => .int
  | 3 => .int
  | _ => .int
abbrev wsX30 : List Cond := u_ws RX3 TX3 5
theorem nmX3 : ∀ a, a < 5 → ∀ b, b < 5 → a ≠ b → (TX3 a).2.1 ≠ (TX3 b).2.1 := by decide +kernel
theorem tyX3_ok : ∀ k, k < 5 → parseFieldDescriptor (TX3 k).2.2.1 = some (tyX3 k) := by decide +kernel
abbrev cX3_init : ByteArray := prog_5_method_1_code
def yX3_init : MethodName := ⟨RX3, "<init>", "(I)V"⟩
abbrev cX3_isRestingAt : ByteArray := prog_5_method_2_code
def yX3_isRestingAt : MethodName := ⟨RX3, "isRestingAt", "(I)Z"⟩
def RX4 : String := "Ironbark$Engine"
def TX4 : u_T := fun k => match k with
  | 0 => ("Ironbark$Engine", "power", "I", true)
  | 1 => ("Ironbark$Engine", "station", "I", false)
  | _ => ("Ironbark$Engine", "train", "I", false)
def tyX4 : Nat → FieldType := fun k => match k with
  | 0 => .int
  | 1 => .int
  | _ => .int
abbrev wsX40 : List Cond := u_ws RX4 TX4 3
theorem nmX4 : ∀ a, a < 3 → ∀ b, b < 3 → a ≠ b → (TX4 a).2.1 ≠ (TX4 b).2.1 := by decide +kernel
theorem tyX4_ok : ∀ k, k < 3 → parseFieldDescriptor (TX4 k).2.2.1 = some (tyX4 k) := by decide +kernel
abbrev cX4_init : ByteArray := prog_6_method_1_code
def yX4_init : MethodName := ⟨RX4, "<init>", "(II)V"⟩
def RX5 : String := "Ironbark$Row"
def TX5 : u_T := fun k => match k with
  | 0 => ("Ironbark$Row", "items", "[I", false)
  | _ => ("Ironbark$Row", "count", "I", false)
def tyX5 : Nat → FieldType := fun k => match k with
  | 0 => .array .int
  | _ => .int
abbrev wsX50 : List Cond := u_ws RX5 TX5 2
theorem nmX5 : ∀ a, a < 2 → ∀ b, b < 2 → a ≠ b → (TX5 a).2.1 ≠ (TX5 b).2.1 := by decide +kernel
theorem tyX5_ok : ∀ k, k < 2 → parseFieldDescriptor (TX5 k).2.2.1 = some (tyX5 k) := by decide +kernel
abbrev cX5_init : ByteArray := prog_7_method_1_code
def yX5_init : MethodName := ⟨RX5, "<init>", "(I)V"⟩
abbrev cX5_at : ByteArray := prog_7_method_2_code
def yX5_at : MethodName := ⟨RX5, "at", "(I)I"⟩
abbrev cX5_append : ByteArray := prog_7_method_3_code
def yX5_append : MethodName := ⟨RX5, "append", "(I)V"⟩
abbrev cX5_drop : ByteArray := prog_7_method_4_code
def yX5_drop : MethodName := ⟨RX5, "drop", "(I)V"⟩
abbrev cX5_copy : ByteArray := prog_7_method_5_code
def yX5_copy : MethodName := ⟨RX5, "copy", "(LIronbark$Row;)V"⟩
abbrev cX5_empty : ByteArray := prog_7_method_6_code
def yX5_empty : MethodName := ⟨RX5, "empty", "()V"⟩
def RX6 : String := "Ironbark$Station"
def TX6 : u_T := fun k => match k with
  | 0 => ("Ironbark$Station", "tracks", "I", false)
  | _ => ("Ironbark$Station", "yard", "LIronbark$Row;", true)
def tyX6 : Nat → FieldType := fun k => match k with
  | 0 => .int
  | _ => .object "Ironbark$Row"
abbrev wsX60 : List Cond := u_ws RX6 TX6 2
theorem nmX6 : ∀ a, a < 2 → ∀ b, b < 2 → a ≠ b → (TX6 a).2.1 ≠ (TX6 b).2.1 := by decide +kernel
theorem tyX6_ok : ∀ k, k < 2 → parseFieldDescriptor (TX6 k).2.2.1 = some (tyX6 k) := by decide +kernel
abbrev cX6_init : ByteArray := prog_8_method_1_code
def yX6_init : MethodName := ⟨RX6, "<init>", "()V"⟩
def RX7 : String := "Ironbark$Train"
def TX7 : u_T := fun k => match k with
  | 0 => ("Ironbark$Train", "number", "I", true)
  | 1 => ("Ironbark$Train", "state", "I", false)
  | 2 => ("Ironbark$Train", "engine", "I", false)
  | 3 => ("Ironbark$Train", "crew", "I", false)
  | 4 => ("Ironbark$Train", "power", "I", false)
  | 5 => ("Ironbark$Train", "station", "I", false)
  | 6 => ("Ironbark$Train", "block", "I", false)
  | 7 => ("Ironbark$Train", "arrival", "I", false)
  | 8 => ("Ironbark$Train", "weight", "I", false)
  | 9 => ("Ironbark$Train", "cars", "LIronbark$Row;", true)
  | 10 => ("Ironbark$Train", "way", "LIronbark$Row;", true)
  | 11 => ("Ironbark$Train", "entered", "I", false)
  | 12 => ("Ironbark$Train", "minute", "I", false)
  | 13 => ("Ironbark$Train", "rank", "I", false)
  | 14 => ("Ironbark$Train", "awaited", "I", false)
  | 15 => ("Ironbark$Train", "awaitedAt", "I", false)
  | _ => ("Ironbark$Train", "clearAt", "[I", true)
def tyX7 : Nat → FieldType := fun k => match k with
  | 0 => .int
  | 1 => .int
  | 2 => .int
  | 3 => .int
  | 4 => .int
  | 5 => .int
  | 6 => .int
  | 7 => .int
  | 8 => .int
  | 9 => .object "Ironbark$Row"
  | 10 => .object "Ironbark$Row"
  | 11 => .int
  | 12 => .int
  | 13 => .int
  | 14 => .int
  | 15 => .int
  | _ => .array .int
abbrev wsX70 : List Cond := u_ws RX7 TX7 17
theorem nmX7 : ∀ a, a < 17 → ∀ b, b < 17 → a ≠ b → (TX7 a).2.1 ≠ (TX7 b).2.1 := by decide +kernel
theorem tyX7_ok : ∀ k, k < 17 → parseFieldDescriptor (TX7 k).2.2.1 = some (tyX7 k) := by decide +kernel
abbrev cX7_init : ByteArray := prog_9_method_1_code
def yX7_init : MethodName := ⟨RX7, "<init>", "(I)V"⟩
abbrev cX7_start : ByteArray := prog_9_method_2_code
def yX7_start : MethodName := ⟨RX7, "start", "(IIII)V"⟩
abbrev cX7_stands : ByteArray := prog_9_method_4_code
def yX7_stands : MethodName := ⟨RX7, "stands", "()Z"⟩
abbrev cX7_takesTrackAt : ByteArray := prog_9_method_5_code
def yX7_takesTrackAt : MethodName := ⟨RX7, "takesTrackAt", "(I)Z"⟩
abbrev cX7_nextBlock : ByteArray := prog_9_method_6_code
def yX7_nextBlock : MethodName := ⟨RX7, "nextBlock", "()I"⟩
abbrev cX7_minutesToClear : ByteArray := prog_9_method_7_code
def yX7_minutesToClear : MethodName := ⟨RX7, "minutesToClear", "()I"⟩
abbrev cX7_notClear : ByteArray := prog_9_method_8_code
def yX7_notClear : MethodName := ⟨RX7, "notClear", "(II)V"⟩
abbrev cX7_holds : ByteArray := prog_9_method_10_code
def yX7_holds : MethodName := ⟨RX7, "holds", "(II)Z"⟩
def RX8 : String := "Ironbark"
def TX8 : u_T := fun k => match k with
  | 0 => ("Ironbark", "stations", "[LIronbark$Station;", true)
  | 1 => ("Ironbark", "blocks", "Ljava/util/ArrayList;", true)
  | 2 => ("Ironbark", "engines", "Ljava/util/ArrayList;", true)
  | 3 => ("Ironbark", "crews", "Ljava/util/ArrayList;", true)
  | 4 => ("Ironbark", "cars", "Ljava/util/ArrayList;", true)
  | 5 => ("Ironbark", "bills", "Ljava/util/ArrayList;", true)
  | 6 => ("Ironbark", "trains", "[LIronbark$Train;", true)
  | 7 => ("Ironbark", "ownRates", "[I", true)
  | 8 => ("Ironbark", "rivalRates", "[I", true)
  | 9 => ("Ironbark", "draft", "LIronbark$Row;", true)
  | 10 => ("Ironbark", "sorted", "LIronbark$Row;", true)
  | 11 => ("Ironbark", "distances", "[I", true)
  | 12 => ("Ironbark", "now", "I", false)
  | 13 => ("Ironbark", "money", "I", false)
  | 14 => ("Ironbark", "owed", "I", false)
  | _ => ("Ironbark", "lastBroken", "I", false)
def tyX8 : Nat → FieldType := fun k => match k with
  | 0 => .array (.object "Ironbark$Station")
  | 1 => .object "java/util/ArrayList"
  | 2 => .object "java/util/ArrayList"
  | 3 => .object "java/util/ArrayList"
  | 4 => .object "java/util/ArrayList"
  | 5 => .object "java/util/ArrayList"
  | 6 => .array (.object "Ironbark$Train")
  | 7 => .array .int
  | 8 => .array .int
  | 9 => .object "Ironbark$Row"
  | 10 => .object "Ironbark$Row"
  | 11 => .array .int
  | 12 => .int
  | 13 => .int
  | 14 => .int
  | _ => .int
abbrev wsX80 : List Cond := u_ws RX8 TX8 16
theorem nmX8 : ∀ a, a < 16 → ∀ b, b < 16 → a ≠ b → (TX8 a).2.1 ≠ (TX8 b).2.1 := by decide +kernel
theorem tyX8_ok : ∀ k, k < 16 → parseFieldDescriptor (TX8 k).2.2.1 = some (tyX8 k) := by decide +kernel
abbrev cX8_init : ByteArray := prog_1_method_1_code
def yX8_init : MethodName := ⟨RX8, "<init>", "()V"⟩
abbrev cX8_tracks : ByteArray := prog_1_method_2_code
def yX8_tracks : MethodName := ⟨RX8, "tracks", "(II)I"⟩
abbrev cX8_lay : ByteArray := prog_1_method_3_code
def yX8_lay : MethodName := ⟨RX8, "lay", "(IIII)I"⟩
abbrev cX8_fail : ByteArray := prog_1_method_4_code
def yX8_fail : MethodName := ⟨RX8, "fail", "(IZ)Z"⟩
abbrev cX8_flag : ByteArray := prog_1_method_5_code
def yX8_flag : MethodName := ⟨RX8, "flag", "(I)V"⟩
abbrev cX8_hours : ByteArray := prog_1_method_6_code
def yX8_hours : MethodName := ⟨RX8, "hours", "(III)V"⟩
abbrev cX8_repair : ByteArray := prog_1_method_7_code
def yX8_repair : MethodName := ⟨RX8, "repair", "(I)I"⟩
abbrev cX8_engine : ByteArray := prog_1_method_8_code
def yX8_engine : MethodName := ⟨RX8, "engine", "(II)I"⟩
abbrev cX8_crew : ByteArray := prog_1_method_9_code
def yX8_crew : MethodName := ⟨RX8, "crew", "(I)I"⟩
abbrev cX8_learn : ByteArray := prog_1_method_10_code
def yX8_learn : MethodName := ⟨RX8, "learn", "(II)I"⟩
abbrev cX8_rest : ByteArray := prog_1_method_11_code
def yX8_rest : MethodName := ⟨RX8, "rest", "(I)I"⟩
abbrev cX8_car : ByteArray := prog_1_method_12_code
def yX8_car : MethodName := ⟨RX8, "car", "(I)I"⟩
abbrev cX8_form : ByteArray := prog_1_method_15_code
def yX8_form : MethodName := ⟨RX8, "form", "(II)I"⟩
abbrev cX8_couple : ByteArray := prog_1_method_17_code
def yX8_couple : MethodName := ⟨RX8, "couple", "(II)I"⟩
abbrev cX8_leg : ByteArray := prog_1_method_19_code
def yX8_leg : MethodName := ⟨RX8, "leg", "(I)I"⟩
abbrev cX8_plan : ByteArray := prog_1_method_20_code
def yX8_plan : MethodName := ⟨RX8, "plan", "(III)I"⟩
abbrev cX8_await : ByteArray := prog_1_method_21_code
def yX8_await : MethodName := ⟨RX8, "await", "(III)V"⟩
abbrev cX8_run : ByteArray := prog_1_method_22_code
def yX8_run : MethodName := ⟨RX8, "run", "(I)I"⟩
abbrev cX8_clock : ByteArray := prog_1_method_30_code
def yX8_clock : MethodName := ⟨RX8, "clock", "()I"⟩
abbrev cX8_cash : ByteArray := prog_1_method_31_code
def yX8_cash : MethodName := ⟨RX8, "cash", "()I"⟩
abbrev cX8_freeTracks : ByteArray := prog_1_method_34_code
def yX8_freeTracks : MethodName := ⟨RX8, "freeTracks", "(I)I"⟩
abbrev cX8_holder : ByteArray := prog_1_method_35_code
def yX8_holder : MethodName := ⟨RX8, "holder", "(I)I"⟩
abbrev cX8_holderByTrains : ByteArray := prog_1_method_36_code
def yX8_holderByTrains : MethodName := ⟨RX8, "holderByTrains", "(I)I"⟩
abbrev cX8_block : ByteArray := prog_1_method_37_code
def yX8_block : MethodName := ⟨RX8, "block", "(II)I"⟩
abbrev cX8_train : ByteArray := prog_1_method_38_code
def yX8_train : MethodName := ⟨RX8, "train", "(II)I"⟩
abbrev cX8_barred : ByteArray := prog_1_method_39_code
def yX8_barred : MethodName := ⟨RX8, "barred", "(I)I"⟩
abbrev cX8_duty : ByteArray := prog_1_method_40_code
def yX8_duty : MethodName := ⟨RX8, "duty", "(I)I"⟩
abbrev cX8_requireArgument : ByteArray := prog_1_method_47_code
def yX8_requireArgument : MethodName := ⟨RX8, "requireArgument", "(Z)V"⟩
abbrev cX8_requireRange : ByteArray := prog_1_method_48_code
def yX8_requireRange : MethodName := ⟨RX8, "requireRange", "(III)V"⟩
abbrev cX8_requireState : ByteArray := prog_1_method_49_code
def yX8_requireState : MethodName := ⟨RX8, "requireState", "(Z)V"⟩
abbrev cX8_requireIndex : ByteArray := prog_1_method_50_code
def yX8_requireIndex : MethodName := ⟨RX8, "requireIndex", "(II)V"⟩
abbrev cX8_requireStation : ByteArray := prog_1_method_52_code
def yX8_requireStation : MethodName := ⟨RX8, "requireStation", "(I)V"⟩
abbrev cX8_requireBlock : ByteArray := prog_1_method_53_code
def yX8_requireBlock : MethodName := ⟨RX8, "requireBlock", "(I)V"⟩
abbrev cX8_requireTrain : ByteArray := prog_1_method_54_code
def yX8_requireTrain : MethodName := ⟨RX8, "requireTrain", "(I)V"⟩
abbrev cX8_stationOf : ByteArray := prog_1_method_55_code
def yX8_stationOf : MethodName := ⟨RX8, "stationOf", "(I)LIronbark$Station;"⟩
abbrev cX8_blockOf : ByteArray := prog_1_method_56_code
def yX8_blockOf : MethodName := ⟨RX8, "blockOf", "(I)LIronbark$Block;"⟩
abbrev cX8_engineOf : ByteArray := prog_1_method_57_code
def yX8_engineOf : MethodName := ⟨RX8, "engineOf", "(I)LIronbark$Engine;"⟩
abbrev cX8_crewOf : ByteArray := prog_1_method_58_code
def yX8_crewOf : MethodName := ⟨RX8, "crewOf", "(I)LIronbark$Crew;"⟩
abbrev cX8_carOf : ByteArray := prog_1_method_59_code
def yX8_carOf : MethodName := ⟨RX8, "carOf", "(I)LIronbark$Car;"⟩
abbrev cX8_billNumbered : ByteArray := prog_1_method_60_code
def yX8_billNumbered : MethodName := ⟨RX8, "billNumbered", "(I)LIronbark$Bill;"⟩
abbrev cX8_trainOf : ByteArray := prog_1_method_61_code
def yX8_trainOf : MethodName := ⟨RX8, "trainOf", "(I)LIronbark$Train;"⟩
abbrev cX8_takenTracks : ByteArray := prog_1_method_62_code
def yX8_takenTracks : MethodName := ⟨RX8, "takenTracks", "(I)I"⟩
abbrev cX8_freeTracksAt : ByteArray := prog_1_method_63_code
def yX8_freeTracksAt : MethodName := ⟨RX8, "freeTracksAt", "(I)I"⟩
abbrev cX8_leastFreeNumber : ByteArray := prog_1_method_64_code
def yX8_leastFreeNumber : MethodName := ⟨RX8, "leastFreeNumber", "()I"⟩
abbrev cX8_endOfDraft : ByteArray := prog_1_method_70_code
def yX8_endOfDraft : MethodName := ⟨RX8, "endOfDraft", "(I)I"⟩
abbrev cX8_arriveAll : ByteArray := prog_1_method_76_code
def yX8_arriveAll : MethodName := ⟨RX8, "arriveAll", "()V"⟩
abbrev cX8_arrive : ByteArray := prog_1_method_77_code
def yX8_arrive : MethodName := ⟨RX8, "arrive", "(LIronbark$Train;)V"⟩
abbrev cX8_beginDay : ByteArray := prog_1_method_78_code
def yX8_beginDay : MethodName := ⟨RX8, "beginDay", "()V"⟩
abbrev cX8_enterAll : ByteArray := prog_1_method_79_code
def yX8_enterAll : MethodName := ⟨RX8, "enterAll", "()I"⟩
abbrev cX8_nextToEnter : ByteArray := prog_1_method_80_code
def yX8_nextToEnter : MethodName := ⟨RX8, "nextToEnter", "(I)I"⟩
abbrev cX8_enter : ByteArray := prog_1_method_81_code
def yX8_enter : MethodName := ⟨RX8, "enter", "(LIronbark$Train;LIronbark$Block;I)V"⟩
abbrev cX8_barOf : ByteArray := prog_1_method_83_code
def yX8_barOf : MethodName := ⟨RX8, "barOf", "(LIronbark$Train;)I"⟩
abbrev cX8_barOfStart : ByteArray := prog_1_method_84_code
def yX8_barOfStart : MethodName := ⟨RX8, "barOfStart", "(LIronbark$Train;LIronbark$Block;)I"⟩
abbrev cX8_barOfRun : ByteArray := prog_1_method_85_code
def yX8_barOfRun : MethodName := ⟨RX8, "barOfRun", "(LIronbark$Train;LIronbark$Block;I)I"⟩
abbrev cX8_isWaiting : ByteArray := prog_1_method_86_code
def yX8_isWaiting : MethodName := ⟨RX8, "isWaiting", "(LIronbark$Train;)Z"⟩
abbrev cX8_runningMinutes : ByteArray := prog_1_method_87_code
def yX8_runningMinutes : MethodName := ⟨RX8, "runningMinutes", "(LIronbark$Train;LIronbark$Block;)I"⟩
def RX9 : String := "IronbarkModel"
def TX9 : u_T := fun k => match k with
  | _ => ("", "", "", false)
def tyX9 : Nat → FieldType := fun k => match k with
  | _ => .int
abbrev wsX90 : List Cond := u_ws RX9 TX9 0
theorem nmX9 : ∀ a, a < 0 → ∀ b, b < 0 → a ≠ b → (TX9 a).2.1 ≠ (TX9 b).2.1 := by decide +kernel
theorem tyX9_ok : ∀ k, k < 0 → parseFieldDescriptor (TX9 k).2.2.1 = some (tyX9 k) := by decide +kernel
def RJx145de : String := "java/io/Serializable"
def TJx145de : u_T := fun k => match k with
  | _ => ("", "", "", false)
def tyJx145de : Nat → FieldType := fun k => match k with
  | _ => .int
abbrev wsJx145de0 : List Cond := u_ws RJx145de TJx145de 0
theorem nmJx145de : ∀ a, a < 0 → ∀ b, b < 0 → a ≠ b → (TJx145de a).2.1 ≠ (TJx145de b).2.1 := by decide +kernel
theorem tyJx145de_ok : ∀ k, k < 0 → parseFieldDescriptor (TJx145de k).2.2.1 = some (tyJx145de k) := by decide +kernel
def RJx8e188 : String := "java/lang/Cloneable"
def TJx8e188 : u_T := fun k => match k with
  | _ => ("", "", "", false)
def tyJx8e188 : Nat → FieldType := fun k => match k with
  | _ => .int
abbrev wsJx8e1880 : List Cond := u_ws RJx8e188 TJx8e188 0
theorem nmJx8e188 : ∀ a, a < 0 → ∀ b, b < 0 → a ≠ b → (TJx8e188 a).2.1 ≠ (TJx8e188 b).2.1 := by decide +kernel
theorem tyJx8e188_ok : ∀ k, k < 0 → parseFieldDescriptor (TJx8e188 k).2.2.1 = some (tyJx8e188 k) := by decide +kernel
def RJ6 : String := "java/lang/Integer"
def TJ6 : u_T := fun k => match k with
  | _ => ("", "", "", false)
def tyJ6 : Nat → FieldType := fun k => match k with
  | _ => .int
abbrev wsJ60 : List Cond := u_ws RJ6 TJ6 0
theorem nmJ6 : ∀ a, a < 0 → ∀ b, b < 0 → a ≠ b → (TJ6 a).2.1 ≠ (TJ6 b).2.1 := by decide +kernel
theorem tyJ6_ok : ∀ k, k < 0 → parseFieldDescriptor (TJ6 k).2.2.1 = some (tyJ6 k) := by decide +kernel
abbrev cJ6_bitCount_0f7a4 : ByteArray := prog_18_method_49_code
def yJ6_bitCount_0f7a4 : MethodName := ⟨RJ6, "bitCount", "(I)I"⟩
def RJxab1ab : String := "java/lang/Iterable"
def TJxab1ab : u_T := fun k => match k with
  | _ => ("", "", "", false)
def tyJxab1ab : Nat → FieldType := fun k => match k with
  | _ => .int
abbrev wsJxab1ab0 : List Cond := u_ws RJxab1ab TJxab1ab 0
theorem nmJxab1ab : ∀ a, a < 0 → ∀ b, b < 0 → a ≠ b → (TJxab1ab a).2.1 ≠ (TJxab1ab b).2.1 := by decide +kernel
theorem tyJxab1ab_ok : ∀ k, k < 0 → parseFieldDescriptor (TJxab1ab k).2.2.1 = some (tyJxab1ab k) := by decide +kernel
def RJ9 : String := "java/lang/Math"
def TJ9 : u_T := fun k => match k with
  | _ => ("", "", "", false)
def tyJ9 : Nat → FieldType := fun k => match k with
  | _ => .int
abbrev wsJ90 : List Cond := u_ws RJ9 TJ9 0
theorem nmJ9 : ∀ a, a < 0 → ∀ b, b < 0 → a ≠ b → (TJ9 a).2.1 ≠ (TJ9 b).2.1 := by decide +kernel
theorem tyJ9_ok : ∀ k, k < 0 → parseFieldDescriptor (TJ9 k).2.2.1 = some (tyJ9 k) := by decide +kernel
abbrev cJ9_max_7cf53 : ByteArray := prog_20_method_65_code
def yJ9_max_7cf53 : MethodName := ⟨RJ9, "max", "(II)I"⟩
abbrev cJ9_min_7cf53 : ByteArray := prog_20_method_69_code
def yJ9_min_7cf53 : MethodName := ⟨RJ9, "min", "(II)I"⟩
def RJ0 : String := "java/lang/String"
def TJ0 : u_T := fun k => match k with
  | _ => ("", "", "", false)
def tyJ0 : Nat → FieldType := fun k => match k with
  | _ => .int
abbrev wsJ00 : List Cond := u_ws RJ0 TJ0 0
theorem nmJ0 : ∀ a, a < 0 → ∀ b, b < 0 → a ≠ b → (TJ0 a).2.1 ≠ (TJ0 b).2.1 := by decide +kernel
theorem tyJ0_ok : ∀ k, k < 0 → parseFieldDescriptor (TJ0 k).2.2.1 = some (tyJ0 k) := by decide +kernel
def RJ10 : String := "java/lang/System"
def TJ10 : u_T := fun k => match k with
  | _ => ("", "", "", false)
def tyJ10 : Nat → FieldType := fun k => match k with
  | _ => .int
abbrev wsJ100 : List Cond := u_ws RJ10 TJ10 0
theorem nmJ10 : ∀ a, a < 0 → ∀ b, b < 0 → a ≠ b → (TJ10 a).2.1 ≠ (TJ10 b).2.1 := by decide +kernel
theorem tyJ10_ok : ∀ k, k < 0 → parseFieldDescriptor (TJ10 k).2.2.1 = some (tyJ10 k) := by decide +kernel
def RJxa1e45 : String := "java/util/AbstractCollection"
def TJxa1e45 : u_T := fun k => match k with
  | _ => ("", "", "", false)
def tyJxa1e45 : Nat → FieldType := fun k => match k with
  | _ => .int
abbrev wsJxa1e450 : List Cond := u_ws RJxa1e45 TJxa1e45 0
theorem nmJxa1e45 : ∀ a, a < 0 → ∀ b, b < 0 → a ≠ b → (TJxa1e45 a).2.1 ≠ (TJxa1e45 b).2.1 := by decide +kernel
theorem tyJxa1e45_ok : ∀ k, k < 0 → parseFieldDescriptor (TJxa1e45 k).2.2.1 = some (tyJxa1e45 k) := by decide +kernel
abbrev cJxa1e45_init_da8c8 : ByteArray := prog_25_method_1_code
def yJxa1e45_init_da8c8 : MethodName := ⟨RJxa1e45, "<init>", "()V"⟩
def RJxc12de : String := "java/util/AbstractList"
def TJxc12de : u_T := fun k => match k with
  | _ => ("", "", "", false)
def tyJxc12de : Nat → FieldType := fun k => match k with
  | _ => .int
abbrev wsJxc12de0 : List Cond := u_ws RJxc12de TJxc12de 0
theorem nmJxc12de : ∀ a, a < 0 → ∀ b, b < 0 → a ≠ b → (TJxc12de a).2.1 ≠ (TJxc12de b).2.1 := by decide +kernel
theorem tyJxc12de_ok : ∀ k, k < 0 → parseFieldDescriptor (TJxc12de k).2.2.1 = some (tyJxc12de k) := by decide +kernel
abbrev cJxc12de_init_da8c8 : ByteArray := prog_26_method_1_code
def yJxc12de_init_da8c8 : MethodName := ⟨RJxc12de, "<init>", "()V"⟩
def RJx4a65c : String := "java/util/ArrayList"
def TJx4a65c : u_T := fun k => match k with
  | 0 => ("java/util/AbstractList", "modCount", "I", false)
  | 1 => ("java/util/ArrayList", "elementData", "[Ljava/lang/Object;", false)
  | _ => ("java/util/ArrayList", "size", "I", false)
def tyJx4a65c : Nat → FieldType := fun k => match k with
  | 0 => .int
  | 1 => .array (.object "java/lang/Object")
  | _ => .int
abbrev wsJx4a65c0 : List Cond := u_ws RJx4a65c TJx4a65c 3
theorem nmJx4a65c : ∀ a, a < 3 → ∀ b, b < 3 → a ≠ b → (TJx4a65c a).2.1 ≠ (TJx4a65c b).2.1 := by decide +kernel
theorem tyJx4a65c_ok : ∀ k, k < 3 → parseFieldDescriptor (TJx4a65c k).2.2.1 = some (tyJx4a65c k) := by decide +kernel
abbrev cJx4a65c_init_da8c8 : ByteArray := prog_27_method_2_code
def yJx4a65c_init_da8c8 : MethodName := ⟨RJx4a65c, "<init>", "()V"⟩
abbrev cJx4a65c_grow_92f84 : ByteArray := prog_27_method_6_code
def yJx4a65c_grow_92f84 : MethodName := ⟨RJx4a65c, "grow", "(I)[Ljava/lang/Object;"⟩
abbrev cJx4a65c_grow_d5877 : ByteArray := prog_27_method_7_code
def yJx4a65c_grow_d5877 : MethodName := ⟨RJx4a65c, "grow", "()[Ljava/lang/Object;"⟩
abbrev cJx4a65c_size_8abf5 : ByteArray := prog_27_method_8_code
def yJx4a65c_size_8abf5 : MethodName := ⟨RJx4a65c, "size", "()I"⟩
abbrev cJx4a65c_elementData_915e3 : ByteArray := prog_27_method_18_code
def yJx4a65c_elementData_915e3 : MethodName := ⟨RJx4a65c, "elementData", "(I)Ljava/lang/Object;"⟩
abbrev cJx4a65c_get_915e3 : ByteArray := prog_27_method_20_code
def yJx4a65c_get_915e3 : MethodName := ⟨RJx4a65c, "get", "(I)Ljava/lang/Object;"⟩
abbrev cJx4a65c_add_72be8 : ByteArray := prog_27_method_24_code
def yJx4a65c_add_72be8 : MethodName := ⟨RJx4a65c, "add", "(Ljava/lang/Object;[Ljava/lang/Object;I)V"⟩
abbrev cJx4a65c_add_9ea2d : ByteArray := prog_27_method_25_code
def yJx4a65c_add_9ea2d : MethodName := ⟨RJx4a65c, "add", "(Ljava/lang/Object;)Z"⟩
def RJ7 : String := "java/util/Arrays"
def TJ7 : u_T := fun k => match k with
  | _ => ("", "", "", false)
def tyJ7 : Nat → FieldType := fun k => match k with
  | _ => .int
abbrev wsJ70 : List Cond := u_ws RJ7 TJ7 0
theorem nmJ7 : ∀ a, a < 0 → ∀ b, b < 0 → a ≠ b → (TJ7 a).2.1 ≠ (TJ7 b).2.1 := by decide +kernel
theorem tyJ7_ok : ∀ k, k < 0 → parseFieldDescriptor (TJ7 k).2.2.1 = some (tyJ7 k) := by decide +kernel
abbrev cJ7_fill_53178 : ByteArray := prog_28_method_103_code
def yJ7_fill_53178 : MethodName := ⟨RJ7, "fill", "([II)V"⟩
abbrev cJ7_copyOf_1904c : ByteArray := prog_28_method_119_code
def yJ7_copyOf_1904c : MethodName := ⟨RJ7, "copyOf", "([Ljava/lang/Object;I)[Ljava/lang/Object;"⟩
abbrev cJ7_copyOf_6403c : ByteArray := prog_28_method_120_code
def yJ7_copyOf_6403c : MethodName := ⟨RJ7, "copyOf", "([Ljava/lang/Object;ILjava/lang/Class;)[Ljava/lang/Object;"⟩
abbrev cJ7_copyOf_59c91 : ByteArray := prog_28_method_123_code
def yJ7_copyOf_59c91 : MethodName := ⟨RJ7, "copyOf", "([II)[I"⟩
def RJx5ef63 : String := "java/util/Collection"
def TJx5ef63 : u_T := fun k => match k with
  | _ => ("", "", "", false)
def tyJx5ef63 : Nat → FieldType := fun k => match k with
  | _ => .int
abbrev wsJx5ef630 : List Cond := u_ws RJx5ef63 TJx5ef63 0
theorem nmJx5ef63 : ∀ a, a < 0 → ∀ b, b < 0 → a ≠ b → (TJx5ef63 a).2.1 ≠ (TJx5ef63 b).2.1 := by decide +kernel
theorem tyJx5ef63_ok : ∀ k, k < 0 → parseFieldDescriptor (TJx5ef63 k).2.2.1 = some (tyJx5ef63 k) := by decide +kernel
def RJxbd725 : String := "java/util/List"
def TJxbd725 : u_T := fun k => match k with
  | _ => ("", "", "", false)
def tyJxbd725 : Nat → FieldType := fun k => match k with
  | _ => .int
abbrev wsJxbd7250 : List Cond := u_ws RJxbd725 TJxbd725 0
theorem nmJxbd725 : ∀ a, a < 0 → ∀ b, b < 0 → a ≠ b → (TJxbd725 a).2.1 ≠ (TJxbd725 b).2.1 := by decide +kernel
theorem tyJxbd725_ok : ∀ k, k < 0 → parseFieldDescriptor (TJxbd725 k).2.2.1 = some (tyJxbd725 k) := by decide +kernel
def RJ15 : String := "java/util/Objects"
def TJ15 : u_T := fun k => match k with
  | _ => ("", "", "", false)
def tyJ15 : Nat → FieldType := fun k => match k with
  | _ => .int
abbrev wsJ150 : List Cond := u_ws RJ15 TJ15 0
theorem nmJ15 : ∀ a, a < 0 → ∀ b, b < 0 → a ≠ b → (TJ15 a).2.1 ≠ (TJ15 b).2.1 := by decide +kernel
theorem tyJ15_ok : ∀ k, k < 0 → parseFieldDescriptor (TJ15 k).2.2.1 = some (tyJ15 k) := by decide +kernel
abbrev cJ15_checkIndex_7cf53 : ByteArray := prog_31_method_17_code
def yJ15_checkIndex_7cf53 : MethodName := ⟨RJ15, "checkIndex", "(II)I"⟩
def RJxf0a74 : String := "java/util/RandomAccess"
def TJxf0a74 : u_T := fun k => match k with
  | _ => ("", "", "", false)
def tyJxf0a74 : Nat → FieldType := fun k => match k with
  | _ => .int
abbrev wsJxf0a740 : List Cond := u_ws RJxf0a74 TJxf0a74 0
theorem nmJxf0a74 : ∀ a, a < 0 → ∀ b, b < 0 → a ≠ b → (TJxf0a74 a).2.1 ≠ (TJxf0a74 b).2.1 := by decide +kernel
theorem tyJxf0a74_ok : ∀ k, k < 0 → parseFieldDescriptor (TJxf0a74 k).2.2.1 = some (tyJxf0a74 k) := by decide +kernel
def RJxa66e6 : String := "java/util/SequencedCollection"
def TJxa66e6 : u_T := fun k => match k with
  | _ => ("", "", "", false)
def tyJxa66e6 : Nat → FieldType := fun k => match k with
  | _ => .int
abbrev wsJxa66e60 : List Cond := u_ws RJxa66e6 TJxa66e6 0
theorem nmJxa66e6 : ∀ a, a < 0 → ∀ b, b < 0 → a ≠ b → (TJxa66e6 a).2.1 ≠ (TJxa66e6 b).2.1 := by decide +kernel
theorem tyJxa66e6_ok : ∀ k, k < 0 → parseFieldDescriptor (TJxa66e6 k).2.2.1 = some (tyJxa66e6 k) := by decide +kernel
def RJ8 : String := "jdk/internal/util/ArraysSupport"
def TJ8 : u_T := fun k => match k with
  | _ => ("", "", "", false)
def tyJ8 : Nat → FieldType := fun k => match k with
  | _ => .int
abbrev wsJ80 : List Cond := u_ws RJ8 TJ8 0
theorem nmJ8 : ∀ a, a < 0 → ∀ b, b < 0 → a ≠ b → (TJ8 a).2.1 ≠ (TJ8 b).2.1 := by decide +kernel
theorem tyJ8_ok : ∀ k, k < 0 → parseFieldDescriptor (TJ8 k).2.2.1 = some (tyJ8 k) := by decide +kernel
abbrev cJ8_newLength_cabcc : ByteArray := prog_34_method_27_code
def yJ8_newLength_cabcc : MethodName := ⟨RJ8, "newLength", "(III)I"⟩
abbrev cJ8_hugeLength_7cf53 : ByteArray := prog_34_method_28_code
def yJ8_hugeLength_7cf53 : MethodName := ⟨RJ8, "hugeLength", "(II)I"⟩
def RJ3 : String := "jdk/internal/util/Preconditions"
def TJ3 : u_T := fun k => match k with
  | _ => ("", "", "", false)
def tyJ3 : Nat → FieldType := fun k => match k with
  | _ => .int
abbrev wsJ30 : List Cond := u_ws RJ3 TJ3 0
theorem nmJ3 : ∀ a, a < 0 → ∀ b, b < 0 → a ≠ b → (TJ3 a).2.1 ≠ (TJ3 b).2.1 := by decide +kernel
theorem tyJ3_ok : ∀ k, k < 0 → parseFieldDescriptor (TJ3 k).2.2.1 = some (tyJ3 k) := by decide +kernel
abbrev cJ3_checkIndex_8e157 : ByteArray := prog_35_method_11_code
def yJ3_checkIndex_8e157 : MethodName := ⟨RJ3, "checkIndex", "(IILjava/util/function/BiFunction;)I"⟩
def RL : String := "IronbarkLaw"
abbrev cL_cell : ByteArray := method_2_code
def yL_cell : MethodName := ⟨RL, "cell", "([II)I"⟩
abbrev cL_low : ByteArray := method_3_code
def yL_low : MethodName := ⟨RL, "low", "(II)I"⟩
abbrev cL_calls : ByteArray := method_4_code
def yL_calls : MethodName := ⟨RL, "calls", "(LIronbark;IIII)I"⟩
abbrev cL_flags : ByteArray := method_5_code
def yL_flags : MethodName := ⟨RL, "flags", "(LIronbark;I)I"⟩
abbrev cL_other : ByteArray := method_6_code
def yL_other : MethodName := ⟨RL, "other", "(II)I"⟩
abbrev cL_taken : ByteArray := method_7_code
def yL_taken : MethodName := ⟨RL, "taken", "(I[I)I"⟩
abbrev cL_runs : ByteArray := method_8_code
def yL_runs : MethodName := ⟨RL, "runs", "(II[I[I)I"⟩
abbrev cL_bars : ByteArray := method_9_code
def yL_bars : MethodName := ⟨RL, "bars", "(I[I[I[I[I)I"⟩
abbrev cL_enters : ByteArray := method_10_code
def yL_enters : MethodName := ⟨RL, "enters", "(I[I[I[I[I)V"⟩
abbrev cL_minute : ByteArray := method_11_code
def yL_minute : MethodName := ⟨RL, "minute", "([I[I[I[I)V"⟩
abbrev cL_shows : ByteArray := method_12_code
def yL_shows : MethodName := ⟨RL, "shows", "(LIronbark;[I[I[I[I)Z"⟩
abbrev cL_plans : ByteArray := method_13_code
def yL_plans : MethodName := ⟨RL, "plans", "(LIronbark;II[I[I[I)Z"⟩
abbrev cL_law : ByteArray := code
def yL_law : MethodName := ⟨RL, "law", "([I)Z"⟩
abbrev vwCl : List vw_C := [(RJx4a65c, TJx4a65c, 3), (RX4, TX4, 3), (RX1, TX1, 13), (RX2, TX2, 5), (RX3, TX3, 5), (RX4, TX4, 3), (RX5, TX5, 2), (RX6, TX6, 2), (RX7, TX7, 17), (RX8, TX8, 16)]
end
section
theorem dX1_init_0 : decode cX1_init 0 = .ok (.aload_n 0, 1) := by decide +kernel
theorem dX1_init_1 : decode cX1_init 1 = .ok (.invokespecial 3, 3) := by decide +kernel
theorem dX1_init_4 : decode cX1_init 4 = .ok (.aload_n 0, 1) := by decide +kernel
theorem dX1_init_5 : decode cX1_init 5 = .ok (.iconst 0, 1) := by decide +kernel
theorem dX1_init_6 : decode cX1_init 6 = .ok (.putfield 9, 3) := by decide +kernel
theorem dX1_init_9 : decode cX1_init 9 = .ok (.aload_n 0, 1) := by decide +kernel
theorem dX1_init_10 : decode cX1_init 10 = .ok (.iconst 0, 1) := by decide +kernel
theorem dX1_init_11 : decode cX1_init 11 = .ok (.putfield 15, 3) := by decide +kernel
theorem dX1_init_14 : decode cX1_init 14 = .ok (.aload_n 0, 1) := by decide +kernel
theorem dX1_init_15 : decode cX1_init 15 = .ok (.iconst 0, 1) := by decide +kernel
theorem dX1_init_16 : decode cX1_init 16 = .ok (.putfield 19, 3) := by decide +kernel
theorem dX1_init_19 : decode cX1_init 19 = .ok (.aload_n 0, 1) := by decide +kernel
theorem dX1_init_20 : decode cX1_init 20 = .ok (.iconst 0, 1) := by decide +kernel
theorem dX1_init_21 : decode cX1_init 21 = .ok (.putfield 22, 3) := by decide +kernel
theorem dX1_init_24 : decode cX1_init 24 = .ok (.aload_n 0, 1) := by decide +kernel
theorem dX1_init_25 : decode cX1_init 25 = .ok (.iconst 0, 1) := by decide +kernel
theorem dX1_init_26 : decode cX1_init 26 = .ok (.putfield 25, 3) := by decide +kernel
theorem dX1_init_29 : decode cX1_init 29 = .ok (.aload_n 0, 1) := by decide +kernel
theorem dX1_init_30 : decode cX1_init 30 = .ok (.iconst 0, 1) := by decide +kernel
theorem dX1_init_31 : decode cX1_init 31 = .ok (.putfield 28, 3) := by decide +kernel
theorem dX1_init_34 : decode cX1_init 34 = .ok (.aload_n 0, 1) := by decide +kernel
theorem dX1_init_35 : decode cX1_init 35 = .ok (.iconst 0, 1) := by decide +kernel
theorem dX1_init_36 : decode cX1_init 36 = .ok (.putfield 31, 3) := by decide +kernel
theorem dX1_init_39 : decode cX1_init 39 = .ok (.aload_n 0, 1) := by decide +kernel
theorem dX1_init_40 : decode cX1_init 40 = .ok (.iconst (-1), 1) := by decide +kernel
theorem dX1_init_41 : decode cX1_init 41 = .ok (.putfield 34, 3) := by decide +kernel
theorem dX1_init_44 : decode cX1_init 44 = .ok (.aload_n 0, 1) := by decide +kernel
theorem dX1_init_45 : decode cX1_init 45 = .ok (.iconst 0, 1) := by decide +kernel
theorem dX1_init_46 : decode cX1_init 46 = .ok (.putfield 37, 3) := by decide +kernel
theorem dX1_init_49 : decode cX1_init 49 = .ok (.aload_n 0, 1) := by decide +kernel
theorem dX1_init_50 : decode cX1_init 50 = .ok (.iload_n 1, 1) := by decide +kernel
theorem dX1_init_51 : decode cX1_init 51 = .ok (.putfield 40, 3) := by decide +kernel
theorem dX1_init_54 : decode cX1_init 54 = .ok (.aload_n 0, 1) := by decide +kernel
theorem dX1_init_55 : decode cX1_init 55 = .ok (.iload_n 2, 1) := by decide +kernel
theorem dX1_init_56 : decode cX1_init 56 = .ok (.putfield 43, 3) := by decide +kernel
theorem dX1_init_59 : decode cX1_init 59 = .ok (.aload_n 0, 1) := by decide +kernel
theorem dX1_init_60 : decode cX1_init 60 = .ok (.iload_n 3, 1) := by decide +kernel
theorem dX1_init_61 : decode cX1_init 61 = .ok (.putfield 46, 3) := by decide +kernel
theorem dX1_init_64 : decode cX1_init 64 = .ok (.aload_n 0, 1) := by decide +kernel
theorem dX1_init_65 : decode cX1_init 65 = .ok (.iload 4, 2) := by decide +kernel
theorem dX1_init_67 : decode cX1_init 67 = .ok (.putfield 49, 3) := by decide +kernel
theorem dX1_init_70 : decode cX1_init 70 = .ok (.return_, 1) := by decide +kernel
theorem dX1_otherEnd_0 : decode cX1_otherEnd 0 = .ok (.iload_n 1, 1) := by decide +kernel
theorem dX1_otherEnd_1 : decode cX1_otherEnd 1 = .ok (.aload_n 0, 1) := by decide +kernel
theorem dX1_otherEnd_2 : decode cX1_otherEnd 2 = .ok (.getfield 40, 3) := by decide +kernel
theorem dX1_otherEnd_5 : decode cX1_otherEnd 5 = .ok (.if_icmp .ne 8, 3) := by decide +kernel
theorem dX1_otherEnd_8 : decode cX1_otherEnd 8 = .ok (.aload_n 0, 1) := by decide +kernel
theorem dX1_otherEnd_9 : decode cX1_otherEnd 9 = .ok (.getfield 43, 3) := by decide +kernel
theorem dX1_otherEnd_12 : decode cX1_otherEnd 12 = .ok (.ireturn, 1) := by decide +kernel
theorem dX1_otherEnd_13 : decode cX1_otherEnd 13 = .ok (.iload_n 1, 1) := by decide +kernel
theorem dX1_otherEnd_14 : decode cX1_otherEnd 14 = .ok (.aload_n 0, 1) := by decide +kernel
theorem dX1_otherEnd_15 : decode cX1_otherEnd 15 = .ok (.getfield 43, 3) := by decide +kernel
theorem dX1_otherEnd_18 : decode cX1_otherEnd 18 = .ok (.if_icmp .ne 10, 3) := by decide +kernel
theorem dX1_otherEnd_21 : decode cX1_otherEnd 21 = .ok (.aload_n 0, 1) := by decide +kernel
theorem dX1_otherEnd_22 : decode cX1_otherEnd 22 = .ok (.getfield 40, 3) := by decide +kernel
theorem dX1_otherEnd_25 : decode cX1_otherEnd 25 = .ok (.goto 4, 3) := by decide +kernel
theorem dX1_otherEnd_28 : decode cX1_otherEnd 28 = .ok (.iconst (-1), 1) := by decide +kernel
theorem dX1_otherEnd_29 : decode cX1_otherEnd 29 = .ok (.ireturn, 1) := by decide +kernel
theorem dX1_holderAt_0 : decode cX1_holderAt 0 = .ok (.iload_n 1, 1) := by decide +kernel
theorem dX1_holderAt_1 : decode cX1_holderAt 1 = .ok (.aload_n 0, 1) := by decide +kernel
theorem dX1_holderAt_2 : decode cX1_holderAt 2 = .ok (.getfield 37, 3) := by decide +kernel
theorem dX1_holderAt_5 : decode cX1_holderAt 5 = .ok (.if_icmp .ge 10, 3) := by decide +kernel
theorem dX1_holderAt_8 : decode cX1_holderAt 8 = .ok (.aload_n 0, 1) := by decide +kernel
theorem dX1_holderAt_9 : decode cX1_holderAt 9 = .ok (.getfield 34, 3) := by decide +kernel
theorem dX1_holderAt_12 : decode cX1_holderAt 12 = .ok (.goto 4, 3) := by decide +kernel
theorem dX1_holderAt_15 : decode cX1_holderAt 15 = .ok (.iconst (-1), 1) := by decide +kernel
theorem dX1_holderAt_16 : decode cX1_holderAt 16 = .ok (.ireturn, 1) := by decide +kernel
theorem dX1_isClosedAt_0 : decode cX1_isClosedAt 0 = .ok (.aload_n 0, 1) := by decide +kernel
theorem dX1_isClosedAt_1 : decode cX1_isClosedAt 1 = .ok (.getfield 31, 3) := by decide +kernel
theorem dX1_isClosedAt_4 : decode cX1_isClosedAt 4 = .ok (.ifCond .ne 11, 3) := by decide +kernel
theorem dX1_isClosedAt_7 : decode cX1_isClosedAt 7 = .ok (.iload_n 1, 1) := by decide +kernel
theorem dX1_isClosedAt_8 : decode cX1_isClosedAt 8 = .ok (.aload_n 0, 1) := by decide +kernel
theorem dX1_isClosedAt_9 : decode cX1_isClosedAt 9 = .ok (.getfield 28, 3) := by decide +kernel
theorem dX1_isClosedAt_12 : decode cX1_isClosedAt 12 = .ok (.if_icmp .ge 7, 3) := by decide +kernel
theorem dX1_isClosedAt_15 : decode cX1_isClosedAt 15 = .ok (.iconst 1, 1) := by decide +kernel
theorem dX1_isClosedAt_16 : decode cX1_isClosedAt 16 = .ok (.goto 4, 3) := by decide +kernel
theorem dX1_isClosedAt_19 : decode cX1_isClosedAt 19 = .ok (.iconst 0, 1) := by decide +kernel
theorem dX1_isClosedAt_20 : decode cX1_isClosedAt 20 = .ok (.ireturn, 1) := by decide +kernel
theorem dX1_isOfOthers_0 : decode cX1_isOfOthers 0 = .ok (.aload_n 0, 1) := by decide +kernel
theorem dX1_isOfOthers_1 : decode cX1_isOfOthers 1 = .ok (.getfield 22, 3) := by decide +kernel
theorem dX1_isOfOthers_4 : decode cX1_isOfOthers 4 = .ok (.aload_n 0, 1) := by decide +kernel
theorem dX1_isOfOthers_5 : decode cX1_isOfOthers 5 = .ok (.getfield 25, 3) := by decide +kernel
theorem dX1_isOfOthers_8 : decode cX1_isOfOthers 8 = .ok (.if_icmp .lt 5, 3) := by decide +kernel
theorem dX1_isOfOthers_11 : decode cX1_isOfOthers 11 = .ok (.iconst 0, 1) := by decide +kernel
theorem dX1_isOfOthers_12 : decode cX1_isOfOthers 12 = .ok (.ireturn, 1) := by decide +kernel
theorem dX1_isOfOthers_13 : decode cX1_isOfOthers 13 = .ok (.iload_n 1, 1) := by decide +kernel
theorem dX1_isOfOthers_14 : decode cX1_isOfOthers 14 = .ok (.sipush 1440, 3) := by decide +kernel
theorem dX1_isOfOthers_17 : decode cX1_isOfOthers 17 = .ok (.irem, 1) := by decide +kernel
theorem dX1_isOfOthers_18 : decode cX1_isOfOthers 18 = .ok (.istore_n 3, 1) := by decide +kernel
theorem dX1_isOfOthers_19 : decode cX1_isOfOthers 19 = .ok (.iload_n 3, 1) := by decide +kernel
theorem dX1_isOfOthers_20 : decode cX1_isOfOthers 20 = .ok (.iload_n 2, 1) := by decide +kernel
theorem dX1_isOfOthers_21 : decode cX1_isOfOthers 21 = .ok (.iadd, 1) := by decide +kernel
theorem dX1_isOfOthers_22 : decode cX1_isOfOthers 22 = .ok (.iload_n 1, 1) := by decide +kernel
theorem dX1_isOfOthers_23 : decode cX1_isOfOthers 23 = .ok (.isub, 1) := by decide +kernel
theorem dX1_isOfOthers_24 : decode cX1_isOfOthers 24 = .ok (.istore 4, 2) := by decide +kernel
theorem dX1_isOfOthers_26 : decode cX1_isOfOthers 26 = .ok (.iload_n 3, 1) := by decide +kernel
theorem dX1_isOfOthers_27 : decode cX1_isOfOthers 27 = .ok (.aload_n 0, 1) := by decide +kernel
theorem dX1_isOfOthers_28 : decode cX1_isOfOthers 28 = .ok (.getfield 25, 3) := by decide +kernel
theorem dX1_isOfOthers_31 : decode cX1_isOfOthers 31 = .ok (.if_icmp .ge 12, 3) := by decide +kernel
theorem dX1_isOfOthers_34 : decode cX1_isOfOthers 34 = .ok (.aload_n 0, 1) := by decide +kernel
theorem dX1_isOfOthers_35 : decode cX1_isOfOthers 35 = .ok (.getfield 22, 3) := by decide +kernel
theorem dX1_isOfOthers_38 : decode cX1_isOfOthers 38 = .ok (.iload 4, 2) := by decide +kernel
theorem dX1_isOfOthers_40 : decode cX1_isOfOthers 40 = .ok (.if_icmp .lt 28, 3) := by decide +kernel
theorem dX1_isOfOthers_43 : decode cX1_isOfOthers 43 = .ok (.iload_n 3, 1) := by decide +kernel
theorem dX1_isOfOthers_44 : decode cX1_isOfOthers 44 = .ok (.aload_n 0, 1) := by decide +kernel
theorem dX1_isOfOthers_45 : decode cX1_isOfOthers 45 = .ok (.getfield 25, 3) := by decide +kernel
theorem dX1_isOfOthers_48 : decode cX1_isOfOthers 48 = .ok (.sipush 1440, 3) := by decide +kernel
theorem dX1_isOfOthers_51 : decode cX1_isOfOthers 51 = .ok (.iadd, 1) := by decide +kernel
theorem dX1_isOfOthers_52 : decode cX1_isOfOthers 52 = .ok (.if_icmp .ge 20, 3) := by decide +kernel
theorem dX1_isOfOthers_55 : decode cX1_isOfOthers 55 = .ok (.aload_n 0, 1) := by decide +kernel
theorem dX1_isOfOthers_56 : decode cX1_isOfOthers 56 = .ok (.getfield 22, 3) := by decide +kernel
theorem dX1_isOfOthers_59 : decode cX1_isOfOthers 59 = .ok (.sipush 1440, 3) := by decide +kernel
theorem dX1_isOfOthers_62 : decode cX1_isOfOthers 62 = .ok (.iadd, 1) := by decide +kernel
theorem dX1_isOfOthers_63 : decode cX1_isOfOthers 63 = .ok (.iload 4, 2) := by decide +kernel
theorem dX1_isOfOthers_65 : decode cX1_isOfOthers 65 = .ok (.if_icmp .ge 7, 3) := by decide +kernel
theorem dX1_isOfOthers_68 : decode cX1_isOfOthers 68 = .ok (.iconst 1, 1) := by decide +kernel
theorem dX1_isOfOthers_69 : decode cX1_isOfOthers 69 = .ok (.goto 4, 3) := by decide +kernel
theorem dX1_isOfOthers_72 : decode cX1_isOfOthers 72 = .ok (.iconst 0, 1) := by decide +kernel
theorem dX1_isOfOthers_73 : decode cX1_isOfOthers 73 = .ok (.ireturn, 1) := by decide +kernel
theorem dX2_init_0 : decode cX2_init 0 = .ok (.aload_n 0, 1) := by decide +kernel
theorem dX2_init_1 : decode cX2_init 1 = .ok (.invokespecial 3, 3) := by decide +kernel
theorem dX2_init_4 : decode cX2_init 4 = .ok (.aload_n 0, 1) := by decide +kernel
theorem dX2_init_5 : decode cX2_init 5 = .ok (.iconst (-1), 1) := by decide +kernel
theorem dX2_init_6 : decode cX2_init 6 = .ok (.putfield 9, 3) := by decide +kernel
theorem dX2_init_9 : decode cX2_init 9 = .ok (.aload_n 0, 1) := by decide +kernel
theorem dX2_init_10 : decode cX2_init 10 = .ok (.iconst (-1), 1) := by decide +kernel
theorem dX2_init_11 : decode cX2_init 11 = .ok (.putfield 15, 3) := by decide +kernel
theorem dX2_init_14 : decode cX2_init 14 = .ok (.aload_n 0, 1) := by decide +kernel
theorem dX2_init_15 : decode cX2_init 15 = .ok (.new 18, 3) := by decide +kernel
theorem dX2_init_18 : decode cX2_init 18 = .ok (.dup, 1) := by decide +kernel
theorem dX2_init_19 : decode cX2_init 19 = .ok (.iconst 4, 1) := by decide +kernel
theorem dX2_init_20 : decode cX2_init 20 = .ok (.invokespecial 20, 3) := by decide +kernel
theorem dX2_init_23 : decode cX2_init 23 = .ok (.putfield 23, 3) := by decide +kernel
theorem dX2_init_26 : decode cX2_init 26 = .ok (.aload_n 0, 1) := by decide +kernel
theorem dX2_init_27 : decode cX2_init 27 = .ok (.iload_n 1, 1) := by decide +kernel
theorem dX2_init_28 : decode cX2_init 28 = .ok (.putfield 27, 3) := by decide +kernel
theorem dX2_init_31 : decode cX2_init 31 = .ok (.aload_n 0, 1) := by decide +kernel
theorem dX2_init_32 : decode cX2_init 32 = .ok (.iload_n 1, 1) := by decide +kernel
theorem dX2_init_33 : decode cX2_init 33 = .ok (.putfield 30, 3) := by decide +kernel
theorem dX2_init_36 : decode cX2_init 36 = .ok (.return_, 1) := by decide +kernel
theorem dX2_weight_0 : decode cX2_weight 0 = .ok (.aload_n 0, 1) := by decide +kernel
theorem dX2_weight_1 : decode cX2_weight 1 = .ok (.getfield 15, 3) := by decide +kernel
theorem dX2_weight_4 : decode cX2_weight 4 = .ok (.iconst (-1), 1) := by decide +kernel
theorem dX2_weight_5 : decode cX2_weight 5 = .ok (.if_icmp .ne 7, 3) := by decide +kernel
theorem dX2_weight_8 : decode cX2_weight 8 = .ok (.iconst 2, 1) := by decide +kernel
theorem dX2_weight_9 : decode cX2_weight 9 = .ok (.goto 4, 3) := by decide +kernel
theorem dX2_weight_12 : decode cX2_weight 12 = .ok (.iconst 5, 1) := by decide +kernel
theorem dX2_weight_13 : decode cX2_weight 13 = .ok (.ireturn, 1) := by decide +kernel
theorem dX2_write_0 : decode cX2_write 0 = .ok (.aload_n 0, 1) := by decide +kernel
theorem dX2_write_1 : decode cX2_write 1 = .ok (.getfield 23, 3) := by decide +kernel
theorem dX2_write_4 : decode cX2_write 4 = .ok (.bipush 100, 2) := by decide +kernel
theorem dX2_write_6 : decode cX2_write 6 = .ok (.iload_n 1, 1) := by decide +kernel
theorem dX2_write_7 : decode cX2_write 7 = .ok (.imul, 1) := by decide +kernel
theorem dX2_write_8 : decode cX2_write 8 = .ok (.iload_n 2, 1) := by decide +kernel
theorem dX2_write_9 : decode cX2_write 9 = .ok (.iadd, 1) := by decide +kernel
theorem dX2_write_10 : decode cX2_write 10 = .ok (.invokevirtual 33, 3) := by decide +kernel
theorem dX2_write_13 : decode cX2_write 13 = .ok (.return_, 1) := by decide +kernel
theorem dX3_init_0 : decode cX3_init 0 = .ok (.aload_n 0, 1) := by decide +kernel
theorem dX3_init_1 : decode cX3_init 1 = .ok (.invokespecial 3, 3) := by decide +kernel
theorem dX3_init_4 : decode cX3_init 4 = .ok (.aload_n 0, 1) := by decide +kernel
theorem dX3_init_5 : decode cX3_init 5 = .ok (.iconst (-1), 1) := by decide +kernel
theorem dX3_init_6 : decode cX3_init 6 = .ok (.putfield 9, 3) := by decide +kernel
theorem dX3_init_9 : decode cX3_init 9 = .ok (.aload_n 0, 1) := by decide +kernel
theorem dX3_init_10 : decode cX3_init 10 = .ok (.iconst 0, 1) := by decide +kernel
theorem dX3_init_11 : decode cX3_init 11 = .ok (.putfield 15, 3) := by decide +kernel
theorem dX3_init_14 : decode cX3_init 14 = .ok (.aload_n 0, 1) := by decide +kernel
theorem dX3_init_15 : decode cX3_init 15 = .ok (.iconst 0, 1) := by decide +kernel
theorem dX3_init_16 : decode cX3_init 16 = .ok (.putfield 18, 3) := by decide +kernel
theorem dX3_init_19 : decode cX3_init 19 = .ok (.aload_n 0, 1) := by decide +kernel
theorem dX3_init_20 : decode cX3_init 20 = .ok (.iconst 0, 1) := by decide +kernel
theorem dX3_init_21 : decode cX3_init 21 = .ok (.putfield 21, 3) := by decide +kernel
theorem dX3_init_24 : decode cX3_init 24 = .ok (.aload_n 0, 1) := by decide +kernel
theorem dX3_init_25 : decode cX3_init 25 = .ok (.iload_n 1, 1) := by decide +kernel
theorem dX3_init_26 : decode cX3_init 26 = .ok (.putfield 24, 3) := by decide +kernel
theorem dX3_init_29 : decode cX3_init 29 = .ok (.return_, 1) := by decide +kernel
theorem dX3_isRestingAt_0 : decode cX3_isRestingAt 0 = .ok (.iload_n 1, 1) := by decide +kernel
theorem dX3_isRestingAt_1 : decode cX3_isRestingAt 1 = .ok (.aload_n 0, 1) := by decide +kernel
theorem dX3_isRestingAt_2 : decode cX3_isRestingAt 2 = .ok (.getfield 21, 3) := by decide +kernel
theorem dX3_isRestingAt_5 : decode cX3_isRestingAt 5 = .ok (.if_icmp .ge 7, 3) := by decide +kernel
theorem dX3_isRestingAt_8 : decode cX3_isRestingAt 8 = .ok (.iconst 1, 1) := by decide +kernel
theorem dX3_isRestingAt_9 : decode cX3_isRestingAt 9 = .ok (.goto 4, 3) := by decide +kernel
theorem dX3_isRestingAt_12 : decode cX3_isRestingAt 12 = .ok (.iconst 0, 1) := by decide +kernel
theorem dX3_isRestingAt_13 : decode cX3_isRestingAt 13 = .ok (.ireturn, 1) := by decide +kernel
theorem dX4_init_0 : decode cX4_init 0 = .ok (.aload_n 0, 1) := by decide +kernel
theorem dX4_init_1 : decode cX4_init 1 = .ok (.invokespecial 3, 3) := by decide +kernel
theorem dX4_init_4 : decode cX4_init 4 = .ok (.aload_n 0, 1) := by decide +kernel
theorem dX4_init_5 : decode cX4_init 5 = .ok (.iconst (-1), 1) := by decide +kernel
theorem dX4_init_6 : decode cX4_init 6 = .ok (.putfield 9, 3) := by decide +kernel
theorem dX4_init_9 : decode cX4_init 9 = .ok (.aload_n 0, 1) := by decide +kernel
theorem dX4_init_10 : decode cX4_init 10 = .ok (.iload_n 1, 1) := by decide +kernel
theorem dX4_init_11 : decode cX4_init 11 = .ok (.putfield 15, 3) := by decide +kernel
theorem dX4_init_14 : decode cX4_init 14 = .ok (.aload_n 0, 1) := by decide +kernel
theorem dX4_init_15 : decode cX4_init 15 = .ok (.iload_n 2, 1) := by decide +kernel
theorem dX4_init_16 : decode cX4_init 16 = .ok (.putfield 18, 3) := by decide +kernel
theorem dX4_init_19 : decode cX4_init 19 = .ok (.return_, 1) := by decide +kernel
theorem dX5_init_0 : decode cX5_init 0 = .ok (.aload_n 0, 1) := by decide +kernel
theorem dX5_init_1 : decode cX5_init 1 = .ok (.invokespecial 3, 3) := by decide +kernel
theorem dX5_init_4 : decode cX5_init 4 = .ok (.aload_n 0, 1) := by decide +kernel
theorem dX5_init_5 : decode cX5_init 5 = .ok (.iconst 0, 1) := by decide +kernel
theorem dX5_init_6 : decode cX5_init 6 = .ok (.putfield 9, 3) := by decide +kernel
theorem dX5_init_9 : decode cX5_init 9 = .ok (.aload_n 0, 1) := by decide +kernel
theorem dX5_init_10 : decode cX5_init 10 = .ok (.iload_n 1, 1) := by decide +kernel
theorem dX5_init_11 : decode cX5_init 11 = .ok (.ifCond .le 7, 3) := by decide +kernel
theorem dX5_init_14 : decode cX5_init 14 = .ok (.iload_n 1, 1) := by decide +kernel
theorem dX5_init_15 : decode cX5_init 15 = .ok (.goto 4, 3) := by decide +kernel
theorem dX5_init_18 : decode cX5_init 18 = .ok (.iconst 1, 1) := by decide +kernel
theorem dX5_init_19 : decode cX5_init 19 = .ok (.newarray .int, 2) := by decide +kernel
theorem dX5_init_21 : decode cX5_init 21 = .ok (.putfield 15, 3) := by decide +kernel
theorem dX5_init_24 : decode cX5_init 24 = .ok (.return_, 1) := by decide +kernel
theorem dX5_at_0 : decode cX5_at 0 = .ok (.iload_n 1, 1) := by decide +kernel
theorem dX5_at_1 : decode cX5_at 1 = .ok (.ifCond .lt 29, 3) := by decide +kernel
theorem dX5_at_4 : decode cX5_at 4 = .ok (.iload_n 1, 1) := by decide +kernel
theorem dX5_at_5 : decode cX5_at 5 = .ok (.aload_n 0, 1) := by decide +kernel
theorem dX5_at_6 : decode cX5_at 6 = .ok (.getfield 9, 3) := by decide +kernel
theorem dX5_at_9 : decode cX5_at 9 = .ok (.if_icmp .ge 21, 3) := by decide +kernel
theorem dX5_at_12 : decode cX5_at 12 = .ok (.iload_n 1, 1) := by decide +kernel
theorem dX5_at_13 : decode cX5_at 13 = .ok (.aload_n 0, 1) := by decide +kernel
theorem dX5_at_14 : decode cX5_at 14 = .ok (.getfield 15, 3) := by decide +kernel
theorem dX5_at_17 : decode cX5_at 17 = .ok (.arraylength, 1) := by decide +kernel
theorem dX5_at_18 : decode cX5_at 18 = .ok (.if_icmp .ge 12, 3) := by decide +kernel
theorem dX5_at_21 : decode cX5_at 21 = .ok (.aload_n 0, 1) := by decide +kernel
theorem dX5_at_22 : decode cX5_at 22 = .ok (.getfield 15, 3) := by decide +kernel
theorem dX5_at_25 : decode cX5_at 25 = .ok (.iload_n 1, 1) := by decide +kernel
theorem dX5_at_26 : decode cX5_at 26 = .ok (.iaload, 1) := by decide +kernel
theorem dX5_at_27 : decode cX5_at 27 = .ok (.goto 4, 3) := by decide +kernel
theorem dX5_at_30 : decode cX5_at 30 = .ok (.iconst (-1), 1) := by decide +kernel
theorem dX5_at_31 : decode cX5_at 31 = .ok (.ireturn, 1) := by decide +kernel
theorem dX5_append_0 : decode cX5_append 0 = .ok (.aload_n 0, 1) := by decide +kernel
theorem dX5_append_1 : decode cX5_append 1 = .ok (.getfield 9, 3) := by decide +kernel
theorem dX5_append_4 : decode cX5_append 4 = .ok (.aload_n 0, 1) := by decide +kernel
theorem dX5_append_5 : decode cX5_append 5 = .ok (.getfield 15, 3) := by decide +kernel
theorem dX5_append_8 : decode cX5_append 8 = .ok (.arraylength, 1) := by decide +kernel
theorem dX5_append_9 : decode cX5_append 9 = .ok (.if_icmp .lt 32, 3) := by decide +kernel
theorem dX5_append_12 : decode cX5_append 12 = .ok (.aload_n 0, 1) := by decide +kernel
theorem dX5_append_13 : decode cX5_append 13 = .ok (.getfield 15, 3) := by decide +kernel
theorem dX5_append_16 : decode cX5_append 16 = .ok (.arraylength, 1) := by decide +kernel
theorem dX5_append_17 : decode cX5_append 17 = .ok (.sipush 1024, 3) := by decide +kernel
theorem dX5_append_20 : decode cX5_append 20 = .ok (.if_icmp .ge 21, 3) := by decide +kernel
theorem dX5_append_23 : decode cX5_append 23 = .ok (.aload_n 0, 1) := by decide +kernel
theorem dX5_append_24 : decode cX5_append 24 = .ok (.aload_n 0, 1) := by decide +kernel
theorem dX5_append_25 : decode cX5_append 25 = .ok (.getfield 15, 3) := by decide +kernel
theorem dX5_append_28 : decode cX5_append 28 = .ok (.iconst 2, 1) := by decide +kernel
theorem dX5_append_29 : decode cX5_append 29 = .ok (.aload_n 0, 1) := by decide +kernel
theorem dX5_append_30 : decode cX5_append 30 = .ok (.getfield 15, 3) := by decide +kernel
theorem dX5_append_33 : decode cX5_append 33 = .ok (.arraylength, 1) := by decide +kernel
theorem dX5_append_34 : decode cX5_append 34 = .ok (.imul, 1) := by decide +kernel
theorem dX5_append_35 : decode cX5_append 35 = .ok (.invokestatic 19, 3) := by decide +kernel
theorem dX5_append_38 : decode cX5_append 38 = .ok (.putfield 15, 3) := by decide +kernel
theorem dX5_append_41 : decode cX5_append 41 = .ok (.aload_n 0, 1) := by decide +kernel
theorem dX5_append_42 : decode cX5_append 42 = .ok (.getfield 9, 3) := by decide +kernel
theorem dX5_append_45 : decode cX5_append 45 = .ok (.ifCond .lt 35, 3) := by decide +kernel
theorem dX5_append_48 : decode cX5_append 48 = .ok (.aload_n 0, 1) := by decide +kernel
theorem dX5_append_49 : decode cX5_append 49 = .ok (.getfield 9, 3) := by decide +kernel
theorem dX5_append_52 : decode cX5_append 52 = .ok (.aload_n 0, 1) := by decide +kernel
theorem dX5_append_53 : decode cX5_append 53 = .ok (.getfield 15, 3) := by decide +kernel
theorem dX5_append_56 : decode cX5_append 56 = .ok (.arraylength, 1) := by decide +kernel
theorem dX5_append_57 : decode cX5_append 57 = .ok (.if_icmp .ge 23, 3) := by decide +kernel
theorem dX5_append_60 : decode cX5_append 60 = .ok (.aload_n 0, 1) := by decide +kernel
theorem dX5_append_61 : decode cX5_append 61 = .ok (.getfield 15, 3) := by decide +kernel
theorem dX5_append_64 : decode cX5_append 64 = .ok (.aload_n 0, 1) := by decide +kernel
theorem dX5_append_65 : decode cX5_append 65 = .ok (.getfield 9, 3) := by decide +kernel
theorem dX5_append_68 : decode cX5_append 68 = .ok (.iload_n 1, 1) := by decide +kernel
theorem dX5_append_69 : decode cX5_append 69 = .ok (.iastore, 1) := by decide +kernel
theorem dX5_append_70 : decode cX5_append 70 = .ok (.aload_n 0, 1) := by decide +kernel
theorem dX5_append_71 : decode cX5_append 71 = .ok (.dup, 1) := by decide +kernel
theorem dX5_append_72 : decode cX5_append 72 = .ok (.getfield 9, 3) := by decide +kernel
theorem dX5_append_75 : decode cX5_append 75 = .ok (.iconst 1, 1) := by decide +kernel
theorem dX5_append_76 : decode cX5_append 76 = .ok (.iadd, 1) := by decide +kernel
theorem dX5_append_77 : decode cX5_append 77 = .ok (.putfield 9, 3) := by decide +kernel
theorem dX5_append_80 : decode cX5_append 80 = .ok (.return_, 1) := by decide +kernel
theorem dX5_drop_0 : decode cX5_drop 0 = .ok (.iconst 0, 1) := by decide +kernel
theorem dX5_drop_1 : decode cX5_drop 1 = .ok (.istore_n 2, 1) := by decide +kernel
theorem dX5_drop_2 : decode cX5_drop 2 = .ok (.iconst 0, 1) := by decide +kernel
theorem dX5_drop_3 : decode cX5_drop 3 = .ok (.istore_n 3, 1) := by decide +kernel
theorem dX5_drop_4 : decode cX5_drop 4 = .ok (.iload_n 3, 1) := by decide +kernel
theorem dX5_drop_5 : decode cX5_drop 5 = .ok (.aload_n 0, 1) := by decide +kernel
theorem dX5_drop_6 : decode cX5_drop 6 = .ok (.getfield 9, 3) := by decide +kernel
theorem dX5_drop_9 : decode cX5_drop 9 = .ok (.if_icmp .ge 67, 3) := by decide +kernel
theorem dX5_drop_12 : decode cX5_drop 12 = .ok (.iload_n 3, 1) := by decide +kernel
theorem dX5_drop_13 : decode cX5_drop 13 = .ok (.aload_n 0, 1) := by decide +kernel
theorem dX5_drop_14 : decode cX5_drop 14 = .ok (.getfield 15, 3) := by decide +kernel
theorem dX5_drop_17 : decode cX5_drop 17 = .ok (.arraylength, 1) := by decide +kernel
theorem dX5_drop_18 : decode cX5_drop 18 = .ok (.if_icmp .ge 58, 3) := by decide +kernel
theorem dX5_drop_21 : decode cX5_drop 21 = .ok (.iload_n 2, 1) := by decide +kernel
theorem dX5_drop_22 : decode cX5_drop 22 = .ok (.ifCond .ne 13, 3) := by decide +kernel
theorem dX5_drop_25 : decode cX5_drop 25 = .ok (.aload_n 0, 1) := by decide +kernel
theorem dX5_drop_26 : decode cX5_drop 26 = .ok (.getfield 15, 3) := by decide +kernel
theorem dX5_drop_29 : decode cX5_drop 29 = .ok (.iload_n 3, 1) := by decide +kernel
theorem dX5_drop_30 : decode cX5_drop 30 = .ok (.iaload, 1) := by decide +kernel
theorem dX5_drop_31 : decode cX5_drop 31 = .ok (.iload_n 1, 1) := by decide +kernel
theorem dX5_drop_32 : decode cX5_drop 32 = .ok (.if_icmp .ne 7, 3) := by decide +kernel
theorem dX5_drop_35 : decode cX5_drop 35 = .ok (.iconst 1, 1) := by decide +kernel
theorem dX5_drop_36 : decode cX5_drop 36 = .ok (.goto 4, 3) := by decide +kernel
theorem dX5_drop_39 : decode cX5_drop 39 = .ok (.iconst 0, 1) := by decide +kernel
theorem dX5_drop_40 : decode cX5_drop 40 = .ok (.istore_n 2, 1) := by decide +kernel
theorem dX5_drop_41 : decode cX5_drop 41 = .ok (.iload_n 2, 1) := by decide +kernel
theorem dX5_drop_42 : decode cX5_drop 42 = .ok (.ifCond .eq 28, 3) := by decide +kernel
theorem dX5_drop_45 : decode cX5_drop 45 = .ok (.iload_n 3, 1) := by decide +kernel
theorem dX5_drop_46 : decode cX5_drop 46 = .ok (.iconst 1, 1) := by decide +kernel
theorem dX5_drop_47 : decode cX5_drop 47 = .ok (.iadd, 1) := by decide +kernel
theorem dX5_drop_48 : decode cX5_drop 48 = .ok (.aload_n 0, 1) := by decide +kernel
theorem dX5_drop_49 : decode cX5_drop 49 = .ok (.getfield 15, 3) := by decide +kernel
theorem dX5_drop_52 : decode cX5_drop 52 = .ok (.arraylength, 1) := by decide +kernel
theorem dX5_drop_53 : decode cX5_drop 53 = .ok (.if_icmp .ge 17, 3) := by decide +kernel
theorem dX5_drop_56 : decode cX5_drop 56 = .ok (.aload_n 0, 1) := by decide +kernel
theorem dX5_drop_57 : decode cX5_drop 57 = .ok (.getfield 15, 3) := by decide +kernel
theorem dX5_drop_60 : decode cX5_drop 60 = .ok (.iload_n 3, 1) := by decide +kernel
theorem dX5_drop_61 : decode cX5_drop 61 = .ok (.aload_n 0, 1) := by decide +kernel
theorem dX5_drop_62 : decode cX5_drop 62 = .ok (.getfield 15, 3) := by decide +kernel
theorem dX5_drop_65 : decode cX5_drop 65 = .ok (.iload_n 3, 1) := by decide +kernel
theorem dX5_drop_66 : decode cX5_drop 66 = .ok (.iconst 1, 1) := by decide +kernel
theorem dX5_drop_67 : decode cX5_drop 67 = .ok (.iadd, 1) := by decide +kernel
theorem dX5_drop_68 : decode cX5_drop 68 = .ok (.iaload, 1) := by decide +kernel
theorem dX5_drop_69 : decode cX5_drop 69 = .ok (.iastore, 1) := by decide +kernel
theorem dX5_drop_70 : decode cX5_drop 70 = .ok (.iinc 3 1, 3) := by decide +kernel
theorem dX5_drop_73 : decode cX5_drop 73 = .ok (.goto (-69), 3) := by decide +kernel
theorem dX5_drop_76 : decode cX5_drop 76 = .ok (.iload_n 2, 1) := by decide +kernel
theorem dX5_drop_77 : decode cX5_drop 77 = .ok (.ifCond .eq 13, 3) := by decide +kernel
theorem dX5_drop_80 : decode cX5_drop 80 = .ok (.aload_n 0, 1) := by decide +kernel
theorem dX5_drop_81 : decode cX5_drop 81 = .ok (.dup, 1) := by decide +kernel
theorem dX5_drop_82 : decode cX5_drop 82 = .ok (.getfield 9, 3) := by decide +kernel
theorem dX5_drop_85 : decode cX5_drop 85 = .ok (.iconst 1, 1) := by decide +kernel
theorem dX5_drop_86 : decode cX5_drop 86 = .ok (.isub, 1) := by decide +kernel
theorem dX5_drop_87 : decode cX5_drop 87 = .ok (.putfield 9, 3) := by decide +kernel
theorem dX5_drop_90 : decode cX5_drop 90 = .ok (.return_, 1) := by decide +kernel
theorem dX5_copy_0 : decode cX5_copy 0 = .ok (.aload_n 0, 1) := by decide +kernel
theorem dX5_copy_1 : decode cX5_copy 1 = .ok (.invokevirtual 25, 3) := by decide +kernel
theorem dX5_copy_4 : decode cX5_copy 4 = .ok (.iconst 0, 1) := by decide +kernel
theorem dX5_copy_5 : decode cX5_copy 5 = .ok (.istore_n 2, 1) := by decide +kernel
theorem dX5_copy_6 : decode cX5_copy 6 = .ok (.iload_n 2, 1) := by decide +kernel
theorem dX5_copy_7 : decode cX5_copy 7 = .ok (.aload_n 1, 1) := by decide +kernel
theorem dX5_copy_8 : decode cX5_copy 8 = .ok (.getfield 9, 3) := by decide +kernel
theorem dX5_copy_11 : decode cX5_copy 11 = .ok (.if_icmp .ge 18, 3) := by decide +kernel
theorem dX5_copy_14 : decode cX5_copy 14 = .ok (.aload_n 0, 1) := by decide +kernel
theorem dX5_copy_15 : decode cX5_copy 15 = .ok (.aload_n 1, 1) := by decide +kernel
theorem dX5_copy_16 : decode cX5_copy 16 = .ok (.iload_n 2, 1) := by decide +kernel
theorem dX5_copy_17 : decode cX5_copy 17 = .ok (.invokevirtual 28, 3) := by decide +kernel
theorem dX5_copy_20 : decode cX5_copy 20 = .ok (.invokevirtual 32, 3) := by decide +kernel
theorem dX5_copy_23 : decode cX5_copy 23 = .ok (.iinc 2 1, 3) := by decide +kernel
theorem dX5_copy_26 : decode cX5_copy 26 = .ok (.goto (-20), 3) := by decide +kernel
theorem dX5_copy_29 : decode cX5_copy 29 = .ok (.return_, 1) := by decide +kernel
theorem dX5_empty_0 : decode cX5_empty 0 = .ok (.aload_n 0, 1) := by decide +kernel
theorem dX5_empty_1 : decode cX5_empty 1 = .ok (.iconst 0, 1) := by decide +kernel
theorem dX5_empty_2 : decode cX5_empty 2 = .ok (.putfield 9, 3) := by decide +kernel
theorem dX5_empty_5 : decode cX5_empty 5 = .ok (.return_, 1) := by decide +kernel
theorem dX6_init_0 : decode cX6_init 0 = .ok (.aload_n 0, 1) := by decide +kernel
theorem dX6_init_1 : decode cX6_init 1 = .ok (.invokespecial 1, 3) := by decide +kernel
theorem dX6_init_4 : decode cX6_init 4 = .ok (.aload_n 0, 1) := by decide +kernel
theorem dX6_init_5 : decode cX6_init 5 = .ok (.iconst 2, 1) := by decide +kernel
theorem dX6_init_6 : decode cX6_init 6 = .ok (.putfield 7, 3) := by decide +kernel
theorem dX6_init_9 : decode cX6_init 9 = .ok (.aload_n 0, 1) := by decide +kernel
theorem dX6_init_10 : decode cX6_init 10 = .ok (.new 13, 3) := by decide +kernel
theorem dX6_init_13 : decode cX6_init 13 = .ok (.dup, 1) := by decide +kernel
theorem dX6_init_14 : decode cX6_init 14 = .ok (.iconst 4, 1) := by decide +kernel
theorem dX6_init_15 : decode cX6_init 15 = .ok (.invokespecial 15, 3) := by decide +kernel
theorem dX6_init_18 : decode cX6_init 18 = .ok (.putfield 18, 3) := by decide +kernel
theorem dX6_init_21 : decode cX6_init 21 = .ok (.return_, 1) := by decide +kernel
theorem dX7_init_0 : decode cX7_init 0 = .ok (.aload_n 0, 1) := by decide +kernel
theorem dX7_init_1 : decode cX7_init 1 = .ok (.invokespecial 3, 3) := by decide +kernel
theorem dX7_init_4 : decode cX7_init 4 = .ok (.aload_n 0, 1) := by decide +kernel
theorem dX7_init_5 : decode cX7_init 5 = .ok (.iconst (-1), 1) := by decide +kernel
theorem dX7_init_6 : decode cX7_init 6 = .ok (.putfield 9, 3) := by decide +kernel
theorem dX7_init_9 : decode cX7_init 9 = .ok (.aload_n 0, 1) := by decide +kernel
theorem dX7_init_10 : decode cX7_init 10 = .ok (.iconst (-1), 1) := by decide +kernel
theorem dX7_init_11 : decode cX7_init 11 = .ok (.putfield 15, 3) := by decide +kernel
theorem dX7_init_14 : decode cX7_init 14 = .ok (.aload_n 0, 1) := by decide +kernel
theorem dX7_init_15 : decode cX7_init 15 = .ok (.iconst (-1), 1) := by decide +kernel
theorem dX7_init_16 : decode cX7_init 16 = .ok (.putfield 18, 3) := by decide +kernel
theorem dX7_init_19 : decode cX7_init 19 = .ok (.aload_n 0, 1) := by decide +kernel
theorem dX7_init_20 : decode cX7_init 20 = .ok (.iconst 1, 1) := by decide +kernel
theorem dX7_init_21 : decode cX7_init 21 = .ok (.putfield 21, 3) := by decide +kernel
theorem dX7_init_24 : decode cX7_init 24 = .ok (.aload_n 0, 1) := by decide +kernel
theorem dX7_init_25 : decode cX7_init 25 = .ok (.iconst (-1), 1) := by decide +kernel
theorem dX7_init_26 : decode cX7_init 26 = .ok (.putfield 24, 3) := by decide +kernel
theorem dX7_init_29 : decode cX7_init 29 = .ok (.aload_n 0, 1) := by decide +kernel
theorem dX7_init_30 : decode cX7_init 30 = .ok (.iconst (-1), 1) := by decide +kernel
theorem dX7_init_31 : decode cX7_init 31 = .ok (.putfield 27, 3) := by decide +kernel
theorem dX7_init_34 : decode cX7_init 34 = .ok (.aload_n 0, 1) := by decide +kernel
theorem dX7_init_35 : decode cX7_init 35 = .ok (.iconst 0, 1) := by decide +kernel
theorem dX7_init_36 : decode cX7_init 36 = .ok (.putfield 30, 3) := by decide +kernel
theorem dX7_init_39 : decode cX7_init 39 = .ok (.aload_n 0, 1) := by decide +kernel
theorem dX7_init_40 : decode cX7_init 40 = .ok (.iconst 0, 1) := by decide +kernel
theorem dX7_init_41 : decode cX7_init 41 = .ok (.putfield 33, 3) := by decide +kernel
theorem dX7_init_44 : decode cX7_init 44 = .ok (.aload_n 0, 1) := by decide +kernel
theorem dX7_init_45 : decode cX7_init 45 = .ok (.new 36, 3) := by decide +kernel
theorem dX7_init_48 : decode cX7_init 48 = .ok (.dup, 1) := by decide +kernel
theorem dX7_init_49 : decode cX7_init 49 = .ok (.bipush 10, 2) := by decide +kernel
theorem dX7_init_51 : decode cX7_init 51 = .ok (.invokespecial 38, 3) := by decide +kernel
theorem dX7_init_54 : decode cX7_init 54 = .ok (.putfield 41, 3) := by decide +kernel
theorem dX7_init_57 : decode cX7_init 57 = .ok (.aload_n 0, 1) := by decide +kernel
theorem dX7_init_58 : decode cX7_init 58 = .ok (.new 36, 3) := by decide +kernel
theorem dX7_init_61 : decode cX7_init 61 = .ok (.dup, 1) := by decide +kernel
theorem dX7_init_62 : decode cX7_init 62 = .ok (.bipush 8, 2) := by decide +kernel
theorem dX7_init_64 : decode cX7_init 64 = .ok (.invokespecial 38, 3) := by decide +kernel
theorem dX7_init_67 : decode cX7_init 67 = .ok (.putfield 45, 3) := by decide +kernel
theorem dX7_init_70 : decode cX7_init 70 = .ok (.aload_n 0, 1) := by decide +kernel
theorem dX7_init_71 : decode cX7_init 71 = .ok (.iconst 0, 1) := by decide +kernel
theorem dX7_init_72 : decode cX7_init 72 = .ok (.putfield 48, 3) := by decide +kernel
theorem dX7_init_75 : decode cX7_init 75 = .ok (.aload_n 0, 1) := by decide +kernel
theorem dX7_init_76 : decode cX7_init 76 = .ok (.iconst 0, 1) := by decide +kernel
theorem dX7_init_77 : decode cX7_init 77 = .ok (.putfield 51, 3) := by decide +kernel
theorem dX7_init_80 : decode cX7_init 80 = .ok (.aload_n 0, 1) := by decide +kernel
theorem dX7_init_81 : decode cX7_init 81 = .ok (.iconst 0, 1) := by decide +kernel
theorem dX7_init_82 : decode cX7_init 82 = .ok (.putfield 54, 3) := by decide +kernel
theorem dX7_init_85 : decode cX7_init 85 = .ok (.aload_n 0, 1) := by decide +kernel
theorem dX7_init_86 : decode cX7_init 86 = .ok (.iconst (-1), 1) := by decide +kernel
theorem dX7_init_87 : decode cX7_init 87 = .ok (.putfield 57, 3) := by decide +kernel
theorem dX7_init_90 : decode cX7_init 90 = .ok (.aload_n 0, 1) := by decide +kernel
theorem dX7_init_91 : decode cX7_init 91 = .ok (.iconst (-1), 1) := by decide +kernel
theorem dX7_init_92 : decode cX7_init 92 = .ok (.putfield 60, 3) := by decide +kernel
theorem dX7_init_95 : decode cX7_init 95 = .ok (.aload_n 0, 1) := by decide +kernel
theorem dX7_init_96 : decode cX7_init 96 = .ok (.bipush 16, 2) := by decide +kernel
theorem dX7_init_98 : decode cX7_init 98 = .ok (.newarray .int, 2) := by decide +kernel
theorem dX7_init_100 : decode cX7_init 100 = .ok (.putfield 63, 3) := by decide +kernel
theorem dX7_init_103 : decode cX7_init 103 = .ok (.aload_n 0, 1) := by decide +kernel
theorem dX7_init_104 : decode cX7_init 104 = .ok (.iload_n 1, 1) := by decide +kernel
theorem dX7_init_105 : decode cX7_init 105 = .ok (.putfield 67, 3) := by decide +kernel
theorem dX7_init_108 : decode cX7_init 108 = .ok (.return_, 1) := by decide +kernel
theorem dX7_start_0 : decode cX7_start 0 = .ok (.aload_n 0, 1) := by decide +kernel
theorem dX7_start_1 : decode cX7_start 1 = .ok (.iload_n 1, 1) := by decide +kernel
theorem dX7_start_2 : decode cX7_start 2 = .ok (.putfield 15, 3) := by decide +kernel
theorem dX7_start_5 : decode cX7_start 5 = .ok (.aload_n 0, 1) := by decide +kernel
theorem dX7_start_6 : decode cX7_start 6 = .ok (.iload_n 2, 1) := by decide +kernel
theorem dX7_start_7 : decode cX7_start 7 = .ok (.putfield 18, 3) := by decide +kernel
theorem dX7_start_10 : decode cX7_start 10 = .ok (.aload_n 0, 1) := by decide +kernel
theorem dX7_start_11 : decode cX7_start 11 = .ok (.iload_n 3, 1) := by decide +kernel
theorem dX7_start_12 : decode cX7_start 12 = .ok (.putfield 21, 3) := by decide +kernel
theorem dX7_start_15 : decode cX7_start 15 = .ok (.aload_n 0, 1) := by decide +kernel
theorem dX7_start_16 : decode cX7_start 16 = .ok (.iload 4, 2) := by decide +kernel
theorem dX7_start_18 : decode cX7_start 18 = .ok (.putfield 24, 3) := by decide +kernel
theorem dX7_start_21 : decode cX7_start 21 = .ok (.aload_n 0, 1) := by decide +kernel
theorem dX7_start_22 : decode cX7_start 22 = .ok (.iconst 0, 1) := by decide +kernel
theorem dX7_start_23 : decode cX7_start 23 = .ok (.putfield 9, 3) := by decide +kernel
theorem dX7_start_26 : decode cX7_start 26 = .ok (.aload_n 0, 1) := by decide +kernel
theorem dX7_start_27 : decode cX7_start 27 = .ok (.iconst (-1), 1) := by decide +kernel
theorem dX7_start_28 : decode cX7_start 28 = .ok (.putfield 27, 3) := by decide +kernel
theorem dX7_start_31 : decode cX7_start 31 = .ok (.aload_n 0, 1) := by decide +kernel
theorem dX7_start_32 : decode cX7_start 32 = .ok (.iconst 0, 1) := by decide +kernel
theorem dX7_start_33 : decode cX7_start 33 = .ok (.putfield 33, 3) := by decide +kernel
theorem dX7_start_36 : decode cX7_start 36 = .ok (.aload_n 0, 1) := by decide +kernel
theorem dX7_start_37 : decode cX7_start 37 = .ok (.getfield 41, 3) := by decide +kernel
theorem dX7_start_40 : decode cX7_start 40 = .ok (.invokevirtual 70, 3) := by decide +kernel
theorem dX7_start_43 : decode cX7_start 43 = .ok (.aload_n 0, 1) := by decide +kernel
theorem dX7_start_44 : decode cX7_start 44 = .ok (.getfield 45, 3) := by decide +kernel
theorem dX7_start_47 : decode cX7_start 47 = .ok (.invokevirtual 70, 3) := by decide +kernel
theorem dX7_start_50 : decode cX7_start 50 = .ok (.aload_n 0, 1) := by decide +kernel
theorem dX7_start_51 : decode cX7_start 51 = .ok (.iconst 0, 1) := by decide +kernel
theorem dX7_start_52 : decode cX7_start 52 = .ok (.putfield 48, 3) := by decide +kernel
theorem dX7_start_55 : decode cX7_start 55 = .ok (.aload_n 0, 1) := by decide +kernel
theorem dX7_start_56 : decode cX7_start 56 = .ok (.iconst (-1), 1) := by decide +kernel
theorem dX7_start_57 : decode cX7_start 57 = .ok (.putfield 57, 3) := by decide +kernel
theorem dX7_start_60 : decode cX7_start 60 = .ok (.aload_n 0, 1) := by decide +kernel
theorem dX7_start_61 : decode cX7_start 61 = .ok (.iconst (-1), 1) := by decide +kernel
theorem dX7_start_62 : decode cX7_start 62 = .ok (.putfield 60, 3) := by decide +kernel
theorem dX7_start_65 : decode cX7_start 65 = .ok (.aload_n 0, 1) := by decide +kernel
theorem dX7_start_66 : decode cX7_start 66 = .ok (.getfield 63, 3) := by decide +kernel
theorem dX7_start_69 : decode cX7_start 69 = .ok (.iconst 0, 1) := by decide +kernel
theorem dX7_start_70 : decode cX7_start 70 = .ok (.invokestatic 73, 3) := by decide +kernel
theorem dX7_start_73 : decode cX7_start 73 = .ok (.return_, 1) := by decide +kernel
theorem dX7_stands_0 : decode cX7_stands 0 = .ok (.aload_n 0, 1) := by decide +kernel
theorem dX7_stands_1 : decode cX7_stands 1 = .ok (.getfield 9, 3) := by decide +kernel
theorem dX7_stands_4 : decode cX7_stands 4 = .ok (.ifCond .eq 11, 3) := by decide +kernel
theorem dX7_stands_7 : decode cX7_stands 7 = .ok (.aload_n 0, 1) := by decide +kernel
theorem dX7_stands_8 : decode cX7_stands 8 = .ok (.getfield 9, 3) := by decide +kernel
theorem dX7_stands_11 : decode cX7_stands 11 = .ok (.iconst 1, 1) := by decide +kernel
theorem dX7_stands_12 : decode cX7_stands 12 = .ok (.if_icmp .ne 7, 3) := by decide +kernel
theorem dX7_stands_15 : decode cX7_stands 15 = .ok (.iconst 1, 1) := by decide +kernel
theorem dX7_stands_16 : decode cX7_stands 16 = .ok (.goto 4, 3) := by decide +kernel
theorem dX7_stands_19 : decode cX7_stands 19 = .ok (.iconst 0, 1) := by decide +kernel
theorem dX7_stands_20 : decode cX7_stands 20 = .ok (.ireturn, 1) := by decide +kernel
theorem dX7_takesTrackAt_0 : decode cX7_takesTrackAt 0 = .ok (.aload_n 0, 1) := by decide +kernel
theorem dX7_takesTrackAt_1 : decode cX7_takesTrackAt 1 = .ok (.getfield 9, 3) := by decide +kernel
theorem dX7_takesTrackAt_4 : decode cX7_takesTrackAt 4 = .ok (.iconst (-1), 1) := by decide +kernel
theorem dX7_takesTrackAt_5 : decode cX7_takesTrackAt 5 = .ok (.if_icmp .eq 15, 3) := by decide +kernel
theorem dX7_takesTrackAt_8 : decode cX7_takesTrackAt 8 = .ok (.aload_n 0, 1) := by decide +kernel
theorem dX7_takesTrackAt_9 : decode cX7_takesTrackAt 9 = .ok (.getfield 24, 3) := by decide +kernel
theorem dX7_takesTrackAt_12 : decode cX7_takesTrackAt 12 = .ok (.iload_n 1, 1) := by decide +kernel
theorem dX7_takesTrackAt_13 : decode cX7_takesTrackAt 13 = .ok (.if_icmp .ne 7, 3) := by decide +kernel
theorem dX7_takesTrackAt_16 : decode cX7_takesTrackAt 16 = .ok (.iconst 1, 1) := by decide +kernel
theorem dX7_takesTrackAt_17 : decode cX7_takesTrackAt 17 = .ok (.goto 4, 3) := by decide +kernel
theorem dX7_takesTrackAt_20 : decode cX7_takesTrackAt 20 = .ok (.iconst 0, 1) := by decide +kernel
theorem dX7_takesTrackAt_21 : decode cX7_takesTrackAt 21 = .ok (.ireturn, 1) := by decide +kernel
theorem dX7_nextBlock_0 : decode cX7_nextBlock 0 = .ok (.aload_n 0, 1) := by decide +kernel
theorem dX7_nextBlock_1 : decode cX7_nextBlock 1 = .ok (.getfield 45, 3) := by decide +kernel
theorem dX7_nextBlock_4 : decode cX7_nextBlock 4 = .ok (.aload_n 0, 1) := by decide +kernel
theorem dX7_nextBlock_5 : decode cX7_nextBlock 5 = .ok (.getfield 48, 3) := by decide +kernel
theorem dX7_nextBlock_8 : decode cX7_nextBlock 8 = .ok (.invokevirtual 79, 3) := by decide +kernel
theorem dX7_nextBlock_11 : decode cX7_nextBlock 11 = .ok (.ireturn, 1) := by decide +kernel
theorem dX7_minutesToClear_0 : decode cX7_minutesToClear 0 = .ok (.iconst 1, 1) := by decide +kernel
theorem dX7_minutesToClear_1 : decode cX7_minutesToClear 1 = .ok (.aload_n 0, 1) := by decide +kernel
theorem dX7_minutesToClear_2 : decode cX7_minutesToClear 2 = .ok (.getfield 41, 3) := by decide +kernel
theorem dX7_minutesToClear_5 : decode cX7_minutesToClear 5 = .ok (.getfield 83, 3) := by decide +kernel
theorem dX7_minutesToClear_8 : decode cX7_minutesToClear 8 = .ok (.iconst 4, 1) := by decide +kernel
theorem dX7_minutesToClear_9 : decode cX7_minutesToClear 9 = .ok (.idiv, 1) := by decide +kernel
theorem dX7_minutesToClear_10 : decode cX7_minutesToClear 10 = .ok (.iadd, 1) := by decide +kernel
theorem dX7_minutesToClear_11 : decode cX7_minutesToClear 11 = .ok (.ireturn, 1) := by decide +kernel
theorem dX7_notClear_0 : decode cX7_notClear 0 = .ok (.iload_n 1, 1) := by decide +kernel
theorem dX7_notClear_1 : decode cX7_notClear 1 = .ok (.ifCond .lt 19, 3) := by decide +kernel
theorem dX7_notClear_4 : decode cX7_notClear 4 = .ok (.iload_n 1, 1) := by decide +kernel
theorem dX7_notClear_5 : decode cX7_notClear 5 = .ok (.aload_n 0, 1) := by decide +kernel
theorem dX7_notClear_6 : decode cX7_notClear 6 = .ok (.getfield 63, 3) := by decide +kernel
theorem dX7_notClear_9 : decode cX7_notClear 9 = .ok (.arraylength, 1) := by decide +kernel
theorem dX7_notClear_10 : decode cX7_notClear 10 = .ok (.if_icmp .ge 10, 3) := by decide +kernel
theorem dX7_notClear_13 : decode cX7_notClear 13 = .ok (.aload_n 0, 1) := by decide +kernel
theorem dX7_notClear_14 : decode cX7_notClear 14 = .ok (.getfield 63, 3) := by decide +kernel
theorem dX7_notClear_17 : decode cX7_notClear 17 = .ok (.iload_n 1, 1) := by decide +kernel
theorem dX7_notClear_18 : decode cX7_notClear 18 = .ok (.iload_n 2, 1) := by decide +kernel
theorem dX7_notClear_19 : decode cX7_notClear 19 = .ok (.iastore, 1) := by decide +kernel
theorem dX7_notClear_20 : decode cX7_notClear 20 = .ok (.return_, 1) := by decide +kernel
theorem dX7_holds_0 : decode cX7_holds 0 = .ok (.aload_n 0, 1) := by decide +kernel
theorem dX7_holds_1 : decode cX7_holds 1 = .ok (.getfield 9, 3) := by decide +kernel
theorem dX7_holds_4 : decode cX7_holds 4 = .ok (.iconst (-1), 1) := by decide +kernel
theorem dX7_holds_5 : decode cX7_holds 5 = .ok (.if_icmp .eq 24, 3) := by decide +kernel
theorem dX7_holds_8 : decode cX7_holds 8 = .ok (.aload_n 0, 1) := by decide +kernel
theorem dX7_holds_9 : decode cX7_holds 9 = .ok (.getfield 9, 3) := by decide +kernel
theorem dX7_holds_12 : decode cX7_holds 12 = .ok (.iconst 3, 1) := by decide +kernel
theorem dX7_holds_13 : decode cX7_holds 13 = .ok (.if_icmp .eq 16, 3) := by decide +kernel
theorem dX7_holds_16 : decode cX7_holds 16 = .ok (.iload_n 1, 1) := by decide +kernel
theorem dX7_holds_17 : decode cX7_holds 17 = .ok (.ifCond .lt 12, 3) := by decide +kernel
theorem dX7_holds_20 : decode cX7_holds 20 = .ok (.iload_n 1, 1) := by decide +kernel
theorem dX7_holds_21 : decode cX7_holds 21 = .ok (.aload_n 0, 1) := by decide +kernel
theorem dX7_holds_22 : decode cX7_holds 22 = .ok (.getfield 63, 3) := by decide +kernel
theorem dX7_holds_25 : decode cX7_holds 25 = .ok (.arraylength, 1) := by decide +kernel
theorem dX7_holds_26 : decode cX7_holds 26 = .ok (.if_icmp .lt 5, 3) := by decide +kernel
theorem dX7_holds_29 : decode cX7_holds 29 = .ok (.iconst 0, 1) := by decide +kernel
theorem dX7_holds_30 : decode cX7_holds 30 = .ok (.ireturn, 1) := by decide +kernel
theorem dX7_holds_31 : decode cX7_holds 31 = .ok (.aload_n 0, 1) := by decide +kernel
theorem dX7_holds_32 : decode cX7_holds 32 = .ok (.getfield 9, 3) := by decide +kernel
theorem dX7_holds_35 : decode cX7_holds 35 = .ok (.iconst 2, 1) := by decide +kernel
theorem dX7_holds_36 : decode cX7_holds 36 = .ok (.if_icmp .ne 11, 3) := by decide +kernel
theorem dX7_holds_39 : decode cX7_holds 39 = .ok (.aload_n 0, 1) := by decide +kernel
theorem dX7_holds_40 : decode cX7_holds 40 = .ok (.getfield 27, 3) := by decide +kernel
theorem dX7_holds_43 : decode cX7_holds 43 = .ok (.iload_n 1, 1) := by decide +kernel
theorem dX7_holds_44 : decode cX7_holds 44 = .ok (.if_icmp .eq 13, 3) := by decide +kernel
theorem dX7_holds_47 : decode cX7_holds 47 = .ok (.iload_n 2, 1) := by decide +kernel
theorem dX7_holds_48 : decode cX7_holds 48 = .ok (.aload_n 0, 1) := by decide +kernel
theorem dX7_holds_49 : decode cX7_holds 49 = .ok (.getfield 63, 3) := by decide +kernel
theorem dX7_holds_52 : decode cX7_holds 52 = .ok (.iload_n 1, 1) := by decide +kernel
theorem dX7_holds_53 : decode cX7_holds 53 = .ok (.iaload, 1) := by decide +kernel
theorem dX7_holds_54 : decode cX7_holds 54 = .ok (.if_icmp .ge 7, 3) := by decide +kernel
theorem dX7_holds_57 : decode cX7_holds 57 = .ok (.iconst 1, 1) := by decide +kernel
theorem dX7_holds_58 : decode cX7_holds 58 = .ok (.goto 4, 3) := by decide +kernel
theorem dX7_holds_61 : decode cX7_holds 61 = .ok (.iconst 0, 1) := by decide +kernel
theorem dX7_holds_62 : decode cX7_holds 62 = .ok (.ireturn, 1) := by decide +kernel
theorem dX8_init_0 : decode cX8_init 0 = .ok (.aload_n 0, 1) := by decide +kernel
theorem dX8_init_1 : decode cX8_init 1 = .ok (.invokespecial 1, 3) := by decide +kernel
theorem dX8_init_4 : decode cX8_init 4 = .ok (.aload_n 0, 1) := by decide +kernel
theorem dX8_init_5 : decode cX8_init 5 = .ok (.bipush 8, 2) := by decide +kernel
theorem dX8_init_7 : decode cX8_init 7 = .ok (.anewarray 9, 3) := by decide +kernel
theorem dX8_init_10 : decode cX8_init 10 = .ok (.putfield 11, 3) := by decide +kernel
theorem dX8_init_13 : decode cX8_init 13 = .ok (.aload_n 0, 1) := by decide +kernel
theorem dX8_init_14 : decode cX8_init 14 = .ok (.new 15, 3) := by decide +kernel
theorem dX8_init_17 : decode cX8_init 17 = .ok (.dup, 1) := by decide +kernel
theorem dX8_init_18 : decode cX8_init 18 = .ok (.invokespecial 17, 3) := by decide +kernel
theorem dX8_init_21 : decode cX8_init 21 = .ok (.putfield 18, 3) := by decide +kernel
theorem dX8_init_24 : decode cX8_init 24 = .ok (.aload_n 0, 1) := by decide +kernel
theorem dX8_init_25 : decode cX8_init 25 = .ok (.new 15, 3) := by decide +kernel
theorem dX8_init_28 : decode cX8_init 28 = .ok (.dup, 1) := by decide +kernel
theorem dX8_init_29 : decode cX8_init 29 = .ok (.invokespecial 17, 3) := by decide +kernel
theorem dX8_init_32 : decode cX8_init 32 = .ok (.putfield 22, 3) := by decide +kernel
theorem dX8_init_35 : decode cX8_init 35 = .ok (.aload_n 0, 1) := by decide +kernel
theorem dX8_init_36 : decode cX8_init 36 = .ok (.new 15, 3) := by decide +kernel
theorem dX8_init_39 : decode cX8_init 39 = .ok (.dup, 1) := by decide +kernel
theorem dX8_init_40 : decode cX8_init 40 = .ok (.invokespecial 17, 3) := by decide +kernel
theorem dX8_init_43 : decode cX8_init 43 = .ok (.putfield 25, 3) := by decide +kernel
theorem dX8_init_46 : decode cX8_init 46 = .ok (.aload_n 0, 1) := by decide +kernel
theorem dX8_init_47 : decode cX8_init 47 = .ok (.new 15, 3) := by decide +kernel
theorem dX8_init_50 : decode cX8_init 50 = .ok (.dup, 1) := by decide +kernel
theorem dX8_init_51 : decode cX8_init 51 = .ok (.invokespecial 17, 3) := by decide +kernel
theorem dX8_init_54 : decode cX8_init 54 = .ok (.putfield 28, 3) := by decide +kernel
theorem dX8_init_57 : decode cX8_init 57 = .ok (.aload_n 0, 1) := by decide +kernel
theorem dX8_init_58 : decode cX8_init 58 = .ok (.new 15, 3) := by decide +kernel
theorem dX8_init_61 : decode cX8_init 61 = .ok (.dup, 1) := by decide +kernel
theorem dX8_init_62 : decode cX8_init 62 = .ok (.invokespecial 17, 3) := by decide +kernel
theorem dX8_init_65 : decode cX8_init 65 = .ok (.putfield 31, 3) := by decide +kernel
theorem dX8_init_68 : decode cX8_init 68 = .ok (.aload_n 0, 1) := by decide +kernel
theorem dX8_init_69 : decode cX8_init 69 = .ok (.bipush 6, 2) := by decide +kernel
theorem dX8_init_71 : decode cX8_init 71 = .ok (.anewarray 34, 3) := by decide +kernel
theorem dX8_init_74 : decode cX8_init 74 = .ok (.putfield 36, 3) := by decide +kernel
theorem dX8_init_77 : decode cX8_init 77 = .ok (.aload_n 0, 1) := by decide +kernel
theorem dX8_init_78 : decode cX8_init 78 = .ok (.bipush 64, 2) := by decide +kernel
theorem dX8_init_80 : decode cX8_init 80 = .ok (.newarray .int, 2) := by decide +kernel
theorem dX8_init_82 : decode cX8_init 82 = .ok (.putfield 40, 3) := by decide +kernel
theorem dX8_init_85 : decode cX8_init 85 = .ok (.aload_n 0, 1) := by decide +kernel
theorem dX8_init_86 : decode cX8_init 86 = .ok (.bipush 64, 2) := by decide +kernel
theorem dX8_init_88 : decode cX8_init 88 = .ok (.newarray .int, 2) := by decide +kernel
theorem dX8_init_90 : decode cX8_init 90 = .ok (.putfield 44, 3) := by decide +kernel
theorem dX8_init_93 : decode cX8_init 93 = .ok (.aload_n 0, 1) := by decide +kernel
theorem dX8_init_94 : decode cX8_init 94 = .ok (.new 47, 3) := by decide +kernel
theorem dX8_init_97 : decode cX8_init 97 = .ok (.dup, 1) := by decide +kernel
theorem dX8_init_98 : decode cX8_init 98 = .ok (.bipush 8, 2) := by decide +kernel
theorem dX8_init_100 : decode cX8_init 100 = .ok (.invokespecial 49, 3) := by decide +kernel
theorem dX8_init_103 : decode cX8_init 103 = .ok (.putfield 52, 3) := by decide +kernel
theorem dX8_init_106 : decode cX8_init 106 = .ok (.aload_n 0, 1) := by decide +kernel
theorem dX8_init_107 : decode cX8_init 107 = .ok (.new 47, 3) := by decide +kernel
theorem dX8_init_110 : decode cX8_init 110 = .ok (.dup, 1) := by decide +kernel
theorem dX8_init_111 : decode cX8_init 111 = .ok (.bipush 20, 2) := by decide +kernel
theorem dX8_init_113 : decode cX8_init 113 = .ok (.invokespecial 49, 3) := by decide +kernel
theorem dX8_init_116 : decode cX8_init 116 = .ok (.putfield 56, 3) := by decide +kernel
theorem dX8_init_119 : decode cX8_init 119 = .ok (.aload_n 0, 1) := by decide +kernel
theorem dX8_init_120 : decode cX8_init 120 = .ok (.bipush 8, 2) := by decide +kernel
theorem dX8_init_122 : decode cX8_init 122 = .ok (.newarray .int, 2) := by decide +kernel
theorem dX8_init_124 : decode cX8_init 124 = .ok (.putfield 59, 3) := by decide +kernel
theorem dX8_init_127 : decode cX8_init 127 = .ok (.aload_n 0, 1) := by decide +kernel
theorem dX8_init_128 : decode cX8_init 128 = .ok (.iconst 0, 1) := by decide +kernel
theorem dX8_init_129 : decode cX8_init 129 = .ok (.putfield 62, 3) := by decide +kernel
theorem dX8_init_132 : decode cX8_init 132 = .ok (.aload_n 0, 1) := by decide +kernel
theorem dX8_init_133 : decode cX8_init 133 = .ok (.sipush 5000, 3) := by decide +kernel
theorem dX8_init_136 : decode cX8_init 136 = .ok (.putfield 66, 3) := by decide +kernel
theorem dX8_init_139 : decode cX8_init 139 = .ok (.aload_n 0, 1) := by decide +kernel
theorem dX8_init_140 : decode cX8_init 140 = .ok (.iconst 0, 1) := by decide +kernel
theorem dX8_init_141 : decode cX8_init 141 = .ok (.putfield 69, 3) := by decide +kernel
theorem dX8_init_144 : decode cX8_init 144 = .ok (.aload_n 0, 1) := by decide +kernel
theorem dX8_init_145 : decode cX8_init 145 = .ok (.iconst 0, 1) := by decide +kernel
theorem dX8_init_146 : decode cX8_init 146 = .ok (.putfield 72, 3) := by decide +kernel
theorem dX8_init_149 : decode cX8_init 149 = .ok (.iconst 0, 1) := by decide +kernel
theorem dX8_init_150 : decode cX8_init 150 = .ok (.istore_n 1, 1) := by decide +kernel
theorem dX8_init_151 : decode cX8_init 151 = .ok (.iload_n 1, 1) := by decide +kernel
theorem dX8_init_152 : decode cX8_init 152 = .ok (.aload_n 0, 1) := by decide +kernel
theorem dX8_init_153 : decode cX8_init 153 = .ok (.getfield 11, 3) := by decide +kernel
theorem dX8_init_156 : decode cX8_init 156 = .ok (.arraylength, 1) := by decide +kernel
theorem dX8_init_157 : decode cX8_init 157 = .ok (.if_icmp .ge 22, 3) := by decide +kernel
theorem dX8_init_160 : decode cX8_init 160 = .ok (.aload_n 0, 1) := by decide +kernel
theorem dX8_init_161 : decode cX8_init 161 = .ok (.getfield 11, 3) := by decide +kernel
theorem dX8_init_164 : decode cX8_init 164 = .ok (.iload_n 1, 1) := by decide +kernel
theorem dX8_init_165 : decode cX8_init 165 = .ok (.new 9, 3) := by decide +kernel
theorem dX8_init_168 : decode cX8_init 168 = .ok (.dup, 1) := by decide +kernel
theorem dX8_init_169 : decode cX8_init 169 = .ok (.invokespecial 75, 3) := by decide +kernel
theorem dX8_init_172 : decode cX8_init 172 = .ok (.aastore, 1) := by decide +kernel
theorem dX8_init_173 : decode cX8_init 173 = .ok (.iinc 1 1, 3) := by decide +kernel
theorem dX8_init_176 : decode cX8_init 176 = .ok (.goto (-25), 3) := by decide +kernel
theorem dX8_init_179 : decode cX8_init 179 = .ok (.iconst 0, 1) := by decide +kernel
theorem dX8_init_180 : decode cX8_init 180 = .ok (.istore_n 1, 1) := by decide +kernel
theorem dX8_init_181 : decode cX8_init 181 = .ok (.iload_n 1, 1) := by decide +kernel
theorem dX8_init_182 : decode cX8_init 182 = .ok (.aload_n 0, 1) := by decide +kernel
theorem dX8_init_183 : decode cX8_init 183 = .ok (.getfield 36, 3) := by decide +kernel
theorem dX8_init_186 : decode cX8_init 186 = .ok (.arraylength, 1) := by decide +kernel
theorem dX8_init_187 : decode cX8_init 187 = .ok (.if_icmp .ge 23, 3) := by decide +kernel
theorem dX8_init_190 : decode cX8_init 190 = .ok (.aload_n 0, 1) := by decide +kernel
theorem dX8_init_191 : decode cX8_init 191 = .ok (.getfield 36, 3) := by decide +kernel
theorem dX8_init_194 : decode cX8_init 194 = .ok (.iload_n 1, 1) := by decide +kernel
theorem dX8_init_195 : decode cX8_init 195 = .ok (.new 34, 3) := by decide +kernel
theorem dX8_init_198 : decode cX8_init 198 = .ok (.dup, 1) := by decide +kernel
theorem dX8_init_199 : decode cX8_init 199 = .ok (.iload_n 1, 1) := by decide +kernel
theorem dX8_init_200 : decode cX8_init 200 = .ok (.invokespecial 76, 3) := by decide +kernel
theorem dX8_init_203 : decode cX8_init 203 = .ok (.aastore, 1) := by decide +kernel
theorem dX8_init_204 : decode cX8_init 204 = .ok (.iinc 1 1, 3) := by decide +kernel
theorem dX8_init_207 : decode cX8_init 207 = .ok (.goto (-26), 3) := by decide +kernel
theorem dX8_init_210 : decode cX8_init 210 = .ok (.aload_n 0, 1) := by decide +kernel
theorem dX8_init_211 : decode cX8_init 211 = .ok (.getfield 40, 3) := by decide +kernel
theorem dX8_init_214 : decode cX8_init 214 = .ok (.bipush 20, 2) := by decide +kernel
theorem dX8_init_216 : decode cX8_init 216 = .ok (.invokestatic 77, 3) := by decide +kernel
theorem dX8_init_219 : decode cX8_init 219 = .ok (.aload_n 0, 1) := by decide +kernel
theorem dX8_init_220 : decode cX8_init 220 = .ok (.getfield 44, 3) := by decide +kernel
theorem dX8_init_223 : decode cX8_init 223 = .ok (.bipush 20, 2) := by decide +kernel
theorem dX8_init_225 : decode cX8_init 225 = .ok (.invokestatic 77, 3) := by decide +kernel
theorem dX8_init_228 : decode cX8_init 228 = .ok (.return_, 1) := by decide +kernel
theorem dX8_tracks_0 : decode cX8_tracks 0 = .ok (.aload_n 0, 1) := by decide +kernel
theorem dX8_tracks_1 : decode cX8_tracks 1 = .ok (.iload_n 1, 1) := by decide +kernel
theorem dX8_tracks_2 : decode cX8_tracks 2 = .ok (.invokevirtual 83, 3) := by decide +kernel
theorem dX8_tracks_5 : decode cX8_tracks 5 = .ok (.astore_n 3, 1) := by decide +kernel
theorem dX8_tracks_6 : decode cX8_tracks 6 = .ok (.iload_n 2, 1) := by decide +kernel
theorem dX8_tracks_7 : decode cX8_tracks 7 = .ok (.iconst 1, 1) := by decide +kernel
theorem dX8_tracks_8 : decode cX8_tracks 8 = .ok (.iconst 4, 1) := by decide +kernel
theorem dX8_tracks_9 : decode cX8_tracks 9 = .ok (.invokestatic 87, 3) := by decide +kernel
theorem dX8_tracks_12 : decode cX8_tracks 12 = .ok (.aload_n 0, 1) := by decide +kernel
theorem dX8_tracks_13 : decode cX8_tracks 13 = .ok (.iload_n 1, 1) := by decide +kernel
theorem dX8_tracks_14 : decode cX8_tracks 14 = .ok (.invokevirtual 91, 3) := by decide +kernel
theorem dX8_tracks_17 : decode cX8_tracks 17 = .ok (.iload_n 2, 1) := by decide +kernel
theorem dX8_tracks_18 : decode cX8_tracks 18 = .ok (.if_icmp .gt 7, 3) := by decide +kernel
theorem dX8_tracks_21 : decode cX8_tracks 21 = .ok (.iconst 1, 1) := by decide +kernel
theorem dX8_tracks_22 : decode cX8_tracks 22 = .ok (.goto 4, 3) := by decide +kernel
theorem dX8_tracks_25 : decode cX8_tracks 25 = .ok (.iconst 0, 1) := by decide +kernel
theorem dX8_tracks_26 : decode cX8_tracks 26 = .ok (.invokestatic 95, 3) := by decide +kernel
theorem dX8_tracks_29 : decode cX8_tracks 29 = .ok (.aload_n 3, 1) := by decide +kernel
theorem dX8_tracks_30 : decode cX8_tracks 30 = .ok (.getfield 99, 3) := by decide +kernel
theorem dX8_tracks_33 : decode cX8_tracks 33 = .ok (.istore 4, 2) := by decide +kernel
theorem dX8_tracks_35 : decode cX8_tracks 35 = .ok (.aload_n 3, 1) := by decide +kernel
theorem dX8_tracks_36 : decode cX8_tracks 36 = .ok (.iload_n 2, 1) := by decide +kernel
theorem dX8_tracks_37 : decode cX8_tracks 37 = .ok (.putfield 99, 3) := by decide +kernel
theorem dX8_tracks_40 : decode cX8_tracks 40 = .ok (.iload 4, 2) := by decide +kernel
theorem dX8_tracks_42 : decode cX8_tracks 42 = .ok (.ireturn, 1) := by decide +kernel
theorem dX8_lay_0 : decode cX8_lay 0 = .ok (.aload_n 0, 1) := by decide +kernel
theorem dX8_lay_1 : decode cX8_lay 1 = .ok (.iload_n 1, 1) := by decide +kernel
theorem dX8_lay_2 : decode cX8_lay 2 = .ok (.invokevirtual 102, 3) := by decide +kernel
theorem dX8_lay_5 : decode cX8_lay 5 = .ok (.aload_n 0, 1) := by decide +kernel
theorem dX8_lay_6 : decode cX8_lay 6 = .ok (.iload_n 2, 1) := by decide +kernel
theorem dX8_lay_7 : decode cX8_lay 7 = .ok (.invokevirtual 102, 3) := by decide +kernel
theorem dX8_lay_10 : decode cX8_lay 10 = .ok (.iload_n 1, 1) := by decide +kernel
theorem dX8_lay_11 : decode cX8_lay 11 = .ok (.iload_n 2, 1) := by decide +kernel
theorem dX8_lay_12 : decode cX8_lay 12 = .ok (.if_icmp .eq 7, 3) := by decide +kernel
theorem dX8_lay_15 : decode cX8_lay 15 = .ok (.iconst 1, 1) := by decide +kernel
theorem dX8_lay_16 : decode cX8_lay 16 = .ok (.goto 4, 3) := by decide +kernel
theorem dX8_lay_19 : decode cX8_lay 19 = .ok (.iconst 0, 1) := by decide +kernel
theorem dX8_lay_20 : decode cX8_lay 20 = .ok (.invokestatic 105, 3) := by decide +kernel
theorem dX8_lay_23 : decode cX8_lay 23 = .ok (.iload_n 3, 1) := by decide +kernel
theorem dX8_lay_24 : decode cX8_lay 24 = .ok (.iconst 2, 1) := by decide +kernel
theorem dX8_lay_25 : decode cX8_lay 25 = .ok (.bipush 60, 2) := by decide +kernel
theorem dX8_lay_27 : decode cX8_lay 27 = .ok (.invokestatic 87, 3) := by decide +kernel
theorem dX8_lay_30 : decode cX8_lay 30 = .ok (.iload 4, 2) := by decide +kernel
theorem dX8_lay_32 : decode cX8_lay 32 = .ok (.iconst 0, 1) := by decide +kernel
theorem dX8_lay_33 : decode cX8_lay 33 = .ok (.iconst 3, 1) := by decide +kernel
theorem dX8_lay_34 : decode cX8_lay 34 = .ok (.invokestatic 87, 3) := by decide +kernel
theorem dX8_lay_37 : decode cX8_lay 37 = .ok (.aload_n 0, 1) := by decide +kernel
theorem dX8_lay_38 : decode cX8_lay 38 = .ok (.getfield 18, 3) := by decide +kernel
theorem dX8_lay_41 : decode cX8_lay 41 = .ok (.invokevirtual 108, 3) := by decide +kernel
theorem dX8_lay_44 : decode cX8_lay 44 = .ok (.bipush 16, 2) := by decide +kernel
theorem dX8_lay_46 : decode cX8_lay 46 = .ok (.if_icmp .ge 7, 3) := by decide +kernel
theorem dX8_lay_49 : decode cX8_lay 49 = .ok (.iconst 1, 1) := by decide +kernel
theorem dX8_lay_50 : decode cX8_lay 50 = .ok (.goto 4, 3) := by decide +kernel
theorem dX8_lay_53 : decode cX8_lay 53 = .ok (.iconst 0, 1) := by decide +kernel
theorem dX8_lay_54 : decode cX8_lay 54 = .ok (.invokestatic 95, 3) := by decide +kernel
theorem dX8_lay_57 : decode cX8_lay 57 = .ok (.aload_n 0, 1) := by decide +kernel
theorem dX8_lay_58 : decode cX8_lay 58 = .ok (.dup, 1) := by decide +kernel
theorem dX8_lay_59 : decode cX8_lay 59 = .ok (.getfield 66, 3) := by decide +kernel
theorem dX8_lay_62 : decode cX8_lay 62 = .ok (.bipush 100, 2) := by decide +kernel
theorem dX8_lay_64 : decode cX8_lay 64 = .ok (.iload_n 3, 1) := by decide +kernel
theorem dX8_lay_65 : decode cX8_lay 65 = .ok (.imul, 1) := by decide +kernel
theorem dX8_lay_66 : decode cX8_lay 66 = .ok (.isub, 1) := by decide +kernel
theorem dX8_lay_67 : decode cX8_lay 67 = .ok (.putfield 66, 3) := by decide +kernel
theorem dX8_lay_70 : decode cX8_lay 70 = .ok (.aload_n 0, 1) := by decide +kernel
theorem dX8_lay_71 : decode cX8_lay 71 = .ok (.getfield 18, 3) := by decide +kernel
theorem dX8_lay_74 : decode cX8_lay 74 = .ok (.new 112, 3) := by decide +kernel
theorem dX8_lay_77 : decode cX8_lay 77 = .ok (.dup, 1) := by decide +kernel
theorem dX8_lay_78 : decode cX8_lay 78 = .ok (.iload_n 1, 1) := by decide +kernel
theorem dX8_lay_79 : decode cX8_lay 79 = .ok (.iload_n 2, 1) := by decide +kernel
theorem dX8_lay_80 : decode cX8_lay 80 = .ok (.iload_n 3, 1) := by decide +kernel
theorem dX8_lay_81 : decode cX8_lay 81 = .ok (.iload 4, 2) := by decide +kernel
theorem dX8_lay_83 : decode cX8_lay 83 = .ok (.invokespecial 114, 3) := by decide +kernel
theorem dX8_lay_86 : decode cX8_lay 86 = .ok (.invokevirtual 117, 3) := by decide +kernel
theorem dX8_lay_89 : decode cX8_lay 89 = .ok (.pop, 1) := by decide +kernel
theorem dX8_lay_90 : decode cX8_lay 90 = .ok (.aload_n 0, 1) := by decide +kernel
theorem dX8_lay_91 : decode cX8_lay 91 = .ok (.getfield 18, 3) := by decide +kernel
theorem dX8_lay_94 : decode cX8_lay 94 = .ok (.invokevirtual 108, 3) := by decide +kernel
theorem dX8_lay_97 : decode cX8_lay 97 = .ok (.iconst 1, 1) := by decide +kernel
theorem dX8_lay_98 : decode cX8_lay 98 = .ok (.isub, 1) := by decide +kernel
theorem dX8_lay_99 : decode cX8_lay 99 = .ok (.ireturn, 1) := by decide +kernel
theorem dX8_fail_0 : decode cX8_fail 0 = .ok (.aload_n 0, 1) := by decide +kernel
theorem dX8_fail_1 : decode cX8_fail 1 = .ok (.iload_n 1, 1) := by decide +kernel
theorem dX8_fail_2 : decode cX8_fail 2 = .ok (.invokevirtual 121, 3) := by decide +kernel
theorem dX8_fail_5 : decode cX8_fail 5 = .ok (.astore_n 3, 1) := by decide +kernel
theorem dX8_fail_6 : decode cX8_fail 6 = .ok (.aload_n 3, 1) := by decide +kernel
theorem dX8_fail_7 : decode cX8_fail 7 = .ok (.getfield 125, 3) := by decide +kernel
theorem dX8_fail_10 : decode cX8_fail 10 = .ok (.istore 4, 2) := by decide +kernel
theorem dX8_fail_12 : decode cX8_fail 12 = .ok (.aload_n 3, 1) := by decide +kernel
theorem dX8_fail_13 : decode cX8_fail 13 = .ok (.iload_n 2, 1) := by decide +kernel
theorem dX8_fail_14 : decode cX8_fail 14 = .ok (.putfield 125, 3) := by decide +kernel
theorem dX8_fail_17 : decode cX8_fail 17 = .ok (.aload_n 3, 1) := by decide +kernel
theorem dX8_fail_18 : decode cX8_fail 18 = .ok (.iconst 0, 1) := by decide +kernel
theorem dX8_fail_19 : decode cX8_fail 19 = .ok (.putfield 129, 3) := by decide +kernel
theorem dX8_fail_22 : decode cX8_fail 22 = .ok (.iload 4, 2) := by decide +kernel
theorem dX8_fail_24 : decode cX8_fail 24 = .ok (.ireturn, 1) := by decide +kernel
theorem dX8_flag_0 : decode cX8_flag 0 = .ok (.aload_n 0, 1) := by decide +kernel
theorem dX8_flag_1 : decode cX8_flag 1 = .ok (.iload_n 1, 1) := by decide +kernel
theorem dX8_flag_2 : decode cX8_flag 2 = .ok (.invokevirtual 121, 3) := by decide +kernel
theorem dX8_flag_5 : decode cX8_flag 5 = .ok (.astore_n 2, 1) := by decide +kernel
theorem dX8_flag_6 : decode cX8_flag 6 = .ok (.aload_n 2, 1) := by decide +kernel
theorem dX8_flag_7 : decode cX8_flag 7 = .ok (.getfield 125, 3) := by decide +kernel
theorem dX8_flag_10 : decode cX8_flag 10 = .ok (.ifCond .eq 14, 3) := by decide +kernel
theorem dX8_flag_13 : decode cX8_flag 13 = .ok (.aload_n 2, 1) := by decide +kernel
theorem dX8_flag_14 : decode cX8_flag 14 = .ok (.getfield 129, 3) := by decide +kernel
theorem dX8_flag_17 : decode cX8_flag 17 = .ok (.ifCond .ne 7, 3) := by decide +kernel
theorem dX8_flag_20 : decode cX8_flag 20 = .ok (.iconst 1, 1) := by decide +kernel
theorem dX8_flag_21 : decode cX8_flag 21 = .ok (.goto 4, 3) := by decide +kernel
theorem dX8_flag_24 : decode cX8_flag 24 = .ok (.iconst 0, 1) := by decide +kernel
theorem dX8_flag_25 : decode cX8_flag 25 = .ok (.invokestatic 95, 3) := by decide +kernel
theorem dX8_flag_28 : decode cX8_flag 28 = .ok (.aload_n 2, 1) := by decide +kernel
theorem dX8_flag_29 : decode cX8_flag 29 = .ok (.iconst 1, 1) := by decide +kernel
theorem dX8_flag_30 : decode cX8_flag 30 = .ok (.putfield 129, 3) := by decide +kernel
theorem dX8_flag_33 : decode cX8_flag 33 = .ok (.return_, 1) := by decide +kernel
theorem dX8_hours_0 : decode cX8_hours 0 = .ok (.aload_n 0, 1) := by decide +kernel
theorem dX8_hours_1 : decode cX8_hours 1 = .ok (.iload_n 1, 1) := by decide +kernel
theorem dX8_hours_2 : decode cX8_hours 2 = .ok (.invokevirtual 121, 3) := by decide +kernel
theorem dX8_hours_5 : decode cX8_hours 5 = .ok (.astore 4, 2) := by decide +kernel
theorem dX8_hours_7 : decode cX8_hours 7 = .ok (.iload_n 2, 1) := by decide +kernel
theorem dX8_hours_8 : decode cX8_hours 8 = .ok (.iconst 0, 1) := by decide +kernel
theorem dX8_hours_9 : decode cX8_hours 9 = .ok (.sipush 1440, 3) := by decide +kernel
theorem dX8_hours_12 : decode cX8_hours 12 = .ok (.invokestatic 87, 3) := by decide +kernel
theorem dX8_hours_15 : decode cX8_hours 15 = .ok (.iload_n 3, 1) := by decide +kernel
theorem dX8_hours_16 : decode cX8_hours 16 = .ok (.iload_n 2, 1) := by decide +kernel
theorem dX8_hours_17 : decode cX8_hours 17 = .ok (.sipush 1440, 3) := by decide +kernel
theorem dX8_hours_20 : decode cX8_hours 20 = .ok (.invokestatic 87, 3) := by decide +kernel
theorem dX8_hours_23 : decode cX8_hours 23 = .ok (.aload 4, 2) := by decide +kernel
theorem dX8_hours_25 : decode cX8_hours 25 = .ok (.iload_n 2, 1) := by decide +kernel
theorem dX8_hours_26 : decode cX8_hours 26 = .ok (.putfield 132, 3) := by decide +kernel
theorem dX8_hours_29 : decode cX8_hours 29 = .ok (.aload 4, 2) := by decide +kernel
theorem dX8_hours_31 : decode cX8_hours 31 = .ok (.iload_n 3, 1) := by decide +kernel
theorem dX8_hours_32 : decode cX8_hours 32 = .ok (.putfield 135, 3) := by decide +kernel
theorem dX8_hours_35 : decode cX8_hours 35 = .ok (.return_, 1) := by decide +kernel
theorem dX8_repair_0 : decode cX8_repair 0 = .ok (.aload_n 0, 1) := by decide +kernel
theorem dX8_repair_1 : decode cX8_repair 1 = .ok (.iload_n 1, 1) := by decide +kernel
theorem dX8_repair_2 : decode cX8_repair 2 = .ok (.invokevirtual 121, 3) := by decide +kernel
theorem dX8_repair_5 : decode cX8_repair 5 = .ok (.astore_n 2, 1) := by decide +kernel
theorem dX8_repair_6 : decode cX8_repair 6 = .ok (.aload_n 2, 1) := by decide +kernel
theorem dX8_repair_7 : decode cX8_repair 7 = .ok (.aload_n 0, 1) := by decide +kernel
theorem dX8_repair_8 : decode cX8_repair 8 = .ok (.getfield 62, 3) := by decide +kernel
theorem dX8_repair_11 : decode cX8_repair 11 = .ok (.invokevirtual 138, 3) := by decide +kernel
theorem dX8_repair_14 : decode cX8_repair 14 = .ok (.iconst (-1), 1) := by decide +kernel
theorem dX8_repair_15 : decode cX8_repair 15 = .ok (.if_icmp .ne 18, 3) := by decide +kernel
theorem dX8_repair_18 : decode cX8_repair 18 = .ok (.aload_n 2, 1) := by decide +kernel
theorem dX8_repair_19 : decode cX8_repair 19 = .ok (.aload_n 0, 1) := by decide +kernel
theorem dX8_repair_20 : decode cX8_repair 20 = .ok (.getfield 62, 3) := by decide +kernel
theorem dX8_repair_23 : decode cX8_repair 23 = .ok (.invokevirtual 141, 3) := by decide +kernel
theorem dX8_repair_26 : decode cX8_repair 26 = .ok (.ifCond .ne 7, 3) := by decide +kernel
theorem dX8_repair_29 : decode cX8_repair 29 = .ok (.iconst 1, 1) := by decide +kernel
theorem dX8_repair_30 : decode cX8_repair 30 = .ok (.goto 4, 3) := by decide +kernel
theorem dX8_repair_33 : decode cX8_repair 33 = .ok (.iconst 0, 1) := by decide +kernel
theorem dX8_repair_34 : decode cX8_repair 34 = .ok (.invokestatic 95, 3) := by decide +kernel
theorem dX8_repair_37 : decode cX8_repair 37 = .ok (.iconst 5, 1) := by decide +kernel
theorem dX8_repair_38 : decode cX8_repair 38 = .ok (.aload_n 2, 1) := by decide +kernel
theorem dX8_repair_39 : decode cX8_repair 39 = .ok (.getfield 145, 3) := by decide +kernel
theorem dX8_repair_42 : decode cX8_repair 42 = .ok (.imul, 1) := by decide +kernel
theorem dX8_repair_43 : decode cX8_repair 43 = .ok (.istore_n 3, 1) := by decide +kernel
theorem dX8_repair_44 : decode cX8_repair 44 = .ok (.aload_n 0, 1) := by decide +kernel
theorem dX8_repair_45 : decode cX8_repair 45 = .ok (.dup, 1) := by decide +kernel
theorem dX8_repair_46 : decode cX8_repair 46 = .ok (.getfield 66, 3) := by decide +kernel
theorem dX8_repair_49 : decode cX8_repair 49 = .ok (.iload_n 3, 1) := by decide +kernel
theorem dX8_repair_50 : decode cX8_repair 50 = .ok (.isub, 1) := by decide +kernel
theorem dX8_repair_51 : decode cX8_repair 51 = .ok (.putfield 66, 3) := by decide +kernel
theorem dX8_repair_54 : decode cX8_repair 54 = .ok (.aload_n 2, 1) := by decide +kernel
theorem dX8_repair_55 : decode cX8_repair 55 = .ok (.iconst 0, 1) := by decide +kernel
theorem dX8_repair_56 : decode cX8_repair 56 = .ok (.putfield 145, 3) := by decide +kernel
theorem dX8_repair_59 : decode cX8_repair 59 = .ok (.aload_n 2, 1) := by decide +kernel
theorem dX8_repair_60 : decode cX8_repair 60 = .ok (.aload_n 0, 1) := by decide +kernel
theorem dX8_repair_61 : decode cX8_repair 61 = .ok (.getfield 62, 3) := by decide +kernel
theorem dX8_repair_64 : decode cX8_repair 64 = .ok (.bipush 30, 2) := by decide +kernel
theorem dX8_repair_66 : decode cX8_repair 66 = .ok (.iadd, 1) := by decide +kernel
theorem dX8_repair_67 : decode cX8_repair 67 = .ok (.putfield 148, 3) := by decide +kernel
theorem dX8_repair_70 : decode cX8_repair 70 = .ok (.iload_n 3, 1) := by decide +kernel
theorem dX8_repair_71 : decode cX8_repair 71 = .ok (.ireturn, 1) := by decide +kernel
theorem dX8_engine_0 : decode cX8_engine 0 = .ok (.aload_n 0, 1) := by decide +kernel
theorem dX8_engine_1 : decode cX8_engine 1 = .ok (.iload_n 1, 1) := by decide +kernel
theorem dX8_engine_2 : decode cX8_engine 2 = .ok (.invokevirtual 102, 3) := by decide +kernel
theorem dX8_engine_5 : decode cX8_engine 5 = .ok (.iload_n 2, 1) := by decide +kernel
theorem dX8_engine_6 : decode cX8_engine 6 = .ok (.iconst 1, 1) := by decide +kernel
theorem dX8_engine_7 : decode cX8_engine 7 = .ok (.bipush 9, 2) := by decide +kernel
theorem dX8_engine_9 : decode cX8_engine 9 = .ok (.invokestatic 87, 3) := by decide +kernel
theorem dX8_engine_12 : decode cX8_engine 12 = .ok (.aload_n 0, 1) := by decide +kernel
theorem dX8_engine_13 : decode cX8_engine 13 = .ok (.getfield 22, 3) := by decide +kernel
theorem dX8_engine_16 : decode cX8_engine 16 = .ok (.invokevirtual 108, 3) := by decide +kernel
theorem dX8_engine_19 : decode cX8_engine 19 = .ok (.bipush 6, 2) := by decide +kernel
theorem dX8_engine_21 : decode cX8_engine 21 = .ok (.if_icmp .ge 7, 3) := by decide +kernel
theorem dX8_engine_24 : decode cX8_engine 24 = .ok (.iconst 1, 1) := by decide +kernel
theorem dX8_engine_25 : decode cX8_engine 25 = .ok (.goto 4, 3) := by decide +kernel
theorem dX8_engine_28 : decode cX8_engine 28 = .ok (.iconst 0, 1) := by decide +kernel
theorem dX8_engine_29 : decode cX8_engine 29 = .ok (.invokestatic 95, 3) := by decide +kernel
theorem dX8_engine_32 : decode cX8_engine 32 = .ok (.aload_n 0, 1) := by decide +kernel
theorem dX8_engine_33 : decode cX8_engine 33 = .ok (.dup, 1) := by decide +kernel
theorem dX8_engine_34 : decode cX8_engine 34 = .ok (.getfield 66, 3) := by decide +kernel
theorem dX8_engine_37 : decode cX8_engine 37 = .ok (.bipush 100, 2) := by decide +kernel
theorem dX8_engine_39 : decode cX8_engine 39 = .ok (.iload_n 2, 1) := by decide +kernel
theorem dX8_engine_40 : decode cX8_engine 40 = .ok (.imul, 1) := by decide +kernel
theorem dX8_engine_41 : decode cX8_engine 41 = .ok (.isub, 1) := by decide +kernel
theorem dX8_engine_42 : decode cX8_engine 42 = .ok (.putfield 66, 3) := by decide +kernel
theorem dX8_engine_45 : decode cX8_engine 45 = .ok (.aload_n 0, 1) := by decide +kernel
theorem dX8_engine_46 : decode cX8_engine 46 = .ok (.getfield 22, 3) := by decide +kernel
theorem dX8_engine_49 : decode cX8_engine 49 = .ok (.new 151, 3) := by decide +kernel
theorem dX8_engine_52 : decode cX8_engine 52 = .ok (.dup, 1) := by decide +kernel
theorem dX8_engine_53 : decode cX8_engine 53 = .ok (.iload_n 1, 1) := by decide +kernel
theorem dX8_engine_54 : decode cX8_engine 54 = .ok (.iload_n 2, 1) := by decide +kernel
theorem dX8_engine_55 : decode cX8_engine 55 = .ok (.invokespecial 153, 3) := by decide +kernel
theorem dX8_engine_58 : decode cX8_engine 58 = .ok (.invokevirtual 117, 3) := by decide +kernel
theorem dX8_engine_61 : decode cX8_engine 61 = .ok (.pop, 1) := by decide +kernel
theorem dX8_engine_62 : decode cX8_engine 62 = .ok (.aload_n 0, 1) := by decide +kernel
theorem dX8_engine_63 : decode cX8_engine 63 = .ok (.getfield 22, 3) := by decide +kernel
theorem dX8_engine_66 : decode cX8_engine 66 = .ok (.invokevirtual 108, 3) := by decide +kernel
theorem dX8_engine_69 : decode cX8_engine 69 = .ok (.iconst 1, 1) := by decide +kernel
theorem dX8_engine_70 : decode cX8_engine 70 = .ok (.isub, 1) := by decide +kernel
theorem dX8_engine_71 : decode cX8_engine 71 = .ok (.ireturn, 1) := by decide +kernel
theorem dX8_crew_0 : decode cX8_crew 0 = .ok (.aload_n 0, 1) := by decide +kernel
theorem dX8_crew_1 : decode cX8_crew 1 = .ok (.iload_n 1, 1) := by decide +kernel
theorem dX8_crew_2 : decode cX8_crew 2 = .ok (.invokevirtual 102, 3) := by decide +kernel
theorem dX8_crew_5 : decode cX8_crew 5 = .ok (.aload_n 0, 1) := by decide +kernel
theorem dX8_crew_6 : decode cX8_crew 6 = .ok (.getfield 25, 3) := by decide +kernel
theorem dX8_crew_9 : decode cX8_crew 9 = .ok (.invokevirtual 108, 3) := by decide +kernel
theorem dX8_crew_12 : decode cX8_crew 12 = .ok (.bipush 6, 2) := by decide +kernel
theorem dX8_crew_14 : decode cX8_crew 14 = .ok (.if_icmp .ge 7, 3) := by decide +kernel
theorem dX8_crew_17 : decode cX8_crew 17 = .ok (.iconst 1, 1) := by decide +kernel
theorem dX8_crew_18 : decode cX8_crew 18 = .ok (.goto 4, 3) := by decide +kernel
theorem dX8_crew_21 : decode cX8_crew 21 = .ok (.iconst 0, 1) := by decide +kernel
theorem dX8_crew_22 : decode cX8_crew 22 = .ok (.invokestatic 95, 3) := by decide +kernel
theorem dX8_crew_25 : decode cX8_crew 25 = .ok (.aload_n 0, 1) := by decide +kernel
theorem dX8_crew_26 : decode cX8_crew 26 = .ok (.getfield 25, 3) := by decide +kernel
theorem dX8_crew_29 : decode cX8_crew 29 = .ok (.new 156, 3) := by decide +kernel
theorem dX8_crew_32 : decode cX8_crew 32 = .ok (.dup, 1) := by decide +kernel
theorem dX8_crew_33 : decode cX8_crew 33 = .ok (.iload_n 1, 1) := by decide +kernel
theorem dX8_crew_34 : decode cX8_crew 34 = .ok (.invokespecial 158, 3) := by decide +kernel
theorem dX8_crew_37 : decode cX8_crew 37 = .ok (.invokevirtual 117, 3) := by decide +kernel
theorem dX8_crew_40 : decode cX8_crew 40 = .ok (.pop, 1) := by decide +kernel
theorem dX8_crew_41 : decode cX8_crew 41 = .ok (.aload_n 0, 1) := by decide +kernel
theorem dX8_crew_42 : decode cX8_crew 42 = .ok (.getfield 25, 3) := by decide +kernel
theorem dX8_crew_45 : decode cX8_crew 45 = .ok (.invokevirtual 108, 3) := by decide +kernel
theorem dX8_crew_48 : decode cX8_crew 48 = .ok (.iconst 1, 1) := by decide +kernel
theorem dX8_crew_49 : decode cX8_crew 49 = .ok (.isub, 1) := by decide +kernel
theorem dX8_crew_50 : decode cX8_crew 50 = .ok (.ireturn, 1) := by decide +kernel
theorem dX8_learn_0 : decode cX8_learn 0 = .ok (.aload_n 0, 1) := by decide +kernel
theorem dX8_learn_1 : decode cX8_learn 1 = .ok (.iload_n 1, 1) := by decide +kernel
theorem dX8_learn_2 : decode cX8_learn 2 = .ok (.invokevirtual 159, 3) := by decide +kernel
theorem dX8_learn_5 : decode cX8_learn 5 = .ok (.astore_n 3, 1) := by decide +kernel
theorem dX8_learn_6 : decode cX8_learn 6 = .ok (.aload_n 0, 1) := by decide +kernel
theorem dX8_learn_7 : decode cX8_learn 7 = .ok (.iload_n 2, 1) := by decide +kernel
theorem dX8_learn_8 : decode cX8_learn 8 = .ok (.invokevirtual 163, 3) := by decide +kernel
theorem dX8_learn_11 : decode cX8_learn 11 = .ok (.aload_n 3, 1) := by decide +kernel
theorem dX8_learn_12 : decode cX8_learn 12 = .ok (.dup, 1) := by decide +kernel
theorem dX8_learn_13 : decode cX8_learn 13 = .ok (.getfield 166, 3) := by decide +kernel
theorem dX8_learn_16 : decode cX8_learn 16 = .ok (.iconst 1, 1) := by decide +kernel
theorem dX8_learn_17 : decode cX8_learn 17 = .ok (.iload_n 2, 1) := by decide +kernel
theorem dX8_learn_18 : decode cX8_learn 18 = .ok (.ishl, 1) := by decide +kernel
theorem dX8_learn_19 : decode cX8_learn 19 = .ok (.ior, 1) := by decide +kernel
theorem dX8_learn_20 : decode cX8_learn 20 = .ok (.putfield 166, 3) := by decide +kernel
theorem dX8_learn_23 : decode cX8_learn 23 = .ok (.aload_n 3, 1) := by decide +kernel
theorem dX8_learn_24 : decode cX8_learn 24 = .ok (.getfield 166, 3) := by decide +kernel
theorem dX8_learn_27 : decode cX8_learn 27 = .ok (.invokestatic 169, 3) := by decide +kernel
theorem dX8_learn_30 : decode cX8_learn 30 = .ok (.ireturn, 1) := by decide +kernel
theorem dX8_rest_0 : decode cX8_rest 0 = .ok (.aload_n 0, 1) := by decide +kernel
theorem dX8_rest_1 : decode cX8_rest 1 = .ok (.iload_n 1, 1) := by decide +kernel
theorem dX8_rest_2 : decode cX8_rest 2 = .ok (.invokevirtual 159, 3) := by decide +kernel
theorem dX8_rest_5 : decode cX8_rest 5 = .ok (.astore_n 2, 1) := by decide +kernel
theorem dX8_rest_6 : decode cX8_rest 6 = .ok (.aload_n 2, 1) := by decide +kernel
theorem dX8_rest_7 : decode cX8_rest 7 = .ok (.aload_n 0, 1) := by decide +kernel
theorem dX8_rest_8 : decode cX8_rest 8 = .ok (.getfield 62, 3) := by decide +kernel
theorem dX8_rest_11 : decode cX8_rest 11 = .ok (.invokevirtual 174, 3) := by decide +kernel
theorem dX8_rest_14 : decode cX8_rest 14 = .ok (.ifCond .ne 7, 3) := by decide +kernel
theorem dX8_rest_17 : decode cX8_rest 17 = .ok (.iconst 1, 1) := by decide +kernel
theorem dX8_rest_18 : decode cX8_rest 18 = .ok (.goto 4, 3) := by decide +kernel
theorem dX8_rest_21 : decode cX8_rest 21 = .ok (.iconst 0, 1) := by decide +kernel
theorem dX8_rest_22 : decode cX8_rest 22 = .ok (.invokestatic 95, 3) := by decide +kernel
theorem dX8_rest_25 : decode cX8_rest 25 = .ok (.aload_n 2, 1) := by decide +kernel
theorem dX8_rest_26 : decode cX8_rest 26 = .ok (.getfield 177, 3) := by decide +kernel
theorem dX8_rest_29 : decode cX8_rest 29 = .ok (.iconst (-1), 1) := by decide +kernel
theorem dX8_rest_30 : decode cX8_rest 30 = .ok (.if_icmp .eq 17, 3) := by decide +kernel
theorem dX8_rest_33 : decode cX8_rest 33 = .ok (.aload_n 0, 1) := by decide +kernel
theorem dX8_rest_34 : decode cX8_rest 34 = .ok (.aload_n 2, 1) := by decide +kernel
theorem dX8_rest_35 : decode cX8_rest 35 = .ok (.getfield 177, 3) := by decide +kernel
theorem dX8_rest_38 : decode cX8_rest 38 = .ok (.invokevirtual 180, 3) := by decide +kernel
theorem dX8_rest_41 : decode cX8_rest 41 = .ok (.invokevirtual 184, 3) := by decide +kernel
theorem dX8_rest_44 : decode cX8_rest 44 = .ok (.ifCond .eq 7, 3) := by decide +kernel
theorem dX8_rest_47 : decode cX8_rest 47 = .ok (.iconst 1, 1) := by decide +kernel
theorem dX8_rest_48 : decode cX8_rest 48 = .ok (.goto 4, 3) := by decide +kernel
theorem dX8_rest_51 : decode cX8_rest 51 = .ok (.iconst 0, 1) := by decide +kernel
theorem dX8_rest_52 : decode cX8_rest 52 = .ok (.invokestatic 95, 3) := by decide +kernel
theorem dX8_rest_55 : decode cX8_rest 55 = .ok (.aload_n 2, 1) := by decide +kernel
theorem dX8_rest_56 : decode cX8_rest 56 = .ok (.iconst 0, 1) := by decide +kernel
theorem dX8_rest_57 : decode cX8_rest 57 = .ok (.putfield 188, 3) := by decide +kernel
theorem dX8_rest_60 : decode cX8_rest 60 = .ok (.aload_n 2, 1) := by decide +kernel
theorem dX8_rest_61 : decode cX8_rest 61 = .ok (.aload_n 0, 1) := by decide +kernel
theorem dX8_rest_62 : decode cX8_rest 62 = .ok (.getfield 62, 3) := by decide +kernel
theorem dX8_rest_65 : decode cX8_rest 65 = .ok (.sipush 480, 3) := by decide +kernel
theorem dX8_rest_68 : decode cX8_rest 68 = .ok (.iadd, 1) := by decide +kernel
theorem dX8_rest_69 : decode cX8_rest 69 = .ok (.putfield 191, 3) := by decide +kernel
theorem dX8_rest_72 : decode cX8_rest 72 = .ok (.aload_n 2, 1) := by decide +kernel
theorem dX8_rest_73 : decode cX8_rest 73 = .ok (.getfield 191, 3) := by decide +kernel
theorem dX8_rest_76 : decode cX8_rest 76 = .ok (.ireturn, 1) := by decide +kernel
theorem dX8_car_0 : decode cX8_car 0 = .ok (.aload_n 0, 1) := by decide +kernel
theorem dX8_car_1 : decode cX8_car 1 = .ok (.iload_n 1, 1) := by decide +kernel
theorem dX8_car_2 : decode cX8_car 2 = .ok (.invokevirtual 83, 3) := by decide +kernel
theorem dX8_car_5 : decode cX8_car 5 = .ok (.astore_n 2, 1) := by decide +kernel
theorem dX8_car_6 : decode cX8_car 6 = .ok (.aload_n 0, 1) := by decide +kernel
theorem dX8_car_7 : decode cX8_car 7 = .ok (.getfield 28, 3) := by decide +kernel
theorem dX8_car_10 : decode cX8_car 10 = .ok (.invokevirtual 108, 3) := by decide +kernel
theorem dX8_car_13 : decode cX8_car 13 = .ok (.bipush 20, 2) := by decide +kernel
theorem dX8_car_15 : decode cX8_car 15 = .ok (.if_icmp .ge 7, 3) := by decide +kernel
theorem dX8_car_18 : decode cX8_car 18 = .ok (.iconst 1, 1) := by decide +kernel
theorem dX8_car_19 : decode cX8_car 19 = .ok (.goto 4, 3) := by decide +kernel
theorem dX8_car_22 : decode cX8_car 22 = .ok (.iconst 0, 1) := by decide +kernel
theorem dX8_car_23 : decode cX8_car 23 = .ok (.invokestatic 95, 3) := by decide +kernel
theorem dX8_car_26 : decode cX8_car 26 = .ok (.aload_n 0, 1) := by decide +kernel
theorem dX8_car_27 : decode cX8_car 27 = .ok (.dup, 1) := by decide +kernel
theorem dX8_car_28 : decode cX8_car 28 = .ok (.getfield 66, 3) := by decide +kernel
theorem dX8_car_31 : decode cX8_car 31 = .ok (.bipush 50, 2) := by decide +kernel
theorem dX8_car_33 : decode cX8_car 33 = .ok (.isub, 1) := by decide +kernel
theorem dX8_car_34 : decode cX8_car 34 = .ok (.putfield 66, 3) := by decide +kernel
theorem dX8_car_37 : decode cX8_car 37 = .ok (.new 194, 3) := by decide +kernel
theorem dX8_car_40 : decode cX8_car 40 = .ok (.dup, 1) := by decide +kernel
theorem dX8_car_41 : decode cX8_car 41 = .ok (.iload_n 1, 1) := by decide +kernel
theorem dX8_car_42 : decode cX8_car 42 = .ok (.invokespecial 196, 3) := by decide +kernel
theorem dX8_car_45 : decode cX8_car 45 = .ok (.astore_n 3, 1) := by decide +kernel
theorem dX8_car_46 : decode cX8_car 46 = .ok (.aload_n 3, 1) := by decide +kernel
theorem dX8_car_47 : decode cX8_car 47 = .ok (.iconst 0, 1) := by decide +kernel
theorem dX8_car_48 : decode cX8_car 48 = .ok (.iload_n 1, 1) := by decide +kernel
theorem dX8_car_49 : decode cX8_car 49 = .ok (.invokevirtual 197, 3) := by decide +kernel
theorem dX8_car_52 : decode cX8_car 52 = .ok (.aload_n 0, 1) := by decide +kernel
theorem dX8_car_53 : decode cX8_car 53 = .ok (.getfield 28, 3) := by decide +kernel
theorem dX8_car_56 : decode cX8_car 56 = .ok (.aload_n 3, 1) := by decide +kernel
theorem dX8_car_57 : decode cX8_car 57 = .ok (.invokevirtual 117, 3) := by decide +kernel
theorem dX8_car_60 : decode cX8_car 60 = .ok (.pop, 1) := by decide +kernel
theorem dX8_car_61 : decode cX8_car 61 = .ok (.aload_n 2, 1) := by decide +kernel
theorem dX8_car_62 : decode cX8_car 62 = .ok (.getfield 200, 3) := by decide +kernel
theorem dX8_car_65 : decode cX8_car 65 = .ok (.aload_n 0, 1) := by decide +kernel
theorem dX8_car_66 : decode cX8_car 66 = .ok (.getfield 28, 3) := by decide +kernel
theorem dX8_car_69 : decode cX8_car 69 = .ok (.invokevirtual 108, 3) := by decide +kernel
theorem dX8_car_72 : decode cX8_car 72 = .ok (.iconst 1, 1) := by decide +kernel
theorem dX8_car_73 : decode cX8_car 73 = .ok (.isub, 1) := by decide +kernel
theorem dX8_car_74 : decode cX8_car 74 = .ok (.invokevirtual 203, 3) := by decide +kernel
theorem dX8_car_77 : decode cX8_car 77 = .ok (.aload_n 0, 1) := by decide +kernel
theorem dX8_car_78 : decode cX8_car 78 = .ok (.getfield 28, 3) := by decide +kernel
theorem dX8_car_81 : decode cX8_car 81 = .ok (.invokevirtual 108, 3) := by decide +kernel
theorem dX8_car_84 : decode cX8_car 84 = .ok (.iconst 1, 1) := by decide +kernel
theorem dX8_car_85 : decode cX8_car 85 = .ok (.isub, 1) := by decide +kernel
theorem dX8_car_86 : decode cX8_car 86 = .ok (.ireturn, 1) := by decide +kernel
theorem dX8_form_0 : decode cX8_form 0 = .ok (.aload_n 0, 1) := by decide +kernel
theorem dX8_form_1 : decode cX8_form 1 = .ok (.iload_n 1, 1) := by decide +kernel
theorem dX8_form_2 : decode cX8_form 2 = .ok (.invokevirtual 207, 3) := by decide +kernel
theorem dX8_form_5 : decode cX8_form 5 = .ok (.astore_n 3, 1) := by decide +kernel
theorem dX8_form_6 : decode cX8_form 6 = .ok (.aload_n 0, 1) := by decide +kernel
theorem dX8_form_7 : decode cX8_form 7 = .ok (.iload_n 2, 1) := by decide +kernel
theorem dX8_form_8 : decode cX8_form 8 = .ok (.invokevirtual 159, 3) := by decide +kernel
theorem dX8_form_11 : decode cX8_form 11 = .ok (.astore 4, 2) := by decide +kernel
theorem dX8_form_13 : decode cX8_form 13 = .ok (.aload_n 3, 1) := by decide +kernel
theorem dX8_form_14 : decode cX8_form 14 = .ok (.getfield 211, 3) := by decide +kernel
theorem dX8_form_17 : decode cX8_form 17 = .ok (.iconst (-1), 1) := by decide +kernel
theorem dX8_form_18 : decode cX8_form 18 = .ok (.if_icmp .ne 16, 3) := by decide +kernel
theorem dX8_form_21 : decode cX8_form 21 = .ok (.aload 4, 2) := by decide +kernel
theorem dX8_form_23 : decode cX8_form 23 = .ok (.getfield 177, 3) := by decide +kernel
theorem dX8_form_26 : decode cX8_form 26 = .ok (.iconst (-1), 1) := by decide +kernel
theorem dX8_form_27 : decode cX8_form 27 = .ok (.if_icmp .ne 7, 3) := by decide +kernel
theorem dX8_form_30 : decode cX8_form 30 = .ok (.iconst 1, 1) := by decide +kernel
theorem dX8_form_31 : decode cX8_form 31 = .ok (.goto 4, 3) := by decide +kernel
theorem dX8_form_34 : decode cX8_form 34 = .ok (.iconst 0, 1) := by decide +kernel
theorem dX8_form_35 : decode cX8_form 35 = .ok (.invokestatic 95, 3) := by decide +kernel
theorem dX8_form_38 : decode cX8_form 38 = .ok (.aload_n 3, 1) := by decide +kernel
theorem dX8_form_39 : decode cX8_form 39 = .ok (.getfield 212, 3) := by decide +kernel
theorem dX8_form_42 : decode cX8_form 42 = .ok (.aload 4, 2) := by decide +kernel
theorem dX8_form_44 : decode cX8_form 44 = .ok (.getfield 215, 3) := by decide +kernel
theorem dX8_form_47 : decode cX8_form 47 = .ok (.if_icmp .ne 19, 3) := by decide +kernel
theorem dX8_form_50 : decode cX8_form 50 = .ok (.aload 4, 2) := by decide +kernel
theorem dX8_form_52 : decode cX8_form 52 = .ok (.aload_n 0, 1) := by decide +kernel
theorem dX8_form_53 : decode cX8_form 53 = .ok (.getfield 62, 3) := by decide +kernel
theorem dX8_form_56 : decode cX8_form 56 = .ok (.invokevirtual 174, 3) := by decide +kernel
theorem dX8_form_59 : decode cX8_form 59 = .ok (.ifCond .ne 7, 3) := by decide +kernel
theorem dX8_form_62 : decode cX8_form 62 = .ok (.iconst 1, 1) := by decide +kernel
theorem dX8_form_63 : decode cX8_form 63 = .ok (.goto 4, 3) := by decide +kernel
theorem dX8_form_66 : decode cX8_form 66 = .ok (.iconst 0, 1) := by decide +kernel
theorem dX8_form_67 : decode cX8_form 67 = .ok (.invokestatic 95, 3) := by decide +kernel
theorem dX8_form_70 : decode cX8_form 70 = .ok (.aload_n 0, 1) := by decide +kernel
theorem dX8_form_71 : decode cX8_form 71 = .ok (.aload_n 3, 1) := by decide +kernel
theorem dX8_form_72 : decode cX8_form 72 = .ok (.getfield 212, 3) := by decide +kernel
theorem dX8_form_75 : decode cX8_form 75 = .ok (.invokevirtual 216, 3) := by decide +kernel
theorem dX8_form_78 : decode cX8_form 78 = .ok (.ifCond .le 7, 3) := by decide +kernel
theorem dX8_form_81 : decode cX8_form 81 = .ok (.iconst 1, 1) := by decide +kernel
theorem dX8_form_82 : decode cX8_form 82 = .ok (.goto 4, 3) := by decide +kernel
theorem dX8_form_85 : decode cX8_form 85 = .ok (.iconst 0, 1) := by decide +kernel
theorem dX8_form_86 : decode cX8_form 86 = .ok (.invokestatic 95, 3) := by decide +kernel
theorem dX8_form_89 : decode cX8_form 89 = .ok (.aload_n 0, 1) := by decide +kernel
theorem dX8_form_90 : decode cX8_form 90 = .ok (.invokevirtual 219, 3) := by decide +kernel
theorem dX8_form_93 : decode cX8_form 93 = .ok (.istore 5, 2) := by decide +kernel
theorem dX8_form_95 : decode cX8_form 95 = .ok (.iload 5, 2) := by decide +kernel
theorem dX8_form_97 : decode cX8_form 97 = .ok (.iconst (-1), 1) := by decide +kernel
theorem dX8_form_98 : decode cX8_form 98 = .ok (.if_icmp .eq 7, 3) := by decide +kernel
theorem dX8_form_101 : decode cX8_form 101 = .ok (.iconst 1, 1) := by decide +kernel
theorem dX8_form_102 : decode cX8_form 102 = .ok (.goto 4, 3) := by decide +kernel
theorem dX8_form_105 : decode cX8_form 105 = .ok (.iconst 0, 1) := by decide +kernel
theorem dX8_form_106 : decode cX8_form 106 = .ok (.invokestatic 95, 3) := by decide +kernel
theorem dX8_form_109 : decode cX8_form 109 = .ok (.aload_n 0, 1) := by decide +kernel
theorem dX8_form_110 : decode cX8_form 110 = .ok (.getfield 36, 3) := by decide +kernel
theorem dX8_form_113 : decode cX8_form 113 = .ok (.iload 5, 2) := by decide +kernel
theorem dX8_form_115 : decode cX8_form 115 = .ok (.aaload, 1) := by decide +kernel
theorem dX8_form_116 : decode cX8_form 116 = .ok (.iload_n 1, 1) := by decide +kernel
theorem dX8_form_117 : decode cX8_form 117 = .ok (.iload_n 2, 1) := by decide +kernel
theorem dX8_form_118 : decode cX8_form 118 = .ok (.aload_n 3, 1) := by decide +kernel
theorem dX8_form_119 : decode cX8_form 119 = .ok (.getfield 222, 3) := by decide +kernel
theorem dX8_form_122 : decode cX8_form 122 = .ok (.aload_n 3, 1) := by decide +kernel
theorem dX8_form_123 : decode cX8_form 123 = .ok (.getfield 212, 3) := by decide +kernel
theorem dX8_form_126 : decode cX8_form 126 = .ok (.invokevirtual 225, 3) := by decide +kernel
theorem dX8_form_129 : decode cX8_form 129 = .ok (.aload_n 3, 1) := by decide +kernel
theorem dX8_form_130 : decode cX8_form 130 = .ok (.iload 5, 2) := by decide +kernel
theorem dX8_form_132 : decode cX8_form 132 = .ok (.putfield 211, 3) := by decide +kernel
theorem dX8_form_135 : decode cX8_form 135 = .ok (.aload 4, 2) := by decide +kernel
theorem dX8_form_137 : decode cX8_form 137 = .ok (.iload 5, 2) := by decide +kernel
theorem dX8_form_139 : decode cX8_form 139 = .ok (.putfield 177, 3) := by decide +kernel
theorem dX8_form_142 : decode cX8_form 142 = .ok (.iload 5, 2) := by decide +kernel
theorem dX8_form_144 : decode cX8_form 144 = .ok (.ireturn, 1) := by decide +kernel
theorem dX8_couple_0 : decode cX8_couple 0 = .ok (.aload_n 0, 1) := by decide +kernel
theorem dX8_couple_1 : decode cX8_couple 1 = .ok (.iload_n 1, 1) := by decide +kernel
theorem dX8_couple_2 : decode cX8_couple 2 = .ok (.invokevirtual 180, 3) := by decide +kernel
theorem dX8_couple_5 : decode cX8_couple 5 = .ok (.astore_n 3, 1) := by decide +kernel
theorem dX8_couple_6 : decode cX8_couple 6 = .ok (.aload_n 0, 1) := by decide +kernel
theorem dX8_couple_7 : decode cX8_couple 7 = .ok (.iload_n 2, 1) := by decide +kernel
theorem dX8_couple_8 : decode cX8_couple 8 = .ok (.invokevirtual 241, 3) := by decide +kernel
theorem dX8_couple_11 : decode cX8_couple 11 = .ok (.astore 4, 2) := by decide +kernel
theorem dX8_couple_13 : decode cX8_couple 13 = .ok (.aload_n 3, 1) := by decide +kernel
theorem dX8_couple_14 : decode cX8_couple 14 = .ok (.invokevirtual 184, 3) := by decide +kernel
theorem dX8_couple_17 : decode cX8_couple 17 = .ok (.ifCond .eq 19, 3) := by decide +kernel
theorem dX8_couple_20 : decode cX8_couple 20 = .ok (.aload_n 3, 1) := by decide +kernel
theorem dX8_couple_21 : decode cX8_couple 21 = .ok (.getfield 228, 3) := by decide +kernel
theorem dX8_couple_24 : decode cX8_couple 24 = .ok (.getfield 230, 3) := by decide +kernel
theorem dX8_couple_27 : decode cX8_couple 27 = .ok (.bipush 10, 2) := by decide +kernel
theorem dX8_couple_29 : decode cX8_couple 29 = .ok (.if_icmp .ge 7, 3) := by decide +kernel
theorem dX8_couple_32 : decode cX8_couple 32 = .ok (.iconst 1, 1) := by decide +kernel
theorem dX8_couple_33 : decode cX8_couple 33 = .ok (.goto 4, 3) := by decide +kernel
theorem dX8_couple_36 : decode cX8_couple 36 = .ok (.iconst 0, 1) := by decide +kernel
theorem dX8_couple_37 : decode cX8_couple 37 = .ok (.invokestatic 95, 3) := by decide +kernel
theorem dX8_couple_40 : decode cX8_couple 40 = .ok (.aload 4, 2) := by decide +kernel
theorem dX8_couple_42 : decode cX8_couple 42 = .ok (.getfield 245, 3) := by decide +kernel
theorem dX8_couple_45 : decode cX8_couple 45 = .ok (.iconst (-1), 1) := by decide +kernel
theorem dX8_couple_46 : decode cX8_couple 46 = .ok (.if_icmp .ne 19, 3) := by decide +kernel
theorem dX8_couple_49 : decode cX8_couple 49 = .ok (.aload 4, 2) := by decide +kernel
theorem dX8_couple_51 : decode cX8_couple 51 = .ok (.getfield 246, 3) := by decide +kernel
theorem dX8_couple_54 : decode cX8_couple 54 = .ok (.aload_n 3, 1) := by decide +kernel
theorem dX8_couple_55 : decode cX8_couple 55 = .ok (.getfield 236, 3) := by decide +kernel
theorem dX8_couple_58 : decode cX8_couple 58 = .ok (.if_icmp .ne 7, 3) := by decide +kernel
theorem dX8_couple_61 : decode cX8_couple 61 = .ok (.iconst 1, 1) := by decide +kernel
theorem dX8_couple_62 : decode cX8_couple 62 = .ok (.goto 4, 3) := by decide +kernel
theorem dX8_couple_65 : decode cX8_couple 65 = .ok (.iconst 0, 1) := by decide +kernel
theorem dX8_couple_66 : decode cX8_couple 66 = .ok (.invokestatic 95, 3) := by decide +kernel
theorem dX8_couple_69 : decode cX8_couple 69 = .ok (.aload_n 0, 1) := by decide +kernel
theorem dX8_couple_70 : decode cX8_couple 70 = .ok (.aload 4, 2) := by decide +kernel
theorem dX8_couple_72 : decode cX8_couple 72 = .ok (.getfield 246, 3) := by decide +kernel
theorem dX8_couple_75 : decode cX8_couple 75 = .ok (.invokevirtual 83, 3) := by decide +kernel
theorem dX8_couple_78 : decode cX8_couple 78 = .ok (.getfield 200, 3) := by decide +kernel
theorem dX8_couple_81 : decode cX8_couple 81 = .ok (.iload_n 2, 1) := by decide +kernel
theorem dX8_couple_82 : decode cX8_couple 82 = .ok (.invokevirtual 247, 3) := by decide +kernel
theorem dX8_couple_85 : decode cX8_couple 85 = .ok (.aload_n 3, 1) := by decide +kernel
theorem dX8_couple_86 : decode cX8_couple 86 = .ok (.getfield 228, 3) := by decide +kernel
theorem dX8_couple_89 : decode cX8_couple 89 = .ok (.iload_n 2, 1) := by decide +kernel
theorem dX8_couple_90 : decode cX8_couple 90 = .ok (.invokevirtual 203, 3) := by decide +kernel
theorem dX8_couple_93 : decode cX8_couple 93 = .ok (.aload_n 3, 1) := by decide +kernel
theorem dX8_couple_94 : decode cX8_couple 94 = .ok (.dup, 1) := by decide +kernel
theorem dX8_couple_95 : decode cX8_couple 95 = .ok (.getfield 250, 3) := by decide +kernel
theorem dX8_couple_98 : decode cX8_couple 98 = .ok (.aload 4, 2) := by decide +kernel
theorem dX8_couple_100 : decode cX8_couple 100 = .ok (.invokevirtual 253, 3) := by decide +kernel
theorem dX8_couple_103 : decode cX8_couple 103 = .ok (.iadd, 1) := by decide +kernel
theorem dX8_couple_104 : decode cX8_couple 104 = .ok (.putfield 250, 3) := by decide +kernel
theorem dX8_couple_107 : decode cX8_couple 107 = .ok (.aload 4, 2) := by decide +kernel
theorem dX8_couple_109 : decode cX8_couple 109 = .ok (.iload_n 1, 1) := by decide +kernel
theorem dX8_couple_110 : decode cX8_couple 110 = .ok (.putfield 245, 3) := by decide +kernel
theorem dX8_couple_113 : decode cX8_couple 113 = .ok (.aload 4, 2) := by decide +kernel
theorem dX8_couple_115 : decode cX8_couple 115 = .ok (.iconst 1, 1) := by decide +kernel
theorem dX8_couple_116 : decode cX8_couple 116 = .ok (.iload_n 1, 1) := by decide +kernel
theorem dX8_couple_117 : decode cX8_couple 117 = .ok (.invokevirtual 197, 3) := by decide +kernel
theorem dX8_couple_120 : decode cX8_couple 120 = .ok (.aload_n 3, 1) := by decide +kernel
theorem dX8_couple_121 : decode cX8_couple 121 = .ok (.getfield 228, 3) := by decide +kernel
theorem dX8_couple_124 : decode cX8_couple 124 = .ok (.getfield 230, 3) := by decide +kernel
theorem dX8_couple_127 : decode cX8_couple 127 = .ok (.ireturn, 1) := by decide +kernel
theorem dX8_leg_0 : decode cX8_leg 0 = .ok (.aload_n 0, 1) := by decide +kernel
theorem dX8_leg_1 : decode cX8_leg 1 = .ok (.iload_n 1, 1) := by decide +kernel
theorem dX8_leg_2 : decode cX8_leg 2 = .ok (.invokevirtual 163, 3) := by decide +kernel
theorem dX8_leg_5 : decode cX8_leg 5 = .ok (.aload_n 0, 1) := by decide +kernel
theorem dX8_leg_6 : decode cX8_leg 6 = .ok (.getfield 52, 3) := by decide +kernel
theorem dX8_leg_9 : decode cX8_leg 9 = .ok (.getfield 230, 3) := by decide +kernel
theorem dX8_leg_12 : decode cX8_leg 12 = .ok (.bipush 8, 2) := by decide +kernel
theorem dX8_leg_14 : decode cX8_leg 14 = .ok (.if_icmp .ge 7, 3) := by decide +kernel
theorem dX8_leg_17 : decode cX8_leg 17 = .ok (.iconst 1, 1) := by decide +kernel
theorem dX8_leg_18 : decode cX8_leg 18 = .ok (.goto 4, 3) := by decide +kernel
theorem dX8_leg_21 : decode cX8_leg 21 = .ok (.iconst 0, 1) := by decide +kernel
theorem dX8_leg_22 : decode cX8_leg 22 = .ok (.invokestatic 95, 3) := by decide +kernel
theorem dX8_leg_25 : decode cX8_leg 25 = .ok (.aload_n 0, 1) := by decide +kernel
theorem dX8_leg_26 : decode cX8_leg 26 = .ok (.getfield 52, 3) := by decide +kernel
theorem dX8_leg_29 : decode cX8_leg 29 = .ok (.iload_n 1, 1) := by decide +kernel
theorem dX8_leg_30 : decode cX8_leg 30 = .ok (.invokevirtual 203, 3) := by decide +kernel
theorem dX8_leg_33 : decode cX8_leg 33 = .ok (.aload_n 0, 1) := by decide +kernel
theorem dX8_leg_34 : decode cX8_leg 34 = .ok (.getfield 52, 3) := by decide +kernel
theorem dX8_leg_37 : decode cX8_leg 37 = .ok (.getfield 230, 3) := by decide +kernel
theorem dX8_leg_40 : decode cX8_leg 40 = .ok (.ireturn, 1) := by decide +kernel
theorem dX8_plan_0 : decode cX8_plan 0 = .ok (.aload_n 0, 1) := by decide +kernel
theorem dX8_plan_1 : decode cX8_plan 1 = .ok (.iload_n 1, 1) := by decide +kernel
theorem dX8_plan_2 : decode cX8_plan 2 = .ok (.invokevirtual 180, 3) := by decide +kernel
theorem dX8_plan_5 : decode cX8_plan 5 = .ok (.astore 4, 2) := by decide +kernel
theorem dX8_plan_7 : decode cX8_plan 7 = .ok (.iload_n 2, 1) := by decide +kernel
theorem dX8_plan_8 : decode cX8_plan 8 = .ok (.iconst 0, 1) := by decide +kernel
theorem dX8_plan_9 : decode cX8_plan 9 = .ok (.sipush 20000, 3) := by decide +kernel
theorem dX8_plan_12 : decode cX8_plan 12 = .ok (.invokestatic 87, 3) := by decide +kernel
theorem dX8_plan_15 : decode cX8_plan 15 = .ok (.iload_n 3, 1) := by decide +kernel
theorem dX8_plan_16 : decode cX8_plan 16 = .ok (.iconst 0, 1) := by decide +kernel
theorem dX8_plan_17 : decode cX8_plan 17 = .ok (.bipush 9, 2) := by decide +kernel
theorem dX8_plan_19 : decode cX8_plan 19 = .ok (.invokestatic 87, 3) := by decide +kernel
theorem dX8_plan_22 : decode cX8_plan 22 = .ok (.aload 4, 2) := by decide +kernel
theorem dX8_plan_24 : decode cX8_plan 24 = .ok (.invokevirtual 184, 3) := by decide +kernel
theorem dX8_plan_27 : decode cX8_plan 27 = .ok (.ifCond .eq 17, 3) := by decide +kernel
theorem dX8_plan_30 : decode cX8_plan 30 = .ok (.aload_n 0, 1) := by decide +kernel
theorem dX8_plan_31 : decode cX8_plan 31 = .ok (.getfield 52, 3) := by decide +kernel
theorem dX8_plan_34 : decode cX8_plan 34 = .ok (.getfield 230, 3) := by decide +kernel
theorem dX8_plan_37 : decode cX8_plan 37 = .ok (.ifCond .le 7, 3) := by decide +kernel
theorem dX8_plan_40 : decode cX8_plan 40 = .ok (.iconst 1, 1) := by decide +kernel
theorem dX8_plan_41 : decode cX8_plan 41 = .ok (.goto 4, 3) := by decide +kernel
theorem dX8_plan_44 : decode cX8_plan 44 = .ok (.iconst 0, 1) := by decide +kernel
theorem dX8_plan_45 : decode cX8_plan 45 = .ok (.invokestatic 95, 3) := by decide +kernel
theorem dX8_plan_48 : decode cX8_plan 48 = .ok (.aload_n 0, 1) := by decide +kernel
theorem dX8_plan_49 : decode cX8_plan 49 = .ok (.aload 4, 2) := by decide +kernel
theorem dX8_plan_51 : decode cX8_plan 51 = .ok (.getfield 236, 3) := by decide +kernel
theorem dX8_plan_54 : decode cX8_plan 54 = .ok (.invokevirtual 258, 3) := by decide +kernel
theorem dX8_plan_57 : decode cX8_plan 57 = .ok (.istore 5, 2) := by decide +kernel
theorem dX8_plan_59 : decode cX8_plan 59 = .ok (.iload 5, 2) := by decide +kernel
theorem dX8_plan_61 : decode cX8_plan 61 = .ok (.iconst (-1), 1) := by decide +kernel
theorem dX8_plan_62 : decode cX8_plan 62 = .ok (.if_icmp .eq 7, 3) := by decide +kernel
theorem dX8_plan_65 : decode cX8_plan 65 = .ok (.iconst 1, 1) := by decide +kernel
theorem dX8_plan_66 : decode cX8_plan 66 = .ok (.goto 4, 3) := by decide +kernel
theorem dX8_plan_69 : decode cX8_plan 69 = .ok (.iconst 0, 1) := by decide +kernel
theorem dX8_plan_70 : decode cX8_plan 70 = .ok (.invokestatic 95, 3) := by decide +kernel
theorem dX8_plan_73 : decode cX8_plan 73 = .ok (.aload 4, 2) := by decide +kernel
theorem dX8_plan_75 : decode cX8_plan 75 = .ok (.getfield 261, 3) := by decide +kernel
theorem dX8_plan_78 : decode cX8_plan 78 = .ok (.aload_n 0, 1) := by decide +kernel
theorem dX8_plan_79 : decode cX8_plan 79 = .ok (.getfield 52, 3) := by decide +kernel
theorem dX8_plan_82 : decode cX8_plan 82 = .ok (.invokevirtual 264, 3) := by decide +kernel
theorem dX8_plan_85 : decode cX8_plan 85 = .ok (.aload 4, 2) := by decide +kernel
theorem dX8_plan_87 : decode cX8_plan 87 = .ok (.iconst 0, 1) := by decide +kernel
theorem dX8_plan_88 : decode cX8_plan 88 = .ok (.putfield 268, 3) := by decide +kernel
theorem dX8_plan_91 : decode cX8_plan 91 = .ok (.aload 4, 2) := by decide +kernel
theorem dX8_plan_93 : decode cX8_plan 93 = .ok (.iload_n 2, 1) := by decide +kernel
theorem dX8_plan_94 : decode cX8_plan 94 = .ok (.putfield 271, 3) := by decide +kernel
theorem dX8_plan_97 : decode cX8_plan 97 = .ok (.aload 4, 2) := by decide +kernel
theorem dX8_plan_99 : decode cX8_plan 99 = .ok (.iload_n 3, 1) := by decide +kernel
theorem dX8_plan_100 : decode cX8_plan 100 = .ok (.putfield 274, 3) := by decide +kernel
theorem dX8_plan_103 : decode cX8_plan 103 = .ok (.aload 4, 2) := by decide +kernel
theorem dX8_plan_105 : decode cX8_plan 105 = .ok (.iconst 1, 1) := by decide +kernel
theorem dX8_plan_106 : decode cX8_plan 106 = .ok (.putfield 277, 3) := by decide +kernel
theorem dX8_plan_109 : decode cX8_plan 109 = .ok (.aload_n 0, 1) := by decide +kernel
theorem dX8_plan_110 : decode cX8_plan 110 = .ok (.getfield 52, 3) := by decide +kernel
theorem dX8_plan_113 : decode cX8_plan 113 = .ok (.invokevirtual 280, 3) := by decide +kernel
theorem dX8_plan_116 : decode cX8_plan 116 = .ok (.iload 5, 2) := by decide +kernel
theorem dX8_plan_118 : decode cX8_plan 118 = .ok (.ireturn, 1) := by decide +kernel
theorem dX8_await_0 : decode cX8_await 0 = .ok (.aload_n 0, 1) := by decide +kernel
theorem dX8_await_1 : decode cX8_await 1 = .ok (.iload_n 1, 1) := by decide +kernel
theorem dX8_await_2 : decode cX8_await 2 = .ok (.invokevirtual 180, 3) := by decide +kernel
theorem dX8_await_5 : decode cX8_await 5 = .ok (.astore 4, 2) := by decide +kernel
theorem dX8_await_7 : decode cX8_await 7 = .ok (.iload_n 2, 1) := by decide +kernel
theorem dX8_await_8 : decode cX8_await 8 = .ok (.iconst (-1), 1) := by decide +kernel
theorem dX8_await_9 : decode cX8_await 9 = .ok (.if_icmp .eq 8, 3) := by decide +kernel
theorem dX8_await_12 : decode cX8_await 12 = .ok (.aload_n 0, 1) := by decide +kernel
theorem dX8_await_13 : decode cX8_await 13 = .ok (.iload_n 2, 1) := by decide +kernel
theorem dX8_await_14 : decode cX8_await 14 = .ok (.invokevirtual 283, 3) := by decide +kernel
theorem dX8_await_17 : decode cX8_await 17 = .ok (.aload_n 0, 1) := by decide +kernel
theorem dX8_await_18 : decode cX8_await 18 = .ok (.iload_n 3, 1) := by decide +kernel
theorem dX8_await_19 : decode cX8_await 19 = .ok (.invokevirtual 102, 3) := by decide +kernel
theorem dX8_await_22 : decode cX8_await 22 = .ok (.iload_n 1, 1) := by decide +kernel
theorem dX8_await_23 : decode cX8_await 23 = .ok (.iload_n 2, 1) := by decide +kernel
theorem dX8_await_24 : decode cX8_await 24 = .ok (.if_icmp .eq 7, 3) := by decide +kernel
theorem dX8_await_27 : decode cX8_await 27 = .ok (.iconst 1, 1) := by decide +kernel
theorem dX8_await_28 : decode cX8_await 28 = .ok (.goto 4, 3) := by decide +kernel
theorem dX8_await_31 : decode cX8_await 31 = .ok (.iconst 0, 1) := by decide +kernel
theorem dX8_await_32 : decode cX8_await 32 = .ok (.invokestatic 95, 3) := by decide +kernel
theorem dX8_await_35 : decode cX8_await 35 = .ok (.aload 4, 2) := by decide +kernel
theorem dX8_await_37 : decode cX8_await 37 = .ok (.iload_n 2, 1) := by decide +kernel
theorem dX8_await_38 : decode cX8_await 38 = .ok (.putfield 286, 3) := by decide +kernel
theorem dX8_await_41 : decode cX8_await 41 = .ok (.aload 4, 2) := by decide +kernel
theorem dX8_await_43 : decode cX8_await 43 = .ok (.iload_n 3, 1) := by decide +kernel
theorem dX8_await_44 : decode cX8_await 44 = .ok (.putfield 289, 3) := by decide +kernel
theorem dX8_await_47 : decode cX8_await 47 = .ok (.return_, 1) := by decide +kernel
theorem dX8_run_0 : decode cX8_run 0 = .ok (.iload_n 1, 1) := by decide +kernel
theorem dX8_run_1 : decode cX8_run 1 = .ok (.iconst 1, 1) := by decide +kernel
theorem dX8_run_2 : decode cX8_run 2 = .ok (.sipush 300, 3) := by decide +kernel
theorem dX8_run_5 : decode cX8_run 5 = .ok (.invokestatic 87, 3) := by decide +kernel
theorem dX8_run_8 : decode cX8_run 8 = .ok (.aload_n 0, 1) := by decide +kernel
theorem dX8_run_9 : decode cX8_run 9 = .ok (.getfield 62, 3) := by decide +kernel
theorem dX8_run_12 : decode cX8_run 12 = .ok (.iload_n 1, 1) := by decide +kernel
theorem dX8_run_13 : decode cX8_run 13 = .ok (.iadd, 1) := by decide +kernel
theorem dX8_run_14 : decode cX8_run 14 = .ok (.sipush 20000, 3) := by decide +kernel
theorem dX8_run_17 : decode cX8_run 17 = .ok (.if_icmp .gt 7, 3) := by decide +kernel
theorem dX8_run_20 : decode cX8_run 20 = .ok (.iconst 1, 1) := by decide +kernel
theorem dX8_run_21 : decode cX8_run 21 = .ok (.goto 4, 3) := by decide +kernel
theorem dX8_run_24 : decode cX8_run 24 = .ok (.iconst 0, 1) := by decide +kernel
theorem dX8_run_25 : decode cX8_run 25 = .ok (.invokestatic 95, 3) := by decide +kernel
theorem dX8_run_28 : decode cX8_run 28 = .ok (.iconst 0, 1) := by decide +kernel
theorem dX8_run_29 : decode cX8_run 29 = .ok (.istore_n 2, 1) := by decide +kernel
theorem dX8_run_30 : decode cX8_run 30 = .ok (.iconst 0, 1) := by decide +kernel
theorem dX8_run_31 : decode cX8_run 31 = .ok (.istore_n 3, 1) := by decide +kernel
theorem dX8_run_32 : decode cX8_run 32 = .ok (.iload_n 3, 1) := by decide +kernel
theorem dX8_run_33 : decode cX8_run 33 = .ok (.iload_n 1, 1) := by decide +kernel
theorem dX8_run_34 : decode cX8_run 34 = .ok (.if_icmp .ge 45, 3) := by decide +kernel
theorem dX8_run_37 : decode cX8_run 37 = .ok (.aload_n 0, 1) := by decide +kernel
theorem dX8_run_38 : decode cX8_run 38 = .ok (.dup, 1) := by decide +kernel
theorem dX8_run_39 : decode cX8_run 39 = .ok (.getfield 62, 3) := by decide +kernel
theorem dX8_run_42 : decode cX8_run 42 = .ok (.iconst 1, 1) := by decide +kernel
theorem dX8_run_43 : decode cX8_run 43 = .ok (.iadd, 1) := by decide +kernel
theorem dX8_run_44 : decode cX8_run 44 = .ok (.putfield 62, 3) := by decide +kernel
theorem dX8_run_47 : decode cX8_run 47 = .ok (.aload_n 0, 1) := by decide +kernel
theorem dX8_run_48 : decode cX8_run 48 = .ok (.invokevirtual 292, 3) := by decide +kernel
theorem dX8_run_51 : decode cX8_run 51 = .ok (.aload_n 0, 1) := by decide +kernel
theorem dX8_run_52 : decode cX8_run 52 = .ok (.getfield 62, 3) := by decide +kernel
theorem dX8_run_55 : decode cX8_run 55 = .ok (.sipush 1440, 3) := by decide +kernel
theorem dX8_run_58 : decode cX8_run 58 = .ok (.irem, 1) := by decide +kernel
theorem dX8_run_59 : decode cX8_run 59 = .ok (.ifCond .ne 7, 3) := by decide +kernel
theorem dX8_run_62 : decode cX8_run 62 = .ok (.aload_n 0, 1) := by decide +kernel
theorem dX8_run_63 : decode cX8_run 63 = .ok (.invokevirtual 295, 3) := by decide +kernel
theorem dX8_run_66 : decode cX8_run 66 = .ok (.iload_n 2, 1) := by decide +kernel
theorem dX8_run_67 : decode cX8_run 67 = .ok (.aload_n 0, 1) := by decide +kernel
theorem dX8_run_68 : decode cX8_run 68 = .ok (.invokevirtual 298, 3) := by decide +kernel
theorem dX8_run_71 : decode cX8_run 71 = .ok (.iadd, 1) := by decide +kernel
theorem dX8_run_72 : decode cX8_run 72 = .ok (.istore_n 2, 1) := by decide +kernel
theorem dX8_run_73 : decode cX8_run 73 = .ok (.iinc 3 1, 3) := by decide +kernel
theorem dX8_run_76 : decode cX8_run 76 = .ok (.goto (-44), 3) := by decide +kernel
theorem dX8_run_79 : decode cX8_run 79 = .ok (.iload_n 2, 1) := by decide +kernel
theorem dX8_run_80 : decode cX8_run 80 = .ok (.ireturn, 1) := by decide +kernel
theorem dX8_clock_0 : decode cX8_clock 0 = .ok (.aload_n 0, 1) := by decide +kernel
theorem dX8_clock_1 : decode cX8_clock 1 = .ok (.getfield 62, 3) := by decide +kernel
theorem dX8_clock_4 : decode cX8_clock 4 = .ok (.ireturn, 1) := by decide +kernel
theorem dX8_cash_0 : decode cX8_cash 0 = .ok (.aload_n 0, 1) := by decide +kernel
theorem dX8_cash_1 : decode cX8_cash 1 = .ok (.getfield 66, 3) := by decide +kernel
theorem dX8_cash_4 : decode cX8_cash 4 = .ok (.ireturn, 1) := by decide +kernel
theorem dX8_freeTracks_0 : decode cX8_freeTracks 0 = .ok (.aload_n 0, 1) := by decide +kernel
theorem dX8_freeTracks_1 : decode cX8_freeTracks 1 = .ok (.iload_n 1, 1) := by decide +kernel
theorem dX8_freeTracks_2 : decode cX8_freeTracks 2 = .ok (.invokevirtual 216, 3) := by decide +kernel
theorem dX8_freeTracks_5 : decode cX8_freeTracks 5 = .ok (.ireturn, 1) := by decide +kernel
theorem dX8_holder_0 : decode cX8_holder 0 = .ok (.aload_n 0, 1) := by decide +kernel
theorem dX8_holder_1 : decode cX8_holder 1 = .ok (.iload_n 1, 1) := by decide +kernel
theorem dX8_holder_2 : decode cX8_holder 2 = .ok (.invokevirtual 121, 3) := by decide +kernel
theorem dX8_holder_5 : decode cX8_holder 5 = .ok (.aload_n 0, 1) := by decide +kernel
theorem dX8_holder_6 : decode cX8_holder 6 = .ok (.getfield 62, 3) := by decide +kernel
theorem dX8_holder_9 : decode cX8_holder 9 = .ok (.invokevirtual 138, 3) := by decide +kernel
theorem dX8_holder_12 : decode cX8_holder 12 = .ok (.ireturn, 1) := by decide +kernel
theorem dX8_holderByTrains_0 : decode cX8_holderByTrains 0 = .ok (.aload_n 0, 1) := by decide +kernel
theorem dX8_holderByTrains_1 : decode cX8_holderByTrains 1 = .ok (.iload_n 1, 1) := by decide +kernel
theorem dX8_holderByTrains_2 : decode cX8_holderByTrains 2 = .ok (.invokevirtual 163, 3) := by decide +kernel
theorem dX8_holderByTrains_5 : decode cX8_holderByTrains 5 = .ok (.iconst 0, 1) := by decide +kernel
theorem dX8_holderByTrains_6 : decode cX8_holderByTrains 6 = .ok (.istore_n 2, 1) := by decide +kernel
theorem dX8_holderByTrains_7 : decode cX8_holderByTrains 7 = .ok (.iload_n 2, 1) := by decide +kernel
theorem dX8_holderByTrains_8 : decode cX8_holderByTrains 8 = .ok (.aload_n 0, 1) := by decide +kernel
theorem dX8_holderByTrains_9 : decode cX8_holderByTrains 9 = .ok (.getfield 36, 3) := by decide +kernel
theorem dX8_holderByTrains_12 : decode cX8_holderByTrains 12 = .ok (.arraylength, 1) := by decide +kernel
theorem dX8_holderByTrains_13 : decode cX8_holderByTrains 13 = .ok (.if_icmp .ge 28, 3) := by decide +kernel
theorem dX8_holderByTrains_16 : decode cX8_holderByTrains 16 = .ok (.aload_n 0, 1) := by decide +kernel
theorem dX8_holderByTrains_17 : decode cX8_holderByTrains 17 = .ok (.getfield 36, 3) := by decide +kernel
theorem dX8_holderByTrains_20 : decode cX8_holderByTrains 20 = .ok (.iload_n 2, 1) := by decide +kernel
theorem dX8_holderByTrains_21 : decode cX8_holderByTrains 21 = .ok (.aaload, 1) := by decide +kernel
theorem dX8_holderByTrains_22 : decode cX8_holderByTrains 22 = .ok (.iload_n 1, 1) := by decide +kernel
theorem dX8_holderByTrains_23 : decode cX8_holderByTrains 23 = .ok (.aload_n 0, 1) := by decide +kernel
theorem dX8_holderByTrains_24 : decode cX8_holderByTrains 24 = .ok (.getfield 62, 3) := by decide +kernel
theorem dX8_holderByTrains_27 : decode cX8_holderByTrains 27 = .ok (.invokevirtual 361, 3) := by decide +kernel
theorem dX8_holderByTrains_30 : decode cX8_holderByTrains 30 = .ok (.ifCond .eq 5, 3) := by decide +kernel
theorem dX8_holderByTrains_33 : decode cX8_holderByTrains 33 = .ok (.iload_n 2, 1) := by decide +kernel
theorem dX8_holderByTrains_34 : decode cX8_holderByTrains 34 = .ok (.ireturn, 1) := by decide +kernel
theorem dX8_holderByTrains_35 : decode cX8_holderByTrains 35 = .ok (.iinc 2 1, 3) := by decide +kernel
theorem dX8_holderByTrains_38 : decode cX8_holderByTrains 38 = .ok (.goto (-31), 3) := by decide +kernel
theorem dX8_holderByTrains_41 : decode cX8_holderByTrains 41 = .ok (.iconst (-1), 1) := by decide +kernel
theorem dX8_holderByTrains_42 : decode cX8_holderByTrains 42 = .ok (.ireturn, 1) := by decide +kernel
theorem dX8_block_0 : decode cX8_block 0 = .ok (.aload_n 0, 1) := by decide +kernel
theorem dX8_block_1 : decode cX8_block 1 = .ok (.iload_n 1, 1) := by decide +kernel
theorem dX8_block_2 : decode cX8_block 2 = .ok (.invokevirtual 121, 3) := by decide +kernel
theorem dX8_block_5 : decode cX8_block 5 = .ok (.astore_n 3, 1) := by decide +kernel
theorem dX8_block_6 : decode cX8_block 6 = .ok (.iload_n 2, 1) := by decide +kernel
theorem dX8_block_7 : decode cX8_block 7 = .ok (.iconst 3, 1) := by decide +kernel
theorem dX8_block_8 : decode cX8_block 8 = .ok (.invokestatic 365, 3) := by decide +kernel
theorem dX8_block_11 : decode cX8_block 11 = .ok (.iload_n 2, 1) := by decide +kernel
theorem dX8_block_12 : decode cX8_block 12 = .ok (.ifCond .ne 8, 3) := by decide +kernel
theorem dX8_block_15 : decode cX8_block 15 = .ok (.aload_n 3, 1) := by decide +kernel
theorem dX8_block_16 : decode cX8_block 16 = .ok (.getfield 145, 3) := by decide +kernel
theorem dX8_block_19 : decode cX8_block 19 = .ok (.ireturn, 1) := by decide +kernel
theorem dX8_block_20 : decode cX8_block 20 = .ok (.iload_n 2, 1) := by decide +kernel
theorem dX8_block_21 : decode cX8_block 21 = .ok (.iconst 1, 1) := by decide +kernel
theorem dX8_block_22 : decode cX8_block 22 = .ok (.if_icmp .ne 14, 3) := by decide +kernel
theorem dX8_block_25 : decode cX8_block 25 = .ok (.aload_n 3, 1) := by decide +kernel
theorem dX8_block_26 : decode cX8_block 26 = .ok (.aload_n 0, 1) := by decide +kernel
theorem dX8_block_27 : decode cX8_block 27 = .ok (.getfield 62, 3) := by decide +kernel
theorem dX8_block_30 : decode cX8_block 30 = .ok (.invokevirtual 141, 3) := by decide +kernel
theorem dX8_block_33 : decode cX8_block 33 = .ok (.goto 7, 3) := by decide +kernel
theorem dX8_block_36 : decode cX8_block 36 = .ok (.aload_n 3, 1) := by decide +kernel
theorem dX8_block_37 : decode cX8_block 37 = .ok (.getfield 129, 3) := by decide +kernel
theorem dX8_block_40 : decode cX8_block 40 = .ok (.istore 4, 2) := by decide +kernel
theorem dX8_block_42 : decode cX8_block 42 = .ok (.iload 4, 2) := by decide +kernel
theorem dX8_block_44 : decode cX8_block 44 = .ok (.ifCond .eq 7, 3) := by decide +kernel
theorem dX8_block_47 : decode cX8_block 47 = .ok (.iconst 1, 1) := by decide +kernel
theorem dX8_block_48 : decode cX8_block 48 = .ok (.goto 4, 3) := by decide +kernel
theorem dX8_block_51 : decode cX8_block 51 = .ok (.iconst 0, 1) := by decide +kernel
theorem dX8_block_52 : decode cX8_block 52 = .ok (.ireturn, 1) := by decide +kernel
theorem dX8_train_0 : decode cX8_train 0 = .ok (.aload_n 0, 1) := by decide +kernel
theorem dX8_train_1 : decode cX8_train 1 = .ok (.iload_n 1, 1) := by decide +kernel
theorem dX8_train_2 : decode cX8_train 2 = .ok (.invokevirtual 180, 3) := by decide +kernel
theorem dX8_train_5 : decode cX8_train 5 = .ok (.astore_n 3, 1) := by decide +kernel
theorem dX8_train_6 : decode cX8_train 6 = .ok (.iload_n 2, 1) := by decide +kernel
theorem dX8_train_7 : decode cX8_train 7 = .ok (.bipush 7, 2) := by decide +kernel
theorem dX8_train_9 : decode cX8_train 9 = .ok (.invokestatic 365, 3) := by decide +kernel
theorem dX8_train_12 : decode cX8_train 12 = .ok (.iload_n 2, 1) := by decide +kernel
theorem dX8_train_13 : decode cX8_train 13 = .ok (.tableswitch 80 0 5 #[39, 44, 49, 54, 59, 67], 39) := by decide +kernel
theorem dX8_train_52 : decode cX8_train 52 = .ok (.aload_n 3, 1) := by decide +kernel
theorem dX8_train_53 : decode cX8_train 53 = .ok (.getfield 277, 3) := by decide +kernel
theorem dX8_train_56 : decode cX8_train 56 = .ok (.ireturn, 1) := by decide +kernel
theorem dX8_train_57 : decode cX8_train 57 = .ok (.aload_n 3, 1) := by decide +kernel
theorem dX8_train_58 : decode cX8_train 58 = .ok (.getfield 236, 3) := by decide +kernel
theorem dX8_train_61 : decode cX8_train 61 = .ok (.ireturn, 1) := by decide +kernel
theorem dX8_train_62 : decode cX8_train 62 = .ok (.aload_n 3, 1) := by decide +kernel
theorem dX8_train_63 : decode cX8_train 63 = .ok (.getfield 322, 3) := by decide +kernel
theorem dX8_train_66 : decode cX8_train 66 = .ok (.ireturn, 1) := by decide +kernel
theorem dX8_train_67 : decode cX8_train 67 = .ok (.aload_n 3, 1) := by decide +kernel
theorem dX8_train_68 : decode cX8_train 68 = .ok (.getfield 250, 3) := by decide +kernel
theorem dX8_train_71 : decode cX8_train 71 = .ok (.ireturn, 1) := by decide +kernel
theorem dX8_train_72 : decode cX8_train 72 = .ok (.aload_n 3, 1) := by decide +kernel
theorem dX8_train_73 : decode cX8_train 73 = .ok (.getfield 228, 3) := by decide +kernel
theorem dX8_train_76 : decode cX8_train 76 = .ok (.getfield 230, 3) := by decide +kernel
theorem dX8_train_79 : decode cX8_train 79 = .ok (.ireturn, 1) := by decide +kernel
theorem dX8_train_80 : decode cX8_train 80 = .ok (.aload_n 3, 1) := by decide +kernel
theorem dX8_train_81 : decode cX8_train 81 = .ok (.getfield 261, 3) := by decide +kernel
theorem dX8_train_84 : decode cX8_train 84 = .ok (.getfield 230, 3) := by decide +kernel
theorem dX8_train_87 : decode cX8_train 87 = .ok (.aload_n 3, 1) := by decide +kernel
theorem dX8_train_88 : decode cX8_train 88 = .ok (.getfield 268, 3) := by decide +kernel
theorem dX8_train_91 : decode cX8_train 91 = .ok (.isub, 1) := by decide +kernel
theorem dX8_train_92 : decode cX8_train 92 = .ok (.ireturn, 1) := by decide +kernel
theorem dX8_train_93 : decode cX8_train 93 = .ok (.aload_n 3, 1) := by decide +kernel
theorem dX8_train_94 : decode cX8_train 94 = .ok (.getfield 277, 3) := by decide +kernel
theorem dX8_train_97 : decode cX8_train 97 = .ok (.iconst 2, 1) := by decide +kernel
theorem dX8_train_98 : decode cX8_train 98 = .ok (.if_icmp .ne 10, 3) := by decide +kernel
theorem dX8_train_101 : decode cX8_train 101 = .ok (.aload_n 3, 1) := by decide +kernel
theorem dX8_train_102 : decode cX8_train 102 = .ok (.getfield 368, 3) := by decide +kernel
theorem dX8_train_105 : decode cX8_train 105 = .ok (.goto 4, 3) := by decide +kernel
theorem dX8_train_108 : decode cX8_train 108 = .ok (.iconst (-1), 1) := by decide +kernel
theorem dX8_train_109 : decode cX8_train 109 = .ok (.ireturn, 1) := by decide +kernel
theorem dX8_barred_0 : decode cX8_barred 0 = .ok (.aload_n 0, 1) := by decide +kernel
theorem dX8_barred_1 : decode cX8_barred 1 = .ok (.iload_n 1, 1) := by decide +kernel
theorem dX8_barred_2 : decode cX8_barred 2 = .ok (.invokevirtual 180, 3) := by decide +kernel
theorem dX8_barred_5 : decode cX8_barred 5 = .ok (.astore_n 2, 1) := by decide +kernel
theorem dX8_barred_6 : decode cX8_barred 6 = .ok (.aload_n 2, 1) := by decide +kernel
theorem dX8_barred_7 : decode cX8_barred 7 = .ok (.getfield 277, 3) := by decide +kernel
theorem dX8_barred_10 : decode cX8_barred 10 = .ok (.iconst 1, 1) := by decide +kernel
theorem dX8_barred_11 : decode cX8_barred 11 = .ok (.if_icmp .ne 11, 3) := by decide +kernel
theorem dX8_barred_14 : decode cX8_barred 14 = .ok (.aload_n 0, 1) := by decide +kernel
theorem dX8_barred_15 : decode cX8_barred 15 = .ok (.aload_n 2, 1) := by decide +kernel
theorem dX8_barred_16 : decode cX8_barred 16 = .ok (.invokevirtual 371, 3) := by decide +kernel
theorem dX8_barred_19 : decode cX8_barred 19 = .ok (.goto 4, 3) := by decide +kernel
theorem dX8_barred_22 : decode cX8_barred 22 = .ok (.iconst (-1), 1) := by decide +kernel
theorem dX8_barred_23 : decode cX8_barred 23 = .ok (.ireturn, 1) := by decide +kernel
theorem dX8_duty_0 : decode cX8_duty 0 = .ok (.aload_n 0, 1) := by decide +kernel
theorem dX8_duty_1 : decode cX8_duty 1 = .ok (.iload_n 1, 1) := by decide +kernel
theorem dX8_duty_2 : decode cX8_duty 2 = .ok (.invokevirtual 159, 3) := by decide +kernel
theorem dX8_duty_5 : decode cX8_duty 5 = .ok (.astore_n 2, 1) := by decide +kernel
theorem dX8_duty_6 : decode cX8_duty 6 = .ok (.aload_n 2, 1) := by decide +kernel
theorem dX8_duty_7 : decode cX8_duty 7 = .ok (.aload_n 0, 1) := by decide +kernel
theorem dX8_duty_8 : decode cX8_duty 8 = .ok (.getfield 62, 3) := by decide +kernel
theorem dX8_duty_11 : decode cX8_duty 11 = .ok (.invokevirtual 174, 3) := by decide +kernel
theorem dX8_duty_14 : decode cX8_duty 14 = .ok (.ifCond .eq 7, 3) := by decide +kernel
theorem dX8_duty_17 : decode cX8_duty 17 = .ok (.iconst (-1), 1) := by decide +kernel
theorem dX8_duty_18 : decode cX8_duty 18 = .ok (.goto 7, 3) := by decide +kernel
theorem dX8_duty_21 : decode cX8_duty 21 = .ok (.aload_n 2, 1) := by decide +kernel
theorem dX8_duty_22 : decode cX8_duty 22 = .ok (.getfield 188, 3) := by decide +kernel
theorem dX8_duty_25 : decode cX8_duty 25 = .ok (.ireturn, 1) := by decide +kernel
theorem dX8_requireArgument_0 : decode cX8_requireArgument 0 = .ok (.iload_n 0, 1) := by decide +kernel
theorem dX8_requireArgument_1 : decode cX8_requireArgument 1 = .ok (.ifCond .ne 14, 3) := by decide +kernel
theorem dX8_requireArgument_4 : decode cX8_requireArgument 4 = .ok (.new 390, 3) := by decide +kernel
theorem dX8_requireArgument_7 : decode cX8_requireArgument 7 = .ok (.dup, 1) := by decide +kernel
theorem dX8_requireArgument_8 : decode cX8_requireArgument 8 = .ok (.ldc_w 392, 3) := by decide +kernel
theorem dX8_requireArgument_11 : decode cX8_requireArgument 11 = .ok (.invokespecial 394, 3) := by decide +kernel
theorem dX8_requireArgument_14 : decode cX8_requireArgument 14 = .ok (.athrow, 1) := by decide +kernel
theorem dX8_requireArgument_15 : decode cX8_requireArgument 15 = .ok (.return_, 1) := by decide +kernel
theorem dX8_requireRange_0 : decode cX8_requireRange 0 = .ok (.iload_n 0, 1) := by decide +kernel
theorem dX8_requireRange_1 : decode cX8_requireRange 1 = .ok (.iload_n 1, 1) := by decide +kernel
theorem dX8_requireRange_2 : decode cX8_requireRange 2 = .ok (.if_icmp .lt 12, 3) := by decide +kernel
theorem dX8_requireRange_5 : decode cX8_requireRange 5 = .ok (.iload_n 0, 1) := by decide +kernel
theorem dX8_requireRange_6 : decode cX8_requireRange 6 = .ok (.iload_n 2, 1) := by decide +kernel
theorem dX8_requireRange_7 : decode cX8_requireRange 7 = .ok (.if_icmp .gt 7, 3) := by decide +kernel
theorem dX8_requireRange_10 : decode cX8_requireRange 10 = .ok (.iconst 1, 1) := by decide +kernel
theorem dX8_requireRange_11 : decode cX8_requireRange 11 = .ok (.goto 4, 3) := by decide +kernel
theorem dX8_requireRange_14 : decode cX8_requireRange 14 = .ok (.iconst 0, 1) := by decide +kernel
theorem dX8_requireRange_15 : decode cX8_requireRange 15 = .ok (.invokestatic 105, 3) := by decide +kernel
theorem dX8_requireRange_18 : decode cX8_requireRange 18 = .ok (.return_, 1) := by decide +kernel
theorem dX8_requireState_0 : decode cX8_requireState 0 = .ok (.iload_n 0, 1) := by decide +kernel
theorem dX8_requireState_1 : decode cX8_requireState 1 = .ok (.ifCond .ne 14, 3) := by decide +kernel
theorem dX8_requireState_4 : decode cX8_requireState 4 = .ok (.new 397, 3) := by decide +kernel
theorem dX8_requireState_7 : decode cX8_requireState 7 = .ok (.dup, 1) := by decide +kernel
theorem dX8_requireState_8 : decode cX8_requireState 8 = .ok (.ldc_w 399, 3) := by decide +kernel
theorem dX8_requireState_11 : decode cX8_requireState 11 = .ok (.invokespecial 401, 3) := by decide +kernel
theorem dX8_requireState_14 : decode cX8_requireState 14 = .ok (.athrow, 1) := by decide +kernel
theorem dX8_requireState_15 : decode cX8_requireState 15 = .ok (.return_, 1) := by decide +kernel
theorem dX8_requireIndex_0 : decode cX8_requireIndex 0 = .ok (.iload_n 0, 1) := by decide +kernel
theorem dX8_requireIndex_1 : decode cX8_requireIndex 1 = .ok (.ifCond .lt 8, 3) := by decide +kernel
theorem dX8_requireIndex_4 : decode cX8_requireIndex 4 = .ok (.iload_n 0, 1) := by decide +kernel
theorem dX8_requireIndex_5 : decode cX8_requireIndex 5 = .ok (.iload_n 1, 1) := by decide +kernel
theorem dX8_requireIndex_6 : decode cX8_requireIndex 6 = .ok (.if_icmp .lt 14, 3) := by decide +kernel
theorem dX8_requireIndex_9 : decode cX8_requireIndex 9 = .ok (.new 402, 3) := by decide +kernel
theorem dX8_requireIndex_12 : decode cX8_requireIndex 12 = .ok (.dup, 1) := by decide +kernel
theorem dX8_requireIndex_13 : decode cX8_requireIndex 13 = .ok (.ldc_w 404, 3) := by decide +kernel
theorem dX8_requireIndex_16 : decode cX8_requireIndex 16 = .ok (.invokespecial 406, 3) := by decide +kernel
theorem dX8_requireIndex_19 : decode cX8_requireIndex 19 = .ok (.athrow, 1) := by decide +kernel
theorem dX8_requireIndex_20 : decode cX8_requireIndex 20 = .ok (.return_, 1) := by decide +kernel
theorem dX8_requireStation_0 : decode cX8_requireStation 0 = .ok (.iload_n 1, 1) := by decide +kernel
theorem dX8_requireStation_1 : decode cX8_requireStation 1 = .ok (.aload_n 0, 1) := by decide +kernel
theorem dX8_requireStation_2 : decode cX8_requireStation 2 = .ok (.getfield 11, 3) := by decide +kernel
theorem dX8_requireStation_5 : decode cX8_requireStation 5 = .ok (.arraylength, 1) := by decide +kernel
theorem dX8_requireStation_6 : decode cX8_requireStation 6 = .ok (.invokestatic 365, 3) := by decide +kernel
theorem dX8_requireStation_9 : decode cX8_requireStation 9 = .ok (.return_, 1) := by decide +kernel
theorem dX8_requireBlock_0 : decode cX8_requireBlock 0 = .ok (.iload_n 1, 1) := by decide +kernel
theorem dX8_requireBlock_1 : decode cX8_requireBlock 1 = .ok (.aload_n 0, 1) := by decide +kernel
theorem dX8_requireBlock_2 : decode cX8_requireBlock 2 = .ok (.getfield 18, 3) := by decide +kernel
theorem dX8_requireBlock_5 : decode cX8_requireBlock 5 = .ok (.invokevirtual 108, 3) := by decide +kernel
theorem dX8_requireBlock_8 : decode cX8_requireBlock 8 = .ok (.invokestatic 365, 3) := by decide +kernel
theorem dX8_requireBlock_11 : decode cX8_requireBlock 11 = .ok (.return_, 1) := by decide +kernel
theorem dX8_requireTrain_0 : decode cX8_requireTrain 0 = .ok (.iload_n 1, 1) := by decide +kernel
theorem dX8_requireTrain_1 : decode cX8_requireTrain 1 = .ok (.aload_n 0, 1) := by decide +kernel
theorem dX8_requireTrain_2 : decode cX8_requireTrain 2 = .ok (.getfield 36, 3) := by decide +kernel
theorem dX8_requireTrain_5 : decode cX8_requireTrain 5 = .ok (.arraylength, 1) := by decide +kernel
theorem dX8_requireTrain_6 : decode cX8_requireTrain 6 = .ok (.invokestatic 365, 3) := by decide +kernel
theorem dX8_requireTrain_9 : decode cX8_requireTrain 9 = .ok (.aload_n 0, 1) := by decide +kernel
theorem dX8_requireTrain_10 : decode cX8_requireTrain 10 = .ok (.getfield 36, 3) := by decide +kernel
theorem dX8_requireTrain_13 : decode cX8_requireTrain 13 = .ok (.iload_n 1, 1) := by decide +kernel
theorem dX8_requireTrain_14 : decode cX8_requireTrain 14 = .ok (.aaload, 1) := by decide +kernel
theorem dX8_requireTrain_15 : decode cX8_requireTrain 15 = .ok (.getfield 277, 3) := by decide +kernel
theorem dX8_requireTrain_18 : decode cX8_requireTrain 18 = .ok (.iconst (-1), 1) := by decide +kernel
theorem dX8_requireTrain_19 : decode cX8_requireTrain 19 = .ok (.if_icmp .ne 14, 3) := by decide +kernel
theorem dX8_requireTrain_22 : decode cX8_requireTrain 22 = .ok (.new 402, 3) := by decide +kernel
theorem dX8_requireTrain_25 : decode cX8_requireTrain 25 = .ok (.dup, 1) := by decide +kernel
theorem dX8_requireTrain_26 : decode cX8_requireTrain 26 = .ok (.ldc_w 409, 3) := by decide +kernel
theorem dX8_requireTrain_29 : decode cX8_requireTrain 29 = .ok (.invokespecial 406, 3) := by decide +kernel
theorem dX8_requireTrain_32 : decode cX8_requireTrain 32 = .ok (.athrow, 1) := by decide +kernel
theorem dX8_requireTrain_33 : decode cX8_requireTrain 33 = .ok (.return_, 1) := by decide +kernel
theorem dX8_stationOf_0 : decode cX8_stationOf 0 = .ok (.iload_n 1, 1) := by decide +kernel
theorem dX8_stationOf_1 : decode cX8_stationOf 1 = .ok (.aload_n 0, 1) := by decide +kernel
theorem dX8_stationOf_2 : decode cX8_stationOf 2 = .ok (.getfield 11, 3) := by decide +kernel
theorem dX8_stationOf_5 : decode cX8_stationOf 5 = .ok (.arraylength, 1) := by decide +kernel
theorem dX8_stationOf_6 : decode cX8_stationOf 6 = .ok (.invokestatic 365, 3) := by decide +kernel
theorem dX8_stationOf_9 : decode cX8_stationOf 9 = .ok (.aload_n 0, 1) := by decide +kernel
theorem dX8_stationOf_10 : decode cX8_stationOf 10 = .ok (.getfield 11, 3) := by decide +kernel
theorem dX8_stationOf_13 : decode cX8_stationOf 13 = .ok (.iload_n 1, 1) := by decide +kernel
theorem dX8_stationOf_14 : decode cX8_stationOf 14 = .ok (.aaload, 1) := by decide +kernel
theorem dX8_stationOf_15 : decode cX8_stationOf 15 = .ok (.areturn, 1) := by decide +kernel
theorem dX8_blockOf_0 : decode cX8_blockOf 0 = .ok (.iload_n 1, 1) := by decide +kernel
theorem dX8_blockOf_1 : decode cX8_blockOf 1 = .ok (.aload_n 0, 1) := by decide +kernel
theorem dX8_blockOf_2 : decode cX8_blockOf 2 = .ok (.getfield 18, 3) := by decide +kernel
theorem dX8_blockOf_5 : decode cX8_blockOf 5 = .ok (.invokevirtual 108, 3) := by decide +kernel
theorem dX8_blockOf_8 : decode cX8_blockOf 8 = .ok (.invokestatic 365, 3) := by decide +kernel
theorem dX8_blockOf_11 : decode cX8_blockOf 11 = .ok (.aload_n 0, 1) := by decide +kernel
theorem dX8_blockOf_12 : decode cX8_blockOf 12 = .ok (.getfield 18, 3) := by decide +kernel
theorem dX8_blockOf_15 : decode cX8_blockOf 15 = .ok (.iload_n 1, 1) := by decide +kernel
theorem dX8_blockOf_16 : decode cX8_blockOf 16 = .ok (.invokevirtual 411, 3) := by decide +kernel
theorem dX8_blockOf_19 : decode cX8_blockOf 19 = .ok (.checkcast 112, 3) := by decide +kernel
theorem dX8_blockOf_22 : decode cX8_blockOf 22 = .ok (.areturn, 1) := by decide +kernel
theorem dX8_engineOf_0 : decode cX8_engineOf 0 = .ok (.iload_n 1, 1) := by decide +kernel
theorem dX8_engineOf_1 : decode cX8_engineOf 1 = .ok (.aload_n 0, 1) := by decide +kernel
theorem dX8_engineOf_2 : decode cX8_engineOf 2 = .ok (.getfield 22, 3) := by decide +kernel
theorem dX8_engineOf_5 : decode cX8_engineOf 5 = .ok (.invokevirtual 108, 3) := by decide +kernel
theorem dX8_engineOf_8 : decode cX8_engineOf 8 = .ok (.invokestatic 365, 3) := by decide +kernel
theorem dX8_engineOf_11 : decode cX8_engineOf 11 = .ok (.aload_n 0, 1) := by decide +kernel
theorem dX8_engineOf_12 : decode cX8_engineOf 12 = .ok (.getfield 22, 3) := by decide +kernel
theorem dX8_engineOf_15 : decode cX8_engineOf 15 = .ok (.iload_n 1, 1) := by decide +kernel
theorem dX8_engineOf_16 : decode cX8_engineOf 16 = .ok (.invokevirtual 411, 3) := by decide +kernel
theorem dX8_engineOf_19 : decode cX8_engineOf 19 = .ok (.checkcast 151, 3) := by decide +kernel
theorem dX8_engineOf_22 : decode cX8_engineOf 22 = .ok (.areturn, 1) := by decide +kernel
theorem dX8_crewOf_0 : decode cX8_crewOf 0 = .ok (.iload_n 1, 1) := by decide +kernel
theorem dX8_crewOf_1 : decode cX8_crewOf 1 = .ok (.aload_n 0, 1) := by decide +kernel
theorem dX8_crewOf_2 : decode cX8_crewOf 2 = .ok (.getfield 25, 3) := by decide +kernel
theorem dX8_crewOf_5 : decode cX8_crewOf 5 = .ok (.invokevirtual 108, 3) := by decide +kernel
theorem dX8_crewOf_8 : decode cX8_crewOf 8 = .ok (.invokestatic 365, 3) := by decide +kernel
theorem dX8_crewOf_11 : decode cX8_crewOf 11 = .ok (.aload_n 0, 1) := by decide +kernel
theorem dX8_crewOf_12 : decode cX8_crewOf 12 = .ok (.getfield 25, 3) := by decide +kernel
theorem dX8_crewOf_15 : decode cX8_crewOf 15 = .ok (.iload_n 1, 1) := by decide +kernel
theorem dX8_crewOf_16 : decode cX8_crewOf 16 = .ok (.invokevirtual 411, 3) := by decide +kernel
theorem dX8_crewOf_19 : decode cX8_crewOf 19 = .ok (.checkcast 156, 3) := by decide +kernel
theorem dX8_crewOf_22 : decode cX8_crewOf 22 = .ok (.areturn, 1) := by decide +kernel
theorem dX8_carOf_0 : decode cX8_carOf 0 = .ok (.iload_n 1, 1) := by decide +kernel
theorem dX8_carOf_1 : decode cX8_carOf 1 = .ok (.aload_n 0, 1) := by decide +kernel
theorem dX8_carOf_2 : decode cX8_carOf 2 = .ok (.getfield 28, 3) := by decide +kernel
theorem dX8_carOf_5 : decode cX8_carOf 5 = .ok (.invokevirtual 108, 3) := by decide +kernel
theorem dX8_carOf_8 : decode cX8_carOf 8 = .ok (.invokestatic 365, 3) := by decide +kernel
theorem dX8_carOf_11 : decode cX8_carOf 11 = .ok (.aload_n 0, 1) := by decide +kernel
theorem dX8_carOf_12 : decode cX8_carOf 12 = .ok (.getfield 28, 3) := by decide +kernel
theorem dX8_carOf_15 : decode cX8_carOf 15 = .ok (.iload_n 1, 1) := by decide +kernel
theorem dX8_carOf_16 : decode cX8_carOf 16 = .ok (.invokevirtual 411, 3) := by decide +kernel
theorem dX8_carOf_19 : decode cX8_carOf 19 = .ok (.checkcast 194, 3) := by decide +kernel
theorem dX8_carOf_22 : decode cX8_carOf 22 = .ok (.areturn, 1) := by decide +kernel
theorem dX8_billNumbered_0 : decode cX8_billNumbered 0 = .ok (.iload_n 1, 1) := by decide +kernel
theorem dX8_billNumbered_1 : decode cX8_billNumbered 1 = .ok (.aload_n 0, 1) := by decide +kernel
theorem dX8_billNumbered_2 : decode cX8_billNumbered 2 = .ok (.getfield 31, 3) := by decide +kernel
theorem dX8_billNumbered_5 : decode cX8_billNumbered 5 = .ok (.invokevirtual 108, 3) := by decide +kernel
theorem dX8_billNumbered_8 : decode cX8_billNumbered 8 = .ok (.invokestatic 365, 3) := by decide +kernel
theorem dX8_billNumbered_11 : decode cX8_billNumbered 11 = .ok (.aload_n 0, 1) := by decide +kernel
theorem dX8_billNumbered_12 : decode cX8_billNumbered 12 = .ok (.getfield 31, 3) := by decide +kernel
theorem dX8_billNumbered_15 : decode cX8_billNumbered 15 = .ok (.iload_n 1, 1) := by decide +kernel
theorem dX8_billNumbered_16 : decode cX8_billNumbered 16 = .ok (.invokevirtual 411, 3) := by decide +kernel
theorem dX8_billNumbered_19 : decode cX8_billNumbered 19 = .ok (.checkcast 331, 3) := by decide +kernel
theorem dX8_billNumbered_22 : decode cX8_billNumbered 22 = .ok (.areturn, 1) := by decide +kernel
theorem dX8_trainOf_0 : decode cX8_trainOf 0 = .ok (.aload_n 0, 1) := by decide +kernel
theorem dX8_trainOf_1 : decode cX8_trainOf 1 = .ok (.iload_n 1, 1) := by decide +kernel
theorem dX8_trainOf_2 : decode cX8_trainOf 2 = .ok (.invokevirtual 283, 3) := by decide +kernel
theorem dX8_trainOf_5 : decode cX8_trainOf 5 = .ok (.aload_n 0, 1) := by decide +kernel
theorem dX8_trainOf_6 : decode cX8_trainOf 6 = .ok (.getfield 36, 3) := by decide +kernel
theorem dX8_trainOf_9 : decode cX8_trainOf 9 = .ok (.iload_n 1, 1) := by decide +kernel
theorem dX8_trainOf_10 : decode cX8_trainOf 10 = .ok (.aaload, 1) := by decide +kernel
theorem dX8_trainOf_11 : decode cX8_trainOf 11 = .ok (.areturn, 1) := by decide +kernel
theorem dX8_takenTracks_0 : decode cX8_takenTracks 0 = .ok (.iconst 0, 1) := by decide +kernel
theorem dX8_takenTracks_1 : decode cX8_takenTracks 1 = .ok (.istore_n 2, 1) := by decide +kernel
theorem dX8_takenTracks_2 : decode cX8_takenTracks 2 = .ok (.iconst 0, 1) := by decide +kernel
theorem dX8_takenTracks_3 : decode cX8_takenTracks 3 = .ok (.istore_n 3, 1) := by decide +kernel
theorem dX8_takenTracks_4 : decode cX8_takenTracks 4 = .ok (.iload_n 3, 1) := by decide +kernel
theorem dX8_takenTracks_5 : decode cX8_takenTracks 5 = .ok (.aload_n 0, 1) := by decide +kernel
theorem dX8_takenTracks_6 : decode cX8_takenTracks 6 = .ok (.getfield 36, 3) := by decide +kernel
theorem dX8_takenTracks_9 : decode cX8_takenTracks 9 = .ok (.arraylength, 1) := by decide +kernel
theorem dX8_takenTracks_10 : decode cX8_takenTracks 10 = .ok (.if_icmp .ge 25, 3) := by decide +kernel
theorem dX8_takenTracks_13 : decode cX8_takenTracks 13 = .ok (.aload_n 0, 1) := by decide +kernel
theorem dX8_takenTracks_14 : decode cX8_takenTracks 14 = .ok (.getfield 36, 3) := by decide +kernel
theorem dX8_takenTracks_17 : decode cX8_takenTracks 17 = .ok (.iload_n 3, 1) := by decide +kernel
theorem dX8_takenTracks_18 : decode cX8_takenTracks 18 = .ok (.aaload, 1) := by decide +kernel
theorem dX8_takenTracks_19 : decode cX8_takenTracks 19 = .ok (.iload_n 1, 1) := by decide +kernel
theorem dX8_takenTracks_20 : decode cX8_takenTracks 20 = .ok (.invokevirtual 415, 3) := by decide +kernel
theorem dX8_takenTracks_23 : decode cX8_takenTracks 23 = .ok (.ifCond .eq 6, 3) := by decide +kernel
theorem dX8_takenTracks_26 : decode cX8_takenTracks 26 = .ok (.iinc 2 1, 3) := by decide +kernel
theorem dX8_takenTracks_29 : decode cX8_takenTracks 29 = .ok (.iinc 3 1, 3) := by decide +kernel
theorem dX8_takenTracks_32 : decode cX8_takenTracks 32 = .ok (.goto (-28), 3) := by decide +kernel
theorem dX8_takenTracks_35 : decode cX8_takenTracks 35 = .ok (.iload_n 2, 1) := by decide +kernel
theorem dX8_takenTracks_36 : decode cX8_takenTracks 36 = .ok (.ireturn, 1) := by decide +kernel
theorem dX8_freeTracksAt_0 : decode cX8_freeTracksAt 0 = .ok (.aload_n 0, 1) := by decide +kernel
theorem dX8_freeTracksAt_1 : decode cX8_freeTracksAt 1 = .ok (.iload_n 1, 1) := by decide +kernel
theorem dX8_freeTracksAt_2 : decode cX8_freeTracksAt 2 = .ok (.invokevirtual 83, 3) := by decide +kernel
theorem dX8_freeTracksAt_5 : decode cX8_freeTracksAt 5 = .ok (.getfield 99, 3) := by decide +kernel
theorem dX8_freeTracksAt_8 : decode cX8_freeTracksAt 8 = .ok (.aload_n 0, 1) := by decide +kernel
theorem dX8_freeTracksAt_9 : decode cX8_freeTracksAt 9 = .ok (.iload_n 1, 1) := by decide +kernel
theorem dX8_freeTracksAt_10 : decode cX8_freeTracksAt 10 = .ok (.invokevirtual 91, 3) := by decide +kernel
theorem dX8_freeTracksAt_13 : decode cX8_freeTracksAt 13 = .ok (.isub, 1) := by decide +kernel
theorem dX8_freeTracksAt_14 : decode cX8_freeTracksAt 14 = .ok (.ireturn, 1) := by decide +kernel
theorem dX8_leastFreeNumber_0 : decode cX8_leastFreeNumber 0 = .ok (.iconst 0, 1) := by decide +kernel
theorem dX8_leastFreeNumber_1 : decode cX8_leastFreeNumber 1 = .ok (.istore_n 1, 1) := by decide +kernel
theorem dX8_leastFreeNumber_2 : decode cX8_leastFreeNumber 2 = .ok (.iload_n 1, 1) := by decide +kernel
theorem dX8_leastFreeNumber_3 : decode cX8_leastFreeNumber 3 = .ok (.aload_n 0, 1) := by decide +kernel
theorem dX8_leastFreeNumber_4 : decode cX8_leastFreeNumber 4 = .ok (.getfield 36, 3) := by decide +kernel
theorem dX8_leastFreeNumber_7 : decode cX8_leastFreeNumber 7 = .ok (.arraylength, 1) := by decide +kernel
theorem dX8_leastFreeNumber_8 : decode cX8_leastFreeNumber 8 = .ok (.if_icmp .ge 24, 3) := by decide +kernel
theorem dX8_leastFreeNumber_11 : decode cX8_leastFreeNumber 11 = .ok (.aload_n 0, 1) := by decide +kernel
theorem dX8_leastFreeNumber_12 : decode cX8_leastFreeNumber 12 = .ok (.getfield 36, 3) := by decide +kernel
theorem dX8_leastFreeNumber_15 : decode cX8_leastFreeNumber 15 = .ok (.iload_n 1, 1) := by decide +kernel
theorem dX8_leastFreeNumber_16 : decode cX8_leastFreeNumber 16 = .ok (.aaload, 1) := by decide +kernel
theorem dX8_leastFreeNumber_17 : decode cX8_leastFreeNumber 17 = .ok (.getfield 277, 3) := by decide +kernel
theorem dX8_leastFreeNumber_20 : decode cX8_leastFreeNumber 20 = .ok (.iconst (-1), 1) := by decide +kernel
theorem dX8_leastFreeNumber_21 : decode cX8_leastFreeNumber 21 = .ok (.if_icmp .ne 5, 3) := by decide +kernel
theorem dX8_leastFreeNumber_24 : decode cX8_leastFreeNumber 24 = .ok (.iload_n 1, 1) := by decide +kernel
theorem dX8_leastFreeNumber_25 : decode cX8_leastFreeNumber 25 = .ok (.ireturn, 1) := by decide +kernel
theorem dX8_leastFreeNumber_26 : decode cX8_leastFreeNumber 26 = .ok (.iinc 1 1, 3) := by decide +kernel
theorem dX8_leastFreeNumber_29 : decode cX8_leastFreeNumber 29 = .ok (.goto (-27), 3) := by decide +kernel
theorem dX8_leastFreeNumber_32 : decode cX8_leastFreeNumber 32 = .ok (.iconst (-1), 1) := by decide +kernel
theorem dX8_leastFreeNumber_33 : decode cX8_leastFreeNumber 33 = .ok (.ireturn, 1) := by decide +kernel
theorem dX8_endOfDraft_0 : decode cX8_endOfDraft 0 = .ok (.iload_n 1, 1) := by decide +kernel
theorem dX8_endOfDraft_1 : decode cX8_endOfDraft 1 = .ok (.istore_n 2, 1) := by decide +kernel
theorem dX8_endOfDraft_2 : decode cX8_endOfDraft 2 = .ok (.iconst 0, 1) := by decide +kernel
theorem dX8_endOfDraft_3 : decode cX8_endOfDraft 3 = .ok (.istore_n 3, 1) := by decide +kernel
theorem dX8_endOfDraft_4 : decode cX8_endOfDraft 4 = .ok (.iload_n 3, 1) := by decide +kernel
theorem dX8_endOfDraft_5 : decode cX8_endOfDraft 5 = .ok (.aload_n 0, 1) := by decide +kernel
theorem dX8_endOfDraft_6 : decode cX8_endOfDraft 6 = .ok (.getfield 52, 3) := by decide +kernel
theorem dX8_endOfDraft_9 : decode cX8_endOfDraft 9 = .ok (.getfield 230, 3) := by decide +kernel
theorem dX8_endOfDraft_12 : decode cX8_endOfDraft 12 = .ok (.if_icmp .ge 31, 3) := by decide +kernel
theorem dX8_endOfDraft_15 : decode cX8_endOfDraft 15 = .ok (.iload_n 2, 1) := by decide +kernel
theorem dX8_endOfDraft_16 : decode cX8_endOfDraft 16 = .ok (.iconst (-1), 1) := by decide +kernel
theorem dX8_endOfDraft_17 : decode cX8_endOfDraft 17 = .ok (.if_icmp .eq 26, 3) := by decide +kernel
theorem dX8_endOfDraft_20 : decode cX8_endOfDraft 20 = .ok (.aload_n 0, 1) := by decide +kernel
theorem dX8_endOfDraft_21 : decode cX8_endOfDraft 21 = .ok (.aload_n 0, 1) := by decide +kernel
theorem dX8_endOfDraft_22 : decode cX8_endOfDraft 22 = .ok (.getfield 52, 3) := by decide +kernel
theorem dX8_endOfDraft_25 : decode cX8_endOfDraft 25 = .ok (.iload_n 3, 1) := by decide +kernel
theorem dX8_endOfDraft_26 : decode cX8_endOfDraft 26 = .ok (.invokevirtual 358, 3) := by decide +kernel
theorem dX8_endOfDraft_29 : decode cX8_endOfDraft 29 = .ok (.invokevirtual 121, 3) := by decide +kernel
theorem dX8_endOfDraft_32 : decode cX8_endOfDraft 32 = .ok (.iload_n 2, 1) := by decide +kernel
theorem dX8_endOfDraft_33 : decode cX8_endOfDraft 33 = .ok (.invokevirtual 427, 3) := by decide +kernel
theorem dX8_endOfDraft_36 : decode cX8_endOfDraft 36 = .ok (.istore_n 2, 1) := by decide +kernel
theorem dX8_endOfDraft_37 : decode cX8_endOfDraft 37 = .ok (.iinc 3 1, 3) := by decide +kernel
theorem dX8_endOfDraft_40 : decode cX8_endOfDraft 40 = .ok (.goto (-36), 3) := by decide +kernel
theorem dX8_endOfDraft_43 : decode cX8_endOfDraft 43 = .ok (.iload_n 2, 1) := by decide +kernel
theorem dX8_endOfDraft_44 : decode cX8_endOfDraft 44 = .ok (.ireturn, 1) := by decide +kernel
theorem dX8_arriveAll_0 : decode cX8_arriveAll 0 = .ok (.iconst 0, 1) := by decide +kernel
theorem dX8_arriveAll_1 : decode cX8_arriveAll 1 = .ok (.istore_n 1, 1) := by decide +kernel
theorem dX8_arriveAll_2 : decode cX8_arriveAll 2 = .ok (.iload_n 1, 1) := by decide +kernel
theorem dX8_arriveAll_3 : decode cX8_arriveAll 3 = .ok (.aload_n 0, 1) := by decide +kernel
theorem dX8_arriveAll_4 : decode cX8_arriveAll 4 = .ok (.getfield 36, 3) := by decide +kernel
theorem dX8_arriveAll_7 : decode cX8_arriveAll 7 = .ok (.arraylength, 1) := by decide +kernel
theorem dX8_arriveAll_8 : decode cX8_arriveAll 8 = .ok (.if_icmp .ge 48, 3) := by decide +kernel
theorem dX8_arriveAll_11 : decode cX8_arriveAll 11 = .ok (.aload_n 0, 1) := by decide +kernel
theorem dX8_arriveAll_12 : decode cX8_arriveAll 12 = .ok (.getfield 36, 3) := by decide +kernel
theorem dX8_arriveAll_15 : decode cX8_arriveAll 15 = .ok (.iload_n 1, 1) := by decide +kernel
theorem dX8_arriveAll_16 : decode cX8_arriveAll 16 = .ok (.aaload, 1) := by decide +kernel
theorem dX8_arriveAll_17 : decode cX8_arriveAll 17 = .ok (.getfield 277, 3) := by decide +kernel
theorem dX8_arriveAll_20 : decode cX8_arriveAll 20 = .ok (.iconst 2, 1) := by decide +kernel
theorem dX8_arriveAll_21 : decode cX8_arriveAll 21 = .ok (.if_icmp .ne 29, 3) := by decide +kernel
theorem dX8_arriveAll_24 : decode cX8_arriveAll 24 = .ok (.aload_n 0, 1) := by decide +kernel
theorem dX8_arriveAll_25 : decode cX8_arriveAll 25 = .ok (.getfield 36, 3) := by decide +kernel
theorem dX8_arriveAll_28 : decode cX8_arriveAll 28 = .ok (.iload_n 1, 1) := by decide +kernel
theorem dX8_arriveAll_29 : decode cX8_arriveAll 29 = .ok (.aaload, 1) := by decide +kernel
theorem dX8_arriveAll_30 : decode cX8_arriveAll 30 = .ok (.getfield 368, 3) := by decide +kernel
theorem dX8_arriveAll_33 : decode cX8_arriveAll 33 = .ok (.aload_n 0, 1) := by decide +kernel
theorem dX8_arriveAll_34 : decode cX8_arriveAll 34 = .ok (.getfield 62, 3) := by decide +kernel
theorem dX8_arriveAll_37 : decode cX8_arriveAll 37 = .ok (.if_icmp .gt 13, 3) := by decide +kernel
theorem dX8_arriveAll_40 : decode cX8_arriveAll 40 = .ok (.aload_n 0, 1) := by decide +kernel
theorem dX8_arriveAll_41 : decode cX8_arriveAll 41 = .ok (.aload_n 0, 1) := by decide +kernel
theorem dX8_arriveAll_42 : decode cX8_arriveAll 42 = .ok (.getfield 36, 3) := by decide +kernel
theorem dX8_arriveAll_45 : decode cX8_arriveAll 45 = .ok (.iload_n 1, 1) := by decide +kernel
theorem dX8_arriveAll_46 : decode cX8_arriveAll 46 = .ok (.aaload, 1) := by decide +kernel
theorem dX8_arriveAll_47 : decode cX8_arriveAll 47 = .ok (.invokevirtual 447, 3) := by decide +kernel
theorem dX8_arriveAll_50 : decode cX8_arriveAll 50 = .ok (.iinc 1 1, 3) := by decide +kernel
theorem dX8_arriveAll_53 : decode cX8_arriveAll 53 = .ok (.goto (-51), 3) := by decide +kernel
theorem dX8_arriveAll_56 : decode cX8_arriveAll 56 = .ok (.return_, 1) := by decide +kernel
theorem dX8_arrive_0 : decode cX8_arrive 0 = .ok (.aload_n 0, 1) := by decide +kernel
theorem dX8_arrive_1 : decode cX8_arrive 1 = .ok (.aload_n 1, 1) := by decide +kernel
theorem dX8_arrive_2 : decode cX8_arrive 2 = .ok (.getfield 322, 3) := by decide +kernel
theorem dX8_arrive_5 : decode cX8_arrive 5 = .ok (.invokevirtual 121, 3) := by decide +kernel
theorem dX8_arrive_8 : decode cX8_arrive 8 = .ok (.dup, 1) := by decide +kernel
theorem dX8_arrive_9 : decode cX8_arrive 9 = .ok (.getfield 145, 3) := by decide +kernel
theorem dX8_arrive_12 : decode cX8_arrive 12 = .ok (.iconst 1, 1) := by decide +kernel
theorem dX8_arrive_13 : decode cX8_arrive 13 = .ok (.aload_n 1, 1) := by decide +kernel
theorem dX8_arrive_14 : decode cX8_arrive 14 = .ok (.getfield 228, 3) := by decide +kernel
theorem dX8_arrive_17 : decode cX8_arrive 17 = .ok (.getfield 230, 3) := by decide +kernel
theorem dX8_arrive_20 : decode cX8_arrive 20 = .ok (.iadd, 1) := by decide +kernel
theorem dX8_arrive_21 : decode cX8_arrive 21 = .ok (.iadd, 1) := by decide +kernel
theorem dX8_arrive_22 : decode cX8_arrive 22 = .ok (.putfield 145, 3) := by decide +kernel
theorem dX8_arrive_25 : decode cX8_arrive 25 = .ok (.aload_n 1, 1) := by decide +kernel
theorem dX8_arrive_26 : decode cX8_arrive 26 = .ok (.aload_n 1, 1) := by decide +kernel
theorem dX8_arrive_27 : decode cX8_arrive 27 = .ok (.getfield 322, 3) := by decide +kernel
theorem dX8_arrive_30 : decode cX8_arrive 30 = .ok (.aload_n 0, 1) := by decide +kernel
theorem dX8_arrive_31 : decode cX8_arrive 31 = .ok (.getfield 62, 3) := by decide +kernel
theorem dX8_arrive_34 : decode cX8_arrive 34 = .ok (.aload_n 1, 1) := by decide +kernel
theorem dX8_arrive_35 : decode cX8_arrive 35 = .ok (.invokevirtual 451, 3) := by decide +kernel
theorem dX8_arrive_38 : decode cX8_arrive 38 = .ok (.iadd, 1) := by decide +kernel
theorem dX8_arrive_39 : decode cX8_arrive 39 = .ok (.invokevirtual 454, 3) := by decide +kernel
theorem dX8_arrive_42 : decode cX8_arrive 42 = .ok (.aload_n 1, 1) := by decide +kernel
theorem dX8_arrive_43 : decode cX8_arrive 43 = .ok (.iconst (-1), 1) := by decide +kernel
theorem dX8_arrive_44 : decode cX8_arrive 44 = .ok (.putfield 322, 3) := by decide +kernel
theorem dX8_arrive_47 : decode cX8_arrive 47 = .ok (.aload_n 1, 1) := by decide +kernel
theorem dX8_arrive_48 : decode cX8_arrive 48 = .ok (.aload_n 1, 1) := by decide +kernel
theorem dX8_arrive_49 : decode cX8_arrive 49 = .ok (.invokevirtual 301, 3) := by decide +kernel
theorem dX8_arrive_52 : decode cX8_arrive 52 = .ok (.iconst (-1), 1) := by decide +kernel
theorem dX8_arrive_53 : decode cX8_arrive 53 = .ok (.if_icmp .ne 7, 3) := by decide +kernel
theorem dX8_arrive_56 : decode cX8_arrive 56 = .ok (.iconst 0, 1) := by decide +kernel
theorem dX8_arrive_57 : decode cX8_arrive 57 = .ok (.goto 4, 3) := by decide +kernel
theorem dX8_arrive_60 : decode cX8_arrive 60 = .ok (.iconst 1, 1) := by decide +kernel
theorem dX8_arrive_61 : decode cX8_arrive 61 = .ok (.putfield 277, 3) := by decide +kernel
theorem dX8_arrive_64 : decode cX8_arrive 64 = .ok (.return_, 1) := by decide +kernel
theorem dX8_beginDay_0 : decode cX8_beginDay 0 = .ok (.aload_n 0, 1) := by decide +kernel
theorem dX8_beginDay_1 : decode cX8_beginDay 1 = .ok (.dup, 1) := by decide +kernel
theorem dX8_beginDay_2 : decode cX8_beginDay 2 = .ok (.getfield 66, 3) := by decide +kernel
theorem dX8_beginDay_5 : decode cX8_beginDay 5 = .ok (.aload_n 0, 1) := by decide +kernel
theorem dX8_beginDay_6 : decode cX8_beginDay 6 = .ok (.getfield 69, 3) := by decide +kernel
theorem dX8_beginDay_9 : decode cX8_beginDay 9 = .ok (.sipush 200, 3) := by decide +kernel
theorem dX8_beginDay_12 : decode cX8_beginDay 12 = .ok (.idiv, 1) := by decide +kernel
theorem dX8_beginDay_13 : decode cX8_beginDay 13 = .ok (.isub, 1) := by decide +kernel
theorem dX8_beginDay_14 : decode cX8_beginDay 14 = .ok (.putfield 66, 3) := by decide +kernel
theorem dX8_beginDay_17 : decode cX8_beginDay 17 = .ok (.iconst 0, 1) := by decide +kernel
theorem dX8_beginDay_18 : decode cX8_beginDay 18 = .ok (.istore_n 1, 1) := by decide +kernel
theorem dX8_beginDay_19 : decode cX8_beginDay 19 = .ok (.iload_n 1, 1) := by decide +kernel
theorem dX8_beginDay_20 : decode cX8_beginDay 20 = .ok (.aload_n 0, 1) := by decide +kernel
theorem dX8_beginDay_21 : decode cX8_beginDay 21 = .ok (.getfield 28, 3) := by decide +kernel
theorem dX8_beginDay_24 : decode cX8_beginDay 24 = .ok (.invokevirtual 108, 3) := by decide +kernel
theorem dX8_beginDay_27 : decode cX8_beginDay 27 = .ok (.if_icmp .ge 65, 3) := by decide +kernel
theorem dX8_beginDay_30 : decode cX8_beginDay 30 = .ok (.aload_n 0, 1) := by decide +kernel
theorem dX8_beginDay_31 : decode cX8_beginDay 31 = .ok (.getfield 28, 3) := by decide +kernel
theorem dX8_beginDay_34 : decode cX8_beginDay 34 = .ok (.iload_n 1, 1) := by decide +kernel
theorem dX8_beginDay_35 : decode cX8_beginDay 35 = .ok (.invokevirtual 411, 3) := by decide +kernel
theorem dX8_beginDay_38 : decode cX8_beginDay 38 = .ok (.checkcast 194, 3) := by decide +kernel
theorem dX8_beginDay_41 : decode cX8_beginDay 41 = .ok (.astore_n 2, 1) := by decide +kernel
theorem dX8_beginDay_42 : decode cX8_beginDay 42 = .ok (.aload_n 2, 1) := by decide +kernel
theorem dX8_beginDay_43 : decode cX8_beginDay 43 = .ok (.getfield 245, 3) := by decide +kernel
theorem dX8_beginDay_46 : decode cX8_beginDay 46 = .ok (.iconst (-1), 1) := by decide +kernel
theorem dX8_beginDay_47 : decode cX8_beginDay 47 = .ok (.if_icmp .ne 39, 3) := by decide +kernel
theorem dX8_beginDay_50 : decode cX8_beginDay 50 = .ok (.aload_n 2, 1) := by decide +kernel
theorem dX8_beginDay_51 : decode cX8_beginDay 51 = .ok (.getfield 339, 3) := by decide +kernel
theorem dX8_beginDay_54 : decode cX8_beginDay 54 = .ok (.iconst (-1), 1) := by decide +kernel
theorem dX8_beginDay_55 : decode cX8_beginDay 55 = .ok (.if_icmp .eq 31, 3) := by decide +kernel
theorem dX8_beginDay_58 : decode cX8_beginDay 58 = .ok (.aload_n 0, 1) := by decide +kernel
theorem dX8_beginDay_59 : decode cX8_beginDay 59 = .ok (.aload_n 2, 1) := by decide +kernel
theorem dX8_beginDay_60 : decode cX8_beginDay 60 = .ok (.getfield 339, 3) := by decide +kernel
theorem dX8_beginDay_63 : decode cX8_beginDay 63 = .ok (.invokevirtual 335, 3) := by decide +kernel
theorem dX8_beginDay_66 : decode cX8_beginDay 66 = .ok (.getfield 348, 3) := by decide +kernel
theorem dX8_beginDay_69 : decode cX8_beginDay 69 = .ok (.aload_n 2, 1) := by decide +kernel
theorem dX8_beginDay_70 : decode cX8_beginDay 70 = .ok (.getfield 246, 3) := by decide +kernel
theorem dX8_beginDay_73 : decode cX8_beginDay 73 = .ok (.if_icmp .ne 13, 3) := by decide +kernel
theorem dX8_beginDay_76 : decode cX8_beginDay 76 = .ok (.aload_n 0, 1) := by decide +kernel
theorem dX8_beginDay_77 : decode cX8_beginDay 77 = .ok (.dup, 1) := by decide +kernel
theorem dX8_beginDay_78 : decode cX8_beginDay 78 = .ok (.getfield 66, 3) := by decide +kernel
theorem dX8_beginDay_81 : decode cX8_beginDay 81 = .ok (.iconst 2, 1) := by decide +kernel
theorem dX8_beginDay_82 : decode cX8_beginDay 82 = .ok (.iadd, 1) := by decide +kernel
theorem dX8_beginDay_83 : decode cX8_beginDay 83 = .ok (.putfield 66, 3) := by decide +kernel
theorem dX8_beginDay_86 : decode cX8_beginDay 86 = .ok (.iinc 1 1, 3) := by decide +kernel
theorem dX8_beginDay_89 : decode cX8_beginDay 89 = .ok (.goto (-70), 3) := by decide +kernel
theorem dX8_beginDay_92 : decode cX8_beginDay 92 = .ok (.return_, 1) := by decide +kernel
theorem dX8_enterAll_0 : decode cX8_enterAll 0 = .ok (.iconst 0, 1) := by decide +kernel
theorem dX8_enterAll_1 : decode cX8_enterAll 1 = .ok (.istore_n 1, 1) := by decide +kernel
theorem dX8_enterAll_2 : decode cX8_enterAll 2 = .ok (.iconst 0, 1) := by decide +kernel
theorem dX8_enterAll_3 : decode cX8_enterAll 3 = .ok (.istore_n 2, 1) := by decide +kernel
theorem dX8_enterAll_4 : decode cX8_enterAll 4 = .ok (.iconst 0, 1) := by decide +kernel
theorem dX8_enterAll_5 : decode cX8_enterAll 5 = .ok (.istore_n 3, 1) := by decide +kernel
theorem dX8_enterAll_6 : decode cX8_enterAll 6 = .ok (.iload_n 3, 1) := by decide +kernel
theorem dX8_enterAll_7 : decode cX8_enterAll 7 = .ok (.aload_n 0, 1) := by decide +kernel
theorem dX8_enterAll_8 : decode cX8_enterAll 8 = .ok (.getfield 36, 3) := by decide +kernel
theorem dX8_enterAll_11 : decode cX8_enterAll 11 = .ok (.arraylength, 1) := by decide +kernel
theorem dX8_enterAll_12 : decode cX8_enterAll 12 = .ok (.if_icmp .ge 73, 3) := by decide +kernel
theorem dX8_enterAll_15 : decode cX8_enterAll 15 = .ok (.aload_n 0, 1) := by decide +kernel
theorem dX8_enterAll_16 : decode cX8_enterAll 16 = .ok (.iload_n 2, 1) := by decide +kernel
theorem dX8_enterAll_17 : decode cX8_enterAll 17 = .ok (.invokevirtual 457, 3) := by decide +kernel
theorem dX8_enterAll_20 : decode cX8_enterAll 20 = .ok (.istore 4, 2) := by decide +kernel
theorem dX8_enterAll_22 : decode cX8_enterAll 22 = .ok (.iload 4, 2) := by decide +kernel
theorem dX8_enterAll_24 : decode cX8_enterAll 24 = .ok (.iconst (-1), 1) := by decide +kernel
theorem dX8_enterAll_25 : decode cX8_enterAll 25 = .ok (.if_icmp .ne 6, 3) := by decide +kernel
theorem dX8_enterAll_28 : decode cX8_enterAll 28 = .ok (.goto 57, 3) := by decide +kernel
theorem dX8_enterAll_31 : decode cX8_enterAll 31 = .ok (.iload_n 2, 1) := by decide +kernel
theorem dX8_enterAll_32 : decode cX8_enterAll 32 = .ok (.iconst 1, 1) := by decide +kernel
theorem dX8_enterAll_33 : decode cX8_enterAll 33 = .ok (.iload 4, 2) := by decide +kernel
theorem dX8_enterAll_35 : decode cX8_enterAll 35 = .ok (.ishl, 1) := by decide +kernel
theorem dX8_enterAll_36 : decode cX8_enterAll 36 = .ok (.ior, 1) := by decide +kernel
theorem dX8_enterAll_37 : decode cX8_enterAll 37 = .ok (.istore_n 2, 1) := by decide +kernel
theorem dX8_enterAll_38 : decode cX8_enterAll 38 = .ok (.aload_n 0, 1) := by decide +kernel
theorem dX8_enterAll_39 : decode cX8_enterAll 39 = .ok (.getfield 36, 3) := by decide +kernel
theorem dX8_enterAll_42 : decode cX8_enterAll 42 = .ok (.iload 4, 2) := by decide +kernel
theorem dX8_enterAll_44 : decode cX8_enterAll 44 = .ok (.aaload, 1) := by decide +kernel
theorem dX8_enterAll_45 : decode cX8_enterAll 45 = .ok (.astore 5, 2) := by decide +kernel
theorem dX8_enterAll_47 : decode cX8_enterAll 47 = .ok (.aload_n 0, 1) := by decide +kernel
theorem dX8_enterAll_48 : decode cX8_enterAll 48 = .ok (.aload 5, 2) := by decide +kernel
theorem dX8_enterAll_50 : decode cX8_enterAll 50 = .ok (.invokevirtual 371, 3) := by decide +kernel
theorem dX8_enterAll_53 : decode cX8_enterAll 53 = .ok (.ifCond .ne 26, 3) := by decide +kernel
theorem dX8_enterAll_56 : decode cX8_enterAll 56 = .ok (.aload_n 0, 1) := by decide +kernel
theorem dX8_enterAll_57 : decode cX8_enterAll 57 = .ok (.aload 5, 2) := by decide +kernel
theorem dX8_enterAll_59 : decode cX8_enterAll 59 = .ok (.aload_n 0, 1) := by decide +kernel
theorem dX8_enterAll_60 : decode cX8_enterAll 60 = .ok (.aload 5, 2) := by decide +kernel
theorem dX8_enterAll_62 : decode cX8_enterAll 62 = .ok (.invokevirtual 301, 3) := by decide +kernel
theorem dX8_enterAll_65 : decode cX8_enterAll 65 = .ok (.invokevirtual 121, 3) := by decide +kernel
theorem dX8_enterAll_68 : decode cX8_enterAll 68 = .ok (.aload 5, 2) := by decide +kernel
theorem dX8_enterAll_70 : decode cX8_enterAll 70 = .ok (.invokevirtual 301, 3) := by decide +kernel
theorem dX8_enterAll_73 : decode cX8_enterAll 73 = .ok (.invokevirtual 318, 3) := by decide +kernel
theorem dX8_enterAll_76 : decode cX8_enterAll 76 = .ok (.iinc 1 1, 3) := by decide +kernel
theorem dX8_enterAll_79 : decode cX8_enterAll 79 = .ok (.iinc 3 1, 3) := by decide +kernel
theorem dX8_enterAll_82 : decode cX8_enterAll 82 = .ok (.goto (-76), 3) := by decide +kernel
theorem dX8_enterAll_85 : decode cX8_enterAll 85 = .ok (.iload_n 1, 1) := by decide +kernel
theorem dX8_enterAll_86 : decode cX8_enterAll 86 = .ok (.ireturn, 1) := by decide +kernel
theorem dX8_nextToEnter_0 : decode cX8_nextToEnter 0 = .ok (.iconst (-1), 1) := by decide +kernel
theorem dX8_nextToEnter_1 : decode cX8_nextToEnter 1 = .ok (.istore_n 2, 1) := by decide +kernel
theorem dX8_nextToEnter_2 : decode cX8_nextToEnter 2 = .ok (.iconst (-1), 1) := by decide +kernel
theorem dX8_nextToEnter_3 : decode cX8_nextToEnter 3 = .ok (.istore_n 3, 1) := by decide +kernel
theorem dX8_nextToEnter_4 : decode cX8_nextToEnter 4 = .ok (.iconst 0, 1) := by decide +kernel
theorem dX8_nextToEnter_5 : decode cX8_nextToEnter 5 = .ok (.istore 4, 2) := by decide +kernel
theorem dX8_nextToEnter_7 : decode cX8_nextToEnter 7 = .ok (.iload 4, 2) := by decide +kernel
theorem dX8_nextToEnter_9 : decode cX8_nextToEnter 9 = .ok (.aload_n 0, 1) := by decide +kernel
theorem dX8_nextToEnter_10 : decode cX8_nextToEnter 10 = .ok (.getfield 36, 3) := by decide +kernel
theorem dX8_nextToEnter_13 : decode cX8_nextToEnter 13 = .ok (.arraylength, 1) := by decide +kernel
theorem dX8_nextToEnter_14 : decode cX8_nextToEnter 14 = .ok (.if_icmp .ge 72, 3) := by decide +kernel
theorem dX8_nextToEnter_17 : decode cX8_nextToEnter 17 = .ok (.iload_n 1, 1) := by decide +kernel
theorem dX8_nextToEnter_18 : decode cX8_nextToEnter 18 = .ok (.iconst 1, 1) := by decide +kernel
theorem dX8_nextToEnter_19 : decode cX8_nextToEnter 19 = .ok (.iload 4, 2) := by decide +kernel
theorem dX8_nextToEnter_21 : decode cX8_nextToEnter 21 = .ok (.ishl, 1) := by decide +kernel
theorem dX8_nextToEnter_22 : decode cX8_nextToEnter 22 = .ok (.iand, 1) := by decide +kernel
theorem dX8_nextToEnter_23 : decode cX8_nextToEnter 23 = .ok (.ifCond .eq 7, 3) := by decide +kernel
theorem dX8_nextToEnter_26 : decode cX8_nextToEnter 26 = .ok (.iconst 1, 1) := by decide +kernel
theorem dX8_nextToEnter_27 : decode cX8_nextToEnter 27 = .ok (.goto 4, 3) := by decide +kernel
theorem dX8_nextToEnter_30 : decode cX8_nextToEnter 30 = .ok (.iconst 0, 1) := by decide +kernel
theorem dX8_nextToEnter_31 : decode cX8_nextToEnter 31 = .ok (.istore 5, 2) := by decide +kernel
theorem dX8_nextToEnter_33 : decode cX8_nextToEnter 33 = .ok (.aload_n 0, 1) := by decide +kernel
theorem dX8_nextToEnter_34 : decode cX8_nextToEnter 34 = .ok (.getfield 36, 3) := by decide +kernel
theorem dX8_nextToEnter_37 : decode cX8_nextToEnter 37 = .ok (.iload 4, 2) := by decide +kernel
theorem dX8_nextToEnter_39 : decode cX8_nextToEnter 39 = .ok (.aaload, 1) := by decide +kernel
theorem dX8_nextToEnter_40 : decode cX8_nextToEnter 40 = .ok (.getfield 277, 3) := by decide +kernel
theorem dX8_nextToEnter_43 : decode cX8_nextToEnter 43 = .ok (.iconst 1, 1) := by decide +kernel
theorem dX8_nextToEnter_44 : decode cX8_nextToEnter 44 = .ok (.if_icmp .ne 36, 3) := by decide +kernel
theorem dX8_nextToEnter_47 : decode cX8_nextToEnter 47 = .ok (.iload 5, 2) := by decide +kernel
theorem dX8_nextToEnter_49 : decode cX8_nextToEnter 49 = .ok (.ifCond .ne 31, 3) := by decide +kernel
theorem dX8_nextToEnter_52 : decode cX8_nextToEnter 52 = .ok (.aload_n 0, 1) := by decide +kernel
theorem dX8_nextToEnter_53 : decode cX8_nextToEnter 53 = .ok (.getfield 36, 3) := by decide +kernel
theorem dX8_nextToEnter_56 : decode cX8_nextToEnter 56 = .ok (.iload 4, 2) := by decide +kernel
theorem dX8_nextToEnter_58 : decode cX8_nextToEnter 58 = .ok (.aaload, 1) := by decide +kernel
theorem dX8_nextToEnter_59 : decode cX8_nextToEnter 59 = .ok (.getfield 274, 3) := by decide +kernel
theorem dX8_nextToEnter_62 : decode cX8_nextToEnter 62 = .ok (.iload_n 3, 1) := by decide +kernel
theorem dX8_nextToEnter_63 : decode cX8_nextToEnter 63 = .ok (.if_icmp .le 17, 3) := by decide +kernel
theorem dX8_nextToEnter_66 : decode cX8_nextToEnter 66 = .ok (.iload 4, 2) := by decide +kernel
theorem dX8_nextToEnter_68 : decode cX8_nextToEnter 68 = .ok (.istore_n 2, 1) := by decide +kernel
theorem dX8_nextToEnter_69 : decode cX8_nextToEnter 69 = .ok (.aload_n 0, 1) := by decide +kernel
theorem dX8_nextToEnter_70 : decode cX8_nextToEnter 70 = .ok (.getfield 36, 3) := by decide +kernel
theorem dX8_nextToEnter_73 : decode cX8_nextToEnter 73 = .ok (.iload 4, 2) := by decide +kernel
theorem dX8_nextToEnter_75 : decode cX8_nextToEnter 75 = .ok (.aaload, 1) := by decide +kernel
theorem dX8_nextToEnter_76 : decode cX8_nextToEnter 76 = .ok (.getfield 274, 3) := by decide +kernel
theorem dX8_nextToEnter_79 : decode cX8_nextToEnter 79 = .ok (.istore_n 3, 1) := by decide +kernel
theorem dX8_nextToEnter_80 : decode cX8_nextToEnter 80 = .ok (.iinc 4 1, 3) := by decide +kernel
theorem dX8_nextToEnter_83 : decode cX8_nextToEnter 83 = .ok (.goto (-76), 3) := by decide +kernel
theorem dX8_nextToEnter_86 : decode cX8_nextToEnter 86 = .ok (.iload_n 2, 1) := by decide +kernel
theorem dX8_nextToEnter_87 : decode cX8_nextToEnter 87 = .ok (.ireturn, 1) := by decide +kernel
theorem dX8_enter_0 : decode cX8_enter 0 = .ok (.aload_n 1, 1) := by decide +kernel
theorem dX8_enter_1 : decode cX8_enter 1 = .ok (.aload_n 2, 1) := by decide +kernel
theorem dX8_enter_2 : decode cX8_enter 2 = .ok (.invokestatic 460, 3) := by decide +kernel
theorem dX8_enter_5 : decode cX8_enter 5 = .ok (.istore 4, 2) := by decide +kernel
theorem dX8_enter_7 : decode cX8_enter 7 = .ok (.aload_n 0, 1) := by decide +kernel
theorem dX8_enter_8 : decode cX8_enter 8 = .ok (.aload_n 1, 1) := by decide +kernel
theorem dX8_enter_9 : decode cX8_enter 9 = .ok (.getfield 421, 3) := by decide +kernel
theorem dX8_enter_12 : decode cX8_enter 12 = .ok (.invokevirtual 159, 3) := by decide +kernel
theorem dX8_enter_15 : decode cX8_enter 15 = .ok (.dup, 1) := by decide +kernel
theorem dX8_enter_16 : decode cX8_enter 16 = .ok (.getfield 188, 3) := by decide +kernel
theorem dX8_enter_19 : decode cX8_enter 19 = .ok (.iload 4, 2) := by decide +kernel
theorem dX8_enter_21 : decode cX8_enter 21 = .ok (.iadd, 1) := by decide +kernel
theorem dX8_enter_22 : decode cX8_enter 22 = .ok (.putfield 188, 3) := by decide +kernel
theorem dX8_enter_25 : decode cX8_enter 25 = .ok (.aload_n 1, 1) := by decide +kernel
theorem dX8_enter_26 : decode cX8_enter 26 = .ok (.getfield 289, 3) := by decide +kernel
theorem dX8_enter_29 : decode cX8_enter 29 = .ok (.aload_n 1, 1) := by decide +kernel
theorem dX8_enter_30 : decode cX8_enter 30 = .ok (.getfield 236, 3) := by decide +kernel
theorem dX8_enter_33 : decode cX8_enter 33 = .ok (.if_icmp .ne 8, 3) := by decide +kernel
theorem dX8_enter_36 : decode cX8_enter 36 = .ok (.aload_n 1, 1) := by decide +kernel
theorem dX8_enter_37 : decode cX8_enter 37 = .ok (.iconst (-1), 1) := by decide +kernel
theorem dX8_enter_38 : decode cX8_enter 38 = .ok (.putfield 286, 3) := by decide +kernel
theorem dX8_enter_41 : decode cX8_enter 41 = .ok (.aload_n 1, 1) := by decide +kernel
theorem dX8_enter_42 : decode cX8_enter 42 = .ok (.aload_n 2, 1) := by decide +kernel
theorem dX8_enter_43 : decode cX8_enter 43 = .ok (.aload_n 1, 1) := by decide +kernel
theorem dX8_enter_44 : decode cX8_enter 44 = .ok (.getfield 236, 3) := by decide +kernel
theorem dX8_enter_47 : decode cX8_enter 47 = .ok (.invokevirtual 427, 3) := by decide +kernel
theorem dX8_enter_50 : decode cX8_enter 50 = .ok (.putfield 236, 3) := by decide +kernel
theorem dX8_enter_53 : decode cX8_enter 53 = .ok (.aload_n 1, 1) := by decide +kernel
theorem dX8_enter_54 : decode cX8_enter 54 = .ok (.iload_n 3, 1) := by decide +kernel
theorem dX8_enter_55 : decode cX8_enter 55 = .ok (.putfield 322, 3) := by decide +kernel
theorem dX8_enter_58 : decode cX8_enter 58 = .ok (.aload_n 1, 1) := by decide +kernel
theorem dX8_enter_59 : decode cX8_enter 59 = .ok (.dup, 1) := by decide +kernel
theorem dX8_enter_60 : decode cX8_enter 60 = .ok (.getfield 268, 3) := by decide +kernel
theorem dX8_enter_63 : decode cX8_enter 63 = .ok (.iconst 1, 1) := by decide +kernel
theorem dX8_enter_64 : decode cX8_enter 64 = .ok (.iadd, 1) := by decide +kernel
theorem dX8_enter_65 : decode cX8_enter 65 = .ok (.putfield 268, 3) := by decide +kernel
theorem dX8_enter_68 : decode cX8_enter 68 = .ok (.aload_n 1, 1) := by decide +kernel
theorem dX8_enter_69 : decode cX8_enter 69 = .ok (.aload_n 0, 1) := by decide +kernel
theorem dX8_enter_70 : decode cX8_enter 70 = .ok (.getfield 62, 3) := by decide +kernel
theorem dX8_enter_73 : decode cX8_enter 73 = .ok (.iload 4, 2) := by decide +kernel
theorem dX8_enter_75 : decode cX8_enter 75 = .ok (.iadd, 1) := by decide +kernel
theorem dX8_enter_76 : decode cX8_enter 76 = .ok (.putfield 368, 3) := by decide +kernel
theorem dX8_enter_79 : decode cX8_enter 79 = .ok (.aload_n 1, 1) := by decide +kernel
theorem dX8_enter_80 : decode cX8_enter 80 = .ok (.iconst 2, 1) := by decide +kernel
theorem dX8_enter_81 : decode cX8_enter 81 = .ok (.putfield 277, 3) := by decide +kernel
theorem dX8_enter_84 : decode cX8_enter 84 = .ok (.aload_n 2, 1) := by decide +kernel
theorem dX8_enter_85 : decode cX8_enter 85 = .ok (.iconst 0, 1) := by decide +kernel
theorem dX8_enter_86 : decode cX8_enter 86 = .ok (.putfield 129, 3) := by decide +kernel
theorem dX8_enter_89 : decode cX8_enter 89 = .ok (.aload_n 2, 1) := by decide +kernel
theorem dX8_enter_90 : decode cX8_enter 90 = .ok (.aload_n 1, 1) := by decide +kernel
theorem dX8_enter_91 : decode cX8_enter 91 = .ok (.getfield 463, 3) := by decide +kernel
theorem dX8_enter_94 : decode cX8_enter 94 = .ok (.putfield 466, 3) := by decide +kernel
theorem dX8_enter_97 : decode cX8_enter 97 = .ok (.aload_n 2, 1) := by decide +kernel
theorem dX8_enter_98 : decode cX8_enter 98 = .ok (.aload_n 1, 1) := by decide +kernel
theorem dX8_enter_99 : decode cX8_enter 99 = .ok (.getfield 368, 3) := by decide +kernel
theorem dX8_enter_102 : decode cX8_enter 102 = .ok (.aload_n 1, 1) := by decide +kernel
theorem dX8_enter_103 : decode cX8_enter 103 = .ok (.invokevirtual 451, 3) := by decide +kernel
theorem dX8_enter_106 : decode cX8_enter 106 = .ok (.iadd, 1) := by decide +kernel
theorem dX8_enter_107 : decode cX8_enter 107 = .ok (.putfield 469, 3) := by decide +kernel
theorem dX8_enter_110 : decode cX8_enter 110 = .ok (.return_, 1) := by decide +kernel
theorem dX8_barOf_0 : decode cX8_barOf 0 = .ok (.aload_n 1, 1) := by decide +kernel
theorem dX8_barOf_1 : decode cX8_barOf 1 = .ok (.invokevirtual 301, 3) := by decide +kernel
theorem dX8_barOf_4 : decode cX8_barOf 4 = .ok (.istore_n 2, 1) := by decide +kernel
theorem dX8_barOf_5 : decode cX8_barOf 5 = .ok (.aload_n 0, 1) := by decide +kernel
theorem dX8_barOf_6 : decode cX8_barOf 6 = .ok (.iload_n 2, 1) := by decide +kernel
theorem dX8_barOf_7 : decode cX8_barOf 7 = .ok (.invokevirtual 121, 3) := by decide +kernel
theorem dX8_barOf_10 : decode cX8_barOf 10 = .ok (.astore_n 3, 1) := by decide +kernel
theorem dX8_barOf_11 : decode cX8_barOf 11 = .ok (.aload_n 0, 1) := by decide +kernel
theorem dX8_barOf_12 : decode cX8_barOf 12 = .ok (.aload_n 1, 1) := by decide +kernel
theorem dX8_barOf_13 : decode cX8_barOf 13 = .ok (.aload_n 3, 1) := by decide +kernel
theorem dX8_barOf_14 : decode cX8_barOf 14 = .ok (.invokevirtual 304, 3) := by decide +kernel
theorem dX8_barOf_17 : decode cX8_barOf 17 = .ok (.istore 4, 2) := by decide +kernel
theorem dX8_barOf_19 : decode cX8_barOf 19 = .ok (.iload 4, 2) := by decide +kernel
theorem dX8_barOf_21 : decode cX8_barOf 21 = .ok (.ifCond .eq 8, 3) := by decide +kernel
theorem dX8_barOf_24 : decode cX8_barOf 24 = .ok (.iload 4, 2) := by decide +kernel
theorem dX8_barOf_26 : decode cX8_barOf 26 = .ok (.goto 10, 3) := by decide +kernel
theorem dX8_barOf_29 : decode cX8_barOf 29 = .ok (.aload_n 0, 1) := by decide +kernel
theorem dX8_barOf_30 : decode cX8_barOf 30 = .ok (.aload_n 1, 1) := by decide +kernel
theorem dX8_barOf_31 : decode cX8_barOf 31 = .ok (.aload_n 3, 1) := by decide +kernel
theorem dX8_barOf_32 : decode cX8_barOf 32 = .ok (.iload_n 2, 1) := by decide +kernel
theorem dX8_barOf_33 : decode cX8_barOf 33 = .ok (.invokevirtual 308, 3) := by decide +kernel
theorem dX8_barOf_36 : decode cX8_barOf 36 = .ok (.ireturn, 1) := by decide +kernel
theorem dX8_barOfStart_0 : decode cX8_barOfStart 0 = .ok (.aload_n 1, 1) := by decide +kernel
theorem dX8_barOfStart_1 : decode cX8_barOfStart 1 = .ok (.getfield 268, 3) := by decide +kernel
theorem dX8_barOfStart_4 : decode cX8_barOfStart 4 = .ok (.ifCond .ne 16, 3) := by decide +kernel
theorem dX8_barOfStart_7 : decode cX8_barOfStart 7 = .ok (.aload_n 0, 1) := by decide +kernel
theorem dX8_barOfStart_8 : decode cX8_barOfStart 8 = .ok (.getfield 62, 3) := by decide +kernel
theorem dX8_barOfStart_11 : decode cX8_barOfStart 11 = .ok (.aload_n 1, 1) := by decide +kernel
theorem dX8_barOfStart_12 : decode cX8_barOfStart 12 = .ok (.getfield 271, 3) := by decide +kernel
theorem dX8_barOfStart_15 : decode cX8_barOfStart 15 = .ok (.if_icmp .ge 5, 3) := by decide +kernel
theorem dX8_barOfStart_18 : decode cX8_barOfStart 18 = .ok (.iconst 1, 1) := by decide +kernel
theorem dX8_barOfStart_19 : decode cX8_barOfStart 19 = .ok (.ireturn, 1) := by decide +kernel
theorem dX8_barOfStart_20 : decode cX8_barOfStart 20 = .ok (.aload_n 0, 1) := by decide +kernel
theorem dX8_barOfStart_21 : decode cX8_barOfStart 21 = .ok (.aload_n 1, 1) := by decide +kernel
theorem dX8_barOfStart_22 : decode cX8_barOfStart 22 = .ok (.invokevirtual 475, 3) := by decide +kernel
theorem dX8_barOfStart_25 : decode cX8_barOfStart 25 = .ok (.ifCond .eq 5, 3) := by decide +kernel
theorem dX8_barOfStart_28 : decode cX8_barOfStart 28 = .ok (.iconst 2, 1) := by decide +kernel
theorem dX8_barOfStart_29 : decode cX8_barOfStart 29 = .ok (.ireturn, 1) := by decide +kernel
theorem dX8_barOfStart_30 : decode cX8_barOfStart 30 = .ok (.aload_n 2, 1) := by decide +kernel
theorem dX8_barOfStart_31 : decode cX8_barOfStart 31 = .ok (.aload_n 0, 1) := by decide +kernel
theorem dX8_barOfStart_32 : decode cX8_barOfStart 32 = .ok (.getfield 62, 3) := by decide +kernel
theorem dX8_barOfStart_35 : decode cX8_barOfStart 35 = .ok (.invokevirtual 138, 3) := by decide +kernel
theorem dX8_barOfStart_38 : decode cX8_barOfStart 38 = .ok (.iconst (-1), 1) := by decide +kernel
theorem dX8_barOfStart_39 : decode cX8_barOfStart 39 = .ok (.if_icmp .eq 5, 3) := by decide +kernel
theorem dX8_barOfStart_42 : decode cX8_barOfStart 42 = .ok (.iconst 3, 1) := by decide +kernel
theorem dX8_barOfStart_43 : decode cX8_barOfStart 43 = .ok (.ireturn, 1) := by decide +kernel
theorem dX8_barOfStart_44 : decode cX8_barOfStart 44 = .ok (.aload_n 2, 1) := by decide +kernel
theorem dX8_barOfStart_45 : decode cX8_barOfStart 45 = .ok (.aload_n 0, 1) := by decide +kernel
theorem dX8_barOfStart_46 : decode cX8_barOfStart 46 = .ok (.getfield 62, 3) := by decide +kernel
theorem dX8_barOfStart_49 : decode cX8_barOfStart 49 = .ok (.invokevirtual 141, 3) := by decide +kernel
theorem dX8_barOfStart_52 : decode cX8_barOfStart 52 = .ok (.ifCond .eq 5, 3) := by decide +kernel
theorem dX8_barOfStart_55 : decode cX8_barOfStart 55 = .ok (.iconst 4, 1) := by decide +kernel
theorem dX8_barOfStart_56 : decode cX8_barOfStart 56 = .ok (.ireturn, 1) := by decide +kernel
theorem dX8_barOfStart_57 : decode cX8_barOfStart 57 = .ok (.aload_n 2, 1) := by decide +kernel
theorem dX8_barOfStart_58 : decode cX8_barOfStart 58 = .ok (.getfield 125, 3) := by decide +kernel
theorem dX8_barOfStart_61 : decode cX8_barOfStart 61 = .ok (.ifCond .eq 14, 3) := by decide +kernel
theorem dX8_barOfStart_64 : decode cX8_barOfStart 64 = .ok (.aload_n 2, 1) := by decide +kernel
theorem dX8_barOfStart_65 : decode cX8_barOfStart 65 = .ok (.getfield 129, 3) := by decide +kernel
theorem dX8_barOfStart_68 : decode cX8_barOfStart 68 = .ok (.ifCond .ne 7, 3) := by decide +kernel
theorem dX8_barOfStart_71 : decode cX8_barOfStart 71 = .ok (.iconst 5, 1) := by decide +kernel
theorem dX8_barOfStart_72 : decode cX8_barOfStart 72 = .ok (.goto 4, 3) := by decide +kernel
theorem dX8_barOfStart_75 : decode cX8_barOfStart 75 = .ok (.iconst 0, 1) := by decide +kernel
theorem dX8_barOfStart_76 : decode cX8_barOfStart 76 = .ok (.ireturn, 1) := by decide +kernel
theorem dX8_barOfRun_0 : decode cX8_barOfRun 0 = .ok (.aload_n 1, 1) := by decide +kernel
theorem dX8_barOfRun_1 : decode cX8_barOfRun 1 = .ok (.aload_n 2, 1) := by decide +kernel
theorem dX8_barOfRun_2 : decode cX8_barOfRun 2 = .ok (.invokestatic 460, 3) := by decide +kernel
theorem dX8_barOfRun_5 : decode cX8_barOfRun 5 = .ok (.istore 4, 2) := by decide +kernel
theorem dX8_barOfRun_7 : decode cX8_barOfRun 7 = .ok (.aload_n 2, 1) := by decide +kernel
theorem dX8_barOfRun_8 : decode cX8_barOfRun 8 = .ok (.aload_n 0, 1) := by decide +kernel
theorem dX8_barOfRun_9 : decode cX8_barOfRun 9 = .ok (.getfield 62, 3) := by decide +kernel
theorem dX8_barOfRun_12 : decode cX8_barOfRun 12 = .ok (.aload_n 0, 1) := by decide +kernel
theorem dX8_barOfRun_13 : decode cX8_barOfRun 13 = .ok (.getfield 62, 3) := by decide +kernel
theorem dX8_barOfRun_16 : decode cX8_barOfRun 16 = .ok (.iload 4, 2) := by decide +kernel
theorem dX8_barOfRun_18 : decode cX8_barOfRun 18 = .ok (.iadd, 1) := by decide +kernel
theorem dX8_barOfRun_19 : decode cX8_barOfRun 19 = .ok (.aload_n 1, 1) := by decide +kernel
theorem dX8_barOfRun_20 : decode cX8_barOfRun 20 = .ok (.invokevirtual 451, 3) := by decide +kernel
theorem dX8_barOfRun_23 : decode cX8_barOfRun 23 = .ok (.iadd, 1) := by decide +kernel
theorem dX8_barOfRun_24 : decode cX8_barOfRun 24 = .ok (.invokevirtual 479, 3) := by decide +kernel
theorem dX8_barOfRun_27 : decode cX8_barOfRun 27 = .ok (.ifCond .eq 6, 3) := by decide +kernel
theorem dX8_barOfRun_30 : decode cX8_barOfRun 30 = .ok (.bipush 6, 2) := by decide +kernel
theorem dX8_barOfRun_32 : decode cX8_barOfRun 32 = .ok (.ireturn, 1) := by decide +kernel
theorem dX8_barOfRun_33 : decode cX8_barOfRun 33 = .ok (.aload_n 1, 1) := by decide +kernel
theorem dX8_barOfRun_34 : decode cX8_barOfRun 34 = .ok (.getfield 250, 3) := by decide +kernel
theorem dX8_barOfRun_37 : decode cX8_barOfRun 37 = .ok (.aload_n 1, 1) := by decide +kernel
theorem dX8_barOfRun_38 : decode cX8_barOfRun 38 = .ok (.getfield 482, 3) := by decide +kernel
theorem dX8_barOfRun_41 : decode cX8_barOfRun 41 = .ok (.bipush 8, 2) := by decide +kernel
theorem dX8_barOfRun_43 : decode cX8_barOfRun 43 = .ok (.iconst 2, 1) := by decide +kernel
theorem dX8_barOfRun_44 : decode cX8_barOfRun 44 = .ok (.aload_n 2, 1) := by decide +kernel
theorem dX8_barOfRun_45 : decode cX8_barOfRun 45 = .ok (.getfield 483, 3) := by decide +kernel
theorem dX8_barOfRun_48 : decode cX8_barOfRun 48 = .ok (.imul, 1) := by decide +kernel
theorem dX8_barOfRun_49 : decode cX8_barOfRun 49 = .ok (.isub, 1) := by decide +kernel
theorem dX8_barOfRun_50 : decode cX8_barOfRun 50 = .ok (.imul, 1) := by decide +kernel
theorem dX8_barOfRun_51 : decode cX8_barOfRun 51 = .ok (.if_icmp .le 6, 3) := by decide +kernel
theorem dX8_barOfRun_54 : decode cX8_barOfRun 54 = .ok (.bipush 7, 2) := by decide +kernel
theorem dX8_barOfRun_56 : decode cX8_barOfRun 56 = .ok (.ireturn, 1) := by decide +kernel
theorem dX8_barOfRun_57 : decode cX8_barOfRun 57 = .ok (.aload_n 0, 1) := by decide +kernel
theorem dX8_barOfRun_58 : decode cX8_barOfRun 58 = .ok (.aload_n 1, 1) := by decide +kernel
theorem dX8_barOfRun_59 : decode cX8_barOfRun 59 = .ok (.getfield 421, 3) := by decide +kernel
theorem dX8_barOfRun_62 : decode cX8_barOfRun 62 = .ok (.invokevirtual 159, 3) := by decide +kernel
theorem dX8_barOfRun_65 : decode cX8_barOfRun 65 = .ok (.astore 5, 2) := by decide +kernel
theorem dX8_barOfRun_67 : decode cX8_barOfRun 67 = .ok (.aload 5, 2) := by decide +kernel
theorem dX8_barOfRun_69 : decode cX8_barOfRun 69 = .ok (.getfield 166, 3) := by decide +kernel
theorem dX8_barOfRun_72 : decode cX8_barOfRun 72 = .ok (.iconst 1, 1) := by decide +kernel
theorem dX8_barOfRun_73 : decode cX8_barOfRun 73 = .ok (.iload_n 3, 1) := by decide +kernel
theorem dX8_barOfRun_74 : decode cX8_barOfRun 74 = .ok (.ishl, 1) := by decide +kernel
theorem dX8_barOfRun_75 : decode cX8_barOfRun 75 = .ok (.iand, 1) := by decide +kernel
theorem dX8_barOfRun_76 : decode cX8_barOfRun 76 = .ok (.ifCond .ne 6, 3) := by decide +kernel
theorem dX8_barOfRun_79 : decode cX8_barOfRun 79 = .ok (.bipush 8, 2) := by decide +kernel
theorem dX8_barOfRun_81 : decode cX8_barOfRun 81 = .ok (.ireturn, 1) := by decide +kernel
theorem dX8_barOfRun_82 : decode cX8_barOfRun 82 = .ok (.aload 5, 2) := by decide +kernel
theorem dX8_barOfRun_84 : decode cX8_barOfRun 84 = .ok (.aload_n 0, 1) := by decide +kernel
theorem dX8_barOfRun_85 : decode cX8_barOfRun 85 = .ok (.getfield 62, 3) := by decide +kernel
theorem dX8_barOfRun_88 : decode cX8_barOfRun 88 = .ok (.invokevirtual 174, 3) := by decide +kernel
theorem dX8_barOfRun_91 : decode cX8_barOfRun 91 = .ok (.ifCond .ne 17, 3) := by decide +kernel
theorem dX8_barOfRun_94 : decode cX8_barOfRun 94 = .ok (.aload 5, 2) := by decide +kernel
theorem dX8_barOfRun_96 : decode cX8_barOfRun 96 = .ok (.getfield 188, 3) := by decide +kernel
theorem dX8_barOfRun_99 : decode cX8_barOfRun 99 = .ok (.iload 4, 2) := by decide +kernel
theorem dX8_barOfRun_101 : decode cX8_barOfRun 101 = .ok (.iadd, 1) := by decide +kernel
theorem dX8_barOfRun_102 : decode cX8_barOfRun 102 = .ok (.sipush 600, 3) := by decide +kernel
theorem dX8_barOfRun_105 : decode cX8_barOfRun 105 = .ok (.if_icmp .le 6, 3) := by decide +kernel
theorem dX8_barOfRun_108 : decode cX8_barOfRun 108 = .ok (.bipush 9, 2) := by decide +kernel
theorem dX8_barOfRun_110 : decode cX8_barOfRun 110 = .ok (.ireturn, 1) := by decide +kernel
theorem dX8_barOfRun_111 : decode cX8_barOfRun 111 = .ok (.aload_n 0, 1) := by decide +kernel
theorem dX8_barOfRun_112 : decode cX8_barOfRun 112 = .ok (.aload_n 2, 1) := by decide +kernel
theorem dX8_barOfRun_113 : decode cX8_barOfRun 113 = .ok (.aload_n 1, 1) := by decide +kernel
theorem dX8_barOfRun_114 : decode cX8_barOfRun 114 = .ok (.getfield 236, 3) := by decide +kernel
theorem dX8_barOfRun_117 : decode cX8_barOfRun 117 = .ok (.invokevirtual 427, 3) := by decide +kernel
theorem dX8_barOfRun_120 : decode cX8_barOfRun 120 = .ok (.invokevirtual 216, 3) := by decide +kernel
theorem dX8_barOfRun_123 : decode cX8_barOfRun 123 = .ok (.ifCond .le 7, 3) := by decide +kernel
theorem dX8_barOfRun_126 : decode cX8_barOfRun 126 = .ok (.iconst 0, 1) := by decide +kernel
theorem dX8_barOfRun_127 : decode cX8_barOfRun 127 = .ok (.goto 5, 3) := by decide +kernel
theorem dX8_barOfRun_130 : decode cX8_barOfRun 130 = .ok (.bipush 10, 2) := by decide +kernel
theorem dX8_barOfRun_132 : decode cX8_barOfRun 132 = .ok (.ireturn, 1) := by decide +kernel
theorem dX8_isWaiting_0 : decode cX8_isWaiting 0 = .ok (.aload_n 1, 1) := by decide +kernel
theorem dX8_isWaiting_1 : decode cX8_isWaiting 1 = .ok (.getfield 286, 3) := by decide +kernel
theorem dX8_isWaiting_4 : decode cX8_isWaiting 4 = .ok (.istore_n 2, 1) := by decide +kernel
theorem dX8_isWaiting_5 : decode cX8_isWaiting 5 = .ok (.iload_n 2, 1) := by decide +kernel
theorem dX8_isWaiting_6 : decode cX8_isWaiting 6 = .ok (.ifCond .lt 23, 3) := by decide +kernel
theorem dX8_isWaiting_9 : decode cX8_isWaiting 9 = .ok (.iload_n 2, 1) := by decide +kernel
theorem dX8_isWaiting_10 : decode cX8_isWaiting 10 = .ok (.aload_n 0, 1) := by decide +kernel
theorem dX8_isWaiting_11 : decode cX8_isWaiting 11 = .ok (.getfield 36, 3) := by decide +kernel
theorem dX8_isWaiting_14 : decode cX8_isWaiting 14 = .ok (.arraylength, 1) := by decide +kernel
theorem dX8_isWaiting_15 : decode cX8_isWaiting 15 = .ok (.if_icmp .ge 14, 3) := by decide +kernel
theorem dX8_isWaiting_18 : decode cX8_isWaiting 18 = .ok (.aload_n 1, 1) := by decide +kernel
theorem dX8_isWaiting_19 : decode cX8_isWaiting 19 = .ok (.getfield 289, 3) := by decide +kernel
theorem dX8_isWaiting_22 : decode cX8_isWaiting 22 = .ok (.aload_n 1, 1) := by decide +kernel
theorem dX8_isWaiting_23 : decode cX8_isWaiting 23 = .ok (.getfield 236, 3) := by decide +kernel
theorem dX8_isWaiting_26 : decode cX8_isWaiting 26 = .ok (.if_icmp .eq 5, 3) := by decide +kernel
theorem dX8_isWaiting_29 : decode cX8_isWaiting 29 = .ok (.iconst 0, 1) := by decide +kernel
theorem dX8_isWaiting_30 : decode cX8_isWaiting 30 = .ok (.ireturn, 1) := by decide +kernel
theorem dX8_isWaiting_31 : decode cX8_isWaiting 31 = .ok (.aload_n 0, 1) := by decide +kernel
theorem dX8_isWaiting_32 : decode cX8_isWaiting 32 = .ok (.getfield 36, 3) := by decide +kernel
theorem dX8_isWaiting_35 : decode cX8_isWaiting 35 = .ok (.iload_n 2, 1) := by decide +kernel
theorem dX8_isWaiting_36 : decode cX8_isWaiting 36 = .ok (.aaload, 1) := by decide +kernel
theorem dX8_isWaiting_37 : decode cX8_isWaiting 37 = .ok (.invokevirtual 184, 3) := by decide +kernel
theorem dX8_isWaiting_40 : decode cX8_isWaiting 40 = .ok (.ifCond .eq 19, 3) := by decide +kernel
theorem dX8_isWaiting_43 : decode cX8_isWaiting 43 = .ok (.aload_n 0, 1) := by decide +kernel
theorem dX8_isWaiting_44 : decode cX8_isWaiting 44 = .ok (.getfield 36, 3) := by decide +kernel
theorem dX8_isWaiting_47 : decode cX8_isWaiting 47 = .ok (.iload_n 2, 1) := by decide +kernel
theorem dX8_isWaiting_48 : decode cX8_isWaiting 48 = .ok (.aaload, 1) := by decide +kernel
theorem dX8_isWaiting_49 : decode cX8_isWaiting 49 = .ok (.getfield 236, 3) := by decide +kernel
theorem dX8_isWaiting_52 : decode cX8_isWaiting 52 = .ok (.aload_n 1, 1) := by decide +kernel
theorem dX8_isWaiting_53 : decode cX8_isWaiting 53 = .ok (.getfield 236, 3) := by decide +kernel
theorem dX8_isWaiting_56 : decode cX8_isWaiting 56 = .ok (.if_icmp .eq 7, 3) := by decide +kernel
theorem dX8_isWaiting_59 : decode cX8_isWaiting 59 = .ok (.iconst 1, 1) := by decide +kernel
theorem dX8_isWaiting_60 : decode cX8_isWaiting 60 = .ok (.goto 4, 3) := by decide +kernel
theorem dX8_isWaiting_63 : decode cX8_isWaiting 63 = .ok (.iconst 0, 1) := by decide +kernel
theorem dX8_isWaiting_64 : decode cX8_isWaiting 64 = .ok (.ireturn, 1) := by decide +kernel
theorem dX8_runningMinutes_0 : decode cX8_runningMinutes 0 = .ok (.aload_n 1, 1) := by decide +kernel
theorem dX8_runningMinutes_1 : decode cX8_runningMinutes 1 = .ok (.getfield 438, 3) := by decide +kernel
theorem dX8_runningMinutes_4 : decode cX8_runningMinutes 4 = .ok (.istore_n 2, 1) := by decide +kernel
theorem dX8_runningMinutes_5 : decode cX8_runningMinutes 5 = .ok (.aload_n 0, 1) := by decide +kernel
theorem dX8_runningMinutes_6 : decode cX8_runningMinutes 6 = .ok (.getfield 482, 3) := by decide +kernel
theorem dX8_runningMinutes_9 : decode cX8_runningMinutes 9 = .ok (.ifCond .le 23, 3) := by decide +kernel
theorem dX8_runningMinutes_12 : decode cX8_runningMinutes 12 = .ok (.iload_n 2, 1) := by decide +kernel
theorem dX8_runningMinutes_13 : decode cX8_runningMinutes 13 = .ok (.aload_n 1, 1) := by decide +kernel
theorem dX8_runningMinutes_14 : decode cX8_runningMinutes 14 = .ok (.getfield 438, 3) := by decide +kernel
theorem dX8_runningMinutes_17 : decode cX8_runningMinutes 17 = .ok (.aload_n 0, 1) := by decide +kernel
theorem dX8_runningMinutes_18 : decode cX8_runningMinutes 18 = .ok (.getfield 250, 3) := by decide +kernel
theorem dX8_runningMinutes_21 : decode cX8_runningMinutes 21 = .ok (.imul, 1) := by decide +kernel
theorem dX8_runningMinutes_22 : decode cX8_runningMinutes 22 = .ok (.bipush 10, 2) := by decide +kernel
theorem dX8_runningMinutes_24 : decode cX8_runningMinutes 24 = .ok (.aload_n 0, 1) := by decide +kernel
theorem dX8_runningMinutes_25 : decode cX8_runningMinutes 25 = .ok (.getfield 482, 3) := by decide +kernel
theorem dX8_runningMinutes_28 : decode cX8_runningMinutes 28 = .ok (.imul, 1) := by decide +kernel
theorem dX8_runningMinutes_29 : decode cX8_runningMinutes 29 = .ok (.idiv, 1) := by decide +kernel
theorem dX8_runningMinutes_30 : decode cX8_runningMinutes 30 = .ok (.iadd, 1) := by decide +kernel
theorem dX8_runningMinutes_31 : decode cX8_runningMinutes 31 = .ok (.istore_n 2, 1) := by decide +kernel
theorem dX8_runningMinutes_32 : decode cX8_runningMinutes 32 = .ok (.aload_n 1, 1) := by decide +kernel
theorem dX8_runningMinutes_33 : decode cX8_runningMinutes 33 = .ok (.getfield 145, 3) := by decide +kernel
theorem dX8_runningMinutes_36 : decode cX8_runningMinutes 36 = .ok (.bipush 60, 2) := by decide +kernel
theorem dX8_runningMinutes_38 : decode cX8_runningMinutes 38 = .ok (.if_icmp .lt 10, 3) := by decide +kernel
theorem dX8_runningMinutes_41 : decode cX8_runningMinutes 41 = .ok (.iload_n 2, 1) := by decide +kernel
theorem dX8_runningMinutes_42 : decode cX8_runningMinutes 42 = .ok (.aload_n 1, 1) := by decide +kernel
theorem dX8_runningMinutes_43 : decode cX8_runningMinutes 43 = .ok (.getfield 438, 3) := by decide +kernel
theorem dX8_runningMinutes_46 : decode cX8_runningMinutes 46 = .ok (.iadd, 1) := by decide +kernel
theorem dX8_runningMinutes_47 : decode cX8_runningMinutes 47 = .ok (.istore_n 2, 1) := by decide +kernel
theorem dX8_runningMinutes_48 : decode cX8_runningMinutes 48 = .ok (.aload_n 1, 1) := by decide +kernel
theorem dX8_runningMinutes_49 : decode cX8_runningMinutes 49 = .ok (.getfield 125, 3) := by decide +kernel
theorem dX8_runningMinutes_52 : decode cX8_runningMinutes 52 = .ok (.ifCond .eq 9, 3) := by decide +kernel
theorem dX8_runningMinutes_55 : decode cX8_runningMinutes 55 = .ok (.iconst 2, 1) := by decide +kernel
theorem dX8_runningMinutes_56 : decode cX8_runningMinutes 56 = .ok (.iload_n 2, 1) := by decide +kernel
theorem dX8_runningMinutes_57 : decode cX8_runningMinutes 57 = .ok (.imul, 1) := by decide +kernel
theorem dX8_runningMinutes_58 : decode cX8_runningMinutes 58 = .ok (.goto 4, 3) := by decide +kernel
theorem dX8_runningMinutes_61 : decode cX8_runningMinutes 61 = .ok (.iload_n 2, 1) := by decide +kernel
theorem dX8_runningMinutes_62 : decode cX8_runningMinutes 62 = .ok (.ireturn, 1) := by decide +kernel
theorem dJ6_bitCount_0f7a4_0 : decode cJ6_bitCount_0f7a4 0 = .ok (.iload_n 0, 1) := by decide +kernel
theorem dJ6_bitCount_0f7a4_1 : decode cJ6_bitCount_0f7a4 1 = .ok (.iload_n 0, 1) := by decide +kernel
theorem dJ6_bitCount_0f7a4_2 : decode cJ6_bitCount_0f7a4 2 = .ok (.iconst 1, 1) := by decide +kernel
theorem dJ6_bitCount_0f7a4_3 : decode cJ6_bitCount_0f7a4 3 = .ok (.iushr, 1) := by decide +kernel
theorem dJ6_bitCount_0f7a4_4 : decode cJ6_bitCount_0f7a4 4 = .ok (.ldc_w 265, 3) := by decide +kernel
theorem dJ6_bitCount_0f7a4_7 : decode cJ6_bitCount_0f7a4 7 = .ok (.iand, 1) := by decide +kernel
theorem dJ6_bitCount_0f7a4_8 : decode cJ6_bitCount_0f7a4 8 = .ok (.isub, 1) := by decide +kernel
theorem dJ6_bitCount_0f7a4_9 : decode cJ6_bitCount_0f7a4 9 = .ok (.istore_n 0, 1) := by decide +kernel
theorem dJ6_bitCount_0f7a4_10 : decode cJ6_bitCount_0f7a4 10 = .ok (.iload_n 0, 1) := by decide +kernel
theorem dJ6_bitCount_0f7a4_11 : decode cJ6_bitCount_0f7a4 11 = .ok (.ldc_w 266, 3) := by decide +kernel
theorem dJ6_bitCount_0f7a4_14 : decode cJ6_bitCount_0f7a4 14 = .ok (.iand, 1) := by decide +kernel
theorem dJ6_bitCount_0f7a4_15 : decode cJ6_bitCount_0f7a4 15 = .ok (.iload_n 0, 1) := by decide +kernel
theorem dJ6_bitCount_0f7a4_16 : decode cJ6_bitCount_0f7a4 16 = .ok (.iconst 2, 1) := by decide +kernel
theorem dJ6_bitCount_0f7a4_17 : decode cJ6_bitCount_0f7a4 17 = .ok (.iushr, 1) := by decide +kernel
theorem dJ6_bitCount_0f7a4_18 : decode cJ6_bitCount_0f7a4 18 = .ok (.ldc_w 266, 3) := by decide +kernel
theorem dJ6_bitCount_0f7a4_21 : decode cJ6_bitCount_0f7a4 21 = .ok (.iand, 1) := by decide +kernel
theorem dJ6_bitCount_0f7a4_22 : decode cJ6_bitCount_0f7a4 22 = .ok (.iadd, 1) := by decide +kernel
theorem dJ6_bitCount_0f7a4_23 : decode cJ6_bitCount_0f7a4 23 = .ok (.istore_n 0, 1) := by decide +kernel
theorem dJ6_bitCount_0f7a4_24 : decode cJ6_bitCount_0f7a4 24 = .ok (.iload_n 0, 1) := by decide +kernel
theorem dJ6_bitCount_0f7a4_25 : decode cJ6_bitCount_0f7a4 25 = .ok (.iload_n 0, 1) := by decide +kernel
theorem dJ6_bitCount_0f7a4_26 : decode cJ6_bitCount_0f7a4 26 = .ok (.iconst 4, 1) := by decide +kernel
theorem dJ6_bitCount_0f7a4_27 : decode cJ6_bitCount_0f7a4 27 = .ok (.iushr, 1) := by decide +kernel
theorem dJ6_bitCount_0f7a4_28 : decode cJ6_bitCount_0f7a4 28 = .ok (.iadd, 1) := by decide +kernel
theorem dJ6_bitCount_0f7a4_29 : decode cJ6_bitCount_0f7a4 29 = .ok (.ldc_w 267, 3) := by decide +kernel
theorem dJ6_bitCount_0f7a4_32 : decode cJ6_bitCount_0f7a4 32 = .ok (.iand, 1) := by decide +kernel
theorem dJ6_bitCount_0f7a4_33 : decode cJ6_bitCount_0f7a4 33 = .ok (.istore_n 0, 1) := by decide +kernel
theorem dJ6_bitCount_0f7a4_34 : decode cJ6_bitCount_0f7a4 34 = .ok (.iload_n 0, 1) := by decide +kernel
theorem dJ6_bitCount_0f7a4_35 : decode cJ6_bitCount_0f7a4 35 = .ok (.iload_n 0, 1) := by decide +kernel
theorem dJ6_bitCount_0f7a4_36 : decode cJ6_bitCount_0f7a4 36 = .ok (.bipush 8, 2) := by decide +kernel
theorem dJ6_bitCount_0f7a4_38 : decode cJ6_bitCount_0f7a4 38 = .ok (.iushr, 1) := by decide +kernel
theorem dJ6_bitCount_0f7a4_39 : decode cJ6_bitCount_0f7a4 39 = .ok (.iadd, 1) := by decide +kernel
theorem dJ6_bitCount_0f7a4_40 : decode cJ6_bitCount_0f7a4 40 = .ok (.istore_n 0, 1) := by decide +kernel
theorem dJ6_bitCount_0f7a4_41 : decode cJ6_bitCount_0f7a4 41 = .ok (.iload_n 0, 1) := by decide +kernel
theorem dJ6_bitCount_0f7a4_42 : decode cJ6_bitCount_0f7a4 42 = .ok (.iload_n 0, 1) := by decide +kernel
theorem dJ6_bitCount_0f7a4_43 : decode cJ6_bitCount_0f7a4 43 = .ok (.bipush 16, 2) := by decide +kernel
theorem dJ6_bitCount_0f7a4_45 : decode cJ6_bitCount_0f7a4 45 = .ok (.iushr, 1) := by decide +kernel
theorem dJ6_bitCount_0f7a4_46 : decode cJ6_bitCount_0f7a4 46 = .ok (.iadd, 1) := by decide +kernel
theorem dJ6_bitCount_0f7a4_47 : decode cJ6_bitCount_0f7a4 47 = .ok (.istore_n 0, 1) := by decide +kernel
theorem dJ6_bitCount_0f7a4_48 : decode cJ6_bitCount_0f7a4 48 = .ok (.iload_n 0, 1) := by decide +kernel
theorem dJ6_bitCount_0f7a4_49 : decode cJ6_bitCount_0f7a4 49 = .ok (.bipush 63, 2) := by decide +kernel
theorem dJ6_bitCount_0f7a4_51 : decode cJ6_bitCount_0f7a4 51 = .ok (.iand, 1) := by decide +kernel
theorem dJ6_bitCount_0f7a4_52 : decode cJ6_bitCount_0f7a4 52 = .ok (.ireturn, 1) := by decide +kernel
theorem dJ9_max_7cf53_0 : decode cJ9_max_7cf53 0 = .ok (.iload_n 0, 1) := by decide +kernel
theorem dJ9_max_7cf53_1 : decode cJ9_max_7cf53 1 = .ok (.iload_n 1, 1) := by decide +kernel
theorem dJ9_max_7cf53_2 : decode cJ9_max_7cf53 2 = .ok (.if_icmp .lt 7, 3) := by decide +kernel
theorem dJ9_max_7cf53_5 : decode cJ9_max_7cf53 5 = .ok (.iload_n 0, 1) := by decide +kernel
theorem dJ9_max_7cf53_6 : decode cJ9_max_7cf53 6 = .ok (.goto 4, 3) := by decide +kernel
theorem dJ9_max_7cf53_9 : decode cJ9_max_7cf53 9 = .ok (.iload_n 1, 1) := by decide +kernel
theorem dJ9_max_7cf53_10 : decode cJ9_max_7cf53 10 = .ok (.ireturn, 1) := by decide +kernel
theorem dJ9_min_7cf53_0 : decode cJ9_min_7cf53 0 = .ok (.iload_n 0, 1) := by decide +kernel
theorem dJ9_min_7cf53_1 : decode cJ9_min_7cf53 1 = .ok (.iload_n 1, 1) := by decide +kernel
theorem dJ9_min_7cf53_2 : decode cJ9_min_7cf53 2 = .ok (.if_icmp .gt 7, 3) := by decide +kernel
theorem dJ9_min_7cf53_5 : decode cJ9_min_7cf53 5 = .ok (.iload_n 0, 1) := by decide +kernel
theorem dJ9_min_7cf53_6 : decode cJ9_min_7cf53 6 = .ok (.goto 4, 3) := by decide +kernel
theorem dJ9_min_7cf53_9 : decode cJ9_min_7cf53 9 = .ok (.iload_n 1, 1) := by decide +kernel
theorem dJ9_min_7cf53_10 : decode cJ9_min_7cf53 10 = .ok (.ireturn, 1) := by decide +kernel
theorem dJxa1e45_init_da8c8_0 : decode cJxa1e45_init_da8c8 0 = .ok (.aload_n 0, 1) := by decide +kernel
theorem dJxa1e45_init_da8c8_1 : decode cJxa1e45_init_da8c8 1 = .ok (.invokespecial 1, 3) := by decide +kernel
theorem dJxa1e45_init_da8c8_4 : decode cJxa1e45_init_da8c8 4 = .ok (.return_, 1) := by decide +kernel
theorem dJxc12de_init_da8c8_0 : decode cJxc12de_init_da8c8 0 = .ok (.aload_n 0, 1) := by decide +kernel
theorem dJxc12de_init_da8c8_1 : decode cJxc12de_init_da8c8 1 = .ok (.invokespecial 1, 3) := by decide +kernel
theorem dJxc12de_init_da8c8_4 : decode cJxc12de_init_da8c8 4 = .ok (.aload_n 0, 1) := by decide +kernel
theorem dJxc12de_init_da8c8_5 : decode cJxc12de_init_da8c8 5 = .ok (.iconst 0, 1) := by decide +kernel
theorem dJxc12de_init_da8c8_6 : decode cJxc12de_init_da8c8 6 = .ok (.putfield 7, 3) := by decide +kernel
theorem dJxc12de_init_da8c8_9 : decode cJxc12de_init_da8c8 9 = .ok (.return_, 1) := by decide +kernel
theorem dJx4a65c_init_da8c8_0 : decode cJx4a65c_init_da8c8 0 = .ok (.aload_n 0, 1) := by decide +kernel
theorem dJx4a65c_init_da8c8_1 : decode cJx4a65c_init_da8c8 1 = .ok (.invokespecial 1, 3) := by decide +kernel
theorem dJx4a65c_init_da8c8_4 : decode cJx4a65c_init_da8c8 4 = .ok (.aload_n 0, 1) := by decide +kernel
theorem dJx4a65c_init_da8c8_5 : decode cJx4a65c_init_da8c8 5 = .ok (.getstatic 39, 3) := by decide +kernel
theorem dJx4a65c_init_da8c8_8 : decode cJx4a65c_init_da8c8 8 = .ok (.putfield 9, 3) := by decide +kernel
theorem dJx4a65c_init_da8c8_11 : decode cJx4a65c_init_da8c8 11 = .ok (.return_, 1) := by decide +kernel
theorem dJx4a65c_grow_92f84_0 : decode cJx4a65c_grow_92f84 0 = .ok (.aload_n 0, 1) := by decide +kernel
theorem dJx4a65c_grow_92f84_1 : decode cJx4a65c_grow_92f84 1 = .ok (.getfield 9, 3) := by decide +kernel
theorem dJx4a65c_grow_92f84_4 : decode cJx4a65c_grow_92f84 4 = .ok (.arraylength, 1) := by decide +kernel
theorem dJx4a65c_grow_92f84_5 : decode cJx4a65c_grow_92f84 5 = .ok (.istore_n 2, 1) := by decide +kernel
theorem dJx4a65c_grow_92f84_6 : decode cJx4a65c_grow_92f84 6 = .ok (.iload_n 2, 1) := by decide +kernel
theorem dJx4a65c_grow_92f84_7 : decode cJx4a65c_grow_92f84 7 = .ok (.ifCond .gt 13, 3) := by decide +kernel
theorem dJx4a65c_grow_92f84_10 : decode cJx4a65c_grow_92f84 10 = .ok (.aload_n 0, 1) := by decide +kernel
theorem dJx4a65c_grow_92f84_11 : decode cJx4a65c_grow_92f84 11 = .ok (.getfield 9, 3) := by decide +kernel
theorem dJx4a65c_grow_92f84_14 : decode cJx4a65c_grow_92f84 14 = .ok (.getstatic 39, 3) := by decide +kernel
theorem dJx4a65c_grow_92f84_17 : decode cJx4a65c_grow_92f84 17 = .ok (.if_acmp .eq 28, 3) := by decide +kernel
theorem dJx4a65c_grow_92f84_20 : decode cJx4a65c_grow_92f84 20 = .ok (.iload_n 2, 1) := by decide +kernel
theorem dJx4a65c_grow_92f84_21 : decode cJx4a65c_grow_92f84 21 = .ok (.iload_n 1, 1) := by decide +kernel
theorem dJx4a65c_grow_92f84_22 : decode cJx4a65c_grow_92f84 22 = .ok (.iload_n 2, 1) := by decide +kernel
theorem dJx4a65c_grow_92f84_23 : decode cJx4a65c_grow_92f84 23 = .ok (.isub, 1) := by decide +kernel
theorem dJx4a65c_grow_92f84_24 : decode cJx4a65c_grow_92f84 24 = .ok (.iload_n 2, 1) := by decide +kernel
theorem dJx4a65c_grow_92f84_25 : decode cJx4a65c_grow_92f84 25 = .ok (.iconst 1, 1) := by decide +kernel
theorem dJx4a65c_grow_92f84_26 : decode cJx4a65c_grow_92f84 26 = .ok (.ishr, 1) := by decide +kernel
theorem dJx4a65c_grow_92f84_27 : decode cJx4a65c_grow_92f84 27 = .ok (.invokestatic 73, 3) := by decide +kernel
theorem dJx4a65c_grow_92f84_30 : decode cJx4a65c_grow_92f84 30 = .ok (.istore_n 3, 1) := by decide +kernel
theorem dJx4a65c_grow_92f84_31 : decode cJx4a65c_grow_92f84 31 = .ok (.aload_n 0, 1) := by decide +kernel
theorem dJx4a65c_grow_92f84_32 : decode cJx4a65c_grow_92f84 32 = .ok (.aload_n 0, 1) := by decide +kernel
theorem dJx4a65c_grow_92f84_33 : decode cJx4a65c_grow_92f84 33 = .ok (.getfield 9, 3) := by decide +kernel
theorem dJx4a65c_grow_92f84_36 : decode cJx4a65c_grow_92f84 36 = .ok (.iload_n 3, 1) := by decide +kernel
theorem dJx4a65c_grow_92f84_37 : decode cJx4a65c_grow_92f84 37 = .ok (.invokestatic 66, 3) := by decide +kernel
theorem dJx4a65c_grow_92f84_40 : decode cJx4a65c_grow_92f84 40 = .ok (.dup_x1, 1) := by decide +kernel
theorem dJx4a65c_grow_92f84_41 : decode cJx4a65c_grow_92f84 41 = .ok (.putfield 9, 3) := by decide +kernel
theorem dJx4a65c_grow_92f84_44 : decode cJx4a65c_grow_92f84 44 = .ok (.areturn, 1) := by decide +kernel
theorem dJx4a65c_grow_92f84_45 : decode cJx4a65c_grow_92f84 45 = .ok (.aload_n 0, 1) := by decide +kernel
theorem dJx4a65c_grow_92f84_46 : decode cJx4a65c_grow_92f84 46 = .ok (.bipush 10, 2) := by decide +kernel
theorem dJx4a65c_grow_92f84_48 : decode cJx4a65c_grow_92f84 48 = .ok (.iload_n 1, 1) := by decide +kernel
theorem dJx4a65c_grow_92f84_49 : decode cJx4a65c_grow_92f84 49 = .ok (.invokestatic 79, 3) := by decide +kernel
theorem dJx4a65c_grow_92f84_52 : decode cJx4a65c_grow_92f84 52 = .ok (.anewarray 7, 3) := by decide +kernel
theorem dJx4a65c_grow_92f84_55 : decode cJx4a65c_grow_92f84 55 = .ok (.dup_x1, 1) := by decide +kernel
theorem dJx4a65c_grow_92f84_56 : decode cJx4a65c_grow_92f84 56 = .ok (.putfield 9, 3) := by decide +kernel
theorem dJx4a65c_grow_92f84_59 : decode cJx4a65c_grow_92f84 59 = .ok (.areturn, 1) := by decide +kernel
theorem dJx4a65c_grow_d5877_0 : decode cJx4a65c_grow_d5877 0 = .ok (.aload_n 0, 1) := by decide +kernel
theorem dJx4a65c_grow_d5877_1 : decode cJx4a65c_grow_d5877 1 = .ok (.aload_n 0, 1) := by decide +kernel
theorem dJx4a65c_grow_d5877_2 : decode cJx4a65c_grow_d5877 2 = .ok (.getfield 48, 3) := by decide +kernel
theorem dJx4a65c_grow_d5877_5 : decode cJx4a65c_grow_d5877 5 = .ok (.iconst 1, 1) := by decide +kernel
theorem dJx4a65c_grow_d5877_6 : decode cJx4a65c_grow_d5877 6 = .ok (.iadd, 1) := by decide +kernel
theorem dJx4a65c_grow_d5877_7 : decode cJx4a65c_grow_d5877 7 = .ok (.invokevirtual 69, 3) := by decide +kernel
theorem dJx4a65c_grow_d5877_10 : decode cJx4a65c_grow_d5877 10 = .ok (.areturn, 1) := by decide +kernel
theorem dJx4a65c_size_8abf5_0 : decode cJx4a65c_size_8abf5 0 = .ok (.aload_n 0, 1) := by decide +kernel
theorem dJx4a65c_size_8abf5_1 : decode cJx4a65c_size_8abf5 1 = .ok (.getfield 48, 3) := by decide +kernel
theorem dJx4a65c_size_8abf5_4 : decode cJx4a65c_size_8abf5 4 = .ok (.ireturn, 1) := by decide +kernel
theorem dJx4a65c_elementData_915e3_0 : decode cJx4a65c_elementData_915e3 0 = .ok (.aload_n 0, 1) := by decide +kernel
theorem dJx4a65c_elementData_915e3_1 : decode cJx4a65c_elementData_915e3 1 = .ok (.getfield 9, 3) := by decide +kernel
theorem dJx4a65c_elementData_915e3_4 : decode cJx4a65c_elementData_915e3 4 = .ok (.iload_n 1, 1) := by decide +kernel
theorem dJx4a65c_elementData_915e3_5 : decode cJx4a65c_elementData_915e3 5 = .ok (.aaload, 1) := by decide +kernel
theorem dJx4a65c_elementData_915e3_6 : decode cJx4a65c_elementData_915e3 6 = .ok (.areturn, 1) := by decide +kernel
theorem dJx4a65c_get_915e3_0 : decode cJx4a65c_get_915e3 0 = .ok (.iload_n 1, 1) := by decide +kernel
theorem dJx4a65c_get_915e3_1 : decode cJx4a65c_get_915e3 1 = .ok (.aload_n 0, 1) := by decide +kernel
theorem dJx4a65c_get_915e3_2 : decode cJx4a65c_get_915e3 2 = .ok (.getfield 48, 3) := by decide +kernel
theorem dJx4a65c_get_915e3_5 : decode cJx4a65c_get_915e3 5 = .ok (.invokestatic 118, 3) := by decide +kernel
theorem dJx4a65c_get_915e3_8 : decode cJx4a65c_get_915e3 8 = .ok (.pop, 1) := by decide +kernel
theorem dJx4a65c_get_915e3_9 : decode cJx4a65c_get_915e3 9 = .ok (.aload_n 0, 1) := by decide +kernel
theorem dJx4a65c_get_915e3_10 : decode cJx4a65c_get_915e3 10 = .ok (.iload_n 1, 1) := by decide +kernel
theorem dJx4a65c_get_915e3_11 : decode cJx4a65c_get_915e3 11 = .ok (.invokevirtual 123, 3) := by decide +kernel
theorem dJx4a65c_get_915e3_14 : decode cJx4a65c_get_915e3 14 = .ok (.areturn, 1) := by decide +kernel
theorem dJx4a65c_add_72be8_0 : decode cJx4a65c_add_72be8 0 = .ok (.iload_n 3, 1) := by decide +kernel
theorem dJx4a65c_add_72be8_1 : decode cJx4a65c_add_72be8 1 = .ok (.aload_n 2, 1) := by decide +kernel
theorem dJx4a65c_add_72be8_2 : decode cJx4a65c_add_72be8 2 = .ok (.arraylength, 1) := by decide +kernel
theorem dJx4a65c_add_72be8_3 : decode cJx4a65c_add_72be8 3 = .ok (.if_icmp .ne 8, 3) := by decide +kernel
theorem dJx4a65c_add_72be8_6 : decode cJx4a65c_add_72be8 6 = .ok (.aload_n 0, 1) := by decide +kernel
theorem dJx4a65c_add_72be8_7 : decode cJx4a65c_add_72be8 7 = .ok (.invokevirtual 129, 3) := by decide +kernel
theorem dJx4a65c_add_72be8_10 : decode cJx4a65c_add_72be8 10 = .ok (.astore_n 2, 1) := by decide +kernel
theorem dJx4a65c_add_72be8_11 : decode cJx4a65c_add_72be8 11 = .ok (.aload_n 2, 1) := by decide +kernel
theorem dJx4a65c_add_72be8_12 : decode cJx4a65c_add_72be8 12 = .ok (.iload_n 3, 1) := by decide +kernel
theorem dJx4a65c_add_72be8_13 : decode cJx4a65c_add_72be8 13 = .ok (.aload_n 1, 1) := by decide +kernel
theorem dJx4a65c_add_72be8_14 : decode cJx4a65c_add_72be8 14 = .ok (.aastore, 1) := by decide +kernel
theorem dJx4a65c_add_72be8_15 : decode cJx4a65c_add_72be8 15 = .ok (.aload_n 0, 1) := by decide +kernel
theorem dJx4a65c_add_72be8_16 : decode cJx4a65c_add_72be8 16 = .ok (.iload_n 3, 1) := by decide +kernel
theorem dJx4a65c_add_72be8_17 : decode cJx4a65c_add_72be8 17 = .ok (.iconst 1, 1) := by decide +kernel
theorem dJx4a65c_add_72be8_18 : decode cJx4a65c_add_72be8 18 = .ok (.iadd, 1) := by decide +kernel
theorem dJx4a65c_add_72be8_19 : decode cJx4a65c_add_72be8 19 = .ok (.putfield 48, 3) := by decide +kernel
theorem dJx4a65c_add_72be8_22 : decode cJx4a65c_add_72be8 22 = .ok (.return_, 1) := by decide +kernel
theorem dJx4a65c_add_9ea2d_0 : decode cJx4a65c_add_9ea2d 0 = .ok (.aload_n 0, 1) := by decide +kernel
theorem dJx4a65c_add_9ea2d_1 : decode cJx4a65c_add_9ea2d 1 = .ok (.dup, 1) := by decide +kernel
theorem dJx4a65c_add_9ea2d_2 : decode cJx4a65c_add_9ea2d 2 = .ok (.getfield 63, 3) := by decide +kernel
theorem dJx4a65c_add_9ea2d_5 : decode cJx4a65c_add_9ea2d 5 = .ok (.iconst 1, 1) := by decide +kernel
theorem dJx4a65c_add_9ea2d_6 : decode cJx4a65c_add_9ea2d 6 = .ok (.iadd, 1) := by decide +kernel
theorem dJx4a65c_add_9ea2d_7 : decode cJx4a65c_add_9ea2d 7 = .ok (.putfield 63, 3) := by decide +kernel
theorem dJx4a65c_add_9ea2d_10 : decode cJx4a65c_add_9ea2d 10 = .ok (.aload_n 0, 1) := by decide +kernel
theorem dJx4a65c_add_9ea2d_11 : decode cJx4a65c_add_9ea2d 11 = .ok (.aload_n 1, 1) := by decide +kernel
theorem dJx4a65c_add_9ea2d_12 : decode cJx4a65c_add_9ea2d 12 = .ok (.aload_n 0, 1) := by decide +kernel
theorem dJx4a65c_add_9ea2d_13 : decode cJx4a65c_add_9ea2d 13 = .ok (.getfield 9, 3) := by decide +kernel
theorem dJx4a65c_add_9ea2d_16 : decode cJx4a65c_add_9ea2d 16 = .ok (.aload_n 0, 1) := by decide +kernel
theorem dJx4a65c_add_9ea2d_17 : decode cJx4a65c_add_9ea2d 17 = .ok (.getfield 48, 3) := by decide +kernel
theorem dJx4a65c_add_9ea2d_20 : decode cJx4a65c_add_9ea2d 20 = .ok (.invokevirtual 131, 3) := by decide +kernel
theorem dJx4a65c_add_9ea2d_23 : decode cJx4a65c_add_9ea2d 23 = .ok (.iconst 1, 1) := by decide +kernel
theorem dJx4a65c_add_9ea2d_24 : decode cJx4a65c_add_9ea2d 24 = .ok (.ireturn, 1) := by decide +kernel
theorem dJ7_fill_53178_0 : decode cJ7_fill_53178 0 = .ok (.iconst 0, 1) := by decide +kernel
theorem dJ7_fill_53178_1 : decode cJ7_fill_53178 1 = .ok (.istore_n 2, 1) := by decide +kernel
theorem dJ7_fill_53178_2 : decode cJ7_fill_53178 2 = .ok (.aload_n 0, 1) := by decide +kernel
theorem dJ7_fill_53178_3 : decode cJ7_fill_53178 3 = .ok (.arraylength, 1) := by decide +kernel
theorem dJ7_fill_53178_4 : decode cJ7_fill_53178 4 = .ok (.istore_n 3, 1) := by decide +kernel
theorem dJ7_fill_53178_5 : decode cJ7_fill_53178 5 = .ok (.iload_n 2, 1) := by decide +kernel
theorem dJ7_fill_53178_6 : decode cJ7_fill_53178 6 = .ok (.iload_n 3, 1) := by decide +kernel
theorem dJ7_fill_53178_7 : decode cJ7_fill_53178 7 = .ok (.if_icmp .ge 13, 3) := by decide +kernel
theorem dJ7_fill_53178_10 : decode cJ7_fill_53178 10 = .ok (.aload_n 0, 1) := by decide +kernel
theorem dJ7_fill_53178_11 : decode cJ7_fill_53178 11 = .ok (.iload_n 2, 1) := by decide +kernel
theorem dJ7_fill_53178_12 : decode cJ7_fill_53178 12 = .ok (.iload_n 1, 1) := by decide +kernel
theorem dJ7_fill_53178_13 : decode cJ7_fill_53178 13 = .ok (.iastore, 1) := by decide +kernel
theorem dJ7_fill_53178_14 : decode cJ7_fill_53178 14 = .ok (.iinc 2 1, 3) := by decide +kernel
theorem dJ7_fill_53178_17 : decode cJ7_fill_53178 17 = .ok (.goto (-12), 3) := by decide +kernel
theorem dJ7_fill_53178_20 : decode cJ7_fill_53178 20 = .ok (.return_, 1) := by decide +kernel
theorem dJ7_copyOf_1904c_0 : decode cJ7_copyOf_1904c 0 = .ok (.aload_n 0, 1) := by decide +kernel
theorem dJ7_copyOf_1904c_1 : decode cJ7_copyOf_1904c 1 = .ok (.iload_n 1, 1) := by decide +kernel
theorem dJ7_copyOf_1904c_2 : decode cJ7_copyOf_1904c 2 = .ok (.aload_n 0, 1) := by decide +kernel
theorem dJ7_copyOf_1904c_3 : decode cJ7_copyOf_1904c 3 = .ok (.invokevirtual 86, 3) := by decide +kernel
theorem dJ7_copyOf_1904c_6 : decode cJ7_copyOf_1904c 6 = .ok (.invokestatic 300, 3) := by decide +kernel
theorem dJ7_copyOf_1904c_9 : decode cJ7_copyOf_1904c 9 = .ok (.areturn, 1) := by decide +kernel
theorem dJ7_copyOf_6403c_0 : decode cJ7_copyOf_6403c 0 = .ok (.aload_n 2, 1) := by decide +kernel
theorem dJ7_copyOf_6403c_1 : decode cJ7_copyOf_6403c 1 = .ok (.ldc 110, 2) := by decide +kernel
theorem dJ7_copyOf_6403c_3 : decode cJ7_copyOf_6403c 3 = .ok (.if_acmp .ne 10, 3) := by decide +kernel
theorem dJ7_copyOf_6403c_6 : decode cJ7_copyOf_6403c 6 = .ok (.iload_n 1, 1) := by decide +kernel
theorem dJ7_copyOf_6403c_7 : decode cJ7_copyOf_6403c 7 = .ok (.anewarray 2, 3) := by decide +kernel
theorem dJ7_copyOf_6403c_10 : decode cJ7_copyOf_6403c 10 = .ok (.goto 14, 3) := by decide +kernel
theorem dJ7_copyOf_6403c_13 : decode cJ7_copyOf_6403c 13 = .ok (.aload_n 2, 1) := by decide +kernel
theorem dJ7_copyOf_6403c_14 : decode cJ7_copyOf_6403c 14 = .ok (.invokevirtual 90, 3) := by decide +kernel
theorem dJ7_copyOf_6403c_17 : decode cJ7_copyOf_6403c 17 = .ok (.iload_n 1, 1) := by decide +kernel
theorem dJ7_copyOf_6403c_18 : decode cJ7_copyOf_6403c 18 = .ok (.invokestatic 95, 3) := by decide +kernel
theorem dJ7_copyOf_6403c_21 : decode cJ7_copyOf_6403c 21 = .ok (.checkcast 110, 3) := by decide +kernel
theorem dJ7_copyOf_6403c_24 : decode cJ7_copyOf_6403c 24 = .ok (.astore_n 3, 1) := by decide +kernel
theorem dJ7_copyOf_6403c_25 : decode cJ7_copyOf_6403c 25 = .ok (.aload_n 0, 1) := by decide +kernel
theorem dJ7_copyOf_6403c_26 : decode cJ7_copyOf_6403c 26 = .ok (.iconst 0, 1) := by decide +kernel
theorem dJ7_copyOf_6403c_27 : decode cJ7_copyOf_6403c 27 = .ok (.aload_n 3, 1) := by decide +kernel
theorem dJ7_copyOf_6403c_28 : decode cJ7_copyOf_6403c 28 = .ok (.iconst 0, 1) := by decide +kernel
theorem dJ7_copyOf_6403c_29 : decode cJ7_copyOf_6403c 29 = .ok (.aload_n 0, 1) := by decide +kernel
theorem dJ7_copyOf_6403c_30 : decode cJ7_copyOf_6403c 30 = .ok (.arraylength, 1) := by decide +kernel
theorem dJ7_copyOf_6403c_31 : decode cJ7_copyOf_6403c 31 = .ok (.iload_n 1, 1) := by decide +kernel
theorem dJ7_copyOf_6403c_32 : decode cJ7_copyOf_6403c 32 = .ok (.invokestatic 304, 3) := by decide +kernel
theorem dJ7_copyOf_6403c_35 : decode cJ7_copyOf_6403c 35 = .ok (.invokestatic 150, 3) := by decide +kernel
theorem dJ7_copyOf_6403c_38 : decode cJ7_copyOf_6403c 38 = .ok (.aload_n 3, 1) := by decide +kernel
theorem dJ7_copyOf_6403c_39 : decode cJ7_copyOf_6403c 39 = .ok (.areturn, 1) := by decide +kernel
theorem dJ7_copyOf_59c91_0 : decode cJ7_copyOf_59c91 0 = .ok (.iload_n 1, 1) := by decide +kernel
theorem dJ7_copyOf_59c91_1 : decode cJ7_copyOf_59c91 1 = .ok (.aload_n 0, 1) := by decide +kernel
theorem dJ7_copyOf_59c91_2 : decode cJ7_copyOf_59c91 2 = .ok (.arraylength, 1) := by decide +kernel
theorem dJ7_copyOf_59c91_3 : decode cJ7_copyOf_59c91 3 = .ok (.if_icmp .ne 11, 3) := by decide +kernel
theorem dJ7_copyOf_59c91_6 : decode cJ7_copyOf_59c91 6 = .ok (.aload_n 0, 1) := by decide +kernel
theorem dJ7_copyOf_59c91_7 : decode cJ7_copyOf_59c91 7 = .ok (.invokevirtual 316, 3) := by decide +kernel
theorem dJ7_copyOf_59c91_10 : decode cJ7_copyOf_59c91 10 = .ok (.checkcast 317, 3) := by decide +kernel
theorem dJ7_copyOf_59c91_13 : decode cJ7_copyOf_59c91 13 = .ok (.areturn, 1) := by decide +kernel
theorem dJ7_copyOf_59c91_14 : decode cJ7_copyOf_59c91 14 = .ok (.iload_n 1, 1) := by decide +kernel
theorem dJ7_copyOf_59c91_15 : decode cJ7_copyOf_59c91 15 = .ok (.newarray .int, 2) := by decide +kernel
theorem dJ7_copyOf_59c91_17 : decode cJ7_copyOf_59c91 17 = .ok (.astore_n 2, 1) := by decide +kernel
theorem dJ7_copyOf_59c91_18 : decode cJ7_copyOf_59c91 18 = .ok (.aload_n 0, 1) := by decide +kernel
theorem dJ7_copyOf_59c91_19 : decode cJ7_copyOf_59c91 19 = .ok (.iconst 0, 1) := by decide +kernel
theorem dJ7_copyOf_59c91_20 : decode cJ7_copyOf_59c91 20 = .ok (.aload_n 2, 1) := by decide +kernel
theorem dJ7_copyOf_59c91_21 : decode cJ7_copyOf_59c91 21 = .ok (.iconst 0, 1) := by decide +kernel
theorem dJ7_copyOf_59c91_22 : decode cJ7_copyOf_59c91 22 = .ok (.aload_n 0, 1) := by decide +kernel
theorem dJ7_copyOf_59c91_23 : decode cJ7_copyOf_59c91 23 = .ok (.arraylength, 1) := by decide +kernel
theorem dJ7_copyOf_59c91_24 : decode cJ7_copyOf_59c91 24 = .ok (.iload_n 1, 1) := by decide +kernel
theorem dJ7_copyOf_59c91_25 : decode cJ7_copyOf_59c91 25 = .ok (.invokestatic 304, 3) := by decide +kernel
theorem dJ7_copyOf_59c91_28 : decode cJ7_copyOf_59c91 28 = .ok (.invokestatic 150, 3) := by decide +kernel
theorem dJ7_copyOf_59c91_31 : decode cJ7_copyOf_59c91 31 = .ok (.aload_n 2, 1) := by decide +kernel
theorem dJ7_copyOf_59c91_32 : decode cJ7_copyOf_59c91 32 = .ok (.areturn, 1) := by decide +kernel
theorem dJ15_checkIndex_7cf53_0 : decode cJ15_checkIndex_7cf53 0 = .ok (.iload_n 0, 1) := by decide +kernel
theorem dJ15_checkIndex_7cf53_1 : decode cJ15_checkIndex_7cf53 1 = .ok (.iload_n 1, 1) := by decide +kernel
theorem dJ15_checkIndex_7cf53_2 : decode cJ15_checkIndex_7cf53 2 = .ok (.aconst_null, 1) := by decide +kernel
theorem dJ15_checkIndex_7cf53_3 : decode cJ15_checkIndex_7cf53 3 = .ok (.invokestatic 105, 3) := by decide +kernel
theorem dJ15_checkIndex_7cf53_6 : decode cJ15_checkIndex_7cf53 6 = .ok (.ireturn, 1) := by decide +kernel
theorem dJ8_newLength_cabcc_0 : decode cJ8_newLength_cabcc 0 = .ok (.iload_n 0, 1) := by decide +kernel
theorem dJ8_newLength_cabcc_1 : decode cJ8_newLength_cabcc 1 = .ok (.iload_n 1, 1) := by decide +kernel
theorem dJ8_newLength_cabcc_2 : decode cJ8_newLength_cabcc 2 = .ok (.iload_n 2, 1) := by decide +kernel
theorem dJ8_newLength_cabcc_3 : decode cJ8_newLength_cabcc 3 = .ok (.invokestatic 194, 3) := by decide +kernel
theorem dJ8_newLength_cabcc_6 : decode cJ8_newLength_cabcc 6 = .ok (.iadd, 1) := by decide +kernel
theorem dJ8_newLength_cabcc_7 : decode cJ8_newLength_cabcc 7 = .ok (.istore_n 3, 1) := by decide +kernel
theorem dJ8_newLength_cabcc_8 : decode cJ8_newLength_cabcc 8 = .ok (.iconst 0, 1) := by decide +kernel
theorem dJ8_newLength_cabcc_9 : decode cJ8_newLength_cabcc 9 = .ok (.iload_n 3, 1) := by decide +kernel
theorem dJ8_newLength_cabcc_10 : decode cJ8_newLength_cabcc 10 = .ok (.if_icmp .ge 11, 3) := by decide +kernel
theorem dJ8_newLength_cabcc_13 : decode cJ8_newLength_cabcc 13 = .ok (.iload_n 3, 1) := by decide +kernel
theorem dJ8_newLength_cabcc_14 : decode cJ8_newLength_cabcc 14 = .ok (.ldc 200, 2) := by decide +kernel
theorem dJ8_newLength_cabcc_16 : decode cJ8_newLength_cabcc 16 = .ok (.if_icmp .gt 5, 3) := by decide +kernel
theorem dJ8_newLength_cabcc_19 : decode cJ8_newLength_cabcc 19 = .ok (.iload_n 3, 1) := by decide +kernel
theorem dJ8_newLength_cabcc_20 : decode cJ8_newLength_cabcc 20 = .ok (.ireturn, 1) := by decide +kernel
theorem dJ8_newLength_cabcc_21 : decode cJ8_newLength_cabcc 21 = .ok (.iload_n 0, 1) := by decide +kernel
theorem dJ8_newLength_cabcc_22 : decode cJ8_newLength_cabcc 22 = .ok (.iload_n 1, 1) := by decide +kernel
theorem dJ8_newLength_cabcc_23 : decode cJ8_newLength_cabcc 23 = .ok (.invokestatic 201, 3) := by decide +kernel
theorem dJ8_newLength_cabcc_26 : decode cJ8_newLength_cabcc 26 = .ok (.ireturn, 1) := by decide +kernel
theorem dJ8_hugeLength_7cf53_0 : decode cJ8_hugeLength_7cf53 0 = .ok (.iload_n 0, 1) := by decide +kernel
theorem dJ8_hugeLength_7cf53_1 : decode cJ8_hugeLength_7cf53 1 = .ok (.iload_n 1, 1) := by decide +kernel
theorem dJ8_hugeLength_7cf53_2 : decode cJ8_hugeLength_7cf53 2 = .ok (.iadd, 1) := by decide +kernel
theorem dJ8_hugeLength_7cf53_3 : decode cJ8_hugeLength_7cf53 3 = .ok (.istore_n 2, 1) := by decide +kernel
theorem dJ8_hugeLength_7cf53_4 : decode cJ8_hugeLength_7cf53 4 = .ok (.iload_n 2, 1) := by decide +kernel
theorem dJ8_hugeLength_7cf53_5 : decode cJ8_hugeLength_7cf53 5 = .ok (.ifCond .ge 44, 3) := by decide +kernel
theorem dJ8_hugeLength_7cf53_8 : decode cJ8_hugeLength_7cf53 8 = .ok (.new 204, 3) := by decide +kernel
theorem dJ8_hugeLength_7cf53_11 : decode cJ8_hugeLength_7cf53 11 = .ok (.dup, 1) := by decide +kernel
theorem dJ8_hugeLength_7cf53_12 : decode cJ8_hugeLength_7cf53 12 = .ok (.new 89, 3) := by decide +kernel
theorem dJ8_hugeLength_7cf53_15 : decode cJ8_hugeLength_7cf53 15 = .ok (.dup, 1) := by decide +kernel
theorem dJ8_hugeLength_7cf53_16 : decode cJ8_hugeLength_7cf53 16 = .ok (.invokespecial 91, 3) := by decide +kernel
theorem dJ8_hugeLength_7cf53_19 : decode cJ8_hugeLength_7cf53 19 = .ok (.ldc 206, 2) := by decide +kernel
theorem dJ8_hugeLength_7cf53_21 : decode cJ8_hugeLength_7cf53 21 = .ok (.invokevirtual 94, 3) := by decide +kernel
theorem dJ8_hugeLength_7cf53_24 : decode cJ8_hugeLength_7cf53 24 = .ok (.iload_n 0, 1) := by decide +kernel
theorem dJ8_hugeLength_7cf53_25 : decode cJ8_hugeLength_7cf53 25 = .ok (.invokevirtual 98, 3) := by decide +kernel
theorem dJ8_hugeLength_7cf53_28 : decode cJ8_hugeLength_7cf53 28 = .ok (.ldc 208, 2) := by decide +kernel
theorem dJ8_hugeLength_7cf53_30 : decode cJ8_hugeLength_7cf53 30 = .ok (.invokevirtual 94, 3) := by decide +kernel
theorem dJ8_hugeLength_7cf53_33 : decode cJ8_hugeLength_7cf53 33 = .ok (.iload_n 1, 1) := by decide +kernel
theorem dJ8_hugeLength_7cf53_34 : decode cJ8_hugeLength_7cf53 34 = .ok (.invokevirtual 98, 3) := by decide +kernel
theorem dJ8_hugeLength_7cf53_37 : decode cJ8_hugeLength_7cf53 37 = .ok (.ldc 210, 2) := by decide +kernel
theorem dJ8_hugeLength_7cf53_39 : decode cJ8_hugeLength_7cf53 39 = .ok (.invokevirtual 94, 3) := by decide +kernel
theorem dJ8_hugeLength_7cf53_42 : decode cJ8_hugeLength_7cf53 42 = .ok (.invokevirtual 101, 3) := by decide +kernel
theorem dJ8_hugeLength_7cf53_45 : decode cJ8_hugeLength_7cf53 45 = .ok (.invokespecial 212, 3) := by decide +kernel
theorem dJ8_hugeLength_7cf53_48 : decode cJ8_hugeLength_7cf53 48 = .ok (.athrow, 1) := by decide +kernel
theorem dJ8_hugeLength_7cf53_49 : decode cJ8_hugeLength_7cf53 49 = .ok (.iload_n 2, 1) := by decide +kernel
theorem dJ8_hugeLength_7cf53_50 : decode cJ8_hugeLength_7cf53 50 = .ok (.ldc 200, 2) := by decide +kernel
theorem dJ8_hugeLength_7cf53_52 : decode cJ8_hugeLength_7cf53 52 = .ok (.if_icmp .gt 6, 3) := by decide +kernel
theorem dJ8_hugeLength_7cf53_55 : decode cJ8_hugeLength_7cf53 55 = .ok (.ldc 200, 2) := by decide +kernel
theorem dJ8_hugeLength_7cf53_57 : decode cJ8_hugeLength_7cf53 57 = .ok (.ireturn, 1) := by decide +kernel
theorem dJ8_hugeLength_7cf53_58 : decode cJ8_hugeLength_7cf53 58 = .ok (.iload_n 2, 1) := by decide +kernel
theorem dJ8_hugeLength_7cf53_59 : decode cJ8_hugeLength_7cf53 59 = .ok (.ireturn, 1) := by decide +kernel
theorem dJ3_checkIndex_8e157_0 : decode cJ3_checkIndex_8e157 0 = .ok (.iload_n 0, 1) := by decide +kernel
theorem dJ3_checkIndex_8e157_1 : decode cJ3_checkIndex_8e157 1 = .ok (.ifCond .lt 8, 3) := by decide +kernel
theorem dJ3_checkIndex_8e157_4 : decode cJ3_checkIndex_8e157 4 = .ok (.iload_n 0, 1) := by decide +kernel
theorem dJ3_checkIndex_8e157_5 : decode cJ3_checkIndex_8e157 5 = .ok (.iload_n 1, 1) := by decide +kernel
theorem dJ3_checkIndex_8e157_6 : decode cJ3_checkIndex_8e157 6 = .ok (.if_icmp .lt 10, 3) := by decide +kernel
theorem dJ3_checkIndex_8e157_9 : decode cJ3_checkIndex_8e157 9 = .ok (.aload_n 2, 1) := by decide +kernel
theorem dJ3_checkIndex_8e157_10 : decode cJ3_checkIndex_8e157 10 = .ok (.iload_n 0, 1) := by decide +kernel
theorem dJ3_checkIndex_8e157_11 : decode cJ3_checkIndex_8e157 11 = .ok (.iload_n 1, 1) := by decide +kernel
theorem dJ3_checkIndex_8e157_12 : decode cJ3_checkIndex_8e157 12 = .ok (.invokestatic 95, 3) := by decide +kernel
theorem dJ3_checkIndex_8e157_15 : decode cJ3_checkIndex_8e157 15 = .ok (.athrow, 1) := by decide +kernel
theorem dJ3_checkIndex_8e157_16 : decode cJ3_checkIndex_8e157 16 = .ok (.iload_n 0, 1) := by decide +kernel
theorem dJ3_checkIndex_8e157_17 : decode cJ3_checkIndex_8e157 17 = .ok (.ireturn, 1) := by decide +kernel
end
section
/-! tables of this landing: how many fields a class has, their types; the texts of its exceptions by their places in the pool -/
def clN : Nat → Nat := fun c => match c with | 0 => 3 | 1 => 3 | 2 => 13 | 3 => 5 | 4 => 5 | 5 => 3 | 6 => 2 | 7 => 2 | 8 => 17 | 9 => 16 | _ => 0
def clT : Nat → Nat → FieldType := fun c => match c with | 0 => tyJx4a65c | 1 => tyX4 | 2 => tyX1 | 3 => tyX2 | 4 => tyX3 | 5 => tyX4 | 6 => tyX5 | 7 => tyX6 | 8 => tyX7 | _ => tyX8
def strs : List (Nat × String) := [(404, "there is none of this number"), (392, "out of range"), (399, "not possible now"), (409, "no such train")]
end
section
/-! the pure layer: values (ints, references, longs), shapes, worlds, the judgement J -/
abbrev PV : Type := Int ⊕ (Option Nat ⊕ Int)
abbrev vi (z : Int) : PV := Sum.inl z
abbrev vr (o : Option Nat) : PV := Sum.inr (Sum.inl o)
abbrev vl (z : Int) : PV := Sum.inr (Sum.inr z)
def rg (z : Int) : Prop := -2147483648 ≤ z ∧ z < 2147483648
def w32 (z : Int) : Int := z.bmod 4294967296
def tv : PV → Value
  | .inl z => .int (Int32.ofInt z)
  | .inr (.inl o) => va_rf o
  | .inr (.inr z) => .long (Int64.ofInt z)
def wfv : PV → Prop
  | .inl z => rg z
  | .inr (.inl _) => True
  | .inr (.inr z) => rg z
theorem rg_w32 (z : Int) : rg (w32 z) := by
  unfold rg w32 Int.bmod
  dsimp only
  split <;> omega
theorem w32_id {z : Int} (h : rg z) : w32 z = z := by
  unfold rg at h
  unfold w32 Int.bmod
  dsimp only
  split <;> omega
theorem p_toI (z : Int) : (Int32.ofInt z).toInt = w32 z := Int32.toInt_ofInt
theorem toI {z : Int} (h : rg z) : (Int32.ofInt z).toInt = z := (p_toI z).trans (w32_id h)
theorem w32_w32 (z : Int) : w32 (w32 z) = w32 z := w32_id (rg_w32 z)
theorem ofI (z : Int) : Int32.ofInt (w32 z) = Int32.ofInt z := by
  rw [← Int32.toInt_inj, p_toI, p_toI, w32_w32]
theorem asI (x : Int32) : Int32.ofInt x.toInt = x := by
  rw [← Int32.toInt_inj, p_toI, w32_id]
  exact ⟨x.le_toInt, x.toInt_lt⟩
theorem rgI (x : Int32) : rg x.toInt := ⟨x.le_toInt, x.toInt_lt⟩
theorem i_add (a b : Int) : Int32.ofInt a + Int32.ofInt b = Int32.ofInt (w32 (a + b)) := by rw [ofI, Int32.ofInt_add]
theorem i_sub (a b : Int) : Int32.ofInt a - Int32.ofInt b = Int32.ofInt (w32 (a - b)) := by rw [ofI, Int32.ofInt_sub]
theorem i_mul (a b : Int) : Int32.ofInt a * Int32.ofInt b = Int32.ofInt (w32 (a * b)) := by rw [ofI, Int32.ofInt_mul]
theorem i_div {a b : Int} (ha : rg a) (hb : rg b) : Int32.ofInt a / Int32.ofInt b = Int32.ofInt (w32 (a.tdiv b)) := by
  rw [← Int32.toInt_inj, Int32.toInt_div, toI ha, toI hb, p_toI, w32_w32]
  rfl
theorem i_eq {a b : Int} (ha : rg a) (hb : rg b) : Int32.ofInt a = Int32.ofInt b ↔ a = b := by
  rw [← Int32.toInt_inj, toI ha, toI hb]
theorem i_lt {a b : Int} (ha : rg a) (hb : rg b) : Int32.ofInt a < Int32.ofInt b ↔ a < b := by
  rw [Int32.lt_iff_toInt_lt, toI ha, toI hb]
theorem i_le {a b : Int} (ha : rg a) (hb : rg b) : Int32.ofInt a ≤ Int32.ofInt b ↔ a ≤ b := by
  rw [Int32.le_iff_toInt_le, toI ha, toI hb]
theorem rg0 : rg 0 := by unfold rg; omega
theorem i_0 : Int32.ofInt 0 = 0 := rfl
theorem i_rem {a b : Int} (ha : rg a) (hb : rg b) : Int32.ofInt a - Int32.ofInt a / Int32.ofInt b * Int32.ofInt b = Int32.ofInt (w32 (a.tmod b)) := by
  rw [i_div ha hb, i_mul, i_sub, ofI, ofI, Int32.ofInt_sub, ofI, Int32.ofInt_mul, ofI, ← Int32.ofInt_mul, ← Int32.ofInt_sub]
  congr 1
  rw [Int.tmod_def, Int.mul_comm b]
def iand (a b : Int) : Int := (Int32.ofInt a &&& Int32.ofInt b).toInt
def ior (a b : Int) : Int := (Int32.ofInt a ||| Int32.ofInt b).toInt
def ishl (a b : Int) : Int := (Int32.ofInt a <<< (Int32.ofInt b &&& 31)).toInt
def ishr (a b : Int) : Int := (Int32.ofInt a >>> (Int32.ofInt b &&& 31)).toInt
def iushr (a b : Int) : Int := (((Int32.ofInt a).toUInt32 >>> ((Int32.ofInt b).toUInt32 &&& Int32.toUInt32 31)).toInt32).toInt
theorem i_cl {z : Int} (h : rg z) (h0 : 0 ≤ z) : (Int32.ofInt z).toNatClampNeg = z.toNat := by
  show (Int32.ofInt z).toInt.toNat = z.toNat
  rw [toI h]
theorem i_in {z : Int} {n : Nat} (h : rg z) (h0 : 0 ≤ z) (hn : z < n) : vp_in (Int32.ofInt z) n := by
  rw [vp_in_iff, toI h]
  exact ⟨h0, hn⟩
theorem i_long {z : Int} (h : rg z) : (Int32.ofInt z).toInt64 = Int64.ofInt z := by
  rw [← Int64.toInt_inj, Int32.toInt_toInt64, toI h, Int64.toInt_ofInt]
  unfold rg at h
  unfold Int.bmod
  dsimp only [Int64.size]
  split <;> omega
theorem l_toI {z : Int} (h : rg z) : (Int64.ofInt z).toInt = z := by
  rw [← i_long h, Int32.toInt_toInt64, toI h]
def icmp (a b : Int) : Int := if a < b then -1 else if a = b then 0 else 1
theorem l_cmp {a b : Int} (ha : rg a) (hb : rg b) : lg_cmp (Int64.ofInt a) (Int64.ofInt b) = Int32.ofInt (icmp a b) := by
  unfold lg_cmp icmp
  have h1 : Int64.ofInt a < Int64.ofInt b ↔ a < b := by rw [Int64.lt_iff_toInt_lt, l_toI ha, l_toI hb]
  have h2 : Int64.ofInt b < Int64.ofInt a ↔ b < a := by rw [Int64.lt_iff_toInt_lt, l_toI ha, l_toI hb]
  have h3 : Int64.ofInt a = Int64.ofInt b ↔ a = b := by rw [← Int64.toInt_inj, l_toI ha, l_toI hb]
  simp only [h1, h2, h3, GT.gt]
  rcases Int.lt_trichotomy a b with h | h | h
  · have q1 : ¬ a = b := by omega
    have q2 : ¬ b < a := by omega
    simp [h, q1, q2]
    try rfl
  · subst h
    simp
    try rfl
  · have q1 : ¬ a = b := by omega
    have q2 : ¬ a < b := by omega
    simp [h, q1, q2]
    try rfl
/-! classes and shapes -/
def refT : FieldType → Bool
  | .object _ => true
  | .array _ => true
  | _ => false
abbrev Fl : Type := Nat → Nat → Int
abbrev Il : Type := Nat → Int → Int
abbrev Shp : Type := List Nat × (Nat → Nat) × (Nat → Nat → Option Nat) × (Nat → Nat) × (Nat → Int → Option Nat) × Nat × Nat
abbrev sL (S : Shp) : List Nat := S.1
abbrev sK (S : Shp) : Nat → Nat := S.2.1
abbrev sR (S : Shp) : Nat → Nat → Option Nat := S.2.2.1
abbrev sN (S : Shp) : Nat → Nat := S.2.2.2.1
abbrev sG (S : Shp) : Nat → Int → Option Nat := S.2.2.2.2.1
abbrev sa (S : Shp) : Nat := S.2.2.2.2.2.1
abbrev sb (S : Shp) : Nat := S.2.2.2.2.2.2
def u2 {α : Type} (F : Nat → Nat → α) (k q : Nat) (z : α) : Nat → Nat → α := fun k' q' => if k' = k ∧ q' = q then z else F k' q'
def ui {α : Type} (I : Nat → Int → α) (q : Nat) (j : Int) (z : α) : Nat → Int → α := fun q' j' => if q' = q ∧ j' = j then z else I q' j'
abbrev setR (S : Shp) (k q : Nat) (o : Option Nat) : Shp := (sL S, sK S, u2 (sR S) k q o, sN S, sG S, sa S, sb S)
abbrev setG (S : Shp) (q : Nat) (j : Int) (o : Option Nat) : Shp := (sL S, sK S, sR S, sN S, ui (sG S) q j o, sa S, sb S)
/-- a new object q of class c -/
abbrev newO (S : Shp) (q c : Nat) : Shp := (sL S ++ [q], va_up (sK S) q c, (fun k' q' => if q' = q then none else sR S k' q'), sN S, sG S, sa S - 1, sb S - clN c)
def zF (F : Fl) (q : Nat) : Fl := fun k' q' => if q' = q then 0 else F k' q'
/-- a new array q of kind c and n places -/
abbrev newA (S : Shp) (q c n : Nat) : Shp := (sL S ++ [q], va_up (sK S) q c, sR S, va_up (sN S) q n, (fun q' j' => if q' = q then none else sG S q' j'), sa S - 1, sb S - n)
def zI (I : Il) (q : Nat) : Il := fun q' j' => if q' = q then 0 else I q' j'
/-- .. and the script: where it lies, how many, which -/
abbrev Gp : Type := va_G × (Nat → ClassId) × Nat × Nat × Nat × Nat × Nat × (Nat → Int32)
abbrev gD (G : Gp) : va_G := G.1
abbrev gA (G : Gp) : Nat → ClassId := G.2.1
abbrev gB (G : Gp) : Nat := G.2.2.1
abbrev gZ (G : Gp) : Nat := G.2.2.2.1
abbrev gM (G : Gp) : Nat := G.2.2.2.2.1
abbrev gX (G : Gp) : Nat := G.2.2.2.2.2.1
abbrev gNx (G : Gp) : Nat := G.2.2.2.2.2.2.1
abbrev gYs (G : Gp) : Nat → Int32 := G.2.2.2.2.2.2.2
abbrev gln (G : Gp) : Int := (gNx G : Int)
abbrev gsc (G : Gp) : Int → Int := fun z => (gYs G z.toNat).toInt
abbrev gAd (G : Gp) : Nat → Prop := fun q => gB G ≤ q
def fvv (c : Nat) (S : Shp) (F : Fl) (q k : Nat) : Value := if refT (clT c k) = true then va_rf (sR S (100 * c + k) q) else .int (Int32.ofInt (F (100 * c + k) q))
def fvs (c : Nat) (S : Shp) (F : Fl) (q : Nat) : List Value := (List.range (clN c)).map (fvv c S F q)
abbrev vpR : Type := (Nat → Int32) ⊕ (Nat → Int64) ⊕ (Nat → UInt32) ⊕ (Nat → UInt64) ⊕ (Nat → Option Nat)
def arc (k : Nat) (S : Shp) (I : Il) (q : Nat) : vpR := if k ≤ 21 then .inl (fun j => Int32.ofInt (I q (j : Int))) else if k = 22 then .inr (.inl (fun j => Int64.ofInt (I q (j : Int)))) else .inr (.inr (.inr (.inr (fun j => sG S q (j : Int)))))
def cont (G : Gp) (S : Shp) (F : Fl) (I : Il) (q : Nat) : va_E := if sK S q < 20 then .inr (sK S q, fvs (sK S q) S F q) else .inl (gA G (sK S q - 20), (sN S q, arc (sK S q) S I q))
def tysG (G : Gp) : List (ClassId × FieldType) := [(gA G 0, .int), (gA G 1, .int), (gA G 2, .int), (gA G 3, .object RX6), (gA G 4, .object RX7), (gA G 5, .object "java/lang/Object")]
def pw (G : Gp) (S : Shp) (F : Fl) (I : Il) : va_W := va_pl (sL S) (cont G S F I)
def Wld (G : Gp) (S : Shp) (F : Fl) (I : Il) (H : Heap) : Prop := va_P (gD G) vwCl (pw G S F I) H ∧ va_D (gAd G) (pw G S F I) ∧ (∀ q, sK S q ≠ 99 → q ∈ sL S) ∧ (∀ k q, rg (F k q)) ∧ (∀ q j, rg (I q j))
theorem Wld.at {G : Gp} {S : Shp} {F : Fl} {I : Il} {H : Heap} (h : Wld G S F I H) {q : Nat} (hq : sK S q ≠ 99) : ∃ k : Nat, (pw G S F I)[k]? = some (q, cont G S F I q) := by
  obtain ⟨k, hk⟩ := va_pl_get (X := []) (f := cont G S F I) (h.2.2.1 q hq)
  exact ⟨k, hk⟩
theorem cont_o {G : Gp} {S : Shp} {F : Fl} {I : Il} {q c : Nat} (h : sK S q = c) (hc : c < 20) : cont G S F I q = .inr (c, fvs c S F q) := by
  unfold cont
  rw [h, if_pos hc]
theorem cont_a {G : Gp} {S : Shp} {F : Fl} {I : Il} {q c : Nat} (h : sK S q = c) (hc : 20 ≤ c) : cont G S F I q = .inl (gA G (c - 20), (sN S q, arc c S I q)) := by
  unfold cont
  rw [h, if_neg (by omega)]
theorem fvs_get {c k : Nat} {S : Shp} {F : Fl} {q : Nat} (hk : k < clN c) : (fvs c S F q)[k]? = some (fvv c S F q k) := by
  unfold fvs
  rw [List.getElem?_map, List.getElem?_range hk]
  rfl
theorem fvs_len (c : Nat) (S : Shp) (F : Fl) (q : Nat) : (fvs c S F q).length = clN c := by
  unfold fvs
  rw [List.length_map, List.length_range]
theorem fvs_set {c k : Nat} {S S' : Shp} {F F' : Fl} {q : Nat} {v : Value} (hk : k < clN c) (h1 : fvv c S' F' q k = v) (h2 : ∀ j, j ≠ k → fvv c S' F' q j = fvv c S F q j) : (fvs c S F q).set k v = fvs c S' F' q := by
  apply List.ext_getElem?
  intro j
  by_cases hj : j = k
  · subst hj
    rw [List.getElem?_set_self (by rw [fvs_len]; exact hk), fvs_get hk, h1]
  · rw [List.getElem?_set_ne (fun z => hj z.symm)]
    by_cases hl : j < clN c
    · rw [fvs_get hl, fvs_get hl, h2 j hj]
    · rw [List.getElem?_eq_none (by rw [fvs_len]; omega), List.getElem?_eq_none (by rw [fvs_len]; omega)]
/-- a world behind a change of one thing -/
theorem pw_set {G : Gp} {S S' : Shp} {F F' : Fl} {I I' : Il} {H : Heap} (h : Wld G S F I H) {q k : Nat} {e : va_E} (hq : sK S q ≠ 99) (hk : (pw G S F I)[k]? = some (q, cont G S F I q)) (hL : sL S' = sL S) (h1 : cont G S' F' I' q = e) (h2 : ∀ b, b ≠ q → cont G S' F' I' b = cont G S F I b) : (pw G S F I).set k (q, e) = pw G S' F' I' := by
  have hD : va_D (gAd G) ([] ++ va_pl (sL S) (cont G S F I)) := h.2.1
  have e1 := va_pl_set (X := []) hD (h.2.2.1 q hq) hk (e := e)
  show ([] ++ va_pl (sL S) (cont G S F I)).set k (q, e) = va_pl (sL S') (cont G S' F' I')
  rw [e1, hL]
  refine va_pl_congr fun b => ?_
  by_cases hb : b = q
  · subst hb
    rw [va_up_self, h1]
  · rw [va_up_ne _ _ hb, h2 b hb]
theorem fvv_F {c j k q b : Nat} {S : Shp} {F : Fl} {z : Int} (h : ¬ (j = k ∧ b = q)) : fvv c S (u2 F (100 * c + k) q z) b j = fvv c S F b j := by
  unfold fvv u2
  rw [if_neg (show ¬ (100 * c + j = 100 * c + k ∧ b = q) from fun w => h ⟨by omega, w.2⟩)]
theorem fvv_Fb {c c' j k q b : Nat} {S : Shp} {F : Fl} {z : Int} (h : b ≠ q) : fvv c S (u2 F (100 * c' + k) q z) b j = fvv c S F b j := by
  unfold fvv u2
  rw [if_neg (show ¬ (100 * c + j = 100 * c' + k ∧ b = q) from fun w => h w.2)]
theorem fvv_R {c j k q b : Nat} {S : Shp} {F : Fl} {o : Option Nat} (h : ¬ (j = k ∧ b = q)) : fvv c (setR S (100 * c + k) q o) F b j = fvv c S F b j := by
  show (if refT (clT c j) = true then va_rf (u2 (sR S) (100 * c + k) q o (100 * c + j) b) else _) = _
  unfold fvv u2
  rw [if_neg (show ¬ (100 * c + j = 100 * c + k ∧ b = q) from fun w => h ⟨by omega, w.2⟩)]
theorem fvv_Rb {c c' j k q b : Nat} {S : Shp} {F : Fl} {o : Option Nat} (h : b ≠ q) : fvv c (setR S (100 * c' + k) q o) F b j = fvv c S F b j := by
  show (if refT (clT c j) = true then va_rf (u2 (sR S) (100 * c' + k) q o (100 * c + j) b) else _) = _
  unfold fvv u2
  rw [if_neg (show ¬ (100 * c + j = 100 * c' + k ∧ b = q) from fun w => h w.2)]
theorem cont_congr {G : Gp} {S S' : Shp} {F F' : Fl} {I I' : Il} {b : Nat} (h1 : sK S' b = sK S b) (h2 : sN S' b = sN S b) (h3 : ∀ c j, fvv c S' F' b j = fvv c S F b j) (h4 : ∀ j, I' b j = I b j) (h5 : ∀ j, sG S' b j = sG S b j) : cont G S' F' I' b = cont G S F I b := by
  unfold cont
  rw [h1, h2]
  have e1 : ∀ c, fvs c S' F' b = fvs c S F b := fun c => by unfold fvs; rw [show fvv c S' F' b = fvv c S F b from funext (h3 c)]
  have e2 : ∀ c, arc c S' I' b = arc c S I b := fun c => by unfold arc; simp only [h4, h5]
  rw [e1, e2]
end
section
/-! the judgement J: from here, with these locals, this stack, this shape, this content, the machine comes to an end that QQ allows -/
abbrev Xt : Type := Program × Launch × Env × Room × State × MethodId × Array Value × List Frame × Method × Code
abbrev xp (X : Xt) : Program := X.1
abbrev xl (X : Xt) : Launch := X.2.1
abbrev xe (X : Xt) : Env := X.2.2.1
abbrev xR (X : Xt) : Room := X.2.2.2.1
abbrev xs (X : Xt) : State := X.2.2.2.2.1
abbrev xm (X : Xt) : MethodId := X.2.2.2.2.2.1
abbrev xa (X : Xt) : Array Value := X.2.2.2.2.2.2.1
abbrev xb (X : Xt) : List Frame := X.2.2.2.2.2.2.2.1
abbrev xf (X : Xt) : Method := X.2.2.2.2.2.2.2.2.1
abbrev xc (X : Xt) : Code := X.2.2.2.2.2.2.2.2.2
abbrev WX (X : Xt) (H : Heap) (locs : List Loc) (cells slots : Nat) (Q : State → Prop) (g : JFrame) : Prop := W (xp X) (xl X) (xe X) (xR X) (xs X) (xm X) (xa X) (xb X) (xf X) (xc X) H locs cells slots Q g
/-- the locals that are known: a long stands for 'not yet set' -/
def kp : Nat → List PV → List (Nat × Value)
  | _, [] => []
  | i, (.inr (.inr _)) :: L => kp (i + 1) L
  | i, v :: L => (i, tv v) :: kp (i + 1) L
def knw : PV → Prop
  | .inr (.inr _) => False
  | _ => True
theorem kp_cons {i : Nat} {v : PV} {L : List PV} (h : knw v) : kp i (v :: L) = (i, tv v) :: kp (i + 1) L := by
  rcases v with z | o | z
  · rfl
  · rfl
  · exact h.elim
theorem kp_mem : ∀ (L : List PV) (i j : Nat) (v : PV), L[j]? = some v → knw v → (i + j, tv v) ∈ kp i L
  | [], _, _, _, h, _ => by simp at h
  | w :: L, i, 0, v, h, hv => by
    rw [List.getElem?_cons_zero] at h
    cases h
    rw [kp_cons hv]
    exact List.mem_cons_self
  | w :: L, i, j + 1, v, h, hv => by
    rw [List.getElem?_cons_succ] at h
    have ih := kp_mem L (i + 1) j v h hv
    rw [show i + (j + 1) = i + 1 + j by omega]
    rcases w with z | o | z
    · exact List.mem_cons_of_mem _ ih
    · exact List.mem_cons_of_mem _ ih
    · exact ih
theorem kp_of : ∀ (L : List PV) (i : Nat) (q : Nat × Value), q ∈ kp i L → ∃ (j : Nat) (v : PV), q = (i + j, tv v) ∧ L[j]? = some v ∧ knw v
  | [], _, _, h => by cases h
  | w :: L, i, q, h => by
    have key : q ∈ kp (i + 1) L → ∃ (j : Nat) (v : PV), q = (i + j, tv v) ∧ (w :: L)[j]? = some v ∧ knw v := fun h => by
      obtain ⟨j, v, h1, h2, h3⟩ := kp_of L (i + 1) q h
      exact ⟨j + 1, v, by rw [h1, show i + 1 + j = i + (j + 1) by omega], by rw [List.getElem?_cons_succ]; exact h2, h3⟩
    rcases w with z | o | z
    · rcases List.mem_cons.mp h with h | h
      · exact ⟨0, vi z, h, rfl, trivial⟩
      · exact key h
    · rcases List.mem_cons.mp h with h | h
      · exact ⟨0, vr o, h, rfl, trivial⟩
      · exact key h
    · exact key h
theorem knw_cat {v : PV} (h : knw v) : (tv v).category = 1 := by
  rcases v with z | o | z
  · rfl
  · cases o <;> rfl
  · exact h.elim
theorem kp_get {L : List PV} {ls : Array Slot} {n j : Nat} {v : PV} (h : lv_has ls n (kp 0 L)) (hj : L[j]? = some v) (hv : knw v) : ls[j]? = some (.val (tv v)) := by
  have := h.2.2 _ (kp_mem L 0 j v hj hv)
  simpa using this
/-- locals behind a store -/
theorem kp_set {L : List PV} {i : Nat} {v : PV} : ∀ q ∈ kp 0 (L.set i v), q ∈ (i, tv v) :: (kp 0 L).filter (fun q => !(q.1 == i) && !(q.1 + 1 == i && q.2.category == 2)) := by
  intro q hq
  obtain ⟨j, w, h1, h2, h3⟩ := kp_of _ 0 q hq
  rw [Nat.zero_add] at h1
  subst h1
  by_cases hj : j = i
  · subst hj
    have hl := (List.getElem?_eq_some_iff.mp h2).1
    rw [List.length_set] at hl
    rw [List.getElem?_set_self hl] at h2
    cases h2
    exact List.mem_cons_self
  · rw [List.getElem?_set_ne (fun z => hj z.symm)] at h2
    refine List.mem_cons_of_mem _ (List.mem_filter.mpr ⟨?_, ?_⟩)
    · have := kp_mem L 0 j w h2 h3
      rwa [Nat.zero_add] at this
    · have hc := knw_cat h3
      simp [hj, hc]
theorem lv_less {ls : Array Slot} {n : Nat} {l l' : List (Nat × Value)} (h : lv_has ls n l) (hs : ∀ q ∈ l', q ∈ l) : lv_has ls n l' := ⟨h.1, h.2.1, fun q hq => h.2.2 q (hs q hq)⟩
/-- words that stay true though not good ones: nests, casts -/
def isNw : Cond → Bool
  | .fieldLinkNest _ _ _ _ _ _ => true
  | .methodLinkNest _ _ _ _ => true
  | .castable _ _ => true
  | .declares _ => true
  | _ => false
/-- pairs of exceptions, the one no other; classes over which there are rows -/
def ncs : List (String × String) := [("java/lang/IllegalArgumentException", "java/lang/IndexOutOfBoundsException"), ("java/lang/IllegalStateException", "java/lang/IndexOutOfBoundsException"), ("java/lang/IllegalStateException", "java/lang/IllegalArgumentException")]
def aos : List String := ["Ironbark$Station", "Ironbark$Train", "java/lang/Object"]
def lw_good : List Cond := lw_tbl.filter goodWord
/-- what holds of a state beside its world: classes, words, statics, texts -/
def Env9 (G : Gp) (U : State) (H : Heap) : Prop := va_K (gD G) vwCl (tysG G) U ∧ (∀ w ∈ lw_tbl, isNw w = true → va_Nw w U) ∧ (vx_Zq Bundle.tN "UNASSIGNED_STACK" Bundle.steD (gAd G) U H ∧ vx_Zq Bundle.tN "SUPPRESSED_SENTINEL" Bundle.listD (gAd G) U H) ∧ gB G ≤ H.size ∧ (va_Z "java/util/ArrayList" "DEFAULTCAPACITY_EMPTY_ELEMENTDATA" "[Ljava/lang/Object;" (.ref (gZ G)) (gAd G) U H ∧ va_T (.object "java/lang/Object") (gZ G) 0 (fun _ => .null) (gAd G) U H) ∧ (va_Mi "[Ljava/lang/Object;" (gM G) U ∧ va_Dc U) ∧ (∀ x ∈ strs, ∃ sa : Nat, vk_R "Ironbark" x.1 x.2 sa U) ∧ (∀ p ∈ ncs, va_Nc p.1 p.2 U) ∧ (∀ n ∈ aos, va_AO n U) ∧ va_X (gX G) (gNx G) (gYs G) U H ∧ gX G < H.size ∧ ¬ gB G ≤ gX G ∧ gNx G ≤ 260
theorem nw_warm {w : Cond} (hw : isNw w = true) {s U : State} (hW : s.WarmedH U.vm) (h : va_Nw w s) : va_Nw w U := by
  cases w <;> first | (exact Bool.noConfusion hw) | exact va_Nw.warmF hW h | exact va_Nw.warmM hW h | exact va_Nw.warmC hW h | exact va_Nw.warmD hW h
theorem Env9.go {G : Gp} {s U : State} {H H0 : Heap} {locs : List Loc} (h : Env9 G s H0) (hW : s.WarmedH U.vm) (hS : va_S (gAd G) H0 H locs) : Env9 G U H := by
  obtain ⟨h1, h2, ⟨h3, h4⟩, h5, ⟨h6, h7⟩, ⟨h8, h9⟩, h10, h11, h12, h13, h14, h15, h16⟩ := h
  refine ⟨va_K.moved hW.alike h1, fun w hw hn => nw_warm hn hW (h2 w hw hn), ⟨vx_Zq.moved hW.alike (h3.kept hS.2.1), vx_Zq.moved hW.alike (h4.kept hS.2.1)⟩, Nat.le_trans h5 hS.1, ⟨va_Z.moved hW.alike (h6.kept hS.2.1), va_T.moved hW.alike (h7.kept hS.2.1)⟩, ⟨va_Mi.moved hW.alike h8, va_Dc.moved hW.alike h9⟩, fun x hx => ?_, fun p hp => va_Nc.moved hW.alike (h11 p hp), fun n hn => va_AO.moved hW.alike (h12 n hn), va_X.moved hW.alike (h13.kept (hS.2.1 _ h14 h15)), Nat.lt_of_lt_of_le h14 hS.1, h15, h16⟩
  obtain ⟨sa, h⟩ := h10 x hx
  exact ⟨sa, vk_R.warm hW h⟩
/-- the context of a method's body -/
def CO (G : Gp) (own : String) (cc : ByteArray) (nL : Nat) (X : Xt) : Prop := (xp X).tables.exec = Jvm.exec ∧ (xc X).code = cc ∧ (xs X).vm.findClass own = some (xm X).cls ∧ (∀ w ∈ lw_good, w.before (xa X) (xs X) = true) ∧ Env9 G (xs X) (xs X).heap ∧ (xf X).locks = false ∧ (xc X).maxLocals = nL ∧ (xl X).stackTraces = false
def J (G : Gp) (X : Xt) (QQ : State → Prop) (pc : Nat) (L st : List PV) (S : Shp) (F : Fl) (I : Il) : Prop :=
  ∀ (H : Heap) (locs : List Loc) (ls : Array Slot) (cells slots : Nat), Wld G S F I H → va_S (gAd G) (xs X).heap H locs → lv_has ls L.length (kp 0 L) → (∀ v ∈ L, wfv v) → (∀ v ∈ st, wfv v) → cells + sa S ≤ (xR X).cells → slots + sb S ≤ (xR X).slots → WX X H locs cells slots QQ (F0 (xm X) pc ls (st.map tv))
theorem wci {z : Int} {st : List PV} (hz : rg z) (b : ∀ v ∈ st, wfv v) : ∀ v ∈ vi z :: st, wfv v := List.forall_mem_cons.mpr ⟨hz, b⟩
theorem wcl {z : Int} {st : List PV} (hz : rg z) (b : ∀ v ∈ st, wfv v) : ∀ v ∈ vl z :: st, wfv v := List.forall_mem_cons.mpr ⟨hz, b⟩
theorem wcr {o : Option Nat} {st : List PV} (b : ∀ v ∈ st, wfv v) : ∀ v ∈ vr o :: st, wfv v := List.forall_mem_cons.mpr ⟨trivial, b⟩
theorem wt {u : PV} {st : List PV} (b : ∀ v ∈ u :: st, wfv v) : ∀ v ∈ st, wfv v := (List.forall_mem_cons.mp b).2
theorem wh {u : PV} {st : List PV} (b : ∀ v ∈ u :: st, wfv v) : wfv u := (List.forall_mem_cons.mp b).1
theorem whi {z : Int} {st : List PV} (b : ∀ v ∈ vi z :: st, wfv v) : rg z := (List.forall_mem_cons.mp b).1
theorem whl {z : Int} {st : List PV} (b : ∀ v ∈ vl z :: st, wfv v) : rg z := (List.forall_mem_cons.mp b).1
section RulesA
variable {G : Gp} {own : String} {cc : ByteArray} {nL : Nat} {X : Xt} {QQ : State → Prop} {pc : Nat} {L st : List PV} {S : Shp} {F : Fl} {I : Il}
/-- an instruction that moves the counter and the stack alone -/
theorem J_pure {pc' : Nat} {st' : List PV} (hw : (∀ v ∈ L, wfv v) → (∀ v ∈ st, wfv v) → ∀ v ∈ st', wfv v)
    (hs : ∀ (H : Heap) (locs : List Loc) (ls : Array Slot) (cells slots : Nat), lv_has ls L.length (kp 0 L) → (∀ v ∈ L, wfv v) → (∀ v ∈ st, wfv v) → WX X H locs cells slots QQ (F0 (xm X) pc' ls (st'.map tv)) → WX X H locs cells slots QQ (F0 (xm X) pc ls (st.map tv)))
    (h : J G X QQ pc' L st' S F I) : J G X QQ pc L st S F I := fun H locs ls cells slots hW hS hl hL hst ha hb => hs H locs ls cells slots hl hL hst (h H locs ls cells slots hW hS hl hL (hw hL hst) ha hb)
theorem J_iload_n (C : CO G own cc nL X) {k : Fin 4} {i : Nat} {z : Int} (hd : decode cc pc = .ok (.iload_n k, 1)) (hi : (k : Nat) = i) (hl : L[i]? = some (vi z)) (h : J G X QQ (pc + 1) L (vi z :: st) S F I) : J G X QQ pc L st S F I :=
  J_pure (fun a b => List.forall_mem_cons.mpr ⟨a _ (List.mem_of_getElem? hl), b⟩) (fun _ _ _ _ _ q _ _ w => lv_iload_n C.1 C.2.1 hd hi (kp_get q hl trivial) w) h
theorem J_iload (C : CO G own cc nL X) {i : Nat} {z : Int} (hd : decode cc pc = .ok (.iload i, 2)) (hl : L[i]? = some (vi z)) (h : J G X QQ (pc + 2) L (vi z :: st) S F I) : J G X QQ pc L st S F I :=
  J_pure (fun a b => List.forall_mem_cons.mpr ⟨a _ (List.mem_of_getElem? hl), b⟩) (fun _ _ _ _ _ q _ _ w => lv_iload C.1 C.2.1 hd (kp_get q hl trivial) w) h
theorem J_aload_n (C : CO G own cc nL X) {k : Fin 4} {i : Nat} {o : Option Nat} (hd : decode cc pc = .ok (.aload_n k, 1)) (hi : (k : Nat) = i) (hl : L[i]? = some (vr o)) (h : J G X QQ (pc + 1) L (vr o :: st) S F I) : J G X QQ pc L st S F I :=
  J_pure (fun a b => List.forall_mem_cons.mpr ⟨a _ (List.mem_of_getElem? hl), b⟩) (fun _ _ _ _ _ q _ _ w => by
    have g := kp_get q hl trivial
    cases o with
    | none => exact lv_aload_nN C.1 C.2.1 hd hi g w
    | some a => exact lv_aload_n C.1 C.2.1 hd hi g w) h
theorem J_aload (C : CO G own cc nL X) {i : Nat} {o : Option Nat} (hd : decode cc pc = .ok (.aload i, 2)) (hl : L[i]? = some (vr o)) (h : J G X QQ (pc + 2) L (vr o :: st) S F I) : J G X QQ pc L st S F I :=
  J_pure (fun a b => List.forall_mem_cons.mpr ⟨a _ (List.mem_of_getElem? hl), b⟩) (fun _ _ _ _ _ q _ _ w => by
    have g := kp_get q hl trivial
    cases o with
    | none => exact lv_aloadN C.1 C.2.1 hd g w
    | some a => exact lv_aload C.1 C.2.1 hd g w) h
theorem J_iconst (C : CO G own cc nL X) {z : Int} (hd : decode cc pc = .ok (.iconst z, 1)) (hz : rg z) (h : J G X QQ (pc + 1) L (vi z :: st) S F I) : J G X QQ pc L st S F I :=
  J_pure (fun _ b => wci hz b) (fun _ _ _ _ _ _ _ _ w => lv_iconst C.1 C.2.1 hd rfl w) h
theorem J_bipush (C : CO G own cc nL X) {z : Int} (hd : decode cc pc = .ok (.bipush z, 2)) (hv : (Int8.ofInt z).toInt32 = Int32.ofInt z) (hz : rg z) (h : J G X QQ (pc + 2) L (vi z :: st) S F I) : J G X QQ pc L st S F I :=
  J_pure (fun _ b => wci hz b) (fun _ _ _ _ _ _ _ _ w => lv_bipush C.1 C.2.1 hd hv w) h
theorem J_sipush (C : CO G own cc nL X) {z : Int} (hd : decode cc pc = .ok (.sipush z, 3)) (hv : (Int16.ofInt z).toInt32 = Int32.ofInt z) (hz : rg z) (h : J G X QQ (pc + 3) L (vi z :: st) S F I) : J G X QQ pc L st S F I :=
  J_pure (fun _ b => wci hz b) (fun _ _ _ _ _ _ _ _ w => lv_sipush C.1 C.2.1 hd hv w) h
theorem J_ldc (C : CO G own cc nL X) {i : Nat} {z : Int} {v : Int32} (hd : decode cc pc = .ok (.ldc i, 2)) (hw : Cond.constant own i v ∈ lw_good) (hv : Int32.ofInt z = v) (hz : rg z) (h : J G X QQ (pc + 2) L (vi z :: st) S F I) : J G X QQ pc L st S F I :=
  J_pure (fun _ b => wci hz b) (fun _ _ _ _ _ _ _ _ w => lv_ldc C.1 C.2.1 C.2.2.1 (C.2.2.2.1 _ hw) hd (by subst hv; exact w)) h
theorem J_ldcw (C : CO G own cc nL X) {i : Nat} {z : Int} {v : Int32} (hd : decode cc pc = .ok (.ldc_w i, 3)) (hw : Cond.constant own i v ∈ lw_good) (hv : Int32.ofInt z = v) (hz : rg z) (h : J G X QQ (pc + 3) L (vi z :: st) S F I) : J G X QQ pc L st S F I :=
  J_pure (fun _ b => wci hz b) (fun _ _ _ _ _ _ _ _ w => lv_ldcw C.1 C.2.1 C.2.2.1 (C.2.2.2.1 _ hw) hd (by subst hv; exact w)) h
theorem J_lconst (C : CO G own cc nL X) {n : Fin 2} {z : Int} (hd : decode cc pc = .ok (.lconst n, 1)) (hv : Int64.ofNat (n : Nat) = Int64.ofInt z) (hz : rg z) (h : J G X QQ (pc + 1) L (vl z :: st) S F I) : J G X QQ pc L st S F I :=
  J_pure (fun _ b => wcl hz b) (fun _ _ _ _ _ _ _ _ w => lv_lconst C.1 C.2.1 hd hv w) h
/-- a store into a local -/
theorem J_store {pc' i : Nat} {v : PV}
    (hs : ∀ (H : Heap) (locs : List Loc) (ls : Array Slot) (cells slots : Nat), lv_has ls L.length (kp 0 L) → (∀ v ∈ L, wfv v) → (∀ ls' : Array Slot, lv_has ls' L.length ((i, tv v) :: (kp 0 L).filter (fun q => !(q.1 == i) && !(q.1 + 1 == i && q.2.category == 2))) → WX X H locs cells slots QQ (F0 (xm X) pc' ls' (st.map tv))) → WX X H locs cells slots QQ (F0 (xm X) pc ls ((v :: st).map tv)))
    (h : J G X QQ pc' (L.set i v) st S F I) : J G X QQ pc L (v :: st) S F I := fun H locs ls cells slots hW hS hl hL hst ha hb =>
  hs H locs ls cells slots hl hL fun ls' hl' => h H locs ls' cells slots hW hS (by rw [List.length_set]; exact lv_less hl' kp_set)
    (fun w hw => by
      rcases List.mem_or_eq_of_mem_set hw with hw | hw
      · exact hL w hw
      · rw [hw]; exact hst v List.mem_cons_self) (fun w hw => hst w (List.mem_cons_of_mem _ hw)) ha hb
theorem J_istore_n (C : CO G own cc nL X) {k : Fin 4} {i : Nat} {z : Int} (hd : decode cc pc = .ok (.istore_n k, 1)) (hi : (k : Nat) = i) (hl : i < L.length) (h : J G X QQ (pc + 1) (L.set i (vi z)) st S F I) : J G X QQ pc L (vi z :: st) S F I :=
  J_store (fun _ _ _ _ _ q _ w => lv_istore_n C.1 C.2.1 hd hi q hl rfl w) h
theorem J_istore (C : CO G own cc nL X) {i : Nat} {z : Int} (hd : decode cc pc = .ok (.istore i, 2)) (hl : i < L.length) (h : J G X QQ (pc + 2) (L.set i (vi z)) st S F I) : J G X QQ pc L (vi z :: st) S F I :=
  J_store (fun _ _ _ _ _ q _ w => lv_istore C.1 C.2.1 hd q hl rfl w) h
theorem J_astore_n (C : CO G own cc nL X) {k : Fin 4} {i : Nat} {o : Option Nat} (hd : decode cc pc = .ok (.astore_n k, 1)) (hi : (k : Nat) = i) (hl : i < L.length) (h : J G X QQ (pc + 1) (L.set i (vr o)) st S F I) : J G X QQ pc L (vr o :: st) S F I :=
  J_store (fun _ _ _ _ _ q _ w => by
    cases o with
    | none => exact lv_astore_nN C.1 C.2.1 hd hi q hl rfl w
    | some a => exact lv_astore_n C.1 C.2.1 hd hi q hl rfl w) h
theorem J_astore (C : CO G own cc nL X) {i : Nat} {o : Option Nat} (hd : decode cc pc = .ok (.astore i, 2)) (hl : i < L.length) (h : J G X QQ (pc + 2) (L.set i (vr o)) st S F I) : J G X QQ pc L (vr o :: st) S F I :=
  J_store (fun _ _ _ _ _ q _ w => by
    cases o with
    | none => exact lv_astoreN C.1 C.2.1 hd q hl rfl w
    | some a => exact lv_astore C.1 C.2.1 hd q hl rfl w) h
theorem J_iinc (C : CO G own cc nL X) {i : Nat} {n z : Int} (hd : decode cc pc = .ok (.iinc i n, 3)) (hg : L[i]? = some (vi z)) (h : J G X QQ (pc + 3) (L.set i (vi (w32 (z + n)))) st S F I) : J G X QQ pc L st S F I :=
  fun H locs ls cells slots hW hS hl hL hst ha hb => by
    obtain ⟨k, hk⟩ := List.getElem?_of_mem (kp_mem L 0 i (vi z) hg trivial)
    rw [Nat.zero_add] at hk
    refine lv_iinc (k := k) (x := Int32.ofInt z) (v := Int32.ofInt (w32 (z + n))) C.1 C.2.1 hd hl hk (i_add z n) (List.getElem?_eq_some_iff.mp hg).1 rfl fun ls' hl' => ?_
    refine h H locs ls' cells slots hW hS (by rw [List.length_set]; exact lv_less hl' (kp_set (v := vi (w32 (z + n))))) (fun w hw => ?_) hst ha hb
    rcases List.mem_or_eq_of_mem_set hw with hw | hw
    · exact hL w hw
    · rw [hw]; exact rg_w32 _
theorem J_iadd (C : CO G own cc nL X) {a b : Int} (hd : decode cc pc = .ok (.iadd, 1)) (h : J G X QQ (pc + 1) L (vi (w32 (a + b)) :: st) S F I) : J G X QQ pc L (vi b :: vi a :: st) S F I :=
  J_pure (fun _ q => wci (rg_w32 _) (wt (wt q))) (fun _ _ _ _ _ _ _ _ w => lv_iadd C.1 C.2.1 hd (by rw [i_add]; exact w)) h
theorem J_isub (C : CO G own cc nL X) {a b : Int} (hd : decode cc pc = .ok (.isub, 1)) (h : J G X QQ (pc + 1) L (vi (w32 (a - b)) :: st) S F I) : J G X QQ pc L (vi b :: vi a :: st) S F I :=
  J_pure (fun _ q => wci (rg_w32 _) (wt (wt q))) (fun _ _ _ _ _ _ _ _ w => lv_isub C.1 C.2.1 hd (by rw [i_sub]; exact w)) h
theorem J_imul (C : CO G own cc nL X) {a b : Int} (hd : decode cc pc = .ok (.imul, 1)) (h : J G X QQ (pc + 1) L (vi (w32 (a * b)) :: st) S F I) : J G X QQ pc L (vi b :: vi a :: st) S F I :=
  J_pure (fun _ q => wci (rg_w32 _) (wt (wt q))) (fun _ _ _ _ _ _ _ _ w => lv_imul C.1 C.2.1 hd (by rw [i_mul]; exact w)) h
theorem ne0 {b : Int} (hb : rg b) (h0 : b ≠ 0) : ¬ Int32.ofInt b = 0 := fun z => h0 ((i_eq hb rg0).mp z)
theorem J_idiv (C : CO G own cc nL X) {a b : Int} (hd : decode cc pc = .ok (.idiv, 1)) (h0 : b ≠ 0) (h : J G X QQ (pc + 1) L (vi (w32 (a.tdiv b)) :: st) S F I) : J G X QQ pc L (vi b :: vi a :: st) S F I :=
  J_pure (fun _ q => wci (rg_w32 _) (wt (wt q))) (fun _ _ _ _ _ _ _ q w => lv_idiv C.1 C.2.1 hd (ne0 (whi q) h0) (by rw [i_div (whi (wt q)) (whi q)]; exact w)) h
theorem J_irem (C : CO G own cc nL X) {a b : Int} (hd : decode cc pc = .ok (.irem, 1)) (h0 : b ≠ 0) (h : J G X QQ (pc + 1) L (vi (w32 (a.tmod b)) :: st) S F I) : J G X QQ pc L (vi b :: vi a :: st) S F I :=
  J_pure (fun _ q => wci (rg_w32 _) (wt (wt q))) (fun _ _ _ _ _ _ _ q w => lv_irem C.1 C.2.1 hd (ne0 (whi q) h0) (by rw [i_rem (whi (wt q)) (whi q)]; exact w)) h
theorem J_iand (C : CO G own cc nL X) {a b : Int} (hd : decode cc pc = .ok (.iand, 1)) (h : J G X QQ (pc + 1) L (vi (iand a b) :: st) S F I) : J G X QQ pc L (vi b :: vi a :: st) S F I :=
  J_pure (fun _ q => wci (rgI _) (wt (wt q))) (fun _ _ _ _ _ _ _ _ w => lv_iand C.1 C.2.1 hd (by rw [← asI (Int32.ofInt a &&& Int32.ofInt b)]; exact w)) h
theorem J_ior (C : CO G own cc nL X) {a b : Int} (hd : decode cc pc = .ok (.ior, 1)) (h : J G X QQ (pc + 1) L (vi (ior a b) :: st) S F I) : J G X QQ pc L (vi b :: vi a :: st) S F I :=
  J_pure (fun _ q => wci (rgI _) (wt (wt q))) (fun _ _ _ _ _ _ _ _ w => lv_ior C.1 C.2.1 hd (by rw [← asI (Int32.ofInt a ||| Int32.ofInt b)]; exact w)) h
theorem J_ishl (C : CO G own cc nL X) {a b : Int} (hd : decode cc pc = .ok (.ishl, 1)) (h : J G X QQ (pc + 1) L (vi (ishl a b) :: st) S F I) : J G X QQ pc L (vi b :: vi a :: st) S F I :=
  J_pure (fun _ q => wci (rgI _) (wt (wt q))) (fun _ _ _ _ _ _ _ _ w => lv_ishl C.1 C.2.1 hd (by rw [← asI (Int32.ofInt a <<< (Int32.ofInt b &&& 31))]; exact w)) h
theorem J_ishr (C : CO G own cc nL X) {a b : Int} (hd : decode cc pc = .ok (.ishr, 1)) (h : J G X QQ (pc + 1) L (vi (ishr a b) :: st) S F I) : J G X QQ pc L (vi b :: vi a :: st) S F I :=
  J_pure (fun _ q => wci (rgI _) (wt (wt q))) (fun _ _ _ _ _ _ _ _ w => lv_ishr C.1 C.2.1 hd (by rw [← asI (Int32.ofInt a >>> (Int32.ofInt b &&& 31))]; exact w)) h
theorem J_iushr (C : CO G own cc nL X) {a b : Int} (hd : decode cc pc = .ok (.iushr, 1)) (h : J G X QQ (pc + 1) L (vi (iushr a b) :: st) S F I) : J G X QQ pc L (vi b :: vi a :: st) S F I :=
  J_pure (fun _ q => wci (rgI _) (wt (wt q))) (fun _ _ _ _ _ _ _ _ w => lv_iushr C.1 C.2.1 hd (v := Int32.ofInt (iushr a b)) (asI _).symm w) h
theorem J_i2l (C : CO G own cc nL X) {a : Int} (hd : decode cc pc = .ok (.i2l, 1)) (h : J G X QQ (pc + 1) L (vl a :: st) S F I) : J G X QQ pc L (vi a :: st) S F I :=
  J_pure (fun _ q => wcl (whi q) (wt q)) (fun _ _ _ _ _ _ _ q w => lv_i2l C.1 C.2.1 hd (i_long (whi q)) w) h
theorem rg_icmp (a b : Int) : rg (icmp a b) := by unfold icmp rg; split; · omega
                                                  · split <;> omega
theorem J_lcmp (C : CO G own cc nL X) {a b : Int} (hd : decode cc pc = .ok (.lcmp, 1)) (h : J G X QQ (pc + 1) L (vi (icmp a b) :: st) S F I) : J G X QQ pc L (vl b :: vl a :: st) S F I :=
  J_pure (fun _ q => wci (rg_icmp a b) (wt (wt q))) (fun _ _ _ _ _ _ _ q w => W.lcmp C.1 C.2.1 hd (by rw [l_cmp (whl (wt q)) (whl q)]; exact w)) h
theorem tv_cat1 {v : PV} (h : knw v) : (tv v).category = 1 := knw_cat h
theorem J_dup (C : CO G own cc nL X) {v : PV} (hd : decode cc pc = .ok (.dup, 1)) (hv : knw v) (h : J G X QQ (pc + 1) L (v :: v :: st) S F I) : J G X QQ pc L (v :: st) S F I :=
  J_pure (fun _ q => List.forall_mem_cons.mpr ⟨(List.forall_mem_cons.mp q).1, q⟩) (fun _ _ _ _ _ _ _ _ w => lv_dup C.1 C.2.1 hd (knw_cat hv) w) h
theorem J_dup_x1 (C : CO G own cc nL X) {v u : PV} (hd : decode cc pc = .ok (.dup_x1, 1)) (hv : knw v) (hu : knw u) (h : J G X QQ (pc + 1) L (v :: u :: v :: st) S F I) : J G X QQ pc L (v :: u :: st) S F I :=
  J_pure (fun _ q => List.forall_mem_cons.mpr ⟨(List.forall_mem_cons.mp q).1, List.forall_mem_cons.mpr ⟨(List.forall_mem_cons.mp (List.forall_mem_cons.mp q).2).1, List.forall_mem_cons.mpr ⟨(List.forall_mem_cons.mp q).1, (List.forall_mem_cons.mp (List.forall_mem_cons.mp q).2).2⟩⟩⟩) (fun _ _ _ _ _ _ _ _ w => lv_dup_x1 C.1 C.2.1 hd (knw_cat hv) (knw_cat hu) w) h
theorem J_dup2 (C : CO G own cc nL X) {v u : PV} (hd : decode cc pc = .ok (.dup2, 1)) (hv : knw v) (hu : knw u) (h : J G X QQ (pc + 1) L (v :: u :: v :: u :: st) S F I) : J G X QQ pc L (v :: u :: st) S F I :=
  J_pure (fun _ q => List.forall_mem_cons.mpr ⟨(List.forall_mem_cons.mp q).1, List.forall_mem_cons.mpr ⟨(List.forall_mem_cons.mp (List.forall_mem_cons.mp q).2).1, q⟩⟩) (fun _ _ _ _ _ _ _ _ w => lv_dup2_11 C.1 C.2.1 hd (knw_cat hv) (knw_cat hu) w) h
theorem J_pop (C : CO G own cc nL X) {v : PV} (hd : decode cc pc = .ok (.pop, 1)) (hv : knw v) (h : J G X QQ (pc + 1) L st S F I) : J G X QQ pc L (v :: st) S F I :=
  J_pure (fun _ q => (List.forall_mem_cons.mp q).2) (fun _ _ _ _ _ _ _ _ w => lv_pop C.1 C.2.1 hd (knw_cat hv) w) h
theorem J_null (C : CO G own cc nL X) (hd : decode cc pc = .ok (.aconst_null, 1)) (h : J G X QQ (pc + 1) L (vr none :: st) S F I) : J G X QQ pc L st S F I :=
  J_pure (fun _ q => wcr q) (fun _ _ _ _ _ _ _ _ w => lv_null C.1 C.2.1 hd w) h
theorem J_goto (C : CO G own cc nL X) {off : Int} {tgt : Nat} (hd : decode cc pc = .ok (.goto off, 3)) (ht : (pc : Int) + off = (tgt : Int)) (h : J G X QQ tgt L st S F I) : J G X QQ pc L st S F I :=
  J_pure (fun _ q => q) (fun _ _ _ _ _ _ _ _ w => lv_goto C.1 C.2.1 hd ht w) h
theorem J_icmp_eq (C : CO G own cc nL X) {a b : Int} {off : Int} {tgt : Nat} (hd : decode cc pc = .ok (.if_icmp .eq off, 3)) (ht : (pc : Int) + off = (tgt : Int)) (kt : (a = b) → J G X QQ tgt L st S F I) (kf : (¬ a = b) → J G X QQ (pc + 3) L st S F I) : J G X QQ pc L (vi b :: vi a :: st) S F I :=
  fun H locs ls cells slots hW hS hl hL hst hca hcb => by
    have hb : rg b := whi hst
    have ha : rg a := whi (wt hst)
    have hr := wt (wt hst)
    have e := i_eq ha hb
    exact lv_icmp_eq C.1 C.2.1 hd ht (fun c => kt (e.mp c) H locs ls cells slots hW hS hl hL hr hca hcb) (fun c => kf (fun z => c (e.mpr z)) H locs ls cells slots hW hS hl hL hr hca hcb)
theorem J_if_eq (C : CO G own cc nL X) {a : Int} {off : Int} {tgt : Nat} (hd : decode cc pc = .ok (.ifCond .eq off, 3)) (ht : (pc : Int) + off = (tgt : Int)) (kt : (a = 0) → J G X QQ tgt L st S F I) (kf : (¬ a = 0) → J G X QQ (pc + 3) L st S F I) : J G X QQ pc L (vi a :: st) S F I :=
  fun H locs ls cells slots hW hS hl hL hst hca hcb => by
    have hb : rg 0 := rg0
    have ha : rg a := whi hst
    have hr := wt hst
    have e := i_eq ha hb
    exact lv_if_eq C.1 C.2.1 hd ht (fun c => kt (e.mp c) H locs ls cells slots hW hS hl hL hr hca hcb) (fun c => kf (fun z => c (e.mpr z)) H locs ls cells slots hW hS hl hL hr hca hcb)
theorem J_icmp_ne (C : CO G own cc nL X) {a b : Int} {off : Int} {tgt : Nat} (hd : decode cc pc = .ok (.if_icmp .ne off, 3)) (ht : (pc : Int) + off = (tgt : Int)) (kt : (¬ a = b) → J G X QQ tgt L st S F I) (kf : (a = b) → J G X QQ (pc + 3) L st S F I) : J G X QQ pc L (vi b :: vi a :: st) S F I :=
  fun H locs ls cells slots hW hS hl hL hst hca hcb => by
    have hb : rg b := whi hst
    have ha : rg a := whi (wt hst)
    have hr := wt (wt hst)
    have e := i_eq ha hb
    exact lv_icmp_ne C.1 C.2.1 hd ht (fun c => kt (fun z => c (e.mpr z)) H locs ls cells slots hW hS hl hL hr hca hcb) (fun c => kf (e.mp c) H locs ls cells slots hW hS hl hL hr hca hcb)
theorem J_if_ne (C : CO G own cc nL X) {a : Int} {off : Int} {tgt : Nat} (hd : decode cc pc = .ok (.ifCond .ne off, 3)) (ht : (pc : Int) + off = (tgt : Int)) (kt : (¬ a = 0) → J G X QQ tgt L st S F I) (kf : (a = 0) → J G X QQ (pc + 3) L st S F I) : J G X QQ pc L (vi a :: st) S F I :=
  fun H locs ls cells slots hW hS hl hL hst hca hcb => by
    have hb : rg 0 := rg0
    have ha : rg a := whi hst
    have hr := wt hst
    have e := i_eq ha hb
    exact lv_if_ne C.1 C.2.1 hd ht (fun c => kt (fun z => c (e.mpr z)) H locs ls cells slots hW hS hl hL hr hca hcb) (fun c => kf (e.mp c) H locs ls cells slots hW hS hl hL hr hca hcb)
theorem J_icmp_lt (C : CO G own cc nL X) {a b : Int} {off : Int} {tgt : Nat} (hd : decode cc pc = .ok (.if_icmp .lt off, 3)) (ht : (pc : Int) + off = (tgt : Int)) (kt : (a < b) → J G X QQ tgt L st S F I) (kf : (¬ a < b) → J G X QQ (pc + 3) L st S F I) : J G X QQ pc L (vi b :: vi a :: st) S F I :=
  fun H locs ls cells slots hW hS hl hL hst hca hcb => by
    have hb : rg b := whi hst
    have ha : rg a := whi (wt hst)
    have hr := wt (wt hst)
    have e := i_lt ha hb
    exact lv_icmp_lt C.1 C.2.1 hd ht (fun c => kt (e.mp c) H locs ls cells slots hW hS hl hL hr hca hcb) (fun c => kf (fun z => c (e.mpr z)) H locs ls cells slots hW hS hl hL hr hca hcb)
theorem J_if_lt (C : CO G own cc nL X) {a : Int} {off : Int} {tgt : Nat} (hd : decode cc pc = .ok (.ifCond .lt off, 3)) (ht : (pc : Int) + off = (tgt : Int)) (kt : (a < 0) → J G X QQ tgt L st S F I) (kf : (¬ a < 0) → J G X QQ (pc + 3) L st S F I) : J G X QQ pc L (vi a :: st) S F I :=
  fun H locs ls cells slots hW hS hl hL hst hca hcb => by
    have hb : rg 0 := rg0
    have ha : rg a := whi hst
    have hr := wt hst
    have e := i_lt ha hb
    exact lv_if_lt C.1 C.2.1 hd ht (fun c => kt (e.mp c) H locs ls cells slots hW hS hl hL hr hca hcb) (fun c => kf (fun z => c (e.mpr z)) H locs ls cells slots hW hS hl hL hr hca hcb)
theorem J_icmp_ge (C : CO G own cc nL X) {a b : Int} {off : Int} {tgt : Nat} (hd : decode cc pc = .ok (.if_icmp .ge off, 3)) (ht : (pc : Int) + off = (tgt : Int)) (kt : (b ≤ a) → J G X QQ tgt L st S F I) (kf : (¬ b ≤ a) → J G X QQ (pc + 3) L st S F I) : J G X QQ pc L (vi b :: vi a :: st) S F I :=
  fun H locs ls cells slots hW hS hl hL hst hca hcb => by
    have hb : rg b := whi hst
    have ha : rg a := whi (wt hst)
    have hr := wt (wt hst)
    have e := i_le hb ha
    exact lv_icmp_ge C.1 C.2.1 hd ht (fun c => kt (e.mp c) H locs ls cells slots hW hS hl hL hr hca hcb) (fun c => kf (fun z => c (e.mpr z)) H locs ls cells slots hW hS hl hL hr hca hcb)
theorem J_if_ge (C : CO G own cc nL X) {a : Int} {off : Int} {tgt : Nat} (hd : decode cc pc = .ok (.ifCond .ge off, 3)) (ht : (pc : Int) + off = (tgt : Int)) (kt : (0 ≤ a) → J G X QQ tgt L st S F I) (kf : (¬ 0 ≤ a) → J G X QQ (pc + 3) L st S F I) : J G X QQ pc L (vi a :: st) S F I :=
  fun H locs ls cells slots hW hS hl hL hst hca hcb => by
    have hb : rg 0 := rg0
    have ha : rg a := whi hst
    have hr := wt hst
    have e := i_le hb ha
    exact lv_if_ge C.1 C.2.1 hd ht (fun c => kt (e.mp c) H locs ls cells slots hW hS hl hL hr hca hcb) (fun c => kf (fun z => c (e.mpr z)) H locs ls cells slots hW hS hl hL hr hca hcb)
theorem J_icmp_gt (C : CO G own cc nL X) {a b : Int} {off : Int} {tgt : Nat} (hd : decode cc pc = .ok (.if_icmp .gt off, 3)) (ht : (pc : Int) + off = (tgt : Int)) (kt : (b < a) → J G X QQ tgt L st S F I) (kf : (¬ b < a) → J G X QQ (pc + 3) L st S F I) : J G X QQ pc L (vi b :: vi a :: st) S F I :=
  fun H locs ls cells slots hW hS hl hL hst hca hcb => by
    have hb : rg b := whi hst
    have ha : rg a := whi (wt hst)
    have hr := wt (wt hst)
    have e := i_lt hb ha
    exact lv_icmp_gt C.1 C.2.1 hd ht (fun c => kt (e.mp c) H locs ls cells slots hW hS hl hL hr hca hcb) (fun c => kf (fun z => c (e.mpr z)) H locs ls cells slots hW hS hl hL hr hca hcb)
theorem J_if_gt (C : CO G own cc nL X) {a : Int} {off : Int} {tgt : Nat} (hd : decode cc pc = .ok (.ifCond .gt off, 3)) (ht : (pc : Int) + off = (tgt : Int)) (kt : (0 < a) → J G X QQ tgt L st S F I) (kf : (¬ 0 < a) → J G X QQ (pc + 3) L st S F I) : J G X QQ pc L (vi a :: st) S F I :=
  fun H locs ls cells slots hW hS hl hL hst hca hcb => by
    have hb : rg 0 := rg0
    have ha : rg a := whi hst
    have hr := wt hst
    have e := i_lt hb ha
    exact lv_if_gt C.1 C.2.1 hd ht (fun c => kt (e.mp c) H locs ls cells slots hW hS hl hL hr hca hcb) (fun c => kf (fun z => c (e.mpr z)) H locs ls cells slots hW hS hl hL hr hca hcb)
theorem J_icmp_le (C : CO G own cc nL X) {a b : Int} {off : Int} {tgt : Nat} (hd : decode cc pc = .ok (.if_icmp .le off, 3)) (ht : (pc : Int) + off = (tgt : Int)) (kt : (a ≤ b) → J G X QQ tgt L st S F I) (kf : (¬ a ≤ b) → J G X QQ (pc + 3) L st S F I) : J G X QQ pc L (vi b :: vi a :: st) S F I :=
  fun H locs ls cells slots hW hS hl hL hst hca hcb => by
    have hb : rg b := whi hst
    have ha : rg a := whi (wt hst)
    have hr := wt (wt hst)
    have e := i_le ha hb
    exact lv_icmp_le C.1 C.2.1 hd ht (fun c => kt (e.mp c) H locs ls cells slots hW hS hl hL hr hca hcb) (fun c => kf (fun z => c (e.mpr z)) H locs ls cells slots hW hS hl hL hr hca hcb)
theorem J_if_le (C : CO G own cc nL X) {a : Int} {off : Int} {tgt : Nat} (hd : decode cc pc = .ok (.ifCond .le off, 3)) (ht : (pc : Int) + off = (tgt : Int)) (kt : (a ≤ 0) → J G X QQ tgt L st S F I) (kf : (¬ a ≤ 0) → J G X QQ (pc + 3) L st S F I) : J G X QQ pc L (vi a :: st) S F I :=
  fun H locs ls cells slots hW hS hl hL hst hca hcb => by
    have hb : rg 0 := rg0
    have ha : rg a := whi hst
    have hr := wt hst
    have e := i_le ha hb
    exact lv_if_le C.1 C.2.1 hd ht (fun c => kt (e.mp c) H locs ls cells slots hW hS hl hL hr hca hcb) (fun c => kf (fun z => c (e.mpr z)) H locs ls cells slots hW hS hl hL hr hca hcb)
theorem J_tableIn (C : CO G own cc nL X) {dflt lo hi : Int} {offs : Array Int} {len : Nat} {z off : Int} {tgt : Nat} (hd : decode cc pc = .ok (.tableswitch dflt lo hi offs, len)) (h1 : ¬ z < lo) (h2 : ¬ hi < z) (ho : offs[(z - lo).toNat]? = some off) (ht : (pc : Int) + off = (tgt : Int)) (h : J G X QQ tgt L st S F I) : J G X QQ pc L (vi z :: st) S F I :=
  J_pure (fun _ q => (List.forall_mem_cons.mp q).2) (fun _ _ _ _ _ _ _ q w => by
    have e := toI (whi q)
    exact lv_tableIn C.1 C.2.1 hd (by rw [e]; exact h1) (by rw [e]; exact h2) (by rw [e]; exact ho) ht w) h
theorem J_tableOut (C : CO G own cc nL X) {dflt lo hi : Int} {offs : Array Int} {len : Nat} {z : Int} {tgt : Nat} (hd : decode cc pc = .ok (.tableswitch dflt lo hi offs, len)) (h1 : z < lo ∨ hi < z) (ht : (pc : Int) + dflt = (tgt : Int)) (h : J G X QQ tgt L st S F I) : J G X QQ pc L (vi z :: st) S F I :=
  J_pure (fun _ q => (List.forall_mem_cons.mp q).2) (fun _ _ _ _ _ _ _ q w => by
    have e := toI (whi q)
    exact lv_tableOut C.1 C.2.1 hd (by rw [e]; exact h1) ht w) h
/-- what is known of the values at any point -/
theorem J_wf (h : (∀ v ∈ L, wfv v) → (∀ v ∈ st, wfv v) → (∀ k q, rg (F k q)) → (∀ q j, rg (I q j)) → J G X QQ pc L st S F I) : J G X QQ pc L st S F I :=
  fun H locs ls cells slots hW hS hl hL hst ha hb => h hL hst hW.2.2.2.1 hW.2.2.2.2 H locs ls cells slots hW hS hl hL hst ha hb
end RulesA
end
section
/-! fields, arrays, new things -/
/-- class ci of the table: its name, its fields, that these are laid in the tables -/
def FO (ci k : Nat) (Cn : String) (T : u_T) (N : Nat) : Prop := vwCl[ci]? = some (Cn, T, N) ∧ clN ci = N ∧ k < N ∧ ci < 20 ∧ (∀ w ∈ u_ws Cn T N, w ∈ lw_good)
/-- and what a store needs -/
def FP (ci : Nat) (T : u_T) (N : Nat) : Prop := (∀ k, k < N → parseFieldDescriptor (T k).2.2.1 = some (clT ci k)) ∧ (∀ a, a < N → ∀ b, b < N → a ≠ b → (T a).2.1 ≠ (T b).2.1)
/-- a field's entry in a class's pool: by a link, or by a nest's link -/
def FLk (own : String) (index : Nat) (Cn : String) (T : u_T) (k : Nat) : Prop := (∃ ref, Cond.fieldLink own index ref (T k).2.1 (T k).2.2.1 ∈ lw_good ∧ (ref = (T k).1 ∨ Cond.sameField ref (T k).1 (T k).2.1 (T k).2.2.1 ∈ lw_good)) ∨ (∃ host, Cond.fieldLinkNest own index (T k).1 (T k).2.1 (T k).2.2.1 host ∈ lw_tbl ∧ (T k).1 ≠ own)
theorem FLk.link {own : String} {index : Nat} {Cn : String} {T : u_T} {k : Nat} (ref : String) (h : Cond.fieldLink own index ref (T k).2.1 (T k).2.2.1 ∈ lw_good) (e : ref = (T k).1) : FLk own index Cn T k := Or.inl ⟨ref, h, Or.inl e⟩
theorem FLk.same {own : String} {index : Nat} {Cn : String} {T : u_T} {k : Nat} (ref : String) (h : Cond.fieldLink own index ref (T k).2.1 (T k).2.2.1 ∈ lw_good) (e : Cond.sameField ref (T k).1 (T k).2.1 (T k).2.2.1 ∈ lw_good) : FLk own index Cn T k := Or.inl ⟨ref, h, Or.inr e⟩
theorem FLk.nest {own : String} {index : Nat} {Cn : String} {T : u_T} {k : Nat} (host : String) (h : Cond.fieldLinkNest own index (T k).1 (T k).2.1 (T k).2.2.1 host ∈ lw_tbl) (e : (T k).1 ≠ own) : FLk own index Cn T k := Or.inr ⟨host, h, e⟩
section RulesB
variable {G : Gp} {own : String} {cc : ByteArray} {nL : Nat} {X : Xt} {QQ : State → Prop} {pc : Nat} {L st : List PV} {S : Shp} {F : Fl} {I : Il}
theorem J_get (C : CO G own cc nL X) {ci k index N q : Nat} {Cn : String} {T : u_T} {v : PV} (hf : FO ci k Cn T N) (hl : FLk own index Cn T k) (hd : decode cc pc = .ok (.getfield index, 3)) (hK : sK S q = ci) (hv : tv v = fvv ci S F q k) (hw : (∀ k q, rg (F k q)) → wfv v) (h : J G X QQ (pc + 3) L (v :: st) S F I) : J G X QQ pc L (vr (some q) :: st) S F I := by
  intro H locs ls cells slots hW hS hls hL hst hca hcb
  obtain ⟨f1, f2, f3, f4, f5⟩ := hf
  obtain ⟨q0, hq0⟩ := hW.at (q := q) (by rw [hK]; omega)
  rw [cont_o hK f4] at hq0
  have e1 : (fvs ci S F q)[k]? = some (tv v) := by rw [hv]; exact fvs_get (by rw [f2]; exact f3)
  have kk := h H locs ls cells slots hW hS hls hL (List.forall_mem_cons.mpr ⟨hw hW.2.2.2.1, (List.forall_mem_cons.mp hst).2⟩) hca hcb
  rcases hl with ⟨ref, h1, h2⟩ | ⟨host, h1, h9⟩
  · refine va_get C.1 C.2.1 C.2.2.2.1 f5 C.2.2.1 C.2.2.2.2.1.1 hW.1 q0 hq0 f1 k f3 (C.2.2.2.1 _ h1) (fun x hx => ?_) e1 hd kk
    rcases h2 with rfl | h2
    · exact hx
    · exact u_same (C.2.2.2.1 _ h2) x hx
  · exact va_getN C.1 C.2.1 C.2.2.2.1 f5 C.2.2.1 C.2.2.2.2.1.1 hW.1 q0 hq0 f1 k f3 (va_Nw.use rfl (C.2.2.2.2.1.2.1 _ h1 rfl)) (fun x hx => hx) e1 hd kk
theorem J_getI (C : CO G own cc nL X) {ci k index N q : Nat} {Cn : String} {T : u_T} (hf : FO ci k Cn T N) (hr : refT (clT ci k) = false) (hl : FLk own index Cn T k) (hd : decode cc pc = .ok (.getfield index, 3)) (hK : sK S q = ci) (h : J G X QQ (pc + 3) L (vi (F (100 * ci + k) q) :: st) S F I) : J G X QQ pc L (vr (some q) :: st) S F I :=
  J_get C hf hl hd hK (v := vi (F (100 * ci + k) q)) (by unfold fvv; rw [hr]; rfl) (fun w => w _ _) h
theorem J_getR (C : CO G own cc nL X) {ci k index N q r : Nat} {Cn : String} {T : u_T} (hf : FO ci k Cn T N) (hr : refT (clT ci k) = true) (hl : FLk own index Cn T k) (hd : decode cc pc = .ok (.getfield index, 3)) (hK : sK S q = ci) (hR : sR S (100 * ci + k) q = some r) (h : J G X QQ (pc + 3) L (vr (some r) :: st) S F I) : J G X QQ pc L (vr (some q) :: st) S F I :=
  J_get C hf hl hd hK (v := vr (some r)) (by unfold fvv; rw [hr, if_pos rfl, hR]; rfl) (fun _ => trivial) h
theorem Wld.putF {H H1 : Heap} {ci k q q0 : Nat} {z : Int} (h : Wld G S F I H) (hK : sK S q = ci) (hci : ci < 20) (hk : k < clN ci) (hr : refT (clT ci k) = false) (hz : rg z) (hq0 : (pw G S F I)[q0]? = some (q, cont G S F I q))
    (hP : va_P (gD G) vwCl ((pw G S F I).set q0 (q, .inr (ci, (fvs ci S F q).set k (.int (Int32.ofInt z))))) H1) (hD : va_D (gAd G) ((pw G S F I).set q0 (q, .inr (ci, (fvs ci S F q).set k (.int (Int32.ofInt z)))))) : Wld G S (u2 F (100 * ci + k) q z) I H1 := by
  have e := pw_set (S' := S) (F' := u2 F (100 * ci + k) q z) (I' := I) (e := .inr (ci, (fvs ci S F q).set k (.int (Int32.ofInt z)))) h (by rw [hK]; omega) hq0 rfl (by
    rw [cont_o hK hci, fvs_set hk (S' := S) (F' := u2 F (100 * ci + k) q z) ?_ fun j hj => fvv_F (fun w => hj w.1)]
    unfold fvv u2
    rw [hr, if_neg (fun w => by cases w), if_pos ⟨rfl, rfl⟩]) (fun b hb => cont_congr rfl rfl (fun c j => fvv_Fb hb) (fun _ => rfl) (fun _ => rfl))
  rw [e] at hP hD
  refine ⟨hP, hD, h.2.2.1, fun k' q' => ?_, h.2.2.2.2⟩
  unfold u2
  split
  · exact hz
  · exact h.2.2.2.1 k' q'
theorem Wld.putR {H H1 : Heap} {ci k q q0 : Nat} {o : Option Nat} (h : Wld G S F I H) (hK : sK S q = ci) (hci : ci < 20) (hk : k < clN ci) (hr : refT (clT ci k) = true) (hq0 : (pw G S F I)[q0]? = some (q, cont G S F I q))
    (hP : va_P (gD G) vwCl ((pw G S F I).set q0 (q, .inr (ci, (fvs ci S F q).set k (va_rf o)))) H1) (hD : va_D (gAd G) ((pw G S F I).set q0 (q, .inr (ci, (fvs ci S F q).set k (va_rf o))))) : Wld G (setR S (100 * ci + k) q o) F I H1 := by
  have e := pw_set (S' := setR S (100 * ci + k) q o) (F' := F) (I' := I) (e := .inr (ci, (fvs ci S F q).set k (va_rf o))) h (by rw [hK]; omega) hq0 rfl (by
    rw [cont_o (show sK (setR S (100 * ci + k) q o) q = ci from hK) hci, fvs_set hk (S' := setR S (100 * ci + k) q o) (F' := F) ?_ fun j hj => fvv_R (fun w => hj w.1)]
    show (if refT (clT ci k) = true then va_rf (u2 (sR S) (100 * ci + k) q o (100 * ci + k) q) else _) = _
    unfold u2
    rw [hr, if_pos rfl, if_pos ⟨rfl, rfl⟩]) (fun b hb => cont_congr rfl rfl (fun c j => fvv_Rb hb) (fun _ => rfl) (fun _ => rfl))
  rw [e] at hP hD
  exact ⟨hP, hD, h.2.2.1, h.2.2.2.1, h.2.2.2.2⟩
theorem nar_int (z : Int) : narrow .int (.int (Int32.ofInt z)) = .int (Int32.ofInt z) := rfl
theorem nar_bool {z : Int} (h : z = 0 ∨ z = 1) : narrow .boolean (.int (Int32.ofInt z)) = .int (Int32.ofInt z) ∧ fits .boolean (.int (Int32.ofInt z)) = true := by
  rcases h with rfl | rfl <;> exact ⟨by decide +kernel, by decide +kernel⟩
/-- what may be stored in a field that holds numbers -/
def okF (t : FieldType) (z : Int) : Prop := t = .int ∨ (t = .boolean ∧ (z = 0 ∨ z = 1))
theorem okF.nar {t : FieldType} {z : Int} (h : okF t z) : narrow t (.int (Int32.ofInt z)) = .int (Int32.ofInt z) ∧ fits t (.int (Int32.ofInt z)) = true := by
  rcases h with rfl | ⟨rfl, h⟩
  · exact ⟨rfl, rfl⟩
  · exact nar_bool h
theorem okF.num {t : FieldType} {z : Int} (h : okF t z) : refT t = false := by
  rcases h with rfl | ⟨rfl, h⟩ <;> rfl
theorem J_putI (C : CO G own cc nL X) {ci k index N q : Nat} {Cn : String} {T : u_T} {z : Int} (hf : FO ci k Cn T N) (hp : FP ci T N) (hl : FLk own index Cn T k) (hfin : (T k).2.2.2 = false ∨ ((xf X).name = "<init>" ∧ (T k).1 = own)) (hz : okF (clT ci k) z) (hd : decode cc pc = .ok (.putfield index, 3)) (hK : sK S q = ci) (h : J G X QQ (pc + 3) L st S (u2 F (100 * ci + k) q z) I) : J G X QQ pc L (vi z :: vr (some q) :: st) S F I := by
  intro H locs ls cells slots hW hS hls hL hst hca hcb
  obtain ⟨f1, f2, f3, f4, f5⟩ := hf
  obtain ⟨q0, hq0⟩ := hW.at (q := q) (by rw [hK]; omega)
  have hq1 := hq0
  rw [cont_o hK f4] at hq1
  have hst2 := (List.forall_mem_cons.mp (List.forall_mem_cons.mp hst).2).2
  have hzr : rg z := (List.forall_mem_cons.mp hst).1
  have hk : k < clN ci := by rw [f2]; exact f3
  have kk : ∀ (H1 : Heap) (locs1 : List Loc), va_P (gD G) vwCl ((pw G S F I).set q0 (q, .inr (ci, (fvs ci S F q).set k (.int (Int32.ofInt z))))) H1 → va_D (gAd G) ((pw G S F I).set q0 (q, .inr (ci, (fvs ci S F q).set k (.int (Int32.ofInt z))))) → va_S (gAd G) (xs X).heap H1 locs1 → WX X H1 locs1 cells slots QQ (F0 (xm X) (pc + 3) ls (st.map tv)) :=
    fun H1 locs1 a b c => h H1 locs1 ls cells slots (hW.putF hK f4 hk hz.num hzr hq0 a b) c hls hL hst2 hca hcb
  obtain ⟨n1, n2⟩ := hz.nar
  rcases hl with ⟨ref, h1, h2⟩ | ⟨host, h1, h9⟩
  · have hsame : ∀ x, (xs X).fieldFound? (T k).1 (T k).2.1 (T k).2.2.1 = some x → (xs X).fieldFound? ref (T k).2.1 (T k).2.2.1 = some x := fun x hx => by
      rcases h2 with rfl | h2
      · exact hx
      · exact u_same (C.2.2.2.1 _ h2) x hx
    cases hff : (T k).2.2.2 with
    | false => exact va_put C.1 C.2.1 C.2.2.2.1 f5 (clT ci) hp.1 hp.2 C.2.2.1 C.2.2.2.2.1.1 hW.1 hW.2.1 hS q0 hq1 f1 k f3 (C.2.2.2.1 _ h1) hsame hff (hp.1 k f3) n1 n2 (by rw [fvs_len]; exact hk) hd kk
    | true =>
      rcases hfin with hfin | ⟨hfin, hown⟩
      · rw [hff] at hfin; cases hfin
      · exact va_putF C.1 C.2.1 C.2.2.2.1 f5 (clT ci) hp.1 hp.2 C.2.2.1 C.2.2.2.2.1.1 hW.1 hW.2.1 hS q0 hq1 f1 k f3 (C.2.2.2.1 _ h1) hsame hff hfin hown (hp.1 k f3) n1 n2 (by rw [fvs_len]; exact hk) hd kk
  · cases hff : (T k).2.2.2 with
    | false => exact va_putN C.1 C.2.1 C.2.2.2.1 f5 (clT ci) hp.1 hp.2 C.2.2.1 C.2.2.2.2.1.1 hW.1 hW.2.1 hS q0 hq1 f1 k f3 (va_Nw.use rfl (C.2.2.2.2.1.2.1 _ h1 rfl)) (fun x hx => hx) hff (hp.1 k f3) n1 n2 (by rw [fvs_len]; exact hk) hd kk
    | true =>
      rcases hfin with hfin | ⟨hfin, hown⟩
      · rw [hff] at hfin; cases hfin
      · exact absurd hown h9
theorem fits_ref {t : FieldType} (h : refT t = true) (o : Option Nat) : narrow t (va_rf o) = va_rf o ∧ fits t (va_rf o) = true := by
  cases t <;> first | (exact Bool.noConfusion h) | (cases o <;> exact ⟨rfl, rfl⟩)
theorem J_putR (C : CO G own cc nL X) {ci k index N q : Nat} {Cn ref : String} {T : u_T} {o : Option Nat} (hf : FO ci k Cn T N) (hp : FP ci T N) (hr : refT (clT ci k) = true) (h1 : Cond.fieldLink own index ref (T k).2.1 (T k).2.2.1 ∈ lw_good) (h2 : ref = (T k).1) (hfin : (T k).2.2.2 = false ∨ ((xf X).name = "<init>" ∧ (T k).1 = own)) (hd : decode cc pc = .ok (.putfield index, 3)) (hK : sK S q = ci) (h : J G X QQ (pc + 3) L st (setR S (100 * ci + k) q o) F I) : J G X QQ pc L (vr o :: vr (some q) :: st) S F I := by
  intro H locs ls cells slots hW hS hls hL hst hca hcb
  obtain ⟨f1, f2, f3, f4, f5⟩ := hf
  obtain ⟨q0, hq0⟩ := hW.at (q := q) (by rw [hK]; omega)
  have hq1 := hq0
  rw [cont_o hK f4] at hq1
  have hst2 := (List.forall_mem_cons.mp (List.forall_mem_cons.mp hst).2).2
  have hk : k < clN ci := by rw [f2]; exact f3
  have kk : ∀ (H1 : Heap) (locs1 : List Loc), va_P (gD G) vwCl ((pw G S F I).set q0 (q, .inr (ci, (fvs ci S F q).set k (va_rf o)))) H1 → va_D (gAd G) ((pw G S F I).set q0 (q, .inr (ci, (fvs ci S F q).set k (va_rf o)))) → va_S (gAd G) (xs X).heap H1 locs1 → WX X H1 locs1 cells slots QQ (F0 (xm X) (pc + 3) ls (st.map tv)) :=
    fun H1 locs1 a b c => h H1 locs1 ls cells slots (hW.putR hK f4 hk hr hq0 a b) c hls hL hst2 hca hcb
  obtain ⟨n1, n2⟩ := fits_ref hr o
  subst h2
  cases hff : (T k).2.2.2 with
  | false => exact va_put C.1 C.2.1 C.2.2.2.1 f5 (clT ci) hp.1 hp.2 C.2.2.1 C.2.2.2.2.1.1 hW.1 hW.2.1 hS q0 hq1 f1 k f3 (C.2.2.2.1 _ h1) (fun x hx => hx) hff (hp.1 k f3) n1 n2 (by rw [fvs_len]; exact hk) hd kk
  | true =>
    rcases hfin with hfin | ⟨hfin, hown⟩
    · rw [hff] at hfin; cases hfin
    · exact va_putF C.1 C.2.1 C.2.2.2.1 f5 (clT ci) hp.1 hp.2 C.2.2.1 C.2.2.2.2.1.1 hW.1 hW.2.1 hS q0 hq1 f1 k f3 (C.2.2.2.1 _ h1) (fun x hx => hx) hff hfin hown (hp.1 k f3) n1 n2 (by rw [fvs_len]; exact hk) hd kk
/-! arrays -/
theorem ty_at (k : Nat) (hk : 20 ≤ k) (hk2 : k < 26) : (tysG G)[k - 20]? = some (gA G (k - 20), (match k with | 20 => FieldType.int | 21 => .int | 22 => .int | 23 => .object RX6 | 24 => .object RX7 | _ => .object "java/lang/Object")) := by
  obtain rfl | rfl | rfl | rfl | rfl | rfl : k = 20 ∨ k = 21 ∨ k = 22 ∨ k = 23 ∨ k = 24 ∨ k = 25 := by omega
  all_goals rfl
theorem J_alen (C : CO G own cc nL X) {q k : Nat} (hd : decode cc pc = .ok (.arraylength, 1)) (hK : sK S q = k) (hk : 20 ≤ k) (hk2 : k < 26) (hn : rg (sN S q : Int)) (h : J G X QQ (pc + 1) L (vi (sN S q : Int) :: st) S F I) : J G X QQ pc L (vr (some q) :: st) S F I := by
  intro H locs ls cells slots hW hS hls hL hst hca hcb
  obtain ⟨q0, hq0⟩ := hW.at (q := q) (by rw [hK]; omega)
  rw [cont_a hK hk] at hq0
  exact va_alen C.1 C.2.1 C.2.2.2.2.1.1 hW.1 q0 (k - 20) hq0 (ty_at k hk hk2) (v := Int32.ofInt (sN S q : Int)) rfl hd (h H locs ls cells slots hW hS hls hL (List.forall_mem_cons.mpr ⟨hn, (List.forall_mem_cons.mp hst).2⟩) hca hcb)
theorem i_nat {z : Int} (h0 : 0 ≤ z) : ((z.toNat : Nat) : Int) = z := Int.toNat_of_nonneg h0
theorem J_iald (C : CO G own cc nL X) {q : Nat} {z : Int} (hd : decode cc pc = .ok (.iaload, 1)) (hK : sK S q = 20) (h0 : 0 ≤ z) (hn : z < (sN S q : Int)) (h : J G X QQ (pc + 1) L (vi (I q z) :: st) S F I) : J G X QQ pc L (vi z :: vr (some q) :: st) S F I := by
  intro H locs ls cells slots hW hS hls hL hst hca hcb
  obtain ⟨q0, hq0⟩ := hW.at (q := q) (by rw [hK]; omega)
  rw [cont_a hK (by omega)] at hq0
  have hz : rg z := (List.forall_mem_cons.mp hst).1
  have kk := h H locs ls cells slots hW hS hls hL (List.forall_mem_cons.mpr ⟨hW.2.2.2.2 q z, (List.forall_mem_cons.mp (List.forall_mem_cons.mp hst).2).2⟩) hca hcb
  refine va_iald C.1 C.2.1 C.2.2.2.2.1.1 hW.1 q0 0 hq0 rfl (i_in hz h0 hn) hd ?_
  rw [i_cl hz h0, i_nat h0]
  exact kk
theorem J_aald (C : CO G own cc nL X) {q k r : Nat} {z : Int} (hd : decode cc pc = .ok (.aaload, 1)) (hK : sK S q = k) (hk : 23 ≤ k) (hk2 : k < 26) (h0 : 0 ≤ z) (hn : z < (sN S q : Int)) (hr : sG S q z = some r) (h : J G X QQ (pc + 1) L (vr (some r) :: st) S F I) : J G X QQ pc L (vi z :: vr (some q) :: st) S F I := by
  intro H locs ls cells slots hW hS hls hL hst hca hcb
  obtain ⟨q0, hq0⟩ := hW.at (q := q) (by rw [hK]; omega)
  rw [cont_a hK (by omega)] at hq0
  have hz : rg z := (List.forall_mem_cons.mp hst).1
  have kk := h H locs ls cells slots hW hS hls hL (List.forall_mem_cons.mpr ⟨trivial, (List.forall_mem_cons.mp (List.forall_mem_cons.mp hst).2).2⟩) hca hcb
  have go : ∀ (Cn : String) (t0 : Nat), (tysG G)[t0]? = some (gA G (k - 20), .object Cn) → (pw G S F I)[q0]? = some (q, .inl (gA G (k - 20), (sN S q, .inr (.inr (.inr (.inr (fun j : Nat => sG S q (j : Int)))))))) → WX X H locs cells slots QQ (F0 (xm X) pc ls ((vi z :: vr (some q) :: st).map tv)) := fun Cn t0 ht hq => by
    refine va_aldq C.1 C.2.1 C.2.2.2.2.1.1 hW.1 q0 t0 hq ht (i_in hz h0 hn) hd ?_
    rw [i_cl hz h0, i_nat h0, hr]
    exact kk
  obtain rfl | rfl | rfl : k = 23 ∨ k = 24 ∨ k = 25 := by omega
  · exact go _ 3 rfl hq0
  · exact go _ 4 rfl hq0
  · exact go _ 5 rfl hq0
theorem pw_arr {H H1 : Heap} {k q q0 : Nat} {S' : Shp} {I' : Il} (h : Wld G S F I H) (hK : sK S q = k) (hk : 20 ≤ k) (hk9 : k ≠ 99) (hq0 : (pw G S F I)[q0]? = some (q, cont G S F I q)) (hL : sL S' = sL S) (hK' : sK S' = sK S) (hN' : sN S' = sN S) (hR' : sR S' = sR S) (hI : ∀ b, b ≠ q → ∀ j, I' b j = I b j) (hG : ∀ b, b ≠ q → ∀ j, sG S' b j = sG S b j) (hr : ∀ q j, rg (I' q j)) {a : vpR} (ha : arc k S' I' q = a)
    (hP : va_P (gD G) vwCl ((pw G S F I).set q0 (q, .inl (gA G (k - 20), (sN S q, a)))) H1) (hD : va_D (gAd G) ((pw G S F I).set q0 (q, .inl (gA G (k - 20), (sN S q, a))))) : Wld G S' F I' H1 := by
  have e := pw_set (S' := S') (F' := F) (I' := I') (e := .inl (gA G (k - 20), (sN S q, a))) h (by rw [hK]; exact hk9) hq0 hL (by
    rw [cont_a (show sK S' q = k by rw [hK']; exact hK) hk, hN', ha]) (fun b hb => cont_congr (by rw [hK']) (by rw [hN']) (fun c j => by unfold fvv; rw [hR']) (hI b hb) (hG b hb))
  rw [e] at hP hD
  exact ⟨hP, hD, fun q hq => by rw [hL]; exact h.2.2.1 q (by rw [← hK']; exact hq), h.2.2.2.1, hr⟩
theorem upd_ui {f : Nat → Int → Int} {q : Nat} {z x : Int} (h0 : 0 ≤ z) : (fun j : Nat => Int32.ofInt (ui f q z x q (j : Int))) = upd (fun j : Nat => Int32.ofInt (f q (j : Int))) z.toNat (Int32.ofInt x) := by
  funext j
  unfold ui upd
  by_cases hj : (j : Int) = z
  · rw [if_pos ⟨rfl, hj⟩, if_pos (by omega)]
  · rw [if_neg (fun w => hj w.2), if_neg (by omega)]
theorem ui_ne {α : Type} {f : Nat → Int → α} {q b : Nat} {z : Int} {x : α} (h : b ≠ q) (j : Int) : ui f q z x b j = f b j := by
  unfold ui
  rw [if_neg (fun w => h w.1)]
theorem rg_ui {f : Nat → Int → Int} {q : Nat} {z x : Int} (h : ∀ q j, rg (f q j)) (hx : rg x) (q' : Nat) (j : Int) : rg (ui f q z x q' j) := by
  unfold ui
  split
  · exact hx
  · exact h q' j
theorem J_iast (C : CO G own cc nL X) {q : Nat} {z x : Int} (hd : decode cc pc = .ok (.iastore, 1)) (hK : sK S q = 20) (h0 : 0 ≤ z) (hn : z < (sN S q : Int)) (h : J G X QQ (pc + 1) L st S F (ui I q z x)) : J G X QQ pc L (vi x :: vi z :: vr (some q) :: st) S F I := by
  intro H locs ls cells slots hW hS hls hL hst hca hcb
  obtain ⟨q0, hq0⟩ := hW.at (q := q) (by rw [hK]; omega)
  have hq1 := hq0
  rw [cont_a hK (by omega)] at hq1
  obtain ⟨hx, hst1⟩ := List.forall_mem_cons.mp hst
  obtain ⟨hz, hst2⟩ := List.forall_mem_cons.mp hst1
  refine va_iast C.1 C.2.1 C.2.2.2.2.1.1 hW.1 hW.2.1 hS q0 0 hq1 rfl (i_in hz h0 hn) hd fun H1 locs1 a b c => ?_
  rw [i_cl hz h0] at a b
  exact h H1 locs1 ls cells slots (pw_arr hW hK (by omega) (by omega) hq0 rfl rfl rfl rfl (fun b hb j => ui_ne hb j) (fun _ _ _ => rfl) (rg_ui hW.2.2.2.2 hx) (congrArg Sum.inl (upd_ui h0)) a b) c hls hL (List.forall_mem_cons.mp hst2).2 hca hcb
theorem vp_nar_z {x : Int} (h : x = 0 ∨ x = 1) : vp_nar .boolean (Int32.ofInt x) = Int32.ofInt x := by
  rcases h with rfl | rfl <;> decide +kernel
theorem upd_ul {f : Nat → Int → Int} {q : Nat} {z x : Int} (h0 : 0 ≤ z) : (fun j : Nat => Int64.ofInt (ui f q z x q (j : Int))) = vp_updL (fun j : Nat => Int64.ofInt (f q (j : Int))) z.toNat (Int64.ofInt x) := by
  funext j
  unfold ui vp_updL
  by_cases hj : (j : Int) = z
  · rw [if_pos ⟨rfl, hj⟩, if_pos (by omega)]
  · rw [if_neg (fun w => hj w.2), if_neg (by omega)]
end RulesB
end
section
/-! methods by contract: what a call brings, what it costs -/
def QcD (G : Gp) (rm : Room) (Q : Option PV → Shp → Fl → Il → Prop) (QX : String → Shp → Fl → Il → Prop) : Array Value → State → Outcome → State → Prop := fun _ st o t =>
  (∃ (v : Option PV) (S : Shp) (F : Fl) (I : Il) (L : List Loc) (k n : Nat), o = .returned (v.map tv) ∧ (∀ x, v = some x → wfv x) ∧ Q v S F I ∧ Wld G S F I t.heap ∧ va_F (gAd G) st t ∧ FrameEnd st o t L k n ∧ (∀ q ∈ L, gB G ≤ q.base) ∧ k + sa S ≤ rm.cells ∧ n + sb S ≤ rm.slots) ∨
  (∃ (q : Addr) (E : String) (ce : Cell) (S : Shp) (F : Fl) (I : Il) (L : List Loc) (k n : Nat), o = .threw q ∧ QX E S F I ∧ Wld G S F I t.heap ∧ va_F (gAd G) st t ∧ t.heap[q]? = some ce ∧ ce.vm = .none ∧ st.vm.findClass E = some ce.cls ∧ st.WarmedH t.vm ∧ st.sameButNew ({ t with vm := st.vm } : State) L k n ∧ (∀ z ∈ L, gB G ≤ z.base) ∧ k + sa S ≤ rm.cells ∧ n + sb S ≤ rm.slots)
def PcD (G : Gp) (args : List PV) (S : Shp) (F : Fl) (I : Il) : Array Value → State → Prop := fun a U => a = (args.map tv).toArray ∧ (∀ v ∈ args, wfv v) ∧ Wld G S F I U.heap ∧ Env9 G U U.heap
abbrev rmD (d : Nat) (S : Shp) : Room := { frames := d, cells := sa S, slots := sb S, locals := 38 * d }
/-- the contract of a method at depth d: from these arguments and this world it ends, returning or throwing, as Q and QX say -/
def CM (l : Launch) (G : Gp) (d : Nat) (y : MethodName) (w0 : Cond) (args : List PV) (S : Shp) (F : Fl) (I : Il) (Q : Option PV → Shp → Fl → Il → Prop) (QX : String → Shp → Fl → Il → Prop) : Prop :=
  MetFree l y (headSpec (w0 :: lw_good) (rmD d S)) (PcD G args S F I) (fun _ _ _ _ _ => True) (QcD G (rmD d S) Q QX)
/-- where a method's body is to come -/
def QD (X : Xt) (G : Gp) (Q : Option PV → Shp → Fl → Il → Prop) (QX : String → Shp → Fl → Il → Prop) : State → Prop := fun t => ∃ o, t.status = .running ∧ Ended t (xb X) o ∧ QcD G (xR X) Q QX (xa X) (xs X) o t
theorem Wmono {p : Program} {l : Launch} {e : Env} {R : Room} {s : State} {m : MethodId} {args : Array Value} {below : List Frame} {meth : Method} {c : Code} {H : Heap} {locs : List Loc} {cells slots : Nat} {Q Q' : State → Prop} {g : JFrame} (h : ∀ t, Q t → Q' t) (k : W p l e R s m args below meth c H locs cells slots Q g) : W p l e R s m args below meth c H locs cells slots Q' g := by
  intro T hT X
  obtain ⟨t, a, b⟩ := k T hT X
  exact ⟨t, a, h t b⟩
section Back9
variable {l : Launch} {R : Room} {p : Program} {e : Env} {below : List Frame} {s : State} {sargs : Array Value} {y : MethodName} {len W9 : Nat}
def PreD (R : Room) (mc ms : Nat) (Pc : Array Value → State → Prop) : Pt → Array Value → Prop := fun A a => A.cells + mc ≤ R.cells ∧ A.slots + ms ≤ R.slots ∧ Pc a A.U
def PostD (G : Gp) (rm : Room) (Q : Option PV → Shp → Fl → Il → Prop) : Pt → Array Value → Option Value → Pt → Prop := fun A _ v B =>
  ∃ (w : Option PV) (S : Shp) (F : Fl) (I : Il) (t : State) (L : List Loc) (k n : Nat), v = w.map tv ∧ (∀ x, w = some x → wfv x) ∧ Q w S F I ∧ Wld G S F I B.U.heap ∧ B.U.heap = t.heap ∧ A.U.heap.size ≤ B.U.heap.size ∧ (∀ q : Nat, q < A.U.heap.size → ¬ gB G ≤ q → B.U.heap[q]? = A.U.heap[q]?) ∧ B.locs = A.locs ++ L ∧ (∀ q ∈ L, gB G ≤ q.base) ∧ B.cells = A.cells + k ∧ B.slots = A.slots + n ∧ k + sa S ≤ rm.cells ∧ n + sb S ≤ rm.slots
def PostXD (G : Gp) (rm : Room) (QX : String → Shp → Fl → Il → Prop) : Pt → Array Value → Addr → Pt → Prop := fun A _ q B =>
  ∃ (E : String) (ce : Cell) (S : Shp) (F : Fl) (I : Il) (L : List Loc) (k n : Nat), QX E S F I ∧ Wld G S F I B.U.heap ∧ A.U.heap.size ≤ B.U.heap.size ∧ (∀ q : Nat, q < A.U.heap.size → ¬ gB G ≤ q → B.U.heap[q]? = A.U.heap[q]?) ∧ B.U.heap[q]? = some ce ∧ ce.vm = .none ∧ A.U.vm.findClass E = some ce.cls ∧ B.locs = A.locs ++ L ∧ (∀ q ∈ L, gB G ≤ q.base) ∧ B.cells = A.cells + k ∧ B.slots = A.slots + n ∧ k + sa S ≤ rm.cells ∧ n + sb S ≤ rm.slots
/-- what a code word says of the method's variables -/
def CodeW (y : MethodName) (w0 : Cond) (maxL : Nat) : Prop := ∀ (a : Array Value) (U : State) (mk : MethodId), U.methodNamed? y = some mk → w0.before a U = true → ∃ (meth : Method) (c : Code), U.vm.method? mk = some meth ∧ meth.code = some c ∧ c.maxLocals = maxL
theorem CodeW.code (y : MethodName) (bytes : ByteArray) (maxL : Nat) (ret : Option FieldType) : CodeW y (.code y bytes maxL ret) maxL := fun a U mk hn h => by
  obtain ⟨meth, c, h1, h2, -, h4, -⟩ := Cond.code_spec hn h
  exact ⟨meth, c, h1, h2, h4⟩
theorem CodeW.codeWith (y : MethodName) (bytes : ByteArray) (maxL : Nat) (ret : Option FieldType) (hh : List (Nat × Nat × Nat × Nat)) : CodeW y (.codeWith y bytes maxL ret hh) maxL := fun a U mk hn h => by
  obtain ⟨m9, meth, c, hn9, h1, h2, -, h4, -⟩ := Cond.codeWith_spec h
  cases Option.some.inj (hn9.symm.trans hn)
  exact ⟨meth, c, h1, h2, h4⟩
/-- follows vx_back, with costs that the end tells -/
theorem md_back {G : Gp} {d : Nat} {w0 : Cond} {args : List PV} {S : Shp} {F : Fl} {I : Il} {Q : Option PV → Shp → Fl → Il → Prop} {QX : String → Shp → Fl → Il → Prop} {maxL : Nat}
    (hM : CM l G d y w0 args S F I Q QX) (hframes : d + 1 ≤ R.frames) (hlocals : W9 + (maxL + 11) + 38 * d ≤ R.locals) (hcw : CodeW y w0 maxL)
    (hws : ∀ w ∈ w0 :: lw_good, ∀ a' U, s.WarmedH U.vm → w.before a' U = true) (hinit : ∀ a' U, s.WarmedH U.vm → (Cond.initialized y.cls).before a' U = true) (hblind : FrameBlind (PcD G args S F I)) :
    vx_Back l R p e below s sargs y len W9 (PreD R (sa S) (sb S) (PcD G args S F I)) (PostD G (rmD d S) Q) (PostXD G (rmD d S) QX) := by
  intro m meth c A g ig mk a X hg hsize hdg hW hn hp
  have h1 : (headSpec (w0 :: lw_good) (rmD d S)).pre.before a A.U = true := atoms_intro fun w hw => hws w hw _ _ X.warmed
  have h2 : w0.before a A.U = true := hws _ List.mem_cons_self _ _ X.warmed
  have h3 : (Cond.initialized y.cls).before a A.U = true := hinit _ _ X.warmed
  have h4 : A.cells + (headSpec (w0 :: lw_good) (rmD d S)).room.cells ≤ R.cells := hp.1
  have h5 : A.slots + (headSpec (w0 :: lw_good) (rmD d S)).room.slots ≤ R.slots := hp.2.1
  have hPc : PcD G args S F I a (A.U.calling g mk a) := hblind _ _ _ _ hp.2.2
  obtain ⟨U, Ls, c0, s0⟩ := A
  dsimp only [Pt.U, Pt.locs, Pt.cells, Pt.slots] at h1 h2 h3 h4 h5 X hn hPc ⊢
  obtain ⟨methY, cY, hmY, hcY, hlY⟩ := hcw _ _ _ hn h2
  obtain ⟨kY, hkY, -⟩ := className_of_methodNamed hn
  have hinitY : kY.init = .initialized := Cond.initialized_spec (findClass_of_methodNamed hn) hkY h3
  have h : At U g.method c below := by rw [hg]; exact X.here
  have hlocals9 : W9 + (maxL + 11) + (headSpec (w0 :: lw_good) (rmD d S)).room.locals ≤ R.locals := hlocals
  have hframes9 : (headSpec (w0 :: lw_good) (rmD d S)).room.frames + 1 ≤ R.frames := hframes
  have happ : (headSpec (w0 :: lw_good) (rmD d S)).appliesLoose y e.platform (U.calling g mk a) = true :=
    Spec.appliesLoose_calling (g := g) h hdg hn hkY hinitY
      (X.room_calling (g := g) (R' := (headSpec (w0 :: lw_good) (rmD d S)).room) hsize hmY hcY hframes9 (by rw [hlY]; omega) h4 h5) h1
  obtain ⟨mid, hmid⟩ := h.above
  have hfr : (U.setTop g).frames = (.java g :: mid) ++ below := by rw [State.frames_setTop' g h.top, hmid]; rfl
  obtain ⟨o, s₂, hsteps, -, hend, hq⟩ := Steps.callFree hM p X.admits X.cas X.clock (acts := []) hfr happ hPc trivial
  have hq' : QcD G (rmD d S) Q QX a (U.calling g mk a) o s₂ := hq
  rw [State.frames_setTop' g h.top] at hend
  obtain ⟨g₀, hg0⟩ := Option.isSome_iff_exists.mp h.top
  obtain ⟨r, hr⟩ := State.topJava?_eq_some.mp hg0
  have hr' : (({ U with heap := s₂.heap, slotsUsed := s₂.slotsUsed } : State).setVm s₂.vm).frames = .java g₀ :: r := hr
  rcases hq' with ⟨v, S1, F1, I1, L, mc, ms, rfl, hwv, hqc, hwld, hF, hfe, hL, hz1, hz2⟩ | ⟨q, E, ce, S1, F1, I1, L, mc, ms, rfl, hx, hwld, hF, hce, hcv, hcl, hW₂, hsm, hL, hz1, hz2⟩
  · obtain ⟨-, hW₂, e2, q2, q3, q4, q5, q6⟩ := id hfe
    have e3 : s₂ = ({ (U.calling g mk a).setFrames s₂.frames with heap := s₂.heap, slotsUsed := s₂.slotsUsed } : State).setVm s₂.vm := by
      have : s₂ = ({ s₂ with vm := (U.calling g mk a).vm } : State).setVm s₂.vm := rfl
      rw [e2] at this
      exact this
    obtain ⟨c₂, i₂, len₂, hc₂, hd₂, hf₂⟩ := hend
    have hW' : U.WarmedH s₂.vm := hW₂
    have hcc : c₂ = c := by
      have h1 : s₂.code? g.method = U.code? g.method := by
        rw [State.code?_eq, State.code?_eq, hW'.alike.method?]
      exact Option.some.inj (hc₂.symm.trans (h1.trans h.code))
    subst hcc
    have hlen : len₂ = len := by rw [hdg] at hd₂; cases hd₂; rfl
    subst hlen
    have hs₂ : s₂ = (({ U with heap := s₂.heap, slotsUsed := s₂.slotsUsed } : State).setVm s₂.vm).setTop { g with pc := g.pc + len₂, stack := (v.map tv).toList ++ g.stack } := by
      refine e3.trans ?_
      rw [hf₂, State.calling_eq h.top, State.setFrames_setFrames, State.setTop_of_frames _ hr', hr]
      rfl
    have hsame : U.sameButNew ({ U with heap := s₂.heap, slotsUsed := s₂.slotsUsed } : State) L mc ms := by
      refine ⟨?_, q2, q3, q4, q5, q6⟩
      obtain ⟨t, ht, -⟩ := State.frames_cons hr
      show ({ U with heap := s₂.heap, slotsUsed := s₂.slotsUsed } : State) = { U.setFrames U.frames with heap := s₂.heap, slotsUsed := s₂.slotsUsed }
      rw [State.setFrames_self ht]
    subst hg
    refine Or.inl ⟨v.map tv, ⟨(({ U with heap := s₂.heap, slotsUsed := s₂.slotsUsed } : State).setVm s₂.vm), Ls ++ L, c0 + mc, s0 + ms⟩,
      ⟨X.admits, X.cas, X.clock, X.frames, X.room, X.hears, X.method, X.code, (X.here.setHeapUsed s₂.heap s₂.slotsUsed).setVm hW'.alike, X.tail, State.WarmedH.trans X.warmed hW', X.limits, X.bytes, X.same.trans (hsame.setVm s.vm)⟩,
      ⟨v, S1, F1, I1, s₂, L, mc, ms, rfl, hwv, hqc, hwld, rfl, hF.1, hF.2, rfl, hL, rfl, rfl, hz1, hz2⟩, ?_⟩
    show Steps p.tables e below _ ((({ U with heap := s₂.heap, slotsUsed := s₂.slotsUsed } : State).setVm s₂.vm).setTop { g with pc := g.pc + len₂, stack := (v.map tv).toList ++ g.stack })
    rw [← hs₂]
    exact hsteps
  · obtain ⟨e2, q2, q3, q4, q5, q6⟩ := id hsm
    have e3 : s₂ = ({ (U.calling g mk a).setFrames s₂.frames with heap := s₂.heap, slotsUsed := s₂.slotsUsed } : State).setVm s₂.vm := by
      have : s₂ = ({ s₂ with vm := (U.calling g mk a).vm } : State).setVm s₂.vm := rfl
      rw [e2] at this
      exact this
    have hf₂ : s₂.frames = .throwing q :: .java g :: U.frames.tail := hend
    have hW' : U.WarmedH s₂.vm := hW₂
    have hs₂ : s₂ = ((({ U with heap := s₂.heap, slotsUsed := s₂.slotsUsed } : State).setVm s₂.vm).setTop g).pushFrame (.throwing q) := by
      refine e3.trans ?_
      rw [hf₂, State.calling_eq h.top, State.setFrames_setFrames, State.pushFrame, State.frames_setTop _ hr', State.setTop_of_frames _ hr', State.setFrames_setFrames, hr]
      rfl
    have hsame : U.sameButNew ({ U with heap := s₂.heap, slotsUsed := s₂.slotsUsed } : State) L mc ms := by
      refine ⟨?_, q2, q3, q4, q5, q6⟩
      obtain ⟨t, ht, -⟩ := State.frames_cons hr
      show ({ U with heap := s₂.heap, slotsUsed := s₂.slotsUsed } : State) = { U.setFrames U.frames with heap := s₂.heap, slotsUsed := s₂.slotsUsed }
      rw [State.setFrames_self ht]
    subst hg
    refine Or.inr ⟨q, ⟨(({ U with heap := s₂.heap, slotsUsed := s₂.slotsUsed } : State).setVm s₂.vm), Ls ++ L, c0 + mc, s0 + ms⟩,
      ⟨X.admits, X.cas, X.clock, X.frames, X.room, X.hears, X.method, X.code, (X.here.setHeapUsed s₂.heap s₂.slotsUsed).setVm hW'.alike, X.tail, State.WarmedH.trans X.warmed hW', X.limits, X.bytes, X.same.trans (hsame.setVm s.vm)⟩,
      ⟨E, ce, S1, F1, I1, L, mc, ms, hx, hwld, hF.1, hF.2, hce, hcv, hcl, rfl, hL, rfl, rfl, hz1, hz2⟩, ?_⟩
    show Steps p.tables e below _ (((({ U with heap := s₂.heap, slotsUsed := s₂.slotsUsed } : State).setVm s₂.vm).setTop g).pushFrame (.throwing q))
    rw [← hs₂]
    exact hsteps
end Back9
theorem PcD.blind {G : Gp} {args : List PV} {S : Shp} {F : Fl} {I : Il} : FrameBlind (PcD G args S F I) := by
  intro a U g mk h
  obtain ⟨h1, h2, h3, h4⟩ := h
  refine ⟨h1, h2, h3, ?_⟩
  have hW : U.WarmedH (U.calling g mk a).vm := State.WarmedH.refl U
  exact Env9.go (U := U.calling g mk a) (locs := []) h4 hW va_S.rf
end
section
/-! entry, returns, throws, calls -/
section RulesC
variable {G : Gp} {own : String} {cc : ByteArray} {nL : Nat} {X : Xt} {QQ : State → Prop} {pc : Nat} {L st : List PV} {S : Shp} {F : Fl} {I : Il}
variable {Q : Option PV → Shp → Fl → Il → Prop} {QX : String → Shp → Fl → Il → Prop}
theorem ret_i (C : CO G own cc nL X) {z : Int} {ty : FieldType} (hd : decode cc pc = .ok (.ireturn, 1)) (hr : (xf X).sig.returnType = some ty) (hn : narrow ty (.int (Int32.ofInt z)) = .int (Int32.ofInt z)) (h : Q (some (vi z)) S F I) : J G X (QD X G Q QX) pc L [vi z] S F I := by
  intro H locs ls cells slots hW hS hls hL hst hca hcb
  refine Wmono (Q := MQ (xb X) (fun _ st o t => o = .returned (some (.int (Int32.ofInt z))) ∧ t.heap = H) (xa X) (xs X) cells slots (gAd G)) ?_ (W.zret (v := Int32.ofInt z) C.1 C.2.1 hr hn (fun t ht _ => ⟨rfl, ht⟩) hS.2.2 hd C.2.2.2.2.2.1)
  rintro t ⟨o, h1, h2, ⟨rfl, ht⟩, L9, hfe, hL9⟩
  exact ⟨_, h1, h2, Or.inl ⟨some (vi z), S, F, I, L9, cells, slots, rfl, fun x hx => by cases hx; exact whi hst, h, by rw [ht]; exact hW, hS.F ht, hfe, hL9, hca, hcb⟩⟩
theorem J_iret (C : CO G own cc nL X) {z : Int} (hd : decode cc pc = .ok (.ireturn, 1)) (hr : (xf X).sig.returnType = some .int) (h : Q (some (vi z)) S F I) : J G X (QD X G Q QX) pc L [vi z] S F I := ret_i C hd hr rfl h
theorem J_zret (C : CO G own cc nL X) {z : Int} (hd : decode cc pc = .ok (.ireturn, 1)) (hr : (xf X).sig.returnType = some .boolean) (hz : z = 0 ∨ z = 1) (h : Q (some (vi z)) S F I) : J G X (QD X G Q QX) pc L [vi z] S F I := ret_i C hd hr (nar_bool hz).1 h
theorem J_vret (C : CO G own cc nL X) (hd : decode cc pc = .ok (.return_, 1)) (hr : (xf X).sig.returnType = none) (h : Q none S F I) : J G X (QD X G Q QX) pc L [] S F I := by
  intro H locs ls cells slots hW hS hls hL hst hca hcb
  refine Wmono (Q := MQ (xb X) (fun _ st o t => o = .returned none ∧ t.heap = H) (xa X) (xs X) cells slots (gAd G)) ?_ (W.vret C.1 C.2.1 hr (fun t ht _ => ⟨rfl, ht⟩) hS.2.2 hd C.2.2.2.2.2.1)
  rintro t ⟨o, h1, h2, ⟨rfl, ht⟩, L9, hfe, hL9⟩
  exact ⟨_, h1, h2, Or.inl ⟨none, S, F, I, L9, cells, slots, rfl, (fun x hx => by cases hx), h, by rw [ht]; exact hW, hS.F ht, hfe, hL9, hca, hcb⟩⟩
theorem J_aret (C : CO G own cc nL X) {a : Option Nat} {rt : FieldType} (hd : decode cc pc = .ok (.areturn, 1)) (hr : (xf X).sig.returnType = some rt) (hrt : (∃ n, rt = .object n) ∨ ∃ t, rt = .array t) (h : Q (some (vr a)) S F I) : J G X (QD X G Q QX) pc L [vr a] S F I := by
  intro H locs ls cells slots hW hS hls hL hst hca hcb
  refine Wmono (Q := MQ (xb X) (fun _ st o t => o = .returned (some (va_rf a)) ∧ t.heap = H) (xa X) (xs X) cells slots (gAd G)) ?_ (W.aret (v := va_rf a) C.1 C.2.1 hr hrt (va_rf_or a) (fun t ht _ => ⟨rfl, ht⟩) hS.2.2 hd C.2.2.2.2.2.1)
  rintro t ⟨o, h1, h2, ⟨rfl, ht⟩, L9, hfe, hL9⟩
  exact ⟨_, h1, h2, Or.inl ⟨some (vr a), S, F, I, L9, cells, slots, rfl, fun x hx => by cases hx; trivial, h, by rw [ht]; exact hW, hS.F ht, hfe, hL9, hca, hcb⟩⟩
/-- an exception on its way, thrown or come back at pc -/
def JX (G : Gp) (X : Xt) (QQ : State → Prop) (E : String) (pc : Nat) (L : List PV) (S : Shp) (F : Fl) (I : Il) : Prop :=
  ∀ (H : Heap) (locs : List Loc) (ls : Array Slot) (cells slots : Nat) (q : Addr) (ce : Cell) (rest : List Value), Wld G S F I H → va_S (gAd G) (xs X).heap H locs → lv_has ls L.length (kp 0 L) → (∀ v ∈ L, wfv v) → cells + sa S ≤ (xR X).cells → slots + sb S ≤ (xR X).slots → H[q]? = some ce → ce.vm = .none → (xs X).vm.findClass E = some ce.cls → vx_W (xp X) (xl X) (xe X) (xR X) (xs X) (xm X) (xa X) (xb X) (xf X) (xc X) H locs cells slots QQ (F0 (xm X) pc ls rest) q
theorem JX_out (C : CO G own cc nL X) {E : String} (hout : ∀ x ∈ (xc X).exceptionTable.toList, covers x pc = false) (h : QX E S F I) : JX G X (QD X G Q QX) E pc L S F I := by
  intro H locs ls cells slots q ce rest hW hS hls hL hca hcb hce hcv hcl
  have k := vx_out (p := xp X) (l := xl X) (e := xe X) (R := xR X) (m := xm X) (args := xa X) (below := xb X) (ls := ls) (rest := rest) (Qc := fun _ _ _ _ => False) (XC := fun E9 st t => E9 = E ∧ t.heap = H) (free := gAd G) (mc := cells) (ms := slots) (cells := cells) (slots := slots) hout C.2.2.2.2.2.1 hce hcv hcl (fun t ht _ => ⟨rfl, ht⟩) hS.2.2 (Nat.le_refl _) (Nat.le_refl _)
  intro T hT X9
  obtain ⟨t, h1, o, h2, h3, h4⟩ := k T hT X9
  refine ⟨t, h1, o, h2, h3, ?_⟩
  rcases h4 with ⟨h4, -⟩ | ⟨q9, rfl, E9, ce9, L9, ⟨rfl, ht⟩, g1, g2, g3, g4, g5, g6⟩
  · exact h4.elim
  · exact Or.inr ⟨q9, E9, ce9, S, F, I, L9, cells, slots, rfl, h, by rw [ht]; exact hW, hS.F ht, g1, g2, g3, g4, g5, g6, hca, hcb⟩
/-- new E(text), thrown -/
theorem J_throwS (C : CO G own cc nL X) (hown : own = "Ironbark") {cls text : String} {names : List String} {ik is ic : Nat} (hcls : Bundle.fit cls = true) (hnames : ∀ n ∈ names, Bundle.fit n = true) (hstr : (is, text) ∈ strs)
    (hat : ∀ w ∈ vx_atS own ic cls names, w ∈ lw_tbl ∧ (goodWord w || (isNw w && w.onTables)) = true) (hk : Cond.classLink own ik cls ∈ lw_good) (hini : Cond.initialized cls ∈ lw_good)
    (hgood : ∀ w ∈ Cond.classLink own ik cls :: Cond.initialized cls :: vx_atS own ic cls names, vx_ot w = true) (hlen : L.length = nL)
    (d0 : decode cc pc = .ok (.new ik, 3)) (d3 : decode cc (pc + 3) = .ok (.dup, 1)) (d4 : decode cc (pc + 4) = .ok (.ldc is, 2)) (d6 : decode cc (pc + 6) = .ok (.invokespecial ic, 3)) (d9 : decode cc (pc + 9) = .ok (.athrow, 1))
    (hout : ∀ x ∈ (xc X).exceptionTable.toList, covers x (pc + 9) = false) (hst0 : st = []) (hRf : names.length + 3 < (xR X).frames) (hRl : 13 * (names.length + 1) + 43 ≤ (xR X).locals) (ha : 1 ≤ sa S) (hb : 6 ≤ sb S)
    (h : QX cls (sL S, sK S, sR S, sN S, sG S, sa S - 1, sb S - 6) F I) : J G X (QD X G Q QX) pc L st S F I := by
  subst hst0
  intro H locs ls cells slots hW hS hls hL hst hca hcb
  subst hown
  obtain ⟨sx, hsx⟩ := C.2.2.2.2.1.2.2.2.2.2.2.1 _ hstr
  have k := vx_throwS (p := xp X) (l := xl X) (e := xe X) (R := xR X) (s := xs X) (m := xm X) (args := xa X) (below := xb X) (ls := ls) (rest := []) (H := H) (locs := locs) (cells := cells) (slots := slots) (Qc := fun _ _ _ _ => False) (XC := fun E9 _ t => E9 = cls ∧ H.size ≤ t.heap.size ∧ (∀ q : Nat, q < H.size → t.heap[q]? = H[q]?)) (free := gAd G) (mc := cells + 1) (ms := slots + 6) (A := gAd G) (names := names) C.1 C.2.1 C.2.2.2.2.2.2.2 C.2.2.1 hcls hnames (C.2.2.2.1 _ hk) (C.2.2.2.1 _ hini) hsx (fun w hw => by
      obtain ⟨h8, h9⟩ := hat w hw
      rw [Bool.or_eq_true] at h9
      rcases h9 with h9 | h9
      · exact C.2.2.2.1 _ (List.mem_filter.mpr ⟨h8, h9⟩)
      · rw [Bool.and_eq_true] at h9
        exact va_Nw.use h9.2 (C.2.2.2.2.1.2.1 _ h8 h9.1)) hgood C.2.2.2.2.1.2.2.1.1 C.2.2.2.2.1.2.2.1.2 hS (by rw [hls.1, hlen]; exact C.2.2.2.2.2.2.1.symm) d0 d3 d4 d6 d9 hout hRf (by simpa using hRl) (by omega) (by omega) C.2.2.2.2.2.1 (fun t _ h1 h2 => ⟨rfl, h1, h2⟩) hS.2.2 (Nat.le_refl _) (Nat.le_refl _)
  refine Wmono ?_ k
  rintro t ⟨o, h1, h2, h4⟩
  refine ⟨o, h1, h2, ?_⟩
  rcases h4 with ⟨h4, -⟩ | ⟨q9, rfl, E9, ce9, L9, ⟨rfl, hz, hh⟩, g1, g2, g3, g4, g5, g6⟩
  · exact h4.elim
  · have hW2 : Wld G S F I t.heap := by
      obtain ⟨w1, w2, w3, w4, w5⟩ := hW
      exact ⟨w1.kept fun k q hk => hh _ (w1 k q hk).lt, w2, w3, w4, w5⟩
    have hF : va_F (gAd G) (xs X) t := ⟨Nat.le_trans hS.1 hz, fun q hq hA => by rw [hh q (Nat.lt_of_lt_of_le hq hS.1)]; exact hS.2.1 q hq hA⟩
    exact Or.inr ⟨q9, E9, ce9, (sL S, sK S, sR S, sN S, sG S, sa S - 1, sb S - 6), F, I, L9, cells + 1, slots + 6, rfl, h, hW2, hF, g1, g2, g3, g4, g5, g6, by show cells + 1 + (sa S - 1) ≤ _; omega, by show slots + 6 + (sb S - 6) ≤ _; omega⟩
end RulesC
/-! entry -/
theorem kp_args : ∀ (args : List PV) (i n : Nat), (∀ v ∈ args, knw v) → ∀ q ∈ kp i (args ++ List.replicate n (vl 0)), q ∈ lv_args i (args.map tv)
  | [], i, 0, _, q, hq => by cases hq
  | [], i, n + 1, h, q, hq => by
    rw [List.nil_append, List.replicate_succ] at hq
    exact kp_args [] (i + 1) n h q hq
  | v :: args, i, n, h, q, hq => by
    obtain ⟨h1, h2⟩ := List.forall_mem_cons.mp h
    rw [List.cons_append, kp_cons h1] at hq
    show q ∈ (i, tv v) :: lv_args (if (tv v).category = 2 then i + 2 else i + 1) (args.map tv)
    rw [knw_cat h1]
    rcases List.mem_cons.mp hq with hq | hq
    · rw [hq]; exact List.mem_cons_self
    · exact List.mem_cons_of_mem _ (kp_args args (i + 1) n h2 q hq)
theorem lg_len : ∀ (args : List PV), (∀ v ∈ args, knw v) → (lg_sl (args.map tv)).length = args.length
  | [], _ => rfl
  | v :: args, h => by
    obtain ⟨h1, h2⟩ := List.forall_mem_cons.mp h
    have ih := lg_len args h2
    unfold lg_sl at ih ⊢
    rw [List.map_cons, List.flatMap_cons, List.length_append, ih, knw_cat h1]
    simp
    omega
/-- a method without handlers, by its body -/
theorem CM_of {l : Launch} {G : Gp} {d : Nat} {y : MethodName} {cc : ByteArray} {nL : Nat} {ret : Option FieldType} {args : List PV} {S : Shp} {F : Fl} {I : Il} {Q : Option PV → Shp → Fl → Il → Prop} {QX : String → Shp → Fl → Il → Prop}
    (hl : l.stackTraces = false) (hy : plainName y.cls = true) (hk : ∀ v ∈ args, knw v) (hn : args.length ≤ nL)
    (body : ∀ X : Xt, xl X = l → CO G y.cls cc nL X → xR X = rmD d S → (xf X).sig.returnType = ret → (xf X).name = y.name → (∀ x ∈ (xc X).exceptionTable.toList, False) → J G X (QD X G Q QX) 0 (args ++ List.replicate (nL - args.length) (vl 0)) [] S F I) : CM l G d y (.code y cc nL ret) args S F I Q QX := by
  refine MetFree.of_bodyS (code := cc) (maxLocals := nL) (ret := ret) hy ?_ ?_
  · intro args s m h hn
    obtain ⟨meth, c, h1, h2, h3, h4, h5, h6, -, -⟩ := Cond.code_spec hn (atoms_spec (ws := Cond.code y cc nL ret :: lw_good) h _ List.mem_cons_self)
    exact ⟨meth, c, h1, h2, h3, h4, h5, h6⟩
  · intro p e s m args' below meth c s₁ B hml hP _
    obtain ⟨rfl, hwa, hW, hE⟩ := hP
    have hh0 : s₁.heap = s.heap := by rw [B.state]; rfl
    have ht : ∀ x ∈ c.exceptionTable.toList, False := by
      obtain ⟨meth9, c9, h1, h2, -, -, -, -, h7, -⟩ := Cond.code_spec B.named (atoms_spec (ws := Cond.code y cc nL ret :: lw_good) B.pre _ List.mem_cons_self)
      cases Option.some.inj (h1.symm.trans B.method)
      cases Option.some.inj (h2.symm.trans (Stand.of_body B).code)
      intro x hx
      rw [Array.isEmpty_iff.mp h7] at hx
      cases hx
    have hts := atoms_spec (ws := Cond.code y cc nL ret :: lw_good) B.pre
    have b := body (p, l, e, rmD d S, s, m, (args.map tv).toArray, below, meth, c) rfl ⟨B.exec, B.bytes, findClass_of_methodNamed B.named, fun w hw => hts w (List.mem_cons_of_mem _ hw), hE, B.notSynchronized, hml, hl⟩ rfl B.returns (name_of_methodNamed B.named B.method).1 ht
    have hlv := lv_entry (args.map tv) (n := nL) (by rw [lg_len args hk]; exact hn)
    have hlen : (args ++ List.replicate (nL - args.length) (vl 0)).length = nL := by rw [List.length_append, List.length_replicate]; omega
    have b2 := b s.heap [] _ 0 0 hW va_S.rf (by rw [hlen]; exact lv_less hlv (kp_args args 0 _ hk)) (fun v hv => by
      rcases List.mem_append.mp hv with hv | hv
      · exact hwa v hv
      · rw [List.eq_of_mem_replicate hv]; exact rg0) (fun v hv => by cases hv) (Nat.le_of_eq (Nat.zero_add _)) (Nat.le_of_eq (Nat.zero_add _))
    obtain ⟨t, a1, o, b1, b2, b3⟩ := b2 s₁ hh0 (Stand.of_body B)
    refine ⟨t, o, ?_, b1, b2, b3⟩
    rw [lg_entry_eq]
    exact a1
end
section
/-! calls -/
/-- a method without handlers: its code, its class is initialised, how many parameters -/
def MI (y : MethodName) (bytes : ByteArray) (maxL : Nat) (ret : Option FieldType) (n : Nat) : Prop := Cond.code y bytes maxL ret ∈ lw_good ∧ Cond.initialized y.cls ∈ lw_good ∧ (y.cls ≠ "java/lang/invoke/MethodHandle" ∧ y.cls ≠ "java/lang/invoke/VarHandle") ∧ (parseMethodDescriptor y.desc).map (fun d => d.parameters.length) = some n
theorem good_warm {w : Cond} (h : w ∈ lw_good) {args : Array Value} {s : State} (hts : ∀ w ∈ lw_good, w.before args s = true) : ∀ (a' : Array Value) (U : State), s.WarmedH U.vm → w.before a' U = true := fun a' U hW => word_at hW (good_of_word (List.mem_filter.mp h).2) (hts w h)
theorem params_len {y : MethodName} {n : Nat} (h : (parseMethodDescriptor y.desc).map (fun d => d.parameters.length) = some n) {k : Nat} (hk : k = n) : ∀ sig, parseMethodDescriptor y.desc = some sig → k = sig.parameters.length := fun sig hs => by
  rw [hs] at h
  exact hk.trans (Option.some.inj h).symm
section RulesD
variable {G : Gp} {own : String} {cc : ByteArray} {nL : Nat} {X : Xt} {QQ : State → Prop} {pc : Nat} {L : List PV} {S : Shp} {F : Fl} {I : Il}
variable {Q : Option PV → Shp → Fl → Il → Prop} {QX : String → Shp → Fl → Il → Prop}
/-- behind a call that came back: both ways on -/
theorem call_back (C : CO G own cc nL X) {d : Nat} {a : Array Value} {H : Heap} {locs : List Loc} {ls : Array Slot} {cells slots : Nat} {T : State} {vm₁ : Vm} {rest : List PV} {g : JFrame} {tgt0 : State}
    (hT : T.heap = H) (hW1 : (xs X).WarmedH vm₁) (hS : va_S (gAd G) (xs X).heap H locs) (hls : lv_has ls L.length (kp 0 L)) (hL : ∀ v ∈ L, wfv v) (hst : ∀ v ∈ rest, wfv v) (hca : cells + sa S ≤ (xR X).cells) (hcb : slots + sb S ≤ (xR X).slots) (hg : g = F0 (xm X) pc ls (rest.map tv))
    (kr : ∀ v S' F' I', Q v S' F' I' → J G X QQ (pc + 3) L (v.toList ++ rest) S' F' I') (kx : ∀ E S' F' I', QX E S' F' I' → JX G X QQ E pc L S' F' I')
    (h : (∃ (v : Option Value) (B : Pt), Stand (xp X) (xl X) (xe X) (xR X) (xs X) (xm X) (xa X) (xb X) (xf X) (xc X) B.U B.locs B.cells B.slots ∧ PostD G (rmD d S) Q ⟨T.setVm vm₁, locs, cells, slots⟩ a v B ∧ ∀ target, Steps (xp X).tables (xe X) (xb X) (B.U.setTop { g with pc := g.pc + 3, stack := v.toList ++ rest.map tv }) target → Steps (xp X).tables (xe X) (xb X) tgt0 target) ∨
      (∃ (q : Addr) (B : Pt), Stand (xp X) (xl X) (xe X) (xR X) (xs X) (xm X) (xa X) (xb X) (xf X) (xc X) B.U B.locs B.cells B.slots ∧ PostXD G (rmD d S) QX ⟨T.setVm vm₁, locs, cells, slots⟩ a q B ∧ Steps (xp X).tables (xe X) (xb X) tgt0 ((B.U.setTop { g with stack := rest.map tv }).pushFrame (.throwing q)))) :
    ∃ t, Steps (xp X).tables (xe X) (xb X) tgt0 t ∧ QQ t := by
  subst hg
  subst hT
  have hS2 : ∀ {H1 : Heap} {L9 : List Loc}, T.heap.size ≤ H1.size → (∀ q : Nat, q < T.heap.size → ¬ gB G ≤ q → H1[q]? = T.heap[q]?) → (∀ q ∈ L9, gB G ≤ q.base) → va_S (gAd G) (xs X).heap H1 (locs ++ L9) := fun h1 h2 h3 =>
    ⟨Nat.le_trans hS.1 h1, fun q hq hA => by rw [h2 q (Nat.lt_of_lt_of_le hq hS.1) hA]; exact hS.2.1 q hq hA, fun q hq => (List.mem_append.mp hq).elim (fun h => hS.2.2 q h) (fun h => h3 q h)⟩
  rcases h with ⟨v, ⟨U, l9, c9, s9⟩, X', ⟨w, S1, F1, I1, t, L9, k, n, rfl, hww, hq, hwld, -, hz, hk, h1, h2, h3, h4, h5, h6⟩, st⟩ | ⟨q, ⟨U, l9, c9, s9⟩, X', ⟨E, ce, S1, F1, I1, L9, k, n, hq, hwld, hz, hk, hce, hcv, hcl, h1, h2, h3, h4, h5, h6⟩, st⟩
  · dsimp only [Pt.U, Pt.locs, Pt.cells, Pt.slots] at X' hwld hz hk h1 h3 h4 st
    subst h1; subst h3; subst h4
    dsimp only [rmD] at h5 h6
    have e : (w.map tv).toList ++ rest.map tv = (w.toList ++ rest).map tv := by cases w <;> rfl
    rw [e] at st
    obtain ⟨t2, a1, b1⟩ := kr w S1 F1 I1 hq U.heap _ ls (cells + k) (slots + n) hwld (hS2 hz hk h2) hls hL (fun v hv => (List.mem_append.mp hv).elim (fun h => by cases w with
      | none => cases h
      | some x => rw [List.mem_singleton.mp h]; exact hww x rfl) (fun h => hst v h)) (by omega) (by omega) U rfl X'
    exact ⟨t2, st t2 a1, b1⟩
  · dsimp only [Pt.U, Pt.locs, Pt.cells, Pt.slots] at X' hwld hz hk h1 h3 h4 st hce hcl
    subst h1; subst h3; subst h4
    dsimp only [rmD] at h5 h6
    have hcl9 : (xs X).vm.findClass E = some ce.cls := by
      rw [← hW1.alike.findClass]
      exact hcl
    obtain ⟨t2, a1, b1⟩ := kx E S1 F1 I1 hq U.heap _ ls (cells + k) (slots + n) q ce (rest.map tv) hwld (hS2 hz hk h2) hls hL (by omega) (by omega) hce hcv hcl9 U rfl X'
    exact ⟨t2, st.trans a1, b1⟩
theorem cat_le (rest : List PV) (h : (rest.map fun v => (tv v).category).sum ≤ 8) : ((rest.map tv).map fun v => v.category).sum ≤ 8 := by
  rw [List.map_map]
  exact h
theorem Pc_at (C : CO G own cc nL X) {as : List PV} {H : Heap} {locs : List Loc} {T : State} {vm₁ : Vm} (hT : T.heap = H) (hW : Wld G S F I H) (hS : va_S (gAd G) (xs X).heap H locs) (hw : ∀ v ∈ as, wfv v) (hW1 : (xs X).WarmedH vm₁) : PcD G as S F I (as.map tv).toArray (T.setVm vm₁) := by
  subst hT
  exact ⟨rfl, hw, hW, Env9.go (U := T.setVm vm₁) C.2.2.2.2.1 hW1 hS⟩
theorem J_callV (C : CO G own cc nL X) {d index ci N n maxL b : Nat} {Cn : String} {T9 : u_T} {y : MethodName} {bytes : ByteArray} {ret : Option FieldType} {as rest : List PV} (hI : MI y bytes maxL ret n) (hlink : Cond.methodLink own index y ∈ lw_good) (hinst : Cond.instanceMethod y ∈ lw_good) (hsel : Cond.selects Cn y y ∈ lw_good) (hc : vwCl[ci]? = some (Cn, T9, N)) (hci : ci < 20) (hd : decode cc pc = .ok (.invokevirtual index, 3)) (hK : sK S b = ci) (hn : as.length = n) (hlen : L.length = nL) (hf : d + 1 ≤ (xR X).frames) (hlo : 19 + maxL + 38 * d ≤ (xR X).locals) (hcat : (rest.map fun v => (tv v).category).sum ≤ 8)
    (hM : CM (xl X) G d y (.code y bytes maxL ret) (vr (some b) :: as) S F I Q QX) (kr : ∀ v S' F' I', Q v S' F' I' → J G X QQ (pc + 3) L (v.toList ++ rest) S' F' I') (kx : ∀ E S' F' I', QX E S' F' I' → JX G X QQ E pc L S' F' I') : J G X QQ pc L (as.reverse ++ vr (some b) :: rest) S F I := by
  intro H locs ls cells slots hW hS hls hL hst hca hcb T hT X9
  have hts := C.2.2.2.1
  obtain ⟨q0, hq0⟩ := hW.at (q := b) (by rw [hK]; omega)
  rw [cont_o hK hci] at hq0
  obtain ⟨cell, g1, g2, g3⟩ := va_recv C.2.2.2.2.1.1 hW.1 hc hq0
  have hstr : ∀ v ∈ rest, wfv v := fun v hv => hst v (List.mem_append_right _ (List.mem_cons_of_mem _ hv))
  have hsta : ∀ v ∈ vr (some b) :: as, wfv v := List.forall_mem_cons.mpr ⟨trivial, fun v hv => hst v (List.mem_append_left _ (List.mem_reverse.mpr hv))⟩
  have hK9 := md_back (R := xR X) (p := xp X) (e := xe X) (below := xb X) (s := xs X) (sargs := xa X) (len := 3) (W9 := 8) hM hf (by omega) (CodeW.code y bytes maxL ret) (List.forall_mem_cons.mpr ⟨good_warm hI.1 hts, fun w hw => good_warm hw hts⟩) (good_warm hI.2.1 hts) PcD.blind
  have hcall := vx_callV X9 C.1 (own := own) (C := Cn) (index := index) (y := y) (bytes := bytes) (maxL := maxL) (ret := ret) C.2.2.1 (hts _ hlink) (hts _ hinst) (hts _ hsel) (hts _ hI.1) hI.2.2.1 hK9 (b := b) (cellB := cell) (by rw [hT]; exact g1) g2 g3 (g := F0 (xm X) pc ls ((as.reverse ++ vr (some b) :: rest).map tv)) rfl (by rw [C.2.2.2.2.2.2.1, ← hlen]; exact hls.1) (argsL := as.map tv) (rest := rest.map tv) (params_len hI.2.2.2 (by rw [List.length_map]; exact hn)) (by rw [List.map_append, List.map_reverse]; rfl) (by simpa using cat_le rest hcat) (by rw [C.2.1]; exact hd)
    (fun vm₁ hW1 => ⟨hca, hcb, Pc_at (as := vr (some b) :: as) C hT hW hS hsta hW1⟩)
  rcases hcall with ⟨v, vm₁, B, hW1, X', hp, st⟩ | ⟨q, vm₁, B, hW1, X', hp, st⟩
  · exact call_back C (rest := rest) (pc := pc) (g := F0 (xm X) pc ls (rest.map tv)) hT hW1 hS hls hL hstr hca hcb rfl kr kx (Or.inl ⟨v, B, X', hp, st⟩)
  · exact call_back C (rest := rest) (pc := pc) (g := F0 (xm X) pc ls (rest.map tv)) hT hW1 hS hls hL hstr hca hcb rfl kr kx (Or.inr ⟨q, B, X', hp, st⟩)
theorem J_callS (C : CO G own cc nL X) {d index n maxL : Nat} {y : MethodName} {bytes : ByteArray} {ret : Option FieldType} {as rest : List PV} (hI : MI y bytes maxL ret n) (hlink : Cond.methodLink own index y ∈ lw_good) (hstat : Cond.static y ∈ lw_good) (hd : decode cc pc = .ok (.invokestatic index, 3)) (hn : as.length = n) (hlen : L.length = nL) (hf : d + 1 ≤ (xR X).frames) (hlo : 19 + maxL + 38 * d ≤ (xR X).locals) (hcat : (rest.map fun v => (tv v).category).sum ≤ 8)
    (hM : CM (xl X) G d y (.code y bytes maxL ret) as S F I Q QX) (kr : ∀ v S' F' I', Q v S' F' I' → J G X QQ (pc + 3) L (v.toList ++ rest) S' F' I') (kx : ∀ E S' F' I', QX E S' F' I' → JX G X QQ E pc L S' F' I') : J G X QQ pc L (as.reverse ++ rest) S F I := by
  intro H locs ls cells slots hW hS hls hL hst hca hcb T hT X9
  have hts := C.2.2.2.1
  have hstr : ∀ v ∈ rest, wfv v := fun v hv => hst v (List.mem_append_right _ hv)
  have hsta : ∀ v ∈ as, wfv v := fun v hv => hst v (List.mem_append_left _ (List.mem_reverse.mpr hv))
  have hK9 := md_back (R := xR X) (p := xp X) (e := xe X) (below := xb X) (s := xs X) (sargs := xa X) (len := 3) (W9 := 8) hM hf (by omega) (CodeW.code y bytes maxL ret) (List.forall_mem_cons.mpr ⟨good_warm hI.1 hts, fun w hw => good_warm hw hts⟩) (good_warm hI.2.1 hts) PcD.blind
  have hcall := vx_callS X9 C.1 (own := own) (index := index) (y := y) (bytes := bytes) (maxL := maxL) (ret := ret) C.2.2.1 (hts _ hlink) (hts _ hstat) (hts _ hI.2.1) (hts _ hI.1) hI.2.2.1 hK9 (g := F0 (xm X) pc ls ((as.reverse ++ rest).map tv)) rfl (by rw [C.2.2.2.2.2.2.1, ← hlen]; exact hls.1) (argsL := as.map tv) (rest := rest.map tv) (params_len hI.2.2.2 (by rw [List.length_map]; exact hn)) (by rw [List.map_append, List.map_reverse]) (by simpa using cat_le rest hcat) (by rw [C.2.1]; exact hd)
    (fun vm₁ hW1 => ⟨hca, hcb, Pc_at (as := as) C hT hW hS hsta hW1⟩)
  rcases hcall with ⟨v, vm₁, B, hW1, X', hp, st⟩ | ⟨q, vm₁, B, hW1, X', hp, st⟩
  · exact call_back C (rest := rest) (pc := pc) (g := F0 (xm X) pc ls (rest.map tv)) hT hW1 hS hls hL hstr hca hcb rfl kr kx (Or.inl ⟨v, B, X', hp, st⟩)
  · exact call_back C (rest := rest) (pc := pc) (g := F0 (xm X) pc ls (rest.map tv)) hT hW1 hS hls hL hstr hca hcb rfl kr kx (Or.inr ⟨q, B, X', hp, st⟩)
end RulesD
end
section
/-! new things; constructors; casts -/
section RulesE
variable {G : Gp} {own : String} {cc : ByteArray} {nL : Nat} {X : Xt} {QQ : State → Prop} {pc : Nat} {L st : List PV} {S : Shp} {F : Fl} {I : Il}
variable {Q : Option PV → Shp → Fl → Il → Prop} {QX : String → Shp → Fl → Il → Prop}
theorem J_objInit (C : CO G own cc nL X) {index : Nat} {o : Nat} (hlink : Cond.methodLink own index objectInit ∈ lw_good) (hinst : Cond.instanceMethod objectInit ∈ lw_good) (hcode : Cond.code objectInit ⟨#[0xb1]⟩ 1 none ∈ lw_good) (hlen : L.length = nL) (hd : decode cc pc = .ok (.invokespecial index, 3)) (hf : 1 ≤ (xR X).frames) (hlo : 20 ≤ (xR X).locals) (hcat : (st.map fun v => (tv v).category).sum ≤ 8) (h : J G X QQ (pc + 3) L st S F I) : J G X QQ pc L (vr (some o) :: st) S F I := by
  intro H locs ls cells slots hW hS hls hL hst hca hcb
  refine W.objInit C.1 C.2.1 C.2.2.1 (C.2.2.2.1 _ hlink) (C.2.2.2.1 _ hinst) (C.2.2.2.1 _ hcode) rfl (by rw [C.2.2.2.2.2.2.1, ← hlen]; exact hls.1) (rest := st.map tv) rfl hd hf ?_ (h H locs ls cells slots hW hS hls hL (wt hst) hca hcb)
  have := cat_le st hcat
  simp only [JFrame.monitorRoom] at *
  simp
  simp at this
  omega
theorem J_callI (C : CO G own cc nL X) {d index n maxL b : Nat} {y : MethodName} {bytes : ByteArray} {as rest : List PV} (hI : MI y bytes maxL none n) (hy1 : y.name = "<init>") (hlink : Cond.methodLink own index y ∈ lw_good) (hinst : Cond.instanceMethod y ∈ lw_good) (hd : decode cc pc = .ok (.invokespecial index, 3)) (hn : as.length = n) (hlen : L.length = nL) (hf : d + 1 ≤ (xR X).frames) (hlo : 19 + maxL + 38 * d ≤ (xR X).locals) (hcat : (rest.map fun v => (tv v).category).sum ≤ 8)
    (hM : CM (xl X) G d y (.code y bytes maxL none) (vr (some b) :: as) S F I Q QX) (kr : ∀ v S' F' I', Q v S' F' I' → J G X QQ (pc + 3) L (v.toList ++ rest) S' F' I') (kx : ∀ E S' F' I', QX E S' F' I' → JX G X QQ E pc L S' F' I') : J G X QQ pc L (as.reverse ++ vr (some b) :: rest) S F I := by
  intro H locs ls cells slots hW hS hls hL hst hca hcb T hT X9
  have hts := C.2.2.2.1
  have hstr : ∀ v ∈ rest, wfv v := fun v hv => hst v (List.mem_append_right _ (List.mem_cons_of_mem _ hv))
  have hsta : ∀ v ∈ vr (some b) :: as, wfv v := List.forall_mem_cons.mpr ⟨trivial, fun v hv => hst v (List.mem_append_left _ (List.mem_reverse.mpr hv))⟩
  have hK9 := md_back (R := xR X) (p := xp X) (e := xe X) (below := xb X) (s := xs X) (sargs := xa X) (len := 3) (W9 := 8) hM hf (by omega) (CodeW.code y bytes maxL none) (List.forall_mem_cons.mpr ⟨good_warm hI.1 hts, fun w hw => good_warm hw hts⟩) (good_warm hI.2.1 hts) PcD.blind
  have hcall := vx_callI X9 C.1 (own := own) (index := index) (y := y) (bytes := bytes) (maxL := maxL) C.2.2.1 hy1 (hts _ hlink) (hts _ hinst) (hts _ hI.1) hI.2.2.1 hK9 (a := b) (g := F0 (xm X) pc ls ((as.reverse ++ vr (some b) :: rest).map tv)) rfl (by rw [C.2.2.2.2.2.2.1, ← hlen]; exact hls.1) (argsL := as.map tv) (rest := rest.map tv) (params_len hI.2.2.2 (by rw [List.length_map]; exact hn)) (by rw [List.map_append, List.map_reverse]; rfl) (by simpa using cat_le rest hcat) (by rw [C.2.1]; exact hd)
    (fun vm₁ hW1 => ⟨hca, hcb, Pc_at (as := vr (some b) :: as) C hT hW hS hsta hW1⟩)
  rcases hcall with ⟨v, vm₁, B, hW1, X', hp, st⟩ | ⟨q, vm₁, B, hW1, X', hp, st⟩
  · exact call_back C (rest := rest) (pc := pc) (g := F0 (xm X) pc ls (rest.map tv)) hT hW1 hS hls hL hstr hca hcb rfl kr kx (Or.inl ⟨v, B, X', hp, st⟩)
  · exact call_back C (rest := rest) (pc := pc) (g := F0 (xm X) pc ls (rest.map tv)) hT hW1 hS hls hL hstr hca hcb rfl kr kx (Or.inr ⟨q, B, X', hp, st⟩)
theorem J_callIN (C : CO G own cc nL X) {d index n maxL b : Nat} {y : MethodName} {host : String} {bytes : ByteArray} {as rest : List PV} (hI : MI y bytes maxL none n) (hy1 : y.name = "<init>") (hlink : Cond.methodLinkNest own index y host ∈ lw_tbl) (hinst : Cond.instanceMethod y ∈ lw_good) (hd : decode cc pc = .ok (.invokespecial index, 3)) (hn : as.length = n) (hlen : L.length = nL) (hf : d + 1 ≤ (xR X).frames) (hlo : 19 + maxL + 38 * d ≤ (xR X).locals) (hcat : (rest.map fun v => (tv v).category).sum ≤ 8)
    (hM : CM (xl X) G d y (.code y bytes maxL none) (vr (some b) :: as) S F I Q QX) (kr : ∀ v S' F' I', Q v S' F' I' → J G X QQ (pc + 3) L (v.toList ++ rest) S' F' I') (kx : ∀ E S' F' I', QX E S' F' I' → JX G X QQ E pc L S' F' I') : J G X QQ pc L (as.reverse ++ vr (some b) :: rest) S F I := by
  intro H locs ls cells slots hW hS hls hL hst hca hcb T hT X9
  have hts := C.2.2.2.1
  have hstr : ∀ v ∈ rest, wfv v := fun v hv => hst v (List.mem_append_right _ (List.mem_cons_of_mem _ hv))
  have hsta : ∀ v ∈ vr (some b) :: as, wfv v := List.forall_mem_cons.mpr ⟨trivial, fun v hv => hst v (List.mem_append_left _ (List.mem_reverse.mpr hv))⟩
  have hK9 := md_back (R := xR X) (p := xp X) (e := xe X) (below := xb X) (s := xs X) (sargs := xa X) (len := 3) (W9 := 8) hM hf (by omega) (CodeW.code y bytes maxL none) (List.forall_mem_cons.mpr ⟨good_warm hI.1 hts, fun w hw => good_warm hw hts⟩) (good_warm hI.2.1 hts) PcD.blind
  have hcall := vx_callIN X9 C.1 (own := own) (index := index) (host := host) (y := y) (bytes := bytes) (maxL := maxL) C.2.2.1 hy1 (va_Nw.use rfl (C.2.2.2.2.1.2.1 _ hlink rfl)) (hts _ hinst) (hts _ hI.1) hI.2.2.1 hK9 (a := b) (g := F0 (xm X) pc ls ((as.reverse ++ vr (some b) :: rest).map tv)) rfl (by rw [C.2.2.2.2.2.2.1, ← hlen]; exact hls.1) (argsL := as.map tv) (rest := rest.map tv) (params_len hI.2.2.2 (by rw [List.length_map]; exact hn)) (by rw [List.map_append, List.map_reverse]; rfl) (by simpa using cat_le rest hcat) (by rw [C.2.1]; exact hd)
    (fun vm₁ hW1 => ⟨hca, hcb, Pc_at (as := vr (some b) :: as) C hT hW hS hsta hW1⟩)
  rcases hcall with ⟨v, vm₁, B, hW1, X', hp, st⟩ | ⟨q, vm₁, B, hW1, X', hp, st⟩
  · exact call_back C (rest := rest) (pc := pc) (g := F0 (xm X) pc ls (rest.map tv)) hT hW1 hS hls hL hstr hca hcb rfl kr kx (Or.inl ⟨v, B, X', hp, st⟩)
  · exact call_back C (rest := rest) (pc := pc) (g := F0 (xm X) pc ls (rest.map tv)) hT hW1 hS hls hL hstr hca hcb rfl kr kx (Or.inr ⟨q, B, X', hp, st⟩)
theorem rg_zF {F : Fl} {q : Nat} (h : ∀ k b, rg (F k b)) (k b : Nat) : rg (zF F q k b) := by
  unfold zF
  by_cases hb : b = q
  · rw [if_pos hb]; exact rg0
  · rw [if_neg hb]; exact h k b
theorem rg_zI {I : Il} {q : Nat} (h : ∀ b j, rg (I b j)) (b : Nat) (j : Int) : rg (zI I q b j) := by
  unfold zI
  by_cases hb : b = q
  · rw [if_pos hb]; exact rg0
  · rw [if_neg hb]; exact h b j
/-- a world behind a new thing -/
theorem Wld.push {H H1 : Heap} {S' : Shp} {F' : Fl} {I' : Il} {q : Nat} {e : va_E} (h : Wld G S F I H) (hL : sL S' = sL S ++ [q]) (hK : ∀ b, sK S' b ≠ 99 → b = q ∨ sK S b ≠ 99) (h1 : cont G S' F' I' q = e) (h2 : ∀ b, b ≠ q → cont G S' F' I' b = cont G S F I b) (hF : ∀ k q, rg (F' k q)) (hI : ∀ q j, rg (I' q j))
    (hP : va_P (gD G) vwCl (pw G S F I ++ [(q, e)]) H1) (hD : va_D (gAd G) (pw G S F I ++ [(q, e)])) : Wld G S' F' I' H1 ∧ q ∉ sL S := by
  have hnot : q ∉ sL S := fun hq => by
    obtain ⟨k, hk⟩ := va_pl_get (X := []) (f := cont G S F I) hq
    have hk' : (pw G S F I)[k]? = some (q, cont G S F I q) := hk
    have hl := (List.getElem?_eq_some_iff.mp hk').1
    have e2 : (pw G S F I ++ [(q, e)])[(pw G S F I).length]? = some (q, e) := by simp
    have e1 : (pw G S F I ++ [(q, e)])[k]? = some (q, cont G S F I q) := by rw [List.getElem?_append_left hl]; exact hk'
    have := hD.1 k (pw G S F I).length _ _ e1 e2 rfl
    omega
  have e3 : pw G S F I ++ [(q, e)] = pw G S' F' I' := by
    show va_pl (sL S) (cont G S F I) ++ [(q, e)] = va_pl (sL S') (cont G S' F' I')
    rw [va_pl_push hnot, hL]
    refine va_pl_congr fun b => ?_
    by_cases hb : b = q
    · subst hb
      rw [va_up_self, h1]
    · rw [va_up_ne _ _ hb, h2 b hb]
  rw [e3] at hP hD
  refine ⟨⟨hP, hD, fun b hb => ?_, hF, hI⟩, hnot⟩
  rw [hL]
  rcases hK b hb with rfl | hb
  · exact List.mem_append_right _ (List.mem_singleton.mpr rfl)
  · exact List.mem_append_left _ (h.2.2.1 b hb)
theorem not_live {H : Heap} (h : Wld G S F I H) {q : Nat} (hq : q ∉ sL S) : sK S q = 99 := Classical.byContradiction fun n => hq (h.2.2.1 q n)
theorem fvv_new (c k q ci : Nat) : fvv c (newO S q ci) (zF F q) q k = if refT (clT c k) = true then .null else .int 0 := by
  show (if refT (clT c k) = true then va_rf (if q = q then none else sR S (100 * c + k) q) else .int (Int32.ofInt (if q = q then 0 else F (100 * c + k) q))) = _
  rw [if_pos rfl, if_pos rfl]
  rfl
theorem J_new (C : CO G own cc nL X) {ci index N : Nat} {Cn : String} {T : u_T} (hf : vwCl[ci]? = some (Cn, T, N) ∧ clN ci = N ∧ ci < 20 ∧ (∀ w ∈ u_ws Cn T N, w ∈ lw_good)) (hp : ∀ k, k < N → parseFieldDescriptor (T k).2.2.1 = some (clT ci k)) (hdef : ∀ k, k < N → defaultValue (clT ci k) = if refT (clT ci k) = true then .null else .int 0) (hlink : Cond.classLink own index Cn ∈ lw_good) (hins : Cond.instantiable Cn N ∈ lw_good) (hini : Cond.initialized Cn ∈ lw_good) (hd : decode cc pc = .ok (.new index, 3)) (ha : 1 ≤ sa S) (hb : N ≤ sb S)
    (h : ∀ q : Nat, sK S q = 99 → J G X QQ (pc + 3) L (vr (some q) :: st) (newO S q ci) (zF F q) I) : J G X QQ pc L st S F I := by
  intro H locs ls cells slots hW hS hls hL hst hca hcb
  obtain ⟨f1, f2, f3, f4⟩ := hf
  have hts := C.2.2.2.1
  refine va_new (fs := fvs ci (newO S 0 ci) (zF F 0) 0) C.1 C.2.1 hts f4 (clT ci) hp C.2.2.1 (hts _ hlink) (hts _ hins) (hts _ hini) C.2.2.2.2.1.1 hW.1 hW.2.1 hS (fun q hq => Nat.le_trans C.2.2.2.2.1.2.2.2.1 hq) f1 (fun j hj => ?_) (by omega) (by omega) hd fun q H1 hP hD hS1 => ?_
  · show _ = (fvs ci (newO S 0 ci) (zF F 0) 0).getD j .null
    rw [List.getD_eq_getElem?_getD, fvs_get (by rw [f2]; exact hj), hdef j hj, fvv_new]
    rfl
  · have e0 : fvs ci (newO S 0 ci) (zF F 0) 0 = fvs ci (newO S q ci) (zF F q) q := by
      unfold fvs
      congr 1
      funext k
      rw [fvv_new, fvv_new]
    rw [e0] at hP hD
    obtain ⟨hW1, hq⟩ := hW.push (S' := newO S q ci) (F' := zF F q) (I' := I) rfl (fun b hb => by
        by_cases hbq : b = q
        · exact Or.inl hbq
        · refine Or.inr ?_
          rwa [show sK (newO S q ci) b = sK S b from va_up_ne _ _ hbq] at hb) (cont_o (show sK (newO S q ci) q = ci from va_up_self _ _ _) f3) (fun b hb => cont_congr (va_up_ne _ _ hb) rfl (fun c j => by
          show (if refT (clT c j) = true then va_rf (if b = q then none else sR S (100 * c + j) b) else .int (Int32.ofInt (if b = q then 0 else F (100 * c + j) b))) = _
          rw [if_neg hb, if_neg hb]
          rfl) (fun _ => rfl) (fun _ => rfl)) (rg_zF hW.2.2.2.1) hW.2.2.2.2 hP hD
    exact h q (not_live hW hq) H1 locs ls (cells + 1) (slots + N) hW1 hS1 hls hL (wcr hst) (by show cells + 1 + (sa S - 1) ≤ _; omega) (by show slots + N + (sb S - clN ci) ≤ _; omega)
theorem va_RA_prim {U : State} {a b : ClassId} {t : FieldType} (h1 : va_RA U a t) (h2 : va_RA U b t) : a = b := by
  cases t with
  | object Cn =>
    obtain ⟨-, -, -, -, -, h1⟩ := h1
    obtain ⟨-, -, -, -, -, h2⟩ := h2
    exact Option.some.inj (h1.symm.trans h2)
  | _ => exact Option.some.inj (Eq.trans (Eq.symm h1) h2)
theorem newA_wld {H H1 : Heap} {k q n : Nat} {cA : ClassId} {r : vpR} (hW : Wld G S F I H) (hk : 20 ≤ k) (hcA : cA = gA G (k - 20)) (hr : arc k (newA S q k n) (zI I q) q = r) (hP : va_P (gD G) vwCl (pw G S F I ++ [(q, .inl (cA, (n, r)))]) H1) (hD : va_D (gAd G) (pw G S F I ++ [(q, .inl (cA, (n, r)))])) : Wld G (newA S q k n) F (zI I q) H1 ∧ q ∉ sL S := by
  subst hcA
  refine hW.push (S' := newA S q k n) (F' := F) (I' := zI I q) rfl (fun b hb => ?_) ?_ (fun b hb => cont_congr (va_up_ne _ _ hb) (va_up_ne _ _ hb) (fun c j => rfl) (fun j => by unfold zI; rw [if_neg hb]) (fun j => by show (if b = q then none else sG S b j) = _; rw [if_neg hb])) hW.2.2.2.1 (rg_zI hW.2.2.2.2) hP hD
  · by_cases hbq : b = q
    · exact Or.inl hbq
    · refine Or.inr ?_
      rwa [show sK (newA S q k n) b = sK S b from va_up_ne _ _ hbq] at hb
  · rw [cont_a (show sK (newA S q k n) q = k from va_up_self _ _ _) hk, hr, show sN (newA S q k n) q = n from va_up_self _ _ _]
theorem arc_z {k q n : Nat} : arc k (newA S q k n) (zI I q) q = if k ≤ 21 then .inl (fun _ => 0) else if k = 22 then .inr (.inl (fun _ => 0)) else .inr (.inr (.inr (.inr (fun _ => none)))) := by
  have e1 : ∀ j : Nat, zI I q q (j : Int) = 0 := fun j => if_pos rfl
  have e2 : ∀ j : Nat, sG (newA S q k n) q (j : Int) = none := fun j => if_pos rfl
  unfold arc
  simp only [e1, e2]
  rfl
theorem newarr (C : CO G own cc nL X) {atype : ArrayType} {k n : Nat} {z : Int} {ty : FieldType} (hk : 20 ≤ k) (hty : newarray.typeOf atype = ty) (htk : (tysG G)[k - 20]? = some (gA G (k - 20), ty)) (hz : z = (n : Int)) {r : vpR} (ha0 : ∀ cA : ClassId, vp_cell cA (n, r) = arrV cA n (fun _ => defaultValue ty)) (hrr : ∀ q, arc k (newA S q k n) (zI I q) q = r) (harr : Cond.arrayClass ty ∈ lw_good) (hd : decode cc pc = .ok (.newarray atype, 2)) (hn : n ≤ 65536) (hbytes : componentBytes ty ≤ 8) (ha : 1 ≤ sa S) (hb : n ≤ sb S)
    (h : ∀ q : Nat, sK S q = 99 → J G X QQ (pc + 2) L (vr (some q) :: st) (newA S q k n) F (zI I q)) : J G X QQ pc L (vi z :: st) S F I := by
  subst hz
  intro H locs ls cells slots hW hS hls hL hst hca hcb
  have hz : rg (n : Int) := whi hst
  subst hty
  refine va_newa (a0 := (n, r)) (N' := n) C.1 C.2.1 (C.2.2.2.1 _ harr) rfl C.2.2.2.2.1.1 hW.1 hW.2.1 hS (fun q hq => Nat.le_trans C.2.2.2.2.1.2.2.2.1 hq) (fun cA => ha0 cA) (fun w => ?_) (by rw [i_cl hz (by omega)]; omega) ?_ (by omega) (by omega) hd fun q cA H1 hK1 hP hD hS1 => ?_
  · rw [← i_0, i_lt hz rg0] at w
    omega
  · have : n * componentBytes (newarray.typeOf atype) ≤ 65536 * 8 := Nat.mul_le_mul hn hbytes
    omega
  · have hcA : cA = gA G (k - 20) := va_RA_prim (hK1.2 6 (cA, newarray.typeOf atype) rfl).2 (C.2.2.2.2.1.1.2 _ _ htk).2
    obtain ⟨hW1, hq⟩ := newA_wld hW hk hcA (hrr q) hP hD
    exact h q (not_live hW hq) H1 locs ls (cells + 1) (slots + n) hW1 hS1 hls hL (wcr (wt hst)) (by show cells + 1 + (sa S - 1) ≤ _; omega) (by show slots + n + (sb S - n) ≤ _; omega)
theorem J_newI (C : CO G own cc nL X) {n : Nat} {z : Int} (hz : z = (n : Int)) (harr : Cond.arrayClass .int ∈ lw_good) (hd : decode cc pc = .ok (.newarray .int, 2)) (hn : n ≤ 65536) (ha : 1 ≤ sa S) (hb : n ≤ sb S) (h : ∀ q : Nat, sK S q = 99 → J G X QQ (pc + 2) L (vr (some q) :: st) (newA S q 20 n) F (zI I q)) : J G X QQ pc L (vi z :: st) S F I :=
  newarr C (ty := .int) (k := 20) (r := .inl (fun _ => 0)) (by omega) rfl rfl hz (fun cA => rfl) (fun q => arc_z) harr hd hn (by decide) ha hb h
theorem J_newQ (C : CO G own cc nL X) {k n index : Nat} {z : Int} {Cn : String} (hk : 23 ≤ k) (htk : (tysG G)[k - 20]? = some (gA G (k - 20), .object Cn)) (hz : z = (n : Int)) (hlink : Cond.classLink own index Cn ∈ lw_good) (hover : Cn ∈ aos) (hd : decode cc pc = .ok (.anewarray index, 3)) (hn : n ≤ 65536) (ha : 1 ≤ sa S) (hb : n ≤ sb S)
    (h : ∀ q : Nat, sK S q = 99 → J G X QQ (pc + 3) L (vr (some q) :: st) (newA S q k n) F (zI I q)) : J G X QQ pc L (vi z :: st) S F I := by
  subst hz
  intro H locs ls cells slots hW hS hls hL hst hca hcb
  have hz : rg (n : Int) := whi hst
  have hover9 : va_AO Cn (xs X) := C.2.2.2.2.1.2.2.2.2.2.2.2.2.1 _ hover
  refine va_newq (N' := n) C.1 C.2.1 C.2.2.1 (C.2.2.2.1 _ hlink) hover9 C.2.2.2.2.1.1 hW.1 hW.2.1 hS (fun q hq => Nat.le_trans C.2.2.2.2.1.2.2.2.1 hq) (fun w => ?_) (by rw [i_cl hz (by omega)]; omega) (by omega) (by omega) (by omega) hd fun q cA H1 hK1 hP hD hS1 => ?_
  · rw [← i_0, i_lt hz rg0] at w
    omega
  · have hcA : cA = gA G (k - 20) := va_RA_prim (hK1.2 6 (cA, .object Cn) rfl).2 (C.2.2.2.2.1.1.2 _ _ htk).2
    obtain ⟨hW1, hq⟩ := newA_wld hW (by omega) hcA (r := .inr (.inr (.inr (.inr (fun _ => none))))) (by rw [arc_z, if_neg (by omega), if_neg (by omega)]) hP hD
    exact h q (not_live hW hq) H1 locs ls (cells + 1) (slots + n) hW1 hS1 hls hL (wcr (wt hst)) (by show cells + 1 + (sa S - 1) ≤ _; omega) (by show slots + n + (sb S - n) ≤ _; omega)
theorem upd_uq {f : Nat → Int → Option Nat} {q : Nat} {z : Int} {x : Option Nat} (h0 : 0 ≤ z) : (fun j : Nat => ui f q z x q (j : Int)) = va_up (fun j : Nat => f q (j : Int)) z.toNat x := by
  funext j
  unfold ui va_up
  by_cases hj : (j : Int) = z
  · rw [if_pos ⟨rfl, hj⟩, if_pos (by omega)]
  · rw [if_neg (fun w => hj w.2), if_neg (by omega)]
theorem J_aast (C : CO G own cc nL X) {q k v ci N : Nat} {Cn En : String} {T : u_T} {z : Int} (hd : decode cc pc = .ok (.aastore, 1)) (hK : sK S q = k) (hk : 23 ≤ k) (hk2 : k < 26) (htk : (tysG G)[k - 20]? = some (gA G (k - 20), .object En)) (hKv : sK S v = ci) (hc : vwCl[ci]? = some (Cn, T, N)) (hci : ci < 20) (he : En = Cn ∨ Cond.castable Cn En ∈ lw_tbl) (h0 : 0 ≤ z) (hn : z < (sN S q : Int)) (h : J G X QQ (pc + 1) L st (setG S q z (some v)) F I) : J G X QQ pc L (vr (some v) :: vi z :: vr (some q) :: st) S F I := by
  intro H locs ls cells slots hW hS hls hL hst hca hcb
  obtain ⟨q0, hq0⟩ := hW.at (q := q) (by rw [hK]; omega)
  have hq1 := hq0
  rw [cont_a hK (by omega)] at hq1
  have ea : arc k S I q = .inr (.inr (.inr (.inr (fun j : Nat => sG S q (j : Int))))) := by
    unfold arc
    rw [if_neg (by omega), if_neg (by omega)]
  rw [ea] at hq1
  obtain ⟨qv, hqv⟩ := hW.at (q := v) (by rw [hKv]; omega)
  rw [cont_o hKv hci] at hqv
  have hz : rg z := whi (wt hst)
  have hr := va_recv C.2.2.2.2.1.1 hW.1 hc hqv
  refine vb_astq (E := En) (C := Cn) C.1 C.2.1 C.2.2.2.2.1.1 hW.1 hW.2.1 hS q0 (k - 20) hq1 htk hr (fun comp c0 h1 h2 => ?_) (i_in hz h0 hn) hd fun H1 locs1 a b c => ?_
  · rcases he with rfl | he
    · exact vb_asgS comp c0 h1 h2
    · exact vb_asgC (C.2.2.2.2.1.2.1 _ he rfl) comp c0 h1 h2
  · rw [i_cl hz h0] at a b
    exact h H1 locs1 ls cells slots (pw_arr hW hK (by omega) (by omega) hq0 rfl rfl rfl rfl (fun _ _ _ => rfl) (fun b hb j => ui_ne hb j) hW.2.2.2.2 (by
      unfold arc
      rw [if_neg (by omega), if_neg (by omega)]
      exact congrArg (fun f => Sum.inr (Sum.inr (Sum.inr (Sum.inr f)))) (upd_uq h0)) a b) c hls hL (wt (wt (wt hst))) hca hcb
theorem J_cast (C : CO G own cc nL X) {q ci N index : Nat} {Cn : String} {T : u_T} (hc : vwCl[ci]? = some (Cn, T, N)) (hci : ci < 20) (hlink : Cond.classLink own index Cn ∈ lw_good) (hd : decode cc pc = .ok (.checkcast index, 3)) (hK : sK S q = ci) (h : J G X QQ (pc + 3) L (vr (some q) :: st) S F I) : J G X QQ pc L (vr (some q) :: st) S F I := by
  intro H locs ls cells slots hW hS hls hL hst hca hcb
  obtain ⟨q0, hq0⟩ := hW.at (q := q) (by rw [hK]; omega)
  rw [cont_o hK hci] at hq0
  obtain ⟨cell, g1, g2, g3⟩ := va_recv C.2.2.2.2.1.1 hW.1 hc hq0
  exact va_castS C.1 C.2.1 C.2.2.1 (C.2.2.2.1 _ hlink) (C.2.2.2.2.1.1.1 ci _ hc).2 ⟨cell, g1, g2, g3⟩ hd (h H locs ls cells slots hW hS hls hL hst hca hcb)
end RulesE
end
section
/-! the rules in the forms that the printed rows take -/
theorem rg_of {z : Int} (h : (decide (-2147483648 ≤ z) && decide (z < 2147483648)) = true) : rg z := by
  simp only [Bool.and_eq_true, decide_eq_true_eq] at h
  exact h
abbrev thr (S : Shp) : Shp := (sL S, sK S, sR S, sN S, sG S, sa S - 1, sb S - 6)
abbrev noX : String → Shp → Fl → Il → Prop := fun _ _ _ _ => False
abbrev qI (Q : Int → Shp → Fl → Il → Prop) : Option PV → Shp → Fl → Il → Prop := fun v S F I => ∃ z, v = some (vi z) ∧ Q z S F I
abbrev qR (Q : Nat → Shp → Fl → Il → Prop) : Option PV → Shp → Fl → Il → Prop := fun v S F I => ∃ r, v = some (vr (some r)) ∧ Q r S F I
abbrev qV (Q : Shp → Fl → Il → Prop) : Option PV → Shp → Fl → Il → Prop := fun v S F I => v = none ∧ Q S F I
/-- what a cut of a method's body knows of its place -/
def MX (d : Nat) (ret : Option FieldType) (nm : String) (X : Xt) : Prop := (xR X).frames = d ∧ 38 * d ≤ (xR X).locals ∧ (xf X).sig.returnType = ret ∧ (xf X).name = nm ∧ ∀ x ∈ (xc X).exceptionTable.toList, False
section RulesF
variable {G : Gp} {own : String} {cc : ByteArray} {nL : Nat} {X : Xt} {QQ : State → Prop} {pc : Nat} {L st : List PV} {S : Shp} {F : Fl} {I : Il}
theorem K_istore_n (C : CO G own cc nL X) {k : Fin 4} {i : Nat} {z : Int} (L' : List PV) (hd : decode cc pc = .ok (.istore_n k, 1)) (hi : (k : Nat) = i) (hl : i < L.length) (e : L.set i (vi z) = L') (h : J G X QQ (pc + 1) L' st S F I) : J G X QQ pc L (vi z :: st) S F I := J_istore_n C hd hi hl (by rw [e]; exact h)
theorem K_istore (C : CO G own cc nL X) {i : Nat} {z : Int} (L' : List PV) (hd : decode cc pc = .ok (.istore i, 2)) (hl : i < L.length) (e : L.set i (vi z) = L') (h : J G X QQ (pc + 2) L' st S F I) : J G X QQ pc L (vi z :: st) S F I := J_istore C hd hl (by rw [e]; exact h)
theorem K_astore_n (C : CO G own cc nL X) {k : Fin 4} {i : Nat} {o : Option Nat} (L' : List PV) (hd : decode cc pc = .ok (.astore_n k, 1)) (hi : (k : Nat) = i) (hl : i < L.length) (e : L.set i (vr o) = L') (h : J G X QQ (pc + 1) L' st S F I) : J G X QQ pc L (vr o :: st) S F I := J_astore_n C hd hi hl (by rw [e]; exact h)
theorem K_astore (C : CO G own cc nL X) {i : Nat} {o : Option Nat} (L' : List PV) (hd : decode cc pc = .ok (.astore i, 2)) (hl : i < L.length) (e : L.set i (vr o) = L') (h : J G X QQ (pc + 2) L' st S F I) : J G X QQ pc L (vr o :: st) S F I := J_astore C hd hl (by rw [e]; exact h)
theorem K_iinc (C : CO G own cc nL X) {i : Nat} {n z : Int} (L' : List PV) (hd : decode cc pc = .ok (.iinc i n, 3)) (hg : L[i]? = some (vi z)) (e : L.set i (vi (w32 (z + n))) = L') (h : J G X QQ (pc + 3) L' st S F I) : J G X QQ pc L st S F I := J_iinc C hd hg (by rw [e]; exact h)
/-- less is known of the locals -/
theorem kp_sub : ∀ (L L' : List PV) (i : Nat), L'.length = L.length → (∀ (j : Nat) (v : PV), L'[j]? = some v → knw v → L[j]? = some v) → ∀ q ∈ kp i L', q ∈ kp i L := by
  intro L L' i hl h q hq
  obtain ⟨j, v, rfl, h1, h2⟩ := kp_of L' i q hq
  exact kp_mem L i j v (h j v h1 h2) h2
def lessL : List PV → List PV → Prop
  | [], [] => True
  | a :: L, b :: L' => (b = a ∨ b = vl 0) ∧ lessL L L'
  | _, _ => False
theorem lessL_at : ∀ (L L' : List PV), lessL L L' → L'.length = L.length ∧ (∀ (j : Nat) (v : PV), L'[j]? = some v → knw v → L[j]? = some v) ∧ ((∀ v ∈ L, wfv v) → ∀ v ∈ L', wfv v)
  | [], [], _ => ⟨rfl, fun _ _ h _ => h, fun h => h⟩
  | [], _ :: _, h => h.elim
  | _ :: _, [], h => h.elim
  | a :: L, b :: L', h => by
    obtain ⟨h0, h1⟩ := h
    obtain ⟨a1, a2, a3⟩ := lessL_at L L' h1
    refine ⟨by rw [List.length_cons, List.length_cons, a1], fun j v hj hv => ?_, fun hw v hv => ?_⟩
    · cases j with
      | zero =>
        rw [List.getElem?_cons_zero] at hj ⊢
        cases hj
        rcases h0 with rfl | rfl
        · rfl
        · exact hv.elim
      | succ j =>
        rw [List.getElem?_cons_succ] at hj ⊢
        exact a2 j v hj hv
    · obtain ⟨w1, w2⟩ := List.forall_mem_cons.mp hw
      rcases List.mem_cons.mp hv with rfl | hv
      · rcases h0 with rfl | rfl
        · exact w1
        · exact rg0
      · exact a3 w2 v hv
theorem J_less (L' : List PV) (hl : lessL L L') (h : J G X QQ pc L' st S F I) : J G X QQ pc L st S F I := fun H locs ls cells slots hW hS hls hL hst ha hb => by
  obtain ⟨a1, a2, a3⟩ := lessL_at L L' hl
  exact h H locs ls cells slots hW hS (by rw [a1]; exact lv_less hls (kp_sub L L' 0 a1 a2)) (a3 hL) hst ha hb
variable {Q : Option PV → Shp → Fl → Il → Prop} {QX : String → Shp → Fl → Il → Prop} {ret : Option FieldType} {nm : String} {d : Nat}
theorem K_out {Q' : Option PV → Shp → Fl → Il → Prop} (C : CO G own cc nL X) (M : MX d ret nm X) (E : String) (S' : Shp) (F' : Fl) (I' : Il) (h : QX E S' F' I') : JX G X (QD X G Q' QX) E pc L S' F' I' := JX_out C (fun x hx => (M.2.2.2.2 x hx).elim) h
theorem K_no (E : String) (S' : Shp) (F' : Fl) (I' : Il) (h : noX E S' F' I') : JX G X QQ E pc L S' F' I' := h.elim
theorem K_V (C : CO G own cc nL X) (M : MX (d + 1) ret nm X) {index ci N n maxL b : Nat} {Cn : String} {T9 : u_T} {y : MethodName} {bytes : ByteArray} {rt : Option FieldType} (as rest : List PV) (hI : MI y bytes maxL rt n) (hlink : Cond.methodLink own index y ∈ lw_good) (hinst : Cond.instanceMethod y ∈ lw_good) (hsel : Cond.selects Cn y y ∈ lw_good) (hc : vwCl[ci]? = some (Cn, T9, N) ∧ ci < 20) (hd : decode cc pc = .ok (.invokevirtual index, 3)) (hK : sK S b = ci) (hn : as.length = n) (hlen : L.length = nL) (hml : maxL ≤ 19) (hcat : (rest.map fun v => (tv v).category).sum ≤ 8)
    (hM : CM (xl X) G d y (.code y bytes maxL rt) (vr (some b) :: as) S F I Q QX) (kr : ∀ v S' F' I', Q v S' F' I' → J G X QQ (pc + 3) L (v.toList ++ rest) S' F' I') (kx : ∀ E S' F' I', QX E S' F' I' → JX G X QQ E pc L S' F' I') {st : List PV} (e : as.reverse ++ vr (some b) :: rest = st) : J G X QQ pc L st S F I := by
  subst e
  exact J_callV C hI hlink hinst hsel hc.1 hc.2 hd hK hn hlen (by rw [M.1]; omega) (by have := M.2.1; omega) hcat hM kr kx
theorem K_S (C : CO G own cc nL X) (M : MX (d + 1) ret nm X) {index n maxL : Nat} {y : MethodName} {bytes : ByteArray} {rt : Option FieldType} (as rest : List PV) (hI : MI y bytes maxL rt n) (hlink : Cond.methodLink own index y ∈ lw_good) (hstat : Cond.static y ∈ lw_good) (hd : decode cc pc = .ok (.invokestatic index, 3)) (hn : as.length = n) (hlen : L.length = nL) (hml : maxL ≤ 19) (hcat : (rest.map fun v => (tv v).category).sum ≤ 8)
    (hM : CM (xl X) G d y (.code y bytes maxL rt) as S F I Q QX) (kr : ∀ v S' F' I', Q v S' F' I' → J G X QQ (pc + 3) L (v.toList ++ rest) S' F' I') (kx : ∀ E S' F' I', QX E S' F' I' → JX G X QQ E pc L S' F' I') {st : List PV} (e : as.reverse ++ rest = st) : J G X QQ pc L st S F I := by
  subst e
  exact J_callS C hI hlink hstat hd hn hlen (by rw [M.1]; omega) (by have := M.2.1; omega) hcat hM kr kx
theorem K_I (C : CO G own cc nL X) (M : MX (d + 1) ret nm X) {index n maxL b : Nat} {y : MethodName} {bytes : ByteArray} (as rest : List PV) (hI : MI y bytes maxL none n) (hy1 : y.name = "<init>") (hlink : Cond.methodLink own index y ∈ lw_good) (hinst : Cond.instanceMethod y ∈ lw_good) (hd : decode cc pc = .ok (.invokespecial index, 3)) (hn : as.length = n) (hlen : L.length = nL) (hml : maxL ≤ 19) (hcat : (rest.map fun v => (tv v).category).sum ≤ 8)
    (hM : CM (xl X) G d y (.code y bytes maxL none) (vr (some b) :: as) S F I Q QX) (kr : ∀ v S' F' I', Q v S' F' I' → J G X QQ (pc + 3) L (v.toList ++ rest) S' F' I') (kx : ∀ E S' F' I', QX E S' F' I' → JX G X QQ E pc L S' F' I') {st : List PV} (e : as.reverse ++ vr (some b) :: rest = st) : J G X QQ pc L st S F I := by
  subst e
  exact J_callI C hI hy1 hlink hinst hd hn hlen (by rw [M.1]; omega) (by have := M.2.1; omega) hcat hM kr kx
theorem K_IN (C : CO G own cc nL X) (M : MX (d + 1) ret nm X) {index n maxL b : Nat} {y : MethodName} {host : String} {bytes : ByteArray} (as rest : List PV) (hI : MI y bytes maxL none n) (hy1 : y.name = "<init>") (hlink : Cond.methodLinkNest own index y host ∈ lw_tbl) (hinst : Cond.instanceMethod y ∈ lw_good) (hd : decode cc pc = .ok (.invokespecial index, 3)) (hn : as.length = n) (hlen : L.length = nL) (hml : maxL ≤ 19) (hcat : (rest.map fun v => (tv v).category).sum ≤ 8)
    (hM : CM (xl X) G d y (.code y bytes maxL none) (vr (some b) :: as) S F I Q QX) (kr : ∀ v S' F' I', Q v S' F' I' → J G X QQ (pc + 3) L (v.toList ++ rest) S' F' I') (kx : ∀ E S' F' I', QX E S' F' I' → JX G X QQ E pc L S' F' I') {st : List PV} (e : as.reverse ++ vr (some b) :: rest = st) : J G X QQ pc L st S F I := by
  subst e
  exact J_callIN C hI hy1 hlink hinst hd hn hlen (by rw [M.1]; omega) (by have := M.2.1; omega) hcat hM kr kx
theorem K_objInit (C : CO G own cc nL X) (M : MX (d + 1) ret nm X) {index : Nat} {o : Nat} (hlink : Cond.methodLink own index objectInit ∈ lw_good) (hinst : Cond.instanceMethod objectInit ∈ lw_good) (hcode : Cond.code objectInit ⟨#[0xb1]⟩ 1 none ∈ lw_good) (hlen : L.length = nL) (hd : decode cc pc = .ok (.invokespecial index, 3)) (hcat : (st.map fun v => (tv v).category).sum ≤ 8) (h : J G X QQ (pc + 3) L st S F I) : J G X QQ pc L (vr (some o) :: st) S F I :=
  J_objInit C hlink hinst hcode hlen hd (by rw [M.1]; omega) (by have := M.2.1; omega) hcat h
end RulesF
theorem CM_ofM {l : Launch} {G : Gp} {d : Nat} {y : MethodName} {cc : ByteArray} {nL : Nat} {ret : Option FieldType} {args : List PV} {S : Shp} {F : Fl} {I : Il} {Q : Option PV → Shp → Fl → Il → Prop} {QX : String → Shp → Fl → Il → Prop} (L0 : List PV) (hl : l.stackTraces = false) (hy : plainName y.cls = true) (hk : ∀ v ∈ args, knw v) (hn : args.length ≤ nL) (e : args ++ List.replicate (nL - args.length) (vl 0) = L0)
    (body : ∀ X : Xt, xl X = l → CO G y.cls cc nL X → MX d ret y.name X → J G X (QD X G Q QX) 0 L0 [] S F I) : CM l G d y (.code y cc nL ret) args S F I Q QX :=
  CM_of hl hy hk hn fun X hX C hR h1 h2 h3 => by
    rw [e]
    exact body X hX C ⟨by rw [hR], by rw [hR]; exact Nat.le_refl _, h1, h2, h3⟩
theorem kn0 : ∀ v ∈ ([] : List PV), knw v := fun v h => by cases h
theorem kn1 {v : PV} {L : List PV} (h : knw v) (h2 : ∀ v ∈ L, knw v) : ∀ w ∈ v :: L, knw w := List.forall_mem_cons.mpr ⟨h, h2⟩
theorem rg_len {n : Nat} (h : n ≤ 65536) : rg (n : Int) := by unfold rg; omega
end
section
/-! what the JDK's lists want: their first row, copies, class objects -/
def isObj (S : Shp) (v : Nat) : Prop := 1 ≤ sK S v ∧ sK S v ≤ 8
/-- the length of a row of objects: of the JDK's own empty one, or of one of ours -/
def lenO (G : Gp) (S : Shp) (q n : Nat) : Prop := (q = gZ G ∧ n = 0) ∨ (sK S q = 25 ∧ n = sN S q)
def okCp (S : Shp) (a b : Nat) (sp dp n : Int) : Prop := 0 ≤ sp ∧ 0 ≤ dp ∧ 0 ≤ n ∧ sp + n ≤ (sN S a : Int) ∧ dp + n ≤ (sN S b : Int) ∧ sN S a ≤ 65536 ∧ sN S b ≤ 65536
def cpI (I : Il) (a b : Nat) (sp dp n : Int) : Il := fun q j => if q = b ∧ dp ≤ j ∧ j < dp + n then I a (sp + (j - dp)) else I q j
def cpG (S : Shp) (a b : Nat) (sp dp n : Int) : Shp := (sL S, sK S, sR S, sN S, (fun q j => if q = b ∧ dp ≤ j ∧ j < dp + n then sG S a (sp + (j - dp)) else sG S q j), sa S, sb S)
def allObj (S : Shp) (a : Nat) (sp n : Int) : Prop := ∃ ci, 1 ≤ ci ∧ ci ≤ 8 ∧ ∀ j : Int, sp ≤ j → j < sp + n → ∀ y, sG S a j = some y → sK S y = ci
section RulesG
variable {G : Gp} {own : String} {cc : ByteArray} {nL : Nat} {X : Xt} {QQ : State → Prop} {pc : Nat} {L st : List PV} {S : Shp} {F : Fl} {I : Il} {ret : Option FieldType} {nm : String} {d : Nat}
theorem obj_cast {ci : Nat} (h1 : 1 ≤ ci) (h2 : ci ≤ 8) : ∃ (Cn : String) (T : u_T) (N : Nat), vwCl[ci]? = some (Cn, T, N) ∧ Cond.castable Cn "java/lang/Object" ∈ lw_tbl := by
  obtain rfl | rfl | rfl | rfl | rfl | rfl | rfl | rfl : ci = 1 ∨ ci = 2 ∨ ci = 3 ∨ ci = 4 ∨ ci = 5 ∨ ci = 6 ∨ ci = 7 ∨ ci = 8 := by omega
  all_goals exact ⟨_, _, _, rfl, by decide +kernel⟩
theorem K_aastO (C : CO G own cc nL X) {q v : Nat} {z : Int} (hd : decode cc pc = .ok (.aastore, 1)) (hK : sK S q = 25) (hv : isObj S v) (h0 : 0 ≤ z) (hn : z < (sN S q : Int)) (h : J G X QQ (pc + 1) L st (setG S q z (some v)) F I) : J G X QQ pc L (vr (some v) :: vi z :: vr (some q) :: st) S F I := by
  obtain ⟨Cn, T, N, h1, h2⟩ := obj_cast hv.1 hv.2
  exact J_aast C hd hK (by decide) (by decide) (En := "java/lang/Object") rfl rfl h1 (by have := hv.2; omega) (Or.inr h2) h0 hn h
theorem K_alenO (C : CO G own cc nL X) {q n : Nat} (hd : decode cc pc = .ok (.arraylength, 1)) (hq : lenO G S q n) (hn : n ≤ 65536) (h : J G X QQ (pc + 1) L (vi (n : Int) :: st) S F I) : J G X QQ pc L (vr (some q) :: st) S F I := by
  rcases hq with ⟨rfl, rfl⟩ | ⟨hK, rfl⟩
  · intro H locs ls cells slots hW hS hls hL hst hca hcb
    exact va_tlen C.1 C.2.1 C.2.2.2.2.1.2.2.2.2.1.2 hS rfl hd (h H locs ls cells slots hW hS hls hL (wci rg0 (wt hst)) hca hcb)
  · exact J_alen C hd hK (by decide) (by decide) (rg_len hn) h
theorem K_getZ (C : CO G own cc nL X) {index : Nat} (hl : Cond.fieldLink own index "java/util/ArrayList" "DEFAULTCAPACITY_EMPTY_ELEMENTDATA" "[Ljava/lang/Object;" ∈ lw_good) (hd : decode cc pc = .ok (.getstatic index, 3)) (h : J G X QQ (pc + 3) L (vr (some (gZ G)) :: st) S F I) : J G X QQ pc L st S F I := by
  intro H locs ls cells slots hW hS hls hL hst hca hcb
  exact va_gets C.1 C.2.1 C.2.2.2.2.1.2.2.2.2.1.1 hS C.2.2.1 (C.2.2.2.1 _ hl) (fun x hx => hx) hd (h H locs ls cells slots hW hS hls hL (wcr hst) hca hcb)
theorem K_ldcM (C : CO G own cc nL X) {index : Nat} (hl : Cond.classLink own index "[Ljava/lang/Object;" ∈ lw_good) (hd : decode cc pc = .ok (.ldc index, 2)) (h : J G X QQ (pc + 2) L (vr (some (gM G)) :: st) S F I) : J G X QQ pc L st S F I := by
  intro H locs ls cells slots hW hS hls hL hst hca hcb
  exact va_ldcM C.1 C.2.1 C.2.2.1 (C.2.2.2.1 _ hl) C.2.2.2.2.1.2.2.2.2.2.1.1 hd (h H locs ls cells slots hW hS hls hL (wcr hst) hca hcb)
theorem J_acmp_eq (C : CO G own cc nL X) {a b : Nat} {off : Int} {tgt : Nat} (hd : decode cc pc = .ok (.if_acmp .eq off, 3)) (ht : (pc : Int) + off = (tgt : Int)) (kt : a = b → J G X QQ tgt L st S F I) (kf : ¬ a = b → J G X QQ (pc + 3) L st S F I) : J G X QQ pc L (vr (some b) :: vr (some a) :: st) S F I :=
  fun H locs ls cells slots hW hS hl hL hst hca hcb => lv_acmp_eq (rx := some a) (ry := some b) C.1 C.2.1 hd ht (fun c => kt (Option.some.inj c) H locs ls cells slots hW hS hl hL (wt (wt hst)) hca hcb) (fun c => kf (fun z => c (congrArg some z)) H locs ls cells slots hW hS hl hL (wt (wt hst)) hca hcb)
theorem J_acmp_ne (C : CO G own cc nL X) {a b : Nat} {off : Int} {tgt : Nat} (hd : decode cc pc = .ok (.if_acmp .ne off, 3)) (ht : (pc : Int) + off = (tgt : Int)) (kt : ¬ a = b → J G X QQ tgt L st S F I) (kf : a = b → J G X QQ (pc + 3) L st S F I) : J G X QQ pc L (vr (some b) :: vr (some a) :: st) S F I :=
  fun H locs ls cells slots hW hS hl hL hst hca hcb => lv_acmp_ne (rx := some a) (ry := some b) C.1 C.2.1 hd ht (fun c => kt (fun z => c (congrArg some z)) H locs ls cells slots hW hS hl hL (wt (wt hst)) hca hcb) (fun c => kf (by first | exact Option.some.inj c | exact Classical.byContradiction fun n => c (fun z => n (Option.some.inj z))) H locs ls cells slots hW hS hl hL (wt (wt hst)) hca hcb)
theorem ac_words : Cond.native arraycopyName ∈ lw_good ∧ Cond.static arraycopyName ∈ lw_good ∧ Cond.initialized "java/lang/System" ∈ lw_good := ⟨List.mem_filter.mpr ⟨by decide +kernel, by decide +kernel⟩, List.mem_filter.mpr ⟨by decide +kernel, by decide +kernel⟩, List.mem_filter.mpr ⟨by decide +kernel, by decide +kernel⟩⟩
theorem K_copyI (C : CO G own cc nL X) (M : MX (d + 1) ret nm X) {a b index : Nat} {sp dp n : Int} (hl : Cond.methodLink own index arraycopyName ∈ lw_good) (hd : decode cc pc = .ok (.invokestatic index, 3)) (ha : sK S a = 20) (hb : sK S b = 20) (hc : okCp S a b sp dp n) (hlen : L.length = nL) (hcat : (st.map fun v => (tv v).category).sum ≤ 8 := by exact Nat.le_of_ble_eq_true rfl) (h : J G X QQ (pc + 3) L st S F (cpI I a b sp dp n)) : J G X QQ pc L (vi n :: vi dp :: vr (some b) :: vi sp :: vr (some a) :: st) S F I := by
  intro H locs ls cells slots hW hS hls hL hst hca hcb
  obtain ⟨c1, c2, c3, c4, c5, c6, c7⟩ := hc
  obtain ⟨q0, hq0⟩ := hW.at (q := a) (by rw [ha]; omega)
  obtain ⟨q1, hq1⟩ := hW.at (q := b) (by rw [hb]; omega)
  have hq2 := hq1
  rw [cont_a ha (by omega)] at hq0
  rw [cont_a hb (by omega)] at hq2
  have rsp : rg sp := whi (wt (wt (wt hst)))
  have rdp : rg dp := whi (wt hst)
  have rn : rg n := whi hst
  have neg : ∀ {z : Int}, rg z → 0 ≤ z → ¬ Int32.ofInt z < 0 := fun hz h0 w => by rw [← i_0, i_lt hz rg0] at w; omega
  refine va_copyi C.1 C.2.1 (by rw [C.2.2.2.2.2.2.1, ← hlen]; exact hls.1.symm) C.2.2.1 (C.2.2.2.1 _ hl) (C.2.2.2.1 _ ac_words.1) (C.2.2.2.1 _ ac_words.2.1) (C.2.2.2.1 _ ac_words.2.2) C.2.2.2.2.1.1 hW.1 hW.2.1 hS q0 q1 0 0 (ty := .int) hq0 hq2 rfl rfl rfl (neg rsp c1) (neg rdp c2) (neg rn c3) (by rw [i_cl rsp c1, i_cl rn c3]; omega) (by rw [i_cl rdp c2, i_cl rn c3]; omega) (fun i _ => rfl) (by rw [M.1]; omega) ?_ hd fun H1 locs1 x y z => ?_
  · have := cat_le st hcat
    have hw : nativeFrameWords "java/lang/System" "arraycopy" 5 + 11 ≤ 30 := by decide
    have h9 := M.2.1
    omega
  · refine h H1 locs1 ls cells slots (pw_arr hW hb (by omega) (by omega) hq1 rfl rfl rfl rfl (fun q hq j => ?_) (fun _ _ _ => rfl) (fun q j => ?_) (congrArg Sum.inl ?_) x y) z hls hL (wt (wt (wt (wt (wt hst))))) hca hcb
    · unfold cpI
      rw [if_neg (fun w => hq w.1)]
    · unfold cpI
      split
      · exact hW.2.2.2.2 _ _
      · exact hW.2.2.2.2 _ _
    · rw [i_cl rsp c1, i_cl rdp c2, i_cl rn c3]
      funext j
      by_cases hj : dp ≤ (j : Int) ∧ (j : Int) < dp + n
      · rw [pk_cpy_in (by omega) (by omega)]
        unfold cpI
        rw [if_pos ⟨rfl, hj⟩]
        congr 2
        omega
      · rw [pk_cpy_out (by omega)]
        unfold cpI
        rw [if_neg (fun w => hj w.2)]
theorem K_copyQ (C : CO G own cc nL X) (M : MX (d + 1) ret nm X) {a b index : Nat} {sp dp n : Int} (hl : Cond.methodLink own index arraycopyName ∈ lw_good) (hd : decode cc pc = .ok (.invokestatic index, 3)) (ha : sK S a = 25) (hb : sK S b = 25) (hc : okCp S a b sp dp n) (ho : allObj S a sp n) (hlen : L.length = nL) (hcat : (st.map fun v => (tv v).category).sum ≤ 8 := by exact Nat.le_of_ble_eq_true rfl) (h : J G X QQ (pc + 3) L st (cpG S a b sp dp n) F I) : J G X QQ pc L (vi n :: vi dp :: vr (some b) :: vi sp :: vr (some a) :: st) S F I := by
  intro H locs ls cells slots hW hS hls hL hst hca hcb
  obtain ⟨c1, c2, c3, c4, c5, c6, c7⟩ := hc
  obtain ⟨ci, o1, o2, o3⟩ := ho
  obtain ⟨Cn, T, N, k1, k2⟩ := obj_cast o1 o2
  obtain ⟨q0, hq0⟩ := hW.at (q := a) (by rw [ha]; omega)
  obtain ⟨q1, hq1⟩ := hW.at (q := b) (by rw [hb]; omega)
  have hq2 := hq1
  rw [cont_a ha (by omega)] at hq0
  rw [cont_a hb (by omega)] at hq2
  have rsp : rg sp := whi (wt (wt (wt hst)))
  have rdp : rg dp := whi (wt hst)
  have rn : rg n := whi hst
  have neg : ∀ {z : Int}, rg z → 0 ≤ z → ¬ Int32.ofInt z < 0 := fun hz h0 w => by rw [← i_0, i_lt hz rg0] at w; omega
  refine va_copyq (C := Cn) (E0 := "java/lang/Object") (E1 := "java/lang/Object") C.1 C.2.1 (by rw [C.2.2.2.2.2.2.1, ← hlen]; exact hls.1.symm) C.2.2.1 (C.2.2.2.1 _ hl) (C.2.2.2.1 _ ac_words.1) (C.2.2.2.1 _ ac_words.2.1) (C.2.2.2.1 _ ac_words.2.2) C.2.2.2.2.1.1 hW.1 hW.2.1 hS q0 q1 5 5 hq0 hq2 rfl rfl (neg rsp c1) (neg rdp c2) (neg rn c3) (by rw [i_cl rsp c1, i_cl rn c3]; omega) (by rw [i_cl rdp c2, i_cl rn c3]; omega) (fun i hi y hy => ?_) (fun comp c0 h1 h2 => vb_asgC (C.2.2.2.2.1.2.1 _ k2 rfl) comp c0 h1 h2) (by rw [M.1]; omega) ?_ hd fun H1 locs1 x y z => ?_
  · rw [i_cl rsp c1] at hy
    rw [i_cl rn c3] at hi
    have hKy := o3 _ (by omega) (by omega) y hy
    obtain ⟨qv, hqv⟩ := hW.at (q := y) (by rw [hKy]; omega)
    rw [cont_o hKy (by omega)] at hqv
    exact va_recv C.2.2.2.2.1.1 hW.1 k1 hqv
  · have := cat_le st hcat
    have hw : nativeFrameWords "java/lang/System" "arraycopy" 5 + 11 ≤ 30 := by decide
    have h9 := M.2.1
    omega
  · refine h H1 locs1 ls cells slots (pw_arr hW hb (by omega) (by omega) hq1 rfl rfl rfl rfl (fun _ _ _ => rfl) (fun q hq j => ?_) hW.2.2.2.2 (congrArg (fun f => Sum.inr (Sum.inr (Sum.inr (Sum.inr f)))) ?_) x y) z hls hL (wt (wt (wt (wt (wt hst))))) hca hcb
    · show (if q = b ∧ dp ≤ j ∧ j < dp + n then _ else _) = _
      rw [if_neg (fun w => hq w.1)]
    · rw [i_cl rsp c1, i_cl rdp c2, i_cl rn c3]
      funext j
      show (if b = b ∧ dp ≤ (j : Int) ∧ (j : Int) < dp + n then sG S a (sp + ((j : Int) - dp)) else sG S b (j : Int)) = _
      by_cases hj : dp ≤ (j : Int) ∧ (j : Int) < dp + n
      · rw [pk_cpy_in (by omega) (by omega), if_pos ⟨rfl, hj⟩]
        congr 1
        omega
      · rw [pk_cpy_out (by omega), if_neg (fun w => hj w.2)]
theorem gc_words : Cond.selects "[Ljava/lang/Object;" ⟨"java/lang/Object", "getClass", "()Ljava/lang/Class;"⟩ ⟨"java/lang/Object", "getClass", "()Ljava/lang/Class;"⟩ ∈ lw_good ∧ Cond.instanceMethod ⟨"java/lang/Object", "getClass", "()Ljava/lang/Class;"⟩ ∈ lw_good ∧ Cond.native ⟨"java/lang/Object", "getClass", "()Ljava/lang/Class;"⟩ ∈ lw_good := ⟨List.mem_filter.mpr ⟨by decide +kernel, by decide +kernel⟩, List.mem_filter.mpr ⟨by decide +kernel, by decide +kernel⟩, List.mem_filter.mpr ⟨by decide +kernel, by decide +kernel⟩⟩
theorem K_getC (C : CO G own cc nL X) (M : MX (d + 1) ret nm X) {q index : Nat} (hl : Cond.methodLink own index ⟨"java/lang/Object", "getClass", "()Ljava/lang/Class;"⟩ ∈ lw_good) (hd : decode cc pc = .ok (.invokevirtual index, 3)) (hK : sK S q = 25) (hlen : L.length = nL) (hcat : (st.map fun v => (tv v).category).sum ≤ 8) (h : J G X QQ (pc + 3) L (vr (some (gM G)) :: st) S F I) : J G X QQ pc L (vr (some q) :: st) S F I := by
  intro H locs ls cells slots hW hS hls hL hst hca hcb
  obtain ⟨q0, hq0⟩ := hW.at (q := q) (by rw [hK]; omega)
  rw [cont_a hK (by omega)] at hq0
  have hcell : H[q]? = some (vp_cell (gA G 5) (sN S q, arc 25 S I q)) := hW.1 q0 _ hq0
  have hcl : (xs X).vm.findClass "[Ljava/lang/Object;" = some (gA G 5) := va_nmO (C.2.2.2.2.1.1.2 5 _ rfl).2 rfl
  refine va_getC (C := "[Ljava/lang/Object;") C.1 C.2.1 (by rw [C.2.2.2.2.2.2.1, ← hlen]; exact hls.1.symm) C.2.2.1 (C.2.2.2.1 _ hl) (va_Dc.use C.2.2.2.2.1.2.2.2.2.2.1.2) (C.2.2.2.1 _ gc_words.1) (C.2.2.2.1 _ gc_words.2.1) (C.2.2.2.1 _ gc_words.2.2) C.2.2.2.2.1.2.2.2.2.2.1.1 ⟨_, hcell, rfl, hcl⟩ (by rw [M.1]; omega) ?_ hd (h H locs ls cells slots hW hS hls hL (wcr (wt hst)) hca hcb)
  have := cat_le st hcat
  have h9 := M.2.1
  omega
end RulesG
section RulesH
variable {G : Gp} {own : String} {cc : ByteArray} {nL : Nat} {X : Xt} {QQ : State → Prop} {pc : Nat} {L st : List PV} {S : Shp} {F : Fl} {I : Il}
variable {Q : Option PV → Shp → Fl → Il → Prop} {QX : String → Shp → Fl → Il → Prop}
/-- new E(text), thrown; the text by a wide index -/
theorem J_throwSW (C : CO G own cc nL X) (hown : own = "Ironbark") {cls text : String} {names : List String} {ik is ic : Nat} (hcls : Bundle.fit cls = true) (hnames : ∀ n ∈ names, Bundle.fit n = true) (hstr : (is, text) ∈ strs)
    (hk : Cond.classLink own ik cls ∈ lw_good) (hini : Cond.initialized cls ∈ lw_good) (hat : ∀ w ∈ vx_atS own ic cls names, w ∈ lw_tbl ∧ (goodWord w || (isNw w && w.onTables)) = true)
    (hgood : ∀ w ∈ Cond.classLink own ik cls :: Cond.initialized cls :: vx_atS own ic cls names, vx_ot w = true) (hlen : L.length = nL)
    (d0 : decode cc pc = .ok (.new ik, 3)) (d3 : decode cc (pc + 3) = .ok (.dup, 1)) (d4 : decode cc (pc + 4) = .ok (.ldc_w is, 3)) (d6 : decode cc (pc + 7) = .ok (.invokespecial ic, 3)) (d9 : decode cc (pc + 10) = .ok (.athrow, 1))
    (hout : ∀ x ∈ (xc X).exceptionTable.toList, covers x (pc + 10) = false) (hst0 : st = []) (hRf : names.length + 3 < (xR X).frames) (hRl : 13 * (names.length + 1) + 43 ≤ (xR X).locals) (ha : 1 ≤ sa S) (hb : 6 ≤ sb S)
    (h : QX cls (sL S, sK S, sR S, sN S, sG S, sa S - 1, sb S - 6) F I) : J G X (QD X G Q QX) pc L st S F I := by
  subst hst0
  intro H locs ls cells slots hW hS hls hL hst hca hcb
  subst hown
  obtain ⟨sx, hsx⟩ := C.2.2.2.2.1.2.2.2.2.2.2.1 _ hstr
  have k := vx_throwSW (p := xp X) (l := xl X) (e := xe X) (R := xR X) (s := xs X) (m := xm X) (args := xa X) (below := xb X) (ls := ls) (rest := []) (H := H) (locs := locs) (cells := cells) (slots := slots) (Qc := fun _ _ _ _ => False) (XC := fun E9 _ t => E9 = cls ∧ H.size ≤ t.heap.size ∧ (∀ q : Nat, q < H.size → t.heap[q]? = H[q]?)) (free := gAd G) (mc := cells + 1) (ms := slots + 6) (A := gAd G) (names := names) C.1 C.2.1 C.2.2.2.2.2.2.2 C.2.2.1 hcls hnames (C.2.2.2.1 _ hk) (C.2.2.2.1 _ hini) hsx (fun w hw => by
      obtain ⟨h8, h9⟩ := hat w hw
      rw [Bool.or_eq_true] at h9
      rcases h9 with h9 | h9
      · exact C.2.2.2.1 _ (List.mem_filter.mpr ⟨h8, h9⟩)
      · rw [Bool.and_eq_true] at h9
        exact va_Nw.use h9.2 (C.2.2.2.2.1.2.1 _ h8 h9.1)) hgood C.2.2.2.2.1.2.2.1.1 C.2.2.2.2.1.2.2.1.2 hS (by rw [hls.1, hlen]; exact C.2.2.2.2.2.2.1.symm) d0 d3 d4 d6 d9 hout hRf (by simpa using hRl) (by omega) (by omega) C.2.2.2.2.2.1 (fun t _ h1 h2 => ⟨rfl, h1, h2⟩) hS.2.2 (Nat.le_refl _) (Nat.le_refl _)
  refine Wmono ?_ k
  rintro t ⟨o, h1, h2, h4⟩
  refine ⟨o, h1, h2, ?_⟩
  rcases h4 with ⟨h4, -⟩ | ⟨q9, rfl, E9, ce9, L9, ⟨rfl, hz, hh⟩, g1, g2, g3, g4, g5, g6⟩
  · exact h4.elim
  · have hW2 : Wld G S F I t.heap := by
      obtain ⟨w1, w2, w3, w4, w5⟩ := hW
      exact ⟨w1.kept fun k q hk => hh _ (w1 k q hk).lt, w2, w3, w4, w5⟩
    have hF : va_F (gAd G) (xs X) t := ⟨Nat.le_trans hS.1 hz, fun q hq hA => by rw [hh q (Nat.lt_of_lt_of_le hq hS.1)]; exact hS.2.1 q hq hA⟩
    exact Or.inr ⟨q9, E9, ce9, (sL S, sK S, sR S, sN S, sG S, sa S - 1, sb S - 6), F, I, L9, cells + 1, slots + 6, rfl, h, hW2, hF, g1, g2, g3, g4, g5, g6, by show cells + 1 + (sa S - 1) ≤ _; omega, by show slots + 6 + (sb S - 6) ≤ _; omega⟩
end RulesH
end
section
/-! Math.max, Math.min -/
theorem mm_words : (Cond.static Lib.Math.max.name ∈ lw_good ∧ Cond.code Lib.Math.max.name Lib.Math.max.code 2 (some .int) ∈ lw_good) ∧ (Cond.static Lib.Math.min.name ∈ lw_good ∧ Cond.code Lib.Math.min.name Lib.Math.min.code 2 (some .int) ∈ lw_good) ∧ Cond.initialized "java/lang/Math" ∈ lw_good :=
  ⟨⟨List.mem_filter.mpr ⟨by decide +kernel, by decide +kernel⟩, List.mem_filter.mpr ⟨by decide +kernel, by decide +kernel⟩⟩, ⟨List.mem_filter.mpr ⟨by decide +kernel, by decide +kernel⟩, List.mem_filter.mpr ⟨by decide +kernel, by decide +kernel⟩⟩, List.mem_filter.mpr ⟨by decide +kernel, by decide +kernel⟩⟩
theorem rg_ite {p : Prop} [Decidable p] {a b : Int} (ha : rg a) (hb : rg b) : rg (if p then a else b) := by
  split
  · exact ha
  · exact hb
section RulesM
variable {G : Gp} {own : String} {cc : ByteArray} {nL : Nat} {X : Xt} {QQ : State → Prop} {pc : Nat} {L st : List PV} {S : Shp} {F : Fl} {I : Il} {ret : Option FieldType} {nm : String} {d : Nat}
theorem K_mmax (C : CO G own cc nL X) (M : MX (d + 1) ret nm X) {index : Nat} {a b : Int} (hl : Cond.methodLink own index Lib.Math.max.name ∈ lw_good) (hd : decode cc pc = .ok (.invokestatic index, 3)) (hlen : L.length = nL) (hcat : (st.map fun v => (tv v).category).sum ≤ 8) (h : J G X QQ (pc + 3) L (vi (if a < b then b else a) :: st) S F I) : J G X QQ pc L (vi b :: vi a :: st) S F I := by
  intro H locs ls cells slots hW hS hls hL hst hca hcb
  have hb : rg b := whi hst
  have ha : rg a := whi (wt hst)
  refine va_mmax C.1 C.2.1 (by rw [C.2.2.2.2.2.2.1, ← hlen]; exact hls.1.symm) C.2.2.1 (C.2.2.2.1 _ hl) (C.2.2.2.1 _ mm_words.1.1) (C.2.2.2.1 _ mm_words.2.2) (C.2.2.2.1 _ mm_words.1.2) (by rw [M.1]; omega) (by have := cat_le st hcat; have h9 := M.2.1; omega) (by omega) (by omega) hd ?_
  have e : Value.int (if Int32.ofInt a < Int32.ofInt b then Int32.ofInt b else Int32.ofInt a) = tv (vi (if a < b then b else a)) := by
    show _ = Value.int (Int32.ofInt (if a < b then b else a))
    by_cases c : a < b
    · rw [if_pos c, if_pos ((i_lt ha hb).mpr c)]
    · rw [if_neg c, if_neg (fun w => c ((i_lt ha hb).mp w))]
  rw [e]
  exact h H locs ls cells slots hW hS hls hL (wci (rg_ite hb ha) (wt (wt hst))) hca hcb
theorem K_mmin (C : CO G own cc nL X) (M : MX (d + 1) ret nm X) {index : Nat} {a b : Int} (hl : Cond.methodLink own index Lib.Math.min.name ∈ lw_good) (hd : decode cc pc = .ok (.invokestatic index, 3)) (hlen : L.length = nL) (hcat : (st.map fun v => (tv v).category).sum ≤ 8) (h : J G X QQ (pc + 3) L (vi (if b < a then b else a) :: st) S F I) : J G X QQ pc L (vi b :: vi a :: st) S F I := by
  intro H locs ls cells slots hW hS hls hL hst hca hcb
  have hb : rg b := whi hst
  have ha : rg a := whi (wt hst)
  refine va_mmin C.1 C.2.1 (by rw [C.2.2.2.2.2.2.1, ← hlen]; exact hls.1.symm) C.2.2.1 (C.2.2.2.1 _ hl) (C.2.2.2.1 _ mm_words.2.1.1) (C.2.2.2.1 _ mm_words.2.2) (C.2.2.2.1 _ mm_words.2.1.2) (by rw [M.1]; omega) (by have := cat_le st hcat; have h9 := M.2.1; omega) (by omega) (by omega) hd ?_
  have e : Value.int (if Int32.ofInt b < Int32.ofInt a then Int32.ofInt b else Int32.ofInt a) = tv (vi (if b < a then b else a)) := by
    show _ = Value.int (Int32.ofInt (if b < a then b else a))
    by_cases c : b < a
    · rw [if_pos c, if_pos ((i_lt hb ha).mpr c)]
    · rw [if_neg c, if_neg (fun w => c ((i_lt hb ha).mp w))]
  rw [e]
  exact h H locs ls cells slots hW hS hls hL (wci (rg_ite hb ha) (wt (wt hst))) hca hcb
end RulesM
end
section
theorem dL_cell_0 : decode cL_cell 0 = .ok (.iload_n 1, 1) := by decide +kernel
theorem dL_cell_1 : decode cL_cell 1 = .ok (.aload_n 0, 1) := by decide +kernel
theorem dL_cell_2 : decode cL_cell 2 = .ok (.arraylength, 1) := by decide +kernel
theorem dL_cell_3 : decode cL_cell 3 = .ok (.if_icmp .ge 9, 3) := by decide +kernel
theorem dL_cell_6 : decode cL_cell 6 = .ok (.aload_n 0, 1) := by decide +kernel
theorem dL_cell_7 : decode cL_cell 7 = .ok (.iload_n 1, 1) := by decide +kernel
theorem dL_cell_8 : decode cL_cell 8 = .ok (.iaload, 1) := by decide +kernel
theorem dL_cell_9 : decode cL_cell 9 = .ok (.goto 13, 3) := by decide +kernel
theorem dL_cell_12 : decode cL_cell 12 = .ok (.ldc 7, 2) := by decide +kernel
theorem dL_cell_14 : decode cL_cell 14 = .ok (.iload_n 1, 1) := by decide +kernel
theorem dL_cell_15 : decode cL_cell 15 = .ok (.bipush 19, 2) := by decide +kernel
theorem dL_cell_17 : decode cL_cell 17 = .ok (.iadd, 1) := by decide +kernel
theorem dL_cell_18 : decode cL_cell 18 = .ok (.imul, 1) := by decide +kernel
theorem dL_cell_19 : decode cL_cell 19 = .ok (.ldc 8, 2) := by decide +kernel
theorem dL_cell_21 : decode cL_cell 21 = .ok (.iadd, 1) := by decide +kernel
theorem dL_cell_22 : decode cL_cell 22 = .ok (.ireturn, 1) := by decide +kernel
theorem dL_low_0 : decode cL_low 0 = .ok (.iload_n 0, 1) := by decide +kernel
theorem dL_low_1 : decode cL_low 1 = .ok (.ldc 9, 2) := by decide +kernel
theorem dL_low_3 : decode cL_low 3 = .ok (.iand, 1) := by decide +kernel
theorem dL_low_4 : decode cL_low 4 = .ok (.iload_n 1, 1) := by decide +kernel
theorem dL_low_5 : decode cL_low 5 = .ok (.irem, 1) := by decide +kernel
theorem dL_low_6 : decode cL_low 6 = .ok (.ireturn, 1) := by decide +kernel
theorem dL_calls_0 : decode cL_calls 0 = .ok (.iload_n 1, 1) := by decide +kernel
theorem dL_calls_1 : decode cL_calls 1 = .ok (.ifCond .ne 12, 3) := by decide +kernel
theorem dL_calls_4 : decode cL_calls 4 = .ok (.aload_n 0, 1) := by decide +kernel
theorem dL_calls_5 : decode cL_calls 5 = .ok (.iload_n 2, 1) := by decide +kernel
theorem dL_calls_6 : decode cL_calls 6 = .ok (.iload_n 3, 1) := by decide +kernel
theorem dL_calls_7 : decode cL_calls 7 = .ok (.invokevirtual 10, 3) := by decide +kernel
theorem dL_calls_10 : decode cL_calls 10 = .ok (.goto 65, 3) := by decide +kernel
theorem dL_calls_13 : decode cL_calls 13 = .ok (.iload_n 1, 1) := by decide +kernel
theorem dL_calls_14 : decode cL_calls 14 = .ok (.iconst 1, 1) := by decide +kernel
theorem dL_calls_15 : decode cL_calls 15 = .ok (.if_icmp .ne 14, 3) := by decide +kernel
theorem dL_calls_18 : decode cL_calls 18 = .ok (.aload_n 0, 1) := by decide +kernel
theorem dL_calls_19 : decode cL_calls 19 = .ok (.iload_n 2, 1) := by decide +kernel
theorem dL_calls_20 : decode cL_calls 20 = .ok (.iload_n 3, 1) := by decide +kernel
theorem dL_calls_21 : decode cL_calls 21 = .ok (.iload 4, 2) := by decide +kernel
theorem dL_calls_23 : decode cL_calls 23 = .ok (.invokevirtual 16, 3) := by decide +kernel
theorem dL_calls_26 : decode cL_calls 26 = .ok (.goto 49, 3) := by decide +kernel
theorem dL_calls_29 : decode cL_calls 29 = .ok (.iload_n 1, 1) := by decide +kernel
theorem dL_calls_30 : decode cL_calls 30 = .ok (.iconst 2, 1) := by decide +kernel
theorem dL_calls_31 : decode cL_calls 31 = .ok (.if_icmp .ne 11, 3) := by decide +kernel
theorem dL_calls_34 : decode cL_calls 34 = .ok (.aload_n 0, 1) := by decide +kernel
theorem dL_calls_35 : decode cL_calls 35 = .ok (.iload_n 2, 1) := by decide +kernel
theorem dL_calls_36 : decode cL_calls 36 = .ok (.invokevirtual 20, 3) := by decide +kernel
theorem dL_calls_39 : decode cL_calls 39 = .ok (.goto 36, 3) := by decide +kernel
theorem dL_calls_42 : decode cL_calls 42 = .ok (.iload_n 1, 1) := by decide +kernel
theorem dL_calls_43 : decode cL_calls 43 = .ok (.iconst 3, 1) := by decide +kernel
theorem dL_calls_44 : decode cL_calls 44 = .ok (.if_icmp .ne 11, 3) := by decide +kernel
theorem dL_calls_47 : decode cL_calls 47 = .ok (.aload_n 0, 1) := by decide +kernel
theorem dL_calls_48 : decode cL_calls 48 = .ok (.iload_n 2, 1) := by decide +kernel
theorem dL_calls_49 : decode cL_calls 49 = .ok (.invokevirtual 24, 3) := by decide +kernel
theorem dL_calls_52 : decode cL_calls 52 = .ok (.goto 23, 3) := by decide +kernel
theorem dL_calls_55 : decode cL_calls 55 = .ok (.iload_n 1, 1) := by decide +kernel
theorem dL_calls_56 : decode cL_calls 56 = .ok (.iconst 4, 1) := by decide +kernel
theorem dL_calls_57 : decode cL_calls 57 = .ok (.if_icmp .ne 12, 3) := by decide +kernel
theorem dL_calls_60 : decode cL_calls 60 = .ok (.aload_n 0, 1) := by decide +kernel
theorem dL_calls_61 : decode cL_calls 61 = .ok (.iload_n 2, 1) := by decide +kernel
theorem dL_calls_62 : decode cL_calls 62 = .ok (.iload_n 3, 1) := by decide +kernel
theorem dL_calls_63 : decode cL_calls 63 = .ok (.invokevirtual 27, 3) := by decide +kernel
theorem dL_calls_66 : decode cL_calls 66 = .ok (.goto 9, 3) := by decide +kernel
theorem dL_calls_69 : decode cL_calls 69 = .ok (.aload_n 0, 1) := by decide +kernel
theorem dL_calls_70 : decode cL_calls 70 = .ok (.iload_n 2, 1) := by decide +kernel
theorem dL_calls_71 : decode cL_calls 71 = .ok (.iload_n 3, 1) := by decide +kernel
theorem dL_calls_72 : decode cL_calls 72 = .ok (.invokevirtual 30, 3) := by decide +kernel
theorem dL_calls_75 : decode cL_calls 75 = .ok (.ireturn, 1) := by decide +kernel
theorem dL_calls_76 : decode cL_calls 76 = .ok (.astore 5, 2) := by decide +kernel
theorem dL_calls_78 : decode cL_calls 78 = .ok (.sipush (-1003), 3) := by decide +kernel
theorem dL_calls_81 : decode cL_calls 81 = .ok (.ireturn, 1) := by decide +kernel
theorem dL_flags_0 : decode cL_flags 0 = .ok (.aload_n 0, 1) := by decide +kernel
theorem dL_flags_1 : decode cL_flags 1 = .ok (.iload_n 1, 1) := by decide +kernel
theorem dL_flags_2 : decode cL_flags 2 = .ok (.iconst 2, 1) := by decide +kernel
theorem dL_flags_3 : decode cL_flags 3 = .ok (.invokevirtual 35, 3) := by decide +kernel
theorem dL_flags_6 : decode cL_flags 6 = .ok (.ireturn, 1) := by decide +kernel
theorem dL_other_0 : decode cL_other 0 = .ok (.iload_n 1, 1) := by decide +kernel
theorem dL_other_1 : decode cL_other 1 = .ok (.iload_n 0, 1) := by decide +kernel
theorem dL_other_2 : decode cL_other 2 = .ok (.if_icmp .ne 11, 3) := by decide +kernel
theorem dL_other_5 : decode cL_other 5 = .ok (.iload_n 0, 1) := by decide +kernel
theorem dL_other_6 : decode cL_other 6 = .ok (.iconst 1, 1) := by decide +kernel
theorem dL_other_7 : decode cL_other 7 = .ok (.iadd, 1) := by decide +kernel
theorem dL_other_8 : decode cL_other 8 = .ok (.iconst 4, 1) := by decide +kernel
theorem dL_other_9 : decode cL_other 9 = .ok (.irem, 1) := by decide +kernel
theorem dL_other_10 : decode cL_other 10 = .ok (.goto 17, 3) := by decide +kernel
theorem dL_other_13 : decode cL_other 13 = .ok (.iload_n 1, 1) := by decide +kernel
theorem dL_other_14 : decode cL_other 14 = .ok (.iload_n 0, 1) := by decide +kernel
theorem dL_other_15 : decode cL_other 15 = .ok (.iconst 1, 1) := by decide +kernel
theorem dL_other_16 : decode cL_other 16 = .ok (.iadd, 1) := by decide +kernel
theorem dL_other_17 : decode cL_other 17 = .ok (.iconst 4, 1) := by decide +kernel
theorem dL_other_18 : decode cL_other 18 = .ok (.irem, 1) := by decide +kernel
theorem dL_other_19 : decode cL_other 19 = .ok (.if_icmp .ne 7, 3) := by decide +kernel
theorem dL_other_22 : decode cL_other 22 = .ok (.iload_n 0, 1) := by decide +kernel
theorem dL_other_23 : decode cL_other 23 = .ok (.goto 4, 3) := by decide +kernel
theorem dL_other_26 : decode cL_other 26 = .ok (.iconst (-1), 1) := by decide +kernel
theorem dL_other_27 : decode cL_other 27 = .ok (.ireturn, 1) := by decide +kernel
theorem dL_taken_0 : decode cL_taken 0 = .ok (.iconst 0, 1) := by decide +kernel
theorem dL_taken_1 : decode cL_taken 1 = .ok (.istore_n 2, 1) := by decide +kernel
theorem dL_taken_2 : decode cL_taken 2 = .ok (.iconst 0, 1) := by decide +kernel
theorem dL_taken_3 : decode cL_taken 3 = .ok (.istore_n 3, 1) := by decide +kernel
theorem dL_taken_4 : decode cL_taken 4 = .ok (.iload_n 3, 1) := by decide +kernel
theorem dL_taken_5 : decode cL_taken 5 = .ok (.bipush 48, 2) := by decide +kernel
theorem dL_taken_7 : decode cL_taken 7 = .ok (.if_icmp .ge 33, 3) := by decide +kernel
theorem dL_taken_10 : decode cL_taken 10 = .ok (.iload_n 2, 1) := by decide +kernel
theorem dL_taken_11 : decode cL_taken 11 = .ok (.aload_n 1, 1) := by decide +kernel
theorem dL_taken_12 : decode cL_taken 12 = .ok (.iload_n 3, 1) := by decide +kernel
theorem dL_taken_13 : decode cL_taken 13 = .ok (.iaload, 1) := by decide +kernel
theorem dL_taken_14 : decode cL_taken 14 = .ok (.iconst 1, 1) := by decide +kernel
theorem dL_taken_15 : decode cL_taken 15 = .ok (.if_icmp .ne 16, 3) := by decide +kernel
theorem dL_taken_18 : decode cL_taken 18 = .ok (.aload_n 1, 1) := by decide +kernel
theorem dL_taken_19 : decode cL_taken 19 = .ok (.iload_n 3, 1) := by decide +kernel
theorem dL_taken_20 : decode cL_taken 20 = .ok (.iconst 4, 1) := by decide +kernel
theorem dL_taken_21 : decode cL_taken 21 = .ok (.iadd, 1) := by decide +kernel
theorem dL_taken_22 : decode cL_taken 22 = .ok (.iaload, 1) := by decide +kernel
theorem dL_taken_23 : decode cL_taken 23 = .ok (.iload_n 0, 1) := by decide +kernel
theorem dL_taken_24 : decode cL_taken 24 = .ok (.if_icmp .ne 7, 3) := by decide +kernel
theorem dL_taken_27 : decode cL_taken 27 = .ok (.iconst 1, 1) := by decide +kernel
theorem dL_taken_28 : decode cL_taken 28 = .ok (.goto 4, 3) := by decide +kernel
theorem dL_taken_31 : decode cL_taken 31 = .ok (.iconst 0, 1) := by decide +kernel
theorem dL_taken_32 : decode cL_taken 32 = .ok (.iadd, 1) := by decide +kernel
theorem dL_taken_33 : decode cL_taken 33 = .ok (.istore_n 2, 1) := by decide +kernel
theorem dL_taken_34 : decode cL_taken 34 = .ok (.iinc 3 16, 3) := by decide +kernel
theorem dL_taken_37 : decode cL_taken 37 = .ok (.goto (-33), 3) := by decide +kernel
theorem dL_taken_40 : decode cL_taken 40 = .ok (.iload_n 2, 1) := by decide +kernel
theorem dL_taken_41 : decode cL_taken 41 = .ok (.ireturn, 1) := by decide +kernel
theorem dL_runs_0 : decode cL_runs 0 = .ok (.aload_n 2, 1) := by decide +kernel
theorem dL_runs_1 : decode cL_runs 1 = .ok (.iload_n 1, 1) := by decide +kernel
theorem dL_runs_2 : decode cL_runs 2 = .ok (.iaload, 1) := by decide +kernel
theorem dL_runs_3 : decode cL_runs 3 = .ok (.aload_n 2, 1) := by decide +kernel
theorem dL_runs_4 : decode cL_runs 4 = .ok (.iload_n 1, 1) := by decide +kernel
theorem dL_runs_5 : decode cL_runs 5 = .ok (.iaload, 1) := by decide +kernel
theorem dL_runs_6 : decode cL_runs 6 = .ok (.iconst 2, 1) := by decide +kernel
theorem dL_runs_7 : decode cL_runs 7 = .ok (.imul, 1) := by decide +kernel
theorem dL_runs_8 : decode cL_runs 8 = .ok (.aload_n 3, 1) := by decide +kernel
theorem dL_runs_9 : decode cL_runs 9 = .ok (.iload_n 0, 1) := by decide +kernel
theorem dL_runs_10 : decode cL_runs 10 = .ok (.iconst 2, 1) := by decide +kernel
theorem dL_runs_11 : decode cL_runs 11 = .ok (.iadd, 1) := by decide +kernel
theorem dL_runs_12 : decode cL_runs 12 = .ok (.iaload, 1) := by decide +kernel
theorem dL_runs_13 : decode cL_runs 13 = .ok (.imul, 1) := by decide +kernel
theorem dL_runs_14 : decode cL_runs 14 = .ok (.bipush 10, 2) := by decide +kernel
theorem dL_runs_16 : decode cL_runs 16 = .ok (.aload_n 3, 1) := by decide +kernel
theorem dL_runs_17 : decode cL_runs 17 = .ok (.iload_n 0, 1) := by decide +kernel
theorem dL_runs_18 : decode cL_runs 18 = .ok (.iconst 1, 1) := by decide +kernel
theorem dL_runs_19 : decode cL_runs 19 = .ok (.iadd, 1) := by decide +kernel
theorem dL_runs_20 : decode cL_runs 20 = .ok (.iaload, 1) := by decide +kernel
theorem dL_runs_21 : decode cL_runs 21 = .ok (.imul, 1) := by decide +kernel
theorem dL_runs_22 : decode cL_runs 22 = .ok (.idiv, 1) := by decide +kernel
theorem dL_runs_23 : decode cL_runs 23 = .ok (.iadd, 1) := by decide +kernel
theorem dL_runs_24 : decode cL_runs 24 = .ok (.istore 4, 2) := by decide +kernel
theorem dL_runs_26 : decode cL_runs 26 = .ok (.iload 4, 2) := by decide +kernel
theorem dL_runs_28 : decode cL_runs 28 = .ok (.aload_n 2, 1) := by decide +kernel
theorem dL_runs_29 : decode cL_runs 29 = .ok (.bipush 8, 2) := by decide +kernel
theorem dL_runs_31 : decode cL_runs 31 = .ok (.iload_n 1, 1) := by decide +kernel
theorem dL_runs_32 : decode cL_runs 32 = .ok (.iadd, 1) := by decide +kernel
theorem dL_runs_33 : decode cL_runs 33 = .ok (.iaload, 1) := by decide +kernel
theorem dL_runs_34 : decode cL_runs 34 = .ok (.bipush 59, 2) := by decide +kernel
theorem dL_runs_36 : decode cL_runs 36 = .ok (.if_icmp .le 9, 3) := by decide +kernel
theorem dL_runs_39 : decode cL_runs 39 = .ok (.aload_n 2, 1) := by decide +kernel
theorem dL_runs_40 : decode cL_runs 40 = .ok (.iload_n 1, 1) := by decide +kernel
theorem dL_runs_41 : decode cL_runs 41 = .ok (.iaload, 1) := by decide +kernel
theorem dL_runs_42 : decode cL_runs 42 = .ok (.goto 4, 3) := by decide +kernel
theorem dL_runs_45 : decode cL_runs 45 = .ok (.iconst 0, 1) := by decide +kernel
theorem dL_runs_46 : decode cL_runs 46 = .ok (.iadd, 1) := by decide +kernel
theorem dL_runs_47 : decode cL_runs 47 = .ok (.istore 4, 2) := by decide +kernel
theorem dL_runs_49 : decode cL_runs 49 = .ok (.aload_n 2, 1) := by decide +kernel
theorem dL_runs_50 : decode cL_runs 50 = .ok (.bipush 12, 2) := by decide +kernel
theorem dL_runs_52 : decode cL_runs 52 = .ok (.iload_n 1, 1) := by decide +kernel
theorem dL_runs_53 : decode cL_runs 53 = .ok (.iadd, 1) := by decide +kernel
theorem dL_runs_54 : decode cL_runs 54 = .ok (.iaload, 1) := by decide +kernel
theorem dL_runs_55 : decode cL_runs 55 = .ok (.iconst 1, 1) := by decide +kernel
theorem dL_runs_56 : decode cL_runs 56 = .ok (.if_icmp .ne 10, 3) := by decide +kernel
theorem dL_runs_59 : decode cL_runs 59 = .ok (.iload 4, 2) := by decide +kernel
theorem dL_runs_61 : decode cL_runs 61 = .ok (.iconst 2, 1) := by decide +kernel
theorem dL_runs_62 : decode cL_runs 62 = .ok (.imul, 1) := by decide +kernel
theorem dL_runs_63 : decode cL_runs 63 = .ok (.goto 5, 3) := by decide +kernel
theorem dL_runs_66 : decode cL_runs 66 = .ok (.iload 4, 2) := by decide +kernel
theorem dL_runs_68 : decode cL_runs 68 = .ok (.ireturn, 1) := by decide +kernel
theorem dL_bars_0 : decode cL_bars 0 = .ok (.aload_n 3, 1) := by decide +kernel
theorem dL_bars_1 : decode cL_bars 1 = .ok (.iload_n 0, 1) := by decide +kernel
theorem dL_bars_2 : decode cL_bars 2 = .ok (.iconst 2, 1) := by decide +kernel
theorem dL_bars_3 : decode cL_bars 3 = .ok (.idiv, 1) := by decide +kernel
theorem dL_bars_4 : decode cL_bars 4 = .ok (.aload_n 2, 1) := by decide +kernel
theorem dL_bars_5 : decode cL_bars 5 = .ok (.iload_n 0, 1) := by decide +kernel
theorem dL_bars_6 : decode cL_bars 6 = .ok (.bipush 7, 2) := by decide +kernel
theorem dL_bars_8 : decode cL_bars 8 = .ok (.iadd, 1) := by decide +kernel
theorem dL_bars_9 : decode cL_bars 9 = .ok (.iaload, 1) := by decide +kernel
theorem dL_bars_10 : decode cL_bars 10 = .ok (.iadd, 1) := by decide +kernel
theorem dL_bars_11 : decode cL_bars 11 = .ok (.iaload, 1) := by decide +kernel
theorem dL_bars_12 : decode cL_bars 12 = .ok (.istore 5, 2) := by decide +kernel
theorem dL_bars_14 : decode cL_bars 14 = .ok (.iload_n 0, 1) := by decide +kernel
theorem dL_bars_15 : decode cL_bars 15 = .ok (.iload 5, 2) := by decide +kernel
theorem dL_bars_17 : decode cL_bars 17 = .ok (.aload_n 1, 1) := by decide +kernel
theorem dL_bars_18 : decode cL_bars 18 = .ok (.aload_n 2, 1) := by decide +kernel
theorem dL_bars_19 : decode cL_bars 19 = .ok (.invokestatic 38, 3) := by decide +kernel
theorem dL_bars_22 : decode cL_bars 22 = .ok (.istore 6, 2) := by decide +kernel
theorem dL_bars_24 : decode cL_bars 24 = .ok (.aload_n 2, 1) := by decide +kernel
theorem dL_bars_25 : decode cL_bars 25 = .ok (.iload_n 0, 1) := by decide +kernel
theorem dL_bars_26 : decode cL_bars 26 = .ok (.bipush 7, 2) := by decide +kernel
theorem dL_bars_28 : decode cL_bars 28 = .ok (.iadd, 1) := by decide +kernel
theorem dL_bars_29 : decode cL_bars 29 = .ok (.iaload, 1) := by decide +kernel
theorem dL_bars_30 : decode cL_bars 30 = .ok (.ifCond .ne 18, 3) := by decide +kernel
theorem dL_bars_33 : decode cL_bars 33 = .ok (.aload 4, 2) := by decide +kernel
theorem dL_bars_35 : decode cL_bars 35 = .ok (.iconst 0, 1) := by decide +kernel
theorem dL_bars_36 : decode cL_bars 36 = .ok (.iaload, 1) := by decide +kernel
theorem dL_bars_37 : decode cL_bars 37 = .ok (.aload_n 2, 1) := by decide +kernel
theorem dL_bars_38 : decode cL_bars 38 = .ok (.iload_n 0, 1) := by decide +kernel
theorem dL_bars_39 : decode cL_bars 39 = .ok (.bipush 9, 2) := by decide +kernel
theorem dL_bars_41 : decode cL_bars 41 = .ok (.iadd, 1) := by decide +kernel
theorem dL_bars_42 : decode cL_bars 42 = .ok (.iaload, 1) := by decide +kernel
theorem dL_bars_43 : decode cL_bars 43 = .ok (.if_icmp .ge 5, 3) := by decide +kernel
theorem dL_bars_46 : decode cL_bars 46 = .ok (.iconst 1, 1) := by decide +kernel
theorem dL_bars_47 : decode cL_bars 47 = .ok (.ireturn, 1) := by decide +kernel
theorem dL_bars_48 : decode cL_bars 48 = .ok (.bipush 16, 2) := by decide +kernel
theorem dL_bars_50 : decode cL_bars 50 = .ok (.aload_n 2, 1) := by decide +kernel
theorem dL_bars_51 : decode cL_bars 51 = .ok (.iload_n 0, 1) := by decide +kernel
theorem dL_bars_52 : decode cL_bars 52 = .ok (.bipush 11, 2) := by decide +kernel
theorem dL_bars_54 : decode cL_bars 54 = .ok (.iadd, 1) := by decide +kernel
theorem dL_bars_55 : decode cL_bars 55 = .ok (.iaload, 1) := by decide +kernel
theorem dL_bars_56 : decode cL_bars 56 = .ok (.imul, 1) := by decide +kernel
theorem dL_bars_57 : decode cL_bars 57 = .ok (.istore 7, 2) := by decide +kernel
theorem dL_bars_59 : decode cL_bars 59 = .ok (.iload 7, 2) := by decide +kernel
theorem dL_bars_61 : decode cL_bars 61 = .ok (.ifCond .lt 50, 3) := by decide +kernel
theorem dL_bars_64 : decode cL_bars 64 = .ok (.aload_n 2, 1) := by decide +kernel
theorem dL_bars_65 : decode cL_bars 65 = .ok (.iload_n 0, 1) := by decide +kernel
theorem dL_bars_66 : decode cL_bars 66 = .ok (.bipush 12, 2) := by decide +kernel
theorem dL_bars_68 : decode cL_bars 68 = .ok (.iadd, 1) := by decide +kernel
theorem dL_bars_69 : decode cL_bars 69 = .ok (.iaload, 1) := by decide +kernel
theorem dL_bars_70 : decode cL_bars 70 = .ok (.aload_n 2, 1) := by decide +kernel
theorem dL_bars_71 : decode cL_bars 71 = .ok (.iload_n 0, 1) := by decide +kernel
theorem dL_bars_72 : decode cL_bars 72 = .ok (.iconst 4, 1) := by decide +kernel
theorem dL_bars_73 : decode cL_bars 73 = .ok (.iadd, 1) := by decide +kernel
theorem dL_bars_74 : decode cL_bars 74 = .ok (.iaload, 1) := by decide +kernel
theorem dL_bars_75 : decode cL_bars 75 = .ok (.if_icmp .ne 36, 3) := by decide +kernel
theorem dL_bars_78 : decode cL_bars 78 = .ok (.aload_n 2, 1) := by decide +kernel
theorem dL_bars_79 : decode cL_bars 79 = .ok (.iload 7, 2) := by decide +kernel
theorem dL_bars_81 : decode cL_bars 81 = .ok (.iaload, 1) := by decide +kernel
theorem dL_bars_82 : decode cL_bars 82 = .ok (.ifCond .eq 27, 3) := by decide +kernel
theorem dL_bars_85 : decode cL_bars 85 = .ok (.aload_n 2, 1) := by decide +kernel
theorem dL_bars_86 : decode cL_bars 86 = .ok (.iload 7, 2) := by decide +kernel
theorem dL_bars_88 : decode cL_bars 88 = .ok (.iconst 3, 1) := by decide +kernel
theorem dL_bars_89 : decode cL_bars 89 = .ok (.iadd, 1) := by decide +kernel
theorem dL_bars_90 : decode cL_bars 90 = .ok (.iaload, 1) := by decide +kernel
theorem dL_bars_91 : decode cL_bars 91 = .ok (.iconst 2, 1) := by decide +kernel
theorem dL_bars_92 : decode cL_bars 92 = .ok (.if_icmp .eq 17, 3) := by decide +kernel
theorem dL_bars_95 : decode cL_bars 95 = .ok (.aload_n 2, 1) := by decide +kernel
theorem dL_bars_96 : decode cL_bars 96 = .ok (.iload 7, 2) := by decide +kernel
theorem dL_bars_98 : decode cL_bars 98 = .ok (.iconst 4, 1) := by decide +kernel
theorem dL_bars_99 : decode cL_bars 99 = .ok (.iadd, 1) := by decide +kernel
theorem dL_bars_100 : decode cL_bars 100 = .ok (.iaload, 1) := by decide +kernel
theorem dL_bars_101 : decode cL_bars 101 = .ok (.aload_n 2, 1) := by decide +kernel
theorem dL_bars_102 : decode cL_bars 102 = .ok (.iload_n 0, 1) := by decide +kernel
theorem dL_bars_103 : decode cL_bars 103 = .ok (.iconst 4, 1) := by decide +kernel
theorem dL_bars_104 : decode cL_bars 104 = .ok (.iadd, 1) := by decide +kernel
theorem dL_bars_105 : decode cL_bars 105 = .ok (.iaload, 1) := by decide +kernel
theorem dL_bars_106 : decode cL_bars 106 = .ok (.if_icmp .eq 5, 3) := by decide +kernel
theorem dL_bars_109 : decode cL_bars 109 = .ok (.iconst 2, 1) := by decide +kernel
theorem dL_bars_110 : decode cL_bars 110 = .ok (.ireturn, 1) := by decide +kernel
theorem dL_bars_111 : decode cL_bars 111 = .ok (.aload_n 1, 1) := by decide +kernel
theorem dL_bars_112 : decode cL_bars 112 = .ok (.bipush 28, 2) := by decide +kernel
theorem dL_bars_114 : decode cL_bars 114 = .ok (.iload 5, 2) := by decide +kernel
theorem dL_bars_116 : decode cL_bars 116 = .ok (.iadd, 1) := by decide +kernel
theorem dL_bars_117 : decode cL_bars 117 = .ok (.iaload, 1) := by decide +kernel
theorem dL_bars_118 : decode cL_bars 118 = .ok (.ifCond .ge 17, 3) := by decide +kernel
theorem dL_bars_121 : decode cL_bars 121 = .ok (.aload_n 1, 1) := by decide +kernel
theorem dL_bars_122 : decode cL_bars 122 = .ok (.bipush 36, 2) := by decide +kernel
theorem dL_bars_124 : decode cL_bars 124 = .ok (.iload 5, 2) := by decide +kernel
theorem dL_bars_126 : decode cL_bars 126 = .ok (.iadd, 1) := by decide +kernel
theorem dL_bars_127 : decode cL_bars 127 = .ok (.iaload, 1) := by decide +kernel
theorem dL_bars_128 : decode cL_bars 128 = .ok (.aload 4, 2) := by decide +kernel
theorem dL_bars_130 : decode cL_bars 130 = .ok (.iconst 0, 1) := by decide +kernel
theorem dL_bars_131 : decode cL_bars 131 = .ok (.iaload, 1) := by decide +kernel
theorem dL_bars_132 : decode cL_bars 132 = .ok (.if_icmp .le 19, 3) := by decide +kernel
theorem dL_bars_135 : decode cL_bars 135 = .ok (.aload_n 1, 1) := by decide +kernel
theorem dL_bars_136 : decode cL_bars 136 = .ok (.bipush 28, 2) := by decide +kernel
theorem dL_bars_138 : decode cL_bars 138 = .ok (.iload 5, 2) := by decide +kernel
theorem dL_bars_140 : decode cL_bars 140 = .ok (.iadd, 1) := by decide +kernel
theorem dL_bars_141 : decode cL_bars 141 = .ok (.iaload, 1) := by decide +kernel
theorem dL_bars_142 : decode cL_bars 142 = .ok (.ifCond .lt 7, 3) := by decide +kernel
theorem dL_bars_145 : decode cL_bars 145 = .ok (.iconst 3, 1) := by decide +kernel
theorem dL_bars_146 : decode cL_bars 146 = .ok (.goto 4, 3) := by decide +kernel
theorem dL_bars_149 : decode cL_bars 149 = .ok (.iconst 4, 1) := by decide +kernel
theorem dL_bars_150 : decode cL_bars 150 = .ok (.ireturn, 1) := by decide +kernel
theorem dL_bars_151 : decode cL_bars 151 = .ok (.aload_n 1, 1) := by decide +kernel
theorem dL_bars_152 : decode cL_bars 152 = .ok (.bipush 12, 2) := by decide +kernel
theorem dL_bars_154 : decode cL_bars 154 = .ok (.iload 5, 2) := by decide +kernel
theorem dL_bars_156 : decode cL_bars 156 = .ok (.iadd, 1) := by decide +kernel
theorem dL_bars_157 : decode cL_bars 157 = .ok (.iaload, 1) := by decide +kernel
theorem dL_bars_158 : decode cL_bars 158 = .ok (.iconst 1, 1) := by decide +kernel
theorem dL_bars_159 : decode cL_bars 159 = .ok (.if_icmp .ne 15, 3) := by decide +kernel
theorem dL_bars_162 : decode cL_bars 162 = .ok (.aload_n 1, 1) := by decide +kernel
theorem dL_bars_163 : decode cL_bars 163 = .ok (.bipush 16, 2) := by decide +kernel
theorem dL_bars_165 : decode cL_bars 165 = .ok (.iload 5, 2) := by decide +kernel
theorem dL_bars_167 : decode cL_bars 167 = .ok (.iadd, 1) := by decide +kernel
theorem dL_bars_168 : decode cL_bars 168 = .ok (.iaload, 1) := by decide +kernel
theorem dL_bars_169 : decode cL_bars 169 = .ok (.ifCond .ne 5, 3) := by decide +kernel
theorem dL_bars_172 : decode cL_bars 172 = .ok (.iconst 5, 1) := by decide +kernel
theorem dL_bars_173 : decode cL_bars 173 = .ok (.ireturn, 1) := by decide +kernel
theorem dL_bars_174 : decode cL_bars 174 = .ok (.aload 4, 2) := by decide +kernel
theorem dL_bars_176 : decode cL_bars 176 = .ok (.iconst 0, 1) := by decide +kernel
theorem dL_bars_177 : decode cL_bars 177 = .ok (.iaload, 1) := by decide +kernel
theorem dL_bars_178 : decode cL_bars 178 = .ok (.istore 8, 2) := by decide +kernel
theorem dL_bars_180 : decode cL_bars 180 = .ok (.iload 8, 2) := by decide +kernel
theorem dL_bars_182 : decode cL_bars 182 = .ok (.aload 4, 2) := by decide +kernel
theorem dL_bars_184 : decode cL_bars 184 = .ok (.iconst 0, 1) := by decide +kernel
theorem dL_bars_185 : decode cL_bars 185 = .ok (.iaload, 1) := by decide +kernel
theorem dL_bars_186 : decode cL_bars 186 = .ok (.iload 6, 2) := by decide +kernel
theorem dL_bars_188 : decode cL_bars 188 = .ok (.iadd, 1) := by decide +kernel
theorem dL_bars_189 : decode cL_bars 189 = .ok (.iconst 1, 1) := by decide +kernel
theorem dL_bars_190 : decode cL_bars 190 = .ok (.iadd, 1) := by decide +kernel
theorem dL_bars_191 : decode cL_bars 191 = .ok (.aload_n 2, 1) := by decide +kernel
theorem dL_bars_192 : decode cL_bars 192 = .ok (.iload_n 0, 1) := by decide +kernel
theorem dL_bars_193 : decode cL_bars 193 = .ok (.iconst 2, 1) := by decide +kernel
theorem dL_bars_194 : decode cL_bars 194 = .ok (.iadd, 1) := by decide +kernel
theorem dL_bars_195 : decode cL_bars 195 = .ok (.iaload, 1) := by decide +kernel
theorem dL_bars_196 : decode cL_bars 196 = .ok (.iconst 4, 1) := by decide +kernel
theorem dL_bars_197 : decode cL_bars 197 = .ok (.idiv, 1) := by decide +kernel
theorem dL_bars_198 : decode cL_bars 198 = .ok (.iadd, 1) := by decide +kernel
theorem dL_bars_199 : decode cL_bars 199 = .ok (.if_icmp .ge 44, 3) := by decide +kernel
theorem dL_bars_202 : decode cL_bars 202 = .ok (.iload 8, 2) := by decide +kernel
theorem dL_bars_204 : decode cL_bars 204 = .ok (.sipush 1440, 3) := by decide +kernel
theorem dL_bars_207 : decode cL_bars 207 = .ok (.irem, 1) := by decide +kernel
theorem dL_bars_208 : decode cL_bars 208 = .ok (.aload_n 1, 1) := by decide +kernel
theorem dL_bars_209 : decode cL_bars 209 = .ok (.bipush 20, 2) := by decide +kernel
theorem dL_bars_211 : decode cL_bars 211 = .ok (.iload 5, 2) := by decide +kernel
theorem dL_bars_213 : decode cL_bars 213 = .ok (.iadd, 1) := by decide +kernel
theorem dL_bars_214 : decode cL_bars 214 = .ok (.iaload, 1) := by decide +kernel
theorem dL_bars_215 : decode cL_bars 215 = .ok (.if_icmp .lt 22, 3) := by decide +kernel
theorem dL_bars_218 : decode cL_bars 218 = .ok (.iload 8, 2) := by decide +kernel
theorem dL_bars_220 : decode cL_bars 220 = .ok (.sipush 1440, 3) := by decide +kernel
theorem dL_bars_223 : decode cL_bars 223 = .ok (.irem, 1) := by decide +kernel
theorem dL_bars_224 : decode cL_bars 224 = .ok (.aload_n 1, 1) := by decide +kernel
theorem dL_bars_225 : decode cL_bars 225 = .ok (.bipush 24, 2) := by decide +kernel
theorem dL_bars_227 : decode cL_bars 227 = .ok (.iload 5, 2) := by decide +kernel
theorem dL_bars_229 : decode cL_bars 229 = .ok (.iadd, 1) := by decide +kernel
theorem dL_bars_230 : decode cL_bars 230 = .ok (.iaload, 1) := by decide +kernel
theorem dL_bars_231 : decode cL_bars 231 = .ok (.if_icmp .ge 6, 3) := by decide +kernel
theorem dL_bars_234 : decode cL_bars 234 = .ok (.bipush 6, 2) := by decide +kernel
theorem dL_bars_236 : decode cL_bars 236 = .ok (.ireturn, 1) := by decide +kernel
theorem dL_bars_237 : decode cL_bars 237 = .ok (.iinc 8 1, 3) := by decide +kernel
theorem dL_bars_240 : decode cL_bars 240 = .ok (.goto (-60), 3) := by decide +kernel
theorem dL_bars_243 : decode cL_bars 243 = .ok (.iconst 2, 1) := by decide +kernel
theorem dL_bars_244 : decode cL_bars 244 = .ok (.aload_n 2, 1) := by decide +kernel
theorem dL_bars_245 : decode cL_bars 245 = .ok (.iload_n 0, 1) := by decide +kernel
theorem dL_bars_246 : decode cL_bars 246 = .ok (.iconst 2, 1) := by decide +kernel
theorem dL_bars_247 : decode cL_bars 247 = .ok (.iadd, 1) := by decide +kernel
theorem dL_bars_248 : decode cL_bars 248 = .ok (.iaload, 1) := by decide +kernel
theorem dL_bars_249 : decode cL_bars 249 = .ok (.imul, 1) := by decide +kernel
theorem dL_bars_250 : decode cL_bars 250 = .ok (.aload_n 2, 1) := by decide +kernel
theorem dL_bars_251 : decode cL_bars 251 = .ok (.iload_n 0, 1) := by decide +kernel
theorem dL_bars_252 : decode cL_bars 252 = .ok (.iconst 1, 1) := by decide +kernel
theorem dL_bars_253 : decode cL_bars 253 = .ok (.iadd, 1) := by decide +kernel
theorem dL_bars_254 : decode cL_bars 254 = .ok (.iaload, 1) := by decide +kernel
theorem dL_bars_255 : decode cL_bars 255 = .ok (.bipush 8, 2) := by decide +kernel
theorem dL_bars_257 : decode cL_bars 257 = .ok (.iconst 2, 1) := by decide +kernel
theorem dL_bars_258 : decode cL_bars 258 = .ok (.aload_n 1, 1) := by decide +kernel
theorem dL_bars_259 : decode cL_bars 259 = .ok (.iconst 4, 1) := by decide +kernel
theorem dL_bars_260 : decode cL_bars 260 = .ok (.iload 5, 2) := by decide +kernel
theorem dL_bars_262 : decode cL_bars 262 = .ok (.iadd, 1) := by decide +kernel
theorem dL_bars_263 : decode cL_bars 263 = .ok (.iaload, 1) := by decide +kernel
theorem dL_bars_264 : decode cL_bars 264 = .ok (.imul, 1) := by decide +kernel
theorem dL_bars_265 : decode cL_bars 265 = .ok (.isub, 1) := by decide +kernel
theorem dL_bars_266 : decode cL_bars 266 = .ok (.imul, 1) := by decide +kernel
theorem dL_bars_267 : decode cL_bars 267 = .ok (.if_icmp .le 6, 3) := by decide +kernel
theorem dL_bars_270 : decode cL_bars 270 = .ok (.bipush 7, 2) := by decide +kernel
theorem dL_bars_272 : decode cL_bars 272 = .ok (.ireturn, 1) := by decide +kernel
theorem dL_bars_273 : decode cL_bars 273 = .ok (.aload_n 2, 1) := by decide +kernel
theorem dL_bars_274 : decode cL_bars 274 = .ok (.iload_n 0, 1) := by decide +kernel
theorem dL_bars_275 : decode cL_bars 275 = .ok (.bipush 15, 2) := by decide +kernel
theorem dL_bars_277 : decode cL_bars 277 = .ok (.iadd, 1) := by decide +kernel
theorem dL_bars_278 : decode cL_bars 278 = .ok (.iaload, 1) := by decide +kernel
theorem dL_bars_279 : decode cL_bars 279 = .ok (.iload 5, 2) := by decide +kernel
theorem dL_bars_281 : decode cL_bars 281 = .ok (.ishr, 1) := by decide +kernel
theorem dL_bars_282 : decode cL_bars 282 = .ok (.iconst 1, 1) := by decide +kernel
theorem dL_bars_283 : decode cL_bars 283 = .ok (.iand, 1) := by decide +kernel
theorem dL_bars_284 : decode cL_bars 284 = .ok (.ifCond .ne 6, 3) := by decide +kernel
theorem dL_bars_287 : decode cL_bars 287 = .ok (.bipush 8, 2) := by decide +kernel
theorem dL_bars_289 : decode cL_bars 289 = .ok (.ireturn, 1) := by decide +kernel
theorem dL_bars_290 : decode cL_bars 290 = .ok (.aload_n 2, 1) := by decide +kernel
theorem dL_bars_291 : decode cL_bars 291 = .ok (.iload_n 0, 1) := by decide +kernel
theorem dL_bars_292 : decode cL_bars 292 = .ok (.bipush 14, 2) := by decide +kernel
theorem dL_bars_294 : decode cL_bars 294 = .ok (.iadd, 1) := by decide +kernel
theorem dL_bars_295 : decode cL_bars 295 = .ok (.iaload, 1) := by decide +kernel
theorem dL_bars_296 : decode cL_bars 296 = .ok (.aload 4, 2) := by decide +kernel
theorem dL_bars_298 : decode cL_bars 298 = .ok (.iconst 0, 1) := by decide +kernel
theorem dL_bars_299 : decode cL_bars 299 = .ok (.iaload, 1) := by decide +kernel
theorem dL_bars_300 : decode cL_bars 300 = .ok (.if_icmp .gt 18, 3) := by decide +kernel
theorem dL_bars_303 : decode cL_bars 303 = .ok (.aload_n 2, 1) := by decide +kernel
theorem dL_bars_304 : decode cL_bars 304 = .ok (.iload_n 0, 1) := by decide +kernel
theorem dL_bars_305 : decode cL_bars 305 = .ok (.bipush 13, 2) := by decide +kernel
theorem dL_bars_307 : decode cL_bars 307 = .ok (.iadd, 1) := by decide +kernel
theorem dL_bars_308 : decode cL_bars 308 = .ok (.iaload, 1) := by decide +kernel
theorem dL_bars_309 : decode cL_bars 309 = .ok (.iload 6, 2) := by decide +kernel
theorem dL_bars_311 : decode cL_bars 311 = .ok (.iadd, 1) := by decide +kernel
theorem dL_bars_312 : decode cL_bars 312 = .ok (.sipush 600, 3) := by decide +kernel
theorem dL_bars_315 : decode cL_bars 315 = .ok (.if_icmp .le 6, 3) := by decide +kernel
theorem dL_bars_318 : decode cL_bars 318 = .ok (.bipush 9, 2) := by decide +kernel
theorem dL_bars_320 : decode cL_bars 320 = .ok (.ireturn, 1) := by decide +kernel
theorem dL_bars_321 : decode cL_bars 321 = .ok (.iload 5, 2) := by decide +kernel
theorem dL_bars_323 : decode cL_bars 323 = .ok (.aload_n 2, 1) := by decide +kernel
theorem dL_bars_324 : decode cL_bars 324 = .ok (.iload_n 0, 1) := by decide +kernel
theorem dL_bars_325 : decode cL_bars 325 = .ok (.iconst 4, 1) := by decide +kernel
theorem dL_bars_326 : decode cL_bars 326 = .ok (.iadd, 1) := by decide +kernel
theorem dL_bars_327 : decode cL_bars 327 = .ok (.iaload, 1) := by decide +kernel
theorem dL_bars_328 : decode cL_bars 328 = .ok (.invokestatic 44, 3) := by decide +kernel
theorem dL_bars_331 : decode cL_bars 331 = .ok (.istore 8, 2) := by decide +kernel
theorem dL_bars_333 : decode cL_bars 333 = .ok (.iload 8, 2) := by decide +kernel
theorem dL_bars_335 : decode cL_bars 335 = .ok (.aload_n 2, 1) := by decide +kernel
theorem dL_bars_336 : decode cL_bars 336 = .ok (.invokestatic 47, 3) := by decide +kernel
theorem dL_bars_339 : decode cL_bars 339 = .ok (.aload 4, 2) := by decide +kernel
theorem dL_bars_341 : decode cL_bars 341 = .ok (.iconst 4, 1) := by decide +kernel
theorem dL_bars_342 : decode cL_bars 342 = .ok (.iload 8, 2) := by decide +kernel
theorem dL_bars_344 : decode cL_bars 344 = .ok (.iadd, 1) := by decide +kernel
theorem dL_bars_345 : decode cL_bars 345 = .ok (.iaload, 1) := by decide +kernel
theorem dL_bars_346 : decode cL_bars 346 = .ok (.if_icmp .lt 8, 3) := by decide +kernel
theorem dL_bars_349 : decode cL_bars 349 = .ok (.bipush 10, 2) := by decide +kernel
theorem dL_bars_351 : decode cL_bars 351 = .ok (.goto 4, 3) := by decide +kernel
theorem dL_bars_354 : decode cL_bars 354 = .ok (.iconst 0, 1) := by decide +kernel
theorem dL_bars_355 : decode cL_bars 355 = .ok (.ireturn, 1) := by decide +kernel
theorem dL_enters_0 : decode cL_enters 0 = .ok (.aload_n 3, 1) := by decide +kernel
theorem dL_enters_1 : decode cL_enters 1 = .ok (.iload_n 0, 1) := by decide +kernel
theorem dL_enters_2 : decode cL_enters 2 = .ok (.iconst 2, 1) := by decide +kernel
theorem dL_enters_3 : decode cL_enters 3 = .ok (.idiv, 1) := by decide +kernel
theorem dL_enters_4 : decode cL_enters 4 = .ok (.aload_n 2, 1) := by decide +kernel
theorem dL_enters_5 : decode cL_enters 5 = .ok (.iload_n 0, 1) := by decide +kernel
theorem dL_enters_6 : decode cL_enters 6 = .ok (.bipush 7, 2) := by decide +kernel
theorem dL_enters_8 : decode cL_enters 8 = .ok (.iadd, 1) := by decide +kernel
theorem dL_enters_9 : decode cL_enters 9 = .ok (.iaload, 1) := by decide +kernel
theorem dL_enters_10 : decode cL_enters 10 = .ok (.iadd, 1) := by decide +kernel
theorem dL_enters_11 : decode cL_enters 11 = .ok (.iaload, 1) := by decide +kernel
theorem dL_enters_12 : decode cL_enters 12 = .ok (.istore 5, 2) := by decide +kernel
theorem dL_enters_14 : decode cL_enters 14 = .ok (.iload_n 0, 1) := by decide +kernel
theorem dL_enters_15 : decode cL_enters 15 = .ok (.iload 5, 2) := by decide +kernel
theorem dL_enters_17 : decode cL_enters 17 = .ok (.aload_n 1, 1) := by decide +kernel
theorem dL_enters_18 : decode cL_enters 18 = .ok (.aload_n 2, 1) := by decide +kernel
theorem dL_enters_19 : decode cL_enters 19 = .ok (.invokestatic 38, 3) := by decide +kernel
theorem dL_enters_22 : decode cL_enters 22 = .ok (.istore 6, 2) := by decide +kernel
theorem dL_enters_24 : decode cL_enters 24 = .ok (.aload_n 1, 1) := by decide +kernel
theorem dL_enters_25 : decode cL_enters 25 = .ok (.bipush 28, 2) := by decide +kernel
theorem dL_enters_27 : decode cL_enters 27 = .ok (.iload 5, 2) := by decide +kernel
theorem dL_enters_29 : decode cL_enters 29 = .ok (.iadd, 1) := by decide +kernel
theorem dL_enters_30 : decode cL_enters 30 = .ok (.iload_n 0, 1) := by decide +kernel
theorem dL_enters_31 : decode cL_enters 31 = .ok (.bipush 16, 2) := by decide +kernel
theorem dL_enters_33 : decode cL_enters 33 = .ok (.idiv, 1) := by decide +kernel
theorem dL_enters_34 : decode cL_enters 34 = .ok (.iastore, 1) := by decide +kernel
theorem dL_enters_35 : decode cL_enters 35 = .ok (.aload_n 1, 1) := by decide +kernel
theorem dL_enters_36 : decode cL_enters 36 = .ok (.bipush 32, 2) := by decide +kernel
theorem dL_enters_38 : decode cL_enters 38 = .ok (.iload 5, 2) := by decide +kernel
theorem dL_enters_40 : decode cL_enters 40 = .ok (.iadd, 1) := by decide +kernel
theorem dL_enters_41 : decode cL_enters 41 = .ok (.aload 4, 2) := by decide +kernel
theorem dL_enters_43 : decode cL_enters 43 = .ok (.iconst 0, 1) := by decide +kernel
theorem dL_enters_44 : decode cL_enters 44 = .ok (.iaload, 1) := by decide +kernel
theorem dL_enters_45 : decode cL_enters 45 = .ok (.iload 6, 2) := by decide +kernel
theorem dL_enters_47 : decode cL_enters 47 = .ok (.iadd, 1) := by decide +kernel
theorem dL_enters_48 : decode cL_enters 48 = .ok (.iconst 1, 1) := by decide +kernel
theorem dL_enters_49 : decode cL_enters 49 = .ok (.iadd, 1) := by decide +kernel
theorem dL_enters_50 : decode cL_enters 50 = .ok (.aload_n 2, 1) := by decide +kernel
theorem dL_enters_51 : decode cL_enters 51 = .ok (.iload_n 0, 1) := by decide +kernel
theorem dL_enters_52 : decode cL_enters 52 = .ok (.iconst 2, 1) := by decide +kernel
theorem dL_enters_53 : decode cL_enters 53 = .ok (.iadd, 1) := by decide +kernel
theorem dL_enters_54 : decode cL_enters 54 = .ok (.iaload, 1) := by decide +kernel
theorem dL_enters_55 : decode cL_enters 55 = .ok (.iconst 4, 1) := by decide +kernel
theorem dL_enters_56 : decode cL_enters 56 = .ok (.idiv, 1) := by decide +kernel
theorem dL_enters_57 : decode cL_enters 57 = .ok (.iadd, 1) := by decide +kernel
theorem dL_enters_58 : decode cL_enters 58 = .ok (.iastore, 1) := by decide +kernel
theorem dL_enters_59 : decode cL_enters 59 = .ok (.aload_n 1, 1) := by decide +kernel
theorem dL_enters_60 : decode cL_enters 60 = .ok (.bipush 16, 2) := by decide +kernel
theorem dL_enters_62 : decode cL_enters 62 = .ok (.iload 5, 2) := by decide +kernel
theorem dL_enters_64 : decode cL_enters 64 = .ok (.iadd, 1) := by decide +kernel
theorem dL_enters_65 : decode cL_enters 65 = .ok (.iconst 0, 1) := by decide +kernel
theorem dL_enters_66 : decode cL_enters 66 = .ok (.iastore, 1) := by decide +kernel
theorem dL_enters_67 : decode cL_enters 67 = .ok (.aload_n 2, 1) := by decide +kernel
theorem dL_enters_68 : decode cL_enters 68 = .ok (.iload_n 0, 1) := by decide +kernel
theorem dL_enters_69 : decode cL_enters 69 = .ok (.bipush 11, 2) := by decide +kernel
theorem dL_enters_71 : decode cL_enters 71 = .ok (.iadd, 1) := by decide +kernel
theorem dL_enters_72 : decode cL_enters 72 = .ok (.aload_n 2, 1) := by decide +kernel
theorem dL_enters_73 : decode cL_enters 73 = .ok (.iload_n 0, 1) := by decide +kernel
theorem dL_enters_74 : decode cL_enters 74 = .ok (.bipush 12, 2) := by decide +kernel
theorem dL_enters_76 : decode cL_enters 76 = .ok (.iadd, 1) := by decide +kernel
theorem dL_enters_77 : decode cL_enters 77 = .ok (.iaload, 1) := by decide +kernel
theorem dL_enters_78 : decode cL_enters 78 = .ok (.aload_n 2, 1) := by decide +kernel
theorem dL_enters_79 : decode cL_enters 79 = .ok (.iload_n 0, 1) := by decide +kernel
theorem dL_enters_80 : decode cL_enters 80 = .ok (.iconst 4, 1) := by decide +kernel
theorem dL_enters_81 : decode cL_enters 81 = .ok (.iadd, 1) := by decide +kernel
theorem dL_enters_82 : decode cL_enters 82 = .ok (.iaload, 1) := by decide +kernel
theorem dL_enters_83 : decode cL_enters 83 = .ok (.if_icmp .ne 7, 3) := by decide +kernel
theorem dL_enters_86 : decode cL_enters 86 = .ok (.iconst (-1), 1) := by decide +kernel
theorem dL_enters_87 : decode cL_enters 87 = .ok (.goto 9, 3) := by decide +kernel
theorem dL_enters_90 : decode cL_enters 90 = .ok (.aload_n 2, 1) := by decide +kernel
theorem dL_enters_91 : decode cL_enters 91 = .ok (.iload_n 0, 1) := by decide +kernel
theorem dL_enters_92 : decode cL_enters 92 = .ok (.bipush 11, 2) := by decide +kernel
theorem dL_enters_94 : decode cL_enters 94 = .ok (.iadd, 1) := by decide +kernel
theorem dL_enters_95 : decode cL_enters 95 = .ok (.iaload, 1) := by decide +kernel
theorem dL_enters_96 : decode cL_enters 96 = .ok (.iastore, 1) := by decide +kernel
theorem dL_enters_97 : decode cL_enters 97 = .ok (.aload_n 2, 1) := by decide +kernel
theorem dL_enters_98 : decode cL_enters 98 = .ok (.iload_n 0, 1) := by decide +kernel
theorem dL_enters_99 : decode cL_enters 99 = .ok (.iconst 3, 1) := by decide +kernel
theorem dL_enters_100 : decode cL_enters 100 = .ok (.iadd, 1) := by decide +kernel
theorem dL_enters_101 : decode cL_enters 101 = .ok (.iconst 2, 1) := by decide +kernel
theorem dL_enters_102 : decode cL_enters 102 = .ok (.iastore, 1) := by decide +kernel
theorem dL_enters_103 : decode cL_enters 103 = .ok (.aload_n 2, 1) := by decide +kernel
theorem dL_enters_104 : decode cL_enters 104 = .ok (.iload_n 0, 1) := by decide +kernel
theorem dL_enters_105 : decode cL_enters 105 = .ok (.iconst 4, 1) := by decide +kernel
theorem dL_enters_106 : decode cL_enters 106 = .ok (.iadd, 1) := by decide +kernel
theorem dL_enters_107 : decode cL_enters 107 = .ok (.iload 5, 2) := by decide +kernel
theorem dL_enters_109 : decode cL_enters 109 = .ok (.aload_n 2, 1) := by decide +kernel
theorem dL_enters_110 : decode cL_enters 110 = .ok (.iload_n 0, 1) := by decide +kernel
theorem dL_enters_111 : decode cL_enters 111 = .ok (.iconst 4, 1) := by decide +kernel
theorem dL_enters_112 : decode cL_enters 112 = .ok (.iadd, 1) := by decide +kernel
theorem dL_enters_113 : decode cL_enters 113 = .ok (.iaload, 1) := by decide +kernel
theorem dL_enters_114 : decode cL_enters 114 = .ok (.invokestatic 44, 3) := by decide +kernel
theorem dL_enters_117 : decode cL_enters 117 = .ok (.iastore, 1) := by decide +kernel
theorem dL_enters_118 : decode cL_enters 118 = .ok (.aload_n 2, 1) := by decide +kernel
theorem dL_enters_119 : decode cL_enters 119 = .ok (.iload_n 0, 1) := by decide +kernel
theorem dL_enters_120 : decode cL_enters 120 = .ok (.iconst 5, 1) := by decide +kernel
theorem dL_enters_121 : decode cL_enters 121 = .ok (.iadd, 1) := by decide +kernel
theorem dL_enters_122 : decode cL_enters 122 = .ok (.iload 5, 2) := by decide +kernel
theorem dL_enters_124 : decode cL_enters 124 = .ok (.iastore, 1) := by decide +kernel
theorem dL_enters_125 : decode cL_enters 125 = .ok (.aload_n 2, 1) := by decide +kernel
theorem dL_enters_126 : decode cL_enters 126 = .ok (.iload_n 0, 1) := by decide +kernel
theorem dL_enters_127 : decode cL_enters 127 = .ok (.bipush 6, 2) := by decide +kernel
theorem dL_enters_129 : decode cL_enters 129 = .ok (.iadd, 1) := by decide +kernel
theorem dL_enters_130 : decode cL_enters 130 = .ok (.aload 4, 2) := by decide +kernel
theorem dL_enters_132 : decode cL_enters 132 = .ok (.iconst 0, 1) := by decide +kernel
theorem dL_enters_133 : decode cL_enters 133 = .ok (.iaload, 1) := by decide +kernel
theorem dL_enters_134 : decode cL_enters 134 = .ok (.iload 6, 2) := by decide +kernel
theorem dL_enters_136 : decode cL_enters 136 = .ok (.iadd, 1) := by decide +kernel
theorem dL_enters_137 : decode cL_enters 137 = .ok (.iastore, 1) := by decide +kernel
theorem dL_enters_138 : decode cL_enters 138 = .ok (.aload_n 2, 1) := by decide +kernel
theorem dL_enters_139 : decode cL_enters 139 = .ok (.iload_n 0, 1) := by decide +kernel
theorem dL_enters_140 : decode cL_enters 140 = .ok (.bipush 7, 2) := by decide +kernel
theorem dL_enters_142 : decode cL_enters 142 = .ok (.iadd, 1) := by decide +kernel
theorem dL_enters_143 : decode cL_enters 143 = .ok (.dup2, 1) := by decide +kernel
theorem dL_enters_144 : decode cL_enters 144 = .ok (.iaload, 1) := by decide +kernel
theorem dL_enters_145 : decode cL_enters 145 = .ok (.iconst 1, 1) := by decide +kernel
theorem dL_enters_146 : decode cL_enters 146 = .ok (.iadd, 1) := by decide +kernel
theorem dL_enters_147 : decode cL_enters 147 = .ok (.iastore, 1) := by decide +kernel
theorem dL_enters_148 : decode cL_enters 148 = .ok (.aload_n 2, 1) := by decide +kernel
theorem dL_enters_149 : decode cL_enters 149 = .ok (.iload_n 0, 1) := by decide +kernel
theorem dL_enters_150 : decode cL_enters 150 = .ok (.bipush 13, 2) := by decide +kernel
theorem dL_enters_152 : decode cL_enters 152 = .ok (.iadd, 1) := by decide +kernel
theorem dL_enters_153 : decode cL_enters 153 = .ok (.dup2, 1) := by decide +kernel
theorem dL_enters_154 : decode cL_enters 154 = .ok (.iaload, 1) := by decide +kernel
theorem dL_enters_155 : decode cL_enters 155 = .ok (.iload 6, 2) := by decide +kernel
theorem dL_enters_157 : decode cL_enters 157 = .ok (.iadd, 1) := by decide +kernel
theorem dL_enters_158 : decode cL_enters 158 = .ok (.iastore, 1) := by decide +kernel
theorem dL_enters_159 : decode cL_enters 159 = .ok (.aload 4, 2) := by decide +kernel
theorem dL_enters_161 : decode cL_enters 161 = .ok (.iconst 2, 1) := by decide +kernel
theorem dL_enters_162 : decode cL_enters 162 = .ok (.dup2, 1) := by decide +kernel
theorem dL_enters_163 : decode cL_enters 163 = .ok (.iaload, 1) := by decide +kernel
theorem dL_enters_164 : decode cL_enters 164 = .ok (.iconst 1, 1) := by decide +kernel
theorem dL_enters_165 : decode cL_enters 165 = .ok (.iadd, 1) := by decide +kernel
theorem dL_enters_166 : decode cL_enters 166 = .ok (.iastore, 1) := by decide +kernel
theorem dL_enters_167 : decode cL_enters 167 = .ok (.return_, 1) := by decide +kernel
theorem dL_minute_0 : decode cL_minute 0 = .ok (.aload_n 3, 1) := by decide +kernel
theorem dL_minute_1 : decode cL_minute 1 = .ok (.iconst 0, 1) := by decide +kernel
theorem dL_minute_2 : decode cL_minute 2 = .ok (.dup2, 1) := by decide +kernel
theorem dL_minute_3 : decode cL_minute 3 = .ok (.iaload, 1) := by decide +kernel
theorem dL_minute_4 : decode cL_minute 4 = .ok (.iconst 1, 1) := by decide +kernel
theorem dL_minute_5 : decode cL_minute 5 = .ok (.iadd, 1) := by decide +kernel
theorem dL_minute_6 : decode cL_minute 6 = .ok (.iastore, 1) := by decide +kernel
theorem dL_minute_7 : decode cL_minute 7 = .ok (.iconst 0, 1) := by decide +kernel
theorem dL_minute_8 : decode cL_minute 8 = .ok (.istore 4, 2) := by decide +kernel
theorem dL_minute_10 : decode cL_minute 10 = .ok (.iload 4, 2) := by decide +kernel
theorem dL_minute_12 : decode cL_minute 12 = .ok (.iconst 4, 1) := by decide +kernel
theorem dL_minute_13 : decode cL_minute 13 = .ok (.if_icmp .ge 50, 3) := by decide +kernel
theorem dL_minute_16 : decode cL_minute 16 = .ok (.aload_n 0, 1) := by decide +kernel
theorem dL_minute_17 : decode cL_minute 17 = .ok (.bipush 28, 2) := by decide +kernel
theorem dL_minute_19 : decode cL_minute 19 = .ok (.iload 4, 2) := by decide +kernel
theorem dL_minute_21 : decode cL_minute 21 = .ok (.iadd, 1) := by decide +kernel
theorem dL_minute_22 : decode cL_minute 22 = .ok (.aload_n 0, 1) := by decide +kernel
theorem dL_minute_23 : decode cL_minute 23 = .ok (.bipush 28, 2) := by decide +kernel
theorem dL_minute_25 : decode cL_minute 25 = .ok (.iload 4, 2) := by decide +kernel
theorem dL_minute_27 : decode cL_minute 27 = .ok (.iadd, 1) := by decide +kernel
theorem dL_minute_28 : decode cL_minute 28 = .ok (.iaload, 1) := by decide +kernel
theorem dL_minute_29 : decode cL_minute 29 = .ok (.ifCond .lt 20, 3) := by decide +kernel
theorem dL_minute_32 : decode cL_minute 32 = .ok (.aload_n 0, 1) := by decide +kernel
theorem dL_minute_33 : decode cL_minute 33 = .ok (.bipush 32, 2) := by decide +kernel
theorem dL_minute_35 : decode cL_minute 35 = .ok (.iload 4, 2) := by decide +kernel
theorem dL_minute_37 : decode cL_minute 37 = .ok (.iadd, 1) := by decide +kernel
theorem dL_minute_38 : decode cL_minute 38 = .ok (.iaload, 1) := by decide +kernel
theorem dL_minute_39 : decode cL_minute 39 = .ok (.aload_n 3, 1) := by decide +kernel
theorem dL_minute_40 : decode cL_minute 40 = .ok (.iconst 0, 1) := by decide +kernel
theorem dL_minute_41 : decode cL_minute 41 = .ok (.iaload, 1) := by decide +kernel
theorem dL_minute_42 : decode cL_minute 42 = .ok (.if_icmp .gt 7, 3) := by decide +kernel
theorem dL_minute_45 : decode cL_minute 45 = .ok (.iconst (-1), 1) := by decide +kernel
theorem dL_minute_46 : decode cL_minute 46 = .ok (.goto 10, 3) := by decide +kernel
theorem dL_minute_49 : decode cL_minute 49 = .ok (.aload_n 0, 1) := by decide +kernel
theorem dL_minute_50 : decode cL_minute 50 = .ok (.bipush 28, 2) := by decide +kernel
theorem dL_minute_52 : decode cL_minute 52 = .ok (.iload 4, 2) := by decide +kernel
theorem dL_minute_54 : decode cL_minute 54 = .ok (.iadd, 1) := by decide +kernel
theorem dL_minute_55 : decode cL_minute 55 = .ok (.iaload, 1) := by decide +kernel
theorem dL_minute_56 : decode cL_minute 56 = .ok (.iastore, 1) := by decide +kernel
theorem dL_minute_57 : decode cL_minute 57 = .ok (.iinc 4 1, 3) := by decide +kernel
theorem dL_minute_60 : decode cL_minute 60 = .ok (.goto (-50), 3) := by decide +kernel
theorem dL_minute_63 : decode cL_minute 63 = .ok (.iconst 0, 1) := by decide +kernel
theorem dL_minute_64 : decode cL_minute 64 = .ok (.istore 4, 2) := by decide +kernel
theorem dL_minute_66 : decode cL_minute 66 = .ok (.iload 4, 2) := by decide +kernel
theorem dL_minute_68 : decode cL_minute 68 = .ok (.bipush 48, 2) := by decide +kernel
theorem dL_minute_70 : decode cL_minute 70 = .ok (.if_icmp .ge 97, 3) := by decide +kernel
theorem dL_minute_73 : decode cL_minute 73 = .ok (.aload_n 1, 1) := by decide +kernel
theorem dL_minute_74 : decode cL_minute 74 = .ok (.iload 4, 2) := by decide +kernel
theorem dL_minute_76 : decode cL_minute 76 = .ok (.iaload, 1) := by decide +kernel
theorem dL_minute_77 : decode cL_minute 77 = .ok (.iconst 1, 1) := by decide +kernel
theorem dL_minute_78 : decode cL_minute 78 = .ok (.if_icmp .ne 83, 3) := by decide +kernel
theorem dL_minute_81 : decode cL_minute 81 = .ok (.aload_n 1, 1) := by decide +kernel
theorem dL_minute_82 : decode cL_minute 82 = .ok (.iload 4, 2) := by decide +kernel
theorem dL_minute_84 : decode cL_minute 84 = .ok (.iconst 3, 1) := by decide +kernel
theorem dL_minute_85 : decode cL_minute 85 = .ok (.iadd, 1) := by decide +kernel
theorem dL_minute_86 : decode cL_minute 86 = .ok (.iaload, 1) := by decide +kernel
theorem dL_minute_87 : decode cL_minute 87 = .ok (.iconst 2, 1) := by decide +kernel
theorem dL_minute_88 : decode cL_minute 88 = .ok (.if_icmp .ne 73, 3) := by decide +kernel
theorem dL_minute_91 : decode cL_minute 91 = .ok (.aload_n 1, 1) := by decide +kernel
theorem dL_minute_92 : decode cL_minute 92 = .ok (.iload 4, 2) := by decide +kernel
theorem dL_minute_94 : decode cL_minute 94 = .ok (.bipush 6, 2) := by decide +kernel
theorem dL_minute_96 : decode cL_minute 96 = .ok (.iadd, 1) := by decide +kernel
theorem dL_minute_97 : decode cL_minute 97 = .ok (.iaload, 1) := by decide +kernel
theorem dL_minute_98 : decode cL_minute 98 = .ok (.aload_n 3, 1) := by decide +kernel
theorem dL_minute_99 : decode cL_minute 99 = .ok (.iconst 0, 1) := by decide +kernel
theorem dL_minute_100 : decode cL_minute 100 = .ok (.iaload, 1) := by decide +kernel
theorem dL_minute_101 : decode cL_minute 101 = .ok (.if_icmp .ne 60, 3) := by decide +kernel
theorem dL_minute_104 : decode cL_minute 104 = .ok (.aload_n 0, 1) := by decide +kernel
theorem dL_minute_105 : decode cL_minute 105 = .ok (.bipush 8, 2) := by decide +kernel
theorem dL_minute_107 : decode cL_minute 107 = .ok (.aload_n 1, 1) := by decide +kernel
theorem dL_minute_108 : decode cL_minute 108 = .ok (.iload 4, 2) := by decide +kernel
theorem dL_minute_110 : decode cL_minute 110 = .ok (.iconst 5, 1) := by decide +kernel
theorem dL_minute_111 : decode cL_minute 111 = .ok (.iadd, 1) := by decide +kernel
theorem dL_minute_112 : decode cL_minute 112 = .ok (.iaload, 1) := by decide +kernel
theorem dL_minute_113 : decode cL_minute 113 = .ok (.iadd, 1) := by decide +kernel
theorem dL_minute_114 : decode cL_minute 114 = .ok (.dup2, 1) := by decide +kernel
theorem dL_minute_115 : decode cL_minute 115 = .ok (.iaload, 1) := by decide +kernel
theorem dL_minute_116 : decode cL_minute 116 = .ok (.iconst 1, 1) := by decide +kernel
theorem dL_minute_117 : decode cL_minute 117 = .ok (.aload_n 1, 1) := by decide +kernel
theorem dL_minute_118 : decode cL_minute 118 = .ok (.iload 4, 2) := by decide +kernel
theorem dL_minute_120 : decode cL_minute 120 = .ok (.iconst 2, 1) := by decide +kernel
theorem dL_minute_121 : decode cL_minute 121 = .ok (.iadd, 1) := by decide +kernel
theorem dL_minute_122 : decode cL_minute 122 = .ok (.iaload, 1) := by decide +kernel
theorem dL_minute_123 : decode cL_minute 123 = .ok (.iadd, 1) := by decide +kernel
theorem dL_minute_124 : decode cL_minute 124 = .ok (.iadd, 1) := by decide +kernel
theorem dL_minute_125 : decode cL_minute 125 = .ok (.iastore, 1) := by decide +kernel
theorem dL_minute_126 : decode cL_minute 126 = .ok (.aload_n 1, 1) := by decide +kernel
theorem dL_minute_127 : decode cL_minute 127 = .ok (.iload 4, 2) := by decide +kernel
theorem dL_minute_129 : decode cL_minute 129 = .ok (.iconst 5, 1) := by decide +kernel
theorem dL_minute_130 : decode cL_minute 130 = .ok (.iadd, 1) := by decide +kernel
theorem dL_minute_131 : decode cL_minute 131 = .ok (.iconst (-1), 1) := by decide +kernel
theorem dL_minute_132 : decode cL_minute 132 = .ok (.iastore, 1) := by decide +kernel
theorem dL_minute_133 : decode cL_minute 133 = .ok (.aload_n 1, 1) := by decide +kernel
theorem dL_minute_134 : decode cL_minute 134 = .ok (.iload 4, 2) := by decide +kernel
theorem dL_minute_136 : decode cL_minute 136 = .ok (.iconst 3, 1) := by decide +kernel
theorem dL_minute_137 : decode cL_minute 137 = .ok (.iadd, 1) := by decide +kernel
theorem dL_minute_138 : decode cL_minute 138 = .ok (.aload_n 1, 1) := by decide +kernel
theorem dL_minute_139 : decode cL_minute 139 = .ok (.iload 4, 2) := by decide +kernel
theorem dL_minute_141 : decode cL_minute 141 = .ok (.bipush 7, 2) := by decide +kernel
theorem dL_minute_143 : decode cL_minute 143 = .ok (.iadd, 1) := by decide +kernel
theorem dL_minute_144 : decode cL_minute 144 = .ok (.iaload, 1) := by decide +kernel
theorem dL_minute_145 : decode cL_minute 145 = .ok (.aload_n 1, 1) := by decide +kernel
theorem dL_minute_146 : decode cL_minute 146 = .ok (.iload 4, 2) := by decide +kernel
theorem dL_minute_148 : decode cL_minute 148 = .ok (.bipush 8, 2) := by decide +kernel
theorem dL_minute_150 : decode cL_minute 150 = .ok (.iadd, 1) := by decide +kernel
theorem dL_minute_151 : decode cL_minute 151 = .ok (.iaload, 1) := by decide +kernel
theorem dL_minute_152 : decode cL_minute 152 = .ok (.if_icmp .ge 7, 3) := by decide +kernel
theorem dL_minute_155 : decode cL_minute 155 = .ok (.iconst 1, 1) := by decide +kernel
theorem dL_minute_156 : decode cL_minute 156 = .ok (.goto 4, 3) := by decide +kernel
theorem dL_minute_159 : decode cL_minute 159 = .ok (.iconst 0, 1) := by decide +kernel
theorem dL_minute_160 : decode cL_minute 160 = .ok (.iastore, 1) := by decide +kernel
theorem dL_minute_161 : decode cL_minute 161 = .ok (.iinc 4 16, 3) := by decide +kernel
theorem dL_minute_164 : decode cL_minute 164 = .ok (.goto (-98), 3) := by decide +kernel
theorem dL_minute_167 : decode cL_minute 167 = .ok (.bipush 9, 2) := by decide +kernel
theorem dL_minute_169 : decode cL_minute 169 = .ok (.istore 4, 2) := by decide +kernel
theorem dL_minute_171 : decode cL_minute 171 = .ok (.iload 4, 2) := by decide +kernel
theorem dL_minute_173 : decode cL_minute 173 = .ok (.ifCond .lt 76, 3) := by decide +kernel
theorem dL_minute_176 : decode cL_minute 176 = .ok (.iconst 0, 1) := by decide +kernel
theorem dL_minute_177 : decode cL_minute 177 = .ok (.istore 5, 2) := by decide +kernel
theorem dL_minute_179 : decode cL_minute 179 = .ok (.iload 5, 2) := by decide +kernel
theorem dL_minute_181 : decode cL_minute 181 = .ok (.bipush 48, 2) := by decide +kernel
theorem dL_minute_183 : decode cL_minute 183 = .ok (.if_icmp .ge 60, 3) := by decide +kernel
theorem dL_minute_186 : decode cL_minute 186 = .ok (.aload_n 1, 1) := by decide +kernel
theorem dL_minute_187 : decode cL_minute 187 = .ok (.iload 5, 2) := by decide +kernel
theorem dL_minute_189 : decode cL_minute 189 = .ok (.iaload, 1) := by decide +kernel
theorem dL_minute_190 : decode cL_minute 190 = .ok (.iconst 1, 1) := by decide +kernel
theorem dL_minute_191 : decode cL_minute 191 = .ok (.if_icmp .ne 46, 3) := by decide +kernel
theorem dL_minute_194 : decode cL_minute 194 = .ok (.aload_n 1, 1) := by decide +kernel
theorem dL_minute_195 : decode cL_minute 195 = .ok (.iload 5, 2) := by decide +kernel
theorem dL_minute_197 : decode cL_minute 197 = .ok (.iconst 3, 1) := by decide +kernel
theorem dL_minute_198 : decode cL_minute 198 = .ok (.iadd, 1) := by decide +kernel
theorem dL_minute_199 : decode cL_minute 199 = .ok (.iaload, 1) := by decide +kernel
theorem dL_minute_200 : decode cL_minute 200 = .ok (.iconst 1, 1) := by decide +kernel
theorem dL_minute_201 : decode cL_minute 201 = .ok (.if_icmp .ne 36, 3) := by decide +kernel
theorem dL_minute_204 : decode cL_minute 204 = .ok (.aload_n 1, 1) := by decide +kernel
theorem dL_minute_205 : decode cL_minute 205 = .ok (.iload 5, 2) := by decide +kernel
theorem dL_minute_207 : decode cL_minute 207 = .ok (.bipush 10, 2) := by decide +kernel
theorem dL_minute_209 : decode cL_minute 209 = .ok (.iadd, 1) := by decide +kernel
theorem dL_minute_210 : decode cL_minute 210 = .ok (.iaload, 1) := by decide +kernel
theorem dL_minute_211 : decode cL_minute 211 = .ok (.iload 4, 2) := by decide +kernel
theorem dL_minute_213 : decode cL_minute 213 = .ok (.if_icmp .ne 24, 3) := by decide +kernel
theorem dL_minute_216 : decode cL_minute 216 = .ok (.iload 5, 2) := by decide +kernel
theorem dL_minute_218 : decode cL_minute 218 = .ok (.aload_n 0, 1) := by decide +kernel
theorem dL_minute_219 : decode cL_minute 219 = .ok (.aload_n 1, 1) := by decide +kernel
theorem dL_minute_220 : decode cL_minute 220 = .ok (.aload_n 2, 1) := by decide +kernel
theorem dL_minute_221 : decode cL_minute 221 = .ok (.aload_n 3, 1) := by decide +kernel
theorem dL_minute_222 : decode cL_minute 222 = .ok (.invokestatic 51, 3) := by decide +kernel
theorem dL_minute_225 : decode cL_minute 225 = .ok (.ifCond .ne 12, 3) := by decide +kernel
theorem dL_minute_228 : decode cL_minute 228 = .ok (.iload 5, 2) := by decide +kernel
theorem dL_minute_230 : decode cL_minute 230 = .ok (.aload_n 0, 1) := by decide +kernel
theorem dL_minute_231 : decode cL_minute 231 = .ok (.aload_n 1, 1) := by decide +kernel
theorem dL_minute_232 : decode cL_minute 232 = .ok (.aload_n 2, 1) := by decide +kernel
theorem dL_minute_233 : decode cL_minute 233 = .ok (.aload_n 3, 1) := by decide +kernel
theorem dL_minute_234 : decode cL_minute 234 = .ok (.invokestatic 55, 3) := by decide +kernel
theorem dL_minute_237 : decode cL_minute 237 = .ok (.iinc 5 16, 3) := by decide +kernel
theorem dL_minute_240 : decode cL_minute 240 = .ok (.goto (-61), 3) := by decide +kernel
theorem dL_minute_243 : decode cL_minute 243 = .ok (.iinc 4 (-1), 3) := by decide +kernel
theorem dL_minute_246 : decode cL_minute 246 = .ok (.goto (-75), 3) := by decide +kernel
theorem dL_minute_249 : decode cL_minute 249 = .ok (.return_, 1) := by decide +kernel
theorem dL_shows_0 : decode cL_shows 0 = .ok (.aload_n 0, 1) := by decide +kernel
theorem dL_shows_1 : decode cL_shows 1 = .ok (.invokevirtual 59, 3) := by decide +kernel
theorem dL_shows_4 : decode cL_shows 4 = .ok (.aload 4, 2) := by decide +kernel
theorem dL_shows_6 : decode cL_shows 6 = .ok (.iconst 0, 1) := by decide +kernel
theorem dL_shows_7 : decode cL_shows 7 = .ok (.iaload, 1) := by decide +kernel
theorem dL_shows_8 : decode cL_shows 8 = .ok (.if_icmp .ne 18, 3) := by decide +kernel
theorem dL_shows_11 : decode cL_shows 11 = .ok (.aload_n 0, 1) := by decide +kernel
theorem dL_shows_12 : decode cL_shows 12 = .ok (.invokevirtual 63, 3) := by decide +kernel
theorem dL_shows_15 : decode cL_shows 15 = .ok (.aload 4, 2) := by decide +kernel
theorem dL_shows_17 : decode cL_shows 17 = .ok (.iconst 1, 1) := by decide +kernel
theorem dL_shows_18 : decode cL_shows 18 = .ok (.iaload, 1) := by decide +kernel
theorem dL_shows_19 : decode cL_shows 19 = .ok (.if_icmp .ne 7, 3) := by decide +kernel
theorem dL_shows_22 : decode cL_shows 22 = .ok (.iconst 1, 1) := by decide +kernel
theorem dL_shows_23 : decode cL_shows 23 = .ok (.goto 4, 3) := by decide +kernel
theorem dL_shows_26 : decode cL_shows 26 = .ok (.iconst 0, 1) := by decide +kernel
theorem dL_shows_27 : decode cL_shows 27 = .ok (.istore 5, 2) := by decide +kernel
theorem dL_shows_29 : decode cL_shows 29 = .ok (.iconst 0, 1) := by decide +kernel
theorem dL_shows_30 : decode cL_shows 30 = .ok (.istore 6, 2) := by decide +kernel
theorem dL_shows_32 : decode cL_shows 32 = .ok (.iload 6, 2) := by decide +kernel
theorem dL_shows_34 : decode cL_shows 34 = .ok (.iconst 4, 1) := by decide +kernel
theorem dL_shows_35 : decode cL_shows 35 = .ok (.if_icmp .ge 138, 3) := by decide +kernel
theorem dL_shows_38 : decode cL_shows 38 = .ok (.iload 5, 2) := by decide +kernel
theorem dL_shows_40 : decode cL_shows 40 = .ok (.ifCond .eq 133, 3) := by decide +kernel
theorem dL_shows_43 : decode cL_shows 43 = .ok (.aload_n 0, 1) := by decide +kernel
theorem dL_shows_44 : decode cL_shows 44 = .ok (.iload 6, 2) := by decide +kernel
theorem dL_shows_46 : decode cL_shows 46 = .ok (.invokevirtual 66, 3) := by decide +kernel
theorem dL_shows_49 : decode cL_shows 49 = .ok (.aload_n 1, 1) := by decide +kernel
theorem dL_shows_50 : decode cL_shows 50 = .ok (.bipush 28, 2) := by decide +kernel
theorem dL_shows_52 : decode cL_shows 52 = .ok (.iload 6, 2) := by decide +kernel
theorem dL_shows_54 : decode cL_shows 54 = .ok (.iadd, 1) := by decide +kernel
theorem dL_shows_55 : decode cL_shows 55 = .ok (.iaload, 1) := by decide +kernel
theorem dL_shows_56 : decode cL_shows 56 = .ok (.if_icmp .ne 108, 3) := by decide +kernel
theorem dL_shows_59 : decode cL_shows 59 = .ok (.aload_n 0, 1) := by decide +kernel
theorem dL_shows_60 : decode cL_shows 60 = .ok (.iload 6, 2) := by decide +kernel
theorem dL_shows_62 : decode cL_shows 62 = .ok (.invokevirtual 69, 3) := by decide +kernel
theorem dL_shows_65 : decode cL_shows 65 = .ok (.aload_n 1, 1) := by decide +kernel
theorem dL_shows_66 : decode cL_shows 66 = .ok (.bipush 28, 2) := by decide +kernel
theorem dL_shows_68 : decode cL_shows 68 = .ok (.iload 6, 2) := by decide +kernel
theorem dL_shows_70 : decode cL_shows 70 = .ok (.iadd, 1) := by decide +kernel
theorem dL_shows_71 : decode cL_shows 71 = .ok (.iaload, 1) := by decide +kernel
theorem dL_shows_72 : decode cL_shows 72 = .ok (.if_icmp .ne 92, 3) := by decide +kernel
theorem dL_shows_75 : decode cL_shows 75 = .ok (.aload_n 0, 1) := by decide +kernel
theorem dL_shows_76 : decode cL_shows 76 = .ok (.iload 6, 2) := by decide +kernel
theorem dL_shows_78 : decode cL_shows 78 = .ok (.iconst 0, 1) := by decide +kernel
theorem dL_shows_79 : decode cL_shows 79 = .ok (.invokevirtual 35, 3) := by decide +kernel
theorem dL_shows_82 : decode cL_shows 82 = .ok (.aload_n 1, 1) := by decide +kernel
theorem dL_shows_83 : decode cL_shows 83 = .ok (.bipush 8, 2) := by decide +kernel
theorem dL_shows_85 : decode cL_shows 85 = .ok (.iload 6, 2) := by decide +kernel
theorem dL_shows_87 : decode cL_shows 87 = .ok (.iadd, 1) := by decide +kernel
theorem dL_shows_88 : decode cL_shows 88 = .ok (.iaload, 1) := by decide +kernel
theorem dL_shows_89 : decode cL_shows 89 = .ok (.if_icmp .ne 75, 3) := by decide +kernel
theorem dL_shows_92 : decode cL_shows 92 = .ok (.aload_n 0, 1) := by decide +kernel
theorem dL_shows_93 : decode cL_shows 93 = .ok (.iload 6, 2) := by decide +kernel
theorem dL_shows_95 : decode cL_shows 95 = .ok (.iconst 1, 1) := by decide +kernel
theorem dL_shows_96 : decode cL_shows 96 = .ok (.invokevirtual 35, 3) := by decide +kernel
theorem dL_shows_99 : decode cL_shows 99 = .ok (.aload_n 1, 1) := by decide +kernel
theorem dL_shows_100 : decode cL_shows 100 = .ok (.bipush 36, 2) := by decide +kernel
theorem dL_shows_102 : decode cL_shows 102 = .ok (.iload 6, 2) := by decide +kernel
theorem dL_shows_104 : decode cL_shows 104 = .ok (.iadd, 1) := by decide +kernel
theorem dL_shows_105 : decode cL_shows 105 = .ok (.iaload, 1) := by decide +kernel
theorem dL_shows_106 : decode cL_shows 106 = .ok (.aload 4, 2) := by decide +kernel
theorem dL_shows_108 : decode cL_shows 108 = .ok (.iconst 0, 1) := by decide +kernel
theorem dL_shows_109 : decode cL_shows 109 = .ok (.iaload, 1) := by decide +kernel
theorem dL_shows_110 : decode cL_shows 110 = .ok (.if_icmp .le 7, 3) := by decide +kernel
theorem dL_shows_113 : decode cL_shows 113 = .ok (.iconst 1, 1) := by decide +kernel
theorem dL_shows_114 : decode cL_shows 114 = .ok (.goto 4, 3) := by decide +kernel
theorem dL_shows_117 : decode cL_shows 117 = .ok (.iconst 0, 1) := by decide +kernel
theorem dL_shows_118 : decode cL_shows 118 = .ok (.if_icmp .ne 46, 3) := by decide +kernel
theorem dL_shows_121 : decode cL_shows 121 = .ok (.aload_n 0, 1) := by decide +kernel
theorem dL_shows_122 : decode cL_shows 122 = .ok (.iload 6, 2) := by decide +kernel
theorem dL_shows_124 : decode cL_shows 124 = .ok (.invokestatic 72, 3) := by decide +kernel
theorem dL_shows_127 : decode cL_shows 127 = .ok (.aload_n 1, 1) := by decide +kernel
theorem dL_shows_128 : decode cL_shows 128 = .ok (.bipush 16, 2) := by decide +kernel
theorem dL_shows_130 : decode cL_shows 130 = .ok (.iload 6, 2) := by decide +kernel
theorem dL_shows_132 : decode cL_shows 132 = .ok (.iadd, 1) := by decide +kernel
theorem dL_shows_133 : decode cL_shows 133 = .ok (.iaload, 1) := by decide +kernel
theorem dL_shows_134 : decode cL_shows 134 = .ok (.if_icmp .ne 30, 3) := by decide +kernel
theorem dL_shows_137 : decode cL_shows 137 = .ok (.aload_n 0, 1) := by decide +kernel
theorem dL_shows_138 : decode cL_shows 138 = .ok (.iload 6, 2) := by decide +kernel
theorem dL_shows_140 : decode cL_shows 140 = .ok (.invokevirtual 76, 3) := by decide +kernel
theorem dL_shows_143 : decode cL_shows 143 = .ok (.aload 4, 2) := by decide +kernel
theorem dL_shows_145 : decode cL_shows 145 = .ok (.iconst 4, 1) := by decide +kernel
theorem dL_shows_146 : decode cL_shows 146 = .ok (.iload 6, 2) := by decide +kernel
theorem dL_shows_148 : decode cL_shows 148 = .ok (.iadd, 1) := by decide +kernel
theorem dL_shows_149 : decode cL_shows 149 = .ok (.iaload, 1) := by decide +kernel
theorem dL_shows_150 : decode cL_shows 150 = .ok (.iload 6, 2) := by decide +kernel
theorem dL_shows_152 : decode cL_shows 152 = .ok (.aload_n 2, 1) := by decide +kernel
theorem dL_shows_153 : decode cL_shows 153 = .ok (.invokestatic 47, 3) := by decide +kernel
theorem dL_shows_156 : decode cL_shows 156 = .ok (.isub, 1) := by decide +kernel
theorem dL_shows_157 : decode cL_shows 157 = .ok (.if_icmp .ne 7, 3) := by decide +kernel
theorem dL_shows_160 : decode cL_shows 160 = .ok (.iconst 1, 1) := by decide +kernel
theorem dL_shows_161 : decode cL_shows 161 = .ok (.goto 4, 3) := by decide +kernel
theorem dL_shows_164 : decode cL_shows 164 = .ok (.iconst 0, 1) := by decide +kernel
theorem dL_shows_165 : decode cL_shows 165 = .ok (.istore 5, 2) := by decide +kernel
theorem dL_shows_167 : decode cL_shows 167 = .ok (.iinc 6 1, 3) := by decide +kernel
theorem dL_shows_170 : decode cL_shows 170 = .ok (.goto (-138), 3) := by decide +kernel
theorem dL_shows_173 : decode cL_shows 173 = .ok (.iconst 0, 1) := by decide +kernel
theorem dL_shows_174 : decode cL_shows 174 = .ok (.istore 6, 2) := by decide +kernel
theorem dL_shows_176 : decode cL_shows 176 = .ok (.iload 6, 2) := by decide +kernel
theorem dL_shows_178 : decode cL_shows 178 = .ok (.bipush 48, 2) := by decide +kernel
theorem dL_shows_180 : decode cL_shows 180 = .ok (.if_icmp .ge 242, 3) := by decide +kernel
theorem dL_shows_183 : decode cL_shows 183 = .ok (.iload 5, 2) := by decide +kernel
theorem dL_shows_185 : decode cL_shows 185 = .ok (.ifCond .eq 237, 3) := by decide +kernel
theorem dL_shows_188 : decode cL_shows 188 = .ok (.aload_n 2, 1) := by decide +kernel
theorem dL_shows_189 : decode cL_shows 189 = .ok (.iload 6, 2) := by decide +kernel
theorem dL_shows_191 : decode cL_shows 191 = .ok (.iaload, 1) := by decide +kernel
theorem dL_shows_192 : decode cL_shows 192 = .ok (.iconst 1, 1) := by decide +kernel
theorem dL_shows_193 : decode cL_shows 193 = .ok (.if_icmp .ne 223, 3) := by decide +kernel
theorem dL_shows_196 : decode cL_shows 196 = .ok (.iload 6, 2) := by decide +kernel
theorem dL_shows_198 : decode cL_shows 198 = .ok (.bipush 16, 2) := by decide +kernel
theorem dL_shows_200 : decode cL_shows 200 = .ok (.idiv, 1) := by decide +kernel
theorem dL_shows_201 : decode cL_shows 201 = .ok (.istore 7, 2) := by decide +kernel
theorem dL_shows_203 : decode cL_shows 203 = .ok (.aload_n 0, 1) := by decide +kernel
theorem dL_shows_204 : decode cL_shows 204 = .ok (.iload 7, 2) := by decide +kernel
theorem dL_shows_206 : decode cL_shows 206 = .ok (.iconst 0, 1) := by decide +kernel
theorem dL_shows_207 : decode cL_shows 207 = .ok (.invokevirtual 79, 3) := by decide +kernel
theorem dL_shows_210 : decode cL_shows 210 = .ok (.aload_n 2, 1) := by decide +kernel
theorem dL_shows_211 : decode cL_shows 211 = .ok (.iload 6, 2) := by decide +kernel
theorem dL_shows_213 : decode cL_shows 213 = .ok (.iconst 3, 1) := by decide +kernel
theorem dL_shows_214 : decode cL_shows 214 = .ok (.iadd, 1) := by decide +kernel
theorem dL_shows_215 : decode cL_shows 215 = .ok (.iaload, 1) := by decide +kernel
theorem dL_shows_216 : decode cL_shows 216 = .ok (.if_icmp .ne 197, 3) := by decide +kernel
theorem dL_shows_219 : decode cL_shows 219 = .ok (.aload_n 0, 1) := by decide +kernel
theorem dL_shows_220 : decode cL_shows 220 = .ok (.iload 7, 2) := by decide +kernel
theorem dL_shows_222 : decode cL_shows 222 = .ok (.iconst 1, 1) := by decide +kernel
theorem dL_shows_223 : decode cL_shows 223 = .ok (.invokevirtual 79, 3) := by decide +kernel
theorem dL_shows_226 : decode cL_shows 226 = .ok (.aload_n 2, 1) := by decide +kernel
theorem dL_shows_227 : decode cL_shows 227 = .ok (.iload 6, 2) := by decide +kernel
theorem dL_shows_229 : decode cL_shows 229 = .ok (.iconst 4, 1) := by decide +kernel
theorem dL_shows_230 : decode cL_shows 230 = .ok (.iadd, 1) := by decide +kernel
theorem dL_shows_231 : decode cL_shows 231 = .ok (.iaload, 1) := by decide +kernel
theorem dL_shows_232 : decode cL_shows 232 = .ok (.if_icmp .ne 181, 3) := by decide +kernel
theorem dL_shows_235 : decode cL_shows 235 = .ok (.aload_n 0, 1) := by decide +kernel
theorem dL_shows_236 : decode cL_shows 236 = .ok (.iload 7, 2) := by decide +kernel
theorem dL_shows_238 : decode cL_shows 238 = .ok (.iconst 2, 1) := by decide +kernel
theorem dL_shows_239 : decode cL_shows 239 = .ok (.invokevirtual 79, 3) := by decide +kernel
theorem dL_shows_242 : decode cL_shows 242 = .ok (.aload_n 2, 1) := by decide +kernel
theorem dL_shows_243 : decode cL_shows 243 = .ok (.iload 6, 2) := by decide +kernel
theorem dL_shows_245 : decode cL_shows 245 = .ok (.iconst 5, 1) := by decide +kernel
theorem dL_shows_246 : decode cL_shows 246 = .ok (.iadd, 1) := by decide +kernel
theorem dL_shows_247 : decode cL_shows 247 = .ok (.iaload, 1) := by decide +kernel
theorem dL_shows_248 : decode cL_shows 248 = .ok (.if_icmp .ne 165, 3) := by decide +kernel
theorem dL_shows_251 : decode cL_shows 251 = .ok (.aload_n 0, 1) := by decide +kernel
theorem dL_shows_252 : decode cL_shows 252 = .ok (.iload 7, 2) := by decide +kernel
theorem dL_shows_254 : decode cL_shows 254 = .ok (.iconst 3, 1) := by decide +kernel
theorem dL_shows_255 : decode cL_shows 255 = .ok (.invokevirtual 79, 3) := by decide +kernel
theorem dL_shows_258 : decode cL_shows 258 = .ok (.iconst 2, 1) := by decide +kernel
theorem dL_shows_259 : decode cL_shows 259 = .ok (.aload_n 2, 1) := by decide +kernel
theorem dL_shows_260 : decode cL_shows 260 = .ok (.iload 6, 2) := by decide +kernel
theorem dL_shows_262 : decode cL_shows 262 = .ok (.iconst 2, 1) := by decide +kernel
theorem dL_shows_263 : decode cL_shows 263 = .ok (.iadd, 1) := by decide +kernel
theorem dL_shows_264 : decode cL_shows 264 = .ok (.iaload, 1) := by decide +kernel
theorem dL_shows_265 : decode cL_shows 265 = .ok (.imul, 1) := by decide +kernel
theorem dL_shows_266 : decode cL_shows 266 = .ok (.if_icmp .ne 147, 3) := by decide +kernel
theorem dL_shows_269 : decode cL_shows 269 = .ok (.aload_n 0, 1) := by decide +kernel
theorem dL_shows_270 : decode cL_shows 270 = .ok (.iload 7, 2) := by decide +kernel
theorem dL_shows_272 : decode cL_shows 272 = .ok (.iconst 4, 1) := by decide +kernel
theorem dL_shows_273 : decode cL_shows 273 = .ok (.invokevirtual 79, 3) := by decide +kernel
theorem dL_shows_276 : decode cL_shows 276 = .ok (.aload_n 2, 1) := by decide +kernel
theorem dL_shows_277 : decode cL_shows 277 = .ok (.iload 6, 2) := by decide +kernel
theorem dL_shows_279 : decode cL_shows 279 = .ok (.iconst 2, 1) := by decide +kernel
theorem dL_shows_280 : decode cL_shows 280 = .ok (.iadd, 1) := by decide +kernel
theorem dL_shows_281 : decode cL_shows 281 = .ok (.iaload, 1) := by decide +kernel
theorem dL_shows_282 : decode cL_shows 282 = .ok (.if_icmp .ne 131, 3) := by decide +kernel
theorem dL_shows_285 : decode cL_shows 285 = .ok (.aload_n 0, 1) := by decide +kernel
theorem dL_shows_286 : decode cL_shows 286 = .ok (.iload 7, 2) := by decide +kernel
theorem dL_shows_288 : decode cL_shows 288 = .ok (.iconst 5, 1) := by decide +kernel
theorem dL_shows_289 : decode cL_shows 289 = .ok (.invokevirtual 79, 3) := by decide +kernel
theorem dL_shows_292 : decode cL_shows 292 = .ok (.aload_n 2, 1) := by decide +kernel
theorem dL_shows_293 : decode cL_shows 293 = .ok (.iload 6, 2) := by decide +kernel
theorem dL_shows_295 : decode cL_shows 295 = .ok (.bipush 8, 2) := by decide +kernel
theorem dL_shows_297 : decode cL_shows 297 = .ok (.iadd, 1) := by decide +kernel
theorem dL_shows_298 : decode cL_shows 298 = .ok (.iaload, 1) := by decide +kernel
theorem dL_shows_299 : decode cL_shows 299 = .ok (.aload_n 2, 1) := by decide +kernel
theorem dL_shows_300 : decode cL_shows 300 = .ok (.iload 6, 2) := by decide +kernel
theorem dL_shows_302 : decode cL_shows 302 = .ok (.bipush 7, 2) := by decide +kernel
theorem dL_shows_304 : decode cL_shows 304 = .ok (.iadd, 1) := by decide +kernel
theorem dL_shows_305 : decode cL_shows 305 = .ok (.iaload, 1) := by decide +kernel
theorem dL_shows_306 : decode cL_shows 306 = .ok (.isub, 1) := by decide +kernel
theorem dL_shows_307 : decode cL_shows 307 = .ok (.if_icmp .ne 106, 3) := by decide +kernel
theorem dL_shows_310 : decode cL_shows 310 = .ok (.aload_n 0, 1) := by decide +kernel
theorem dL_shows_311 : decode cL_shows 311 = .ok (.iload 7, 2) := by decide +kernel
theorem dL_shows_313 : decode cL_shows 313 = .ok (.bipush 6, 2) := by decide +kernel
theorem dL_shows_315 : decode cL_shows 315 = .ok (.invokevirtual 79, 3) := by decide +kernel
theorem dL_shows_318 : decode cL_shows 318 = .ok (.aload_n 2, 1) := by decide +kernel
theorem dL_shows_319 : decode cL_shows 319 = .ok (.iload 6, 2) := by decide +kernel
theorem dL_shows_321 : decode cL_shows 321 = .ok (.iconst 3, 1) := by decide +kernel
theorem dL_shows_322 : decode cL_shows 322 = .ok (.iadd, 1) := by decide +kernel
theorem dL_shows_323 : decode cL_shows 323 = .ok (.iaload, 1) := by decide +kernel
theorem dL_shows_324 : decode cL_shows 324 = .ok (.iconst 2, 1) := by decide +kernel
theorem dL_shows_325 : decode cL_shows 325 = .ok (.if_icmp .ne 13, 3) := by decide +kernel
theorem dL_shows_328 : decode cL_shows 328 = .ok (.aload_n 2, 1) := by decide +kernel
theorem dL_shows_329 : decode cL_shows 329 = .ok (.iload 6, 2) := by decide +kernel
theorem dL_shows_331 : decode cL_shows 331 = .ok (.bipush 6, 2) := by decide +kernel
theorem dL_shows_333 : decode cL_shows 333 = .ok (.iadd, 1) := by decide +kernel
theorem dL_shows_334 : decode cL_shows 334 = .ok (.iaload, 1) := by decide +kernel
theorem dL_shows_335 : decode cL_shows 335 = .ok (.goto 4, 3) := by decide +kernel
theorem dL_shows_338 : decode cL_shows 338 = .ok (.iconst (-1), 1) := by decide +kernel
theorem dL_shows_339 : decode cL_shows 339 = .ok (.if_icmp .ne 74, 3) := by decide +kernel
theorem dL_shows_342 : decode cL_shows 342 = .ok (.aload_n 0, 1) := by decide +kernel
theorem dL_shows_343 : decode cL_shows 343 = .ok (.iload 7, 2) := by decide +kernel
theorem dL_shows_345 : decode cL_shows 345 = .ok (.invokevirtual 82, 3) := by decide +kernel
theorem dL_shows_348 : decode cL_shows 348 = .ok (.aload_n 2, 1) := by decide +kernel
theorem dL_shows_349 : decode cL_shows 349 = .ok (.iload 6, 2) := by decide +kernel
theorem dL_shows_351 : decode cL_shows 351 = .ok (.iconst 3, 1) := by decide +kernel
theorem dL_shows_352 : decode cL_shows 352 = .ok (.iadd, 1) := by decide +kernel
theorem dL_shows_353 : decode cL_shows 353 = .ok (.iaload, 1) := by decide +kernel
theorem dL_shows_354 : decode cL_shows 354 = .ok (.iconst 1, 1) := by decide +kernel
theorem dL_shows_355 : decode cL_shows 355 = .ok (.if_icmp .ne 16, 3) := by decide +kernel
theorem dL_shows_358 : decode cL_shows 358 = .ok (.iload 6, 2) := by decide +kernel
theorem dL_shows_360 : decode cL_shows 360 = .ok (.aload_n 1, 1) := by decide +kernel
theorem dL_shows_361 : decode cL_shows 361 = .ok (.aload_n 2, 1) := by decide +kernel
theorem dL_shows_362 : decode cL_shows 362 = .ok (.aload_n 3, 1) := by decide +kernel
theorem dL_shows_363 : decode cL_shows 363 = .ok (.aload 4, 2) := by decide +kernel
theorem dL_shows_365 : decode cL_shows 365 = .ok (.invokestatic 51, 3) := by decide +kernel
theorem dL_shows_368 : decode cL_shows 368 = .ok (.goto 4, 3) := by decide +kernel
theorem dL_shows_371 : decode cL_shows 371 = .ok (.iconst (-1), 1) := by decide +kernel
theorem dL_shows_372 : decode cL_shows 372 = .ok (.if_icmp .ne 41, 3) := by decide +kernel
theorem dL_shows_375 : decode cL_shows 375 = .ok (.aload_n 0, 1) := by decide +kernel
theorem dL_shows_376 : decode cL_shows 376 = .ok (.iload 7, 2) := by decide +kernel
theorem dL_shows_378 : decode cL_shows 378 = .ok (.invokevirtual 85, 3) := by decide +kernel
theorem dL_shows_381 : decode cL_shows 381 = .ok (.aload_n 2, 1) := by decide +kernel
theorem dL_shows_382 : decode cL_shows 382 = .ok (.iload 6, 2) := by decide +kernel
theorem dL_shows_384 : decode cL_shows 384 = .ok (.bipush 14, 2) := by decide +kernel
theorem dL_shows_386 : decode cL_shows 386 = .ok (.iadd, 1) := by decide +kernel
theorem dL_shows_387 : decode cL_shows 387 = .ok (.iaload, 1) := by decide +kernel
theorem dL_shows_388 : decode cL_shows 388 = .ok (.aload 4, 2) := by decide +kernel
theorem dL_shows_390 : decode cL_shows 390 = .ok (.iconst 0, 1) := by decide +kernel
theorem dL_shows_391 : decode cL_shows 391 = .ok (.iaload, 1) := by decide +kernel
theorem dL_shows_392 : decode cL_shows 392 = .ok (.if_icmp .le 7, 3) := by decide +kernel
theorem dL_shows_395 : decode cL_shows 395 = .ok (.iconst (-1), 1) := by decide +kernel
theorem dL_shows_396 : decode cL_shows 396 = .ok (.goto 10, 3) := by decide +kernel
theorem dL_shows_399 : decode cL_shows 399 = .ok (.aload_n 2, 1) := by decide +kernel
theorem dL_shows_400 : decode cL_shows 400 = .ok (.iload 6, 2) := by decide +kernel
theorem dL_shows_402 : decode cL_shows 402 = .ok (.bipush 13, 2) := by decide +kernel
theorem dL_shows_404 : decode cL_shows 404 = .ok (.iadd, 1) := by decide +kernel
theorem dL_shows_405 : decode cL_shows 405 = .ok (.iaload, 1) := by decide +kernel
theorem dL_shows_406 : decode cL_shows 406 = .ok (.if_icmp .ne 7, 3) := by decide +kernel
theorem dL_shows_409 : decode cL_shows 409 = .ok (.iconst 1, 1) := by decide +kernel
theorem dL_shows_410 : decode cL_shows 410 = .ok (.goto 4, 3) := by decide +kernel
theorem dL_shows_413 : decode cL_shows 413 = .ok (.iconst 0, 1) := by decide +kernel
theorem dL_shows_414 : decode cL_shows 414 = .ok (.istore 5, 2) := by decide +kernel
theorem dL_shows_416 : decode cL_shows 416 = .ok (.iinc 6 16, 3) := by decide +kernel
theorem dL_shows_419 : decode cL_shows 419 = .ok (.goto (-243), 3) := by decide +kernel
theorem dL_shows_422 : decode cL_shows 422 = .ok (.iload 5, 2) := by decide +kernel
theorem dL_shows_424 : decode cL_shows 424 = .ok (.ireturn, 1) := by decide +kernel
theorem dL_plans_0 : decode cL_plans 0 = .ok (.bipush 16, 2) := by decide +kernel
theorem dL_plans_2 : decode cL_plans 2 = .ok (.iload_n 1, 1) := by decide +kernel
theorem dL_plans_3 : decode cL_plans 3 = .ok (.imul, 1) := by decide +kernel
theorem dL_plans_4 : decode cL_plans 4 = .ok (.istore 6, 2) := by decide +kernel
theorem dL_plans_6 : decode cL_plans 6 = .ok (.iconst 1, 1) := by decide +kernel
theorem dL_plans_7 : decode cL_plans 7 = .ok (.iload_n 2, 1) := by decide +kernel
theorem dL_plans_8 : decode cL_plans 8 = .ok (.iconst 5, 1) := by decide +kernel
theorem dL_plans_9 : decode cL_plans 9 = .ok (.invokestatic 88, 3) := by decide +kernel
theorem dL_plans_12 : decode cL_plans 12 = .ok (.iadd, 1) := by decide +kernel
theorem dL_plans_13 : decode cL_plans 13 = .ok (.istore 7, 2) := by decide +kernel
theorem dL_plans_15 : decode cL_plans 15 = .ok (.aload_n 3, 1) := by decide +kernel
theorem dL_plans_16 : decode cL_plans 16 = .ok (.iload 6, 2) := by decide +kernel
theorem dL_plans_18 : decode cL_plans 18 = .ok (.iconst 4, 1) := by decide +kernel
theorem dL_plans_19 : decode cL_plans 19 = .ok (.iadd, 1) := by decide +kernel
theorem dL_plans_20 : decode cL_plans 20 = .ok (.iaload, 1) := by decide +kernel
theorem dL_plans_21 : decode cL_plans 21 = .ok (.istore 8, 2) := by decide +kernel
theorem dL_plans_23 : decode cL_plans 23 = .ok (.iconst 1, 1) := by decide +kernel
theorem dL_plans_24 : decode cL_plans 24 = .ok (.istore 9, 2) := by decide +kernel
theorem dL_plans_26 : decode cL_plans 26 = .ok (.bipush 8, 2) := by decide +kernel
theorem dL_plans_28 : decode cL_plans 28 = .ok (.newarray .int, 2) := by decide +kernel
theorem dL_plans_30 : decode cL_plans 30 = .ok (.astore 10, 2) := by decide +kernel
theorem dL_plans_32 : decode cL_plans 32 = .ok (.iconst 0, 1) := by decide +kernel
theorem dL_plans_33 : decode cL_plans 33 = .ok (.istore 11, 2) := by decide +kernel
theorem dL_plans_35 : decode cL_plans 35 = .ok (.iload 11, 2) := by decide +kernel
theorem dL_plans_37 : decode cL_plans 37 = .ok (.iload 7, 2) := by decide +kernel
theorem dL_plans_39 : decode cL_plans 39 = .ok (.if_icmp .ge 142, 3) := by decide +kernel
theorem dL_plans_42 : decode cL_plans 42 = .ok (.iload_n 2, 1) := by decide +kernel
theorem dL_plans_43 : decode cL_plans 43 = .ok (.iconst 3, 1) := by decide +kernel
theorem dL_plans_44 : decode cL_plans 44 = .ok (.iload 11, 2) := by decide +kernel
theorem dL_plans_46 : decode cL_plans 46 = .ok (.iadd, 1) := by decide +kernel
theorem dL_plans_47 : decode cL_plans 47 = .ok (.ishr, 1) := by decide +kernel
theorem dL_plans_48 : decode cL_plans 48 = .ok (.iconst 2, 1) := by decide +kernel
theorem dL_plans_49 : decode cL_plans 49 = .ok (.invokestatic 88, 3) := by decide +kernel
theorem dL_plans_52 : decode cL_plans 52 = .ok (.ifCond .ne 8, 3) := by decide +kernel
theorem dL_plans_55 : decode cL_plans 55 = .ok (.iload 8, 2) := by decide +kernel
theorem dL_plans_57 : decode cL_plans 57 = .ok (.goto 9, 3) := by decide +kernel
theorem dL_plans_60 : decode cL_plans 60 = .ok (.iload 8, 2) := by decide +kernel
theorem dL_plans_62 : decode cL_plans 62 = .ok (.iconst 3, 1) := by decide +kernel
theorem dL_plans_63 : decode cL_plans 63 = .ok (.iadd, 1) := by decide +kernel
theorem dL_plans_64 : decode cL_plans 64 = .ok (.iconst 4, 1) := by decide +kernel
theorem dL_plans_65 : decode cL_plans 65 = .ok (.irem, 1) := by decide +kernel
theorem dL_plans_66 : decode cL_plans 66 = .ok (.istore 12, 2) := by decide +kernel
theorem dL_plans_68 : decode cL_plans 68 = .ok (.iload_n 2, 1) := by decide +kernel
theorem dL_plans_69 : decode cL_plans 69 = .ok (.bipush 9, 2) := by decide +kernel
theorem dL_plans_71 : decode cL_plans 71 = .ok (.ishr, 1) := by decide +kernel
theorem dL_plans_72 : decode cL_plans 72 = .ok (.bipush 40, 2) := by decide +kernel
theorem dL_plans_74 : decode cL_plans 74 = .ok (.invokestatic 88, 3) := by decide +kernel
theorem dL_plans_77 : decode cL_plans 77 = .ok (.ifCond .ne 18, 3) := by decide +kernel
theorem dL_plans_80 : decode cL_plans 80 = .ok (.iload 11, 2) := by decide +kernel
theorem dL_plans_82 : decode cL_plans 82 = .ok (.iconst 1, 1) := by decide +kernel
theorem dL_plans_83 : decode cL_plans 83 = .ok (.if_icmp .ne 12, 3) := by decide +kernel
theorem dL_plans_86 : decode cL_plans 86 = .ok (.iload 8, 2) := by decide +kernel
theorem dL_plans_88 : decode cL_plans 88 = .ok (.iconst 1, 1) := by decide +kernel
theorem dL_plans_89 : decode cL_plans 89 = .ok (.iadd, 1) := by decide +kernel
theorem dL_plans_90 : decode cL_plans 90 = .ok (.iconst 4, 1) := by decide +kernel
theorem dL_plans_91 : decode cL_plans 91 = .ok (.irem, 1) := by decide +kernel
theorem dL_plans_92 : decode cL_plans 92 = .ok (.goto 5, 3) := by decide +kernel
theorem dL_plans_95 : decode cL_plans 95 = .ok (.iload 12, 2) := by decide +kernel
theorem dL_plans_97 : decode cL_plans 97 = .ok (.istore 12, 2) := by decide +kernel
theorem dL_plans_99 : decode cL_plans 99 = .ok (.aload 10, 2) := by decide +kernel
theorem dL_plans_101 : decode cL_plans 101 = .ok (.iload 11, 2) := by decide +kernel
theorem dL_plans_103 : decode cL_plans 103 = .ok (.iload 12, 2) := by decide +kernel
theorem dL_plans_105 : decode cL_plans 105 = .ok (.iastore, 1) := by decide +kernel
theorem dL_plans_106 : decode cL_plans 106 = .ok (.iload 9, 2) := by decide +kernel
theorem dL_plans_108 : decode cL_plans 108 = .ok (.ifCond .eq 20, 3) := by decide +kernel
theorem dL_plans_111 : decode cL_plans 111 = .ok (.aload_n 0, 1) := by decide +kernel
theorem dL_plans_112 : decode cL_plans 112 = .ok (.iload 12, 2) := by decide +kernel
theorem dL_plans_114 : decode cL_plans 114 = .ok (.invokevirtual 91, 3) := by decide +kernel
theorem dL_plans_117 : decode cL_plans 117 = .ok (.iload 11, 2) := by decide +kernel
theorem dL_plans_119 : decode cL_plans 119 = .ok (.iconst 1, 1) := by decide +kernel
theorem dL_plans_120 : decode cL_plans 120 = .ok (.iadd, 1) := by decide +kernel
theorem dL_plans_121 : decode cL_plans 121 = .ok (.if_icmp .ne 7, 3) := by decide +kernel
theorem dL_plans_124 : decode cL_plans 124 = .ok (.iconst 1, 1) := by decide +kernel
theorem dL_plans_125 : decode cL_plans 125 = .ok (.goto 4, 3) := by decide +kernel
theorem dL_plans_128 : decode cL_plans 128 = .ok (.iconst 0, 1) := by decide +kernel
theorem dL_plans_129 : decode cL_plans 129 = .ok (.istore 9, 2) := by decide +kernel
theorem dL_plans_131 : decode cL_plans 131 = .ok (.iload 8, 2) := by decide +kernel
theorem dL_plans_133 : decode cL_plans 133 = .ok (.ifCond .ge 8, 3) := by decide +kernel
theorem dL_plans_136 : decode cL_plans 136 = .ok (.iload 8, 2) := by decide +kernel
theorem dL_plans_138 : decode cL_plans 138 = .ok (.goto 10, 3) := by decide +kernel
theorem dL_plans_141 : decode cL_plans 141 = .ok (.iload 12, 2) := by decide +kernel
theorem dL_plans_143 : decode cL_plans 143 = .ok (.iload 8, 2) := by decide +kernel
theorem dL_plans_145 : decode cL_plans 145 = .ok (.invokestatic 44, 3) := by decide +kernel
theorem dL_plans_148 : decode cL_plans 148 = .ok (.istore 8, 2) := by decide +kernel
theorem dL_plans_150 : decode cL_plans 150 = .ok (.iload 8, 2) := by decide +kernel
theorem dL_plans_152 : decode cL_plans 152 = .ok (.ifCond .ge 8, 3) := by decide +kernel
theorem dL_plans_155 : decode cL_plans 155 = .ok (.bipush (-20), 2) := by decide +kernel
theorem dL_plans_157 : decode cL_plans 157 = .ok (.goto 5, 3) := by decide +kernel
theorem dL_plans_160 : decode cL_plans 160 = .ok (.iload 8, 2) := by decide +kernel
theorem dL_plans_162 : decode cL_plans 162 = .ok (.istore 8, 2) := by decide +kernel
theorem dL_plans_164 : decode cL_plans 164 = .ok (.iload 8, 2) := by decide +kernel
theorem dL_plans_166 : decode cL_plans 166 = .ok (.ifCond .ge 9, 3) := by decide +kernel
theorem dL_plans_169 : decode cL_plans 169 = .ok (.iload 11, 2) := by decide +kernel
theorem dL_plans_171 : decode cL_plans 171 = .ok (.iconst 1, 1) := by decide +kernel
theorem dL_plans_172 : decode cL_plans 172 = .ok (.iadd, 1) := by decide +kernel
theorem dL_plans_173 : decode cL_plans 173 = .ok (.istore 7, 2) := by decide +kernel
theorem dL_plans_175 : decode cL_plans 175 = .ok (.iinc 11 1, 3) := by decide +kernel
theorem dL_plans_178 : decode cL_plans 178 = .ok (.goto (-143), 3) := by decide +kernel
theorem dL_plans_181 : decode cL_plans 181 = .ok (.aload 5, 2) := by decide +kernel
theorem dL_plans_183 : decode cL_plans 183 = .ok (.iconst 0, 1) := by decide +kernel
theorem dL_plans_184 : decode cL_plans 184 = .ok (.iaload, 1) := by decide +kernel
theorem dL_plans_185 : decode cL_plans 185 = .ok (.iload_n 2, 1) := by decide +kernel
theorem dL_plans_186 : decode cL_plans 186 = .ok (.bipush 6, 2) := by decide +kernel
theorem dL_plans_188 : decode cL_plans 188 = .ok (.ishr, 1) := by decide +kernel
theorem dL_plans_189 : decode cL_plans 189 = .ok (.iconst 3, 1) := by decide +kernel
theorem dL_plans_190 : decode cL_plans 190 = .ok (.invokestatic 88, 3) := by decide +kernel
theorem dL_plans_193 : decode cL_plans 193 = .ok (.iload_n 2, 1) := by decide +kernel
theorem dL_plans_194 : decode cL_plans 194 = .ok (.bipush 8, 2) := by decide +kernel
theorem dL_plans_196 : decode cL_plans 196 = .ok (.ishr, 1) := by decide +kernel
theorem dL_plans_197 : decode cL_plans 197 = .ok (.bipush 20, 2) := by decide +kernel
theorem dL_plans_199 : decode cL_plans 199 = .ok (.invokestatic 88, 3) := by decide +kernel
theorem dL_plans_202 : decode cL_plans 202 = .ok (.imul, 1) := by decide +kernel
theorem dL_plans_203 : decode cL_plans 203 = .ok (.iadd, 1) := by decide +kernel
theorem dL_plans_204 : decode cL_plans 204 = .ok (.istore 11, 2) := by decide +kernel
theorem dL_plans_206 : decode cL_plans 206 = .ok (.iload_n 2, 1) := by decide +kernel
theorem dL_plans_207 : decode cL_plans 207 = .ok (.bipush 11, 2) := by decide +kernel
theorem dL_plans_209 : decode cL_plans 209 = .ok (.ishr, 1) := by decide +kernel
theorem dL_plans_210 : decode cL_plans 210 = .ok (.bipush 10, 2) := by decide +kernel
theorem dL_plans_212 : decode cL_plans 212 = .ok (.invokestatic 88, 3) := by decide +kernel
theorem dL_plans_215 : decode cL_plans 215 = .ok (.istore 12, 2) := by decide +kernel
theorem dL_plans_217 : decode cL_plans 217 = .ok (.aload_n 3, 1) := by decide +kernel
theorem dL_plans_218 : decode cL_plans 218 = .ok (.iload 6, 2) := by decide +kernel
theorem dL_plans_220 : decode cL_plans 220 = .ok (.iconst 3, 1) := by decide +kernel
theorem dL_plans_221 : decode cL_plans 221 = .ok (.iadd, 1) := by decide +kernel
theorem dL_plans_222 : decode cL_plans 222 = .ok (.iaload, 1) := by decide +kernel
theorem dL_plans_223 : decode cL_plans 223 = .ok (.iconst 2, 1) := by decide +kernel
theorem dL_plans_224 : decode cL_plans 224 = .ok (.if_icmp .ge 12, 3) := by decide +kernel
theorem dL_plans_227 : decode cL_plans 227 = .ok (.iload 8, 2) := by decide +kernel
theorem dL_plans_229 : decode cL_plans 229 = .ok (.ifCond .lt 7, 3) := by decide +kernel
theorem dL_plans_232 : decode cL_plans 232 = .ok (.iconst 1, 1) := by decide +kernel
theorem dL_plans_233 : decode cL_plans 233 = .ok (.goto 4, 3) := by decide +kernel
theorem dL_plans_236 : decode cL_plans 236 = .ok (.iconst 0, 1) := by decide +kernel
theorem dL_plans_237 : decode cL_plans 237 = .ok (.istore 13, 2) := by decide +kernel
theorem dL_plans_239 : decode cL_plans 239 = .ok (.iload 9, 2) := by decide +kernel
theorem dL_plans_241 : decode cL_plans 241 = .ok (.ifCond .eq 33, 3) := by decide +kernel
theorem dL_plans_244 : decode cL_plans 244 = .ok (.aload_n 0, 1) := by decide +kernel
theorem dL_plans_245 : decode cL_plans 245 = .ok (.iconst 1, 1) := by decide +kernel
theorem dL_plans_246 : decode cL_plans 246 = .ok (.iload_n 1, 1) := by decide +kernel
theorem dL_plans_247 : decode cL_plans 247 = .ok (.iload 11, 2) := by decide +kernel
theorem dL_plans_249 : decode cL_plans 249 = .ok (.iload 12, 2) := by decide +kernel
theorem dL_plans_251 : decode cL_plans 251 = .ok (.invokestatic 94, 3) := by decide +kernel
theorem dL_plans_254 : decode cL_plans 254 = .ok (.iload 13, 2) := by decide +kernel
theorem dL_plans_256 : decode cL_plans 256 = .ok (.ifCond .eq 8, 3) := by decide +kernel
theorem dL_plans_259 : decode cL_plans 259 = .ok (.iload 8, 2) := by decide +kernel
theorem dL_plans_261 : decode cL_plans 261 = .ok (.goto 6, 3) := by decide +kernel
theorem dL_plans_264 : decode cL_plans 264 = .ok (.sipush (-1003), 3) := by decide +kernel
theorem dL_plans_267 : decode cL_plans 267 = .ok (.if_icmp .ne 7, 3) := by decide +kernel
theorem dL_plans_270 : decode cL_plans 270 = .ok (.iconst 1, 1) := by decide +kernel
theorem dL_plans_271 : decode cL_plans 271 = .ok (.goto 4, 3) := by decide +kernel
theorem dL_plans_274 : decode cL_plans 274 = .ok (.iconst 0, 1) := by decide +kernel
theorem dL_plans_275 : decode cL_plans 275 = .ok (.istore 9, 2) := by decide +kernel
theorem dL_plans_277 : decode cL_plans 277 = .ok (.iconst 0, 1) := by decide +kernel
theorem dL_plans_278 : decode cL_plans 278 = .ok (.istore 14, 2) := by decide +kernel
theorem dL_plans_280 : decode cL_plans 280 = .ok (.iload 14, 2) := by decide +kernel
theorem dL_plans_282 : decode cL_plans 282 = .ok (.bipush 8, 2) := by decide +kernel
theorem dL_plans_284 : decode cL_plans 284 = .ok (.if_icmp .ge 29, 3) := by decide +kernel
theorem dL_plans_287 : decode cL_plans 287 = .ok (.iload 13, 2) := by decide +kernel
theorem dL_plans_289 : decode cL_plans 289 = .ok (.ifCond .eq 24, 3) := by decide +kernel
theorem dL_plans_292 : decode cL_plans 292 = .ok (.aload 4, 2) := by decide +kernel
theorem dL_plans_294 : decode cL_plans 294 = .ok (.bipush 8, 2) := by decide +kernel
theorem dL_plans_296 : decode cL_plans 296 = .ok (.iload_n 1, 1) := by decide +kernel
theorem dL_plans_297 : decode cL_plans 297 = .ok (.imul, 1) := by decide +kernel
theorem dL_plans_298 : decode cL_plans 298 = .ok (.iload 14, 2) := by decide +kernel
theorem dL_plans_300 : decode cL_plans 300 = .ok (.iadd, 1) := by decide +kernel
theorem dL_plans_301 : decode cL_plans 301 = .ok (.aload 10, 2) := by decide +kernel
theorem dL_plans_303 : decode cL_plans 303 = .ok (.iload 14, 2) := by decide +kernel
theorem dL_plans_305 : decode cL_plans 305 = .ok (.iaload, 1) := by decide +kernel
theorem dL_plans_306 : decode cL_plans 306 = .ok (.iastore, 1) := by decide +kernel
theorem dL_plans_307 : decode cL_plans 307 = .ok (.iinc 14 1, 3) := by decide +kernel
theorem dL_plans_310 : decode cL_plans 310 = .ok (.goto (-30), 3) := by decide +kernel
theorem dL_plans_313 : decode cL_plans 313 = .ok (.iload 13, 2) := by decide +kernel
theorem dL_plans_315 : decode cL_plans 315 = .ok (.ifCond .eq 45, 3) := by decide +kernel
theorem dL_plans_318 : decode cL_plans 318 = .ok (.aload_n 3, 1) := by decide +kernel
theorem dL_plans_319 : decode cL_plans 319 = .ok (.iload 6, 2) := by decide +kernel
theorem dL_plans_321 : decode cL_plans 321 = .ok (.iconst 3, 1) := by decide +kernel
theorem dL_plans_322 : decode cL_plans 322 = .ok (.iadd, 1) := by decide +kernel
theorem dL_plans_323 : decode cL_plans 323 = .ok (.iconst 1, 1) := by decide +kernel
theorem dL_plans_324 : decode cL_plans 324 = .ok (.iastore, 1) := by decide +kernel
theorem dL_plans_325 : decode cL_plans 325 = .ok (.aload_n 3, 1) := by decide +kernel
theorem dL_plans_326 : decode cL_plans 326 = .ok (.iload 6, 2) := by decide +kernel
theorem dL_plans_328 : decode cL_plans 328 = .ok (.bipush 7, 2) := by decide +kernel
theorem dL_plans_330 : decode cL_plans 330 = .ok (.iadd, 1) := by decide +kernel
theorem dL_plans_331 : decode cL_plans 331 = .ok (.iconst 0, 1) := by decide +kernel
theorem dL_plans_332 : decode cL_plans 332 = .ok (.iastore, 1) := by decide +kernel
theorem dL_plans_333 : decode cL_plans 333 = .ok (.aload_n 3, 1) := by decide +kernel
theorem dL_plans_334 : decode cL_plans 334 = .ok (.iload 6, 2) := by decide +kernel
theorem dL_plans_336 : decode cL_plans 336 = .ok (.bipush 8, 2) := by decide +kernel
theorem dL_plans_338 : decode cL_plans 338 = .ok (.iadd, 1) := by decide +kernel
theorem dL_plans_339 : decode cL_plans 339 = .ok (.iload 7, 2) := by decide +kernel
theorem dL_plans_341 : decode cL_plans 341 = .ok (.iastore, 1) := by decide +kernel
theorem dL_plans_342 : decode cL_plans 342 = .ok (.aload_n 3, 1) := by decide +kernel
theorem dL_plans_343 : decode cL_plans 343 = .ok (.iload 6, 2) := by decide +kernel
theorem dL_plans_345 : decode cL_plans 345 = .ok (.bipush 9, 2) := by decide +kernel
theorem dL_plans_347 : decode cL_plans 347 = .ok (.iadd, 1) := by decide +kernel
theorem dL_plans_348 : decode cL_plans 348 = .ok (.iload 11, 2) := by decide +kernel
theorem dL_plans_350 : decode cL_plans 350 = .ok (.iastore, 1) := by decide +kernel
theorem dL_plans_351 : decode cL_plans 351 = .ok (.aload_n 3, 1) := by decide +kernel
theorem dL_plans_352 : decode cL_plans 352 = .ok (.iload 6, 2) := by decide +kernel
theorem dL_plans_354 : decode cL_plans 354 = .ok (.bipush 10, 2) := by decide +kernel
theorem dL_plans_356 : decode cL_plans 356 = .ok (.iadd, 1) := by decide +kernel
theorem dL_plans_357 : decode cL_plans 357 = .ok (.iload 12, 2) := by decide +kernel
theorem dL_plans_359 : decode cL_plans 359 = .ok (.iastore, 1) := by decide +kernel
theorem dL_plans_360 : decode cL_plans 360 = .ok (.aload 5, 2) := by decide +kernel
theorem dL_plans_362 : decode cL_plans 362 = .ok (.iconst 3, 1) := by decide +kernel
theorem dL_plans_363 : decode cL_plans 363 = .ok (.iload 13, 2) := by decide +kernel
theorem dL_plans_365 : decode cL_plans 365 = .ok (.ifCond .eq 7, 3) := by decide +kernel
theorem dL_plans_368 : decode cL_plans 368 = .ok (.iconst 0, 1) := by decide +kernel
theorem dL_plans_369 : decode cL_plans 369 = .ok (.goto 5, 3) := by decide +kernel
theorem dL_plans_372 : decode cL_plans 372 = .ok (.iload 7, 2) := by decide +kernel
theorem dL_plans_374 : decode cL_plans 374 = .ok (.iastore, 1) := by decide +kernel
theorem dL_plans_375 : decode cL_plans 375 = .ok (.iload 9, 2) := by decide +kernel
theorem dL_plans_377 : decode cL_plans 377 = .ok (.ireturn, 1) := by decide +kernel
theorem dL_law_0 : decode cL_law 0 = .ok (.new 11, 3) := by decide +kernel
theorem dL_law_3 : decode cL_law 3 = .ok (.dup, 1) := by decide +kernel
theorem dL_law_4 : decode cL_law 4 = .ok (.invokespecial 98, 3) := by decide +kernel
theorem dL_law_7 : decode cL_law 7 = .ok (.astore_n 1, 1) := by decide +kernel
theorem dL_law_8 : decode cL_law 8 = .ok (.bipush 40, 2) := by decide +kernel
theorem dL_law_10 : decode cL_law 10 = .ok (.newarray .int, 2) := by decide +kernel
theorem dL_law_12 : decode cL_law 12 = .ok (.astore_n 2, 1) := by decide +kernel
theorem dL_law_13 : decode cL_law 13 = .ok (.bipush 48, 2) := by decide +kernel
theorem dL_law_15 : decode cL_law 15 = .ok (.newarray .int, 2) := by decide +kernel
theorem dL_law_17 : decode cL_law 17 = .ok (.astore_n 3, 1) := by decide +kernel
theorem dL_law_18 : decode cL_law 18 = .ok (.bipush 24, 2) := by decide +kernel
theorem dL_law_20 : decode cL_law 20 = .ok (.newarray .int, 2) := by decide +kernel
theorem dL_law_22 : decode cL_law 22 = .ok (.astore 4, 2) := by decide +kernel
theorem dL_law_24 : decode cL_law 24 = .ok (.bipush 8, 2) := by decide +kernel
theorem dL_law_26 : decode cL_law 26 = .ok (.newarray .int, 2) := by decide +kernel
theorem dL_law_28 : decode cL_law 28 = .ok (.astore 5, 2) := by decide +kernel
theorem dL_law_30 : decode cL_law 30 = .ok (.iconst 1, 1) := by decide +kernel
theorem dL_law_31 : decode cL_law 31 = .ok (.istore 6, 2) := by decide +kernel
theorem dL_law_33 : decode cL_law 33 = .ok (.aload 5, 2) := by decide +kernel
theorem dL_law_35 : decode cL_law 35 = .ok (.iconst 1, 1) := by decide +kernel
theorem dL_law_36 : decode cL_law 36 = .ok (.sipush 5000, 3) := by decide +kernel
theorem dL_law_39 : decode cL_law 39 = .ok (.iastore, 1) := by decide +kernel
theorem dL_law_40 : decode cL_law 40 = .ok (.iconst 0, 1) := by decide +kernel
theorem dL_law_41 : decode cL_law 41 = .ok (.istore 7, 2) := by decide +kernel
theorem dL_law_43 : decode cL_law 43 = .ok (.iload 7, 2) := by decide +kernel
theorem dL_law_45 : decode cL_law 45 = .ok (.iconst 4, 1) := by decide +kernel
theorem dL_law_46 : decode cL_law 46 = .ok (.if_icmp .ge 113, 3) := by decide +kernel
theorem dL_law_49 : decode cL_law 49 = .ok (.aload_n 0, 1) := by decide +kernel
theorem dL_law_50 : decode cL_law 50 = .ok (.iload 7, 2) := by decide +kernel
theorem dL_law_52 : decode cL_law 52 = .ok (.invokestatic 99, 3) := by decide +kernel
theorem dL_law_55 : decode cL_law 55 = .ok (.istore 8, 2) := by decide +kernel
theorem dL_law_57 : decode cL_law 57 = .ok (.aload_n 2, 1) := by decide +kernel
theorem dL_law_58 : decode cL_law 58 = .ok (.iload 7, 2) := by decide +kernel
theorem dL_law_60 : decode cL_law 60 = .ok (.iconst 2, 1) := by decide +kernel
theorem dL_law_61 : decode cL_law 61 = .ok (.iload 8, 2) := by decide +kernel
theorem dL_law_63 : decode cL_law 63 = .ok (.bipush 9, 2) := by decide +kernel
theorem dL_law_65 : decode cL_law 65 = .ok (.invokestatic 88, 3) := by decide +kernel
theorem dL_law_68 : decode cL_law 68 = .ok (.iadd, 1) := by decide +kernel
theorem dL_law_69 : decode cL_law 69 = .ok (.iastore, 1) := by decide +kernel
theorem dL_law_70 : decode cL_law 70 = .ok (.aload_n 2, 1) := by decide +kernel
theorem dL_law_71 : decode cL_law 71 = .ok (.iconst 4, 1) := by decide +kernel
theorem dL_law_72 : decode cL_law 72 = .ok (.iload 7, 2) := by decide +kernel
theorem dL_law_74 : decode cL_law 74 = .ok (.iadd, 1) := by decide +kernel
theorem dL_law_75 : decode cL_law 75 = .ok (.iload 8, 2) := by decide +kernel
theorem dL_law_77 : decode cL_law 77 = .ok (.iconst 4, 1) := by decide +kernel
theorem dL_law_78 : decode cL_law 78 = .ok (.ishr, 1) := by decide +kernel
theorem dL_law_79 : decode cL_law 79 = .ok (.iconst 4, 1) := by decide +kernel
theorem dL_law_80 : decode cL_law 80 = .ok (.invokestatic 88, 3) := by decide +kernel
theorem dL_law_83 : decode cL_law 83 = .ok (.iastore, 1) := by decide +kernel
theorem dL_law_84 : decode cL_law 84 = .ok (.aload_n 2, 1) := by decide +kernel
theorem dL_law_85 : decode cL_law 85 = .ok (.bipush 28, 2) := by decide +kernel
theorem dL_law_87 : decode cL_law 87 = .ok (.iload 7, 2) := by decide +kernel
theorem dL_law_89 : decode cL_law 89 = .ok (.iadd, 1) := by decide +kernel
theorem dL_law_90 : decode cL_law 90 = .ok (.iconst (-1), 1) := by decide +kernel
theorem dL_law_91 : decode cL_law 91 = .ok (.iastore, 1) := by decide +kernel
theorem dL_law_92 : decode cL_law 92 = .ok (.aload 5, 2) := by decide +kernel
theorem dL_law_94 : decode cL_law 94 = .ok (.iconst 4, 1) := by decide +kernel
theorem dL_law_95 : decode cL_law 95 = .ok (.iload 7, 2) := by decide +kernel
theorem dL_law_97 : decode cL_law 97 = .ok (.iadd, 1) := by decide +kernel
theorem dL_law_98 : decode cL_law 98 = .ok (.iconst 2, 1) := by decide +kernel
theorem dL_law_99 : decode cL_law 99 = .ok (.iastore, 1) := by decide +kernel
theorem dL_law_100 : decode cL_law 100 = .ok (.aload 5, 2) := by decide +kernel
theorem dL_law_102 : decode cL_law 102 = .ok (.iconst 1, 1) := by decide +kernel
theorem dL_law_103 : decode cL_law 103 = .ok (.dup2, 1) := by decide +kernel
theorem dL_law_104 : decode cL_law 104 = .ok (.iaload, 1) := by decide +kernel
theorem dL_law_105 : decode cL_law 105 = .ok (.bipush 100, 2) := by decide +kernel
theorem dL_law_107 : decode cL_law 107 = .ok (.aload_n 2, 1) := by decide +kernel
theorem dL_law_108 : decode cL_law 108 = .ok (.iload 7, 2) := by decide +kernel
theorem dL_law_110 : decode cL_law 110 = .ok (.iaload, 1) := by decide +kernel
theorem dL_law_111 : decode cL_law 111 = .ok (.imul, 1) := by decide +kernel
theorem dL_law_112 : decode cL_law 112 = .ok (.isub, 1) := by decide +kernel
theorem dL_law_113 : decode cL_law 113 = .ok (.iastore, 1) := by decide +kernel
theorem dL_law_114 : decode cL_law 114 = .ok (.iload 6, 2) := by decide +kernel
theorem dL_law_116 : decode cL_law 116 = .ok (.ifCond .eq 34, 3) := by decide +kernel
theorem dL_law_119 : decode cL_law 119 = .ok (.aload_n 1, 1) := by decide +kernel
theorem dL_law_120 : decode cL_law 120 = .ok (.iload 7, 2) := by decide +kernel
theorem dL_law_122 : decode cL_law 122 = .ok (.iload 7, 2) := by decide +kernel
theorem dL_law_124 : decode cL_law 124 = .ok (.iconst 1, 1) := by decide +kernel
theorem dL_law_125 : decode cL_law 125 = .ok (.iadd, 1) := by decide +kernel
theorem dL_law_126 : decode cL_law 126 = .ok (.iconst 4, 1) := by decide +kernel
theorem dL_law_127 : decode cL_law 127 = .ok (.irem, 1) := by decide +kernel
theorem dL_law_128 : decode cL_law 128 = .ok (.aload_n 2, 1) := by decide +kernel
theorem dL_law_129 : decode cL_law 129 = .ok (.iload 7, 2) := by decide +kernel
theorem dL_law_131 : decode cL_law 131 = .ok (.iaload, 1) := by decide +kernel
theorem dL_law_132 : decode cL_law 132 = .ok (.aload_n 2, 1) := by decide +kernel
theorem dL_law_133 : decode cL_law 133 = .ok (.iconst 4, 1) := by decide +kernel
theorem dL_law_134 : decode cL_law 134 = .ok (.iload 7, 2) := by decide +kernel
theorem dL_law_136 : decode cL_law 136 = .ok (.iadd, 1) := by decide +kernel
theorem dL_law_137 : decode cL_law 137 = .ok (.iaload, 1) := by decide +kernel
theorem dL_law_138 : decode cL_law 138 = .ok (.invokevirtual 103, 3) := by decide +kernel
theorem dL_law_141 : decode cL_law 141 = .ok (.iload 7, 2) := by decide +kernel
theorem dL_law_143 : decode cL_law 143 = .ok (.if_icmp .ne 7, 3) := by decide +kernel
theorem dL_law_146 : decode cL_law 146 = .ok (.iconst 1, 1) := by decide +kernel
theorem dL_law_147 : decode cL_law 147 = .ok (.goto 4, 3) := by decide +kernel
theorem dL_law_150 : decode cL_law 150 = .ok (.iconst 0, 1) := by decide +kernel
theorem dL_law_151 : decode cL_law 151 = .ok (.istore 6, 2) := by decide +kernel
theorem dL_law_153 : decode cL_law 153 = .ok (.iinc 7 1, 3) := by decide +kernel
theorem dL_law_156 : decode cL_law 156 = .ok (.goto (-113), 3) := by decide +kernel
theorem dL_law_159 : decode cL_law 159 = .ok (.iconst 0, 1) := by decide +kernel
theorem dL_law_160 : decode cL_law 160 = .ok (.istore 7, 2) := by decide +kernel
theorem dL_law_162 : decode cL_law 162 = .ok (.iload 7, 2) := by decide +kernel
theorem dL_law_164 : decode cL_law 164 = .ok (.iconst 3, 1) := by decide +kernel
theorem dL_law_165 : decode cL_law 165 = .ok (.if_icmp .ge 383, 3) := by decide +kernel
theorem dL_law_168 : decode cL_law 168 = .ok (.aload_n 0, 1) := by decide +kernel
theorem dL_law_169 : decode cL_law 169 = .ok (.iconst 4, 1) := by decide +kernel
theorem dL_law_170 : decode cL_law 170 = .ok (.iload 7, 2) := by decide +kernel
theorem dL_law_172 : decode cL_law 172 = .ok (.iadd, 1) := by decide +kernel
theorem dL_law_173 : decode cL_law 173 = .ok (.invokestatic 99, 3) := by decide +kernel
theorem dL_law_176 : decode cL_law 176 = .ok (.istore 8, 2) := by decide +kernel
theorem dL_law_178 : decode cL_law 178 = .ok (.bipush 16, 2) := by decide +kernel
theorem dL_law_180 : decode cL_law 180 = .ok (.iload 7, 2) := by decide +kernel
theorem dL_law_182 : decode cL_law 182 = .ok (.imul, 1) := by decide +kernel
theorem dL_law_183 : decode cL_law 183 = .ok (.istore 9, 2) := by decide +kernel
theorem dL_law_185 : decode cL_law 185 = .ok (.iload 8, 2) := by decide +kernel
theorem dL_law_187 : decode cL_law 187 = .ok (.iconst 4, 1) := by decide +kernel
theorem dL_law_188 : decode cL_law 188 = .ok (.invokestatic 88, 3) := by decide +kernel
theorem dL_law_191 : decode cL_law 191 = .ok (.istore 10, 2) := by decide +kernel
theorem dL_law_193 : decode cL_law 193 = .ok (.iload 10, 2) := by decide +kernel
theorem dL_law_195 : decode cL_law 195 = .ok (.aload_n 3, 1) := by decide +kernel
theorem dL_law_196 : decode cL_law 196 = .ok (.invokestatic 47, 3) := by decide +kernel
theorem dL_law_199 : decode cL_law 199 = .ok (.iconst 2, 1) := by decide +kernel
theorem dL_law_200 : decode cL_law 200 = .ok (.if_icmp .ge 7, 3) := by decide +kernel
theorem dL_law_203 : decode cL_law 203 = .ok (.iconst 1, 1) := by decide +kernel
theorem dL_law_204 : decode cL_law 204 = .ok (.goto 4, 3) := by decide +kernel
theorem dL_law_207 : decode cL_law 207 = .ok (.iconst 0, 1) := by decide +kernel
theorem dL_law_208 : decode cL_law 208 = .ok (.istore 11, 2) := by decide +kernel
theorem dL_law_210 : decode cL_law 210 = .ok (.aload_n 3, 1) := by decide +kernel
theorem dL_law_211 : decode cL_law 211 = .ok (.iload 9, 2) := by decide +kernel
theorem dL_law_213 : decode cL_law 213 = .ok (.iconst 1, 1) := by decide +kernel
theorem dL_law_214 : decode cL_law 214 = .ok (.iadd, 1) := by decide +kernel
theorem dL_law_215 : decode cL_law 215 = .ok (.iconst 1, 1) := by decide +kernel
theorem dL_law_216 : decode cL_law 216 = .ok (.iload 8, 2) := by decide +kernel
theorem dL_law_218 : decode cL_law 218 = .ok (.iconst 2, 1) := by decide +kernel
theorem dL_law_219 : decode cL_law 219 = .ok (.ishr, 1) := by decide +kernel
theorem dL_law_220 : decode cL_law 220 = .ok (.iconst 3, 1) := by decide +kernel
theorem dL_law_221 : decode cL_law 221 = .ok (.invokestatic 88, 3) := by decide +kernel
theorem dL_law_224 : decode cL_law 224 = .ok (.iadd, 1) := by decide +kernel
theorem dL_law_225 : decode cL_law 225 = .ok (.iastore, 1) := by decide +kernel
theorem dL_law_226 : decode cL_law 226 = .ok (.aload 5, 2) := by decide +kernel
theorem dL_law_228 : decode cL_law 228 = .ok (.iconst 1, 1) := by decide +kernel
theorem dL_law_229 : decode cL_law 229 = .ok (.dup2, 1) := by decide +kernel
theorem dL_law_230 : decode cL_law 230 = .ok (.iaload, 1) := by decide +kernel
theorem dL_law_231 : decode cL_law 231 = .ok (.bipush 100, 2) := by decide +kernel
theorem dL_law_233 : decode cL_law 233 = .ok (.aload_n 3, 1) := by decide +kernel
theorem dL_law_234 : decode cL_law 234 = .ok (.iload 9, 2) := by decide +kernel
theorem dL_law_236 : decode cL_law 236 = .ok (.iconst 1, 1) := by decide +kernel
theorem dL_law_237 : decode cL_law 237 = .ok (.iadd, 1) := by decide +kernel
theorem dL_law_238 : decode cL_law 238 = .ok (.iaload, 1) := by decide +kernel
theorem dL_law_239 : decode cL_law 239 = .ok (.imul, 1) := by decide +kernel
theorem dL_law_240 : decode cL_law 240 = .ok (.isub, 1) := by decide +kernel
theorem dL_law_241 : decode cL_law 241 = .ok (.iastore, 1) := by decide +kernel
theorem dL_law_242 : decode cL_law 242 = .ok (.iload 6, 2) := by decide +kernel
theorem dL_law_244 : decode cL_law 244 = .ok (.ifCond .eq 35, 3) := by decide +kernel
theorem dL_law_247 : decode cL_law 247 = .ok (.aload_n 1, 1) := by decide +kernel
theorem dL_law_248 : decode cL_law 248 = .ok (.iload 10, 2) := by decide +kernel
theorem dL_law_250 : decode cL_law 250 = .ok (.aload_n 3, 1) := by decide +kernel
theorem dL_law_251 : decode cL_law 251 = .ok (.iload 9, 2) := by decide +kernel
theorem dL_law_253 : decode cL_law 253 = .ok (.iconst 1, 1) := by decide +kernel
theorem dL_law_254 : decode cL_law 254 = .ok (.iadd, 1) := by decide +kernel
theorem dL_law_255 : decode cL_law 255 = .ok (.iaload, 1) := by decide +kernel
theorem dL_law_256 : decode cL_law 256 = .ok (.invokevirtual 107, 3) := by decide +kernel
theorem dL_law_259 : decode cL_law 259 = .ok (.iload 7, 2) := by decide +kernel
theorem dL_law_261 : decode cL_law 261 = .ok (.if_icmp .ne 18, 3) := by decide +kernel
theorem dL_law_264 : decode cL_law 264 = .ok (.aload_n 1, 1) := by decide +kernel
theorem dL_law_265 : decode cL_law 265 = .ok (.iload 10, 2) := by decide +kernel
theorem dL_law_267 : decode cL_law 267 = .ok (.invokevirtual 110, 3) := by decide +kernel
theorem dL_law_270 : decode cL_law 270 = .ok (.iload 7, 2) := by decide +kernel
theorem dL_law_272 : decode cL_law 272 = .ok (.if_icmp .ne 7, 3) := by decide +kernel
theorem dL_law_275 : decode cL_law 275 = .ok (.iconst 1, 1) := by decide +kernel
theorem dL_law_276 : decode cL_law 276 = .ok (.goto 4, 3) := by decide +kernel
theorem dL_law_279 : decode cL_law 279 = .ok (.iconst 0, 1) := by decide +kernel
theorem dL_law_280 : decode cL_law 280 = .ok (.istore 6, 2) := by decide +kernel
theorem dL_law_282 : decode cL_law 282 = .ok (.iconst 0, 1) := by decide +kernel
theorem dL_law_283 : decode cL_law 283 = .ok (.istore 12, 2) := by decide +kernel
theorem dL_law_285 : decode cL_law 285 = .ok (.iload 12, 2) := by decide +kernel
theorem dL_law_287 : decode cL_law 287 = .ok (.iconst 4, 1) := by decide +kernel
theorem dL_law_288 : decode cL_law 288 = .ok (.if_icmp .ge 82, 3) := by decide +kernel
theorem dL_law_291 : decode cL_law 291 = .ok (.iload 8, 2) := by decide +kernel
theorem dL_law_293 : decode cL_law 293 = .ok (.iconst 4, 1) := by decide +kernel
theorem dL_law_294 : decode cL_law 294 = .ok (.iload 12, 2) := by decide +kernel
theorem dL_law_296 : decode cL_law 296 = .ok (.iadd, 1) := by decide +kernel
theorem dL_law_297 : decode cL_law 297 = .ok (.ishr, 1) := by decide +kernel
theorem dL_law_298 : decode cL_law 298 = .ok (.bipush 6, 2) := by decide +kernel
theorem dL_law_300 : decode cL_law 300 = .ok (.invokestatic 88, 3) := by decide +kernel
theorem dL_law_303 : decode cL_law 303 = .ok (.ifCond .le 7, 3) := by decide +kernel
theorem dL_law_306 : decode cL_law 306 = .ok (.iconst 1, 1) := by decide +kernel
theorem dL_law_307 : decode cL_law 307 = .ok (.goto 4, 3) := by decide +kernel
theorem dL_law_310 : decode cL_law 310 = .ok (.iconst 0, 1) := by decide +kernel
theorem dL_law_311 : decode cL_law 311 = .ok (.istore 13, 2) := by decide +kernel
theorem dL_law_313 : decode cL_law 313 = .ok (.aload_n 3, 1) := by decide +kernel
theorem dL_law_314 : decode cL_law 314 = .ok (.iload 9, 2) := by decide +kernel
theorem dL_law_316 : decode cL_law 316 = .ok (.bipush 15, 2) := by decide +kernel
theorem dL_law_318 : decode cL_law 318 = .ok (.iadd, 1) := by decide +kernel
theorem dL_law_319 : decode cL_law 319 = .ok (.dup2, 1) := by decide +kernel
theorem dL_law_320 : decode cL_law 320 = .ok (.iaload, 1) := by decide +kernel
theorem dL_law_321 : decode cL_law 321 = .ok (.iload 13, 2) := by decide +kernel
theorem dL_law_323 : decode cL_law 323 = .ok (.ifCond .eq 10, 3) := by decide +kernel
theorem dL_law_326 : decode cL_law 326 = .ok (.iconst 1, 1) := by decide +kernel
theorem dL_law_327 : decode cL_law 327 = .ok (.iload 12, 2) := by decide +kernel
theorem dL_law_329 : decode cL_law 329 = .ok (.ishl, 1) := by decide +kernel
theorem dL_law_330 : decode cL_law 330 = .ok (.goto 4, 3) := by decide +kernel
theorem dL_law_333 : decode cL_law 333 = .ok (.iconst 0, 1) := by decide +kernel
theorem dL_law_334 : decode cL_law 334 = .ok (.ior, 1) := by decide +kernel
theorem dL_law_335 : decode cL_law 335 = .ok (.iastore, 1) := by decide +kernel
theorem dL_law_336 : decode cL_law 336 = .ok (.iload 6, 2) := by decide +kernel
theorem dL_law_338 : decode cL_law 338 = .ok (.ifCond .eq 23, 3) := by decide +kernel
theorem dL_law_341 : decode cL_law 341 = .ok (.iload 13, 2) := by decide +kernel
theorem dL_law_343 : decode cL_law 343 = .ok (.ifCond .eq 14, 3) := by decide +kernel
theorem dL_law_346 : decode cL_law 346 = .ok (.aload_n 1, 1) := by decide +kernel
theorem dL_law_347 : decode cL_law 347 = .ok (.iload 7, 2) := by decide +kernel
theorem dL_law_349 : decode cL_law 349 = .ok (.iload 12, 2) := by decide +kernel
theorem dL_law_351 : decode cL_law 351 = .ok (.invokevirtual 113, 3) := by decide +kernel
theorem dL_law_354 : decode cL_law 354 = .ok (.ifCond .le 7, 3) := by decide +kernel
theorem dL_law_357 : decode cL_law 357 = .ok (.iconst 1, 1) := by decide +kernel
theorem dL_law_358 : decode cL_law 358 = .ok (.goto 4, 3) := by decide +kernel
theorem dL_law_361 : decode cL_law 361 = .ok (.iconst 0, 1) := by decide +kernel
theorem dL_law_362 : decode cL_law 362 = .ok (.istore 6, 2) := by decide +kernel
theorem dL_law_364 : decode cL_law 364 = .ok (.iinc 12 1, 3) := by decide +kernel
theorem dL_law_367 : decode cL_law 367 = .ok (.goto (-82), 3) := by decide +kernel
theorem dL_law_370 : decode cL_law 370 = .ok (.aload_n 1, 1) := by decide +kernel
theorem dL_law_371 : decode cL_law 371 = .ok (.iconst 0, 1) := by decide +kernel
theorem dL_law_372 : decode cL_law 372 = .ok (.iload 7, 2) := by decide +kernel
theorem dL_law_374 : decode cL_law 374 = .ok (.iload 7, 2) := by decide +kernel
theorem dL_law_376 : decode cL_law 376 = .ok (.iconst 0, 1) := by decide +kernel
theorem dL_law_377 : decode cL_law 377 = .ok (.invokestatic 94, 3) := by decide +kernel
theorem dL_law_380 : decode cL_law 380 = .ok (.istore 12, 2) := by decide +kernel
theorem dL_law_382 : decode cL_law 382 = .ok (.iload 6, 2) := by decide +kernel
theorem dL_law_384 : decode cL_law 384 = .ok (.ifCond .eq 25, 3) := by decide +kernel
theorem dL_law_387 : decode cL_law 387 = .ok (.iload 12, 2) := by decide +kernel
theorem dL_law_389 : decode cL_law 389 = .ok (.iload 11, 2) := by decide +kernel
theorem dL_law_391 : decode cL_law 391 = .ok (.ifCond .eq 8, 3) := by decide +kernel
theorem dL_law_394 : decode cL_law 394 = .ok (.iload 7, 2) := by decide +kernel
theorem dL_law_396 : decode cL_law 396 = .ok (.goto 6, 3) := by decide +kernel
theorem dL_law_399 : decode cL_law 399 = .ok (.sipush (-1003), 3) := by decide +kernel
theorem dL_law_402 : decode cL_law 402 = .ok (.if_icmp .ne 7, 3) := by decide +kernel
theorem dL_law_405 : decode cL_law 405 = .ok (.iconst 1, 1) := by decide +kernel
theorem dL_law_406 : decode cL_law 406 = .ok (.goto 4, 3) := by decide +kernel
theorem dL_law_409 : decode cL_law 409 = .ok (.iconst 0, 1) := by decide +kernel
theorem dL_law_410 : decode cL_law 410 = .ok (.istore 6, 2) := by decide +kernel
theorem dL_law_412 : decode cL_law 412 = .ok (.aload_n 3, 1) := by decide +kernel
theorem dL_law_413 : decode cL_law 413 = .ok (.iload 9, 2) := by decide +kernel
theorem dL_law_415 : decode cL_law 415 = .ok (.iload 11, 2) := by decide +kernel
theorem dL_law_417 : decode cL_law 417 = .ok (.ifCond .eq 7, 3) := by decide +kernel
theorem dL_law_420 : decode cL_law 420 = .ok (.iconst 1, 1) := by decide +kernel
theorem dL_law_421 : decode cL_law 421 = .ok (.goto 4, 3) := by decide +kernel
theorem dL_law_424 : decode cL_law 424 = .ok (.iconst 0, 1) := by decide +kernel
theorem dL_law_425 : decode cL_law 425 = .ok (.iastore, 1) := by decide +kernel
theorem dL_law_426 : decode cL_law 426 = .ok (.aload_n 3, 1) := by decide +kernel
theorem dL_law_427 : decode cL_law 427 = .ok (.iload 9, 2) := by decide +kernel
theorem dL_law_429 : decode cL_law 429 = .ok (.iconst 4, 1) := by decide +kernel
theorem dL_law_430 : decode cL_law 430 = .ok (.iadd, 1) := by decide +kernel
theorem dL_law_431 : decode cL_law 431 = .ok (.iload 10, 2) := by decide +kernel
theorem dL_law_433 : decode cL_law 433 = .ok (.iastore, 1) := by decide +kernel
theorem dL_law_434 : decode cL_law 434 = .ok (.aload_n 3, 1) := by decide +kernel
theorem dL_law_435 : decode cL_law 435 = .ok (.iload 9, 2) := by decide +kernel
theorem dL_law_437 : decode cL_law 437 = .ok (.iconst 5, 1) := by decide +kernel
theorem dL_law_438 : decode cL_law 438 = .ok (.iadd, 1) := by decide +kernel
theorem dL_law_439 : decode cL_law 439 = .ok (.iconst (-1), 1) := by decide +kernel
theorem dL_law_440 : decode cL_law 440 = .ok (.iastore, 1) := by decide +kernel
theorem dL_law_441 : decode cL_law 441 = .ok (.aload_n 3, 1) := by decide +kernel
theorem dL_law_442 : decode cL_law 442 = .ok (.iload 9, 2) := by decide +kernel
theorem dL_law_444 : decode cL_law 444 = .ok (.bipush 11, 2) := by decide +kernel
theorem dL_law_446 : decode cL_law 446 = .ok (.iadd, 1) := by decide +kernel
theorem dL_law_447 : decode cL_law 447 = .ok (.iconst (-1), 1) := by decide +kernel
theorem dL_law_448 : decode cL_law 448 = .ok (.iastore, 1) := by decide +kernel
theorem dL_law_449 : decode cL_law 449 = .ok (.iconst 0, 1) := by decide +kernel
theorem dL_law_450 : decode cL_law 450 = .ok (.istore 13, 2) := by decide +kernel
theorem dL_law_452 : decode cL_law 452 = .ok (.iload 13, 2) := by decide +kernel
theorem dL_law_454 : decode cL_law 454 = .ok (.iconst 5, 1) := by decide +kernel
theorem dL_law_455 : decode cL_law 455 = .ok (.if_icmp .ge 87, 3) := by decide +kernel
theorem dL_law_458 : decode cL_law 458 = .ok (.iload 11, 2) := by decide +kernel
theorem dL_law_460 : decode cL_law 460 = .ok (.ifCond .eq 82, 3) := by decide +kernel
theorem dL_law_463 : decode cL_law 463 = .ok (.iload 8, 2) := by decide +kernel
theorem dL_law_465 : decode cL_law 465 = .ok (.bipush 9, 2) := by decide +kernel
theorem dL_law_467 : decode cL_law 467 = .ok (.ishr, 1) := by decide +kernel
theorem dL_law_468 : decode cL_law 468 = .ok (.bipush 6, 2) := by decide +kernel
theorem dL_law_470 : decode cL_law 470 = .ok (.invokestatic 88, 3) := by decide +kernel
theorem dL_law_473 : decode cL_law 473 = .ok (.iload 13, 2) := by decide +kernel
theorem dL_law_475 : decode cL_law 475 = .ok (.if_icmp .le 67, 3) := by decide +kernel
theorem dL_law_478 : decode cL_law 478 = .ok (.aload 5, 2) := by decide +kernel
theorem dL_law_480 : decode cL_law 480 = .ok (.iconst 1, 1) := by decide +kernel
theorem dL_law_481 : decode cL_law 481 = .ok (.dup2, 1) := by decide +kernel
theorem dL_law_482 : decode cL_law 482 = .ok (.iaload, 1) := by decide +kernel
theorem dL_law_483 : decode cL_law 483 = .ok (.bipush 50, 2) := by decide +kernel
theorem dL_law_485 : decode cL_law 485 = .ok (.isub, 1) := by decide +kernel
theorem dL_law_486 : decode cL_law 486 = .ok (.iastore, 1) := by decide +kernel
theorem dL_law_487 : decode cL_law 487 = .ok (.aload_n 1, 1) := by decide +kernel
theorem dL_law_488 : decode cL_law 488 = .ok (.iload 10, 2) := by decide +kernel
theorem dL_law_490 : decode cL_law 490 = .ok (.invokevirtual 116, 3) := by decide +kernel
theorem dL_law_493 : decode cL_law 493 = .ok (.istore 14, 2) := by decide +kernel
theorem dL_law_495 : decode cL_law 495 = .ok (.aload_n 3, 1) := by decide +kernel
theorem dL_law_496 : decode cL_law 496 = .ok (.iload 9, 2) := by decide +kernel
theorem dL_law_498 : decode cL_law 498 = .ok (.iconst 2, 1) := by decide +kernel
theorem dL_law_499 : decode cL_law 499 = .ok (.iadd, 1) := by decide +kernel
theorem dL_law_500 : decode cL_law 500 = .ok (.dup2, 1) := by decide +kernel
theorem dL_law_501 : decode cL_law 501 = .ok (.iaload, 1) := by decide +kernel
theorem dL_law_502 : decode cL_law 502 = .ok (.iconst 1, 1) := by decide +kernel
theorem dL_law_503 : decode cL_law 503 = .ok (.iadd, 1) := by decide +kernel
theorem dL_law_504 : decode cL_law 504 = .ok (.iastore, 1) := by decide +kernel
theorem dL_law_505 : decode cL_law 505 = .ok (.iload 6, 2) := by decide +kernel
theorem dL_law_507 : decode cL_law 507 = .ok (.ifCond .eq 26, 3) := by decide +kernel
theorem dL_law_510 : decode cL_law 510 = .ok (.aload_n 1, 1) := by decide +kernel
theorem dL_law_511 : decode cL_law 511 = .ok (.iconst 5, 1) := by decide +kernel
theorem dL_law_512 : decode cL_law 512 = .ok (.iload 7, 2) := by decide +kernel
theorem dL_law_514 : decode cL_law 514 = .ok (.iload 14, 2) := by decide +kernel
theorem dL_law_516 : decode cL_law 516 = .ok (.iconst 0, 1) := by decide +kernel
theorem dL_law_517 : decode cL_law 517 = .ok (.invokestatic 94, 3) := by decide +kernel
theorem dL_law_520 : decode cL_law 520 = .ok (.aload_n 3, 1) := by decide +kernel
theorem dL_law_521 : decode cL_law 521 = .ok (.iload 9, 2) := by decide +kernel
theorem dL_law_523 : decode cL_law 523 = .ok (.iconst 2, 1) := by decide +kernel
theorem dL_law_524 : decode cL_law 524 = .ok (.iadd, 1) := by decide +kernel
theorem dL_law_525 : decode cL_law 525 = .ok (.iaload, 1) := by decide +kernel
theorem dL_law_526 : decode cL_law 526 = .ok (.if_icmp .ne 7, 3) := by decide +kernel
theorem dL_law_529 : decode cL_law 529 = .ok (.iconst 1, 1) := by decide +kernel
theorem dL_law_530 : decode cL_law 530 = .ok (.goto 4, 3) := by decide +kernel
theorem dL_law_533 : decode cL_law 533 = .ok (.iconst 0, 1) := by decide +kernel
theorem dL_law_534 : decode cL_law 534 = .ok (.istore 6, 2) := by decide +kernel
theorem dL_law_536 : decode cL_law 536 = .ok (.iinc 13 1, 3) := by decide +kernel
theorem dL_law_539 : decode cL_law 539 = .ok (.goto (-87), 3) := by decide +kernel
theorem dL_law_542 : decode cL_law 542 = .ok (.iinc 7 1, 3) := by decide +kernel
theorem dL_law_545 : decode cL_law 545 = .ok (.goto (-383), 3) := by decide +kernel
theorem dL_law_548 : decode cL_law 548 = .ok (.iconst 0, 1) := by decide +kernel
theorem dL_law_549 : decode cL_law 549 = .ok (.istore 7, 2) := by decide +kernel
theorem dL_law_551 : decode cL_law 551 = .ok (.iload 7, 2) := by decide +kernel
theorem dL_law_553 : decode cL_law 553 = .ok (.bipush 50, 2) := by decide +kernel
theorem dL_law_555 : decode cL_law 555 = .ok (.if_icmp .ge 932, 3) := by decide +kernel
theorem dL_law_558 : decode cL_law 558 = .ok (.iload 6, 2) := by decide +kernel
theorem dL_law_560 : decode cL_law 560 = .ok (.ifCond .eq 927, 3) := by decide +kernel
theorem dL_law_563 : decode cL_law 563 = .ok (.aload_n 0, 1) := by decide +kernel
theorem dL_law_564 : decode cL_law 564 = .ok (.bipush 7, 2) := by decide +kernel
theorem dL_law_566 : decode cL_law 566 = .ok (.iload 7, 2) := by decide +kernel
theorem dL_law_568 : decode cL_law 568 = .ok (.iadd, 1) := by decide +kernel
theorem dL_law_569 : decode cL_law 569 = .ok (.invokestatic 99, 3) := by decide +kernel
theorem dL_law_572 : decode cL_law 572 = .ok (.istore 8, 2) := by decide +kernel
theorem dL_law_574 : decode cL_law 574 = .ok (.iload 8, 2) := by decide +kernel
theorem dL_law_576 : decode cL_law 576 = .ok (.bipush 16, 2) := by decide +kernel
theorem dL_law_578 : decode cL_law 578 = .ok (.invokestatic 88, 3) := by decide +kernel
theorem dL_law_581 : decode cL_law 581 = .ok (.istore 9, 2) := by decide +kernel
theorem dL_law_583 : decode cL_law 583 = .ok (.iload 8, 2) := by decide +kernel
theorem dL_law_585 : decode cL_law 585 = .ok (.iconst 4, 1) := by decide +kernel
theorem dL_law_586 : decode cL_law 586 = .ok (.ishr, 1) := by decide +kernel
theorem dL_law_587 : decode cL_law 587 = .ok (.iconst 3, 1) := by decide +kernel
theorem dL_law_588 : decode cL_law 588 = .ok (.invokestatic 88, 3) := by decide +kernel
theorem dL_law_591 : decode cL_law 591 = .ok (.istore 10, 2) := by decide +kernel
theorem dL_law_593 : decode cL_law 593 = .ok (.bipush 16, 2) := by decide +kernel
theorem dL_law_595 : decode cL_law 595 = .ok (.iload 10, 2) := by decide +kernel
theorem dL_law_597 : decode cL_law 597 = .ok (.imul, 1) := by decide +kernel
theorem dL_law_598 : decode cL_law 598 = .ok (.istore 11, 2) := by decide +kernel
theorem dL_law_600 : decode cL_law 600 = .ok (.iload 8, 2) := by decide +kernel
theorem dL_law_602 : decode cL_law 602 = .ok (.bipush 6, 2) := by decide +kernel
theorem dL_law_604 : decode cL_law 604 = .ok (.ishr, 1) := by decide +kernel
theorem dL_law_605 : decode cL_law 605 = .ok (.iconst 4, 1) := by decide +kernel
theorem dL_law_606 : decode cL_law 606 = .ok (.invokestatic 88, 3) := by decide +kernel
theorem dL_law_609 : decode cL_law 609 = .ok (.istore 12, 2) := by decide +kernel
theorem dL_law_611 : decode cL_law 611 = .ok (.iload 9, 2) := by decide +kernel
theorem dL_law_613 : decode cL_law 613 = .ok (.iconst 5, 1) := by decide +kernel
theorem dL_law_614 : decode cL_law 614 = .ok (.if_icmp .ge 49, 3) := by decide +kernel
theorem dL_law_617 : decode cL_law 617 = .ok (.aload_n 3, 1) := by decide +kernel
theorem dL_law_618 : decode cL_law 618 = .ok (.iload 11, 2) := by decide +kernel
theorem dL_law_620 : decode cL_law 620 = .ok (.iaload, 1) := by decide +kernel
theorem dL_law_621 : decode cL_law 621 = .ok (.iconst 1, 1) := by decide +kernel
theorem dL_law_622 : decode cL_law 622 = .ok (.if_icmp .ne 41, 3) := by decide +kernel
theorem dL_law_625 : decode cL_law 625 = .ok (.aload_n 3, 1) := by decide +kernel
theorem dL_law_626 : decode cL_law 626 = .ok (.iload 11, 2) := by decide +kernel
theorem dL_law_628 : decode cL_law 628 = .ok (.iconst 3, 1) := by decide +kernel
theorem dL_law_629 : decode cL_law 629 = .ok (.iadd, 1) := by decide +kernel
theorem dL_law_630 : decode cL_law 630 = .ok (.iaload, 1) := by decide +kernel
theorem dL_law_631 : decode cL_law 631 = .ok (.iconst 2, 1) := by decide +kernel
theorem dL_law_632 : decode cL_law 632 = .ok (.if_icmp .ge 31, 3) := by decide +kernel
theorem dL_law_635 : decode cL_law 635 = .ok (.aload 5, 2) := by decide +kernel
theorem dL_law_637 : decode cL_law 637 = .ok (.iconst 3, 1) := by decide +kernel
theorem dL_law_638 : decode cL_law 638 = .ok (.iaload, 1) := by decide +kernel
theorem dL_law_639 : decode cL_law 639 = .ok (.ifCond .ne 24, 3) := by decide +kernel
theorem dL_law_642 : decode cL_law 642 = .ok (.aload_n 1, 1) := by decide +kernel
theorem dL_law_643 : decode cL_law 643 = .ok (.iload 10, 2) := by decide +kernel
theorem dL_law_645 : decode cL_law 645 = .ok (.iload 8, 2) := by decide +kernel
theorem dL_law_647 : decode cL_law 647 = .ok (.bipush 8, 2) := by decide +kernel
theorem dL_law_649 : decode cL_law 649 = .ok (.ishr, 1) := by decide +kernel
theorem dL_law_650 : decode cL_law 650 = .ok (.aload_n 3, 1) := by decide +kernel
theorem dL_law_651 : decode cL_law 651 = .ok (.aload 4, 2) := by decide +kernel
theorem dL_law_653 : decode cL_law 653 = .ok (.aload 5, 2) := by decide +kernel
theorem dL_law_655 : decode cL_law 655 = .ok (.invokestatic 119, 3) := by decide +kernel
theorem dL_law_658 : decode cL_law 658 = .ok (.istore 6, 2) := by decide +kernel
theorem dL_law_660 : decode cL_law 660 = .ok (.goto 796, 3) := by decide +kernel
theorem dL_law_663 : decode cL_law 663 = .ok (.iload 9, 2) := by decide +kernel
theorem dL_law_665 : decode cL_law 665 = .ok (.iconst 5, 1) := by decide +kernel
theorem dL_law_666 : decode cL_law 666 = .ok (.if_icmp .ne 77, 3) := by decide +kernel
theorem dL_law_669 : decode cL_law 669 = .ok (.iload 8, 2) := by decide +kernel
theorem dL_law_671 : decode cL_law 671 = .ok (.bipush 8, 2) := by decide +kernel
theorem dL_law_673 : decode cL_law 673 = .ok (.ishr, 1) := by decide +kernel
theorem dL_law_674 : decode cL_law 674 = .ok (.iconst 2, 1) := by decide +kernel
theorem dL_law_675 : decode cL_law 675 = .ok (.invokestatic 88, 3) := by decide +kernel
theorem dL_law_678 : decode cL_law 678 = .ok (.istore 13, 2) := by decide +kernel
theorem dL_law_680 : decode cL_law 680 = .ok (.aload_n 1, 1) := by decide +kernel
theorem dL_law_681 : decode cL_law 681 = .ok (.iload 12, 2) := by decide +kernel
theorem dL_law_683 : decode cL_law 683 = .ok (.iload 13, 2) := by decide +kernel
theorem dL_law_685 : decode cL_law 685 = .ok (.iconst 1, 1) := by decide +kernel
theorem dL_law_686 : decode cL_law 686 = .ok (.if_icmp .ne 7, 3) := by decide +kernel
theorem dL_law_689 : decode cL_law 689 = .ok (.iconst 1, 1) := by decide +kernel
theorem dL_law_690 : decode cL_law 690 = .ok (.goto 4, 3) := by decide +kernel
theorem dL_law_693 : decode cL_law 693 = .ok (.iconst 0, 1) := by decide +kernel
theorem dL_law_694 : decode cL_law 694 = .ok (.invokevirtual 123, 3) := by decide +kernel
theorem dL_law_697 : decode cL_law 697 = .ok (.aload_n 2, 1) := by decide +kernel
theorem dL_law_698 : decode cL_law 698 = .ok (.bipush 12, 2) := by decide +kernel
theorem dL_law_700 : decode cL_law 700 = .ok (.iload 12, 2) := by decide +kernel
theorem dL_law_702 : decode cL_law 702 = .ok (.iadd, 1) := by decide +kernel
theorem dL_law_703 : decode cL_law 703 = .ok (.iaload, 1) := by decide +kernel
theorem dL_law_704 : decode cL_law 704 = .ok (.iconst 1, 1) := by decide +kernel
theorem dL_law_705 : decode cL_law 705 = .ok (.if_icmp .ne 7, 3) := by decide +kernel
theorem dL_law_708 : decode cL_law 708 = .ok (.iconst 1, 1) := by decide +kernel
theorem dL_law_709 : decode cL_law 709 = .ok (.goto 4, 3) := by decide +kernel
theorem dL_law_712 : decode cL_law 712 = .ok (.iconst 0, 1) := by decide +kernel
theorem dL_law_713 : decode cL_law 713 = .ok (.if_icmp .ne 7, 3) := by decide +kernel
theorem dL_law_716 : decode cL_law 716 = .ok (.iconst 1, 1) := by decide +kernel
theorem dL_law_717 : decode cL_law 717 = .ok (.goto 4, 3) := by decide +kernel
theorem dL_law_720 : decode cL_law 720 = .ok (.iconst 0, 1) := by decide +kernel
theorem dL_law_721 : decode cL_law 721 = .ok (.istore 6, 2) := by decide +kernel
theorem dL_law_723 : decode cL_law 723 = .ok (.aload_n 2, 1) := by decide +kernel
theorem dL_law_724 : decode cL_law 724 = .ok (.bipush 12, 2) := by decide +kernel
theorem dL_law_726 : decode cL_law 726 = .ok (.iload 12, 2) := by decide +kernel
theorem dL_law_728 : decode cL_law 728 = .ok (.iadd, 1) := by decide +kernel
theorem dL_law_729 : decode cL_law 729 = .ok (.iload 13, 2) := by decide +kernel
theorem dL_law_731 : decode cL_law 731 = .ok (.iastore, 1) := by decide +kernel
theorem dL_law_732 : decode cL_law 732 = .ok (.aload_n 2, 1) := by decide +kernel
theorem dL_law_733 : decode cL_law 733 = .ok (.bipush 16, 2) := by decide +kernel
theorem dL_law_735 : decode cL_law 735 = .ok (.iload 12, 2) := by decide +kernel
theorem dL_law_737 : decode cL_law 737 = .ok (.iadd, 1) := by decide +kernel
theorem dL_law_738 : decode cL_law 738 = .ok (.iconst 0, 1) := by decide +kernel
theorem dL_law_739 : decode cL_law 739 = .ok (.iastore, 1) := by decide +kernel
theorem dL_law_740 : decode cL_law 740 = .ok (.goto 716, 3) := by decide +kernel
theorem dL_law_743 : decode cL_law 743 = .ok (.iload 9, 2) := by decide +kernel
theorem dL_law_745 : decode cL_law 745 = .ok (.bipush 6, 2) := by decide +kernel
theorem dL_law_747 : decode cL_law 747 = .ok (.if_icmp .ne 41, 3) := by decide +kernel
theorem dL_law_750 : decode cL_law 750 = .ok (.aload_n 2, 1) := by decide +kernel
theorem dL_law_751 : decode cL_law 751 = .ok (.bipush 12, 2) := by decide +kernel
theorem dL_law_753 : decode cL_law 753 = .ok (.iload 12, 2) := by decide +kernel
theorem dL_law_755 : decode cL_law 755 = .ok (.iadd, 1) := by decide +kernel
theorem dL_law_756 : decode cL_law 756 = .ok (.iaload, 1) := by decide +kernel
theorem dL_law_757 : decode cL_law 757 = .ok (.iconst 1, 1) := by decide +kernel
theorem dL_law_758 : decode cL_law 758 = .ok (.if_icmp .ne 30, 3) := by decide +kernel
theorem dL_law_761 : decode cL_law 761 = .ok (.aload_n 2, 1) := by decide +kernel
theorem dL_law_762 : decode cL_law 762 = .ok (.bipush 16, 2) := by decide +kernel
theorem dL_law_764 : decode cL_law 764 = .ok (.iload 12, 2) := by decide +kernel
theorem dL_law_766 : decode cL_law 766 = .ok (.iadd, 1) := by decide +kernel
theorem dL_law_767 : decode cL_law 767 = .ok (.iaload, 1) := by decide +kernel
theorem dL_law_768 : decode cL_law 768 = .ok (.ifCond .ne 20, 3) := by decide +kernel
theorem dL_law_771 : decode cL_law 771 = .ok (.aload_n 1, 1) := by decide +kernel
theorem dL_law_772 : decode cL_law 772 = .ok (.iload 12, 2) := by decide +kernel
theorem dL_law_774 : decode cL_law 774 = .ok (.invokevirtual 127, 3) := by decide +kernel
theorem dL_law_777 : decode cL_law 777 = .ok (.aload_n 2, 1) := by decide +kernel
theorem dL_law_778 : decode cL_law 778 = .ok (.bipush 16, 2) := by decide +kernel
theorem dL_law_780 : decode cL_law 780 = .ok (.iload 12, 2) := by decide +kernel
theorem dL_law_782 : decode cL_law 782 = .ok (.iadd, 1) := by decide +kernel
theorem dL_law_783 : decode cL_law 783 = .ok (.iconst 1, 1) := by decide +kernel
theorem dL_law_784 : decode cL_law 784 = .ok (.iastore, 1) := by decide +kernel
theorem dL_law_785 : decode cL_law 785 = .ok (.goto 671, 3) := by decide +kernel
theorem dL_law_788 : decode cL_law 788 = .ok (.iload 9, 2) := by decide +kernel
theorem dL_law_790 : decode cL_law 790 = .ok (.bipush 7, 2) := by decide +kernel
theorem dL_law_792 : decode cL_law 792 = .ok (.if_icmp .ne 95, 3) := by decide +kernel
theorem dL_law_795 : decode cL_law 795 = .ok (.aload 5, 2) := by decide +kernel
theorem dL_law_797 : decode cL_law 797 = .ok (.iconst 0, 1) := by decide +kernel
theorem dL_law_798 : decode cL_law 798 = .ok (.iaload, 1) := by decide +kernel
theorem dL_law_799 : decode cL_law 799 = .ok (.iload 8, 2) := by decide +kernel
theorem dL_law_801 : decode cL_law 801 = .ok (.bipush 8, 2) := by decide +kernel
theorem dL_law_803 : decode cL_law 803 = .ok (.ishr, 1) := by decide +kernel
theorem dL_law_804 : decode cL_law 804 = .ok (.bipush 30, 2) := by decide +kernel
theorem dL_law_806 : decode cL_law 806 = .ok (.invokestatic 88, 3) := by decide +kernel
theorem dL_law_809 : decode cL_law 809 = .ok (.iadd, 1) := by decide +kernel
theorem dL_law_810 : decode cL_law 810 = .ok (.sipush 1440, 3) := by decide +kernel
theorem dL_law_813 : decode cL_law 813 = .ok (.irem, 1) := by decide +kernel
theorem dL_law_814 : decode cL_law 814 = .ok (.istore 13, 2) := by decide +kernel
theorem dL_law_816 : decode cL_law 816 = .ok (.iload 13, 2) := by decide +kernel
theorem dL_law_818 : decode cL_law 818 = .ok (.iload 8, 2) := by decide +kernel
theorem dL_law_820 : decode cL_law 820 = .ok (.bipush 13, 2) := by decide +kernel
theorem dL_law_822 : decode cL_law 822 = .ok (.ishr, 1) := by decide +kernel
theorem dL_law_823 : decode cL_law 823 = .ok (.bipush 20, 2) := by decide +kernel
theorem dL_law_825 : decode cL_law 825 = .ok (.invokestatic 88, 3) := by decide +kernel
theorem dL_law_828 : decode cL_law 828 = .ok (.iadd, 1) := by decide +kernel
theorem dL_law_829 : decode cL_law 829 = .ok (.sipush 1440, 3) := by decide +kernel
theorem dL_law_832 : decode cL_law 832 = .ok (.if_icmp .le 9, 3) := by decide +kernel
theorem dL_law_835 : decode cL_law 835 = .ok (.sipush 1440, 3) := by decide +kernel
theorem dL_law_838 : decode cL_law 838 = .ok (.goto 16, 3) := by decide +kernel
theorem dL_law_841 : decode cL_law 841 = .ok (.iload 13, 2) := by decide +kernel
theorem dL_law_843 : decode cL_law 843 = .ok (.iload 8, 2) := by decide +kernel
theorem dL_law_845 : decode cL_law 845 = .ok (.bipush 13, 2) := by decide +kernel
theorem dL_law_847 : decode cL_law 847 = .ok (.ishr, 1) := by decide +kernel
theorem dL_law_848 : decode cL_law 848 = .ok (.bipush 20, 2) := by decide +kernel
theorem dL_law_850 : decode cL_law 850 = .ok (.invokestatic 88, 3) := by decide +kernel
theorem dL_law_853 : decode cL_law 853 = .ok (.iadd, 1) := by decide +kernel
theorem dL_law_854 : decode cL_law 854 = .ok (.istore 14, 2) := by decide +kernel
theorem dL_law_856 : decode cL_law 856 = .ok (.aload_n 1, 1) := by decide +kernel
theorem dL_law_857 : decode cL_law 857 = .ok (.iload 12, 2) := by decide +kernel
theorem dL_law_859 : decode cL_law 859 = .ok (.iload 13, 2) := by decide +kernel
theorem dL_law_861 : decode cL_law 861 = .ok (.iload 14, 2) := by decide +kernel
theorem dL_law_863 : decode cL_law 863 = .ok (.invokevirtual 131, 3) := by decide +kernel
theorem dL_law_866 : decode cL_law 866 = .ok (.aload_n 2, 1) := by decide +kernel
theorem dL_law_867 : decode cL_law 867 = .ok (.bipush 20, 2) := by decide +kernel
theorem dL_law_869 : decode cL_law 869 = .ok (.iload 12, 2) := by decide +kernel
theorem dL_law_871 : decode cL_law 871 = .ok (.iadd, 1) := by decide +kernel
theorem dL_law_872 : decode cL_law 872 = .ok (.iload 13, 2) := by decide +kernel
theorem dL_law_874 : decode cL_law 874 = .ok (.iastore, 1) := by decide +kernel
theorem dL_law_875 : decode cL_law 875 = .ok (.aload_n 2, 1) := by decide +kernel
theorem dL_law_876 : decode cL_law 876 = .ok (.bipush 24, 2) := by decide +kernel
theorem dL_law_878 : decode cL_law 878 = .ok (.iload 12, 2) := by decide +kernel
theorem dL_law_880 : decode cL_law 880 = .ok (.iadd, 1) := by decide +kernel
theorem dL_law_881 : decode cL_law 881 = .ok (.iload 14, 2) := by decide +kernel
theorem dL_law_883 : decode cL_law 883 = .ok (.iastore, 1) := by decide +kernel
theorem dL_law_884 : decode cL_law 884 = .ok (.goto 572, 3) := by decide +kernel
theorem dL_law_887 : decode cL_law 887 = .ok (.iload 9, 2) := by decide +kernel
theorem dL_law_889 : decode cL_law 889 = .ok (.bipush 8, 2) := by decide +kernel
theorem dL_law_891 : decode cL_law 891 = .ok (.if_icmp .ne 153, 3) := by decide +kernel
theorem dL_law_894 : decode cL_law 894 = .ok (.aload_n 2, 1) := by decide +kernel
theorem dL_law_895 : decode cL_law 895 = .ok (.bipush 28, 2) := by decide +kernel
theorem dL_law_897 : decode cL_law 897 = .ok (.iload 12, 2) := by decide +kernel
theorem dL_law_899 : decode cL_law 899 = .ok (.iadd, 1) := by decide +kernel
theorem dL_law_900 : decode cL_law 900 = .ok (.iaload, 1) := by decide +kernel
theorem dL_law_901 : decode cL_law 901 = .ok (.ifCond .ge 21, 3) := by decide +kernel
theorem dL_law_904 : decode cL_law 904 = .ok (.aload_n 2, 1) := by decide +kernel
theorem dL_law_905 : decode cL_law 905 = .ok (.bipush 36, 2) := by decide +kernel
theorem dL_law_907 : decode cL_law 907 = .ok (.iload 12, 2) := by decide +kernel
theorem dL_law_909 : decode cL_law 909 = .ok (.iadd, 1) := by decide +kernel
theorem dL_law_910 : decode cL_law 910 = .ok (.iaload, 1) := by decide +kernel
theorem dL_law_911 : decode cL_law 911 = .ok (.aload 5, 2) := by decide +kernel
theorem dL_law_913 : decode cL_law 913 = .ok (.iconst 0, 1) := by decide +kernel
theorem dL_law_914 : decode cL_law 914 = .ok (.iaload, 1) := by decide +kernel
theorem dL_law_915 : decode cL_law 915 = .ok (.if_icmp .gt 7, 3) := by decide +kernel
theorem dL_law_918 : decode cL_law 918 = .ok (.iconst 1, 1) := by decide +kernel
theorem dL_law_919 : decode cL_law 919 = .ok (.goto 4, 3) := by decide +kernel
theorem dL_law_922 : decode cL_law 922 = .ok (.iconst 0, 1) := by decide +kernel
theorem dL_law_923 : decode cL_law 923 = .ok (.istore 13, 2) := by decide +kernel
theorem dL_law_925 : decode cL_law 925 = .ok (.aload_n 1, 1) := by decide +kernel
theorem dL_law_926 : decode cL_law 926 = .ok (.iconst 2, 1) := by decide +kernel
theorem dL_law_927 : decode cL_law 927 = .ok (.iload 12, 2) := by decide +kernel
theorem dL_law_929 : decode cL_law 929 = .ok (.iconst 0, 1) := by decide +kernel
theorem dL_law_930 : decode cL_law 930 = .ok (.iconst 0, 1) := by decide +kernel
theorem dL_law_931 : decode cL_law 931 = .ok (.invokestatic 94, 3) := by decide +kernel
theorem dL_law_934 : decode cL_law 934 = .ok (.iload 13, 2) := by decide +kernel
theorem dL_law_936 : decode cL_law 936 = .ok (.ifCond .eq 15, 3) := by decide +kernel
theorem dL_law_939 : decode cL_law 939 = .ok (.iconst 5, 1) := by decide +kernel
theorem dL_law_940 : decode cL_law 940 = .ok (.aload_n 2, 1) := by decide +kernel
theorem dL_law_941 : decode cL_law 941 = .ok (.bipush 8, 2) := by decide +kernel
theorem dL_law_943 : decode cL_law 943 = .ok (.iload 12, 2) := by decide +kernel
theorem dL_law_945 : decode cL_law 945 = .ok (.iadd, 1) := by decide +kernel
theorem dL_law_946 : decode cL_law 946 = .ok (.iaload, 1) := by decide +kernel
theorem dL_law_947 : decode cL_law 947 = .ok (.imul, 1) := by decide +kernel
theorem dL_law_948 : decode cL_law 948 = .ok (.goto 6, 3) := by decide +kernel
theorem dL_law_951 : decode cL_law 951 = .ok (.sipush (-1003), 3) := by decide +kernel
theorem dL_law_954 : decode cL_law 954 = .ok (.if_icmp .ne 7, 3) := by decide +kernel
theorem dL_law_957 : decode cL_law 957 = .ok (.iconst 1, 1) := by decide +kernel
theorem dL_law_958 : decode cL_law 958 = .ok (.goto 4, 3) := by decide +kernel
theorem dL_law_961 : decode cL_law 961 = .ok (.iconst 0, 1) := by decide +kernel
theorem dL_law_962 : decode cL_law 962 = .ok (.istore 6, 2) := by decide +kernel
theorem dL_law_964 : decode cL_law 964 = .ok (.aload 5, 2) := by decide +kernel
theorem dL_law_966 : decode cL_law 966 = .ok (.iconst 1, 1) := by decide +kernel
theorem dL_law_967 : decode cL_law 967 = .ok (.dup2, 1) := by decide +kernel
theorem dL_law_968 : decode cL_law 968 = .ok (.iaload, 1) := by decide +kernel
theorem dL_law_969 : decode cL_law 969 = .ok (.iload 13, 2) := by decide +kernel
theorem dL_law_971 : decode cL_law 971 = .ok (.ifCond .eq 15, 3) := by decide +kernel
theorem dL_law_974 : decode cL_law 974 = .ok (.iconst 5, 1) := by decide +kernel
theorem dL_law_975 : decode cL_law 975 = .ok (.aload_n 2, 1) := by decide +kernel
theorem dL_law_976 : decode cL_law 976 = .ok (.bipush 8, 2) := by decide +kernel
theorem dL_law_978 : decode cL_law 978 = .ok (.iload 12, 2) := by decide +kernel
theorem dL_law_980 : decode cL_law 980 = .ok (.iadd, 1) := by decide +kernel
theorem dL_law_981 : decode cL_law 981 = .ok (.iaload, 1) := by decide +kernel
theorem dL_law_982 : decode cL_law 982 = .ok (.imul, 1) := by decide +kernel
theorem dL_law_983 : decode cL_law 983 = .ok (.goto 4, 3) := by decide +kernel
theorem dL_law_986 : decode cL_law 986 = .ok (.iconst 0, 1) := by decide +kernel
theorem dL_law_987 : decode cL_law 987 = .ok (.isub, 1) := by decide +kernel
theorem dL_law_988 : decode cL_law 988 = .ok (.iastore, 1) := by decide +kernel
theorem dL_law_989 : decode cL_law 989 = .ok (.aload_n 2, 1) := by decide +kernel
theorem dL_law_990 : decode cL_law 990 = .ok (.bipush 36, 2) := by decide +kernel
theorem dL_law_992 : decode cL_law 992 = .ok (.iload 12, 2) := by decide +kernel
theorem dL_law_994 : decode cL_law 994 = .ok (.iadd, 1) := by decide +kernel
theorem dL_law_995 : decode cL_law 995 = .ok (.iload 13, 2) := by decide +kernel
theorem dL_law_997 : decode cL_law 997 = .ok (.ifCond .eq 13, 3) := by decide +kernel
theorem dL_law_1000 : decode cL_law 1000 = .ok (.aload 5, 2) := by decide +kernel
theorem dL_law_1002 : decode cL_law 1002 = .ok (.iconst 0, 1) := by decide +kernel
theorem dL_law_1003 : decode cL_law 1003 = .ok (.iaload, 1) := by decide +kernel
theorem dL_law_1004 : decode cL_law 1004 = .ok (.bipush 30, 2) := by decide +kernel
theorem dL_law_1006 : decode cL_law 1006 = .ok (.iadd, 1) := by decide +kernel
theorem dL_law_1007 : decode cL_law 1007 = .ok (.goto 10, 3) := by decide +kernel
theorem dL_law_1010 : decode cL_law 1010 = .ok (.aload_n 2, 1) := by decide +kernel
theorem dL_law_1011 : decode cL_law 1011 = .ok (.bipush 36, 2) := by decide +kernel
theorem dL_law_1013 : decode cL_law 1013 = .ok (.iload 12, 2) := by decide +kernel
theorem dL_law_1015 : decode cL_law 1015 = .ok (.iadd, 1) := by decide +kernel
theorem dL_law_1016 : decode cL_law 1016 = .ok (.iaload, 1) := by decide +kernel
theorem dL_law_1017 : decode cL_law 1017 = .ok (.iastore, 1) := by decide +kernel
theorem dL_law_1018 : decode cL_law 1018 = .ok (.aload_n 2, 1) := by decide +kernel
theorem dL_law_1019 : decode cL_law 1019 = .ok (.bipush 8, 2) := by decide +kernel
theorem dL_law_1021 : decode cL_law 1021 = .ok (.iload 12, 2) := by decide +kernel
theorem dL_law_1023 : decode cL_law 1023 = .ok (.iadd, 1) := by decide +kernel
theorem dL_law_1024 : decode cL_law 1024 = .ok (.iload 13, 2) := by decide +kernel
theorem dL_law_1026 : decode cL_law 1026 = .ok (.ifCond .eq 7, 3) := by decide +kernel
theorem dL_law_1029 : decode cL_law 1029 = .ok (.iconst 0, 1) := by decide +kernel
theorem dL_law_1030 : decode cL_law 1030 = .ok (.goto 10, 3) := by decide +kernel
theorem dL_law_1033 : decode cL_law 1033 = .ok (.aload_n 2, 1) := by decide +kernel
theorem dL_law_1034 : decode cL_law 1034 = .ok (.bipush 8, 2) := by decide +kernel
theorem dL_law_1036 : decode cL_law 1036 = .ok (.iload 12, 2) := by decide +kernel
theorem dL_law_1038 : decode cL_law 1038 = .ok (.iadd, 1) := by decide +kernel
theorem dL_law_1039 : decode cL_law 1039 = .ok (.iaload, 1) := by decide +kernel
theorem dL_law_1040 : decode cL_law 1040 = .ok (.iastore, 1) := by decide +kernel
theorem dL_law_1041 : decode cL_law 1041 = .ok (.goto 415, 3) := by decide +kernel
theorem dL_law_1044 : decode cL_law 1044 = .ok (.iload 9, 2) := by decide +kernel
theorem dL_law_1046 : decode cL_law 1046 = .ok (.bipush 9, 2) := by decide +kernel
theorem dL_law_1048 : decode cL_law 1048 = .ok (.if_icmp .ne 147, 3) := by decide +kernel
theorem dL_law_1051 : decode cL_law 1051 = .ok (.iload 8, 2) := by decide +kernel
theorem dL_law_1053 : decode cL_law 1053 = .ok (.bipush 8, 2) := by decide +kernel
theorem dL_law_1055 : decode cL_law 1055 = .ok (.ishr, 1) := by decide +kernel
theorem dL_law_1056 : decode cL_law 1056 = .ok (.iconst 4, 1) := by decide +kernel
theorem dL_law_1057 : decode cL_law 1057 = .ok (.invokestatic 88, 3) := by decide +kernel
theorem dL_law_1060 : decode cL_law 1060 = .ok (.ifCond .ne 135, 3) := by decide +kernel
theorem dL_law_1063 : decode cL_law 1063 = .ok (.aload_n 3, 1) := by decide +kernel
theorem dL_law_1064 : decode cL_law 1064 = .ok (.iload 11, 2) := by decide +kernel
theorem dL_law_1066 : decode cL_law 1066 = .ok (.bipush 14, 2) := by decide +kernel
theorem dL_law_1068 : decode cL_law 1068 = .ok (.iadd, 1) := by decide +kernel
theorem dL_law_1069 : decode cL_law 1069 = .ok (.iaload, 1) := by decide +kernel
theorem dL_law_1070 : decode cL_law 1070 = .ok (.aload 5, 2) := by decide +kernel
theorem dL_law_1072 : decode cL_law 1072 = .ok (.iconst 0, 1) := by decide +kernel
theorem dL_law_1073 : decode cL_law 1073 = .ok (.iaload, 1) := by decide +kernel
theorem dL_law_1074 : decode cL_law 1074 = .ok (.if_icmp .gt 24, 3) := by decide +kernel
theorem dL_law_1077 : decode cL_law 1077 = .ok (.aload_n 3, 1) := by decide +kernel
theorem dL_law_1078 : decode cL_law 1078 = .ok (.iload 11, 2) := by decide +kernel
theorem dL_law_1080 : decode cL_law 1080 = .ok (.iaload, 1) := by decide +kernel
theorem dL_law_1081 : decode cL_law 1081 = .ok (.ifCond .eq 13, 3) := by decide +kernel
theorem dL_law_1084 : decode cL_law 1084 = .ok (.aload_n 3, 1) := by decide +kernel
theorem dL_law_1085 : decode cL_law 1085 = .ok (.iload 11, 2) := by decide +kernel
theorem dL_law_1087 : decode cL_law 1087 = .ok (.iconst 3, 1) := by decide +kernel
theorem dL_law_1088 : decode cL_law 1088 = .ok (.iadd, 1) := by decide +kernel
theorem dL_law_1089 : decode cL_law 1089 = .ok (.iaload, 1) := by decide +kernel
theorem dL_law_1090 : decode cL_law 1090 = .ok (.iconst 2, 1) := by decide +kernel
theorem dL_law_1091 : decode cL_law 1091 = .ok (.if_icmp .ge 7, 3) := by decide +kernel
theorem dL_law_1094 : decode cL_law 1094 = .ok (.iconst 1, 1) := by decide +kernel
theorem dL_law_1095 : decode cL_law 1095 = .ok (.goto 4, 3) := by decide +kernel
theorem dL_law_1098 : decode cL_law 1098 = .ok (.iconst 0, 1) := by decide +kernel
theorem dL_law_1099 : decode cL_law 1099 = .ok (.istore 13, 2) := by decide +kernel
theorem dL_law_1101 : decode cL_law 1101 = .ok (.aload_n 1, 1) := by decide +kernel
theorem dL_law_1102 : decode cL_law 1102 = .ok (.iconst 3, 1) := by decide +kernel
theorem dL_law_1103 : decode cL_law 1103 = .ok (.iload 10, 2) := by decide +kernel
theorem dL_law_1105 : decode cL_law 1105 = .ok (.iconst 0, 1) := by decide +kernel
theorem dL_law_1106 : decode cL_law 1106 = .ok (.iconst 0, 1) := by decide +kernel
theorem dL_law_1107 : decode cL_law 1107 = .ok (.invokestatic 94, 3) := by decide +kernel
theorem dL_law_1110 : decode cL_law 1110 = .ok (.iload 13, 2) := by decide +kernel
theorem dL_law_1112 : decode cL_law 1112 = .ok (.ifCond .eq 14, 3) := by decide +kernel
theorem dL_law_1115 : decode cL_law 1115 = .ok (.aload 5, 2) := by decide +kernel
theorem dL_law_1117 : decode cL_law 1117 = .ok (.iconst 0, 1) := by decide +kernel
theorem dL_law_1118 : decode cL_law 1118 = .ok (.iaload, 1) := by decide +kernel
theorem dL_law_1119 : decode cL_law 1119 = .ok (.sipush 480, 3) := by decide +kernel
theorem dL_law_1122 : decode cL_law 1122 = .ok (.iadd, 1) := by decide +kernel
theorem dL_law_1123 : decode cL_law 1123 = .ok (.goto 6, 3) := by decide +kernel
theorem dL_law_1126 : decode cL_law 1126 = .ok (.sipush (-1003), 3) := by decide +kernel
theorem dL_law_1129 : decode cL_law 1129 = .ok (.if_icmp .ne 7, 3) := by decide +kernel
theorem dL_law_1132 : decode cL_law 1132 = .ok (.iconst 1, 1) := by decide +kernel
theorem dL_law_1133 : decode cL_law 1133 = .ok (.goto 4, 3) := by decide +kernel
theorem dL_law_1136 : decode cL_law 1136 = .ok (.iconst 0, 1) := by decide +kernel
theorem dL_law_1137 : decode cL_law 1137 = .ok (.istore 6, 2) := by decide +kernel
theorem dL_law_1139 : decode cL_law 1139 = .ok (.aload_n 3, 1) := by decide +kernel
theorem dL_law_1140 : decode cL_law 1140 = .ok (.iload 11, 2) := by decide +kernel
theorem dL_law_1142 : decode cL_law 1142 = .ok (.bipush 14, 2) := by decide +kernel
theorem dL_law_1144 : decode cL_law 1144 = .ok (.iadd, 1) := by decide +kernel
theorem dL_law_1145 : decode cL_law 1145 = .ok (.iload 13, 2) := by decide +kernel
theorem dL_law_1147 : decode cL_law 1147 = .ok (.ifCond .eq 14, 3) := by decide +kernel
theorem dL_law_1150 : decode cL_law 1150 = .ok (.aload 5, 2) := by decide +kernel
theorem dL_law_1152 : decode cL_law 1152 = .ok (.iconst 0, 1) := by decide +kernel
theorem dL_law_1153 : decode cL_law 1153 = .ok (.iaload, 1) := by decide +kernel
theorem dL_law_1154 : decode cL_law 1154 = .ok (.sipush 480, 3) := by decide +kernel
theorem dL_law_1157 : decode cL_law 1157 = .ok (.iadd, 1) := by decide +kernel
theorem dL_law_1158 : decode cL_law 1158 = .ok (.goto 10, 3) := by decide +kernel
theorem dL_law_1161 : decode cL_law 1161 = .ok (.aload_n 3, 1) := by decide +kernel
theorem dL_law_1162 : decode cL_law 1162 = .ok (.iload 11, 2) := by decide +kernel
theorem dL_law_1164 : decode cL_law 1164 = .ok (.bipush 14, 2) := by decide +kernel
theorem dL_law_1166 : decode cL_law 1166 = .ok (.iadd, 1) := by decide +kernel
theorem dL_law_1167 : decode cL_law 1167 = .ok (.iaload, 1) := by decide +kernel
theorem dL_law_1168 : decode cL_law 1168 = .ok (.iastore, 1) := by decide +kernel
theorem dL_law_1169 : decode cL_law 1169 = .ok (.aload_n 3, 1) := by decide +kernel
theorem dL_law_1170 : decode cL_law 1170 = .ok (.iload 11, 2) := by decide +kernel
theorem dL_law_1172 : decode cL_law 1172 = .ok (.bipush 13, 2) := by decide +kernel
theorem dL_law_1174 : decode cL_law 1174 = .ok (.iadd, 1) := by decide +kernel
theorem dL_law_1175 : decode cL_law 1175 = .ok (.iload 13, 2) := by decide +kernel
theorem dL_law_1177 : decode cL_law 1177 = .ok (.ifCond .eq 7, 3) := by decide +kernel
theorem dL_law_1180 : decode cL_law 1180 = .ok (.iconst 0, 1) := by decide +kernel
theorem dL_law_1181 : decode cL_law 1181 = .ok (.goto 10, 3) := by decide +kernel
theorem dL_law_1184 : decode cL_law 1184 = .ok (.aload_n 3, 1) := by decide +kernel
theorem dL_law_1185 : decode cL_law 1185 = .ok (.iload 11, 2) := by decide +kernel
theorem dL_law_1187 : decode cL_law 1187 = .ok (.bipush 13, 2) := by decide +kernel
theorem dL_law_1189 : decode cL_law 1189 = .ok (.iadd, 1) := by decide +kernel
theorem dL_law_1190 : decode cL_law 1190 = .ok (.iaload, 1) := by decide +kernel
theorem dL_law_1191 : decode cL_law 1191 = .ok (.iastore, 1) := by decide +kernel
theorem dL_law_1192 : decode cL_law 1192 = .ok (.goto 264, 3) := by decide +kernel
theorem dL_law_1195 : decode cL_law 1195 = .ok (.iload 9, 2) := by decide +kernel
theorem dL_law_1197 : decode cL_law 1197 = .ok (.bipush 10, 2) := by decide +kernel
theorem dL_law_1199 : decode cL_law 1199 = .ok (.if_icmp .ne 99, 3) := by decide +kernel
theorem dL_law_1202 : decode cL_law 1202 = .ok (.iconst 1, 1) := by decide +kernel
theorem dL_law_1203 : decode cL_law 1203 = .ok (.iload 8, 2) := by decide +kernel
theorem dL_law_1205 : decode cL_law 1205 = .ok (.bipush 8, 2) := by decide +kernel
theorem dL_law_1207 : decode cL_law 1207 = .ok (.ishr, 1) := by decide +kernel
theorem dL_law_1208 : decode cL_law 1208 = .ok (.iconst 4, 1) := by decide +kernel
theorem dL_law_1209 : decode cL_law 1209 = .ok (.invokestatic 88, 3) := by decide +kernel
theorem dL_law_1212 : decode cL_law 1212 = .ok (.iadd, 1) := by decide +kernel
theorem dL_law_1213 : decode cL_law 1213 = .ok (.istore 13, 2) := by decide +kernel
theorem dL_law_1215 : decode cL_law 1215 = .ok (.iload 12, 2) := by decide +kernel
theorem dL_law_1217 : decode cL_law 1217 = .ok (.aload_n 3, 1) := by decide +kernel
theorem dL_law_1218 : decode cL_law 1218 = .ok (.invokestatic 47, 3) := by decide +kernel
theorem dL_law_1221 : decode cL_law 1221 = .ok (.iload 13, 2) := by decide +kernel
theorem dL_law_1223 : decode cL_law 1223 = .ok (.if_icmp .gt 7, 3) := by decide +kernel
theorem dL_law_1226 : decode cL_law 1226 = .ok (.iconst 1, 1) := by decide +kernel
theorem dL_law_1227 : decode cL_law 1227 = .ok (.goto 4, 3) := by decide +kernel
theorem dL_law_1230 : decode cL_law 1230 = .ok (.iconst 0, 1) := by decide +kernel
theorem dL_law_1231 : decode cL_law 1231 = .ok (.istore 14, 2) := by decide +kernel
theorem dL_law_1233 : decode cL_law 1233 = .ok (.aload_n 1, 1) := by decide +kernel
theorem dL_law_1234 : decode cL_law 1234 = .ok (.iconst 4, 1) := by decide +kernel
theorem dL_law_1235 : decode cL_law 1235 = .ok (.iload 12, 2) := by decide +kernel
theorem dL_law_1237 : decode cL_law 1237 = .ok (.iload 13, 2) := by decide +kernel
theorem dL_law_1239 : decode cL_law 1239 = .ok (.iconst 0, 1) := by decide +kernel
theorem dL_law_1240 : decode cL_law 1240 = .ok (.invokestatic 94, 3) := by decide +kernel
theorem dL_law_1243 : decode cL_law 1243 = .ok (.iload 14, 2) := by decide +kernel
theorem dL_law_1245 : decode cL_law 1245 = .ok (.ifCond .eq 13, 3) := by decide +kernel
theorem dL_law_1248 : decode cL_law 1248 = .ok (.aload 5, 2) := by decide +kernel
theorem dL_law_1250 : decode cL_law 1250 = .ok (.iconst 4, 1) := by decide +kernel
theorem dL_law_1251 : decode cL_law 1251 = .ok (.iload 12, 2) := by decide +kernel
theorem dL_law_1253 : decode cL_law 1253 = .ok (.iadd, 1) := by decide +kernel
theorem dL_law_1254 : decode cL_law 1254 = .ok (.iaload, 1) := by decide +kernel
theorem dL_law_1255 : decode cL_law 1255 = .ok (.goto 6, 3) := by decide +kernel
theorem dL_law_1258 : decode cL_law 1258 = .ok (.sipush (-1003), 3) := by decide +kernel
theorem dL_law_1261 : decode cL_law 1261 = .ok (.if_icmp .ne 7, 3) := by decide +kernel
theorem dL_law_1264 : decode cL_law 1264 = .ok (.iconst 1, 1) := by decide +kernel
theorem dL_law_1265 : decode cL_law 1265 = .ok (.goto 4, 3) := by decide +kernel
theorem dL_law_1268 : decode cL_law 1268 = .ok (.iconst 0, 1) := by decide +kernel
theorem dL_law_1269 : decode cL_law 1269 = .ok (.istore 6, 2) := by decide +kernel
theorem dL_law_1271 : decode cL_law 1271 = .ok (.aload 5, 2) := by decide +kernel
theorem dL_law_1273 : decode cL_law 1273 = .ok (.iconst 4, 1) := by decide +kernel
theorem dL_law_1274 : decode cL_law 1274 = .ok (.iload 12, 2) := by decide +kernel
theorem dL_law_1276 : decode cL_law 1276 = .ok (.iadd, 1) := by decide +kernel
theorem dL_law_1277 : decode cL_law 1277 = .ok (.iload 14, 2) := by decide +kernel
theorem dL_law_1279 : decode cL_law 1279 = .ok (.ifCond .eq 8, 3) := by decide +kernel
theorem dL_law_1282 : decode cL_law 1282 = .ok (.iload 13, 2) := by decide +kernel
theorem dL_law_1284 : decode cL_law 1284 = .ok (.goto 10, 3) := by decide +kernel
theorem dL_law_1287 : decode cL_law 1287 = .ok (.aload 5, 2) := by decide +kernel
theorem dL_law_1289 : decode cL_law 1289 = .ok (.iconst 4, 1) := by decide +kernel
theorem dL_law_1290 : decode cL_law 1290 = .ok (.iload 12, 2) := by decide +kernel
theorem dL_law_1292 : decode cL_law 1292 = .ok (.iadd, 1) := by decide +kernel
theorem dL_law_1293 : decode cL_law 1293 = .ok (.iaload, 1) := by decide +kernel
theorem dL_law_1294 : decode cL_law 1294 = .ok (.iastore, 1) := by decide +kernel
theorem dL_law_1295 : decode cL_law 1295 = .ok (.goto 161, 3) := by decide +kernel
theorem dL_law_1298 : decode cL_law 1298 = .ok (.iload 9, 2) := by decide +kernel
theorem dL_law_1300 : decode cL_law 1300 = .ok (.bipush 11, 2) := by decide +kernel
theorem dL_law_1302 : decode cL_law 1302 = .ok (.if_icmp .ne 71, 3) := by decide +kernel
theorem dL_law_1305 : decode cL_law 1305 = .ok (.aload_n 3, 1) := by decide +kernel
theorem dL_law_1306 : decode cL_law 1306 = .ok (.iload 11, 2) := by decide +kernel
theorem dL_law_1308 : decode cL_law 1308 = .ok (.iaload, 1) := by decide +kernel
theorem dL_law_1309 : decode cL_law 1309 = .ok (.iconst 1, 1) := by decide +kernel
theorem dL_law_1310 : decode cL_law 1310 = .ok (.if_icmp .ne 63, 3) := by decide +kernel
theorem dL_law_1313 : decode cL_law 1313 = .ok (.iload 10, 2) := by decide +kernel
theorem dL_law_1315 : decode cL_law 1315 = .ok (.iconst 1, 1) := by decide +kernel
theorem dL_law_1316 : decode cL_law 1316 = .ok (.iadd, 1) := by decide +kernel
theorem dL_law_1317 : decode cL_law 1317 = .ok (.iload 8, 2) := by decide +kernel
theorem dL_law_1319 : decode cL_law 1319 = .ok (.bipush 8, 2) := by decide +kernel
theorem dL_law_1321 : decode cL_law 1321 = .ok (.ishr, 1) := by decide +kernel
theorem dL_law_1322 : decode cL_law 1322 = .ok (.iconst 2, 1) := by decide +kernel
theorem dL_law_1323 : decode cL_law 1323 = .ok (.invokestatic 88, 3) := by decide +kernel
theorem dL_law_1326 : decode cL_law 1326 = .ok (.iadd, 1) := by decide +kernel
theorem dL_law_1327 : decode cL_law 1327 = .ok (.iconst 3, 1) := by decide +kernel
theorem dL_law_1328 : decode cL_law 1328 = .ok (.irem, 1) := by decide +kernel
theorem dL_law_1329 : decode cL_law 1329 = .ok (.istore 13, 2) := by decide +kernel
theorem dL_law_1331 : decode cL_law 1331 = .ok (.aload_n 3, 1) := by decide +kernel
theorem dL_law_1332 : decode cL_law 1332 = .ok (.bipush 16, 2) := by decide +kernel
theorem dL_law_1334 : decode cL_law 1334 = .ok (.iload 13, 2) := by decide +kernel
theorem dL_law_1336 : decode cL_law 1336 = .ok (.imul, 1) := by decide +kernel
theorem dL_law_1337 : decode cL_law 1337 = .ok (.iaload, 1) := by decide +kernel
theorem dL_law_1338 : decode cL_law 1338 = .ok (.iconst 1, 1) := by decide +kernel
theorem dL_law_1339 : decode cL_law 1339 = .ok (.if_icmp .ne 31, 3) := by decide +kernel
theorem dL_law_1342 : decode cL_law 1342 = .ok (.aload_n 1, 1) := by decide +kernel
theorem dL_law_1343 : decode cL_law 1343 = .ok (.iload 10, 2) := by decide +kernel
theorem dL_law_1345 : decode cL_law 1345 = .ok (.iload 13, 2) := by decide +kernel
theorem dL_law_1347 : decode cL_law 1347 = .ok (.iload 12, 2) := by decide +kernel
theorem dL_law_1349 : decode cL_law 1349 = .ok (.invokevirtual 135, 3) := by decide +kernel
theorem dL_law_1352 : decode cL_law 1352 = .ok (.aload_n 3, 1) := by decide +kernel
theorem dL_law_1353 : decode cL_law 1353 = .ok (.iload 11, 2) := by decide +kernel
theorem dL_law_1355 : decode cL_law 1355 = .ok (.bipush 11, 2) := by decide +kernel
theorem dL_law_1357 : decode cL_law 1357 = .ok (.iadd, 1) := by decide +kernel
theorem dL_law_1358 : decode cL_law 1358 = .ok (.iload 13, 2) := by decide +kernel
theorem dL_law_1360 : decode cL_law 1360 = .ok (.iastore, 1) := by decide +kernel
theorem dL_law_1361 : decode cL_law 1361 = .ok (.aload_n 3, 1) := by decide +kernel
theorem dL_law_1362 : decode cL_law 1362 = .ok (.iload 11, 2) := by decide +kernel
theorem dL_law_1364 : decode cL_law 1364 = .ok (.bipush 12, 2) := by decide +kernel
theorem dL_law_1366 : decode cL_law 1366 = .ok (.iadd, 1) := by decide +kernel
theorem dL_law_1367 : decode cL_law 1367 = .ok (.iload 12, 2) := by decide +kernel
theorem dL_law_1369 : decode cL_law 1369 = .ok (.iastore, 1) := by decide +kernel
theorem dL_law_1370 : decode cL_law 1370 = .ok (.goto 86, 3) := by decide +kernel
theorem dL_law_1373 : decode cL_law 1373 = .ok (.iconst 1, 1) := by decide +kernel
theorem dL_law_1374 : decode cL_law 1374 = .ok (.iload 8, 2) := by decide +kernel
theorem dL_law_1376 : decode cL_law 1376 = .ok (.bipush 8, 2) := by decide +kernel
theorem dL_law_1378 : decode cL_law 1378 = .ok (.ishr, 1) := by decide +kernel
theorem dL_law_1379 : decode cL_law 1379 = .ok (.iload 8, 2) := by decide +kernel
theorem dL_law_1381 : decode cL_law 1381 = .ok (.bipush 13, 2) := by decide +kernel
theorem dL_law_1383 : decode cL_law 1383 = .ok (.ishr, 1) := by decide +kernel
theorem dL_law_1384 : decode cL_law 1384 = .ok (.bipush 8, 2) := by decide +kernel
theorem dL_law_1386 : decode cL_law 1386 = .ok (.invokestatic 88, 3) := by decide +kernel
theorem dL_law_1389 : decode cL_law 1389 = .ok (.ifCond .ne 9, 3) := by decide +kernel
theorem dL_law_1392 : decode cL_law 1392 = .ok (.sipush 300, 3) := by decide +kernel
theorem dL_law_1395 : decode cL_law 1395 = .ok (.goto 5, 3) := by decide +kernel
theorem dL_law_1398 : decode cL_law 1398 = .ok (.bipush 15, 2) := by decide +kernel
theorem dL_law_1400 : decode cL_law 1400 = .ok (.invokestatic 88, 3) := by decide +kernel
theorem dL_law_1403 : decode cL_law 1403 = .ok (.iadd, 1) := by decide +kernel
theorem dL_law_1404 : decode cL_law 1404 = .ok (.istore 13, 2) := by decide +kernel
theorem dL_law_1406 : decode cL_law 1406 = .ok (.aload 5, 2) := by decide +kernel
theorem dL_law_1408 : decode cL_law 1408 = .ok (.iconst 2, 1) := by decide +kernel
theorem dL_law_1409 : decode cL_law 1409 = .ok (.iconst 0, 1) := by decide +kernel
theorem dL_law_1410 : decode cL_law 1410 = .ok (.iastore, 1) := by decide +kernel
theorem dL_law_1411 : decode cL_law 1411 = .ok (.iconst 0, 1) := by decide +kernel
theorem dL_law_1412 : decode cL_law 1412 = .ok (.istore 14, 2) := by decide +kernel
theorem dL_law_1414 : decode cL_law 1414 = .ok (.iload 14, 2) := by decide +kernel
theorem dL_law_1416 : decode cL_law 1416 = .ok (.iload 13, 2) := by decide +kernel
theorem dL_law_1418 : decode cL_law 1418 = .ok (.if_icmp .ge 18, 3) := by decide +kernel
theorem dL_law_1421 : decode cL_law 1421 = .ok (.aload_n 2, 1) := by decide +kernel
theorem dL_law_1422 : decode cL_law 1422 = .ok (.aload_n 3, 1) := by decide +kernel
theorem dL_law_1423 : decode cL_law 1423 = .ok (.aload 4, 2) := by decide +kernel
theorem dL_law_1425 : decode cL_law 1425 = .ok (.aload 5, 2) := by decide +kernel
theorem dL_law_1427 : decode cL_law 1427 = .ok (.invokestatic 138, 3) := by decide +kernel
theorem dL_law_1430 : decode cL_law 1430 = .ok (.iinc 14 1, 3) := by decide +kernel
theorem dL_law_1433 : decode cL_law 1433 = .ok (.goto (-19), 3) := by decide +kernel
theorem dL_law_1436 : decode cL_law 1436 = .ok (.aload_n 1, 1) := by decide +kernel
theorem dL_law_1437 : decode cL_law 1437 = .ok (.iload 13, 2) := by decide +kernel
theorem dL_law_1439 : decode cL_law 1439 = .ok (.invokevirtual 142, 3) := by decide +kernel
theorem dL_law_1442 : decode cL_law 1442 = .ok (.aload 5, 2) := by decide +kernel
theorem dL_law_1444 : decode cL_law 1444 = .ok (.iconst 2, 1) := by decide +kernel
theorem dL_law_1445 : decode cL_law 1445 = .ok (.iaload, 1) := by decide +kernel
theorem dL_law_1446 : decode cL_law 1446 = .ok (.if_icmp .ne 7, 3) := by decide +kernel
theorem dL_law_1449 : decode cL_law 1449 = .ok (.iconst 1, 1) := by decide +kernel
theorem dL_law_1450 : decode cL_law 1450 = .ok (.goto 4, 3) := by decide +kernel
theorem dL_law_1453 : decode cL_law 1453 = .ok (.iconst 0, 1) := by decide +kernel
theorem dL_law_1454 : decode cL_law 1454 = .ok (.istore 6, 2) := by decide +kernel
theorem dL_law_1456 : decode cL_law 1456 = .ok (.iload 6, 2) := by decide +kernel
theorem dL_law_1458 : decode cL_law 1458 = .ok (.ifCond .eq 20, 3) := by decide +kernel
theorem dL_law_1461 : decode cL_law 1461 = .ok (.aload_n 1, 1) := by decide +kernel
theorem dL_law_1462 : decode cL_law 1462 = .ok (.aload_n 2, 1) := by decide +kernel
theorem dL_law_1463 : decode cL_law 1463 = .ok (.aload_n 3, 1) := by decide +kernel
theorem dL_law_1464 : decode cL_law 1464 = .ok (.aload 4, 2) := by decide +kernel
theorem dL_law_1466 : decode cL_law 1466 = .ok (.aload 5, 2) := by decide +kernel
theorem dL_law_1468 : decode cL_law 1468 = .ok (.invokestatic 145, 3) := by decide +kernel
theorem dL_law_1471 : decode cL_law 1471 = .ok (.ifCond .eq 7, 3) := by decide +kernel
theorem dL_law_1474 : decode cL_law 1474 = .ok (.iconst 1, 1) := by decide +kernel
theorem dL_law_1475 : decode cL_law 1475 = .ok (.goto 4, 3) := by decide +kernel
theorem dL_law_1478 : decode cL_law 1478 = .ok (.iconst 0, 1) := by decide +kernel
theorem dL_law_1479 : decode cL_law 1479 = .ok (.istore 6, 2) := by decide +kernel
theorem dL_law_1481 : decode cL_law 1481 = .ok (.iinc 7 1, 3) := by decide +kernel
theorem dL_law_1484 : decode cL_law 1484 = .ok (.goto (-933), 3) := by decide +kernel
theorem dL_law_1487 : decode cL_law 1487 = .ok (.iload 6, 2) := by decide +kernel
theorem dL_law_1489 : decode cL_law 1489 = .ok (.ireturn, 1) := by decide +kernel
end
section
/-! what the law wants: methods with handlers, the script -/
def MIW (y : MethodName) (bytes : ByteArray) (maxL : Nat) (ret : Option FieldType) (hh : List (Nat × Nat × Nat × Nat)) (n : Nat) : Prop := Cond.codeWith y bytes maxL ret hh ∈ lw_good ∧ Cond.initialized y.cls ∈ lw_good ∧ (y.cls ≠ "java/lang/invoke/MethodHandle" ∧ y.cls ≠ "java/lang/invoke/VarHandle") ∧ (parseMethodDescriptor y.desc).map (fun d => d.parameters.length) = some n
def MH (d : Nat) (ret : Option FieldType) (hh : List (Nat × Nat × Nat × Nat)) (X : Xt) : Prop := (xR X).frames = d ∧ 38 * d ≤ (xR X).locals ∧ (xf X).sig.returnType = ret ∧ (xc X).exceptionTable.toList = tableOf hh
/-- the law's own place -/
def ML (d : Nat) (ret : Option FieldType) (X : Xt) : Prop := (xR X).frames = d ∧ 38 * d ≤ (xR X).locals ∧ (xf X).sig.returnType = ret ∧ True
theorem kc0 {own E : String} : ∀ z ∈ ([] : List ExceptionTableEntry), z.catchType ≠ 0 ∧ ∃ nm : String, Cond.classLink own z.catchType nm ∈ lw_good ∧ (E, nm) ∈ ncs := fun z h => nomatch h
theorem kc1 {own E nm : String} {z : ExceptionTableEntry} {l : List ExceptionTableEntry} (h0 : z.catchType ≠ 0) (hl : Cond.classLink own z.catchType nm ∈ lw_good) (hn : (E, nm) ∈ ncs) (h : ∀ z ∈ l, z.catchType ≠ 0 ∧ ∃ nm : String, Cond.classLink own z.catchType nm ∈ lw_good ∧ (E, nm) ∈ ncs) : ∀ w ∈ z :: l, w.catchType ≠ 0 ∧ ∃ nm : String, Cond.classLink own w.catchType nm ∈ lw_good ∧ (E, nm) ∈ ncs := List.forall_mem_cons.mpr ⟨⟨h0, nm, hl, hn⟩, h⟩
section RulesL
variable {G : Gp} {own : String} {cc : ByteArray} {nL : Nat} {X : Xt} {QQ : State → Prop} {pc : Nat} {L st : List PV} {S : Shp} {F : Fl} {I : Il}
variable {Q : Option PV → Shp → Fl → Il → Prop} {QX : String → Shp → Fl → Il → Prop}
theorem JX_catch {hh : List (Nat × Nat × Nat × Nat)} {pre suf : List ExceptionTableEntry} {x : ExceptionTableEntry} {tgt : Nat} {E : String} (C : CO G own cc nL X) (htab : (xc X).exceptionTable.toList = tableOf hh) (hsplit : tableOf hh = pre ++ x :: suf) (hpass : ∀ z ∈ pre, z.catchType ≠ 0 ∧ ∃ nm : String, Cond.classLink own z.catchType nm ∈ lw_good ∧ (E, nm) ∈ ncs)
    (hx : covers x pc = true) (h0 : x.catchType ≠ 0) (hlink : Cond.classLink own x.catchType E ∈ lw_good) (hcast : Cond.castable E E ∈ lw_tbl) (ht : x.handlerPc = tgt) (h : ∀ q : Nat, J G X QQ tgt L [vr (some q)] S F I) : JX G X QQ E pc L S F I := by
  intro H locs ls cells slots q ce rest hW hS hls hL hca hcb hce hcv hcl
  refine vx_catch C.2.2.1 pre x suf (htab.trans hsplit) (fun z hz => ?_) hx h0 (C.2.2.2.1 _ hlink) (va_Nw.use rfl (C.2.2.2.2.1.2.1 _ hcast rfl)) hce hcv hcl ?_
  · obtain ⟨z0, nm, h1, h2⟩ := hpass z hz
    exact Or.inr ⟨z0, nm, C.2.2.2.1 _ h1, C.2.2.2.2.1.2.2.2.2.2.2.2.1 _ h2⟩
  · rw [ht]
    exact h q H locs ls cells slots hW hS hls hL (wcr (fun v hv => nomatch hv)) hca hcb
theorem K_VH (C : CO G own cc nL X) {d : Nat} (M1 : (xR X).frames = d + 1) (M2 : 38 * (d + 1) ≤ (xR X).locals) {index ci N n maxL b : Nat} {Cn : String} {T9 : u_T} {y : MethodName} {bytes : ByteArray} {rt : Option FieldType} (as rest : List PV) (hI : MI y bytes maxL rt n) (hlink : Cond.methodLink own index y ∈ lw_good) (hinst : Cond.instanceMethod y ∈ lw_good) (hsel : Cond.selects Cn y y ∈ lw_good) (hc : vwCl[ci]? = some (Cn, T9, N) ∧ ci < 20) (hd : decode cc pc = .ok (.invokevirtual index, 3)) (hK : sK S b = ci) (hn : as.length = n) (hlen : L.length = nL) (hml : maxL ≤ 19) (hcat : (rest.map fun v => (tv v).category).sum ≤ 8)
    (hM : CM (xl X) G d y (.code y bytes maxL rt) (vr (some b) :: as) S F I Q QX) (kr : ∀ v S' F' I', Q v S' F' I' → J G X QQ (pc + 3) L (v.toList ++ rest) S' F' I') (kx : ∀ E S' F' I', QX E S' F' I' → JX G X QQ E pc L S' F' I') {st : List PV} (e : as.reverse ++ vr (some b) :: rest = st) : J G X QQ pc L st S F I := by
  subst e
  exact J_callV C hI hlink hinst hsel hc.1 hc.2 hd hK hn hlen (by omega) (by omega) hcat hM kr kx
theorem K_IH (C : CO G own cc nL X) {d : Nat} (M1 : (xR X).frames = d + 1) (M2 : 38 * (d + 1) ≤ (xR X).locals) {index n maxL b : Nat} {y : MethodName} {bytes : ByteArray} (as rest : List PV) (hI : MI y bytes maxL none n) (hy1 : y.name = "<init>") (hlink : Cond.methodLink own index y ∈ lw_good) (hinst : Cond.instanceMethod y ∈ lw_good) (hd : decode cc pc = .ok (.invokespecial index, 3)) (hn : as.length = n) (hlen : L.length = nL) (hml : maxL ≤ 19) (hcat : (rest.map fun v => (tv v).category).sum ≤ 8)
    (hM : CM (xl X) G d y (.code y bytes maxL none) (vr (some b) :: as) S F I Q QX) (kr : ∀ v S' F' I', Q v S' F' I' → J G X QQ (pc + 3) L (v.toList ++ rest) S' F' I') (kx : ∀ E S' F' I', QX E S' F' I' → JX G X QQ E pc L S' F' I') {st : List PV} (e : as.reverse ++ vr (some b) :: rest = st) : J G X QQ pc L st S F I := by
  subst e
  exact J_callI C hI hy1 hlink hinst hd hn hlen (by omega) (by omega) hcat hM kr kx
theorem J_callSW (C : CO G own cc nL X) {d index n maxL : Nat} {y : MethodName} {bytes : ByteArray} {ret : Option FieldType} {hh : List (Nat × Nat × Nat × Nat)} {as rest : List PV} (hI : MIW y bytes maxL ret hh n) (hlink : Cond.methodLink own index y ∈ lw_good) (hstat : Cond.static y ∈ lw_good) (hd : decode cc pc = .ok (.invokestatic index, 3)) (hn : as.length = n) (hlen : L.length = nL) (hf : d + 1 ≤ (xR X).frames) (hlo : 19 + maxL + 38 * d ≤ (xR X).locals) (hcat : (rest.map fun v => (tv v).category).sum ≤ 8)
    (hM : CM (xl X) G d y (.codeWith y bytes maxL ret hh) as S F I Q noX) (kr : ∀ v S' F' I', Q v S' F' I' → J G X QQ (pc + 3) L (v.toList ++ rest) S' F' I') : J G X QQ pc L (as.reverse ++ rest) S F I := by
  intro H locs ls cells slots hW hS hls hL hst hca hcb T hT X9
  have hts := C.2.2.2.1
  have hstr : ∀ v ∈ rest, wfv v := fun v hv => hst v (List.mem_append_right _ hv)
  have hsta : ∀ v ∈ as, wfv v := fun v hv => hst v (List.mem_append_left _ (List.mem_reverse.mpr hv))
  have hK9 := md_back (R := xR X) (p := xp X) (e := xe X) (below := xb X) (s := xs X) (sargs := xa X) (len := 3) (W9 := 8) hM hf (by omega) (CodeW.codeWith y bytes maxL ret hh) (List.forall_mem_cons.mpr ⟨good_warm hI.1 hts, fun w hw => good_warm hw hts⟩) (good_warm hI.2.1 hts) PcD.blind
  have hK8 : Back (xl X) (xR X) (xp X) (xe X) (xb X) (xs X) (xa X) y 3 8 (PreD (xR X) (sa S) (sb S) (PcD G as S F I)) (PostD G (rmD d S) Q) := fun m meth c A g ig mk a h1 h2 h3 h4 h5 h6 h7 => by
    rcases hK9 m meth c A g ig mk a h1 h2 h3 h4 h5 h6 h7 with h | ⟨q, B, _, ⟨E, ce, S1, F1, I1, L9, k, n9, hq, _⟩, _⟩
    · exact h
    · exact hq.elim
  obtain ⟨v, vm₁, B, hW1, X', hp, st⟩ := vx_callSW X9 C.1 (own := own) (index := index) (y := y) (bytes := bytes) (maxL := maxL) (ret := ret) (hh := hh) C.2.2.1 (hts _ hlink) (hts _ hstat) (hts _ hI.2.1) (hts _ hI.1) hI.2.2.1 hK8 (g := F0 (xm X) pc ls ((as.reverse ++ rest).map tv)) rfl (by rw [C.2.2.2.2.2.2.1, ← hlen]; exact hls.1) (argsL := as.map tv) (rest := rest.map tv) (params_len hI.2.2.2 (by rw [List.length_map]; exact hn)) (by rw [List.map_append, List.map_reverse]) (by simpa using cat_le rest hcat) (by rw [C.2.1]; exact hd)
    (fun vm₁ hW1 => ⟨hca, hcb, Pc_at (as := as) C hT hW hS hsta hW1⟩)
  exact call_back (QX := noX) C (rest := rest) (pc := pc) (g := F0 (xm X) pc ls (rest.map tv)) hT hW1 hS hls hL hstr hca hcb rfl kr (fun E S' F' I' h => h.elim) (Or.inl ⟨v, B, X', hp, st⟩)
theorem K_SW (C : CO G own cc nL X) {d : Nat} (M1 : (xR X).frames = d + 1) (M2 : 38 * (d + 1) ≤ (xR X).locals) {index n maxL : Nat} {y : MethodName} {bytes : ByteArray} {rt : Option FieldType} {hh : List (Nat × Nat × Nat × Nat)} (as rest : List PV) (hI : MIW y bytes maxL rt hh n) (hlink : Cond.methodLink own index y ∈ lw_good) (hstat : Cond.static y ∈ lw_good) (hd : decode cc pc = .ok (.invokestatic index, 3)) (hn : as.length = n) (hlen : L.length = nL) (hml : maxL ≤ 19) (hcat : (rest.map fun v => (tv v).category).sum ≤ 8)
    (hM : CM (xl X) G d y (.codeWith y bytes maxL rt hh) as S F I Q noX) (kr : ∀ v S' F' I', Q v S' F' I' → J G X QQ (pc + 3) L (v.toList ++ rest) S' F' I') {st : List PV} (e : as.reverse ++ rest = st) : J G X QQ pc L st S F I := by
  subst e
  exact J_callSW C hI hlink hstat hd hn hlen (by omega) (by omega) hcat hM kr
theorem i_ofNat (N : Nat) : Int32.ofNat N = Int32.ofInt (N : Int) := by
  first | rfl | exact (Int32.ofInt_natCast N).symm | (rw [← Int32.toInt_inj]; simp)
theorem K_slen (C : CO G own cc nL X) (hd : decode cc pc = .ok (.arraylength, 1)) (h : J G X QQ (pc + 1) L (vi (gln G) :: st) S F I) : J G X QQ pc L (vr (some (gX G)) :: st) S F I := by
  intro H locs ls cells slots hW hS hls hL hst hca hcb
  obtain ⟨h1, h2, h3, h4⟩ := C.2.2.2.2.1.2.2.2.2.2.2.2.2.2
  refine va_slen C.1 C.2.1 h1 h2 h3 hS hd ?_
  rw [i_ofNat]
  exact h H locs ls cells slots hW hS hls hL (wci (rg_len (by omega)) (wt hst)) hca hcb
theorem K_sld (C : CO G own cc nL X) {z : Int} (hd : decode cc pc = .ok (.iaload, 1)) (h0 : 0 ≤ z) (hn : z < gln G) (h : J G X QQ (pc + 1) L (vi (gsc G z) :: st) S F I) : J G X QQ pc L (vi z :: vr (some (gX G)) :: st) S F I := by
  intro H locs ls cells slots hW hS hls hL hst hca hcb
  obtain ⟨h1, h2, h3, h4⟩ := C.2.2.2.2.1.2.2.2.2.2.2.2.2.2
  have hz : rg z := whi hst
  refine va_sld C.1 C.2.1 h1 h2 h3 hS (i_in hz h0 hn) hd ?_
  rw [i_cl hz h0]
  have e : Value.int (gYs G z.toNat) = tv (vi (gsc G z)) := by
    show _ = Value.int (Int32.ofInt (gYs G z.toNat).toInt)
    rw [asI]
  rw [e]
  exact h H locs ls cells slots hW hS hls hL (wci (rgI _) (wt (wt hst))) hca hcb
theorem K_SH (C : CO G own cc nL X) {d : Nat} (M1 : (xR X).frames = d + 1) (M2 : 38 * (d + 1) ≤ (xR X).locals) {index n maxL : Nat} {y : MethodName} {bytes : ByteArray} {rt : Option FieldType} (as rest : List PV) (hI : MI y bytes maxL rt n) (hlink : Cond.methodLink own index y ∈ lw_good) (hstat : Cond.static y ∈ lw_good) (hd : decode cc pc = .ok (.invokestatic index, 3)) (hn : as.length = n) (hlen : L.length = nL) (hml : maxL ≤ 19) (hcat : (rest.map fun v => (tv v).category).sum ≤ 8)
    (hM : CM (xl X) G d y (.code y bytes maxL rt) as S F I Q QX) (kr : ∀ v S' F' I', Q v S' F' I' → J G X QQ (pc + 3) L (v.toList ++ rest) S' F' I') (kx : ∀ E S' F' I', QX E S' F' I' → JX G X QQ E pc L S' F' I') {st : List PV} (e : as.reverse ++ rest = st) : J G X QQ pc L st S F I := by
  subst e
  exact J_callS C hI hlink hstat hd hn hlen (by omega) (by omega) hcat hM kr kx
end RulesL
/-- a method with handlers, by its body -/
theorem CM_ofH {l : Launch} {G : Gp} {d : Nat} {y : MethodName} {cc : ByteArray} {nL : Nat} {ret : Option FieldType} {hh : List (Nat × Nat × Nat × Nat)} {args : List PV} {S : Shp} {F : Fl} {I : Il} {Q : Option PV → Shp → Fl → Il → Prop} {QX : String → Shp → Fl → Il → Prop} (L0 : List PV)
    (hl : l.stackTraces = false) (hy : plainName y.cls = true) (hk : ∀ v ∈ args, knw v) (hn : args.length ≤ nL) (e : args ++ List.replicate (nL - args.length) (vl 0) = L0)
    (body : ∀ X : Xt, xl X = l → CO G y.cls cc nL X → MH d ret hh X → J G X (QD X G Q QX) 0 L0 [] S F I) : CM l G d y (.codeWith y cc nL ret hh) args S F I Q QX := by
  refine MetFree.of_bodyS (code := cc) (maxLocals := nL) (ret := ret) hy ?_ ?_
  · intro args s m h hn
    obtain ⟨m9, meth, c, hn9, h1, h2, h3, h4, -, h5, h6, -⟩ := Cond.codeWith_spec (atoms_spec (ws := Cond.codeWith y cc nL ret hh :: lw_good) h _ List.mem_cons_self)
    cases Option.some.inj (hn9.symm.trans hn)
    exact ⟨meth, c, h1, h2, h3, h4, h5, h6⟩
  · intro p e9 s m args' below meth c s₁ B hml hP _
    obtain ⟨rfl, hwa, hW, hE⟩ := hP
    have hh0 : s₁.heap = s.heap := by rw [B.state]; rfl
    have hts := atoms_spec (ws := Cond.codeWith y cc nL ret hh :: lw_good) B.pre
    have ht : c.exceptionTable.toList = tableOf hh := vx_table (x := y) B (hts _ List.mem_cons_self)
    have b := body (p, l, e9, rmD d S, s, m, (args.map tv).toArray, below, meth, c) rfl ⟨B.exec, B.bytes, findClass_of_methodNamed B.named, fun w hw => hts w (List.mem_cons_of_mem _ hw), hE, B.notSynchronized, hml, hl⟩ ⟨rfl, Nat.le_refl _, B.returns, ht⟩
    have hlv := lv_entry (args.map tv) (n := nL) (by rw [lg_len args hk]; exact hn)
    have hlen : (args ++ List.replicate (nL - args.length) (vl 0)).length = nL := by rw [List.length_append, List.length_replicate]; omega
    rw [← e] at b
    have b2 := b s.heap [] _ 0 0 hW va_S.rf (by rw [hlen]; exact lv_less hlv (kp_args args 0 _ hk)) (fun v hv => by
      rcases List.mem_append.mp hv with hv | hv
      · exact hwa v hv
      · rw [List.eq_of_mem_replicate hv]; exact rg0) (fun v hv => by cases hv) (Nat.le_of_eq (Nat.zero_add _)) (Nat.le_of_eq (Nat.zero_add _))
    obtain ⟨t, a1, o, b1, b2, b3⟩ := b2 s₁ hh0 (Stand.of_body B)
    refine ⟨t, o, ?_, b1, b2, b3⟩
    rw [lg_entry_eq]
    exact a1
end
