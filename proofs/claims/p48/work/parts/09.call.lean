/-! methods by contract: what a call brings, what it costs -/
def QcD (G : Gp) (rm : Room) (Q : Option PV → Shp → Fl → Il → Prop) (QX : String → Shp → Fl → Il → Prop) : Array Value → State → Outcome → State → Prop := fun _ st o t =>
  (∃ (v : Option PV) (S : Shp) (F : Fl) (I : Il) (L : List Loc) (k n : Nat), o = .returned (v.map tv) ∧ (∀ x, v = some x → wfv x) ∧ Q v S F I ∧ Wld G S F I t.heap ∧ va_F (gAd G) st t ∧ FrameEnd st o t L k n ∧ (∀ q ∈ L, gB G ≤ q.base) ∧ k + sa S ≤ rm.cells ∧ n + sb S ≤ rm.slots) ∨
  (∃ (q : Addr) (E : String) (ce : Cell) (S : Shp) (F : Fl) (I : Il) (L : List Loc) (k n : Nat), o = .threw q ∧ QX E S F I ∧ Wld G S F I t.heap ∧ va_F (gAd G) st t ∧ t.heap[q]? = some ce ∧ ce.vm = .none ∧ st.vm.findClass E = some ce.cls ∧ st.WarmedH t.vm ∧ st.sameButNew ({ t with vm := st.vm } : State) L k n ∧ (∀ z ∈ L, gB G ≤ z.base) ∧ k + sa S ≤ rm.cells ∧ n + sb S ≤ rm.slots)
def PcD (G : Gp) (args : List PV) (S : Shp) (F : Fl) (I : Il) : Array Value → State → Prop := fun a U => a = (args.map tv).toArray ∧ (∀ v ∈ args, wfv v) ∧ Wld G S F I U.heap ∧ Env9 G U U.heap
abbrev rmD (d : Nat) (S : Shp) : Room := { frames := d, cells := sa S, slots := sb S, locals := 38 * d }
/-- the contract of a method at depth d: from these arguments and this world it ends, returning or throwing, as Q and QX say -/
def CM (l : Launch) (G : Gp) (d : Nat) (y : MethodName) (w0 : Cond) (args : List PV) (S : Shp) (F : Fl) (I : Il) (Q : Option PV → Shp → Fl → Il → Prop) (QX : String → Shp → Fl → Il → Prop) : Prop :=
  MetFree l y (headSpec (w0 :: lw_good) (rmD d S)) (PcD G args S F I) (fun _ _ _ _ _ => True) (QcD G (rmD d S) Q QX)
/-- where a method's body is to come -/
def QD (X : Xt) (G : Gp) (Q : Option PV → Shp → Fl → Il → Prop) (QX : String → Shp → Fl → Il → Prop) : State → Prop := fun t => ∃ o, t.status = .running ∧ Ended t (xb X) o ∧ QcD G (xR X) Q QX (xa X) (xs X) o t
theorem Wmono {p : Program} {l : Launch} {e : Env} {R : Room} {s : State} {m : MethodId} {args : Array Value} {below : List Frame} {meth : Method} {c : Code} {H : Heap} {locs : List Loc} {cells slots : Nat} {Q Q' : State → Prop} {g : JFrame} (h : ∀ t, Q t → Q' t) (k : W p l e R s m args below meth c H locs cells slots Q g) : W p l e R s m args below meth c H locs cells slots Q' g := by
  intro T hT X
  obtain ⟨t, a, b⟩ := k T hT X
  exact ⟨t, a, h t b⟩
section Back9
variable {l : Launch} {R : Room} {p : Program} {e : Env} {below : List Frame} {s : State} {sargs : Array Value} {y : MethodName} {len W9 : Nat}
def PreD (R : Room) (mc ms : Nat) (Pc : Array Value → State → Prop) : Pt → Array Value → Prop := fun A a => A.cells + mc ≤ R.cells ∧ A.slots + ms ≤ R.slots ∧ Pc a A.U
def PostD (G : Gp) (rm : Room) (Q : Option PV → Shp → Fl → Il → Prop) : Pt → Array Value → Option Value → Pt → Prop := fun A _ v B =>
  ∃ (w : Option PV) (S : Shp) (F : Fl) (I : Il) (t : State) (L : List Loc) (k n : Nat), v = w.map tv ∧ (∀ x, w = some x → wfv x) ∧ Q w S F I ∧ Wld G S F I B.U.heap ∧ B.U.heap = t.heap ∧ A.U.heap.size ≤ B.U.heap.size ∧ (∀ q : Nat, q < A.U.heap.size → ¬ gB G ≤ q → B.U.heap[q]? = A.U.heap[q]?) ∧ B.locs = A.locs ++ L ∧ (∀ q ∈ L, gB G ≤ q.base) ∧ B.cells = A.cells + k ∧ B.slots = A.slots + n ∧ k + sa S ≤ rm.cells ∧ n + sb S ≤ rm.slots
def PostXD (G : Gp) (rm : Room) (QX : String → Shp → Fl → Il → Prop) : Pt → Array Value → Addr → Pt → Prop := fun A _ q B =>
  ∃ (E : String) (ce : Cell) (S : Shp) (F : Fl) (I : Il) (L : List Loc) (k n : Nat), QX E S F I ∧ Wld G S F I B.U.heap ∧ A.U.heap.size ≤ B.U.heap.size ∧ (∀ q : Nat, q < A.U.heap.size → ¬ gB G ≤ q → B.U.heap[q]? = A.U.heap[q]?) ∧ B.U.heap[q]? = some ce ∧ ce.vm = .none ∧ A.U.vm.findClass E = some ce.cls ∧ B.locs = A.locs ++ L ∧ (∀ q ∈ L, gB G ≤ q.base) ∧ B.cells = A.cells + k ∧ B.slots = A.slots + n ∧ k + sa S ≤ rm.cells ∧ n + sb S ≤ rm.slots
/-- what a code word says of the method's variables -/
def CodeW (y : MethodName) (w0 : Cond) (maxL : Nat) : Prop := ∀ (a : Array Value) (U : State) (mk : MethodId), U.methodNamed? y = some mk → w0.before a U = true → ∃ (meth : Method) (c : Code), U.vm.method? mk = some meth ∧ meth.code = some c ∧ c.maxLocals = maxL
theorem CodeW.code (y : MethodName) (bytes : ByteArray) (maxL : Nat) (ret : Option FieldType) : CodeW y (.code y bytes maxL ret) maxL := fun a U mk hn h => by
  obtain ⟨meth, c, h1, h2, -, h4, -⟩ := Cond.code_spec hn h
  exact ⟨meth, c, h1, h2, h4⟩
theorem CodeW.codeWith (y : MethodName) (bytes : ByteArray) (maxL : Nat) (ret : Option FieldType) (hh : List (Nat × Nat × Nat × Nat)) : CodeW y (.codeWith y bytes maxL ret hh) maxL := fun a U mk hn h => by
  obtain ⟨m9, meth, c, hn9, h1, h2, -, h4, -⟩ := Cond.codeWith_spec h
  cases Option.some.inj (hn9.symm.trans hn)
  exact ⟨meth, c, h1, h2, h4⟩
/-- follows vx_back, with costs that the end tells -/
theorem md_back {G : Gp} {d : Nat} {w0 : Cond} {args : List PV} {S : Shp} {F : Fl} {I : Il} {Q : Option PV → Shp → Fl → Il → Prop} {QX : String → Shp → Fl → Il → Prop} {maxL : Nat}
    (hM : CM l G d y w0 args S F I Q QX) (hframes : d + 1 ≤ R.frames) (hlocals : W9 + (maxL + 11) + 38 * d ≤ R.locals) (hcw : CodeW y w0 maxL)
    (hws : ∀ w ∈ w0 :: lw_good, ∀ a' U, s.WarmedH U.vm → w.before a' U = true) (hinit : ∀ a' U, s.WarmedH U.vm → (Cond.initialized y.cls).before a' U = true) (hblind : FrameBlind (PcD G args S F I)) :
    vx_Back l R p e below s sargs y len W9 (PreD R (sa S) (sb S) (PcD G args S F I)) (PostD G (rmD d S) Q) (PostXD G (rmD d S) QX) := by
  intro m meth c A g ig mk a X hg hsize hdg hW hn hp
  have h1 : (headSpec (w0 :: lw_good) (rmD d S)).pre.before a A.U = true := atoms_intro fun w hw => hws w hw _ _ X.warmed
  have h2 : w0.before a A.U = true := hws _ List.mem_cons_self _ _ X.warmed
  have h3 : (Cond.initialized y.cls).before a A.U = true := hinit _ _ X.warmed
  have h4 : A.cells + (headSpec (w0 :: lw_good) (rmD d S)).room.cells ≤ R.cells := hp.1
  have h5 : A.slots + (headSpec (w0 :: lw_good) (rmD d S)).room.slots ≤ R.slots := hp.2.1
  have hPc : PcD G args S F I a (A.U.calling g mk a) := hblind _ _ _ _ hp.2.2
  obtain ⟨U, Ls, c0, s0⟩ := A
  dsimp only [Pt.U, Pt.locs, Pt.cells, Pt.slots] at h1 h2 h3 h4 h5 X hn hPc ⊢
  obtain ⟨methY, cY, hmY, hcY, hlY⟩ := hcw _ _ _ hn h2
  obtain ⟨kY, hkY, -⟩ := className_of_methodNamed hn
  have hinitY : kY.init = .initialized := Cond.initialized_spec (findClass_of_methodNamed hn) hkY h3
  have h : At U g.method c below := by rw [hg]; exact X.here
  have hlocals9 : W9 + (maxL + 11) + (headSpec (w0 :: lw_good) (rmD d S)).room.locals ≤ R.locals := hlocals
  have hframes9 : (headSpec (w0 :: lw_good) (rmD d S)).room.frames + 1 ≤ R.frames := hframes
  have happ : (headSpec (w0 :: lw_good) (rmD d S)).appliesLoose y e.platform (U.calling g mk a) = true :=
    Spec.appliesLoose_calling (g := g) h hdg hn hkY hinitY
      (X.room_calling (g := g) (R' := (headSpec (w0 :: lw_good) (rmD d S)).room) hsize hmY hcY hframes9 (by rw [hlY]; omega) h4 h5) h1
  obtain ⟨mid, hmid⟩ := h.above
  have hfr : (U.setTop g).frames = (.java g :: mid) ++ below := by rw [State.frames_setTop' g h.top, hmid]; rfl
  obtain ⟨o, s₂, hsteps, -, hend, hq⟩ := Steps.callFree hM p X.admits X.cas X.clock (acts := []) hfr happ hPc trivial
  have hq' : QcD G (rmD d S) Q QX a (U.calling g mk a) o s₂ := hq
  rw [State.frames_setTop' g h.top] at hend
  obtain ⟨g₀, hg0⟩ := Option.isSome_iff_exists.mp h.top
  obtain ⟨r, hr⟩ := State.topJava?_eq_some.mp hg0
  have hr' : (({ U with heap := s₂.heap, slotsUsed := s₂.slotsUsed } : State).setVm s₂.vm).frames = .java g₀ :: r := hr
  rcases hq' with ⟨v, S1, F1, I1, L, mc, ms, rfl, hwv, hqc, hwld, hF, hfe, hL, hz1, hz2⟩ | ⟨q, E, ce, S1, F1, I1, L, mc, ms, rfl, hx, hwld, hF, hce, hcv, hcl, hW₂, hsm, hL, hz1, hz2⟩
  · obtain ⟨-, hW₂, e2, q2, q3, q4, q5, q6⟩ := id hfe
    have e3 : s₂ = ({ (U.calling g mk a).setFrames s₂.frames with heap := s₂.heap, slotsUsed := s₂.slotsUsed } : State).setVm s₂.vm := by
      have : s₂ = ({ s₂ with vm := (U.calling g mk a).vm } : State).setVm s₂.vm := rfl
      rw [e2] at this
      exact this
    obtain ⟨c₂, i₂, len₂, hc₂, hd₂, hf₂⟩ := hend
    have hW' : U.WarmedH s₂.vm := hW₂
    have hcc : c₂ = c := by
      have h1 : s₂.code? g.method = U.code? g.method := by
        rw [State.code?_eq, State.code?_eq, hW'.alike.method?]
      exact Option.some.inj (hc₂.symm.trans (h1.trans h.code))
    subst hcc
    have hlen : len₂ = len := by rw [hdg] at hd₂; cases hd₂; rfl
    subst hlen
    have hs₂ : s₂ = (({ U with heap := s₂.heap, slotsUsed := s₂.slotsUsed } : State).setVm s₂.vm).setTop { g with pc := g.pc + len₂, stack := (v.map tv).toList ++ g.stack } := by
      refine e3.trans ?_
      rw [hf₂, State.calling_eq h.top, State.setFrames_setFrames, State.setTop_of_frames _ hr', hr]
      rfl
    have hsame : U.sameButNew ({ U with heap := s₂.heap, slotsUsed := s₂.slotsUsed } : State) L mc ms := by
      refine ⟨?_, q2, q3, q4, q5, q6⟩
      obtain ⟨t, ht, -⟩ := State.frames_cons hr
      show ({ U with heap := s₂.heap, slotsUsed := s₂.slotsUsed } : State) = { U.setFrames U.frames with heap := s₂.heap, slotsUsed := s₂.slotsUsed }
      rw [State.setFrames_self ht]
    subst hg
    refine Or.inl ⟨v.map tv, ⟨(({ U with heap := s₂.heap, slotsUsed := s₂.slotsUsed } : State).setVm s₂.vm), Ls ++ L, c0 + mc, s0 + ms⟩,
      ⟨X.admits, X.cas, X.clock, X.frames, X.room, X.hears, X.method, X.code, (X.here.setHeapUsed s₂.heap s₂.slotsUsed).setVm hW'.alike, X.tail, State.WarmedH.trans X.warmed hW', X.limits, X.bytes, X.same.trans (hsame.setVm s.vm)⟩,
      ⟨v, S1, F1, I1, s₂, L, mc, ms, rfl, hwv, hqc, hwld, rfl, hF.1, hF.2, rfl, hL, rfl, rfl, hz1, hz2⟩, ?_⟩
    show Steps p.tables e below _ ((({ U with heap := s₂.heap, slotsUsed := s₂.slotsUsed } : State).setVm s₂.vm).setTop { g with pc := g.pc + len₂, stack := (v.map tv).toList ++ g.stack })
    rw [← hs₂]
    exact hsteps
  · obtain ⟨e2, q2, q3, q4, q5, q6⟩ := id hsm
    have e3 : s₂ = ({ (U.calling g mk a).setFrames s₂.frames with heap := s₂.heap, slotsUsed := s₂.slotsUsed } : State).setVm s₂.vm := by
      have : s₂ = ({ s₂ with vm := (U.calling g mk a).vm } : State).setVm s₂.vm := rfl
      rw [e2] at this
      exact this
    have hf₂ : s₂.frames = .throwing q :: .java g :: U.frames.tail := hend
    have hW' : U.WarmedH s₂.vm := hW₂
    have hs₂ : s₂ = ((({ U with heap := s₂.heap, slotsUsed := s₂.slotsUsed } : State).setVm s₂.vm).setTop g).pushFrame (.throwing q) := by
      refine e3.trans ?_
      rw [hf₂, State.calling_eq h.top, State.setFrames_setFrames, State.pushFrame, State.frames_setTop _ hr', State.setTop_of_frames _ hr', State.setFrames_setFrames, hr]
      rfl
    have hsame : U.sameButNew ({ U with heap := s₂.heap, slotsUsed := s₂.slotsUsed } : State) L mc ms := by
      refine ⟨?_, q2, q3, q4, q5, q6⟩
      obtain ⟨t, ht, -⟩ := State.frames_cons hr
      show ({ U with heap := s₂.heap, slotsUsed := s₂.slotsUsed } : State) = { U.setFrames U.frames with heap := s₂.heap, slotsUsed := s₂.slotsUsed }
      rw [State.setFrames_self ht]
    subst hg
    refine Or.inr ⟨q, ⟨(({ U with heap := s₂.heap, slotsUsed := s₂.slotsUsed } : State).setVm s₂.vm), Ls ++ L, c0 + mc, s0 + ms⟩,
      ⟨X.admits, X.cas, X.clock, X.frames, X.room, X.hears, X.method, X.code, (X.here.setHeapUsed s₂.heap s₂.slotsUsed).setVm hW'.alike, X.tail, State.WarmedH.trans X.warmed hW', X.limits, X.bytes, X.same.trans (hsame.setVm s.vm)⟩,
      ⟨E, ce, S1, F1, I1, L, mc, ms, hx, hwld, hF.1, hF.2, hce, hcv, hcl, rfl, hL, rfl, rfl, hz1, hz2⟩, ?_⟩
    show Steps p.tables e below _ (((({ U with heap := s₂.heap, slotsUsed := s₂.slotsUsed } : State).setVm s₂.vm).setTop g).pushFrame (.throwing q))
    rw [← hs₂]
    exact hsteps
end Back9
theorem PcD.blind {G : Gp} {args : List PV} {S : Shp} {F : Fl} {I : Il} : FrameBlind (PcD G args S F I) := by
  intro a U g mk h
  obtain ⟨h1, h2, h3, h4⟩ := h
  refine ⟨h1, h2, h3, ?_⟩
  have hW : U.WarmedH (U.calling g mk a).vm := State.WarmedH.refl U
  exact Env9.go (U := U.calling g mk a) (locs := []) h4 hW va_S.rf
