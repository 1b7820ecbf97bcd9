/-! THE CLAIM OUT OF ONE WALK OF THE LAW'S BODY. Your part is whole_start (and what it stands on); all else here is the same for every law, but numbers. -/
def R_law : String := "IronbarkLaw"
def lw_P (b : Addr) (xs : List Int32) (args : Array Value) (s : State) : Prop := args = #[.ref b] ∧ s.IntsAt b xs ∧ xs.length ≤ 260 ∧ (Jvm.Cond.and given_1 narrow_1).before args s = true
def lw_Q (_ : Array Value) (s : State) (o : Outcome) (t : State) : Prop := o = .returned (some (.int 1)) ∧ Framed s o t [] room_1.cells room_1.slots
def lw_Z (below : List Frame) (a : Array Value) (s : State) : State → Prop := fun t => ∃ o, t.status = .running ∧ Ended t below o ∧ lw_Q a s o t
/-- the law's own end, with 1 on the stack, nothing written that was there before, its room as the claim has it -/
theorem lw_ret {p : Program} {l : Launch} {e : Env} {s : State} {m : MethodId} {below : List Frame} {meth : Method} {c : Code} {b : Nat} (hx : p.tables.exec = Jvm.exec) (hb : c.code = code) (hr : meth.sig.returnType = ret) (hlocks : meth.locks = false) {pc : Nat} {H : Heap} {ls : Array Slot} (hdg : decode code pc = .ok (.ireturn, 1)) : W p l e room_1 s m #[Value.ref b] below meth c H [] room_1.cells room_1.slots (lw_Z below #[Value.ref b] s) (F0 m pc ls [.int 1]) := by
  intro T hT X
  obtain ⟨fs, hret, hrun, hended, hW, hframe⟩ := X.leave (v := some (.int 1)) (hlocks := hlocks) (fun h => by rw [hr] at h; cases h)
  have hmeth' : T.vm.method? m = some meth := X.method'
  refine ⟨T.setFrames fs, ?_, .returned (some (.int 1)), hrun, hended, rfl, ⟨_, rfl⟩, hW, hframe⟩
  jvm_step X.here [X.here.top, hx, hb, hdg, hmeth', hr, ret, narrow_b1]
  (try refine ⟨rfl, ?_⟩); (try refine ⟨rfl, ?_⟩)
  first | (intro acts; rw [hret _ acts rfl rfl rfl]) | rw [hret _ _ rfl rfl rfl]
  exact Steps.refl _
/-- what holds at the law's entry: the machine, the code, the tables' words (any of lw_tbl by 'hts w (by decide +kernel)'), the script of L ints xs at the cell b, what the Statement gives of the start (any of its parts by flat_of_before) -/
def lw_At (p : Program) (s : State) (m : MethodId) (meth : Method) (c : Code) (b L : Nat) (xs : Nat → Int32) : Prop :=
  p.tables.exec = Jvm.exec ∧ c.code = code ∧ meth.sig.returnType = ret ∧ c.maxLocals = 15 ∧ s.vm.findClass R_law = some m.cls ∧ (∀ w ∈ lw_tbl, w.before #[Value.ref b] s = true) ∧ va_X b L xs s s.heap ∧ b < s.heap.size ∧ meth.locks = false ∧ (Jvm.Cond.and given_1 narrow_1).before #[Value.ref b] s = true
/-! the claim's start, out of what the law does -/
theorem st_prim {args : Array Value} {s : State} {t : FieldType} (ht : ∀ C, t ≠ .object C) (h : (Cond.arrayClass t).before args s = true) : ∃ c : ClassId, ArrOfT s c t ∧ va_RA s c t := by
  obtain ⟨c, k, comp, h1, h2, h3⟩ := Cond.arrayClass_spec h
  refine ⟨c, fun N z => ⟨fun k9 hh => (by cases hh), k, h2, comp, h3⟩, ?_⟩
  cases t with
  | object C => exact absurd rfl (ht C)
  | _ => exact h1
theorem st_obj {s : State} {C : String} (h : va_AO C s) : ∃ c : ClassId, ArrOfT s c (.object C) ∧ va_RA s c (.object C) := by
  obtain ⟨comp, c, k, h1, h2, h3, h4, h5⟩ := Cond.arrayOver_spec h
  exact ⟨c, fun N z => ⟨fun k9 hh => (by cases hh), k, h3, comp, h4⟩, k, comp, h3, h4, h1, h5⟩
theorem st_cls {args : Array Value} {s : State} (hts : ∀ w ∈ lw_tbl, w.before args s = true) : ∀ (k : Nat) (q : vw_C), vwCl[k]? = some q → ∃ (cC : ClassId) (iS : Nat → Nat), u_Kn s q.1 q.2.1 q.2.2 cC iS := by
  intro k q hq
  have fx : ∀ {R : String} {T : u_T} {N : Nat}, (∀ w ∈ u_ws R T N, w ∈ lw_good) → ∀ w ∈ u_ws R T N, w ∈ lw_tbl := fun h w hw => (List.mem_filter.mp (h w hw)).1
  match k, hq with
  | 0, hq => cases hq; exact u_known hts (fx fi_0) (hts (.instantiable RJx4a65c 3) (by decide +kernel))
  | 1, hq => cases hq; exact u_known hts (fx fi_5) (hts (.instantiable RX4 3) (by decide +kernel))
  | 2, hq => cases hq; exact u_known hts (fx fi_2) (hts (.instantiable RX1 13) (by decide +kernel))
  | 3, hq => cases hq; exact u_known hts (fx fi_3) (hts (.instantiable RX2 5) (by decide +kernel))
  | 4, hq => cases hq; exact u_known hts (fx fi_4) (hts (.instantiable RX3 5) (by decide +kernel))
  | 5, hq => cases hq; exact u_known hts (fx fi_5) (hts (.instantiable RX4 3) (by decide +kernel))
  | 6, hq => cases hq; exact u_known hts (fx fi_6) (hts (.instantiable RX5 2) (by decide +kernel))
  | 7, hq => cases hq; exact u_known hts (fx fi_7) (hts (.instantiable RX6 2) (by decide +kernel))
  | 8, hq => cases hq; exact u_known hts (fx fi_8) (hts (.instantiable RX7 17) (by decide +kernel))
  | 9, hq => cases hq; exact u_known hts (fx fi_9) (hts (.instantiable RX8 16) (by decide +kernel))
  | k + 10, hq => simp [vwCl] at hq
theorem st_env {args : Array Value} {s : State} (hts : ∀ w ∈ lw_tbl, w.before args s = true) (hgv : (Jvm.Cond.and given_1 narrow_1).before args s = true) {b L : Nat} {xs : Nat → Int32} (hX : va_X b L xs s s.heap) (hbl : b < s.heap.size) (hL : L ≤ 260) : ∃ G : Gp, gB G = s.heap.size ∧ gX G = b ∧ Env9 G s s.heap := by
  have hs := flat_of_before _ hgv
  have h1 : ∀ k : Nat, ∃ cC : ClassId, ∃ iS : Nat → Nat, ∀ q : vw_C, vwCl[k]? = some q → u_Kn s q.1 q.2.1 q.2.2 cC iS := fun k => by
    cases hk : vwCl[k]? with
    | none =>
      obtain ⟨c0, i0, -⟩ := st_cls hts 0 _ rfl
      exact ⟨c0, i0, fun q hq => nomatch hq⟩
    | some q =>
      obtain ⟨c0, i0, h0⟩ := st_cls hts k q hk
      exact ⟨c0, i0, fun q' hq => by cases hq; exact h0⟩
  obtain ⟨dC, h2⟩ := Classical.axiomOfChoice h1
  obtain ⟨dI, h3⟩ := Classical.axiomOfChoice h2
  obtain ⟨a0, b0⟩ := st_prim (t := .int) (fun C h => nomatch h) (hts (.arrayClass .int) (by decide +kernel))
  have o3 : va_AO "Ironbark$Station" s := va_AO.of (A := args) (hts (.arrayOver (.object "Ironbark$Station")) (by decide +kernel))
  have o4 : va_AO "Ironbark$Train" s := va_AO.of (A := args) (hts (.arrayOver (.object "Ironbark$Train")) (by decide +kernel))
  have o5 : va_AO "java/lang/Object" s := va_AO.of (A := args) (hts (.arrayOver (.object "java/lang/Object")) (by decide +kernel))
  obtain ⟨a3, b3⟩ := st_obj o3
  obtain ⟨a4, b4⟩ := st_obj o4
  obtain ⟨a5, b5⟩ := st_obj o5
  obtain ⟨t, ht, hT⟩ := va_Tof (tm := .static "java/util/ArrayList" "DEFAULTCAPACITY_EMPTY_ELEMENTDATA" "[Ljava/lang/Object;") (ty := .object "java/lang/Object") (N := 0) (f := fun _ => .null) (A := fun q => s.heap.size ≤ q) (args := args) (s := s) (by decide) (hs _ (by decide +kernel)) (by
      have he : (Cond.eq (.length (.static "java/util/ArrayList" "DEFAULTCAPACITY_EMPTY_ELEMENTDATA" "[Ljava/lang/Object;")) (.int 0)).before args s = true := hs _ (by decide +kernel)
      have ha : (Cond.arrayOf (.static "java/util/ArrayList" "DEFAULTCAPACITY_EMPTY_ELEMENTDATA" "[Ljava/lang/Object;") (.object "java/lang/Object")).before args s = true := hs _ (by decide +kernel)
      simp only [Cond.before, Cond.holds, Cond.value] at he
      generalize (Term.length (.static "java/util/ArrayList" "DEFAULTCAPACITY_EMPTY_ELEMENTDATA" "[Ljava/lang/Object;")).eval args s none [] s = r at he ⊢
      cases r with
      | none => simp at he
      | some v => cases v <;> simp [Term.eval] at he <;> (subst he; rfl)) (fun j hj => absurd hj (Nat.not_lt_zero j)) (fun a h1 h2 => absurd h1 (Nat.not_lt.mpr h2))
  obtain ⟨mi, hmi⟩ := va_Mi.of (C := "[Ljava/lang/Object;") (hs (.isRef (.mirror "[Ljava/lang/Object;")) (by decide +kernel))
  have hA : ∀ a : Nat, a < s.heap.size → ¬ s.heap.size ≤ a := fun a h1 h2 => absurd h1 (Nat.not_lt.mpr h2)
  refine ⟨((dC, dI), (fun k => match k with | 0 => a0 | 1 => a0 | 2 => a0 | 3 => a3 | 4 => a4 | _ => a5), s.heap.size, t, mi, b, L, xs), rfl, rfl, ⟨fun k q hq => h3 k q hq, fun k q hk => ?_⟩, fun w hw hn => va_Nw.of ?_ (hts w hw), ⟨vx_Zqof (hts _ (by decide +kernel)) (hts _ (by decide +kernel)) (hs _ (by decide +kernel)) hA, vx_Zqof (hts _ (by decide +kernel)) (hts _ (by decide +kernel)) (hs _ (by decide +kernel)) hA⟩, Nat.le_refl _, ⟨va_Zref (hts _ (by decide +kernel)) (hts _ (by decide +kernel)) ht hA, hT⟩, ⟨hmi, va_Dc.of (hts _ (by decide +kernel))⟩, fun x hx => ?_, fun p hp => ?_, fun n hn => ?_, hX, hbl, Nat.not_le.mpr hbl, hL⟩
  · match k, hk with
    | 0, hk => cases hk; exact b0
    | 1, hk => cases hk; exact b0
    | 2, hk => cases hk; exact b0
    | 3, hk => cases hk; exact b3
    | 4, hk => cases hk; exact b4
    | 5, hk => cases hk; exact b5
    | k + 6, hk => simp [tysG] at hk
  · cases w <;> first | rfl | exact Bool.noConfusion hn
  · have go : ∀ (k : Nat) (tx : String), Cond.stringRef "Ironbark" k tx ∈ lw_tbl → (Cond.exactly (.string "Ironbark" k) "java/lang/String").before args s = true → ∃ sa : Nat, vk_R "Ironbark" k tx sa s := fun k tx hm he => by
      obtain ⟨a, c, cell, kk, e1, -⟩ := Cond.exactly_spec he
      exact ⟨a, vk_R.of (hts _ hm) e1⟩
    simp only [strs, List.mem_cons, List.not_mem_nil, or_false] at hx
    rcases hx with rfl | rfl | rfl | rfl
    all_goals exact go _ _ (by decide +kernel) (hs _ (by decide +kernel))
  · simp only [ncs, List.not_mem_nil] at hp
  · simp only [aos, List.mem_cons, List.not_mem_nil, or_false] at hn
    rcases hn with rfl | rfl | rfl
    · exact o3
    · exact o4
    · exact o5
/-- what was written lies in what is new: nothing of the start's cells is touched -/
theorem st_frame {s t : State} {o : Outcome} {L : List Loc} {k n : Nat} (h : FrameEnd s o t L k n) (hL : ∀ q ∈ L, s.heap.size ≤ q.base) (hk : k ≤ room_1.cells) (hn : n ≤ room_1.slots) : Framed s o t [] room_1.cells room_1.slots := by
  obtain ⟨hr, hW, hsm⟩ := h
  refine ⟨hr, hW, ?_⟩
  have h2 := hsm.mono hk hn
  obtain ⟨q1, q2, q3, q4, q5, q6⟩ := h2
  refine ⟨q1, q2, q3, q4, q5, fun q cell hc => ?_⟩
  obtain ⟨c9, e1, e2, e3, e4⟩ := q6 q cell hc
  have hq : q < s.heap.size := (Array.getElem?_eq_some_iff.mp hc).1
  refine ⟨c9, e1, e2, e3, fun i hi => e4 i fun hm => ?_⟩
  have h9 := hL _ hm
  exact absurd hq (Nat.not_lt.mpr h9)
/-- THE LAW'S WALK, out of what is said of numbers alone -/
theorem whole_of (hp : ∀ G : Gp, V_L_law G S00 (fun _ _ => 0) (fun _ _ => 0) (fun z _ _ _ => z = 1))
    {p : Program} {e : Env} {s : State} {m : MethodId} {below : List Frame} {meth : Method} {c : Code} (l : Launch) (hflags : l.flags = flags0) {b L : Nat} {xs : Nat → Int32} (hL : L ≤ 260) (C0 : lw_At p s m meth c b L xs) : W p l e room_1 s m #[Value.ref b] below meth c s.heap [] 0 0 (lw_Z below #[Value.ref b] s) (entryFrame m ([Value.ref b] : List Value).toArray 15) := by
  obtain ⟨hx, hb, hr, hml, hown, hts, hX, hbl, hlocks, hgv⟩ := C0
  obtain ⟨G, hG, hGb, hE⟩ := st_env hts hgv hX hbl hL
  have hl : l.stackTraces = false := by unfold Launch.stackTraces; rw [hflags]; decide +kernel
  let X : Xt := (p, l, e, room_1, s, m, #[Value.ref b], below, meth, c)
  have hC : CO G RL cL_law 15 X := ⟨hx, hb, hown, fun w hw => hts w (List.mem_filter.mp hw).1, hE, hlocks, hml, hl⟩
  have hM : ML 15 (some .boolean) X := ⟨rfl, by show 38 * 15 ≤ 572; omega, hr, trivial⟩
  have hJ := S_L_law hC hM (Nat.le_refl _) (hp G)
  rw [hGb] at hJ
  have hn : ∀ (k : Nat) (q : Nat × va_E), (pw G S00 (fun _ _ => 0) (fun _ _ => 0))[k]? = some q → False := fun k q h => by
    rw [show pw G S00 (fun _ _ => 0) (fun _ _ => 0) = [] from rfl] at h
    simp at h
  have hW : Wld G S00 (fun _ _ => 0) (fun _ _ => 0) s.heap := ⟨fun k q h => (hn k q h).elim, ⟨fun i j p q h => (hn i p h).elim, fun k q h => (hn k q h).elim⟩, fun q hq => absurd rfl hq, fun _ _ => rg0, fun _ _ => rg0⟩
  have hlv := lv_entry ([.ref b]) (n := 15) (Nat.le_of_ble_eq_true rfl)
  rw [lg_entry_eq]
  generalize (lg_sl ([.ref b]) ++ List.replicate (15 - (lg_sl ([.ref b])).length) Slot.unset).toArray = ls at hlv ⊢
  have hlv : lv_has ls 15 [(0, .ref b)] := hlv
  have k := hJ s.heap [] ls 0 0 hW va_S.rf hlv (fun v hv => by
    simp only [List.mem_cons, List.not_mem_nil, or_false] at hv
    rcases hv with rfl | rfl | rfl | rfl | rfl | rfl | rfl | rfl | rfl | rfl | rfl | rfl | rfl | rfl | rfl
    · trivial
    all_goals exact rg0) (fun v hv => nomatch hv) (show 0 + sa S00 ≤ room_1.cells by decide) (show 0 + sb S00 ≤ room_1.slots by decide)
  refine Wmono ?_ k
  rintro t ⟨o, h1, h2, h3⟩
  refine ⟨o, h1, h2, ?_⟩
  rcases h3 with ⟨v, S1, F1, I1, L1, k1, n1, rfl, hv, ⟨z, rfl, hz⟩, -, -, hfe, hL1, hk1, hn1⟩ | ⟨q, E, ce, S1, F1, I1, L1, k1, n1, -, h, -⟩
  · have hz : z = 1 := hz
    subst hz
    exact ⟨rfl, st_frame hfe (fun q hq => by rw [← hG]; exact hL1 q hq) (Nat.le_trans (Nat.le_add_right _ _) hk1) (Nat.le_trans (Nat.le_add_right _ _) hn1)⟩
  · exact h.elim
