/-! fields, arrays, new things -/
/-- class ci of the table: its name, its fields, that these are laid in the tables -/
def FO (ci k : Nat) (Cn : String) (T : u_T) (N : Nat) : Prop := vwCl[ci]? = some (Cn, T, N) ∧ clN ci = N ∧ k < N ∧ ci < 20 ∧ (∀ w ∈ u_ws Cn T N, w ∈ lw_good)
/-- and what a store needs -/
def FP (ci : Nat) (T : u_T) (N : Nat) : Prop := (∀ k, k < N → parseFieldDescriptor (T k).2.2.1 = some (clT ci k)) ∧ (∀ a, a < N → ∀ b, b < N → a ≠ b → (T a).2.1 ≠ (T b).2.1)
/-- a field's entry in a class's pool: by a link, or by a nest's link -/
def FLk (own : String) (index : Nat) (Cn : String) (T : u_T) (k : Nat) : Prop := (∃ ref, Cond.fieldLink own index ref (T k).2.1 (T k).2.2.1 ∈ lw_good ∧ (ref = (T k).1 ∨ Cond.sameField ref (T k).1 (T k).2.1 (T k).2.2.1 ∈ lw_good)) ∨ (∃ host, Cond.fieldLinkNest own index (T k).1 (T k).2.1 (T k).2.2.1 host ∈ lw_tbl ∧ (T k).1 ≠ own)
theorem FLk.link {own : String} {index : Nat} {Cn : String} {T : u_T} {k : Nat} (ref : String) (h : Cond.fieldLink own index ref (T k).2.1 (T k).2.2.1 ∈ lw_good) (e : ref = (T k).1) : FLk own index Cn T k := Or.inl ⟨ref, h, Or.inl e⟩
theorem FLk.same {own : String} {index : Nat} {Cn : String} {T : u_T} {k : Nat} (ref : String) (h : Cond.fieldLink own index ref (T k).2.1 (T k).2.2.1 ∈ lw_good) (e : Cond.sameField ref (T k).1 (T k).2.1 (T k).2.2.1 ∈ lw_good) : FLk own index Cn T k := Or.inl ⟨ref, h, Or.inr e⟩
theorem FLk.nest {own : String} {index : Nat} {Cn : String} {T : u_T} {k : Nat} (host : String) (h : Cond.fieldLinkNest own index (T k).1 (T k).2.1 (T k).2.2.1 host ∈ lw_tbl) (e : (T k).1 ≠ own) : FLk own index Cn T k := Or.inr ⟨host, h, e⟩
section RulesB
variable {G : Gp} {own : String} {cc : ByteArray} {nL : Nat} {X : Xt} {QQ : State → Prop} {pc : Nat} {L st : List PV} {S : Shp} {F : Fl} {I : Il}
theorem J_get (C : CO G own cc nL X) {ci k index N q : Nat} {Cn : String} {T : u_T} {v : PV} (hf : FO ci k Cn T N) (hl : FLk own index Cn T k) (hd : decode cc pc = .ok (.getfield index, 3)) (hK : sK S q = ci) (hv : tv v = fvv ci S F q k) (hw : (∀ k q, rg (F k q)) → wfv v) (h : J G X QQ (pc + 3) L (v :: st) S F I) : J G X QQ pc L (vr (some q) :: st) S F I := by
  intro H locs ls cells slots hW hS hls hL hst hca hcb
  obtain ⟨f1, f2, f3, f4, f5⟩ := hf
  obtain ⟨q0, hq0⟩ := hW.at (q := q) (by rw [hK]; omega)
  rw [cont_o hK f4] at hq0
  have e1 : (fvs ci S F q)[k]? = some (tv v) := by rw [hv]; exact fvs_get (by rw [f2]; exact f3)
  have kk := h H locs ls cells slots hW hS hls hL (List.forall_mem_cons.mpr ⟨hw hW.2.2.2.1, (List.forall_mem_cons.mp hst).2⟩) hca hcb
  rcases hl with ⟨ref, h1, h2⟩ | ⟨host, h1, h9⟩
  · refine va_get C.1 C.2.1 C.2.2.2.1 f5 C.2.2.1 C.2.2.2.2.1.1 hW.1 q0 hq0 f1 k f3 (C.2.2.2.1 _ h1) (fun x hx => ?_) e1 hd kk
    rcases h2 with rfl | h2
    · exact hx
    · exact u_same (C.2.2.2.1 _ h2) x hx
  · exact va_getN C.1 C.2.1 C.2.2.2.1 f5 C.2.2.1 C.2.2.2.2.1.1 hW.1 q0 hq0 f1 k f3 (va_Nw.use rfl (C.2.2.2.2.1.2.1 _ h1 rfl)) (fun x hx => hx) e1 hd kk
theorem J_getI (C : CO G own cc nL X) {ci k index N q : Nat} {Cn : String} {T : u_T} (hf : FO ci k Cn T N) (hr : refT (clT ci k) = false) (hl : FLk own index Cn T k) (hd : decode cc pc = .ok (.getfield index, 3)) (hK : sK S q = ci) (h : J G X QQ (pc + 3) L (vi (F (100 * ci + k) q) :: st) S F I) : J G X QQ pc L (vr (some q) :: st) S F I :=
  J_get C hf hl hd hK (v := vi (F (100 * ci + k) q)) (by unfold fvv; rw [hr]; rfl) (fun w => w _ _) h
theorem J_getR (C : CO G own cc nL X) {ci k index N q r : Nat} {Cn : String} {T : u_T} (hf : FO ci k Cn T N) (hr : refT (clT ci k) = true) (hl : FLk own index Cn T k) (hd : decode cc pc = .ok (.getfield index, 3)) (hK : sK S q = ci) (hR : sR S (100 * ci + k) q = some r) (h : J G X QQ (pc + 3) L (vr (some r) :: st) S F I) : J G X QQ pc L (vr (some q) :: st) S F I :=
  J_get C hf hl hd hK (v := vr (some r)) (by unfold fvv; rw [hr, if_pos rfl, hR]; rfl) (fun _ => trivial) h
theorem Wld.putF {H H1 : Heap} {ci k q q0 : Nat} {z : Int} (h : Wld G S F I H) (hK : sK S q = ci) (hci : ci < 20) (hk : k < clN ci) (hr : refT (clT ci k) = false) (hz : rg z) (hq0 : (pw G S F I)[q0]? = some (q, cont G S F I q))
    (hP : va_P (gD G) vwCl ((pw G S F I).set q0 (q, .inr (ci, (fvs ci S F q).set k (.int (Int32.ofInt z))))) H1) (hD : va_D (gAd G) ((pw G S F I).set q0 (q, .inr (ci, (fvs ci S F q).set k (.int (Int32.ofInt z)))))) : Wld G S (u2 F (100 * ci + k) q z) I H1 := by
  have e := pw_set (S' := S) (F' := u2 F (100 * ci + k) q z) (I' := I) (e := .inr (ci, (fvs ci S F q).set k (.int (Int32.ofInt z)))) h (by rw [hK]; omega) hq0 rfl (by
    rw [cont_o hK hci, fvs_set hk (S' := S) (F' := u2 F (100 * ci + k) q z) ?_ fun j hj => fvv_F (fun w => hj w.1)]
    unfold fvv u2
    rw [hr, if_neg (fun w => by cases w), if_pos ⟨rfl, rfl⟩]) (fun b hb => cont_congr rfl rfl (fun c j => fvv_Fb hb) (fun _ => rfl) (fun _ => rfl))
  rw [e] at hP hD
  refine ⟨hP, hD, h.2.2.1, fun k' q' => ?_, h.2.2.2.2⟩
  unfold u2
  split
  · exact hz
  · exact h.2.2.2.1 k' q'
theorem Wld.putR {H H1 : Heap} {ci k q q0 : Nat} {o : Option Nat} (h : Wld G S F I H) (hK : sK S q = ci) (hci : ci < 20) (hk : k < clN ci) (hr : refT (clT ci k) = true) (hq0 : (pw G S F I)[q0]? = some (q, cont G S F I q))
    (hP : va_P (gD G) vwCl ((pw G S F I).set q0 (q, .inr (ci, (fvs ci S F q).set k (va_rf o)))) H1) (hD : va_D (gAd G) ((pw G S F I).set q0 (q, .inr (ci, (fvs ci S F q).set k (va_rf o))))) : Wld G (setR S (100 * ci + k) q o) F I H1 := by
  have e := pw_set (S' := setR S (100 * ci + k) q o) (F' := F) (I' := I) (e := .inr (ci, (fvs ci S F q).set k (va_rf o))) h (by rw [hK]; omega) hq0 rfl (by
    rw [cont_o (show sK (setR S (100 * ci + k) q o) q = ci from hK) hci, fvs_set hk (S' := setR S (100 * ci + k) q o) (F' := F) ?_ fun j hj => fvv_R (fun w => hj w.1)]
    show (if refT (clT ci k) = true then va_rf (u2 (sR S) (100 * ci + k) q o (100 * ci + k) q) else _) = _
    unfold u2
    rw [hr, if_pos rfl, if_pos ⟨rfl, rfl⟩]) (fun b hb => cont_congr rfl rfl (fun c j => fvv_Rb hb) (fun _ => rfl) (fun _ => rfl))
  rw [e] at hP hD
  exact ⟨hP, hD, h.2.2.1, h.2.2.2.1, h.2.2.2.2⟩
theorem nar_int (z : Int) : narrow .int (.int (Int32.ofInt z)) = .int (Int32.ofInt z) := rfl
theorem nar_bool {z : Int} (h : z = 0 ∨ z = 1) : narrow .boolean (.int (Int32.ofInt z)) = .int (Int32.ofInt z) ∧ fits .boolean (.int (Int32.ofInt z)) = true := by
  rcases h with rfl | rfl <;> exact ⟨by decide +kernel, by decide +kernel⟩
/-- what may be stored in a field that holds numbers -/
def okF (t : FieldType) (z : Int) : Prop := t = .int ∨ (t = .boolean ∧ (z = 0 ∨ z = 1))
theorem okF.nar {t : FieldType} {z : Int} (h : okF t z) : narrow t (.int (Int32.ofInt z)) = .int (Int32.ofInt z) ∧ fits t (.int (Int32.ofInt z)) = true := by
  rcases h with rfl | ⟨rfl, h⟩
  · exact ⟨rfl, rfl⟩
  · exact nar_bool h
theorem okF.num {t : FieldType} {z : Int} (h : okF t z) : refT t = false := by
  rcases h with rfl | ⟨rfl, h⟩ <;> rfl
theorem J_putI (C : CO G own cc nL X) {ci k index N q : Nat} {Cn : String} {T : u_T} {z : Int} (hf : FO ci k Cn T N) (hp : FP ci T N) (hl : FLk own index Cn T k) (hfin : (T k).2.2.2 = false ∨ ((xf X).name = "<init>" ∧ (T k).1 = own)) (hz : okF (clT ci k) z) (hd : decode cc pc = .ok (.putfield index, 3)) (hK : sK S q = ci) (h : J G X QQ (pc + 3) L st S (u2 F (100 * ci + k) q z) I) : J G X QQ pc L (vi z :: vr (some q) :: st) S F I := by
  intro H locs ls cells slots hW hS hls hL hst hca hcb
  obtain ⟨f1, f2, f3, f4, f5⟩ := hf
  obtain ⟨q0, hq0⟩ := hW.at (q := q) (by rw [hK]; omega)
  have hq1 := hq0
  rw [cont_o hK f4] at hq1
  have hst2 := (List.forall_mem_cons.mp (List.forall_mem_cons.mp hst).2).2
  have hzr : rg z := (List.forall_mem_cons.mp hst).1
  have hk : k < clN ci := by rw [f2]; exact f3
  have kk : ∀ (H1 : Heap) (locs1 : List Loc), va_P (gD G) vwCl ((pw G S F I).set q0 (q, .inr (ci, (fvs ci S F q).set k (.int (Int32.ofInt z))))) H1 → va_D (gAd G) ((pw G S F I).set q0 (q, .inr (ci, (fvs ci S F q).set k (.int (Int32.ofInt z))))) → va_S (gAd G) (xs X).heap H1 locs1 → WX X H1 locs1 cells slots QQ (F0 (xm X) (pc + 3) ls (st.map tv)) :=
    fun H1 locs1 a b c => h H1 locs1 ls cells slots (hW.putF hK f4 hk hz.num hzr hq0 a b) c hls hL hst2 hca hcb
  obtain ⟨n1, n2⟩ := hz.nar
  rcases hl with ⟨ref, h1, h2⟩ | ⟨host, h1, h9⟩
  · have hsame : ∀ x, (xs X).fieldFound? (T k).1 (T k).2.1 (T k).2.2.1 = some x → (xs X).fieldFound? ref (T k).2.1 (T k).2.2.1 = some x := fun x hx => by
      rcases h2 with rfl | h2
      · exact hx
      · exact u_same (C.2.2.2.1 _ h2) x hx
    cases hff : (T k).2.2.2 with
    | false => exact va_put C.1 C.2.1 C.2.2.2.1 f5 (clT ci) hp.1 hp.2 C.2.2.1 C.2.2.2.2.1.1 hW.1 hW.2.1 hS q0 hq1 f1 k f3 (C.2.2.2.1 _ h1) hsame hff (hp.1 k f3) n1 n2 (by rw [fvs_len]; exact hk) hd kk
    | true =>
      rcases hfin with hfin | ⟨hfin, hown⟩
      · rw [hff] at hfin; cases hfin
      · exact va_putF C.1 C.2.1 C.2.2.2.1 f5 (clT ci) hp.1 hp.2 C.2.2.1 C.2.2.2.2.1.1 hW.1 hW.2.1 hS q0 hq1 f1 k f3 (C.2.2.2.1 _ h1) hsame hff hfin hown (hp.1 k f3) n1 n2 (by rw [fvs_len]; exact hk) hd kk
  · cases hff : (T k).2.2.2 with
    | false => exact va_putN C.1 C.2.1 C.2.2.2.1 f5 (clT ci) hp.1 hp.2 C.2.2.1 C.2.2.2.2.1.1 hW.1 hW.2.1 hS q0 hq1 f1 k f3 (va_Nw.use rfl (C.2.2.2.2.1.2.1 _ h1 rfl)) (fun x hx => hx) hff (hp.1 k f3) n1 n2 (by rw [fvs_len]; exact hk) hd kk
    | true =>
      rcases hfin with hfin | ⟨hfin, hown⟩
      · rw [hff] at hfin; cases hfin
      · exact absurd hown h9
theorem fits_ref {t : FieldType} (h : refT t = true) (o : Option Nat) : narrow t (va_rf o) = va_rf o ∧ fits t (va_rf o) = true := by
  cases t <;> first | (exact Bool.noConfusion h) | (cases o <;> exact ⟨rfl, rfl⟩)
theorem J_putR (C : CO G own cc nL X) {ci k index N q : Nat} {Cn ref : String} {T : u_T} {o : Option Nat} (hf : FO ci k Cn T N) (hp : FP ci T N) (hr : refT (clT ci k) = true) (h1 : Cond.fieldLink own index ref (T k).2.1 (T k).2.2.1 ∈ lw_good) (h2 : ref = (T k).1) (hfin : (T k).2.2.2 = false ∨ ((xf X).name = "<init>" ∧ (T k).1 = own)) (hd : decode cc pc = .ok (.putfield index, 3)) (hK : sK S q = ci) (h : J G X QQ (pc + 3) L st (setR S (100 * ci + k) q o) F I) : J G X QQ pc L (vr o :: vr (some q) :: st) S F I := by
  intro H locs ls cells slots hW hS hls hL hst hca hcb
  obtain ⟨f1, f2, f3, f4, f5⟩ := hf
  obtain ⟨q0, hq0⟩ := hW.at (q := q) (by rw [hK]; omega)
  have hq1 := hq0
  rw [cont_o hK f4] at hq1
  have hst2 := (List.forall_mem_cons.mp (List.forall_mem_cons.mp hst).2).2
  have hk : k < clN ci := by rw [f2]; exact f3
  have kk : ∀ (H1 : Heap) (locs1 : List Loc), va_P (gD G) vwCl ((pw G S F I).set q0 (q, .inr (ci, (fvs ci S F q).set k (va_rf o)))) H1 → va_D (gAd G) ((pw G S F I).set q0 (q, .inr (ci, (fvs ci S F q).set k (va_rf o)))) → va_S (gAd G) (xs X).heap H1 locs1 → WX X H1 locs1 cells slots QQ (F0 (xm X) (pc + 3) ls (st.map tv)) :=
    fun H1 locs1 a b c => h H1 locs1 ls cells slots (hW.putR hK f4 hk hr hq0 a b) c hls hL hst2 hca hcb
  obtain ⟨n1, n2⟩ := fits_ref hr o
  subst h2
  cases hff : (T k).2.2.2 with
  | false => exact va_put C.1 C.2.1 C.2.2.2.1 f5 (clT ci) hp.1 hp.2 C.2.2.1 C.2.2.2.2.1.1 hW.1 hW.2.1 hS q0 hq1 f1 k f3 (C.2.2.2.1 _ h1) (fun x hx => hx) hff (hp.1 k f3) n1 n2 (by rw [fvs_len]; exact hk) hd kk
  | true =>
    rcases hfin with hfin | ⟨hfin, hown⟩
    · rw [hff] at hfin; cases hfin
    · exact va_putF C.1 C.2.1 C.2.2.2.1 f5 (clT ci) hp.1 hp.2 C.2.2.1 C.2.2.2.2.1.1 hW.1 hW.2.1 hS q0 hq1 f1 k f3 (C.2.2.2.1 _ h1) (fun x hx => hx) hff hfin hown (hp.1 k f3) n1 n2 (by rw [fvs_len]; exact hk) hd kk
/-! arrays -/
theorem ty_at (k : Nat) (hk : 20 ≤ k) (hk2 : k < 26) : (tysG G)[k - 20]? = some (gA G (k - 20), (match k with | 20 => FieldType.int | 21 => .int | 22 => .int | 23 => .object RX6 | 24 => .object RX7 | _ => .object "java/lang/Object")) := by
  obtain rfl | rfl | rfl | rfl | rfl | rfl : k = 20 ∨ k = 21 ∨ k = 22 ∨ k = 23 ∨ k = 24 ∨ k = 25 := by omega
  all_goals rfl
theorem J_alen (C : CO G own cc nL X) {q k : Nat} (hd : decode cc pc = .ok (.arraylength, 1)) (hK : sK S q = k) (hk : 20 ≤ k) (hk2 : k < 26) (hn : rg (sN S q : Int)) (h : J G X QQ (pc + 1) L (vi (sN S q : Int) :: st) S F I) : J G X QQ pc L (vr (some q) :: st) S F I := by
  intro H locs ls cells slots hW hS hls hL hst hca hcb
  obtain ⟨q0, hq0⟩ := hW.at (q := q) (by rw [hK]; omega)
  rw [cont_a hK hk] at hq0
  exact va_alen C.1 C.2.1 C.2.2.2.2.1.1 hW.1 q0 (k - 20) hq0 (ty_at k hk hk2) (v := Int32.ofInt (sN S q : Int)) rfl hd (h H locs ls cells slots hW hS hls hL (List.forall_mem_cons.mpr ⟨hn, (List.forall_mem_cons.mp hst).2⟩) hca hcb)
theorem i_nat {z : Int} (h0 : 0 ≤ z) : ((z.toNat : Nat) : Int) = z := Int.toNat_of_nonneg h0
theorem J_iald (C : CO G own cc nL X) {q : Nat} {z : Int} (hd : decode cc pc = .ok (.iaload, 1)) (hK : sK S q = 20) (h0 : 0 ≤ z) (hn : z < (sN S q : Int)) (h : J G X QQ (pc + 1) L (vi (I q z) :: st) S F I) : J G X QQ pc L (vi z :: vr (some q) :: st) S F I := by
  intro H locs ls cells slots hW hS hls hL hst hca hcb
  obtain ⟨q0, hq0⟩ := hW.at (q := q) (by rw [hK]; omega)
  rw [cont_a hK (by omega)] at hq0
  have hz : rg z := (List.forall_mem_cons.mp hst).1
  have kk := h H locs ls cells slots hW hS hls hL (List.forall_mem_cons.mpr ⟨hW.2.2.2.2 q z, (List.forall_mem_cons.mp (List.forall_mem_cons.mp hst).2).2⟩) hca hcb
  refine va_iald C.1 C.2.1 C.2.2.2.2.1.1 hW.1 q0 0 hq0 rfl (i_in hz h0 hn) hd ?_
  rw [i_cl hz h0, i_nat h0]
  exact kk
theorem J_aald (C : CO G own cc nL X) {q k r : Nat} {z : Int} (hd : decode cc pc = .ok (.aaload, 1)) (hK : sK S q = k) (hk : 23 ≤ k) (hk2 : k < 26) (h0 : 0 ≤ z) (hn : z < (sN S q : Int)) (hr : sG S q z = some r) (h : J G X QQ (pc + 1) L (vr (some r) :: st) S F I) : J G X QQ pc L (vi z :: vr (some q) :: st) S F I := by
  intro H locs ls cells slots hW hS hls hL hst hca hcb
  obtain ⟨q0, hq0⟩ := hW.at (q := q) (by rw [hK]; omega)
  rw [cont_a hK (by omega)] at hq0
  have hz : rg z := (List.forall_mem_cons.mp hst).1
  have kk := h H locs ls cells slots hW hS hls hL (List.forall_mem_cons.mpr ⟨trivial, (List.forall_mem_cons.mp (List.forall_mem_cons.mp hst).2).2⟩) hca hcb
  have go : ∀ (Cn : String) (t0 : Nat), (tysG G)[t0]? = some (gA G (k - 20), .object Cn) → (pw G S F I)[q0]? = some (q, .inl (gA G (k - 20), (sN S q, .inr (.inr (.inr (.inr (fun j : Nat => sG S q (j : Int)))))))) → WX X H locs cells slots QQ (F0 (xm X) pc ls ((vi z :: vr (some q) :: st).map tv)) := fun Cn t0 ht hq => by
    refine va_aldq C.1 C.2.1 C.2.2.2.2.1.1 hW.1 q0 t0 hq ht (i_in hz h0 hn) hd ?_
    rw [i_cl hz h0, i_nat h0, hr]
    exact kk
  obtain rfl | rfl | rfl : k = 23 ∨ k = 24 ∨ k = 25 := by omega
  · exact go _ 3 rfl hq0
  · exact go _ 4 rfl hq0
  · exact go _ 5 rfl hq0
theorem pw_arr {H H1 : Heap} {k q q0 : Nat} {S' : Shp} {I' : Il} (h : Wld G S F I H) (hK : sK S q = k) (hk : 20 ≤ k) (hk9 : k ≠ 99) (hq0 : (pw G S F I)[q0]? = some (q, cont G S F I q)) (hL : sL S' = sL S) (hK' : sK S' = sK S) (hN' : sN S' = sN S) (hR' : sR S' = sR S) (hI : ∀ b, b ≠ q → ∀ j, I' b j = I b j) (hG : ∀ b, b ≠ q → ∀ j, sG S' b j = sG S b j) (hr : ∀ q j, rg (I' q j)) {a : vpR} (ha : arc k S' I' q = a)
    (hP : va_P (gD G) vwCl ((pw G S F I).set q0 (q, .inl (gA G (k - 20), (sN S q, a)))) H1) (hD : va_D (gAd G) ((pw G S F I).set q0 (q, .inl (gA G (k - 20), (sN S q, a))))) : Wld G S' F I' H1 := by
  have e := pw_set (S' := S') (F' := F) (I' := I') (e := .inl (gA G (k - 20), (sN S q, a))) h (by rw [hK]; exact hk9) hq0 hL (by
    rw [cont_a (show sK S' q = k by rw [hK']; exact hK) hk, hN', ha]) (fun b hb => cont_congr (by rw [hK']) (by rw [hN']) (fun c j => by unfold fvv; rw [hR']) (hI b hb) (hG b hb))
  rw [e] at hP hD
  exact ⟨hP, hD, fun q hq => by rw [hL]; exact h.2.2.1 q (by rw [← hK']; exact hq), h.2.2.2.1, hr⟩
theorem upd_ui {f : Nat → Int → Int} {q : Nat} {z x : Int} (h0 : 0 ≤ z) : (fun j : Nat => Int32.ofInt (ui f q z x q (j : Int))) = upd (fun j : Nat => Int32.ofInt (f q (j : Int))) z.toNat (Int32.ofInt x) := by
  funext j
  unfold ui upd
  by_cases hj : (j : Int) = z
  · rw [if_pos ⟨rfl, hj⟩, if_pos (by omega)]
  · rw [if_neg (fun w => hj w.2), if_neg (by omega)]
theorem ui_ne {α : Type} {f : Nat → Int → α} {q b : Nat} {z : Int} {x : α} (h : b ≠ q) (j : Int) : ui f q z x b j = f b j := by
  unfold ui
  rw [if_neg (fun w => h w.1)]
theorem rg_ui {f : Nat → Int → Int} {q : Nat} {z x : Int} (h : ∀ q j, rg (f q j)) (hx : rg x) (q' : Nat) (j : Int) : rg (ui f q z x q' j) := by
  unfold ui
  split
  · exact hx
  · exact h q' j
theorem J_iast (C : CO G own cc nL X) {q : Nat} {z x : Int} (hd : decode cc pc = .ok (.iastore, 1)) (hK : sK S q = 20) (h0 : 0 ≤ z) (hn : z < (sN S q : Int)) (h : J G X QQ (pc + 1) L st S F (ui I q z x)) : J G X QQ pc L (vi x :: vi z :: vr (some q) :: st) S F I := by
  intro H locs ls cells slots hW hS hls hL hst hca hcb
  obtain ⟨q0, hq0⟩ := hW.at (q := q) (by rw [hK]; omega)
  have hq1 := hq0
  rw [cont_a hK (by omega)] at hq1
  obtain ⟨hx, hst1⟩ := List.forall_mem_cons.mp hst
  obtain ⟨hz, hst2⟩ := List.forall_mem_cons.mp hst1
  refine va_iast C.1 C.2.1 C.2.2.2.2.1.1 hW.1 hW.2.1 hS q0 0 hq1 rfl (i_in hz h0 hn) hd fun H1 locs1 a b c => ?_
  rw [i_cl hz h0] at a b
  exact h H1 locs1 ls cells slots (pw_arr hW hK (by omega) (by omega) hq0 rfl rfl rfl rfl (fun b hb j => ui_ne hb j) (fun _ _ _ => rfl) (rg_ui hW.2.2.2.2 hx) (congrArg Sum.inl (upd_ui h0)) a b) c hls hL (List.forall_mem_cons.mp hst2).2 hca hcb
theorem vp_nar_z {x : Int} (h : x = 0 ∨ x = 1) : vp_nar .boolean (Int32.ofInt x) = Int32.ofInt x := by
  rcases h with rfl | rfl <;> decide +kernel
theorem upd_ul {f : Nat → Int → Int} {q : Nat} {z x : Int} (h0 : 0 ≤ z) : (fun j : Nat => Int64.ofInt (ui f q z x q (j : Int))) = vp_updL (fun j : Nat => Int64.ofInt (f q (j : Int))) z.toNat (Int64.ofInt x) := by
  funext j
  unfold ui vp_updL
  by_cases hj : (j : Int) = z
  · rw [if_pos ⟨rfl, hj⟩, if_pos (by omega)]
  · rw [if_neg (fun w => hj w.2), if_neg (by omega)]
end RulesB
