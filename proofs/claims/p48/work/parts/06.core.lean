/-! the pure layer: values (ints, references, longs), shapes, worlds, the judgement J -/
abbrev PV : Type := Int ⊕ (Option Nat ⊕ Int)
abbrev vi (z : Int) : PV := Sum.inl z
abbrev vr (o : Option Nat) : PV := Sum.inr (Sum.inl o)
abbrev vl (z : Int) : PV := Sum.inr (Sum.inr z)
def rg (z : Int) : Prop := -2147483648 ≤ z ∧ z < 2147483648
def w32 (z : Int) : Int := z.bmod 4294967296
def tv : PV → Value
  | .inl z => .int (Int32.ofInt z)
  | .inr (.inl o) => va_rf o
  | .inr (.inr z) => .long (Int64.ofInt z)
def wfv : PV → Prop
  | .inl z => rg z
  | .inr (.inl _) => True
  | .inr (.inr z) => rg z
theorem rg_w32 (z : Int) : rg (w32 z) := by
  unfold rg w32 Int.bmod
  dsimp only
  split <;> omega
theorem w32_id {z : Int} (h : rg z) : w32 z = z := by
  unfold rg at h
  unfold w32 Int.bmod
  dsimp only
  split <;> omega
theorem p_toI (z : Int) : (Int32.ofInt z).toInt = w32 z := Int32.toInt_ofInt
theorem toI {z : Int} (h : rg z) : (Int32.ofInt z).toInt = z := (p_toI z).trans (w32_id h)
theorem w32_w32 (z : Int) : w32 (w32 z) = w32 z := w32_id (rg_w32 z)
theorem ofI (z : Int) : Int32.ofInt (w32 z) = Int32.ofInt z := by
  rw [← Int32.toInt_inj, p_toI, p_toI, w32_w32]
theorem asI (x : Int32) : Int32.ofInt x.toInt = x := by
  rw [← Int32.toInt_inj, p_toI, w32_id]
  exact ⟨x.le_toInt, x.toInt_lt⟩
theorem rgI (x : Int32) : rg x.toInt := ⟨x.le_toInt, x.toInt_lt⟩
theorem i_add (a b : Int) : Int32.ofInt a + Int32.ofInt b = Int32.ofInt (w32 (a + b)) := by rw [ofI, Int32.ofInt_add]
theorem i_sub (a b : Int) : Int32.ofInt a - Int32.ofInt b = Int32.ofInt (w32 (a - b)) := by rw [ofI, Int32.ofInt_sub]
theorem i_mul (a b : Int) : Int32.ofInt a * Int32.ofInt b = Int32.ofInt (w32 (a * b)) := by rw [ofI, Int32.ofInt_mul]
theorem i_div {a b : Int} (ha : rg a) (hb : rg b) : Int32.ofInt a / Int32.ofInt b = Int32.ofInt (w32 (a.tdiv b)) := by
  rw [← Int32.toInt_inj, Int32.toInt_div, toI ha, toI hb, p_toI, w32_w32]
  rfl
theorem i_eq {a b : Int} (ha : rg a) (hb : rg b) : Int32.ofInt a = Int32.ofInt b ↔ a = b := by
  rw [← Int32.toInt_inj, toI ha, toI hb]
theorem i_lt {a b : Int} (ha : rg a) (hb : rg b) : Int32.ofInt a < Int32.ofInt b ↔ a < b := by
  rw [Int32.lt_iff_toInt_lt, toI ha, toI hb]
theorem i_le {a b : Int} (ha : rg a) (hb : rg b) : Int32.ofInt a ≤ Int32.ofInt b ↔ a ≤ b := by
  rw [Int32.le_iff_toInt_le, toI ha, toI hb]
theorem rg0 : rg 0 := by unfold rg; omega
theorem i_0 : Int32.ofInt 0 = 0 := rfl
theorem i_rem {a b : Int} (ha : rg a) (hb : rg b) : Int32.ofInt a - Int32.ofInt a / Int32.ofInt b * Int32.ofInt b = Int32.ofInt (w32 (a.tmod b)) := by
  rw [i_div ha hb, i_mul, i_sub, ofI, ofI, Int32.ofInt_sub, ofI, Int32.ofInt_mul, ofI, ← Int32.ofInt_mul, ← Int32.ofInt_sub]
  congr 1
  rw [Int.tmod_def, Int.mul_comm b]
def iand (a b : Int) : Int := (Int32.ofInt a &&& Int32.ofInt b).toInt
def ior (a b : Int) : Int := (Int32.ofInt a ||| Int32.ofInt b).toInt
def ishl (a b : Int) : Int := (Int32.ofInt a <<< (Int32.ofInt b &&& 31)).toInt
def ishr (a b : Int) : Int := (Int32.ofInt a >>> (Int32.ofInt b &&& 31)).toInt
def iushr (a b : Int) : Int := (((Int32.ofInt a).toUInt32 >>> ((Int32.ofInt b).toUInt32 &&& Int32.toUInt32 31)).toInt32).toInt
theorem i_cl {z : Int} (h : rg z) (h0 : 0 ≤ z) : (Int32.ofInt z).toNatClampNeg = z.toNat := by
  show (Int32.ofInt z).toInt.toNat = z.toNat
  rw [toI h]
theorem i_in {z : Int} {n : Nat} (h : rg z) (h0 : 0 ≤ z) (hn : z < n) : vp_in (Int32.ofInt z) n := by
  rw [vp_in_iff, toI h]
  exact ⟨h0, hn⟩
theorem i_long {z : Int} (h : rg z) : (Int32.ofInt z).toInt64 = Int64.ofInt z := by
  rw [← Int64.toInt_inj, Int32.toInt_toInt64, toI h, Int64.toInt_ofInt]
  unfold rg at h
  unfold Int.bmod
  dsimp only [Int64.size]
  split <;> omega
theorem l_toI {z : Int} (h : rg z) : (Int64.ofInt z).toInt = z := by
  rw [← i_long h, Int32.toInt_toInt64, toI h]
def icmp (a b : Int) : Int := if a < b then -1 else if a = b then 0 else 1
theorem l_cmp {a b : Int} (ha : rg a) (hb : rg b) : lg_cmp (Int64.ofInt a) (Int64.ofInt b) = Int32.ofInt (icmp a b) := by
  unfold lg_cmp icmp
  have h1 : Int64.ofInt a < Int64.ofInt b ↔ a < b := by rw [Int64.lt_iff_toInt_lt, l_toI ha, l_toI hb]
  have h2 : Int64.ofInt b < Int64.ofInt a ↔ b < a := by rw [Int64.lt_iff_toInt_lt, l_toI ha, l_toI hb]
  have h3 : Int64.ofInt a = Int64.ofInt b ↔ a = b := by rw [← Int64.toInt_inj, l_toI ha, l_toI hb]
  simp only [h1, h2, h3, GT.gt]
  rcases Int.lt_trichotomy a b with h | h | h
  · have q1 : ¬ a = b := by omega
    have q2 : ¬ b < a := by omega
    simp [h, q1, q2]
    try rfl
  · subst h
    simp
    try rfl
  · have q1 : ¬ a = b := by omega
    have q2 : ¬ a < b := by omega
    simp [h, q1, q2]
    try rfl
/-! classes and shapes -/
def refT : FieldType → Bool
  | .object _ => true
  | .array _ => true
  | _ => false
abbrev Fl : Type := Nat → Nat → Int
abbrev Il : Type := Nat → Int → Int
abbrev Shp : Type := List Nat × (Nat → Nat) × (Nat → Nat → Option Nat) × (Nat → Nat) × (Nat → Int → Option Nat) × Nat × Nat
abbrev sL (S : Shp) : List Nat := S.1
abbrev sK (S : Shp) : Nat → Nat := S.2.1
abbrev sR (S : Shp) : Nat → Nat → Option Nat := S.2.2.1
abbrev sN (S : Shp) : Nat → Nat := S.2.2.2.1
abbrev sG (S : Shp) : Nat → Int → Option Nat := S.2.2.2.2.1
abbrev sa (S : Shp) : Nat := S.2.2.2.2.2.1
abbrev sb (S : Shp) : Nat := S.2.2.2.2.2.2
def u2 {α : Type} (F : Nat → Nat → α) (k q : Nat) (z : α) : Nat → Nat → α := fun k' q' => if k' = k ∧ q' = q then z else F k' q'
def ui {α : Type} (I : Nat → Int → α) (q : Nat) (j : Int) (z : α) : Nat → Int → α := fun q' j' => if q' = q ∧ j' = j then z else I q' j'
abbrev setR (S : Shp) (k q : Nat) (o : Option Nat) : Shp := (sL S, sK S, u2 (sR S) k q o, sN S, sG S, sa S, sb S)
abbrev setG (S : Shp) (q : Nat) (j : Int) (o : Option Nat) : Shp := (sL S, sK S, sR S, sN S, ui (sG S) q j o, sa S, sb S)
/-- a new object q of class c -/
abbrev newO (S : Shp) (q c : Nat) : Shp := (sL S ++ [q], va_up (sK S) q c, (fun k' q' => if q' = q then none else sR S k' q'), sN S, sG S, sa S - 1, sb S - clN c)
def zF (F : Fl) (q : Nat) : Fl := fun k' q' => if q' = q then 0 else F k' q'
/-- a new array q of kind c and n places -/
abbrev newA (S : Shp) (q c n : Nat) : Shp := (sL S ++ [q], va_up (sK S) q c, sR S, va_up (sN S) q n, (fun q' j' => if q' = q then none else sG S q' j'), sa S - 1, sb S - n)
def zI (I : Il) (q : Nat) : Il := fun q' j' => if q' = q then 0 else I q' j'
/-- .. and the script: where it lies, how many, which -/
abbrev Gp : Type := va_G × (Nat → ClassId) × Nat × Nat × Nat × Nat × Nat × (Nat → Int32)
abbrev gD (G : Gp) : va_G := G.1
abbrev gA (G : Gp) : Nat → ClassId := G.2.1
abbrev gB (G : Gp) : Nat := G.2.2.1
abbrev gZ (G : Gp) : Nat := G.2.2.2.1
abbrev gM (G : Gp) : Nat := G.2.2.2.2.1
abbrev gX (G : Gp) : Nat := G.2.2.2.2.2.1
abbrev gNx (G : Gp) : Nat := G.2.2.2.2.2.2.1
abbrev gYs (G : Gp) : Nat → Int32 := G.2.2.2.2.2.2.2
abbrev gln (G : Gp) : Int := (gNx G : Int)
abbrev gsc (G : Gp) : Int → Int := fun z => (gYs G z.toNat).toInt
abbrev gAd (G : Gp) : Nat → Prop := fun q => gB G ≤ q
def fvv (c : Nat) (S : Shp) (F : Fl) (q k : Nat) : Value := if refT (clT c k) = true then va_rf (sR S (100 * c + k) q) else .int (Int32.ofInt (F (100 * c + k) q))
def fvs (c : Nat) (S : Shp) (F : Fl) (q : Nat) : List Value := (List.range (clN c)).map (fvv c S F q)
abbrev vpR : Type := (Nat → Int32) ⊕ (Nat → Int64) ⊕ (Nat → UInt32) ⊕ (Nat → UInt64) ⊕ (Nat → Option Nat)
def arc (k : Nat) (S : Shp) (I : Il) (q : Nat) : vpR := if k ≤ 21 then .inl (fun j => Int32.ofInt (I q (j : Int))) else if k = 22 then .inr (.inl (fun j => Int64.ofInt (I q (j : Int)))) else .inr (.inr (.inr (.inr (fun j => sG S q (j : Int)))))
def cont (G : Gp) (S : Shp) (F : Fl) (I : Il) (q : Nat) : va_E := if sK S q < 20 then .inr (sK S q, fvs (sK S q) S F q) else .inl (gA G (sK S q - 20), (sN S q, arc (sK S q) S I q))
def tysG (G : Gp) : List (ClassId × FieldType) := [(gA G 0, .int), (gA G 1, .int), (gA G 2, .int), (gA G 3, .object RX6), (gA G 4, .object RX7), (gA G 5, .object "java/lang/Object")]
def pw (G : Gp) (S : Shp) (F : Fl) (I : Il) : va_W := va_pl (sL S) (cont G S F I)
def Wld (G : Gp) (S : Shp) (F : Fl) (I : Il) (H : Heap) : Prop := va_P (gD G) vwCl (pw G S F I) H ∧ va_D (gAd G) (pw G S F I) ∧ (∀ q, sK S q ≠ 99 → q ∈ sL S) ∧ (∀ k q, rg (F k q)) ∧ (∀ q j, rg (I q j))
theorem Wld.at {G : Gp} {S : Shp} {F : Fl} {I : Il} {H : Heap} (h : Wld G S F I H) {q : Nat} (hq : sK S q ≠ 99) : ∃ k : Nat, (pw G S F I)[k]? = some (q, cont G S F I q) := by
  obtain ⟨k, hk⟩ := va_pl_get (X := []) (f := cont G S F I) (h.2.2.1 q hq)
  exact ⟨k, hk⟩
theorem cont_o {G : Gp} {S : Shp} {F : Fl} {I : Il} {q c : Nat} (h : sK S q = c) (hc : c < 20) : cont G S F I q = .inr (c, fvs c S F q) := by
  unfold cont
  rw [h, if_pos hc]
theorem cont_a {G : Gp} {S : Shp} {F : Fl} {I : Il} {q c : Nat} (h : sK S q = c) (hc : 20 ≤ c) : cont G S F I q = .inl (gA G (c - 20), (sN S q, arc c S I q)) := by
  unfold cont
  rw [h, if_neg (by omega)]
theorem fvs_get {c k : Nat} {S : Shp} {F : Fl} {q : Nat} (hk : k < clN c) : (fvs c S F q)[k]? = some (fvv c S F q k) := by
  unfold fvs
  rw [List.getElem?_map, List.getElem?_range hk]
  rfl
theorem fvs_len (c : Nat) (S : Shp) (F : Fl) (q : Nat) : (fvs c S F q).length = clN c := by
  unfold fvs
  rw [List.length_map, List.length_range]
theorem fvs_set {c k : Nat} {S S' : Shp} {F F' : Fl} {q : Nat} {v : Value} (hk : k < clN c) (h1 : fvv c S' F' q k = v) (h2 : ∀ j, j ≠ k → fvv c S' F' q j = fvv c S F q j) : (fvs c S F q).set k v = fvs c S' F' q := by
  apply List.ext_getElem?
  intro j
  by_cases hj : j = k
  · subst hj
    rw [List.getElem?_set_self (by rw [fvs_len]; exact hk), fvs_get hk, h1]
  · rw [List.getElem?_set_ne (fun z => hj z.symm)]
    by_cases hl : j < clN c
    · rw [fvs_get hl, fvs_get hl, h2 j hj]
    · rw [List.getElem?_eq_none (by rw [fvs_len]; omega), List.getElem?_eq_none (by rw [fvs_len]; omega)]
/-- a world behind a change of one thing -/
theorem pw_set {G : Gp} {S S' : Shp} {F F' : Fl} {I I' : Il} {H : Heap} (h : Wld G S F I H) {q k : Nat} {e : va_E} (hq : sK S q ≠ 99) (hk : (pw G S F I)[k]? = some (q, cont G S F I q)) (hL : sL S' = sL S) (h1 : cont G S' F' I' q = e) (h2 : ∀ b, b ≠ q → cont G S' F' I' b = cont G S F I b) : (pw G S F I).set k (q, e) = pw G S' F' I' := by
  have hD : va_D (gAd G) ([] ++ va_pl (sL S) (cont G S F I)) := h.2.1
  have e1 := va_pl_set (X := []) hD (h.2.2.1 q hq) hk (e := e)
  show ([] ++ va_pl (sL S) (cont G S F I)).set k (q, e) = va_pl (sL S') (cont G S' F' I')
  rw [e1, hL]
  refine va_pl_congr fun b => ?_
  by_cases hb : b = q
  · subst hb
    rw [va_up_self, h1]
  · rw [va_up_ne _ _ hb, h2 b hb]
theorem fvv_F {c j k q b : Nat} {S : Shp} {F : Fl} {z : Int} (h : ¬ (j = k ∧ b = q)) : fvv c S (u2 F (100 * c + k) q z) b j = fvv c S F b j := by
  unfold fvv u2
  rw [if_neg (show ¬ (100 * c + j = 100 * c + k ∧ b = q) from fun w => h ⟨by omega, w.2⟩)]
theorem fvv_Fb {c c' j k q b : Nat} {S : Shp} {F : Fl} {z : Int} (h : b ≠ q) : fvv c S (u2 F (100 * c' + k) q z) b j = fvv c S F b j := by
  unfold fvv u2
  rw [if_neg (show ¬ (100 * c + j = 100 * c' + k ∧ b = q) from fun w => h w.2)]
theorem fvv_R {c j k q b : Nat} {S : Shp} {F : Fl} {o : Option Nat} (h : ¬ (j = k ∧ b = q)) : fvv c (setR S (100 * c + k) q o) F b j = fvv c S F b j := by
  show (if refT (clT c j) = true then va_rf (u2 (sR S) (100 * c + k) q o (100 * c + j) b) else _) = _
  unfold fvv u2
  rw [if_neg (show ¬ (100 * c + j = 100 * c + k ∧ b = q) from fun w => h ⟨by omega, w.2⟩)]
theorem fvv_Rb {c c' j k q b : Nat} {S : Shp} {F : Fl} {o : Option Nat} (h : b ≠ q) : fvv c (setR S (100 * c' + k) q o) F b j = fvv c S F b j := by
  show (if refT (clT c j) = true then va_rf (u2 (sR S) (100 * c' + k) q o (100 * c + j) b) else _) = _
  unfold fvv u2
  rw [if_neg (show ¬ (100 * c + j = 100 * c' + k ∧ b = q) from fun w => h w.2)]
theorem cont_congr {G : Gp} {S S' : Shp} {F F' : Fl} {I I' : Il} {b : Nat} (h1 : sK S' b = sK S b) (h2 : sN S' b = sN S b) (h3 : ∀ c j, fvv c S' F' b j = fvv c S F b j) (h4 : ∀ j, I' b j = I b j) (h5 : ∀ j, sG S' b j = sG S b j) : cont G S' F' I' b = cont G S F I b := by
  unfold cont
  rw [h1, h2]
  have e1 : ∀ c, fvs c S' F' b = fvs c S F b := fun c => by unfold fvs; rw [show fvv c S' F' b = fvv c S F b from funext (h3 c)]
  have e2 : ∀ c, arc c S' I' b = arc c S I b := fun c => by unfold arc; simp only [h4, h5]
  rw [e1, e2]
