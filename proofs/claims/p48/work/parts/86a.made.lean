/-! the start: what is made, by the order of making; its references, fields, rows in numbers alone. The kinds K and lengths N of all that will be made are given ahead -/
def lup (l : Nat → Nat) (n q : Nat) : Nat → Nat := fun i => if i = n then q else l i
abbrev Sy : Type := (Nat → Nat → Option Nat) × (Nat → Int → Option Nat) × Fl × (Nat → Int)
def y_O (n : Nat) (T : Sy) : Sy := (fun f i => if i = n then none else T.1 f i, T.2.1, fun k i => if i = n then 0 else T.2.2.1 k i, T.2.2.2)
def y_A (n : Nat) (T : Sy) : Sy := (T.1, fun i j => if i = n then none else T.2.1 i j, T.2.2.1, va_up T.2.2.2 n 0)
def y_r (f i r : Nat) (T : Sy) : Sy := (u2 T.1 f i (some r), T.2.1, T.2.2.1, T.2.2.2)
def y_g (i : Nat) (j : Int) (r : Nat) (T : Sy) : Sy := (T.1, ui T.2.1 i j (some r), T.2.2.1, T.2.2.2)
def y_f (k i : Nat) (v : Int) (T : Sy) : Sy := (T.1, T.2.1, u2 T.2.2.1 k i v, T.2.2.2)
def y_j (i : Nat) (v : Int) (T : Sy) : Sy := (T.1, T.2.1, T.2.2.1, va_up T.2.2.2 i v)
/-- n made, at addresses l: of kinds K, the rows of lengths N; z stands at 999 -/
def Mk (z : Nat) (K N : Nat → Nat) (n : Nat) (l : Nat → Nat) (T : Sy) (S : Shp) (F : Fl) (I : Il) : Prop :=
  l 999 = z ∧ (∀ i j, i < n → j < n → l i = l j → i = j) ∧
  (∀ i, i < n → sK S (l i) = K i ∧ K i ≠ 99) ∧
  (∀ i, i < n → 20 ≤ K i → sN S (l i) = N i) ∧
  (∀ i f, i < n → K i < 20 → sR S f (l i) = (T.1 f i).map l) ∧
  (∀ i f r, i < n → K i < 20 → T.1 f i = some r → r < n ∨ r = 999) ∧
  (∀ i j, i < n → 20 ≤ K i → sG S (l i) j = (T.2.1 i j).map l) ∧
  (∀ i j r, i < n → 20 ≤ K i → T.2.1 i j = some r → r < n) ∧
  (∀ i k, i < n → K i < 20 → F k (l i) = T.2.2.1 k i) ∧
  (∀ (i : Nat) (j : Int), i < n → 20 ≤ K i → 0 ≤ j → j < (N i : Int) → I (l i) j = T.2.2.2 i) ∧
  747000 ≤ sa S + n ∧ 6850000 ≤ sb S + 4000 * n ∧ n ≤ 900
section Made
variable {z n c m q f i r k x y : Nat} {v : Int} {l K N : Nat → Nat} {T : Sy} {S : Shp} {F : Fl} {I : Il}
theorem lup_s : lup l n q n = q := if_pos rfl
theorem lup_n (h : i ≠ n) : lup l n q i = l i := if_neg h
theorem lup_map {o : Option Nat} (h : ∀ r, o = some r → r ≠ n) : o.map (lup l n q) = o.map l := by
  cases o with
  | none => rfl
  | some r => exact congrArg some (lup_n (h r rfl))
theorem Mk.k_ (h : Mk z K N n l T S F I) (hi : i < n) : sK S (l i) = K i := (h.2.2.1 i hi).1
theorem Mk.ne_ (h : Mk z K N n l T S F I) (hq : sK S q = 99) (hi : i < n) : l i ≠ q := fun e => by
  have := h.2.2.1 i hi
  rw [e, hq] at this
  exact this.2 this.1.symm
theorem Mk.inj_ (h : Mk z K N n l T S F I) (hq : sK S q = 99) : ∀ i j, i < n + 1 → j < n + 1 → lup l n q i = lup l n q j → i = j := fun i j hi hj => by
  by_cases ei : i = n
  · by_cases ej : j = n
    · exact fun _ => ei.trans ej.symm
    · rw [ei, lup_s, lup_n ej]
      exact fun w => absurd w.symm (h.ne_ hq (by omega))
  · by_cases ej : j = n
    · rw [ej, lup_s, lup_n ei]
      exact fun w => absurd w (h.ne_ hq (by omega))
    · rw [lup_n ei, lup_n ej]
      exact h.2.1 i j (by omega) (by omega)
theorem Mk.a_ (h : Mk z K N n l T S F I) (hn : n < 900) : 1 ≤ sa S := by
  have := h.2.2.2.2.2.2.2.2.2.2.1
  omega
theorem Mk.b_ (h : Mk z K N n l T S F I) (hn : n < 900) (hm : m ≤ 4000) : m ≤ sb S := by
  have := h.2.2.2.2.2.2.2.2.2.2.2.1
  omega
theorem Mk.O_ (h : Mk z K N n l T S F I) (hq : sK S q = 99) (hk : K n = c) (hc : c < 20) (hcl : clN c ≤ 4000) (hn : n < 900) : Mk z K N (n + 1) (lup l n q) (y_O n T) (newO S q c) (zF F q) I := by
  have ne : ∀ i, i < n → l i ≠ q := fun i hi => h.ne_ hq hi
  have hj := h.inj_ hq
  obtain ⟨h1, h2, h3, h4, h5, h6, h7, h8, h9, h10, h11, h12, h13⟩ := h
  have e1 : ∀ i, i < n → lup l n q i = l i := fun i hi => lup_n (by omega)
  have w : ∀ i, i < n + 1 → i < n ∨ i = n := fun i hi => by omega
  refine ⟨(lup_n (by omega)).trans h1, hj, fun i hi => ?_, fun i hi h20 => ?_, fun i f hi hK => ?_, fun i f r hi hK hr => ?_, fun i j hi h20 => ?_, fun i j r hi h20 hr => ?_, fun i k hi hK => ?_, fun i j hi h20 j0 j1 => ?_, ?_, ?_, by omega⟩
  · rcases w i hi with hi | e
    · rw [e1 i hi]
      exact ⟨(va_up_ne _ _ (ne i hi)).trans (h3 i hi).1, (h3 i hi).2⟩
    · rw [e, lup_s, hk]
      exact ⟨va_up_self _ _ _, by omega⟩
  · rcases w i hi with hi | e
    · rw [e1 i hi]
      exact h4 i hi h20
    · rw [e, hk] at h20
      omega
  · rcases w i hi with hi | e
    · rw [e1 i hi]
      show (if l i = q then none else sR S f (l i)) = (if i = n then none else T.1 f i).map (lup l n q)
      rw [if_neg (ne i hi), if_neg (by omega), h5 i f hi hK]
      exact (lup_map fun r hr => by have := h6 i f r hi hK hr; omega).symm
    · rw [e, lup_s]
      show (if q = q then none else sR S f q) = (if n = n then none else T.1 f n).map (lup l n q)
      rw [if_pos rfl, if_pos rfl]
      rfl
  · have hr : (if i = n then none else T.1 f i) = some r := hr
    rcases w i hi with hi | e
    · rw [if_neg (by omega)] at hr
      have := h6 i f r hi hK hr
      omega
    · rw [if_pos e] at hr
      cases hr
  · rcases w i hi with hi | e
    · rw [e1 i hi]
      exact (h7 i j hi h20).trans (lup_map fun r hr => by have := h8 i j r hi h20 hr; omega).symm
    · rw [e, hk] at h20
      omega
  · rcases w i hi with hi | e
    · have := h8 i j r hi h20 hr
      omega
    · rw [e, hk] at h20
      omega
  · rcases w i hi with hi | e
    · rw [e1 i hi]
      show (if l i = q then 0 else F k (l i)) = if i = n then 0 else T.2.2.1 k i
      rw [if_neg (ne i hi), if_neg (by omega)]
      exact h9 i k hi hK
    · rw [e, lup_s]
      show (if q = q then 0 else F k q) = if n = n then 0 else T.2.2.1 k n
      rw [if_pos rfl, if_pos rfl]
  · rcases w i hi with hi | e
    · rw [e1 i hi]
      exact h10 i j hi h20 j0 j1
    · rw [e, hk] at h20
      omega
  · show 747000 ≤ sa S - 1 + (n + 1)
    omega
  · show 6850000 ≤ sb S - clN c + 4000 * (n + 1)
    omega
theorem Mk.A_ (h : Mk z K N n l T S F I) (hq : sK S q = 99) (hk : K n = c) (hc : 20 ≤ c ∧ c ≠ 99) (hN : N n = m) (hm : m ≤ 4000) (hn : n < 900) : Mk z K N (n + 1) (lup l n q) (y_A n T) (newA S q c m) F (zI I q) := by
  have ne : ∀ i, i < n → l i ≠ q := fun i hi => h.ne_ hq hi
  have hj := h.inj_ hq
  obtain ⟨h1, h2, h3, h4, h5, h6, h7, h8, h9, h10, h11, h12, h13⟩ := h
  have e1 : ∀ i, i < n → lup l n q i = l i := fun i hi => lup_n (by omega)
  have w : ∀ i, i < n + 1 → i < n ∨ i = n := fun i hi => by omega
  refine ⟨(lup_n (by omega)).trans h1, hj, fun i hi => ?_, fun i hi h20 => ?_, fun i f hi hK => ?_, fun i f r hi hK hr => ?_, fun i j hi h20 => ?_, fun i j r hi h20 hr => ?_, fun i k hi hK => ?_, fun i j hi h20 j0 j1 => ?_, ?_, ?_, by omega⟩
  · rcases w i hi with hi | e
    · rw [e1 i hi]
      exact ⟨(va_up_ne _ _ (ne i hi)).trans (h3 i hi).1, (h3 i hi).2⟩
    · rw [e, lup_s, hk]
      exact ⟨va_up_self _ _ _, hc.2⟩
  · rcases w i hi with hi | e
    · rw [e1 i hi]
      exact (va_up_ne _ _ (ne i hi)).trans (h4 i hi h20)
    · rw [e, lup_s, hN]
      exact va_up_self _ _ _
  · rcases w i hi with hi | e
    · rw [e1 i hi]
      exact (h5 i f hi hK).trans (lup_map fun r hr => by have := h6 i f r hi hK hr; omega).symm
    · rw [e, hk] at hK
      omega
  · rcases w i hi with hi | e
    · have := h6 i f r hi hK hr
      omega
    · rw [e, hk] at hK
      omega
  · rcases w i hi with hi | e
    · rw [e1 i hi]
      show (if l i = q then none else sG S (l i) j) = (if i = n then none else T.2.1 i j).map (lup l n q)
      rw [if_neg (ne i hi), if_neg (by omega), h7 i j hi h20]
      exact (lup_map fun r hr => by have := h8 i j r hi h20 hr; omega).symm
    · rw [e, lup_s]
      show (if q = q then none else sG S q j) = (if n = n then none else T.2.1 n j).map (lup l n q)
      rw [if_pos rfl, if_pos rfl]
      rfl
  · have hr : (if i = n then none else T.2.1 i j) = some r := hr
    rcases w i hi with hi | e
    · rw [if_neg (by omega)] at hr
      have := h8 i j r hi h20 hr
      omega
    · rw [if_pos e] at hr
      cases hr
  · rcases w i hi with hi | e
    · rw [e1 i hi]
      exact h9 i k hi hK
    · rw [e, hk] at hK
      omega
  · rcases w i hi with hi | e
    · rw [e1 i hi]
      show (if l i = q then 0 else I (l i) j) = va_up T.2.2.2 n 0 i
      rw [if_neg (ne i hi), va_up_ne _ _ (by omega)]
      exact h10 i j hi h20 j0 j1
    · rw [e, lup_s]
      show (if q = q then 0 else I q j) = va_up T.2.2.2 n 0 n
      rw [if_pos rfl, va_up_self]
  · show 747000 ≤ sa S - 1 + (n + 1)
    omega
  · show 6850000 ≤ sb S - m + 4000 * (n + 1)
    omega
theorem Mk.R_ (h : Mk z K N n l T S F I) (hi : i < n) (hr : r < n ∨ r = 999) (hx : l i = x) (hy : l r = y) : Mk z K N n l (y_r f i r T) (setR S f x (some y)) F I := by
  obtain ⟨h1, h2, h3, h4, h5, h6, h7, h8, h9, h10, h11, h12, h13⟩ := h
  refine ⟨h1, h2, h3, h4, fun i' f' hi' hK' => ?_, fun i' f' r' hi' hK' hr' => ?_, h7, h8, h9, h10, h11, h12, h13⟩
  · show (if f' = f ∧ l i' = x then some y else sR S f' (l i')) = (if f' = f ∧ i' = i then some r else T.1 f' i').map l
    by_cases e : f' = f ∧ i' = i
    · rw [if_pos e, if_pos ⟨e.1, by rw [e.2]; exact hx⟩]
      exact congrArg some hy.symm
    · rw [if_neg e, if_neg (fun w => e ⟨w.1, h2 i' i hi' hi (w.2.trans hx.symm)⟩)]
      exact h5 i' f' hi' hK'
  · have hr' : (if f' = f ∧ i' = i then some r else T.1 f' i') = some r' := hr'
    by_cases e : f' = f ∧ i' = i
    · rw [if_pos e] at hr'
      cases hr'
      exact hr
    · rw [if_neg e] at hr'
      exact h6 i' f' r' hi' hK' hr'
theorem Mk.G_ (h : Mk z K N n l T S F I) (hi : i < n) (hr : r < n) (hx : l i = x) (hy : l r = y) : Mk z K N n l (y_g i v r T) (setG S x v (some y)) F I := by
  obtain ⟨h1, h2, h3, h4, h5, h6, h7, h8, h9, h10, h11, h12, h13⟩ := h
  refine ⟨h1, h2, h3, h4, h5, h6, fun i' j' hi' hK' => ?_, fun i' j' r' hi' hK' hr' => ?_, h9, h10, h11, h12, h13⟩
  · show (if l i' = x ∧ j' = v then some y else sG S (l i') j') = (if i' = i ∧ j' = v then some r else T.2.1 i' j').map l
    by_cases e : i' = i ∧ j' = v
    · rw [if_pos e, if_pos ⟨by rw [e.1]; exact hx, e.2⟩]
      exact congrArg some hy.symm
    · rw [if_neg e, if_neg (fun w => e ⟨h2 i' i hi' hi (w.1.trans hx.symm), w.2⟩)]
      exact h7 i' j' hi' hK'
  · have hr' : (if i' = i ∧ j' = v then some r else T.2.1 i' j') = some r' := hr'
    by_cases e : i' = i ∧ j' = v
    · rw [if_pos e] at hr'
      cases hr'
      exact hr
    · rw [if_neg e] at hr'
      exact h8 i' j' r' hi' hK' hr'
theorem Mk.f_ (h : Mk z K N n l T S F I) (hi : i < n) (hx : l i = x) : Mk z K N n l (y_f k i v T) S (u2 F k x v) I := by
  obtain ⟨h1, h2, h3, h4, h5, h6, h7, h8, h9, h10, h11, h12, h13⟩ := h
  refine ⟨h1, h2, h3, h4, h5, h6, h7, h8, fun i' k' hi' hK' => ?_, h10, h11, h12, h13⟩
  show (if k' = k ∧ l i' = x then v else F k' (l i')) = (if k' = k ∧ i' = i then v else T.2.2.1 k' i')
  by_cases e : k' = k ∧ i' = i
  · rw [if_pos e, if_pos ⟨e.1, by rw [e.2]; exact hx⟩]
  · rw [if_neg e, if_neg (fun w => e ⟨w.1, h2 i' i hi' hi (w.2.trans hx.symm)⟩)]
    exact h9 i' k' hi' hK'
theorem Mk.j_ {I' : Il} (h : Mk z K N n l T S F I) (hi : i < n) (h1' : ∀ b j, b ≠ l i → I' b j = I b j) (h2' : ∀ j : Int, 0 ≤ j → j < (N i : Int) → I' (l i) j = v) : Mk z K N n l (y_j i v T) S F I' := by
  obtain ⟨h1, h2, h3, h4, h5, h6, h7, h8, h9, h10, h11, h12, h13⟩ := h
  refine ⟨h1, h2, h3, h4, h5, h6, h7, h8, h9, fun i' j hi' hK' j0 j1 => ?_, h11, h12, h13⟩
  show I' (l i') j = va_up T.2.2.2 i v i'
  by_cases e : i' = i
  · rw [e] at j1 ⊢
    rw [va_up_self]
    exact h2' j j0 j1
  · rw [va_up_ne _ _ e]
    exact (h1' _ _ (fun w => e (h2 i' i hi' hi w))).trans (h10 i' j hi' hK' j0 j1)
/-- what is read back -/
theorem Mk.r_ (h : Mk z K N n l T S F I) (hi : i < n) (hK : K i < 20) (hr : T.1 f i = some r) : sR S f (l i) = some (l r) := by
  rw [h.2.2.2.2.1 i f hi hK, hr]
  rfl
theorem Mk.g_ {j : Int} (h : Mk z K N n l T S F I) (hi : i < n) (hK : 20 ≤ K i) (hr : T.2.1 i j = some r) : sG S (l i) j = some (l r) := by
  rw [h.2.2.2.2.2.2.1 i j hi hK, hr]
  rfl
theorem Mk.n_ (h : Mk z K N n l T S F I) (hi : i < n) (hK : 20 ≤ K i) : sN S (l i) = N i := h.2.2.2.1 i hi hK
end Made
/-- the first b addresses stay -/
def Ag (b : Nat) (g l : Nat → Nat) : Prop := ∀ i, i < b → l i = g i
section Wlk
variable {z n c m q f i r k b x y : Nat} {v : Int} {g l l' K N : Nat → Nat} {T : Sy} {S : Shp} {F : Fl} {I : Il} {Nx : Shp → Fl → Il → Prop}
theorem Ag.tr (h1 : Ag b g l) (h2 : Ag n l l') (hb : b ≤ n) : Ag b g l' := fun i hi => (h2 i (by omega)).trans (h1 i hi)
theorem Ag.up (hg : Ag b g l) (hb : b ≤ n) : Ag b g (lup l n q) := fun i hi => (lup_n (by omega)).trans (hg i hi)
theorem w_fld (h : Mk z K N n l T S F I) (hg : Ag b g l) (hi : i < b) (hb : b ≤ n) (hx : g i = x) (hK : K i = c) (hQ : ∀ l S F I, Mk z K N n l (y_f k i v T) S F I → Ag b g l → Nx S F I) : sK S x = c ∧ Nx S (u2 F k x v) I := by
  have e := (hg i hi).trans hx
  exact ⟨by rw [← e]; exact (h.k_ (by omega)).trans hK, hQ l _ _ _ (h.f_ (by omega) e) hg⟩
theorem w_arr (h : Mk z K N n l T S F I) (hg : Ag b g l) (hi : i < b) (hb : b ≤ n) (hx : g i = x) (hK : K i = k) (hk : K n = c) (hN : N n = m) (hc : 20 ≤ c ∧ c ≠ 99) (hm : m ≤ 4000) (hn : n < 900) (hQ : ∀ l S F I, Mk z K N (n + 1) l (y_r f i n (y_A n T)) S F I → Ag b g l → Nx S F I) : 1 ≤ sa S ∧ m ≤ sb S ∧ ∀ q1 : Nat, sK S q1 = 99 → sK (newA S q1 c m) x = k ∧ Nx (setR (newA S q1 c m) f x (some q1)) F (zI I q1) := by
  refine ⟨h.a_ hn, h.b_ hn hm, fun q hq => ?_⟩
  have hA := h.A_ hq hk hc hN hm hn
  have hg2 : Ag b g (lup l n q) := hg.up hb
  have e := (hg2 i hi).trans hx
  exact ⟨by rw [← e]; exact (hA.k_ (by omega)).trans hK, hQ _ _ _ _ (hA.R_ (by omega) (Or.inl (by omega)) e lup_s) hg2⟩
theorem mk_row {Q : Shp → Fl → Il → Prop} (h : Mk z K N n l T S F I) (hi : i < n) (hx : l i = q) (hK : K i = 6) (hk : K n = 20) (hN : N n = m) (hm : 1 ≤ m ∧ m ≤ 4000) (hv : v = (m : Int)) (hn : n < 900) (hQ : ∀ l' S F I, Mk z K N (n + 1) l' (y_f 601 i 0 (y_r 600 i n (y_A n T))) S F I → Ag n l l' → Q S F I) : V_X5_init q v S F I Q := by
  subst hx
  refine ⟨(h.k_ hi).trans hK, fun c => absurd c (by omega), fun _ => ⟨m, hv, by omega, h.a_ hn, h.b_ hn hm.2, fun q7 hq => ?_⟩⟩
  have hA := h.A_ hq hk (by decide) hN hm.2 hn
  have e : lup l n q7 i = l i := lup_n (by omega)
  exact ⟨by rw [← e]; exact (hA.k_ (by omega)).trans hK, hQ _ _ _ _ ((hA.R_ (by omega) (Or.inl (by omega)) e lup_s).f_ (by omega) e) (fun j hj => lup_n (by omega))⟩
theorem w_row (h : Mk z K N n l T S F I) (hg : Ag b g l) (hi : i < b) (hb : b ≤ n) (hx : g i = x) (hK : K i = k) (hk1 : K n = 6) (hk2 : K (n + 1) = 20) (hN : N (n + 1) = m) (hm : 1 ≤ m ∧ m ≤ 4000) (hv : v = (m : Int)) (hn : n + 1 < 900) (hQ : ∀ l S F I, Mk z K N (n + 2) l (y_r f i n (y_f 601 n 0 (y_r 600 n (n + 1) (y_A (n + 1) (y_O n T))))) S F I → Ag b g l → Nx S F I) : 1 ≤ sa S ∧ 2 ≤ sb S ∧ ∀ q1 : Nat, sK S q1 = 99 → V_X5_init q1 v (newO S q1 6) (zF F q1) I (fun (S5 : Shp) (F6 : Fl) (I7 : Il) => sK S5 x = k ∧ Nx (setR S5 f x (some q1)) F6 I7) := by
  refine ⟨h.a_ (by omega), h.b_ (by omega) (by omega), fun q hq => ?_⟩
  have hO := h.O_ hq hk1 (by decide) (by decide) (by omega)
  refine mk_row hO (Nat.lt_succ_self n) lup_s hk1 hk2 hN hm hv hn (fun l' S F I h' hg' => ?_)
  have a1 : Ag b g l' := (hg.up hb).tr hg' (by omega)
  have a2 : l' n = q := (hg' n (by omega)).trans lup_s
  have e := (a1 i hi).trans hx
  exact ⟨by rw [← e]; exact (h'.k_ (by omega)).trans hK, hQ _ _ _ _ (h'.R_ (by omega) (Or.inl (by omega)) e a2) a1⟩
theorem w_lst {G : Gp} (hz : z = gZ G) (h : Mk z K N n l T S F I) (hg : Ag b g l) (hi : i < b) (hb : b ≤ n) (hx : g i = x) (hK : K i = k) (hk : K n = 0) (hn : n < 900) (hQ : ∀ l S F I, Mk z K N (n + 1) l (y_r f i n (y_r 1 n 999 (y_f 0 n 0 (y_O n T)))) S F I → Ag b g l → Nx S F I) : 1 ≤ sa S ∧ 3 ≤ sb S ∧ ∀ q1 : Nat, sK S q1 = 99 → V_Jx4a65c_init_da8c8 G q1 (newO S q1 0) (zF F q1) I (fun (S5 : Shp) (F6 : Fl) => sK S5 x = k ∧ Nx (setR S5 f x (some q1)) F6 I) := by
  subst hz
  refine ⟨h.a_ hn, h.b_ hn (by omega), fun q hq => ?_⟩
  have hO := h.O_ hq hk (by decide) (by decide) hn
  have k0 : sK (newO S q 0) q = 0 := va_up_self _ _ _
  have hg2 : Ag b g (lup l n q) := hg.up hb
  have e := (hg2 i hi).trans hx
  have h1 := (hO.f_ (k := 0) (v := 0) (Nat.lt_succ_self n) lup_s).R_ (f := 1) (Nat.lt_succ_self n) (Or.inr rfl) lup_s hO.1
  exact ⟨k0, k0, by rw [← e]; exact (h1.k_ (by omega)).trans hK, hQ _ _ _ _ (h1.R_ (by omega) (Or.inl (by omega)) e lup_s) hg2⟩
end Wlk
/-! rows filled -/
theorem fill_5 {r : Nat} {z m : Int} {S : Shp} {F : Fl} {Q : Il → Prop} (hK : sK S r = 20) (hm : m = (sN S r : Int)) (hm2 : m ≤ 65536) : ∀ (d : Nat) (x : Int) (I : Il), 0 ≤ x → x + (d : Int) = m → (∀ I' : Il, (∀ b j, b ≠ r → I' b j = I b j) → (∀ j, x ≤ j → j < m → I' r j = z) → (∀ j, j < x → I' r j = I r j) → Q I') → V_J7_fill_53178_5 (d + 1) r z x m S F I Q
  | 0, x, I, h0, h1, hQ => by
    unfold V_J7_fill_53178_5
    exact ⟨fun _ => hQ I (fun _ _ _ => rfl) (fun j j0 j1 => by omega) (fun _ _ => rfl), fun c => absurd (by omega) c⟩
  | d + 1, x, I, h0, h1, hQ => by
    unfold V_J7_fill_53178_5
    refine ⟨fun c => absurd c (by omega), fun c => ⟨hK, h0, by omega, ?_⟩⟩
    have e : w32 (x + 1) = x + 1 := w32_id (by unfold rg; omega)
    rw [e]
    refine fill_5 hK hm hm2 d (x + 1) _ (by omega) (by omega) (fun I' i1 i2 i3 => hQ I' (fun b j h => (i1 b j h).trans (if_neg (fun w => h w.1))) (fun j j0 j1 => ?_) (fun j j0 => (i3 j (by omega)).trans (if_neg (fun w => by have := w.2; omega))))
    by_cases ej : j = x
    · rw [ej, i3 x (by omega)]
      exact if_pos ⟨rfl, rfl⟩
    · exact i2 j (by omega) j1
theorem fill_T {r m : Nat} {z : Int} {S : Shp} {F : Fl} {I : Il} {Q : Il → Prop} (hK : sK S r = 20) (hm : sN S r = m) (hm2 : m ≤ 65536) (hQ : ∀ I' : Il, (∀ b j, b ≠ r → I' b j = I b j) → (∀ j : Int, 0 ≤ j → j < (m : Int) → I' r j = z) → Q I') : V_J7_fill_53178 r z S F I Q :=
  ⟨hK, by omega, m + 1, fill_5 hK rfl (by omega) m 0 I (Int.le_refl _) (by omega) (fun I' i1 i2 _ => hQ I' i1 (fun j j0 j1 => i2 j j0 (by omega)))⟩
