/-! the start: kinds and lengths of all that is made; the walk through the constructor -/
def kk0 (i : Nat) : Nat := ([9, 23, 0, 0, 0, 0, 0, 24, 20, 20, 6, 20, 6, 20, 20, 7, 6, 20, 7, 6, 20, 7, 6, 20, 7, 6, 20, 7, 6, 20, 7, 6, 20, 7, 6, 20, 7, 6, 20, 8, 6, 20, 6, 20, 20, 8, 6, 20, 6, 20, 20, 8, 6, 20, 6, 20, 20, 8, 6, 20, 6, 20, 20, 8, 6, 20, 6, 20, 20, 8, 6, 20, 6, 20, 20, 20, 20, 20, 20] : List Nat).getD i 99
def nn0 (i : Nat) : Nat := ([0, 8, 0, 0, 0, 0, 0, 6, 64, 64, 0, 8, 0, 20, 8, 0, 0, 4, 0, 0, 4, 0, 0, 4, 0, 0, 4, 0, 0, 4, 0, 0, 4, 0, 0, 4, 0, 0, 4, 0, 0, 10, 0, 8, 16, 0, 0, 10, 0, 8, 16, 0, 0, 10, 0, 8, 16, 0, 0, 10, 0, 8, 16, 0, 0, 10, 0, 8, 16, 0, 0, 10, 0, 8, 16, 40, 48, 24, 8] : List Nat).getD i 0
abbrev Mq (G : Gp) (n : Nat) (l : Nat → Nat) (T : Sy) (S : Shp) (F : Fl) (I : Il) : Prop := Mk (gZ G) kk0 nn0 n l T S F I
def t00 : Sy := (fun _ _ => none, fun _ _ => none, fun _ _ => 0, fun _ => 0)
def y_st (n : Nat) (T : Sy) : Sy := y_r 701 n (n + 1) (y_f 601 (n + 1) 0 (y_r 600 (n + 1) (n + 2) (y_A (n + 2) (y_O (n + 1) (y_f 700 n 2 (y_O n T))))))
def y_tr (n : Nat) (x : Int) (T : Sy) : Sy := y_f 800 n x (y_r 816 n (n + 5) (y_A (n + 5) (y_f 815 n (-1) (y_f 814 n (-1) (y_f 813 n 0 (y_f 812 n 0 (y_f 811 n 0 (y_r 810 n (n + 3) (y_f 601 (n + 3) 0 (y_r 600 (n + 3) (n + 4) (y_A (n + 4) (y_O (n + 3) (y_r 809 n (n + 1) (y_f 601 (n + 1) 0 (y_r 600 (n + 1) (n + 2) (y_A (n + 2) (y_O (n + 1) (y_f 808 n 0 (y_f 807 n 0 (y_f 806 n (-1) (y_f 805 n (-1) (y_f 804 n 1 (y_f 803 n (-1) (y_f 802 n (-1) (y_f 801 n (-1) (y_O n T))))))))))))))))))))))))))
section Pieces
variable {z n q : Nat} {x : Int} {l K N : Nat → Nat} {T : Sy} {S : Shp} {F : Fl} {I : Il} {Q : Shp → Fl → Il → Prop}
theorem st_T (h : Mk z K N n l T S F I) (hq : sK S q = 99) (k1 : K n = 7) (k2 : K (n + 1) = 6) (k3 : K (n + 2) = 20) (k4 : N (n + 2) = 4) (hn : n + 2 < 900) (hQ : ∀ l' S F I, Mk z K N (n + 3) l' (y_st n T) S F I → Ag (n + 1) (lup l n q) l' → Q S F I) : V_X6_init q (newO S q 7) (zF F q) I Q :=
  have hO := h.O_ hq k1 (by decide) (by decide) (by omega)
  ⟨va_up_self _ _ _, w_row (Nx := Q) (g := lup l n q) (hO.f_ (Nat.lt_succ_self n) lup_s) (fun _ _ => rfl) (Nat.lt_succ_self n) (Nat.le_refl _) lup_s k1 k2 k3 k4 (by decide) (by decide) (by omega) hQ⟩
set_option maxHeartbeats 2000000 in
theorem tr_T (h : Mk z K N n l T S F I) (hq : sK S q = 99) (k1 : K n = 8) (k2 : K (n + 1) = 6) (k3 : K (n + 2) = 20) (k4 : N (n + 2) = 10) (k5 : K (n + 3) = 6) (k6 : K (n + 4) = 20) (k7 : N (n + 4) = 8) (k8 : K (n + 5) = 20) (k9 : N (n + 5) = 16) (hn : n + 5 < 900) (hQ : ∀ l' S F I, Mk z K N (n + 6) l' (y_tr n x T) S F I → Ag (n + 1) (lup l n q) l' → Q S F I) : V_X7_init q x (newO S q 8) (zF F q) I Q := by
  have hO := h.O_ hq k1 (by decide) (by decide) (by omega)
  have hx : lup l n q n = q := lup_s
  have hg : Ag (n + 1) (lup l n q) (lup l n q) := fun _ _ => rfl
  have hi : n < n + 1 := Nat.lt_succ_self n
  exact w_fld (Nx := fun S F I => V_X7_init_9 q x S F I Q) hO hg hi (by omega) hx k1 fun l S F I h hg => 
    w_fld (Nx := fun S F I => V_X7_init_14 q x S F I Q) h hg hi (by omega) hx k1 fun l S F I h hg => 
    w_fld (Nx := fun S F I => V_X7_init_19 q x S F I Q) h hg hi (by omega) hx k1 fun l S F I h hg => 
    w_fld (Nx := fun S F I => V_X7_init_24 q x S F I Q) h hg hi (by omega) hx k1 fun l S F I h hg => 
    w_fld (Nx := fun S F I => V_X7_init_29 q x S F I Q) h hg hi (by omega) hx k1 fun l S F I h hg => 
    w_fld (Nx := fun S F I => V_X7_init_34 q x S F I Q) h hg hi (by omega) hx k1 fun l S F I h hg => 
    w_fld (Nx := fun S F I => V_X7_init_39 q x S F I Q) h hg hi (by omega) hx k1 fun l S F I h hg => 
    w_fld (Nx := fun S F I => V_X7_init_44 q x S F I Q) h hg hi (by omega) hx k1 fun l S F I h hg => 
    w_row (Nx := fun S F I => V_X7_init_57 q x S F I Q) h hg hi (by omega) hx k1 k2 k3 k4 (by decide) (by decide) (by omega) fun l S F I h hg => 
    w_row (Nx := fun S F I => V_X7_init_70 q x S F I Q) h hg hi (by omega) hx k1 k5 k6 k7 (by decide) (by decide) (by omega) fun l S F I h hg => 
    w_fld (Nx := fun S F I => V_X7_init_75 q x S F I Q) h hg hi (by omega) hx k1 fun l S F I h hg => 
    w_fld (Nx := fun S F I => V_X7_init_80 q x S F I Q) h hg hi (by omega) hx k1 fun l S F I h hg => 
    w_fld (Nx := fun S F I => V_X7_init_85 q x S F I Q) h hg hi (by omega) hx k1 fun l S F I h hg => 
    w_fld (Nx := fun S F I => V_X7_init_90 q x S F I Q) h hg hi (by omega) hx k1 fun l S F I h hg => 
    w_fld (Nx := fun S F I => V_X7_init_95 q x S F I Q) h hg hi (by omega) hx k1 fun l S F I h hg => 
    w_arr (Nx := fun S F I => V_X7_init_103 q x S F I Q) h hg hi (by omega) hx k1 k8 k9 (by decide) (by decide) (by omega) fun l S F I h hg => 
    w_fld (Nx := fun S F I => V_X7_init_108 S F I Q) h hg hi (by omega) hx k1 fun l S F I h hg => hQ l S F I h hg
end Pieces
def t_X8 : Sy := y_O 0 t00
def t_13 : Sy := y_r 900 0 1 (y_A 1 t_X8)
def t_24 : Sy := y_r 901 0 2 (y_r 1 2 999 (y_f 0 2 0 (y_O 2 t_13)))
def t_35 : Sy := y_r 902 0 3 (y_r 1 3 999 (y_f 0 3 0 (y_O 3 t_24)))
def t_46 : Sy := y_r 903 0 4 (y_r 1 4 999 (y_f 0 4 0 (y_O 4 t_35)))
def t_57 : Sy := y_r 904 0 5 (y_r 1 5 999 (y_f 0 5 0 (y_O 5 t_46)))
def t_68 : Sy := y_r 905 0 6 (y_r 1 6 999 (y_f 0 6 0 (y_O 6 t_57)))
def t_77 : Sy := y_r 906 0 7 (y_A 7 t_68)
def t_85 : Sy := y_r 907 0 8 (y_A 8 t_77)
def t_93 : Sy := y_r 908 0 9 (y_A 9 t_85)
def t_106 : Sy := y_r 909 0 10 (y_f 601 10 0 (y_r 600 10 11 (y_A 11 (y_O 10 t_93))))
def t_119 : Sy := y_r 910 0 12 (y_f 601 12 0 (y_r 600 12 13 (y_A 13 (y_O 12 t_106))))
def t_127 : Sy := y_r 911 0 14 (y_A 14 t_119)
def t_132 : Sy := y_f 912 0 0 t_127
def t_139 : Sy := y_f 913 0 5000 t_132
def t_144 : Sy := y_f 914 0 0 t_139
def t_149 : Sy := y_f 915 0 0 t_144
def tSt : Nat → Sy
  | 0 => t_149
  | x + 1 => y_g 1 (x : Int) (15 + 3 * x) (y_st (15 + 3 * x) (tSt x))
def tTr : Nat → Sy
  | 0 => tSt 8
  | x + 1 => y_g 7 (x : Int) (39 + 6 * x) (y_tr (39 + 6 * x) (x : Int) (tTr x))
def t75 : Sy := y_j 9 20 (y_j 8 20 (tTr 6))
theorem tSt_f : ∀ x, x < 9 → (tSt x).1 900 0 = some 1 := by decide +kernel
theorem kSt_f : ∀ x, x < 8 → kk0 (15 + 3 * x) = 7 ∧ kk0 (15 + 3 * x + 1) = 6 ∧ kk0 (15 + 3 * x + 2) = 20 ∧ nn0 (15 + 3 * x + 2) = 4 := by decide +kernel
theorem tTr_f : ∀ x, x < 7 → (tTr x).1 906 0 = some 7 ∧ (tTr x).1 907 0 = some 8 ∧ (tTr x).1 908 0 = some 9 := by decide +kernel
theorem kTr_f : ∀ x, x < 6 → kk0 (39 + 6 * x) = 8 ∧ kk0 (39 + 6 * x + 1) = 6 ∧ kk0 (39 + 6 * x + 2) = 20 ∧ nn0 (39 + 6 * x + 2) = 10 ∧ kk0 (39 + 6 * x + 3) = 6 ∧ kk0 (39 + 6 * x + 4) = 20 ∧ nn0 (39 + 6 * x + 4) = 8 ∧ kk0 (39 + 6 * x + 5) = 20 ∧ nn0 (39 + 6 * x + 5) = 16 := by decide +kernel
section Walk
variable {G : Gp} {g : Nat → Nat} {Q : Shp → Fl → Il → Prop}
theorem lp_tr (hQ : ∀ l S F I, Mq G 75 l t75 S F I → Ag 1 g l → Q S F I) : ∀ (d x : Nat) (l : Nat → Nat) (S : Shp) (F : Fl) (I : Il), x + d = 6 → Mq G (39 + 6 * x) l (tTr x) S F I → Ag 1 g l → V_X8_init_181 G (d + 1) (g 0) (x : Int) S F I Q
  | 0, x, l, S, F, I, hx, h, hg => by
    have e6 : x = 6 := by omega
    subst e6
    have e0 : l 0 = g 0 := hg 0 (by decide)
    have n7 : sN S (l 7) = 6 := (h.n_ (by decide) (by decide)).trans (by decide)
    obtain ⟨r1, r2, r3⟩ := tTr_f 6 (by decide)
    unfold V_X8_init_181
    refine ⟨by rw [← e0]; exact (h.k_ (by decide)).trans (by decide), l 7, by rw [← e0]; exact h.r_ (by decide) (by decide) r1, (h.k_ (by decide)).trans (by decide), by rw [n7]; decide, fun _ => ⟨l 8, by rw [← e0]; exact h.r_ (by decide) (by decide) r2, ?_⟩, fun c => absurd (by rw [n7]; decide) c⟩
    refine fill_T (m := 64) ((h.k_ (by decide)).trans (by decide)) ((h.n_ (by decide) (by decide)).trans (by decide)) (by decide) (fun I' i1 i2 => ⟨l 9, by rw [← e0]; exact h.r_ (by decide) (by decide) r3, ?_⟩)
    refine fill_T (m := 64) ((h.k_ (by decide)).trans (by decide)) ((h.n_ (by decide) (by decide)).trans (by decide)) (by decide) (fun I'' j1 j2 => ?_)
    exact hQ l S F I'' ((h.j_ (i := 8) (by decide) i1 i2).j_ (i := 9) (by decide) j1 j2) hg
  | d + 1, x, l, S, F, I, hx, h, hg => by
    have hx6 : x < 6 := by omega
    obtain ⟨k1, k2, k3, k4, k5, k6, k7, k8, k9⟩ := kTr_f x hx6
    have e0 : l 0 = g 0 := hg 0 (by decide)
    have n7 : sN S (l 7) = 6 := (h.n_ (by omega) (by decide)).trans (by decide)
    unfold V_X8_init_181
    refine ⟨by rw [← e0]; exact (h.k_ (by omega)).trans (by decide), l 7, by rw [← e0]; exact h.r_ (by omega) (by decide) (tTr_f x (by omega)).1, (h.k_ (by omega)).trans (by decide), by rw [n7]; decide, fun c => absurd c (by rw [n7]; omega), fun _ => ⟨h.a_ (by omega), h.b_ (by omega) (by decide), fun q hq => ?_⟩⟩
    refine tr_T h hq k1 k2 k3 k4 k5 k6 k7 k8 k9 (by omega) (fun l' S' F' I' h' hg' => ?_)
    have a0 : l' 0 = g 0 := (hg' 0 (by omega)).trans ((lup_n (by omega)).trans e0)
    have a1 : l' 7 = l 7 := (hg' 7 (by omega)).trans (lup_n (by omega))
    have an : l' (39 + 6 * x) = q := (hg' _ (by omega)).trans lup_s
    have n7' : sN S' (l 7) = 6 := by
      rw [← a1]
      exact (h'.n_ (by omega) (by decide)).trans (by decide)
    refine ⟨by rw [← a1]; exact (h'.k_ (by omega)).trans (by decide), by rw [← an]; exact (h'.k_ (by omega)).trans k1, by omega, by rw [n7']; omega, ?_⟩
    rw [show w32 ((x : Int) + 1) = ((x + 1 : Nat) : Int) from (w32_id (by unfold rg; omega)).trans (by omega)]
    refine lp_tr hQ d (x + 1) l' _ _ _ (by omega) ?_ (fun i hi => by
      have : i = 0 := by omega
      rw [this]
      exact a0)
    rw [show 39 + 6 * (x + 1) = 39 + 6 * x + 6 by omega]
    exact h'.G_ (i := 7) (by omega) (by omega) a1 an
theorem lp_st (hQ : ∀ l S F I, Mq G 39 l (tSt 8) S F I → Ag 1 g l → ∃ n9, V_X8_init_181 G n9 (g 0) 0 S F I Q) : ∀ (d x : Nat) (l : Nat → Nat) (S : Shp) (F : Fl) (I : Il), x + d = 8 → Mq G (15 + 3 * x) l (tSt x) S F I → Ag 1 g l → V_X8_init_151 G (d + 1) (g 0) (x : Int) S F I Q
  | 0, x, l, S, F, I, hx, h, hg => by
    have e8 : x = 8 := by omega
    subst e8
    have e0 : l 0 = g 0 := hg 0 (by decide)
    have n1 : sN S (l 1) = 8 := (h.n_ (by decide) (by decide)).trans (by decide)
    unfold V_X8_init_151
    exact ⟨by rw [← e0]; exact (h.k_ (by decide)).trans (by decide), l 1, by rw [← e0]; exact h.r_ (by decide) (by decide) (tSt_f 8 (by decide)), (h.k_ (by decide)).trans (by decide), by rw [n1]; decide, fun _ => hQ l S F I h hg, fun c => absurd (by rw [n1]; decide) c⟩
  | d + 1, x, l, S, F, I, hx, h, hg => by
    have hx8 : x < 8 := by omega
    obtain ⟨k1, k2, k3, k4⟩ := kSt_f x hx8
    have e0 : l 0 = g 0 := hg 0 (by decide)
    have n1 : sN S (l 1) = 8 := (h.n_ (by omega) (by decide)).trans (by decide)
    unfold V_X8_init_151
    refine ⟨by rw [← e0]; exact (h.k_ (by omega)).trans (by decide), l 1, by rw [← e0]; exact h.r_ (by omega) (by decide) (tSt_f x (by omega)), (h.k_ (by omega)).trans (by decide), by rw [n1]; decide, fun c => absurd c (by rw [n1]; omega), fun _ => ⟨h.a_ (by omega), h.b_ (by omega) (by decide), fun q hq => ?_⟩⟩
    refine st_T h hq k1 k2 k3 k4 (by omega) (fun l' S' F' I' h' hg' => ?_)
    have a0 : l' 0 = g 0 := (hg' 0 (by omega)).trans ((lup_n (by omega)).trans e0)
    have a1 : l' 1 = l 1 := (hg' 1 (by omega)).trans (lup_n (by omega))
    have an : l' (15 + 3 * x) = q := (hg' _ (by omega)).trans lup_s
    have n1' : sN S' (l 1) = 8 := by
      rw [← a1]
      exact (h'.n_ (by omega) (by decide)).trans (by decide)
    refine ⟨by rw [← a1]; exact (h'.k_ (by omega)).trans (by decide), by rw [← an]; exact (h'.k_ (by omega)).trans k1, by omega, by rw [n1']; omega, ?_⟩
    rw [show w32 ((x : Int) + 1) = ((x + 1 : Nat) : Int) from (w32_id (by unfold rg; omega)).trans (by omega)]
    refine lp_st hQ d (x + 1) l' _ _ _ (by omega) ?_ (fun i hi => by
      have : i = 0 := by omega
      rw [this]
      exact a0)
    rw [show 15 + 3 * (x + 1) = 15 + 3 * x + 3 by omega]
    exact h'.G_ (i := 1) (by omega) (by omega) a1 an
theorem w8_149 (hQ : ∀ l S F I, Mq G 75 l t75 S F I → Ag 1 g l → Q S F I) (l : Nat → Nat) (S : Shp) (F : Fl) (I : Il) (h : Mq G 15 l t_149 S F I) (hg : Ag 1 g l) : V_X8_init_149 G (g 0) S F I Q :=
  ⟨9, lp_st (fun l S F I h hg => ⟨7, lp_tr hQ 6 0 l S F I (by decide) h hg⟩) 8 0 l S F I (by decide) h hg⟩
theorem w8_144 (hQ : ∀ l S F I, Mq G 75 l t75 S F I → Ag 1 g l → Q S F I) (l : Nat → Nat) (S : Shp) (F : Fl) (I : Il) (h : Mq G 15 l t_144 S F I) (hg : Ag 1 g l) : V_X8_init_144 G (g 0) S F I Q :=
  w_fld (Nx := fun S F I => V_X8_init_149 G (g 0) S F I Q) h hg (by decide) (by decide) rfl (by decide) (w8_149 hQ)
theorem w8_139 (hQ : ∀ l S F I, Mq G 75 l t75 S F I → Ag 1 g l → Q S F I) (l : Nat → Nat) (S : Shp) (F : Fl) (I : Il) (h : Mq G 15 l t_139 S F I) (hg : Ag 1 g l) : V_X8_init_139 G (g 0) S F I Q :=
  w_fld (Nx := fun S F I => V_X8_init_144 G (g 0) S F I Q) h hg (by decide) (by decide) rfl (by decide) (w8_144 hQ)
theorem w8_132 (hQ : ∀ l S F I, Mq G 75 l t75 S F I → Ag 1 g l → Q S F I) (l : Nat → Nat) (S : Shp) (F : Fl) (I : Il) (h : Mq G 15 l t_132 S F I) (hg : Ag 1 g l) : V_X8_init_132 G (g 0) S F I Q :=
  w_fld (Nx := fun S F I => V_X8_init_139 G (g 0) S F I Q) h hg (by decide) (by decide) rfl (by decide) (w8_139 hQ)
theorem w8_127 (hQ : ∀ l S F I, Mq G 75 l t75 S F I → Ag 1 g l → Q S F I) (l : Nat → Nat) (S : Shp) (F : Fl) (I : Il) (h : Mq G 15 l t_127 S F I) (hg : Ag 1 g l) : V_X8_init_127 G (g 0) S F I Q :=
  w_fld (Nx := fun S F I => V_X8_init_132 G (g 0) S F I Q) h hg (by decide) (by decide) rfl (by decide) (w8_132 hQ)
theorem w8_119 (hQ : ∀ l S F I, Mq G 75 l t75 S F I → Ag 1 g l → Q S F I) (l : Nat → Nat) (S : Shp) (F : Fl) (I : Il) (h : Mq G 14 l t_119 S F I) (hg : Ag 1 g l) : V_X8_init_119 G (g 0) S F I Q :=
  w_arr (Nx := fun S F I => V_X8_init_127 G (g 0) S F I Q) h hg (by decide) (by decide) rfl (by decide) (by decide) (by decide) (by decide) (by decide) (by decide) (w8_127 hQ)
theorem w8_106 (hQ : ∀ l S F I, Mq G 75 l t75 S F I → Ag 1 g l → Q S F I) (l : Nat → Nat) (S : Shp) (F : Fl) (I : Il) (h : Mq G 12 l t_106 S F I) (hg : Ag 1 g l) : V_X8_init_106 G (g 0) S F I Q :=
  w_row (m := 20) (Nx := fun S F I => V_X8_init_119 G (g 0) S F I Q) h hg (by decide) (by decide) rfl (by decide) (by decide) (by decide) (by decide) (by decide) (by decide) (by decide) (w8_119 hQ)
theorem w8_93 (hQ : ∀ l S F I, Mq G 75 l t75 S F I → Ag 1 g l → Q S F I) (l : Nat → Nat) (S : Shp) (F : Fl) (I : Il) (h : Mq G 10 l t_93 S F I) (hg : Ag 1 g l) : V_X8_init_93 G (g 0) S F I Q :=
  w_row (m := 8) (Nx := fun S F I => V_X8_init_106 G (g 0) S F I Q) h hg (by decide) (by decide) rfl (by decide) (by decide) (by decide) (by decide) (by decide) (by decide) (by decide) (w8_106 hQ)
theorem w8_85 (hQ : ∀ l S F I, Mq G 75 l t75 S F I → Ag 1 g l → Q S F I) (l : Nat → Nat) (S : Shp) (F : Fl) (I : Il) (h : Mq G 9 l t_85 S F I) (hg : Ag 1 g l) : V_X8_init_85 G (g 0) S F I Q :=
  w_arr (Nx := fun S F I => V_X8_init_93 G (g 0) S F I Q) h hg (by decide) (by decide) rfl (by decide) (by decide) (by decide) (by decide) (by decide) (by decide) (w8_93 hQ)
theorem w8_77 (hQ : ∀ l S F I, Mq G 75 l t75 S F I → Ag 1 g l → Q S F I) (l : Nat → Nat) (S : Shp) (F : Fl) (I : Il) (h : Mq G 8 l t_77 S F I) (hg : Ag 1 g l) : V_X8_init_77 G (g 0) S F I Q :=
  w_arr (Nx := fun S F I => V_X8_init_85 G (g 0) S F I Q) h hg (by decide) (by decide) rfl (by decide) (by decide) (by decide) (by decide) (by decide) (by decide) (w8_85 hQ)
theorem w8_68 (hQ : ∀ l S F I, Mq G 75 l t75 S F I → Ag 1 g l → Q S F I) (l : Nat → Nat) (S : Shp) (F : Fl) (I : Il) (h : Mq G 7 l t_68 S F I) (hg : Ag 1 g l) : V_X8_init_68 G (g 0) S F I Q :=
  w_arr (Nx := fun S F I => V_X8_init_77 G (g 0) S F I Q) h hg (by decide) (by decide) rfl (by decide) (by decide) (by decide) (by decide) (by decide) (by decide) (w8_77 hQ)
theorem w8_57 (hQ : ∀ l S F I, Mq G 75 l t75 S F I → Ag 1 g l → Q S F I) (l : Nat → Nat) (S : Shp) (F : Fl) (I : Il) (h : Mq G 6 l t_57 S F I) (hg : Ag 1 g l) : V_X8_init_57 G (g 0) S F I Q :=
  w_lst (Nx := fun S F I => V_X8_init_68 G (g 0) S F I Q) rfl h hg (by decide) (by decide) rfl (by decide) (by decide) (by decide) (w8_68 hQ)
theorem w8_46 (hQ : ∀ l S F I, Mq G 75 l t75 S F I → Ag 1 g l → Q S F I) (l : Nat → Nat) (S : Shp) (F : Fl) (I : Il) (h : Mq G 5 l t_46 S F I) (hg : Ag 1 g l) : V_X8_init_46 G (g 0) S F I Q :=
  w_lst (Nx := fun S F I => V_X8_init_57 G (g 0) S F I Q) rfl h hg (by decide) (by decide) rfl (by decide) (by decide) (by decide) (w8_57 hQ)
theorem w8_35 (hQ : ∀ l S F I, Mq G 75 l t75 S F I → Ag 1 g l → Q S F I) (l : Nat → Nat) (S : Shp) (F : Fl) (I : Il) (h : Mq G 4 l t_35 S F I) (hg : Ag 1 g l) : V_X8_init_35 G (g 0) S F I Q :=
  w_lst (Nx := fun S F I => V_X8_init_46 G (g 0) S F I Q) rfl h hg (by decide) (by decide) rfl (by decide) (by decide) (by decide) (w8_46 hQ)
theorem w8_24 (hQ : ∀ l S F I, Mq G 75 l t75 S F I → Ag 1 g l → Q S F I) (l : Nat → Nat) (S : Shp) (F : Fl) (I : Il) (h : Mq G 3 l t_24 S F I) (hg : Ag 1 g l) : V_X8_init_24 G (g 0) S F I Q :=
  w_lst (Nx := fun S F I => V_X8_init_35 G (g 0) S F I Q) rfl h hg (by decide) (by decide) rfl (by decide) (by decide) (by decide) (w8_35 hQ)
theorem w8_13 (hQ : ∀ l S F I, Mq G 75 l t75 S F I → Ag 1 g l → Q S F I) (l : Nat → Nat) (S : Shp) (F : Fl) (I : Il) (h : Mq G 2 l t_13 S F I) (hg : Ag 1 g l) : V_X8_init_13 G (g 0) S F I Q :=
  w_lst (Nx := fun S F I => V_X8_init_24 G (g 0) S F I Q) rfl h hg (by decide) (by decide) rfl (by decide) (by decide) (by decide) (w8_24 hQ)
theorem w8_X8 (hQ : ∀ l S F I, Mq G 75 l t75 S F I → Ag 1 g l → Q S F I) (l : Nat → Nat) (S : Shp) (F : Fl) (I : Il) (h : Mq G 1 l t_X8 S F I) (hg : Ag 1 g l) : V_X8_init G (g 0) S F I Q :=
  w_arr (Nx := fun S F I => V_X8_init_13 G (g 0) S F I Q) h hg (by decide) (by decide) rfl (by decide) (by decide) (by decide) (by decide) (by decide) (by decide) (w8_13 hQ)
end Walk
def t79 : Sy := y_A 78 (y_A 77 (y_A 76 (y_A 75 t75)))
