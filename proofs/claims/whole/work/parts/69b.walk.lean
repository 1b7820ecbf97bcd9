/-! the start: kinds and lengths of all that is made; the walk through both constructors (printed by wip/whole/simstart.py) -/
def kk0 (i : Nat) : Nat := ([9, 23, 0, 0, 0, 0, 0, 24, 20, 20, 6, 20, 6, 20, 20, 7, 6, 20, 7, 6, 20, 7, 6, 20, 7, 6, 20, 7, 6, 20, 7, 6, 20, 7, 6, 20, 7, 6, 20, 8, 6, 20, 6, 20, 20, 8, 6, 20, 6, 20, 20, 8, 6, 20, 6, 20, 20, 8, 6, 20, 6, 20, 20, 8, 6, 20, 6, 20, 20, 8, 6, 20, 6, 20, 20, 10, 20, 20, 20, 20, 20, 20, 21, 21, 21, 20, 20, 20, 20, 20, 20, 20, 20, 20, 20, 20, 21, 20, 20, 20, 20, 20, 20, 21, 20, 20, 20, 20, 20, 20, 20, 20, 20, 20, 20, 20, 20, 20, 20, 20, 20, 20, 20, 21, 20, 20, 20, 20, 20, 22] : List Nat).getD i 99
def nn0 (i : Nat) : Nat := ([0, 8, 0, 0, 0, 0, 0, 6, 64, 64, 0, 8, 0, 20, 8, 0, 0, 4, 0, 0, 4, 0, 0, 4, 0, 0, 4, 0, 0, 4, 0, 0, 4, 0, 0, 4, 0, 0, 4, 0, 0, 10, 0, 8, 16, 0, 0, 10, 0, 8, 16, 0, 0, 10, 0, 8, 16, 0, 0, 10, 0, 8, 16, 0, 0, 10, 0, 8, 16, 0, 0, 10, 0, 8, 16, 0, 8, 32, 16, 16, 16, 16, 16, 16, 16, 16, 16, 16, 16, 6, 6, 6, 6, 6, 6, 6, 96, 20, 20, 20, 20, 160, 8, 6, 6, 6, 6, 6, 6, 6, 60, 6, 48, 6, 6, 6, 6, 6, 6, 8, 40, 40, 40, 40, 128, 4000, 4000, 8, 20, 1] : List Nat).getD i 0
abbrev Mq (G : Gp) (n : Nat) (l : Nat → Nat) (T : Sy) (S : Shp) (F : Fl) (I : Il) : Prop := Mk (gZ G) kk0 nn0 n l T S F I
def t00 : Sy := (fun _ _ => none, fun _ _ => none, fun _ _ => 0, fun _ => 0)
def y_st (n : Nat) (T : Sy) : Sy := y_r 701 n (n + 1) (y_f 601 (n + 1) 0 (y_r 600 (n + 1) (n + 2) (y_A (n + 2) (y_O (n + 1) (y_f 700 n 2 (y_O n T))))))
def y_tr (n : Nat) (x : Int) (T : Sy) : Sy := y_f 800 n x (y_r 816 n (n + 5) (y_A (n + 5) (y_f 815 n (-1) (y_f 814 n (-1) (y_f 813 n 0 (y_f 812 n 0 (y_f 811 n 0 (y_r 810 n (n + 3) (y_f 601 (n + 3) 0 (y_r 600 (n + 3) (n + 4) (y_A (n + 4) (y_O (n + 3) (y_r 809 n (n + 1) (y_f 601 (n + 1) 0 (y_r 600 (n + 1) (n + 2) (y_A (n + 2) (y_O (n + 1) (y_f 808 n 0 (y_f 807 n 0 (y_f 806 n (-1) (y_f 805 n (-1) (y_f 804 n 1 (y_f 803 n (-1) (y_f 802 n (-1) (y_f 801 n (-1) (y_O n T))))))))))))))))))))))))))
section Pieces
variable {z n q : Nat} {x : Int} {l K N : Nat → Nat} {T : Sy} {S : Shp} {F : Fl} {I : Il} {Q : Shp → Fl → Il → Prop}
theorem st_T (h : Mk z K N n l T S F I) (hq : sK S q = 99) (k1 : K n = 7) (k2 : K (n + 1) = 6) (k3 : K (n + 2) = 20) (k4 : N (n + 2) = 4) (hn : n + 2 < 900) (hQ : ∀ l' S F I, Mk z K N (n + 3) l' (y_st n T) S F I → Ag (n + 1) (lup l n q) l' → Q S F I) : V_X6_init q (newO S q 7) (zF F q) I Q :=
  have hO := h.O_ hq k1 (by decide) (by decide) (by omega)
  ⟨va_up_self _ _ _, w_row (Nx := Q) (g := lup l n q) (hO.f_ (Nat.lt_succ_self n) lup_s) (fun _ _ => rfl) (Nat.lt_succ_self n) (Nat.le_refl _) lup_s k1 k2 k3 k4 (by decide) (by decide) (by omega) hQ⟩
set_option maxHeartbeats 2000000 in
theorem tr_T (h : Mk z K N n l T S F I) (hq : sK S q = 99) (k1 : K n = 8) (k2 : K (n + 1) = 6) (k3 : K (n + 2) = 20) (k4 : N (n + 2) = 10) (k5 : K (n + 3) = 6) (k6 : K (n + 4) = 20) (k7 : N (n + 4) = 8) (k8 : K (n + 5) = 20) (k9 : N (n + 5) = 16) (hn : n + 5 < 900) (hQ : ∀ l' S F I, Mk z K N (n + 6) l' (y_tr n x T) S F I → Ag (n + 1) (lup l n q) l' → Q S F I) : V_X7_init q x (newO S q 8) (zF F q) I Q := by
  have hO := h.O_ hq k1 (by decide) (by decide) (by omega)
  have hx : lup l n q n = q := lup_s
  have hg : Ag (n + 1) (lup l n q) (lup l n q) := fun _ _ => rfl
  have hi : n < n + 1 := Nat.lt_succ_self n
  exact w_fld (Nx := fun S F I => V_X7_init_9 q x S F I Q) hO hg hi (by omega) hx k1 fun l S F I h hg => 
    w_fld (Nx := fun S F I => V_X7_init_14 q x S F I Q) h hg hi (by omega) hx k1 fun l S F I h hg => 
    w_fld (Nx := fun S F I => V_X7_init_19 q x S F I Q) h hg hi (by omega) hx k1 fun l S F I h hg => 
    w_fld (Nx := fun S F I => V_X7_init_24 q x S F I Q) h hg hi (by omega) hx k1 fun l S F I h hg => 
    w_fld (Nx := fun S F I => V_X7_init_29 q x S F I Q) h hg hi (by omega) hx k1 fun l S F I h hg => 
    w_fld (Nx := fun S F I => V_X7_init_34 q x S F I Q) h hg hi (by omega) hx k1 fun l S F I h hg => 
    w_fld (Nx := fun S F I => V_X7_init_39 q x S F I Q) h hg hi (by omega) hx k1 fun l S F I h hg => 
    w_fld (Nx := fun S F I => V_X7_init_44 q x S F I Q) h hg hi (by omega) hx k1 fun l S F I h hg => 
    w_row (Nx := fun S F I => V_X7_init_57 q x S F I Q) h hg hi (by omega) hx k1 k2 k3 k4 (by decide) (by decide) (by omega) fun l S F I h hg => 
    w_row (Nx := fun S F I => V_X7_init_70 q x S F I Q) h hg hi (by omega) hx k1 k5 k6 k7 (by decide) (by decide) (by omega) fun l S F I h hg => 
    w_fld (Nx := fun S F I => V_X7_init_75 q x S F I Q) h hg hi (by omega) hx k1 fun l S F I h hg => 
    w_fld (Nx := fun S F I => V_X7_init_80 q x S F I Q) h hg hi (by omega) hx k1 fun l S F I h hg => 
    w_fld (Nx := fun S F I => V_X7_init_85 q x S F I Q) h hg hi (by omega) hx k1 fun l S F I h hg => 
    w_fld (Nx := fun S F I => V_X7_init_90 q x S F I Q) h hg hi (by omega) hx k1 fun l S F I h hg => 
    w_fld (Nx := fun S F I => V_X7_init_95 q x S F I Q) h hg hi (by omega) hx k1 fun l S F I h hg => 
    w_arr (Nx := fun S F I => V_X7_init_103 q x S F I Q) h hg hi (by omega) hx k1 k8 k9 (by decide) (by decide) (by omega) fun l S F I h hg => 
    w_fld (Nx := fun S F I => V_X7_init_108 S F I Q) h hg hi (by omega) hx k1 fun l S F I h hg => hQ l S F I h hg
end Pieces
def t_X8 : Sy := y_O 0 t00
def t_13 : Sy := y_r 900 0 1 (y_A 1 t_X8)
def t_24 : Sy := y_r 901 0 2 (y_r 1 2 999 (y_f 0 2 0 (y_O 2 t_13)))
def t_35 : Sy := y_r 902 0 3 (y_r 1 3 999 (y_f 0 3 0 (y_O 3 t_24)))
def t_46 : Sy := y_r 903 0 4 (y_r 1 4 999 (y_f 0 4 0 (y_O 4 t_35)))
def t_57 : Sy := y_r 904 0 5 (y_r 1 5 999 (y_f 0 5 0 (y_O 5 t_46)))
def t_68 : Sy := y_r 905 0 6 (y_r 1 6 999 (y_f 0 6 0 (y_O 6 t_57)))
def t_77 : Sy := y_r 906 0 7 (y_A 7 t_68)
def t_85 : Sy := y_r 907 0 8 (y_A 8 t_77)
def t_93 : Sy := y_r 908 0 9 (y_A 9 t_85)
def t_106 : Sy := y_r 909 0 10 (y_f 601 10 0 (y_r 600 10 11 (y_A 11 (y_O 10 t_93))))
def t_119 : Sy := y_r 910 0 12 (y_f 601 12 0 (y_r 600 12 13 (y_A 13 (y_O 12 t_106))))
def t_127 : Sy := y_r 911 0 14 (y_A 14 t_119)
def t_132 : Sy := y_f 912 0 0 t_127
def t_139 : Sy := y_f 913 0 5000 t_132
def t_144 : Sy := y_f 914 0 0 t_139
def t_149 : Sy := y_f 915 0 0 t_144
def tSt : Nat → Sy
  | 0 => t_149
  | x + 1 => y_g 1 (x : Int) (15 + 3 * x) (y_st (15 + 3 * x) (tSt x))
def tTr : Nat → Sy
  | 0 => tSt 8
  | x + 1 => y_g 7 (x : Int) (39 + 6 * x) (y_tr (39 + 6 * x) (x : Int) (tTr x))
def t75 : Sy := y_j 9 20 (y_j 8 20 (tTr 6))
theorem tSt_f : ∀ x, x < 9 → (tSt x).1 900 0 = some 1 := by decide +kernel
theorem kSt_f : ∀ x, x < 8 → kk0 (15 + 3 * x) = 7 ∧ kk0 (15 + 3 * x + 1) = 6 ∧ kk0 (15 + 3 * x + 2) = 20 ∧ nn0 (15 + 3 * x + 2) = 4 := by decide +kernel
theorem tTr_f : ∀ x, x < 7 → (tTr x).1 906 0 = some 7 ∧ (tTr x).1 907 0 = some 8 ∧ (tTr x).1 908 0 = some 9 := by decide +kernel
theorem kTr_f : ∀ x, x < 6 → kk0 (39 + 6 * x) = 8 ∧ kk0 (39 + 6 * x + 1) = 6 ∧ kk0 (39 + 6 * x + 2) = 20 ∧ nn0 (39 + 6 * x + 2) = 10 ∧ kk0 (39 + 6 * x + 3) = 6 ∧ kk0 (39 + 6 * x + 4) = 20 ∧ nn0 (39 + 6 * x + 4) = 8 ∧ kk0 (39 + 6 * x + 5) = 20 ∧ nn0 (39 + 6 * x + 5) = 16 := by decide +kernel
section Walk
variable {G : Gp} {g : Nat → Nat} {Q : Shp → Fl → Il → Prop}
theorem lp_tr (hQ : ∀ l S F I, Mq G 75 l t75 S F I → Ag 1 g l → Q S F I) : ∀ (d x : Nat) (l : Nat → Nat) (S : Shp) (F : Fl) (I : Il), x + d = 6 → Mq G (39 + 6 * x) l (tTr x) S F I → Ag 1 g l → V_X8_init_181 G (d + 1) (g 0) (x : Int) S F I Q
  | 0, x, l, S, F, I, hx, h, hg => by
    have e6 : x = 6 := by omega
    subst e6
    have e0 : l 0 = g 0 := hg 0 (by decide)
    have n7 : sN S (l 7) = 6 := (h.n_ (by decide) (by decide)).trans (by decide)
    obtain ⟨r1, r2, r3⟩ := tTr_f 6 (by decide)
    unfold V_X8_init_181
    refine ⟨by rw [← e0]; exact (h.k_ (by decide)).trans (by decide), l 7, by rw [← e0]; exact h.r_ (by decide) (by decide) r1, (h.k_ (by decide)).trans (by decide), by rw [n7]; decide, fun _ => ⟨l 8, by rw [← e0]; exact h.r_ (by decide) (by decide) r2, ?_⟩, fun c => absurd (by rw [n7]; decide) c⟩
    refine fill_T (m := 64) ((h.k_ (by decide)).trans (by decide)) ((h.n_ (by decide) (by decide)).trans (by decide)) (by decide) (fun I' i1 i2 => ⟨l 9, by rw [← e0]; exact h.r_ (by decide) (by decide) r3, ?_⟩)
    refine fill_T (m := 64) ((h.k_ (by decide)).trans (by decide)) ((h.n_ (by decide) (by decide)).trans (by decide)) (by decide) (fun I'' j1 j2 => ?_)
    exact hQ l S F I'' ((h.j_ (i := 8) (by decide) i1 i2).j_ (i := 9) (by decide) j1 j2) hg
  | d + 1, x, l, S, F, I, hx, h, hg => by
    have hx6 : x < 6 := by omega
    obtain ⟨k1, k2, k3, k4, k5, k6, k7, k8, k9⟩ := kTr_f x hx6
    have e0 : l 0 = g 0 := hg 0 (by decide)
    have n7 : sN S (l 7) = 6 := (h.n_ (by omega) (by decide)).trans (by decide)
    unfold V_X8_init_181
    refine ⟨by rw [← e0]; exact (h.k_ (by omega)).trans (by decide), l 7, by rw [← e0]; exact h.r_ (by omega) (by decide) (tTr_f x (by omega)).1, (h.k_ (by omega)).trans (by decide), by rw [n7]; decide, fun c => absurd c (by rw [n7]; omega), fun _ => ⟨h.a_ (by omega), h.b_ (by omega) (by decide), fun q hq => ?_⟩⟩
    refine tr_T h hq k1 k2 k3 k4 k5 k6 k7 k8 k9 (by omega) (fun l' S' F' I' h' hg' => ?_)
    have a0 : l' 0 = g 0 := (hg' 0 (by omega)).trans ((lup_n (by omega)).trans e0)
    have a1 : l' 7 = l 7 := (hg' 7 (by omega)).trans (lup_n (by omega))
    have an : l' (39 + 6 * x) = q := (hg' _ (by omega)).trans lup_s
    have n7' : sN S' (l 7) = 6 := by
      rw [← a1]
      exact (h'.n_ (by omega) (by decide)).trans (by decide)
    refine ⟨by rw [← a1]; exact (h'.k_ (by omega)).trans (by decide), by rw [← an]; exact (h'.k_ (by omega)).trans k1, by omega, by rw [n7']; omega, ?_⟩
    rw [show w32 ((x : Int) + 1) = ((x + 1 : Nat) : Int) from (w32_id (by unfold rg; omega)).trans (by omega)]
    refine lp_tr hQ d (x + 1) l' _ _ _ (by omega) ?_ (fun i hi => by
      have : i = 0 := by omega
      rw [this]
      exact a0)
    rw [show 39 + 6 * (x + 1) = 39 + 6 * x + 6 by omega]
    exact h'.G_ (i := 7) (by omega) (by omega) a1 an
theorem lp_st (hQ : ∀ l S F I, Mq G 39 l (tSt 8) S F I → Ag 1 g l → ∃ n9, V_X8_init_181 G n9 (g 0) 0 S F I Q) : ∀ (d x : Nat) (l : Nat → Nat) (S : Shp) (F : Fl) (I : Il), x + d = 8 → Mq G (15 + 3 * x) l (tSt x) S F I → Ag 1 g l → V_X8_init_151 G (d + 1) (g 0) (x : Int) S F I Q
  | 0, x, l, S, F, I, hx, h, hg => by
    have e8 : x = 8 := by omega
    subst e8
    have e0 : l 0 = g 0 := hg 0 (by decide)
    have n1 : sN S (l 1) = 8 := (h.n_ (by decide) (by decide)).trans (by decide)
    unfold V_X8_init_151
    exact ⟨by rw [← e0]; exact (h.k_ (by decide)).trans (by decide), l 1, by rw [← e0]; exact h.r_ (by decide) (by decide) (tSt_f 8 (by decide)), (h.k_ (by decide)).trans (by decide), by rw [n1]; decide, fun _ => hQ l S F I h hg, fun c => absurd (by rw [n1]; decide) c⟩
  | d + 1, x, l, S, F, I, hx, h, hg => by
    have hx8 : x < 8 := by omega
    obtain ⟨k1, k2, k3, k4⟩ := kSt_f x hx8
    have e0 : l 0 = g 0 := hg 0 (by decide)
    have n1 : sN S (l 1) = 8 := (h.n_ (by omega) (by decide)).trans (by decide)
    unfold V_X8_init_151
    refine ⟨by rw [← e0]; exact (h.k_ (by omega)).trans (by decide), l 1, by rw [← e0]; exact h.r_ (by omega) (by decide) (tSt_f x (by omega)), (h.k_ (by omega)).trans (by decide), by rw [n1]; decide, fun c => absurd c (by rw [n1]; omega), fun _ => ⟨h.a_ (by omega), h.b_ (by omega) (by decide), fun q hq => ?_⟩⟩
    refine st_T h hq k1 k2 k3 k4 (by omega) (fun l' S' F' I' h' hg' => ?_)
    have a0 : l' 0 = g 0 := (hg' 0 (by omega)).trans ((lup_n (by omega)).trans e0)
    have a1 : l' 1 = l 1 := (hg' 1 (by omega)).trans (lup_n (by omega))
    have an : l' (15 + 3 * x) = q := (hg' _ (by omega)).trans lup_s
    have n1' : sN S' (l 1) = 8 := by
      rw [← a1]
      exact (h'.n_ (by omega) (by decide)).trans (by decide)
    refine ⟨by rw [← a1]; exact (h'.k_ (by omega)).trans (by decide), by rw [← an]; exact (h'.k_ (by omega)).trans k1, by omega, by rw [n1']; omega, ?_⟩
    rw [show w32 ((x : Int) + 1) = ((x + 1 : Nat) : Int) from (w32_id (by unfold rg; omega)).trans (by omega)]
    refine lp_st hQ d (x + 1) l' _ _ _ (by omega) ?_ (fun i hi => by
      have : i = 0 := by omega
      rw [this]
      exact a0)
    rw [show 15 + 3 * (x + 1) = 15 + 3 * x + 3 by omega]
    exact h'.G_ (i := 1) (by omega) (by omega) a1 an
theorem w8_149 (hQ : ∀ l S F I, Mq G 75 l t75 S F I → Ag 1 g l → Q S F I) (l : Nat → Nat) (S : Shp) (F : Fl) (I : Il) (h : Mq G 15 l t_149 S F I) (hg : Ag 1 g l) : V_X8_init_149 G (g 0) S F I Q :=
  ⟨9, lp_st (fun l S F I h hg => ⟨7, lp_tr hQ 6 0 l S F I (by decide) h hg⟩) 8 0 l S F I (by decide) h hg⟩
theorem w8_144 (hQ : ∀ l S F I, Mq G 75 l t75 S F I → Ag 1 g l → Q S F I) (l : Nat → Nat) (S : Shp) (F : Fl) (I : Il) (h : Mq G 15 l t_144 S F I) (hg : Ag 1 g l) : V_X8_init_144 G (g 0) S F I Q :=
  w_fld (Nx := fun S F I => V_X8_init_149 G (g 0) S F I Q) h hg (by decide) (by decide) rfl (by decide) (w8_149 hQ)
theorem w8_139 (hQ : ∀ l S F I, Mq G 75 l t75 S F I → Ag 1 g l → Q S F I) (l : Nat → Nat) (S : Shp) (F : Fl) (I : Il) (h : Mq G 15 l t_139 S F I) (hg : Ag 1 g l) : V_X8_init_139 G (g 0) S F I Q :=
  w_fld (Nx := fun S F I => V_X8_init_144 G (g 0) S F I Q) h hg (by decide) (by decide) rfl (by decide) (w8_144 hQ)
theorem w8_132 (hQ : ∀ l S F I, Mq G 75 l t75 S F I → Ag 1 g l → Q S F I) (l : Nat → Nat) (S : Shp) (F : Fl) (I : Il) (h : Mq G 15 l t_132 S F I) (hg : Ag 1 g l) : V_X8_init_132 G (g 0) S F I Q :=
  w_fld (Nx := fun S F I => V_X8_init_139 G (g 0) S F I Q) h hg (by decide) (by decide) rfl (by decide) (w8_139 hQ)
theorem w8_127 (hQ : ∀ l S F I, Mq G 75 l t75 S F I → Ag 1 g l → Q S F I) (l : Nat → Nat) (S : Shp) (F : Fl) (I : Il) (h : Mq G 15 l t_127 S F I) (hg : Ag 1 g l) : V_X8_init_127 G (g 0) S F I Q :=
  w_fld (Nx := fun S F I => V_X8_init_132 G (g 0) S F I Q) h hg (by decide) (by decide) rfl (by decide) (w8_132 hQ)
theorem w8_119 (hQ : ∀ l S F I, Mq G 75 l t75 S F I → Ag 1 g l → Q S F I) (l : Nat → Nat) (S : Shp) (F : Fl) (I : Il) (h : Mq G 14 l t_119 S F I) (hg : Ag 1 g l) : V_X8_init_119 G (g 0) S F I Q :=
  w_arr (Nx := fun S F I => V_X8_init_127 G (g 0) S F I Q) h hg (by decide) (by decide) rfl (by decide) (by decide) (by decide) (by decide) (by decide) (by decide) (w8_127 hQ)
theorem w8_106 (hQ : ∀ l S F I, Mq G 75 l t75 S F I → Ag 1 g l → Q S F I) (l : Nat → Nat) (S : Shp) (F : Fl) (I : Il) (h : Mq G 12 l t_106 S F I) (hg : Ag 1 g l) : V_X8_init_106 G (g 0) S F I Q :=
  w_row (m := 20) (Nx := fun S F I => V_X8_init_119 G (g 0) S F I Q) h hg (by decide) (by decide) rfl (by decide) (by decide) (by decide) (by decide) (by decide) (by decide) (by decide) (w8_119 hQ)
theorem w8_93 (hQ : ∀ l S F I, Mq G 75 l t75 S F I → Ag 1 g l → Q S F I) (l : Nat → Nat) (S : Shp) (F : Fl) (I : Il) (h : Mq G 10 l t_93 S F I) (hg : Ag 1 g l) : V_X8_init_93 G (g 0) S F I Q :=
  w_row (m := 8) (Nx := fun S F I => V_X8_init_106 G (g 0) S F I Q) h hg (by decide) (by decide) rfl (by decide) (by decide) (by decide) (by decide) (by decide) (by decide) (by decide) (w8_106 hQ)
theorem w8_85 (hQ : ∀ l S F I, Mq G 75 l t75 S F I → Ag 1 g l → Q S F I) (l : Nat → Nat) (S : Shp) (F : Fl) (I : Il) (h : Mq G 9 l t_85 S F I) (hg : Ag 1 g l) : V_X8_init_85 G (g 0) S F I Q :=
  w_arr (Nx := fun S F I => V_X8_init_93 G (g 0) S F I Q) h hg (by decide) (by decide) rfl (by decide) (by decide) (by decide) (by decide) (by decide) (by decide) (w8_93 hQ)
theorem w8_77 (hQ : ∀ l S F I, Mq G 75 l t75 S F I → Ag 1 g l → Q S F I) (l : Nat → Nat) (S : Shp) (F : Fl) (I : Il) (h : Mq G 8 l t_77 S F I) (hg : Ag 1 g l) : V_X8_init_77 G (g 0) S F I Q :=
  w_arr (Nx := fun S F I => V_X8_init_85 G (g 0) S F I Q) h hg (by decide) (by decide) rfl (by decide) (by decide) (by decide) (by decide) (by decide) (by decide) (w8_85 hQ)
theorem w8_68 (hQ : ∀ l S F I, Mq G 75 l t75 S F I → Ag 1 g l → Q S F I) (l : Nat → Nat) (S : Shp) (F : Fl) (I : Il) (h : Mq G 7 l t_68 S F I) (hg : Ag 1 g l) : V_X8_init_68 G (g 0) S F I Q :=
  w_arr (Nx := fun S F I => V_X8_init_77 G (g 0) S F I Q) h hg (by decide) (by decide) rfl (by decide) (by decide) (by decide) (by decide) (by decide) (by decide) (w8_77 hQ)
theorem w8_57 (hQ : ∀ l S F I, Mq G 75 l t75 S F I → Ag 1 g l → Q S F I) (l : Nat → Nat) (S : Shp) (F : Fl) (I : Il) (h : Mq G 6 l t_57 S F I) (hg : Ag 1 g l) : V_X8_init_57 G (g 0) S F I Q :=
  w_lst (Nx := fun S F I => V_X8_init_68 G (g 0) S F I Q) rfl h hg (by decide) (by decide) rfl (by decide) (by decide) (by decide) (w8_68 hQ)
theorem w8_46 (hQ : ∀ l S F I, Mq G 75 l t75 S F I → Ag 1 g l → Q S F I) (l : Nat → Nat) (S : Shp) (F : Fl) (I : Il) (h : Mq G 5 l t_46 S F I) (hg : Ag 1 g l) : V_X8_init_46 G (g 0) S F I Q :=
  w_lst (Nx := fun S F I => V_X8_init_57 G (g 0) S F I Q) rfl h hg (by decide) (by decide) rfl (by decide) (by decide) (by decide) (w8_57 hQ)
theorem w8_35 (hQ : ∀ l S F I, Mq G 75 l t75 S F I → Ag 1 g l → Q S F I) (l : Nat → Nat) (S : Shp) (F : Fl) (I : Il) (h : Mq G 4 l t_35 S F I) (hg : Ag 1 g l) : V_X8_init_35 G (g 0) S F I Q :=
  w_lst (Nx := fun S F I => V_X8_init_46 G (g 0) S F I Q) rfl h hg (by decide) (by decide) rfl (by decide) (by decide) (by decide) (w8_46 hQ)
theorem w8_24 (hQ : ∀ l S F I, Mq G 75 l t75 S F I → Ag 1 g l → Q S F I) (l : Nat → Nat) (S : Shp) (F : Fl) (I : Il) (h : Mq G 3 l t_24 S F I) (hg : Ag 1 g l) : V_X8_init_24 G (g 0) S F I Q :=
  w_lst (Nx := fun S F I => V_X8_init_35 G (g 0) S F I Q) rfl h hg (by decide) (by decide) rfl (by decide) (by decide) (by decide) (w8_35 hQ)
theorem w8_13 (hQ : ∀ l S F I, Mq G 75 l t75 S F I → Ag 1 g l → Q S F I) (l : Nat → Nat) (S : Shp) (F : Fl) (I : Il) (h : Mq G 2 l t_13 S F I) (hg : Ag 1 g l) : V_X8_init_13 G (g 0) S F I Q :=
  w_lst (Nx := fun S F I => V_X8_init_24 G (g 0) S F I Q) rfl h hg (by decide) (by decide) rfl (by decide) (by decide) (by decide) (w8_24 hQ)
theorem w8_X8 (hQ : ∀ l S F I, Mq G 75 l t75 S F I → Ag 1 g l → Q S F I) (l : Nat → Nat) (S : Shp) (F : Fl) (I : Il) (h : Mq G 1 l t_X8 S F I) (hg : Ag 1 g l) : V_X8_init G (g 0) S F I Q :=
  w_arr (Nx := fun S F I => V_X8_init_13 G (g 0) S F I Q) h hg (by decide) (by decide) rfl (by decide) (by decide) (by decide) (by decide) (by decide) (by decide) (w8_13 hQ)
end Walk
def t_X9 : Sy := y_O 75 t75
def t_11 : Sy := y_f 1002 75 5000 t_X9
def t_53 : Sy := y_r 1005 75 76 (y_j 76 2 (y_A 76 t_11))
def r_61 : Sy := y_r 1007 75 77 (y_A 77 t_53)
def r_69 : Sy := y_r 1008 75 78 (y_A 78 r_61)
def r_77 : Sy := y_r 1009 75 79 (y_A 79 r_69)
def r_85 : Sy := y_r 1010 75 80 (y_A 80 r_77)
def r_93 : Sy := y_r 1011 75 81 (y_A 81 r_85)
def r_101 : Sy := y_r 1012 75 82 (y_A 82 r_93)
def r_109 : Sy := y_r 1013 75 83 (y_A 83 r_101)
def r_117 : Sy := y_r 1014 75 84 (y_A 84 r_109)
def r_125 : Sy := y_r 1015 75 85 (y_A 85 r_117)
def r_133 : Sy := y_r 1016 75 86 (y_A 86 r_125)
def r_141 : Sy := y_r 1017 75 87 (y_A 87 r_133)
def r_149 : Sy := y_r 1018 75 88 (y_A 88 r_141)
def r_157 : Sy := y_r 1020 75 89 (y_A 89 r_149)
def r_165 : Sy := y_r 1021 75 90 (y_A 90 r_157)
def r_173 : Sy := y_r 1022 75 91 (y_A 91 r_165)
def r_181 : Sy := y_r 1024 75 92 (y_A 92 r_173)
def r_189 : Sy := y_r 1025 75 93 (y_A 93 r_181)
def r_197 : Sy := y_r 1026 75 94 (y_A 94 r_189)
def r_205 : Sy := y_r 1027 75 95 (y_A 95 r_197)
def r_213 : Sy := y_r 1028 75 96 (y_A 96 r_205)
def r_221 : Sy := y_r 1030 75 97 (y_A 97 r_213)
def r_229 : Sy := y_r 1031 75 98 (y_A 98 r_221)
def r_237 : Sy := y_r 1032 75 99 (y_A 99 r_229)
def r_245 : Sy := y_r 1033 75 100 (y_A 100 r_237)
def r_254 : Sy := y_r 1034 75 101 (y_A 101 r_245)
def r_262 : Sy := y_r 1035 75 102 (y_A 102 r_254)
def r_270 : Sy := y_r 1036 75 103 (y_A 103 r_262)
def r_278 : Sy := y_r 1037 75 104 (y_A 104 r_270)
def r_286 : Sy := y_r 1038 75 105 (y_A 105 r_278)
def r_294 : Sy := y_r 1039 75 106 (y_A 106 r_286)
def r_302 : Sy := y_r 1040 75 107 (y_A 107 r_294)
def r_310 : Sy := y_r 1041 75 108 (y_A 108 r_302)
def r_318 : Sy := y_r 1042 75 109 (y_A 109 r_310)
def r_326 : Sy := y_r 1043 75 110 (y_A 110 r_318)
def r_334 : Sy := y_r 1044 75 111 (y_A 111 r_326)
def r_342 : Sy := y_r 1045 75 112 (y_A 112 r_334)
def r_350 : Sy := y_r 1046 75 113 (y_A 113 r_342)
def r_358 : Sy := y_r 1047 75 114 (y_A 114 r_350)
def r_366 : Sy := y_r 1048 75 115 (y_A 115 r_358)
def r_374 : Sy := y_r 1049 75 116 (y_A 116 r_366)
def r_382 : Sy := y_r 1050 75 117 (y_A 117 r_374)
def r_390 : Sy := y_r 1051 75 118 (y_A 118 r_382)
def r_398 : Sy := y_r 1053 75 119 (y_A 119 r_390)
def r_406 : Sy := y_r 1055 75 120 (y_A 120 r_398)
def r_414 : Sy := y_r 1056 75 121 (y_A 121 r_406)
def r_422 : Sy := y_r 1057 75 122 (y_A 122 r_414)
def r_430 : Sy := y_r 1058 75 123 (y_A 123 r_422)
def r_439 : Sy := y_r 1059 75 124 (y_A 124 r_430)
def r_448 : Sy := y_r 1061 75 125 (y_A 125 r_439)
def r_457 : Sy := y_r 1062 75 126 (y_A 126 r_448)
def r_465 : Sy := y_r 1063 75 127 (y_A 127 r_457)
def r_473 : Sy := y_r 1064 75 128 (y_A 128 r_465)
def t129 : Sy := y_j 124 20 r_473
def t130 : Sy := y_A 129 t129
section Walk9
variable {G : Gp} {g : Nat → Nat} {Q : Shp → Fl → Il → Prop}
theorem lp_9 {m r : Nat} {S : Shp} {F : Fl} (h1 : sK S m = 10) (h2 : sR S 1059 m = some r) (h3 : sK S r = 20) (h4 : sN S r = 128) : ∀ (d : Nat) (x : Int) (I : Il), 0 ≤ x → x + (d : Int) = 128 → (∀ I' : Il, (∀ b j, b ≠ r → I' b j = I b j) → (∀ j, x ≤ j → j < 128 → I' r j = 20) → (∀ j, j < x → I' r j = I r j) → Q S F I') → V_X9_init_475 (d + 1) m x S F I Q
  | 0, x, I, x0, hx, hQ => by
    unfold V_X9_init_475
    exact ⟨fun _ => hQ I (fun _ _ _ => rfl) (fun j j0 j1 => by omega) (fun _ _ => rfl), fun c => absurd (by omega) c⟩
  | d + 1, x, I, x0, hx, hQ => by
    unfold V_X9_init_475
    refine ⟨fun c => absurd c (by omega), fun c => ⟨h1, r, h2, h3, x0, by rw [h4]; omega, ?_⟩⟩
    have e : w32 (x + 1) = x + 1 := w32_id (by unfold rg; omega)
    rw [e]
    refine lp_9 h1 h2 h3 h4 d (x + 1) _ (by omega) (by omega) (fun I' i1 i2 i3 => hQ I' (fun b j h => (i1 b j h).trans (if_neg (fun w => h w.1))) (fun j j0 j1 => ?_) (fun j j0 => (i3 j (by omega)).trans (if_neg (fun w => by have := w.2; omega))))
    by_cases ej : j = x
    · rw [ej, i3 x (by omega)]
      exact if_pos ⟨rfl, rfl⟩
    · exact i2 j (by omega) j1
theorem r_473_f : r_473.1 1059 75 = some 124 := by decide +kernel
theorem w9_473 (hQ : ∀ l S F I, Mq G 129 l t129 S F I → Ag 76 g l → Q S F I) (l : Nat → Nat) (S : Shp) (F : Fl) (I : Il) (h : Mq G 129 l r_473 S F I) (hg : Ag 76 g l) : V_X9_init_473 (g 75) S F I Q := by
  have e0 : l 75 = g 75 := hg 75 (by decide)
  refine ⟨129, lp_9 (r := l 124) (by rw [← e0]; exact (h.k_ (by decide)).trans (by decide)) (by rw [← e0]; exact h.r_ (by decide) (by decide) r_473_f) ((h.k_ (by decide)).trans (by decide)) ((h.n_ (by decide) (by decide)).trans (by decide)) 128 0 I (by decide) (by decide) (fun I' i1 i2 _ => hQ l S F I' (h.j_ (i := 124) (by decide) i1 i2) hg)⟩
theorem w9_465 (hQ : ∀ l S F I, Mq G 129 l t129 S F I → Ag 76 g l → Q S F I) (l : Nat → Nat) (S : Shp) (F : Fl) (I : Il) (h : Mq G 128 l r_465 S F I) (hg : Ag 76 g l) : V_X9_init_465 (g 75) S F I Q :=
  w_arr (Nx := fun S F I => V_X9_init_473 (g 75) S F I Q) h hg (by decide) (by decide) rfl (by decide) (by decide) (by decide) (by decide) (by decide) (by decide) (w9_473 hQ)
theorem w9_457 (hQ : ∀ l S F I, Mq G 129 l t129 S F I → Ag 76 g l → Q S F I) (l : Nat → Nat) (S : Shp) (F : Fl) (I : Il) (h : Mq G 127 l r_457 S F I) (hg : Ag 76 g l) : V_X9_init_457 (g 75) S F I Q :=
  w_arr (Nx := fun S F I => V_X9_init_465 (g 75) S F I Q) h hg (by decide) (by decide) rfl (by decide) (by decide) (by decide) (by decide) (by decide) (by decide) (w9_465 hQ)
theorem w9_448 (hQ : ∀ l S F I, Mq G 129 l t129 S F I → Ag 76 g l → Q S F I) (l : Nat → Nat) (S : Shp) (F : Fl) (I : Il) (h : Mq G 126 l r_448 S F I) (hg : Ag 76 g l) : V_X9_init_448 (g 75) S F I Q :=
  w_arr (Nx := fun S F I => V_X9_init_457 (g 75) S F I Q) h hg (by decide) (by decide) rfl (by decide) (by decide) (by decide) (by decide) (by decide) (by decide) (w9_457 hQ)
theorem w9_439 (hQ : ∀ l S F I, Mq G 129 l t129 S F I → Ag 76 g l → Q S F I) (l : Nat → Nat) (S : Shp) (F : Fl) (I : Il) (h : Mq G 125 l r_439 S F I) (hg : Ag 76 g l) : V_X9_init_439 (g 75) S F I Q :=
  w_arr (Nx := fun S F I => V_X9_init_448 (g 75) S F I Q) h hg (by decide) (by decide) rfl (by decide) (by decide) (by decide) (by decide) (by decide) (by decide) (w9_448 hQ)
theorem w9_430 (hQ : ∀ l S F I, Mq G 129 l t129 S F I → Ag 76 g l → Q S F I) (l : Nat → Nat) (S : Shp) (F : Fl) (I : Il) (h : Mq G 124 l r_430 S F I) (hg : Ag 76 g l) : V_X9_init_430 (g 75) S F I Q :=
  w_arr (Nx := fun S F I => V_X9_init_439 (g 75) S F I Q) h hg (by decide) (by decide) rfl (by decide) (by decide) (by decide) (by decide) (by decide) (by decide) (w9_439 hQ)
theorem w9_422 (hQ : ∀ l S F I, Mq G 129 l t129 S F I → Ag 76 g l → Q S F I) (l : Nat → Nat) (S : Shp) (F : Fl) (I : Il) (h : Mq G 123 l r_422 S F I) (hg : Ag 76 g l) : V_X9_init_422 (g 75) S F I Q :=
  w_arr (Nx := fun S F I => V_X9_init_430 (g 75) S F I Q) h hg (by decide) (by decide) rfl (by decide) (by decide) (by decide) (by decide) (by decide) (by decide) (w9_430 hQ)
theorem w9_414 (hQ : ∀ l S F I, Mq G 129 l t129 S F I → Ag 76 g l → Q S F I) (l : Nat → Nat) (S : Shp) (F : Fl) (I : Il) (h : Mq G 122 l r_414 S F I) (hg : Ag 76 g l) : V_X9_init_414 (g 75) S F I Q :=
  w_arr (Nx := fun S F I => V_X9_init_422 (g 75) S F I Q) h hg (by decide) (by decide) rfl (by decide) (by decide) (by decide) (by decide) (by decide) (by decide) (w9_422 hQ)
theorem w9_406 (hQ : ∀ l S F I, Mq G 129 l t129 S F I → Ag 76 g l → Q S F I) (l : Nat → Nat) (S : Shp) (F : Fl) (I : Il) (h : Mq G 121 l r_406 S F I) (hg : Ag 76 g l) : V_X9_init_406 (g 75) S F I Q :=
  w_arr (Nx := fun S F I => V_X9_init_414 (g 75) S F I Q) h hg (by decide) (by decide) rfl (by decide) (by decide) (by decide) (by decide) (by decide) (by decide) (w9_414 hQ)
theorem w9_398 (hQ : ∀ l S F I, Mq G 129 l t129 S F I → Ag 76 g l → Q S F I) (l : Nat → Nat) (S : Shp) (F : Fl) (I : Il) (h : Mq G 120 l r_398 S F I) (hg : Ag 76 g l) : V_X9_init_398 (g 75) S F I Q :=
  w_arr (Nx := fun S F I => V_X9_init_406 (g 75) S F I Q) h hg (by decide) (by decide) rfl (by decide) (by decide) (by decide) (by decide) (by decide) (by decide) (w9_406 hQ)
theorem w9_390 (hQ : ∀ l S F I, Mq G 129 l t129 S F I → Ag 76 g l → Q S F I) (l : Nat → Nat) (S : Shp) (F : Fl) (I : Il) (h : Mq G 119 l r_390 S F I) (hg : Ag 76 g l) : V_X9_init_390 (g 75) S F I Q :=
  w_arr (Nx := fun S F I => V_X9_init_398 (g 75) S F I Q) h hg (by decide) (by decide) rfl (by decide) (by decide) (by decide) (by decide) (by decide) (by decide) (w9_398 hQ)
theorem w9_382 (hQ : ∀ l S F I, Mq G 129 l t129 S F I → Ag 76 g l → Q S F I) (l : Nat → Nat) (S : Shp) (F : Fl) (I : Il) (h : Mq G 118 l r_382 S F I) (hg : Ag 76 g l) : V_X9_init_382 (g 75) S F I Q :=
  w_arr (Nx := fun S F I => V_X9_init_390 (g 75) S F I Q) h hg (by decide) (by decide) rfl (by decide) (by decide) (by decide) (by decide) (by decide) (by decide) (w9_390 hQ)
theorem w9_374 (hQ : ∀ l S F I, Mq G 129 l t129 S F I → Ag 76 g l → Q S F I) (l : Nat → Nat) (S : Shp) (F : Fl) (I : Il) (h : Mq G 117 l r_374 S F I) (hg : Ag 76 g l) : V_X9_init_374 (g 75) S F I Q :=
  w_arr (Nx := fun S F I => V_X9_init_382 (g 75) S F I Q) h hg (by decide) (by decide) rfl (by decide) (by decide) (by decide) (by decide) (by decide) (by decide) (w9_382 hQ)
theorem w9_366 (hQ : ∀ l S F I, Mq G 129 l t129 S F I → Ag 76 g l → Q S F I) (l : Nat → Nat) (S : Shp) (F : Fl) (I : Il) (h : Mq G 116 l r_366 S F I) (hg : Ag 76 g l) : V_X9_init_366 (g 75) S F I Q :=
  w_arr (Nx := fun S F I => V_X9_init_374 (g 75) S F I Q) h hg (by decide) (by decide) rfl (by decide) (by decide) (by decide) (by decide) (by decide) (by decide) (w9_374 hQ)
theorem w9_358 (hQ : ∀ l S F I, Mq G 129 l t129 S F I → Ag 76 g l → Q S F I) (l : Nat → Nat) (S : Shp) (F : Fl) (I : Il) (h : Mq G 115 l r_358 S F I) (hg : Ag 76 g l) : V_X9_init_358 (g 75) S F I Q :=
  w_arr (Nx := fun S F I => V_X9_init_366 (g 75) S F I Q) h hg (by decide) (by decide) rfl (by decide) (by decide) (by decide) (by decide) (by decide) (by decide) (w9_366 hQ)
theorem w9_350 (hQ : ∀ l S F I, Mq G 129 l t129 S F I → Ag 76 g l → Q S F I) (l : Nat → Nat) (S : Shp) (F : Fl) (I : Il) (h : Mq G 114 l r_350 S F I) (hg : Ag 76 g l) : V_X9_init_350 (g 75) S F I Q :=
  w_arr (Nx := fun S F I => V_X9_init_358 (g 75) S F I Q) h hg (by decide) (by decide) rfl (by decide) (by decide) (by decide) (by decide) (by decide) (by decide) (w9_358 hQ)
theorem w9_342 (hQ : ∀ l S F I, Mq G 129 l t129 S F I → Ag 76 g l → Q S F I) (l : Nat → Nat) (S : Shp) (F : Fl) (I : Il) (h : Mq G 113 l r_342 S F I) (hg : Ag 76 g l) : V_X9_init_342 (g 75) S F I Q :=
  w_arr (Nx := fun S F I => V_X9_init_350 (g 75) S F I Q) h hg (by decide) (by decide) rfl (by decide) (by decide) (by decide) (by decide) (by decide) (by decide) (w9_350 hQ)
theorem w9_334 (hQ : ∀ l S F I, Mq G 129 l t129 S F I → Ag 76 g l → Q S F I) (l : Nat → Nat) (S : Shp) (F : Fl) (I : Il) (h : Mq G 112 l r_334 S F I) (hg : Ag 76 g l) : V_X9_init_334 (g 75) S F I Q :=
  w_arr (Nx := fun S F I => V_X9_init_342 (g 75) S F I Q) h hg (by decide) (by decide) rfl (by decide) (by decide) (by decide) (by decide) (by decide) (by decide) (w9_342 hQ)
theorem w9_326 (hQ : ∀ l S F I, Mq G 129 l t129 S F I → Ag 76 g l → Q S F I) (l : Nat → Nat) (S : Shp) (F : Fl) (I : Il) (h : Mq G 111 l r_326 S F I) (hg : Ag 76 g l) : V_X9_init_326 (g 75) S F I Q :=
  w_arr (Nx := fun S F I => V_X9_init_334 (g 75) S F I Q) h hg (by decide) (by decide) rfl (by decide) (by decide) (by decide) (by decide) (by decide) (by decide) (w9_334 hQ)
theorem w9_318 (hQ : ∀ l S F I, Mq G 129 l t129 S F I → Ag 76 g l → Q S F I) (l : Nat → Nat) (S : Shp) (F : Fl) (I : Il) (h : Mq G 110 l r_318 S F I) (hg : Ag 76 g l) : V_X9_init_318 (g 75) S F I Q :=
  w_arr (Nx := fun S F I => V_X9_init_326 (g 75) S F I Q) h hg (by decide) (by decide) rfl (by decide) (by decide) (by decide) (by decide) (by decide) (by decide) (w9_326 hQ)
theorem w9_310 (hQ : ∀ l S F I, Mq G 129 l t129 S F I → Ag 76 g l → Q S F I) (l : Nat → Nat) (S : Shp) (F : Fl) (I : Il) (h : Mq G 109 l r_310 S F I) (hg : Ag 76 g l) : V_X9_init_310 (g 75) S F I Q :=
  w_arr (Nx := fun S F I => V_X9_init_318 (g 75) S F I Q) h hg (by decide) (by decide) rfl (by decide) (by decide) (by decide) (by decide) (by decide) (by decide) (w9_318 hQ)
theorem w9_302 (hQ : ∀ l S F I, Mq G 129 l t129 S F I → Ag 76 g l → Q S F I) (l : Nat → Nat) (S : Shp) (F : Fl) (I : Il) (h : Mq G 108 l r_302 S F I) (hg : Ag 76 g l) : V_X9_init_302 (g 75) S F I Q :=
  w_arr (Nx := fun S F I => V_X9_init_310 (g 75) S F I Q) h hg (by decide) (by decide) rfl (by decide) (by decide) (by decide) (by decide) (by decide) (by decide) (w9_310 hQ)
theorem w9_294 (hQ : ∀ l S F I, Mq G 129 l t129 S F I → Ag 76 g l → Q S F I) (l : Nat → Nat) (S : Shp) (F : Fl) (I : Il) (h : Mq G 107 l r_294 S F I) (hg : Ag 76 g l) : V_X9_init_294 (g 75) S F I Q :=
  w_arr (Nx := fun S F I => V_X9_init_302 (g 75) S F I Q) h hg (by decide) (by decide) rfl (by decide) (by decide) (by decide) (by decide) (by decide) (by decide) (w9_302 hQ)
theorem w9_286 (hQ : ∀ l S F I, Mq G 129 l t129 S F I → Ag 76 g l → Q S F I) (l : Nat → Nat) (S : Shp) (F : Fl) (I : Il) (h : Mq G 106 l r_286 S F I) (hg : Ag 76 g l) : V_X9_init_286 (g 75) S F I Q :=
  w_arr (Nx := fun S F I => V_X9_init_294 (g 75) S F I Q) h hg (by decide) (by decide) rfl (by decide) (by decide) (by decide) (by decide) (by decide) (by decide) (w9_294 hQ)
theorem w9_278 (hQ : ∀ l S F I, Mq G 129 l t129 S F I → Ag 76 g l → Q S F I) (l : Nat → Nat) (S : Shp) (F : Fl) (I : Il) (h : Mq G 105 l r_278 S F I) (hg : Ag 76 g l) : V_X9_init_278 (g 75) S F I Q :=
  w_arr (Nx := fun S F I => V_X9_init_286 (g 75) S F I Q) h hg (by decide) (by decide) rfl (by decide) (by decide) (by decide) (by decide) (by decide) (by decide) (w9_286 hQ)
theorem w9_270 (hQ : ∀ l S F I, Mq G 129 l t129 S F I → Ag 76 g l → Q S F I) (l : Nat → Nat) (S : Shp) (F : Fl) (I : Il) (h : Mq G 104 l r_270 S F I) (hg : Ag 76 g l) : V_X9_init_270 (g 75) S F I Q :=
  w_arr (Nx := fun S F I => V_X9_init_278 (g 75) S F I Q) h hg (by decide) (by decide) rfl (by decide) (by decide) (by decide) (by decide) (by decide) (by decide) (w9_278 hQ)
theorem w9_262 (hQ : ∀ l S F I, Mq G 129 l t129 S F I → Ag 76 g l → Q S F I) (l : Nat → Nat) (S : Shp) (F : Fl) (I : Il) (h : Mq G 103 l r_262 S F I) (hg : Ag 76 g l) : V_X9_init_262 (g 75) S F I Q :=
  w_arr (Nx := fun S F I => V_X9_init_270 (g 75) S F I Q) h hg (by decide) (by decide) rfl (by decide) (by decide) (by decide) (by decide) (by decide) (by decide) (w9_270 hQ)
theorem w9_254 (hQ : ∀ l S F I, Mq G 129 l t129 S F I → Ag 76 g l → Q S F I) (l : Nat → Nat) (S : Shp) (F : Fl) (I : Il) (h : Mq G 102 l r_254 S F I) (hg : Ag 76 g l) : V_X9_init_254 (g 75) S F I Q :=
  w_arr (Nx := fun S F I => V_X9_init_262 (g 75) S F I Q) h hg (by decide) (by decide) rfl (by decide) (by decide) (by decide) (by decide) (by decide) (by decide) (w9_262 hQ)
theorem w9_245 (hQ : ∀ l S F I, Mq G 129 l t129 S F I → Ag 76 g l → Q S F I) (l : Nat → Nat) (S : Shp) (F : Fl) (I : Il) (h : Mq G 101 l r_245 S F I) (hg : Ag 76 g l) : V_X9_init_245 (g 75) S F I Q :=
  w_arr (Nx := fun S F I => V_X9_init_254 (g 75) S F I Q) h hg (by decide) (by decide) rfl (by decide) (by decide) (by decide) (by decide) (by decide) (by decide) (w9_254 hQ)
theorem w9_237 (hQ : ∀ l S F I, Mq G 129 l t129 S F I → Ag 76 g l → Q S F I) (l : Nat → Nat) (S : Shp) (F : Fl) (I : Il) (h : Mq G 100 l r_237 S F I) (hg : Ag 76 g l) : V_X9_init_237 (g 75) S F I Q :=
  w_arr (Nx := fun S F I => V_X9_init_245 (g 75) S F I Q) h hg (by decide) (by decide) rfl (by decide) (by decide) (by decide) (by decide) (by decide) (by decide) (w9_245 hQ)
theorem w9_229 (hQ : ∀ l S F I, Mq G 129 l t129 S F I → Ag 76 g l → Q S F I) (l : Nat → Nat) (S : Shp) (F : Fl) (I : Il) (h : Mq G 99 l r_229 S F I) (hg : Ag 76 g l) : V_X9_init_229 (g 75) S F I Q :=
  w_arr (Nx := fun S F I => V_X9_init_237 (g 75) S F I Q) h hg (by decide) (by decide) rfl (by decide) (by decide) (by decide) (by decide) (by decide) (by decide) (w9_237 hQ)
theorem w9_221 (hQ : ∀ l S F I, Mq G 129 l t129 S F I → Ag 76 g l → Q S F I) (l : Nat → Nat) (S : Shp) (F : Fl) (I : Il) (h : Mq G 98 l r_221 S F I) (hg : Ag 76 g l) : V_X9_init_221 (g 75) S F I Q :=
  w_arr (Nx := fun S F I => V_X9_init_229 (g 75) S F I Q) h hg (by decide) (by decide) rfl (by decide) (by decide) (by decide) (by decide) (by decide) (by decide) (w9_229 hQ)
theorem w9_213 (hQ : ∀ l S F I, Mq G 129 l t129 S F I → Ag 76 g l → Q S F I) (l : Nat → Nat) (S : Shp) (F : Fl) (I : Il) (h : Mq G 97 l r_213 S F I) (hg : Ag 76 g l) : V_X9_init_213 (g 75) S F I Q :=
  w_arr (Nx := fun S F I => V_X9_init_221 (g 75) S F I Q) h hg (by decide) (by decide) rfl (by decide) (by decide) (by decide) (by decide) (by decide) (by decide) (w9_221 hQ)
theorem w9_205 (hQ : ∀ l S F I, Mq G 129 l t129 S F I → Ag 76 g l → Q S F I) (l : Nat → Nat) (S : Shp) (F : Fl) (I : Il) (h : Mq G 96 l r_205 S F I) (hg : Ag 76 g l) : V_X9_init_205 (g 75) S F I Q :=
  w_arr (Nx := fun S F I => V_X9_init_213 (g 75) S F I Q) h hg (by decide) (by decide) rfl (by decide) (by decide) (by decide) (by decide) (by decide) (by decide) (w9_213 hQ)
theorem w9_197 (hQ : ∀ l S F I, Mq G 129 l t129 S F I → Ag 76 g l → Q S F I) (l : Nat → Nat) (S : Shp) (F : Fl) (I : Il) (h : Mq G 95 l r_197 S F I) (hg : Ag 76 g l) : V_X9_init_197 (g 75) S F I Q :=
  w_arr (Nx := fun S F I => V_X9_init_205 (g 75) S F I Q) h hg (by decide) (by decide) rfl (by decide) (by decide) (by decide) (by decide) (by decide) (by decide) (w9_205 hQ)
theorem w9_189 (hQ : ∀ l S F I, Mq G 129 l t129 S F I → Ag 76 g l → Q S F I) (l : Nat → Nat) (S : Shp) (F : Fl) (I : Il) (h : Mq G 94 l r_189 S F I) (hg : Ag 76 g l) : V_X9_init_189 (g 75) S F I Q :=
  w_arr (Nx := fun S F I => V_X9_init_197 (g 75) S F I Q) h hg (by decide) (by decide) rfl (by decide) (by decide) (by decide) (by decide) (by decide) (by decide) (w9_197 hQ)
theorem w9_181 (hQ : ∀ l S F I, Mq G 129 l t129 S F I → Ag 76 g l → Q S F I) (l : Nat → Nat) (S : Shp) (F : Fl) (I : Il) (h : Mq G 93 l r_181 S F I) (hg : Ag 76 g l) : V_X9_init_181 (g 75) S F I Q :=
  w_arr (Nx := fun S F I => V_X9_init_189 (g 75) S F I Q) h hg (by decide) (by decide) rfl (by decide) (by decide) (by decide) (by decide) (by decide) (by decide) (w9_189 hQ)
theorem w9_173 (hQ : ∀ l S F I, Mq G 129 l t129 S F I → Ag 76 g l → Q S F I) (l : Nat → Nat) (S : Shp) (F : Fl) (I : Il) (h : Mq G 92 l r_173 S F I) (hg : Ag 76 g l) : V_X9_init_173 (g 75) S F I Q :=
  w_arr (Nx := fun S F I => V_X9_init_181 (g 75) S F I Q) h hg (by decide) (by decide) rfl (by decide) (by decide) (by decide) (by decide) (by decide) (by decide) (w9_181 hQ)
theorem w9_165 (hQ : ∀ l S F I, Mq G 129 l t129 S F I → Ag 76 g l → Q S F I) (l : Nat → Nat) (S : Shp) (F : Fl) (I : Il) (h : Mq G 91 l r_165 S F I) (hg : Ag 76 g l) : V_X9_init_165 (g 75) S F I Q :=
  w_arr (Nx := fun S F I => V_X9_init_173 (g 75) S F I Q) h hg (by decide) (by decide) rfl (by decide) (by decide) (by decide) (by decide) (by decide) (by decide) (w9_173 hQ)
theorem w9_157 (hQ : ∀ l S F I, Mq G 129 l t129 S F I → Ag 76 g l → Q S F I) (l : Nat → Nat) (S : Shp) (F : Fl) (I : Il) (h : Mq G 90 l r_157 S F I) (hg : Ag 76 g l) : V_X9_init_157 (g 75) S F I Q :=
  w_arr (Nx := fun S F I => V_X9_init_165 (g 75) S F I Q) h hg (by decide) (by decide) rfl (by decide) (by decide) (by decide) (by decide) (by decide) (by decide) (w9_165 hQ)
theorem w9_149 (hQ : ∀ l S F I, Mq G 129 l t129 S F I → Ag 76 g l → Q S F I) (l : Nat → Nat) (S : Shp) (F : Fl) (I : Il) (h : Mq G 89 l r_149 S F I) (hg : Ag 76 g l) : V_X9_init_149 (g 75) S F I Q :=
  w_arr (Nx := fun S F I => V_X9_init_157 (g 75) S F I Q) h hg (by decide) (by decide) rfl (by decide) (by decide) (by decide) (by decide) (by decide) (by decide) (w9_157 hQ)
theorem w9_141 (hQ : ∀ l S F I, Mq G 129 l t129 S F I → Ag 76 g l → Q S F I) (l : Nat → Nat) (S : Shp) (F : Fl) (I : Il) (h : Mq G 88 l r_141 S F I) (hg : Ag 76 g l) : V_X9_init_141 (g 75) S F I Q :=
  w_arr (Nx := fun S F I => V_X9_init_149 (g 75) S F I Q) h hg (by decide) (by decide) rfl (by decide) (by decide) (by decide) (by decide) (by decide) (by decide) (w9_149 hQ)
theorem w9_133 (hQ : ∀ l S F I, Mq G 129 l t129 S F I → Ag 76 g l → Q S F I) (l : Nat → Nat) (S : Shp) (F : Fl) (I : Il) (h : Mq G 87 l r_133 S F I) (hg : Ag 76 g l) : V_X9_init_133 (g 75) S F I Q :=
  w_arr (Nx := fun S F I => V_X9_init_141 (g 75) S F I Q) h hg (by decide) (by decide) rfl (by decide) (by decide) (by decide) (by decide) (by decide) (by decide) (w9_141 hQ)
theorem w9_125 (hQ : ∀ l S F I, Mq G 129 l t129 S F I → Ag 76 g l → Q S F I) (l : Nat → Nat) (S : Shp) (F : Fl) (I : Il) (h : Mq G 86 l r_125 S F I) (hg : Ag 76 g l) : V_X9_init_125 (g 75) S F I Q :=
  w_arr (Nx := fun S F I => V_X9_init_133 (g 75) S F I Q) h hg (by decide) (by decide) rfl (by decide) (by decide) (by decide) (by decide) (by decide) (by decide) (w9_133 hQ)
theorem w9_117 (hQ : ∀ l S F I, Mq G 129 l t129 S F I → Ag 76 g l → Q S F I) (l : Nat → Nat) (S : Shp) (F : Fl) (I : Il) (h : Mq G 85 l r_117 S F I) (hg : Ag 76 g l) : V_X9_init_117 (g 75) S F I Q :=
  w_arr (Nx := fun S F I => V_X9_init_125 (g 75) S F I Q) h hg (by decide) (by decide) rfl (by decide) (by decide) (by decide) (by decide) (by decide) (by decide) (w9_125 hQ)
theorem w9_109 (hQ : ∀ l S F I, Mq G 129 l t129 S F I → Ag 76 g l → Q S F I) (l : Nat → Nat) (S : Shp) (F : Fl) (I : Il) (h : Mq G 84 l r_109 S F I) (hg : Ag 76 g l) : V_X9_init_109 (g 75) S F I Q :=
  w_arr (Nx := fun S F I => V_X9_init_117 (g 75) S F I Q) h hg (by decide) (by decide) rfl (by decide) (by decide) (by decide) (by decide) (by decide) (by decide) (w9_117 hQ)
theorem w9_101 (hQ : ∀ l S F I, Mq G 129 l t129 S F I → Ag 76 g l → Q S F I) (l : Nat → Nat) (S : Shp) (F : Fl) (I : Il) (h : Mq G 83 l r_101 S F I) (hg : Ag 76 g l) : V_X9_init_101 (g 75) S F I Q :=
  w_arr (Nx := fun S F I => V_X9_init_109 (g 75) S F I Q) h hg (by decide) (by decide) rfl (by decide) (by decide) (by decide) (by decide) (by decide) (by decide) (w9_109 hQ)
theorem w9_93 (hQ : ∀ l S F I, Mq G 129 l t129 S F I → Ag 76 g l → Q S F I) (l : Nat → Nat) (S : Shp) (F : Fl) (I : Il) (h : Mq G 82 l r_93 S F I) (hg : Ag 76 g l) : V_X9_init_93 (g 75) S F I Q :=
  w_arr (Nx := fun S F I => V_X9_init_101 (g 75) S F I Q) h hg (by decide) (by decide) rfl (by decide) (by decide) (by decide) (by decide) (by decide) (by decide) (w9_101 hQ)
theorem w9_85 (hQ : ∀ l S F I, Mq G 129 l t129 S F I → Ag 76 g l → Q S F I) (l : Nat → Nat) (S : Shp) (F : Fl) (I : Il) (h : Mq G 81 l r_85 S F I) (hg : Ag 76 g l) : V_X9_init_85 (g 75) S F I Q :=
  w_arr (Nx := fun S F I => V_X9_init_93 (g 75) S F I Q) h hg (by decide) (by decide) rfl (by decide) (by decide) (by decide) (by decide) (by decide) (by decide) (w9_93 hQ)
theorem w9_77 (hQ : ∀ l S F I, Mq G 129 l t129 S F I → Ag 76 g l → Q S F I) (l : Nat → Nat) (S : Shp) (F : Fl) (I : Il) (h : Mq G 80 l r_77 S F I) (hg : Ag 76 g l) : V_X9_init_77 (g 75) S F I Q :=
  w_arr (Nx := fun S F I => V_X9_init_85 (g 75) S F I Q) h hg (by decide) (by decide) rfl (by decide) (by decide) (by decide) (by decide) (by decide) (by decide) (w9_85 hQ)
theorem w9_69 (hQ : ∀ l S F I, Mq G 129 l t129 S F I → Ag 76 g l → Q S F I) (l : Nat → Nat) (S : Shp) (F : Fl) (I : Il) (h : Mq G 79 l r_69 S F I) (hg : Ag 76 g l) : V_X9_init_69 (g 75) S F I Q :=
  w_arr (Nx := fun S F I => V_X9_init_77 (g 75) S F I Q) h hg (by decide) (by decide) rfl (by decide) (by decide) (by decide) (by decide) (by decide) (by decide) (w9_77 hQ)
theorem w9_61 (hQ : ∀ l S F I, Mq G 129 l t129 S F I → Ag 76 g l → Q S F I) (l : Nat → Nat) (S : Shp) (F : Fl) (I : Il) (h : Mq G 78 l r_61 S F I) (hg : Ag 76 g l) : V_X9_init_61 (g 75) S F I Q :=
  w_arr (Nx := fun S F I => V_X9_init_69 (g 75) S F I Q) h hg (by decide) (by decide) rfl (by decide) (by decide) (by decide) (by decide) (by decide) (by decide) (w9_69 hQ)
theorem w9_53 (hQ : ∀ l S F I, Mq G 129 l t129 S F I → Ag 76 g l → Q S F I) (l : Nat → Nat) (S : Shp) (F : Fl) (I : Il) (h : Mq G 77 l t_53 S F I) (hg : Ag 76 g l) : V_X9_init_53 (g 75) S F I Q :=
  w_arr (Nx := fun S F I => V_X9_init_61 (g 75) S F I Q) h hg (by decide) (by decide) rfl (by decide) (by decide) (by decide) (by decide) (by decide) (by decide) (w9_61 hQ)
theorem w9_11 (hQ : ∀ l S F I, Mq G 129 l t129 S F I → Ag 76 g l → Q S F I) (l : Nat → Nat) (S : Shp) (F : Fl) (I : Il) (h : Mq G 76 l t_11 S F I) (hg : Ag 76 g l) : V_X9_init_11 (g 75) S F I Q := by
  refine ⟨h.a_ (by decide), h.b_ (by decide) (by decide), fun q hq => ?_⟩
  have hA := h.A_ (m := 8) hq (show kk0 76 = 20 by decide) (by decide) (by decide) (by decide) (by decide)
  have hg2 : Ag 76 g (lup l 76 q) := hg.up (by decide)
  have e0 : lup l 76 q 75 = g 75 := hg2 75 (by decide)
  have k0 : sK (newA S q 20 8) q = 20 := va_up_self _ _ _
  have n0 : sN (newA S q 20 8) q = 8 := va_up_self _ _ _
  rw [n0]
  refine ⟨k0, by decide, by decide, by decide, by decide, by decide, by decide, by decide, by decide, by decide, by decide, by decide, by decide, by decide, by decide, by decide, by decide, by rw [← e0]; exact (hA.k_ (by decide)).trans (by decide), ?_⟩
  have lq : lup l 76 q 76 = q := lup_s
  refine w9_53 hQ _ _ _ _ ((hA.j_ (i := 76) (v := 2) (by decide) (fun b j hb => ?_) (fun j j0 j1 => ?_)).R_ (by decide) (Or.inl (by decide)) e0 lq) hg2
  · rw [lq] at hb
    simp only [ui, hb, false_and, if_false]
  · rw [lq]
    have j1 : j < 8 := j1
    obtain rfl | rfl | rfl | rfl | rfl | rfl | rfl | rfl : j = 0 ∨ j = 1 ∨ j = 2 ∨ j = 3 ∨ j = 4 ∨ j = 5 ∨ j = 6 ∨ j = 7 := by omega
    all_goals simp [ui]
theorem w9_X9 (hQ : ∀ l S F I, Mq G 129 l t129 S F I → Ag 76 g l → Q S F I) (l : Nat → Nat) (S : Shp) (F : Fl) (I : Il) (h : Mq G 76 l t_X9 S F I) (hg : Ag 76 g l) : V_X9_init (g 75) S F I Q :=
  w_fld (Nx := fun S F I => V_X9_init_11 (g 75) S F I Q) h hg (by decide) (by decide) rfl (by decide) (w9_11 hQ)
end Walk9
