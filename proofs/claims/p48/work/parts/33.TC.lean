set_option maxRecDepth 20000 in
set_option maxHeartbeats 4000000 in
theorem T_X1_holderAt {Y : Yt} {F0 : Fl} {I0 : Il}  {it LN : Nat → Nat} {S : Shp} {F : Fl} {I : Il} {x0 : Nat} {x1 : Int} {Q : Int → Prop} {Qw : Int → Prop} (hC : Cg Y it LN S)  (hF : Fc Y F0 I0 F I) (hQ : ∀ (z : Int), Qw z → Q z )  (h : W_X1_holderAt (yc Y) LN x0 x1 (Bc Y F) (Ec Y it I) Qw) : V_X1_holderAt (yg Y x0) x1 S F I Q := by
  unfold V_X1_holderAt
  unfold W_X1_holderAt at h
  obtain ⟨hk1, h⟩ := h
  refine ⟨Cg.k hC hk1 (by decide), ?_⟩
  refine ⟨fun c5 => ?_, fun c5 => ?_⟩
  · have h := h.1 c5
    exact hQ _ h
  · have h := h.2 c5
    exact hQ _ h
set_option maxRecDepth 20000 in
set_option maxHeartbeats 4000000 in
theorem T_X1_isClosedAt {Y : Yt} {F0 : Fl} {I0 : Il}  {it LN : Nat → Nat} {S : Shp} {F : Fl} {I : Il} {x0 : Nat} {x1 : Int} {Q : Int → Prop} {Qw : Int → Prop} (hC : Cg Y it LN S)  (hF : Fc Y F0 I0 F I) (hQ : ∀ (z : Int), Qw z → Q z )  (h : W_X1_isClosedAt (yc Y) LN x0 x1 (Bc Y F) (Ec Y it I) Qw) : V_X1_isClosedAt (yg Y x0) x1 S F I Q := by
  unfold V_X1_isClosedAt
  unfold W_X1_isClosedAt at h
  obtain ⟨hk1, h⟩ := h
  refine ⟨Cg.k hC hk1 (by decide), ?_⟩
  refine ⟨fun c4 => ?_, fun c4 => ?_⟩
  · have h := h.1 c4
    exact hQ _ h
  · have h := h.2 c4
    refine ⟨fun c12 => ?_, fun c12 => ?_⟩
    · have h := h.1 c12
      exact hQ _ h
    · have h := h.2 c12
      exact hQ _ h
set_option maxRecDepth 20000 in
set_option maxHeartbeats 4000000 in
theorem T_X1_isOfOthers_43 {Y : Yt} {F0 : Fl} {I0 : Il}  {it LN : Nat → Nat} {S : Shp} {F : Fl} {I : Il} {x0 : Nat} {x3 : Int} {x4 : Int} {Q : Int → Prop} {Qw : Int → Prop} (hC : Cg Y it LN S)  (hF : Fc Y F0 I0 F I) (hQ : ∀ (z : Int), Qw z → Q z )  (h : W_X1_isOfOthers_43 (yc Y) LN x0 x3 x4 (Bc Y F) (Ec Y it I) Qw) : V_X1_isOfOthers_43 (yg Y x0) x3 x4 S F I Q := by
  unfold V_X1_isOfOthers_43
  unfold W_X1_isOfOthers_43 at h
  obtain ⟨hk1, h⟩ := h
  refine ⟨Cg.k hC hk1 (by decide), ?_⟩
  refine ⟨fun c52 => ?_, fun c52 => ?_⟩
  · have h := h.1 c52
    exact hQ _ h
  · have h := h.2 c52
    refine ⟨fun c65 => ?_, fun c65 => ?_⟩
    · have h := h.1 c65
      exact hQ _ h
    · have h := h.2 c65
      exact hQ _ h
set_option maxRecDepth 20000 in
set_option maxHeartbeats 4000000 in
theorem T_X1_isOfOthers {Y : Yt} {F0 : Fl} {I0 : Il}  {it LN : Nat → Nat} {S : Shp} {F : Fl} {I : Il} {x0 : Nat} {x1 : Int} {x2 : Int} {Q : Int → Prop} {Qw : Int → Prop} (hC : Cg Y it LN S)  (hF : Fc Y F0 I0 F I) (hQ : ∀ (z : Int), Qw z → Q z )  (h : W_X1_isOfOthers (yc Y) LN x0 x1 x2 (Bc Y F) (Ec Y it I) Qw) : V_X1_isOfOthers (yg Y x0) x1 x2 S F I Q := by
  unfold V_X1_isOfOthers
  unfold W_X1_isOfOthers at h
  obtain ⟨hk1, h⟩ := h
  refine ⟨Cg.k hC hk1 (by decide), ?_⟩
  refine ⟨fun c8 => ?_, fun c8 => ?_⟩
  · have h := h.1 c8
    refine ⟨fun c31 => ?_, fun c31 => ?_⟩
    · have h := h.1 c31
      exact T_X1_isOfOthers_43 hC  hF hQ  h
    · have h := h.2 c31
      refine ⟨fun c40 => ?_, fun c40 => ?_⟩
      · have h := h.1 c40
        exact hQ _ h
      · have h := h.2 c40
        exact T_X1_isOfOthers_43 hC  hF hQ  h
  · have h := h.2 c8
    exact hQ _ h
set_option maxRecDepth 20000 in
set_option maxHeartbeats 4000000 in
theorem T_X1_otherEnd {Y : Yt} {F0 : Fl} {I0 : Il}  {it LN : Nat → Nat} {S : Shp} {F : Fl} {I : Il} {x0 : Nat} {x1 : Int} {Q : Int → Prop} {Qw : Int → Prop} (hC : Cg Y it LN S)  (hF : Fc Y F0 I0 F I) (hQ : ∀ (z : Int), Qw z → Q z )  (h : W_X1_otherEnd (yc Y) LN x0 x1 (Bc Y F) (Ec Y it I) Qw) : V_X1_otherEnd (yg Y x0) x1 S F I Q := by
  unfold V_X1_otherEnd
  unfold W_X1_otherEnd at h
  obtain ⟨hk1, h⟩ := h
  refine ⟨Cg.k hC hk1 (by decide), ?_⟩
  refine ⟨fun c5 => ?_, fun c5 => ?_⟩
  · have h := h.1 c5
    refine ⟨fun c18 => ?_, fun c18 => ?_⟩
    · have h := h.1 c18
      exact hQ _ h
    · have h := h.2 c18
      exact hQ _ h
  · have h := h.2 c5
    exact hQ _ h
set_option maxRecDepth 20000 in
set_option maxHeartbeats 4000000 in
theorem T_X2_weight {Y : Yt} {F0 : Fl} {I0 : Il}  {it LN : Nat → Nat} {S : Shp} {F : Fl} {I : Il} {x0 : Nat} {Q : Int → Prop} {Qw : Int → Prop} (hC : Cg Y it LN S)  (hF : Fc Y F0 I0 F I) (hQ : ∀ (z : Int), Qw z → Q z )  (h : W_X2_weight (yc Y) LN x0 (Bc Y F) (Ec Y it I) Qw) : V_X2_weight (yg Y x0) S F I Q := by
  unfold V_X2_weight
  unfold W_X2_weight at h
  obtain ⟨hk1, h⟩ := h
  refine ⟨Cg.k hC hk1 (by decide), ?_⟩
  refine ⟨fun c5 => ?_, fun c5 => ?_⟩
  · have h := h.1 c5
    exact hQ _ h
  · have h := h.2 c5
    exact hQ _ h
set_option maxRecDepth 20000 in
set_option maxHeartbeats 4000000 in
theorem T_X2_write {Y : Yt} {F0 : Fl} {I0 : Il}  {it LN : Nat → Nat} {S : Shp} {F : Fl} {I : Il} {x0 : Nat} {x1 : Int} {x2 : Int} {Q : Shp → Fl → Il → Prop} {Qw : (Nat → Nat) → Fl → El → Prop} (hC : Cg Y it LN S)  (hF : Fc Y F0 I0 F I) (hQ : ∀ (it' : Nat → Nat) (LN' : Nat → Nat) (S' : Shp) (F' : Fl) (I' : Il), Cg Y it' LN' S' → Fc Y F0 I0 F' I' → Qw  LN' (Bc Y F') (Ec Y it' I') → Q  S' F' I')  (h : W_X2_write (yc Y) x0 x1 x2 LN (Bc Y F) (Ec Y it I) Qw) : V_X2_write (yg Y x0) x1 x2 S F I Q := by
  unfold V_X2_write
  unfold W_X2_write at h
  obtain ⟨hk1, h⟩ := h
  refine ⟨Cg.k hC hk1 (by decide), ?_⟩
  refine ⟨_, Cg.r304 hC hk1, ?_⟩
  obtain ⟨hk2, h⟩ := h
  refine ⟨Cg.k hC hk2 (by decide), ?_⟩
  refine T_X5_append hC hF (fun it_3 LN_4 S_5 F_6 I_7 hC10 hF11 h => ?_)  h
  try dsimp only at h
  exact hQ _ _ _ _ _ hC10 hF11 h
set_option maxRecDepth 20000 in
set_option maxHeartbeats 4000000 in
theorem T_X3_isRestingAt {Y : Yt} {F0 : Fl} {I0 : Il}  {it LN : Nat → Nat} {S : Shp} {F : Fl} {I : Il} {x0 : Nat} {x1 : Int} {Q : Int → Prop} {Qw : Int → Prop} (hC : Cg Y it LN S)  (hF : Fc Y F0 I0 F I) (hQ : ∀ (z : Int), Qw z → Q z )  (h : W_X3_isRestingAt (yc Y) LN x0 x1 (Bc Y F) (Ec Y it I) Qw) : V_X3_isRestingAt (yg Y x0) x1 S F I Q := by
  unfold V_X3_isRestingAt
  unfold W_X3_isRestingAt at h
  obtain ⟨hk1, h⟩ := h
  refine ⟨Cg.k hC hk1 (by decide), ?_⟩
  refine ⟨fun c5 => ?_, fun c5 => ?_⟩
  · have h := h.1 c5
    exact hQ _ h
  · have h := h.2 c5
    exact hQ _ h
set_option maxRecDepth 20000 in
set_option maxHeartbeats 4000000 in
theorem T_X5_at {Y : Yt} {F0 : Fl} {I0 : Il}  {it LN : Nat → Nat} {S : Shp} {F : Fl} {I : Il} {x0 : Nat} {x1 : Int} {Q : Int → Prop} {Qw : Int → Prop} (hC : Cg Y it LN S)  (hF : Fc Y F0 I0 F I) (hQ : ∀ (z : Int), Qw z → Q z )  (h : W_X5_at (yc Y) LN x0 x1 (Bc Y F) (Ec Y it I) Qw) : V_X5_at (yg Y x0) x1 S F I Q := by
  unfold V_X5_at
  unfold W_X5_at at h
  refine ⟨fun c1 => ?_, fun c1 => ?_⟩
  · have h := h.1 c1
    exact hQ _ h
  · have h := h.2 c1
    obtain ⟨hk1, h⟩ := h
    refine ⟨Cg.k hC hk1 (by decide), ?_⟩
    refine ⟨fun c9 => ?_, fun c9 => ?_⟩
    · have h := h.1 c9
      exact hQ _ h
    · have h := h.2 c9
      refine ⟨_, (Cg.itm hC hk1).1, ?_⟩
      obtain ⟨hk2, h⟩ := h
      refine ⟨(Cg.itm hC hk2).2.1, ?_⟩
      rw [(Cg.itm hC hk2).2.2.1]
      refine ⟨Nat.le_trans (Cg.itm hC hk2).2.2.2 (by decide), ?_⟩
      refine ⟨fun c18 => ?_, fun c18 => ?_⟩
      · have h := h.1 c18
        exact hQ _ h
      · have h := h.2 c18
        obtain ⟨h0, h1, h⟩ := h
        refine ⟨h0, (by first | exact h1 | (rw [(Cg.itm hC hk2).2.2.1]; exact h1)), ?_⟩
        exact hQ _ h
set_option maxRecDepth 20000 in
set_option maxHeartbeats 4000000 in
theorem T_X5_empty {Y : Yt} {F0 : Fl} {I0 : Il}  {it LN : Nat → Nat} {S : Shp} {F : Fl} {I : Il} {x0 : Nat} {Q : Fl → Prop} {Qw : Fl → El → Prop} (hC : Cg Y it LN S)  (hF : Fc Y F0 I0 F I) (hQ : ∀ (F' : Fl), Fc Y F0 I0 F' I → Qw  (Bc Y F') (Ec Y it I) → Q  F')  (h : W_X5_empty (yc Y) LN x0 (Bc Y F) (Ec Y it I) Qw) : V_X5_empty (yg Y x0) S F I Q := by
  unfold V_X5_empty
  unfold W_X5_empty at h
  obtain ⟨hk1, h⟩ := h
  refine ⟨Cg.k hC hk1 (by decide), ?_⟩
  rw [← Bc_f (F := F) hC hk1 (by decide)] at h
  exact hQ _ (Fc.f (k := 601) (by decide) hF) h
set_option maxRecDepth 20000 in
set_option maxHeartbeats 4000000 in
theorem T_X5_copy_6 {Y : Yt} {F0 : Fl} {I0 : Il}   {Q : Shp → Fl → Il → Prop} {Qw : (Nat → Nat) → Fl → El → Prop}   (hQ : ∀ (it' : Nat → Nat) (LN' : Nat → Nat) (S' : Shp) (F' : Fl) (I' : Il), Cg Y it' LN' S' → Fc Y F0 I0 F' I' → Qw  LN' (Bc Y F') (Ec Y it' I') → Q  S' F' I')  (n9 : Nat) : ∀ (x0 : Nat) (x1 : Nat) (x2 : Int) (it : Nat → Nat) (LN : Nat → Nat) (S : Shp) (F : Fl) (I : Il), Cg Y it LN S → Fc Y F0 I0 F I → W_X5_copy_6 (yc Y) n9 x0 x1 x2 LN (Bc Y F) (Ec Y it I) Qw → V_X5_copy_6 n9 (yg Y x0) (yg Y x1) x2 S F I Q := by
  induction n9 with
  | zero => intro x0 x1 x2 it LN S F I hC hF h; exact h.elim
  | succ n ih =>
    intro x0 x1 x2 it LN S F I hC hF h
    unfold V_X5_copy_6
    unfold W_X5_copy_6 at h
    obtain ⟨hk1, h⟩ := h
    refine ⟨Cg.k hC hk1 (by decide), ?_⟩
    refine ⟨fun c11 => ?_, fun c11 => ?_⟩
    · have h := h.1 c11
      exact hQ _ _ _ _ _ hC hF h
    · have h := h.2 c11
      refine T_X5_at hC hF (fun z2 h => ?_)  h
      try dsimp only at h
      obtain ⟨hk3, h⟩ := h
      refine ⟨Cg.k hC hk3 (by decide), ?_⟩
      refine T_X5_append hC hF (fun it_4 LN_5 S_6 F_7 I_8 hC11 hF12 h => ?_)  h
      try dsimp only at h
      exact ih _ _ _ _ _ _ _ _ hC11 hF12 h
set_option maxRecDepth 20000 in
set_option maxHeartbeats 4000000 in
theorem T_X5_copy {Y : Yt} {F0 : Fl} {I0 : Il}  {it LN : Nat → Nat} {S : Shp} {F : Fl} {I : Il} {x0 : Nat} {x1 : Nat} {Q : Shp → Fl → Il → Prop} {Qw : (Nat → Nat) → Fl → El → Prop} (hC : Cg Y it LN S)  (hF : Fc Y F0 I0 F I) (hQ : ∀ (it' : Nat → Nat) (LN' : Nat → Nat) (S' : Shp) (F' : Fl) (I' : Il), Cg Y it' LN' S' → Fc Y F0 I0 F' I' → Qw  LN' (Bc Y F') (Ec Y it' I') → Q  S' F' I')  (h : W_X5_copy (yc Y) x0 x1 LN (Bc Y F) (Ec Y it I) Qw) : V_X5_copy (yg Y x0) (yg Y x1) S F I Q := by
  unfold V_X5_copy
  unfold W_X5_copy at h
  obtain ⟨hk1, h⟩ := h
  refine ⟨Cg.k hC hk1 (by decide), ?_⟩
  refine T_X5_empty hC hF (fun F_2 hF5 h => ?_)  h
  try dsimp only at h
  obtain ⟨n9, h⟩ := h
  exact ⟨n9, T_X5_copy_6   hQ  n9 _ _ _ _ _ _ _ _ hC hF5 h⟩
set_option maxRecDepth 20000 in
set_option maxHeartbeats 4000000 in
theorem T_X5_drop_76 {Y : Yt} {F0 : Fl} {I0 : Il}  {it LN : Nat → Nat} {S : Shp} {F : Fl} {I : Il} {x0 : Nat} {x2 : Int} {Q : Fl → Il → Prop} {Qw : Fl → El → Prop} (hC : Cg Y it LN S)  (hF : Fc Y F0 I0 F I) (hQ : ∀ (F' : Fl) (I' : Il), Fc Y F0 I0 F' I' → Qw  (Bc Y F') (Ec Y it I') → Q  F' I')  (h : W_X5_drop_76 (yc Y) LN x0 x2 (Bc Y F) (Ec Y it I) Qw) : V_X5_drop_76 (yg Y x0) x2 S F I Q := by
  unfold V_X5_drop_76
  unfold W_X5_drop_76 at h
  refine ⟨fun c77 => ?_, fun c77 => ?_⟩
  · have h := h.1 c77
    exact hQ _ _ hF h
  · have h := h.2 c77
    obtain ⟨hk1, h⟩ := h
    refine ⟨Cg.k hC hk1 (by decide), ?_⟩
    rw [← Bc_f (F := F) hC hk1 (by decide)] at h
    exact hQ _ _ (Fc.f (k := 601) (by decide) hF) h
set_option maxRecDepth 20000 in
set_option maxHeartbeats 4000000 in
theorem T_X5_drop_70 {Y : Yt} {F0 : Fl} {I0 : Il} {kv4 : Nat → Int → Int → Int → Fl → Il → Prop} {k4 : Nat → Int → Int → Int → Fl → El → Prop} {it LN : Nat → Nat} {S : Shp} {F : Fl} {I : Il} {x0 : Nat} {x1 : Int} {x2 : Int} {x3 : Int} {Q : Fl → Il → Prop} {Qw : Fl → El → Prop} (hC : Cg Y it LN S) (hk4 : ∀ (x0 : Nat) (x1 : Int) (x2 : Int) (x3 : Int) (F' : Fl) (I' : Il), Fc Y F0 I0 F' I' → k4 x0 x1 x2 x3 (Bc Y F') (Ec Y it I') → kv4 (yg Y x0) x1 x2 x3 F' I') (hF : Fc Y F0 I0 F I) (hQ : ∀ (F' : Fl) (I' : Il), Fc Y F0 I0 F' I' → Qw  (Bc Y F') (Ec Y it I') → Q  F' I')  (h : W_X5_drop_70 (yc Y) LN k4 x0 x1 x2 x3 (Bc Y F) (Ec Y it I) Qw) : V_X5_drop_70 kv4 (yg Y x0) x1 x2 x3 S F I Q := by
  unfold V_X5_drop_70
  unfold W_X5_drop_70 at h
  exact hk4 _ _ _ _ _ _  hF h
set_option maxRecDepth 20000 in
set_option maxHeartbeats 4000000 in
theorem T_X5_drop_40 {Y : Yt} {F0 : Fl} {I0 : Il} {kv4 : Nat → Int → Int → Int → Fl → Il → Prop} {k4 : Nat → Int → Int → Int → Fl → El → Prop} {it LN : Nat → Nat} {S : Shp} {F : Fl} {I : Il} {x0 : Nat} {x1 : Int} {x3 : Int} {s0 : Int} {Q : Fl → Il → Prop} {Qw : Fl → El → Prop} (hC : Cg Y it LN S) (hk4 : ∀ (x0 : Nat) (x1 : Int) (x2 : Int) (x3 : Int) (F' : Fl) (I' : Il), Fc Y F0 I0 F' I' → k4 x0 x1 x2 x3 (Bc Y F') (Ec Y it I') → kv4 (yg Y x0) x1 x2 x3 F' I') (hF : Fc Y F0 I0 F I) (hQ : ∀ (F' : Fl) (I' : Il), Fc Y F0 I0 F' I' → Qw  (Bc Y F') (Ec Y it I') → Q  F' I')  (h : W_X5_drop_40 (yc Y) LN k4 x0 x1 x3 s0 (Bc Y F) (Ec Y it I) Qw) : V_X5_drop_40 kv4 (yg Y x0) x1 x3 s0 S F I Q := by
  unfold V_X5_drop_40
  unfold W_X5_drop_40 at h
  refine ⟨fun c42 => ?_, fun c42 => ?_⟩
  · have h := h.1 c42
    exact T_X5_drop_70 hC hk4 hF hQ  h
  · have h := h.2 c42
    obtain ⟨hk1, h⟩ := h
    refine ⟨Cg.k hC hk1 (by decide), ?_⟩
    refine ⟨_, (Cg.itm hC hk1).1, ?_⟩
    obtain ⟨hk2, h⟩ := h
    refine ⟨(Cg.itm hC hk2).2.1, ?_⟩
    rw [(Cg.itm hC hk2).2.2.1]
    refine ⟨Nat.le_trans (Cg.itm hC hk2).2.2.2 (by decide), ?_⟩
    refine ⟨fun c53 => ?_, fun c53 => ?_⟩
    · have h := h.1 c53
      exact T_X5_drop_70 hC hk4 hF hQ  h
    · have h := h.2 c53
      obtain ⟨h0, h1, h⟩ := h
      refine ⟨h0, (by first | exact h1 | (rw [(Cg.itm hC hk2).2.2.1]; exact h1)), ?_⟩
      obtain ⟨h0, h1, h⟩ := h
      refine ⟨h0, (by first | exact h1 | (rw [(Cg.itm hC hk2).2.2.1]; exact h1)), ?_⟩
      rw [← Ec_t (I := I) hC hk2] at h
      exact T_X5_drop_70 hC hk4 (Fc.itm hC hk2 hF) hQ  h
set_option maxRecDepth 20000 in
set_option maxHeartbeats 4000000 in
theorem T_X5_drop_35 {Y : Yt} {F0 : Fl} {I0 : Il} {kv4 : Nat → Int → Int → Int → Fl → Il → Prop} {k4 : Nat → Int → Int → Int → Fl → El → Prop} {it LN : Nat → Nat} {S : Shp} {F : Fl} {I : Il} {x0 : Nat} {x1 : Int} {x3 : Int} {Q : Fl → Il → Prop} {Qw : Fl → El → Prop} (hC : Cg Y it LN S) (hk4 : ∀ (x0 : Nat) (x1 : Int) (x2 : Int) (x3 : Int) (F' : Fl) (I' : Il), Fc Y F0 I0 F' I' → k4 x0 x1 x2 x3 (Bc Y F') (Ec Y it I') → kv4 (yg Y x0) x1 x2 x3 F' I') (hF : Fc Y F0 I0 F I) (hQ : ∀ (F' : Fl) (I' : Il), Fc Y F0 I0 F' I' → Qw  (Bc Y F') (Ec Y it I') → Q  F' I')  (h : W_X5_drop_35 (yc Y) LN k4 x0 x1 x3 (Bc Y F) (Ec Y it I) Qw) : V_X5_drop_35 kv4 (yg Y x0) x1 x3 S F I Q := by
  unfold V_X5_drop_35
  unfold W_X5_drop_35 at h
  exact T_X5_drop_40 hC hk4 hF hQ  h
set_option maxRecDepth 20000 in
set_option maxHeartbeats 4000000 in
theorem T_X5_drop_4 {Y : Yt} {F0 : Fl} {I0 : Il}  {it : Nat → Nat} {LN : Nat → Nat} {S : Shp} {Q : Fl → Il → Prop} {Qw : Fl → El → Prop} (hC : Cg Y it LN S)  (hQ : ∀ (F' : Fl) (I' : Il), Fc Y F0 I0 F' I' → Qw  (Bc Y F') (Ec Y it I') → Q  F' I')  (n9 : Nat) : ∀ (x0 : Nat) (x1 : Int) (x2 : Int) (x3 : Int) (F : Fl) (I : Il), Fc Y F0 I0 F I → W_X5_drop_4 (yc Y) LN n9 x0 x1 x2 x3 (Bc Y F) (Ec Y it I) Qw → V_X5_drop_4 n9 (yg Y x0) x1 x2 x3 S F I Q := by
  induction n9 with
  | zero => intro x0 x1 x2 x3 F I hF h; exact h.elim
  | succ n ih =>
    intro x0 x1 x2 x3 F I hF h
    unfold V_X5_drop_4
    unfold W_X5_drop_4 at h
    obtain ⟨hk1, h⟩ := h
    refine ⟨Cg.k hC hk1 (by decide), ?_⟩
    refine ⟨fun c9 => ?_, fun c9 => ?_⟩
    · have h := h.1 c9
      exact T_X5_drop_76 hC  hF hQ  h
    · have h := h.2 c9
      refine ⟨_, (Cg.itm hC hk1).1, ?_⟩
      obtain ⟨hk2, h⟩ := h
      refine ⟨(Cg.itm hC hk2).2.1, ?_⟩
      rw [(Cg.itm hC hk2).2.2.1]
      refine ⟨Nat.le_trans (Cg.itm hC hk2).2.2.2 (by decide), ?_⟩
      refine ⟨fun c18 => ?_, fun c18 => ?_⟩
      · have h := h.1 c18
        exact T_X5_drop_76 hC  hF hQ  h
      · have h := h.2 c18
        refine ⟨fun c22 => ?_, fun c22 => ?_⟩
        · have h := h.1 c22
          exact T_X5_drop_35 hC (fun y0 y1 y2 y3 F' I' hF9 h9 => ih _ _ _ _ F' I' hF9 h9) hF hQ  h
        · have h := h.2 c22
          obtain ⟨h0, h1, h⟩ := h
          refine ⟨h0, (by first | exact h1 | (rw [(Cg.itm hC hk2).2.2.1]; exact h1)), ?_⟩
          refine ⟨fun c32 => ?_, fun c32 => ?_⟩
          · have h := h.1 c32
            exact T_X5_drop_40 hC (fun y0 y1 y2 y3 F' I' hF9 h9 => ih _ _ _ _ F' I' hF9 h9) hF hQ  h
          · have h := h.2 c32
            exact T_X5_drop_35 hC (fun y0 y1 y2 y3 F' I' hF9 h9 => ih _ _ _ _ F' I' hF9 h9) hF hQ  h
set_option maxRecDepth 20000 in
set_option maxHeartbeats 4000000 in
theorem T_X5_drop {Y : Yt} {F0 : Fl} {I0 : Il}  {it LN : Nat → Nat} {S : Shp} {F : Fl} {I : Il} {x0 : Nat} {x1 : Int} {Q : Fl → Il → Prop} {Qw : Fl → El → Prop} (hC : Cg Y it LN S)  (hF : Fc Y F0 I0 F I) (hQ : ∀ (F' : Fl) (I' : Il), Fc Y F0 I0 F' I' → Qw  (Bc Y F') (Ec Y it I') → Q  F' I')  (h : W_X5_drop (yc Y) LN x0 x1 (Bc Y F) (Ec Y it I) Qw) : V_X5_drop (yg Y x0) x1 S F I Q := by
  unfold V_X5_drop
  unfold W_X5_drop at h
  obtain ⟨n9, h⟩ := h
  exact ⟨n9, T_X5_drop_4 hC  hQ  n9 _ _ _ _ _ _  hF h⟩
set_option maxRecDepth 20000 in
set_option maxHeartbeats 4000000 in
theorem T_X7_holds_47 {Y : Yt} {F0 : Fl} {I0 : Il}  {it LN : Nat → Nat} {S : Shp} {F : Fl} {I : Il} {x0 : Nat} {x1 : Int} {x2 : Int} {Q : Int → Prop} {Qw : Int → Prop} (hC : Cg Y it LN S)  (hF : Fc Y F0 I0 F I) (hQ : ∀ (z : Int), Qw z → Q z )  (h : W_X7_holds_47 (yc Y) LN x0 x1 x2 (Bc Y F) (Ec Y it I) Qw) : V_X7_holds_47 (yg Y x0) x1 x2 S F I Q := by
  unfold V_X7_holds_47
  unfold W_X7_holds_47 at h
  obtain ⟨hk1, h⟩ := h
  refine ⟨Cg.k hC hk1 (by decide), ?_⟩
  refine ⟨_, Cg.r816 hC hk1, ?_⟩
  obtain ⟨hk2, h⟩ := h
  refine ⟨Cg.k hC hk2 (by decide), ?_⟩
  obtain ⟨h0, h1, h⟩ := h
  refine ⟨h0, (by first | exact h1 | (rw [Cg.n hC hk2]; exact h1)), ?_⟩
  refine ⟨fun c54 => ?_, fun c54 => ?_⟩
  · have h := h.1 c54
    exact hQ _ h
  · have h := h.2 c54
    exact hQ _ h
set_option maxRecDepth 20000 in
set_option maxHeartbeats 4000000 in
theorem T_X7_holds {Y : Yt} {F0 : Fl} {I0 : Il}  {it LN : Nat → Nat} {S : Shp} {F : Fl} {I : Il} {x0 : Nat} {x1 : Int} {x2 : Int} {Q : Int → Prop} {Qw : Int → Prop} (hC : Cg Y it LN S)  (hF : Fc Y F0 I0 F I) (hQ : ∀ (z : Int), Qw z → Q z )  (h : W_X7_holds (yc Y) LN x0 x1 x2 (Bc Y F) (Ec Y it I) Qw) : V_X7_holds (yg Y x0) x1 x2 S F I Q := by
  unfold V_X7_holds
  unfold W_X7_holds at h
  obtain ⟨hk1, h⟩ := h
  refine ⟨Cg.k hC hk1 (by decide), ?_⟩
  refine ⟨fun c5 => ?_, fun c5 => ?_⟩
  · have h := h.1 c5
    exact hQ _ h
  · have h := h.2 c5
    refine ⟨fun c13 => ?_, fun c13 => ?_⟩
    · have h := h.1 c13
      exact hQ _ h
    · have h := h.2 c13
      refine ⟨fun c17 => ?_, fun c17 => ?_⟩
      · have h := h.1 c17
        exact hQ _ h
      · have h := h.2 c17
        refine ⟨_, Cg.r816 hC hk1, ?_⟩
        obtain ⟨hk2, h⟩ := h
        refine ⟨Cg.k hC hk2 (by decide), ?_⟩
        rw [Cg.n hC hk2]
        refine ⟨ln_le _, ?_⟩
        refine ⟨fun c26 => ?_, fun c26 => ?_⟩
        · have h := h.1 c26
          refine ⟨fun c36 => ?_, fun c36 => ?_⟩
          · have h := h.1 c36
            exact T_X7_holds_47 hC  hF hQ  h
          · have h := h.2 c36
            refine ⟨fun c44 => ?_, fun c44 => ?_⟩
            · have h := h.1 c44
              exact hQ _ h
            · have h := h.2 c44
              exact T_X7_holds_47 hC  hF hQ  h
        · have h := h.2 c26
          exact hQ _ h
set_option maxRecDepth 20000 in
set_option maxHeartbeats 4000000 in
theorem T_X7_minutesToClear {Y : Yt} {F0 : Fl} {I0 : Il}  {it LN : Nat → Nat} {S : Shp} {F : Fl} {I : Il} {x0 : Nat} {Q : Int → Prop} {Qw : Int → Prop} (hC : Cg Y it LN S)  (hF : Fc Y F0 I0 F I) (hQ : ∀ (z : Int), Qw z → Q z )  (h : W_X7_minutesToClear (yc Y) LN x0 (Bc Y F) (Ec Y it I) Qw) : V_X7_minutesToClear (yg Y x0) S F I Q := by
  unfold V_X7_minutesToClear
  unfold W_X7_minutesToClear at h
  obtain ⟨hk1, h⟩ := h
  refine ⟨Cg.k hC hk1 (by decide), ?_⟩
  refine ⟨_, Cg.r809 hC hk1, ?_⟩
  obtain ⟨hk2, h⟩ := h
  refine ⟨Cg.k hC hk2 (by decide), ?_⟩
  exact hQ _ h
set_option maxRecDepth 20000 in
set_option maxHeartbeats 4000000 in
theorem T_X7_nextBlock {Y : Yt} {F0 : Fl} {I0 : Il}  {it LN : Nat → Nat} {S : Shp} {F : Fl} {I : Il} {x0 : Nat} {Q : Int → Prop} {Qw : Int → Prop} (hC : Cg Y it LN S)  (hF : Fc Y F0 I0 F I) (hQ : ∀ (z : Int), Qw z → Q z )  (h : W_X7_nextBlock (yc Y) LN x0 (Bc Y F) (Ec Y it I) Qw) : V_X7_nextBlock (yg Y x0) S F I Q := by
  unfold V_X7_nextBlock
  unfold W_X7_nextBlock at h
  obtain ⟨hk1, h⟩ := h
  refine ⟨Cg.k hC hk1 (by decide), ?_⟩
  refine ⟨_, Cg.r810 hC hk1, ?_⟩
  obtain ⟨hk2, h⟩ := h
  refine ⟨Cg.k hC hk2 (by decide), ?_⟩
  refine T_X5_at hC hF (fun z3 h => ?_)  h
  try dsimp only at h
  exact hQ _ h
set_option maxRecDepth 20000 in
set_option maxHeartbeats 4000000 in
theorem T_X7_notClear {Y : Yt} {F0 : Fl} {I0 : Il}  {it LN : Nat → Nat} {S : Shp} {F : Fl} {I : Il} {x0 : Nat} {x1 : Int} {x2 : Int} {Q : Il → Prop} {Qw : Fl → El → Prop} (hC : Cg Y it LN S)  (hF : Fc Y F0 I0 F I) (hQ : ∀ (I' : Il), Fc Y F0 I0 F I' → Qw  (Bc Y F) (Ec Y it I') → Q  I')  (h : W_X7_notClear (yc Y) LN x0 x1 x2 (Bc Y F) (Ec Y it I) Qw) : V_X7_notClear (yg Y x0) x1 x2 S F I Q := by
  unfold V_X7_notClear
  unfold W_X7_notClear at h
  refine ⟨fun c1 => ?_, fun c1 => ?_⟩
  · have h := h.1 c1
    exact hQ _ hF h
  · have h := h.2 c1
    obtain ⟨hk1, h⟩ := h
    refine ⟨Cg.k hC hk1 (by decide), ?_⟩
    refine ⟨_, Cg.r816 hC hk1, ?_⟩
    obtain ⟨hk2, h⟩ := h
    refine ⟨Cg.k hC hk2 (by decide), ?_⟩
    rw [Cg.n hC hk2]
    refine ⟨ln_le _, ?_⟩
    refine ⟨fun c10 => ?_, fun c10 => ?_⟩
    · have h := h.1 c10
      exact hQ _ hF h
    · have h := h.2 c10
      obtain ⟨h0, h1, h⟩ := h
      refine ⟨h0, (by first | exact h1 | (rw [Cg.n hC hk2]; exact h1)), ?_⟩
      rw [← Ec_g (I := I) hC hk2 (by decide)] at h
      exact hQ _ (Fc.g hC hk2 (by decide) hF) h
set_option maxRecDepth 20000 in
set_option maxHeartbeats 4000000 in
theorem T_X7_stands {Y : Yt} {F0 : Fl} {I0 : Il}  {it LN : Nat → Nat} {S : Shp} {F : Fl} {I : Il} {x0 : Nat} {Q : Int → Prop} {Qw : Int → Prop} (hC : Cg Y it LN S)  (hF : Fc Y F0 I0 F I) (hQ : ∀ (z : Int), Qw z → Q z )  (h : W_X7_stands (yc Y) LN x0 (Bc Y F) (Ec Y it I) Qw) : V_X7_stands (yg Y x0) S F I Q := by
  unfold V_X7_stands
  unfold W_X7_stands at h
  obtain ⟨hk1, h⟩ := h
  refine ⟨Cg.k hC hk1 (by decide), ?_⟩
  refine ⟨fun c4 => ?_, fun c4 => ?_⟩
  · have h := h.1 c4
    exact hQ _ h
  · have h := h.2 c4
    refine ⟨fun c12 => ?_, fun c12 => ?_⟩
    · have h := h.1 c12
      exact hQ _ h
    · have h := h.2 c12
      exact hQ _ h
set_option maxRecDepth 20000 in
set_option maxHeartbeats 4000000 in
theorem T_J7_fill_53178_5 {Y : Yt} {F0 : Fl} {I0 : Il}  {it : Nat → Nat} {LN : Nat → Nat} {S : Shp} {F : Fl} {Q : Il → Prop} {Qw : Fl → El → Prop} (hC : Cg Y it LN S)  (hQ : ∀ (I' : Il), Fc Y F0 I0 F I' → Qw  (Bc Y F) (Ec Y it I') → Q  I')  (n9 : Nat) : ∀ (x0 : Nat) (x1 : Int) (x2 : Int) (x3 : Int) (I : Il), Fc Y F0 I0 F I → W_J7_fill_53178_5 (yc Y) LN n9 x0 x1 x2 x3 (Bc Y F) (Ec Y it I) Qw → V_J7_fill_53178_5 n9 (yg Y x0) x1 x2 x3 S F I Q := by
  induction n9 with
  | zero => intro x0 x1 x2 x3 I hF h; exact h.elim
  | succ n ih =>
    intro x0 x1 x2 x3 I hF h
    unfold V_J7_fill_53178_5
    unfold W_J7_fill_53178_5 at h
    refine ⟨fun c7 => ?_, fun c7 => ?_⟩
    · have h := h.1 c7
      exact hQ _ hF h
    · have h := h.2 c7
      obtain ⟨hk1, h⟩ := h
      refine ⟨Cg.k hC hk1 (by decide), ?_⟩
      obtain ⟨h0, h1, h⟩ := h
      refine ⟨h0, (by first | exact h1 | (rw [Cg.n hC hk1]; exact h1)), ?_⟩
      rw [← Ec_g (I := I) hC hk1 (by decide)] at h
      exact ih _ _ _ _ _  (Fc.g hC hk1 (by decide) hF) h
set_option maxRecDepth 20000 in
set_option maxHeartbeats 4000000 in
theorem T_J7_fill_53178 {Y : Yt} {F0 : Fl} {I0 : Il}  {it LN : Nat → Nat} {S : Shp} {F : Fl} {I : Il} {x0 : Nat} {x1 : Int} {Q : Il → Prop} {Qw : Fl → El → Prop} (hC : Cg Y it LN S)  (hF : Fc Y F0 I0 F I) (hQ : ∀ (I' : Il), Fc Y F0 I0 F I' → Qw  (Bc Y F) (Ec Y it I') → Q  I')  (h : W_J7_fill_53178 (yc Y) LN x0 x1 (Bc Y F) (Ec Y it I) Qw) : V_J7_fill_53178 (yg Y x0) x1 S F I Q := by
  unfold V_J7_fill_53178
  unfold W_J7_fill_53178 at h
  obtain ⟨hk1, h⟩ := h
  refine ⟨Cg.k hC hk1 (by decide), ?_⟩
  rw [Cg.n hC hk1]
  refine ⟨ln_le _, ?_⟩
  obtain ⟨n9, h⟩ := h
  exact ⟨n9, T_J7_fill_53178_5 hC  hQ  n9 _ _ _ _ _  hF h⟩
set_option maxRecDepth 20000 in
set_option maxHeartbeats 4000000 in
theorem T_X7_start {Y : Yt} {F0 : Fl} {I0 : Il}  {it LN : Nat → Nat} {S : Shp} {F : Fl} {I : Il} {x0 : Nat} {x1 : Int} {x2 : Int} {x3 : Int} {x4 : Int} {Q : Fl → Il → Prop} {Qw : Fl → El → Prop} (hC : Cg Y it LN S)  (hF : Fc Y F0 I0 F I) (hQ : ∀ (F' : Fl) (I' : Il), Fc Y F0 I0 F' I' → Qw  (Bc Y F') (Ec Y it I') → Q  F' I')  (h : W_X7_start (yc Y) LN x0 x1 x2 x3 x4 (Bc Y F) (Ec Y it I) Qw) : V_X7_start (yg Y x0) x1 x2 x3 x4 S F I Q := by
  unfold V_X7_start
  unfold W_X7_start at h
  obtain ⟨hk1, h⟩ := h
  refine ⟨Cg.k hC hk1 (by decide), ?_⟩
  rw [← Bc_f (F := F) hC hk1 (by decide)] at h
  rw [← Bc_f (F := (u2 F 802 (yg Y _) _)) hC hk1 (by decide)] at h
  rw [← Bc_f (F := (u2 (u2 F 802 (yg Y _) _) 803 (yg Y _) _)) hC hk1 (by decide)] at h
  rw [← Bc_f (F := (u2 (u2 (u2 F 802 (yg Y _) _) 803 (yg Y _) _) 804 (yg Y _) _)) hC hk1 (by decide)] at h
  rw [← Bc_f (F := (u2 (u2 (u2 (u2 F 802 (yg Y _) _) 803 (yg Y _) _) 804 (yg Y _) _) 805 (yg Y _) _)) hC hk1 (by decide)] at h
  rw [← Bc_f (F := (u2 (u2 (u2 (u2 (u2 F 802 (yg Y _) _) 803 (yg Y _) _) 804 (yg Y _) _) 805 (yg Y _) _) 801 (yg Y _) _)) hC hk1 (by decide)] at h
  rw [← Bc_f (F := (u2 (u2 (u2 (u2 (u2 (u2 F 802 (yg Y _) _) 803 (yg Y _) _) 804 (yg Y _) _) 805 (yg Y _) _) 801 (yg Y _) _) 806 (yg Y _) _)) hC hk1 (by decide)] at h
  refine ⟨_, Cg.r809 hC hk1, ?_⟩
  obtain ⟨hk2, h⟩ := h
  refine ⟨Cg.k hC hk2 (by decide), ?_⟩
  refine T_X5_empty hC (Fc.f (k := 808) (by decide) (Fc.f (k := 806) (by decide) (Fc.f (k := 801) (by decide) (Fc.f (k := 805) (by decide) (Fc.f (k := 804) (by decide) (Fc.f (k := 803) (by decide) (Fc.f (k := 802) (by decide) hF))))))) (fun F_3 hF6 h => ?_)  h
  try dsimp only at h
  refine ⟨_, Cg.r810 hC hk1, ?_⟩
  obtain ⟨hk7, h⟩ := h
  refine ⟨Cg.k hC hk7 (by decide), ?_⟩
  refine T_X5_empty hC hF6 (fun F_8 hF11 h => ?_)  h
  try dsimp only at h
  rw [← Bc_f (F := F_8) hC hk1 (by decide)] at h
  rw [← Bc_f (F := (u2 F_8 811 (yg Y _) _)) hC hk1 (by decide)] at h
  rw [← Bc_f (F := (u2 (u2 F_8 811 (yg Y _) _) 814 (yg Y _) _)) hC hk1 (by decide)] at h
  refine ⟨_, Cg.r816 hC hk1, ?_⟩
  refine T_J7_fill_53178 hC (Fc.f (k := 815) (by decide) (Fc.f (k := 814) (by decide) (Fc.f (k := 811) (by decide) hF11))) (fun I_12 hF15 h => ?_)  h
  try dsimp only at h
  exact hQ _ _ hF15 h
set_option maxRecDepth 20000 in
set_option maxHeartbeats 4000000 in
theorem T_X7_takesTrackAt {Y : Yt} {F0 : Fl} {I0 : Il}  {it LN : Nat → Nat} {S : Shp} {F : Fl} {I : Il} {x0 : Nat} {x1 : Int} {Q : Int → Prop} {Qw : Int → Prop} (hC : Cg Y it LN S)  (hF : Fc Y F0 I0 F I) (hQ : ∀ (z : Int), Qw z → Q z )  (h : W_X7_takesTrackAt (yc Y) LN x0 x1 (Bc Y F) (Ec Y it I) Qw) : V_X7_takesTrackAt (yg Y x0) x1 S F I Q := by
  unfold V_X7_takesTrackAt
  unfold W_X7_takesTrackAt at h
  obtain ⟨hk1, h⟩ := h
  refine ⟨Cg.k hC hk1 (by decide), ?_⟩
  refine ⟨fun c5 => ?_, fun c5 => ?_⟩
  · have h := h.1 c5
    exact hQ _ h
  · have h := h.2 c5
    refine ⟨fun c13 => ?_, fun c13 => ?_⟩
    · have h := h.1 c13
      exact hQ _ h
    · have h := h.2 c13
      exact hQ _ h
set_option maxRecDepth 20000 in
set_option maxHeartbeats 4000000 in
theorem T_X8_requireIndex_9 {Y : Yt} {F0 : Fl} {I0 : Il}  {it LN : Nat → Nat} {S : Shp} {F : Fl} {I : Il}  {Q : Prop} {Qw : Prop} {QX : String → Shp → Fl → Il → Prop} {QXw : String → Fl → El → Prop} (hC : Cg Y it LN S)  (hF : Fc Y F0 I0 F I) (hQ : Qw  → Q  ) (hX : ∀ (X9 : String) (F' : Fl) (I' : Il), Fc Y F0 I0 F' I' → QXw X9 (Bc Y F') (Ec Y it I') → QX X9 (thr S) F' I') (h : W_X8_requireIndex_9 (yc Y) LN (Bc Y F) (Ec Y it I) Qw QXw) : V_X8_requireIndex_9 S F I Q QX := by
  unfold V_X8_requireIndex_9
  unfold W_X8_requireIndex_9 at h
  exact ⟨Cg.sa hC, Cg.sb hC, hX _ _ _ hF h⟩
set_option maxRecDepth 20000 in
set_option maxHeartbeats 4000000 in
theorem T_X8_requireIndex {Y : Yt} {F0 : Fl} {I0 : Il}  {it LN : Nat → Nat} {S : Shp} {F : Fl} {I : Il} {x0 : Int} {x1 : Int} {Q : Prop} {Qw : Prop} {QX : String → Shp → Fl → Il → Prop} {QXw : String → Fl → El → Prop} (hC : Cg Y it LN S)  (hF : Fc Y F0 I0 F I) (hQ : Qw  → Q  ) (hX : ∀ (X9 : String) (F' : Fl) (I' : Il), Fc Y F0 I0 F' I' → QXw X9 (Bc Y F') (Ec Y it I') → QX X9 (thr S) F' I') (h : W_X8_requireIndex (yc Y) LN x0 x1 (Bc Y F) (Ec Y it I) Qw QXw) : V_X8_requireIndex x0 x1 S F I Q QX := by
  unfold V_X8_requireIndex
  unfold W_X8_requireIndex at h
  refine ⟨fun c1 => ?_, fun c1 => ?_⟩
  · have h := h.1 c1
    exact T_X8_requireIndex_9 hC  hF hQ hX h
  · have h := h.2 c1
    refine ⟨fun c6 => ?_, fun c6 => ?_⟩
    · have h := h.1 c6
      exact hQ  h
    · have h := h.2 c6
      exact T_X8_requireIndex_9 hC  hF hQ hX h
set_option maxRecDepth 20000 in
set_option maxHeartbeats 4000000 in
theorem T_X8_blockOf {Y : Yt} {F0 : Fl} {I0 : Il}  {it LN : Nat → Nat} {S : Shp} {F : Fl} {I : Il} {x0 : Nat} {x1 : Int} {Q : Nat → Prop} {Qw : Nat → Prop} {QX : String → Shp → Fl → Il → Prop} {QXw : String → Fl → El → Prop} (hC : Cg Y it LN S)  (hF : Fc Y F0 I0 F I) (hQ : ∀ (z : Nat), Qw z → Q (yg Y z) ) (hX : ∀ (X9 : String) (F' : Fl) (I' : Il), Fc Y F0 I0 F' I' → QXw X9 (Bc Y F') (Ec Y it I') → QX X9 (thr S) F' I') (h : W_X8_blockOf (yc Y) LN x0 x1 (Bc Y F) (Ec Y it I) Qw QXw) : V_X8_blockOf (yg Y x0) x1 S F I Q QX := by
  unfold V_X8_blockOf
  unfold W_X8_blockOf at h
  obtain ⟨hk1, h⟩ := h
  refine ⟨Cg.k hC hk1 (by decide), ?_⟩
  refine ⟨_, Cg.r901 hC hk1, ?_⟩
  obtain ⟨hk2, h⟩ := h
  refine ⟨Cg.k hC hk2 (by decide), ?_⟩
  refine T_Jx4a65c_size_8abf5 hC hF (fun z3 h => ?_)  h
  try dsimp only at h
  refine T_X8_requireIndex hC hF (fun  h => ?_) hX h
  try dsimp only at h
  refine T_Jx4a65c_get_915e3 hC hF (fun z4 h => ?_)  h
  try dsimp only at h
  obtain ⟨hk5, h⟩ := h
  refine ⟨Cg.k hC hk5 (by decide), ?_⟩
  exact hQ _ h
set_option maxRecDepth 20000 in
set_option maxHeartbeats 4000000 in
theorem T_X8_arrive {Y : Yt} {F0 : Fl} {I0 : Il}  {it LN : Nat → Nat} {S : Shp} {F : Fl} {I : Il} {x0 : Nat} {x1 : Nat} {Q : Fl → Il → Prop} {Qw : Fl → El → Prop} {QX : String → Shp → Fl → Il → Prop} {QXw : String → Fl → El → Prop} (hC : Cg Y it LN S)  (hF : Fc Y F0 I0 F I) (hQ : ∀ (F' : Fl) (I' : Il), Fc Y F0 I0 F' I' → Qw  (Bc Y F') (Ec Y it I') → Q  F' I') (hX : ∀ (X9 : String) (F' : Fl) (I' : Il), Fc Y F0 I0 F' I' → QXw X9 (Bc Y F') (Ec Y it I') → QX X9 (thr S) F' I') (h : W_X8_arrive (yc Y) LN x0 x1 (Bc Y F) (Ec Y it I) Qw QXw) : V_X8_arrive (yg Y x0) (yg Y x1) S F I Q QX := by
  unfold V_X8_arrive
  unfold W_X8_arrive at h
  obtain ⟨hk1, h⟩ := h
  refine ⟨Cg.k hC hk1 (by decide), ?_⟩
  obtain ⟨hk2, h⟩ := h
  refine ⟨Cg.k hC hk2 (by decide), ?_⟩
  refine T_X8_blockOf hC hF (fun z3 h => ?_) hX h
  try dsimp only at h
  obtain ⟨hk4, h⟩ := h
  refine ⟨Cg.k hC hk4 (by decide), ?_⟩
  refine ⟨_, Cg.r809 hC hk1, ?_⟩
  obtain ⟨hk5, h⟩ := h
  refine ⟨Cg.k hC hk5 (by decide), ?_⟩
  rw [← Bc_f (F := F) hC hk4 (by decide)] at h
  refine T_X7_minutesToClear hC (Fc.f (k := 204) (by decide) hF) (fun z6 h => ?_)  h
  try dsimp only at h
  refine T_X7_notClear hC (Fc.f (k := 204) (by decide) hF) (fun I_7 hF10 h => ?_)  h
  try dsimp only at h
  rw [← Bc_f (F := (u2 F 204 (yg Y _) _)) hC hk1 (by decide)] at h
  refine T_X7_nextBlock hC (Fc.f (k := 806) (by decide) hF10) (fun z11 h => ?_)  h
  try dsimp only at h
  refine ⟨fun c53 => ?_, fun c53 => ?_⟩
  · have h := h.1 c53
    rw [← Bc_f (F := (u2 (u2 F 204 (yg Y _) _) 806 (yg Y _) _)) hC hk1 (by decide)] at h
    exact hQ _ _ (Fc.f (k := 801) (by decide) (Fc.f (k := 806) (by decide) hF10)) h
  · have h := h.2 c53
    rw [← Bc_f (F := (u2 (u2 F 204 (yg Y _) _) 806 (yg Y _) _)) hC hk1 (by decide)] at h
    exact hQ _ _ (Fc.f (k := 801) (by decide) (Fc.f (k := 806) (by decide) hF10)) h
set_option maxRecDepth 20000 in
set_option maxHeartbeats 4000000 in
theorem T_X8_arriveAll_50 {Y : Yt} {F0 : Fl} {I0 : Il} {kv2 : Nat → Int → Fl → Il → Prop} {k2 : Nat → Int → Fl → El → Prop} {it LN : Nat → Nat} {S : Shp} {F : Fl} {I : Il} {x0 : Nat} {x1 : Int} {Q : Fl → Il → Prop} {Qw : Fl → El → Prop} {QX : String → Shp → Fl → Il → Prop} {QXw : String → Fl → El → Prop} (hC : Cg Y it LN S) (hk2 : ∀ (x0 : Nat) (x1 : Int) (F' : Fl) (I' : Il), Fc Y F0 I0 F' I' → k2 x0 x1 (Bc Y F') (Ec Y it I') → kv2 (yg Y x0) x1 F' I') (hF : Fc Y F0 I0 F I) (hQ : ∀ (F' : Fl) (I' : Il), Fc Y F0 I0 F' I' → Qw  (Bc Y F') (Ec Y it I') → Q  F' I') (hX : ∀ (X9 : String) (F' : Fl) (I' : Il), Fc Y F0 I0 F' I' → QXw X9 (Bc Y F') (Ec Y it I') → QX X9 (thr S) F' I') (h : W_X8_arriveAll_50 (yc Y) LN k2 x0 x1 (Bc Y F) (Ec Y it I) Qw QXw) : V_X8_arriveAll_50 kv2 (yg Y x0) x1 S F I Q QX := by
  unfold V_X8_arriveAll_50
  unfold W_X8_arriveAll_50 at h
  exact hk2 _ _ _ _  hF h
set_option maxRecDepth 20000 in
set_option maxHeartbeats 4000000 in
theorem T_X8_arriveAll_2 {Y : Yt} {F0 : Fl} {I0 : Il}  {it : Nat → Nat} {LN : Nat → Nat} {S : Shp} {Q : Fl → Il → Prop} {Qw : Fl → El → Prop} {QX : String → Shp → Fl → Il → Prop} {QXw : String → Fl → El → Prop} (hC : Cg Y it LN S)  (hQ : ∀ (F' : Fl) (I' : Il), Fc Y F0 I0 F' I' → Qw  (Bc Y F') (Ec Y it I') → Q  F' I') (hX : ∀ (X9 : String) (F' : Fl) (I' : Il), Fc Y F0 I0 F' I' → QXw X9 (Bc Y F') (Ec Y it I') → QX X9 (thr S) F' I') (n9 : Nat) : ∀ (x0 : Nat) (x1 : Int) (F : Fl) (I : Il), Fc Y F0 I0 F I → W_X8_arriveAll_2 (yc Y) LN n9 x0 x1 (Bc Y F) (Ec Y it I) Qw QXw → V_X8_arriveAll_2 n9 (yg Y x0) x1 S F I Q QX := by
  induction n9 with
  | zero => intro x0 x1 F I hF h; exact h.elim
  | succ n ih =>
    intro x0 x1 F I hF h
    unfold V_X8_arriveAll_2
    unfold W_X8_arriveAll_2 at h
    obtain ⟨hk1, h⟩ := h
    refine ⟨Cg.k hC hk1 (by decide), ?_⟩
    refine ⟨_, Cg.r906 hC hk1, ?_⟩
    obtain ⟨hk2, h⟩ := h
    refine ⟨Cg.k hC hk2 (by decide), ?_⟩
    rw [Cg.n hC hk2]
    refine ⟨ln_le _, ?_⟩
    refine ⟨fun c8 => ?_, fun c8 => ?_⟩
    · have h := h.1 c8
      exact hQ _ _ hF h
    · have h := h.2 c8
      obtain ⟨h0, h1, h⟩ := h
      refine ⟨h0, (by first | exact h1 | (rw [Cg.n hC hk2]; exact h1)), _, Cg.a2 hC h0 h1, ?_⟩
      obtain ⟨hk4, h⟩ := h
      refine ⟨Cg.k hC hk4 (by decide), ?_⟩
      refine ⟨fun c21 => ?_, fun c21 => ?_⟩
      · have h := h.1 c21
        exact T_X8_arriveAll_50 hC (fun y0 y1 F' I' hF9 h9 => ih _ _ F' I' hF9 h9) hF hQ hX h
      · have h := h.2 c21
        obtain ⟨h0, h1, h⟩ := h
        refine ⟨h0, (by first | exact h1 | (rw [Cg.n hC hk2]; exact h1)), _, Cg.a2 hC h0 h1, ?_⟩
        obtain ⟨hk6, h⟩ := h
        refine ⟨Cg.k hC hk6 (by decide), ?_⟩
        refine ⟨fun c37 => ?_, fun c37 => ?_⟩
        · have h := h.1 c37
          exact T_X8_arriveAll_50 hC (fun y0 y1 F' I' hF9 h9 => ih _ _ F' I' hF9 h9) hF hQ hX h
        · have h := h.2 c37
          obtain ⟨h0, h1, h⟩ := h
          refine ⟨h0, (by first | exact h1 | (rw [Cg.n hC hk2]; exact h1)), _, Cg.a2 hC h0 h1, ?_⟩
          refine T_X8_arrive hC hF (fun F_8 I_9 hF12 h => ?_) hX h
          try dsimp only at h
          exact T_X8_arriveAll_50 hC (fun y0 y1 F' I' hF9 h9 => ih _ _ F' I' hF9 h9) hF12 hQ hX h
set_option maxRecDepth 20000 in
set_option maxHeartbeats 4000000 in
theorem T_X8_arriveAll {Y : Yt} {F0 : Fl} {I0 : Il}  {it LN : Nat → Nat} {S : Shp} {F : Fl} {I : Il} {x0 : Nat} {Q : Fl → Il → Prop} {Qw : Fl → El → Prop} {QX : String → Shp → Fl → Il → Prop} {QXw : String → Fl → El → Prop} (hC : Cg Y it LN S)  (hF : Fc Y F0 I0 F I) (hQ : ∀ (F' : Fl) (I' : Il), Fc Y F0 I0 F' I' → Qw  (Bc Y F') (Ec Y it I') → Q  F' I') (hX : ∀ (X9 : String) (F' : Fl) (I' : Il), Fc Y F0 I0 F' I' → QXw X9 (Bc Y F') (Ec Y it I') → QX X9 (thr S) F' I') (h : W_X8_arriveAll (yc Y) LN x0 (Bc Y F) (Ec Y it I) Qw QXw) : V_X8_arriveAll (yg Y x0) S F I Q QX := by
  unfold V_X8_arriveAll
  unfold W_X8_arriveAll at h
  obtain ⟨n9, h⟩ := h
  exact ⟨n9, T_X8_arriveAll_2 hC  hQ hX n9 _ _ _ _  hF h⟩
set_option maxRecDepth 20000 in
set_option maxHeartbeats 4000000 in
theorem T_X8_requireTrain {Y : Yt} {F0 : Fl} {I0 : Il}  {it LN : Nat → Nat} {S : Shp} {F : Fl} {I : Il} {x0 : Nat} {x1 : Int} {Q : Prop} {Qw : Prop} {QX : String → Shp → Fl → Il → Prop} {QXw : String → Fl → El → Prop} (hC : Cg Y it LN S)  (hF : Fc Y F0 I0 F I) (hQ : Qw  → Q  ) (hX : ∀ (X9 : String) (F' : Fl) (I' : Il), Fc Y F0 I0 F' I' → QXw X9 (Bc Y F') (Ec Y it I') → QX X9 (thr S) F' I') (h : W_X8_requireTrain (yc Y) LN x0 x1 (Bc Y F) (Ec Y it I) Qw QXw) : V_X8_requireTrain (yg Y x0) x1 S F I Q QX := by
  unfold V_X8_requireTrain
  unfold W_X8_requireTrain at h
  obtain ⟨hk1, h⟩ := h
  refine ⟨Cg.k hC hk1 (by decide), ?_⟩
  refine ⟨_, Cg.r906 hC hk1, ?_⟩
  obtain ⟨hk2, h⟩ := h
  refine ⟨Cg.k hC hk2 (by decide), ?_⟩
  rw [Cg.n hC hk2]
  refine ⟨ln_le _, ?_⟩
  refine T_X8_requireIndex hC hF (fun  h => ?_) hX h
  try dsimp only at h
  obtain ⟨h0, h1, h⟩ := h
  refine ⟨h0, (by first | exact h1 | (rw [Cg.n hC hk2]; exact h1)), _, Cg.a2 hC h0 h1, ?_⟩
  obtain ⟨hk4, h⟩ := h
  refine ⟨Cg.k hC hk4 (by decide), ?_⟩
  refine ⟨fun c19 => ?_, fun c19 => ?_⟩
  · have h := h.1 c19
    exact hQ  h
  · have h := h.2 c19
    exact ⟨Cg.sa hC, Cg.sb hC, hX _ _ _ hF h⟩
set_option maxRecDepth 20000 in
set_option maxHeartbeats 4000000 in
theorem T_X8_trainOf {Y : Yt} {F0 : Fl} {I0 : Il}  {it LN : Nat → Nat} {S : Shp} {F : Fl} {I : Il} {x0 : Nat} {x1 : Int} {Q : Nat → Prop} {Qw : Nat → Prop} {QX : String → Shp → Fl → Il → Prop} {QXw : String → Fl → El → Prop} (hC : Cg Y it LN S)  (hF : Fc Y F0 I0 F I) (hQ : ∀ (z : Nat), Qw z → Q (yg Y z) ) (hX : ∀ (X9 : String) (F' : Fl) (I' : Il), Fc Y F0 I0 F' I' → QXw X9 (Bc Y F') (Ec Y it I') → QX X9 (thr S) F' I') (h : W_X8_trainOf (yc Y) LN x0 x1 (Bc Y F) (Ec Y it I) Qw QXw) : V_X8_trainOf (yg Y x0) x1 S F I Q QX := by
  unfold V_X8_trainOf
  unfold W_X8_trainOf at h
  obtain ⟨hk1, h⟩ := h
  refine ⟨Cg.k hC hk1 (by decide), ?_⟩
  refine T_X8_requireTrain hC hF (fun  h => ?_) hX h
  try dsimp only at h
  refine ⟨_, Cg.r906 hC hk1, ?_⟩
  obtain ⟨hk2, h⟩ := h
  refine ⟨Cg.k hC hk2 (by decide), ?_⟩
  obtain ⟨h0, h1, h⟩ := h
  refine ⟨h0, (by first | exact h1 | (rw [Cg.n hC hk2]; exact h1)), _, Cg.a2 hC h0 h1, ?_⟩
  exact hQ _ h
set_option maxRecDepth 20000 in
set_option maxHeartbeats 4000000 in
theorem T_X8_requireStation {Y : Yt} {F0 : Fl} {I0 : Il}  {it LN : Nat → Nat} {S : Shp} {F : Fl} {I : Il} {x0 : Nat} {x1 : Int} {Q : Prop} {Qw : Prop} {QX : String → Shp → Fl → Il → Prop} {QXw : String → Fl → El → Prop} (hC : Cg Y it LN S)  (hF : Fc Y F0 I0 F I) (hQ : Qw  → Q  ) (hX : ∀ (X9 : String) (F' : Fl) (I' : Il), Fc Y F0 I0 F' I' → QXw X9 (Bc Y F') (Ec Y it I') → QX X9 (thr S) F' I') (h : W_X8_requireStation (yc Y) LN x0 x1 (Bc Y F) (Ec Y it I) Qw QXw) : V_X8_requireStation (yg Y x0) x1 S F I Q QX := by
  unfold V_X8_requireStation
  unfold W_X8_requireStation at h
  obtain ⟨hk1, h⟩ := h
  refine ⟨Cg.k hC hk1 (by decide), ?_⟩
  refine ⟨_, Cg.r900 hC hk1, ?_⟩
  obtain ⟨hk2, h⟩ := h
  refine ⟨Cg.k hC hk2 (by decide), ?_⟩
  rw [Cg.n hC hk2]
  refine ⟨ln_le _, ?_⟩
  refine T_X8_requireIndex hC hF (fun  h => ?_) hX h
  try dsimp only at h
  exact hQ  h
set_option maxRecDepth 20000 in
set_option maxHeartbeats 4000000 in
theorem T_X8_requireState {Y : Yt} {F0 : Fl} {I0 : Il}  {it LN : Nat → Nat} {S : Shp} {F : Fl} {I : Il} {x0 : Int} {Q : Prop} {Qw : Prop} {QX : String → Shp → Fl → Il → Prop} {QXw : String → Fl → El → Prop} (hC : Cg Y it LN S)  (hF : Fc Y F0 I0 F I) (hQ : Qw  → Q  ) (hX : ∀ (X9 : String) (F' : Fl) (I' : Il), Fc Y F0 I0 F' I' → QXw X9 (Bc Y F') (Ec Y it I') → QX X9 (thr S) F' I') (h : W_X8_requireState (yc Y) LN x0 (Bc Y F) (Ec Y it I) Qw QXw) : V_X8_requireState x0 S F I Q QX := by
  unfold V_X8_requireState
  unfold W_X8_requireState at h
  refine ⟨fun c1 => ?_, fun c1 => ?_⟩
  · have h := h.1 c1
    exact hQ  h
  · have h := h.2 c1
    exact ⟨Cg.sa hC, Cg.sb hC, hX _ _ _ hF h⟩
set_option maxRecDepth 20000 in
set_option maxHeartbeats 4000000 in
theorem T_X8_await_32 {Y : Yt} {F0 : Fl} {I0 : Il}  {it LN : Nat → Nat} {S : Shp} {F : Fl} {I : Il} {x2 : Int} {x3 : Int} {x4 : Nat} {s0 : Int} {Q : Fl → Prop} {Qw : Fl → El → Prop} {QX : String → Shp → Fl → Il → Prop} {QXw : String → Fl → El → Prop} (hC : Cg Y it LN S)  (hF : Fc Y F0 I0 F I) (hQ : ∀ (F' : Fl), Fc Y F0 I0 F' I → Qw  (Bc Y F') (Ec Y it I) → Q  F') (hX : ∀ (X9 : String) (F' : Fl) (I' : Il), Fc Y F0 I0 F' I' → QXw X9 (Bc Y F') (Ec Y it I') → QX X9 (thr S) F' I') (h : W_X8_await_32 (yc Y) LN x2 x3 x4 s0 (Bc Y F) (Ec Y it I) Qw QXw) : V_X8_await_32 x2 x3 (yg Y x4) s0 S F I Q QX := by
  unfold V_X8_await_32
  unfold W_X8_await_32 at h
  refine T_X8_requireState hC hF (fun  h => ?_) hX h
  try dsimp only at h
  obtain ⟨hk1, h⟩ := h
  refine ⟨Cg.k hC hk1 (by decide), ?_⟩
  rw [← Bc_f (F := F) hC hk1 (by decide)] at h
  rw [← Bc_f (F := (u2 F 814 (yg Y _) _)) hC hk1 (by decide)] at h
  exact hQ _ (Fc.f (k := 815) (by decide) (Fc.f (k := 814) (by decide) hF)) h
set_option maxRecDepth 20000 in
set_option maxHeartbeats 4000000 in
theorem T_X8_await_17 {Y : Yt} {F0 : Fl} {I0 : Il}  {it LN : Nat → Nat} {S : Shp} {F : Fl} {I : Il} {x0 : Nat} {x1 : Int} {x2 : Int} {x3 : Int} {x4 : Nat} {Q : Fl → Prop} {Qw : Fl → El → Prop} {QX : String → Shp → Fl → Il → Prop} {QXw : String → Fl → El → Prop} (hC : Cg Y it LN S)  (hF : Fc Y F0 I0 F I) (hQ : ∀ (F' : Fl), Fc Y F0 I0 F' I → Qw  (Bc Y F') (Ec Y it I) → Q  F') (hX : ∀ (X9 : String) (F' : Fl) (I' : Il), Fc Y F0 I0 F' I' → QXw X9 (Bc Y F') (Ec Y it I') → QX X9 (thr S) F' I') (h : W_X8_await_17 (yc Y) LN x0 x1 x2 x3 x4 (Bc Y F) (Ec Y it I) Qw QXw) : V_X8_await_17 (yg Y x0) x1 x2 x3 (yg Y x4) S F I Q QX := by
  unfold V_X8_await_17
  unfold W_X8_await_17 at h
  obtain ⟨hk1, h⟩ := h
  refine ⟨Cg.k hC hk1 (by decide), ?_⟩
  refine T_X8_requireStation hC hF (fun  h => ?_) hX h
  try dsimp only at h
  refine ⟨fun c24 => ?_, fun c24 => ?_⟩
  · have h := h.1 c24
    exact T_X8_await_32 hC  hF hQ hX h
  · have h := h.2 c24
    exact T_X8_await_32 hC  hF hQ hX h
set_option maxRecDepth 20000 in
set_option maxHeartbeats 4000000 in
theorem T_X8_await {Y : Yt} {F0 : Fl} {I0 : Il}  {it LN : Nat → Nat} {S : Shp} {F : Fl} {I : Il} {x0 : Nat} {x1 : Int} {x2 : Int} {x3 : Int} {Q : Fl → Prop} {Qw : Fl → El → Prop} {QX : String → Shp → Fl → Il → Prop} {QXw : String → Fl → El → Prop} (hC : Cg Y it LN S)  (hF : Fc Y F0 I0 F I) (hQ : ∀ (F' : Fl), Fc Y F0 I0 F' I → Qw  (Bc Y F') (Ec Y it I) → Q  F') (hX : ∀ (X9 : String) (F' : Fl) (I' : Il), Fc Y F0 I0 F' I' → QXw X9 (Bc Y F') (Ec Y it I') → QX X9 (thr S) F' I') (h : W_X8_await (yc Y) LN x0 x1 x2 x3 (Bc Y F) (Ec Y it I) Qw QXw) : V_X8_await (yg Y x0) x1 x2 x3 S F I Q QX := by
  unfold V_X8_await
  unfold W_X8_await at h
  obtain ⟨hk1, h⟩ := h
  refine ⟨Cg.k hC hk1 (by decide), ?_⟩
  refine T_X8_trainOf hC hF (fun z2 h => ?_) hX h
  try dsimp only at h
  refine ⟨fun c9 => ?_, fun c9 => ?_⟩
  · have h := h.1 c9
    exact T_X8_await_17 hC  hF hQ hX h
  · have h := h.2 c9
    refine T_X8_requireTrain hC hF (fun  h => ?_) hX h
    try dsimp only at h
    exact T_X8_await_17 hC  hF hQ hX h
set_option maxRecDepth 20000 in
set_option maxHeartbeats 4000000 in
theorem T_X8_isWaiting {Y : Yt} {F0 : Fl} {I0 : Il}  {it LN : Nat → Nat} {S : Shp} {F : Fl} {I : Il} {x0 : Nat} {x1 : Nat} {Q : Int → Prop} {Qw : Int → Prop} (hC : Cg Y it LN S)  (hF : Fc Y F0 I0 F I) (hQ : ∀ (z : Int), Qw z → Q z )  (h : W_X8_isWaiting (yc Y) LN x0 x1 (Bc Y F) (Ec Y it I) Qw) : V_X8_isWaiting (yg Y x0) (yg Y x1) S F I Q := by
  unfold V_X8_isWaiting
  unfold W_X8_isWaiting at h
  obtain ⟨hk1, h⟩ := h
  refine ⟨Cg.k hC hk1 (by decide), ?_⟩
  refine ⟨fun c6 => ?_, fun c6 => ?_⟩
  · have h := h.1 c6
    exact hQ _ h
  · have h := h.2 c6
    obtain ⟨hk2, h⟩ := h
    refine ⟨Cg.k hC hk2 (by decide), ?_⟩
    refine ⟨_, Cg.r906 hC hk2, ?_⟩
    obtain ⟨hk3, h⟩ := h
    refine ⟨Cg.k hC hk3 (by decide), ?_⟩
    rw [Cg.n hC hk3]
    refine ⟨ln_le _, ?_⟩
    refine ⟨fun c15 => ?_, fun c15 => ?_⟩
    · have h := h.1 c15
      exact hQ _ h
    · have h := h.2 c15
      refine ⟨fun c26 => ?_, fun c26 => ?_⟩
      · have h := h.1 c26
        obtain ⟨h0, h1, h⟩ := h
        refine ⟨h0, (by first | exact h1 | (rw [Cg.n hC hk3]; exact h1)), _, Cg.a2 hC h0 h1, ?_⟩
        obtain ⟨hk5, h⟩ := h
        refine ⟨Cg.k hC hk5 (by decide), ?_⟩
        refine T_X7_stands hC hF (fun z6 h => ?_)  h
        try dsimp only at h
        refine ⟨fun c40 => ?_, fun c40 => ?_⟩
        · have h := h.1 c40
          exact hQ _ h
        · have h := h.2 c40
          obtain ⟨h0, h1, h⟩ := h
          refine ⟨h0, (by first | exact h1 | (rw [Cg.n hC hk3]; exact h1)), _, Cg.a2 hC h0 h1, ?_⟩
          obtain ⟨hk8, h⟩ := h
          refine ⟨Cg.k hC hk8 (by decide), ?_⟩
          refine ⟨fun c56 => ?_, fun c56 => ?_⟩
          · have h := h.1 c56
            exact hQ _ h
          · have h := h.2 c56
            exact hQ _ h
      · have h := h.2 c26
        exact hQ _ h
set_option maxRecDepth 20000 in
set_option maxHeartbeats 4000000 in
theorem T_X8_barOfStart_20 {Y : Yt} {F0 : Fl} {I0 : Il}  {it LN : Nat → Nat} {S : Shp} {F : Fl} {I : Il} {x0 : Nat} {x1 : Nat} {x2 : Nat} {Q : Int → Prop} {Qw : Int → Prop} (hC : Cg Y it LN S)  (hF : Fc Y F0 I0 F I) (hQ : ∀ (z : Int), Qw z → Q z )  (h : W_X8_barOfStart_20 (yc Y) LN x0 x1 x2 (Bc Y F) (Ec Y it I) Qw) : V_X8_barOfStart_20 (yg Y x0) (yg Y x1) (yg Y x2) S F I Q := by
  unfold V_X8_barOfStart_20
  unfold W_X8_barOfStart_20 at h
  obtain ⟨hk1, h⟩ := h
  refine ⟨Cg.k hC hk1 (by decide), ?_⟩
  refine T_X8_isWaiting hC hF (fun z2 h => ?_)  h
  try dsimp only at h
  refine ⟨fun c25 => ?_, fun c25 => ?_⟩
  · have h := h.1 c25
    obtain ⟨hk3, h⟩ := h
    refine ⟨Cg.k hC hk3 (by decide), ?_⟩
    refine T_X1_holderAt hC hF (fun z4 h => ?_)  h
    try dsimp only at h
    refine ⟨fun c39 => ?_, fun c39 => ?_⟩
    · have h := h.1 c39
      refine T_X1_isClosedAt hC hF (fun z5 h => ?_)  h
      try dsimp only at h
      refine ⟨fun c52 => ?_, fun c52 => ?_⟩
      · have h := h.1 c52
        refine ⟨fun c61 => ?_, fun c61 => ?_⟩
        · have h := h.1 c61
          exact hQ _ h
        · have h := h.2 c61
          refine ⟨fun c68 => ?_, fun c68 => ?_⟩
          · have h := h.1 c68
            exact hQ _ h
          · have h := h.2 c68
            exact hQ _ h
      · have h := h.2 c52
        exact hQ _ h
    · have h := h.2 c39
      exact hQ _ h
  · have h := h.2 c25
    exact hQ _ h
set_option maxRecDepth 20000 in
set_option maxHeartbeats 4000000 in
theorem T_X8_barOfStart {Y : Yt} {F0 : Fl} {I0 : Il}  {it LN : Nat → Nat} {S : Shp} {F : Fl} {I : Il} {x0 : Nat} {x1 : Nat} {x2 : Nat} {Q : Int → Prop} {Qw : Int → Prop} (hC : Cg Y it LN S)  (hF : Fc Y F0 I0 F I) (hQ : ∀ (z : Int), Qw z → Q z )  (h : W_X8_barOfStart (yc Y) LN x0 x1 x2 (Bc Y F) (Ec Y it I) Qw) : V_X8_barOfStart (yg Y x0) (yg Y x1) (yg Y x2) S F I Q := by
  unfold V_X8_barOfStart
  unfold W_X8_barOfStart at h
  obtain ⟨hk1, h⟩ := h
  refine ⟨Cg.k hC hk1 (by decide), ?_⟩
  refine ⟨fun c4 => ?_, fun c4 => ?_⟩
  · have h := h.1 c4
    exact T_X8_barOfStart_20 hC  hF hQ  h
  · have h := h.2 c4
    obtain ⟨hk2, h⟩ := h
    refine ⟨Cg.k hC hk2 (by decide), ?_⟩
    refine ⟨fun c15 => ?_, fun c15 => ?_⟩
    · have h := h.1 c15
      exact T_X8_barOfStart_20 hC  hF hQ  h
    · have h := h.2 c15
      exact hQ _ h
set_option maxRecDepth 20000 in
set_option maxHeartbeats 4000000 in
theorem T_X8_runningMinutes_48 {Y : Yt} {F0 : Fl} {I0 : Il}  {it LN : Nat → Nat} {S : Shp} {F : Fl} {I : Il} {x1 : Nat} {x2 : Int} {Q : Int → Prop} {Qw : Int → Prop} (hC : Cg Y it LN S)  (hF : Fc Y F0 I0 F I) (hQ : ∀ (z : Int), Qw z → Q z )  (h : W_X8_runningMinutes_48 (yc Y) LN x1 x2 (Bc Y F) (Ec Y it I) Qw) : V_X8_runningMinutes_48 (yg Y x1) x2 S F I Q := by
  unfold V_X8_runningMinutes_48
  unfold W_X8_runningMinutes_48 at h
  obtain ⟨hk1, h⟩ := h
  refine ⟨Cg.k hC hk1 (by decide), ?_⟩
  refine ⟨fun c52 => ?_, fun c52 => ?_⟩
  · have h := h.1 c52
    exact hQ _ h
  · have h := h.2 c52
    exact hQ _ h
set_option maxRecDepth 20000 in
set_option maxHeartbeats 4000000 in
theorem T_X8_runningMinutes_32 {Y : Yt} {F0 : Fl} {I0 : Il}  {it LN : Nat → Nat} {S : Shp} {F : Fl} {I : Il} {x1 : Nat} {x2 : Int} {Q : Int → Prop} {Qw : Int → Prop} (hC : Cg Y it LN S)  (hF : Fc Y F0 I0 F I) (hQ : ∀ (z : Int), Qw z → Q z )  (h : W_X8_runningMinutes_32 (yc Y) LN x1 x2 (Bc Y F) (Ec Y it I) Qw) : V_X8_runningMinutes_32 (yg Y x1) x2 S F I Q := by
  unfold V_X8_runningMinutes_32
  unfold W_X8_runningMinutes_32 at h
  obtain ⟨hk1, h⟩ := h
  refine ⟨Cg.k hC hk1 (by decide), ?_⟩
  refine ⟨fun c38 => ?_, fun c38 => ?_⟩
  · have h := h.1 c38
    exact T_X8_runningMinutes_48 hC  hF hQ  h
  · have h := h.2 c38
    exact T_X8_runningMinutes_48 hC  hF hQ  h
set_option maxRecDepth 20000 in
set_option maxHeartbeats 4000000 in
theorem T_X8_runningMinutes {Y : Yt} {F0 : Fl} {I0 : Il}  {it LN : Nat → Nat} {S : Shp} {F : Fl} {I : Il} {x0 : Nat} {x1 : Nat} {Q : Int → Prop} {Qw : Int → Prop} (hC : Cg Y it LN S)  (hF : Fc Y F0 I0 F I) (hQ : ∀ (z : Int), Qw z → Q z )  (h : W_X8_runningMinutes (yc Y) LN x0 x1 (Bc Y F) (Ec Y it I) Qw) : V_X8_runningMinutes (yg Y x0) (yg Y x1) S F I Q := by
  unfold V_X8_runningMinutes
  unfold W_X8_runningMinutes at h
  obtain ⟨hk1, h⟩ := h
  refine ⟨Cg.k hC hk1 (by decide), ?_⟩
  obtain ⟨hk2, h⟩ := h
  refine ⟨Cg.k hC hk2 (by decide), ?_⟩
  refine ⟨fun c9 => ?_, fun c9 => ?_⟩
  · have h := h.1 c9
    exact T_X8_runningMinutes_32 hC  hF hQ  h
  · have h := h.2 c9
    obtain ⟨hz9, h⟩ := h
    refine ⟨hz9, ?_⟩
    exact T_X8_runningMinutes_32 hC  hF hQ  h
set_option maxRecDepth 20000 in
set_option maxHeartbeats 4000000 in
theorem T_X8_crewOf {Y : Yt} {F0 : Fl} {I0 : Il}  {it LN : Nat → Nat} {S : Shp} {F : Fl} {I : Il} {x0 : Nat} {x1 : Int} {Q : Nat → Prop} {Qw : Nat → Prop} {QX : String → Shp → Fl → Il → Prop} {QXw : String → Fl → El → Prop} (hC : Cg Y it LN S)  (hF : Fc Y F0 I0 F I) (hQ : ∀ (z : Nat), Qw z → Q (yg Y z) ) (hX : ∀ (X9 : String) (F' : Fl) (I' : Il), Fc Y F0 I0 F' I' → QXw X9 (Bc Y F') (Ec Y it I') → QX X9 (thr S) F' I') (h : W_X8_crewOf (yc Y) LN x0 x1 (Bc Y F) (Ec Y it I) Qw QXw) : V_X8_crewOf (yg Y x0) x1 S F I Q QX := by
  unfold V_X8_crewOf
  unfold W_X8_crewOf at h
  obtain ⟨hk1, h⟩ := h
  refine ⟨Cg.k hC hk1 (by decide), ?_⟩
  refine ⟨_, Cg.r903 hC hk1, ?_⟩
  obtain ⟨hk2, h⟩ := h
  refine ⟨Cg.k hC hk2 (by decide), ?_⟩
  refine T_Jx4a65c_size_8abf5 hC hF (fun z3 h => ?_)  h
  try dsimp only at h
  refine T_X8_requireIndex hC hF (fun  h => ?_) hX h
  try dsimp only at h
  refine T_Jx4a65c_get_915e3 hC hF (fun z4 h => ?_)  h
  try dsimp only at h
  obtain ⟨hk5, h⟩ := h
  refine ⟨Cg.k hC hk5 (by decide), ?_⟩
  exact hQ _ h
set_option maxRecDepth 20000 in
set_option maxHeartbeats 4000000 in
theorem T_X8_stationOf {Y : Yt} {F0 : Fl} {I0 : Il}  {it LN : Nat → Nat} {S : Shp} {F : Fl} {I : Il} {x0 : Nat} {x1 : Int} {Q : Nat → Prop} {Qw : Nat → Prop} {QX : String → Shp → Fl → Il → Prop} {QXw : String → Fl → El → Prop} (hC : Cg Y it LN S)  (hF : Fc Y F0 I0 F I) (hQ : ∀ (z : Nat), Qw z → Q (yg Y z) ) (hX : ∀ (X9 : String) (F' : Fl) (I' : Il), Fc Y F0 I0 F' I' → QXw X9 (Bc Y F') (Ec Y it I') → QX X9 (thr S) F' I') (h : W_X8_stationOf (yc Y) LN x0 x1 (Bc Y F) (Ec Y it I) Qw QXw) : V_X8_stationOf (yg Y x0) x1 S F I Q QX := by
  unfold V_X8_stationOf
  unfold W_X8_stationOf at h
  obtain ⟨hk1, h⟩ := h
  refine ⟨Cg.k hC hk1 (by decide), ?_⟩
  refine ⟨_, Cg.r900 hC hk1, ?_⟩
  obtain ⟨hk2, h⟩ := h
  refine ⟨Cg.k hC hk2 (by decide), ?_⟩
  rw [Cg.n hC hk2]
  refine ⟨ln_le _, ?_⟩
  refine T_X8_requireIndex hC hF (fun  h => ?_) hX h
  try dsimp only at h
  obtain ⟨h0, h1, h⟩ := h
  refine ⟨h0, (by first | exact h1 | (rw [Cg.n hC hk2]; exact h1)), _, Cg.a1 hC h0 h1, ?_⟩
  exact hQ _ h
set_option maxRecDepth 20000 in
set_option maxHeartbeats 4000000 in
theorem T_X8_takenTracks_29 {Y : Yt} {F0 : Fl} {I0 : Il} {kv4 : Nat → Int → Int → Int → Prop} {k4 : Nat → Int → Int → Int → Prop} {it LN : Nat → Nat} {S : Shp} {F : Fl} {I : Il} {x0 : Nat} {x1 : Int} {x2 : Int} {x3 : Int} {Q : Int → Prop} {Qw : Int → Prop} (hC : Cg Y it LN S) (hk4 : ∀ (x0 : Nat) (x1 : Int) (x2 : Int) (x3 : Int), k4 x0 x1 x2 x3 → kv4 (yg Y x0) x1 x2 x3 ) (hF : Fc Y F0 I0 F I) (hQ : ∀ (z : Int), Qw z → Q z )  (h : W_X8_takenTracks_29 (yc Y) LN k4 x0 x1 x2 x3 (Bc Y F) (Ec Y it I) Qw) : V_X8_takenTracks_29 kv4 (yg Y x0) x1 x2 x3 S F I Q := by
  unfold V_X8_takenTracks_29
  unfold W_X8_takenTracks_29 at h
  exact hk4 _ _ _ _  h
set_option maxRecDepth 20000 in
set_option maxHeartbeats 4000000 in
theorem T_X8_takenTracks_4 {Y : Yt} {F0 : Fl} {I0 : Il}  {it : Nat → Nat} {LN : Nat → Nat} {S : Shp} {F : Fl} {I : Il} {Q : Int → Prop} {Qw : Int → Prop} (hC : Cg Y it LN S)  (hQ : ∀ (z : Int), Qw z → Q z )  (n9 : Nat) : ∀ (x0 : Nat) (x1 : Int) (x2 : Int) (x3 : Int), Fc Y F0 I0 F I → W_X8_takenTracks_4 (yc Y) LN n9 x0 x1 x2 x3 (Bc Y F) (Ec Y it I) Qw → V_X8_takenTracks_4 n9 (yg Y x0) x1 x2 x3 S F I Q := by
  induction n9 with
  | zero => intro x0 x1 x2 x3 hF h; exact h.elim
  | succ n ih =>
    intro x0 x1 x2 x3 hF h
    unfold V_X8_takenTracks_4
    unfold W_X8_takenTracks_4 at h
    obtain ⟨hk1, h⟩ := h
    refine ⟨Cg.k hC hk1 (by decide), ?_⟩
    refine ⟨_, Cg.r906 hC hk1, ?_⟩
    obtain ⟨hk2, h⟩ := h
    refine ⟨Cg.k hC hk2 (by decide), ?_⟩
    rw [Cg.n hC hk2]
    refine ⟨ln_le _, ?_⟩
    refine ⟨fun c10 => ?_, fun c10 => ?_⟩
    · have h := h.1 c10
      exact hQ _ h
    · have h := h.2 c10
      obtain ⟨h0, h1, h⟩ := h
      refine ⟨h0, (by first | exact h1 | (rw [Cg.n hC hk2]; exact h1)), _, Cg.a2 hC h0 h1, ?_⟩
      obtain ⟨hk4, h⟩ := h
      refine ⟨Cg.k hC hk4 (by decide), ?_⟩
      refine T_X7_takesTrackAt hC hF (fun z5 h => ?_)  h
      try dsimp only at h
      refine ⟨fun c23 => ?_, fun c23 => ?_⟩
      · have h := h.1 c23
        exact T_X8_takenTracks_29 hC (fun y0 y1 y2 y3 h9 => ih _ _ _ _ hF h9) hF hQ  h
      · have h := h.2 c23
        exact T_X8_takenTracks_29 hC (fun y0 y1 y2 y3 h9 => ih _ _ _ _ hF h9) hF hQ  h
set_option maxRecDepth 20000 in
set_option maxHeartbeats 4000000 in
theorem T_X8_takenTracks {Y : Yt} {F0 : Fl} {I0 : Il}  {it LN : Nat → Nat} {S : Shp} {F : Fl} {I : Il} {x0 : Nat} {x1 : Int} {Q : Int → Prop} {Qw : Int → Prop} (hC : Cg Y it LN S)  (hF : Fc Y F0 I0 F I) (hQ : ∀ (z : Int), Qw z → Q z )  (h : W_X8_takenTracks (yc Y) LN x0 x1 (Bc Y F) (Ec Y it I) Qw) : V_X8_takenTracks (yg Y x0) x1 S F I Q := by
  unfold V_X8_takenTracks
  unfold W_X8_takenTracks at h
  obtain ⟨n9, h⟩ := h
  exact ⟨n9, T_X8_takenTracks_4 hC  hQ  n9 _ _ _ _  hF h⟩
set_option maxRecDepth 20000 in
set_option maxHeartbeats 4000000 in
theorem T_X8_freeTracksAt {Y : Yt} {F0 : Fl} {I0 : Il}  {it LN : Nat → Nat} {S : Shp} {F : Fl} {I : Il} {x0 : Nat} {x1 : Int} {Q : Int → Prop} {Qw : Int → Prop} {QX : String → Shp → Fl → Il → Prop} {QXw : String → Fl → El → Prop} (hC : Cg Y it LN S)  (hF : Fc Y F0 I0 F I) (hQ : ∀ (z : Int), Qw z → Q z ) (hX : ∀ (X9 : String) (F' : Fl) (I' : Il), Fc Y F0 I0 F' I' → QXw X9 (Bc Y F') (Ec Y it I') → QX X9 (thr S) F' I') (h : W_X8_freeTracksAt (yc Y) LN x0 x1 (Bc Y F) (Ec Y it I) Qw QXw) : V_X8_freeTracksAt (yg Y x0) x1 S F I Q QX := by
  unfold V_X8_freeTracksAt
  unfold W_X8_freeTracksAt at h
  obtain ⟨hk1, h⟩ := h
  refine ⟨Cg.k hC hk1 (by decide), ?_⟩
  refine T_X8_stationOf hC hF (fun z2 h => ?_) hX h
  try dsimp only at h
  obtain ⟨hk3, h⟩ := h
  refine ⟨Cg.k hC hk3 (by decide), ?_⟩
  refine T_X8_takenTracks hC hF (fun z4 h => ?_)  h
  try dsimp only at h
  exact hQ _ h
set_option maxRecDepth 20000 in
set_option maxHeartbeats 4000000 in
theorem T_X8_barOfRun {Y : Yt} {F0 : Fl} {I0 : Il}  {it LN : Nat → Nat} {S : Shp} {F : Fl} {I : Il} {x0 : Nat} {x1 : Nat} {x2 : Nat} {x3 : Int} {Q : Int → Prop} {Qw : Int → Prop} {QX : String → Shp → Fl → Il → Prop} {QXw : String → Fl → El → Prop} (hC : Cg Y it LN S)  (hF : Fc Y F0 I0 F I) (hQ : ∀ (z : Int), Qw z → Q z ) (hX : ∀ (X9 : String) (F' : Fl) (I' : Il), Fc Y F0 I0 F' I' → QXw X9 (Bc Y F') (Ec Y it I') → QX X9 (thr S) F' I') (h : W_X8_barOfRun (yc Y) LN x0 x1 x2 x3 (Bc Y F) (Ec Y it I) Qw QXw) : V_X8_barOfRun (yg Y x0) (yg Y x1) (yg Y x2) x3 S F I Q QX := by
  unfold V_X8_barOfRun
  unfold W_X8_barOfRun at h
  refine T_X8_runningMinutes hC hF (fun z1 h => ?_)  h
  try dsimp only at h
  obtain ⟨hk2, h⟩ := h
  refine ⟨Cg.k hC hk2 (by decide), ?_⟩
  obtain ⟨hk3, h⟩ := h
  refine ⟨Cg.k hC hk3 (by decide), ?_⟩
  refine T_X7_minutesToClear hC hF (fun z4 h => ?_)  h
  try dsimp only at h
  obtain ⟨hk5, h⟩ := h
  refine ⟨Cg.k hC hk5 (by decide), ?_⟩
  refine T_X1_isOfOthers hC hF (fun z6 h => ?_)  h
  try dsimp only at h
  refine ⟨fun c27 => ?_, fun c27 => ?_⟩
  · have h := h.1 c27
    refine ⟨fun c51 => ?_, fun c51 => ?_⟩
    · have h := h.1 c51
      refine T_X8_crewOf hC hF (fun z7 h => ?_) hX h
      try dsimp only at h
      obtain ⟨hk8, h⟩ := h
      refine ⟨Cg.k hC hk8 (by decide), ?_⟩
      refine ⟨fun c76 => ?_, fun c76 => ?_⟩
      · have h := h.1 c76
        refine T_X3_isRestingAt hC hF (fun z9 h => ?_)  h
        try dsimp only at h
        refine ⟨fun c91 => ?_, fun c91 => ?_⟩
        · have h := h.1 c91
          exact hQ _ h
        · have h := h.2 c91
          refine ⟨fun c105 => ?_, fun c105 => ?_⟩
          · have h := h.1 c105
            refine T_X1_otherEnd hC hF (fun z10 h => ?_)  h
            try dsimp only at h
            refine T_X8_freeTracksAt hC hF (fun z11 h => ?_) hX h
            try dsimp only at h
            refine ⟨fun c123 => ?_, fun c123 => ?_⟩
            · have h := h.1 c123
              exact hQ _ h
            · have h := h.2 c123
              exact hQ _ h
          · have h := h.2 c105
            exact hQ _ h
      · have h := h.2 c76
        exact hQ _ h
    · have h := h.2 c51
      exact hQ _ h
  · have h := h.2 c27
    exact hQ _ h
set_option maxRecDepth 20000 in
set_option maxHeartbeats 4000000 in
theorem T_X8_barOf {Y : Yt} {F0 : Fl} {I0 : Il}  {it LN : Nat → Nat} {S : Shp} {F : Fl} {I : Il} {x0 : Nat} {x1 : Nat} {Q : Int → Prop} {Qw : Int → Prop} {QX : String → Shp → Fl → Il → Prop} {QXw : String → Fl → El → Prop} (hC : Cg Y it LN S)  (hF : Fc Y F0 I0 F I) (hQ : ∀ (z : Int), Qw z → Q z ) (hX : ∀ (X9 : String) (F' : Fl) (I' : Il), Fc Y F0 I0 F' I' → QXw X9 (Bc Y F') (Ec Y it I') → QX X9 (thr S) F' I') (h : W_X8_barOf (yc Y) LN x0 x1 (Bc Y F) (Ec Y it I) Qw QXw) : V_X8_barOf (yg Y x0) (yg Y x1) S F I Q QX := by
  unfold V_X8_barOf
  unfold W_X8_barOf at h
  obtain ⟨hk1, h⟩ := h
  refine ⟨Cg.k hC hk1 (by decide), ?_⟩
  refine T_X7_nextBlock hC hF (fun z2 h => ?_)  h
  try dsimp only at h
  obtain ⟨hk3, h⟩ := h
  refine ⟨Cg.k hC hk3 (by decide), ?_⟩
  refine T_X8_blockOf hC hF (fun z4 h => ?_) hX h
  try dsimp only at h
  refine T_X8_barOfStart hC hF (fun z5 h => ?_)  h
  try dsimp only at h
  refine ⟨fun c21 => ?_, fun c21 => ?_⟩
  · have h := h.1 c21
    refine T_X8_barOfRun hC hF (fun z6 h => ?_) hX h
    try dsimp only at h
    exact hQ _ h
  · have h := h.2 c21
    exact hQ _ h
set_option maxRecDepth 20000 in
set_option maxHeartbeats 4000000 in
theorem T_X8_barred {Y : Yt} {F0 : Fl} {I0 : Il}  {it LN : Nat → Nat} {S : Shp} {F : Fl} {I : Il} {x0 : Nat} {x1 : Int} {Q : Int → Prop} {Qw : Int → Prop} {QX : String → Shp → Fl → Il → Prop} {QXw : String → Fl → El → Prop} (hC : Cg Y it LN S)  (hF : Fc Y F0 I0 F I) (hQ : ∀ (z : Int), Qw z → Q z ) (hX : ∀ (X9 : String) (F' : Fl) (I' : Il), Fc Y F0 I0 F' I' → QXw X9 (Bc Y F') (Ec Y it I') → QX X9 (thr S) F' I') (h : W_X8_barred (yc Y) LN x0 x1 (Bc Y F) (Ec Y it I) Qw QXw) : V_X8_barred (yg Y x0) x1 S F I Q QX := by
  unfold V_X8_barred
  unfold W_X8_barred at h
  obtain ⟨hk1, h⟩ := h
  refine ⟨Cg.k hC hk1 (by decide), ?_⟩
  refine T_X8_trainOf hC hF (fun z2 h => ?_) hX h
  try dsimp only at h
  obtain ⟨hk3, h⟩ := h
  refine ⟨Cg.k hC hk3 (by decide), ?_⟩
  refine ⟨fun c11 => ?_, fun c11 => ?_⟩
  · have h := h.1 c11
    exact hQ _ h
  · have h := h.2 c11
    refine T_X8_barOf hC hF (fun z4 h => ?_) hX h
    try dsimp only at h
    exact hQ _ h
set_option maxRecDepth 20000 in
set_option maxHeartbeats 4000000 in
theorem T_X8_billNumbered {Y : Yt} {F0 : Fl} {I0 : Il}  {it LN : Nat → Nat} {S : Shp} {F : Fl} {I : Il} {x0 : Nat} {x1 : Int} {Q : Nat → Prop} {Qw : Nat → Prop} {QX : String → Shp → Fl → Il → Prop} {QXw : String → Fl → El → Prop} (hC : Cg Y it LN S)  (hF : Fc Y F0 I0 F I) (hQ : ∀ (z : Nat), Qw z → Q (yg Y z) ) (hX : ∀ (X9 : String) (F' : Fl) (I' : Il), Fc Y F0 I0 F' I' → QXw X9 (Bc Y F') (Ec Y it I') → QX X9 (thr S) F' I') (h : W_X8_billNumbered (yc Y) LN x0 x1 (Bc Y F) (Ec Y it I) Qw QXw) : V_X8_billNumbered (yg Y x0) x1 S F I Q QX := by
  unfold V_X8_billNumbered
  unfold W_X8_billNumbered at h
  obtain ⟨hk1, h⟩ := h
  refine ⟨Cg.k hC hk1 (by decide), ?_⟩
  refine ⟨_, Cg.r905 hC hk1, ?_⟩
  obtain ⟨hk2, h⟩ := h
  refine ⟨Cg.k hC hk2 (by decide), ?_⟩
  refine T_Jx4a65c_size_8abf5 hC hF (fun z3 h => ?_)  h
  try dsimp only at h
  refine T_X8_requireIndex hC hF (fun  h => ?_) hX h
  try dsimp only at h
  refine T_Jx4a65c_get_915e3 hC hF (fun z4 h => ?_)  h
  try dsimp only at h
  all_goals exact h.elim
set_option maxRecDepth 20000 in
set_option maxHeartbeats 4000000 in
theorem T_X8_beginDay_86 {Y : Yt} {F0 : Fl} {I0 : Il} {kv19 : Nat → Int → Fl → Prop} {k19 : Nat → Int → Fl → El → Prop} {it LN : Nat → Nat} {S : Shp} {F : Fl} {I : Il} {x0 : Nat} {x1 : Int} {Q : Fl → Prop} {Qw : Fl → El → Prop} {QX : String → Shp → Fl → Il → Prop} {QXw : String → Fl → El → Prop} (hC : Cg Y it LN S) (hk19 : ∀ (x0 : Nat) (x1 : Int) (F' : Fl), Fc Y F0 I0 F' I → k19 x0 x1 (Bc Y F') (Ec Y it I) → kv19 (yg Y x0) x1 F') (hF : Fc Y F0 I0 F I) (hQ : ∀ (F' : Fl), Fc Y F0 I0 F' I → Qw  (Bc Y F') (Ec Y it I) → Q  F') (hX : ∀ (X9 : String) (F' : Fl) (I' : Il), Fc Y F0 I0 F' I' → QXw X9 (Bc Y F') (Ec Y it I') → QX X9 (thr S) F' I') (h : W_X8_beginDay_86 (yc Y) LN k19 x0 x1 (Bc Y F) (Ec Y it I) Qw QXw) : V_X8_beginDay_86 kv19 (yg Y x0) x1 S F I Q QX := by
  unfold V_X8_beginDay_86
  unfold W_X8_beginDay_86 at h
  exact hk19 _ _ _  hF h
set_option maxRecDepth 20000 in
set_option maxHeartbeats 4000000 in
theorem T_X8_beginDay_19 {Y : Yt} {F0 : Fl} {I0 : Il}  {it : Nat → Nat} {LN : Nat → Nat} {S : Shp} {I : Il} {Q : Fl → Prop} {Qw : Fl → El → Prop} {QX : String → Shp → Fl → Il → Prop} {QXw : String → Fl → El → Prop} (hC : Cg Y it LN S)  (hQ : ∀ (F' : Fl), Fc Y F0 I0 F' I → Qw  (Bc Y F') (Ec Y it I) → Q  F') (hX : ∀ (X9 : String) (F' : Fl) (I' : Il), Fc Y F0 I0 F' I' → QXw X9 (Bc Y F') (Ec Y it I') → QX X9 (thr S) F' I') (n9 : Nat) : ∀ (x0 : Nat) (x1 : Int) (F : Fl), Fc Y F0 I0 F I → W_X8_beginDay_19 (yc Y) LN n9 x0 x1 (Bc Y F) (Ec Y it I) Qw QXw → V_X8_beginDay_19 n9 (yg Y x0) x1 S F I Q QX := by
  induction n9 with
  | zero => intro x0 x1 F hF h; exact h.elim
  | succ n ih =>
    intro x0 x1 F hF h
    unfold V_X8_beginDay_19
    unfold W_X8_beginDay_19 at h
    obtain ⟨hk1, h⟩ := h
    refine ⟨Cg.k hC hk1 (by decide), ?_⟩
    refine ⟨_, Cg.r904 hC hk1, ?_⟩
    obtain ⟨hk2, h⟩ := h
    refine ⟨Cg.k hC hk2 (by decide), ?_⟩
    refine T_Jx4a65c_size_8abf5 hC hF (fun z3 h => ?_)  h
    try dsimp only at h
    refine ⟨fun c27 => ?_, fun c27 => ?_⟩
    · have h := h.1 c27
      exact hQ _ hF h
    · have h := h.2 c27
      refine T_Jx4a65c_get_915e3 hC hF (fun z4 h => ?_)  h
      try dsimp only at h
      obtain ⟨hk5, h⟩ := h
      refine ⟨Cg.k hC hk5 (by decide), ?_⟩
      refine ⟨fun c47 => ?_, fun c47 => ?_⟩
      · have h := h.1 c47
        exact T_X8_beginDay_86 hC (fun y0 y1 F' hF9 h9 => ih _ _ F' hF9 h9) hF hQ hX h
      · have h := h.2 c47
        refine ⟨fun c55 => ?_, fun c55 => ?_⟩
        · have h := h.1 c55
          exact T_X8_beginDay_86 hC (fun y0 y1 F' hF9 h9 => ih _ _ F' hF9 h9) hF hQ hX h
        · have h := h.2 c55
          refine T_X8_billNumbered hC hF (fun z6 h => ?_) hX h
          try dsimp only at h
          all_goals exact h.elim
set_option maxRecDepth 20000 in
set_option maxHeartbeats 4000000 in
theorem T_X8_beginDay {Y : Yt} {F0 : Fl} {I0 : Il}  {it LN : Nat → Nat} {S : Shp} {F : Fl} {I : Il} {x0 : Nat} {Q : Fl → Prop} {Qw : Fl → El → Prop} {QX : String → Shp → Fl → Il → Prop} {QXw : String → Fl → El → Prop} (hC : Cg Y it LN S)  (hF : Fc Y F0 I0 F I) (hQ : ∀ (F' : Fl), Fc Y F0 I0 F' I → Qw  (Bc Y F') (Ec Y it I) → Q  F') (hX : ∀ (X9 : String) (F' : Fl) (I' : Il), Fc Y F0 I0 F' I' → QXw X9 (Bc Y F') (Ec Y it I') → QX X9 (thr S) F' I') (h : W_X8_beginDay (yc Y) LN x0 (Bc Y F) (Ec Y it I) Qw QXw) : V_X8_beginDay (yg Y x0) S F I Q QX := by
  unfold V_X8_beginDay
  unfold W_X8_beginDay at h
  obtain ⟨hk1, h⟩ := h
  refine ⟨Cg.k hC hk1 (by decide), ?_⟩
  rw [← Bc_f (F := F) hC hk1 (by decide)] at h
  obtain ⟨n9, h⟩ := h
  exact ⟨n9, T_X8_beginDay_19 hC  hQ hX n9 _ _ _  (Fc.f (k := 913) (by decide) hF) h⟩
set_option maxRecDepth 20000 in
set_option maxHeartbeats 4000000 in
theorem T_X8_block_40 {Y : Yt} {F0 : Fl} {I0 : Il}  {it LN : Nat → Nat} {S : Shp} {F : Fl} {I : Il} {s0 : Int} {Q : Int → Prop} {Qw : Int → Prop} {QX : String → Shp → Fl → Il → Prop} {QXw : String → Fl → El → Prop} (hC : Cg Y it LN S)  (hF : Fc Y F0 I0 F I) (hQ : ∀ (z : Int), Qw z → Q z ) (hX : ∀ (X9 : String) (F' : Fl) (I' : Il), Fc Y F0 I0 F' I' → QXw X9 (Bc Y F') (Ec Y it I') → QX X9 (thr S) F' I') (h : W_X8_block_40 (yc Y) LN s0 (Bc Y F) (Ec Y it I) Qw QXw) : V_X8_block_40 s0 S F I Q QX := by
  unfold V_X8_block_40
  unfold W_X8_block_40 at h
  refine ⟨fun c44 => ?_, fun c44 => ?_⟩
  · have h := h.1 c44
    exact hQ _ h
  · have h := h.2 c44
    exact hQ _ h
set_option maxRecDepth 20000 in
set_option maxHeartbeats 4000000 in
theorem T_X8_block {Y : Yt} {F0 : Fl} {I0 : Il}  {it LN : Nat → Nat} {S : Shp} {F : Fl} {I : Il} {x0 : Nat} {x1 : Int} {x2 : Int} {Q : Int → Prop} {Qw : Int → Prop} {QX : String → Shp → Fl → Il → Prop} {QXw : String → Fl → El → Prop} (hC : Cg Y it LN S)  (hF : Fc Y F0 I0 F I) (hQ : ∀ (z : Int), Qw z → Q z ) (hX : ∀ (X9 : String) (F' : Fl) (I' : Il), Fc Y F0 I0 F' I' → QXw X9 (Bc Y F') (Ec Y it I') → QX X9 (thr S) F' I') (h : W_X8_block (yc Y) LN x0 x1 x2 (Bc Y F) (Ec Y it I) Qw QXw) : V_X8_block (yg Y x0) x1 x2 S F I Q QX := by
  unfold V_X8_block
  unfold W_X8_block at h
  obtain ⟨hk1, h⟩ := h
  refine ⟨Cg.k hC hk1 (by decide), ?_⟩
  refine T_X8_blockOf hC hF (fun z2 h => ?_) hX h
  try dsimp only at h
  refine T_X8_requireIndex hC hF (fun  h => ?_) hX h
  try dsimp only at h
  refine ⟨fun c12 => ?_, fun c12 => ?_⟩
  · have h := h.1 c12
    refine ⟨fun c22 => ?_, fun c22 => ?_⟩
    · have h := h.1 c22
      obtain ⟨hk3, h⟩ := h
      refine ⟨Cg.k hC hk3 (by decide), ?_⟩
      exact T_X8_block_40 hC  hF hQ hX h
    · have h := h.2 c22
      obtain ⟨hk4, h⟩ := h
      refine ⟨Cg.k hC hk4 (by decide), ?_⟩
      refine T_X1_isClosedAt hC hF (fun z5 h => ?_)  h
      try dsimp only at h
      exact T_X8_block_40 hC  hF hQ hX h
  · have h := h.2 c12
    obtain ⟨hk6, h⟩ := h
    refine ⟨Cg.k hC hk6 (by decide), ?_⟩
    exact hQ _ h
set_option maxRecDepth 20000 in
set_option maxHeartbeats 4000000 in
theorem T_X8_carOf {Y : Yt} {F0 : Fl} {I0 : Il}  {it LN : Nat → Nat} {S : Shp} {F : Fl} {I : Il} {x0 : Nat} {x1 : Int} {Q : Nat → Prop} {Qw : Nat → Prop} {QX : String → Shp → Fl → Il → Prop} {QXw : String → Fl → El → Prop} (hC : Cg Y it LN S)  (hF : Fc Y F0 I0 F I) (hQ : ∀ (z : Nat), Qw z → Q (yg Y z) ) (hX : ∀ (X9 : String) (F' : Fl) (I' : Il), Fc Y F0 I0 F' I' → QXw X9 (Bc Y F') (Ec Y it I') → QX X9 (thr S) F' I') (h : W_X8_carOf (yc Y) LN x0 x1 (Bc Y F) (Ec Y it I) Qw QXw) : V_X8_carOf (yg Y x0) x1 S F I Q QX := by
  unfold V_X8_carOf
  unfold W_X8_carOf at h
  obtain ⟨hk1, h⟩ := h
  refine ⟨Cg.k hC hk1 (by decide), ?_⟩
  refine ⟨_, Cg.r904 hC hk1, ?_⟩
  obtain ⟨hk2, h⟩ := h
  refine ⟨Cg.k hC hk2 (by decide), ?_⟩
  refine T_Jx4a65c_size_8abf5 hC hF (fun z3 h => ?_)  h
  try dsimp only at h
  refine T_X8_requireIndex hC hF (fun  h => ?_) hX h
  try dsimp only at h
  refine T_Jx4a65c_get_915e3 hC hF (fun z4 h => ?_)  h
  try dsimp only at h
  obtain ⟨hk5, h⟩ := h
  refine ⟨Cg.k hC hk5 (by decide), ?_⟩
  exact hQ _ h
set_option maxRecDepth 20000 in
set_option maxHeartbeats 4000000 in
theorem T_X8_cash {Y : Yt} {F0 : Fl} {I0 : Il}  {it LN : Nat → Nat} {S : Shp} {F : Fl} {I : Il} {x0 : Nat} {Q : Int → Prop} {Qw : Int → Prop} (hC : Cg Y it LN S)  (hF : Fc Y F0 I0 F I) (hQ : ∀ (z : Int), Qw z → Q z )  (h : W_X8_cash (yc Y) LN x0 (Bc Y F) (Ec Y it I) Qw) : V_X8_cash (yg Y x0) S F I Q := by
  unfold V_X8_cash
  unfold W_X8_cash at h
  obtain ⟨hk1, h⟩ := h
  refine ⟨Cg.k hC hk1 (by decide), ?_⟩
  exact hQ _ h
set_option maxRecDepth 20000 in
set_option maxHeartbeats 4000000 in
theorem T_X8_clock {Y : Yt} {F0 : Fl} {I0 : Il}  {it LN : Nat → Nat} {S : Shp} {F : Fl} {I : Il} {x0 : Nat} {Q : Int → Prop} {Qw : Int → Prop} (hC : Cg Y it LN S)  (hF : Fc Y F0 I0 F I) (hQ : ∀ (z : Int), Qw z → Q z )  (h : W_X8_clock (yc Y) LN x0 (Bc Y F) (Ec Y it I) Qw) : V_X8_clock (yg Y x0) S F I Q := by
  unfold V_X8_clock
  unfold W_X8_clock at h
  obtain ⟨hk1, h⟩ := h
  refine ⟨Cg.k hC hk1 (by decide), ?_⟩
  exact hQ _ h
set_option maxRecDepth 20000 in
set_option maxHeartbeats 4000000 in
theorem T_X8_couple_66 {Y : Yt} {F0 : Fl} {I0 : Il}  {it LN : Nat → Nat} {S : Shp} {F : Fl} {I : Il} {x0 : Nat} {x1 : Int} {x2 : Int} {x3 : Nat} {x4 : Nat} {s0 : Int} {Q : Int → Shp → Fl → Il → Prop} {Qw : Int → (Nat → Nat) → Fl → El → Prop} {QX : String → Shp → Fl → Il → Prop} {QXw : String → (Nat → Nat) → Fl → El → Prop} (hC : Cg Y it LN S)  (hF : Fc Y F0 I0 F I) (hQ : ∀ (z : Int) (it' : Nat → Nat) (LN' : Nat → Nat) (S' : Shp) (F' : Fl) (I' : Il), Cg Y it' LN' S' → Fc Y F0 I0 F' I' → Qw z LN' (Bc Y F') (Ec Y it' I') → Q z S' F' I') (hX : ∀ (X9 : String) (it' LN' : Nat → Nat) (S' : Shp) (F' : Fl) (I' : Il), Cg Y it' LN' S' → Fc Y F0 I0 F' I' → QXw X9 LN' (Bc Y F') (Ec Y it' I') → QX X9 (thr S') F' I') (h : W_X8_couple_66 (yc Y) x0 x1 x2 x3 x4 s0 LN (Bc Y F) (Ec Y it I) Qw QXw) : V_X8_couple_66 (yg Y x0) x1 x2 (yg Y x3) (yg Y x4) s0 S F I Q QX := by
  unfold V_X8_couple_66
  unfold W_X8_couple_66 at h
  refine T_X8_requireState hC hF (fun  h => ?_) (fun X9 F9 I9 hF9 h9 => hX X9 _ _ _ F9 I9 hC hF9 h9) h
  try dsimp only at h
  obtain ⟨hk1, h⟩ := h
  refine ⟨Cg.k hC hk1 (by decide), ?_⟩
  obtain ⟨hk2, h⟩ := h
  refine ⟨Cg.k hC hk2 (by decide), ?_⟩
  refine T_X8_stationOf hC hF (fun z3 h => ?_) (fun X9 F9 I9 hF9 h9 => hX X9 _ _ _ F9 I9 hC hF9 h9) h
  try dsimp only at h
  obtain ⟨hk4, h⟩ := h
  refine ⟨Cg.k hC hk4 (by decide), ?_⟩
  refine ⟨_, Cg.r701 hC hk4, ?_⟩
  obtain ⟨hk5, h⟩ := h
  refine ⟨Cg.k hC hk5 (by decide), ?_⟩
  refine T_X5_drop hC hF (fun F_6 I_7 hF10 h => ?_)  h
  try dsimp only at h
  obtain ⟨hk11, h⟩ := h
  refine ⟨Cg.k hC hk11 (by decide), ?_⟩
  refine ⟨_, Cg.r809 hC hk11, ?_⟩
  obtain ⟨hk12, h⟩ := h
  refine ⟨Cg.k hC hk12 (by decide), ?_⟩
  refine T_X5_append hC hF10 (fun it_13 LN_14 S_15 F_16 I_17 hC20 hF21 h => ?_)  h
  try dsimp only at h
  obtain ⟨hk22, h⟩ := h
  refine ⟨Cg.k hC20 hk22 (by decide), ?_⟩
  obtain ⟨hk23, h⟩ := h
  refine ⟨Cg.k hC20 hk23 (by decide), ?_⟩
  refine T_X2_weight hC20 hF21 (fun z24 h => ?_)  h
  try dsimp only at h
  rw [← Bc_f (F := F_16) hC20 hk22 (by decide)] at h
  rw [← Bc_f (F := (u2 F_16 808 (yg Y _) _)) hC20 hk23 (by decide)] at h
  refine T_X2_write hC20 (Fc.f (k := 302) (by decide) (Fc.f (k := 808) (by decide) hF21)) (fun it_25 LN_26 S_27 F_28 I_29 hC32 hF33 h => ?_)  h
  try dsimp only at h
  obtain ⟨hk34, h⟩ := h
  refine ⟨Cg.k hC32 hk34 (by decide), ?_⟩
  refine ⟨_, Cg.r809 hC32 hk34, ?_⟩
  obtain ⟨hk35, h⟩ := h
  refine ⟨Cg.k hC32 hk35 (by decide), ?_⟩
  exact hQ _ _ _ _ _ _ hC32 hF33 h
set_option maxRecDepth 20000 in
set_option maxHeartbeats 4000000 in
theorem T_X8_couple_65 {Y : Yt} {F0 : Fl} {I0 : Il}  {it LN : Nat → Nat} {S : Shp} {F : Fl} {I : Il} {x0 : Nat} {x1 : Int} {x2 : Int} {x3 : Nat} {x4 : Nat} {Q : Int → Shp → Fl → Il → Prop} {Qw : Int → (Nat → Nat) → Fl → El → Prop} {QX : String → Shp → Fl → Il → Prop} {QXw : String → (Nat → Nat) → Fl → El → Prop} (hC : Cg Y it LN S)  (hF : Fc Y F0 I0 F I) (hQ : ∀ (z : Int) (it' : Nat → Nat) (LN' : Nat → Nat) (S' : Shp) (F' : Fl) (I' : Il), Cg Y it' LN' S' → Fc Y F0 I0 F' I' → Qw z LN' (Bc Y F') (Ec Y it' I') → Q z S' F' I') (hX : ∀ (X9 : String) (it' LN' : Nat → Nat) (S' : Shp) (F' : Fl) (I' : Il), Cg Y it' LN' S' → Fc Y F0 I0 F' I' → QXw X9 LN' (Bc Y F') (Ec Y it' I') → QX X9 (thr S') F' I') (h : W_X8_couple_65 (yc Y) x0 x1 x2 x3 x4 LN (Bc Y F) (Ec Y it I) Qw QXw) : V_X8_couple_65 (yg Y x0) x1 x2 (yg Y x3) (yg Y x4) S F I Q QX := by
  unfold V_X8_couple_65
  unfold W_X8_couple_65 at h
  exact T_X8_couple_66 hC  hF hQ hX h
set_option maxRecDepth 20000 in
set_option maxHeartbeats 4000000 in
theorem T_X8_couple_37 {Y : Yt} {F0 : Fl} {I0 : Il}  {it LN : Nat → Nat} {S : Shp} {F : Fl} {I : Il} {x0 : Nat} {x1 : Int} {x2 : Int} {x3 : Nat} {x4 : Nat} {s0 : Int} {Q : Int → Shp → Fl → Il → Prop} {Qw : Int → (Nat → Nat) → Fl → El → Prop} {QX : String → Shp → Fl → Il → Prop} {QXw : String → (Nat → Nat) → Fl → El → Prop} (hC : Cg Y it LN S)  (hF : Fc Y F0 I0 F I) (hQ : ∀ (z : Int) (it' : Nat → Nat) (LN' : Nat → Nat) (S' : Shp) (F' : Fl) (I' : Il), Cg Y it' LN' S' → Fc Y F0 I0 F' I' → Qw z LN' (Bc Y F') (Ec Y it' I') → Q z S' F' I') (hX : ∀ (X9 : String) (it' LN' : Nat → Nat) (S' : Shp) (F' : Fl) (I' : Il), Cg Y it' LN' S' → Fc Y F0 I0 F' I' → QXw X9 LN' (Bc Y F') (Ec Y it' I') → QX X9 (thr S') F' I') (h : W_X8_couple_37 (yc Y) x0 x1 x2 x3 x4 s0 LN (Bc Y F) (Ec Y it I) Qw QXw) : V_X8_couple_37 (yg Y x0) x1 x2 (yg Y x3) (yg Y x4) s0 S F I Q QX := by
  unfold V_X8_couple_37
  unfold W_X8_couple_37 at h
  refine T_X8_requireState hC hF (fun  h => ?_) (fun X9 F9 I9 hF9 h9 => hX X9 _ _ _ F9 I9 hC hF9 h9) h
  try dsimp only at h
  obtain ⟨hk1, h⟩ := h
  refine ⟨Cg.k hC hk1 (by decide), ?_⟩
  refine ⟨fun c46 => ?_, fun c46 => ?_⟩
  · have h := h.1 c46
    exact T_X8_couple_65 hC  hF hQ hX h
  · have h := h.2 c46
    obtain ⟨hk2, h⟩ := h
    refine ⟨Cg.k hC hk2 (by decide), ?_⟩
    refine ⟨fun c58 => ?_, fun c58 => ?_⟩
    · have h := h.1 c58
      exact T_X8_couple_65 hC  hF hQ hX h
    · have h := h.2 c58
      exact T_X8_couple_66 hC  hF hQ hX h
set_option maxRecDepth 20000 in
set_option maxHeartbeats 4000000 in
theorem T_X8_couple_36 {Y : Yt} {F0 : Fl} {I0 : Il}  {it LN : Nat → Nat} {S : Shp} {F : Fl} {I : Il} {x0 : Nat} {x1 : Int} {x2 : Int} {x3 : Nat} {x4 : Nat} {Q : Int → Shp → Fl → Il → Prop} {Qw : Int → (Nat → Nat) → Fl → El → Prop} {QX : String → Shp → Fl → Il → Prop} {QXw : String → (Nat → Nat) → Fl → El → Prop} (hC : Cg Y it LN S)  (hF : Fc Y F0 I0 F I) (hQ : ∀ (z : Int) (it' : Nat → Nat) (LN' : Nat → Nat) (S' : Shp) (F' : Fl) (I' : Il), Cg Y it' LN' S' → Fc Y F0 I0 F' I' → Qw z LN' (Bc Y F') (Ec Y it' I') → Q z S' F' I') (hX : ∀ (X9 : String) (it' LN' : Nat → Nat) (S' : Shp) (F' : Fl) (I' : Il), Cg Y it' LN' S' → Fc Y F0 I0 F' I' → QXw X9 LN' (Bc Y F') (Ec Y it' I') → QX X9 (thr S') F' I') (h : W_X8_couple_36 (yc Y) x0 x1 x2 x3 x4 LN (Bc Y F) (Ec Y it I) Qw QXw) : V_X8_couple_36 (yg Y x0) x1 x2 (yg Y x3) (yg Y x4) S F I Q QX := by
  unfold V_X8_couple_36
  unfold W_X8_couple_36 at h
  exact T_X8_couple_37 hC  hF hQ hX h
set_option maxRecDepth 20000 in
set_option maxHeartbeats 4000000 in
theorem T_X8_couple {Y : Yt} {F0 : Fl} {I0 : Il}  {it LN : Nat → Nat} {S : Shp} {F : Fl} {I : Il} {x0 : Nat} {x1 : Int} {x2 : Int} {Q : Int → Shp → Fl → Il → Prop} {Qw : Int → (Nat → Nat) → Fl → El → Prop} {QX : String → Shp → Fl → Il → Prop} {QXw : String → (Nat → Nat) → Fl → El → Prop} (hC : Cg Y it LN S)  (hF : Fc Y F0 I0 F I) (hQ : ∀ (z : Int) (it' : Nat → Nat) (LN' : Nat → Nat) (S' : Shp) (F' : Fl) (I' : Il), Cg Y it' LN' S' → Fc Y F0 I0 F' I' → Qw z LN' (Bc Y F') (Ec Y it' I') → Q z S' F' I') (hX : ∀ (X9 : String) (it' LN' : Nat → Nat) (S' : Shp) (F' : Fl) (I' : Il), Cg Y it' LN' S' → Fc Y F0 I0 F' I' → QXw X9 LN' (Bc Y F') (Ec Y it' I') → QX X9 (thr S') F' I') (h : W_X8_couple (yc Y) x0 x1 x2 LN (Bc Y F) (Ec Y it I) Qw QXw) : V_X8_couple (yg Y x0) x1 x2 S F I Q QX := by
  unfold V_X8_couple
  unfold W_X8_couple at h
  obtain ⟨hk1, h⟩ := h
  refine ⟨Cg.k hC hk1 (by decide), ?_⟩
  refine T_X8_trainOf hC hF (fun z2 h => ?_) (fun X9 F9 I9 hF9 h9 => hX X9 _ _ _ F9 I9 hC hF9 h9) h
  try dsimp only at h
  refine T_X8_carOf hC hF (fun z3 h => ?_) (fun X9 F9 I9 hF9 h9 => hX X9 _ _ _ F9 I9 hC hF9 h9) h
  try dsimp only at h
  obtain ⟨hk4, h⟩ := h
  refine ⟨Cg.k hC hk4 (by decide), ?_⟩
  refine T_X7_stands hC hF (fun z5 h => ?_)  h
  try dsimp only at h
  refine ⟨fun c17 => ?_, fun c17 => ?_⟩
  · have h := h.1 c17
    exact T_X8_couple_36 hC  hF hQ hX h
  · have h := h.2 c17
    refine ⟨_, Cg.r809 hC hk4, ?_⟩
    obtain ⟨hk6, h⟩ := h
    refine ⟨Cg.k hC hk6 (by decide), ?_⟩
    refine ⟨fun c29 => ?_, fun c29 => ?_⟩
    · have h := h.1 c29
      exact T_X8_couple_36 hC  hF hQ hX h
    · have h := h.2 c29
      exact T_X8_couple_37 hC  hF hQ hX h
set_option maxRecDepth 20000 in
set_option maxHeartbeats 4000000 in
theorem T_X8_duty {Y : Yt} {F0 : Fl} {I0 : Il}  {it LN : Nat → Nat} {S : Shp} {F : Fl} {I : Il} {x0 : Nat} {x1 : Int} {Q : Int → Prop} {Qw : Int → Prop} {QX : String → Shp → Fl → Il → Prop} {QXw : String → Fl → El → Prop} (hC : Cg Y it LN S)  (hF : Fc Y F0 I0 F I) (hQ : ∀ (z : Int), Qw z → Q z ) (hX : ∀ (X9 : String) (F' : Fl) (I' : Il), Fc Y F0 I0 F' I' → QXw X9 (Bc Y F') (Ec Y it I') → QX X9 (thr S) F' I') (h : W_X8_duty (yc Y) LN x0 x1 (Bc Y F) (Ec Y it I) Qw QXw) : V_X8_duty (yg Y x0) x1 S F I Q QX := by
  unfold V_X8_duty
  unfold W_X8_duty at h
  obtain ⟨hk1, h⟩ := h
  refine ⟨Cg.k hC hk1 (by decide), ?_⟩
  refine T_X8_crewOf hC hF (fun z2 h => ?_) hX h
  try dsimp only at h
  obtain ⟨hk3, h⟩ := h
  refine ⟨Cg.k hC hk3 (by decide), ?_⟩
  refine T_X3_isRestingAt hC hF (fun z4 h => ?_)  h
  try dsimp only at h
  refine ⟨fun c14 => ?_, fun c14 => ?_⟩
  · have h := h.1 c14
    exact hQ _ h
  · have h := h.2 c14
    exact hQ _ h
set_option maxRecDepth 20000 in
set_option maxHeartbeats 4000000 in
theorem T_X8_endOfDraft_4 {Y : Yt} {F0 : Fl} {I0 : Il}  {it : Nat → Nat} {LN : Nat → Nat} {S : Shp} {F : Fl} {I : Il} {Q : Int → Prop} {Qw : Int → Prop} {QX : String → Shp → Fl → Il → Prop} {QXw : String → Fl → El → Prop} (hC : Cg Y it LN S)  (hQ : ∀ (z : Int), Qw z → Q z ) (hX : ∀ (X9 : String) (F' : Fl) (I' : Il), Fc Y F0 I0 F' I' → QXw X9 (Bc Y F') (Ec Y it I') → QX X9 (thr S) F' I') (n9 : Nat) : ∀ (x0 : Nat) (x2 : Int) (x3 : Int), Fc Y F0 I0 F I → W_X8_endOfDraft_4 (yc Y) LN n9 x0 x2 x3 (Bc Y F) (Ec Y it I) Qw QXw → V_X8_endOfDraft_4 n9 (yg Y x0) x2 x3 S F I Q QX := by
  induction n9 with
  | zero => intro x0 x2 x3 hF h; exact h.elim
  | succ n ih =>
    intro x0 x2 x3 hF h
    unfold V_X8_endOfDraft_4
    unfold W_X8_endOfDraft_4 at h
    obtain ⟨hk1, h⟩ := h
    refine ⟨Cg.k hC hk1 (by decide), ?_⟩
    refine ⟨_, Cg.r909 hC hk1, ?_⟩
    obtain ⟨hk2, h⟩ := h
    refine ⟨Cg.k hC hk2 (by decide), ?_⟩
    refine ⟨fun c12 => ?_, fun c12 => ?_⟩
    · have h := h.1 c12
      exact hQ _ h
    · have h := h.2 c12
      refine ⟨fun c17 => ?_, fun c17 => ?_⟩
      · have h := h.1 c17
        exact hQ _ h
      · have h := h.2 c17
        refine T_X5_at hC hF (fun z3 h => ?_)  h
        try dsimp only at h
        refine T_X8_blockOf hC hF (fun z4 h => ?_) hX h
        try dsimp only at h
        obtain ⟨hk5, h⟩ := h
        refine ⟨Cg.k hC hk5 (by decide), ?_⟩
        refine T_X1_otherEnd hC hF (fun z6 h => ?_)  h
        try dsimp only at h
        exact ih _ _ _  hF h
set_option maxRecDepth 20000 in
set_option maxHeartbeats 4000000 in
theorem T_X8_endOfDraft {Y : Yt} {F0 : Fl} {I0 : Il}  {it LN : Nat → Nat} {S : Shp} {F : Fl} {I : Il} {x0 : Nat} {x1 : Int} {Q : Int → Prop} {Qw : Int → Prop} {QX : String → Shp → Fl → Il → Prop} {QXw : String → Fl → El → Prop} (hC : Cg Y it LN S)  (hF : Fc Y F0 I0 F I) (hQ : ∀ (z : Int), Qw z → Q z ) (hX : ∀ (X9 : String) (F' : Fl) (I' : Il), Fc Y F0 I0 F' I' → QXw X9 (Bc Y F') (Ec Y it I') → QX X9 (thr S) F' I') (h : W_X8_endOfDraft (yc Y) LN x0 x1 (Bc Y F) (Ec Y it I) Qw QXw) : V_X8_endOfDraft (yg Y x0) x1 S F I Q QX := by
  unfold V_X8_endOfDraft
  unfold W_X8_endOfDraft at h
  obtain ⟨n9, h⟩ := h
  exact ⟨n9, T_X8_endOfDraft_4 hC  hQ hX n9 _ _ _  hF h⟩
set_option maxRecDepth 20000 in
set_option maxHeartbeats 4000000 in
theorem T_X8_requireArgument {Y : Yt} {F0 : Fl} {I0 : Il}  {it LN : Nat → Nat} {S : Shp} {F : Fl} {I : Il} {x0 : Int} {Q : Prop} {Qw : Prop} {QX : String → Shp → Fl → Il → Prop} {QXw : String → Fl → El → Prop} (hC : Cg Y it LN S)  (hF : Fc Y F0 I0 F I) (hQ : Qw  → Q  ) (hX : ∀ (X9 : String) (F' : Fl) (I' : Il), Fc Y F0 I0 F' I' → QXw X9 (Bc Y F') (Ec Y it I') → QX X9 (thr S) F' I') (h : W_X8_requireArgument (yc Y) LN x0 (Bc Y F) (Ec Y it I) Qw QXw) : V_X8_requireArgument x0 S F I Q QX := by
  unfold V_X8_requireArgument
  unfold W_X8_requireArgument at h
  refine ⟨fun c1 => ?_, fun c1 => ?_⟩
  · have h := h.1 c1
    exact hQ  h
  · have h := h.2 c1
    exact ⟨Cg.sa hC, Cg.sb hC, hX _ _ _ hF h⟩
set_option maxRecDepth 20000 in
set_option maxHeartbeats 4000000 in
theorem T_X8_requireRange_15 {Y : Yt} {F0 : Fl} {I0 : Il}  {it LN : Nat → Nat} {S : Shp} {F : Fl} {I : Il} {s0 : Int} {Q : Prop} {Qw : Prop} {QX : String → Shp → Fl → Il → Prop} {QXw : String → Fl → El → Prop} (hC : Cg Y it LN S)  (hF : Fc Y F0 I0 F I) (hQ : Qw  → Q  ) (hX : ∀ (X9 : String) (F' : Fl) (I' : Il), Fc Y F0 I0 F' I' → QXw X9 (Bc Y F') (Ec Y it I') → QX X9 (thr S) F' I') (h : W_X8_requireRange_15 (yc Y) LN s0 (Bc Y F) (Ec Y it I) Qw QXw) : V_X8_requireRange_15 s0 S F I Q QX := by
  unfold V_X8_requireRange_15
  unfold W_X8_requireRange_15 at h
  refine T_X8_requireArgument hC hF (fun  h => ?_) hX h
  try dsimp only at h
  exact hQ  h
set_option maxRecDepth 20000 in
set_option maxHeartbeats 4000000 in
theorem T_X8_requireRange_14 {Y : Yt} {F0 : Fl} {I0 : Il}  {it LN : Nat → Nat} {S : Shp} {F : Fl} {I : Il}  {Q : Prop} {Qw : Prop} {QX : String → Shp → Fl → Il → Prop} {QXw : String → Fl → El → Prop} (hC : Cg Y it LN S)  (hF : Fc Y F0 I0 F I) (hQ : Qw  → Q  ) (hX : ∀ (X9 : String) (F' : Fl) (I' : Il), Fc Y F0 I0 F' I' → QXw X9 (Bc Y F') (Ec Y it I') → QX X9 (thr S) F' I') (h : W_X8_requireRange_14 (yc Y) LN (Bc Y F) (Ec Y it I) Qw QXw) : V_X8_requireRange_14 S F I Q QX := by
  unfold V_X8_requireRange_14
  unfold W_X8_requireRange_14 at h
  exact T_X8_requireRange_15 hC  hF hQ hX h
set_option maxRecDepth 20000 in
set_option maxHeartbeats 4000000 in
theorem T_X8_requireRange {Y : Yt} {F0 : Fl} {I0 : Il}  {it LN : Nat → Nat} {S : Shp} {F : Fl} {I : Il} {x0 : Int} {x1 : Int} {x2 : Int} {Q : Prop} {Qw : Prop} {QX : String → Shp → Fl → Il → Prop} {QXw : String → Fl → El → Prop} (hC : Cg Y it LN S)  (hF : Fc Y F0 I0 F I) (hQ : Qw  → Q  ) (hX : ∀ (X9 : String) (F' : Fl) (I' : Il), Fc Y F0 I0 F' I' → QXw X9 (Bc Y F') (Ec Y it I') → QX X9 (thr S) F' I') (h : W_X8_requireRange (yc Y) LN x0 x1 x2 (Bc Y F) (Ec Y it I) Qw QXw) : V_X8_requireRange x0 x1 x2 S F I Q QX := by
  unfold V_X8_requireRange
  unfold W_X8_requireRange at h
  refine ⟨fun c2 => ?_, fun c2 => ?_⟩
  · have h := h.1 c2
    exact T_X8_requireRange_14 hC  hF hQ hX h
  · have h := h.2 c2
    refine ⟨fun c7 => ?_, fun c7 => ?_⟩
    · have h := h.1 c7
      exact T_X8_requireRange_14 hC  hF hQ hX h
    · have h := h.2 c7
      exact T_X8_requireRange_15 hC  hF hQ hX h
set_option maxRecDepth 20000 in
set_option maxHeartbeats 4000000 in
theorem T_X8_engineOf {Y : Yt} {F0 : Fl} {I0 : Il}  {it LN : Nat → Nat} {S : Shp} {F : Fl} {I : Il} {x0 : Nat} {x1 : Int} {Q : Nat → Prop} {Qw : Nat → Prop} {QX : String → Shp → Fl → Il → Prop} {QXw : String → Fl → El → Prop} (hC : Cg Y it LN S)  (hF : Fc Y F0 I0 F I) (hQ : ∀ (z : Nat), Qw z → Q (yg Y z) ) (hX : ∀ (X9 : String) (F' : Fl) (I' : Il), Fc Y F0 I0 F' I' → QXw X9 (Bc Y F') (Ec Y it I') → QX X9 (thr S) F' I') (h : W_X8_engineOf (yc Y) LN x0 x1 (Bc Y F) (Ec Y it I) Qw QXw) : V_X8_engineOf (yg Y x0) x1 S F I Q QX := by
  unfold V_X8_engineOf
  unfold W_X8_engineOf at h
  obtain ⟨hk1, h⟩ := h
  refine ⟨Cg.k hC hk1 (by decide), ?_⟩
  refine ⟨_, Cg.r902 hC hk1, ?_⟩
  obtain ⟨hk2, h⟩ := h
  refine ⟨Cg.k hC hk2 (by decide), ?_⟩
  refine T_Jx4a65c_size_8abf5 hC hF (fun z3 h => ?_)  h
  try dsimp only at h
  refine T_X8_requireIndex hC hF (fun  h => ?_) hX h
  try dsimp only at h
  refine T_Jx4a65c_get_915e3 hC hF (fun z4 h => ?_)  h
  try dsimp only at h
  obtain ⟨hk5, h⟩ := h
  refine ⟨Cg.k hC hk5 (by decide), ?_⟩
  exact hQ _ h
set_option maxRecDepth 20000 in
set_option maxHeartbeats 4000000 in
theorem T_X8_enter_41 {Y : Yt} {F0 : Fl} {I0 : Il}  {it LN : Nat → Nat} {S : Shp} {F : Fl} {I : Il} {x0 : Nat} {x1 : Nat} {x2 : Nat} {x3 : Int} {x4 : Int} {Q : Fl → Prop} {Qw : Fl → El → Prop} {QX : String → Shp → Fl → Il → Prop} {QXw : String → Fl → El → Prop} (hC : Cg Y it LN S)  (hF : Fc Y F0 I0 F I) (hQ : ∀ (F' : Fl), Fc Y F0 I0 F' I → Qw  (Bc Y F') (Ec Y it I) → Q  F') (hX : ∀ (X9 : String) (F' : Fl) (I' : Il), Fc Y F0 I0 F' I' → QXw X9 (Bc Y F') (Ec Y it I') → QX X9 (thr S) F' I') (h : W_X8_enter_41 (yc Y) LN x0 x1 x2 x3 x4 (Bc Y F) (Ec Y it I) Qw QXw) : V_X8_enter_41 (yg Y x0) (yg Y x1) (yg Y x2) x3 x4 S F I Q QX := by
  unfold V_X8_enter_41
  unfold W_X8_enter_41 at h
  obtain ⟨hk1, h⟩ := h
  refine ⟨Cg.k hC hk1 (by decide), ?_⟩
  obtain ⟨hk2, h⟩ := h
  refine ⟨Cg.k hC hk2 (by decide), ?_⟩
  refine T_X1_otherEnd hC hF (fun z3 h => ?_)  h
  try dsimp only at h
  rw [← Bc_f (F := F) hC hk1 (by decide)] at h
  rw [← Bc_f (F := (u2 F 805 (yg Y _) _)) hC hk1 (by decide)] at h
  rw [← Bc_f (F := (u2 (u2 F 805 (yg Y _) _) 806 (yg Y _) _)) hC hk1 (by decide)] at h
  obtain ⟨hk4, h⟩ := h
  refine ⟨Cg.k hC hk4 (by decide), ?_⟩
  rw [← Bc_f (F := (u2 (u2 (u2 F 805 (yg Y _) _) 806 (yg Y _) _) 811 (yg Y _) _)) hC hk1 (by decide)] at h
  rw [← Bc_f (F := (u2 (u2 (u2 (u2 F 805 (yg Y _) _) 806 (yg Y _) _) 811 (yg Y _) _) 807 (yg Y _) _)) hC hk1 (by decide)] at h
  rw [← Bc_f (F := (u2 (u2 (u2 (u2 (u2 F 805 (yg Y _) _) 806 (yg Y _) _) 811 (yg Y _) _) 807 (yg Y _) _) 801 (yg Y _) _)) hC hk2 (by decide)] at h
  rw [← Bc_f (F := (u2 (u2 (u2 (u2 (u2 (u2 F 805 (yg Y _) _) 806 (yg Y _) _) 811 (yg Y _) _) 807 (yg Y _) _) 801 (yg Y _) _) 206 (yg Y _) _)) hC hk2 (by decide)] at h
  refine T_X7_minutesToClear hC (Fc.f (k := 211) (by decide) (Fc.f (k := 206) (by decide) (Fc.f (k := 801) (by decide) (Fc.f (k := 807) (by decide) (Fc.f (k := 811) (by decide) (Fc.f (k := 806) (by decide) (Fc.f (k := 805) (by decide) hF))))))) (fun z5 h => ?_)  h
  try dsimp only at h
  rw [← Bc_f (F := (u2 (u2 (u2 (u2 (u2 (u2 (u2 F 805 (yg Y _) _) 806 (yg Y _) _) 811 (yg Y _) _) 807 (yg Y _) _) 801 (yg Y _) _) 206 (yg Y _) _) 211 (yg Y _) _)) hC hk2 (by decide)] at h
  exact hQ _ (Fc.f (k := 212) (by decide) (Fc.f (k := 211) (by decide) (Fc.f (k := 206) (by decide) (Fc.f (k := 801) (by decide) (Fc.f (k := 807) (by decide) (Fc.f (k := 811) (by decide) (Fc.f (k := 806) (by decide) (Fc.f (k := 805) (by decide) hF)))))))) h
set_option maxRecDepth 20000 in
set_option maxHeartbeats 4000000 in
theorem T_X8_enter {Y : Yt} {F0 : Fl} {I0 : Il}  {it LN : Nat → Nat} {S : Shp} {F : Fl} {I : Il} {x0 : Nat} {x1 : Nat} {x2 : Nat} {x3 : Int} {Q : Fl → Prop} {Qw : Fl → El → Prop} {QX : String → Shp → Fl → Il → Prop} {QXw : String → Fl → El → Prop} (hC : Cg Y it LN S)  (hF : Fc Y F0 I0 F I) (hQ : ∀ (F' : Fl), Fc Y F0 I0 F' I → Qw  (Bc Y F') (Ec Y it I) → Q  F') (hX : ∀ (X9 : String) (F' : Fl) (I' : Il), Fc Y F0 I0 F' I' → QXw X9 (Bc Y F') (Ec Y it I') → QX X9 (thr S) F' I') (h : W_X8_enter (yc Y) LN x0 x1 x2 x3 (Bc Y F) (Ec Y it I) Qw QXw) : V_X8_enter (yg Y x0) (yg Y x1) (yg Y x2) x3 S F I Q QX := by
  unfold V_X8_enter
  unfold W_X8_enter at h
  refine T_X8_runningMinutes hC hF (fun z1 h => ?_)  h
  try dsimp only at h
  obtain ⟨hk2, h⟩ := h
  refine ⟨Cg.k hC hk2 (by decide), ?_⟩
  obtain ⟨hk3, h⟩ := h
  refine ⟨Cg.k hC hk3 (by decide), ?_⟩
  refine T_X8_crewOf hC hF (fun z4 h => ?_) hX h
  try dsimp only at h
  obtain ⟨hk5, h⟩ := h
  refine ⟨Cg.k hC hk5 (by decide), ?_⟩
  rw [← Bc_f (F := F) hC hk5 (by decide)] at h
  refine ⟨fun c33 => ?_, fun c33 => ?_⟩
  · have h := h.1 c33
    exact T_X8_enter_41 hC  (Fc.f (k := 403) (by decide) hF) hQ hX h
  · have h := h.2 c33
    rw [← Bc_f (F := (u2 F 403 (yg Y _) _)) hC hk2 (by decide)] at h
    exact T_X8_enter_41 hC  (Fc.f (k := 814) (by decide) (Fc.f (k := 403) (by decide) hF)) hQ hX h
set_option maxRecDepth 20000 in
set_option maxHeartbeats 4000000 in
theorem T_X8_nextToEnter_80 {Y : Yt} {F0 : Fl} {I0 : Il} {kv7 : Nat → Int → Int → Int → Int → Prop} {k7 : Nat → Int → Int → Int → Int → Prop} {it LN : Nat → Nat} {S : Shp} {F : Fl} {I : Il} {x0 : Nat} {x1 : Int} {x2 : Int} {x3 : Int} {x4 : Int} {Q : Int → Prop} {Qw : Int → Prop} (hC : Cg Y it LN S) (hk7 : ∀ (x0 : Nat) (x1 : Int) (x2 : Int) (x3 : Int) (x4 : Int), k7 x0 x1 x2 x3 x4 → kv7 (yg Y x0) x1 x2 x3 x4 ) (hF : Fc Y F0 I0 F I) (hQ : ∀ (z : Int), Qw z → Q z )  (h : W_X8_nextToEnter_80 (yc Y) LN k7 x0 x1 x2 x3 x4 (Bc Y F) (Ec Y it I) Qw) : V_X8_nextToEnter_80 kv7 (yg Y x0) x1 x2 x3 x4 S F I Q := by
  unfold V_X8_nextToEnter_80
  unfold W_X8_nextToEnter_80 at h
  exact hk7 _ _ _ _ _  h
set_option maxRecDepth 20000 in
set_option maxHeartbeats 4000000 in
theorem T_X8_nextToEnter_31 {Y : Yt} {F0 : Fl} {I0 : Il} {kv7 : Nat → Int → Int → Int → Int → Prop} {k7 : Nat → Int → Int → Int → Int → Prop} {it LN : Nat → Nat} {S : Shp} {F : Fl} {I : Il} {x0 : Nat} {x1 : Int} {x2 : Int} {x3 : Int} {x4 : Int} {s0 : Int} {Q : Int → Prop} {Qw : Int → Prop} (hC : Cg Y it LN S) (hk7 : ∀ (x0 : Nat) (x1 : Int) (x2 : Int) (x3 : Int) (x4 : Int), k7 x0 x1 x2 x3 x4 → kv7 (yg Y x0) x1 x2 x3 x4 ) (hF : Fc Y F0 I0 F I) (hQ : ∀ (z : Int), Qw z → Q z )  (h : W_X8_nextToEnter_31 (yc Y) LN k7 x0 x1 x2 x3 x4 s0 (Bc Y F) (Ec Y it I) Qw) : V_X8_nextToEnter_31 kv7 (yg Y x0) x1 x2 x3 x4 s0 S F I Q := by
  unfold V_X8_nextToEnter_31
  unfold W_X8_nextToEnter_31 at h
  obtain ⟨hk1, h⟩ := h
  refine ⟨Cg.k hC hk1 (by decide), ?_⟩
  refine ⟨_, Cg.r906 hC hk1, ?_⟩
  obtain ⟨hk2, h⟩ := h
  refine ⟨Cg.k hC hk2 (by decide), ?_⟩
  obtain ⟨h0, h1, h⟩ := h
  refine ⟨h0, (by first | exact h1 | (rw [Cg.n hC hk2]; exact h1)), _, Cg.a2 hC h0 h1, ?_⟩
  obtain ⟨hk4, h⟩ := h
  refine ⟨Cg.k hC hk4 (by decide), ?_⟩
  refine ⟨fun c44 => ?_, fun c44 => ?_⟩
  · have h := h.1 c44
    exact T_X8_nextToEnter_80 hC hk7 hF hQ  h
  · have h := h.2 c44
    refine ⟨fun c49 => ?_, fun c49 => ?_⟩
    · have h := h.1 c49
      exact T_X8_nextToEnter_80 hC hk7 hF hQ  h
    · have h := h.2 c49
      obtain ⟨h0, h1, h⟩ := h
      refine ⟨h0, (by first | exact h1 | (rw [Cg.n hC hk2]; exact h1)), _, Cg.a2 hC h0 h1, ?_⟩
      obtain ⟨hk6, h⟩ := h
      refine ⟨Cg.k hC hk6 (by decide), ?_⟩
      refine ⟨fun c63 => ?_, fun c63 => ?_⟩
      · have h := h.1 c63
        exact T_X8_nextToEnter_80 hC hk7 hF hQ  h
      · have h := h.2 c63
        obtain ⟨h0, h1, h⟩ := h
        refine ⟨h0, (by first | exact h1 | (rw [Cg.n hC hk2]; exact h1)), _, Cg.a2 hC h0 h1, ?_⟩
        obtain ⟨hk8, h⟩ := h
        refine ⟨Cg.k hC hk8 (by decide), ?_⟩
        exact T_X8_nextToEnter_80 hC hk7 hF hQ  h
set_option maxRecDepth 20000 in
set_option maxHeartbeats 4000000 in
theorem T_X8_nextToEnter_7 {Y : Yt} {F0 : Fl} {I0 : Il}  {it : Nat → Nat} {LN : Nat → Nat} {S : Shp} {F : Fl} {I : Il} {Q : Int → Prop} {Qw : Int → Prop} (hC : Cg Y it LN S)  (hQ : ∀ (z : Int), Qw z → Q z )  (n9 : Nat) : ∀ (x0 : Nat) (x1 : Int) (x2 : Int) (x3 : Int) (x4 : Int), Fc Y F0 I0 F I → W_X8_nextToEnter_7 (yc Y) LN n9 x0 x1 x2 x3 x4 (Bc Y F) (Ec Y it I) Qw → V_X8_nextToEnter_7 n9 (yg Y x0) x1 x2 x3 x4 S F I Q := by
  induction n9 with
  | zero => intro x0 x1 x2 x3 x4 hF h; exact h.elim
  | succ n ih =>
    intro x0 x1 x2 x3 x4 hF h
    unfold V_X8_nextToEnter_7
    unfold W_X8_nextToEnter_7 at h
    obtain ⟨hk1, h⟩ := h
    refine ⟨Cg.k hC hk1 (by decide), ?_⟩
    refine ⟨_, Cg.r906 hC hk1, ?_⟩
    obtain ⟨hk2, h⟩ := h
    refine ⟨Cg.k hC hk2 (by decide), ?_⟩
    rw [Cg.n hC hk2]
    refine ⟨ln_le _, ?_⟩
    refine ⟨fun c14 => ?_, fun c14 => ?_⟩
    · have h := h.1 c14
      exact hQ _ h
    · have h := h.2 c14
      refine ⟨fun c23 => ?_, fun c23 => ?_⟩
      · have h := h.1 c23
        exact T_X8_nextToEnter_31 hC (fun y0 y1 y2 y3 y4 h9 => ih _ _ _ _ _ hF h9) hF hQ  h
      · have h := h.2 c23
        exact T_X8_nextToEnter_31 hC (fun y0 y1 y2 y3 y4 h9 => ih _ _ _ _ _ hF h9) hF hQ  h
set_option maxRecDepth 20000 in
set_option maxHeartbeats 4000000 in
theorem T_X8_nextToEnter {Y : Yt} {F0 : Fl} {I0 : Il}  {it LN : Nat → Nat} {S : Shp} {F : Fl} {I : Il} {x0 : Nat} {x1 : Int} {Q : Int → Prop} {Qw : Int → Prop} (hC : Cg Y it LN S)  (hF : Fc Y F0 I0 F I) (hQ : ∀ (z : Int), Qw z → Q z )  (h : W_X8_nextToEnter (yc Y) LN x0 x1 (Bc Y F) (Ec Y it I) Qw) : V_X8_nextToEnter (yg Y x0) x1 S F I Q := by
  unfold V_X8_nextToEnter
  unfold W_X8_nextToEnter at h
  obtain ⟨n9, h⟩ := h
  exact ⟨n9, T_X8_nextToEnter_7 hC  hQ  n9 _ _ _ _ _  hF h⟩
set_option maxRecDepth 20000 in
set_option maxHeartbeats 4000000 in
theorem T_X8_enterAll_79 {Y : Yt} {F0 : Fl} {I0 : Il} {kv6 : Nat → Int → Int → Int → Fl → Prop} {k6 : Nat → Int → Int → Int → Fl → El → Prop} {it LN : Nat → Nat} {S : Shp} {F : Fl} {I : Il} {x0 : Nat} {x1 : Int} {x2 : Int} {x3 : Int} {Q : Int → Fl → Prop} {Qw : Int → Fl → El → Prop} {QX : String → Shp → Fl → Il → Prop} {QXw : String → Fl → El → Prop} (hC : Cg Y it LN S) (hk6 : ∀ (x0 : Nat) (x1 : Int) (x2 : Int) (x3 : Int) (F' : Fl), Fc Y F0 I0 F' I → k6 x0 x1 x2 x3 (Bc Y F') (Ec Y it I) → kv6 (yg Y x0) x1 x2 x3 F') (hF : Fc Y F0 I0 F I) (hQ : ∀ (z : Int) (F' : Fl), Fc Y F0 I0 F' I → Qw z (Bc Y F') (Ec Y it I) → Q z F') (hX : ∀ (X9 : String) (F' : Fl) (I' : Il), Fc Y F0 I0 F' I' → QXw X9 (Bc Y F') (Ec Y it I') → QX X9 (thr S) F' I') (h : W_X8_enterAll_79 (yc Y) LN k6 x0 x1 x2 x3 (Bc Y F) (Ec Y it I) Qw QXw) : V_X8_enterAll_79 kv6 (yg Y x0) x1 x2 x3 S F I Q QX := by
  unfold V_X8_enterAll_79
  unfold W_X8_enterAll_79 at h
  exact hk6 _ _ _ _ _  hF h
set_option maxRecDepth 20000 in
set_option maxHeartbeats 4000000 in
theorem T_X8_enterAll_6 {Y : Yt} {F0 : Fl} {I0 : Il}  {it : Nat → Nat} {LN : Nat → Nat} {S : Shp} {I : Il} {Q : Int → Fl → Prop} {Qw : Int → Fl → El → Prop} {QX : String → Shp → Fl → Il → Prop} {QXw : String → Fl → El → Prop} (hC : Cg Y it LN S)  (hQ : ∀ (z : Int) (F' : Fl), Fc Y F0 I0 F' I → Qw z (Bc Y F') (Ec Y it I) → Q z F') (hX : ∀ (X9 : String) (F' : Fl) (I' : Il), Fc Y F0 I0 F' I' → QXw X9 (Bc Y F') (Ec Y it I') → QX X9 (thr S) F' I') (n9 : Nat) : ∀ (x0 : Nat) (x1 : Int) (x2 : Int) (x3 : Int) (F : Fl), Fc Y F0 I0 F I → W_X8_enterAll_6 (yc Y) LN n9 x0 x1 x2 x3 (Bc Y F) (Ec Y it I) Qw QXw → V_X8_enterAll_6 n9 (yg Y x0) x1 x2 x3 S F I Q QX := by
  induction n9 with
  | zero => intro x0 x1 x2 x3 F hF h; exact h.elim
  | succ n ih =>
    intro x0 x1 x2 x3 F hF h
    unfold V_X8_enterAll_6
    unfold W_X8_enterAll_6 at h
    obtain ⟨hk1, h⟩ := h
    refine ⟨Cg.k hC hk1 (by decide), ?_⟩
    refine ⟨_, Cg.r906 hC hk1, ?_⟩
    obtain ⟨hk2, h⟩ := h
    refine ⟨Cg.k hC hk2 (by decide), ?_⟩
    rw [Cg.n hC hk2]
    refine ⟨ln_le _, ?_⟩
    refine ⟨fun c12 => ?_, fun c12 => ?_⟩
    · have h := h.1 c12
      exact hQ _ _ hF h
    · have h := h.2 c12
      refine T_X8_nextToEnter hC hF (fun z3 h => ?_)  h
      try dsimp only at h
      refine ⟨fun c25 => ?_, fun c25 => ?_⟩
      · have h := h.1 c25
        obtain ⟨h0, h1, h⟩ := h
        refine ⟨h0, (by first | exact h1 | (rw [Cg.n hC hk2]; exact h1)), _, Cg.a2 hC h0 h1, ?_⟩
        refine T_X8_barOf hC hF (fun z5 h => ?_) hX h
        try dsimp only at h
        refine ⟨fun c53 => ?_, fun c53 => ?_⟩
        · have h := h.1 c53
          exact T_X8_enterAll_79 hC (fun y0 y1 y2 y3 F' hF9 h9 => ih _ _ _ _ F' hF9 h9) hF hQ hX h
        · have h := h.2 c53
          obtain ⟨hk6, h⟩ := h
          refine ⟨Cg.k hC hk6 (by decide), ?_⟩
          refine T_X7_nextBlock hC hF (fun z7 h => ?_)  h
          try dsimp only at h
          refine T_X8_blockOf hC hF (fun z8 h => ?_) hX h
          try dsimp only at h
          refine T_X7_nextBlock hC hF (fun z9 h => ?_)  h
          try dsimp only at h
          refine T_X8_enter hC hF (fun F_10 hF13 h => ?_) hX h
          try dsimp only at h
          exact T_X8_enterAll_79 hC (fun y0 y1 y2 y3 F' hF9 h9 => ih _ _ _ _ F' hF9 h9) hF13 hQ hX h
      · have h := h.2 c25
        exact hQ _ _ hF h
set_option maxRecDepth 20000 in
set_option maxHeartbeats 4000000 in
theorem T_X8_enterAll {Y : Yt} {F0 : Fl} {I0 : Il}  {it LN : Nat → Nat} {S : Shp} {F : Fl} {I : Il} {x0 : Nat} {Q : Int → Fl → Prop} {Qw : Int → Fl → El → Prop} {QX : String → Shp → Fl → Il → Prop} {QXw : String → Fl → El → Prop} (hC : Cg Y it LN S)  (hF : Fc Y F0 I0 F I) (hQ : ∀ (z : Int) (F' : Fl), Fc Y F0 I0 F' I → Qw z (Bc Y F') (Ec Y it I) → Q z F') (hX : ∀ (X9 : String) (F' : Fl) (I' : Il), Fc Y F0 I0 F' I' → QXw X9 (Bc Y F') (Ec Y it I') → QX X9 (thr S) F' I') (h : W_X8_enterAll (yc Y) LN x0 (Bc Y F) (Ec Y it I) Qw QXw) : V_X8_enterAll (yg Y x0) S F I Q QX := by
  unfold V_X8_enterAll
  unfold W_X8_enterAll at h
  obtain ⟨n9, h⟩ := h
  exact ⟨n9, T_X8_enterAll_6 hC  hQ hX n9 _ _ _ _ _  hF h⟩
set_option maxRecDepth 20000 in
set_option maxHeartbeats 4000000 in
theorem T_X8_fail {Y : Yt} {F0 : Fl} {I0 : Il}  {it LN : Nat → Nat} {S : Shp} {F : Fl} {I : Il} {x0 : Nat} {x1 : Int} {x2 : Int} {Q : Int → Fl → Prop} {Qw : Int → Fl → El → Prop} {QX : String → Shp → Fl → Il → Prop} {QXw : String → Fl → El → Prop} (hC : Cg Y it LN S)  (hF : Fc Y F0 I0 F I) (hQ : ∀ (z : Int) (F' : Fl), Fc Y F0 I0 F' I → Qw z (Bc Y F') (Ec Y it I) → Q z F') (hX : ∀ (X9 : String) (F' : Fl) (I' : Il), Fc Y F0 I0 F' I' → QXw X9 (Bc Y F') (Ec Y it I') → QX X9 (thr S) F' I') (h : W_X8_fail (yc Y) LN x0 x1 x2 (Bc Y F) (Ec Y it I) Qw QXw) : V_X8_fail (yg Y x0) x1 x2 S F I Q QX := by
  unfold V_X8_fail
  unfold W_X8_fail at h
  obtain ⟨hk1, h⟩ := h
  refine ⟨Cg.k hC hk1 (by decide), ?_⟩
  refine T_X8_blockOf hC hF (fun z2 h => ?_) hX h
  try dsimp only at h
  obtain ⟨hk3, h⟩ := h
  refine ⟨Cg.k hC hk3 (by decide), ?_⟩
  obtain ⟨h0, h⟩ := h
  refine ⟨h0, ?_⟩
  rw [← Bc_f (F := F) hC hk3 (by decide)] at h
  rw [← Bc_f (F := (u2 F 205 (yg Y _) _)) hC hk3 (by decide)] at h
  obtain ⟨h0, h⟩ := h
  refine ⟨h0, ?_⟩
  exact hQ _ _ (Fc.f (k := 206) (by decide) (Fc.f (k := 205) (by decide) hF)) h
set_option maxRecDepth 20000 in
set_option maxHeartbeats 4000000 in
theorem T_X8_flag_25 {Y : Yt} {F0 : Fl} {I0 : Il}  {it LN : Nat → Nat} {S : Shp} {F : Fl} {I : Il} {x2 : Nat} {s0 : Int} {Q : Fl → Prop} {Qw : Fl → El → Prop} {QX : String → Shp → Fl → Il → Prop} {QXw : String → Fl → El → Prop} (hC : Cg Y it LN S)  (hF : Fc Y F0 I0 F I) (hQ : ∀ (F' : Fl), Fc Y F0 I0 F' I → Qw  (Bc Y F') (Ec Y it I) → Q  F') (hX : ∀ (X9 : String) (F' : Fl) (I' : Il), Fc Y F0 I0 F' I' → QXw X9 (Bc Y F') (Ec Y it I') → QX X9 (thr S) F' I') (h : W_X8_flag_25 (yc Y) LN x2 s0 (Bc Y F) (Ec Y it I) Qw QXw) : V_X8_flag_25 (yg Y x2) s0 S F I Q QX := by
  unfold V_X8_flag_25
  unfold W_X8_flag_25 at h
  refine T_X8_requireState hC hF (fun  h => ?_) hX h
  try dsimp only at h
  obtain ⟨hk1, h⟩ := h
  refine ⟨Cg.k hC hk1 (by decide), ?_⟩
  rw [← Bc_f (F := F) hC hk1 (by decide)] at h
  exact hQ _ (Fc.f (k := 206) (by decide) hF) h
set_option maxRecDepth 20000 in
set_option maxHeartbeats 4000000 in
theorem T_X8_flag_24 {Y : Yt} {F0 : Fl} {I0 : Il}  {it LN : Nat → Nat} {S : Shp} {F : Fl} {I : Il} {x2 : Nat} {Q : Fl → Prop} {Qw : Fl → El → Prop} {QX : String → Shp → Fl → Il → Prop} {QXw : String → Fl → El → Prop} (hC : Cg Y it LN S)  (hF : Fc Y F0 I0 F I) (hQ : ∀ (F' : Fl), Fc Y F0 I0 F' I → Qw  (Bc Y F') (Ec Y it I) → Q  F') (hX : ∀ (X9 : String) (F' : Fl) (I' : Il), Fc Y F0 I0 F' I' → QXw X9 (Bc Y F') (Ec Y it I') → QX X9 (thr S) F' I') (h : W_X8_flag_24 (yc Y) LN x2 (Bc Y F) (Ec Y it I) Qw QXw) : V_X8_flag_24 (yg Y x2) S F I Q QX := by
  unfold V_X8_flag_24
  unfold W_X8_flag_24 at h
  exact T_X8_flag_25 hC  hF hQ hX h
set_option maxRecDepth 20000 in
set_option maxHeartbeats 4000000 in
theorem T_X8_flag {Y : Yt} {F0 : Fl} {I0 : Il}  {it LN : Nat → Nat} {S : Shp} {F : Fl} {I : Il} {x0 : Nat} {x1 : Int} {Q : Fl → Prop} {Qw : Fl → El → Prop} {QX : String → Shp → Fl → Il → Prop} {QXw : String → Fl → El → Prop} (hC : Cg Y it LN S)  (hF : Fc Y F0 I0 F I) (hQ : ∀ (F' : Fl), Fc Y F0 I0 F' I → Qw  (Bc Y F') (Ec Y it I) → Q  F') (hX : ∀ (X9 : String) (F' : Fl) (I' : Il), Fc Y F0 I0 F' I' → QXw X9 (Bc Y F') (Ec Y it I') → QX X9 (thr S) F' I') (h : W_X8_flag (yc Y) LN x0 x1 (Bc Y F) (Ec Y it I) Qw QXw) : V_X8_flag (yg Y x0) x1 S F I Q QX := by
  unfold V_X8_flag
  unfold W_X8_flag at h
  obtain ⟨hk1, h⟩ := h
  refine ⟨Cg.k hC hk1 (by decide), ?_⟩
  refine T_X8_blockOf hC hF (fun z2 h => ?_) hX h
  try dsimp only at h
  obtain ⟨hk3, h⟩ := h
  refine ⟨Cg.k hC hk3 (by decide), ?_⟩
  refine ⟨fun c10 => ?_, fun c10 => ?_⟩
  · have h := h.1 c10
    exact T_X8_flag_24 hC  hF hQ hX h
  · have h := h.2 c10
    refine ⟨fun c17 => ?_, fun c17 => ?_⟩
    · have h := h.1 c17
      exact T_X8_flag_24 hC  hF hQ hX h
    · have h := h.2 c17
      exact T_X8_flag_25 hC  hF hQ hX h
set_option maxRecDepth 20000 in
set_option maxHeartbeats 4000000 in
theorem T_X8_leastFreeNumber_2 {Y : Yt} {F0 : Fl} {I0 : Il}  {it : Nat → Nat} {LN : Nat → Nat} {S : Shp} {F : Fl} {I : Il} {Q : Int → Prop} {Qw : Int → Prop} (hC : Cg Y it LN S)  (hQ : ∀ (z : Int), Qw z → Q z )  (n9 : Nat) : ∀ (x0 : Nat) (x1 : Int), Fc Y F0 I0 F I → W_X8_leastFreeNumber_2 (yc Y) LN n9 x0 x1 (Bc Y F) (Ec Y it I) Qw → V_X8_leastFreeNumber_2 n9 (yg Y x0) x1 S F I Q := by
  induction n9 with
  | zero => intro x0 x1 hF h; exact h.elim
  | succ n ih =>
    intro x0 x1 hF h
    unfold V_X8_leastFreeNumber_2
    unfold W_X8_leastFreeNumber_2 at h
    obtain ⟨hk1, h⟩ := h
    refine ⟨Cg.k hC hk1 (by decide), ?_⟩
    refine ⟨_, Cg.r906 hC hk1, ?_⟩
    obtain ⟨hk2, h⟩ := h
    refine ⟨Cg.k hC hk2 (by decide), ?_⟩
    rw [Cg.n hC hk2]
    refine ⟨ln_le _, ?_⟩
    refine ⟨fun c8 => ?_, fun c8 => ?_⟩
    · have h := h.1 c8
      exact hQ _ h
    · have h := h.2 c8
      obtain ⟨h0, h1, h⟩ := h
      refine ⟨h0, (by first | exact h1 | (rw [Cg.n hC hk2]; exact h1)), _, Cg.a2 hC h0 h1, ?_⟩
      obtain ⟨hk4, h⟩ := h
      refine ⟨Cg.k hC hk4 (by decide), ?_⟩
      refine ⟨fun c21 => ?_, fun c21 => ?_⟩
      · have h := h.1 c21
        exact ih _ _  hF h
      · have h := h.2 c21
        exact hQ _ h
set_option maxRecDepth 20000 in
set_option maxHeartbeats 4000000 in
theorem T_X8_leastFreeNumber {Y : Yt} {F0 : Fl} {I0 : Il}  {it LN : Nat → Nat} {S : Shp} {F : Fl} {I : Il} {x0 : Nat} {Q : Int → Prop} {Qw : Int → Prop} (hC : Cg Y it LN S)  (hF : Fc Y F0 I0 F I) (hQ : ∀ (z : Int), Qw z → Q z )  (h : W_X8_leastFreeNumber (yc Y) LN x0 (Bc Y F) (Ec Y it I) Qw) : V_X8_leastFreeNumber (yg Y x0) S F I Q := by
  unfold V_X8_leastFreeNumber
  unfold W_X8_leastFreeNumber at h
  obtain ⟨n9, h⟩ := h
  exact ⟨n9, T_X8_leastFreeNumber_2 hC  hQ  n9 _ _  hF h⟩
set_option maxRecDepth 20000 in
set_option maxHeartbeats 4000000 in
theorem T_X8_form_106 {Y : Yt} {F0 : Fl} {I0 : Il}  {it LN : Nat → Nat} {S : Shp} {F : Fl} {I : Il} {x0 : Nat} {x1 : Int} {x2 : Int} {x3 : Nat} {x4 : Nat} {x5 : Int} {s0 : Int} {Q : Int → Fl → Il → Prop} {Qw : Int → Fl → El → Prop} {QX : String → Shp → Fl → Il → Prop} {QXw : String → Fl → El → Prop} (hC : Cg Y it LN S)  (hF : Fc Y F0 I0 F I) (hQ : ∀ (z : Int) (F' : Fl) (I' : Il), Fc Y F0 I0 F' I' → Qw z (Bc Y F') (Ec Y it I') → Q z F' I') (hX : ∀ (X9 : String) (F' : Fl) (I' : Il), Fc Y F0 I0 F' I' → QXw X9 (Bc Y F') (Ec Y it I') → QX X9 (thr S) F' I') (h : W_X8_form_106 (yc Y) LN x0 x1 x2 x3 x4 x5 s0 (Bc Y F) (Ec Y it I) Qw QXw) : V_X8_form_106 (yg Y x0) x1 x2 (yg Y x3) (yg Y x4) x5 s0 S F I Q QX := by
  unfold V_X8_form_106
  unfold W_X8_form_106 at h
  refine T_X8_requireState hC hF (fun  h => ?_) hX h
  try dsimp only at h
  obtain ⟨hk1, h⟩ := h
  refine ⟨Cg.k hC hk1 (by decide), ?_⟩
  refine ⟨_, Cg.r906 hC hk1, ?_⟩
  obtain ⟨hk2, h⟩ := h
  refine ⟨Cg.k hC hk2 (by decide), ?_⟩
  obtain ⟨h0, h1, h⟩ := h
  refine ⟨h0, (by first | exact h1 | (rw [Cg.n hC hk2]; exact h1)), _, Cg.a2 hC h0 h1, ?_⟩
  obtain ⟨hk4, h⟩ := h
  refine ⟨Cg.k hC hk4 (by decide), ?_⟩
  obtain ⟨hk5, h⟩ := h
  refine ⟨Cg.k hC hk5 (by decide), ?_⟩
  refine T_X7_start hC hF (fun F_6 I_7 hF10 h => ?_)  h
  try dsimp only at h
  rw [← Bc_f (F := F_6) hC hk4 (by decide)] at h
  obtain ⟨hk11, h⟩ := h
  refine ⟨Cg.k hC hk11 (by decide), ?_⟩
  rw [← Bc_f (F := (u2 F_6 502 (yg Y _) _)) hC hk11 (by decide)] at h
  exact hQ _ _ _ (Fc.f (k := 401) (by decide) (Fc.f (k := 502) (by decide) hF10)) h
set_option maxRecDepth 20000 in
set_option maxHeartbeats 4000000 in
theorem T_X8_form_86 {Y : Yt} {F0 : Fl} {I0 : Il}  {it LN : Nat → Nat} {S : Shp} {F : Fl} {I : Il} {x0 : Nat} {x1 : Int} {x2 : Int} {x3 : Nat} {x4 : Nat} {s0 : Int} {Q : Int → Fl → Il → Prop} {Qw : Int → Fl → El → Prop} {QX : String → Shp → Fl → Il → Prop} {QXw : String → Fl → El → Prop} (hC : Cg Y it LN S)  (hF : Fc Y F0 I0 F I) (hQ : ∀ (z : Int) (F' : Fl) (I' : Il), Fc Y F0 I0 F' I' → Qw z (Bc Y F') (Ec Y it I') → Q z F' I') (hX : ∀ (X9 : String) (F' : Fl) (I' : Il), Fc Y F0 I0 F' I' → QXw X9 (Bc Y F') (Ec Y it I') → QX X9 (thr S) F' I') (h : W_X8_form_86 (yc Y) LN x0 x1 x2 x3 x4 s0 (Bc Y F) (Ec Y it I) Qw QXw) : V_X8_form_86 (yg Y x0) x1 x2 (yg Y x3) (yg Y x4) s0 S F I Q QX := by
  unfold V_X8_form_86
  unfold W_X8_form_86 at h
  refine T_X8_requireState hC hF (fun  h => ?_) hX h
  try dsimp only at h
  obtain ⟨hk1, h⟩ := h
  refine ⟨Cg.k hC hk1 (by decide), ?_⟩
  refine T_X8_leastFreeNumber hC hF (fun z2 h => ?_)  h
  try dsimp only at h
  refine ⟨fun c98 => ?_, fun c98 => ?_⟩
  · have h := h.1 c98
    exact T_X8_form_106 hC  hF hQ hX h
  · have h := h.2 c98
    exact T_X8_form_106 hC  hF hQ hX h
set_option maxRecDepth 20000 in
set_option maxHeartbeats 4000000 in
theorem T_X8_form_67 {Y : Yt} {F0 : Fl} {I0 : Il}  {it LN : Nat → Nat} {S : Shp} {F : Fl} {I : Il} {x0 : Nat} {x1 : Int} {x2 : Int} {x3 : Nat} {x4 : Nat} {s0 : Int} {Q : Int → Fl → Il → Prop} {Qw : Int → Fl → El → Prop} {QX : String → Shp → Fl → Il → Prop} {QXw : String → Fl → El → Prop} (hC : Cg Y it LN S)  (hF : Fc Y F0 I0 F I) (hQ : ∀ (z : Int) (F' : Fl) (I' : Il), Fc Y F0 I0 F' I' → Qw z (Bc Y F') (Ec Y it I') → Q z F' I') (hX : ∀ (X9 : String) (F' : Fl) (I' : Il), Fc Y F0 I0 F' I' → QXw X9 (Bc Y F') (Ec Y it I') → QX X9 (thr S) F' I') (h : W_X8_form_67 (yc Y) LN x0 x1 x2 x3 x4 s0 (Bc Y F) (Ec Y it I) Qw QXw) : V_X8_form_67 (yg Y x0) x1 x2 (yg Y x3) (yg Y x4) s0 S F I Q QX := by
  unfold V_X8_form_67
  unfold W_X8_form_67 at h
  refine T_X8_requireState hC hF (fun  h => ?_) hX h
  try dsimp only at h
  obtain ⟨hk1, h⟩ := h
  refine ⟨Cg.k hC hk1 (by decide), ?_⟩
  obtain ⟨hk2, h⟩ := h
  refine ⟨Cg.k hC hk2 (by decide), ?_⟩
  refine T_X8_freeTracksAt hC hF (fun z3 h => ?_) hX h
  try dsimp only at h
  refine ⟨fun c78 => ?_, fun c78 => ?_⟩
  · have h := h.1 c78
    exact T_X8_form_86 hC  hF hQ hX h
  · have h := h.2 c78
    exact T_X8_form_86 hC  hF hQ hX h
set_option maxRecDepth 20000 in
set_option maxHeartbeats 4000000 in
theorem T_X8_form_66 {Y : Yt} {F0 : Fl} {I0 : Il}  {it LN : Nat → Nat} {S : Shp} {F : Fl} {I : Il} {x0 : Nat} {x1 : Int} {x2 : Int} {x3 : Nat} {x4 : Nat} {Q : Int → Fl → Il → Prop} {Qw : Int → Fl → El → Prop} {QX : String → Shp → Fl → Il → Prop} {QXw : String → Fl → El → Prop} (hC : Cg Y it LN S)  (hF : Fc Y F0 I0 F I) (hQ : ∀ (z : Int) (F' : Fl) (I' : Il), Fc Y F0 I0 F' I' → Qw z (Bc Y F') (Ec Y it I') → Q z F' I') (hX : ∀ (X9 : String) (F' : Fl) (I' : Il), Fc Y F0 I0 F' I' → QXw X9 (Bc Y F') (Ec Y it I') → QX X9 (thr S) F' I') (h : W_X8_form_66 (yc Y) LN x0 x1 x2 x3 x4 (Bc Y F) (Ec Y it I) Qw QXw) : V_X8_form_66 (yg Y x0) x1 x2 (yg Y x3) (yg Y x4) S F I Q QX := by
  unfold V_X8_form_66
  unfold W_X8_form_66 at h
  exact T_X8_form_67 hC  hF hQ hX h
set_option maxRecDepth 20000 in
set_option maxHeartbeats 4000000 in
theorem T_X8_form_35 {Y : Yt} {F0 : Fl} {I0 : Il}  {it LN : Nat → Nat} {S : Shp} {F : Fl} {I : Il} {x0 : Nat} {x1 : Int} {x2 : Int} {x3 : Nat} {x4 : Nat} {s0 : Int} {Q : Int → Fl → Il → Prop} {Qw : Int → Fl → El → Prop} {QX : String → Shp → Fl → Il → Prop} {QXw : String → Fl → El → Prop} (hC : Cg Y it LN S)  (hF : Fc Y F0 I0 F I) (hQ : ∀ (z : Int) (F' : Fl) (I' : Il), Fc Y F0 I0 F' I' → Qw z (Bc Y F') (Ec Y it I') → Q z F' I') (hX : ∀ (X9 : String) (F' : Fl) (I' : Il), Fc Y F0 I0 F' I' → QXw X9 (Bc Y F') (Ec Y it I') → QX X9 (thr S) F' I') (h : W_X8_form_35 (yc Y) LN x0 x1 x2 x3 x4 s0 (Bc Y F) (Ec Y it I) Qw QXw) : V_X8_form_35 (yg Y x0) x1 x2 (yg Y x3) (yg Y x4) s0 S F I Q QX := by
  unfold V_X8_form_35
  unfold W_X8_form_35 at h
  refine T_X8_requireState hC hF (fun  h => ?_) hX h
  try dsimp only at h
  obtain ⟨hk1, h⟩ := h
  refine ⟨Cg.k hC hk1 (by decide), ?_⟩
  obtain ⟨hk2, h⟩ := h
  refine ⟨Cg.k hC hk2 (by decide), ?_⟩
  refine ⟨fun c47 => ?_, fun c47 => ?_⟩
  · have h := h.1 c47
    exact T_X8_form_66 hC  hF hQ hX h
  · have h := h.2 c47
    obtain ⟨hk3, h⟩ := h
    refine ⟨Cg.k hC hk3 (by decide), ?_⟩
    refine T_X3_isRestingAt hC hF (fun z4 h => ?_)  h
    try dsimp only at h
    refine ⟨fun c59 => ?_, fun c59 => ?_⟩
    · have h := h.1 c59
      exact T_X8_form_66 hC  hF hQ hX h
    · have h := h.2 c59
      exact T_X8_form_67 hC  hF hQ hX h
set_option maxRecDepth 20000 in
set_option maxHeartbeats 4000000 in
theorem T_X8_form_34 {Y : Yt} {F0 : Fl} {I0 : Il}  {it LN : Nat → Nat} {S : Shp} {F : Fl} {I : Il} {x0 : Nat} {x1 : Int} {x2 : Int} {x3 : Nat} {x4 : Nat} {Q : Int → Fl → Il → Prop} {Qw : Int → Fl → El → Prop} {QX : String → Shp → Fl → Il → Prop} {QXw : String → Fl → El → Prop} (hC : Cg Y it LN S)  (hF : Fc Y F0 I0 F I) (hQ : ∀ (z : Int) (F' : Fl) (I' : Il), Fc Y F0 I0 F' I' → Qw z (Bc Y F') (Ec Y it I') → Q z F' I') (hX : ∀ (X9 : String) (F' : Fl) (I' : Il), Fc Y F0 I0 F' I' → QXw X9 (Bc Y F') (Ec Y it I') → QX X9 (thr S) F' I') (h : W_X8_form_34 (yc Y) LN x0 x1 x2 x3 x4 (Bc Y F) (Ec Y it I) Qw QXw) : V_X8_form_34 (yg Y x0) x1 x2 (yg Y x3) (yg Y x4) S F I Q QX := by
  unfold V_X8_form_34
  unfold W_X8_form_34 at h
  exact T_X8_form_35 hC  hF hQ hX h
set_option maxRecDepth 20000 in
set_option maxHeartbeats 4000000 in
theorem T_X8_form {Y : Yt} {F0 : Fl} {I0 : Il}  {it LN : Nat → Nat} {S : Shp} {F : Fl} {I : Il} {x0 : Nat} {x1 : Int} {x2 : Int} {Q : Int → Fl → Il → Prop} {Qw : Int → Fl → El → Prop} {QX : String → Shp → Fl → Il → Prop} {QXw : String → Fl → El → Prop} (hC : Cg Y it LN S)  (hF : Fc Y F0 I0 F I) (hQ : ∀ (z : Int) (F' : Fl) (I' : Il), Fc Y F0 I0 F' I' → Qw z (Bc Y F') (Ec Y it I') → Q z F' I') (hX : ∀ (X9 : String) (F' : Fl) (I' : Il), Fc Y F0 I0 F' I' → QXw X9 (Bc Y F') (Ec Y it I') → QX X9 (thr S) F' I') (h : W_X8_form (yc Y) LN x0 x1 x2 (Bc Y F) (Ec Y it I) Qw QXw) : V_X8_form (yg Y x0) x1 x2 S F I Q QX := by
  unfold V_X8_form
  unfold W_X8_form at h
  obtain ⟨hk1, h⟩ := h
  refine ⟨Cg.k hC hk1 (by decide), ?_⟩
  refine T_X8_engineOf hC hF (fun z2 h => ?_) hX h
  try dsimp only at h
  refine T_X8_crewOf hC hF (fun z3 h => ?_) hX h
  try dsimp only at h
  obtain ⟨hk4, h⟩ := h
  refine ⟨Cg.k hC hk4 (by decide), ?_⟩
  refine ⟨fun c18 => ?_, fun c18 => ?_⟩
  · have h := h.1 c18
    exact T_X8_form_34 hC  hF hQ hX h
  · have h := h.2 c18
    obtain ⟨hk5, h⟩ := h
    refine ⟨Cg.k hC hk5 (by decide), ?_⟩
    refine ⟨fun c27 => ?_, fun c27 => ?_⟩
    · have h := h.1 c27
      exact T_X8_form_34 hC  hF hQ hX h
    · have h := h.2 c27
      exact T_X8_form_35 hC  hF hQ hX h
set_option maxRecDepth 20000 in
set_option maxHeartbeats 4000000 in
theorem T_X8_freeTracks {Y : Yt} {F0 : Fl} {I0 : Il}  {it LN : Nat → Nat} {S : Shp} {F : Fl} {I : Il} {x0 : Nat} {x1 : Int} {Q : Int → Prop} {Qw : Int → Prop} {QX : String → Shp → Fl → Il → Prop} {QXw : String → Fl → El → Prop} (hC : Cg Y it LN S)  (hF : Fc Y F0 I0 F I) (hQ : ∀ (z : Int), Qw z → Q z ) (hX : ∀ (X9 : String) (F' : Fl) (I' : Il), Fc Y F0 I0 F' I' → QXw X9 (Bc Y F') (Ec Y it I') → QX X9 (thr S) F' I') (h : W_X8_freeTracks (yc Y) LN x0 x1 (Bc Y F) (Ec Y it I) Qw QXw) : V_X8_freeTracks (yg Y x0) x1 S F I Q QX := by
  unfold V_X8_freeTracks
  unfold W_X8_freeTracks at h
  obtain ⟨hk1, h⟩ := h
  refine ⟨Cg.k hC hk1 (by decide), ?_⟩
  refine T_X8_freeTracksAt hC hF (fun z2 h => ?_) hX h
  try dsimp only at h
  exact hQ _ h
set_option maxRecDepth 20000 in
set_option maxHeartbeats 4000000 in
theorem T_X8_holder {Y : Yt} {F0 : Fl} {I0 : Il}  {it LN : Nat → Nat} {S : Shp} {F : Fl} {I : Il} {x0 : Nat} {x1 : Int} {Q : Int → Prop} {Qw : Int → Prop} {QX : String → Shp → Fl → Il → Prop} {QXw : String → Fl → El → Prop} (hC : Cg Y it LN S)  (hF : Fc Y F0 I0 F I) (hQ : ∀ (z : Int), Qw z → Q z ) (hX : ∀ (X9 : String) (F' : Fl) (I' : Il), Fc Y F0 I0 F' I' → QXw X9 (Bc Y F') (Ec Y it I') → QX X9 (thr S) F' I') (h : W_X8_holder (yc Y) LN x0 x1 (Bc Y F) (Ec Y it I) Qw QXw) : V_X8_holder (yg Y x0) x1 S F I Q QX := by
  unfold V_X8_holder
  unfold W_X8_holder at h
  obtain ⟨hk1, h⟩ := h
  refine ⟨Cg.k hC hk1 (by decide), ?_⟩
  refine T_X8_blockOf hC hF (fun z2 h => ?_) hX h
  try dsimp only at h
  obtain ⟨hk3, h⟩ := h
  refine ⟨Cg.k hC hk3 (by decide), ?_⟩
  refine T_X1_holderAt hC hF (fun z4 h => ?_)  h
  try dsimp only at h
  exact hQ _ h
set_option maxRecDepth 20000 in
set_option maxHeartbeats 4000000 in
theorem T_X8_requireBlock {Y : Yt} {F0 : Fl} {I0 : Il}  {it LN : Nat → Nat} {S : Shp} {F : Fl} {I : Il} {x0 : Nat} {x1 : Int} {Q : Prop} {Qw : Prop} {QX : String → Shp → Fl → Il → Prop} {QXw : String → Fl → El → Prop} (hC : Cg Y it LN S)  (hF : Fc Y F0 I0 F I) (hQ : Qw  → Q  ) (hX : ∀ (X9 : String) (F' : Fl) (I' : Il), Fc Y F0 I0 F' I' → QXw X9 (Bc Y F') (Ec Y it I') → QX X9 (thr S) F' I') (h : W_X8_requireBlock (yc Y) LN x0 x1 (Bc Y F) (Ec Y it I) Qw QXw) : V_X8_requireBlock (yg Y x0) x1 S F I Q QX := by
  unfold V_X8_requireBlock
  unfold W_X8_requireBlock at h
  obtain ⟨hk1, h⟩ := h
  refine ⟨Cg.k hC hk1 (by decide), ?_⟩
  refine ⟨_, Cg.r901 hC hk1, ?_⟩
  obtain ⟨hk2, h⟩ := h
  refine ⟨Cg.k hC hk2 (by decide), ?_⟩
  refine T_Jx4a65c_size_8abf5 hC hF (fun z3 h => ?_)  h
  try dsimp only at h
  refine T_X8_requireIndex hC hF (fun  h => ?_) hX h
  try dsimp only at h
  exact hQ  h
set_option maxRecDepth 20000 in
set_option maxHeartbeats 4000000 in
theorem T_X8_holderByTrains_7 {Y : Yt} {F0 : Fl} {I0 : Il}  {it : Nat → Nat} {LN : Nat → Nat} {S : Shp} {F : Fl} {I : Il} {Q : Int → Prop} {Qw : Int → Prop} {QX : String → Shp → Fl → Il → Prop} {QXw : String → Fl → El → Prop} (hC : Cg Y it LN S)  (hQ : ∀ (z : Int), Qw z → Q z ) (hX : ∀ (X9 : String) (F' : Fl) (I' : Il), Fc Y F0 I0 F' I' → QXw X9 (Bc Y F') (Ec Y it I') → QX X9 (thr S) F' I') (n9 : Nat) : ∀ (x0 : Nat) (x1 : Int) (x2 : Int), Fc Y F0 I0 F I → W_X8_holderByTrains_7 (yc Y) LN n9 x0 x1 x2 (Bc Y F) (Ec Y it I) Qw QXw → V_X8_holderByTrains_7 n9 (yg Y x0) x1 x2 S F I Q QX := by
  induction n9 with
  | zero => intro x0 x1 x2 hF h; exact h.elim
  | succ n ih =>
    intro x0 x1 x2 hF h
    unfold V_X8_holderByTrains_7
    unfold W_X8_holderByTrains_7 at h
    obtain ⟨hk1, h⟩ := h
    refine ⟨Cg.k hC hk1 (by decide), ?_⟩
    refine ⟨_, Cg.r906 hC hk1, ?_⟩
    obtain ⟨hk2, h⟩ := h
    refine ⟨Cg.k hC hk2 (by decide), ?_⟩
    rw [Cg.n hC hk2]
    refine ⟨ln_le _, ?_⟩
    refine ⟨fun c13 => ?_, fun c13 => ?_⟩
    · have h := h.1 c13
      exact hQ _ h
    · have h := h.2 c13
      obtain ⟨h0, h1, h⟩ := h
      refine ⟨h0, (by first | exact h1 | (rw [Cg.n hC hk2]; exact h1)), _, Cg.a2 hC h0 h1, ?_⟩
      obtain ⟨hk4, h⟩ := h
      refine ⟨Cg.k hC hk4 (by decide), ?_⟩
      refine T_X7_holds hC hF (fun z5 h => ?_)  h
      try dsimp only at h
      refine ⟨fun c30 => ?_, fun c30 => ?_⟩
      · have h := h.1 c30
        exact ih _ _ _  hF h
      · have h := h.2 c30
        exact hQ _ h
set_option maxRecDepth 20000 in
set_option maxHeartbeats 4000000 in
theorem T_X8_holderByTrains {Y : Yt} {F0 : Fl} {I0 : Il}  {it LN : Nat → Nat} {S : Shp} {F : Fl} {I : Il} {x0 : Nat} {x1 : Int} {Q : Int → Prop} {Qw : Int → Prop} {QX : String → Shp → Fl → Il → Prop} {QXw : String → Fl → El → Prop} (hC : Cg Y it LN S)  (hF : Fc Y F0 I0 F I) (hQ : ∀ (z : Int), Qw z → Q z ) (hX : ∀ (X9 : String) (F' : Fl) (I' : Il), Fc Y F0 I0 F' I' → QXw X9 (Bc Y F') (Ec Y it I') → QX X9 (thr S) F' I') (h : W_X8_holderByTrains (yc Y) LN x0 x1 (Bc Y F) (Ec Y it I) Qw QXw) : V_X8_holderByTrains (yg Y x0) x1 S F I Q QX := by
  unfold V_X8_holderByTrains
  unfold W_X8_holderByTrains at h
  obtain ⟨hk1, h⟩ := h
  refine ⟨Cg.k hC hk1 (by decide), ?_⟩
  refine T_X8_requireBlock hC hF (fun  h => ?_) hX h
  try dsimp only at h
  obtain ⟨n9, h⟩ := h
  exact ⟨n9, T_X8_holderByTrains_7 hC  hQ hX n9 _ _ _  hF h⟩
set_option maxRecDepth 20000 in
set_option maxHeartbeats 4000000 in
theorem T_X8_hours {Y : Yt} {F0 : Fl} {I0 : Il}  {it LN : Nat → Nat} {S : Shp} {F : Fl} {I : Il} {x0 : Nat} {x1 : Int} {x2 : Int} {x3 : Int} {Q : Fl → Prop} {Qw : Fl → El → Prop} {QX : String → Shp → Fl → Il → Prop} {QXw : String → Fl → El → Prop} (hC : Cg Y it LN S)  (hF : Fc Y F0 I0 F I) (hQ : ∀ (F' : Fl), Fc Y F0 I0 F' I → Qw  (Bc Y F') (Ec Y it I) → Q  F') (hX : ∀ (X9 : String) (F' : Fl) (I' : Il), Fc Y F0 I0 F' I' → QXw X9 (Bc Y F') (Ec Y it I') → QX X9 (thr S) F' I') (h : W_X8_hours (yc Y) LN x0 x1 x2 x3 (Bc Y F) (Ec Y it I) Qw QXw) : V_X8_hours (yg Y x0) x1 x2 x3 S F I Q QX := by
  unfold V_X8_hours
  unfold W_X8_hours at h
  obtain ⟨hk1, h⟩ := h
  refine ⟨Cg.k hC hk1 (by decide), ?_⟩
  refine T_X8_blockOf hC hF (fun z2 h => ?_) hX h
  try dsimp only at h
  refine T_X8_requireRange hC hF (fun  h => ?_) hX h
  try dsimp only at h
  refine T_X8_requireRange hC hF (fun  h => ?_) hX h
  try dsimp only at h
  obtain ⟨hk3, h⟩ := h
  refine ⟨Cg.k hC hk3 (by decide), ?_⟩
  rw [← Bc_f (F := F) hC hk3 (by decide)] at h
  rw [← Bc_f (F := (u2 F 207 (yg Y _) _)) hC hk3 (by decide)] at h
  exact hQ _ (Fc.f (k := 208) (by decide) (Fc.f (k := 207) (by decide) hF)) h
set_option maxRecDepth 20000 in
set_option maxHeartbeats 4000000 in
theorem T_J6_bitCount_0f7a4 {Y : Yt} {F0 : Fl} {I0 : Il}  {it LN : Nat → Nat} {S : Shp} {F : Fl} {I : Il} {x0 : Int} {Q : Int → Prop} {Qw : Int → Prop} (hC : Cg Y it LN S)  (hF : Fc Y F0 I0 F I) (hQ : ∀ (z : Int), Qw z → Q z )  (h : W_J6_bitCount_0f7a4 (yc Y) LN x0 (Bc Y F) (Ec Y it I) Qw) : V_J6_bitCount_0f7a4 x0 S F I Q := by
  unfold V_J6_bitCount_0f7a4
  unfold W_J6_bitCount_0f7a4 at h
  exact hQ _ h
set_option maxRecDepth 20000 in
set_option maxHeartbeats 4000000 in
theorem T_X8_learn {Y : Yt} {F0 : Fl} {I0 : Il}  {it LN : Nat → Nat} {S : Shp} {F : Fl} {I : Il} {x0 : Nat} {x1 : Int} {x2 : Int} {Q : Int → Fl → Prop} {Qw : Int → Fl → El → Prop} {QX : String → Shp → Fl → Il → Prop} {QXw : String → Fl → El → Prop} (hC : Cg Y it LN S)  (hF : Fc Y F0 I0 F I) (hQ : ∀ (z : Int) (F' : Fl), Fc Y F0 I0 F' I → Qw z (Bc Y F') (Ec Y it I) → Q z F') (hX : ∀ (X9 : String) (F' : Fl) (I' : Il), Fc Y F0 I0 F' I' → QXw X9 (Bc Y F') (Ec Y it I') → QX X9 (thr S) F' I') (h : W_X8_learn (yc Y) LN x0 x1 x2 (Bc Y F) (Ec Y it I) Qw QXw) : V_X8_learn (yg Y x0) x1 x2 S F I Q QX := by
  unfold V_X8_learn
  unfold W_X8_learn at h
  obtain ⟨hk1, h⟩ := h
  refine ⟨Cg.k hC hk1 (by decide), ?_⟩
  refine T_X8_crewOf hC hF (fun z2 h => ?_) hX h
  try dsimp only at h
  refine T_X8_requireBlock hC hF (fun  h => ?_) hX h
  try dsimp only at h
  obtain ⟨hk3, h⟩ := h
  refine ⟨Cg.k hC hk3 (by decide), ?_⟩
  rw [← Bc_f (F := F) hC hk3 (by decide)] at h
  refine T_J6_bitCount_0f7a4 hC (Fc.f (k := 402) (by decide) hF) (fun z4 h => ?_)  h
  try dsimp only at h
  exact hQ _ _ (Fc.f (k := 402) (by decide) hF) h
set_option maxRecDepth 20000 in
set_option maxHeartbeats 4000000 in
theorem T_X8_leg_22 {Y : Yt} {F0 : Fl} {I0 : Il}  {it LN : Nat → Nat} {S : Shp} {F : Fl} {I : Il} {x0 : Nat} {x1 : Int} {s0 : Int} {Q : Int → Shp → Fl → Il → Prop} {Qw : Int → (Nat → Nat) → Fl → El → Prop} {QX : String → Shp → Fl → Il → Prop} {QXw : String → (Nat → Nat) → Fl → El → Prop} (hC : Cg Y it LN S)  (hF : Fc Y F0 I0 F I) (hQ : ∀ (z : Int) (it' : Nat → Nat) (LN' : Nat → Nat) (S' : Shp) (F' : Fl) (I' : Il), Cg Y it' LN' S' → Fc Y F0 I0 F' I' → Qw z LN' (Bc Y F') (Ec Y it' I') → Q z S' F' I') (hX : ∀ (X9 : String) (it' LN' : Nat → Nat) (S' : Shp) (F' : Fl) (I' : Il), Cg Y it' LN' S' → Fc Y F0 I0 F' I' → QXw X9 LN' (Bc Y F') (Ec Y it' I') → QX X9 (thr S') F' I') (h : W_X8_leg_22 (yc Y) x0 x1 s0 LN (Bc Y F) (Ec Y it I) Qw QXw) : V_X8_leg_22 (yg Y x0) x1 s0 S F I Q QX := by
  unfold V_X8_leg_22
  unfold W_X8_leg_22 at h
  refine T_X8_requireState hC hF (fun  h => ?_) (fun X9 F9 I9 hF9 h9 => hX X9 _ _ _ F9 I9 hC hF9 h9) h
  try dsimp only at h
  obtain ⟨hk1, h⟩ := h
  refine ⟨Cg.k hC hk1 (by decide), ?_⟩
  refine ⟨_, Cg.r909 hC hk1, ?_⟩
  obtain ⟨hk2, h⟩ := h
  refine ⟨Cg.k hC hk2 (by decide), ?_⟩
  refine T_X5_append hC hF (fun it_3 LN_4 S_5 F_6 I_7 hC10 hF11 h => ?_)  h
  try dsimp only at h
  obtain ⟨hk12, h⟩ := h
  refine ⟨Cg.k hC10 hk12 (by decide), ?_⟩
  refine ⟨_, Cg.r909 hC10 hk12, ?_⟩
  obtain ⟨hk13, h⟩ := h
  refine ⟨Cg.k hC10 hk13 (by decide), ?_⟩
  exact hQ _ _ _ _ _ _ hC10 hF11 h
set_option maxRecDepth 20000 in
set_option maxHeartbeats 4000000 in
theorem T_X8_leg {Y : Yt} {F0 : Fl} {I0 : Il}  {it LN : Nat → Nat} {S : Shp} {F : Fl} {I : Il} {x0 : Nat} {x1 : Int} {Q : Int → Shp → Fl → Il → Prop} {Qw : Int → (Nat → Nat) → Fl → El → Prop} {QX : String → Shp → Fl → Il → Prop} {QXw : String → (Nat → Nat) → Fl → El → Prop} (hC : Cg Y it LN S)  (hF : Fc Y F0 I0 F I) (hQ : ∀ (z : Int) (it' : Nat → Nat) (LN' : Nat → Nat) (S' : Shp) (F' : Fl) (I' : Il), Cg Y it' LN' S' → Fc Y F0 I0 F' I' → Qw z LN' (Bc Y F') (Ec Y it' I') → Q z S' F' I') (hX : ∀ (X9 : String) (it' LN' : Nat → Nat) (S' : Shp) (F' : Fl) (I' : Il), Cg Y it' LN' S' → Fc Y F0 I0 F' I' → QXw X9 LN' (Bc Y F') (Ec Y it' I') → QX X9 (thr S') F' I') (h : W_X8_leg (yc Y) x0 x1 LN (Bc Y F) (Ec Y it I) Qw QXw) : V_X8_leg (yg Y x0) x1 S F I Q QX := by
  unfold V_X8_leg
  unfold W_X8_leg at h
  obtain ⟨hk1, h⟩ := h
  refine ⟨Cg.k hC hk1 (by decide), ?_⟩
  refine T_X8_requireBlock hC hF (fun  h => ?_) (fun X9 F9 I9 hF9 h9 => hX X9 _ _ _ F9 I9 hC hF9 h9) h
  try dsimp only at h
  refine ⟨_, Cg.r909 hC hk1, ?_⟩
  obtain ⟨hk2, h⟩ := h
  refine ⟨Cg.k hC hk2 (by decide), ?_⟩
  refine ⟨fun c14 => ?_, fun c14 => ?_⟩
  · have h := h.1 c14
    exact T_X8_leg_22 hC  hF hQ hX h
  · have h := h.2 c14
    exact T_X8_leg_22 hC  hF hQ hX h
set_option maxRecDepth 20000 in
set_option maxHeartbeats 4000000 in
theorem T_X8_plan_70 {Y : Yt} {F0 : Fl} {I0 : Il}  {it LN : Nat → Nat} {S : Shp} {F : Fl} {I : Il} {x0 : Nat} {x2 : Int} {x3 : Int} {x4 : Nat} {x5 : Int} {s0 : Int} {Q : Int → Shp → Fl → Il → Prop} {Qw : Int → (Nat → Nat) → Fl → El → Prop} {QX : String → Shp → Fl → Il → Prop} {QXw : String → (Nat → Nat) → Fl → El → Prop} (hC : Cg Y it LN S)  (hF : Fc Y F0 I0 F I) (hQ : ∀ (z : Int) (it' : Nat → Nat) (LN' : Nat → Nat) (S' : Shp) (F' : Fl) (I' : Il), Cg Y it' LN' S' → Fc Y F0 I0 F' I' → Qw z LN' (Bc Y F') (Ec Y it' I') → Q z S' F' I') (hX : ∀ (X9 : String) (it' LN' : Nat → Nat) (S' : Shp) (F' : Fl) (I' : Il), Cg Y it' LN' S' → Fc Y F0 I0 F' I' → QXw X9 LN' (Bc Y F') (Ec Y it' I') → QX X9 (thr S') F' I') (h : W_X8_plan_70 (yc Y) x0 x2 x3 x4 x5 s0 LN (Bc Y F) (Ec Y it I) Qw QXw) : V_X8_plan_70 (yg Y x0) x2 x3 (yg Y x4) x5 s0 S F I Q QX := by
  unfold V_X8_plan_70
  unfold W_X8_plan_70 at h
  refine T_X8_requireState hC hF (fun  h => ?_) (fun X9 F9 I9 hF9 h9 => hX X9 _ _ _ F9 I9 hC hF9 h9) h
  try dsimp only at h
  obtain ⟨hk1, h⟩ := h
  refine ⟨Cg.k hC hk1 (by decide), ?_⟩
  refine ⟨_, Cg.r810 hC hk1, ?_⟩
  obtain ⟨hk2, h⟩ := h
  refine ⟨Cg.k hC hk2 (by decide), ?_⟩
  refine ⟨_, Cg.r909 hC hk2, ?_⟩
  obtain ⟨hk3, h⟩ := h
  refine ⟨Cg.k hC hk3 (by decide), ?_⟩
  refine T_X5_copy hC hF (fun it_4 LN_5 S_6 F_7 I_8 hC11 hF12 h => ?_)  h
  try dsimp only at h
  obtain ⟨hk13, h⟩ := h
  refine ⟨Cg.k hC11 hk13 (by decide), ?_⟩
  rw [← Bc_f (F := F_7) hC11 hk13 (by decide)] at h
  rw [← Bc_f (F := (u2 F_7 811 (yg Y _) _)) hC11 hk13 (by decide)] at h
  rw [← Bc_f (F := (u2 (u2 F_7 811 (yg Y _) _) 812 (yg Y _) _)) hC11 hk13 (by decide)] at h
  rw [← Bc_f (F := (u2 (u2 (u2 F_7 811 (yg Y _) _) 812 (yg Y _) _) 813 (yg Y _) _)) hC11 hk13 (by decide)] at h
  obtain ⟨hk14, h⟩ := h
  refine ⟨Cg.k hC11 hk14 (by decide), ?_⟩
  refine ⟨_, Cg.r909 hC11 hk14, ?_⟩
  obtain ⟨hk15, h⟩ := h
  refine ⟨Cg.k hC11 hk15 (by decide), ?_⟩
  refine T_X5_empty hC11 (Fc.f (k := 801) (by decide) (Fc.f (k := 813) (by decide) (Fc.f (k := 812) (by decide) (Fc.f (k := 811) (by decide) hF12)))) (fun F_16 hF19 h => ?_)  h
  try dsimp only at h
  exact hQ _ _ _ _ _ _ hC11 hF19 h
set_option maxRecDepth 20000 in
set_option maxHeartbeats 4000000 in
theorem T_X8_plan_45 {Y : Yt} {F0 : Fl} {I0 : Il}  {it LN : Nat → Nat} {S : Shp} {F : Fl} {I : Il} {x0 : Nat} {x2 : Int} {x3 : Int} {x4 : Nat} {s0 : Int} {Q : Int → Shp → Fl → Il → Prop} {Qw : Int → (Nat → Nat) → Fl → El → Prop} {QX : String → Shp → Fl → Il → Prop} {QXw : String → (Nat → Nat) → Fl → El → Prop} (hC : Cg Y it LN S)  (hF : Fc Y F0 I0 F I) (hQ : ∀ (z : Int) (it' : Nat → Nat) (LN' : Nat → Nat) (S' : Shp) (F' : Fl) (I' : Il), Cg Y it' LN' S' → Fc Y F0 I0 F' I' → Qw z LN' (Bc Y F') (Ec Y it' I') → Q z S' F' I') (hX : ∀ (X9 : String) (it' LN' : Nat → Nat) (S' : Shp) (F' : Fl) (I' : Il), Cg Y it' LN' S' → Fc Y F0 I0 F' I' → QXw X9 LN' (Bc Y F') (Ec Y it' I') → QX X9 (thr S') F' I') (h : W_X8_plan_45 (yc Y) x0 x2 x3 x4 s0 LN (Bc Y F) (Ec Y it I) Qw QXw) : V_X8_plan_45 (yg Y x0) x2 x3 (yg Y x4) s0 S F I Q QX := by
  unfold V_X8_plan_45
  unfold W_X8_plan_45 at h
  refine T_X8_requireState hC hF (fun  h => ?_) (fun X9 F9 I9 hF9 h9 => hX X9 _ _ _ F9 I9 hC hF9 h9) h
  try dsimp only at h
  obtain ⟨hk1, h⟩ := h
  refine ⟨Cg.k hC hk1 (by decide), ?_⟩
  obtain ⟨hk2, h⟩ := h
  refine ⟨Cg.k hC hk2 (by decide), ?_⟩
  refine T_X8_endOfDraft hC hF (fun z3 h => ?_) (fun X9 F9 I9 hF9 h9 => hX X9 _ _ _ F9 I9 hC hF9 h9) h
  try dsimp only at h
  refine ⟨fun c62 => ?_, fun c62 => ?_⟩
  · have h := h.1 c62
    exact T_X8_plan_70 hC  hF hQ hX h
  · have h := h.2 c62
    exact T_X8_plan_70 hC  hF hQ hX h
set_option maxRecDepth 20000 in
set_option maxHeartbeats 4000000 in
theorem T_X8_plan_44 {Y : Yt} {F0 : Fl} {I0 : Il}  {it LN : Nat → Nat} {S : Shp} {F : Fl} {I : Il} {x0 : Nat} {x2 : Int} {x3 : Int} {x4 : Nat} {Q : Int → Shp → Fl → Il → Prop} {Qw : Int → (Nat → Nat) → Fl → El → Prop} {QX : String → Shp → Fl → Il → Prop} {QXw : String → (Nat → Nat) → Fl → El → Prop} (hC : Cg Y it LN S)  (hF : Fc Y F0 I0 F I) (hQ : ∀ (z : Int) (it' : Nat → Nat) (LN' : Nat → Nat) (S' : Shp) (F' : Fl) (I' : Il), Cg Y it' LN' S' → Fc Y F0 I0 F' I' → Qw z LN' (Bc Y F') (Ec Y it' I') → Q z S' F' I') (hX : ∀ (X9 : String) (it' LN' : Nat → Nat) (S' : Shp) (F' : Fl) (I' : Il), Cg Y it' LN' S' → Fc Y F0 I0 F' I' → QXw X9 LN' (Bc Y F') (Ec Y it' I') → QX X9 (thr S') F' I') (h : W_X8_plan_44 (yc Y) x0 x2 x3 x4 LN (Bc Y F) (Ec Y it I) Qw QXw) : V_X8_plan_44 (yg Y x0) x2 x3 (yg Y x4) S F I Q QX := by
  unfold V_X8_plan_44
  unfold W_X8_plan_44 at h
  exact T_X8_plan_45 hC  hF hQ hX h
set_option maxRecDepth 20000 in
set_option maxHeartbeats 4000000 in
theorem T_X8_plan {Y : Yt} {F0 : Fl} {I0 : Il}  {it LN : Nat → Nat} {S : Shp} {F : Fl} {I : Il} {x0 : Nat} {x1 : Int} {x2 : Int} {x3 : Int} {Q : Int → Shp → Fl → Il → Prop} {Qw : Int → (Nat → Nat) → Fl → El → Prop} {QX : String → Shp → Fl → Il → Prop} {QXw : String → (Nat → Nat) → Fl → El → Prop} (hC : Cg Y it LN S)  (hF : Fc Y F0 I0 F I) (hQ : ∀ (z : Int) (it' : Nat → Nat) (LN' : Nat → Nat) (S' : Shp) (F' : Fl) (I' : Il), Cg Y it' LN' S' → Fc Y F0 I0 F' I' → Qw z LN' (Bc Y F') (Ec Y it' I') → Q z S' F' I') (hX : ∀ (X9 : String) (it' LN' : Nat → Nat) (S' : Shp) (F' : Fl) (I' : Il), Cg Y it' LN' S' → Fc Y F0 I0 F' I' → QXw X9 LN' (Bc Y F') (Ec Y it' I') → QX X9 (thr S') F' I') (h : W_X8_plan (yc Y) x0 x1 x2 x3 LN (Bc Y F) (Ec Y it I) Qw QXw) : V_X8_plan (yg Y x0) x1 x2 x3 S F I Q QX := by
  unfold V_X8_plan
  unfold W_X8_plan at h
  obtain ⟨hk1, h⟩ := h
  refine ⟨Cg.k hC hk1 (by decide), ?_⟩
  refine T_X8_trainOf hC hF (fun z2 h => ?_) (fun X9 F9 I9 hF9 h9 => hX X9 _ _ _ F9 I9 hC hF9 h9) h
  try dsimp only at h
  refine T_X8_requireRange hC hF (fun  h => ?_) (fun X9 F9 I9 hF9 h9 => hX X9 _ _ _ F9 I9 hC hF9 h9) h
  try dsimp only at h
  refine T_X8_requireRange hC hF (fun  h => ?_) (fun X9 F9 I9 hF9 h9 => hX X9 _ _ _ F9 I9 hC hF9 h9) h
  try dsimp only at h
  obtain ⟨hk3, h⟩ := h
  refine ⟨Cg.k hC hk3 (by decide), ?_⟩
  refine T_X7_stands hC hF (fun z4 h => ?_)  h
  try dsimp only at h
  refine ⟨fun c27 => ?_, fun c27 => ?_⟩
  · have h := h.1 c27
    exact T_X8_plan_44 hC  hF hQ hX h
  · have h := h.2 c27
    refine ⟨_, Cg.r909 hC hk1, ?_⟩
    obtain ⟨hk5, h⟩ := h
    refine ⟨Cg.k hC hk5 (by decide), ?_⟩
    refine ⟨fun c37 => ?_, fun c37 => ?_⟩
    · have h := h.1 c37
      exact T_X8_plan_44 hC  hF hQ hX h
    · have h := h.2 c37
      exact T_X8_plan_45 hC  hF hQ hX h
set_option maxRecDepth 20000 in
set_option maxHeartbeats 4000000 in
theorem T_X8_repair_34 {Y : Yt} {F0 : Fl} {I0 : Il}  {it LN : Nat → Nat} {S : Shp} {F : Fl} {I : Il} {x0 : Nat} {x2 : Nat} {s0 : Int} {Q : Int → Fl → Prop} {Qw : Int → Fl → El → Prop} {QX : String → Shp → Fl → Il → Prop} {QXw : String → Fl → El → Prop} (hC : Cg Y it LN S)  (hF : Fc Y F0 I0 F I) (hQ : ∀ (z : Int) (F' : Fl), Fc Y F0 I0 F' I → Qw z (Bc Y F') (Ec Y it I) → Q z F') (hX : ∀ (X9 : String) (F' : Fl) (I' : Il), Fc Y F0 I0 F' I' → QXw X9 (Bc Y F') (Ec Y it I') → QX X9 (thr S) F' I') (h : W_X8_repair_34 (yc Y) LN x0 x2 s0 (Bc Y F) (Ec Y it I) Qw QXw) : V_X8_repair_34 (yg Y x0) (yg Y x2) s0 S F I Q QX := by
  unfold V_X8_repair_34
  unfold W_X8_repair_34 at h
  refine T_X8_requireState hC hF (fun  h => ?_) hX h
  try dsimp only at h
  obtain ⟨hk1, h⟩ := h
  refine ⟨Cg.k hC hk1 (by decide), ?_⟩
  obtain ⟨hk2, h⟩ := h
  refine ⟨Cg.k hC hk2 (by decide), ?_⟩
  rw [← Bc_f (F := F) hC hk2 (by decide)] at h
  rw [← Bc_f (F := (u2 F 913 (yg Y _) _)) hC hk1 (by decide)] at h
  rw [← Bc_f (F := (u2 (u2 F 913 (yg Y _) _) 204 (yg Y _) _)) hC hk1 (by decide)] at h
  exact hQ _ _ (Fc.f (k := 209) (by decide) (Fc.f (k := 204) (by decide) (Fc.f (k := 913) (by decide) hF))) h
set_option maxRecDepth 20000 in
set_option maxHeartbeats 4000000 in
theorem T_X8_repair_33 {Y : Yt} {F0 : Fl} {I0 : Il}  {it LN : Nat → Nat} {S : Shp} {F : Fl} {I : Il} {x0 : Nat} {x2 : Nat} {Q : Int → Fl → Prop} {Qw : Int → Fl → El → Prop} {QX : String → Shp → Fl → Il → Prop} {QXw : String → Fl → El → Prop} (hC : Cg Y it LN S)  (hF : Fc Y F0 I0 F I) (hQ : ∀ (z : Int) (F' : Fl), Fc Y F0 I0 F' I → Qw z (Bc Y F') (Ec Y it I) → Q z F') (hX : ∀ (X9 : String) (F' : Fl) (I' : Il), Fc Y F0 I0 F' I' → QXw X9 (Bc Y F') (Ec Y it I') → QX X9 (thr S) F' I') (h : W_X8_repair_33 (yc Y) LN x0 x2 (Bc Y F) (Ec Y it I) Qw QXw) : V_X8_repair_33 (yg Y x0) (yg Y x2) S F I Q QX := by
  unfold V_X8_repair_33
  unfold W_X8_repair_33 at h
  exact T_X8_repair_34 hC  hF hQ hX h
set_option maxRecDepth 20000 in
set_option maxHeartbeats 4000000 in
theorem T_X8_repair {Y : Yt} {F0 : Fl} {I0 : Il}  {it LN : Nat → Nat} {S : Shp} {F : Fl} {I : Il} {x0 : Nat} {x1 : Int} {Q : Int → Fl → Prop} {Qw : Int → Fl → El → Prop} {QX : String → Shp → Fl → Il → Prop} {QXw : String → Fl → El → Prop} (hC : Cg Y it LN S)  (hF : Fc Y F0 I0 F I) (hQ : ∀ (z : Int) (F' : Fl), Fc Y F0 I0 F' I → Qw z (Bc Y F') (Ec Y it I) → Q z F') (hX : ∀ (X9 : String) (F' : Fl) (I' : Il), Fc Y F0 I0 F' I' → QXw X9 (Bc Y F') (Ec Y it I') → QX X9 (thr S) F' I') (h : W_X8_repair (yc Y) LN x0 x1 (Bc Y F) (Ec Y it I) Qw QXw) : V_X8_repair (yg Y x0) x1 S F I Q QX := by
  unfold V_X8_repair
  unfold W_X8_repair at h
  obtain ⟨hk1, h⟩ := h
  refine ⟨Cg.k hC hk1 (by decide), ?_⟩
  refine T_X8_blockOf hC hF (fun z2 h => ?_) hX h
  try dsimp only at h
  obtain ⟨hk3, h⟩ := h
  refine ⟨Cg.k hC hk3 (by decide), ?_⟩
  refine T_X1_holderAt hC hF (fun z4 h => ?_)  h
  try dsimp only at h
  refine ⟨fun c15 => ?_, fun c15 => ?_⟩
  · have h := h.1 c15
    exact T_X8_repair_33 hC  hF hQ hX h
  · have h := h.2 c15
    refine T_X1_isClosedAt hC hF (fun z5 h => ?_)  h
    try dsimp only at h
    refine ⟨fun c26 => ?_, fun c26 => ?_⟩
    · have h := h.1 c26
      exact T_X8_repair_33 hC  hF hQ hX h
    · have h := h.2 c26
      exact T_X8_repair_34 hC  hF hQ hX h
set_option maxRecDepth 20000 in
set_option maxHeartbeats 4000000 in
theorem T_X8_rest_52 {Y : Yt} {F0 : Fl} {I0 : Il}  {it LN : Nat → Nat} {S : Shp} {F : Fl} {I : Il} {x0 : Nat} {x2 : Nat} {s0 : Int} {Q : Int → Fl → Prop} {Qw : Int → Fl → El → Prop} {QX : String → Shp → Fl → Il → Prop} {QXw : String → Fl → El → Prop} (hC : Cg Y it LN S)  (hF : Fc Y F0 I0 F I) (hQ : ∀ (z : Int) (F' : Fl), Fc Y F0 I0 F' I → Qw z (Bc Y F') (Ec Y it I) → Q z F') (hX : ∀ (X9 : String) (F' : Fl) (I' : Il), Fc Y F0 I0 F' I' → QXw X9 (Bc Y F') (Ec Y it I') → QX X9 (thr S) F' I') (h : W_X8_rest_52 (yc Y) LN x0 x2 s0 (Bc Y F) (Ec Y it I) Qw QXw) : V_X8_rest_52 (yg Y x0) (yg Y x2) s0 S F I Q QX := by
  unfold V_X8_rest_52
  unfold W_X8_rest_52 at h
  refine T_X8_requireState hC hF (fun  h => ?_) hX h
  try dsimp only at h
  obtain ⟨hk1, h⟩ := h
  refine ⟨Cg.k hC hk1 (by decide), ?_⟩
  rw [← Bc_f (F := F) hC hk1 (by decide)] at h
  obtain ⟨hk2, h⟩ := h
  refine ⟨Cg.k hC hk2 (by decide), ?_⟩
  rw [← Bc_f (F := (u2 F 403 (yg Y _) _)) hC hk1 (by decide)] at h
  exact hQ _ _ (Fc.f (k := 404) (by decide) (Fc.f (k := 403) (by decide) hF)) h
set_option maxRecDepth 20000 in
set_option maxHeartbeats 4000000 in
theorem T_X8_rest_47 {Y : Yt} {F0 : Fl} {I0 : Il}  {it LN : Nat → Nat} {S : Shp} {F : Fl} {I : Il} {x0 : Nat} {x2 : Nat} {Q : Int → Fl → Prop} {Qw : Int → Fl → El → Prop} {QX : String → Shp → Fl → Il → Prop} {QXw : String → Fl → El → Prop} (hC : Cg Y it LN S)  (hF : Fc Y F0 I0 F I) (hQ : ∀ (z : Int) (F' : Fl), Fc Y F0 I0 F' I → Qw z (Bc Y F') (Ec Y it I) → Q z F') (hX : ∀ (X9 : String) (F' : Fl) (I' : Il), Fc Y F0 I0 F' I' → QXw X9 (Bc Y F') (Ec Y it I') → QX X9 (thr S) F' I') (h : W_X8_rest_47 (yc Y) LN x0 x2 (Bc Y F) (Ec Y it I) Qw QXw) : V_X8_rest_47 (yg Y x0) (yg Y x2) S F I Q QX := by
  unfold V_X8_rest_47
  unfold W_X8_rest_47 at h
  exact T_X8_rest_52 hC  hF hQ hX h
set_option maxRecDepth 20000 in
set_option maxHeartbeats 4000000 in
theorem T_X8_rest_22 {Y : Yt} {F0 : Fl} {I0 : Il}  {it LN : Nat → Nat} {S : Shp} {F : Fl} {I : Il} {x0 : Nat} {x2 : Nat} {s0 : Int} {Q : Int → Fl → Prop} {Qw : Int → Fl → El → Prop} {QX : String → Shp → Fl → Il → Prop} {QXw : String → Fl → El → Prop} (hC : Cg Y it LN S)  (hF : Fc Y F0 I0 F I) (hQ : ∀ (z : Int) (F' : Fl), Fc Y F0 I0 F' I → Qw z (Bc Y F') (Ec Y it I) → Q z F') (hX : ∀ (X9 : String) (F' : Fl) (I' : Il), Fc Y F0 I0 F' I' → QXw X9 (Bc Y F') (Ec Y it I') → QX X9 (thr S) F' I') (h : W_X8_rest_22 (yc Y) LN x0 x2 s0 (Bc Y F) (Ec Y it I) Qw QXw) : V_X8_rest_22 (yg Y x0) (yg Y x2) s0 S F I Q QX := by
  unfold V_X8_rest_22
  unfold W_X8_rest_22 at h
  refine T_X8_requireState hC hF (fun  h => ?_) hX h
  try dsimp only at h
  obtain ⟨hk1, h⟩ := h
  refine ⟨Cg.k hC hk1 (by decide), ?_⟩
  refine ⟨fun c30 => ?_, fun c30 => ?_⟩
  · have h := h.1 c30
    exact T_X8_rest_47 hC  hF hQ hX h
  · have h := h.2 c30
    obtain ⟨hk2, h⟩ := h
    refine ⟨Cg.k hC hk2 (by decide), ?_⟩
    refine T_X8_trainOf hC hF (fun z3 h => ?_) hX h
    try dsimp only at h
    obtain ⟨hk4, h⟩ := h
    refine ⟨Cg.k hC hk4 (by decide), ?_⟩
    refine T_X7_stands hC hF (fun z5 h => ?_)  h
    try dsimp only at h
    refine ⟨fun c44 => ?_, fun c44 => ?_⟩
    · have h := h.1 c44
      exact T_X8_rest_52 hC  hF hQ hX h
    · have h := h.2 c44
      exact T_X8_rest_47 hC  hF hQ hX h
set_option maxRecDepth 20000 in
set_option maxHeartbeats 4000000 in
theorem T_X8_rest {Y : Yt} {F0 : Fl} {I0 : Il}  {it LN : Nat → Nat} {S : Shp} {F : Fl} {I : Il} {x0 : Nat} {x1 : Int} {Q : Int → Fl → Prop} {Qw : Int → Fl → El → Prop} {QX : String → Shp → Fl → Il → Prop} {QXw : String → Fl → El → Prop} (hC : Cg Y it LN S)  (hF : Fc Y F0 I0 F I) (hQ : ∀ (z : Int) (F' : Fl), Fc Y F0 I0 F' I → Qw z (Bc Y F') (Ec Y it I) → Q z F') (hX : ∀ (X9 : String) (F' : Fl) (I' : Il), Fc Y F0 I0 F' I' → QXw X9 (Bc Y F') (Ec Y it I') → QX X9 (thr S) F' I') (h : W_X8_rest (yc Y) LN x0 x1 (Bc Y F) (Ec Y it I) Qw QXw) : V_X8_rest (yg Y x0) x1 S F I Q QX := by
  unfold V_X8_rest
  unfold W_X8_rest at h
  obtain ⟨hk1, h⟩ := h
  refine ⟨Cg.k hC hk1 (by decide), ?_⟩
  refine T_X8_crewOf hC hF (fun z2 h => ?_) hX h
  try dsimp only at h
  obtain ⟨hk3, h⟩ := h
  refine ⟨Cg.k hC hk3 (by decide), ?_⟩
  refine T_X3_isRestingAt hC hF (fun z4 h => ?_)  h
  try dsimp only at h
  refine ⟨fun c14 => ?_, fun c14 => ?_⟩
  · have h := h.1 c14
    exact T_X8_rest_22 hC  hF hQ hX h
  · have h := h.2 c14
    exact T_X8_rest_22 hC  hF hQ hX h
set_option maxRecDepth 20000 in
set_option maxHeartbeats 4000000 in
theorem T_X8_run_66 {Y : Yt} {F0 : Fl} {I0 : Il} {kv32 : Nat → Int → Int → Int → Fl → Il → Prop} {k32 : Nat → Int → Int → Int → Fl → El → Prop} {it LN : Nat → Nat} {S : Shp} {F : Fl} {I : Il} {x0 : Nat} {x1 : Int} {x2 : Int} {x3 : Int} {Q : Int → Fl → Il → Prop} {Qw : Int → Fl → El → Prop} {QX : String → Shp → Fl → Il → Prop} {QXw : String → Fl → El → Prop} (hC : Cg Y it LN S) (hk32 : ∀ (x0 : Nat) (x1 : Int) (x2 : Int) (x3 : Int) (F' : Fl) (I' : Il), Fc Y F0 I0 F' I' → k32 x0 x1 x2 x3 (Bc Y F') (Ec Y it I') → kv32 (yg Y x0) x1 x2 x3 F' I') (hF : Fc Y F0 I0 F I) (hQ : ∀ (z : Int) (F' : Fl) (I' : Il), Fc Y F0 I0 F' I' → Qw z (Bc Y F') (Ec Y it I') → Q z F' I') (hX : ∀ (X9 : String) (F' : Fl) (I' : Il), Fc Y F0 I0 F' I' → QXw X9 (Bc Y F') (Ec Y it I') → QX X9 (thr S) F' I') (h : W_X8_run_66 (yc Y) LN k32 x0 x1 x2 x3 (Bc Y F) (Ec Y it I) Qw QXw) : V_X8_run_66 kv32 (yg Y x0) x1 x2 x3 S F I Q QX := by
  unfold V_X8_run_66
  unfold W_X8_run_66 at h
  obtain ⟨hk1, h⟩ := h
  refine ⟨Cg.k hC hk1 (by decide), ?_⟩
  refine T_X8_enterAll hC hF (fun z2 F_3 hF6 h => ?_) hX h
  try dsimp only at h
  exact hk32 _ _ _ _ _ _  hF6 h
set_option maxRecDepth 20000 in
set_option maxHeartbeats 4000000 in
theorem T_X8_run_32 {Y : Yt} {F0 : Fl} {I0 : Il}  {it : Nat → Nat} {LN : Nat → Nat} {S : Shp} {Q : Int → Fl → Il → Prop} {Qw : Int → Fl → El → Prop} {QX : String → Shp → Fl → Il → Prop} {QXw : String → Fl → El → Prop} (hC : Cg Y it LN S)  (hQ : ∀ (z : Int) (F' : Fl) (I' : Il), Fc Y F0 I0 F' I' → Qw z (Bc Y F') (Ec Y it I') → Q z F' I') (hX : ∀ (X9 : String) (F' : Fl) (I' : Il), Fc Y F0 I0 F' I' → QXw X9 (Bc Y F') (Ec Y it I') → QX X9 (thr S) F' I') (n9 : Nat) : ∀ (x0 : Nat) (x1 : Int) (x2 : Int) (x3 : Int) (F : Fl) (I : Il), Fc Y F0 I0 F I → W_X8_run_32 (yc Y) LN n9 x0 x1 x2 x3 (Bc Y F) (Ec Y it I) Qw QXw → V_X8_run_32 n9 (yg Y x0) x1 x2 x3 S F I Q QX := by
  induction n9 with
  | zero => intro x0 x1 x2 x3 F I hF h; exact h.elim
  | succ n ih =>
    intro x0 x1 x2 x3 F I hF h
    unfold V_X8_run_32
    unfold W_X8_run_32 at h
    refine ⟨fun c34 => ?_, fun c34 => ?_⟩
    · have h := h.1 c34
      exact hQ _ _ _ hF h
    · have h := h.2 c34
      obtain ⟨hk1, h⟩ := h
      refine ⟨Cg.k hC hk1 (by decide), ?_⟩
      rw [← Bc_f (F := F) hC hk1 (by decide)] at h
      refine T_X8_arriveAll hC (Fc.f (k := 912) (by decide) hF) (fun F_2 I_3 hF6 h => ?_) hX h
      try dsimp only at h
      refine ⟨fun c59 => ?_, fun c59 => ?_⟩
      · have h := h.1 c59
        exact T_X8_run_66 hC (fun y0 y1 y2 y3 F' I' hF9 h9 => ih _ _ _ _ F' I' hF9 h9) hF6 hQ hX h
      · have h := h.2 c59
        refine T_X8_beginDay hC hF6 (fun F_7 hF10 h => ?_) hX h
        try dsimp only at h
        exact T_X8_run_66 hC (fun y0 y1 y2 y3 F' I' hF9 h9 => ih _ _ _ _ F' I' hF9 h9) hF10 hQ hX h
set_option maxRecDepth 20000 in
set_option maxHeartbeats 4000000 in
theorem T_X8_run_25 {Y : Yt} {F0 : Fl} {I0 : Il}  {it LN : Nat → Nat} {S : Shp} {F : Fl} {I : Il} {x0 : Nat} {x1 : Int} {s0 : Int} {Q : Int → Fl → Il → Prop} {Qw : Int → Fl → El → Prop} {QX : String → Shp → Fl → Il → Prop} {QXw : String → Fl → El → Prop} (hC : Cg Y it LN S)  (hF : Fc Y F0 I0 F I) (hQ : ∀ (z : Int) (F' : Fl) (I' : Il), Fc Y F0 I0 F' I' → Qw z (Bc Y F') (Ec Y it I') → Q z F' I') (hX : ∀ (X9 : String) (F' : Fl) (I' : Il), Fc Y F0 I0 F' I' → QXw X9 (Bc Y F') (Ec Y it I') → QX X9 (thr S) F' I') (h : W_X8_run_25 (yc Y) LN x0 x1 s0 (Bc Y F) (Ec Y it I) Qw QXw) : V_X8_run_25 (yg Y x0) x1 s0 S F I Q QX := by
  unfold V_X8_run_25
  unfold W_X8_run_25 at h
  refine T_X8_requireState hC hF (fun  h => ?_) hX h
  try dsimp only at h
  obtain ⟨n9, h⟩ := h
  exact ⟨n9, T_X8_run_32 hC  hQ hX n9 _ _ _ _ _ _  hF h⟩
set_option maxRecDepth 20000 in
set_option maxHeartbeats 4000000 in
theorem T_X8_run {Y : Yt} {F0 : Fl} {I0 : Il}  {it LN : Nat → Nat} {S : Shp} {F : Fl} {I : Il} {x0 : Nat} {x1 : Int} {Q : Int → Fl → Il → Prop} {Qw : Int → Fl → El → Prop} {QX : String → Shp → Fl → Il → Prop} {QXw : String → Fl → El → Prop} (hC : Cg Y it LN S)  (hF : Fc Y F0 I0 F I) (hQ : ∀ (z : Int) (F' : Fl) (I' : Il), Fc Y F0 I0 F' I' → Qw z (Bc Y F') (Ec Y it I') → Q z F' I') (hX : ∀ (X9 : String) (F' : Fl) (I' : Il), Fc Y F0 I0 F' I' → QXw X9 (Bc Y F') (Ec Y it I') → QX X9 (thr S) F' I') (h : W_X8_run (yc Y) LN x0 x1 (Bc Y F) (Ec Y it I) Qw QXw) : V_X8_run (yg Y x0) x1 S F I Q QX := by
  unfold V_X8_run
  unfold W_X8_run at h
  refine T_X8_requireRange hC hF (fun  h => ?_) hX h
  try dsimp only at h
  obtain ⟨hk1, h⟩ := h
  refine ⟨Cg.k hC hk1 (by decide), ?_⟩
  refine ⟨fun c17 => ?_, fun c17 => ?_⟩
  · have h := h.1 c17
    exact T_X8_run_25 hC  hF hQ hX h
  · have h := h.2 c17
    exact T_X8_run_25 hC  hF hQ hX h
set_option maxRecDepth 20000 in
set_option maxHeartbeats 4000000 in
theorem T_X8_tracks_26 {Y : Yt} {F0 : Fl} {I0 : Il}  {it LN : Nat → Nat} {S : Shp} {F : Fl} {I : Il} {x2 : Int} {x3 : Nat} {s0 : Int} {Q : Int → Fl → Prop} {Qw : Int → Fl → El → Prop} {QX : String → Shp → Fl → Il → Prop} {QXw : String → Fl → El → Prop} (hC : Cg Y it LN S)  (hF : Fc Y F0 I0 F I) (hQ : ∀ (z : Int) (F' : Fl), Fc Y F0 I0 F' I → Qw z (Bc Y F') (Ec Y it I) → Q z F') (hX : ∀ (X9 : String) (F' : Fl) (I' : Il), Fc Y F0 I0 F' I' → QXw X9 (Bc Y F') (Ec Y it I') → QX X9 (thr S) F' I') (h : W_X8_tracks_26 (yc Y) LN x2 x3 s0 (Bc Y F) (Ec Y it I) Qw QXw) : V_X8_tracks_26 x2 (yg Y x3) s0 S F I Q QX := by
  unfold V_X8_tracks_26
  unfold W_X8_tracks_26 at h
  refine T_X8_requireState hC hF (fun  h => ?_) hX h
  try dsimp only at h
  obtain ⟨hk1, h⟩ := h
  refine ⟨Cg.k hC hk1 (by decide), ?_⟩
  rw [← Bc_f (F := F) hC hk1 (by decide)] at h
  exact hQ _ _ (Fc.f (k := 700) (by decide) hF) h
set_option maxRecDepth 20000 in
set_option maxHeartbeats 4000000 in
theorem T_X8_tracks {Y : Yt} {F0 : Fl} {I0 : Il}  {it LN : Nat → Nat} {S : Shp} {F : Fl} {I : Il} {x0 : Nat} {x1 : Int} {x2 : Int} {Q : Int → Fl → Prop} {Qw : Int → Fl → El → Prop} {QX : String → Shp → Fl → Il → Prop} {QXw : String → Fl → El → Prop} (hC : Cg Y it LN S)  (hF : Fc Y F0 I0 F I) (hQ : ∀ (z : Int) (F' : Fl), Fc Y F0 I0 F' I → Qw z (Bc Y F') (Ec Y it I) → Q z F') (hX : ∀ (X9 : String) (F' : Fl) (I' : Il), Fc Y F0 I0 F' I' → QXw X9 (Bc Y F') (Ec Y it I') → QX X9 (thr S) F' I') (h : W_X8_tracks (yc Y) LN x0 x1 x2 (Bc Y F) (Ec Y it I) Qw QXw) : V_X8_tracks (yg Y x0) x1 x2 S F I Q QX := by
  unfold V_X8_tracks
  unfold W_X8_tracks at h
  obtain ⟨hk1, h⟩ := h
  refine ⟨Cg.k hC hk1 (by decide), ?_⟩
  refine T_X8_stationOf hC hF (fun z2 h => ?_) hX h
  try dsimp only at h
  refine T_X8_requireRange hC hF (fun  h => ?_) hX h
  try dsimp only at h
  refine T_X8_takenTracks hC hF (fun z3 h => ?_)  h
  try dsimp only at h
  refine ⟨fun c18 => ?_, fun c18 => ?_⟩
  · have h := h.1 c18
    exact T_X8_tracks_26 hC  hF hQ hX h
  · have h := h.2 c18
    exact T_X8_tracks_26 hC  hF hQ hX h
set_option maxRecDepth 20000 in
set_option maxHeartbeats 4000000 in
theorem T_X8_train {Y : Yt} {F0 : Fl} {I0 : Il}  {it LN : Nat → Nat} {S : Shp} {F : Fl} {I : Il} {x0 : Nat} {x1 : Int} {x2 : Int} {Q : Int → Prop} {Qw : Int → Prop} {QX : String → Shp → Fl → Il → Prop} {QXw : String → Fl → El → Prop} (hC : Cg Y it LN S)  (hF : Fc Y F0 I0 F I) (hQ : ∀ (z : Int), Qw z → Q z ) (hX : ∀ (X9 : String) (F' : Fl) (I' : Il), Fc Y F0 I0 F' I' → QXw X9 (Bc Y F') (Ec Y it I') → QX X9 (thr S) F' I') (h : W_X8_train (yc Y) LN x0 x1 x2 (Bc Y F) (Ec Y it I) Qw QXw) : V_X8_train (yg Y x0) x1 x2 S F I Q QX := by
  unfold V_X8_train
  unfold W_X8_train at h
  obtain ⟨hk1, h⟩ := h
  refine ⟨Cg.k hC hk1 (by decide), ?_⟩
  refine T_X8_trainOf hC hF (fun z2 h => ?_) hX h
  try dsimp only at h
  refine T_X8_requireIndex hC hF (fun  h => ?_) hX h
  try dsimp only at h
  refine ⟨fun c13 => ?_, fun c13 => ?_, fun c13 => ?_, fun c13 => ?_, fun c13 => ?_, fun c13 => ?_, fun c13 => ?_⟩
  · have h := h.1 c13
    obtain ⟨hk3, h⟩ := h
    refine ⟨Cg.k hC hk3 (by decide), ?_⟩
    exact hQ _ h
  · have h := h.2.1 c13
    obtain ⟨hk4, h⟩ := h
    refine ⟨Cg.k hC hk4 (by decide), ?_⟩
    exact hQ _ h
  · have h := h.2.2.1 c13
    obtain ⟨hk5, h⟩ := h
    refine ⟨Cg.k hC hk5 (by decide), ?_⟩
    exact hQ _ h
  · have h := h.2.2.2.1 c13
    obtain ⟨hk6, h⟩ := h
    refine ⟨Cg.k hC hk6 (by decide), ?_⟩
    exact hQ _ h
  · have h := h.2.2.2.2.1 c13
    obtain ⟨hk7, h⟩ := h
    refine ⟨Cg.k hC hk7 (by decide), ?_⟩
    refine ⟨_, Cg.r809 hC hk7, ?_⟩
    obtain ⟨hk8, h⟩ := h
    refine ⟨Cg.k hC hk8 (by decide), ?_⟩
    exact hQ _ h
  · have h := h.2.2.2.2.2.1 c13
    obtain ⟨hk9, h⟩ := h
    refine ⟨Cg.k hC hk9 (by decide), ?_⟩
    refine ⟨_, Cg.r810 hC hk9, ?_⟩
    obtain ⟨hk10, h⟩ := h
    refine ⟨Cg.k hC hk10 (by decide), ?_⟩
    exact hQ _ h
  · have h := h.2.2.2.2.2.2 c13
    obtain ⟨hk11, h⟩ := h
    refine ⟨Cg.k hC hk11 (by decide), ?_⟩
    refine ⟨fun c98 => ?_, fun c98 => ?_⟩
    · have h := h.1 c98
      exact hQ _ h
    · have h := h.2 c98
      exact hQ _ h
