set_option maxRecDepth 20000 in
set_option maxHeartbeats 4000000 in
theorem T_X9_arrives {m : Nat} {ma : Nat → Nat} {S : Shp} {F0 : Fl} {I0 : Il}  {F : Fl} {I : Il} {x1 : Int} {Q : Il → Prop} {Qw : Il → Prop} (hM : Ms m ma S)  (hF : Fr m ma F0 I0 F I) (hQ : ∀ (I' : Il), Fr m ma F0 I0 F I' → Qw  (mA ma m F I') → Q  I') (h : W_X9_arrives x1 (mA ma m F I) Qw) : V_X9_arrives m x1 S F I Q := by
  unfold V_X9_arrives
  unfold W_X9_arrives at h
  refine ⟨hM.1, ?_⟩
  refine ⟨ma 41, (hM.2.1 41 rfl).1, ?_⟩
  refine ⟨(hM.2.1 41 rfl).2.1, ?_⟩
  obtain ⟨h0, h1, h⟩ := h
  refine ⟨h0, Ms.lt hM (k := 41) rfl h1, ?_⟩
  refine ⟨ma 10, (hM.2.1 10 rfl).1, ?_⟩
  refine ⟨(hM.2.1 10 rfl).2.1, ?_⟩
  obtain ⟨h0, h1, h⟩ := h
  refine ⟨h0, Ms.lt hM (k := 10) rfl h1, ?_⟩
  refine ⟨ma 44, (hM.2.1 44 rfl).1, ?_⟩
  refine ⟨(hM.2.1 44 rfl).2.1, ?_⟩
  obtain ⟨h0, h1, h⟩ := h
  refine ⟨h0, Ms.lt hM (k := 44) rfl h1, ?_⟩
  obtain ⟨h0, h1, h⟩ := h
  refine ⟨h0, Ms.lt hM (k := 10) rfl h1, ?_⟩
  rw [← mA_i hM (F := F) (k := 10) rfl] at h
  obtain ⟨h0, h1, h⟩ := h
  refine ⟨h0, Ms.lt hM (k := 41) rfl h1, ?_⟩
  rw [← mA_i hM (F := F) (k := 41) rfl] at h
  refine ⟨ma 39, (hM.2.1 39 rfl).1, ?_⟩
  refine ⟨ma 46, (hM.2.1 46 rfl).1, ?_⟩
  refine ⟨(hM.2.1 46 rfl).2.1, ?_⟩
  obtain ⟨h0, h1, h⟩ := h
  refine ⟨h0, Ms.lt hM (k := 46) rfl h1, ?_⟩
  refine ⟨ma 47, (hM.2.1 47 rfl).1, ?_⟩
  refine ⟨(hM.2.1 47 rfl).2.1, ?_⟩
  obtain ⟨h0, h1, h⟩ := h
  refine ⟨h0, Ms.lt hM (k := 47) rfl h1, ?_⟩
  refine ⟨fun c48 => ?_, fun c48 => ?_⟩
  · have h := h.1 c48
    refine ⟨(hM.2.1 39 rfl).2.1, ?_⟩
    obtain ⟨h0, h1, h⟩ := h
    refine ⟨h0, Ms.lt hM (k := 39) rfl h1, ?_⟩
    rw [← mA_i hM (F := F) (k := 39) rfl] at h
    exact hQ _ (Fr.i (k := 39) rfl (Fr.i (k := 41) rfl (Fr.i (k := 10) rfl hF))) h
  · have h := h.2 c48
    refine ⟨(hM.2.1 39 rfl).2.1, ?_⟩
    obtain ⟨h0, h1, h⟩ := h
    refine ⟨h0, Ms.lt hM (k := 39) rfl h1, ?_⟩
    rw [← mA_i hM (F := F) (k := 39) rfl] at h
    exact hQ _ (Fr.i (k := 39) rfl (Fr.i (k := 41) rfl (Fr.i (k := 10) rfl hF))) h
set_option maxRecDepth 20000 in
set_option maxHeartbeats 4000000 in
theorem T_X9_in {m : Nat} {ma : Nat → Nat} {S : Shp} {F0 : Fl} {I0 : Il}  {F : Fl} {I : Il} {x0 : Int} {x1 : Int} {x2 : Int} {Q : Int → Prop} {Qw : Int → Prop} (hM : Ms m ma S)  (hF : Fr m ma F0 I0 F I) (hQ : ∀ (z : Int), Qw z → Q z ) (h : W_X9_in x0 x1 x2 (mA ma m F I) Qw) : V_X9_in x0 x1 x2 S F I Q := by
  unfold V_X9_in
  unfold W_X9_in at h
  refine ⟨fun c2 => ?_, fun c2 => ?_⟩
  · have h := h.1 c2
    exact hQ _ h
  · have h := h.2 c2
    refine ⟨fun c7 => ?_, fun c7 => ?_⟩
    · have h := h.1 c7
      exact hQ _ h
    · have h := h.2 c7
      exact hQ _ h
set_option maxRecDepth 20000 in
set_option maxHeartbeats 4000000 in
theorem T_X9_isTrain {m : Nat} {ma : Nat → Nat} {S : Shp} {F0 : Fl} {I0 : Il}  {F : Fl} {I : Il} {x1 : Int} {Q : Int → Prop} {Qw : Int → Prop} (hM : Ms m ma S)  (hF : Fr m ma F0 I0 F I) (hQ : ∀ (z : Int), Qw z → Q z ) (h : W_X9_isTrain x1 (mA ma m F I) Qw) : V_X9_isTrain m x1 S F I Q := by
  unfold V_X9_isTrain
  unfold W_X9_isTrain at h
  refine T_X9_in hM hF (fun z1 h => ?_) h
  try dsimp only at h
  refine ⟨fun c6 => ?_, fun c6 => ?_⟩
  · have h := h.1 c6
    exact hQ _ h
  · have h := h.2 c6
    refine ⟨hM.1, ?_⟩
    refine ⟨ma 36, (hM.2.1 36 rfl).1, ?_⟩
    refine ⟨(hM.2.1 36 rfl).2.1, ?_⟩
    obtain ⟨h0, h1, h⟩ := h
    refine ⟨h0, Ms.lt hM (k := 36) rfl h1, ?_⟩
    refine ⟨fun c15 => ?_, fun c15 => ?_⟩
    · have h := h.1 c15
      exact hQ _ h
    · have h := h.2 c15
      exact hQ _ h
set_option maxRecDepth 20000 in
set_option maxHeartbeats 4000000 in
theorem T_X9_isStation {m : Nat} {ma : Nat → Nat} {S : Shp} {F0 : Fl} {I0 : Il}  {F : Fl} {I : Il} {x0 : Int} {Q : Int → Prop} {Qw : Int → Prop} (hM : Ms m ma S)  (hF : Fr m ma F0 I0 F I) (hQ : ∀ (z : Int), Qw z → Q z ) (h : W_X9_isStation x0 (mA ma m F I) Qw) : V_X9_isStation x0 S F I Q := by
  unfold V_X9_isStation
  unfold W_X9_isStation at h
  refine T_X9_in hM hF (fun z1 h => ?_) h
  try dsimp only at h
  obtain ⟨h0, h⟩ := h
  refine ⟨h0, ?_⟩
  exact hQ _ h
set_option maxRecDepth 20000 in
set_option maxHeartbeats 4000000 in
theorem T_X9_await_43 {m : Nat} {ma : Nat → Nat} {S : Shp} {F0 : Fl} {I0 : Il}  {F : Fl} {I : Il} {x1 : Int} {x2 : Int} {x3 : Int} {s0 : Int} {Q : Fl → Il → Prop} {Qw : Il → Prop} (hM : Ms m ma S)  (hF : Fr m ma F0 I0 F I) (hQ : ∀ (F' : Fl) (I' : Il), Fr m ma F0 I0 F' I' → Qw  (mA ma m F' I') → Q  F' I') (h : W_X9_await_43 x1 x2 x3 s0 (mA ma m F I) Qw) : V_X9_await_43 m x1 x2 x3 s0 m S F I Q := by
  unfold V_X9_await_43
  unfold W_X9_await_43 at h
  refine ⟨hM.1, ?_⟩
  rw [← mA_f (ma := ma) (m := m) (I := I) (k := 0) rfl] at h
  refine ⟨hM.1, ?_⟩
  refine ⟨fun c50 => ?_, fun c50 => ?_⟩
  · have h := h.1 c50
    exact hQ _ _ (Fr.f (k := 1000) (by decide) hF) h
  · have h := h.2 c50
    refine ⟨ma 50, (hM.2.1 50 rfl).1, ?_⟩
    refine ⟨(hM.2.1 50 rfl).2.1, ?_⟩
    obtain ⟨h0, h1, h⟩ := h
    refine ⟨h0, Ms.lt hM (k := 50) rfl h1, ?_⟩
    rw [← mA_i hM (F := (u2 F 1000 m _)) (k := 50) rfl] at h
    refine ⟨ma 51, (hM.2.1 51 rfl).1, ?_⟩
    refine ⟨(hM.2.1 51 rfl).2.1, ?_⟩
    obtain ⟨h0, h1, h⟩ := h
    refine ⟨h0, Ms.lt hM (k := 51) rfl h1, ?_⟩
    rw [← mA_i hM (F := (u2 F 1000 m _)) (k := 51) rfl] at h
    exact hQ _ _ (Fr.i (k := 51) rfl (Fr.i (k := 50) rfl (Fr.f (k := 1000) (by decide) hF))) h
set_option maxRecDepth 20000 in
set_option maxHeartbeats 4000000 in
theorem T_X9_await_29 {m : Nat} {ma : Nat → Nat} {S : Shp} {F0 : Fl} {I0 : Il}  {F : Fl} {I : Il} {x1 : Int} {x2 : Int} {x3 : Int} {Q : Fl → Il → Prop} {Qw : Il → Prop} (hM : Ms m ma S)  (hF : Fr m ma F0 I0 F I) (hQ : ∀ (F' : Fl) (I' : Il), Fr m ma F0 I0 F' I' → Qw  (mA ma m F' I') → Q  F' I') (h : W_X9_await_29 x1 x2 x3 (mA ma m F I) Qw) : V_X9_await_29 m x1 x2 x3 m S F I Q := by
  unfold V_X9_await_29
  unfold W_X9_await_29 at h
  exact T_X9_await_43 hM  hF hQ h
set_option maxRecDepth 20000 in
set_option maxHeartbeats 4000000 in
theorem T_X9_await_22 {m : Nat} {ma : Nat → Nat} {S : Shp} {F0 : Fl} {I0 : Il}  {F : Fl} {I : Il} {x1 : Int} {x2 : Int} {x3 : Int} {Q : Fl → Il → Prop} {Qw : Il → Prop} (hM : Ms m ma S)  (hF : Fr m ma F0 I0 F I) (hQ : ∀ (F' : Fl) (I' : Il), Fr m ma F0 I0 F' I' → Qw  (mA ma m F' I') → Q  F' I') (h : W_X9_await_22 x1 x2 x3 (mA ma m F I) Qw) : V_X9_await_22 m x1 x2 x3 m S F I Q := by
  unfold V_X9_await_22
  unfold W_X9_await_22 at h
  refine T_X9_isStation hM hF (fun z1 h => ?_) h
  try dsimp only at h
  refine ⟨fun c26 => ?_, fun c26 => ?_⟩
  · have h := h.1 c26
    refine ⟨fun c35 => ?_, fun c35 => ?_⟩
    · have h := h.1 c35
      exact T_X9_await_43 hM  hF hQ h
    · have h := h.2 c35
      exact T_X9_await_43 hM  hF hQ h
  · have h := h.2 c26
    exact T_X9_await_29 hM  hF hQ h
set_option maxRecDepth 20000 in
set_option maxHeartbeats 4000000 in
theorem T_X9_await {m : Nat} {ma : Nat → Nat} {S : Shp} {F0 : Fl} {I0 : Il}  {F : Fl} {I : Il} {x1 : Int} {x2 : Int} {x3 : Int} {Q : Fl → Il → Prop} {Qw : Il → Prop} (hM : Ms m ma S)  (hF : Fr m ma F0 I0 F I) (hQ : ∀ (F' : Fl) (I' : Il), Fr m ma F0 I0 F' I' → Qw  (mA ma m F' I') → Q  F' I') (h : W_X9_await x1 x2 x3 (mA ma m F I) Qw) : V_X9_await m x1 x2 x3 S F I Q := by
  unfold V_X9_await
  unfold W_X9_await at h
  refine ⟨hM.1, ?_⟩
  refine T_X9_isTrain hM hF (fun z1 h => ?_) h
  try dsimp only at h
  refine ⟨fun c6 => ?_, fun c6 => ?_⟩
  · have h := h.1 c6
    exact T_X9_await_29 hM  hF hQ h
  · have h := h.2 c6
    refine ⟨fun c11 => ?_, fun c11 => ?_⟩
    · have h := h.1 c11
      exact T_X9_await_22 hM  hF hQ h
    · have h := h.2 c11
      refine T_X9_isTrain hM hF (fun z2 h => ?_) h
      try dsimp only at h
      refine ⟨fun c19 => ?_, fun c19 => ?_⟩
      · have h := h.1 c19
        exact T_X9_await_29 hM  hF hQ h
      · have h := h.2 c19
        exact T_X9_await_22 hM  hF hQ h
set_option maxRecDepth 20000 in
set_option maxHeartbeats 4000000 in
theorem T_X9_other {m : Nat} {ma : Nat → Nat} {S : Shp} {F0 : Fl} {I0 : Il}  {F : Fl} {I : Il} {x1 : Int} {x2 : Int} {Q : Int → Prop} {Qw : Int → Prop} (hM : Ms m ma S)  (hF : Fr m ma F0 I0 F I) (hQ : ∀ (z : Int), Qw z → Q z ) (h : W_X9_other x1 x2 (mA ma m F I) Qw) : V_X9_other m x1 x2 S F I Q := by
  unfold V_X9_other
  unfold W_X9_other at h
  refine ⟨hM.1, ?_⟩
  refine ⟨ma 7, (hM.2.1 7 rfl).1, ?_⟩
  refine ⟨(hM.2.1 7 rfl).2.1, ?_⟩
  obtain ⟨h0, h1, h⟩ := h
  refine ⟨h0, Ms.lt hM (k := 7) rfl h1, ?_⟩
  refine ⟨fun c9 => ?_, fun c9 => ?_⟩
  · have h := h.1 c9
    obtain ⟨h0, h1, h⟩ := h
    refine ⟨h0, Ms.lt hM (k := 7) rfl h1, ?_⟩
    refine ⟨fun c36 => ?_, fun c36 => ?_⟩
    · have h := h.1 c36
      exact hQ _ h
    · have h := h.2 c36
      obtain ⟨h0, h1, h⟩ := h
      refine ⟨h0, Ms.lt hM (k := 7) rfl h1, ?_⟩
      exact hQ _ h
  · have h := h.2 c9
    obtain ⟨h0, h1, h⟩ := h
    refine ⟨h0, Ms.lt hM (k := 7) rfl h1, ?_⟩
    exact hQ _ h
set_option maxRecDepth 20000 in
set_option maxHeartbeats 4000000 in
theorem T_X9_stands {m : Nat} {ma : Nat → Nat} {S : Shp} {F0 : Fl} {I0 : Il}  {F : Fl} {I : Il} {x1 : Int} {Q : Int → Prop} {Qw : Int → Prop} (hM : Ms m ma S)  (hF : Fr m ma F0 I0 F I) (hQ : ∀ (z : Int), Qw z → Q z ) (h : W_X9_stands x1 (mA ma m F I) Qw) : V_X9_stands m x1 S F I Q := by
  unfold V_X9_stands
  unfold W_X9_stands at h
  refine ⟨hM.1, ?_⟩
  refine ⟨ma 39, (hM.2.1 39 rfl).1, ?_⟩
  refine ⟨(hM.2.1 39 rfl).2.1, ?_⟩
  obtain ⟨h0, h1, h⟩ := h
  refine ⟨h0, Ms.lt hM (k := 39) rfl h1, ?_⟩
  refine ⟨fun c6 => ?_, fun c6 => ?_⟩
  · have h := h.1 c6
    exact hQ _ h
  · have h := h.2 c6
    obtain ⟨h0, h1, h⟩ := h
    refine ⟨h0, Ms.lt hM (k := 39) rfl h1, ?_⟩
    refine ⟨fun c16 => ?_, fun c16 => ?_⟩
    · have h := h.1 c16
      exact hQ _ h
    · have h := h.2 c16
      exact hQ _ h
set_option maxRecDepth 20000 in
set_option maxHeartbeats 4000000 in
theorem T_X9_isClosed {m : Nat} {ma : Nat → Nat} {S : Shp} {F0 : Fl} {I0 : Il}  {F : Fl} {I : Il} {x1 : Int} {Q : Int → Prop} {Qw : Int → Prop} (hM : Ms m ma S)  (hF : Fr m ma F0 I0 F I) (hQ : ∀ (z : Int), Qw z → Q z ) (h : W_X9_isClosed x1 (mA ma m F I) Qw) : V_X9_isClosed m x1 S F I Q := by
  unfold V_X9_isClosed
  unfold W_X9_isClosed at h
  refine ⟨hM.1, ?_⟩
  refine ⟨ma 12, (hM.2.1 12 rfl).1, ?_⟩
  refine ⟨(hM.2.1 12 rfl).2.1, ?_⟩
  obtain ⟨h0, h1, h⟩ := h
  refine ⟨h0, Ms.lt hM (k := 12) rfl h1, ?_⟩
  refine ⟨fun c6 => ?_, fun c6 => ?_⟩
  · have h := h.1 c6
    exact hQ _ h
  · have h := h.2 c6
    refine ⟨ma 11, (hM.2.1 11 rfl).1, ?_⟩
    refine ⟨(hM.2.1 11 rfl).2.1, ?_⟩
    obtain ⟨h0, h1, h⟩ := h
    refine ⟨h0, Ms.lt hM (k := 11) rfl h1, ?_⟩
    refine ⟨fun c19 => ?_, fun c19 => ?_⟩
    · have h := h.1 c19
      exact hQ _ h
    · have h := h.2 c19
      exact hQ _ h
set_option maxRecDepth 20000 in
set_option maxHeartbeats 4000000 in
theorem T_X9_weight_43 {m : Nat} {ma : Nat → Nat} {S : Shp} {F0 : Fl} {I0 : Il} {kv7 : Nat → Int → Int → Int → Prop} {k7 : Int → Int → Int → Prop} {F : Fl} {I : Il} {x1 : Int} {x3 : Int} {s0 : Int} {s1 : Int} {Q : Int → Prop} {Qw : Int → Prop} (hM : Ms m ma S) (hk7 : ∀ (x1 : Int) (x2 : Int) (x3 : Int), k7 x1 x2 x3 → kv7 m x1 x2 x3 ) (hF : Fr m ma F0 I0 F I) (hQ : ∀ (z : Int), Qw z → Q z ) (h : W_X9_weight_43 k7 x1 x3 s0 s1 (mA ma m F I) Qw) : V_X9_weight_43 kv7 m x1 x3 s0 s1 S F I Q := by
  unfold V_X9_weight_43
  unfold W_X9_weight_43 at h
  exact hk7 _ _ _  h
set_option maxRecDepth 20000 in
set_option maxHeartbeats 4000000 in
theorem T_X9_weight_7 {m : Nat} {ma : Nat → Nat} {S : Shp} {F0 : Fl} {I0 : Il}  {F : Fl} {I : Il} {Q : Int → Prop} {Qw : Int → Prop} (hM : Ms m ma S)  (hQ : ∀ (z : Int), Qw z → Q z ) (n9 : Nat) : ∀ (x1 : Int) (x2 : Int) (x3 : Int), Fr m ma F0 I0 F I → W_X9_weight_7 n9 x1 x2 x3 (mA ma m F I) Qw → V_X9_weight_7 n9 m x1 x2 x3 S F I Q := by
  induction n9 with
  | zero => intro x1 x2 x3 hF h; exact h.elim
  | succ n ih =>
    intro x1 x2 x3 hF h
    unfold V_X9_weight_7
    unfold W_X9_weight_7 at h
    refine ⟨hM.1, ?_⟩
    refine ⟨ma 44, (hM.2.1 44 rfl).1, ?_⟩
    refine ⟨(hM.2.1 44 rfl).2.1, ?_⟩
    obtain ⟨h0, h1, h⟩ := h
    refine ⟨h0, Ms.lt hM (k := 44) rfl h1, ?_⟩
    refine ⟨fun c19 => ?_, fun c19 => ?_⟩
    · have h := h.1 c19
      exact hQ _ h
    · have h := h.2 c19
      refine ⟨ma 33, (hM.2.1 33 rfl).1, ?_⟩
      refine ⟨ma 43, (hM.2.1 43 rfl).1, ?_⟩
      refine ⟨(hM.2.1 43 rfl).2.1, ?_⟩
      obtain ⟨h0, h1, h⟩ := h
      refine ⟨h0, Ms.lt hM (k := 43) rfl h1, ?_⟩
      refine ⟨(hM.2.1 33 rfl).2.1, ?_⟩
      obtain ⟨h0, h1, h⟩ := h
      refine ⟨h0, Ms.lt hM (k := 33) rfl h1, ?_⟩
      refine ⟨fun c35 => ?_, fun c35 => ?_⟩
      · have h := h.1 c35
        exact T_X9_weight_43 hM (fun y0 y1 y2 h9 => ih y0 y1 y2 hF h9) hF hQ h
      · have h := h.2 c35
        exact T_X9_weight_43 hM (fun y0 y1 y2 h9 => ih y0 y1 y2 hF h9) hF hQ h
set_option maxRecDepth 20000 in
set_option maxHeartbeats 4000000 in
theorem T_X9_weight {m : Nat} {ma : Nat → Nat} {S : Shp} {F0 : Fl} {I0 : Il}  {F : Fl} {I : Il} {x1 : Int} {Q : Int → Prop} {Qw : Int → Prop} (hM : Ms m ma S)  (hF : Fr m ma F0 I0 F I) (hQ : ∀ (z : Int), Qw z → Q z ) (h : W_X9_weight x1 (mA ma m F I) Qw) : V_X9_weight m x1 S F I Q := by
  unfold V_X9_weight
  unfold W_X9_weight at h
  obtain ⟨n9, h⟩ := h
  exact ⟨n9, T_X9_weight_7 hM  hQ n9 _ _ _ hF h⟩
set_option maxRecDepth 20000 in
set_option maxHeartbeats 4000000 in
theorem T_X9_runs_55 {m : Nat} {ma : Nat → Nat} {S : Shp} {F0 : Fl} {I0 : Il}  {F : Fl} {I : Il} {x2 : Int} {s0 : Int} {s1 : Int} {Q : Int → Prop} {Qw : Int → Prop} (hM : Ms m ma S)  (hF : Fr m ma F0 I0 F I) (hQ : ∀ (z : Int), Qw z → Q z ) (h : W_X9_runs_55 x2 s0 s1 (mA ma m F I) Qw) : V_X9_runs_55 m x2 s0 s1 S F I Q := by
  unfold V_X9_runs_55
  unfold W_X9_runs_55 at h
  refine ⟨hM.1, ?_⟩
  refine ⟨ma 13, (hM.2.1 13 rfl).1, ?_⟩
  refine ⟨(hM.2.1 13 rfl).2.1, ?_⟩
  obtain ⟨h0, h1, h⟩ := h
  refine ⟨h0, Ms.lt hM (k := 13) rfl h1, ?_⟩
  refine ⟨fun c63 => ?_, fun c63 => ?_⟩
  · have h := h.1 c63
    exact hQ _ h
  · have h := h.2 c63
    exact hQ _ h
set_option maxRecDepth 20000 in
set_option maxHeartbeats 4000000 in
theorem T_X9_runs {m : Nat} {ma : Nat → Nat} {S : Shp} {F0 : Fl} {I0 : Il}  {F : Fl} {I : Il} {x1 : Int} {x2 : Int} {Q : Int → Prop} {Qw : Int → Prop} (hM : Ms m ma S)  (hF : Fr m ma F0 I0 F I) (hQ : ∀ (z : Int), Qw z → Q z ) (h : W_X9_runs x1 x2 (mA ma m F I) Qw) : V_X9_runs m x1 x2 S F I Q := by
  unfold V_X9_runs
  unfold W_X9_runs at h
  refine ⟨hM.1, ?_⟩
  refine ⟨ma 8, (hM.2.1 8 rfl).1, ?_⟩
  refine ⟨(hM.2.1 8 rfl).2.1, ?_⟩
  obtain ⟨h0, h1, h⟩ := h
  refine ⟨h0, Ms.lt hM (k := 8) rfl h1, ?_⟩
  obtain ⟨h0, h1, h⟩ := h
  refine ⟨h0, Ms.lt hM (k := 8) rfl h1, ?_⟩
  refine T_X9_weight hM hF (fun z1 h => ?_) h
  try dsimp only at h
  refine ⟨ma 20, (hM.2.1 20 rfl).1, ?_⟩
  refine ⟨ma 37, (hM.2.1 37 rfl).1, ?_⟩
  refine ⟨(hM.2.1 37 rfl).2.1, ?_⟩
  obtain ⟨h0, h1, h⟩ := h
  refine ⟨h0, Ms.lt hM (k := 37) rfl h1, ?_⟩
  refine ⟨(hM.2.1 20 rfl).2.1, ?_⟩
  obtain ⟨h0, h1, h⟩ := h
  refine ⟨h0, Ms.lt hM (k := 20) rfl h1, ?_⟩
  obtain ⟨hz9, h⟩ := h
  refine ⟨hz9, ?_⟩
  refine ⟨ma 10, (hM.2.1 10 rfl).1, ?_⟩
  refine ⟨(hM.2.1 10 rfl).2.1, ?_⟩
  obtain ⟨h0, h1, h⟩ := h
  refine ⟨h0, Ms.lt hM (k := 10) rfl h1, ?_⟩
  refine ⟨fun c42 => ?_, fun c42 => ?_⟩
  · have h := h.1 c42
    exact T_X9_runs_55 hM  hF hQ h
  · have h := h.2 c42
    obtain ⟨h0, h1, h⟩ := h
    refine ⟨h0, Ms.lt hM (k := 8) rfl h1, ?_⟩
    exact T_X9_runs_55 hM  hF hQ h
set_option maxRecDepth 20000 in
set_option maxHeartbeats 4000000 in
theorem T_X9_clears {m : Nat} {ma : Nat → Nat} {S : Shp} {F0 : Fl} {I0 : Il}  {F : Fl} {I : Il} {x1 : Int} {x2 : Int} {Q : Int → Prop} {Qw : Int → Prop} (hM : Ms m ma S)  (hF : Fr m ma F0 I0 F I) (hQ : ∀ (z : Int), Qw z → Q z ) (h : W_X9_clears x1 x2 (mA ma m F I) Qw) : V_X9_clears m x1 x2 S F I Q := by
  unfold V_X9_clears
  unfold W_X9_clears at h
  refine ⟨hM.1, ?_⟩
  refine T_X9_runs hM hF (fun z1 h => ?_) h
  try dsimp only at h
  refine ⟨ma 44, (hM.2.1 44 rfl).1, ?_⟩
  refine ⟨(hM.2.1 44 rfl).2.1, ?_⟩
  obtain ⟨h0, h1, h⟩ := h
  refine ⟨h0, Ms.lt hM (k := 44) rfl h1, ?_⟩
  exact hQ _ h
set_option maxRecDepth 20000 in
set_option maxHeartbeats 4000000 in
theorem T_X9_isOthers_54 {m : Nat} {ma : Nat → Nat} {S : Shp} {F0 : Fl} {I0 : Il} {kv8 : Nat → Int → Int → Int → Int → Prop} {k8 : Int → Int → Int → Int → Prop} {F : Fl} {I : Il} {x1 : Int} {x2 : Int} {x4 : Int} {s0 : Int} {Q : Int → Prop} {Qw : Int → Prop} (hM : Ms m ma S) (hk8 : ∀ (x1 : Int) (x2 : Int) (x3 : Int) (x4 : Int), k8 x1 x2 x3 x4 → kv8 m x1 x2 x3 x4 ) (hF : Fr m ma F0 I0 F I) (hQ : ∀ (z : Int), Qw z → Q z ) (h : W_X9_isOthers_54 k8 x1 x2 x4 s0 (mA ma m F I) Qw) : V_X9_isOthers_54 kv8 m x1 x2 x4 s0 S F I Q := by
  unfold V_X9_isOthers_54
  unfold W_X9_isOthers_54 at h
  exact hk8 _ _ _ _  h
set_option maxRecDepth 20000 in
set_option maxHeartbeats 4000000 in
theorem T_X9_isOthers_49 {m : Nat} {ma : Nat → Nat} {S : Shp} {F0 : Fl} {I0 : Il} {kv8 : Nat → Int → Int → Int → Int → Prop} {k8 : Int → Int → Int → Int → Prop} {F : Fl} {I : Il} {x1 : Int} {x2 : Int} {x4 : Int} {Q : Int → Prop} {Qw : Int → Prop} (hM : Ms m ma S) (hk8 : ∀ (x1 : Int) (x2 : Int) (x3 : Int) (x4 : Int), k8 x1 x2 x3 x4 → kv8 m x1 x2 x3 x4 ) (hF : Fr m ma F0 I0 F I) (hQ : ∀ (z : Int), Qw z → Q z ) (h : W_X9_isOthers_49 k8 x1 x2 x4 (mA ma m F I) Qw) : V_X9_isOthers_49 kv8 m x1 x2 x4 S F I Q := by
  unfold V_X9_isOthers_49
  unfold W_X9_isOthers_49 at h
  exact T_X9_isOthers_54 hM hk8 hF hQ h
set_option maxRecDepth 20000 in
set_option maxHeartbeats 4000000 in
theorem T_X9_isOthers_8 {m : Nat} {ma : Nat → Nat} {S : Shp} {F0 : Fl} {I0 : Il}  {F : Fl} {I : Il} {Q : Int → Prop} {Qw : Int → Prop} (hM : Ms m ma S)  (hQ : ∀ (z : Int), Qw z → Q z ) (n9 : Nat) : ∀ (x1 : Int) (x2 : Int) (x3 : Int) (x4 : Int), Fr m ma F0 I0 F I → W_X9_isOthers_8 n9 x1 x2 x3 x4 (mA ma m F I) Qw → V_X9_isOthers_8 n9 m x1 x2 x3 x4 S F I Q := by
  induction n9 with
  | zero => intro x1 x2 x3 x4 hF h; exact h.elim
  | succ n ih =>
    intro x1 x2 x3 x4 hF h
    unfold V_X9_isOthers_8
    unfold W_X9_isOthers_8 at h
    refine ⟨hM.1, ?_⟩
    refine T_X9_clears hM hF (fun z1 h => ?_) h
    try dsimp only at h
    refine ⟨fun c16 => ?_, fun c16 => ?_⟩
    · have h := h.1 c16
      obtain ⟨h0, h⟩ := h
      refine ⟨h0, ?_⟩
      exact hQ _ h
    · have h := h.2 c16
      refine ⟨fun c20 => ?_, fun c20 => ?_⟩
      · have h := h.1 c20
        exact T_X9_isOthers_49 hM (fun y0 y1 y2 y3 h9 => ih y0 y1 y2 y3 hF h9) hF hQ h
      · have h := h.2 c20
        refine ⟨ma 15, (hM.2.1 15 rfl).1, ?_⟩
        refine ⟨(hM.2.1 15 rfl).2.1, ?_⟩
        obtain ⟨h0, h1, h⟩ := h
        refine ⟨h0, Ms.lt hM (k := 15) rfl h1, ?_⟩
        refine ⟨ma 16, (hM.2.1 16 rfl).1, ?_⟩
        refine ⟨(hM.2.1 16 rfl).2.1, ?_⟩
        obtain ⟨h0, h1, h⟩ := h
        refine ⟨h0, Ms.lt hM (k := 16) rfl h1, ?_⟩
        refine T_X9_in hM hF (fun z2 h => ?_) h
        try dsimp only at h
        refine ⟨fun c46 => ?_, fun c46 => ?_⟩
        · have h := h.1 c46
          exact T_X9_isOthers_54 hM (fun y0 y1 y2 y3 h9 => ih y0 y1 y2 y3 hF h9) hF hQ h
        · have h := h.2 c46
          exact T_X9_isOthers_49 hM (fun y0 y1 y2 y3 h9 => ih y0 y1 y2 y3 hF h9) hF hQ h
set_option maxRecDepth 20000 in
set_option maxHeartbeats 4000000 in
theorem T_X9_isOthers {m : Nat} {ma : Nat → Nat} {S : Shp} {F0 : Fl} {I0 : Il}  {F : Fl} {I : Il} {x1 : Int} {x2 : Int} {Q : Int → Prop} {Qw : Int → Prop} (hM : Ms m ma S)  (hF : Fr m ma F0 I0 F I) (hQ : ∀ (z : Int), Qw z → Q z ) (h : W_X9_isOthers x1 x2 (mA ma m F I) Qw) : V_X9_isOthers m x1 x2 S F I Q := by
  unfold V_X9_isOthers
  unfold W_X9_isOthers at h
  refine ⟨hM.1, ?_⟩
  obtain ⟨n9, h⟩ := h
  exact ⟨n9, T_X9_isOthers_8 hM  hQ n9 _ _ _ _ hF h⟩
set_option maxRecDepth 20000 in
set_option maxHeartbeats 4000000 in
theorem T_X9_rests {m : Nat} {ma : Nat → Nat} {S : Shp} {F0 : Fl} {I0 : Il}  {F : Fl} {I : Il} {x1 : Int} {Q : Int → Prop} {Qw : Int → Prop} (hM : Ms m ma S)  (hF : Fr m ma F0 I0 F I) (hQ : ∀ (z : Int), Qw z → Q z ) (h : W_X9_rests x1 (mA ma m F I) Qw) : V_X9_rests m x1 S F I Q := by
  unfold V_X9_rests
  unfold W_X9_rests at h
  refine ⟨hM.1, ?_⟩
  refine ⟨ma 27, (hM.2.1 27 rfl).1, ?_⟩
  refine ⟨(hM.2.1 27 rfl).2.1, ?_⟩
  obtain ⟨h0, h1, h⟩ := h
  refine ⟨h0, Ms.lt hM (k := 27) rfl h1, ?_⟩
  refine ⟨fun c10 => ?_, fun c10 => ?_⟩
  · have h := h.1 c10
    exact hQ _ h
  · have h := h.2 c10
    exact hQ _ h
set_option maxRecDepth 20000 in
set_option maxHeartbeats 4000000 in
theorem T_X9_taken_45 {m : Nat} {ma : Nat → Nat} {S : Shp} {F0 : Fl} {I0 : Il} {kv4 : Nat → Int → Int → Int → Prop} {k4 : Int → Int → Int → Prop} {F : Fl} {I : Il} {x1 : Int} {x3 : Int} {s0 : Int} {s1 : Int} {Q : Int → Prop} {Qw : Int → Prop} (hM : Ms m ma S) (hk4 : ∀ (x1 : Int) (x2 : Int) (x3 : Int), k4 x1 x2 x3 → kv4 m x1 x2 x3 ) (hF : Fr m ma F0 I0 F I) (hQ : ∀ (z : Int), Qw z → Q z ) (h : W_X9_taken_45 k4 x1 x3 s0 s1 (mA ma m F I) Qw) : V_X9_taken_45 kv4 m x1 x3 s0 s1 S F I Q := by
  unfold V_X9_taken_45
  unfold W_X9_taken_45 at h
  exact hk4 _ _ _  h
set_option maxRecDepth 20000 in
set_option maxHeartbeats 4000000 in
theorem T_X9_taken_44 {m : Nat} {ma : Nat → Nat} {S : Shp} {F0 : Fl} {I0 : Il} {kv4 : Nat → Int → Int → Int → Prop} {k4 : Int → Int → Int → Prop} {F : Fl} {I : Il} {x1 : Int} {x3 : Int} {s0 : Int} {Q : Int → Prop} {Qw : Int → Prop} (hM : Ms m ma S) (hk4 : ∀ (x1 : Int) (x2 : Int) (x3 : Int), k4 x1 x2 x3 → kv4 m x1 x2 x3 ) (hF : Fr m ma F0 I0 F I) (hQ : ∀ (z : Int), Qw z → Q z ) (h : W_X9_taken_44 k4 x1 x3 s0 (mA ma m F I) Qw) : V_X9_taken_44 kv4 m x1 x3 s0 S F I Q := by
  unfold V_X9_taken_44
  unfold W_X9_taken_44 at h
  exact T_X9_taken_45 hM hk4 hF hQ h
set_option maxRecDepth 20000 in
set_option maxHeartbeats 4000000 in
theorem T_X9_taken_4 {m : Nat} {ma : Nat → Nat} {S : Shp} {F0 : Fl} {I0 : Il}  {F : Fl} {I : Il} {Q : Int → Prop} {Qw : Int → Prop} (hM : Ms m ma S)  (hQ : ∀ (z : Int), Qw z → Q z ) (n9 : Nat) : ∀ (x1 : Int) (x2 : Int) (x3 : Int), Fr m ma F0 I0 F I → W_X9_taken_4 n9 x1 x2 x3 (mA ma m F I) Qw → V_X9_taken_4 n9 m x1 x2 x3 S F I Q := by
  induction n9 with
  | zero => intro x1 x2 x3 hF h; exact h.elim
  | succ n ih =>
    intro x1 x2 x3 hF h
    unfold V_X9_taken_4
    unfold W_X9_taken_4 at h
    refine ⟨fun c7 => ?_, fun c7 => ?_⟩
    · have h := h.1 c7
      exact hQ _ h
    · have h := h.2 c7
      refine ⟨hM.1, ?_⟩
      refine ⟨ma 36, (hM.2.1 36 rfl).1, ?_⟩
      refine ⟨(hM.2.1 36 rfl).2.1, ?_⟩
      obtain ⟨h0, h1, h⟩ := h
      refine ⟨h0, Ms.lt hM (k := 36) rfl h1, ?_⟩
      refine ⟨fun c17 => ?_, fun c17 => ?_⟩
      · have h := h.1 c17
        exact T_X9_taken_44 hM (fun y0 y1 y2 h9 => ih y0 y1 y2 hF h9) hF hQ h
      · have h := h.2 c17
        refine ⟨ma 39, (hM.2.1 39 rfl).1, ?_⟩
        refine ⟨(hM.2.1 39 rfl).2.1, ?_⟩
        obtain ⟨h0, h1, h⟩ := h
        refine ⟨h0, Ms.lt hM (k := 39) rfl h1, ?_⟩
        refine ⟨fun c27 => ?_, fun c27 => ?_⟩
        · have h := h.1 c27
          exact T_X9_taken_44 hM (fun y0 y1 y2 h9 => ih y0 y1 y2 hF h9) hF hQ h
        · have h := h.2 c27
          refine ⟨ma 40, (hM.2.1 40 rfl).1, ?_⟩
          refine ⟨(hM.2.1 40 rfl).2.1, ?_⟩
          obtain ⟨h0, h1, h⟩ := h
          refine ⟨h0, Ms.lt hM (k := 40) rfl h1, ?_⟩
          refine ⟨fun c37 => ?_, fun c37 => ?_⟩
          · have h := h.1 c37
            exact T_X9_taken_44 hM (fun y0 y1 y2 h9 => ih y0 y1 y2 hF h9) hF hQ h
          · have h := h.2 c37
            exact T_X9_taken_45 hM (fun y0 y1 y2 h9 => ih y0 y1 y2 hF h9) hF hQ h
set_option maxRecDepth 20000 in
set_option maxHeartbeats 4000000 in
theorem T_X9_taken {m : Nat} {ma : Nat → Nat} {S : Shp} {F0 : Fl} {I0 : Il}  {F : Fl} {I : Il} {x1 : Int} {Q : Int → Prop} {Qw : Int → Prop} (hM : Ms m ma S)  (hF : Fr m ma F0 I0 F I) (hQ : ∀ (z : Int), Qw z → Q z ) (h : W_X9_taken x1 (mA ma m F I) Qw) : V_X9_taken m x1 S F I Q := by
  unfold V_X9_taken
  unfold W_X9_taken at h
  obtain ⟨n9, h⟩ := h
  exact ⟨n9, T_X9_taken_4 hM  hQ n9 _ _ _ hF h⟩
set_option maxRecDepth 20000 in
set_option maxHeartbeats 4000000 in
theorem T_X9_bars {m : Nat} {ma : Nat → Nat} {S : Shp} {F0 : Fl} {I0 : Il}  {F : Fl} {I : Il} {x1 : Int} {x2 : Int} {Q : Int → Prop} {Qw : Int → Prop} (hM : Ms m ma S)  (hF : Fr m ma F0 I0 F I) (hQ : ∀ (z : Int), Qw z → Q z ) (h : W_X9_bars x1 x2 (mA ma m F I) Qw) : V_X9_bars m x1 x2 S F I Q := by
  unfold V_X9_bars
  unfold W_X9_bars at h
  refine ⟨hM.1, ?_⟩
  refine ⟨ma 45, (hM.2.1 45 rfl).1, ?_⟩
  refine ⟨ma 46, (hM.2.1 46 rfl).1, ?_⟩
  refine ⟨(hM.2.1 46 rfl).2.1, ?_⟩
  obtain ⟨h0, h1, h⟩ := h
  refine ⟨h0, Ms.lt hM (k := 46) rfl h1, ?_⟩
  refine ⟨(hM.2.1 45 rfl).2.1, ?_⟩
  obtain ⟨h0, h1, h⟩ := h
  refine ⟨h0, Ms.lt hM (k := 45) rfl h1, ?_⟩
  refine ⟨ma 38, (hM.2.1 38 rfl).1, ?_⟩
  refine ⟨(hM.2.1 38 rfl).2.1, ?_⟩
  obtain ⟨h0, h1, h⟩ := h
  refine ⟨h0, Ms.lt hM (k := 38) rfl h1, ?_⟩
  refine ⟨ma 50, (hM.2.1 50 rfl).1, ?_⟩
  refine ⟨(hM.2.1 50 rfl).2.1, ?_⟩
  obtain ⟨h0, h1, h⟩ := h
  refine ⟨h0, Ms.lt hM (k := 50) rfl h1, ?_⟩
  refine ⟨ma 40, (hM.2.1 40 rfl).1, ?_⟩
  refine ⟨(hM.2.1 40 rfl).2.1, ?_⟩
  obtain ⟨h0, h1, h⟩ := h
  refine ⟨h0, Ms.lt hM (k := 40) rfl h1, ?_⟩
  refine T_X9_other hM hF (fun z1 h => ?_) h
  try dsimp only at h
  refine ⟨fun c47 => ?_, fun c47 => ?_, fun c47 => ?_, fun c47 => ?_, fun c47 => ?_, fun c47 => ?_, fun c47 => ?_, fun c47 => ?_, fun c47 => ?_, fun c47 => ?_⟩
  · have h := h.1 c47
    obtain ⟨h0, h1, h⟩ := h
    refine ⟨h0, Ms.lt hM (k := 46) rfl h1, ?_⟩
    refine ⟨fun c102 => ?_, fun c102 => ?_⟩
    · have h := h.1 c102
      exact hQ _ h
    · have h := h.2 c102
      refine ⟨ma 48, (hM.2.1 48 rfl).1, ?_⟩
      refine ⟨(hM.2.1 48 rfl).2.1, ?_⟩
      obtain ⟨h0, h1, h⟩ := h
      refine ⟨h0, Ms.lt hM (k := 48) rfl h1, ?_⟩
      refine ⟨fun c115 => ?_, fun c115 => ?_⟩
      · have h := h.1 c115
        exact hQ _ h
      · have h := h.2 c115
        exact hQ _ h
  · have h := h.2.1 c47
    refine ⟨fun c127 => ?_, fun c127 => ?_⟩
    · have h := h.1 c127
      exact hQ _ h
    · have h := h.2 c127
      refine ⟨ma 51, (hM.2.1 51 rfl).1, ?_⟩
      refine ⟨(hM.2.1 51 rfl).2.1, ?_⟩
      obtain ⟨h0, h1, h⟩ := h
      refine ⟨h0, Ms.lt hM (k := 51) rfl h1, ?_⟩
      obtain ⟨h0, h1, h⟩ := h
      refine ⟨h0, Ms.lt hM (k := 40) rfl h1, ?_⟩
      refine ⟨fun c142 => ?_, fun c142 => ?_⟩
      · have h := h.1 c142
        exact hQ _ h
      · have h := h.2 c142
        refine ⟨ma 36, (hM.2.1 36 rfl).1, ?_⟩
        refine ⟨(hM.2.1 36 rfl).2.1, ?_⟩
        obtain ⟨h0, h1, h⟩ := h
        refine ⟨h0, Ms.lt hM (k := 36) rfl h1, ?_⟩
        refine ⟨fun c152 => ?_, fun c152 => ?_⟩
        · have h := h.1 c152
          exact hQ _ h
        · have h := h.2 c152
          refine T_X9_stands hM hF (fun z2 h => ?_) h
          try dsimp only at h
          refine ⟨fun c161 => ?_, fun c161 => ?_⟩
          · have h := h.1 c161
            exact hQ _ h
          · have h := h.2 c161
            obtain ⟨h0, h1, h⟩ := h
            refine ⟨h0, Ms.lt hM (k := 40) rfl h1, ?_⟩
            obtain ⟨h0, h1, h⟩ := h
            refine ⟨h0, Ms.lt hM (k := 40) rfl h1, ?_⟩
            refine ⟨fun c177 => ?_, fun c177 => ?_⟩
            · have h := h.1 c177
              exact hQ _ h
            · have h := h.2 c177
              exact hQ _ h
  · have h := h.2.2.1 c47
    refine ⟨ma 17, (hM.2.1 17 rfl).1, ?_⟩
    refine ⟨(hM.2.1 17 rfl).2.1, ?_⟩
    obtain ⟨h0, h1, h⟩ := h
    refine ⟨h0, Ms.lt hM (k := 17) rfl h1, ?_⟩
    refine ⟨fun c193 => ?_, fun c193 => ?_⟩
    · have h := h.1 c193
      exact hQ _ h
    · have h := h.2 c193
      exact hQ _ h
  · have h := h.2.2.2.1 c47
    refine T_X9_isClosed hM hF (fun z3 h => ?_) h
    try dsimp only at h
    obtain ⟨h0, h⟩ := h
    refine ⟨h0, ?_⟩
    exact hQ _ h
  · have h := h.2.2.2.2.1 c47
    refine ⟨ma 13, (hM.2.1 13 rfl).1, ?_⟩
    refine ⟨(hM.2.1 13 rfl).2.1, ?_⟩
    obtain ⟨h0, h1, h⟩ := h
    refine ⟨h0, Ms.lt hM (k := 13) rfl h1, ?_⟩
    refine ⟨fun c214 => ?_, fun c214 => ?_⟩
    · have h := h.1 c214
      exact hQ _ h
    · have h := h.2 c214
      refine ⟨ma 14, (hM.2.1 14 rfl).1, ?_⟩
      refine ⟨(hM.2.1 14 rfl).2.1, ?_⟩
      obtain ⟨h0, h1, h⟩ := h
      refine ⟨h0, Ms.lt hM (k := 14) rfl h1, ?_⟩
      refine ⟨fun c223 => ?_, fun c223 => ?_⟩
      · have h := h.1 c223
        exact hQ _ h
      · have h := h.2 c223
        exact hQ _ h
  · have h := h.2.2.2.2.2.1 c47
    refine T_X9_isOthers hM hF (fun z4 h => ?_) h
    try dsimp only at h
    obtain ⟨h0, h⟩ := h
    refine ⟨h0, ?_⟩
    exact hQ _ h
  · have h := h.2.2.2.2.2.2.1 c47
    refine T_X9_weight hM hF (fun z5 h => ?_) h
    try dsimp only at h
    refine ⟨ma 20, (hM.2.1 20 rfl).1, ?_⟩
    refine ⟨ma 37, (hM.2.1 37 rfl).1, ?_⟩
    refine ⟨(hM.2.1 37 rfl).2.1, ?_⟩
    obtain ⟨h0, h1, h⟩ := h
    refine ⟨h0, Ms.lt hM (k := 37) rfl h1, ?_⟩
    refine ⟨(hM.2.1 20 rfl).2.1, ?_⟩
    obtain ⟨h0, h1, h⟩ := h
    refine ⟨h0, Ms.lt hM (k := 20) rfl h1, ?_⟩
    refine ⟨ma 9, (hM.2.1 9 rfl).1, ?_⟩
    refine ⟨(hM.2.1 9 rfl).2.1, ?_⟩
    obtain ⟨h0, h1, h⟩ := h
    refine ⟨h0, Ms.lt hM (k := 9) rfl h1, ?_⟩
    refine ⟨fun c267 => ?_, fun c267 => ?_⟩
    · have h := h.1 c267
      exact hQ _ h
    · have h := h.2 c267
      exact hQ _ h
  · have h := h.2.2.2.2.2.2.2.1 c47
    refine ⟨ma 28, (hM.2.1 28 rfl).1, ?_⟩
    refine ⟨(hM.2.1 28 rfl).2.1, ?_⟩
    obtain ⟨h0, h1, h⟩ := h
    refine ⟨h0, Ms.lt hM (k := 28) rfl h1, ?_⟩
    refine ⟨fun c288 => ?_, fun c288 => ?_⟩
    · have h := h.1 c288
      exact hQ _ h
    · have h := h.2 c288
      exact hQ _ h
  · have h := h.2.2.2.2.2.2.2.2.1 c47
    refine T_X9_rests hM hF (fun z6 h => ?_) h
    try dsimp only at h
    refine ⟨fun c303 => ?_, fun c303 => ?_⟩
    · have h := h.1 c303
      exact hQ _ h
    · have h := h.2 c303
      refine ⟨ma 26, (hM.2.1 26 rfl).1, ?_⟩
      refine ⟨(hM.2.1 26 rfl).2.1, ?_⟩
      obtain ⟨h0, h1, h⟩ := h
      refine ⟨h0, Ms.lt hM (k := 26) rfl h1, ?_⟩
      refine T_X9_runs hM hF (fun z7 h => ?_) h
      try dsimp only at h
      refine ⟨fun c323 => ?_, fun c323 => ?_⟩
      · have h := h.1 c323
        exact hQ _ h
      · have h := h.2 c323
        exact hQ _ h
  · have h := h.2.2.2.2.2.2.2.2.2 c47
    refine T_X9_taken hM hF (fun z8 h => ?_) h
    try dsimp only at h
    refine ⟨ma 5, (hM.2.1 5 rfl).1, ?_⟩
    refine ⟨(hM.2.1 5 rfl).2.1, ?_⟩
    obtain ⟨h0, h1, h⟩ := h
    refine ⟨h0, Ms.lt hM (k := 5) rfl h1, ?_⟩
    refine ⟨fun c345 => ?_, fun c345 => ?_⟩
    · have h := h.1 c345
      exact hQ _ h
    · have h := h.2 c345
      exact hQ _ h
set_option maxRecDepth 20000 in
set_option maxHeartbeats 4000000 in
theorem T_X9_bar_32 {m : Nat} {ma : Nat → Nat} {S : Shp} {F0 : Fl} {I0 : Il} {kv5 : Nat → Int → Int → Int → Prop} {k5 : Int → Int → Int → Prop} {F : Fl} {I : Il} {x1 : Int} {x4 : Int} {s0 : Int} {Q : Int → Prop} {Qw : Int → Prop} (hM : Ms m ma S) (hk5 : ∀ (x1 : Int) (x3 : Int) (x4 : Int), k5 x1 x3 x4 → kv5 m x1 x3 x4 ) (hF : Fr m ma F0 I0 F I) (hQ : ∀ (z : Int), Qw z → Q z ) (h : W_X9_bar_32 k5 x1 x4 s0 (mA ma m F I) Qw) : V_X9_bar_32 kv5 m x1 x4 s0 S F I Q := by
  unfold V_X9_bar_32
  unfold W_X9_bar_32 at h
  exact hk5 _ _ _  h
set_option maxRecDepth 20000 in
set_option maxHeartbeats 4000000 in
theorem T_X9_bar_5 {m : Nat} {ma : Nat → Nat} {S : Shp} {F0 : Fl} {I0 : Il}  {F : Fl} {I : Il} {Q : Int → Prop} {Qw : Int → Prop} (hM : Ms m ma S)  (hQ : ∀ (z : Int), Qw z → Q z ) (n9 : Nat) : ∀ (x1 : Int) (x3 : Int) (x4 : Int), Fr m ma F0 I0 F I → W_X9_bar_5 n9 x1 x3 x4 (mA ma m F I) Qw → V_X9_bar_5 n9 m x1 x3 x4 S F I Q := by
  induction n9 with
  | zero => intro x1 x3 x4 hF h; exact h.elim
  | succ n ih =>
    intro x1 x3 x4 hF h
    unfold V_X9_bar_5
    unfold W_X9_bar_5 at h
    refine ⟨fun c9 => ?_, fun c9 => ?_⟩
    · have h := h.1 c9
      exact hQ _ h
    · have h := h.2 c9
      refine ⟨fun c13 => ?_, fun c13 => ?_⟩
      · have h := h.1 c13
        exact hQ _ h
      · have h := h.2 c13
        refine ⟨hM.1, ?_⟩
        refine T_X9_bars hM hF (fun z1 h => ?_) h
        try dsimp only at h
        refine ⟨fun c23 => ?_, fun c23 => ?_⟩
        · have h := h.1 c23
          exact T_X9_bar_32 hM (fun y0 y1 y2 h9 => ih y0 y1 y2 hF h9) hF hQ h
        · have h := h.2 c23
          exact T_X9_bar_32 hM (fun y0 y1 y2 h9 => ih y0 y1 y2 hF h9) hF hQ h
set_option maxRecDepth 20000 in
set_option maxHeartbeats 4000000 in
theorem T_X9_bar {m : Nat} {ma : Nat → Nat} {S : Shp} {F0 : Fl} {I0 : Il}  {F : Fl} {I : Il} {x1 : Int} {x2 : Int} {Q : Int → Prop} {Qw : Int → Prop} (hM : Ms m ma S)  (hF : Fr m ma F0 I0 F I) (hQ : ∀ (z : Int), Qw z → Q z ) (h : W_X9_bar x1 x2 (mA ma m F I) Qw) : V_X9_bar m x1 x2 S F I Q := by
  unfold V_X9_bar
  unfold W_X9_bar at h
  obtain ⟨n9, h⟩ := h
  exact ⟨n9, T_X9_bar_5 hM  hQ n9 _ _ _ hF h⟩
set_option maxRecDepth 20000 in
set_option maxHeartbeats 4000000 in
theorem T_X9_barred_14 {m : Nat} {ma : Nat → Nat} {S : Shp} {F0 : Fl} {I0 : Il}  {F : Fl} {I : Il} {x1 : Int} {s0 : Int} {Q : Int → Fl → Prop} {Qw : Int → Il → Prop} (hM : Ms m ma S)  (hF : Fr m ma F0 I0 F I) (hQ : ∀ (z : Int) (F' : Fl), Fr m ma F0 I0 F' I → Qw z (mA ma m F' I) → Q z F') (h : W_X9_barred_14 x1 s0 (mA ma m F I) Qw) : V_X9_barred_14 m x1 s0 m S F I Q := by
  unfold V_X9_barred_14
  unfold W_X9_barred_14 at h
  refine ⟨hM.1, ?_⟩
  rw [← mA_f (ma := ma) (m := m) (I := I) (k := 0) rfl] at h
  refine ⟨hM.1, ?_⟩
  refine ⟨fun c21 => ?_, fun c21 => ?_⟩
  · have h := h.1 c21
    refine ⟨ma 39, (hM.2.1 39 rfl).1, ?_⟩
    refine ⟨(hM.2.1 39 rfl).2.1, ?_⟩
    obtain ⟨h0, h1, h⟩ := h
    refine ⟨h0, Ms.lt hM (k := 39) rfl h1, ?_⟩
    refine ⟨fun c35 => ?_, fun c35 => ?_⟩
    · have h := h.1 c35
      refine T_X9_bar hM (Fr.f (k := 1000) (by decide) hF) (fun z1 h => ?_) h
      try dsimp only at h
      exact hQ _ _ (Fr.f (k := 1000) (by decide) hF) h
    · have h := h.2 c35
      exact hQ _ _ (Fr.f (k := 1000) (by decide) hF) h
  · have h := h.2 c21
    exact hQ _ _ (Fr.f (k := 1000) (by decide) hF) h
set_option maxRecDepth 20000 in
set_option maxHeartbeats 4000000 in
theorem T_X9_barred {m : Nat} {ma : Nat → Nat} {S : Shp} {F0 : Fl} {I0 : Il}  {F : Fl} {I : Il} {x1 : Int} {Q : Int → Fl → Prop} {Qw : Int → Il → Prop} (hM : Ms m ma S)  (hF : Fr m ma F0 I0 F I) (hQ : ∀ (z : Int) (F' : Fl), Fr m ma F0 I0 F' I → Qw z (mA ma m F' I) → Q z F') (h : W_X9_barred x1 (mA ma m F I) Qw) : V_X9_barred m x1 S F I Q := by
  unfold V_X9_barred
  unfold W_X9_barred at h
  refine ⟨hM.1, ?_⟩
  refine T_X9_isTrain hM hF (fun z1 h => ?_) h
  try dsimp only at h
  refine ⟨fun c6 => ?_, fun c6 => ?_⟩
  · have h := h.1 c6
    exact T_X9_barred_14 hM  hF hQ h
  · have h := h.2 c6
    exact T_X9_barred_14 hM  hF hQ h
set_option maxRecDepth 20000 in
set_option maxHeartbeats 4000000 in
theorem T_X9_isCar {m : Nat} {ma : Nat → Nat} {S : Shp} {F0 : Fl} {I0 : Il}  {F : Fl} {I : Il} {x1 : Int} {Q : Int → Prop} {Qw : Int → Prop} (hM : Ms m ma S)  (hF : Fr m ma F0 I0 F I) (hQ : ∀ (z : Int), Qw z → Q z ) (h : W_X9_isCar x1 (mA ma m F I) Qw) : V_X9_isCar m x1 S F I Q := by
  unfold V_X9_isCar
  unfold W_X9_isCar at h
  refine ⟨hM.1, ?_⟩
  refine T_X9_in hM hF (fun z1 h => ?_) h
  try dsimp only at h
  obtain ⟨h0, h⟩ := h
  refine ⟨h0, ?_⟩
  exact hQ _ h
set_option maxRecDepth 20000 in
set_option maxHeartbeats 4000000 in
theorem T_X9_billOf_14 {m : Nat} {ma : Nat → Nat} {S : Shp} {F0 : Fl} {I0 : Il}  {F : Fl} {I : Il} {x1 : Int} {s0 : Int} {Q : Int → Fl → Prop} {Qw : Int → Il → Prop} (hM : Ms m ma S)  (hF : Fr m ma F0 I0 F I) (hQ : ∀ (z : Int) (F' : Fl), Fr m ma F0 I0 F' I → Qw z (mA ma m F' I) → Q z F') (h : W_X9_billOf_14 x1 s0 (mA ma m F I) Qw) : V_X9_billOf_14 m x1 s0 m S F I Q := by
  unfold V_X9_billOf_14
  unfold W_X9_billOf_14 at h
  refine ⟨hM.1, ?_⟩
  rw [← mA_f (ma := ma) (m := m) (I := I) (k := 0) rfl] at h
  refine ⟨hM.1, ?_⟩
  refine ⟨fun c21 => ?_, fun c21 => ?_⟩
  · have h := h.1 c21
    refine ⟨ma 33, (hM.2.1 33 rfl).1, ?_⟩
    refine ⟨(hM.2.1 33 rfl).2.1, ?_⟩
    obtain ⟨h0, h1, h⟩ := h
    refine ⟨h0, Ms.lt hM (k := 33) rfl h1, ?_⟩
    exact hQ _ _ (Fr.f (k := 1000) (by decide) hF) h
  · have h := h.2 c21
    exact hQ _ _ (Fr.f (k := 1000) (by decide) hF) h
set_option maxRecDepth 20000 in
set_option maxHeartbeats 4000000 in
theorem T_X9_billOf {m : Nat} {ma : Nat → Nat} {S : Shp} {F0 : Fl} {I0 : Il}  {F : Fl} {I : Il} {x1 : Int} {Q : Int → Fl → Prop} {Qw : Int → Il → Prop} (hM : Ms m ma S)  (hF : Fr m ma F0 I0 F I) (hQ : ∀ (z : Int) (F' : Fl), Fr m ma F0 I0 F' I → Qw z (mA ma m F' I) → Q z F') (h : W_X9_billOf x1 (mA ma m F I) Qw) : V_X9_billOf m x1 S F I Q := by
  unfold V_X9_billOf
  unfold W_X9_billOf at h
  refine ⟨hM.1, ?_⟩
  refine T_X9_isCar hM hF (fun z1 h => ?_) h
  try dsimp only at h
  refine ⟨fun c6 => ?_, fun c6 => ?_⟩
  · have h := h.1 c6
    exact T_X9_billOf_14 hM  hF hQ h
  · have h := h.2 c6
    exact T_X9_billOf_14 hM  hF hQ h
set_option maxRecDepth 20000 in
set_option maxHeartbeats 4000000 in
theorem T_X9_isBlock {m : Nat} {ma : Nat → Nat} {S : Shp} {F0 : Fl} {I0 : Il}  {F : Fl} {I : Il} {x1 : Int} {Q : Int → Prop} {Qw : Int → Prop} (hM : Ms m ma S)  (hF : Fr m ma F0 I0 F I) (hQ : ∀ (z : Int), Qw z → Q z ) (h : W_X9_isBlock x1 (mA ma m F I) Qw) : V_X9_isBlock m x1 S F I Q := by
  unfold V_X9_isBlock
  unfold W_X9_isBlock at h
  refine ⟨hM.1, ?_⟩
  refine T_X9_in hM hF (fun z1 h => ?_) h
  try dsimp only at h
  obtain ⟨h0, h⟩ := h
  refine ⟨h0, ?_⟩
  exact hQ _ h
set_option maxRecDepth 20000 in
set_option maxHeartbeats 4000000 in
theorem T_X9_block_23 {m : Nat} {ma : Nat → Nat} {S : Shp} {F0 : Fl} {I0 : Il}  {F : Fl} {I : Il} {x1 : Int} {x2 : Int} {s0 : Int} {Q : Int → Fl → Prop} {Qw : Int → Il → Prop} (hM : Ms m ma S)  (hF : Fr m ma F0 I0 F I) (hQ : ∀ (z : Int) (F' : Fl), Fr m ma F0 I0 F' I → Qw z (mA ma m F' I) → Q z F') (h : W_X9_block_23 x1 x2 s0 (mA ma m F I) Qw) : V_X9_block_23 m x1 x2 s0 m S F I Q := by
  unfold V_X9_block_23
  unfold W_X9_block_23 at h
  refine ⟨hM.1, ?_⟩
  rw [← mA_f (ma := ma) (m := m) (I := I) (k := 0) rfl] at h
  refine ⟨hM.1, ?_⟩
  refine ⟨fun c30 => ?_, fun c30 => ?_⟩
  · have h := h.1 c30
    refine ⟨fun c38 => ?_, fun c38 => ?_⟩
    · have h := h.1 c38
      refine ⟨fun c52 => ?_, fun c52 => ?_⟩
      · have h := h.1 c52
        refine ⟨ma 14, (hM.2.1 14 rfl).1, ?_⟩
        refine ⟨(hM.2.1 14 rfl).2.1, ?_⟩
        obtain ⟨h0, h1, h⟩ := h
        refine ⟨h0, Ms.lt hM (k := 14) rfl h1, ?_⟩
        refine ⟨fun c77 => ?_, fun c77 => ?_⟩
        · have h := h.1 c77
          exact hQ _ _ (Fr.f (k := 1000) (by decide) hF) h
        · have h := h.2 c77
          exact hQ _ _ (Fr.f (k := 1000) (by decide) hF) h
      · have h := h.2 c52
        refine T_X9_isClosed hM (Fr.f (k := 1000) (by decide) hF) (fun z1 h => ?_) h
        try dsimp only at h
        refine ⟨fun c60 => ?_, fun c60 => ?_⟩
        · have h := h.1 c60
          exact hQ _ _ (Fr.f (k := 1000) (by decide) hF) h
        · have h := h.2 c60
          exact hQ _ _ (Fr.f (k := 1000) (by decide) hF) h
    · have h := h.2 c38
      refine ⟨ma 10, (hM.2.1 10 rfl).1, ?_⟩
      refine ⟨(hM.2.1 10 rfl).2.1, ?_⟩
      obtain ⟨h0, h1, h⟩ := h
      refine ⟨h0, Ms.lt hM (k := 10) rfl h1, ?_⟩
      exact hQ _ _ (Fr.f (k := 1000) (by decide) hF) h
  · have h := h.2 c30
    exact hQ _ _ (Fr.f (k := 1000) (by decide) hF) h
set_option maxRecDepth 20000 in
set_option maxHeartbeats 4000000 in
theorem T_X9_block_22 {m : Nat} {ma : Nat → Nat} {S : Shp} {F0 : Fl} {I0 : Il}  {F : Fl} {I : Il} {x1 : Int} {x2 : Int} {Q : Int → Fl → Prop} {Qw : Int → Il → Prop} (hM : Ms m ma S)  (hF : Fr m ma F0 I0 F I) (hQ : ∀ (z : Int) (F' : Fl), Fr m ma F0 I0 F' I → Qw z (mA ma m F' I) → Q z F') (h : W_X9_block_22 x1 x2 (mA ma m F I) Qw) : V_X9_block_22 m x1 x2 m S F I Q := by
  unfold V_X9_block_22
  unfold W_X9_block_22 at h
  exact T_X9_block_23 hM  hF hQ h
set_option maxRecDepth 20000 in
set_option maxHeartbeats 4000000 in
theorem T_X9_block {m : Nat} {ma : Nat → Nat} {S : Shp} {F0 : Fl} {I0 : Il}  {F : Fl} {I : Il} {x1 : Int} {x2 : Int} {Q : Int → Fl → Prop} {Qw : Int → Il → Prop} (hM : Ms m ma S)  (hF : Fr m ma F0 I0 F I) (hQ : ∀ (z : Int) (F' : Fl), Fr m ma F0 I0 F' I → Qw z (mA ma m F' I) → Q z F') (h : W_X9_block x1 x2 (mA ma m F I) Qw) : V_X9_block m x1 x2 S F I Q := by
  unfold V_X9_block
  unfold W_X9_block at h
  refine ⟨hM.1, ?_⟩
  refine T_X9_isBlock hM hF (fun z1 h => ?_) h
  try dsimp only at h
  refine ⟨fun c6 => ?_, fun c6 => ?_⟩
  · have h := h.1 c6
    exact T_X9_block_22 hM  hF hQ h
  · have h := h.2 c6
    refine T_X9_in hM hF (fun z2 h => ?_) h
    try dsimp only at h
    refine ⟨fun c15 => ?_, fun c15 => ?_⟩
    · have h := h.1 c15
      exact T_X9_block_22 hM  hF hQ h
    · have h := h.2 c15
      exact T_X9_block_23 hM  hF hQ h
set_option maxRecDepth 20000 in
set_option maxHeartbeats 4000000 in
theorem T_X9_borrow_32 {m : Nat} {ma : Nat → Nat} {S : Shp} {F0 : Fl} {I0 : Il}  {F : Fl} {I : Il} {x1 : Int} {s0 : Int} {Q : Int → Fl → Prop} {Qw : Int → Il → Prop} (hM : Ms m ma S)  (hF : Fr m ma F0 I0 F I) (hQ : ∀ (z : Int) (F' : Fl), Fr m ma F0 I0 F' I → Qw z (mA ma m F' I) → Q z F') (h : W_X9_borrow_32 x1 s0 (mA ma m F I) Qw) : V_X9_borrow_32 m x1 s0 m S F I Q := by
  unfold V_X9_borrow_32
  unfold W_X9_borrow_32 at h
  refine ⟨hM.1, ?_⟩
  rw [← mA_f (ma := ma) (m := m) (I := I) (k := 0) rfl] at h
  refine ⟨hM.1, ?_⟩
  refine ⟨fun c39 => ?_, fun c39 => ?_⟩
  · have h := h.1 c39
    rw [← mA_f (ma := ma) (m := m) (I := I) (k := 2) rfl] at h
    rw [← mA_f (ma := ma) (m := m) (I := I) (k := 3) rfl] at h
    exact hQ _ _ (Fr.f (k := 1003) (by decide) (Fr.f (k := 1002) (by decide) (Fr.f (k := 1000) (by decide) hF))) h
  · have h := h.2 c39
    exact hQ _ _ (Fr.f (k := 1000) (by decide) hF) h
set_option maxRecDepth 20000 in
set_option maxHeartbeats 4000000 in
theorem T_X9_borrow {m : Nat} {ma : Nat → Nat} {S : Shp} {F0 : Fl} {I0 : Il}  {F : Fl} {I : Il} {x1 : Int} {Q : Int → Fl → Prop} {Qw : Int → Il → Prop} (hM : Ms m ma S)  (hF : Fr m ma F0 I0 F I) (hQ : ∀ (z : Int) (F' : Fl), Fr m ma F0 I0 F' I → Qw z (mA ma m F' I) → Q z F') (h : W_X9_borrow x1 (mA ma m F I) Qw) : V_X9_borrow m x1 S F I Q := by
  unfold V_X9_borrow
  unfold W_X9_borrow at h
  refine T_X9_in hM hF (fun z1 h => ?_) h
  try dsimp only at h
  refine ⟨fun c9 => ?_, fun c9 => ?_⟩
  · have h := h.1 c9
    refine ⟨hM.1, ?_⟩
    refine ⟨fun c24 => ?_, fun c24 => ?_⟩
    · have h := h.1 c24
      exact T_X9_borrow_32 hM  hF hQ h
    · have h := h.2 c24
      exact T_X9_borrow_32 hM  hF hQ h
  · have h := h.2 c9
    exact T_X9_borrow_32 hM  hF hQ h
set_option maxRecDepth 20000 in
set_option maxHeartbeats 4000000 in
theorem T_X9_broken {m : Nat} {ma : Nat → Nat} {S : Shp} {F0 : Fl} {I0 : Il}  {F : Fl} {I : Il}  {Q : Int → Fl → Prop} {Qw : Int → Il → Prop} (hM : Ms m ma S)  (hF : Fr m ma F0 I0 F I) (hQ : ∀ (z : Int) (F' : Fl), Fr m ma F0 I0 F' I → Qw z (mA ma m F' I) → Q z F') (h : W_X9_broken (mA ma m F I) Qw) : V_X9_broken m S F I Q := by
  unfold V_X9_broken
  unfold W_X9_broken at h
  refine ⟨hM.1, ?_⟩
  rw [← mA_f (ma := ma) (m := m) (I := I) (k := 0) rfl] at h
  exact hQ _ _ (Fr.f (k := 1000) (by decide) hF) h
set_option maxRecDepth 20000 in
set_option maxHeartbeats 4000000 in
theorem T_X9_writes {m : Nat} {ma : Nat → Nat} {S : Shp} {F0 : Fl} {I0 : Il}  {F : Fl} {I : Il} {x1 : Int} {x2 : Int} {x3 : Int} {Q : Fl → Il → Prop} {Qw : Il → Prop} (hM : Ms m ma S)  (hF : Fr m ma F0 I0 F I) (hQ : ∀ (F' : Fl) (I' : Il), Fr m ma F0 I0 F' I' → Qw  (mA ma m F' I') → Q  F' I') (h : W_X9_writes x1 x2 x3 (mA ma m F I) Qw) : V_X9_writes m x1 x2 x3 S F I Q := by
  unfold V_X9_writes
  unfold W_X9_writes at h
  refine ⟨hM.1, ?_⟩
  refine ⟨ma 61, (hM.2.1 61 rfl).1, ?_⟩
  refine ⟨(hM.2.1 61 rfl).2.1, ?_⟩
  obtain ⟨h0, h1, h⟩ := h
  refine ⟨h0, Ms.lt hM (k := 61) rfl h1, ?_⟩
  rw [← mA_i hM (F := F) (k := 61) rfl] at h
  refine ⟨ma 62, (hM.2.1 62 rfl).1, ?_⟩
  refine ⟨(hM.2.1 62 rfl).2.1, ?_⟩
  obtain ⟨h0, h1, h⟩ := h
  refine ⟨h0, Ms.lt hM (k := 62) rfl h1, ?_⟩
  rw [← mA_i hM (F := F) (k := 62) rfl] at h
  rw [← mA_f (ma := ma) (m := m) (I := (ui (ui I (ma 61) _ _) (ma 62) _ _)) (k := 60) rfl] at h
  exact hQ _ _ (Fr.f (k := 1060) (by decide) (Fr.i (k := 62) rfl (Fr.i (k := 61) rfl hF))) h
set_option maxRecDepth 20000 in
set_option maxHeartbeats 4000000 in
theorem T_X9_comes {m : Nat} {ma : Nat → Nat} {S : Shp} {F0 : Fl} {I0 : Il}  {F : Fl} {I : Il} {x1 : Int} {x2 : Int} {Q : Fl → Il → Prop} {Qw : Il → Prop} (hM : Ms m ma S)  (hF : Fr m ma F0 I0 F I) (hQ : ∀ (F' : Fl) (I' : Il), Fr m ma F0 I0 F' I' → Qw  (mA ma m F' I') → Q  F' I') (h : W_X9_comes x1 x2 (mA ma m F I) Qw) : V_X9_comes m x1 x2 S F I Q := by
  unfold V_X9_comes
  unfold W_X9_comes at h
  refine ⟨hM.1, ?_⟩
  refine ⟨ma 32, (hM.2.1 32 rfl).1, ?_⟩
  refine ⟨(hM.2.1 32 rfl).2.1, ?_⟩
  obtain ⟨h0, h1, h⟩ := h
  refine ⟨h0, Ms.lt hM (k := 32) rfl h1, ?_⟩
  rw [← mA_i hM (F := F) (k := 32) rfl] at h
  refine ⟨ma 31, (hM.2.1 31 rfl).1, ?_⟩
  refine ⟨(hM.2.1 31 rfl).2.1, ?_⟩
  obtain ⟨h0, h1, h⟩ := h
  refine ⟨h0, Ms.lt hM (k := 31) rfl h1, ?_⟩
  rw [← mA_i hM (F := F) (k := 31) rfl] at h
  refine ⟨ma 34, (hM.2.1 34 rfl).1, ?_⟩
  refine ⟨ma 35, (hM.2.1 35 rfl).1, ?_⟩
  refine ⟨(hM.2.1 35 rfl).2.1, ?_⟩
  obtain ⟨h0, h1, h⟩ := h
  refine ⟨h0, Ms.lt hM (k := 35) rfl h1, ?_⟩
  refine ⟨(hM.2.1 34 rfl).2.1, ?_⟩
  obtain ⟨h0, h1, h⟩ := h
  refine ⟨h0, Ms.lt hM (k := 34) rfl h1, ?_⟩
  rw [← mA_i hM (F := F) (k := 34) rfl] at h
  obtain ⟨h0, h1, h⟩ := h
  refine ⟨h0, Ms.lt hM (k := 35) rfl h1, ?_⟩
  obtain ⟨h0, h1, h⟩ := h
  refine ⟨h0, Ms.lt hM (k := 35) rfl h1, ?_⟩
  rw [← mA_i hM (F := F) (k := 35) rfl] at h
  refine T_X9_writes hM (Fr.i (k := 35) rfl (Fr.i (k := 34) rfl (Fr.i (k := 31) rfl (Fr.i (k := 32) rfl hF)))) (fun F2 I3 hF4 h => ?_) h
  try dsimp only at h
  exact hQ _ _ hF4 h
set_option maxRecDepth 20000 in
set_option maxHeartbeats 4000000 in
theorem T_X9_car_26 {m : Nat} {ma : Nat → Nat} {S : Shp} {F0 : Fl} {I0 : Il}  {F : Fl} {I : Il} {x1 : Int} {s0 : Int} {Q : Int → Fl → Il → Prop} {Qw : Int → Il → Prop} (hM : Ms m ma S)  (hF : Fr m ma F0 I0 F I) (hQ : ∀ (z : Int) (F' : Fl) (I' : Il), Fr m ma F0 I0 F' I' → Qw z (mA ma m F' I') → Q z F' I') (h : W_X9_car_26 x1 s0 (mA ma m F I) Qw) : V_X9_car_26 m x1 s0 m S F I Q := by
  unfold V_X9_car_26
  unfold W_X9_car_26 at h
  refine ⟨hM.1, ?_⟩
  rw [← mA_f (ma := ma) (m := m) (I := I) (k := 0) rfl] at h
  refine ⟨hM.1, ?_⟩
  refine ⟨fun c33 => ?_, fun c33 => ?_⟩
  · have h := h.1 c33
    rw [← mA_f (ma := ma) (m := m) (I := I) (k := 29) rfl] at h
    refine ⟨ma 30, (hM.2.1 30 rfl).1, ?_⟩
    refine ⟨(hM.2.1 30 rfl).2.1, ?_⟩
    obtain ⟨h0, h1, h⟩ := h
    refine ⟨h0, Ms.lt hM (k := 30) rfl h1, ?_⟩
    rw [← mA_i hM (F := (u2 (u2 F 1000 m _) 1029 m _)) (k := 30) rfl] at h
    refine ⟨ma 33, (hM.2.1 33 rfl).1, ?_⟩
    refine ⟨(hM.2.1 33 rfl).2.1, ?_⟩
    obtain ⟨h0, h1, h⟩ := h
    refine ⟨h0, Ms.lt hM (k := 33) rfl h1, ?_⟩
    rw [← mA_i hM (F := (u2 (u2 F 1000 m _) 1029 m _)) (k := 33) rfl] at h
    rw [← mA_f (ma := ma) (m := m) (I := (ui (ui I (ma 30) _ _) (ma 33) _ _)) (k := 2) rfl] at h
    refine T_X9_comes hM (Fr.f (k := 1002) (by decide) (Fr.i (k := 33) rfl (Fr.i (k := 30) rfl (Fr.f (k := 1029) (by decide) (Fr.f (k := 1000) (by decide) hF))))) (fun F2 I3 hF4 h => ?_) h
    try dsimp only at h
    exact hQ _ _ _ hF4 h
  · have h := h.2 c33
    exact hQ _ _ _ (Fr.f (k := 1000) (by decide) hF) h
set_option maxRecDepth 20000 in
set_option maxHeartbeats 4000000 in
theorem T_X9_car {m : Nat} {ma : Nat → Nat} {S : Shp} {F0 : Fl} {I0 : Il}  {F : Fl} {I : Il} {x1 : Int} {Q : Int → Fl → Il → Prop} {Qw : Int → Il → Prop} (hM : Ms m ma S)  (hF : Fr m ma F0 I0 F I) (hQ : ∀ (z : Int) (F' : Fl) (I' : Il), Fr m ma F0 I0 F' I' → Qw z (mA ma m F' I') → Q z F' I') (h : W_X9_car x1 (mA ma m F I) Qw) : V_X9_car m x1 S F I Q := by
  unfold V_X9_car
  unfold W_X9_car at h
  refine T_X9_isStation hM hF (fun z1 h => ?_) h
  try dsimp only at h
  refine ⟨fun c5 => ?_, fun c5 => ?_⟩
  · have h := h.1 c5
    refine ⟨hM.1, ?_⟩
    refine ⟨fun c18 => ?_, fun c18 => ?_⟩
    · have h := h.1 c18
      exact T_X9_car_26 hM  hF hQ h
    · have h := h.2 c18
      exact T_X9_car_26 hM  hF hQ h
  · have h := h.2 c5
    exact T_X9_car_26 hM  hF hQ h
set_option maxRecDepth 20000 in
set_option maxHeartbeats 4000000 in
theorem T_X9_carAt_14 {m : Nat} {ma : Nat → Nat} {S : Shp} {F0 : Fl} {I0 : Il}  {F : Fl} {I : Il} {x1 : Int} {s0 : Int} {Q : Int → Fl → Prop} {Qw : Int → Il → Prop} (hM : Ms m ma S)  (hF : Fr m ma F0 I0 F I) (hQ : ∀ (z : Int) (F' : Fl), Fr m ma F0 I0 F' I → Qw z (mA ma m F' I) → Q z F') (h : W_X9_carAt_14 x1 s0 (mA ma m F I) Qw) : V_X9_carAt_14 m x1 s0 m S F I Q := by
  unfold V_X9_carAt_14
  unfold W_X9_carAt_14 at h
  refine ⟨hM.1, ?_⟩
  rw [← mA_f (ma := ma) (m := m) (I := I) (k := 0) rfl] at h
  refine ⟨hM.1, ?_⟩
  refine ⟨fun c21 => ?_, fun c21 => ?_⟩
  · have h := h.1 c21
    refine ⟨ma 32, (hM.2.1 32 rfl).1, ?_⟩
    refine ⟨(hM.2.1 32 rfl).2.1, ?_⟩
    obtain ⟨h0, h1, h⟩ := h
    refine ⟨h0, Ms.lt hM (k := 32) rfl h1, ?_⟩
    refine ⟨fun c35 => ?_, fun c35 => ?_⟩
    · have h := h.1 c35
      refine ⟨ma 31, (hM.2.1 31 rfl).1, ?_⟩
      refine ⟨(hM.2.1 31 rfl).2.1, ?_⟩
      obtain ⟨h0, h1, h⟩ := h
      refine ⟨h0, Ms.lt hM (k := 31) rfl h1, ?_⟩
      exact hQ _ _ (Fr.f (k := 1000) (by decide) hF) h
    · have h := h.2 c35
      obtain ⟨h0, h1, h⟩ := h
      refine ⟨h0, Ms.lt hM (k := 32) rfl h1, ?_⟩
      exact hQ _ _ (Fr.f (k := 1000) (by decide) hF) h
  · have h := h.2 c21
    exact hQ _ _ (Fr.f (k := 1000) (by decide) hF) h
set_option maxRecDepth 20000 in
set_option maxHeartbeats 4000000 in
theorem T_X9_carAt {m : Nat} {ma : Nat → Nat} {S : Shp} {F0 : Fl} {I0 : Il}  {F : Fl} {I : Il} {x1 : Int} {Q : Int → Fl → Prop} {Qw : Int → Il → Prop} (hM : Ms m ma S)  (hF : Fr m ma F0 I0 F I) (hQ : ∀ (z : Int) (F' : Fl), Fr m ma F0 I0 F' I → Qw z (mA ma m F' I) → Q z F') (h : W_X9_carAt x1 (mA ma m F I) Qw) : V_X9_carAt m x1 S F I Q := by
  unfold V_X9_carAt
  unfold W_X9_carAt at h
  refine ⟨hM.1, ?_⟩
  refine T_X9_isCar hM hF (fun z1 h => ?_) h
  try dsimp only at h
  refine ⟨fun c6 => ?_, fun c6 => ?_⟩
  · have h := h.1 c6
    exact T_X9_carAt_14 hM  hF hQ h
  · have h := h.2 c6
    exact T_X9_carAt_14 hM  hF hQ h
set_option maxRecDepth 20000 in
set_option maxHeartbeats 4000000 in
theorem T_X9_carByPapers {m : Nat} {ma : Nat → Nat} {S : Shp} {F0 : Fl} {I0 : Il}  {F : Fl} {I : Il} {x1 : Int} {Q : Int → Fl → Prop} {Qw : Int → Il → Prop} (hM : Ms m ma S)  (hF : Fr m ma F0 I0 F I) (hQ : ∀ (z : Int) (F' : Fl), Fr m ma F0 I0 F' I → Qw z (mA ma m F' I) → Q z F') (h : W_X9_carByPapers x1 (mA ma m F I) Qw) : V_X9_carByPapers m x1 S F I Q := by
  unfold V_X9_carByPapers
  unfold W_X9_carByPapers at h
  refine ⟨hM.1, ?_⟩
  refine T_X9_carAt hM hF (fun z1 F3 hF4 h => ?_) h
  try dsimp only at h
  exact hQ _ _ hF4 h
set_option maxRecDepth 20000 in
set_option maxHeartbeats 4000000 in
theorem T_X9_cash {m : Nat} {ma : Nat → Nat} {S : Shp} {F0 : Fl} {I0 : Il}  {F : Fl} {I : Il}  {Q : Int → Fl → Prop} {Qw : Int → Il → Prop} (hM : Ms m ma S)  (hF : Fr m ma F0 I0 F I) (hQ : ∀ (z : Int) (F' : Fl), Fr m ma F0 I0 F' I → Qw z (mA ma m F' I) → Q z F') (h : W_X9_cash (mA ma m F I) Qw) : V_X9_cash m S F I Q := by
  unfold V_X9_cash
  unfold W_X9_cash at h
  refine ⟨hM.1, ?_⟩
  rw [← mA_f (ma := ma) (m := m) (I := I) (k := 0) rfl] at h
  exact hQ _ _ (Fr.f (k := 1000) (by decide) hF) h
set_option maxRecDepth 20000 in
set_option maxHeartbeats 4000000 in
theorem T_X9_ends {m : Nat} {ma : Nat → Nat} {S : Shp} {F0 : Fl} {I0 : Il}  {F : Fl} {I : Il} {x1 : Int} {x2 : Int} {Q : Il → Prop} {Qw : Il → Prop} (hM : Ms m ma S)  (hF : Fr m ma F0 I0 F I) (hQ : ∀ (I' : Il), Fr m ma F0 I0 F I' → Qw  (mA ma m F I') → Q  I') (h : W_X9_ends x1 x2 (mA ma m F I) Qw) : V_X9_ends m x1 x2 S F I Q := by
  unfold V_X9_ends
  unfold W_X9_ends at h
  refine ⟨hM.1, ?_⟩
  refine ⟨ma 36, (hM.2.1 36 rfl).1, ?_⟩
  refine ⟨(hM.2.1 36 rfl).2.1, ?_⟩
  obtain ⟨h0, h1, h⟩ := h
  refine ⟨h0, Ms.lt hM (k := 36) rfl h1, ?_⟩
  rw [← mA_i hM (F := F) (k := 36) rfl] at h
  refine ⟨ma 22, (hM.2.1 22 rfl).1, ?_⟩
  refine ⟨ma 37, (hM.2.1 37 rfl).1, ?_⟩
  refine ⟨(hM.2.1 37 rfl).2.1, ?_⟩
  obtain ⟨h0, h1, h⟩ := h
  refine ⟨h0, Ms.lt hM (k := 37) rfl h1, ?_⟩
  refine ⟨(hM.2.1 22 rfl).2.1, ?_⟩
  obtain ⟨h0, h1, h⟩ := h
  refine ⟨h0, Ms.lt hM (k := 22) rfl h1, ?_⟩
  rw [← mA_i hM (F := F) (k := 22) rfl] at h
  refine ⟨ma 21, (hM.2.1 21 rfl).1, ?_⟩
  obtain ⟨h0, h1, h⟩ := h
  refine ⟨h0, Ms.lt hM (k := 37) rfl h1, ?_⟩
  refine ⟨(hM.2.1 21 rfl).2.1, ?_⟩
  obtain ⟨h0, h1, h⟩ := h
  refine ⟨h0, Ms.lt hM (k := 21) rfl h1, ?_⟩
  rw [← mA_i hM (F := F) (k := 21) rfl] at h
  refine ⟨ma 25, (hM.2.1 25 rfl).1, ?_⟩
  refine ⟨ma 38, (hM.2.1 38 rfl).1, ?_⟩
  refine ⟨(hM.2.1 38 rfl).2.1, ?_⟩
  obtain ⟨h0, h1, h⟩ := h
  refine ⟨h0, Ms.lt hM (k := 38) rfl h1, ?_⟩
  refine ⟨(hM.2.1 25 rfl).2.1, ?_⟩
  obtain ⟨h0, h1, h⟩ := h
  refine ⟨h0, Ms.lt hM (k := 25) rfl h1, ?_⟩
  rw [← mA_i hM (F := F) (k := 25) rfl] at h
  refine ⟨ma 24, (hM.2.1 24 rfl).1, ?_⟩
  obtain ⟨h0, h1, h⟩ := h
  refine ⟨h0, Ms.lt hM (k := 38) rfl h1, ?_⟩
  refine ⟨(hM.2.1 24 rfl).2.1, ?_⟩
  obtain ⟨h0, h1, h⟩ := h
  refine ⟨h0, Ms.lt hM (k := 24) rfl h1, ?_⟩
  rw [← mA_i hM (F := F) (k := 24) rfl] at h
  exact hQ _ (Fr.i (k := 24) rfl (Fr.i (k := 25) rfl (Fr.i (k := 21) rfl (Fr.i (k := 22) rfl (Fr.i (k := 36) rfl hF))))) h
set_option maxRecDepth 20000 in
set_option maxHeartbeats 4000000 in
theorem T_X9_clear_164 {m : Nat} {ma : Nat → Nat} {S : Shp} {F0 : Fl} {I0 : Il} {kv69 : Nat → Int → Int → Int → Fl → Il → Prop} {k69 : Int → Int → Int → Il → Prop} {F : Fl} {I : Il} {x1 : Int} {x2 : Int} {x3 : Int} {Q : Int → Fl → Il → Prop} {Qw : Int → Il → Prop} (hM : Ms m ma S) (hk69 : ∀ (x1 : Int) (x2 : Int) (x3 : Int) (F' : Fl) (I' : Il), Fr m ma F0 I0 F' I' → k69 x1 x2 x3 (mA ma m F' I') → kv69 m x1 x2 x3 F' I') (hF : Fr m ma F0 I0 F I) (hQ : ∀ (z : Int) (F' : Fl) (I' : Il), Fr m ma F0 I0 F' I' → Qw z (mA ma m F' I') → Q z F' I') (h : W_X9_clear_164 k69 x1 x2 x3 (mA ma m F I) Qw) : V_X9_clear_164 kv69 m x1 x2 x3 S F I Q := by
  unfold V_X9_clear_164
  unfold W_X9_clear_164 at h
  exact hk69 _ _ _ _ _ hF h
set_option maxRecDepth 20000 in
set_option maxHeartbeats 4000000 in
theorem T_X9_clear_120 {m : Nat} {ma : Nat → Nat} {S : Shp} {F0 : Fl} {I0 : Il} {kv69 : Nat → Int → Int → Int → Fl → Il → Prop} {k69 : Int → Int → Int → Il → Prop}  {Q : Int → Fl → Il → Prop} {Qw : Int → Il → Prop} (hM : Ms m ma S) (hk69 : ∀ (x1 : Int) (x2 : Int) (x3 : Int) (F' : Fl) (I' : Il), Fr m ma F0 I0 F' I' → k69 x1 x2 x3 (mA ma m F' I') → kv69 m x1 x2 x3 F' I') (hQ : ∀ (z : Int) (F' : Fl) (I' : Il), Fr m ma F0 I0 F' I' → Qw z (mA ma m F' I') → Q z F' I') (n9 : Nat) : ∀ (x1 : Int) (x2 : Int) (x3 : Int) (x4 : Int) (F : Fl) (I : Il), Fr m ma F0 I0 F I → W_X9_clear_120 n9 k69 x1 x2 x3 x4 (mA ma m F I) Qw → V_X9_clear_120 n9 kv69 m x1 x2 x3 x4 S F I Q := by
  induction n9 with
  | zero => intro x1 x2 x3 x4 F I hF h; exact h.elim
  | succ n ih =>
    intro x1 x2 x3 x4 F I hF h
    unfold V_X9_clear_120
    unfold W_X9_clear_120 at h
    refine ⟨hM.1, ?_⟩
    refine ⟨ma 44, (hM.2.1 44 rfl).1, ?_⟩
    refine ⟨(hM.2.1 44 rfl).2.1, ?_⟩
    obtain ⟨h0, h1, h⟩ := h
    refine ⟨h0, Ms.lt hM (k := 44) rfl h1, ?_⟩
    refine ⟨fun c128 => ?_, fun c128 => ?_⟩
    · have h := h.1 c128
      exact T_X9_clear_164 hM hk69 hF hQ h
    · have h := h.2 c128
      refine ⟨ma 43, (hM.2.1 43 rfl).1, ?_⟩
      refine ⟨(hM.2.1 43 rfl).2.1, ?_⟩
      obtain ⟨h0, h1, h⟩ := h
      refine ⟨h0, Ms.lt hM (k := 43) rfl h1, ?_⟩
      refine ⟨ma 7, (hM.2.1 7 rfl).1, ?_⟩
      refine ⟨(hM.2.1 7 rfl).2.1, ?_⟩
      obtain ⟨h0, h1, h⟩ := h
      refine ⟨h0, Ms.lt hM (k := 7) rfl h1, ?_⟩
      refine T_X9_comes hM hF (fun F2 I3 hF4 h => ?_) h
      try dsimp only at h
      exact ih _ _ _ _ _ _ hF4 h
set_option maxRecDepth 20000 in
set_option maxHeartbeats 4000000 in
theorem T_X9_clear_69 {m : Nat} {ma : Nat → Nat} {S : Shp} {F0 : Fl} {I0 : Il}   {Q : Int → Fl → Il → Prop} {Qw : Int → Il → Prop} (hM : Ms m ma S)  (hQ : ∀ (z : Int) (F' : Fl) (I' : Il), Fr m ma F0 I0 F' I' → Qw z (mA ma m F' I') → Q z F' I') (n9 : Nat) : ∀ (x1 : Int) (x2 : Int) (x3 : Int) (F : Fl) (I : Il), Fr m ma F0 I0 F I → W_X9_clear_69 n9 x1 x2 x3 (mA ma m F I) Qw → V_X9_clear_69 n9 m x1 x2 x3 S F I Q := by
  induction n9 with
  | zero => intro x1 x2 x3 F I hF h; exact h.elim
  | succ n ih =>
    intro x1 x2 x3 F I hF h
    unfold V_X9_clear_69
    unfold W_X9_clear_69 at h
    refine ⟨fun c72 => ?_, fun c72 => ?_⟩
    · have h := h.1 c72
      exact hQ _ _ _ hF h
    · have h := h.2 c72
      refine ⟨hM.1, ?_⟩
      refine ⟨ma 36, (hM.2.1 36 rfl).1, ?_⟩
      refine ⟨(hM.2.1 36 rfl).2.1, ?_⟩
      obtain ⟨h0, h1, h⟩ := h
      refine ⟨h0, Ms.lt hM (k := 36) rfl h1, ?_⟩
      refine ⟨fun c81 => ?_, fun c81 => ?_⟩
      · have h := h.1 c81
        exact T_X9_clear_164 hM (fun y0 y1 y2 F' I' hF9 h9 => ih y0 y1 y2 F' I' hF9 h9) hF hQ h
      · have h := h.2 c81
        refine ⟨ma 39, (hM.2.1 39 rfl).1, ?_⟩
        refine ⟨(hM.2.1 39 rfl).2.1, ?_⟩
        obtain ⟨h0, h1, h⟩ := h
        refine ⟨h0, Ms.lt hM (k := 39) rfl h1, ?_⟩
        refine ⟨fun c91 => ?_, fun c91 => ?_⟩
        · have h := h.1 c91
          exact T_X9_clear_164 hM (fun y0 y1 y2 F' I' hF9 h9 => ih y0 y1 y2 F' I' hF9 h9) hF hQ h
        · have h := h.2 c91
          refine ⟨ma 41, (hM.2.1 41 rfl).1, ?_⟩
          refine ⟨(hM.2.1 41 rfl).2.1, ?_⟩
          obtain ⟨h0, h1, h⟩ := h
          refine ⟨h0, Ms.lt hM (k := 41) rfl h1, ?_⟩
          refine ⟨fun c101 => ?_, fun c101 => ?_⟩
          · have h := h.1 c101
            exact T_X9_clear_164 hM (fun y0 y1 y2 F' I' hF9 h9 => ih y0 y1 y2 F' I' hF9 h9) hF hQ h
          · have h := h.2 c101
            refine ⟨ma 7, (hM.2.1 7 rfl).1, ?_⟩
            refine ⟨(hM.2.1 7 rfl).2.1, ?_⟩
            obtain ⟨h0, h1, h⟩ := h
            refine ⟨h0, Ms.lt hM (k := 7) rfl h1, ?_⟩
            refine T_X9_ends hM hF (fun I2 hF3 h => ?_) h
            try dsimp only at h
            obtain ⟨n9, h⟩ := h
            exact ⟨n9, T_X9_clear_120 hM (fun y0 y1 y2 F' I' hF9 h9 => ih y0 y1 y2 F' I' hF9 h9) hQ n9 _ _ _ _ _ _ hF3 h⟩
set_option maxRecDepth 20000 in
set_option maxHeartbeats 4000000 in
theorem T_X9_clear_27 {m : Nat} {ma : Nat → Nat} {S : Shp} {F0 : Fl} {I0 : Il}  {F : Fl} {I : Il} {x1 : Int} {s0 : Int} {Q : Int → Fl → Il → Prop} {Qw : Int → Il → Prop} (hM : Ms m ma S)  (hF : Fr m ma F0 I0 F I) (hQ : ∀ (z : Int) (F' : Fl) (I' : Il), Fr m ma F0 I0 F' I' → Qw z (mA ma m F' I') → Q z F' I') (h : W_X9_clear_27 x1 s0 (mA ma m F I) Qw) : V_X9_clear_27 m x1 s0 m S F I Q := by
  unfold V_X9_clear_27
  unfold W_X9_clear_27 at h
  refine ⟨hM.1, ?_⟩
  rw [← mA_f (ma := ma) (m := m) (I := I) (k := 0) rfl] at h
  refine ⟨hM.1, ?_⟩
  refine ⟨fun c34 => ?_, fun c34 => ?_⟩
  · have h := h.1 c34
    rw [← mA_f (ma := ma) (m := m) (I := I) (k := 2) rfl] at h
    refine ⟨ma 12, (hM.2.1 12 rfl).1, ?_⟩
    refine ⟨(hM.2.1 12 rfl).2.1, ?_⟩
    obtain ⟨h0, h1, h⟩ := h
    refine ⟨h0, Ms.lt hM (k := 12) rfl h1, ?_⟩
    rw [← mA_i hM (F := (u2 (u2 F 1000 m _) 1002 m _)) (k := 12) rfl] at h
    refine ⟨ma 11, (hM.2.1 11 rfl).1, ?_⟩
    refine ⟨(hM.2.1 11 rfl).2.1, ?_⟩
    obtain ⟨h0, h1, h⟩ := h
    refine ⟨h0, Ms.lt hM (k := 11) rfl h1, ?_⟩
    rw [← mA_i hM (F := (u2 (u2 F 1000 m _) 1002 m _)) (k := 11) rfl] at h
    obtain ⟨n9, h⟩ := h
    exact ⟨n9, T_X9_clear_69 hM  hQ n9 _ _ _ _ _ (Fr.i (k := 11) rfl (Fr.i (k := 12) rfl (Fr.f (k := 1002) (by decide) (Fr.f (k := 1000) (by decide) hF)))) h⟩
  · have h := h.2 c34
    exact hQ _ _ _ (Fr.f (k := 1000) (by decide) hF) h
set_option maxRecDepth 20000 in
set_option maxHeartbeats 4000000 in
theorem T_X9_clear {m : Nat} {ma : Nat → Nat} {S : Shp} {F0 : Fl} {I0 : Il}  {F : Fl} {I : Il} {x1 : Int} {Q : Int → Fl → Il → Prop} {Qw : Int → Il → Prop} (hM : Ms m ma S)  (hF : Fr m ma F0 I0 F I) (hQ : ∀ (z : Int) (F' : Fl) (I' : Il), Fr m ma F0 I0 F' I' → Qw z (mA ma m F' I') → Q z F' I') (h : W_X9_clear x1 (mA ma m F I) Qw) : V_X9_clear m x1 S F I Q := by
  unfold V_X9_clear
  unfold W_X9_clear at h
  refine ⟨hM.1, ?_⟩
  refine T_X9_isBlock hM hF (fun z1 h => ?_) h
  try dsimp only at h
  refine ⟨fun c6 => ?_, fun c6 => ?_⟩
  · have h := h.1 c6
    refine ⟨ma 12, (hM.2.1 12 rfl).1, ?_⟩
    refine ⟨(hM.2.1 12 rfl).2.1, ?_⟩
    obtain ⟨h0, h1, h⟩ := h
    refine ⟨h0, Ms.lt hM (k := 12) rfl h1, ?_⟩
    refine ⟨fun c19 => ?_, fun c19 => ?_⟩
    · have h := h.1 c19
      exact T_X9_clear_27 hM  hF hQ h
    · have h := h.2 c19
      exact T_X9_clear_27 hM  hF hQ h
  · have h := h.2 c6
    exact T_X9_clear_27 hM  hF hQ h
set_option maxRecDepth 20000 in
set_option maxHeartbeats 4000000 in
theorem T_X9_clock {m : Nat} {ma : Nat → Nat} {S : Shp} {F0 : Fl} {I0 : Il}  {F : Fl} {I : Il}  {Q : Int → Fl → Prop} {Qw : Int → Il → Prop} (hM : Ms m ma S)  (hF : Fr m ma F0 I0 F I) (hQ : ∀ (z : Int) (F' : Fl), Fr m ma F0 I0 F' I → Qw z (mA ma m F' I) → Q z F') (h : W_X9_clock (mA ma m F I) Qw) : V_X9_clock m S F I Q := by
  unfold V_X9_clock
  unfold W_X9_clock at h
  refine ⟨hM.1, ?_⟩
  rw [← mA_f (ma := ma) (m := m) (I := I) (k := 0) rfl] at h
  exact hQ _ _ (Fr.f (k := 1000) (by decide) hF) h
set_option maxRecDepth 20000 in
set_option maxHeartbeats 4000000 in
theorem T_X9_couple_153 {m : Nat} {ma : Nat → Nat} {S : Shp} {F0 : Fl} {I0 : Il} {kv95 : Nat → Int → Int → Int → Int → Int → Fl → Il → Prop} {k95 : Int → Int → Int → Int → Int → Il → Prop} {F : Fl} {I : Il} {x1 : Int} {x2 : Int} {x3 : Int} {x5 : Int} {s0 : Int} {s1 : Int} {Q : Int → Fl → Il → Prop} {Qw : Int → Il → Prop} (hM : Ms m ma S) (hk95 : ∀ (x1 : Int) (x2 : Int) (x3 : Int) (x4 : Int) (x5 : Int) (F' : Fl) (I' : Il), Fr m ma F0 I0 F' I' → k95 x1 x2 x3 x4 x5 (mA ma m F' I') → kv95 m x1 x2 x3 x4 x5 F' I') (hF : Fr m ma F0 I0 F I) (hQ : ∀ (z : Int) (F' : Fl) (I' : Il), Fr m ma F0 I0 F' I' → Qw z (mA ma m F' I') → Q z F' I') (h : W_X9_couple_153 k95 x1 x2 x3 x5 s0 s1 (mA ma m F I) Qw) : V_X9_couple_153 kv95 m x1 x2 x3 x5 s0 s1 S F I Q := by
  unfold V_X9_couple_153
  unfold W_X9_couple_153 at h
  exact hk95 _ _ _ _ _ _ _ hF h
set_option maxRecDepth 20000 in
set_option maxHeartbeats 4000000 in
theorem T_X9_couple_95 {m : Nat} {ma : Nat → Nat} {S : Shp} {F0 : Fl} {I0 : Il}   {Q : Int → Fl → Il → Prop} {Qw : Int → Il → Prop} (hM : Ms m ma S)  (hQ : ∀ (z : Int) (F' : Fl) (I' : Il), Fr m ma F0 I0 F' I' → Qw z (mA ma m F' I') → Q z F' I') (n9 : Nat) : ∀ (x1 : Int) (x2 : Int) (x3 : Int) (x4 : Int) (x5 : Int) (F : Fl) (I : Il), Fr m ma F0 I0 F I → W_X9_couple_95 n9 x1 x2 x3 x4 x5 (mA ma m F I) Qw → V_X9_couple_95 n9 m x1 x2 x3 x4 x5 S F I Q := by
  induction n9 with
  | zero => intro x1 x2 x3 x4 x5 F I hF h; exact h.elim
  | succ n ih =>
    intro x1 x2 x3 x4 x5 F I hF h
    unfold V_X9_couple_95
    unfold W_X9_couple_95 at h
    refine ⟨hM.1, ?_⟩
    refine ⟨ma 35, (hM.2.1 35 rfl).1, ?_⟩
    refine ⟨(hM.2.1 35 rfl).2.1, ?_⟩
    obtain ⟨h0, h1, h⟩ := h
    refine ⟨h0, Ms.lt hM (k := 35) rfl h1, ?_⟩
    refine ⟨fun c103 => ?_, fun c103 => ?_⟩
    · have h := h.1 c103
      obtain ⟨h0, h1, h⟩ := h
      refine ⟨h0, Ms.lt hM (k := 35) rfl h1, ?_⟩
      rw [← mA_i hM (F := F) (k := 35) rfl] at h
      refine ⟨ma 32, (hM.2.1 32 rfl).1, ?_⟩
      refine ⟨(hM.2.1 32 rfl).2.1, ?_⟩
      obtain ⟨h0, h1, h⟩ := h
      refine ⟨h0, Ms.lt hM (k := 32) rfl h1, ?_⟩
      rw [← mA_i hM (F := F) (k := 32) rfl] at h
      refine ⟨ma 43, (hM.2.1 43 rfl).1, ?_⟩
      refine ⟨ma 44, (hM.2.1 44 rfl).1, ?_⟩
      refine ⟨(hM.2.1 44 rfl).2.1, ?_⟩
      obtain ⟨h0, h1, h⟩ := h
      refine ⟨h0, Ms.lt hM (k := 44) rfl h1, ?_⟩
      refine ⟨(hM.2.1 43 rfl).2.1, ?_⟩
      obtain ⟨h0, h1, h⟩ := h
      refine ⟨h0, Ms.lt hM (k := 43) rfl h1, ?_⟩
      rw [← mA_i hM (F := F) (k := 43) rfl] at h
      obtain ⟨h0, h1, h⟩ := h
      refine ⟨h0, Ms.lt hM (k := 44) rfl h1, ?_⟩
      obtain ⟨h0, h1, h⟩ := h
      refine ⟨h0, Ms.lt hM (k := 44) rfl h1, ?_⟩
      rw [← mA_i hM (F := F) (k := 44) rfl] at h
      refine T_X9_writes hM (Fr.i (k := 44) rfl (Fr.i (k := 43) rfl (Fr.i (k := 32) rfl (Fr.i (k := 35) rfl hF)))) (fun F2 I3 hF4 h => ?_) h
      try dsimp only at h
      obtain ⟨h0, h1, h⟩ := h
      refine ⟨h0, Ms.lt hM (k := 44) rfl h1, ?_⟩
      exact hQ _ _ _ hF4 h
    · have h := h.2 c103
      refine ⟨ma 34, (hM.2.1 34 rfl).1, ?_⟩
      refine ⟨(hM.2.1 34 rfl).2.1, ?_⟩
      obtain ⟨h0, h1, h⟩ := h
      refine ⟨h0, Ms.lt hM (k := 34) rfl h1, ?_⟩
      obtain ⟨h0, h1, h⟩ := h
      refine ⟨h0, Ms.lt hM (k := 34) rfl h1, ?_⟩
      rw [← mA_i hM (F := F) (k := 34) rfl] at h
      obtain ⟨h0, h1, h⟩ := h
      refine ⟨h0, Ms.lt hM (k := 34) rfl h1, ?_⟩
      refine ⟨fun c145 => ?_, fun c145 => ?_⟩
      · have h := h.1 c145
        exact T_X9_couple_153 hM (fun y0 y1 y2 y3 y4 F' I' hF9 h9 => ih y0 y1 y2 y3 y4 F' I' hF9 h9) (Fr.i (k := 34) rfl hF) hQ h
      · have h := h.2 c145
        exact T_X9_couple_153 hM (fun y0 y1 y2 y3 y4 F' I' hF9 h9 => ih y0 y1 y2 y3 y4 F' I' hF9 h9) (Fr.i (k := 34) rfl hF) hQ h
set_option maxRecDepth 20000 in
set_option maxHeartbeats 4000000 in
theorem T_X9_couple_70 {m : Nat} {ma : Nat → Nat} {S : Shp} {F0 : Fl} {I0 : Il}  {F : Fl} {I : Il} {x1 : Int} {x2 : Int} {s0 : Int} {Q : Int → Fl → Il → Prop} {Qw : Int → Il → Prop} (hM : Ms m ma S)  (hF : Fr m ma F0 I0 F I) (hQ : ∀ (z : Int) (F' : Fl) (I' : Il), Fr m ma F0 I0 F' I' → Qw z (mA ma m F' I') → Q z F' I') (h : W_X9_couple_70 x1 x2 s0 (mA ma m F I) Qw) : V_X9_couple_70 m x1 x2 s0 m S F I Q := by
  unfold V_X9_couple_70
  unfold W_X9_couple_70 at h
  refine ⟨hM.1, ?_⟩
  rw [← mA_f (ma := ma) (m := m) (I := I) (k := 0) rfl] at h
  refine ⟨hM.1, ?_⟩
  refine ⟨fun c77 => ?_, fun c77 => ?_⟩
  · have h := h.1 c77
    refine ⟨ma 40, (hM.2.1 40 rfl).1, ?_⟩
    refine ⟨(hM.2.1 40 rfl).2.1, ?_⟩
    obtain ⟨h0, h1, h⟩ := h
    refine ⟨h0, Ms.lt hM (k := 40) rfl h1, ?_⟩
    obtain ⟨n9, h⟩ := h
    exact ⟨n9, T_X9_couple_95 hM  hQ n9 _ _ _ _ _ _ _ (Fr.f (k := 1000) (by decide) hF) h⟩
  · have h := h.2 c77
    exact hQ _ _ _ (Fr.f (k := 1000) (by decide) hF) h
set_option maxRecDepth 20000 in
set_option maxHeartbeats 4000000 in
theorem T_X9_couple_17 {m : Nat} {ma : Nat → Nat} {S : Shp} {F0 : Fl} {I0 : Il}  {F : Fl} {I : Il} {x1 : Int} {x2 : Int} {Q : Int → Fl → Il → Prop} {Qw : Int → Il → Prop} (hM : Ms m ma S)  (hF : Fr m ma F0 I0 F I) (hQ : ∀ (z : Int) (F' : Fl) (I' : Il), Fr m ma F0 I0 F' I' → Qw z (mA ma m F' I') → Q z F' I') (h : W_X9_couple_17 x1 x2 (mA ma m F I) Qw) : V_X9_couple_17 m x1 x2 m S F I Q := by
  unfold V_X9_couple_17
  unfold W_X9_couple_17 at h
  exact T_X9_couple_70 hM  hF hQ h
set_option maxRecDepth 20000 in
set_option maxHeartbeats 4000000 in
theorem T_X9_couple_65 {m : Nat} {ma : Nat → Nat} {S : Shp} {F0 : Fl} {I0 : Il}  {F : Fl} {I : Il} {x1 : Int} {x2 : Int} {Q : Int → Fl → Il → Prop} {Qw : Int → Il → Prop} (hM : Ms m ma S)  (hF : Fr m ma F0 I0 F I) (hQ : ∀ (z : Int) (F' : Fl) (I' : Il), Fr m ma F0 I0 F' I' → Qw z (mA ma m F' I') → Q z F' I') (h : W_X9_couple_65 x1 x2 (mA ma m F I) Qw) : V_X9_couple_65 m x1 x2 m S F I Q := by
  unfold V_X9_couple_65
  unfold W_X9_couple_65 at h
  exact T_X9_couple_70 hM  hF hQ h
set_option maxRecDepth 20000 in
set_option maxHeartbeats 4000000 in
theorem T_X9_couple {m : Nat} {ma : Nat → Nat} {S : Shp} {F0 : Fl} {I0 : Il}  {F : Fl} {I : Il} {x1 : Int} {x2 : Int} {Q : Int → Fl → Il → Prop} {Qw : Int → Il → Prop} (hM : Ms m ma S)  (hF : Fr m ma F0 I0 F I) (hQ : ∀ (z : Int) (F' : Fl) (I' : Il), Fr m ma F0 I0 F' I' → Qw z (mA ma m F' I') → Q z F' I') (h : W_X9_couple x1 x2 (mA ma m F I) Qw) : V_X9_couple m x1 x2 S F I Q := by
  unfold V_X9_couple
  unfold W_X9_couple at h
  refine ⟨hM.1, ?_⟩
  refine T_X9_isTrain hM hF (fun z1 h => ?_) h
  try dsimp only at h
  refine ⟨fun c6 => ?_, fun c6 => ?_⟩
  · have h := h.1 c6
    exact T_X9_couple_17 hM  hF hQ h
  · have h := h.2 c6
    refine T_X9_isCar hM hF (fun z2 h => ?_) h
    try dsimp only at h
    refine ⟨fun c14 => ?_, fun c14 => ?_⟩
    · have h := h.1 c14
      refine T_X9_stands hM hF (fun z3 h => ?_) h
      try dsimp only at h
      refine ⟨fun c26 => ?_, fun c26 => ?_⟩
      · have h := h.1 c26
        exact T_X9_couple_65 hM  hF hQ h
      · have h := h.2 c26
        refine ⟨ma 44, (hM.2.1 44 rfl).1, ?_⟩
        refine ⟨(hM.2.1 44 rfl).2.1, ?_⟩
        obtain ⟨h0, h1, h⟩ := h
        refine ⟨h0, Ms.lt hM (k := 44) rfl h1, ?_⟩
        refine ⟨fun c37 => ?_, fun c37 => ?_⟩
        · have h := h.1 c37
          exact T_X9_couple_65 hM  hF hQ h
        · have h := h.2 c37
          refine ⟨ma 32, (hM.2.1 32 rfl).1, ?_⟩
          refine ⟨(hM.2.1 32 rfl).2.1, ?_⟩
          obtain ⟨h0, h1, h⟩ := h
          refine ⟨h0, Ms.lt hM (k := 32) rfl h1, ?_⟩
          refine ⟨fun c47 => ?_, fun c47 => ?_⟩
          · have h := h.1 c47
            exact T_X9_couple_65 hM  hF hQ h
          · have h := h.2 c47
            refine ⟨ma 31, (hM.2.1 31 rfl).1, ?_⟩
            refine ⟨(hM.2.1 31 rfl).2.1, ?_⟩
            obtain ⟨h0, h1, h⟩ := h
            refine ⟨h0, Ms.lt hM (k := 31) rfl h1, ?_⟩
            refine ⟨ma 40, (hM.2.1 40 rfl).1, ?_⟩
            refine ⟨(hM.2.1 40 rfl).2.1, ?_⟩
            obtain ⟨h0, h1, h⟩ := h
            refine ⟨h0, Ms.lt hM (k := 40) rfl h1, ?_⟩
            refine ⟨fun c62 => ?_, fun c62 => ?_⟩
            · have h := h.1 c62
              exact T_X9_couple_70 hM  hF hQ h
            · have h := h.2 c62
              exact T_X9_couple_65 hM  hF hQ h
    · have h := h.2 c14
      exact T_X9_couple_17 hM  hF hQ h
set_option maxRecDepth 20000 in
set_option maxHeartbeats 4000000 in
theorem T_X9_crew_26 {m : Nat} {ma : Nat → Nat} {S : Shp} {F0 : Fl} {I0 : Il}  {F : Fl} {I : Il} {x1 : Int} {s0 : Int} {Q : Int → Fl → Il → Prop} {Qw : Int → Il → Prop} (hM : Ms m ma S)  (hF : Fr m ma F0 I0 F I) (hQ : ∀ (z : Int) (F' : Fl) (I' : Il), Fr m ma F0 I0 F' I' → Qw z (mA ma m F' I') → Q z F' I') (h : W_X9_crew_26 x1 s0 (mA ma m F I) Qw) : V_X9_crew_26 m x1 s0 m S F I Q := by
  unfold V_X9_crew_26
  unfold W_X9_crew_26 at h
  refine ⟨hM.1, ?_⟩
  rw [← mA_f (ma := ma) (m := m) (I := I) (k := 0) rfl] at h
  refine ⟨hM.1, ?_⟩
  refine ⟨fun c33 => ?_, fun c33 => ?_⟩
  · have h := h.1 c33
    refine ⟨ma 24, (hM.2.1 24 rfl).1, ?_⟩
    refine ⟨(hM.2.1 24 rfl).2.1, ?_⟩
    obtain ⟨h0, h1, h⟩ := h
    refine ⟨h0, Ms.lt hM (k := 24) rfl h1, ?_⟩
    rw [← mA_i hM (F := (u2 F 1000 m _)) (k := 24) rfl] at h
    refine ⟨ma 25, (hM.2.1 25 rfl).1, ?_⟩
    refine ⟨(hM.2.1 25 rfl).2.1, ?_⟩
    obtain ⟨h0, h1, h⟩ := h
    refine ⟨h0, Ms.lt hM (k := 25) rfl h1, ?_⟩
    rw [← mA_i hM (F := (u2 F 1000 m _)) (k := 25) rfl] at h
    rw [← mA_f (ma := ma) (m := m) (I := (ui (ui I (ma 24) _ _) (ma 25) _ _)) (k := 23) rfl] at h
    exact hQ _ _ _ (Fr.f (k := 1023) (by decide) (Fr.i (k := 25) rfl (Fr.i (k := 24) rfl (Fr.f (k := 1000) (by decide) hF)))) h
  · have h := h.2 c33
    exact hQ _ _ _ (Fr.f (k := 1000) (by decide) hF) h
set_option maxRecDepth 20000 in
set_option maxHeartbeats 4000000 in
theorem T_X9_crew {m : Nat} {ma : Nat → Nat} {S : Shp} {F0 : Fl} {I0 : Il}  {F : Fl} {I : Il} {x1 : Int} {Q : Int → Fl → Il → Prop} {Qw : Int → Il → Prop} (hM : Ms m ma S)  (hF : Fr m ma F0 I0 F I) (hQ : ∀ (z : Int) (F' : Fl) (I' : Il), Fr m ma F0 I0 F' I' → Qw z (mA ma m F' I') → Q z F' I') (h : W_X9_crew x1 (mA ma m F I) Qw) : V_X9_crew m x1 S F I Q := by
  unfold V_X9_crew
  unfold W_X9_crew at h
  refine T_X9_isStation hM hF (fun z1 h => ?_) h
  try dsimp only at h
  refine ⟨fun c5 => ?_, fun c5 => ?_⟩
  · have h := h.1 c5
    refine ⟨hM.1, ?_⟩
    refine ⟨fun c18 => ?_, fun c18 => ?_⟩
    · have h := h.1 c18
      exact T_X9_crew_26 hM  hF hQ h
    · have h := h.2 c18
      exact T_X9_crew_26 hM  hF hQ h
  · have h := h.2 c5
    exact T_X9_crew_26 hM  hF hQ h
set_option maxRecDepth 20000 in
set_option maxHeartbeats 4000000 in
theorem T_X9_debt {m : Nat} {ma : Nat → Nat} {S : Shp} {F0 : Fl} {I0 : Il}  {F : Fl} {I : Il}  {Q : Int → Fl → Prop} {Qw : Int → Il → Prop} (hM : Ms m ma S)  (hF : Fr m ma F0 I0 F I) (hQ : ∀ (z : Int) (F' : Fl), Fr m ma F0 I0 F' I → Qw z (mA ma m F' I) → Q z F') (h : W_X9_debt (mA ma m F I) Qw) : V_X9_debt m S F I Q := by
  unfold V_X9_debt
  unfold W_X9_debt at h
  refine ⟨hM.1, ?_⟩
  rw [← mA_f (ma := ma) (m := m) (I := I) (k := 0) rfl] at h
  exact hQ _ _ (Fr.f (k := 1000) (by decide) hF) h
set_option maxRecDepth 20000 in
set_option maxHeartbeats 4000000 in
theorem T_X9_holds_31 {m : Nat} {ma : Nat → Nat} {S : Shp} {F0 : Fl} {I0 : Il} {kv4 : Nat → Int → Int → Int → Prop} {k4 : Int → Int → Int → Prop} {F : Fl} {I : Il} {x1 : Int} {x3 : Int} {s0 : Int} {Q : Int → Prop} {Qw : Int → Prop} (hM : Ms m ma S) (hk4 : ∀ (x1 : Int) (x2 : Int) (x3 : Int), k4 x1 x2 x3 → kv4 m x1 x2 x3 ) (hF : Fr m ma F0 I0 F I) (hQ : ∀ (z : Int), Qw z → Q z ) (h : W_X9_holds_31 k4 x1 x3 s0 (mA ma m F I) Qw) : V_X9_holds_31 kv4 m x1 x3 s0 S F I Q := by
  unfold V_X9_holds_31
  unfold W_X9_holds_31 at h
  exact hk4 _ _ _  h
set_option maxRecDepth 20000 in
set_option maxHeartbeats 4000000 in
theorem T_X9_holds_26 {m : Nat} {ma : Nat → Nat} {S : Shp} {F0 : Fl} {I0 : Il} {kv4 : Nat → Int → Int → Int → Prop} {k4 : Int → Int → Int → Prop} {F : Fl} {I : Il} {x1 : Int} {x3 : Int} {Q : Int → Prop} {Qw : Int → Prop} (hM : Ms m ma S) (hk4 : ∀ (x1 : Int) (x2 : Int) (x3 : Int), k4 x1 x2 x3 → kv4 m x1 x2 x3 ) (hF : Fr m ma F0 I0 F I) (hQ : ∀ (z : Int), Qw z → Q z ) (h : W_X9_holds_26 k4 x1 x3 (mA ma m F I) Qw) : V_X9_holds_26 kv4 m x1 x3 S F I Q := by
  unfold V_X9_holds_26
  unfold W_X9_holds_26 at h
  exact T_X9_holds_31 hM hk4 hF hQ h
set_option maxRecDepth 20000 in
set_option maxHeartbeats 4000000 in
theorem T_X9_holds_4 {m : Nat} {ma : Nat → Nat} {S : Shp} {F0 : Fl} {I0 : Il}  {F : Fl} {I : Il} {Q : Int → Prop} {Qw : Int → Prop} (hM : Ms m ma S)  (hQ : ∀ (z : Int), Qw z → Q z ) (n9 : Nat) : ∀ (x1 : Int) (x2 : Int) (x3 : Int), Fr m ma F0 I0 F I → W_X9_holds_4 n9 x1 x2 x3 (mA ma m F I) Qw → V_X9_holds_4 n9 m x1 x2 x3 S F I Q := by
  induction n9 with
  | zero => intro x1 x2 x3 hF h; exact h.elim
  | succ n ih =>
    intro x1 x2 x3 hF h
    unfold V_X9_holds_4
    unfold W_X9_holds_4 at h
    refine ⟨hM.1, ?_⟩
    refine ⟨fun c9 => ?_, fun c9 => ?_⟩
    · have h := h.1 c9
      obtain ⟨h0, h⟩ := h
      refine ⟨h0, ?_⟩
      exact hQ _ h
    · have h := h.2 c9
      refine ⟨fun c13 => ?_, fun c13 => ?_⟩
      · have h := h.1 c13
        exact T_X9_holds_26 hM (fun y0 y1 y2 h9 => ih y0 y1 y2 hF h9) hF hQ h
      · have h := h.2 c13
        refine ⟨ma 17, (hM.2.1 17 rfl).1, ?_⟩
        refine ⟨(hM.2.1 17 rfl).2.1, ?_⟩
        obtain ⟨h0, h1, h⟩ := h
        refine ⟨h0, Ms.lt hM (k := 17) rfl h1, ?_⟩
        refine ⟨fun c23 => ?_, fun c23 => ?_⟩
        · have h := h.1 c23
          exact T_X9_holds_31 hM (fun y0 y1 y2 h9 => ih y0 y1 y2 hF h9) hF hQ h
        · have h := h.2 c23
          exact T_X9_holds_26 hM (fun y0 y1 y2 h9 => ih y0 y1 y2 hF h9) hF hQ h
set_option maxRecDepth 20000 in
set_option maxHeartbeats 4000000 in
theorem T_X9_holds {m : Nat} {ma : Nat → Nat} {S : Shp} {F0 : Fl} {I0 : Il}  {F : Fl} {I : Il} {x1 : Int} {Q : Int → Prop} {Qw : Int → Prop} (hM : Ms m ma S)  (hF : Fr m ma F0 I0 F I) (hQ : ∀ (z : Int), Qw z → Q z ) (h : W_X9_holds x1 (mA ma m F I) Qw) : V_X9_holds m x1 S F I Q := by
  unfold V_X9_holds
  unfold W_X9_holds at h
  obtain ⟨n9, h⟩ := h
  exact ⟨n9, T_X9_holds_4 hM  hQ n9 _ _ _ hF h⟩
set_option maxRecDepth 20000 in
set_option maxHeartbeats 4000000 in
theorem T_X9_dissolve_43 {m : Nat} {ma : Nat → Nat} {S : Shp} {F0 : Fl} {I0 : Il}  {F : Fl} {I : Il} {x1 : Int} {s0 : Int} {Q : Int → Fl → Il → Prop} {Qw : Int → Il → Prop} (hM : Ms m ma S)  (hF : Fr m ma F0 I0 F I) (hQ : ∀ (z : Int) (F' : Fl) (I' : Il), Fr m ma F0 I0 F' I' → Qw z (mA ma m F' I') → Q z F' I') (h : W_X9_dissolve_43 x1 s0 (mA ma m F I) Qw) : V_X9_dissolve_43 m x1 s0 m S F I Q := by
  unfold V_X9_dissolve_43
  unfold W_X9_dissolve_43 at h
  refine ⟨hM.1, ?_⟩
  rw [← mA_f (ma := ma) (m := m) (I := I) (k := 0) rfl] at h
  refine ⟨hM.1, ?_⟩
  refine ⟨fun c50 => ?_, fun c50 => ?_⟩
  · have h := h.1 c50
    refine ⟨ma 40, (hM.2.1 40 rfl).1, ?_⟩
    refine ⟨(hM.2.1 40 rfl).2.1, ?_⟩
    obtain ⟨h0, h1, h⟩ := h
    refine ⟨h0, Ms.lt hM (k := 40) rfl h1, ?_⟩
    refine T_X9_ends hM (Fr.f (k := 1000) (by decide) hF) (fun I2 hF3 h => ?_) h
    try dsimp only at h
    obtain ⟨h0, h1, h⟩ := h
    refine ⟨h0, Ms.lt hM (k := 40) rfl h1, ?_⟩
    exact hQ _ _ _ hF3 h
  · have h := h.2 c50
    exact hQ _ _ _ (Fr.f (k := 1000) (by decide) hF) h
set_option maxRecDepth 20000 in
set_option maxHeartbeats 4000000 in
theorem T_X9_dissolve_38 {m : Nat} {ma : Nat → Nat} {S : Shp} {F0 : Fl} {I0 : Il}  {F : Fl} {I : Il} {x1 : Int} {Q : Int → Fl → Il → Prop} {Qw : Int → Il → Prop} (hM : Ms m ma S)  (hF : Fr m ma F0 I0 F I) (hQ : ∀ (z : Int) (F' : Fl) (I' : Il), Fr m ma F0 I0 F' I' → Qw z (mA ma m F' I') → Q z F' I') (h : W_X9_dissolve_38 x1 (mA ma m F I) Qw) : V_X9_dissolve_38 m x1 m S F I Q := by
  unfold V_X9_dissolve_38
  unfold W_X9_dissolve_38 at h
  exact T_X9_dissolve_43 hM  hF hQ h
set_option maxRecDepth 20000 in
set_option maxHeartbeats 4000000 in
theorem T_X9_dissolve {m : Nat} {ma : Nat → Nat} {S : Shp} {F0 : Fl} {I0 : Il}  {F : Fl} {I : Il} {x1 : Int} {Q : Int → Fl → Il → Prop} {Qw : Int → Il → Prop} (hM : Ms m ma S)  (hF : Fr m ma F0 I0 F I) (hQ : ∀ (z : Int) (F' : Fl) (I' : Il), Fr m ma F0 I0 F' I' → Qw z (mA ma m F' I') → Q z F' I') (h : W_X9_dissolve x1 (mA ma m F I) Qw) : V_X9_dissolve m x1 S F I Q := by
  unfold V_X9_dissolve
  unfold W_X9_dissolve at h
  refine ⟨hM.1, ?_⟩
  refine T_X9_isTrain hM hF (fun z1 h => ?_) h
  try dsimp only at h
  refine ⟨fun c6 => ?_, fun c6 => ?_⟩
  · have h := h.1 c6
    refine T_X9_stands hM hF (fun z2 h => ?_) h
    try dsimp only at h
    refine ⟨fun c18 => ?_, fun c18 => ?_⟩
    · have h := h.1 c18
      exact T_X9_dissolve_38 hM  hF hQ h
    · have h := h.2 c18
      refine ⟨ma 44, (hM.2.1 44 rfl).1, ?_⟩
      refine ⟨(hM.2.1 44 rfl).2.1, ?_⟩
      obtain ⟨h0, h1, h⟩ := h
      refine ⟨h0, Ms.lt hM (k := 44) rfl h1, ?_⟩
      refine ⟨fun c27 => ?_, fun c27 => ?_⟩
      · have h := h.1 c27
        exact T_X9_dissolve_38 hM  hF hQ h
      · have h := h.2 c27
        refine T_X9_holds hM hF (fun z3 h => ?_) h
        try dsimp only at h
        refine ⟨fun c35 => ?_, fun c35 => ?_⟩
        · have h := h.1 c35
          exact T_X9_dissolve_43 hM  hF hQ h
        · have h := h.2 c35
          exact T_X9_dissolve_38 hM  hF hQ h
  · have h := h.2 c6
    exact T_X9_dissolve_43 hM  hF hQ h
set_option maxRecDepth 20000 in
set_option maxHeartbeats 4000000 in
theorem T_X9_isCrew {m : Nat} {ma : Nat → Nat} {S : Shp} {F0 : Fl} {I0 : Il}  {F : Fl} {I : Il} {x1 : Int} {Q : Int → Prop} {Qw : Int → Prop} (hM : Ms m ma S)  (hF : Fr m ma F0 I0 F I) (hQ : ∀ (z : Int), Qw z → Q z ) (h : W_X9_isCrew x1 (mA ma m F I) Qw) : V_X9_isCrew m x1 S F I Q := by
  unfold V_X9_isCrew
  unfold W_X9_isCrew at h
  refine ⟨hM.1, ?_⟩
  refine T_X9_in hM hF (fun z1 h => ?_) h
  try dsimp only at h
  obtain ⟨h0, h⟩ := h
  refine ⟨h0, ?_⟩
  exact hQ _ h
set_option maxRecDepth 20000 in
set_option maxHeartbeats 4000000 in
theorem T_X9_duty_14 {m : Nat} {ma : Nat → Nat} {S : Shp} {F0 : Fl} {I0 : Il}  {F : Fl} {I : Il} {x1 : Int} {s0 : Int} {Q : Int → Fl → Prop} {Qw : Int → Il → Prop} (hM : Ms m ma S)  (hF : Fr m ma F0 I0 F I) (hQ : ∀ (z : Int) (F' : Fl), Fr m ma F0 I0 F' I → Qw z (mA ma m F' I) → Q z F') (h : W_X9_duty_14 x1 s0 (mA ma m F I) Qw) : V_X9_duty_14 m x1 s0 m S F I Q := by
  unfold V_X9_duty_14
  unfold W_X9_duty_14 at h
  refine ⟨hM.1, ?_⟩
  rw [← mA_f (ma := ma) (m := m) (I := I) (k := 0) rfl] at h
  refine ⟨hM.1, ?_⟩
  refine ⟨fun c21 => ?_, fun c21 => ?_⟩
  · have h := h.1 c21
    refine T_X9_rests hM (Fr.f (k := 1000) (by decide) hF) (fun z1 h => ?_) h
    try dsimp only at h
    refine ⟨fun c33 => ?_, fun c33 => ?_⟩
    · have h := h.1 c33
      refine ⟨ma 26, (hM.2.1 26 rfl).1, ?_⟩
      refine ⟨(hM.2.1 26 rfl).2.1, ?_⟩
      obtain ⟨h0, h1, h⟩ := h
      refine ⟨h0, Ms.lt hM (k := 26) rfl h1, ?_⟩
      exact hQ _ _ (Fr.f (k := 1000) (by decide) hF) h
    · have h := h.2 c33
      exact hQ _ _ (Fr.f (k := 1000) (by decide) hF) h
  · have h := h.2 c21
    exact hQ _ _ (Fr.f (k := 1000) (by decide) hF) h
set_option maxRecDepth 20000 in
set_option maxHeartbeats 4000000 in
theorem T_X9_duty {m : Nat} {ma : Nat → Nat} {S : Shp} {F0 : Fl} {I0 : Il}  {F : Fl} {I : Il} {x1 : Int} {Q : Int → Fl → Prop} {Qw : Int → Il → Prop} (hM : Ms m ma S)  (hF : Fr m ma F0 I0 F I) (hQ : ∀ (z : Int) (F' : Fl), Fr m ma F0 I0 F' I → Qw z (mA ma m F' I) → Q z F') (h : W_X9_duty x1 (mA ma m F I) Qw) : V_X9_duty m x1 S F I Q := by
  unfold V_X9_duty
  unfold W_X9_duty at h
  refine ⟨hM.1, ?_⟩
  refine T_X9_isCrew hM hF (fun z1 h => ?_) h
  try dsimp only at h
  refine ⟨fun c6 => ?_, fun c6 => ?_⟩
  · have h := h.1 c6
    exact T_X9_duty_14 hM  hF hQ h
  · have h := h.2 c6
    exact T_X9_duty_14 hM  hF hQ h
set_option maxRecDepth 20000 in
set_option maxHeartbeats 4000000 in
theorem T_X9_engine_40 {m : Nat} {ma : Nat → Nat} {S : Shp} {F0 : Fl} {I0 : Il}  {F : Fl} {I : Il} {x1 : Int} {x2 : Int} {s0 : Int} {Q : Int → Fl → Il → Prop} {Qw : Int → Il → Prop} (hM : Ms m ma S)  (hF : Fr m ma F0 I0 F I) (hQ : ∀ (z : Int) (F' : Fl) (I' : Il), Fr m ma F0 I0 F' I' → Qw z (mA ma m F' I') → Q z F' I') (h : W_X9_engine_40 x1 x2 s0 (mA ma m F I) Qw) : V_X9_engine_40 m x1 x2 s0 m S F I Q := by
  unfold V_X9_engine_40
  unfold W_X9_engine_40 at h
  refine ⟨hM.1, ?_⟩
  rw [← mA_f (ma := ma) (m := m) (I := I) (k := 0) rfl] at h
  refine ⟨hM.1, ?_⟩
  refine ⟨fun c47 => ?_, fun c47 => ?_⟩
  · have h := h.1 c47
    refine ⟨ma 20, (hM.2.1 20 rfl).1, ?_⟩
    refine ⟨(hM.2.1 20 rfl).2.1, ?_⟩
    obtain ⟨h0, h1, h⟩ := h
    refine ⟨h0, Ms.lt hM (k := 20) rfl h1, ?_⟩
    rw [← mA_i hM (F := (u2 F 1000 m _)) (k := 20) rfl] at h
    refine ⟨ma 21, (hM.2.1 21 rfl).1, ?_⟩
    refine ⟨(hM.2.1 21 rfl).2.1, ?_⟩
    obtain ⟨h0, h1, h⟩ := h
    refine ⟨h0, Ms.lt hM (k := 21) rfl h1, ?_⟩
    rw [← mA_i hM (F := (u2 F 1000 m _)) (k := 21) rfl] at h
    refine ⟨ma 22, (hM.2.1 22 rfl).1, ?_⟩
    refine ⟨(hM.2.1 22 rfl).2.1, ?_⟩
    obtain ⟨h0, h1, h⟩ := h
    refine ⟨h0, Ms.lt hM (k := 22) rfl h1, ?_⟩
    rw [← mA_i hM (F := (u2 F 1000 m _)) (k := 22) rfl] at h
    rw [← mA_f (ma := ma) (m := m) (I := (ui (ui (ui I (ma 20) _ _) (ma 21) _ _) (ma 22) _ _)) (k := 2) rfl] at h
    rw [← mA_f (ma := ma) (m := m) (I := (ui (ui (ui I (ma 20) _ _) (ma 21) _ _) (ma 22) _ _)) (k := 19) rfl] at h
    exact hQ _ _ _ (Fr.f (k := 1019) (by decide) (Fr.f (k := 1002) (by decide) (Fr.i (k := 22) rfl (Fr.i (k := 21) rfl (Fr.i (k := 20) rfl (Fr.f (k := 1000) (by decide) hF)))))) h
  · have h := h.2 c47
    exact hQ _ _ _ (Fr.f (k := 1000) (by decide) hF) h
set_option maxRecDepth 20000 in
set_option maxHeartbeats 4000000 in
theorem T_X9_engine {m : Nat} {ma : Nat → Nat} {S : Shp} {F0 : Fl} {I0 : Il}  {F : Fl} {I : Il} {x1 : Int} {x2 : Int} {Q : Int → Fl → Il → Prop} {Qw : Int → Il → Prop} (hM : Ms m ma S)  (hF : Fr m ma F0 I0 F I) (hQ : ∀ (z : Int) (F' : Fl) (I' : Il), Fr m ma F0 I0 F' I' → Qw z (mA ma m F' I') → Q z F' I') (h : W_X9_engine x1 x2 (mA ma m F I) Qw) : V_X9_engine m x1 x2 S F I Q := by
  unfold V_X9_engine
  unfold W_X9_engine at h
  refine T_X9_isStation hM hF (fun z1 h => ?_) h
  try dsimp only at h
  refine ⟨fun c5 => ?_, fun c5 => ?_⟩
  · have h := h.1 c5
    refine T_X9_in hM hF (fun z2 h => ?_) h
    try dsimp only at h
    refine ⟨fun c19 => ?_, fun c19 => ?_⟩
    · have h := h.1 c19
      refine ⟨hM.1, ?_⟩
      refine ⟨fun c32 => ?_, fun c32 => ?_⟩
      · have h := h.1 c32
        exact T_X9_engine_40 hM  hF hQ h
      · have h := h.2 c32
        exact T_X9_engine_40 hM  hF hQ h
    · have h := h.2 c19
      exact T_X9_engine_40 hM  hF hQ h
  · have h := h.2 c5
    exact T_X9_engine_40 hM  hF hQ h
set_option maxRecDepth 20000 in
set_option maxHeartbeats 4000000 in
theorem T_X9_enters_107 {m : Nat} {ma : Nat → Nat} {S : Shp} {F0 : Fl} {I0 : Il}  {F : Fl} {I : Il} {x1 : Int} {x2 : Int} {s0 : Int} {s1 : Int} {Q : Il → Prop} {Qw : Il → Prop} (hM : Ms m ma S)  (hF : Fr m ma F0 I0 F I) (hQ : ∀ (I' : Il), Fr m ma F0 I0 F I' → Qw  (mA ma m F I') → Q  I') (h : W_X9_enters_107 x1 x2 s0 s1 (mA ma m F I) Qw) : V_X9_enters_107 m x1 x2 s0 s1 (ma 50) S F I Q := by
  unfold V_X9_enters_107
  unfold W_X9_enters_107 at h
  refine ⟨(hM.2.1 50 rfl).2.1, ?_⟩
  obtain ⟨h0, h1, h⟩ := h
  refine ⟨h0, Ms.lt hM (k := 50) rfl h1, ?_⟩
  rw [← mA_i hM (F := F) (k := 50) rfl] at h
  refine ⟨hM.1, ?_⟩
  refine ⟨ma 40, (hM.2.1 40 rfl).1, ?_⟩
  refine ⟨(hM.2.1 40 rfl).2.1, ?_⟩
  obtain ⟨h0, h1, h⟩ := h
  refine ⟨h0, Ms.lt hM (k := 40) rfl h1, ?_⟩
  refine T_X9_other hM (Fr.i (k := 50) rfl hF) (fun z1 h => ?_) h
  try dsimp only at h
  obtain ⟨h0, h1, h⟩ := h
  refine ⟨h0, Ms.lt hM (k := 40) rfl h1, ?_⟩
  rw [← mA_i hM (F := F) (k := 40) rfl] at h
  refine ⟨ma 41, (hM.2.1 41 rfl).1, ?_⟩
  refine ⟨(hM.2.1 41 rfl).2.1, ?_⟩
  obtain ⟨h0, h1, h⟩ := h
  refine ⟨h0, Ms.lt hM (k := 41) rfl h1, ?_⟩
  rw [← mA_i hM (F := F) (k := 41) rfl] at h
  refine ⟨ma 39, (hM.2.1 39 rfl).1, ?_⟩
  refine ⟨(hM.2.1 39 rfl).2.1, ?_⟩
  obtain ⟨h0, h1, h⟩ := h
  refine ⟨h0, Ms.lt hM (k := 39) rfl h1, ?_⟩
  rw [← mA_i hM (F := F) (k := 39) rfl] at h
  refine ⟨ma 46, (hM.2.1 46 rfl).1, ?_⟩
  refine ⟨(hM.2.1 46 rfl).2.1, ?_⟩
  obtain ⟨h0, h1, h⟩ := h
  refine ⟨h0, Ms.lt hM (k := 46) rfl h1, ?_⟩
  obtain ⟨h0, h1, h⟩ := h
  refine ⟨h0, Ms.lt hM (k := 46) rfl h1, ?_⟩
  rw [← mA_i hM (F := F) (k := 46) rfl] at h
  exact hQ _ (Fr.i (k := 46) rfl (Fr.i (k := 39) rfl (Fr.i (k := 41) rfl (Fr.i (k := 40) rfl (Fr.i (k := 50) rfl hF))))) h
set_option maxRecDepth 20000 in
set_option maxHeartbeats 4000000 in
theorem T_X9_enters {m : Nat} {ma : Nat → Nat} {S : Shp} {F0 : Fl} {I0 : Il}  {F : Fl} {I : Il} {x1 : Int} {Q : Il → Prop} {Qw : Il → Prop} (hM : Ms m ma S)  (hF : Fr m ma F0 I0 F I) (hQ : ∀ (I' : Il), Fr m ma F0 I0 F I' → Qw  (mA ma m F I') → Q  I') (h : W_X9_enters x1 (mA ma m F I) Qw) : V_X9_enters m x1 S F I Q := by
  unfold V_X9_enters
  unfold W_X9_enters at h
  refine ⟨hM.1, ?_⟩
  refine ⟨ma 45, (hM.2.1 45 rfl).1, ?_⟩
  refine ⟨ma 46, (hM.2.1 46 rfl).1, ?_⟩
  refine ⟨(hM.2.1 46 rfl).2.1, ?_⟩
  obtain ⟨h0, h1, h⟩ := h
  refine ⟨h0, Ms.lt hM (k := 46) rfl h1, ?_⟩
  refine ⟨(hM.2.1 45 rfl).2.1, ?_⟩
  obtain ⟨h0, h1, h⟩ := h
  refine ⟨h0, Ms.lt hM (k := 45) rfl h1, ?_⟩
  refine T_X9_runs hM hF (fun z1 h => ?_) h
  try dsimp only at h
  refine ⟨ma 17, (hM.2.1 17 rfl).1, ?_⟩
  refine ⟨(hM.2.1 17 rfl).2.1, ?_⟩
  obtain ⟨h0, h1, h⟩ := h
  refine ⟨h0, Ms.lt hM (k := 17) rfl h1, ?_⟩
  rw [← mA_i hM (F := F) (k := 17) rfl] at h
  refine ⟨ma 18, (hM.2.1 18 rfl).1, ?_⟩
  refine T_X9_clears hM (Fr.i (k := 17) rfl hF) (fun z2 h => ?_) h
  try dsimp only at h
  refine ⟨(hM.2.1 18 rfl).2.1, ?_⟩
  obtain ⟨h0, h1, h⟩ := h
  refine ⟨h0, Ms.lt hM (k := 18) rfl h1, ?_⟩
  rw [← mA_i hM (F := F) (k := 18) rfl] at h
  refine ⟨ma 14, (hM.2.1 14 rfl).1, ?_⟩
  refine ⟨(hM.2.1 14 rfl).2.1, ?_⟩
  obtain ⟨h0, h1, h⟩ := h
  refine ⟨h0, Ms.lt hM (k := 14) rfl h1, ?_⟩
  rw [← mA_i hM (F := F) (k := 14) rfl] at h
  refine ⟨ma 26, (hM.2.1 26 rfl).1, ?_⟩
  refine ⟨ma 38, (hM.2.1 38 rfl).1, ?_⟩
  refine ⟨(hM.2.1 38 rfl).2.1, ?_⟩
  obtain ⟨h0, h1, h⟩ := h
  refine ⟨h0, Ms.lt hM (k := 38) rfl h1, ?_⟩
  refine ⟨(hM.2.1 26 rfl).2.1, ?_⟩
  obtain ⟨h0, h1, h⟩ := h
  refine ⟨h0, Ms.lt hM (k := 26) rfl h1, ?_⟩
  obtain ⟨h0, h1, h⟩ := h
  refine ⟨h0, Ms.lt hM (k := 26) rfl h1, ?_⟩
  rw [← mA_i hM (F := F) (k := 26) rfl] at h
  refine ⟨ma 42, (hM.2.1 42 rfl).1, ?_⟩
  refine ⟨(hM.2.1 42 rfl).2.1, ?_⟩
  obtain ⟨h0, h1, h⟩ := h
  refine ⟨h0, Ms.lt hM (k := 42) rfl h1, ?_⟩
  rw [← mA_i hM (F := F) (k := 42) rfl] at h
  refine ⟨ma 50, (hM.2.1 50 rfl).1, ?_⟩
  refine ⟨ma 51, (hM.2.1 51 rfl).1, ?_⟩
  refine ⟨(hM.2.1 51 rfl).2.1, ?_⟩
  obtain ⟨h0, h1, h⟩ := h
  refine ⟨h0, Ms.lt hM (k := 51) rfl h1, ?_⟩
  refine ⟨ma 40, (hM.2.1 40 rfl).1, ?_⟩
  refine ⟨(hM.2.1 40 rfl).2.1, ?_⟩
  obtain ⟨h0, h1, h⟩ := h
  refine ⟨h0, Ms.lt hM (k := 40) rfl h1, ?_⟩
  refine ⟨fun c94 => ?_, fun c94 => ?_⟩
  · have h := h.1 c94
    refine ⟨(hM.2.1 50 rfl).2.1, ?_⟩
    obtain ⟨h0, h1, h⟩ := h
    refine ⟨h0, Ms.lt hM (k := 50) rfl h1, ?_⟩
    exact T_X9_enters_107 hM  (Fr.i (k := 42) rfl (Fr.i (k := 26) rfl (Fr.i (k := 14) rfl (Fr.i (k := 18) rfl (Fr.i (k := 17) rfl hF))))) hQ h
  · have h := h.2 c94
    exact T_X9_enters_107 hM  (Fr.i (k := 42) rfl (Fr.i (k := 26) rfl (Fr.i (k := 14) rfl (Fr.i (k := 18) rfl (Fr.i (k := 17) rfl hF))))) hQ h
set_option maxRecDepth 20000 in
set_option maxHeartbeats 4000000 in
theorem T_X9_fail_14 {m : Nat} {ma : Nat → Nat} {S : Shp} {F0 : Fl} {I0 : Il}  {F : Fl} {I : Il} {x1 : Int} {x2 : Int} {s0 : Int} {Q : Int → Fl → Il → Prop} {Qw : Int → Il → Prop} (hM : Ms m ma S)  (hF : Fr m ma F0 I0 F I) (hQ : ∀ (z : Int) (F' : Fl) (I' : Il), Fr m ma F0 I0 F' I' → Qw z (mA ma m F' I') → Q z F' I') (h : W_X9_fail_14 x1 x2 s0 (mA ma m F I) Qw) : V_X9_fail_14 m x1 x2 s0 m S F I Q := by
  unfold V_X9_fail_14
  unfold W_X9_fail_14 at h
  refine ⟨hM.1, ?_⟩
  rw [← mA_f (ma := ma) (m := m) (I := I) (k := 0) rfl] at h
  refine ⟨hM.1, ?_⟩
  refine ⟨fun c21 => ?_, fun c21 => ?_⟩
  · have h := h.1 c21
    refine ⟨ma 13, (hM.2.1 13 rfl).1, ?_⟩
    refine ⟨(hM.2.1 13 rfl).2.1, ?_⟩
    obtain ⟨h0, h1, h⟩ := h
    refine ⟨h0, Ms.lt hM (k := 13) rfl h1, ?_⟩
    obtain ⟨h0, h1, h⟩ := h
    refine ⟨h0, Ms.lt hM (k := 13) rfl h1, ?_⟩
    obtain ⟨h0, h⟩ := h
    refine ⟨h0, ?_⟩
    rw [← mA_i hM (F := (u2 F 1000 m _)) (k := 13) rfl] at h
    refine ⟨ma 14, (hM.2.1 14 rfl).1, ?_⟩
    refine ⟨(hM.2.1 14 rfl).2.1, ?_⟩
    obtain ⟨h0, h1, h⟩ := h
    refine ⟨h0, Ms.lt hM (k := 14) rfl h1, ?_⟩
    rw [← mA_i hM (F := (u2 F 1000 m _)) (k := 14) rfl] at h
    obtain ⟨h0, h⟩ := h
    refine ⟨h0, ?_⟩
    exact hQ _ _ _ (Fr.i (k := 14) rfl (Fr.i (k := 13) rfl (Fr.f (k := 1000) (by decide) hF))) h
  · have h := h.2 c21
    exact hQ _ _ _ (Fr.f (k := 1000) (by decide) hF) h
set_option maxRecDepth 20000 in
set_option maxHeartbeats 4000000 in
theorem T_X9_fail {m : Nat} {ma : Nat → Nat} {S : Shp} {F0 : Fl} {I0 : Il}  {F : Fl} {I : Il} {x1 : Int} {x2 : Int} {Q : Int → Fl → Il → Prop} {Qw : Int → Il → Prop} (hM : Ms m ma S)  (hF : Fr m ma F0 I0 F I) (hQ : ∀ (z : Int) (F' : Fl) (I' : Il), Fr m ma F0 I0 F' I' → Qw z (mA ma m F' I') → Q z F' I') (h : W_X9_fail x1 x2 (mA ma m F I) Qw) : V_X9_fail m x1 x2 S F I Q := by
  unfold V_X9_fail
  unfold W_X9_fail at h
  refine ⟨hM.1, ?_⟩
  refine T_X9_isBlock hM hF (fun z1 h => ?_) h
  try dsimp only at h
  refine ⟨fun c6 => ?_, fun c6 => ?_⟩
  · have h := h.1 c6
    exact T_X9_fail_14 hM  hF hQ h
  · have h := h.2 c6
    exact T_X9_fail_14 hM  hF hQ h
set_option maxRecDepth 20000 in
set_option maxHeartbeats 4000000 in
theorem T_X9_fails {m : Nat} {ma : Nat → Nat} {S : Shp} {F0 : Fl} {I0 : Il}  {F : Fl} {I : Il} {x1 : Int} {Q : Int → Fl → Prop} {Qw : Int → Il → Prop} (hM : Ms m ma S)  (hF : Fr m ma F0 I0 F I) (hQ : ∀ (z : Int) (F' : Fl), Fr m ma F0 I0 F' I → Qw z (mA ma m F' I) → Q z F') (h : W_X9_fails x1 (mA ma m F I) Qw) : V_X9_fails m x1 S F I Q := by
  unfold V_X9_fails
  unfold W_X9_fails at h
  refine ⟨hM.1, ?_⟩
  rw [← mA_f (ma := ma) (m := m) (I := I) (k := 0) rfl] at h
  exact hQ _ _ (Fr.f (k := 1000) (by decide) hF) h
set_option maxRecDepth 20000 in
set_option maxHeartbeats 4000000 in
theorem T_X9_flag_36 {m : Nat} {ma : Nat → Nat} {S : Shp} {F0 : Fl} {I0 : Il}  {F : Fl} {I : Il} {x1 : Int} {s0 : Int} {Q : Fl → Il → Prop} {Qw : Il → Prop} (hM : Ms m ma S)  (hF : Fr m ma F0 I0 F I) (hQ : ∀ (F' : Fl) (I' : Il), Fr m ma F0 I0 F' I' → Qw  (mA ma m F' I') → Q  F' I') (h : W_X9_flag_36 x1 s0 (mA ma m F I) Qw) : V_X9_flag_36 m x1 s0 m S F I Q := by
  unfold V_X9_flag_36
  unfold W_X9_flag_36 at h
  refine ⟨hM.1, ?_⟩
  rw [← mA_f (ma := ma) (m := m) (I := I) (k := 0) rfl] at h
  refine ⟨hM.1, ?_⟩
  refine ⟨fun c43 => ?_, fun c43 => ?_⟩
  · have h := h.1 c43
    exact hQ _ _ (Fr.f (k := 1000) (by decide) hF) h
  · have h := h.2 c43
    refine ⟨ma 14, (hM.2.1 14 rfl).1, ?_⟩
    refine ⟨(hM.2.1 14 rfl).2.1, ?_⟩
    obtain ⟨h0, h1, h⟩ := h
    refine ⟨h0, Ms.lt hM (k := 14) rfl h1, ?_⟩
    rw [← mA_i hM (F := (u2 F 1000 m _)) (k := 14) rfl] at h
    exact hQ _ _ (Fr.i (k := 14) rfl (Fr.f (k := 1000) (by decide) hF)) h
set_option maxRecDepth 20000 in
set_option maxHeartbeats 4000000 in
theorem T_X9_flag_31 {m : Nat} {ma : Nat → Nat} {S : Shp} {F0 : Fl} {I0 : Il}  {F : Fl} {I : Il} {x1 : Int} {Q : Fl → Il → Prop} {Qw : Il → Prop} (hM : Ms m ma S)  (hF : Fr m ma F0 I0 F I) (hQ : ∀ (F' : Fl) (I' : Il), Fr m ma F0 I0 F' I' → Qw  (mA ma m F' I') → Q  F' I') (h : W_X9_flag_31 x1 (mA ma m F I) Qw) : V_X9_flag_31 m x1 m S F I Q := by
  unfold V_X9_flag_31
  unfold W_X9_flag_31 at h
  exact T_X9_flag_36 hM  hF hQ h
set_option maxRecDepth 20000 in
set_option maxHeartbeats 4000000 in
theorem T_X9_flag {m : Nat} {ma : Nat → Nat} {S : Shp} {F0 : Fl} {I0 : Il}  {F : Fl} {I : Il} {x1 : Int} {Q : Fl → Il → Prop} {Qw : Il → Prop} (hM : Ms m ma S)  (hF : Fr m ma F0 I0 F I) (hQ : ∀ (F' : Fl) (I' : Il), Fr m ma F0 I0 F' I' → Qw  (mA ma m F' I') → Q  F' I') (h : W_X9_flag x1 (mA ma m F I) Qw) : V_X9_flag m x1 S F I Q := by
  unfold V_X9_flag
  unfold W_X9_flag at h
  refine ⟨hM.1, ?_⟩
  refine T_X9_isBlock hM hF (fun z1 h => ?_) h
  try dsimp only at h
  refine ⟨fun c6 => ?_, fun c6 => ?_⟩
  · have h := h.1 c6
    refine ⟨ma 13, (hM.2.1 13 rfl).1, ?_⟩
    refine ⟨(hM.2.1 13 rfl).2.1, ?_⟩
    obtain ⟨h0, h1, h⟩ := h
    refine ⟨h0, Ms.lt hM (k := 13) rfl h1, ?_⟩
    refine ⟨fun c19 => ?_, fun c19 => ?_⟩
    · have h := h.1 c19
      exact T_X9_flag_31 hM  hF hQ h
    · have h := h.2 c19
      refine ⟨ma 14, (hM.2.1 14 rfl).1, ?_⟩
      refine ⟨(hM.2.1 14 rfl).2.1, ?_⟩
      obtain ⟨h0, h1, h⟩ := h
      refine ⟨h0, Ms.lt hM (k := 14) rfl h1, ?_⟩
      refine ⟨fun c28 => ?_, fun c28 => ?_⟩
      · have h := h.1 c28
        exact T_X9_flag_36 hM  hF hQ h
      · have h := h.2 c28
        exact T_X9_flag_31 hM  hF hQ h
  · have h := h.2 c6
    exact T_X9_flag_36 hM  hF hQ h
set_option maxRecDepth 20000 in
set_option maxHeartbeats 4000000 in
theorem T_X9_form_141 {m : Nat} {ma : Nat → Nat} {S : Shp} {F0 : Fl} {I0 : Il}  {F : Fl} {I : Il} {x1 : Int} {x2 : Int} {x3 : Int} {s0 : Int} {Q : Int → Fl → Il → Prop} {Qw : Int → Il → Prop} (hM : Ms m ma S)  (hF : Fr m ma F0 I0 F I) (hQ : ∀ (z : Int) (F' : Fl) (I' : Il), Fr m ma F0 I0 F' I' → Qw z (mA ma m F' I') → Q z F' I') (h : W_X9_form_141 x1 x2 x3 s0 (mA ma m F I) Qw) : V_X9_form_141 m x1 x2 x3 s0 S F I Q := by
  unfold V_X9_form_141
  unfold W_X9_form_141 at h
  refine ⟨fun c145 => ?_, fun c145 => ?_⟩
  · have h := h.1 c145
    refine ⟨hM.1, ?_⟩
    refine ⟨ma 36, (hM.2.1 36 rfl).1, ?_⟩
    refine ⟨(hM.2.1 36 rfl).2.1, ?_⟩
    obtain ⟨h0, h1, h⟩ := h
    refine ⟨h0, Ms.lt hM (k := 36) rfl h1, ?_⟩
    rw [← mA_i hM (F := F) (k := 36) rfl] at h
    refine ⟨ma 37, (hM.2.1 37 rfl).1, ?_⟩
    refine ⟨(hM.2.1 37 rfl).2.1, ?_⟩
    obtain ⟨h0, h1, h⟩ := h
    refine ⟨h0, Ms.lt hM (k := 37) rfl h1, ?_⟩
    rw [← mA_i hM (F := F) (k := 37) rfl] at h
    refine ⟨ma 38, (hM.2.1 38 rfl).1, ?_⟩
    refine ⟨(hM.2.1 38 rfl).2.1, ?_⟩
    obtain ⟨h0, h1, h⟩ := h
    refine ⟨h0, Ms.lt hM (k := 38) rfl h1, ?_⟩
    rw [← mA_i hM (F := F) (k := 38) rfl] at h
    refine ⟨ma 22, (hM.2.1 22 rfl).1, ?_⟩
    refine ⟨(hM.2.1 22 rfl).2.1, ?_⟩
    obtain ⟨h0, h1, h⟩ := h
    refine ⟨h0, Ms.lt hM (k := 22) rfl h1, ?_⟩
    rw [← mA_i hM (F := F) (k := 22) rfl] at h
    refine ⟨ma 25, (hM.2.1 25 rfl).1, ?_⟩
    refine ⟨(hM.2.1 25 rfl).2.1, ?_⟩
    obtain ⟨h0, h1, h⟩ := h
    refine ⟨h0, Ms.lt hM (k := 25) rfl h1, ?_⟩
    rw [← mA_i hM (F := F) (k := 25) rfl] at h
    refine ⟨ma 39, (hM.2.1 39 rfl).1, ?_⟩
    refine ⟨(hM.2.1 39 rfl).2.1, ?_⟩
    obtain ⟨h0, h1, h⟩ := h
    refine ⟨h0, Ms.lt hM (k := 39) rfl h1, ?_⟩
    rw [← mA_i hM (F := F) (k := 39) rfl] at h
    refine ⟨ma 40, (hM.2.1 40 rfl).1, ?_⟩
    refine ⟨ma 21, (hM.2.1 21 rfl).1, ?_⟩
    refine ⟨(hM.2.1 21 rfl).2.1, ?_⟩
    obtain ⟨h0, h1, h⟩ := h
    refine ⟨h0, Ms.lt hM (k := 21) rfl h1, ?_⟩
    refine ⟨(hM.2.1 40 rfl).2.1, ?_⟩
    obtain ⟨h0, h1, h⟩ := h
    refine ⟨h0, Ms.lt hM (k := 40) rfl h1, ?_⟩
    rw [← mA_i hM (F := F) (k := 40) rfl] at h
    refine ⟨ma 41, (hM.2.1 41 rfl).1, ?_⟩
    refine ⟨(hM.2.1 41 rfl).2.1, ?_⟩
    obtain ⟨h0, h1, h⟩ := h
    refine ⟨h0, Ms.lt hM (k := 41) rfl h1, ?_⟩
    rw [← mA_i hM (F := F) (k := 41) rfl] at h
    refine ⟨ma 44, (hM.2.1 44 rfl).1, ?_⟩
    refine ⟨(hM.2.1 44 rfl).2.1, ?_⟩
    obtain ⟨h0, h1, h⟩ := h
    refine ⟨h0, Ms.lt hM (k := 44) rfl h1, ?_⟩
    rw [← mA_i hM (F := F) (k := 44) rfl] at h
    refine ⟨ma 46, (hM.2.1 46 rfl).1, ?_⟩
    refine ⟨(hM.2.1 46 rfl).2.1, ?_⟩
    obtain ⟨h0, h1, h⟩ := h
    refine ⟨h0, Ms.lt hM (k := 46) rfl h1, ?_⟩
    rw [← mA_i hM (F := F) (k := 46) rfl] at h
    refine ⟨ma 47, (hM.2.1 47 rfl).1, ?_⟩
    refine ⟨(hM.2.1 47 rfl).2.1, ?_⟩
    obtain ⟨h0, h1, h⟩ := h
    refine ⟨h0, Ms.lt hM (k := 47) rfl h1, ?_⟩
    rw [← mA_i hM (F := F) (k := 47) rfl] at h
    refine ⟨ma 50, (hM.2.1 50 rfl).1, ?_⟩
    refine ⟨(hM.2.1 50 rfl).2.1, ?_⟩
    obtain ⟨h0, h1, h⟩ := h
    refine ⟨h0, Ms.lt hM (k := 50) rfl h1, ?_⟩
    rw [← mA_i hM (F := F) (k := 50) rfl] at h
    exact hQ _ _ _ (Fr.i (k := 50) rfl (Fr.i (k := 47) rfl (Fr.i (k := 46) rfl (Fr.i (k := 44) rfl (Fr.i (k := 41) rfl (Fr.i (k := 40) rfl (Fr.i (k := 39) rfl (Fr.i (k := 25) rfl (Fr.i (k := 22) rfl (Fr.i (k := 38) rfl (Fr.i (k := 37) rfl (Fr.i (k := 36) rfl hF)))))))))))) h
  · have h := h.2 c145
    refine ⟨hM.1, ?_⟩
    refine T_X9_fails hM hF (fun z1 F3 hF4 h => ?_) h
    try dsimp only at h
    exact hQ _ _ _ hF4 h
set_option maxRecDepth 20000 in
set_option maxHeartbeats 4000000 in
theorem T_X9_form_140 {m : Nat} {ma : Nat → Nat} {S : Shp} {F0 : Fl} {I0 : Il}  {F : Fl} {I : Il} {x1 : Int} {x2 : Int} {x3 : Int} {Q : Int → Fl → Il → Prop} {Qw : Int → Il → Prop} (hM : Ms m ma S)  (hF : Fr m ma F0 I0 F I) (hQ : ∀ (z : Int) (F' : Fl) (I' : Il), Fr m ma F0 I0 F' I' → Qw z (mA ma m F' I') → Q z F' I') (h : W_X9_form_140 x1 x2 x3 (mA ma m F I) Qw) : V_X9_form_140 m x1 x2 x3 S F I Q := by
  unfold V_X9_form_140
  unfold W_X9_form_140 at h
  exact T_X9_form_141 hM  hF hQ h
set_option maxRecDepth 20000 in
set_option maxHeartbeats 4000000 in
theorem T_X9_form_63 {m : Nat} {ma : Nat → Nat} {S : Shp} {F0 : Fl} {I0 : Il}  {F : Fl} {I : Il} {x1 : Int} {x2 : Int} {x3 : Int} {Q : Int → Fl → Il → Prop} {Qw : Int → Il → Prop} (hM : Ms m ma S)  (hF : Fr m ma F0 I0 F I) (hQ : ∀ (z : Int) (F' : Fl) (I' : Il), Fr m ma F0 I0 F' I' → Qw z (mA ma m F' I') → Q z F' I') (h : W_X9_form_63 x1 x2 x3 (mA ma m F I) Qw) : V_X9_form_63 m x1 x2 x3 S F I Q := by
  unfold V_X9_form_63
  unfold W_X9_form_63 at h
  refine ⟨fun c66 => ?_, fun c66 => ?_⟩
  · have h := h.1 c66
    exact T_X9_form_140 hM  hF hQ h
  · have h := h.2 c66
    refine ⟨hM.1, ?_⟩
    refine ⟨ma 22, (hM.2.1 22 rfl).1, ?_⟩
    refine ⟨(hM.2.1 22 rfl).2.1, ?_⟩
    obtain ⟨h0, h1, h⟩ := h
    refine ⟨h0, Ms.lt hM (k := 22) rfl h1, ?_⟩
    refine ⟨fun c76 => ?_, fun c76 => ?_⟩
    · have h := h.1 c76
      exact T_X9_form_140 hM  hF hQ h
    · have h := h.2 c76
      refine ⟨ma 25, (hM.2.1 25 rfl).1, ?_⟩
      refine ⟨(hM.2.1 25 rfl).2.1, ?_⟩
      obtain ⟨h0, h1, h⟩ := h
      refine ⟨h0, Ms.lt hM (k := 25) rfl h1, ?_⟩
      refine ⟨fun c86 => ?_, fun c86 => ?_⟩
      · have h := h.1 c86
        exact T_X9_form_140 hM  hF hQ h
      · have h := h.2 c86
        refine ⟨ma 21, (hM.2.1 21 rfl).1, ?_⟩
        refine ⟨(hM.2.1 21 rfl).2.1, ?_⟩
        obtain ⟨h0, h1, h⟩ := h
        refine ⟨h0, Ms.lt hM (k := 21) rfl h1, ?_⟩
        refine ⟨ma 24, (hM.2.1 24 rfl).1, ?_⟩
        refine ⟨(hM.2.1 24 rfl).2.1, ?_⟩
        obtain ⟨h0, h1, h⟩ := h
        refine ⟨h0, Ms.lt hM (k := 24) rfl h1, ?_⟩
        refine ⟨fun c101 => ?_, fun c101 => ?_⟩
        · have h := h.1 c101
          exact T_X9_form_140 hM  hF hQ h
        · have h := h.2 c101
          refine T_X9_rests hM hF (fun z1 h => ?_) h
          try dsimp only at h
          refine ⟨fun c109 => ?_, fun c109 => ?_⟩
          · have h := h.1 c109
            exact T_X9_form_140 hM  hF hQ h
          · have h := h.2 c109
            obtain ⟨h0, h1, h⟩ := h
            refine ⟨h0, Ms.lt hM (k := 21) rfl h1, ?_⟩
            refine T_X9_taken hM hF (fun z2 h => ?_) h
            try dsimp only at h
            refine ⟨ma 5, (hM.2.1 5 rfl).1, ?_⟩
            obtain ⟨h0, h1, h⟩ := h
            refine ⟨h0, Ms.lt hM (k := 21) rfl h1, ?_⟩
            refine ⟨(hM.2.1 5 rfl).2.1, ?_⟩
            obtain ⟨h0, h1, h⟩ := h
            refine ⟨h0, Ms.lt hM (k := 5) rfl h1, ?_⟩
            refine ⟨fun c133 => ?_, fun c133 => ?_⟩
            · have h := h.1 c133
              exact T_X9_form_140 hM  hF hQ h
            · have h := h.2 c133
              exact T_X9_form_141 hM  hF hQ h
set_option maxRecDepth 20000 in
set_option maxHeartbeats 4000000 in
theorem T_X9_form_42 {m : Nat} {ma : Nat → Nat} {S : Shp} {F0 : Fl} {I0 : Il}   {Q : Int → Fl → Il → Prop} {Qw : Int → Il → Prop} (hM : Ms m ma S)  (hQ : ∀ (z : Int) (F' : Fl) (I' : Il), Fr m ma F0 I0 F' I' → Qw z (mA ma m F' I') → Q z F' I') (n9 : Nat) : ∀ (x1 : Int) (x2 : Int) (x3 : Int) (F : Fl) (I : Il), Fr m ma F0 I0 F I → W_X9_form_42 n9 x1 x2 x3 (mA ma m F I) Qw → V_X9_form_42 n9 m x1 x2 x3 S F I Q := by
  induction n9 with
  | zero => intro x1 x2 x3 F I hF h; exact h.elim
  | succ n ih =>
    intro x1 x2 x3 F I hF h
    unfold V_X9_form_42
    unfold W_X9_form_42 at h
    refine ⟨fun c45 => ?_, fun c45 => ?_⟩
    · have h := h.1 c45
      exact T_X9_form_63 hM  hF hQ h
    · have h := h.2 c45
      refine ⟨hM.1, ?_⟩
      refine ⟨ma 36, (hM.2.1 36 rfl).1, ?_⟩
      refine ⟨(hM.2.1 36 rfl).2.1, ?_⟩
      obtain ⟨h0, h1, h⟩ := h
      refine ⟨h0, Ms.lt hM (k := 36) rfl h1, ?_⟩
      refine ⟨fun c54 => ?_, fun c54 => ?_⟩
      · have h := h.1 c54
        exact T_X9_form_63 hM  hF hQ h
      · have h := h.2 c54
        exact ih _ _ _ _ _ hF h
set_option maxRecDepth 20000 in
set_option maxHeartbeats 4000000 in
theorem T_X9_form_28 {m : Nat} {ma : Nat → Nat} {S : Shp} {F0 : Fl} {I0 : Il}  {F : Fl} {I : Il} {x1 : Int} {x2 : Int} {s0 : Int} {Q : Int → Fl → Il → Prop} {Qw : Int → Il → Prop} (hM : Ms m ma S)  (hF : Fr m ma F0 I0 F I) (hQ : ∀ (z : Int) (F' : Fl) (I' : Il), Fr m ma F0 I0 F' I' → Qw z (mA ma m F' I') → Q z F' I') (h : W_X9_form_28 x1 x2 s0 (mA ma m F I) Qw) : V_X9_form_28 m x1 x2 s0 m S F I Q := by
  unfold V_X9_form_28
  unfold W_X9_form_28 at h
  refine ⟨hM.1, ?_⟩
  rw [← mA_f (ma := ma) (m := m) (I := I) (k := 0) rfl] at h
  refine ⟨hM.1, ?_⟩
  refine ⟨fun c35 => ?_, fun c35 => ?_⟩
  · have h := h.1 c35
    obtain ⟨n9, h⟩ := h
    exact ⟨n9, T_X9_form_42 hM  hQ n9 _ _ _ _ _ (Fr.f (k := 1000) (by decide) hF) h⟩
  · have h := h.2 c35
    exact hQ _ _ _ (Fr.f (k := 1000) (by decide) hF) h
set_option maxRecDepth 20000 in
set_option maxHeartbeats 4000000 in
theorem T_X9_form_27 {m : Nat} {ma : Nat → Nat} {S : Shp} {F0 : Fl} {I0 : Il}  {F : Fl} {I : Il} {x1 : Int} {x2 : Int} {Q : Int → Fl → Il → Prop} {Qw : Int → Il → Prop} (hM : Ms m ma S)  (hF : Fr m ma F0 I0 F I) (hQ : ∀ (z : Int) (F' : Fl) (I' : Il), Fr m ma F0 I0 F' I' → Qw z (mA ma m F' I') → Q z F' I') (h : W_X9_form_27 x1 x2 (mA ma m F I) Qw) : V_X9_form_27 m x1 x2 m S F I Q := by
  unfold V_X9_form_27
  unfold W_X9_form_27 at h
  exact T_X9_form_28 hM  hF hQ h
set_option maxRecDepth 20000 in
set_option maxHeartbeats 4000000 in
theorem T_X9_form {m : Nat} {ma : Nat → Nat} {S : Shp} {F0 : Fl} {I0 : Il}  {F : Fl} {I : Il} {x1 : Int} {x2 : Int} {Q : Int → Fl → Il → Prop} {Qw : Int → Il → Prop} (hM : Ms m ma S)  (hF : Fr m ma F0 I0 F I) (hQ : ∀ (z : Int) (F' : Fl) (I' : Il), Fr m ma F0 I0 F' I' → Qw z (mA ma m F' I') → Q z F' I') (h : W_X9_form x1 x2 (mA ma m F I) Qw) : V_X9_form m x1 x2 S F I Q := by
  unfold V_X9_form
  unfold W_X9_form at h
  refine ⟨hM.1, ?_⟩
  refine T_X9_in hM hF (fun z1 h => ?_) h
  try dsimp only at h
  refine ⟨fun c12 => ?_, fun c12 => ?_⟩
  · have h := h.1 c12
    exact T_X9_form_27 hM  hF hQ h
  · have h := h.2 c12
    refine T_X9_isCrew hM hF (fun z2 h => ?_) h
    try dsimp only at h
    refine ⟨fun c20 => ?_, fun c20 => ?_⟩
    · have h := h.1 c20
      exact T_X9_form_27 hM  hF hQ h
    · have h := h.2 c20
      exact T_X9_form_28 hM  hF hQ h
set_option maxRecDepth 20000 in
set_option maxHeartbeats 4000000 in
theorem T_X9_freeTracks_13 {m : Nat} {ma : Nat → Nat} {S : Shp} {F0 : Fl} {I0 : Il}  {F : Fl} {I : Il} {x1 : Int} {s0 : Int} {Q : Int → Fl → Prop} {Qw : Int → Il → Prop} (hM : Ms m ma S)  (hF : Fr m ma F0 I0 F I) (hQ : ∀ (z : Int) (F' : Fl), Fr m ma F0 I0 F' I → Qw z (mA ma m F' I) → Q z F') (h : W_X9_freeTracks_13 x1 s0 (mA ma m F I) Qw) : V_X9_freeTracks_13 m x1 s0 m S F I Q := by
  unfold V_X9_freeTracks_13
  unfold W_X9_freeTracks_13 at h
  refine ⟨hM.1, ?_⟩
  rw [← mA_f (ma := ma) (m := m) (I := I) (k := 0) rfl] at h
  refine ⟨hM.1, ?_⟩
  refine ⟨fun c20 => ?_, fun c20 => ?_⟩
  · have h := h.1 c20
    refine ⟨ma 5, (hM.2.1 5 rfl).1, ?_⟩
    refine ⟨(hM.2.1 5 rfl).2.1, ?_⟩
    obtain ⟨h0, h1, h⟩ := h
    refine ⟨h0, Ms.lt hM (k := 5) rfl h1, ?_⟩
    refine T_X9_taken hM (Fr.f (k := 1000) (by decide) hF) (fun z1 h => ?_) h
    try dsimp only at h
    exact hQ _ _ (Fr.f (k := 1000) (by decide) hF) h
  · have h := h.2 c20
    exact hQ _ _ (Fr.f (k := 1000) (by decide) hF) h
set_option maxRecDepth 20000 in
set_option maxHeartbeats 4000000 in
theorem T_X9_freeTracks {m : Nat} {ma : Nat → Nat} {S : Shp} {F0 : Fl} {I0 : Il}  {F : Fl} {I : Il} {x1 : Int} {Q : Int → Fl → Prop} {Qw : Int → Il → Prop} (hM : Ms m ma S)  (hF : Fr m ma F0 I0 F I) (hQ : ∀ (z : Int) (F' : Fl), Fr m ma F0 I0 F' I → Qw z (mA ma m F' I) → Q z F') (h : W_X9_freeTracks x1 (mA ma m F I) Qw) : V_X9_freeTracks m x1 S F I Q := by
  unfold V_X9_freeTracks
  unfold W_X9_freeTracks at h
  refine T_X9_isStation hM hF (fun z1 h => ?_) h
  try dsimp only at h
  refine ⟨fun c5 => ?_, fun c5 => ?_⟩
  · have h := h.1 c5
    exact T_X9_freeTracks_13 hM  hF hQ h
  · have h := h.2 c5
    exact T_X9_freeTracks_13 hM  hF hQ h
set_option maxRecDepth 20000 in
set_option maxHeartbeats 4000000 in
theorem T_X9_goal {m : Nat} {ma : Nat → Nat} {S : Shp} {F0 : Fl} {I0 : Il}  {F : Fl} {I : Il} {x1 : Int} {Q : Int → Prop} {Qw : Int → Prop} (hM : Ms m ma S)  (hF : Fr m ma F0 I0 F I) (hQ : ∀ (z : Int), Qw z → Q z ) (h : W_X9_goal x1 (mA ma m F I) Qw) : V_X9_goal m x1 S F I Q := by
  unfold V_X9_goal
  unfold W_X9_goal at h
  refine ⟨hM.1, ?_⟩
  refine ⟨ma 33, (hM.2.1 33 rfl).1, ?_⟩
  refine ⟨(hM.2.1 33 rfl).2.1, ?_⟩
  obtain ⟨h0, h1, h⟩ := h
  refine ⟨h0, Ms.lt hM (k := 33) rfl h1, ?_⟩
  refine ⟨fun c7 => ?_, fun c7 => ?_⟩
  · have h := h.1 c7
    refine ⟨ma 56, (hM.2.1 56 rfl).1, ?_⟩
    obtain ⟨h0, h1, h⟩ := h
    refine ⟨h0, Ms.lt hM (k := 33) rfl h1, ?_⟩
    refine ⟨(hM.2.1 56 rfl).2.1, ?_⟩
    obtain ⟨h0, h1, h⟩ := h
    refine ⟨h0, Ms.lt hM (k := 56) rfl h1, ?_⟩
    exact hQ _ h
  · have h := h.2 c7
    refine ⟨ma 30, (hM.2.1 30 rfl).1, ?_⟩
    refine ⟨(hM.2.1 30 rfl).2.1, ?_⟩
    obtain ⟨h0, h1, h⟩ := h
    refine ⟨h0, Ms.lt hM (k := 30) rfl h1, ?_⟩
    exact hQ _ h
set_option maxRecDepth 20000 in
set_option maxHeartbeats 4000000 in
theorem T_X9_holder_14 {m : Nat} {ma : Nat → Nat} {S : Shp} {F0 : Fl} {I0 : Il}  {F : Fl} {I : Il} {x1 : Int} {s0 : Int} {Q : Int → Fl → Prop} {Qw : Int → Il → Prop} (hM : Ms m ma S)  (hF : Fr m ma F0 I0 F I) (hQ : ∀ (z : Int) (F' : Fl), Fr m ma F0 I0 F' I → Qw z (mA ma m F' I) → Q z F') (h : W_X9_holder_14 x1 s0 (mA ma m F I) Qw) : V_X9_holder_14 m x1 s0 m S F I Q := by
  unfold V_X9_holder_14
  unfold W_X9_holder_14 at h
  refine ⟨hM.1, ?_⟩
  rw [← mA_f (ma := ma) (m := m) (I := I) (k := 0) rfl] at h
  refine ⟨hM.1, ?_⟩
  refine ⟨fun c21 => ?_, fun c21 => ?_⟩
  · have h := h.1 c21
    refine ⟨ma 17, (hM.2.1 17 rfl).1, ?_⟩
    refine ⟨(hM.2.1 17 rfl).2.1, ?_⟩
    obtain ⟨h0, h1, h⟩ := h
    refine ⟨h0, Ms.lt hM (k := 17) rfl h1, ?_⟩
    exact hQ _ _ (Fr.f (k := 1000) (by decide) hF) h
  · have h := h.2 c21
    exact hQ _ _ (Fr.f (k := 1000) (by decide) hF) h
set_option maxRecDepth 20000 in
set_option maxHeartbeats 4000000 in
theorem T_X9_holder {m : Nat} {ma : Nat → Nat} {S : Shp} {F0 : Fl} {I0 : Il}  {F : Fl} {I : Il} {x1 : Int} {Q : Int → Fl → Prop} {Qw : Int → Il → Prop} (hM : Ms m ma S)  (hF : Fr m ma F0 I0 F I) (hQ : ∀ (z : Int) (F' : Fl), Fr m ma F0 I0 F' I → Qw z (mA ma m F' I) → Q z F') (h : W_X9_holder x1 (mA ma m F I) Qw) : V_X9_holder m x1 S F I Q := by
  unfold V_X9_holder
  unfold W_X9_holder at h
  refine ⟨hM.1, ?_⟩
  refine T_X9_isBlock hM hF (fun z1 h => ?_) h
  try dsimp only at h
  refine ⟨fun c6 => ?_, fun c6 => ?_⟩
  · have h := h.1 c6
    exact T_X9_holder_14 hM  hF hQ h
  · have h := h.2 c6
    exact T_X9_holder_14 hM  hF hQ h
set_option maxRecDepth 20000 in
set_option maxHeartbeats 4000000 in
theorem T_X9_holderByTrains {m : Nat} {ma : Nat → Nat} {S : Shp} {F0 : Fl} {I0 : Il}  {F : Fl} {I : Il} {x1 : Int} {Q : Int → Fl → Prop} {Qw : Int → Il → Prop} (hM : Ms m ma S)  (hF : Fr m ma F0 I0 F I) (hQ : ∀ (z : Int) (F' : Fl), Fr m ma F0 I0 F' I → Qw z (mA ma m F' I) → Q z F') (h : W_X9_holderByTrains x1 (mA ma m F I) Qw) : V_X9_holderByTrains m x1 S F I Q := by
  unfold V_X9_holderByTrains
  unfold W_X9_holderByTrains at h
  refine ⟨hM.1, ?_⟩
  refine T_X9_holder hM hF (fun z1 F3 hF4 h => ?_) h
  try dsimp only at h
  exact hQ _ _ hF4 h
set_option maxRecDepth 20000 in
set_option maxHeartbeats 4000000 in
theorem T_X9_homeward_374 {m : Nat} {ma : Nat → Nat} {S : Shp} {F0 : Fl} {I0 : Il} {kv292 : Nat → Int → Int → Int → Fl → Il → Prop} {k292 : Int → Int → Int → Il → Prop} {F : Fl} {I : Il} {x2 : Int} {x4 : Int} {s0 : Int} {Q : Int → Fl → Il → Prop} {Qw : Int → Il → Prop} (hM : Ms m ma S) (hk292 : ∀ (x2 : Int) (x3 : Int) (x4 : Int) (F' : Fl) (I' : Il), Fr m ma F0 I0 F' I' → k292 x2 x3 x4 (mA ma m F' I') → kv292 m x2 x3 x4 F' I') (hF : Fr m ma F0 I0 F I) (hQ : ∀ (z : Int) (F' : Fl) (I' : Il), Fr m ma F0 I0 F' I' → Qw z (mA ma m F' I') → Q z F' I') (h : W_X9_homeward_374 k292 x2 x4 s0 (mA ma m F I) Qw) : V_X9_homeward_374 kv292 m x2 x4 s0 S F I Q := by
  unfold V_X9_homeward_374
  unfold W_X9_homeward_374 at h
  exact hk292 _ _ _ _ _ hF h
set_option maxRecDepth 20000 in
set_option maxHeartbeats 4000000 in
theorem T_X9_homeward_373 {m : Nat} {ma : Nat → Nat} {S : Shp} {F0 : Fl} {I0 : Il} {kv292 : Nat → Int → Int → Int → Fl → Il → Prop} {k292 : Int → Int → Int → Il → Prop} {F : Fl} {I : Il} {x2 : Int} {x3 : Int} {x4 : Int} {Q : Int → Fl → Il → Prop} {Qw : Int → Il → Prop} (hM : Ms m ma S) (hk292 : ∀ (x2 : Int) (x3 : Int) (x4 : Int) (F' : Fl) (I' : Il), Fr m ma F0 I0 F' I' → k292 x2 x3 x4 (mA ma m F' I') → kv292 m x2 x3 x4 F' I') (hF : Fr m ma F0 I0 F I) (hQ : ∀ (z : Int) (F' : Fl) (I' : Il), Fr m ma F0 I0 F' I' → Qw z (mA ma m F' I') → Q z F' I') (h : W_X9_homeward_373 k292 x2 x3 x4 (mA ma m F I) Qw) : V_X9_homeward_373 kv292 m x2 x3 x4 S F I Q := by
  unfold V_X9_homeward_373
  unfold W_X9_homeward_373 at h
  exact T_X9_homeward_374 hM hk292 hF hQ h
set_option maxRecDepth 20000 in
set_option maxHeartbeats 4000000 in
theorem T_X9_homeward_292 {m : Nat} {ma : Nat → Nat} {S : Shp} {F0 : Fl} {I0 : Il}   {Q : Int → Fl → Il → Prop} {Qw : Int → Il → Prop} (hM : Ms m ma S)  (hQ : ∀ (z : Int) (F' : Fl) (I' : Il), Fr m ma F0 I0 F' I' → Qw z (mA ma m F' I') → Q z F' I') (n9 : Nat) : ∀ (x2 : Int) (x3 : Int) (x4 : Int) (F : Fl) (I : Il), Fr m ma F0 I0 F I → W_X9_homeward_292 n9 x2 x3 x4 (mA ma m F I) Qw → V_X9_homeward_292 n9 m x2 x3 x4 S F I Q := by
  induction n9 with
  | zero => intro x2 x3 x4 F I hF h; exact h.elim
  | succ n ih =>
    intro x2 x3 x4 F I hF h
    unfold V_X9_homeward_292
    unfold W_X9_homeward_292 at h
    refine ⟨fun c294 => ?_, fun c294 => ?_⟩
    · have h := h.1 c294
      exact hQ _ _ _ hF h
    · have h := h.2 c294
      refine ⟨hM.1, ?_⟩
      refine T_X9_other hM hF (fun z1 h => ?_) h
      try dsimp only at h
      refine ⟨fun c309 => ?_, fun c309 => ?_⟩
      · have h := h.1 c309
        exact T_X9_homeward_373 hM (fun y0 y1 y2 F' I' hF9 h9 => ih y0 y1 y2 F' I' hF9 h9) hF hQ h
      · have h := h.2 c309
        refine ⟨ma 17, (hM.2.1 17 rfl).1, ?_⟩
        refine ⟨(hM.2.1 17 rfl).2.1, ?_⟩
        obtain ⟨h0, h1, h⟩ := h
        refine ⟨h0, Ms.lt hM (k := 17) rfl h1, ?_⟩
        refine ⟨fun c320 => ?_, fun c320 => ?_⟩
        · have h := h.1 c320
          exact T_X9_homeward_373 hM (fun y0 y1 y2 F' I' hF9 h9 => ih y0 y1 y2 F' I' hF9 h9) hF hQ h
        · have h := h.2 c320
          refine T_X9_isClosed hM hF (fun z2 h => ?_) h
          try dsimp only at h
          refine ⟨fun c329 => ?_, fun c329 => ?_⟩
          · have h := h.1 c329
            exact T_X9_homeward_373 hM (fun y0 y1 y2 F' I' hF9 h9 => ih y0 y1 y2 F' I' hF9 h9) hF hQ h
          · have h := h.2 c329
            refine ⟨ma 63, (hM.2.1 63 rfl).1, ?_⟩
            refine ⟨(hM.2.1 63 rfl).2.1, ?_⟩
            obtain ⟨h0, h1, h⟩ := h
            refine ⟨h0, Ms.lt hM (k := 63) rfl h1, ?_⟩
            refine ⟨fun c341 => ?_, fun c341 => ?_⟩
            · have h := h.1 c341
              exact T_X9_homeward_373 hM (fun y0 y1 y2 F' I' hF9 h9 => ih y0 y1 y2 F' I' hF9 h9) hF hQ h
            · have h := h.2 c341
              obtain ⟨h0, h1, h⟩ := h
              refine ⟨h0, Ms.lt hM (k := 63) rfl h1, ?_⟩
              refine ⟨ma 8, (hM.2.1 8 rfl).1, ?_⟩
              refine ⟨(hM.2.1 8 rfl).2.1, ?_⟩
              obtain ⟨h0, h1, h⟩ := h
              refine ⟨h0, Ms.lt hM (k := 8) rfl h1, ?_⟩
              obtain ⟨h0, h1, h⟩ := h
              refine ⟨h0, Ms.lt hM (k := 63) rfl h1, ?_⟩
              refine ⟨fun c365 => ?_, fun c365 => ?_⟩
              · have h := h.1 c365
                exact T_X9_homeward_373 hM (fun y0 y1 y2 F' I' hF9 h9 => ih y0 y1 y2 F' I' hF9 h9) hF hQ h
              · have h := h.2 c365
                exact T_X9_homeward_374 hM (fun y0 y1 y2 F' I' hF9 h9 => ih y0 y1 y2 F' I' hF9 h9) hF hQ h
set_option maxRecDepth 20000 in
set_option maxHeartbeats 4000000 in
theorem T_X9_homeward_270 {m : Nat} {ma : Nat → Nat} {S : Shp} {F0 : Fl} {I0 : Il} {kv94 : Nat → Int → Int → Fl → Il → Prop} {k94 : Int → Int → Il → Prop} {kv103 : Nat → Int → Int → Int → Fl → Il → Prop} {k103 : Int → Int → Int → Il → Prop} {F : Fl} {I : Il} {x2 : Int} {x3 : Int} {x4 : Int} {Q : Int → Fl → Il → Prop} {Qw : Int → Il → Prop} (hM : Ms m ma S) (hk94 : ∀ (x2 : Int) (x3 : Int) (F' : Fl) (I' : Il), Fr m ma F0 I0 F' I' → k94 x2 x3 (mA ma m F' I') → kv94 m x2 x3 F' I') (hk103 : ∀ (x2 : Int) (x3 : Int) (x4 : Int) (F' : Fl) (I' : Il), Fr m ma F0 I0 F' I' → k103 x2 x3 x4 (mA ma m F' I') → kv103 m x2 x3 x4 F' I') (hF : Fr m ma F0 I0 F I) (hQ : ∀ (z : Int) (F' : Fl) (I' : Il), Fr m ma F0 I0 F' I' → Qw z (mA ma m F' I') → Q z F' I') (h : W_X9_homeward_270 k94 k103 x2 x3 x4 (mA ma m F I) Qw) : V_X9_homeward_270 kv94 kv103 m x2 x3 x4 S F I Q := by
  unfold V_X9_homeward_270
  unfold W_X9_homeward_270 at h
  exact hk103 _ _ _ _ _ hF h
set_option maxRecDepth 20000 in
set_option maxHeartbeats 4000000 in
theorem T_X9_homeward_269 {m : Nat} {ma : Nat → Nat} {S : Shp} {F0 : Fl} {I0 : Il} {kv94 : Nat → Int → Int → Fl → Il → Prop} {k94 : Int → Int → Il → Prop} {kv103 : Nat → Int → Int → Int → Fl → Il → Prop} {k103 : Int → Int → Int → Il → Prop} {F : Fl} {I : Il} {x2 : Int} {x3 : Int} {x4 : Int} {s0 : Int} {s1 : Int} {Q : Int → Fl → Il → Prop} {Qw : Int → Il → Prop} (hM : Ms m ma S) (hk94 : ∀ (x2 : Int) (x3 : Int) (F' : Fl) (I' : Il), Fr m ma F0 I0 F' I' → k94 x2 x3 (mA ma m F' I') → kv94 m x2 x3 F' I') (hk103 : ∀ (x2 : Int) (x3 : Int) (x4 : Int) (F' : Fl) (I' : Il), Fr m ma F0 I0 F' I' → k103 x2 x3 x4 (mA ma m F' I') → kv103 m x2 x3 x4 F' I') (hF : Fr m ma F0 I0 F I) (hQ : ∀ (z : Int) (F' : Fl) (I' : Il), Fr m ma F0 I0 F' I' → Qw z (mA ma m F' I') → Q z F' I') (h : W_X9_homeward_269 k94 k103 x2 x3 x4 s0 s1 (mA ma m F I) Qw) : V_X9_homeward_269 kv94 kv103 m x2 x3 x4 s0 s1 (ma 63) S F I Q := by
  unfold V_X9_homeward_269
  unfold W_X9_homeward_269 at h
  refine ⟨(hM.2.1 63 rfl).2.1, ?_⟩
  obtain ⟨h0, h1, h⟩ := h
  refine ⟨h0, Ms.lt hM (k := 63) rfl h1, ?_⟩
  rw [← mA_i hM (F := F) (k := 63) rfl] at h
  exact T_X9_homeward_270 hM hk94 hk103 (Fr.i (k := 63) rfl hF) hQ h
set_option maxRecDepth 20000 in
set_option maxHeartbeats 4000000 in
theorem T_X9_homeward_212 {m : Nat} {ma : Nat → Nat} {S : Shp} {F0 : Fl} {I0 : Il} {kv94 : Nat → Int → Int → Fl → Il → Prop} {k94 : Int → Int → Il → Prop} {kv103 : Nat → Int → Int → Int → Fl → Il → Prop} {k103 : Int → Int → Int → Il → Prop} {F : Fl} {I : Il} {x2 : Int} {x3 : Int} {x4 : Int} {x5 : Int} {x6 : Int} {s0 : Int} {s1 : Int} {Q : Int → Fl → Il → Prop} {Qw : Int → Il → Prop} (hM : Ms m ma S) (hk94 : ∀ (x2 : Int) (x3 : Int) (F' : Fl) (I' : Il), Fr m ma F0 I0 F' I' → k94 x2 x3 (mA ma m F' I') → kv94 m x2 x3 F' I') (hk103 : ∀ (x2 : Int) (x3 : Int) (x4 : Int) (F' : Fl) (I' : Il), Fr m ma F0 I0 F' I' → k103 x2 x3 x4 (mA ma m F' I') → kv103 m x2 x3 x4 F' I') (hF : Fr m ma F0 I0 F I) (hQ : ∀ (z : Int) (F' : Fl) (I' : Il), Fr m ma F0 I0 F' I' → Qw z (mA ma m F' I') → Q z F' I') (h : W_X9_homeward_212 k94 k103 x2 x3 x4 x5 x6 s0 s1 (mA ma m F I) Qw) : V_X9_homeward_212 kv94 kv103 m x2 x3 x4 x5 x6 s0 s1 (ma 63) S F I Q := by
  unfold V_X9_homeward_212
  unfold W_X9_homeward_212 at h
  refine ⟨(hM.2.1 63 rfl).2.1, ?_⟩
  obtain ⟨h0, h1, h⟩ := h
  refine ⟨h0, Ms.lt hM (k := 63) rfl h1, ?_⟩
  rw [← mA_i hM (F := F) (k := 63) rfl] at h
  refine ⟨hM.1, ?_⟩
  refine ⟨ma 63, (hM.2.1 63 rfl).1, ?_⟩
  refine ⟨(hM.2.1 63 rfl).2.1, ?_⟩
  obtain ⟨h0, h1, h⟩ := h
  refine ⟨h0, Ms.lt hM (k := 63) rfl h1, ?_⟩
  refine ⟨ma 8, (hM.2.1 8 rfl).1, ?_⟩
  refine ⟨(hM.2.1 8 rfl).2.1, ?_⟩
  obtain ⟨h0, h1, h⟩ := h
  refine ⟨h0, Ms.lt hM (k := 8) rfl h1, ?_⟩
  obtain ⟨h0, h1, h⟩ := h
  refine ⟨h0, Ms.lt hM (k := 63) rfl h1, ?_⟩
  refine ⟨fun c241 => ?_, fun c241 => ?_⟩
  · have h := h.1 c241
    obtain ⟨h0, h1, h⟩ := h
    refine ⟨h0, Ms.lt hM (k := 63) rfl h1, ?_⟩
    exact T_X9_homeward_269 hM hk94 hk103 (Fr.i (k := 63) rfl hF) hQ h
  · have h := h.2 c241
    obtain ⟨h0, h1, h⟩ := h
    refine ⟨h0, Ms.lt hM (k := 63) rfl h1, ?_⟩
    obtain ⟨h0, h1, h⟩ := h
    refine ⟨h0, Ms.lt hM (k := 8) rfl h1, ?_⟩
    exact T_X9_homeward_269 hM hk94 hk103 (Fr.i (k := 63) rfl hF) hQ h
set_option maxRecDepth 20000 in
set_option maxHeartbeats 4000000 in
theorem T_X9_homeward_103 {m : Nat} {ma : Nat → Nat} {S : Shp} {F0 : Fl} {I0 : Il} {kv94 : Nat → Int → Int → Fl → Il → Prop} {k94 : Int → Int → Il → Prop}  {Q : Int → Fl → Il → Prop} {Qw : Int → Il → Prop} (hM : Ms m ma S) (hk94 : ∀ (x2 : Int) (x3 : Int) (F' : Fl) (I' : Il), Fr m ma F0 I0 F' I' → k94 x2 x3 (mA ma m F' I') → kv94 m x2 x3 F' I') (hQ : ∀ (z : Int) (F' : Fl) (I' : Il), Fr m ma F0 I0 F' I' → Qw z (mA ma m F' I') → Q z F' I') (n9 : Nat) : ∀ (x2 : Int) (x3 : Int) (x4 : Int) (F : Fl) (I : Il), Fr m ma F0 I0 F I → W_X9_homeward_103 n9 k94 x2 x3 x4 (mA ma m F I) Qw → V_X9_homeward_103 n9 kv94 m x2 x3 x4 S F I Q := by
  induction n9 with
  | zero => intro x2 x3 x4 F I hF h; exact h.elim
  | succ n ih =>
    intro x2 x3 x4 F I hF h
    unfold V_X9_homeward_103
    unfold W_X9_homeward_103 at h
    refine ⟨hM.1, ?_⟩
    refine ⟨fun c109 => ?_, fun c109 => ?_⟩
    · have h := h.1 c109
      exact hk94 _ _ _ _ hF h
    · have h := h.2 c109
      refine ⟨ma 17, (hM.2.1 17 rfl).1, ?_⟩
      refine ⟨(hM.2.1 17 rfl).2.1, ?_⟩
      obtain ⟨h0, h1, h⟩ := h
      refine ⟨h0, Ms.lt hM (k := 17) rfl h1, ?_⟩
      refine ⟨fun c120 => ?_, fun c120 => ?_⟩
      · have h := h.1 c120
        exact T_X9_homeward_270 hM hk94 (fun y0 y1 y2 F' I' hF9 h9 => ih y0 y1 y2 F' I' hF9 h9) hF hQ h
      · have h := h.2 c120
        refine T_X9_isClosed hM hF (fun z1 h => ?_) h
        try dsimp only at h
        refine ⟨fun c129 => ?_, fun c129 => ?_⟩
        · have h := h.1 c129
          exact T_X9_homeward_270 hM hk94 (fun y0 y1 y2 F' I' hF9 h9 => ih y0 y1 y2 F' I' hF9 h9) hF hQ h
        · have h := h.2 c129
          refine ⟨ma 7, (hM.2.1 7 rfl).1, ?_⟩
          refine ⟨(hM.2.1 7 rfl).2.1, ?_⟩
          obtain ⟨h0, h1, h⟩ := h
          refine ⟨h0, Ms.lt hM (k := 7) rfl h1, ?_⟩
          obtain ⟨h0, h1, h⟩ := h
          refine ⟨h0, Ms.lt hM (k := 7) rfl h1, ?_⟩
          refine ⟨ma 63, (hM.2.1 63 rfl).1, ?_⟩
          refine ⟨(hM.2.1 63 rfl).2.1, ?_⟩
          obtain ⟨h0, h1, h⟩ := h
          refine ⟨h0, Ms.lt hM (k := 63) rfl h1, ?_⟩
          refine ⟨ma 8, (hM.2.1 8 rfl).1, ?_⟩
          refine ⟨(hM.2.1 8 rfl).2.1, ?_⟩
          obtain ⟨h0, h1, h⟩ := h
          refine ⟨h0, Ms.lt hM (k := 8) rfl h1, ?_⟩
          obtain ⟨h0, h1, h⟩ := h
          refine ⟨h0, Ms.lt hM (k := 63) rfl h1, ?_⟩
          refine ⟨fun c184 => ?_, fun c184 => ?_⟩
          · have h := h.1 c184
            obtain ⟨h0, h1, h⟩ := h
            refine ⟨h0, Ms.lt hM (k := 63) rfl h1, ?_⟩
            exact T_X9_homeward_212 hM hk94 (fun y0 y1 y2 F' I' hF9 h9 => ih y0 y1 y2 F' I' hF9 h9) hF hQ h
          · have h := h.2 c184
            obtain ⟨h0, h1, h⟩ := h
            refine ⟨h0, Ms.lt hM (k := 63) rfl h1, ?_⟩
            obtain ⟨h0, h1, h⟩ := h
            refine ⟨h0, Ms.lt hM (k := 8) rfl h1, ?_⟩
            exact T_X9_homeward_212 hM hk94 (fun y0 y1 y2 F' I' hF9 h9 => ih y0 y1 y2 F' I' hF9 h9) hF hQ h
set_option maxRecDepth 20000 in
set_option maxHeartbeats 4000000 in
theorem T_X9_homeward_94 {m : Nat} {ma : Nat → Nat} {S : Shp} {F0 : Fl} {I0 : Il}   {Q : Int → Fl → Il → Prop} {Qw : Int → Il → Prop} (hM : Ms m ma S)  (hQ : ∀ (z : Int) (F' : Fl) (I' : Il), Fr m ma F0 I0 F' I' → Qw z (mA ma m F' I') → Q z F' I') (n9 : Nat) : ∀ (x2 : Int) (x3 : Int) (F : Fl) (I : Il), Fr m ma F0 I0 F I → W_X9_homeward_94 n9 x2 x3 (mA ma m F I) Qw → V_X9_homeward_94 n9 m x2 x3 S F I Q := by
  induction n9 with
  | zero => intro x2 x3 F I hF h; exact h.elim
  | succ n ih =>
    intro x2 x3 F I hF h
    unfold V_X9_homeward_94
    unfold W_X9_homeward_94 at h
    refine ⟨fun c97 => ?_, fun c97 => ?_⟩
    · have h := h.1 c97
      refine ⟨hM.1, ?_⟩
      obtain ⟨n9, h⟩ := h
      exact ⟨n9, T_X9_homeward_292 hM  hQ n9 _ _ _ _ _ hF h⟩
    · have h := h.2 c97
      obtain ⟨n9, h⟩ := h
      exact ⟨n9, T_X9_homeward_103 hM (fun y0 y1 F' I' hF9 h9 => ih y0 y1 F' I' hF9 h9) hQ n9 _ _ _ _ _ hF h⟩
set_option maxRecDepth 20000 in
set_option maxHeartbeats 4000000 in
theorem T_X9_homeward_85 {m : Nat} {ma : Nat → Nat} {S : Shp} {F0 : Fl} {I0 : Il} {kv57 : Nat → Int → Int → Int → Fl → Il → Prop} {k57 : Int → Int → Int → Il → Prop} {F : Fl} {I : Il} {x1 : Int} {x2 : Int} {x3 : Int} {s0 : Int} {s1 : Int} {Q : Int → Fl → Il → Prop} {Qw : Int → Il → Prop} (hM : Ms m ma S) (hk57 : ∀ (x1 : Int) (x2 : Int) (x3 : Int) (F' : Fl) (I' : Il), Fr m ma F0 I0 F' I' → k57 x1 x2 x3 (mA ma m F' I') → kv57 m x1 x2 x3 F' I') (hF : Fr m ma F0 I0 F I) (hQ : ∀ (z : Int) (F' : Fl) (I' : Il), Fr m ma F0 I0 F' I' → Qw z (mA ma m F' I') → Q z F' I') (h : W_X9_homeward_85 k57 x1 x2 x3 s0 s1 (mA ma m F I) Qw) : V_X9_homeward_85 kv57 m x1 x2 x3 s0 s1 (ma 63) S F I Q := by
  unfold V_X9_homeward_85
  unfold W_X9_homeward_85 at h
  refine ⟨(hM.2.1 63 rfl).2.1, ?_⟩
  obtain ⟨h0, h1, h⟩ := h
  refine ⟨h0, Ms.lt hM (k := 63) rfl h1, ?_⟩
  rw [← mA_i hM (F := F) (k := 63) rfl] at h
  exact hk57 _ _ _ _ _ (Fr.i (k := 63) rfl hF) h
set_option maxRecDepth 20000 in
set_option maxHeartbeats 4000000 in
theorem T_X9_homeward_57 {m : Nat} {ma : Nat → Nat} {S : Shp} {F0 : Fl} {I0 : Il}   {Q : Int → Fl → Il → Prop} {Qw : Int → Il → Prop} (hM : Ms m ma S)  (hQ : ∀ (z : Int) (F' : Fl) (I' : Il), Fr m ma F0 I0 F' I' → Qw z (mA ma m F' I') → Q z F' I') (n9 : Nat) : ∀ (x1 : Int) (x2 : Int) (x3 : Int) (F : Fl) (I : Il), Fr m ma F0 I0 F I → W_X9_homeward_57 n9 x1 x2 x3 (mA ma m F I) Qw → V_X9_homeward_57 n9 m x1 x2 x3 S F I Q := by
  induction n9 with
  | zero => intro x1 x2 x3 F I hF h; exact h.elim
  | succ n ih =>
    intro x1 x2 x3 F I hF h
    unfold V_X9_homeward_57
    unfold W_X9_homeward_57 at h
    refine ⟨fun c60 => ?_, fun c60 => ?_⟩
    · have h := h.1 c60
      obtain ⟨n9, h⟩ := h
      exact ⟨n9, T_X9_homeward_94 hM  hQ n9 _ _ _ _ hF h⟩
    · have h := h.2 c60
      refine ⟨hM.1, ?_⟩
      refine ⟨ma 63, (hM.2.1 63 rfl).1, ?_⟩
      refine ⟨ma 30, (hM.2.1 30 rfl).1, ?_⟩
      refine ⟨(hM.2.1 30 rfl).2.1, ?_⟩
      obtain ⟨h0, h1, h⟩ := h
      refine ⟨h0, Ms.lt hM (k := 30) rfl h1, ?_⟩
      refine ⟨fun c75 => ?_, fun c75 => ?_⟩
      · have h := h.1 c75
        exact T_X9_homeward_85 hM (fun y0 y1 y2 F' I' hF9 h9 => ih y0 y1 y2 F' I' hF9 h9) hF hQ h
      · have h := h.2 c75
        exact T_X9_homeward_85 hM (fun y0 y1 y2 F' I' hF9 h9 => ih y0 y1 y2 F' I' hF9 h9) hF hQ h
set_option maxRecDepth 20000 in
set_option maxHeartbeats 4000000 in
theorem T_X9_homeward_14 {m : Nat} {ma : Nat → Nat} {S : Shp} {F0 : Fl} {I0 : Il}  {F : Fl} {I : Il} {x1 : Int} {s0 : Int} {Q : Int → Fl → Il → Prop} {Qw : Int → Il → Prop} (hM : Ms m ma S)  (hF : Fr m ma F0 I0 F I) (hQ : ∀ (z : Int) (F' : Fl) (I' : Il), Fr m ma F0 I0 F' I' → Qw z (mA ma m F' I') → Q z F' I') (h : W_X9_homeward_14 x1 s0 (mA ma m F I) Qw) : V_X9_homeward_14 m x1 s0 m S F I Q := by
  unfold V_X9_homeward_14
  unfold W_X9_homeward_14 at h
  refine ⟨hM.1, ?_⟩
  rw [← mA_f (ma := ma) (m := m) (I := I) (k := 0) rfl] at h
  refine ⟨hM.1, ?_⟩
  refine ⟨fun c21 => ?_, fun c21 => ?_⟩
  · have h := h.1 c21
    refine ⟨ma 31, (hM.2.1 31 rfl).1, ?_⟩
    refine ⟨(hM.2.1 31 rfl).2.1, ?_⟩
    obtain ⟨h0, h1, h⟩ := h
    refine ⟨h0, Ms.lt hM (k := 31) rfl h1, ?_⟩
    refine ⟨ma 32, (hM.2.1 32 rfl).1, ?_⟩
    refine ⟨(hM.2.1 32 rfl).2.1, ?_⟩
    obtain ⟨h0, h1, h⟩ := h
    refine ⟨h0, Ms.lt hM (k := 32) rfl h1, ?_⟩
    refine ⟨fun c40 => ?_, fun c40 => ?_⟩
    · have h := h.1 c40
      exact hQ _ _ _ (Fr.f (k := 1000) (by decide) hF) h
    · have h := h.2 c40
      refine ⟨ma 30, (hM.2.1 30 rfl).1, ?_⟩
      refine ⟨(hM.2.1 30 rfl).2.1, ?_⟩
      obtain ⟨h0, h1, h⟩ := h
      refine ⟨h0, Ms.lt hM (k := 30) rfl h1, ?_⟩
      refine ⟨fun c50 => ?_, fun c50 => ?_⟩
      · have h := h.1 c50
        obtain ⟨n9, h⟩ := h
        exact ⟨n9, T_X9_homeward_57 hM  hQ n9 _ _ _ _ _ (Fr.f (k := 1000) (by decide) hF) h⟩
      · have h := h.2 c50
        exact hQ _ _ _ (Fr.f (k := 1000) (by decide) hF) h
  · have h := h.2 c21
    exact hQ _ _ _ (Fr.f (k := 1000) (by decide) hF) h
set_option maxRecDepth 20000 in
set_option maxHeartbeats 4000000 in
theorem T_X9_homeward {m : Nat} {ma : Nat → Nat} {S : Shp} {F0 : Fl} {I0 : Il}  {F : Fl} {I : Il} {x1 : Int} {Q : Int → Fl → Il → Prop} {Qw : Int → Il → Prop} (hM : Ms m ma S)  (hF : Fr m ma F0 I0 F I) (hQ : ∀ (z : Int) (F' : Fl) (I' : Il), Fr m ma F0 I0 F' I' → Qw z (mA ma m F' I') → Q z F' I') (h : W_X9_homeward x1 (mA ma m F I) Qw) : V_X9_homeward m x1 S F I Q := by
  unfold V_X9_homeward
  unfold W_X9_homeward at h
  refine ⟨hM.1, ?_⟩
  refine T_X9_isCar hM hF (fun z1 h => ?_) h
  try dsimp only at h
  refine ⟨fun c6 => ?_, fun c6 => ?_⟩
  · have h := h.1 c6
    exact T_X9_homeward_14 hM  hF hQ h
  · have h := h.2 c6
    exact T_X9_homeward_14 hM  hF hQ h
set_option maxRecDepth 20000 in
set_option maxHeartbeats 4000000 in
theorem T_X9_hours_40 {m : Nat} {ma : Nat → Nat} {S : Shp} {F0 : Fl} {I0 : Il}  {F : Fl} {I : Il} {x1 : Int} {x2 : Int} {x3 : Int} {s0 : Int} {Q : Fl → Il → Prop} {Qw : Il → Prop} (hM : Ms m ma S)  (hF : Fr m ma F0 I0 F I) (hQ : ∀ (F' : Fl) (I' : Il), Fr m ma F0 I0 F' I' → Qw  (mA ma m F' I') → Q  F' I') (h : W_X9_hours_40 x1 x2 x3 s0 (mA ma m F I) Qw) : V_X9_hours_40 m x1 x2 x3 s0 m S F I Q := by
  unfold V_X9_hours_40
  unfold W_X9_hours_40 at h
  refine ⟨hM.1, ?_⟩
  rw [← mA_f (ma := ma) (m := m) (I := I) (k := 0) rfl] at h
  refine ⟨hM.1, ?_⟩
  refine ⟨fun c47 => ?_, fun c47 => ?_⟩
  · have h := h.1 c47
    exact hQ _ _ (Fr.f (k := 1000) (by decide) hF) h
  · have h := h.2 c47
    refine ⟨ma 15, (hM.2.1 15 rfl).1, ?_⟩
    refine ⟨(hM.2.1 15 rfl).2.1, ?_⟩
    obtain ⟨h0, h1, h⟩ := h
    refine ⟨h0, Ms.lt hM (k := 15) rfl h1, ?_⟩
    rw [← mA_i hM (F := (u2 F 1000 m _)) (k := 15) rfl] at h
    refine ⟨ma 16, (hM.2.1 16 rfl).1, ?_⟩
    refine ⟨(hM.2.1 16 rfl).2.1, ?_⟩
    obtain ⟨h0, h1, h⟩ := h
    refine ⟨h0, Ms.lt hM (k := 16) rfl h1, ?_⟩
    rw [← mA_i hM (F := (u2 F 1000 m _)) (k := 16) rfl] at h
    exact hQ _ _ (Fr.i (k := 16) rfl (Fr.i (k := 15) rfl (Fr.f (k := 1000) (by decide) hF))) h
set_option maxRecDepth 20000 in
set_option maxHeartbeats 4000000 in
theorem T_X9_hours_35 {m : Nat} {ma : Nat → Nat} {S : Shp} {F0 : Fl} {I0 : Il}  {F : Fl} {I : Il} {x1 : Int} {x2 : Int} {x3 : Int} {Q : Fl → Il → Prop} {Qw : Il → Prop} (hM : Ms m ma S)  (hF : Fr m ma F0 I0 F I) (hQ : ∀ (F' : Fl) (I' : Il), Fr m ma F0 I0 F' I' → Qw  (mA ma m F' I') → Q  F' I') (h : W_X9_hours_35 x1 x2 x3 (mA ma m F I) Qw) : V_X9_hours_35 m x1 x2 x3 m S F I Q := by
  unfold V_X9_hours_35
  unfold W_X9_hours_35 at h
  exact T_X9_hours_40 hM  hF hQ h
set_option maxRecDepth 20000 in
set_option maxHeartbeats 4000000 in
theorem T_X9_hours {m : Nat} {ma : Nat → Nat} {S : Shp} {F0 : Fl} {I0 : Il}  {F : Fl} {I : Il} {x1 : Int} {x2 : Int} {x3 : Int} {Q : Fl → Il → Prop} {Qw : Il → Prop} (hM : Ms m ma S)  (hF : Fr m ma F0 I0 F I) (hQ : ∀ (F' : Fl) (I' : Il), Fr m ma F0 I0 F' I' → Qw  (mA ma m F' I') → Q  F' I') (h : W_X9_hours x1 x2 x3 (mA ma m F I) Qw) : V_X9_hours m x1 x2 x3 S F I Q := by
  unfold V_X9_hours
  unfold W_X9_hours at h
  refine ⟨hM.1, ?_⟩
  refine T_X9_isBlock hM hF (fun z1 h => ?_) h
  try dsimp only at h
  refine ⟨fun c6 => ?_, fun c6 => ?_⟩
  · have h := h.1 c6
    refine T_X9_in hM hF (fun z2 h => ?_) h
    try dsimp only at h
    refine ⟨fun c21 => ?_, fun c21 => ?_⟩
    · have h := h.1 c21
      exact T_X9_hours_35 hM  hF hQ h
    · have h := h.2 c21
      refine T_X9_in hM hF (fun z3 h => ?_) h
      try dsimp only at h
      refine ⟨fun c32 => ?_, fun c32 => ?_⟩
      · have h := h.1 c32
        exact T_X9_hours_40 hM  hF hQ h
      · have h := h.2 c32
        exact T_X9_hours_35 hM  hF hQ h
  · have h := h.2 c6
    exact T_X9_hours_40 hM  hF hQ h
set_option maxRecDepth 20000 in
set_option maxHeartbeats 4000000 in
theorem T_X9_lay_62 {m : Nat} {ma : Nat → Nat} {S : Shp} {F0 : Fl} {I0 : Il}  {F : Fl} {I : Il} {x1 : Int} {x2 : Int} {x3 : Int} {x4 : Int} {s0 : Int} {Q : Int → Fl → Il → Prop} {Qw : Int → Il → Prop} (hM : Ms m ma S)  (hF : Fr m ma F0 I0 F I) (hQ : ∀ (z : Int) (F' : Fl) (I' : Il), Fr m ma F0 I0 F' I' → Qw z (mA ma m F' I') → Q z F' I') (h : W_X9_lay_62 x1 x2 x3 x4 s0 (mA ma m F I) Qw) : V_X9_lay_62 m x1 x2 x3 x4 s0 m S F I Q := by
  unfold V_X9_lay_62
  unfold W_X9_lay_62 at h
  refine ⟨hM.1, ?_⟩
  rw [← mA_f (ma := ma) (m := m) (I := I) (k := 0) rfl] at h
  refine ⟨hM.1, ?_⟩
  refine ⟨fun c69 => ?_, fun c69 => ?_⟩
  · have h := h.1 c69
    refine ⟨ma 7, (hM.2.1 7 rfl).1, ?_⟩
    refine ⟨(hM.2.1 7 rfl).2.1, ?_⟩
    obtain ⟨h0, h1, h⟩ := h
    refine ⟨h0, Ms.lt hM (k := 7) rfl h1, ?_⟩
    rw [← mA_i hM (F := (u2 F 1000 m _)) (k := 7) rfl] at h
    obtain ⟨h0, h1, h⟩ := h
    refine ⟨h0, Ms.lt hM (k := 7) rfl h1, ?_⟩
    rw [← mA_i hM (F := (u2 F 1000 m _)) (k := 7) rfl] at h
    refine ⟨ma 8, (hM.2.1 8 rfl).1, ?_⟩
    refine ⟨(hM.2.1 8 rfl).2.1, ?_⟩
    obtain ⟨h0, h1, h⟩ := h
    refine ⟨h0, Ms.lt hM (k := 8) rfl h1, ?_⟩
    rw [← mA_i hM (F := (u2 F 1000 m _)) (k := 8) rfl] at h
    refine ⟨ma 9, (hM.2.1 9 rfl).1, ?_⟩
    refine ⟨(hM.2.1 9 rfl).2.1, ?_⟩
    obtain ⟨h0, h1, h⟩ := h
    refine ⟨h0, Ms.lt hM (k := 9) rfl h1, ?_⟩
    rw [← mA_i hM (F := (u2 F 1000 m _)) (k := 9) rfl] at h
    refine ⟨ma 17, (hM.2.1 17 rfl).1, ?_⟩
    refine ⟨(hM.2.1 17 rfl).2.1, ?_⟩
    obtain ⟨h0, h1, h⟩ := h
    refine ⟨h0, Ms.lt hM (k := 17) rfl h1, ?_⟩
    rw [← mA_i hM (F := (u2 F 1000 m _)) (k := 17) rfl] at h
    rw [← mA_f (ma := ma) (m := m) (I := (ui (ui (ui (ui (ui I (ma 7) _ _) (ma 7) _ _) (ma 8) _ _) (ma 9) _ _) (ma 17) _ _)) (k := 2) rfl] at h
    rw [← mA_f (ma := ma) (m := m) (I := (ui (ui (ui (ui (ui I (ma 7) _ _) (ma 7) _ _) (ma 8) _ _) (ma 9) _ _) (ma 17) _ _)) (k := 6) rfl] at h
    exact hQ _ _ _ (Fr.f (k := 1006) (by decide) (Fr.f (k := 1002) (by decide) (Fr.i (k := 17) rfl (Fr.i (k := 9) rfl (Fr.i (k := 8) rfl (Fr.i (k := 7) rfl (Fr.i (k := 7) rfl (Fr.f (k := 1000) (by decide) hF)))))))) h
  · have h := h.2 c69
    exact hQ _ _ _ (Fr.f (k := 1000) (by decide) hF) h
set_option maxRecDepth 20000 in
set_option maxHeartbeats 4000000 in
theorem T_X9_lay_15 {m : Nat} {ma : Nat → Nat} {S : Shp} {F0 : Fl} {I0 : Il}  {F : Fl} {I : Il} {x1 : Int} {x2 : Int} {x3 : Int} {x4 : Int} {Q : Int → Fl → Il → Prop} {Qw : Int → Il → Prop} (hM : Ms m ma S)  (hF : Fr m ma F0 I0 F I) (hQ : ∀ (z : Int) (F' : Fl) (I' : Il), Fr m ma F0 I0 F' I' → Qw z (mA ma m F' I') → Q z F' I') (h : W_X9_lay_15 x1 x2 x3 x4 (mA ma m F I) Qw) : V_X9_lay_15 m x1 x2 x3 x4 m S F I Q := by
  unfold V_X9_lay_15
  unfold W_X9_lay_15 at h
  exact T_X9_lay_62 hM  hF hQ h
set_option maxRecDepth 20000 in
set_option maxHeartbeats 4000000 in
theorem T_X9_lay_44 {m : Nat} {ma : Nat → Nat} {S : Shp} {F0 : Fl} {I0 : Il}  {F : Fl} {I : Il} {x1 : Int} {x2 : Int} {x3 : Int} {x4 : Int} {Q : Int → Fl → Il → Prop} {Qw : Int → Il → Prop} (hM : Ms m ma S)  (hF : Fr m ma F0 I0 F I) (hQ : ∀ (z : Int) (F' : Fl) (I' : Il), Fr m ma F0 I0 F' I' → Qw z (mA ma m F' I') → Q z F' I') (h : W_X9_lay_44 x1 x2 x3 x4 (mA ma m F I) Qw) : V_X9_lay_44 m x1 x2 x3 x4 m S F I Q := by
  unfold V_X9_lay_44
  unfold W_X9_lay_44 at h
  exact T_X9_lay_62 hM  hF hQ h
set_option maxRecDepth 20000 in
set_option maxHeartbeats 4000000 in
theorem T_X9_lay {m : Nat} {ma : Nat → Nat} {S : Shp} {F0 : Fl} {I0 : Il}  {F : Fl} {I : Il} {x1 : Int} {x2 : Int} {x3 : Int} {x4 : Int} {Q : Int → Fl → Il → Prop} {Qw : Int → Il → Prop} (hM : Ms m ma S)  (hF : Fr m ma F0 I0 F I) (hQ : ∀ (z : Int) (F' : Fl) (I' : Il), Fr m ma F0 I0 F' I' → Qw z (mA ma m F' I') → Q z F' I') (h : W_X9_lay x1 x2 x3 x4 (mA ma m F I) Qw) : V_X9_lay m x1 x2 x3 x4 S F I Q := by
  unfold V_X9_lay
  unfold W_X9_lay at h
  refine T_X9_isStation hM hF (fun z1 h => ?_) h
  try dsimp only at h
  refine ⟨fun c5 => ?_, fun c5 => ?_⟩
  · have h := h.1 c5
    exact T_X9_lay_15 hM  hF hQ h
  · have h := h.2 c5
    refine T_X9_isStation hM hF (fun z2 h => ?_) h
    try dsimp only at h
    refine ⟨fun c12 => ?_, fun c12 => ?_⟩
    · have h := h.1 c12
      refine ⟨fun c21 => ?_, fun c21 => ?_⟩
      · have h := h.1 c21
        exact T_X9_lay_44 hM  hF hQ h
      · have h := h.2 c21
        refine T_X9_in hM hF (fun z3 h => ?_) h
        try dsimp only at h
        refine ⟨fun c31 => ?_, fun c31 => ?_⟩
        · have h := h.1 c31
          exact T_X9_lay_44 hM  hF hQ h
        · have h := h.2 c31
          refine T_X9_in hM hF (fun z4 h => ?_) h
          try dsimp only at h
          refine ⟨fun c41 => ?_, fun c41 => ?_⟩
          · have h := h.1 c41
            refine ⟨hM.1, ?_⟩
            refine ⟨fun c54 => ?_, fun c54 => ?_⟩
            · have h := h.1 c54
              exact T_X9_lay_62 hM  hF hQ h
            · have h := h.2 c54
              exact T_X9_lay_62 hM  hF hQ h
          · have h := h.2 c41
            exact T_X9_lay_44 hM  hF hQ h
    · have h := h.2 c12
      exact T_X9_lay_15 hM  hF hQ h
set_option maxRecDepth 20000 in
set_option maxHeartbeats 4000000 in
theorem T_X9_learn_82 {m : Nat} {ma : Nat → Nat} {S : Shp} {F0 : Fl} {I0 : Il} {kv54 : Nat → Int → Int → Int → Fl → Il → Prop} {k54 : Int → Int → Int → Il → Prop} {F : Fl} {I : Il} {x1 : Int} {x4 : Int} {s0 : Int} {s1 : Int} {Q : Int → Fl → Il → Prop} {Qw : Int → Il → Prop} (hM : Ms m ma S) (hk54 : ∀ (x1 : Int) (x3 : Int) (x4 : Int) (F' : Fl) (I' : Il), Fr m ma F0 I0 F' I' → k54 x1 x3 x4 (mA ma m F' I') → kv54 m x1 x3 x4 F' I') (hF : Fr m ma F0 I0 F I) (hQ : ∀ (z : Int) (F' : Fl) (I' : Il), Fr m ma F0 I0 F' I' → Qw z (mA ma m F' I') → Q z F' I') (h : W_X9_learn_82 k54 x1 x4 s0 s1 (mA ma m F I) Qw) : V_X9_learn_82 kv54 m x1 x4 s0 s1 S F I Q := by
  unfold V_X9_learn_82
  unfold W_X9_learn_82 at h
  exact hk54 _ _ _ _ _ hF h
set_option maxRecDepth 20000 in
set_option maxHeartbeats 4000000 in
theorem T_X9_learn_54 {m : Nat} {ma : Nat → Nat} {S : Shp} {F0 : Fl} {I0 : Il}   {Q : Int → Fl → Il → Prop} {Qw : Int → Il → Prop} (hM : Ms m ma S)  (hQ : ∀ (z : Int) (F' : Fl) (I' : Il), Fr m ma F0 I0 F' I' → Qw z (mA ma m F' I') → Q z F' I') (n9 : Nat) : ∀ (x1 : Int) (x3 : Int) (x4 : Int) (F : Fl) (I : Il), Fr m ma F0 I0 F I → W_X9_learn_54 n9 x1 x3 x4 (mA ma m F I) Qw → V_X9_learn_54 n9 m x1 x3 x4 S F I Q := by
  induction n9 with
  | zero => intro x1 x3 x4 F I hF h; exact h.elim
  | succ n ih =>
    intro x1 x3 x4 F I hF h
    unfold V_X9_learn_54
    unfold W_X9_learn_54 at h
    refine ⟨fun c63 => ?_, fun c63 => ?_⟩
    · have h := h.1 c63
      exact hQ _ _ _ hF h
    · have h := h.2 c63
      refine ⟨hM.1, ?_⟩
      refine ⟨ma 28, (hM.2.1 28 rfl).1, ?_⟩
      refine ⟨(hM.2.1 28 rfl).2.1, ?_⟩
      obtain ⟨h0, h1, h⟩ := h
      refine ⟨h0, Ms.lt hM (k := 28) rfl h1, ?_⟩
      refine ⟨fun c74 => ?_, fun c74 => ?_⟩
      · have h := h.1 c74
        exact T_X9_learn_82 hM (fun y0 y1 y2 F' I' hF9 h9 => ih y0 y1 y2 F' I' hF9 h9) hF hQ h
      · have h := h.2 c74
        exact T_X9_learn_82 hM (fun y0 y1 y2 F' I' hF9 h9 => ih y0 y1 y2 F' I' hF9 h9) hF hQ h
set_option maxRecDepth 20000 in
set_option maxHeartbeats 4000000 in
theorem T_X9_learn_22 {m : Nat} {ma : Nat → Nat} {S : Shp} {F0 : Fl} {I0 : Il}  {F : Fl} {I : Il} {x1 : Int} {x2 : Int} {s0 : Int} {Q : Int → Fl → Il → Prop} {Qw : Int → Il → Prop} (hM : Ms m ma S)  (hF : Fr m ma F0 I0 F I) (hQ : ∀ (z : Int) (F' : Fl) (I' : Il), Fr m ma F0 I0 F' I' → Qw z (mA ma m F' I') → Q z F' I') (h : W_X9_learn_22 x1 x2 s0 (mA ma m F I) Qw) : V_X9_learn_22 m x1 x2 s0 m S F I Q := by
  unfold V_X9_learn_22
  unfold W_X9_learn_22 at h
  refine ⟨hM.1, ?_⟩
  rw [← mA_f (ma := ma) (m := m) (I := I) (k := 0) rfl] at h
  refine ⟨hM.1, ?_⟩
  refine ⟨fun c29 => ?_, fun c29 => ?_⟩
  · have h := h.1 c29
    refine ⟨ma 28, (hM.2.1 28 rfl).1, ?_⟩
    refine ⟨(hM.2.1 28 rfl).2.1, ?_⟩
    obtain ⟨h0, h1, h⟩ := h
    refine ⟨h0, Ms.lt hM (k := 28) rfl h1, ?_⟩
    rw [← mA_i hM (F := (u2 F 1000 m _)) (k := 28) rfl] at h
    obtain ⟨n9, h⟩ := h
    exact ⟨n9, T_X9_learn_54 hM  hQ n9 _ _ _ _ _ (Fr.i (k := 28) rfl (Fr.f (k := 1000) (by decide) hF)) h⟩
  · have h := h.2 c29
    exact hQ _ _ _ (Fr.f (k := 1000) (by decide) hF) h
set_option maxRecDepth 20000 in
set_option maxHeartbeats 4000000 in
theorem T_X9_learn_21 {m : Nat} {ma : Nat → Nat} {S : Shp} {F0 : Fl} {I0 : Il}  {F : Fl} {I : Il} {x1 : Int} {x2 : Int} {Q : Int → Fl → Il → Prop} {Qw : Int → Il → Prop} (hM : Ms m ma S)  (hF : Fr m ma F0 I0 F I) (hQ : ∀ (z : Int) (F' : Fl) (I' : Il), Fr m ma F0 I0 F' I' → Qw z (mA ma m F' I') → Q z F' I') (h : W_X9_learn_21 x1 x2 (mA ma m F I) Qw) : V_X9_learn_21 m x1 x2 m S F I Q := by
  unfold V_X9_learn_21
  unfold W_X9_learn_21 at h
  exact T_X9_learn_22 hM  hF hQ h
set_option maxRecDepth 20000 in
set_option maxHeartbeats 4000000 in
theorem T_X9_learn {m : Nat} {ma : Nat → Nat} {S : Shp} {F0 : Fl} {I0 : Il}  {F : Fl} {I : Il} {x1 : Int} {x2 : Int} {Q : Int → Fl → Il → Prop} {Qw : Int → Il → Prop} (hM : Ms m ma S)  (hF : Fr m ma F0 I0 F I) (hQ : ∀ (z : Int) (F' : Fl) (I' : Il), Fr m ma F0 I0 F' I' → Qw z (mA ma m F' I') → Q z F' I') (h : W_X9_learn x1 x2 (mA ma m F I) Qw) : V_X9_learn m x1 x2 S F I Q := by
  unfold V_X9_learn
  unfold W_X9_learn at h
  refine ⟨hM.1, ?_⟩
  refine T_X9_isCrew hM hF (fun z1 h => ?_) h
  try dsimp only at h
  refine ⟨fun c6 => ?_, fun c6 => ?_⟩
  · have h := h.1 c6
    exact T_X9_learn_21 hM  hF hQ h
  · have h := h.2 c6
    refine T_X9_isBlock hM hF (fun z2 h => ?_) h
    try dsimp only at h
    refine ⟨fun c14 => ?_, fun c14 => ?_⟩
    · have h := h.1 c14
      exact T_X9_learn_21 hM  hF hQ h
    · have h := h.2 c14
      exact T_X9_learn_22 hM  hF hQ h
set_option maxRecDepth 20000 in
set_option maxHeartbeats 4000000 in
theorem T_X9_leg_27 {m : Nat} {ma : Nat → Nat} {S : Shp} {F0 : Fl} {I0 : Il}  {F : Fl} {I : Il} {x1 : Int} {s0 : Int} {Q : Int → Fl → Il → Prop} {Qw : Int → Il → Prop} (hM : Ms m ma S)  (hF : Fr m ma F0 I0 F I) (hQ : ∀ (z : Int) (F' : Fl) (I' : Il), Fr m ma F0 I0 F' I' → Qw z (mA ma m F' I') → Q z F' I') (h : W_X9_leg_27 x1 s0 (mA ma m F I) Qw) : V_X9_leg_27 m x1 s0 m S F I Q := by
  unfold V_X9_leg_27
  unfold W_X9_leg_27 at h
  refine ⟨hM.1, ?_⟩
  rw [← mA_f (ma := ma) (m := m) (I := I) (k := 0) rfl] at h
  refine ⟨hM.1, ?_⟩
  refine ⟨fun c34 => ?_, fun c34 => ?_⟩
  · have h := h.1 c34
    refine ⟨ma 53, (hM.2.1 53 rfl).1, ?_⟩
    refine ⟨(hM.2.1 53 rfl).2.1, ?_⟩
    obtain ⟨h0, h1, h⟩ := h
    refine ⟨h0, Ms.lt hM (k := 53) rfl h1, ?_⟩
    rw [← mA_i hM (F := (u2 F 1000 m _)) (k := 53) rfl] at h
    rw [← mA_f (ma := ma) (m := m) (I := (ui I (ma 53) _ _)) (k := 52) rfl] at h
    exact hQ _ _ _ (Fr.f (k := 1052) (by decide) (Fr.i (k := 53) rfl (Fr.f (k := 1000) (by decide) hF))) h
  · have h := h.2 c34
    exact hQ _ _ _ (Fr.f (k := 1000) (by decide) hF) h
set_option maxRecDepth 20000 in
set_option maxHeartbeats 4000000 in
theorem T_X9_leg {m : Nat} {ma : Nat → Nat} {S : Shp} {F0 : Fl} {I0 : Il}  {F : Fl} {I : Il} {x1 : Int} {Q : Int → Fl → Il → Prop} {Qw : Int → Il → Prop} (hM : Ms m ma S)  (hF : Fr m ma F0 I0 F I) (hQ : ∀ (z : Int) (F' : Fl) (I' : Il), Fr m ma F0 I0 F' I' → Qw z (mA ma m F' I') → Q z F' I') (h : W_X9_leg x1 (mA ma m F I) Qw) : V_X9_leg m x1 S F I Q := by
  unfold V_X9_leg
  unfold W_X9_leg at h
  refine ⟨hM.1, ?_⟩
  refine T_X9_isBlock hM hF (fun z1 h => ?_) h
  try dsimp only at h
  refine ⟨fun c6 => ?_, fun c6 => ?_⟩
  · have h := h.1 c6
    refine ⟨fun c19 => ?_, fun c19 => ?_⟩
    · have h := h.1 c19
      exact T_X9_leg_27 hM  hF hQ h
    · have h := h.2 c19
      exact T_X9_leg_27 hM  hF hQ h
  · have h := h.2 c6
    exact T_X9_leg_27 hM  hF hQ h
set_option maxRecDepth 20000 in
set_option maxHeartbeats 4000000 in
theorem T_X9_load_76 {m : Nat} {ma : Nat → Nat} {S : Shp} {F0 : Fl} {I0 : Il}  {F : Fl} {I : Il} {x1 : Int} {x2 : Int} {s0 : Int} {Q : Fl → Il → Prop} {Qw : Il → Prop} (hM : Ms m ma S)  (hF : Fr m ma F0 I0 F I) (hQ : ∀ (F' : Fl) (I' : Il), Fr m ma F0 I0 F' I' → Qw  (mA ma m F' I') → Q  F' I') (h : W_X9_load_76 x1 x2 s0 (mA ma m F I) Qw) : V_X9_load_76 m x1 x2 s0 m S F I Q := by
  unfold V_X9_load_76
  unfold W_X9_load_76 at h
  refine ⟨hM.1, ?_⟩
  rw [← mA_f (ma := ma) (m := m) (I := I) (k := 0) rfl] at h
  refine ⟨hM.1, ?_⟩
  refine ⟨fun c83 => ?_, fun c83 => ?_⟩
  · have h := h.1 c83
    exact hQ _ _ (Fr.f (k := 1000) (by decide) hF) h
  · have h := h.2 c83
    refine ⟨ma 33, (hM.2.1 33 rfl).1, ?_⟩
    refine ⟨(hM.2.1 33 rfl).2.1, ?_⟩
    obtain ⟨h0, h1, h⟩ := h
    refine ⟨h0, Ms.lt hM (k := 33) rfl h1, ?_⟩
    rw [← mA_i hM (F := (u2 F 1000 m _)) (k := 33) rfl] at h
    refine ⟨ma 58, (hM.2.1 58 rfl).1, ?_⟩
    refine ⟨(hM.2.1 58 rfl).2.1, ?_⟩
    obtain ⟨h0, h1, h⟩ := h
    refine ⟨h0, Ms.lt hM (k := 58) rfl h1, ?_⟩
    rw [← mA_i hM (F := (u2 F 1000 m _)) (k := 58) rfl] at h
    refine T_X9_writes hM (Fr.i (k := 58) rfl (Fr.i (k := 33) rfl (Fr.f (k := 1000) (by decide) hF))) (fun F2 I3 hF4 h => ?_) h
    try dsimp only at h
    exact hQ _ _ hF4 h
set_option maxRecDepth 20000 in
set_option maxHeartbeats 4000000 in
theorem T_X9_load_23 {m : Nat} {ma : Nat → Nat} {S : Shp} {F0 : Fl} {I0 : Il}  {F : Fl} {I : Il} {x1 : Int} {x2 : Int} {Q : Fl → Il → Prop} {Qw : Il → Prop} (hM : Ms m ma S)  (hF : Fr m ma F0 I0 F I) (hQ : ∀ (F' : Fl) (I' : Il), Fr m ma F0 I0 F' I' → Qw  (mA ma m F' I') → Q  F' I') (h : W_X9_load_23 x1 x2 (mA ma m F I) Qw) : V_X9_load_23 m x1 x2 m S F I Q := by
  unfold V_X9_load_23
  unfold W_X9_load_23 at h
  exact T_X9_load_76 hM  hF hQ h
set_option maxRecDepth 20000 in
set_option maxHeartbeats 4000000 in
theorem T_X9_load_71 {m : Nat} {ma : Nat → Nat} {S : Shp} {F0 : Fl} {I0 : Il}  {F : Fl} {I : Il} {x1 : Int} {x2 : Int} {Q : Fl → Il → Prop} {Qw : Il → Prop} (hM : Ms m ma S)  (hF : Fr m ma F0 I0 F I) (hQ : ∀ (F' : Fl) (I' : Il), Fr m ma F0 I0 F' I' → Qw  (mA ma m F' I') → Q  F' I') (h : W_X9_load_71 x1 x2 (mA ma m F I) Qw) : V_X9_load_71 m x1 x2 m S F I Q := by
  unfold V_X9_load_71
  unfold W_X9_load_71 at h
  exact T_X9_load_76 hM  hF hQ h
set_option maxRecDepth 20000 in
set_option maxHeartbeats 4000000 in
theorem T_X9_load {m : Nat} {ma : Nat → Nat} {S : Shp} {F0 : Fl} {I0 : Il}  {F : Fl} {I : Il} {x1 : Int} {x2 : Int} {Q : Fl → Il → Prop} {Qw : Il → Prop} (hM : Ms m ma S)  (hF : Fr m ma F0 I0 F I) (hQ : ∀ (F' : Fl) (I' : Il), Fr m ma F0 I0 F' I' → Qw  (mA ma m F' I') → Q  F' I') (h : W_X9_load x1 x2 (mA ma m F I) Qw) : V_X9_load m x1 x2 S F I Q := by
  unfold V_X9_load
  unfold W_X9_load at h
  refine ⟨hM.1, ?_⟩
  refine T_X9_isCar hM hF (fun z1 h => ?_) h
  try dsimp only at h
  refine ⟨fun c6 => ?_, fun c6 => ?_⟩
  · have h := h.1 c6
    exact T_X9_load_23 hM  hF hQ h
  · have h := h.2 c6
    refine T_X9_in hM hF (fun z2 h => ?_) h
    try dsimp only at h
    refine ⟨fun c20 => ?_, fun c20 => ?_⟩
    · have h := h.1 c20
      refine ⟨ma 32, (hM.2.1 32 rfl).1, ?_⟩
      refine ⟨(hM.2.1 32 rfl).2.1, ?_⟩
      obtain ⟨h0, h1, h⟩ := h
      refine ⟨h0, Ms.lt hM (k := 32) rfl h1, ?_⟩
      refine ⟨fun c34 => ?_, fun c34 => ?_⟩
      · have h := h.1 c34
        exact T_X9_load_71 hM  hF hQ h
      · have h := h.2 c34
        refine ⟨ma 33, (hM.2.1 33 rfl).1, ?_⟩
        refine ⟨(hM.2.1 33 rfl).2.1, ?_⟩
        obtain ⟨h0, h1, h⟩ := h
        refine ⟨h0, Ms.lt hM (k := 33) rfl h1, ?_⟩
        refine ⟨fun c44 => ?_, fun c44 => ?_⟩
        · have h := h.1 c44
          exact T_X9_load_71 hM  hF hQ h
        · have h := h.2 c44
          refine ⟨ma 58, (hM.2.1 58 rfl).1, ?_⟩
          refine ⟨(hM.2.1 58 rfl).2.1, ?_⟩
          obtain ⟨h0, h1, h⟩ := h
          refine ⟨h0, Ms.lt hM (k := 58) rfl h1, ?_⟩
          refine ⟨fun c53 => ?_, fun c53 => ?_⟩
          · have h := h.1 c53
            exact T_X9_load_71 hM  hF hQ h
          · have h := h.2 c53
            refine ⟨ma 31, (hM.2.1 31 rfl).1, ?_⟩
            refine ⟨(hM.2.1 31 rfl).2.1, ?_⟩
            obtain ⟨h0, h1, h⟩ := h
            refine ⟨h0, Ms.lt hM (k := 31) rfl h1, ?_⟩
            refine ⟨ma 55, (hM.2.1 55 rfl).1, ?_⟩
            refine ⟨(hM.2.1 55 rfl).2.1, ?_⟩
            obtain ⟨h0, h1, h⟩ := h
            refine ⟨h0, Ms.lt hM (k := 55) rfl h1, ?_⟩
            refine ⟨fun c68 => ?_, fun c68 => ?_⟩
            · have h := h.1 c68
              exact T_X9_load_76 hM  hF hQ h
            · have h := h.2 c68
              exact T_X9_load_71 hM  hF hQ h
    · have h := h.2 c20
      exact T_X9_load_23 hM  hF hQ h
set_option maxRecDepth 20000 in
set_option maxHeartbeats 4000000 in
theorem T_X9_offer_42 {m : Nat} {ma : Nat → Nat} {S : Shp} {F0 : Fl} {I0 : Il}  {F : Fl} {I : Il} {x1 : Int} {x2 : Int} {s0 : Int} {Q : Int → Fl → Il → Prop} {Qw : Int → Il → Prop} (hM : Ms m ma S)  (hF : Fr m ma F0 I0 F I) (hQ : ∀ (z : Int) (F' : Fl) (I' : Il), Fr m ma F0 I0 F' I' → Qw z (mA ma m F' I') → Q z F' I') (h : W_X9_offer_42 x1 x2 s0 (mA ma m F I) Qw) : V_X9_offer_42 m x1 x2 s0 m S F I Q := by
  unfold V_X9_offer_42
  unfold W_X9_offer_42 at h
  refine ⟨hM.1, ?_⟩
  rw [← mA_f (ma := ma) (m := m) (I := I) (k := 0) rfl] at h
  refine ⟨hM.1, ?_⟩
  refine ⟨fun c49 => ?_, fun c49 => ?_⟩
  · have h := h.1 c49
    refine ⟨ma 59, (hM.2.1 59 rfl).1, ?_⟩
    refine ⟨(hM.2.1 59 rfl).2.1, ?_⟩
    obtain ⟨h0, h1, h⟩ := h
    refine ⟨h0, Ms.lt hM (k := 59) rfl h1, ?_⟩
    obtain ⟨h0, h1, h⟩ := h
    refine ⟨h0, Ms.lt hM (k := 59) rfl h1, ?_⟩
    refine ⟨fun c79 => ?_, fun c79 => ?_⟩
    · have h := h.1 c79
      refine ⟨ma 55, (hM.2.1 55 rfl).1, ?_⟩
      refine ⟨(hM.2.1 55 rfl).2.1, ?_⟩
      obtain ⟨h0, h1, h⟩ := h
      refine ⟨h0, Ms.lt hM (k := 55) rfl h1, ?_⟩
      rw [← mA_i hM (F := (u2 F 1000 m _)) (k := 55) rfl] at h
      refine ⟨ma 56, (hM.2.1 56 rfl).1, ?_⟩
      refine ⟨(hM.2.1 56 rfl).2.1, ?_⟩
      obtain ⟨h0, h1, h⟩ := h
      refine ⟨h0, Ms.lt hM (k := 56) rfl h1, ?_⟩
      rw [← mA_i hM (F := (u2 F 1000 m _)) (k := 56) rfl] at h
      refine ⟨ma 57, (hM.2.1 57 rfl).1, ?_⟩
      obtain ⟨h0, h1, h⟩ := h
      refine ⟨h0, Ms.lt hM (k := 59) rfl h1, ?_⟩
      refine ⟨(hM.2.1 57 rfl).2.1, ?_⟩
      obtain ⟨h0, h1, h⟩ := h
      refine ⟨h0, Ms.lt hM (k := 57) rfl h1, ?_⟩
      rw [← mA_i hM (F := (u2 F 1000 m _)) (k := 57) rfl] at h
      rw [← mA_f (ma := ma) (m := m) (I := (ui (ui (ui I (ma 55) _ _) (ma 56) _ _) (ma 57) _ _)) (k := 54) rfl] at h
      exact hQ _ _ _ (Fr.f (k := 1054) (by decide) (Fr.i (k := 57) rfl (Fr.i (k := 56) rfl (Fr.i (k := 55) rfl (Fr.f (k := 1000) (by decide) hF))))) h
    · have h := h.2 c79
      exact hQ _ _ _ (Fr.f (k := 1000) (by decide) hF) h
  · have h := h.2 c49
    exact hQ _ _ _ (Fr.f (k := 1000) (by decide) hF) h
set_option maxRecDepth 20000 in
set_option maxHeartbeats 4000000 in
theorem T_X9_offer_15 {m : Nat} {ma : Nat → Nat} {S : Shp} {F0 : Fl} {I0 : Il}  {F : Fl} {I : Il} {x1 : Int} {x2 : Int} {Q : Int → Fl → Il → Prop} {Qw : Int → Il → Prop} (hM : Ms m ma S)  (hF : Fr m ma F0 I0 F I) (hQ : ∀ (z : Int) (F' : Fl) (I' : Il), Fr m ma F0 I0 F' I' → Qw z (mA ma m F' I') → Q z F' I') (h : W_X9_offer_15 x1 x2 (mA ma m F I) Qw) : V_X9_offer_15 m x1 x2 m S F I Q := by
  unfold V_X9_offer_15
  unfold W_X9_offer_15 at h
  exact T_X9_offer_42 hM  hF hQ h
set_option maxRecDepth 20000 in
set_option maxHeartbeats 4000000 in
theorem T_X9_offer {m : Nat} {ma : Nat → Nat} {S : Shp} {F0 : Fl} {I0 : Il}  {F : Fl} {I : Il} {x1 : Int} {x2 : Int} {Q : Int → Fl → Il → Prop} {Qw : Int → Il → Prop} (hM : Ms m ma S)  (hF : Fr m ma F0 I0 F I) (hQ : ∀ (z : Int) (F' : Fl) (I' : Il), Fr m ma F0 I0 F' I' → Qw z (mA ma m F' I') → Q z F' I') (h : W_X9_offer x1 x2 (mA ma m F I) Qw) : V_X9_offer m x1 x2 S F I Q := by
  unfold V_X9_offer
  unfold W_X9_offer at h
  refine T_X9_isStation hM hF (fun z1 h => ?_) h
  try dsimp only at h
  refine ⟨fun c5 => ?_, fun c5 => ?_⟩
  · have h := h.1 c5
    exact T_X9_offer_15 hM  hF hQ h
  · have h := h.2 c5
    refine T_X9_isStation hM hF (fun z2 h => ?_) h
    try dsimp only at h
    refine ⟨fun c12 => ?_, fun c12 => ?_⟩
    · have h := h.1 c12
      refine ⟨fun c21 => ?_, fun c21 => ?_⟩
      · have h := h.1 c21
        refine ⟨hM.1, ?_⟩
        refine ⟨fun c34 => ?_, fun c34 => ?_⟩
        · have h := h.1 c34
          exact T_X9_offer_42 hM  hF hQ h
        · have h := h.2 c34
          exact T_X9_offer_42 hM  hF hQ h
      · have h := h.2 c21
        exact T_X9_offer_42 hM  hF hQ h
    · have h := h.2 c12
      exact T_X9_offer_15 hM  hF hQ h
set_option maxRecDepth 20000 in
set_option maxHeartbeats 4000000 in
theorem T_X9_paper_71 {m : Nat} {ma : Nat → Nat} {S : Shp} {F0 : Fl} {I0 : Il} {kv35 : Nat → Int → Int → Int → Int → Fl → Prop} {k35 : Int → Int → Int → Int → Il → Prop} {F : Fl} {I : Il} {x1 : Int} {x2 : Int} {x3 : Int} {x4 : Int} {Q : Int → Fl → Prop} {Qw : Int → Il → Prop} (hM : Ms m ma S) (hk35 : ∀ (x1 : Int) (x2 : Int) (x3 : Int) (x4 : Int) (F' : Fl), Fr m ma F0 I0 F' I → k35 x1 x2 x3 x4 (mA ma m F' I) → kv35 m x1 x2 x3 x4 F') (hF : Fr m ma F0 I0 F I) (hQ : ∀ (z : Int) (F' : Fl), Fr m ma F0 I0 F' I → Qw z (mA ma m F' I) → Q z F') (h : W_X9_paper_71 k35 x1 x2 x3 x4 (mA ma m F I) Qw) : V_X9_paper_71 kv35 m x1 x2 x3 x4 S F I Q := by
  unfold V_X9_paper_71
  unfold W_X9_paper_71 at h
  exact hk35 _ _ _ _ _ hF h
set_option maxRecDepth 20000 in
set_option maxHeartbeats 4000000 in
theorem T_X9_paper_35 {m : Nat} {ma : Nat → Nat} {S : Shp} {F0 : Fl} {I0 : Il}  {I : Il} {Q : Int → Fl → Prop} {Qw : Int → Il → Prop} (hM : Ms m ma S)  (hQ : ∀ (z : Int) (F' : Fl), Fr m ma F0 I0 F' I → Qw z (mA ma m F' I) → Q z F') (n9 : Nat) : ∀ (x1 : Int) (x2 : Int) (x3 : Int) (x4 : Int) (F : Fl), Fr m ma F0 I0 F I → W_X9_paper_35 n9 x1 x2 x3 x4 (mA ma m F I) Qw → V_X9_paper_35 n9 m x1 x2 x3 x4 S F I Q := by
  induction n9 with
  | zero => intro x1 x2 x3 x4 F hF h; exact h.elim
  | succ n ih =>
    intro x1 x2 x3 x4 F hF h
    unfold V_X9_paper_35
    unfold W_X9_paper_35 at h
    refine ⟨hM.1, ?_⟩
    refine ⟨fun c41 => ?_, fun c41 => ?_⟩
    · have h := h.1 c41
      exact hQ _ _ hF h
    · have h := h.2 c41
      refine ⟨ma 61, (hM.2.1 61 rfl).1, ?_⟩
      refine ⟨(hM.2.1 61 rfl).2.1, ?_⟩
      obtain ⟨h0, h1, h⟩ := h
      refine ⟨h0, Ms.lt hM (k := 61) rfl h1, ?_⟩
      refine ⟨fun c52 => ?_, fun c52 => ?_⟩
      · have h := h.1 c52
        exact T_X9_paper_71 hM (fun y0 y1 y2 y3 F' hF9 h9 => ih y0 y1 y2 y3 F' hF9 h9) hF hQ h
      · have h := h.2 c52
        refine ⟨fun c57 => ?_, fun c57 => ?_⟩
        · have h := h.1 c57
          exact T_X9_paper_71 hM (fun y0 y1 y2 y3 F' hF9 h9 => ih y0 y1 y2 y3 F' hF9 h9) hF hQ h
        · have h := h.2 c57
          refine ⟨ma 62, (hM.2.1 62 rfl).1, ?_⟩
          refine ⟨(hM.2.1 62 rfl).2.1, ?_⟩
          obtain ⟨h0, h1, h⟩ := h
          refine ⟨h0, Ms.lt hM (k := 62) rfl h1, ?_⟩
          exact hQ _ _ hF h
set_option maxRecDepth 20000 in
set_option maxHeartbeats 4000000 in
theorem T_X9_paper_18 {m : Nat} {ma : Nat → Nat} {S : Shp} {F0 : Fl} {I0 : Il}  {F : Fl} {I : Il} {x1 : Int} {x2 : Int} {s0 : Int} {Q : Int → Fl → Prop} {Qw : Int → Il → Prop} (hM : Ms m ma S)  (hF : Fr m ma F0 I0 F I) (hQ : ∀ (z : Int) (F' : Fl), Fr m ma F0 I0 F' I → Qw z (mA ma m F' I) → Q z F') (h : W_X9_paper_18 x1 x2 s0 (mA ma m F I) Qw) : V_X9_paper_18 m x1 x2 s0 m S F I Q := by
  unfold V_X9_paper_18
  unfold W_X9_paper_18 at h
  refine ⟨hM.1, ?_⟩
  rw [← mA_f (ma := ma) (m := m) (I := I) (k := 0) rfl] at h
  refine ⟨hM.1, ?_⟩
  refine ⟨fun c25 => ?_, fun c25 => ?_⟩
  · have h := h.1 c25
    obtain ⟨n9, h⟩ := h
    exact ⟨n9, T_X9_paper_35 hM  hQ n9 _ _ _ _ _ (Fr.f (k := 1000) (by decide) hF) h⟩
  · have h := h.2 c25
    exact hQ _ _ (Fr.f (k := 1000) (by decide) hF) h
set_option maxRecDepth 20000 in
set_option maxHeartbeats 4000000 in
theorem T_X9_paper_17 {m : Nat} {ma : Nat → Nat} {S : Shp} {F0 : Fl} {I0 : Il}  {F : Fl} {I : Il} {x1 : Int} {x2 : Int} {Q : Int → Fl → Prop} {Qw : Int → Il → Prop} (hM : Ms m ma S)  (hF : Fr m ma F0 I0 F I) (hQ : ∀ (z : Int) (F' : Fl), Fr m ma F0 I0 F' I → Qw z (mA ma m F' I) → Q z F') (h : W_X9_paper_17 x1 x2 (mA ma m F I) Qw) : V_X9_paper_17 m x1 x2 m S F I Q := by
  unfold V_X9_paper_17
  unfold W_X9_paper_17 at h
  exact T_X9_paper_18 hM  hF hQ h
set_option maxRecDepth 20000 in
set_option maxHeartbeats 4000000 in
theorem T_X9_paper {m : Nat} {ma : Nat → Nat} {S : Shp} {F0 : Fl} {I0 : Il}  {F : Fl} {I : Il} {x1 : Int} {x2 : Int} {Q : Int → Fl → Prop} {Qw : Int → Il → Prop} (hM : Ms m ma S)  (hF : Fr m ma F0 I0 F I) (hQ : ∀ (z : Int) (F' : Fl), Fr m ma F0 I0 F' I → Qw z (mA ma m F' I) → Q z F') (h : W_X9_paper x1 x2 (mA ma m F I) Qw) : V_X9_paper m x1 x2 S F I Q := by
  unfold V_X9_paper
  unfold W_X9_paper at h
  refine ⟨hM.1, ?_⟩
  refine T_X9_isCar hM hF (fun z1 h => ?_) h
  try dsimp only at h
  refine ⟨fun c6 => ?_, fun c6 => ?_⟩
  · have h := h.1 c6
    exact T_X9_paper_17 hM  hF hQ h
  · have h := h.2 c6
    refine ⟨fun c10 => ?_, fun c10 => ?_⟩
    · have h := h.1 c10
      exact T_X9_paper_17 hM  hF hQ h
    · have h := h.2 c10
      exact T_X9_paper_18 hM  hF hQ h
set_option maxRecDepth 20000 in
set_option maxHeartbeats 4000000 in
theorem T_X9_wrecks_61 {m : Nat} {ma : Nat → Nat} {S : Shp} {F0 : Fl} {I0 : Il} {kv28 : Nat → Int → Int → Il → Prop} {k28 : Int → Int → Il → Prop} {F : Fl} {I : Il} {x1 : Int} {x3 : Int} {s0 : Int} {s1 : Int} {Q : Il → Prop} {Qw : Il → Prop} (hM : Ms m ma S) (hk28 : ∀ (x1 : Int) (x3 : Int) (I' : Il), Fr m ma F0 I0 F I' → k28 x1 x3 (mA ma m F I') → kv28 m x1 x3 I') (hF : Fr m ma F0 I0 F I) (hQ : ∀ (I' : Il), Fr m ma F0 I0 F I' → Qw  (mA ma m F I') → Q  I') (h : W_X9_wrecks_61 k28 x1 x3 s0 s1 (mA ma m F I) Qw) : V_X9_wrecks_61 kv28 m x1 x3 s0 s1 (ma 17) S F I Q := by
  unfold V_X9_wrecks_61
  unfold W_X9_wrecks_61 at h
  refine ⟨(hM.2.1 17 rfl).2.1, ?_⟩
  obtain ⟨h0, h1, h⟩ := h
  refine ⟨h0, Ms.lt hM (k := 17) rfl h1, ?_⟩
  rw [← mA_i hM (F := F) (k := 17) rfl] at h
  exact hk28 _ _ _ (Fr.i (k := 17) rfl hF) h
set_option maxRecDepth 20000 in
set_option maxHeartbeats 4000000 in
theorem T_X9_wrecks_28 {m : Nat} {ma : Nat → Nat} {S : Shp} {F0 : Fl} {I0 : Il}  {F : Fl} {Q : Il → Prop} {Qw : Il → Prop} (hM : Ms m ma S)  (hQ : ∀ (I' : Il), Fr m ma F0 I0 F I' → Qw  (mA ma m F I') → Q  I') (n9 : Nat) : ∀ (x1 : Int) (x3 : Int) (I : Il), Fr m ma F0 I0 F I → W_X9_wrecks_28 n9 x1 x3 (mA ma m F I) Qw → V_X9_wrecks_28 n9 m x1 x3 S F I Q := by
  induction n9 with
  | zero => intro x1 x3 I hF h; exact h.elim
  | succ n ih =>
    intro x1 x3 I hF h
    unfold V_X9_wrecks_28
    unfold W_X9_wrecks_28 at h
    refine ⟨hM.1, ?_⟩
    refine ⟨fun c33 => ?_, fun c33 => ?_⟩
    · have h := h.1 c33
      exact hQ _ hF h
    · have h := h.2 c33
      refine ⟨ma 17, (hM.2.1 17 rfl).1, ?_⟩
      refine ⟨(hM.2.1 17 rfl).2.1, ?_⟩
      obtain ⟨h0, h1, h⟩ := h
      refine ⟨h0, Ms.lt hM (k := 17) rfl h1, ?_⟩
      refine ⟨fun c48 => ?_, fun c48 => ?_⟩
      · have h := h.1 c48
        obtain ⟨h0, h1, h⟩ := h
        refine ⟨h0, Ms.lt hM (k := 17) rfl h1, ?_⟩
        exact T_X9_wrecks_61 hM (fun y0 y1 I' hF9 h9 => ih y0 y1 I' hF9 h9) hF hQ h
      · have h := h.2 c48
        exact T_X9_wrecks_61 hM (fun y0 y1 I' hF9 h9 => ih y0 y1 I' hF9 h9) hF hQ h
set_option maxRecDepth 20000 in
set_option maxHeartbeats 4000000 in
theorem T_X9_wrecks {m : Nat} {ma : Nat → Nat} {S : Shp} {F0 : Fl} {I0 : Il}  {F : Fl} {I : Il} {x1 : Int} {x2 : Int} {Q : Il → Prop} {Qw : Il → Prop} (hM : Ms m ma S)  (hF : Fr m ma F0 I0 F I) (hQ : ∀ (I' : Il), Fr m ma F0 I0 F I' → Qw  (mA ma m F I') → Q  I') (h : W_X9_wrecks x1 x2 (mA ma m F I) Qw) : V_X9_wrecks m x1 x2 S F I Q := by
  unfold V_X9_wrecks
  unfold W_X9_wrecks at h
  refine ⟨hM.1, ?_⟩
  refine ⟨ma 39, (hM.2.1 39 rfl).1, ?_⟩
  refine ⟨(hM.2.1 39 rfl).2.1, ?_⟩
  obtain ⟨h0, h1, h⟩ := h
  refine ⟨h0, Ms.lt hM (k := 39) rfl h1, ?_⟩
  rw [← mA_i hM (F := F) (k := 39) rfl] at h
  refine ⟨ma 41, (hM.2.1 41 rfl).1, ?_⟩
  refine ⟨(hM.2.1 41 rfl).2.1, ?_⟩
  obtain ⟨h0, h1, h⟩ := h
  refine ⟨h0, Ms.lt hM (k := 41) rfl h1, ?_⟩
  rw [← mA_i hM (F := F) (k := 41) rfl] at h
  refine ⟨ma 46, (hM.2.1 46 rfl).1, ?_⟩
  refine ⟨ma 47, (hM.2.1 47 rfl).1, ?_⟩
  refine ⟨(hM.2.1 47 rfl).2.1, ?_⟩
  obtain ⟨h0, h1, h⟩ := h
  refine ⟨h0, Ms.lt hM (k := 47) rfl h1, ?_⟩
  refine ⟨(hM.2.1 46 rfl).2.1, ?_⟩
  obtain ⟨h0, h1, h⟩ := h
  refine ⟨h0, Ms.lt hM (k := 46) rfl h1, ?_⟩
  rw [← mA_i hM (F := F) (k := 46) rfl] at h
  obtain ⟨n9, h⟩ := h
  exact ⟨n9, T_X9_wrecks_28 hM  hQ n9 _ _ _ (Fr.i (k := 46) rfl (Fr.i (k := 41) rfl (Fr.i (k := 39) rfl hF))) h⟩
set_option maxRecDepth 20000 in
set_option maxHeartbeats 4000000 in
theorem T_X9_passSignal_116 {m : Nat} {ma : Nat → Nat} {S : Shp} {F0 : Fl} {I0 : Il}  {F : Fl} {I : Il}  {Q : Int → Fl → Il → Prop} {Qw : Int → Il → Prop} (hM : Ms m ma S)  (hF : Fr m ma F0 I0 F I) (hQ : ∀ (z : Int) (F' : Fl) (I' : Il), Fr m ma F0 I0 F' I' → Qw z (mA ma m F' I') → Q z F' I') (h : W_X9_passSignal_116 (mA ma m F I) Qw) : V_X9_passSignal_116 m S F I Q := by
  unfold V_X9_passSignal_116
  unfold W_X9_passSignal_116 at h
  refine ⟨hM.1, ?_⟩
  rw [← mA_f (ma := ma) (m := m) (I := I) (k := 0) rfl] at h
  exact hQ _ _ _ (Fr.f (k := 1000) (by decide) hF) h
set_option maxRecDepth 20000 in
set_option maxHeartbeats 4000000 in
theorem T_X9_passSignal_77 {m : Nat} {ma : Nat → Nat} {S : Shp} {F0 : Fl} {I0 : Il}  {F : Fl} {I : Il} {x1 : Int} {x2 : Int} {s0 : Int} {Q : Int → Fl → Il → Prop} {Qw : Int → Il → Prop} (hM : Ms m ma S)  (hF : Fr m ma F0 I0 F I) (hQ : ∀ (z : Int) (F' : Fl) (I' : Il), Fr m ma F0 I0 F' I' → Qw z (mA ma m F' I') → Q z F' I') (h : W_X9_passSignal_77 x1 x2 s0 (mA ma m F I) Qw) : V_X9_passSignal_77 m x1 x2 s0 S F I Q := by
  unfold V_X9_passSignal_77
  unfold W_X9_passSignal_77 at h
  refine T_X9_in hM hF (fun z1 h => ?_) h
  try dsimp only at h
  refine ⟨fun c84 => ?_, fun c84 => ?_⟩
  · have h := h.1 c84
    exact T_X9_passSignal_116 hM  hF hQ h
  · have h := h.2 c84
    refine ⟨hM.1, ?_⟩
    refine T_X9_bar hM hF (fun z2 h => ?_) h
    try dsimp only at h
    refine ⟨fun c94 => ?_, fun c94 => ?_⟩
    · have h := h.1 c94
      exact T_X9_passSignal_116 hM  hF hQ h
    · have h := h.2 c94
      refine ⟨ma 17, (hM.2.1 17 rfl).1, ?_⟩
      refine ⟨(hM.2.1 17 rfl).2.1, ?_⟩
      obtain ⟨h0, h1, h⟩ := h
      refine ⟨h0, Ms.lt hM (k := 17) rfl h1, ?_⟩
      refine ⟨fun c104 => ?_, fun c104 => ?_⟩
      · have h := h.1 c104
        exact T_X9_passSignal_116 hM  hF hQ h
      · have h := h.2 c104
        refine ⟨ma 12, (hM.2.1 12 rfl).1, ?_⟩
        refine ⟨(hM.2.1 12 rfl).2.1, ?_⟩
        obtain ⟨h0, h1, h⟩ := h
        refine ⟨h0, Ms.lt hM (k := 12) rfl h1, ?_⟩
        refine ⟨fun c113 => ?_, fun c113 => ?_⟩
        · have h := h.1 c113
          rw [← mA_f (ma := ma) (m := m) (I := I) (k := 2) rfl] at h
          rw [← mA_f (ma := ma) (m := m) (I := I) (k := 4) rfl] at h
          obtain ⟨h0, h1, h⟩ := h
          refine ⟨h0, Ms.lt hM (k := 17) rfl h1, ?_⟩
          refine ⟨fun c146 => ?_, fun c146 => ?_⟩
          · have h := h.1 c146
            obtain ⟨h0, h1, h⟩ := h
            refine ⟨h0, Ms.lt hM (k := 17) rfl h1, ?_⟩
            refine T_X9_wrecks hM (Fr.f (k := 1004) (by decide) (Fr.f (k := 1002) (by decide) hF)) (fun I4 hF5 h => ?_) h
            try dsimp only at h
            refine T_X9_wrecks hM hF5 (fun I7 hF8 h => ?_) h
            try dsimp only at h
            obtain ⟨h0, h1, h⟩ := h
            refine ⟨h0, Ms.lt hM (k := 12) rfl h1, ?_⟩
            rw [← mA_i hM (F := (u2 (u2 F 1002 m _) 1004 m _)) (k := 12) rfl] at h
            exact hQ _ _ _ (Fr.i (k := 12) rfl hF8) h
          · have h := h.2 c146
            refine T_X9_enters hM (Fr.f (k := 1004) (by decide) (Fr.f (k := 1002) (by decide) hF)) (fun I10 hF11 h => ?_) h
            try dsimp only at h
            exact hQ _ _ _ hF11 h
        · have h := h.2 c113
          exact T_X9_passSignal_116 hM  hF hQ h
set_option maxRecDepth 20000 in
set_option maxHeartbeats 4000000 in
theorem T_X9_passSignal_46 {m : Nat} {ma : Nat → Nat} {S : Shp} {F0 : Fl} {I0 : Il}  {F : Fl} {I : Il} {x1 : Int} {s0 : Int} {Q : Int → Fl → Il → Prop} {Qw : Int → Il → Prop} (hM : Ms m ma S)  (hF : Fr m ma F0 I0 F I) (hQ : ∀ (z : Int) (F' : Fl) (I' : Il), Fr m ma F0 I0 F' I' → Qw z (mA ma m F' I') → Q z F' I') (h : W_X9_passSignal_46 x1 s0 (mA ma m F I) Qw) : V_X9_passSignal_46 m x1 s0 S F I Q := by
  unfold V_X9_passSignal_46
  unfold W_X9_passSignal_46 at h
  refine ⟨hM.1, ?_⟩
  refine ⟨ma 39, (hM.2.1 39 rfl).1, ?_⟩
  refine ⟨(hM.2.1 39 rfl).2.1, ?_⟩
  obtain ⟨h0, h1, h⟩ := h
  refine ⟨h0, Ms.lt hM (k := 39) rfl h1, ?_⟩
  refine ⟨fun c54 => ?_, fun c54 => ?_⟩
  · have h := h.1 c54
    exact T_X9_passSignal_77 hM  hF hQ h
  · have h := h.2 c54
    refine ⟨ma 45, (hM.2.1 45 rfl).1, ?_⟩
    refine ⟨ma 46, (hM.2.1 46 rfl).1, ?_⟩
    refine ⟨(hM.2.1 46 rfl).2.1, ?_⟩
    obtain ⟨h0, h1, h⟩ := h
    refine ⟨h0, Ms.lt hM (k := 46) rfl h1, ?_⟩
    refine ⟨(hM.2.1 45 rfl).2.1, ?_⟩
    obtain ⟨h0, h1, h⟩ := h
    refine ⟨h0, Ms.lt hM (k := 45) rfl h1, ?_⟩
    exact T_X9_passSignal_77 hM  hF hQ h
set_option maxRecDepth 20000 in
set_option maxHeartbeats 4000000 in
theorem T_X9_passSignal_14 {m : Nat} {ma : Nat → Nat} {S : Shp} {F0 : Fl} {I0 : Il}  {F : Fl} {I : Il} {x1 : Int} {s0 : Int} {Q : Int → Fl → Il → Prop} {Qw : Int → Il → Prop} (hM : Ms m ma S)  (hF : Fr m ma F0 I0 F I) (hQ : ∀ (z : Int) (F' : Fl) (I' : Il), Fr m ma F0 I0 F' I' → Qw z (mA ma m F' I') → Q z F' I') (h : W_X9_passSignal_14 x1 s0 (mA ma m F I) Qw) : V_X9_passSignal_14 m x1 s0 m S F I Q := by
  unfold V_X9_passSignal_14
  unfold W_X9_passSignal_14 at h
  refine ⟨hM.1, ?_⟩
  rw [← mA_f (ma := ma) (m := m) (I := I) (k := 0) rfl] at h
  refine ⟨hM.1, ?_⟩
  refine ⟨fun c21 => ?_, fun c21 => ?_⟩
  · have h := h.1 c21
    refine ⟨ma 39, (hM.2.1 39 rfl).1, ?_⟩
    refine ⟨(hM.2.1 39 rfl).2.1, ?_⟩
    obtain ⟨h0, h1, h⟩ := h
    refine ⟨h0, Ms.lt hM (k := 39) rfl h1, ?_⟩
    refine ⟨fun c33 => ?_, fun c33 => ?_⟩
    · have h := h.1 c33
      exact T_X9_passSignal_46 hM  (Fr.f (k := 1000) (by decide) hF) hQ h
    · have h := h.2 c33
      refine T_X9_bar hM (Fr.f (k := 1000) (by decide) hF) (fun z1 h => ?_) h
      try dsimp only at h
      exact T_X9_passSignal_46 hM  (Fr.f (k := 1000) (by decide) hF) hQ h
  · have h := h.2 c21
    exact hQ _ _ _ (Fr.f (k := 1000) (by decide) hF) h
set_option maxRecDepth 20000 in
set_option maxHeartbeats 4000000 in
theorem T_X9_passSignal {m : Nat} {ma : Nat → Nat} {S : Shp} {F0 : Fl} {I0 : Il}  {F : Fl} {I : Il} {x1 : Int} {Q : Int → Fl → Il → Prop} {Qw : Int → Il → Prop} (hM : Ms m ma S)  (hF : Fr m ma F0 I0 F I) (hQ : ∀ (z : Int) (F' : Fl) (I' : Il), Fr m ma F0 I0 F' I' → Qw z (mA ma m F' I') → Q z F' I') (h : W_X9_passSignal x1 (mA ma m F I) Qw) : V_X9_passSignal m x1 S F I Q := by
  unfold V_X9_passSignal
  unfold W_X9_passSignal at h
  refine ⟨hM.1, ?_⟩
  refine T_X9_isTrain hM hF (fun z1 h => ?_) h
  try dsimp only at h
  refine ⟨fun c6 => ?_, fun c6 => ?_⟩
  · have h := h.1 c6
    exact T_X9_passSignal_14 hM  hF hQ h
  · have h := h.2 c6
    exact T_X9_passSignal_14 hM  hF hQ h
set_option maxRecDepth 20000 in
set_option maxHeartbeats 4000000 in
theorem T_X9_pays_77 {m : Nat} {ma : Nat → Nat} {S : Shp} {F0 : Fl} {I0 : Il} {kv19 : Nat → Int → Fl → Prop} {k19 : Int → Il → Prop} {F : Fl} {I : Il} {x1 : Int} {s0 : Int} {s1 : Int} {Q : Fl → Prop} {Qw : Il → Prop} (hM : Ms m ma S) (hk19 : ∀ (x1 : Int) (F' : Fl), Fr m ma F0 I0 F' I → k19 x1 (mA ma m F' I) → kv19 m x1 F') (hF : Fr m ma F0 I0 F I) (hQ : ∀ (F' : Fl), Fr m ma F0 I0 F' I → Qw  (mA ma m F' I) → Q  F') (h : W_X9_pays_77 k19 x1 s0 s1 (mA ma m F I) Qw) : V_X9_pays_77 kv19 m x1 s0 s1 m S F I Q := by
  unfold V_X9_pays_77
  unfold W_X9_pays_77 at h
  refine ⟨hM.1, ?_⟩
  rw [← mA_f (ma := ma) (m := m) (I := I) (k := 2) rfl] at h
  exact hk19 _ _ (Fr.f (k := 1002) (by decide) hF) h
set_option maxRecDepth 20000 in
set_option maxHeartbeats 4000000 in
theorem T_X9_pays_76 {m : Nat} {ma : Nat → Nat} {S : Shp} {F0 : Fl} {I0 : Il} {kv19 : Nat → Int → Fl → Prop} {k19 : Int → Il → Prop} {F : Fl} {I : Il} {x1 : Int} {s0 : Int} {Q : Fl → Prop} {Qw : Il → Prop} (hM : Ms m ma S) (hk19 : ∀ (x1 : Int) (F' : Fl), Fr m ma F0 I0 F' I → k19 x1 (mA ma m F' I) → kv19 m x1 F') (hF : Fr m ma F0 I0 F I) (hQ : ∀ (F' : Fl), Fr m ma F0 I0 F' I → Qw  (mA ma m F' I) → Q  F') (h : W_X9_pays_76 k19 x1 s0 (mA ma m F I) Qw) : V_X9_pays_76 kv19 m x1 s0 m S F I Q := by
  unfold V_X9_pays_76
  unfold W_X9_pays_76 at h
  exact T_X9_pays_77 hM hk19 hF hQ h
set_option maxRecDepth 20000 in
set_option maxHeartbeats 4000000 in
theorem T_X9_pays_19 {m : Nat} {ma : Nat → Nat} {S : Shp} {F0 : Fl} {I0 : Il}  {I : Il} {Q : Fl → Prop} {Qw : Il → Prop} (hM : Ms m ma S)  (hQ : ∀ (F' : Fl), Fr m ma F0 I0 F' I → Qw  (mA ma m F' I) → Q  F') (n9 : Nat) : ∀ (x1 : Int) (F : Fl), Fr m ma F0 I0 F I → W_X9_pays_19 n9 x1 (mA ma m F I) Qw → V_X9_pays_19 n9 m x1 S F I Q := by
  induction n9 with
  | zero => intro x1 F hF h; exact h.elim
  | succ n ih =>
    intro x1 F hF h
    unfold V_X9_pays_19
    unfold W_X9_pays_19 at h
    refine ⟨hM.1, ?_⟩
    refine ⟨fun c24 => ?_, fun c24 => ?_⟩
    · have h := h.1 c24
      exact hQ _ hF h
    · have h := h.2 c24
      refine ⟨ma 33, (hM.2.1 33 rfl).1, ?_⟩
      refine ⟨(hM.2.1 33 rfl).2.1, ?_⟩
      obtain ⟨h0, h1, h⟩ := h
      refine ⟨h0, Ms.lt hM (k := 33) rfl h1, ?_⟩
      refine ⟨fun c39 => ?_, fun c39 => ?_⟩
      · have h := h.1 c39
        exact T_X9_pays_76 hM (fun y0 F' hF9 h9 => ih y0 F' hF9 h9) hF hQ h
      · have h := h.2 c39
        refine ⟨ma 32, (hM.2.1 32 rfl).1, ?_⟩
        refine ⟨(hM.2.1 32 rfl).2.1, ?_⟩
        obtain ⟨h0, h1, h⟩ := h
        refine ⟨h0, Ms.lt hM (k := 32) rfl h1, ?_⟩
        refine ⟨fun c49 => ?_, fun c49 => ?_⟩
        · have h := h.1 c49
          exact T_X9_pays_76 hM (fun y0 F' hF9 h9 => ih y0 F' hF9 h9) hF hQ h
        · have h := h.2 c49
          refine ⟨ma 56, (hM.2.1 56 rfl).1, ?_⟩
          obtain ⟨h0, h1, h⟩ := h
          refine ⟨h0, Ms.lt hM (k := 33) rfl h1, ?_⟩
          refine ⟨(hM.2.1 56 rfl).2.1, ?_⟩
          obtain ⟨h0, h1, h⟩ := h
          refine ⟨h0, Ms.lt hM (k := 56) rfl h1, ?_⟩
          refine ⟨ma 31, (hM.2.1 31 rfl).1, ?_⟩
          refine ⟨(hM.2.1 31 rfl).2.1, ?_⟩
          obtain ⟨h0, h1, h⟩ := h
          refine ⟨h0, Ms.lt hM (k := 31) rfl h1, ?_⟩
          refine ⟨fun c69 => ?_, fun c69 => ?_⟩
          · have h := h.1 c69
            exact T_X9_pays_76 hM (fun y0 F' hF9 h9 => ih y0 F' hF9 h9) hF hQ h
          · have h := h.2 c69
            exact T_X9_pays_77 hM (fun y0 F' hF9 h9 => ih y0 F' hF9 h9) hF hQ h
set_option maxRecDepth 20000 in
set_option maxHeartbeats 4000000 in
theorem T_X9_pays {m : Nat} {ma : Nat → Nat} {S : Shp} {F0 : Fl} {I0 : Il}  {F : Fl} {I : Il}  {Q : Fl → Prop} {Qw : Il → Prop} (hM : Ms m ma S)  (hF : Fr m ma F0 I0 F I) (hQ : ∀ (F' : Fl), Fr m ma F0 I0 F' I → Qw  (mA ma m F' I) → Q  F') (h : W_X9_pays (mA ma m F I) Qw) : V_X9_pays m S F I Q := by
  unfold V_X9_pays
  unfold W_X9_pays at h
  refine ⟨hM.1, ?_⟩
  rw [← mA_f (ma := ma) (m := m) (I := I) (k := 2) rfl] at h
  obtain ⟨n9, h⟩ := h
  exact ⟨n9, T_X9_pays_19 hM  hQ n9 _ _ (Fr.f (k := 1002) (by decide) hF) h⟩
set_option maxRecDepth 20000 in
set_option maxHeartbeats 4000000 in
theorem T_X9_plan_119 {m : Nat} {ma : Nat → Nat} {S : Shp} {F0 : Fl} {I0 : Il}  {F : Fl} {I : Il}  {Q : Int → Fl → Il → Prop} {Qw : Int → Il → Prop} (hM : Ms m ma S)  (hF : Fr m ma F0 I0 F I) (hQ : ∀ (z : Int) (F' : Fl) (I' : Il), Fr m ma F0 I0 F' I' → Qw z (mA ma m F' I') → Q z F' I') (h : W_X9_plan_119 (mA ma m F I) Qw) : V_X9_plan_119 m S F I Q := by
  unfold V_X9_plan_119
  unfold W_X9_plan_119 at h
  refine ⟨hM.1, ?_⟩
  refine T_X9_fails hM hF (fun z1 F3 hF4 h => ?_) h
  try dsimp only at h
  exact hQ _ _ _ hF4 h
set_option maxRecDepth 20000 in
set_option maxHeartbeats 4000000 in
theorem T_X9_plan_128 {m : Nat} {ma : Nat → Nat} {S : Shp} {F0 : Fl} {I0 : Il}   {Q : Int → Fl → Il → Prop} {Qw : Int → Il → Prop} (hM : Ms m ma S)  (hQ : ∀ (z : Int) (F' : Fl) (I' : Il), Fr m ma F0 I0 F' I' → Qw z (mA ma m F' I') → Q z F' I') (n9 : Nat) : ∀ (x1 : Int) (x2 : Int) (x3 : Int) (x4 : Int) (x5 : Int) (F : Fl) (I : Il), Fr m ma F0 I0 F I → W_X9_plan_128 n9 x1 x2 x3 x4 x5 (mA ma m F I) Qw → V_X9_plan_128 n9 m x1 x2 x3 x4 x5 S F I Q := by
  induction n9 with
  | zero => intro x1 x2 x3 x4 x5 F I hF h; exact h.elim
  | succ n ih =>
    intro x1 x2 x3 x4 x5 F I hF h
    unfold V_X9_plan_128
    unfold W_X9_plan_128 at h
    refine ⟨hM.1, ?_⟩
    refine ⟨fun c134 => ?_, fun c134 => ?_⟩
    · have h := h.1 c134
      refine ⟨ma 46, (hM.2.1 46 rfl).1, ?_⟩
      refine ⟨(hM.2.1 46 rfl).2.1, ?_⟩
      obtain ⟨h0, h1, h⟩ := h
      refine ⟨h0, Ms.lt hM (k := 46) rfl h1, ?_⟩
      rw [← mA_i hM (F := F) (k := 46) rfl] at h
      refine ⟨ma 47, (hM.2.1 47 rfl).1, ?_⟩
      refine ⟨(hM.2.1 47 rfl).2.1, ?_⟩
      obtain ⟨h0, h1, h⟩ := h
      refine ⟨h0, Ms.lt hM (k := 47) rfl h1, ?_⟩
      rw [← mA_i hM (F := F) (k := 47) rfl] at h
      refine ⟨ma 48, (hM.2.1 48 rfl).1, ?_⟩
      refine ⟨(hM.2.1 48 rfl).2.1, ?_⟩
      obtain ⟨h0, h1, h⟩ := h
      refine ⟨h0, Ms.lt hM (k := 48) rfl h1, ?_⟩
      rw [← mA_i hM (F := F) (k := 48) rfl] at h
      refine ⟨ma 49, (hM.2.1 49 rfl).1, ?_⟩
      refine ⟨(hM.2.1 49 rfl).2.1, ?_⟩
      obtain ⟨h0, h1, h⟩ := h
      refine ⟨h0, Ms.lt hM (k := 49) rfl h1, ?_⟩
      rw [← mA_i hM (F := F) (k := 49) rfl] at h
      refine ⟨ma 39, (hM.2.1 39 rfl).1, ?_⟩
      refine ⟨(hM.2.1 39 rfl).2.1, ?_⟩
      obtain ⟨h0, h1, h⟩ := h
      refine ⟨h0, Ms.lt hM (k := 39) rfl h1, ?_⟩
      rw [← mA_i hM (F := F) (k := 39) rfl] at h
      rw [← mA_f (ma := ma) (m := m) (I := (ui (ui (ui (ui (ui I (ma 46) _ _) (ma 47) _ _) (ma 48) _ _) (ma 49) _ _) (ma 39) _ _)) (k := 52) rfl] at h
      exact hQ _ _ _ (Fr.f (k := 1052) (by decide) (Fr.i (k := 39) rfl (Fr.i (k := 49) rfl (Fr.i (k := 48) rfl (Fr.i (k := 47) rfl (Fr.i (k := 46) rfl hF)))))) h
    · have h := h.2 c134
      refine ⟨ma 45, (hM.2.1 45 rfl).1, ?_⟩
      refine ⟨ma 53, (hM.2.1 53 rfl).1, ?_⟩
      refine ⟨(hM.2.1 53 rfl).2.1, ?_⟩
      obtain ⟨h0, h1, h⟩ := h
      refine ⟨h0, Ms.lt hM (k := 53) rfl h1, ?_⟩
      refine ⟨(hM.2.1 45 rfl).2.1, ?_⟩
      obtain ⟨h0, h1, h⟩ := h
      refine ⟨h0, Ms.lt hM (k := 45) rfl h1, ?_⟩
      rw [← mA_i hM (F := F) (k := 45) rfl] at h
      exact ih _ _ _ _ _ _ _ (Fr.i (k := 45) rfl hF) h
set_option maxRecDepth 20000 in
set_option maxHeartbeats 4000000 in
theorem T_X9_plan_98 {m : Nat} {ma : Nat → Nat} {S : Shp} {F0 : Fl} {I0 : Il}  {F : Fl} {I : Il} {x1 : Int} {x2 : Int} {x3 : Int} {x4 : Int} {Q : Int → Fl → Il → Prop} {Qw : Int → Il → Prop} (hM : Ms m ma S)  (hF : Fr m ma F0 I0 F I) (hQ : ∀ (z : Int) (F' : Fl) (I' : Il), Fr m ma F0 I0 F' I' → Qw z (mA ma m F' I') → Q z F' I') (h : W_X9_plan_98 x1 x2 x3 x4 (mA ma m F I) Qw) : V_X9_plan_98 m x1 x2 x3 x4 S F I Q := by
  unfold V_X9_plan_98
  unfold W_X9_plan_98 at h
  refine ⟨hM.1, ?_⟩
  refine T_X9_stands hM hF (fun z1 h => ?_) h
  try dsimp only at h
  refine ⟨fun c103 => ?_, fun c103 => ?_⟩
  · have h := h.1 c103
    exact T_X9_plan_119 hM  hF hQ h
  · have h := h.2 c103
    refine ⟨fun c110 => ?_, fun c110 => ?_⟩
    · have h := h.1 c110
      exact T_X9_plan_119 hM  hF hQ h
    · have h := h.2 c110
      refine ⟨fun c116 => ?_, fun c116 => ?_⟩
      · have h := h.1 c116
        obtain ⟨n9, h⟩ := h
        exact ⟨n9, T_X9_plan_128 hM  hQ n9 _ _ _ _ _ _ _ hF h⟩
      · have h := h.2 c116
        exact T_X9_plan_119 hM  hF hQ h
set_option maxRecDepth 20000 in
set_option maxHeartbeats 4000000 in
theorem T_X9_plan_62 {m : Nat} {ma : Nat → Nat} {S : Shp} {F0 : Fl} {I0 : Il}   {Q : Int → Fl → Il → Prop} {Qw : Int → Il → Prop} (hM : Ms m ma S)  (hQ : ∀ (z : Int) (F' : Fl) (I' : Il), Fr m ma F0 I0 F' I' → Qw z (mA ma m F' I') → Q z F' I') (n9 : Nat) : ∀ (x1 : Int) (x2 : Int) (x3 : Int) (x4 : Int) (x5 : Int) (F : Fl) (I : Il), Fr m ma F0 I0 F I → W_X9_plan_62 n9 x1 x2 x3 x4 x5 (mA ma m F I) Qw → V_X9_plan_62 n9 m x1 x2 x3 x4 x5 S F I Q := by
  induction n9 with
  | zero => intro x1 x2 x3 x4 x5 F I hF h; exact h.elim
  | succ n ih =>
    intro x1 x2 x3 x4 x5 F I hF h
    unfold V_X9_plan_62
    unfold W_X9_plan_62 at h
    refine ⟨hM.1, ?_⟩
    refine ⟨fun c68 => ?_, fun c68 => ?_⟩
    · have h := h.1 c68
      exact T_X9_plan_98 hM  hF hQ h
    · have h := h.2 c68
      refine ⟨fun c74 => ?_, fun c74 => ?_⟩
      · have h := h.1 c74
        exact T_X9_plan_98 hM  hF hQ h
      · have h := h.2 c74
        refine ⟨ma 53, (hM.2.1 53 rfl).1, ?_⟩
        refine ⟨(hM.2.1 53 rfl).2.1, ?_⟩
        obtain ⟨h0, h1, h⟩ := h
        refine ⟨h0, Ms.lt hM (k := 53) rfl h1, ?_⟩
        refine T_X9_other hM hF (fun z1 h => ?_) h
        try dsimp only at h
        exact ih _ _ _ _ _ _ _ hF h
set_option maxRecDepth 20000 in
set_option maxHeartbeats 4000000 in
theorem T_X9_plan_39 {m : Nat} {ma : Nat → Nat} {S : Shp} {F0 : Fl} {I0 : Il}  {F : Fl} {I : Il} {x1 : Int} {x2 : Int} {x3 : Int} {s0 : Int} {Q : Int → Fl → Il → Prop} {Qw : Int → Il → Prop} (hM : Ms m ma S)  (hF : Fr m ma F0 I0 F I) (hQ : ∀ (z : Int) (F' : Fl) (I' : Il), Fr m ma F0 I0 F' I' → Qw z (mA ma m F' I') → Q z F' I') (h : W_X9_plan_39 x1 x2 x3 s0 (mA ma m F I) Qw) : V_X9_plan_39 m x1 x2 x3 s0 m S F I Q := by
  unfold V_X9_plan_39
  unfold W_X9_plan_39 at h
  refine ⟨hM.1, ?_⟩
  rw [← mA_f (ma := ma) (m := m) (I := I) (k := 0) rfl] at h
  refine ⟨hM.1, ?_⟩
  refine ⟨fun c46 => ?_, fun c46 => ?_⟩
  · have h := h.1 c46
    refine ⟨ma 40, (hM.2.1 40 rfl).1, ?_⟩
    refine ⟨(hM.2.1 40 rfl).2.1, ?_⟩
    obtain ⟨h0, h1, h⟩ := h
    refine ⟨h0, Ms.lt hM (k := 40) rfl h1, ?_⟩
    obtain ⟨n9, h⟩ := h
    exact ⟨n9, T_X9_plan_62 hM  hQ n9 _ _ _ _ _ _ _ (Fr.f (k := 1000) (by decide) hF) h⟩
  · have h := h.2 c46
    exact hQ _ _ _ (Fr.f (k := 1000) (by decide) hF) h
set_option maxRecDepth 20000 in
set_option maxHeartbeats 4000000 in
theorem T_X9_plan_34 {m : Nat} {ma : Nat → Nat} {S : Shp} {F0 : Fl} {I0 : Il}  {F : Fl} {I : Il} {x1 : Int} {x2 : Int} {x3 : Int} {Q : Int → Fl → Il → Prop} {Qw : Int → Il → Prop} (hM : Ms m ma S)  (hF : Fr m ma F0 I0 F I) (hQ : ∀ (z : Int) (F' : Fl) (I' : Il), Fr m ma F0 I0 F' I' → Qw z (mA ma m F' I') → Q z F' I') (h : W_X9_plan_34 x1 x2 x3 (mA ma m F I) Qw) : V_X9_plan_34 m x1 x2 x3 m S F I Q := by
  unfold V_X9_plan_34
  unfold W_X9_plan_34 at h
  exact T_X9_plan_39 hM  hF hQ h
set_option maxRecDepth 20000 in
set_option maxHeartbeats 4000000 in
theorem T_X9_plan {m : Nat} {ma : Nat → Nat} {S : Shp} {F0 : Fl} {I0 : Il}  {F : Fl} {I : Il} {x1 : Int} {x2 : Int} {x3 : Int} {Q : Int → Fl → Il → Prop} {Qw : Int → Il → Prop} (hM : Ms m ma S)  (hF : Fr m ma F0 I0 F I) (hQ : ∀ (z : Int) (F' : Fl) (I' : Il), Fr m ma F0 I0 F' I' → Qw z (mA ma m F' I') → Q z F' I') (h : W_X9_plan x1 x2 x3 (mA ma m F I) Qw) : V_X9_plan m x1 x2 x3 S F I Q := by
  unfold V_X9_plan
  unfold W_X9_plan at h
  refine ⟨hM.1, ?_⟩
  refine T_X9_isTrain hM hF (fun z1 h => ?_) h
  try dsimp only at h
  refine ⟨fun c6 => ?_, fun c6 => ?_⟩
  · have h := h.1 c6
    refine T_X9_in hM hF (fun z2 h => ?_) h
    try dsimp only at h
    refine ⟨fun c21 => ?_, fun c21 => ?_⟩
    · have h := h.1 c21
      exact T_X9_plan_34 hM  hF hQ h
    · have h := h.2 c21
      refine T_X9_in hM hF (fun z3 h => ?_) h
      try dsimp only at h
      refine ⟨fun c31 => ?_, fun c31 => ?_⟩
      · have h := h.1 c31
        exact T_X9_plan_39 hM  hF hQ h
      · have h := h.2 c31
        exact T_X9_plan_34 hM  hF hQ h
  · have h := h.2 c6
    exact T_X9_plan_39 hM  hF hQ h
set_option maxRecDepth 20000 in
set_option maxHeartbeats 4000000 in
theorem T_X9_rate_58 {m : Nat} {ma : Nat → Nat} {S : Shp} {F0 : Fl} {I0 : Il}  {F : Fl} {I : Il} {x1 : Int} {x2 : Int} {x4 : Int} {s0 : Int} {Q : Int → Fl → Il → Prop} {Qw : Int → Il → Prop} (hM : Ms m ma S)  (hF : Fr m ma F0 I0 F I) (hQ : ∀ (z : Int) (F' : Fl) (I' : Il), Fr m ma F0 I0 F' I' → Qw z (mA ma m F' I') → Q z F' I') (h : W_X9_rate_58 x1 x2 x4 s0 (mA ma m F I) Qw) : V_X9_rate_58 m x1 x2 x4 s0 S F I Q := by
  unfold V_X9_rate_58
  unfold W_X9_rate_58 at h
  refine ⟨hM.1, ?_⟩
  refine ⟨ma 59, (hM.2.1 59 rfl).1, ?_⟩
  refine ⟨(hM.2.1 59 rfl).2.1, ?_⟩
  obtain ⟨h0, h1, h⟩ := h
  refine ⟨h0, Ms.lt hM (k := 59) rfl h1, ?_⟩
  obtain ⟨h0, h1, h⟩ := h
  refine ⟨h0, Ms.lt hM (k := 59) rfl h1, ?_⟩
  rw [← mA_i hM (F := F) (k := 59) rfl] at h
  exact hQ _ _ _ (Fr.i (k := 59) rfl hF) h
set_option maxRecDepth 20000 in
set_option maxHeartbeats 4000000 in
theorem T_X9_rate_36 {m : Nat} {ma : Nat → Nat} {S : Shp} {F0 : Fl} {I0 : Il}  {F : Fl} {I : Il} {x1 : Int} {x2 : Int} {x3 : Int} {x4 : Int} {s0 : Int} {Q : Int → Fl → Il → Prop} {Qw : Int → Il → Prop} (hM : Ms m ma S)  (hF : Fr m ma F0 I0 F I) (hQ : ∀ (z : Int) (F' : Fl) (I' : Il), Fr m ma F0 I0 F' I' → Qw z (mA ma m F' I') → Q z F' I') (h : W_X9_rate_36 x1 x2 x3 x4 s0 (mA ma m F I) Qw) : V_X9_rate_36 m x1 x2 x3 x4 s0 m S F I Q := by
  unfold V_X9_rate_36
  unfold W_X9_rate_36 at h
  refine ⟨hM.1, ?_⟩
  rw [← mA_f (ma := ma) (m := m) (I := I) (k := 0) rfl] at h
  refine ⟨hM.1, ?_⟩
  refine ⟨fun c43 => ?_, fun c43 => ?_⟩
  · have h := h.1 c43
    refine ⟨fun c49 => ?_, fun c49 => ?_⟩
    · have h := h.1 c49
      exact T_X9_rate_58 hM  (Fr.f (k := 1000) (by decide) hF) hQ h
    · have h := h.2 c49
      exact T_X9_rate_58 hM  (Fr.f (k := 1000) (by decide) hF) hQ h
  · have h := h.2 c43
    exact hQ _ _ _ (Fr.f (k := 1000) (by decide) hF) h
set_option maxRecDepth 20000 in
set_option maxHeartbeats 4000000 in
theorem T_X9_rate_15 {m : Nat} {ma : Nat → Nat} {S : Shp} {F0 : Fl} {I0 : Il}  {F : Fl} {I : Il} {x1 : Int} {x2 : Int} {x3 : Int} {x4 : Int} {Q : Int → Fl → Il → Prop} {Qw : Int → Il → Prop} (hM : Ms m ma S)  (hF : Fr m ma F0 I0 F I) (hQ : ∀ (z : Int) (F' : Fl) (I' : Il), Fr m ma F0 I0 F' I' → Qw z (mA ma m F' I') → Q z F' I') (h : W_X9_rate_15 x1 x2 x3 x4 (mA ma m F I) Qw) : V_X9_rate_15 m x1 x2 x3 x4 m S F I Q := by
  unfold V_X9_rate_15
  unfold W_X9_rate_15 at h
  exact T_X9_rate_36 hM  hF hQ h
set_option maxRecDepth 20000 in
set_option maxHeartbeats 4000000 in
theorem T_X9_rate {m : Nat} {ma : Nat → Nat} {S : Shp} {F0 : Fl} {I0 : Il}  {F : Fl} {I : Il} {x1 : Int} {x2 : Int} {x3 : Int} {x4 : Int} {Q : Int → Fl → Il → Prop} {Qw : Int → Il → Prop} (hM : Ms m ma S)  (hF : Fr m ma F0 I0 F I) (hQ : ∀ (z : Int) (F' : Fl) (I' : Il), Fr m ma F0 I0 F' I' → Qw z (mA ma m F' I') → Q z F' I') (h : W_X9_rate x1 x2 x3 x4 (mA ma m F I) Qw) : V_X9_rate m x1 x2 x3 x4 S F I Q := by
  unfold V_X9_rate
  unfold W_X9_rate at h
  refine T_X9_isStation hM hF (fun z1 h => ?_) h
  try dsimp only at h
  refine ⟨fun c5 => ?_, fun c5 => ?_⟩
  · have h := h.1 c5
    exact T_X9_rate_15 hM  hF hQ h
  · have h := h.2 c5
    refine T_X9_isStation hM hF (fun z2 h => ?_) h
    try dsimp only at h
    refine ⟨fun c12 => ?_, fun c12 => ?_⟩
    · have h := h.1 c12
      refine T_X9_in hM hF (fun z3 h => ?_) h
      try dsimp only at h
      refine ⟨fun c28 => ?_, fun c28 => ?_⟩
      · have h := h.1 c28
        exact T_X9_rate_36 hM  hF hQ h
      · have h := h.2 c28
        exact T_X9_rate_36 hM  hF hQ h
    · have h := h.2 c12
      exact T_X9_rate_15 hM  hF hQ h
set_option maxRecDepth 20000 in
set_option maxHeartbeats 4000000 in
theorem T_X9_repair_36 {m : Nat} {ma : Nat → Nat} {S : Shp} {F0 : Fl} {I0 : Il}  {F : Fl} {I : Il} {x1 : Int} {s0 : Int} {Q : Int → Fl → Il → Prop} {Qw : Int → Il → Prop} (hM : Ms m ma S)  (hF : Fr m ma F0 I0 F I) (hQ : ∀ (z : Int) (F' : Fl) (I' : Il), Fr m ma F0 I0 F' I' → Qw z (mA ma m F' I') → Q z F' I') (h : W_X9_repair_36 x1 s0 (mA ma m F I) Qw) : V_X9_repair_36 m x1 s0 m S F I Q := by
  unfold V_X9_repair_36
  unfold W_X9_repair_36 at h
  refine ⟨hM.1, ?_⟩
  rw [← mA_f (ma := ma) (m := m) (I := I) (k := 0) rfl] at h
  refine ⟨hM.1, ?_⟩
  refine ⟨fun c43 => ?_, fun c43 => ?_⟩
  · have h := h.1 c43
    refine ⟨ma 10, (hM.2.1 10 rfl).1, ?_⟩
    refine ⟨(hM.2.1 10 rfl).2.1, ?_⟩
    obtain ⟨h0, h1, h⟩ := h
    refine ⟨h0, Ms.lt hM (k := 10) rfl h1, ?_⟩
    rw [← mA_f (ma := ma) (m := m) (I := I) (k := 2) rfl] at h
    obtain ⟨h0, h1, h⟩ := h
    refine ⟨h0, Ms.lt hM (k := 10) rfl h1, ?_⟩
    rw [← mA_i hM (F := (u2 (u2 F 1000 m _) 1002 m _)) (k := 10) rfl] at h
    refine ⟨ma 11, (hM.2.1 11 rfl).1, ?_⟩
    refine ⟨(hM.2.1 11 rfl).2.1, ?_⟩
    obtain ⟨h0, h1, h⟩ := h
    refine ⟨h0, Ms.lt hM (k := 11) rfl h1, ?_⟩
    rw [← mA_i hM (F := (u2 (u2 F 1000 m _) 1002 m _)) (k := 11) rfl] at h
    exact hQ _ _ _ (Fr.i (k := 11) rfl (Fr.i (k := 10) rfl (Fr.f (k := 1002) (by decide) (Fr.f (k := 1000) (by decide) hF)))) h
  · have h := h.2 c43
    exact hQ _ _ _ (Fr.f (k := 1000) (by decide) hF) h
set_option maxRecDepth 20000 in
set_option maxHeartbeats 4000000 in
theorem T_X9_repair_31 {m : Nat} {ma : Nat → Nat} {S : Shp} {F0 : Fl} {I0 : Il}  {F : Fl} {I : Il} {x1 : Int} {Q : Int → Fl → Il → Prop} {Qw : Int → Il → Prop} (hM : Ms m ma S)  (hF : Fr m ma F0 I0 F I) (hQ : ∀ (z : Int) (F' : Fl) (I' : Il), Fr m ma F0 I0 F' I' → Qw z (mA ma m F' I') → Q z F' I') (h : W_X9_repair_31 x1 (mA ma m F I) Qw) : V_X9_repair_31 m x1 m S F I Q := by
  unfold V_X9_repair_31
  unfold W_X9_repair_31 at h
  exact T_X9_repair_36 hM  hF hQ h
set_option maxRecDepth 20000 in
set_option maxHeartbeats 4000000 in
theorem T_X9_repair {m : Nat} {ma : Nat → Nat} {S : Shp} {F0 : Fl} {I0 : Il}  {F : Fl} {I : Il} {x1 : Int} {Q : Int → Fl → Il → Prop} {Qw : Int → Il → Prop} (hM : Ms m ma S)  (hF : Fr m ma F0 I0 F I) (hQ : ∀ (z : Int) (F' : Fl) (I' : Il), Fr m ma F0 I0 F' I' → Qw z (mA ma m F' I') → Q z F' I') (h : W_X9_repair x1 (mA ma m F I) Qw) : V_X9_repair m x1 S F I Q := by
  unfold V_X9_repair
  unfold W_X9_repair at h
  refine ⟨hM.1, ?_⟩
  refine T_X9_isBlock hM hF (fun z1 h => ?_) h
  try dsimp only at h
  refine ⟨fun c6 => ?_, fun c6 => ?_⟩
  · have h := h.1 c6
    refine ⟨ma 17, (hM.2.1 17 rfl).1, ?_⟩
    refine ⟨(hM.2.1 17 rfl).2.1, ?_⟩
    obtain ⟨h0, h1, h⟩ := h
    refine ⟨h0, Ms.lt hM (k := 17) rfl h1, ?_⟩
    refine ⟨fun c20 => ?_, fun c20 => ?_⟩
    · have h := h.1 c20
      exact T_X9_repair_31 hM  hF hQ h
    · have h := h.2 c20
      refine T_X9_isClosed hM hF (fun z2 h => ?_) h
      try dsimp only at h
      refine ⟨fun c28 => ?_, fun c28 => ?_⟩
      · have h := h.1 c28
        exact T_X9_repair_36 hM  hF hQ h
      · have h := h.2 c28
        exact T_X9_repair_31 hM  hF hQ h
  · have h := h.2 c6
    exact T_X9_repair_36 hM  hF hQ h
set_option maxRecDepth 20000 in
set_option maxHeartbeats 4000000 in
theorem T_X9_repay_36 {m : Nat} {ma : Nat → Nat} {S : Shp} {F0 : Fl} {I0 : Il}  {F : Fl} {I : Il} {x1 : Int} {s0 : Int} {Q : Int → Fl → Prop} {Qw : Int → Il → Prop} (hM : Ms m ma S)  (hF : Fr m ma F0 I0 F I) (hQ : ∀ (z : Int) (F' : Fl), Fr m ma F0 I0 F' I → Qw z (mA ma m F' I) → Q z F') (h : W_X9_repay_36 x1 s0 (mA ma m F I) Qw) : V_X9_repay_36 m x1 s0 m S F I Q := by
  unfold V_X9_repay_36
  unfold W_X9_repay_36 at h
  refine ⟨hM.1, ?_⟩
  rw [← mA_f (ma := ma) (m := m) (I := I) (k := 0) rfl] at h
  refine ⟨hM.1, ?_⟩
  refine ⟨fun c43 => ?_, fun c43 => ?_⟩
  · have h := h.1 c43
    rw [← mA_f (ma := ma) (m := m) (I := I) (k := 2) rfl] at h
    rw [← mA_f (ma := ma) (m := m) (I := I) (k := 3) rfl] at h
    exact hQ _ _ (Fr.f (k := 1003) (by decide) (Fr.f (k := 1002) (by decide) (Fr.f (k := 1000) (by decide) hF))) h
  · have h := h.2 c43
    exact hQ _ _ (Fr.f (k := 1000) (by decide) hF) h
set_option maxRecDepth 20000 in
set_option maxHeartbeats 4000000 in
theorem T_X9_repay_31 {m : Nat} {ma : Nat → Nat} {S : Shp} {F0 : Fl} {I0 : Il}  {F : Fl} {I : Il} {x1 : Int} {Q : Int → Fl → Prop} {Qw : Int → Il → Prop} (hM : Ms m ma S)  (hF : Fr m ma F0 I0 F I) (hQ : ∀ (z : Int) (F' : Fl), Fr m ma F0 I0 F' I → Qw z (mA ma m F' I) → Q z F') (h : W_X9_repay_31 x1 (mA ma m F I) Qw) : V_X9_repay_31 m x1 m S F I Q := by
  unfold V_X9_repay_31
  unfold W_X9_repay_31 at h
  exact T_X9_repay_36 hM  hF hQ h
set_option maxRecDepth 20000 in
set_option maxHeartbeats 4000000 in
theorem T_X9_repay {m : Nat} {ma : Nat → Nat} {S : Shp} {F0 : Fl} {I0 : Il}  {F : Fl} {I : Il} {x1 : Int} {Q : Int → Fl → Prop} {Qw : Int → Il → Prop} (hM : Ms m ma S)  (hF : Fr m ma F0 I0 F I) (hQ : ∀ (z : Int) (F' : Fl), Fr m ma F0 I0 F' I → Qw z (mA ma m F' I) → Q z F') (h : W_X9_repay x1 (mA ma m F I) Qw) : V_X9_repay m x1 S F I Q := by
  unfold V_X9_repay
  unfold W_X9_repay at h
  refine T_X9_in hM hF (fun z1 h => ?_) h
  try dsimp only at h
  refine ⟨fun c8 => ?_, fun c8 => ?_⟩
  · have h := h.1 c8
    refine ⟨hM.1, ?_⟩
    refine ⟨fun c20 => ?_, fun c20 => ?_⟩
    · have h := h.1 c20
      exact T_X9_repay_31 hM  hF hQ h
    · have h := h.2 c20
      refine ⟨fun c28 => ?_, fun c28 => ?_⟩
      · have h := h.1 c28
        exact T_X9_repay_36 hM  hF hQ h
      · have h := h.2 c28
        exact T_X9_repay_31 hM  hF hQ h
  · have h := h.2 c8
    exact T_X9_repay_36 hM  hF hQ h
set_option maxRecDepth 20000 in
set_option maxHeartbeats 4000000 in
theorem T_X9_rest_49 {m : Nat} {ma : Nat → Nat} {S : Shp} {F0 : Fl} {I0 : Il}  {F : Fl} {I : Il} {x1 : Int} {s0 : Int} {Q : Int → Fl → Il → Prop} {Qw : Int → Il → Prop} (hM : Ms m ma S)  (hF : Fr m ma F0 I0 F I) (hQ : ∀ (z : Int) (F' : Fl) (I' : Il), Fr m ma F0 I0 F' I' → Qw z (mA ma m F' I') → Q z F' I') (h : W_X9_rest_49 x1 s0 (mA ma m F I) Qw) : V_X9_rest_49 m x1 s0 m S F I Q := by
  unfold V_X9_rest_49
  unfold W_X9_rest_49 at h
  refine ⟨hM.1, ?_⟩
  rw [← mA_f (ma := ma) (m := m) (I := I) (k := 0) rfl] at h
  refine ⟨hM.1, ?_⟩
  refine ⟨fun c56 => ?_, fun c56 => ?_⟩
  · have h := h.1 c56
    refine ⟨ma 27, (hM.2.1 27 rfl).1, ?_⟩
    refine ⟨(hM.2.1 27 rfl).2.1, ?_⟩
    obtain ⟨h0, h1, h⟩ := h
    refine ⟨h0, Ms.lt hM (k := 27) rfl h1, ?_⟩
    rw [← mA_i hM (F := (u2 F 1000 m _)) (k := 27) rfl] at h
    refine ⟨ma 26, (hM.2.1 26 rfl).1, ?_⟩
    refine ⟨(hM.2.1 26 rfl).2.1, ?_⟩
    obtain ⟨h0, h1, h⟩ := h
    refine ⟨h0, Ms.lt hM (k := 26) rfl h1, ?_⟩
    rw [← mA_i hM (F := (u2 F 1000 m _)) (k := 26) rfl] at h
    obtain ⟨h0, h1, h⟩ := h
    refine ⟨h0, Ms.lt hM (k := 27) rfl h1, ?_⟩
    exact hQ _ _ _ (Fr.i (k := 26) rfl (Fr.i (k := 27) rfl (Fr.f (k := 1000) (by decide) hF))) h
  · have h := h.2 c56
    exact hQ _ _ _ (Fr.f (k := 1000) (by decide) hF) h
set_option maxRecDepth 20000 in
set_option maxHeartbeats 4000000 in
theorem T_X9_rest_44 {m : Nat} {ma : Nat → Nat} {S : Shp} {F0 : Fl} {I0 : Il}  {F : Fl} {I : Il} {x1 : Int} {Q : Int → Fl → Il → Prop} {Qw : Int → Il → Prop} (hM : Ms m ma S)  (hF : Fr m ma F0 I0 F I) (hQ : ∀ (z : Int) (F' : Fl) (I' : Il), Fr m ma F0 I0 F' I' → Qw z (mA ma m F' I') → Q z F' I') (h : W_X9_rest_44 x1 (mA ma m F I) Qw) : V_X9_rest_44 m x1 m S F I Q := by
  unfold V_X9_rest_44
  unfold W_X9_rest_44 at h
  exact T_X9_rest_49 hM  hF hQ h
set_option maxRecDepth 20000 in
set_option maxHeartbeats 4000000 in
theorem T_X9_rest_48 {m : Nat} {ma : Nat → Nat} {S : Shp} {F0 : Fl} {I0 : Il}  {F : Fl} {I : Il} {x1 : Int} {Q : Int → Fl → Il → Prop} {Qw : Int → Il → Prop} (hM : Ms m ma S)  (hF : Fr m ma F0 I0 F I) (hQ : ∀ (z : Int) (F' : Fl) (I' : Il), Fr m ma F0 I0 F' I' → Qw z (mA ma m F' I') → Q z F' I') (h : W_X9_rest_48 x1 (mA ma m F I) Qw) : V_X9_rest_48 m x1 m S F I Q := by
  unfold V_X9_rest_48
  unfold W_X9_rest_48 at h
  exact T_X9_rest_49 hM  hF hQ h
set_option maxRecDepth 20000 in
set_option maxHeartbeats 4000000 in
theorem T_X9_rest {m : Nat} {ma : Nat → Nat} {S : Shp} {F0 : Fl} {I0 : Il}  {F : Fl} {I : Il} {x1 : Int} {Q : Int → Fl → Il → Prop} {Qw : Int → Il → Prop} (hM : Ms m ma S)  (hF : Fr m ma F0 I0 F I) (hQ : ∀ (z : Int) (F' : Fl) (I' : Il), Fr m ma F0 I0 F' I' → Qw z (mA ma m F' I') → Q z F' I') (h : W_X9_rest x1 (mA ma m F I) Qw) : V_X9_rest m x1 S F I Q := by
  unfold V_X9_rest
  unfold W_X9_rest at h
  refine ⟨hM.1, ?_⟩
  refine T_X9_isCrew hM hF (fun z1 h => ?_) h
  try dsimp only at h
  refine ⟨fun c6 => ?_, fun c6 => ?_⟩
  · have h := h.1 c6
    refine T_X9_rests hM hF (fun z2 h => ?_) h
    try dsimp only at h
    refine ⟨fun c18 => ?_, fun c18 => ?_⟩
    · have h := h.1 c18
      exact T_X9_rest_44 hM  hF hQ h
    · have h := h.2 c18
      refine ⟨ma 25, (hM.2.1 25 rfl).1, ?_⟩
      refine ⟨(hM.2.1 25 rfl).2.1, ?_⟩
      obtain ⟨h0, h1, h⟩ := h
      refine ⟨h0, Ms.lt hM (k := 25) rfl h1, ?_⟩
      refine ⟨fun c28 => ?_, fun c28 => ?_⟩
      · have h := h.1 c28
        exact T_X9_rest_48 hM  hF hQ h
      · have h := h.2 c28
        obtain ⟨h0, h1, h⟩ := h
        refine ⟨h0, Ms.lt hM (k := 25) rfl h1, ?_⟩
        refine T_X9_stands hM hF (fun z3 h => ?_) h
        try dsimp only at h
        refine ⟨fun c41 => ?_, fun c41 => ?_⟩
        · have h := h.1 c41
          exact T_X9_rest_48 hM  hF hQ h
        · have h := h.2 c41
          exact T_X9_rest_44 hM  hF hQ h
  · have h := h.2 c6
    exact T_X9_rest_49 hM  hF hQ h
set_option maxRecDepth 20000 in
set_option maxHeartbeats 4000000 in
theorem T_X9_ticks_194 {m : Nat} {ma : Nat → Nat} {S : Shp} {F0 : Fl} {I0 : Il} {kv136 : Nat → Int → Int → Fl → Il → Prop} {k136 : Int → Int → Il → Prop} {kv142 : Nat → Int → Int → Int → Fl → Il → Prop} {k142 : Int → Int → Int → Il → Prop} {F : Fl} {I : Il} {x1 : Int} {x2 : Int} {x3 : Int} {Q : Int → Fl → Il → Prop} {Qw : Int → Il → Prop} (hM : Ms m ma S) (hk136 : ∀ (x1 : Int) (x2 : Int) (F' : Fl) (I' : Il), Fr m ma F0 I0 F' I' → k136 x1 x2 (mA ma m F' I') → kv136 m x1 x2 F' I') (hk142 : ∀ (x1 : Int) (x2 : Int) (x3 : Int) (F' : Fl) (I' : Il), Fr m ma F0 I0 F' I' → k142 x1 x2 x3 (mA ma m F' I') → kv142 m x1 x2 x3 F' I') (hF : Fr m ma F0 I0 F I) (hQ : ∀ (z : Int) (F' : Fl) (I' : Il), Fr m ma F0 I0 F' I' → Qw z (mA ma m F' I') → Q z F' I') (h : W_X9_ticks_194 k136 k142 x1 x2 x3 (mA ma m F I) Qw) : V_X9_ticks_194 kv136 kv142 m x1 x2 x3 S F I Q := by
  unfold V_X9_ticks_194
  unfold W_X9_ticks_194 at h
  exact hk142 _ _ _ _ _ hF h
set_option maxRecDepth 20000 in
set_option maxHeartbeats 4000000 in
theorem T_X9_ticks_142 {m : Nat} {ma : Nat → Nat} {S : Shp} {F0 : Fl} {I0 : Il} {kv136 : Nat → Int → Int → Fl → Il → Prop} {k136 : Int → Int → Il → Prop}  {Q : Int → Fl → Il → Prop} {Qw : Int → Il → Prop} (hM : Ms m ma S) (hk136 : ∀ (x1 : Int) (x2 : Int) (F' : Fl) (I' : Il), Fr m ma F0 I0 F' I' → k136 x1 x2 (mA ma m F' I') → kv136 m x1 x2 F' I') (hQ : ∀ (z : Int) (F' : Fl) (I' : Il), Fr m ma F0 I0 F' I' → Qw z (mA ma m F' I') → Q z F' I') (n9 : Nat) : ∀ (x1 : Int) (x2 : Int) (x3 : Int) (F : Fl) (I : Il), Fr m ma F0 I0 F I → W_X9_ticks_142 n9 k136 x1 x2 x3 (mA ma m F I) Qw → V_X9_ticks_142 n9 kv136 m x1 x2 x3 S F I Q := by
  induction n9 with
  | zero => intro x1 x2 x3 F I hF h; exact h.elim
  | succ n ih =>
    intro x1 x2 x3 F I hF h
    unfold V_X9_ticks_142
    unfold W_X9_ticks_142 at h
    refine ⟨fun c145 => ?_, fun c145 => ?_⟩
    · have h := h.1 c145
      exact hk136 _ _ _ _ hF h
    · have h := h.2 c145
      refine ⟨hM.1, ?_⟩
      refine ⟨ma 36, (hM.2.1 36 rfl).1, ?_⟩
      refine ⟨(hM.2.1 36 rfl).2.1, ?_⟩
      obtain ⟨h0, h1, h⟩ := h
      refine ⟨h0, Ms.lt hM (k := 36) rfl h1, ?_⟩
      refine ⟨fun c154 => ?_, fun c154 => ?_⟩
      · have h := h.1 c154
        exact T_X9_ticks_194 hM hk136 (fun y0 y1 y2 F' I' hF9 h9 => ih y0 y1 y2 F' I' hF9 h9) hF hQ h
      · have h := h.2 c154
        refine ⟨ma 39, (hM.2.1 39 rfl).1, ?_⟩
        refine ⟨(hM.2.1 39 rfl).2.1, ?_⟩
        obtain ⟨h0, h1, h⟩ := h
        refine ⟨h0, Ms.lt hM (k := 39) rfl h1, ?_⟩
        refine ⟨fun c164 => ?_, fun c164 => ?_⟩
        · have h := h.1 c164
          exact T_X9_ticks_194 hM hk136 (fun y0 y1 y2 F' I' hF9 h9 => ih y0 y1 y2 F' I' hF9 h9) hF hQ h
        · have h := h.2 c164
          refine ⟨ma 49, (hM.2.1 49 rfl).1, ?_⟩
          refine ⟨(hM.2.1 49 rfl).2.1, ?_⟩
          obtain ⟨h0, h1, h⟩ := h
          refine ⟨h0, Ms.lt hM (k := 49) rfl h1, ?_⟩
          refine ⟨fun c174 => ?_, fun c174 => ?_⟩
          · have h := h.1 c174
            exact T_X9_ticks_194 hM hk136 (fun y0 y1 y2 F' I' hF9 h9 => ih y0 y1 y2 F' I' hF9 h9) hF hQ h
          · have h := h.2 c174
            refine T_X9_bar hM hF (fun z1 h => ?_) h
            try dsimp only at h
            refine ⟨fun c183 => ?_, fun c183 => ?_⟩
            · have h := h.1 c183
              exact T_X9_ticks_194 hM hk136 (fun y0 y1 y2 F' I' hF9 h9 => ih y0 y1 y2 F' I' hF9 h9) hF hQ h
            · have h := h.2 c183
              refine T_X9_enters hM hF (fun I3 hF4 h => ?_) h
              try dsimp only at h
              exact T_X9_ticks_194 hM hk136 (fun y0 y1 y2 F' I' hF9 h9 => ih y0 y1 y2 F' I' hF9 h9) hF4 hQ h
set_option maxRecDepth 20000 in
set_option maxHeartbeats 4000000 in
theorem T_X9_ticks_136 {m : Nat} {ma : Nat → Nat} {S : Shp} {F0 : Fl} {I0 : Il}   {Q : Int → Fl → Il → Prop} {Qw : Int → Il → Prop} (hM : Ms m ma S)  (hQ : ∀ (z : Int) (F' : Fl) (I' : Il), Fr m ma F0 I0 F' I' → Qw z (mA ma m F' I') → Q z F' I') (n9 : Nat) : ∀ (x1 : Int) (x2 : Int) (F : Fl) (I : Il), Fr m ma F0 I0 F I → W_X9_ticks_136 n9 x1 x2 (mA ma m F I) Qw → V_X9_ticks_136 n9 m x1 x2 S F I Q := by
  induction n9 with
  | zero => intro x1 x2 F I hF h; exact h.elim
  | succ n ih =>
    intro x1 x2 F I hF h
    unfold V_X9_ticks_136
    unfold W_X9_ticks_136 at h
    refine ⟨fun c137 => ?_, fun c137 => ?_⟩
    · have h := h.1 c137
      exact hQ _ _ _ hF h
    · have h := h.2 c137
      obtain ⟨n9, h⟩ := h
      exact ⟨n9, T_X9_ticks_142 hM (fun y0 y1 F' I' hF9 h9 => ih y0 y1 F' I' hF9 h9) hQ n9 _ _ _ _ _ hF h⟩
set_option maxRecDepth 20000 in
set_option maxHeartbeats 4000000 in
theorem T_X9_ticks_131 {m : Nat} {ma : Nat → Nat} {S : Shp} {F0 : Fl} {I0 : Il}  {F : Fl} {I : Il}  {Q : Int → Fl → Il → Prop} {Qw : Int → Il → Prop} (hM : Ms m ma S)  (hF : Fr m ma F0 I0 F I) (hQ : ∀ (z : Int) (F' : Fl) (I' : Il), Fr m ma F0 I0 F' I' → Qw z (mA ma m F' I') → Q z F' I') (h : W_X9_ticks_131 (mA ma m F I) Qw) : V_X9_ticks_131 m S F I Q := by
  unfold V_X9_ticks_131
  unfold W_X9_ticks_131 at h
  obtain ⟨n9, h⟩ := h
  exact ⟨n9, T_X9_ticks_136 hM  hQ n9 _ _ _ _ hF h⟩
set_option maxRecDepth 20000 in
set_option maxHeartbeats 4000000 in
theorem T_X9_ticks_110 {m : Nat} {ma : Nat → Nat} {S : Shp} {F0 : Fl} {I0 : Il} {kv67 : Nat → Int → Fl → Il → Prop} {k67 : Int → Il → Prop} {F : Fl} {I : Il} {x1 : Int} {Q : Int → Fl → Il → Prop} {Qw : Int → Il → Prop} (hM : Ms m ma S) (hk67 : ∀ (x1 : Int) (F' : Fl) (I' : Il), Fr m ma F0 I0 F' I' → k67 x1 (mA ma m F' I') → kv67 m x1 F' I') (hF : Fr m ma F0 I0 F I) (hQ : ∀ (z : Int) (F' : Fl) (I' : Il), Fr m ma F0 I0 F' I' → Qw z (mA ma m F' I') → Q z F' I') (h : W_X9_ticks_110 k67 x1 (mA ma m F I) Qw) : V_X9_ticks_110 kv67 m x1 S F I Q := by
  unfold V_X9_ticks_110
  unfold W_X9_ticks_110 at h
  exact hk67 _ _ _ hF h
set_option maxRecDepth 20000 in
set_option maxHeartbeats 4000000 in
theorem T_X9_ticks_67 {m : Nat} {ma : Nat → Nat} {S : Shp} {F0 : Fl} {I0 : Il}   {Q : Int → Fl → Il → Prop} {Qw : Int → Il → Prop} (hM : Ms m ma S)  (hQ : ∀ (z : Int) (F' : Fl) (I' : Il), Fr m ma F0 I0 F' I' → Qw z (mA ma m F' I') → Q z F' I') (n9 : Nat) : ∀ (x1 : Int) (F : Fl) (I : Il), Fr m ma F0 I0 F I → W_X9_ticks_67 n9 x1 (mA ma m F I) Qw → V_X9_ticks_67 n9 m x1 S F I Q := by
  induction n9 with
  | zero => intro x1 F I hF h; exact h.elim
  | succ n ih =>
    intro x1 F I hF h
    unfold V_X9_ticks_67
    unfold W_X9_ticks_67 at h
    refine ⟨fun c70 => ?_, fun c70 => ?_⟩
    · have h := h.1 c70
      refine ⟨hM.1, ?_⟩
      refine ⟨fun c124 => ?_, fun c124 => ?_⟩
      · have h := h.1 c124
        exact T_X9_ticks_131 hM  hF hQ h
      · have h := h.2 c124
        refine T_X9_pays hM hF (fun F2 hF3 h => ?_) h
        try dsimp only at h
        exact T_X9_ticks_131 hM  hF3 hQ h
    · have h := h.2 c70
      refine ⟨hM.1, ?_⟩
      refine ⟨ma 36, (hM.2.1 36 rfl).1, ?_⟩
      refine ⟨(hM.2.1 36 rfl).2.1, ?_⟩
      obtain ⟨h0, h1, h⟩ := h
      refine ⟨h0, Ms.lt hM (k := 36) rfl h1, ?_⟩
      refine ⟨fun c79 => ?_, fun c79 => ?_⟩
      · have h := h.1 c79
        exact T_X9_ticks_110 hM (fun y0 F' I' hF9 h9 => ih y0 F' I' hF9 h9) hF hQ h
      · have h := h.2 c79
        refine ⟨ma 39, (hM.2.1 39 rfl).1, ?_⟩
        refine ⟨(hM.2.1 39 rfl).2.1, ?_⟩
        obtain ⟨h0, h1, h⟩ := h
        refine ⟨h0, Ms.lt hM (k := 39) rfl h1, ?_⟩
        refine ⟨fun c89 => ?_, fun c89 => ?_⟩
        · have h := h.1 c89
          exact T_X9_ticks_110 hM (fun y0 F' I' hF9 h9 => ih y0 F' I' hF9 h9) hF hQ h
        · have h := h.2 c89
          refine ⟨ma 42, (hM.2.1 42 rfl).1, ?_⟩
          refine ⟨(hM.2.1 42 rfl).2.1, ?_⟩
          obtain ⟨h0, h1, h⟩ := h
          refine ⟨h0, Ms.lt hM (k := 42) rfl h1, ?_⟩
          refine ⟨fun c102 => ?_, fun c102 => ?_⟩
          · have h := h.1 c102
            exact T_X9_ticks_110 hM (fun y0 F' I' hF9 h9 => ih y0 F' I' hF9 h9) hF hQ h
          · have h := h.2 c102
            refine T_X9_arrives hM hF (fun I5 hF6 h => ?_) h
            try dsimp only at h
            exact T_X9_ticks_110 hM (fun y0 F' I' hF9 h9 => ih y0 F' I' hF9 h9) hF6 hQ h
set_option maxRecDepth 20000 in
set_option maxHeartbeats 4000000 in
theorem T_X9_ticks_58 {m : Nat} {ma : Nat → Nat} {S : Shp} {F0 : Fl} {I0 : Il} {kv12 : Nat → Int → Fl → Il → Prop} {k12 : Int → Il → Prop} {F : Fl} {I : Il} {x1 : Int} {s0 : Int} {s1 : Int} {Q : Int → Fl → Il → Prop} {Qw : Int → Il → Prop} (hM : Ms m ma S) (hk12 : ∀ (x1 : Int) (F' : Fl) (I' : Il), Fr m ma F0 I0 F' I' → k12 x1 (mA ma m F' I') → kv12 m x1 F' I') (hF : Fr m ma F0 I0 F I) (hQ : ∀ (z : Int) (F' : Fl) (I' : Il), Fr m ma F0 I0 F' I' → Qw z (mA ma m F' I') → Q z F' I') (h : W_X9_ticks_58 k12 x1 s0 s1 (mA ma m F I) Qw) : V_X9_ticks_58 kv12 m x1 s0 s1 (ma 17) S F I Q := by
  unfold V_X9_ticks_58
  unfold W_X9_ticks_58 at h
  refine ⟨(hM.2.1 17 rfl).2.1, ?_⟩
  obtain ⟨h0, h1, h⟩ := h
  refine ⟨h0, Ms.lt hM (k := 17) rfl h1, ?_⟩
  rw [← mA_i hM (F := F) (k := 17) rfl] at h
  exact hk12 _ _ _ (Fr.i (k := 17) rfl hF) h
set_option maxRecDepth 20000 in
set_option maxHeartbeats 4000000 in
theorem T_X9_ticks_52 {m : Nat} {ma : Nat → Nat} {S : Shp} {F0 : Fl} {I0 : Il} {kv12 : Nat → Int → Fl → Il → Prop} {k12 : Int → Il → Prop} {F : Fl} {I : Il} {x1 : Int} {s0 : Int} {Q : Int → Fl → Il → Prop} {Qw : Int → Il → Prop} (hM : Ms m ma S) (hk12 : ∀ (x1 : Int) (F' : Fl) (I' : Il), Fr m ma F0 I0 F' I' → k12 x1 (mA ma m F' I') → kv12 m x1 F' I') (hF : Fr m ma F0 I0 F I) (hQ : ∀ (z : Int) (F' : Fl) (I' : Il), Fr m ma F0 I0 F' I' → Qw z (mA ma m F' I') → Q z F' I') (h : W_X9_ticks_52 k12 x1 s0 (mA ma m F I) Qw) : V_X9_ticks_52 kv12 m x1 s0 (ma 17) S F I Q := by
  unfold V_X9_ticks_52
  unfold W_X9_ticks_52 at h
  refine ⟨hM.1, ?_⟩
  refine ⟨ma 17, (hM.2.1 17 rfl).1, ?_⟩
  refine ⟨(hM.2.1 17 rfl).2.1, ?_⟩
  obtain ⟨h0, h1, h⟩ := h
  refine ⟨h0, Ms.lt hM (k := 17) rfl h1, ?_⟩
  exact T_X9_ticks_58 hM hk12 hF hQ h
set_option maxRecDepth 20000 in
set_option maxHeartbeats 4000000 in
theorem T_X9_ticks_12 {m : Nat} {ma : Nat → Nat} {S : Shp} {F0 : Fl} {I0 : Il}   {Q : Int → Fl → Il → Prop} {Qw : Int → Il → Prop} (hM : Ms m ma S)  (hQ : ∀ (z : Int) (F' : Fl) (I' : Il), Fr m ma F0 I0 F' I' → Qw z (mA ma m F' I') → Q z F' I') (n9 : Nat) : ∀ (x1 : Int) (F : Fl) (I : Il), Fr m ma F0 I0 F I → W_X9_ticks_12 n9 x1 (mA ma m F I) Qw → V_X9_ticks_12 n9 m x1 S F I Q := by
  induction n9 with
  | zero => intro x1 F I hF h; exact h.elim
  | succ n ih =>
    intro x1 F I hF h
    unfold V_X9_ticks_12
    unfold W_X9_ticks_12 at h
    refine ⟨hM.1, ?_⟩
    refine ⟨fun c17 => ?_, fun c17 => ?_⟩
    · have h := h.1 c17
      obtain ⟨n9, h⟩ := h
      exact ⟨n9, T_X9_ticks_67 hM  hQ n9 _ _ _ hF h⟩
    · have h := h.2 c17
      refine ⟨ma 17, (hM.2.1 17 rfl).1, ?_⟩
      refine ⟨(hM.2.1 17 rfl).2.1, ?_⟩
      obtain ⟨h0, h1, h⟩ := h
      refine ⟨h0, Ms.lt hM (k := 17) rfl h1, ?_⟩
      refine ⟨fun c32 => ?_, fun c32 => ?_⟩
      · have h := h.1 c32
        exact T_X9_ticks_52 hM (fun y0 F' I' hF9 h9 => ih y0 F' I' hF9 h9) hF hQ h
      · have h := h.2 c32
        refine ⟨ma 18, (hM.2.1 18 rfl).1, ?_⟩
        refine ⟨(hM.2.1 18 rfl).2.1, ?_⟩
        obtain ⟨h0, h1, h⟩ := h
        refine ⟨h0, Ms.lt hM (k := 18) rfl h1, ?_⟩
        refine ⟨fun c45 => ?_, fun c45 => ?_⟩
        · have h := h.1 c45
          exact T_X9_ticks_52 hM (fun y0 F' I' hF9 h9 => ih y0 F' I' hF9 h9) hF hQ h
        · have h := h.2 c45
          exact T_X9_ticks_58 hM (fun y0 F' I' hF9 h9 => ih y0 F' I' hF9 h9) hF hQ h
set_option maxRecDepth 20000 in
set_option maxHeartbeats 4000000 in
theorem T_X9_ticks {m : Nat} {ma : Nat → Nat} {S : Shp} {F0 : Fl} {I0 : Il}  {F : Fl} {I : Il}  {Q : Int → Fl → Il → Prop} {Qw : Int → Il → Prop} (hM : Ms m ma S)  (hF : Fr m ma F0 I0 F I) (hQ : ∀ (z : Int) (F' : Fl) (I' : Il), Fr m ma F0 I0 F' I' → Qw z (mA ma m F' I') → Q z F' I') (h : W_X9_ticks (mA ma m F I) Qw) : V_X9_ticks m S F I Q := by
  unfold V_X9_ticks
  unfold W_X9_ticks at h
  refine ⟨hM.1, ?_⟩
  rw [← mA_f (ma := ma) (m := m) (I := I) (k := 1) rfl] at h
  obtain ⟨n9, h⟩ := h
  exact ⟨n9, T_X9_ticks_12 hM  hQ n9 _ _ _ (Fr.f (k := 1001) (by decide) hF) h⟩
set_option maxRecDepth 20000 in
set_option maxHeartbeats 4000000 in
theorem T_X9_run_40 {m : Nat} {ma : Nat → Nat} {S : Shp} {F0 : Fl} {I0 : Il}   {Q : Int → Fl → Il → Prop} {Qw : Int → Il → Prop} (hM : Ms m ma S)  (hQ : ∀ (z : Int) (F' : Fl) (I' : Il), Fr m ma F0 I0 F' I' → Qw z (mA ma m F' I') → Q z F' I') (n9 : Nat) : ∀ (x1 : Int) (x2 : Int) (x3 : Int) (F : Fl) (I : Il), Fr m ma F0 I0 F I → W_X9_run_40 n9 x1 x2 x3 (mA ma m F I) Qw → V_X9_run_40 n9 m x1 x2 x3 S F I Q := by
  induction n9 with
  | zero => intro x1 x2 x3 F I hF h; exact h.elim
  | succ n ih =>
    intro x1 x2 x3 F I hF h
    unfold V_X9_run_40
    unfold W_X9_run_40 at h
    refine ⟨fun c42 => ?_, fun c42 => ?_⟩
    · have h := h.1 c42
      exact hQ _ _ _ hF h
    · have h := h.2 c42
      refine ⟨hM.1, ?_⟩
      refine ⟨fun c49 => ?_, fun c49 => ?_⟩
      · have h := h.1 c49
        exact hQ _ _ _ hF h
      · have h := h.2 c49
        refine T_X9_ticks hM hF (fun z1 F3 I4 hF5 h => ?_) h
        try dsimp only at h
        exact ih _ _ _ _ _ hF5 h
set_option maxRecDepth 20000 in
set_option maxHeartbeats 4000000 in
theorem T_X9_run_33 {m : Nat} {ma : Nat → Nat} {S : Shp} {F0 : Fl} {I0 : Il}  {F : Fl} {I : Il} {x1 : Int} {s0 : Int} {Q : Int → Fl → Il → Prop} {Qw : Int → Il → Prop} (hM : Ms m ma S)  (hF : Fr m ma F0 I0 F I) (hQ : ∀ (z : Int) (F' : Fl) (I' : Il), Fr m ma F0 I0 F' I' → Qw z (mA ma m F' I') → Q z F' I') (h : W_X9_run_33 x1 s0 (mA ma m F I) Qw) : V_X9_run_33 m x1 s0 m S F I Q := by
  unfold V_X9_run_33
  unfold W_X9_run_33 at h
  refine ⟨hM.1, ?_⟩
  rw [← mA_f (ma := ma) (m := m) (I := I) (k := 0) rfl] at h
  obtain ⟨n9, h⟩ := h
  exact ⟨n9, T_X9_run_40 hM  hQ n9 _ _ _ _ _ (Fr.f (k := 1000) (by decide) hF) h⟩
set_option maxRecDepth 20000 in
set_option maxHeartbeats 4000000 in
theorem T_X9_run {m : Nat} {ma : Nat → Nat} {S : Shp} {F0 : Fl} {I0 : Il}  {F : Fl} {I : Il} {x1 : Int} {Q : Int → Fl → Il → Prop} {Qw : Int → Il → Prop} (hM : Ms m ma S)  (hF : Fr m ma F0 I0 F I) (hQ : ∀ (z : Int) (F' : Fl) (I' : Il), Fr m ma F0 I0 F' I' → Qw z (mA ma m F' I') → Q z F' I') (h : W_X9_run x1 (mA ma m F I) Qw) : V_X9_run m x1 S F I Q := by
  unfold V_X9_run
  unfold W_X9_run at h
  refine T_X9_in hM hF (fun z1 h => ?_) h
  try dsimp only at h
  refine ⟨fun c9 => ?_, fun c9 => ?_⟩
  · have h := h.1 c9
    refine ⟨hM.1, ?_⟩
    refine ⟨fun c25 => ?_, fun c25 => ?_⟩
    · have h := h.1 c25
      exact T_X9_run_33 hM  hF hQ h
    · have h := h.2 c25
      exact T_X9_run_33 hM  hF hQ h
  · have h := h.2 c9
    exact T_X9_run_33 hM  hF hQ h
set_option maxRecDepth 20000 in
set_option maxHeartbeats 4000000 in
theorem T_X9_sort_149 {m : Nat} {ma : Nat → Nat} {S : Shp} {F0 : Fl} {I0 : Il} {kv110 : Nat → Int → Int → Int → Fl → Il → Prop} {k110 : Int → Int → Int → Il → Prop} {F : Fl} {I : Il} {x1 : Int} {x4 : Int} {s0 : Int} {s1 : Int} {Q : Int → Fl → Il → Prop} {Qw : Int → Il → Prop} (hM : Ms m ma S) (hk110 : ∀ (x1 : Int) (x3 : Int) (x4 : Int) (F' : Fl) (I' : Il), Fr m ma F0 I0 F' I' → k110 x1 x3 x4 (mA ma m F' I') → kv110 m x1 x3 x4 F' I') (hF : Fr m ma F0 I0 F I) (hQ : ∀ (z : Int) (F' : Fl) (I' : Il), Fr m ma F0 I0 F' I' → Qw z (mA ma m F' I') → Q z F' I') (h : W_X9_sort_149 k110 x1 x4 s0 s1 (mA ma m F I) Qw) : V_X9_sort_149 kv110 m x1 x4 s0 s1 S F I Q := by
  unfold V_X9_sort_149
  unfold W_X9_sort_149 at h
  refine ⟨hM.1, ?_⟩
  refine ⟨ma 34, (hM.2.1 34 rfl).1, ?_⟩
  refine ⟨ma 64, (hM.2.1 64 rfl).1, ?_⟩
  refine ⟨(hM.2.1 64 rfl).2.1, ?_⟩
  obtain ⟨h0, h1, h⟩ := h
  refine ⟨h0, Ms.lt hM (k := 64) rfl h1, ?_⟩
  refine ⟨(hM.2.1 34 rfl).2.1, ?_⟩
  obtain ⟨h0, h1, h⟩ := h
  refine ⟨h0, Ms.lt hM (k := 34) rfl h1, ?_⟩
  rw [← mA_i hM (F := F) (k := 34) rfl] at h
  exact hk110 _ _ _ _ _ (Fr.i (k := 34) rfl hF) h
set_option maxRecDepth 20000 in
set_option maxHeartbeats 4000000 in
theorem T_X9_sort_110 {m : Nat} {ma : Nat → Nat} {S : Shp} {F0 : Fl} {I0 : Il}   {Q : Int → Fl → Il → Prop} {Qw : Int → Il → Prop} (hM : Ms m ma S)  (hQ : ∀ (z : Int) (F' : Fl) (I' : Il), Fr m ma F0 I0 F' I' → Qw z (mA ma m F' I') → Q z F' I') (n9 : Nat) : ∀ (x1 : Int) (x3 : Int) (x4 : Int) (F : Fl) (I : Il), Fr m ma F0 I0 F I → W_X9_sort_110 n9 x1 x3 x4 (mA ma m F I) Qw → V_X9_sort_110 n9 m x1 x3 x4 S F I Q := by
  induction n9 with
  | zero => intro x1 x3 x4 F I hF h; exact h.elim
  | succ n ih =>
    intro x1 x3 x4 F I hF h
    unfold V_X9_sort_110
    unfold W_X9_sort_110 at h
    refine ⟨hM.1, ?_⟩
    refine ⟨ma 35, (hM.2.1 35 rfl).1, ?_⟩
    refine ⟨(hM.2.1 35 rfl).2.1, ?_⟩
    obtain ⟨h0, h1, h⟩ := h
    refine ⟨h0, Ms.lt hM (k := 35) rfl h1, ?_⟩
    refine ⟨fun c118 => ?_, fun c118 => ?_⟩
    · have h := h.1 c118
      exact hQ _ _ _ hF h
    · have h := h.2 c118
      refine ⟨ma 64, (hM.2.1 64 rfl).1, ?_⟩
      refine ⟨(hM.2.1 64 rfl).2.1, ?_⟩
      obtain ⟨h0, h1, h⟩ := h
      refine ⟨h0, Ms.lt hM (k := 64) rfl h1, ?_⟩
      refine ⟨ma 34, (hM.2.1 34 rfl).1, ?_⟩
      refine ⟨(hM.2.1 34 rfl).2.1, ?_⟩
      obtain ⟨h0, h1, h⟩ := h
      refine ⟨h0, Ms.lt hM (k := 34) rfl h1, ?_⟩
      refine ⟨fun c141 => ?_, fun c141 => ?_⟩
      · have h := h.1 c141
        exact T_X9_sort_149 hM (fun y0 y1 y2 F' I' hF9 h9 => ih y0 y1 y2 F' I' hF9 h9) hF hQ h
      · have h := h.2 c141
        exact T_X9_sort_149 hM (fun y0 y1 y2 F' I' hF9 h9 => ih y0 y1 y2 F' I' hF9 h9) hF hQ h
set_option maxRecDepth 20000 in
set_option maxHeartbeats 4000000 in
theorem T_X9_sort_95 {m : Nat} {ma : Nat → Nat} {S : Shp} {F0 : Fl} {I0 : Il} {kv32 : Nat → Int → Int → Int → Int → Fl → Il → Prop} {k32 : Int → Int → Int → Int → Il → Prop} {kv42 : Nat → Int → Int → Int → Int → Int → Fl → Il → Prop} {k42 : Int → Int → Int → Int → Int → Il → Prop} {F : Fl} {I : Il} {x1 : Int} {x2 : Int} {x3 : Int} {x4 : Int} {x5 : Int} {Q : Int → Fl → Il → Prop} {Qw : Int → Il → Prop} (hM : Ms m ma S) (hk32 : ∀ (x1 : Int) (x2 : Int) (x3 : Int) (x4 : Int) (F' : Fl) (I' : Il), Fr m ma F0 I0 F' I' → k32 x1 x2 x3 x4 (mA ma m F' I') → kv32 m x1 x2 x3 x4 F' I') (hk42 : ∀ (x1 : Int) (x2 : Int) (x3 : Int) (x4 : Int) (x5 : Int) (F' : Fl) (I' : Il), Fr m ma F0 I0 F' I' → k42 x1 x2 x3 x4 x5 (mA ma m F' I') → kv42 m x1 x2 x3 x4 x5 F' I') (hF : Fr m ma F0 I0 F I) (hQ : ∀ (z : Int) (F' : Fl) (I' : Il), Fr m ma F0 I0 F' I' → Qw z (mA ma m F' I') → Q z F' I') (h : W_X9_sort_95 k32 k42 x1 x2 x3 x4 x5 (mA ma m F I) Qw) : V_X9_sort_95 kv32 kv42 m x1 x2 x3 x4 x5 S F I Q := by
  unfold V_X9_sort_95
  unfold W_X9_sort_95 at h
  exact hk42 _ _ _ _ _ _ _ hF h
set_option maxRecDepth 20000 in
set_option maxHeartbeats 4000000 in
theorem T_X9_sort_42 {m : Nat} {ma : Nat → Nat} {S : Shp} {F0 : Fl} {I0 : Il} {kv32 : Nat → Int → Int → Int → Int → Fl → Il → Prop} {k32 : Int → Int → Int → Int → Il → Prop}  {Q : Int → Fl → Il → Prop} {Qw : Int → Il → Prop} (hM : Ms m ma S) (hk32 : ∀ (x1 : Int) (x2 : Int) (x3 : Int) (x4 : Int) (F' : Fl) (I' : Il), Fr m ma F0 I0 F' I' → k32 x1 x2 x3 x4 (mA ma m F' I') → kv32 m x1 x2 x3 x4 F' I') (hQ : ∀ (z : Int) (F' : Fl) (I' : Il), Fr m ma F0 I0 F' I' → Qw z (mA ma m F' I') → Q z F' I') (n9 : Nat) : ∀ (x1 : Int) (x2 : Int) (x3 : Int) (x4 : Int) (x5 : Int) (F : Fl) (I : Il), Fr m ma F0 I0 F I → W_X9_sort_42 n9 k32 x1 x2 x3 x4 x5 (mA ma m F I) Qw → V_X9_sort_42 n9 kv32 m x1 x2 x3 x4 x5 S F I Q := by
  induction n9 with
  | zero => intro x1 x2 x3 x4 x5 F I hF h; exact h.elim
  | succ n ih =>
    intro x1 x2 x3 x4 x5 F I hF h
    unfold V_X9_sort_42
    unfold W_X9_sort_42 at h
    refine ⟨hM.1, ?_⟩
    refine ⟨ma 35, (hM.2.1 35 rfl).1, ?_⟩
    refine ⟨(hM.2.1 35 rfl).2.1, ?_⟩
    obtain ⟨h0, h1, h⟩ := h
    refine ⟨h0, Ms.lt hM (k := 35) rfl h1, ?_⟩
    refine ⟨fun c50 => ?_, fun c50 => ?_⟩
    · have h := h.1 c50
      exact hk32 _ _ _ _ _ _ hF h
    · have h := h.2 c50
      refine ⟨ma 34, (hM.2.1 34 rfl).1, ?_⟩
      refine ⟨(hM.2.1 34 rfl).2.1, ?_⟩
      obtain ⟨h0, h1, h⟩ := h
      refine ⟨h0, Ms.lt hM (k := 34) rfl h1, ?_⟩
      refine T_X9_goal hM hF (fun z1 h => ?_) h
      try dsimp only at h
      refine ⟨fun c71 => ?_, fun c71 => ?_⟩
      · have h := h.1 c71
        exact T_X9_sort_95 hM hk32 (fun y0 y1 y2 y3 y4 F' I' hF9 h9 => ih y0 y1 y2 y3 y4 F' I' hF9 h9) hF hQ h
      · have h := h.2 c71
        refine ⟨ma 64, (hM.2.1 64 rfl).1, ?_⟩
        obtain ⟨h0, h1, h⟩ := h
        refine ⟨h0, Ms.lt hM (k := 34) rfl h1, ?_⟩
        refine ⟨(hM.2.1 64 rfl).2.1, ?_⟩
        obtain ⟨h0, h1, h⟩ := h
        refine ⟨h0, Ms.lt hM (k := 64) rfl h1, ?_⟩
        rw [← mA_i hM (F := F) (k := 64) rfl] at h
        exact T_X9_sort_95 hM hk32 (fun y0 y1 y2 y3 y4 F' I' hF9 h9 => ih y0 y1 y2 y3 y4 F' I' hF9 h9) (Fr.i (k := 64) rfl hF) hQ h
set_option maxRecDepth 20000 in
set_option maxHeartbeats 4000000 in
theorem T_X9_sort_32 {m : Nat} {ma : Nat → Nat} {S : Shp} {F0 : Fl} {I0 : Il}   {Q : Int → Fl → Il → Prop} {Qw : Int → Il → Prop} (hM : Ms m ma S)  (hQ : ∀ (z : Int) (F' : Fl) (I' : Il), Fr m ma F0 I0 F' I' → Qw z (mA ma m F' I') → Q z F' I') (n9 : Nat) : ∀ (x1 : Int) (x2 : Int) (x3 : Int) (x4 : Int) (F : Fl) (I : Il), Fr m ma F0 I0 F I → W_X9_sort_32 n9 x1 x2 x3 x4 (mA ma m F I) Qw → V_X9_sort_32 n9 m x1 x2 x3 x4 S F I Q := by
  induction n9 with
  | zero => intro x1 x2 x3 x4 F I hF h; exact h.elim
  | succ n ih =>
    intro x1 x2 x3 x4 F I hF h
    unfold V_X9_sort_32
    unfold W_X9_sort_32 at h
    refine ⟨fun c36 => ?_, fun c36 => ?_⟩
    · have h := h.1 c36
      obtain ⟨n9, h⟩ := h
      exact ⟨n9, T_X9_sort_110 hM  hQ n9 _ _ _ _ _ hF h⟩
    · have h := h.2 c36
      obtain ⟨n9, h⟩ := h
      exact ⟨n9, T_X9_sort_42 hM (fun y0 y1 y2 y3 F' I' hF9 h9 => ih y0 y1 y2 y3 F' I' hF9 h9) hQ n9 _ _ _ _ _ _ _ hF h⟩
set_option maxRecDepth 20000 in
set_option maxHeartbeats 4000000 in
theorem T_X9_sort_13 {m : Nat} {ma : Nat → Nat} {S : Shp} {F0 : Fl} {I0 : Il}  {F : Fl} {I : Il} {x1 : Int} {s0 : Int} {Q : Int → Fl → Il → Prop} {Qw : Int → Il → Prop} (hM : Ms m ma S)  (hF : Fr m ma F0 I0 F I) (hQ : ∀ (z : Int) (F' : Fl) (I' : Il), Fr m ma F0 I0 F' I' → Qw z (mA ma m F' I') → Q z F' I') (h : W_X9_sort_13 x1 s0 (mA ma m F I) Qw) : V_X9_sort_13 m x1 s0 m S F I Q := by
  unfold V_X9_sort_13
  unfold W_X9_sort_13 at h
  refine ⟨hM.1, ?_⟩
  rw [← mA_f (ma := ma) (m := m) (I := I) (k := 0) rfl] at h
  refine ⟨hM.1, ?_⟩
  refine ⟨fun c20 => ?_, fun c20 => ?_⟩
  · have h := h.1 c20
    obtain ⟨n9, h⟩ := h
    exact ⟨n9, T_X9_sort_32 hM  hQ n9 _ _ _ _ _ _ (Fr.f (k := 1000) (by decide) hF) h⟩
  · have h := h.2 c20
    exact hQ _ _ _ (Fr.f (k := 1000) (by decide) hF) h
set_option maxRecDepth 20000 in
set_option maxHeartbeats 4000000 in
theorem T_X9_sort {m : Nat} {ma : Nat → Nat} {S : Shp} {F0 : Fl} {I0 : Il}  {F : Fl} {I : Il} {x1 : Int} {Q : Int → Fl → Il → Prop} {Qw : Int → Il → Prop} (hM : Ms m ma S)  (hF : Fr m ma F0 I0 F I) (hQ : ∀ (z : Int) (F' : Fl) (I' : Il), Fr m ma F0 I0 F' I' → Qw z (mA ma m F' I') → Q z F' I') (h : W_X9_sort x1 (mA ma m F I) Qw) : V_X9_sort m x1 S F I Q := by
  unfold V_X9_sort
  unfold W_X9_sort at h
  refine T_X9_isStation hM hF (fun z1 h => ?_) h
  try dsimp only at h
  refine ⟨fun c5 => ?_, fun c5 => ?_⟩
  · have h := h.1 c5
    exact T_X9_sort_13 hM  hF hQ h
  · have h := h.2 c5
    exact T_X9_sort_13 hM  hF hQ h
set_option maxRecDepth 20000 in
set_option maxHeartbeats 4000000 in
theorem T_X9_thrown {m : Nat} {ma : Nat → Nat} {S : Shp} {F0 : Fl} {I0 : Il}  {F : Fl} {I : Il}  {Q : Int → Prop} {Qw : Int → Prop} (hM : Ms m ma S)  (hF : Fr m ma F0 I0 F I) (hQ : ∀ (z : Int), Qw z → Q z ) (h : W_X9_thrown (mA ma m F I) Qw) : V_X9_thrown m S F I Q := by
  unfold V_X9_thrown
  unfold W_X9_thrown at h
  refine ⟨hM.1, ?_⟩
  exact hQ _ h
set_option maxRecDepth 20000 in
set_option maxHeartbeats 4000000 in
theorem T_X9_tracks_39 {m : Nat} {ma : Nat → Nat} {S : Shp} {F0 : Fl} {I0 : Il}  {F : Fl} {I : Il} {x1 : Int} {x2 : Int} {s0 : Int} {Q : Int → Fl → Il → Prop} {Qw : Int → Il → Prop} (hM : Ms m ma S)  (hF : Fr m ma F0 I0 F I) (hQ : ∀ (z : Int) (F' : Fl) (I' : Il), Fr m ma F0 I0 F' I' → Qw z (mA ma m F' I') → Q z F' I') (h : W_X9_tracks_39 x1 x2 s0 (mA ma m F I) Qw) : V_X9_tracks_39 m x1 x2 s0 m S F I Q := by
  unfold V_X9_tracks_39
  unfold W_X9_tracks_39 at h
  refine ⟨hM.1, ?_⟩
  rw [← mA_f (ma := ma) (m := m) (I := I) (k := 0) rfl] at h
  refine ⟨hM.1, ?_⟩
  refine ⟨fun c46 => ?_, fun c46 => ?_⟩
  · have h := h.1 c46
    refine ⟨ma 5, (hM.2.1 5 rfl).1, ?_⟩
    refine ⟨(hM.2.1 5 rfl).2.1, ?_⟩
    obtain ⟨h0, h1, h⟩ := h
    refine ⟨h0, Ms.lt hM (k := 5) rfl h1, ?_⟩
    obtain ⟨h0, h1, h⟩ := h
    refine ⟨h0, Ms.lt hM (k := 5) rfl h1, ?_⟩
    rw [← mA_i hM (F := (u2 F 1000 m _)) (k := 5) rfl] at h
    exact hQ _ _ _ (Fr.i (k := 5) rfl (Fr.f (k := 1000) (by decide) hF)) h
  · have h := h.2 c46
    exact hQ _ _ _ (Fr.f (k := 1000) (by decide) hF) h
set_option maxRecDepth 20000 in
set_option maxHeartbeats 4000000 in
theorem T_X9_tracks {m : Nat} {ma : Nat → Nat} {S : Shp} {F0 : Fl} {I0 : Il}  {F : Fl} {I : Il} {x1 : Int} {x2 : Int} {Q : Int → Fl → Il → Prop} {Qw : Int → Il → Prop} (hM : Ms m ma S)  (hF : Fr m ma F0 I0 F I) (hQ : ∀ (z : Int) (F' : Fl) (I' : Il), Fr m ma F0 I0 F' I' → Qw z (mA ma m F' I') → Q z F' I') (h : W_X9_tracks x1 x2 (mA ma m F I) Qw) : V_X9_tracks m x1 x2 S F I Q := by
  unfold V_X9_tracks
  unfold W_X9_tracks at h
  refine T_X9_isStation hM hF (fun z1 h => ?_) h
  try dsimp only at h
  refine ⟨fun c5 => ?_, fun c5 => ?_⟩
  · have h := h.1 c5
    refine T_X9_in hM hF (fun z2 h => ?_) h
    try dsimp only at h
    refine ⟨fun c18 => ?_, fun c18 => ?_⟩
    · have h := h.1 c18
      refine ⟨hM.1, ?_⟩
      refine T_X9_taken hM hF (fun z3 h => ?_) h
      try dsimp only at h
      refine ⟨fun c31 => ?_, fun c31 => ?_⟩
      · have h := h.1 c31
        exact T_X9_tracks_39 hM  hF hQ h
      · have h := h.2 c31
        exact T_X9_tracks_39 hM  hF hQ h
    · have h := h.2 c18
      exact T_X9_tracks_39 hM  hF hQ h
  · have h := h.2 c5
    exact T_X9_tracks_39 hM  hF hQ h
set_option maxRecDepth 20000 in
set_option maxHeartbeats 4000000 in
theorem T_X9_train_24 {m : Nat} {ma : Nat → Nat} {S : Shp} {F0 : Fl} {I0 : Il}  {F : Fl} {I : Il} {x1 : Int} {x2 : Int} {s0 : Int} {Q : Int → Fl → Prop} {Qw : Int → Il → Prop} (hM : Ms m ma S)  (hF : Fr m ma F0 I0 F I) (hQ : ∀ (z : Int) (F' : Fl), Fr m ma F0 I0 F' I → Qw z (mA ma m F' I) → Q z F') (h : W_X9_train_24 x1 x2 s0 (mA ma m F I) Qw) : V_X9_train_24 m x1 x2 s0 m S F I Q := by
  unfold V_X9_train_24
  unfold W_X9_train_24 at h
  refine ⟨hM.1, ?_⟩
  rw [← mA_f (ma := ma) (m := m) (I := I) (k := 0) rfl] at h
  refine ⟨hM.1, ?_⟩
  refine ⟨fun c31 => ?_, fun c31 => ?_⟩
  · have h := h.1 c31
    refine ⟨fun c37 => ?_, fun c37 => ?_, fun c37 => ?_, fun c37 => ?_, fun c37 => ?_, fun c37 => ?_, fun c37 => ?_⟩
    · have h := h.1 c37
      refine ⟨ma 39, (hM.2.1 39 rfl).1, ?_⟩
      refine ⟨(hM.2.1 39 rfl).2.1, ?_⟩
      obtain ⟨h0, h1, h⟩ := h
      refine ⟨h0, Ms.lt hM (k := 39) rfl h1, ?_⟩
      exact hQ _ _ (Fr.f (k := 1000) (by decide) hF) h
    · have h := h.2.1 c37
      refine ⟨ma 39, (hM.2.1 39 rfl).1, ?_⟩
      refine ⟨(hM.2.1 39 rfl).2.1, ?_⟩
      obtain ⟨h0, h1, h⟩ := h
      refine ⟨h0, Ms.lt hM (k := 39) rfl h1, ?_⟩
      refine ⟨fun c90 => ?_, fun c90 => ?_⟩
      · have h := h.1 c90
        refine ⟨ma 40, (hM.2.1 40 rfl).1, ?_⟩
        refine ⟨(hM.2.1 40 rfl).2.1, ?_⟩
        obtain ⟨h0, h1, h⟩ := h
        refine ⟨h0, Ms.lt hM (k := 40) rfl h1, ?_⟩
        exact hQ _ _ (Fr.f (k := 1000) (by decide) hF) h
      · have h := h.2 c90
        exact hQ _ _ (Fr.f (k := 1000) (by decide) hF) h
    · have h := h.2.2.1 c37
      refine ⟨ma 41, (hM.2.1 41 rfl).1, ?_⟩
      refine ⟨(hM.2.1 41 rfl).2.1, ?_⟩
      obtain ⟨h0, h1, h⟩ := h
      refine ⟨h0, Ms.lt hM (k := 41) rfl h1, ?_⟩
      exact hQ _ _ (Fr.f (k := 1000) (by decide) hF) h
    · have h := h.2.2.2.1 c37
      refine T_X9_weight hM (Fr.f (k := 1000) (by decide) hF) (fun z1 h => ?_) h
      try dsimp only at h
      exact hQ _ _ (Fr.f (k := 1000) (by decide) hF) h
    · have h := h.2.2.2.2.1 c37
      refine ⟨ma 44, (hM.2.1 44 rfl).1, ?_⟩
      refine ⟨(hM.2.1 44 rfl).2.1, ?_⟩
      obtain ⟨h0, h1, h⟩ := h
      refine ⟨h0, Ms.lt hM (k := 44) rfl h1, ?_⟩
      exact hQ _ _ (Fr.f (k := 1000) (by decide) hF) h
    · have h := h.2.2.2.2.2.1 c37
      refine ⟨ma 47, (hM.2.1 47 rfl).1, ?_⟩
      refine ⟨(hM.2.1 47 rfl).2.1, ?_⟩
      obtain ⟨h0, h1, h⟩ := h
      refine ⟨h0, Ms.lt hM (k := 47) rfl h1, ?_⟩
      refine ⟨ma 46, (hM.2.1 46 rfl).1, ?_⟩
      refine ⟨(hM.2.1 46 rfl).2.1, ?_⟩
      obtain ⟨h0, h1, h⟩ := h
      refine ⟨h0, Ms.lt hM (k := 46) rfl h1, ?_⟩
      exact hQ _ _ (Fr.f (k := 1000) (by decide) hF) h
    · have h := h.2.2.2.2.2.2 c37
      refine ⟨ma 39, (hM.2.1 39 rfl).1, ?_⟩
      refine ⟨(hM.2.1 39 rfl).2.1, ?_⟩
      obtain ⟨h0, h1, h⟩ := h
      refine ⟨h0, Ms.lt hM (k := 39) rfl h1, ?_⟩
      refine ⟨fun c145 => ?_, fun c145 => ?_⟩
      · have h := h.1 c145
        exact hQ _ _ (Fr.f (k := 1000) (by decide) hF) h
      · have h := h.2 c145
        refine ⟨ma 42, (hM.2.1 42 rfl).1, ?_⟩
        refine ⟨(hM.2.1 42 rfl).2.1, ?_⟩
        obtain ⟨h0, h1, h⟩ := h
        refine ⟨h0, Ms.lt hM (k := 42) rfl h1, ?_⟩
        exact hQ _ _ (Fr.f (k := 1000) (by decide) hF) h
  · have h := h.2 c31
    exact hQ _ _ (Fr.f (k := 1000) (by decide) hF) h
set_option maxRecDepth 20000 in
set_option maxHeartbeats 4000000 in
theorem T_X9_train_23 {m : Nat} {ma : Nat → Nat} {S : Shp} {F0 : Fl} {I0 : Il}  {F : Fl} {I : Il} {x1 : Int} {x2 : Int} {Q : Int → Fl → Prop} {Qw : Int → Il → Prop} (hM : Ms m ma S)  (hF : Fr m ma F0 I0 F I) (hQ : ∀ (z : Int) (F' : Fl), Fr m ma F0 I0 F' I → Qw z (mA ma m F' I) → Q z F') (h : W_X9_train_23 x1 x2 (mA ma m F I) Qw) : V_X9_train_23 m x1 x2 m S F I Q := by
  unfold V_X9_train_23
  unfold W_X9_train_23 at h
  exact T_X9_train_24 hM  hF hQ h
set_option maxRecDepth 20000 in
set_option maxHeartbeats 4000000 in
theorem T_X9_train {m : Nat} {ma : Nat → Nat} {S : Shp} {F0 : Fl} {I0 : Il}  {F : Fl} {I : Il} {x1 : Int} {x2 : Int} {Q : Int → Fl → Prop} {Qw : Int → Il → Prop} (hM : Ms m ma S)  (hF : Fr m ma F0 I0 F I) (hQ : ∀ (z : Int) (F' : Fl), Fr m ma F0 I0 F' I → Qw z (mA ma m F' I) → Q z F') (h : W_X9_train x1 x2 (mA ma m F I) Qw) : V_X9_train m x1 x2 S F I Q := by
  unfold V_X9_train
  unfold W_X9_train at h
  refine ⟨hM.1, ?_⟩
  refine T_X9_isTrain hM hF (fun z1 h => ?_) h
  try dsimp only at h
  refine ⟨fun c6 => ?_, fun c6 => ?_⟩
  · have h := h.1 c6
    exact T_X9_train_23 hM  hF hQ h
  · have h := h.2 c6
    refine T_X9_in hM hF (fun z2 h => ?_) h
    try dsimp only at h
    refine ⟨fun c16 => ?_, fun c16 => ?_⟩
    · have h := h.1 c16
      exact T_X9_train_23 hM  hF hQ h
    · have h := h.2 c16
      exact T_X9_train_24 hM  hF hQ h
set_option maxRecDepth 20000 in
set_option maxHeartbeats 4000000 in
theorem T_X9_uncouple_117 {m : Nat} {ma : Nat → Nat} {S : Shp} {F0 : Fl} {I0 : Il} {kv61 : Nat → Int → Int → Int → Int → Fl → Il → Prop} {k61 : Int → Int → Int → Int → Il → Prop} {F : Fl} {I : Il} {x1 : Int} {x2 : Int} {x4 : Int} {s0 : Int} {s1 : Int} {Q : Int → Fl → Il → Prop} {Qw : Int → Il → Prop} (hM : Ms m ma S) (hk61 : ∀ (x1 : Int) (x2 : Int) (x3 : Int) (x4 : Int) (F' : Fl) (I' : Il), Fr m ma F0 I0 F' I' → k61 x1 x2 x3 x4 (mA ma m F' I') → kv61 m x1 x2 x3 x4 F' I') (hF : Fr m ma F0 I0 F I) (hQ : ∀ (z : Int) (F' : Fl) (I' : Il), Fr m ma F0 I0 F' I' → Qw z (mA ma m F' I') → Q z F' I') (h : W_X9_uncouple_117 k61 x1 x2 x4 s0 s1 (mA ma m F I) Qw) : V_X9_uncouple_117 kv61 m x1 x2 x4 s0 s1 S F I Q := by
  unfold V_X9_uncouple_117
  unfold W_X9_uncouple_117 at h
  exact hk61 _ _ _ _ _ _ hF h
set_option maxRecDepth 20000 in
set_option maxHeartbeats 4000000 in
theorem T_X9_uncouple_61 {m : Nat} {ma : Nat → Nat} {S : Shp} {F0 : Fl} {I0 : Il}   {Q : Int → Fl → Il → Prop} {Qw : Int → Il → Prop} (hM : Ms m ma S)  (hQ : ∀ (z : Int) (F' : Fl) (I' : Il), Fr m ma F0 I0 F' I' → Qw z (mA ma m F' I') → Q z F' I') (n9 : Nat) : ∀ (x1 : Int) (x2 : Int) (x3 : Int) (x4 : Int) (F : Fl) (I : Il), Fr m ma F0 I0 F I → W_X9_uncouple_61 n9 x1 x2 x3 x4 (mA ma m F I) Qw → V_X9_uncouple_61 n9 m x1 x2 x3 x4 S F I Q := by
  induction n9 with
  | zero => intro x1 x2 x3 x4 F I hF h; exact h.elim
  | succ n ih =>
    intro x1 x2 x3 x4 F I hF h
    unfold V_X9_uncouple_61
    unfold W_X9_uncouple_61 at h
    refine ⟨hM.1, ?_⟩
    refine ⟨ma 44, (hM.2.1 44 rfl).1, ?_⟩
    refine ⟨(hM.2.1 44 rfl).2.1, ?_⟩
    obtain ⟨h0, h1, h⟩ := h
    refine ⟨h0, Ms.lt hM (k := 44) rfl h1, ?_⟩
    refine ⟨fun c69 => ?_, fun c69 => ?_⟩
    · have h := h.1 c69
      obtain ⟨h0, h1, h⟩ := h
      refine ⟨h0, Ms.lt hM (k := 44) rfl h1, ?_⟩
      rw [← mA_i hM (F := F) (k := 44) rfl] at h
      refine ⟨ma 40, (hM.2.1 40 rfl).1, ?_⟩
      refine ⟨(hM.2.1 40 rfl).2.1, ?_⟩
      obtain ⟨h0, h1, h⟩ := h
      refine ⟨h0, Ms.lt hM (k := 40) rfl h1, ?_⟩
      refine T_X9_comes hM (Fr.i (k := 44) rfl hF) (fun F2 I3 hF4 h => ?_) h
      try dsimp only at h
      obtain ⟨h0, h1, h⟩ := h
      refine ⟨h0, Ms.lt hM (k := 44) rfl h1, ?_⟩
      exact hQ _ _ _ hF4 h
    · have h := h.2 c69
      refine ⟨ma 43, (hM.2.1 43 rfl).1, ?_⟩
      refine ⟨(hM.2.1 43 rfl).2.1, ?_⟩
      obtain ⟨h0, h1, h⟩ := h
      refine ⟨h0, Ms.lt hM (k := 43) rfl h1, ?_⟩
      obtain ⟨h0, h1, h⟩ := h
      refine ⟨h0, Ms.lt hM (k := 43) rfl h1, ?_⟩
      rw [← mA_i hM (F := F) (k := 43) rfl] at h
      obtain ⟨h0, h1, h⟩ := h
      refine ⟨h0, Ms.lt hM (k := 43) rfl h1, ?_⟩
      refine ⟨fun c109 => ?_, fun c109 => ?_⟩
      · have h := h.1 c109
        exact T_X9_uncouple_117 hM (fun y0 y1 y2 y3 F' I' hF9 h9 => ih y0 y1 y2 y3 F' I' hF9 h9) (Fr.i (k := 43) rfl hF) hQ h
      · have h := h.2 c109
        exact T_X9_uncouple_117 hM (fun y0 y1 y2 y3 F' I' hF9 h9 => ih y0 y1 y2 y3 F' I' hF9 h9) (Fr.i (k := 43) rfl hF) hQ h
set_option maxRecDepth 20000 in
set_option maxHeartbeats 4000000 in
theorem T_X9_uncouple_44 {m : Nat} {ma : Nat → Nat} {S : Shp} {F0 : Fl} {I0 : Il}  {F : Fl} {I : Il} {x1 : Int} {x2 : Int} {s0 : Int} {Q : Int → Fl → Il → Prop} {Qw : Int → Il → Prop} (hM : Ms m ma S)  (hF : Fr m ma F0 I0 F I) (hQ : ∀ (z : Int) (F' : Fl) (I' : Il), Fr m ma F0 I0 F' I' → Qw z (mA ma m F' I') → Q z F' I') (h : W_X9_uncouple_44 x1 x2 s0 (mA ma m F I) Qw) : V_X9_uncouple_44 m x1 x2 s0 m S F I Q := by
  unfold V_X9_uncouple_44
  unfold W_X9_uncouple_44 at h
  refine ⟨hM.1, ?_⟩
  rw [← mA_f (ma := ma) (m := m) (I := I) (k := 0) rfl] at h
  refine ⟨hM.1, ?_⟩
  refine ⟨fun c51 => ?_, fun c51 => ?_⟩
  · have h := h.1 c51
    obtain ⟨n9, h⟩ := h
    exact ⟨n9, T_X9_uncouple_61 hM  hQ n9 _ _ _ _ _ _ (Fr.f (k := 1000) (by decide) hF) h⟩
  · have h := h.2 c51
    exact hQ _ _ _ (Fr.f (k := 1000) (by decide) hF) h
set_option maxRecDepth 20000 in
set_option maxHeartbeats 4000000 in
theorem T_X9_uncouple_17 {m : Nat} {ma : Nat → Nat} {S : Shp} {F0 : Fl} {I0 : Il}  {F : Fl} {I : Il} {x1 : Int} {x2 : Int} {Q : Int → Fl → Il → Prop} {Qw : Int → Il → Prop} (hM : Ms m ma S)  (hF : Fr m ma F0 I0 F I) (hQ : ∀ (z : Int) (F' : Fl) (I' : Il), Fr m ma F0 I0 F' I' → Qw z (mA ma m F' I') → Q z F' I') (h : W_X9_uncouple_17 x1 x2 (mA ma m F I) Qw) : V_X9_uncouple_17 m x1 x2 m S F I Q := by
  unfold V_X9_uncouple_17
  unfold W_X9_uncouple_17 at h
  exact T_X9_uncouple_44 hM  hF hQ h
set_option maxRecDepth 20000 in
set_option maxHeartbeats 4000000 in
theorem T_X9_uncouple_39 {m : Nat} {ma : Nat → Nat} {S : Shp} {F0 : Fl} {I0 : Il}  {F : Fl} {I : Il} {x1 : Int} {x2 : Int} {Q : Int → Fl → Il → Prop} {Qw : Int → Il → Prop} (hM : Ms m ma S)  (hF : Fr m ma F0 I0 F I) (hQ : ∀ (z : Int) (F' : Fl) (I' : Il), Fr m ma F0 I0 F' I' → Qw z (mA ma m F' I') → Q z F' I') (h : W_X9_uncouple_39 x1 x2 (mA ma m F I) Qw) : V_X9_uncouple_39 m x1 x2 m S F I Q := by
  unfold V_X9_uncouple_39
  unfold W_X9_uncouple_39 at h
  exact T_X9_uncouple_44 hM  hF hQ h
set_option maxRecDepth 20000 in
set_option maxHeartbeats 4000000 in
theorem T_X9_uncouple {m : Nat} {ma : Nat → Nat} {S : Shp} {F0 : Fl} {I0 : Il}  {F : Fl} {I : Il} {x1 : Int} {x2 : Int} {Q : Int → Fl → Il → Prop} {Qw : Int → Il → Prop} (hM : Ms m ma S)  (hF : Fr m ma F0 I0 F I) (hQ : ∀ (z : Int) (F' : Fl) (I' : Il), Fr m ma F0 I0 F' I' → Qw z (mA ma m F' I') → Q z F' I') (h : W_X9_uncouple x1 x2 (mA ma m F I) Qw) : V_X9_uncouple m x1 x2 S F I Q := by
  unfold V_X9_uncouple
  unfold W_X9_uncouple at h
  refine ⟨hM.1, ?_⟩
  refine T_X9_isTrain hM hF (fun z1 h => ?_) h
  try dsimp only at h
  refine ⟨fun c6 => ?_, fun c6 => ?_⟩
  · have h := h.1 c6
    exact T_X9_uncouple_17 hM  hF hQ h
  · have h := h.2 c6
    refine T_X9_isCar hM hF (fun z2 h => ?_) h
    try dsimp only at h
    refine ⟨fun c14 => ?_, fun c14 => ?_⟩
    · have h := h.1 c14
      refine T_X9_stands hM hF (fun z3 h => ?_) h
      try dsimp only at h
      refine ⟨fun c26 => ?_, fun c26 => ?_⟩
      · have h := h.1 c26
        exact T_X9_uncouple_39 hM  hF hQ h
      · have h := h.2 c26
        refine ⟨ma 32, (hM.2.1 32 rfl).1, ?_⟩
        refine ⟨(hM.2.1 32 rfl).2.1, ?_⟩
        obtain ⟨h0, h1, h⟩ := h
        refine ⟨h0, Ms.lt hM (k := 32) rfl h1, ?_⟩
        refine ⟨fun c36 => ?_, fun c36 => ?_⟩
        · have h := h.1 c36
          exact T_X9_uncouple_44 hM  hF hQ h
        · have h := h.2 c36
          exact T_X9_uncouple_39 hM  hF hQ h
    · have h := h.2 c14
      exact T_X9_uncouple_17 hM  hF hQ h
set_option maxRecDepth 20000 in
set_option maxHeartbeats 4000000 in
theorem T_X9_unload_58 {m : Nat} {ma : Nat → Nat} {S : Shp} {F0 : Fl} {I0 : Il}  {F : Fl} {I : Il} {x1 : Int} {s0 : Int} {Q : Int → Fl → Il → Prop} {Qw : Int → Il → Prop} (hM : Ms m ma S)  (hF : Fr m ma F0 I0 F I) (hQ : ∀ (z : Int) (F' : Fl) (I' : Il), Fr m ma F0 I0 F' I' → Qw z (mA ma m F' I') → Q z F' I') (h : W_X9_unload_58 x1 s0 (mA ma m F I) Qw) : V_X9_unload_58 m x1 s0 m S F I Q := by
  unfold V_X9_unload_58
  unfold W_X9_unload_58 at h
  refine ⟨hM.1, ?_⟩
  rw [← mA_f (ma := ma) (m := m) (I := I) (k := 0) rfl] at h
  refine ⟨hM.1, ?_⟩
  refine ⟨fun c65 => ?_, fun c65 => ?_⟩
  · have h := h.1 c65
    refine ⟨ma 33, (hM.2.1 33 rfl).1, ?_⟩
    refine ⟨(hM.2.1 33 rfl).2.1, ?_⟩
    obtain ⟨h0, h1, h⟩ := h
    refine ⟨h0, Ms.lt hM (k := 33) rfl h1, ?_⟩
    obtain ⟨h0, h1, h⟩ := h
    refine ⟨h0, Ms.lt hM (k := 33) rfl h1, ?_⟩
    rw [← mA_i hM (F := (u2 F 1000 m _)) (k := 33) rfl] at h
    refine ⟨ma 57, (hM.2.1 57 rfl).1, ?_⟩
    refine ⟨(hM.2.1 57 rfl).2.1, ?_⟩
    obtain ⟨h0, h1, h⟩ := h
    refine ⟨h0, Ms.lt hM (k := 57) rfl h1, ?_⟩
    rw [← mA_f (ma := ma) (m := m) (I := (ui I (ma 33) _ _)) (k := 2) rfl] at h
    refine T_X9_writes hM (Fr.f (k := 1002) (by decide) (Fr.i (k := 33) rfl (Fr.f (k := 1000) (by decide) hF))) (fun F2 I3 hF4 h => ?_) h
    try dsimp only at h
    obtain ⟨h0, h1, h⟩ := h
    refine ⟨h0, Ms.lt hM (k := 57) rfl h1, ?_⟩
    exact hQ _ _ _ hF4 h
  · have h := h.2 c65
    exact hQ _ _ _ (Fr.f (k := 1000) (by decide) hF) h
set_option maxRecDepth 20000 in
set_option maxHeartbeats 4000000 in
theorem T_X9_unload_53 {m : Nat} {ma : Nat → Nat} {S : Shp} {F0 : Fl} {I0 : Il}  {F : Fl} {I : Il} {x1 : Int} {Q : Int → Fl → Il → Prop} {Qw : Int → Il → Prop} (hM : Ms m ma S)  (hF : Fr m ma F0 I0 F I) (hQ : ∀ (z : Int) (F' : Fl) (I' : Il), Fr m ma F0 I0 F' I' → Qw z (mA ma m F' I') → Q z F' I') (h : W_X9_unload_53 x1 (mA ma m F I) Qw) : V_X9_unload_53 m x1 m S F I Q := by
  unfold V_X9_unload_53
  unfold W_X9_unload_53 at h
  exact T_X9_unload_58 hM  hF hQ h
set_option maxRecDepth 20000 in
set_option maxHeartbeats 4000000 in
theorem T_X9_unload {m : Nat} {ma : Nat → Nat} {S : Shp} {F0 : Fl} {I0 : Il}  {F : Fl} {I : Il} {x1 : Int} {Q : Int → Fl → Il → Prop} {Qw : Int → Il → Prop} (hM : Ms m ma S)  (hF : Fr m ma F0 I0 F I) (hQ : ∀ (z : Int) (F' : Fl) (I' : Il), Fr m ma F0 I0 F' I' → Qw z (mA ma m F' I') → Q z F' I') (h : W_X9_unload x1 (mA ma m F I) Qw) : V_X9_unload m x1 S F I Q := by
  unfold V_X9_unload
  unfold W_X9_unload at h
  refine ⟨hM.1, ?_⟩
  refine T_X9_isCar hM hF (fun z1 h => ?_) h
  try dsimp only at h
  refine ⟨fun c6 => ?_, fun c6 => ?_⟩
  · have h := h.1 c6
    refine ⟨ma 32, (hM.2.1 32 rfl).1, ?_⟩
    refine ⟨(hM.2.1 32 rfl).2.1, ?_⟩
    obtain ⟨h0, h1, h⟩ := h
    refine ⟨h0, Ms.lt hM (k := 32) rfl h1, ?_⟩
    refine ⟨fun c20 => ?_, fun c20 => ?_⟩
    · have h := h.1 c20
      exact T_X9_unload_53 hM  hF hQ h
    · have h := h.2 c20
      refine ⟨ma 33, (hM.2.1 33 rfl).1, ?_⟩
      refine ⟨(hM.2.1 33 rfl).2.1, ?_⟩
      obtain ⟨h0, h1, h⟩ := h
      refine ⟨h0, Ms.lt hM (k := 33) rfl h1, ?_⟩
      refine ⟨fun c30 => ?_, fun c30 => ?_⟩
      · have h := h.1 c30
        exact T_X9_unload_53 hM  hF hQ h
      · have h := h.2 c30
        refine ⟨ma 31, (hM.2.1 31 rfl).1, ?_⟩
        refine ⟨(hM.2.1 31 rfl).2.1, ?_⟩
        obtain ⟨h0, h1, h⟩ := h
        refine ⟨h0, Ms.lt hM (k := 31) rfl h1, ?_⟩
        refine ⟨ma 56, (hM.2.1 56 rfl).1, ?_⟩
        obtain ⟨h0, h1, h⟩ := h
        refine ⟨h0, Ms.lt hM (k := 33) rfl h1, ?_⟩
        refine ⟨(hM.2.1 56 rfl).2.1, ?_⟩
        obtain ⟨h0, h1, h⟩ := h
        refine ⟨h0, Ms.lt hM (k := 56) rfl h1, ?_⟩
        refine ⟨fun c50 => ?_, fun c50 => ?_⟩
        · have h := h.1 c50
          exact T_X9_unload_58 hM  hF hQ h
        · have h := h.2 c50
          exact T_X9_unload_53 hM  hF hQ h
  · have h := h.2 c6
    exact T_X9_unload_58 hM  hF hQ h
set_option maxRecDepth 20000 in
set_option maxHeartbeats 4000000 in
theorem T_X9_yardAt_17 {m : Nat} {ma : Nat → Nat} {S : Shp} {F0 : Fl} {I0 : Il}  {F : Fl} {I : Il} {x1 : Int} {x2 : Int} {s0 : Int} {Q : Int → Fl → Prop} {Qw : Int → Il → Prop} (hM : Ms m ma S)  (hF : Fr m ma F0 I0 F I) (hQ : ∀ (z : Int) (F' : Fl), Fr m ma F0 I0 F' I → Qw z (mA ma m F' I) → Q z F') (h : W_X9_yardAt_17 x1 x2 s0 (mA ma m F I) Qw) : V_X9_yardAt_17 m x1 x2 s0 m S F I Q := by
  unfold V_X9_yardAt_17
  unfold W_X9_yardAt_17 at h
  refine ⟨hM.1, ?_⟩
  rw [← mA_f (ma := ma) (m := m) (I := I) (k := 0) rfl] at h
  refine ⟨hM.1, ?_⟩
  refine ⟨fun c24 => ?_, fun c24 => ?_⟩
  · have h := h.1 c24
    refine ⟨ma 35, (hM.2.1 35 rfl).1, ?_⟩
    refine ⟨(hM.2.1 35 rfl).2.1, ?_⟩
    obtain ⟨h0, h1, h⟩ := h
    refine ⟨h0, Ms.lt hM (k := 35) rfl h1, ?_⟩
    refine ⟨fun c38 => ?_, fun c38 => ?_⟩
    · have h := h.1 c38
      exact hQ _ _ (Fr.f (k := 1000) (by decide) hF) h
    · have h := h.2 c38
      refine ⟨ma 34, (hM.2.1 34 rfl).1, ?_⟩
      refine ⟨(hM.2.1 34 rfl).2.1, ?_⟩
      obtain ⟨h0, h1, h⟩ := h
      refine ⟨h0, Ms.lt hM (k := 34) rfl h1, ?_⟩
      exact hQ _ _ (Fr.f (k := 1000) (by decide) hF) h
  · have h := h.2 c24
    exact hQ _ _ (Fr.f (k := 1000) (by decide) hF) h
set_option maxRecDepth 20000 in
set_option maxHeartbeats 4000000 in
theorem T_X9_yardAt_16 {m : Nat} {ma : Nat → Nat} {S : Shp} {F0 : Fl} {I0 : Il}  {F : Fl} {I : Il} {x1 : Int} {x2 : Int} {Q : Int → Fl → Prop} {Qw : Int → Il → Prop} (hM : Ms m ma S)  (hF : Fr m ma F0 I0 F I) (hQ : ∀ (z : Int) (F' : Fl), Fr m ma F0 I0 F' I → Qw z (mA ma m F' I) → Q z F') (h : W_X9_yardAt_16 x1 x2 (mA ma m F I) Qw) : V_X9_yardAt_16 m x1 x2 m S F I Q := by
  unfold V_X9_yardAt_16
  unfold W_X9_yardAt_16 at h
  exact T_X9_yardAt_17 hM  hF hQ h
set_option maxRecDepth 20000 in
set_option maxHeartbeats 4000000 in
theorem T_X9_yardAt {m : Nat} {ma : Nat → Nat} {S : Shp} {F0 : Fl} {I0 : Il}  {F : Fl} {I : Il} {x1 : Int} {x2 : Int} {Q : Int → Fl → Prop} {Qw : Int → Il → Prop} (hM : Ms m ma S)  (hF : Fr m ma F0 I0 F I) (hQ : ∀ (z : Int) (F' : Fl), Fr m ma F0 I0 F' I → Qw z (mA ma m F' I) → Q z F') (h : W_X9_yardAt x1 x2 (mA ma m F I) Qw) : V_X9_yardAt m x1 x2 S F I Q := by
  unfold V_X9_yardAt
  unfold W_X9_yardAt at h
  refine T_X9_isStation hM hF (fun z1 h => ?_) h
  try dsimp only at h
  refine ⟨fun c5 => ?_, fun c5 => ?_⟩
  · have h := h.1 c5
    exact T_X9_yardAt_16 hM  hF hQ h
  · have h := h.2 c5
    refine ⟨fun c9 => ?_, fun c9 => ?_⟩
    · have h := h.1 c9
      exact T_X9_yardAt_16 hM  hF hQ h
    · have h := h.2 c9
      exact T_X9_yardAt_17 hM  hF hQ h
