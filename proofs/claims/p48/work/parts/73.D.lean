/-! the reference's arrays decide what it does: two ends of one run agree -/
theorem br_D {p a b a' b' R : Prop} (h1 : (p → a) ∧ (¬ p → b)) (h2 : (p → a') ∧ (¬ p → b')) (k1 : p → a → a' → R) (k2 : ¬ p → b → b' → R) : R := (Classical.em p).elim (fun c => k1 c (h1.1 c) (h2.1 c)) (fun c => k2 c (h1.2 c) (h2.2 c))
theorem bn_D {p a b a' b' R : Prop} (h1 : (¬ p → a) ∧ (p → b)) (h2 : (¬ p → a') ∧ (p → b')) (k1 : ¬ p → a → a' → R) (k2 : p → b → b' → R) : R := (Classical.em p).elim (fun c => k2 c (h1.2 c) (h2.2 c)) (fun c => k1 c (h1.1 c) (h2.1 c))
theorem sw_s {x k : Int} (h : k ≤ x) (hn : ¬ x = k) : k + 1 ≤ x := by omega
theorem sw_D {p a b a' b' R : Prop} (h1 : (p → a) ∧ b) (h2 : (p → a') ∧ b') (k1 : p → a → a' → R) (k2 : ¬ p → b → b' → R) : R := (Classical.em p).elim (fun c => k1 c (h1.1 c) (h2.1 c)) (fun c => k2 c h1.2 h2.2)
theorem D_X9_in  {x0 : Int} {x1 : Int} {x2 : Int} {A : Il} {Q1 Q2 : Int → Prop}  (h1 : W_X9_in x0 x1 x2 A Q1) (h2 : W_X9_in x0 x1 x2 A Q2) : ∃ (r0 : Int), Q1 r0 ∧ Q2 r0 := by
  unfold W_X9_in at h1 h2
  refine br_D h1 h2 (fun c h1 h2 => ?_) (fun c h1 h2 => ?_)
  · exact ⟨_, h1, h2⟩
  · refine br_D h1 h2 (fun c h1 h2 => ?_) (fun c h1 h2 => ?_)
    · exact ⟨_, h1, h2⟩
    · exact ⟨_, h1, h2⟩
theorem D_X9_isStation  {x0 : Int} {A : Il} {Q1 Q2 : Int → Prop}  (h1 : W_X9_isStation x0 A Q1) (h2 : W_X9_isStation x0 A Q2) : ∃ (r0 : Int), Q1 r0 ∧ Q2 r0 := by
  unfold W_X9_isStation at h1 h2
  obtain ⟨z1, h1, h2⟩ := D_X9_in h1 h2
  exact ⟨_, h1.2, h2.2⟩
theorem D_X9_taken_45 {k4_1 k4_2 : Int → Int → Int → Prop} {x1 : Int} {x3 : Int} {s0 : Int} {s1 : Int} {A : Il} {Q1 Q2 : Int → Prop} (hk4 : ∀ (y0 : Int) (y1 : Int) (y2 : Int), k4_1 y0 y1 y2 → k4_2 y0 y1 y2 → ∃ (r0 : Int), Q1 r0 ∧ Q2 r0) (h1 : W_X9_taken_45 k4_1 x1 x3 s0 s1 A Q1) (h2 : W_X9_taken_45 k4_2 x1 x3 s0 s1 A Q2) : ∃ (r0 : Int), Q1 r0 ∧ Q2 r0 := by
  unfold W_X9_taken_45 at h1 h2
  exact hk4 _ _ _ h1 h2
theorem D_X9_taken_44 {k4_1 k4_2 : Int → Int → Int → Prop} {x1 : Int} {x3 : Int} {s0 : Int} {A : Il} {Q1 Q2 : Int → Prop} (hk4 : ∀ (y0 : Int) (y1 : Int) (y2 : Int), k4_1 y0 y1 y2 → k4_2 y0 y1 y2 → ∃ (r0 : Int), Q1 r0 ∧ Q2 r0) (h1 : W_X9_taken_44 k4_1 x1 x3 s0 A Q1) (h2 : W_X9_taken_44 k4_2 x1 x3 s0 A Q2) : ∃ (r0 : Int), Q1 r0 ∧ Q2 r0 := by
  unfold W_X9_taken_44 at h1 h2
  exact D_X9_taken_45 hk4 h1 h2
theorem D_X9_taken_4  {Q1 Q2 : Int → Prop}  : ∀ (n1 n2 : Nat) (x1 : Int) (x2 : Int) (x3 : Int) (A : Il), W_X9_taken_4 n1 x1 x2 x3 A Q1 → W_X9_taken_4 n2 x1 x2 x3 A Q2 → ∃ (r0 : Int), Q1 r0 ∧ Q2 r0 := by
  intro n1
  induction n1 with
  | zero => intro n2 x1 x2 x3 A h1 _; exact h1.elim
  | succ n1 ih =>
    intro n2 x1 x2 x3 A h1 h2
    cases n2 with
    | zero => exact h2.elim
    | succ n2 =>
      unfold W_X9_taken_4 at h1 h2
      refine br_D h1 h2 (fun c h1 h2 => ?_) (fun c h1 h2 => ?_)
      · exact ⟨_, h1, h2⟩
      · refine br_D h1.2.2 h2.2.2 (fun c h1 h2 => ?_) (fun c h1 h2 => ?_)
        · exact D_X9_taken_44 (fun _ _ _ h1 h2 => ih _ _ _ _ _ h1 h2) h1 h2
        · refine br_D h1.2.2 h2.2.2 (fun c h1 h2 => ?_) (fun c h1 h2 => ?_)
          · exact D_X9_taken_44 (fun _ _ _ h1 h2 => ih _ _ _ _ _ h1 h2) h1 h2
          · refine bn_D h1.2.2 h2.2.2 (fun c h1 h2 => ?_) (fun c h1 h2 => ?_)
            · exact D_X9_taken_44 (fun _ _ _ h1 h2 => ih _ _ _ _ _ h1 h2) h1 h2
            · exact D_X9_taken_45 (fun _ _ _ h1 h2 => ih _ _ _ _ _ h1 h2) h1 h2
theorem D_X9_taken  {x1 : Int} {A : Il} {Q1 Q2 : Int → Prop}  (h1 : W_X9_taken x1 A Q1) (h2 : W_X9_taken x1 A Q2) : ∃ (r0 : Int), Q1 r0 ∧ Q2 r0 := by
  unfold W_X9_taken at h1 h2
  obtain ⟨n1, h1⟩ := h1
  obtain ⟨n2, h2⟩ := h2
  exact D_X9_taken_4 n1 n2 _ _ _ _ h1 h2
theorem D_X9_tracks_39  {x1 : Int} {x2 : Int} {s0 : Int} {A : Il} {Q1 Q2 : Int → Il → Prop}  (h1 : W_X9_tracks_39 x1 x2 s0 A Q1) (h2 : W_X9_tracks_39 x1 x2 s0 A Q2) : ∃ (r0 : Int) (r1 : Il), Q1 r0 r1 ∧ Q2 r0 r1 := by
  unfold W_X9_tracks_39 at h1 h2
  refine br_D h1 h2 (fun c h1 h2 => ?_) (fun c h1 h2 => ?_)
  · exact ⟨_, _, h1.2.2.2.2, h2.2.2.2.2⟩
  · exact ⟨_, _, h1, h2⟩
theorem D_X9_tracks  {x1 : Int} {x2 : Int} {A : Il} {Q1 Q2 : Int → Il → Prop}  (h1 : W_X9_tracks x1 x2 A Q1) (h2 : W_X9_tracks x1 x2 A Q2) : ∃ (r0 : Int) (r1 : Il), Q1 r0 r1 ∧ Q2 r0 r1 := by
  unfold W_X9_tracks at h1 h2
  obtain ⟨z1, h1, h2⟩ := D_X9_isStation h1 h2
  refine bn_D h1 h2 (fun c h1 h2 => ?_) (fun c h1 h2 => ?_)
  · obtain ⟨z2, h1, h2⟩ := D_X9_in h1 h2
    refine bn_D h1 h2 (fun c h1 h2 => ?_) (fun c h1 h2 => ?_)
    · obtain ⟨z3, h1, h2⟩ := D_X9_taken h1 h2
      refine br_D h1 h2 (fun c h1 h2 => ?_) (fun c h1 h2 => ?_)
      · exact D_X9_tracks_39 h1 h2
      · exact D_X9_tracks_39 h1 h2
    · exact D_X9_tracks_39 h1 h2
  · exact D_X9_tracks_39 h1 h2
theorem D_X9_isBlock  {x1 : Int} {A : Il} {Q1 Q2 : Int → Prop}  (h1 : W_X9_isBlock x1 A Q1) (h2 : W_X9_isBlock x1 A Q2) : ∃ (r0 : Int), Q1 r0 ∧ Q2 r0 := by
  unfold W_X9_isBlock at h1 h2
  obtain ⟨z1, h1, h2⟩ := D_X9_in h1 h2
  exact ⟨_, h1.2, h2.2⟩
theorem D_X9_fail_14  {x1 : Int} {x2 : Int} {s0 : Int} {A : Il} {Q1 Q2 : Int → Il → Prop}  (h1 : W_X9_fail_14 x1 x2 s0 A Q1) (h2 : W_X9_fail_14 x1 x2 s0 A Q2) : ∃ (r0 : Int) (r1 : Il), Q1 r0 r1 ∧ Q2 r0 r1 := by
  unfold W_X9_fail_14 at h1 h2
  refine br_D h1 h2 (fun c h1 h2 => ?_) (fun c h1 h2 => ?_)
  · exact ⟨_, _, h1.2.2.2.2.2.2.2.2, h2.2.2.2.2.2.2.2.2⟩
  · exact ⟨_, _, h1, h2⟩
theorem D_X9_fail  {x1 : Int} {x2 : Int} {A : Il} {Q1 Q2 : Int → Il → Prop}  (h1 : W_X9_fail x1 x2 A Q1) (h2 : W_X9_fail x1 x2 A Q2) : ∃ (r0 : Int) (r1 : Il), Q1 r0 r1 ∧ Q2 r0 r1 := by
  unfold W_X9_fail at h1 h2
  obtain ⟨z1, h1, h2⟩ := D_X9_isBlock h1 h2
  refine br_D h1 h2 (fun c h1 h2 => ?_) (fun c h1 h2 => ?_)
  · exact D_X9_fail_14 h1 h2
  · exact D_X9_fail_14 h1 h2
theorem D_X9_flag_36  {x1 : Int} {s0 : Int} {A : Il} {Q1 Q2 : Il → Prop}  (h1 : W_X9_flag_36 x1 s0 A Q1) (h2 : W_X9_flag_36 x1 s0 A Q2) : ∃ (r0 : Il), Q1 r0 ∧ Q2 r0 := by
  unfold W_X9_flag_36 at h1 h2
  refine bn_D h1 h2 (fun c h1 h2 => ?_) (fun c h1 h2 => ?_)
  · exact ⟨_, h1, h2⟩
  · exact ⟨_, h1.2.2, h2.2.2⟩
theorem D_X9_flag_31  {x1 : Int} {A : Il} {Q1 Q2 : Il → Prop}  (h1 : W_X9_flag_31 x1 A Q1) (h2 : W_X9_flag_31 x1 A Q2) : ∃ (r0 : Il), Q1 r0 ∧ Q2 r0 := by
  unfold W_X9_flag_31 at h1 h2
  exact D_X9_flag_36 h1 h2
theorem D_X9_flag  {x1 : Int} {A : Il} {Q1 Q2 : Il → Prop}  (h1 : W_X9_flag x1 A Q1) (h2 : W_X9_flag x1 A Q2) : ∃ (r0 : Il), Q1 r0 ∧ Q2 r0 := by
  unfold W_X9_flag at h1 h2
  obtain ⟨z1, h1, h2⟩ := D_X9_isBlock h1 h2
  refine bn_D h1 h2 (fun c h1 h2 => ?_) (fun c h1 h2 => ?_)
  · refine br_D h1.2.2 h2.2.2 (fun c h1 h2 => ?_) (fun c h1 h2 => ?_)
    · exact D_X9_flag_31 h1 h2
    · refine br_D h1.2.2 h2.2.2 (fun c h1 h2 => ?_) (fun c h1 h2 => ?_)
      · exact D_X9_flag_36 h1 h2
      · exact D_X9_flag_31 h1 h2
  · exact D_X9_flag_36 h1 h2
theorem D_X9_hours_40  {x1 : Int} {x2 : Int} {x3 : Int} {s0 : Int} {A : Il} {Q1 Q2 : Il → Prop}  (h1 : W_X9_hours_40 x1 x2 x3 s0 A Q1) (h2 : W_X9_hours_40 x1 x2 x3 s0 A Q2) : ∃ (r0 : Il), Q1 r0 ∧ Q2 r0 := by
  unfold W_X9_hours_40 at h1 h2
  refine bn_D h1 h2 (fun c h1 h2 => ?_) (fun c h1 h2 => ?_)
  · exact ⟨_, h1, h2⟩
  · exact ⟨_, h1.2.2.2.2, h2.2.2.2.2⟩
theorem D_X9_hours_35  {x1 : Int} {x2 : Int} {x3 : Int} {A : Il} {Q1 Q2 : Il → Prop}  (h1 : W_X9_hours_35 x1 x2 x3 A Q1) (h2 : W_X9_hours_35 x1 x2 x3 A Q2) : ∃ (r0 : Il), Q1 r0 ∧ Q2 r0 := by
  unfold W_X9_hours_35 at h1 h2
  exact D_X9_hours_40 h1 h2
theorem D_X9_hours  {x1 : Int} {x2 : Int} {x3 : Int} {A : Il} {Q1 Q2 : Il → Prop}  (h1 : W_X9_hours x1 x2 x3 A Q1) (h2 : W_X9_hours x1 x2 x3 A Q2) : ∃ (r0 : Il), Q1 r0 ∧ Q2 r0 := by
  unfold W_X9_hours at h1 h2
  obtain ⟨z1, h1, h2⟩ := D_X9_isBlock h1 h2
  refine bn_D h1 h2 (fun c h1 h2 => ?_) (fun c h1 h2 => ?_)
  · obtain ⟨z2, h1, h2⟩ := D_X9_in h1 h2
    refine br_D h1 h2 (fun c h1 h2 => ?_) (fun c h1 h2 => ?_)
    · exact D_X9_hours_35 h1 h2
    · obtain ⟨z3, h1, h2⟩ := D_X9_in h1 h2
      refine bn_D h1 h2 (fun c h1 h2 => ?_) (fun c h1 h2 => ?_)
      · exact D_X9_hours_40 h1 h2
      · exact D_X9_hours_35 h1 h2
  · exact D_X9_hours_40 h1 h2
theorem D_X9_repair_36  {x1 : Int} {s0 : Int} {A : Il} {Q1 Q2 : Int → Il → Prop}  (h1 : W_X9_repair_36 x1 s0 A Q1) (h2 : W_X9_repair_36 x1 s0 A Q2) : ∃ (r0 : Int) (r1 : Il), Q1 r0 r1 ∧ Q2 r0 r1 := by
  unfold W_X9_repair_36 at h1 h2
  refine br_D h1 h2 (fun c h1 h2 => ?_) (fun c h1 h2 => ?_)
  · exact ⟨_, _, h1.2.2.2.2.2.2, h2.2.2.2.2.2.2⟩
  · exact ⟨_, _, h1, h2⟩
theorem D_X9_repair_31  {x1 : Int} {A : Il} {Q1 Q2 : Int → Il → Prop}  (h1 : W_X9_repair_31 x1 A Q1) (h2 : W_X9_repair_31 x1 A Q2) : ∃ (r0 : Int) (r1 : Il), Q1 r0 r1 ∧ Q2 r0 r1 := by
  unfold W_X9_repair_31 at h1 h2
  exact D_X9_repair_36 h1 h2
theorem D_X9_isClosed  {x1 : Int} {A : Il} {Q1 Q2 : Int → Prop}  (h1 : W_X9_isClosed x1 A Q1) (h2 : W_X9_isClosed x1 A Q2) : ∃ (r0 : Int), Q1 r0 ∧ Q2 r0 := by
  unfold W_X9_isClosed at h1 h2
  refine bn_D h1.2.2 h2.2.2 (fun c h1 h2 => ?_) (fun c h1 h2 => ?_)
  · exact ⟨_, h1, h2⟩
  · refine br_D h1.2.2 h2.2.2 (fun c h1 h2 => ?_) (fun c h1 h2 => ?_)
    · exact ⟨_, h1, h2⟩
    · exact ⟨_, h1, h2⟩
theorem D_X9_repair  {x1 : Int} {A : Il} {Q1 Q2 : Int → Il → Prop}  (h1 : W_X9_repair x1 A Q1) (h2 : W_X9_repair x1 A Q2) : ∃ (r0 : Int) (r1 : Il), Q1 r0 r1 ∧ Q2 r0 r1 := by
  unfold W_X9_repair at h1 h2
  obtain ⟨z1, h1, h2⟩ := D_X9_isBlock h1 h2
  refine bn_D h1 h2 (fun c h1 h2 => ?_) (fun c h1 h2 => ?_)
  · refine bn_D h1.2.2 h2.2.2 (fun c h1 h2 => ?_) (fun c h1 h2 => ?_)
    · exact D_X9_repair_31 h1 h2
    · obtain ⟨z2, h1, h2⟩ := D_X9_isClosed h1 h2
      refine br_D h1 h2 (fun c h1 h2 => ?_) (fun c h1 h2 => ?_)
      · exact D_X9_repair_36 h1 h2
      · exact D_X9_repair_31 h1 h2
  · exact D_X9_repair_36 h1 h2
theorem D_X9_isCrew  {x1 : Int} {A : Il} {Q1 Q2 : Int → Prop}  (h1 : W_X9_isCrew x1 A Q1) (h2 : W_X9_isCrew x1 A Q2) : ∃ (r0 : Int), Q1 r0 ∧ Q2 r0 := by
  unfold W_X9_isCrew at h1 h2
  obtain ⟨z1, h1, h2⟩ := D_X9_in h1 h2
  exact ⟨_, h1.2, h2.2⟩
theorem D_X9_learn_82 {k54_1 k54_2 : Int → Int → Int → Il → Prop} {x1 : Int} {x4 : Int} {s0 : Int} {s1 : Int} {A : Il} {Q1 Q2 : Int → Il → Prop} (hk54 : ∀ (y0 : Int) (y1 : Int) (y2 : Int) (y3 : Il), k54_1 y0 y1 y2 y3 → k54_2 y0 y1 y2 y3 → ∃ (r0 : Int) (r1 : Il), Q1 r0 r1 ∧ Q2 r0 r1) (h1 : W_X9_learn_82 k54_1 x1 x4 s0 s1 A Q1) (h2 : W_X9_learn_82 k54_2 x1 x4 s0 s1 A Q2) : ∃ (r0 : Int) (r1 : Il), Q1 r0 r1 ∧ Q2 r0 r1 := by
  unfold W_X9_learn_82 at h1 h2
  exact hk54 _ _ _ _ h1 h2
theorem D_X9_learn_54  {Q1 Q2 : Int → Il → Prop}  : ∀ (n1 n2 : Nat) (x1 : Int) (x3 : Int) (x4 : Int) (A : Il), W_X9_learn_54 n1 x1 x3 x4 A Q1 → W_X9_learn_54 n2 x1 x3 x4 A Q2 → ∃ (r0 : Int) (r1 : Il), Q1 r0 r1 ∧ Q2 r0 r1 := by
  intro n1
  induction n1 with
  | zero => intro n2 x1 x3 x4 A h1 _; exact h1.elim
  | succ n1 ih =>
    intro n2 x1 x3 x4 A h1 h2
    cases n2 with
    | zero => exact h2.elim
    | succ n2 =>
      unfold W_X9_learn_54 at h1 h2
      refine br_D h1 h2 (fun c h1 h2 => ?_) (fun c h1 h2 => ?_)
      · exact ⟨_, _, h1, h2⟩
      · refine br_D h1.2.2 h2.2.2 (fun c h1 h2 => ?_) (fun c h1 h2 => ?_)
        · exact D_X9_learn_82 (fun _ _ _ _ h1 h2 => ih _ _ _ _ _ h1 h2) h1 h2
        · exact D_X9_learn_82 (fun _ _ _ _ h1 h2 => ih _ _ _ _ _ h1 h2) h1 h2
theorem D_X9_learn_22  {x1 : Int} {x2 : Int} {s0 : Int} {A : Il} {Q1 Q2 : Int → Il → Prop}  (h1 : W_X9_learn_22 x1 x2 s0 A Q1) (h2 : W_X9_learn_22 x1 x2 s0 A Q2) : ∃ (r0 : Int) (r1 : Il), Q1 r0 r1 ∧ Q2 r0 r1 := by
  unfold W_X9_learn_22 at h1 h2
  refine br_D h1 h2 (fun c h1 h2 => ?_) (fun c h1 h2 => ?_)
  · obtain ⟨n1, h1⟩ := h1.2.2
    obtain ⟨n2, h2⟩ := h2.2.2
    exact D_X9_learn_54 n1 n2 _ _ _ _ h1 h2
  · exact ⟨_, _, h1, h2⟩
theorem D_X9_learn_21  {x1 : Int} {x2 : Int} {A : Il} {Q1 Q2 : Int → Il → Prop}  (h1 : W_X9_learn_21 x1 x2 A Q1) (h2 : W_X9_learn_21 x1 x2 A Q2) : ∃ (r0 : Int) (r1 : Il), Q1 r0 r1 ∧ Q2 r0 r1 := by
  unfold W_X9_learn_21 at h1 h2
  exact D_X9_learn_22 h1 h2
theorem D_X9_learn  {x1 : Int} {x2 : Int} {A : Il} {Q1 Q2 : Int → Il → Prop}  (h1 : W_X9_learn x1 x2 A Q1) (h2 : W_X9_learn x1 x2 A Q2) : ∃ (r0 : Int) (r1 : Il), Q1 r0 r1 ∧ Q2 r0 r1 := by
  unfold W_X9_learn at h1 h2
  obtain ⟨z1, h1, h2⟩ := D_X9_isCrew h1 h2
  refine br_D h1 h2 (fun c h1 h2 => ?_) (fun c h1 h2 => ?_)
  · exact D_X9_learn_21 h1 h2
  · obtain ⟨z2, h1, h2⟩ := D_X9_isBlock h1 h2
    refine br_D h1 h2 (fun c h1 h2 => ?_) (fun c h1 h2 => ?_)
    · exact D_X9_learn_21 h1 h2
    · exact D_X9_learn_22 h1 h2
theorem D_X9_rests  {x1 : Int} {A : Il} {Q1 Q2 : Int → Prop}  (h1 : W_X9_rests x1 A Q1) (h2 : W_X9_rests x1 A Q2) : ∃ (r0 : Int), Q1 r0 ∧ Q2 r0 := by
  unfold W_X9_rests at h1 h2
  refine br_D h1.2.2 h2.2.2 (fun c h1 h2 => ?_) (fun c h1 h2 => ?_)
  · exact ⟨_, h1, h2⟩
  · exact ⟨_, h1, h2⟩
theorem D_X9_rest_49  {x1 : Int} {s0 : Int} {A : Il} {Q1 Q2 : Int → Il → Prop}  (h1 : W_X9_rest_49 x1 s0 A Q1) (h2 : W_X9_rest_49 x1 s0 A Q2) : ∃ (r0 : Int) (r1 : Il), Q1 r0 r1 ∧ Q2 r0 r1 := by
  unfold W_X9_rest_49 at h1 h2
  refine br_D h1 h2 (fun c h1 h2 => ?_) (fun c h1 h2 => ?_)
  · exact ⟨_, _, h1.2.2.2.2.2.2, h2.2.2.2.2.2.2⟩
  · exact ⟨_, _, h1, h2⟩
theorem D_X9_rest_44  {x1 : Int} {A : Il} {Q1 Q2 : Int → Il → Prop}  (h1 : W_X9_rest_44 x1 A Q1) (h2 : W_X9_rest_44 x1 A Q2) : ∃ (r0 : Int) (r1 : Il), Q1 r0 r1 ∧ Q2 r0 r1 := by
  unfold W_X9_rest_44 at h1 h2
  exact D_X9_rest_49 h1 h2
theorem D_X9_rest_48  {x1 : Int} {A : Il} {Q1 Q2 : Int → Il → Prop}  (h1 : W_X9_rest_48 x1 A Q1) (h2 : W_X9_rest_48 x1 A Q2) : ∃ (r0 : Int) (r1 : Il), Q1 r0 r1 ∧ Q2 r0 r1 := by
  unfold W_X9_rest_48 at h1 h2
  exact D_X9_rest_49 h1 h2
theorem D_X9_stands  {x1 : Int} {A : Il} {Q1 Q2 : Int → Prop}  (h1 : W_X9_stands x1 A Q1) (h2 : W_X9_stands x1 A Q2) : ∃ (r0 : Int), Q1 r0 ∧ Q2 r0 := by
  unfold W_X9_stands at h1 h2
  refine br_D h1.2.2 h2.2.2 (fun c h1 h2 => ?_) (fun c h1 h2 => ?_)
  · exact ⟨_, h1, h2⟩
  · refine bn_D h1.2.2 h2.2.2 (fun c h1 h2 => ?_) (fun c h1 h2 => ?_)
    · exact ⟨_, h1, h2⟩
    · exact ⟨_, h1, h2⟩
theorem D_X9_rest  {x1 : Int} {A : Il} {Q1 Q2 : Int → Il → Prop}  (h1 : W_X9_rest x1 A Q1) (h2 : W_X9_rest x1 A Q2) : ∃ (r0 : Int) (r1 : Il), Q1 r0 r1 ∧ Q2 r0 r1 := by
  unfold W_X9_rest at h1 h2
  obtain ⟨z1, h1, h2⟩ := D_X9_isCrew h1 h2
  refine bn_D h1 h2 (fun c h1 h2 => ?_) (fun c h1 h2 => ?_)
  · obtain ⟨z2, h1, h2⟩ := D_X9_rests h1 h2
    refine bn_D h1 h2 (fun c h1 h2 => ?_) (fun c h1 h2 => ?_)
    · exact D_X9_rest_44 h1 h2
    · refine br_D h1.2.2 h2.2.2 (fun c h1 h2 => ?_) (fun c h1 h2 => ?_)
      · exact D_X9_rest_48 h1 h2
      · obtain ⟨z3, h1, h2⟩ := D_X9_stands h1.2.2 h2.2.2
        refine bn_D h1 h2 (fun c h1 h2 => ?_) (fun c h1 h2 => ?_)
        · exact D_X9_rest_48 h1 h2
        · exact D_X9_rest_44 h1 h2
  · exact D_X9_rest_49 h1 h2
theorem D_X9_fails  {x1 : Int} {A : Il} {Q1 Q2 : Int → Il → Prop}  (h1 : W_X9_fails x1 A Q1) (h2 : W_X9_fails x1 A Q2) : ∃ (r0 : Int) (r1 : Il), Q1 r0 r1 ∧ Q2 r0 r1 := by
  unfold W_X9_fails at h1 h2
  exact ⟨_, _, h1, h2⟩
theorem D_X9_form_141  {x1 : Int} {x2 : Int} {x3 : Int} {s0 : Int} {A : Il} {Q1 Q2 : Int → Il → Prop}  (h1 : W_X9_form_141 x1 x2 x3 s0 A Q1) (h2 : W_X9_form_141 x1 x2 x3 s0 A Q2) : ∃ (r0 : Int) (r1 : Il), Q1 r0 r1 ∧ Q2 r0 r1 := by
  unfold W_X9_form_141 at h1 h2
  refine bn_D h1 h2 (fun c h1 h2 => ?_) (fun c h1 h2 => ?_)
  · exact ⟨_, _, h1.2.2.2.2.2.2.2.2.2.2.2.2.2.2.2.2.2.2.2.2.2.2.2.2.2.2, h2.2.2.2.2.2.2.2.2.2.2.2.2.2.2.2.2.2.2.2.2.2.2.2.2.2.2⟩
  · obtain ⟨z1, A2, h1, h2⟩ := D_X9_fails h1 h2
    exact ⟨_, _, h1, h2⟩
theorem D_X9_form_140  {x1 : Int} {x2 : Int} {x3 : Int} {A : Il} {Q1 Q2 : Int → Il → Prop}  (h1 : W_X9_form_140 x1 x2 x3 A Q1) (h2 : W_X9_form_140 x1 x2 x3 A Q2) : ∃ (r0 : Int) (r1 : Il), Q1 r0 r1 ∧ Q2 r0 r1 := by
  unfold W_X9_form_140 at h1 h2
  exact D_X9_form_141 h1 h2
theorem D_X9_form_63  {x1 : Int} {x2 : Int} {x3 : Int} {A : Il} {Q1 Q2 : Int → Il → Prop}  (h1 : W_X9_form_63 x1 x2 x3 A Q1) (h2 : W_X9_form_63 x1 x2 x3 A Q2) : ∃ (r0 : Int) (r1 : Il), Q1 r0 r1 ∧ Q2 r0 r1 := by
  unfold W_X9_form_63 at h1 h2
  refine br_D h1 h2 (fun c h1 h2 => ?_) (fun c h1 h2 => ?_)
  · exact D_X9_form_140 h1 h2
  · refine bn_D h1.2.2 h2.2.2 (fun c h1 h2 => ?_) (fun c h1 h2 => ?_)
    · exact D_X9_form_140 h1 h2
    · refine bn_D h1.2.2 h2.2.2 (fun c h1 h2 => ?_) (fun c h1 h2 => ?_)
      · exact D_X9_form_140 h1 h2
      · refine bn_D h1.2.2.2.2 h2.2.2.2.2 (fun c h1 h2 => ?_) (fun c h1 h2 => ?_)
        · exact D_X9_form_140 h1 h2
        · obtain ⟨z1, h1, h2⟩ := D_X9_rests h1 h2
          refine bn_D h1 h2 (fun c h1 h2 => ?_) (fun c h1 h2 => ?_)
          · exact D_X9_form_140 h1 h2
          · obtain ⟨z2, h1, h2⟩ := D_X9_taken h1.2.2 h2.2.2
            refine br_D h1.2.2.2.2 h2.2.2.2.2 (fun c h1 h2 => ?_) (fun c h1 h2 => ?_)
            · exact D_X9_form_140 h1 h2
            · exact D_X9_form_141 h1 h2
theorem D_X9_form_42  {Q1 Q2 : Int → Il → Prop}  : ∀ (n1 n2 : Nat) (x1 : Int) (x2 : Int) (x3 : Int) (A : Il), W_X9_form_42 n1 x1 x2 x3 A Q1 → W_X9_form_42 n2 x1 x2 x3 A Q2 → ∃ (r0 : Int) (r1 : Il), Q1 r0 r1 ∧ Q2 r0 r1 := by
  intro n1
  induction n1 with
  | zero => intro n2 x1 x2 x3 A h1 _; exact h1.elim
  | succ n1 ih =>
    intro n2 x1 x2 x3 A h1 h2
    cases n2 with
    | zero => exact h2.elim
    | succ n2 =>
      unfold W_X9_form_42 at h1 h2
      refine br_D h1 h2 (fun c h1 h2 => ?_) (fun c h1 h2 => ?_)
      · exact D_X9_form_63 h1 h2
      · refine br_D h1.2.2 h2.2.2 (fun c h1 h2 => ?_) (fun c h1 h2 => ?_)
        · exact D_X9_form_63 h1 h2
        · exact ih _ _ _ _ _ h1 h2
theorem D_X9_form_28  {x1 : Int} {x2 : Int} {s0 : Int} {A : Il} {Q1 Q2 : Int → Il → Prop}  (h1 : W_X9_form_28 x1 x2 s0 A Q1) (h2 : W_X9_form_28 x1 x2 s0 A Q2) : ∃ (r0 : Int) (r1 : Il), Q1 r0 r1 ∧ Q2 r0 r1 := by
  unfold W_X9_form_28 at h1 h2
  refine br_D h1 h2 (fun c h1 h2 => ?_) (fun c h1 h2 => ?_)
  · obtain ⟨n1, h1⟩ := h1
    obtain ⟨n2, h2⟩ := h2
    exact D_X9_form_42 n1 n2 _ _ _ _ h1 h2
  · exact ⟨_, _, h1, h2⟩
theorem D_X9_form_27  {x1 : Int} {x2 : Int} {A : Il} {Q1 Q2 : Int → Il → Prop}  (h1 : W_X9_form_27 x1 x2 A Q1) (h2 : W_X9_form_27 x1 x2 A Q2) : ∃ (r0 : Int) (r1 : Il), Q1 r0 r1 ∧ Q2 r0 r1 := by
  unfold W_X9_form_27 at h1 h2
  exact D_X9_form_28 h1 h2
theorem D_X9_form  {x1 : Int} {x2 : Int} {A : Il} {Q1 Q2 : Int → Il → Prop}  (h1 : W_X9_form x1 x2 A Q1) (h2 : W_X9_form x1 x2 A Q2) : ∃ (r0 : Int) (r1 : Il), Q1 r0 r1 ∧ Q2 r0 r1 := by
  unfold W_X9_form at h1 h2
  obtain ⟨z1, h1, h2⟩ := D_X9_in h1 h2
  refine br_D h1 h2 (fun c h1 h2 => ?_) (fun c h1 h2 => ?_)
  · exact D_X9_form_27 h1 h2
  · obtain ⟨z2, h1, h2⟩ := D_X9_isCrew h1 h2
    refine br_D h1 h2 (fun c h1 h2 => ?_) (fun c h1 h2 => ?_)
    · exact D_X9_form_27 h1 h2
    · exact D_X9_form_28 h1 h2
theorem D_X9_isTrain  {x1 : Int} {A : Il} {Q1 Q2 : Int → Prop}  (h1 : W_X9_isTrain x1 A Q1) (h2 : W_X9_isTrain x1 A Q2) : ∃ (r0 : Int), Q1 r0 ∧ Q2 r0 := by
  unfold W_X9_isTrain at h1 h2
  obtain ⟨z1, h1, h2⟩ := D_X9_in h1 h2
  refine br_D h1 h2 (fun c h1 h2 => ?_) (fun c h1 h2 => ?_)
  · exact ⟨_, h1, h2⟩
  · refine br_D h1.2.2 h2.2.2 (fun c h1 h2 => ?_) (fun c h1 h2 => ?_)
    · exact ⟨_, h1, h2⟩
    · exact ⟨_, h1, h2⟩
theorem D_X9_writes  {x1 : Int} {x2 : Int} {x3 : Int} {A : Il} {Q1 Q2 : Il → Prop}  (h1 : W_X9_writes x1 x2 x3 A Q1) (h2 : W_X9_writes x1 x2 x3 A Q2) : ∃ (r0 : Il), Q1 r0 ∧ Q2 r0 := by
  unfold W_X9_writes at h1 h2
  exact ⟨_, h1.2.2.2.2, h2.2.2.2.2⟩
theorem D_X9_couple_153 {k95_1 k95_2 : Int → Int → Int → Int → Int → Il → Prop} {x1 : Int} {x2 : Int} {x3 : Int} {x5 : Int} {s0 : Int} {s1 : Int} {A : Il} {Q1 Q2 : Int → Il → Prop} (hk95 : ∀ (y0 : Int) (y1 : Int) (y2 : Int) (y3 : Int) (y4 : Int) (y5 : Il), k95_1 y0 y1 y2 y3 y4 y5 → k95_2 y0 y1 y2 y3 y4 y5 → ∃ (r0 : Int) (r1 : Il), Q1 r0 r1 ∧ Q2 r0 r1) (h1 : W_X9_couple_153 k95_1 x1 x2 x3 x5 s0 s1 A Q1) (h2 : W_X9_couple_153 k95_2 x1 x2 x3 x5 s0 s1 A Q2) : ∃ (r0 : Int) (r1 : Il), Q1 r0 r1 ∧ Q2 r0 r1 := by
  unfold W_X9_couple_153 at h1 h2
  exact hk95 _ _ _ _ _ _ h1 h2
theorem D_X9_couple_95  {Q1 Q2 : Int → Il → Prop}  : ∀ (n1 n2 : Nat) (x1 : Int) (x2 : Int) (x3 : Int) (x4 : Int) (x5 : Int) (A : Il), W_X9_couple_95 n1 x1 x2 x3 x4 x5 A Q1 → W_X9_couple_95 n2 x1 x2 x3 x4 x5 A Q2 → ∃ (r0 : Int) (r1 : Il), Q1 r0 r1 ∧ Q2 r0 r1 := by
  intro n1
  induction n1 with
  | zero => intro n2 x1 x2 x3 x4 x5 A h1 _; exact h1.elim
  | succ n1 ih =>
    intro n2 x1 x2 x3 x4 x5 A h1 h2
    cases n2 with
    | zero => exact h2.elim
    | succ n2 =>
      unfold W_X9_couple_95 at h1 h2
      refine br_D h1.2.2 h2.2.2 (fun c h1 h2 => ?_) (fun c h1 h2 => ?_)
      · obtain ⟨A1, h1, h2⟩ := D_X9_writes h1.2.2.2.2.2.2.2.2.2.2.2.2 h2.2.2.2.2.2.2.2.2.2.2.2.2
        exact ⟨_, _, h1.2.2, h2.2.2⟩
      · refine bn_D h1.2.2.2.2.2.2 h2.2.2.2.2.2.2 (fun c h1 h2 => ?_) (fun c h1 h2 => ?_)
        · exact D_X9_couple_153 (fun _ _ _ _ _ _ h1 h2 => ih _ _ _ _ _ _ _ h1 h2) h1 h2
        · exact D_X9_couple_153 (fun _ _ _ _ _ _ h1 h2 => ih _ _ _ _ _ _ _ h1 h2) h1 h2
theorem D_X9_couple_70  {x1 : Int} {x2 : Int} {s0 : Int} {A : Il} {Q1 Q2 : Int → Il → Prop}  (h1 : W_X9_couple_70 x1 x2 s0 A Q1) (h2 : W_X9_couple_70 x1 x2 s0 A Q2) : ∃ (r0 : Int) (r1 : Il), Q1 r0 r1 ∧ Q2 r0 r1 := by
  unfold W_X9_couple_70 at h1 h2
  refine br_D h1 h2 (fun c h1 h2 => ?_) (fun c h1 h2 => ?_)
  · obtain ⟨n1, h1⟩ := h1.2.2
    obtain ⟨n2, h2⟩ := h2.2.2
    exact D_X9_couple_95 n1 n2 _ _ _ _ _ _ h1 h2
  · exact ⟨_, _, h1, h2⟩
theorem D_X9_couple_17  {x1 : Int} {x2 : Int} {A : Il} {Q1 Q2 : Int → Il → Prop}  (h1 : W_X9_couple_17 x1 x2 A Q1) (h2 : W_X9_couple_17 x1 x2 A Q2) : ∃ (r0 : Int) (r1 : Il), Q1 r0 r1 ∧ Q2 r0 r1 := by
  unfold W_X9_couple_17 at h1 h2
  exact D_X9_couple_70 h1 h2
theorem D_X9_isCar  {x1 : Int} {A : Il} {Q1 Q2 : Int → Prop}  (h1 : W_X9_isCar x1 A Q1) (h2 : W_X9_isCar x1 A Q2) : ∃ (r0 : Int), Q1 r0 ∧ Q2 r0 := by
  unfold W_X9_isCar at h1 h2
  obtain ⟨z1, h1, h2⟩ := D_X9_in h1 h2
  exact ⟨_, h1.2, h2.2⟩
theorem D_X9_couple_65  {x1 : Int} {x2 : Int} {A : Il} {Q1 Q2 : Int → Il → Prop}  (h1 : W_X9_couple_65 x1 x2 A Q1) (h2 : W_X9_couple_65 x1 x2 A Q2) : ∃ (r0 : Int) (r1 : Il), Q1 r0 r1 ∧ Q2 r0 r1 := by
  unfold W_X9_couple_65 at h1 h2
  exact D_X9_couple_70 h1 h2
theorem D_X9_couple  {x1 : Int} {x2 : Int} {A : Il} {Q1 Q2 : Int → Il → Prop}  (h1 : W_X9_couple x1 x2 A Q1) (h2 : W_X9_couple x1 x2 A Q2) : ∃ (r0 : Int) (r1 : Il), Q1 r0 r1 ∧ Q2 r0 r1 := by
  unfold W_X9_couple at h1 h2
  obtain ⟨z1, h1, h2⟩ := D_X9_isTrain h1 h2
  refine br_D h1 h2 (fun c h1 h2 => ?_) (fun c h1 h2 => ?_)
  · exact D_X9_couple_17 h1 h2
  · obtain ⟨z2, h1, h2⟩ := D_X9_isCar h1 h2
    refine bn_D h1 h2 (fun c h1 h2 => ?_) (fun c h1 h2 => ?_)
    · obtain ⟨z3, h1, h2⟩ := D_X9_stands h1 h2
      refine br_D h1 h2 (fun c h1 h2 => ?_) (fun c h1 h2 => ?_)
      · exact D_X9_couple_65 h1 h2
      · refine br_D h1.2.2 h2.2.2 (fun c h1 h2 => ?_) (fun c h1 h2 => ?_)
        · exact D_X9_couple_65 h1 h2
        · refine bn_D h1.2.2 h2.2.2 (fun c h1 h2 => ?_) (fun c h1 h2 => ?_)
          · exact D_X9_couple_65 h1 h2
          · refine br_D h1.2.2.2.2 h2.2.2.2.2 (fun c h1 h2 => ?_) (fun c h1 h2 => ?_)
            · exact D_X9_couple_70 h1 h2
            · exact D_X9_couple_65 h1 h2
    · exact D_X9_couple_17 h1 h2
theorem D_X9_leg_27  {x1 : Int} {s0 : Int} {A : Il} {Q1 Q2 : Int → Il → Prop}  (h1 : W_X9_leg_27 x1 s0 A Q1) (h2 : W_X9_leg_27 x1 s0 A Q2) : ∃ (r0 : Int) (r1 : Il), Q1 r0 r1 ∧ Q2 r0 r1 := by
  unfold W_X9_leg_27 at h1 h2
  refine br_D h1 h2 (fun c h1 h2 => ?_) (fun c h1 h2 => ?_)
  · exact ⟨_, _, h1.2.2, h2.2.2⟩
  · exact ⟨_, _, h1, h2⟩
theorem D_X9_leg  {x1 : Int} {A : Il} {Q1 Q2 : Int → Il → Prop}  (h1 : W_X9_leg x1 A Q1) (h2 : W_X9_leg x1 A Q2) : ∃ (r0 : Int) (r1 : Il), Q1 r0 r1 ∧ Q2 r0 r1 := by
  unfold W_X9_leg at h1 h2
  obtain ⟨z1, h1, h2⟩ := D_X9_isBlock h1 h2
  refine bn_D h1 h2 (fun c h1 h2 => ?_) (fun c h1 h2 => ?_)
  · refine bn_D h1 h2 (fun c h1 h2 => ?_) (fun c h1 h2 => ?_)
    · exact D_X9_leg_27 h1 h2
    · exact D_X9_leg_27 h1 h2
  · exact D_X9_leg_27 h1 h2
theorem D_X9_plan_119  {A : Il} {Q1 Q2 : Int → Il → Prop}  (h1 : W_X9_plan_119 A Q1) (h2 : W_X9_plan_119 A Q2) : ∃ (r0 : Int) (r1 : Il), Q1 r0 r1 ∧ Q2 r0 r1 := by
  unfold W_X9_plan_119 at h1 h2
  obtain ⟨z1, A2, h1, h2⟩ := D_X9_fails h1 h2
  exact ⟨_, _, h1, h2⟩
theorem D_X9_plan_128  {Q1 Q2 : Int → Il → Prop}  : ∀ (n1 n2 : Nat) (x1 : Int) (x2 : Int) (x3 : Int) (x4 : Int) (x5 : Int) (A : Il), W_X9_plan_128 n1 x1 x2 x3 x4 x5 A Q1 → W_X9_plan_128 n2 x1 x2 x3 x4 x5 A Q2 → ∃ (r0 : Int) (r1 : Il), Q1 r0 r1 ∧ Q2 r0 r1 := by
  intro n1
  induction n1 with
  | zero => intro n2 x1 x2 x3 x4 x5 A h1 _; exact h1.elim
  | succ n1 ih =>
    intro n2 x1 x2 x3 x4 x5 A h1 h2
    cases n2 with
    | zero => exact h2.elim
    | succ n2 =>
      unfold W_X9_plan_128 at h1 h2
      refine br_D h1 h2 (fun c h1 h2 => ?_) (fun c h1 h2 => ?_)
      · exact ⟨_, _, h1.2.2.2.2.2.2.2.2.2.2, h2.2.2.2.2.2.2.2.2.2.2⟩
      · exact ih _ _ _ _ _ _ _ h1.2.2.2.2 h2.2.2.2.2
theorem D_X9_plan_98  {x1 : Int} {x2 : Int} {x3 : Int} {x4 : Int} {A : Il} {Q1 Q2 : Int → Il → Prop}  (h1 : W_X9_plan_98 x1 x2 x3 x4 A Q1) (h2 : W_X9_plan_98 x1 x2 x3 x4 A Q2) : ∃ (r0 : Int) (r1 : Il), Q1 r0 r1 ∧ Q2 r0 r1 := by
  unfold W_X9_plan_98 at h1 h2
  obtain ⟨z1, h1, h2⟩ := D_X9_stands h1 h2
  refine br_D h1 h2 (fun c h1 h2 => ?_) (fun c h1 h2 => ?_)
  · exact D_X9_plan_119 h1 h2
  · refine br_D h1 h2 (fun c h1 h2 => ?_) (fun c h1 h2 => ?_)
    · exact D_X9_plan_119 h1 h2
    · refine bn_D h1 h2 (fun c h1 h2 => ?_) (fun c h1 h2 => ?_)
      · obtain ⟨n1, h1⟩ := h1
        obtain ⟨n2, h2⟩ := h2
        exact D_X9_plan_128 n1 n2 _ _ _ _ _ _ h1 h2
      · exact D_X9_plan_119 h1 h2
theorem D_X9_other  {x1 : Int} {x2 : Int} {A : Il} {Q1 Q2 : Int → Prop}  (h1 : W_X9_other x1 x2 A Q1) (h2 : W_X9_other x1 x2 A Q2) : ∃ (r0 : Int), Q1 r0 ∧ Q2 r0 := by
  unfold W_X9_other at h1 h2
  refine bn_D h1.2.2 h2.2.2 (fun c h1 h2 => ?_) (fun c h1 h2 => ?_)
  · refine bn_D h1.2.2 h2.2.2 (fun c h1 h2 => ?_) (fun c h1 h2 => ?_)
    · exact ⟨_, h1, h2⟩
    · exact ⟨_, h1.2.2, h2.2.2⟩
  · exact ⟨_, h1.2.2, h2.2.2⟩
theorem D_X9_plan_62  {Q1 Q2 : Int → Il → Prop}  : ∀ (n1 n2 : Nat) (x1 : Int) (x2 : Int) (x3 : Int) (x4 : Int) (x5 : Int) (A : Il), W_X9_plan_62 n1 x1 x2 x3 x4 x5 A Q1 → W_X9_plan_62 n2 x1 x2 x3 x4 x5 A Q2 → ∃ (r0 : Int) (r1 : Il), Q1 r0 r1 ∧ Q2 r0 r1 := by
  intro n1
  induction n1 with
  | zero => intro n2 x1 x2 x3 x4 x5 A h1 _; exact h1.elim
  | succ n1 ih =>
    intro n2 x1 x2 x3 x4 x5 A h1 h2
    cases n2 with
    | zero => exact h2.elim
    | succ n2 =>
      unfold W_X9_plan_62 at h1 h2
      refine br_D h1 h2 (fun c h1 h2 => ?_) (fun c h1 h2 => ?_)
      · exact D_X9_plan_98 h1 h2
      · refine br_D h1 h2 (fun c h1 h2 => ?_) (fun c h1 h2 => ?_)
        · exact D_X9_plan_98 h1 h2
        · obtain ⟨z1, h1, h2⟩ := D_X9_other h1.2.2 h2.2.2
          exact ih _ _ _ _ _ _ _ h1 h2
theorem D_X9_plan_39  {x1 : Int} {x2 : Int} {x3 : Int} {s0 : Int} {A : Il} {Q1 Q2 : Int → Il → Prop}  (h1 : W_X9_plan_39 x1 x2 x3 s0 A Q1) (h2 : W_X9_plan_39 x1 x2 x3 s0 A Q2) : ∃ (r0 : Int) (r1 : Il), Q1 r0 r1 ∧ Q2 r0 r1 := by
  unfold W_X9_plan_39 at h1 h2
  refine br_D h1 h2 (fun c h1 h2 => ?_) (fun c h1 h2 => ?_)
  · obtain ⟨n1, h1⟩ := h1.2.2
    obtain ⟨n2, h2⟩ := h2.2.2
    exact D_X9_plan_62 n1 n2 _ _ _ _ _ _ h1 h2
  · exact ⟨_, _, h1, h2⟩
theorem D_X9_plan_34  {x1 : Int} {x2 : Int} {x3 : Int} {A : Il} {Q1 Q2 : Int → Il → Prop}  (h1 : W_X9_plan_34 x1 x2 x3 A Q1) (h2 : W_X9_plan_34 x1 x2 x3 A Q2) : ∃ (r0 : Int) (r1 : Il), Q1 r0 r1 ∧ Q2 r0 r1 := by
  unfold W_X9_plan_34 at h1 h2
  exact D_X9_plan_39 h1 h2
theorem D_X9_plan  {x1 : Int} {x2 : Int} {x3 : Int} {A : Il} {Q1 Q2 : Int → Il → Prop}  (h1 : W_X9_plan x1 x2 x3 A Q1) (h2 : W_X9_plan x1 x2 x3 A Q2) : ∃ (r0 : Int) (r1 : Il), Q1 r0 r1 ∧ Q2 r0 r1 := by
  unfold W_X9_plan at h1 h2
  obtain ⟨z1, h1, h2⟩ := D_X9_isTrain h1 h2
  refine bn_D h1 h2 (fun c h1 h2 => ?_) (fun c h1 h2 => ?_)
  · obtain ⟨z2, h1, h2⟩ := D_X9_in h1 h2
    refine br_D h1 h2 (fun c h1 h2 => ?_) (fun c h1 h2 => ?_)
    · exact D_X9_plan_34 h1 h2
    · obtain ⟨z3, h1, h2⟩ := D_X9_in h1 h2
      refine bn_D h1 h2 (fun c h1 h2 => ?_) (fun c h1 h2 => ?_)
      · exact D_X9_plan_39 h1 h2
      · exact D_X9_plan_34 h1 h2
  · exact D_X9_plan_39 h1 h2
theorem D_X9_await_43  {x1 : Int} {x2 : Int} {x3 : Int} {s0 : Int} {A : Il} {Q1 Q2 : Il → Prop}  (h1 : W_X9_await_43 x1 x2 x3 s0 A Q1) (h2 : W_X9_await_43 x1 x2 x3 s0 A Q2) : ∃ (r0 : Il), Q1 r0 ∧ Q2 r0 := by
  unfold W_X9_await_43 at h1 h2
  refine bn_D h1 h2 (fun c h1 h2 => ?_) (fun c h1 h2 => ?_)
  · exact ⟨_, h1, h2⟩
  · exact ⟨_, h1.2.2.2.2, h2.2.2.2.2⟩
theorem D_X9_await_29  {x1 : Int} {x2 : Int} {x3 : Int} {A : Il} {Q1 Q2 : Il → Prop}  (h1 : W_X9_await_29 x1 x2 x3 A Q1) (h2 : W_X9_await_29 x1 x2 x3 A Q2) : ∃ (r0 : Il), Q1 r0 ∧ Q2 r0 := by
  unfold W_X9_await_29 at h1 h2
  exact D_X9_await_43 h1 h2
theorem D_X9_await_22  {x1 : Int} {x2 : Int} {x3 : Int} {A : Il} {Q1 Q2 : Il → Prop}  (h1 : W_X9_await_22 x1 x2 x3 A Q1) (h2 : W_X9_await_22 x1 x2 x3 A Q2) : ∃ (r0 : Il), Q1 r0 ∧ Q2 r0 := by
  unfold W_X9_await_22 at h1 h2
  obtain ⟨z1, h1, h2⟩ := D_X9_isStation h1 h2
  refine bn_D h1 h2 (fun c h1 h2 => ?_) (fun c h1 h2 => ?_)
  · refine bn_D h1 h2 (fun c h1 h2 => ?_) (fun c h1 h2 => ?_)
    · exact D_X9_await_43 h1 h2
    · exact D_X9_await_43 h1 h2
  · exact D_X9_await_29 h1 h2
theorem D_X9_await  {x1 : Int} {x2 : Int} {x3 : Int} {A : Il} {Q1 Q2 : Il → Prop}  (h1 : W_X9_await x1 x2 x3 A Q1) (h2 : W_X9_await x1 x2 x3 A Q2) : ∃ (r0 : Il), Q1 r0 ∧ Q2 r0 := by
  unfold W_X9_await at h1 h2
  obtain ⟨z1, h1, h2⟩ := D_X9_isTrain h1 h2
  refine br_D h1 h2 (fun c h1 h2 => ?_) (fun c h1 h2 => ?_)
  · exact D_X9_await_29 h1 h2
  · refine br_D h1 h2 (fun c h1 h2 => ?_) (fun c h1 h2 => ?_)
    · exact D_X9_await_22 h1 h2
    · obtain ⟨z2, h1, h2⟩ := D_X9_isTrain h1 h2
      refine br_D h1 h2 (fun c h1 h2 => ?_) (fun c h1 h2 => ?_)
      · exact D_X9_await_29 h1 h2
      · exact D_X9_await_22 h1 h2
theorem D_X9_ticks_194 {k136_1 k136_2 : Int → Int → Il → Prop} {k142_1 k142_2 : Int → Int → Int → Il → Prop} {x1 : Int} {x2 : Int} {x3 : Int} {A : Il} {Q1 Q2 : Int → Il → Prop} (hk136 : ∀ (y0 : Int) (y1 : Int) (y2 : Il), k136_1 y0 y1 y2 → k136_2 y0 y1 y2 → ∃ (r0 : Int) (r1 : Il), Q1 r0 r1 ∧ Q2 r0 r1) (hk142 : ∀ (y0 : Int) (y1 : Int) (y2 : Int) (y3 : Il), k142_1 y0 y1 y2 y3 → k142_2 y0 y1 y2 y3 → ∃ (r0 : Int) (r1 : Il), Q1 r0 r1 ∧ Q2 r0 r1) (h1 : W_X9_ticks_194 k136_1 k142_1 x1 x2 x3 A Q1) (h2 : W_X9_ticks_194 k136_2 k142_2 x1 x2 x3 A Q2) : ∃ (r0 : Int) (r1 : Il), Q1 r0 r1 ∧ Q2 r0 r1 := by
  unfold W_X9_ticks_194 at h1 h2
  exact hk142 _ _ _ _ h1 h2
theorem D_X9_weight_43 {k7_1 k7_2 : Int → Int → Int → Prop} {x1 : Int} {x3 : Int} {s0 : Int} {s1 : Int} {A : Il} {Q1 Q2 : Int → Prop} (hk7 : ∀ (y0 : Int) (y1 : Int) (y2 : Int), k7_1 y0 y1 y2 → k7_2 y0 y1 y2 → ∃ (r0 : Int), Q1 r0 ∧ Q2 r0) (h1 : W_X9_weight_43 k7_1 x1 x3 s0 s1 A Q1) (h2 : W_X9_weight_43 k7_2 x1 x3 s0 s1 A Q2) : ∃ (r0 : Int), Q1 r0 ∧ Q2 r0 := by
  unfold W_X9_weight_43 at h1 h2
  exact hk7 _ _ _ h1 h2
theorem D_X9_weight_7  {Q1 Q2 : Int → Prop}  : ∀ (n1 n2 : Nat) (x1 : Int) (x2 : Int) (x3 : Int) (A : Il), W_X9_weight_7 n1 x1 x2 x3 A Q1 → W_X9_weight_7 n2 x1 x2 x3 A Q2 → ∃ (r0 : Int), Q1 r0 ∧ Q2 r0 := by
  intro n1
  induction n1 with
  | zero => intro n2 x1 x2 x3 A h1 _; exact h1.elim
  | succ n1 ih =>
    intro n2 x1 x2 x3 A h1 h2
    cases n2 with
    | zero => exact h2.elim
    | succ n2 =>
      unfold W_X9_weight_7 at h1 h2
      refine br_D h1.2.2 h2.2.2 (fun c h1 h2 => ?_) (fun c h1 h2 => ?_)
      · exact ⟨_, h1, h2⟩
      · refine bn_D h1.2.2.2.2 h2.2.2.2.2 (fun c h1 h2 => ?_) (fun c h1 h2 => ?_)
        · exact D_X9_weight_43 (fun _ _ _ h1 h2 => ih _ _ _ _ _ h1 h2) h1 h2
        · exact D_X9_weight_43 (fun _ _ _ h1 h2 => ih _ _ _ _ _ h1 h2) h1 h2
theorem D_X9_weight  {x1 : Int} {A : Il} {Q1 Q2 : Int → Prop}  (h1 : W_X9_weight x1 A Q1) (h2 : W_X9_weight x1 A Q2) : ∃ (r0 : Int), Q1 r0 ∧ Q2 r0 := by
  unfold W_X9_weight at h1 h2
  obtain ⟨n1, h1⟩ := h1
  obtain ⟨n2, h2⟩ := h2
  exact D_X9_weight_7 n1 n2 _ _ _ _ h1 h2
theorem D_X9_runs_55  {x2 : Int} {s0 : Int} {s1 : Int} {A : Il} {Q1 Q2 : Int → Prop}  (h1 : W_X9_runs_55 x2 s0 s1 A Q1) (h2 : W_X9_runs_55 x2 s0 s1 A Q2) : ∃ (r0 : Int), Q1 r0 ∧ Q2 r0 := by
  unfold W_X9_runs_55 at h1 h2
  refine br_D h1.2.2 h2.2.2 (fun c h1 h2 => ?_) (fun c h1 h2 => ?_)
  · exact ⟨_, h1, h2⟩
  · exact ⟨_, h1, h2⟩
theorem D_X9_runs  {x1 : Int} {x2 : Int} {A : Il} {Q1 Q2 : Int → Prop}  (h1 : W_X9_runs x1 x2 A Q1) (h2 : W_X9_runs x1 x2 A Q2) : ∃ (r0 : Int), Q1 r0 ∧ Q2 r0 := by
  unfold W_X9_runs at h1 h2
  obtain ⟨z1, h1, h2⟩ := D_X9_weight h1.2.2.2.2 h2.2.2.2.2
  refine br_D h1.2.2.2.2.2.2.2 h2.2.2.2.2.2.2.2 (fun c h1 h2 => ?_) (fun c h1 h2 => ?_)
  · exact D_X9_runs_55 h1 h2
  · exact D_X9_runs_55 h1.2.2 h2.2.2
theorem D_X9_clears  {x1 : Int} {x2 : Int} {A : Il} {Q1 Q2 : Int → Prop}  (h1 : W_X9_clears x1 x2 A Q1) (h2 : W_X9_clears x1 x2 A Q2) : ∃ (r0 : Int), Q1 r0 ∧ Q2 r0 := by
  unfold W_X9_clears at h1 h2
  obtain ⟨z1, h1, h2⟩ := D_X9_runs h1 h2
  exact ⟨_, h1.2.2, h2.2.2⟩
theorem D_X9_isOthers_54 {k8_1 k8_2 : Int → Int → Int → Int → Prop} {x1 : Int} {x2 : Int} {x4 : Int} {s0 : Int} {A : Il} {Q1 Q2 : Int → Prop} (hk8 : ∀ (y0 : Int) (y1 : Int) (y2 : Int) (y3 : Int), k8_1 y0 y1 y2 y3 → k8_2 y0 y1 y2 y3 → ∃ (r0 : Int), Q1 r0 ∧ Q2 r0) (h1 : W_X9_isOthers_54 k8_1 x1 x2 x4 s0 A Q1) (h2 : W_X9_isOthers_54 k8_2 x1 x2 x4 s0 A Q2) : ∃ (r0 : Int), Q1 r0 ∧ Q2 r0 := by
  unfold W_X9_isOthers_54 at h1 h2
  exact hk8 _ _ _ _ h1 h2
theorem D_X9_isOthers_49 {k8_1 k8_2 : Int → Int → Int → Int → Prop} {x1 : Int} {x2 : Int} {x4 : Int} {A : Il} {Q1 Q2 : Int → Prop} (hk8 : ∀ (y0 : Int) (y1 : Int) (y2 : Int) (y3 : Int), k8_1 y0 y1 y2 y3 → k8_2 y0 y1 y2 y3 → ∃ (r0 : Int), Q1 r0 ∧ Q2 r0) (h1 : W_X9_isOthers_49 k8_1 x1 x2 x4 A Q1) (h2 : W_X9_isOthers_49 k8_2 x1 x2 x4 A Q2) : ∃ (r0 : Int), Q1 r0 ∧ Q2 r0 := by
  unfold W_X9_isOthers_49 at h1 h2
  exact D_X9_isOthers_54 hk8 h1 h2
theorem D_X9_isOthers_8  {Q1 Q2 : Int → Prop}  : ∀ (n1 n2 : Nat) (x1 : Int) (x2 : Int) (x3 : Int) (x4 : Int) (A : Il), W_X9_isOthers_8 n1 x1 x2 x3 x4 A Q1 → W_X9_isOthers_8 n2 x1 x2 x3 x4 A Q2 → ∃ (r0 : Int), Q1 r0 ∧ Q2 r0 := by
  intro n1
  induction n1 with
  | zero => intro n2 x1 x2 x3 x4 A h1 _; exact h1.elim
  | succ n1 ih =>
    intro n2 x1 x2 x3 x4 A h1 h2
    cases n2 with
    | zero => exact h2.elim
    | succ n2 =>
      unfold W_X9_isOthers_8 at h1 h2
      obtain ⟨z1, h1, h2⟩ := D_X9_clears h1 h2
      refine br_D h1 h2 (fun c h1 h2 => ?_) (fun c h1 h2 => ?_)
      · exact ⟨_, h1.2, h2.2⟩
      · refine bn_D h1 h2 (fun c h1 h2 => ?_) (fun c h1 h2 => ?_)
        · exact D_X9_isOthers_49 (fun _ _ _ _ h1 h2 => ih _ _ _ _ _ _ h1 h2) h1 h2
        · obtain ⟨z2, h1, h2⟩ := D_X9_in h1.2.2.2.2 h2.2.2.2.2
          refine br_D h1 h2 (fun c h1 h2 => ?_) (fun c h1 h2 => ?_)
          · exact D_X9_isOthers_54 (fun _ _ _ _ h1 h2 => ih _ _ _ _ _ _ h1 h2) h1 h2
          · exact D_X9_isOthers_49 (fun _ _ _ _ h1 h2 => ih _ _ _ _ _ _ h1 h2) h1 h2
theorem D_X9_isOthers  {x1 : Int} {x2 : Int} {A : Il} {Q1 Q2 : Int → Prop}  (h1 : W_X9_isOthers x1 x2 A Q1) (h2 : W_X9_isOthers x1 x2 A Q2) : ∃ (r0 : Int), Q1 r0 ∧ Q2 r0 := by
  unfold W_X9_isOthers at h1 h2
  obtain ⟨n1, h1⟩ := h1
  obtain ⟨n2, h2⟩ := h2
  exact D_X9_isOthers_8 n1 n2 _ _ _ _ _ h1 h2
theorem D_X9_bars  {x1 : Int} {x2 : Int} {A : Il} {Q1 Q2 : Int → Prop}  (h1 : W_X9_bars x1 x2 A Q1) (h2 : W_X9_bars x1 x2 A Q2) : ∃ (r0 : Int), Q1 r0 ∧ Q2 r0 := by
  unfold W_X9_bars at h1 h2
  obtain ⟨z1, h1, h2⟩ := D_X9_other h1.2.2.2.2.2.2.2.2.2.2 h2.2.2.2.2.2.2.2.2.2.2
  refine sw_D h1 h2 (fun c h1 h2 => ?_) (fun c1 h1 h2 => ?_)
  · refine bn_D h1.2.2 h2.2.2 (fun c h1 h2 => ?_) (fun c h1 h2 => ?_)
    · exact ⟨_, h1, h2⟩
    · refine br_D h1.2.2 h2.2.2 (fun c h1 h2 => ?_) (fun c h1 h2 => ?_)
      · exact ⟨_, h1, h2⟩
      · exact ⟨_, h1, h2⟩
  · refine sw_D h1 h2 (fun c h1 h2 => ?_) (fun c2 h1 h2 => ?_)
    · refine br_D h1 h2 (fun c h1 h2 => ?_) (fun c h1 h2 => ?_)
      · exact ⟨_, h1, h2⟩
      · refine bn_D h1.2.2.2.2 h2.2.2.2.2 (fun c h1 h2 => ?_) (fun c h1 h2 => ?_)
        · exact ⟨_, h1, h2⟩
        · refine br_D h1.2.2 h2.2.2 (fun c h1 h2 => ?_) (fun c h1 h2 => ?_)
          · exact ⟨_, h1, h2⟩
          · obtain ⟨z2, h1, h2⟩ := D_X9_stands h1 h2
            refine br_D h1 h2 (fun c h1 h2 => ?_) (fun c h1 h2 => ?_)
            · exact ⟨_, h1, h2⟩
            · refine br_D h1.2.2.2.2 h2.2.2.2.2 (fun c h1 h2 => ?_) (fun c h1 h2 => ?_)
              · exact ⟨_, h1, h2⟩
              · exact ⟨_, h1, h2⟩
    · refine sw_D h1 h2 (fun c h1 h2 => ?_) (fun c3 h1 h2 => ?_)
      · refine br_D h1.2.2 h2.2.2 (fun c h1 h2 => ?_) (fun c h1 h2 => ?_)
        · exact ⟨_, h1, h2⟩
        · exact ⟨_, h1, h2⟩
      · refine sw_D h1 h2 (fun c h1 h2 => ?_) (fun c4 h1 h2 => ?_)
        · obtain ⟨z3, h1, h2⟩ := D_X9_isClosed h1 h2
          exact ⟨_, h1.2, h2.2⟩
        · refine sw_D h1 h2 (fun c h1 h2 => ?_) (fun c5 h1 h2 => ?_)
          · refine br_D h1.2.2 h2.2.2 (fun c h1 h2 => ?_) (fun c h1 h2 => ?_)
            · exact ⟨_, h1, h2⟩
            · refine bn_D h1.2.2 h2.2.2 (fun c h1 h2 => ?_) (fun c h1 h2 => ?_)
              · exact ⟨_, h1, h2⟩
              · exact ⟨_, h1, h2⟩
          · refine sw_D h1 h2 (fun c h1 h2 => ?_) (fun c6 h1 h2 => ?_)
            · obtain ⟨z4, h1, h2⟩ := D_X9_isOthers h1 h2
              exact ⟨_, h1.2, h2.2⟩
            · refine sw_D h1 h2 (fun c h1 h2 => ?_) (fun c7 h1 h2 => ?_)
              · obtain ⟨z5, h1, h2⟩ := D_X9_weight h1 h2
                refine br_D h1.2.2.2.2.2.2 h2.2.2.2.2.2.2 (fun c h1 h2 => ?_) (fun c h1 h2 => ?_)
                · exact ⟨_, h1, h2⟩
                · exact ⟨_, h1, h2⟩
              · refine sw_D h1 h2 (fun c h1 h2 => ?_) (fun c8 h1 h2 => ?_)
                · refine bn_D h1.2.2 h2.2.2 (fun c h1 h2 => ?_) (fun c h1 h2 => ?_)
                  · exact ⟨_, h1, h2⟩
                  · exact ⟨_, h1, h2⟩
                · refine sw_D h1 h2 (fun c h1 h2 => ?_) (fun c9 h1 h2 => ?_)
                  · obtain ⟨z6, h1, h2⟩ := D_X9_rests h1 h2
                    refine bn_D h1 h2 (fun c h1 h2 => ?_) (fun c h1 h2 => ?_)
                    · exact ⟨_, h1, h2⟩
                    · obtain ⟨z7, h1, h2⟩ := D_X9_runs h1.2.2 h2.2.2
                      refine br_D h1 h2 (fun c h1 h2 => ?_) (fun c h1 h2 => ?_)
                      · exact ⟨_, h1, h2⟩
                      · exact ⟨_, h1, h2⟩
                  · have c : x2 < 1 ∨ 9 < x2 := (Int.lt_or_le _ _).imp id (fun g => (sw_s (sw_s (sw_s (sw_s (sw_s (sw_s (sw_s (sw_s (sw_s g c1) c2) c3) c4) c5) c6) c7) c8) c9))
                    have h1 := h1 c
                    have h2 := h2 c
                    obtain ⟨z8, h1, h2⟩ := D_X9_taken h1 h2
                    refine br_D h1.2.2 h2.2.2 (fun c h1 h2 => ?_) (fun c h1 h2 => ?_)
                    · exact ⟨_, h1, h2⟩
                    · exact ⟨_, h1, h2⟩
theorem D_X9_bar_32 {k5_1 k5_2 : Int → Int → Int → Prop} {x1 : Int} {x4 : Int} {s0 : Int} {A : Il} {Q1 Q2 : Int → Prop} (hk5 : ∀ (y0 : Int) (y1 : Int) (y2 : Int), k5_1 y0 y1 y2 → k5_2 y0 y1 y2 → ∃ (r0 : Int), Q1 r0 ∧ Q2 r0) (h1 : W_X9_bar_32 k5_1 x1 x4 s0 A Q1) (h2 : W_X9_bar_32 k5_2 x1 x4 s0 A Q2) : ∃ (r0 : Int), Q1 r0 ∧ Q2 r0 := by
  unfold W_X9_bar_32 at h1 h2
  exact hk5 _ _ _ h1 h2
theorem D_X9_bar_5  {Q1 Q2 : Int → Prop}  : ∀ (n1 n2 : Nat) (x1 : Int) (x3 : Int) (x4 : Int) (A : Il), W_X9_bar_5 n1 x1 x3 x4 A Q1 → W_X9_bar_5 n2 x1 x3 x4 A Q2 → ∃ (r0 : Int), Q1 r0 ∧ Q2 r0 := by
  intro n1
  induction n1 with
  | zero => intro n2 x1 x3 x4 A h1 _; exact h1.elim
  | succ n1 ih =>
    intro n2 x1 x3 x4 A h1 h2
    cases n2 with
    | zero => exact h2.elim
    | succ n2 =>
      unfold W_X9_bar_5 at h1 h2
      refine br_D h1 h2 (fun c h1 h2 => ?_) (fun c h1 h2 => ?_)
      · exact ⟨_, h1, h2⟩
      · refine bn_D h1 h2 (fun c h1 h2 => ?_) (fun c h1 h2 => ?_)
        · exact ⟨_, h1, h2⟩
        · obtain ⟨z1, h1, h2⟩ := D_X9_bars h1 h2
          refine br_D h1 h2 (fun c h1 h2 => ?_) (fun c h1 h2 => ?_)
          · exact D_X9_bar_32 (fun _ _ _ h1 h2 => ih _ _ _ _ _ h1 h2) h1 h2
          · exact D_X9_bar_32 (fun _ _ _ h1 h2 => ih _ _ _ _ _ h1 h2) h1 h2
theorem D_X9_bar  {x1 : Int} {x2 : Int} {A : Il} {Q1 Q2 : Int → Prop}  (h1 : W_X9_bar x1 x2 A Q1) (h2 : W_X9_bar x1 x2 A Q2) : ∃ (r0 : Int), Q1 r0 ∧ Q2 r0 := by
  unfold W_X9_bar at h1 h2
  obtain ⟨n1, h1⟩ := h1
  obtain ⟨n2, h2⟩ := h2
  exact D_X9_bar_5 n1 n2 _ _ _ _ h1 h2
theorem D_X9_enters_107  {x1 : Int} {x2 : Int} {s0 : Int} {s1 : Int} {A : Il} {Q1 Q2 : Il → Prop}  (h1 : W_X9_enters_107 x1 x2 s0 s1 A Q1) (h2 : W_X9_enters_107 x1 x2 s0 s1 A Q2) : ∃ (r0 : Il), Q1 r0 ∧ Q2 r0 := by
  unfold W_X9_enters_107 at h1 h2
  obtain ⟨z1, h1, h2⟩ := D_X9_other h1.2.2.2.2 h2.2.2.2.2
  exact ⟨_, h1.2.2.2.2.2.2.2.2.2.2, h2.2.2.2.2.2.2.2.2.2.2⟩
theorem D_X9_enters  {x1 : Int} {A : Il} {Q1 Q2 : Il → Prop}  (h1 : W_X9_enters x1 A Q1) (h2 : W_X9_enters x1 A Q2) : ∃ (r0 : Il), Q1 r0 ∧ Q2 r0 := by
  unfold W_X9_enters at h1 h2
  obtain ⟨z1, h1, h2⟩ := D_X9_runs h1.2.2.2.2 h2.2.2.2.2
  obtain ⟨z2, h1, h2⟩ := D_X9_clears h1.2.2 h2.2.2
  refine bn_D h1.2.2.2.2.2.2.2.2.2.2.2.2.2.2.2.2 h2.2.2.2.2.2.2.2.2.2.2.2.2.2.2.2.2 (fun c h1 h2 => ?_) (fun c h1 h2 => ?_)
  · exact D_X9_enters_107 h1.2.2 h2.2.2
  · exact D_X9_enters_107 h1 h2
theorem D_X9_ticks_142 {k136_1 k136_2 : Int → Int → Il → Prop} {Q1 Q2 : Int → Il → Prop} (hk136 : ∀ (y0 : Int) (y1 : Int) (y2 : Il), k136_1 y0 y1 y2 → k136_2 y0 y1 y2 → ∃ (r0 : Int) (r1 : Il), Q1 r0 r1 ∧ Q2 r0 r1) : ∀ (n1 n2 : Nat) (x1 : Int) (x2 : Int) (x3 : Int) (A : Il), W_X9_ticks_142 n1 k136_1 x1 x2 x3 A Q1 → W_X9_ticks_142 n2 k136_2 x1 x2 x3 A Q2 → ∃ (r0 : Int) (r1 : Il), Q1 r0 r1 ∧ Q2 r0 r1 := by
  intro n1
  induction n1 with
  | zero => intro n2 x1 x2 x3 A h1 _; exact h1.elim
  | succ n1 ih =>
    intro n2 x1 x2 x3 A h1 h2
    cases n2 with
    | zero => exact h2.elim
    | succ n2 =>
      unfold W_X9_ticks_142 at h1 h2
      refine br_D h1 h2 (fun c h1 h2 => ?_) (fun c h1 h2 => ?_)
      · exact hk136 _ _ _ h1 h2
      · refine br_D h1.2.2 h2.2.2 (fun c h1 h2 => ?_) (fun c h1 h2 => ?_)
        · exact D_X9_ticks_194 hk136 (fun _ _ _ _ h1 h2 => ih _ _ _ _ _ h1 h2) h1 h2
        · refine bn_D h1.2.2 h2.2.2 (fun c h1 h2 => ?_) (fun c h1 h2 => ?_)
          · exact D_X9_ticks_194 hk136 (fun _ _ _ _ h1 h2 => ih _ _ _ _ _ h1 h2) h1 h2
          · refine bn_D h1.2.2 h2.2.2 (fun c h1 h2 => ?_) (fun c h1 h2 => ?_)
            · exact D_X9_ticks_194 hk136 (fun _ _ _ _ h1 h2 => ih _ _ _ _ _ h1 h2) h1 h2
            · obtain ⟨z1, h1, h2⟩ := D_X9_bar h1 h2
              refine bn_D h1 h2 (fun c h1 h2 => ?_) (fun c h1 h2 => ?_)
              · exact D_X9_ticks_194 hk136 (fun _ _ _ _ h1 h2 => ih _ _ _ _ _ h1 h2) h1 h2
              · obtain ⟨A2, h1, h2⟩ := D_X9_enters h1 h2
                exact D_X9_ticks_194 hk136 (fun _ _ _ _ h1 h2 => ih _ _ _ _ _ h1 h2) h1 h2
theorem D_X9_ticks_136  {Q1 Q2 : Int → Il → Prop}  : ∀ (n1 n2 : Nat) (x1 : Int) (x2 : Int) (A : Il), W_X9_ticks_136 n1 x1 x2 A Q1 → W_X9_ticks_136 n2 x1 x2 A Q2 → ∃ (r0 : Int) (r1 : Il), Q1 r0 r1 ∧ Q2 r0 r1 := by
  intro n1
  induction n1 with
  | zero => intro n2 x1 x2 A h1 _; exact h1.elim
  | succ n1 ih =>
    intro n2 x1 x2 A h1 h2
    cases n2 with
    | zero => exact h2.elim
    | succ n2 =>
      unfold W_X9_ticks_136 at h1 h2
      refine br_D h1 h2 (fun c h1 h2 => ?_) (fun c h1 h2 => ?_)
      · exact ⟨_, _, h1, h2⟩
      · obtain ⟨n1, h1⟩ := h1
        obtain ⟨n2, h2⟩ := h2
        exact D_X9_ticks_142 (fun _ _ _ h1 h2 => ih _ _ _ _ h1 h2) n1 n2 _ _ _ _ h1 h2
theorem D_X9_ticks_131  {A : Il} {Q1 Q2 : Int → Il → Prop}  (h1 : W_X9_ticks_131 A Q1) (h2 : W_X9_ticks_131 A Q2) : ∃ (r0 : Int) (r1 : Il), Q1 r0 r1 ∧ Q2 r0 r1 := by
  unfold W_X9_ticks_131 at h1 h2
  obtain ⟨n1, h1⟩ := h1
  obtain ⟨n2, h2⟩ := h2
  exact D_X9_ticks_136 n1 n2 _ _ _ h1 h2
theorem D_X9_pays_77 {k19_1 k19_2 : Int → Il → Prop} {x1 : Int} {s0 : Int} {s1 : Int} {A : Il} {Q1 Q2 : Il → Prop} (hk19 : ∀ (y0 : Int) (y1 : Il), k19_1 y0 y1 → k19_2 y0 y1 → ∃ (r0 : Il), Q1 r0 ∧ Q2 r0) (h1 : W_X9_pays_77 k19_1 x1 s0 s1 A Q1) (h2 : W_X9_pays_77 k19_2 x1 s0 s1 A Q2) : ∃ (r0 : Il), Q1 r0 ∧ Q2 r0 := by
  unfold W_X9_pays_77 at h1 h2
  exact hk19 _ _ h1 h2
theorem D_X9_pays_76 {k19_1 k19_2 : Int → Il → Prop} {x1 : Int} {s0 : Int} {A : Il} {Q1 Q2 : Il → Prop} (hk19 : ∀ (y0 : Int) (y1 : Il), k19_1 y0 y1 → k19_2 y0 y1 → ∃ (r0 : Il), Q1 r0 ∧ Q2 r0) (h1 : W_X9_pays_76 k19_1 x1 s0 A Q1) (h2 : W_X9_pays_76 k19_2 x1 s0 A Q2) : ∃ (r0 : Il), Q1 r0 ∧ Q2 r0 := by
  unfold W_X9_pays_76 at h1 h2
  exact D_X9_pays_77 hk19 h1 h2
theorem D_X9_pays_19  {Q1 Q2 : Il → Prop}  : ∀ (n1 n2 : Nat) (x1 : Int) (A : Il), W_X9_pays_19 n1 x1 A Q1 → W_X9_pays_19 n2 x1 A Q2 → ∃ (r0 : Il), Q1 r0 ∧ Q2 r0 := by
  intro n1
  induction n1 with
  | zero => intro n2 x1 A h1 _; exact h1.elim
  | succ n1 ih =>
    intro n2 x1 A h1 h2
    cases n2 with
    | zero => exact h2.elim
    | succ n2 =>
      unfold W_X9_pays_19 at h1 h2
      refine br_D h1 h2 (fun c h1 h2 => ?_) (fun c h1 h2 => ?_)
      · exact ⟨_, h1, h2⟩
      · refine br_D h1.2.2 h2.2.2 (fun c h1 h2 => ?_) (fun c h1 h2 => ?_)
        · exact D_X9_pays_76 (fun _ _ h1 h2 => ih _ _ _ h1 h2) h1 h2
        · refine bn_D h1.2.2 h2.2.2 (fun c h1 h2 => ?_) (fun c h1 h2 => ?_)
          · exact D_X9_pays_76 (fun _ _ h1 h2 => ih _ _ _ h1 h2) h1 h2
          · refine bn_D h1.2.2.2.2.2.2 h2.2.2.2.2.2.2 (fun c h1 h2 => ?_) (fun c h1 h2 => ?_)
            · exact D_X9_pays_76 (fun _ _ h1 h2 => ih _ _ _ h1 h2) h1 h2
            · exact D_X9_pays_77 (fun _ _ h1 h2 => ih _ _ _ h1 h2) h1 h2
theorem D_X9_pays  {A : Il} {Q1 Q2 : Il → Prop}  (h1 : W_X9_pays A Q1) (h2 : W_X9_pays A Q2) : ∃ (r0 : Il), Q1 r0 ∧ Q2 r0 := by
  unfold W_X9_pays at h1 h2
  obtain ⟨n1, h1⟩ := h1
  obtain ⟨n2, h2⟩ := h2
  exact D_X9_pays_19 n1 n2 _ _ h1 h2
theorem D_X9_ticks_110 {k67_1 k67_2 : Int → Il → Prop} {x1 : Int} {A : Il} {Q1 Q2 : Int → Il → Prop} (hk67 : ∀ (y0 : Int) (y1 : Il), k67_1 y0 y1 → k67_2 y0 y1 → ∃ (r0 : Int) (r1 : Il), Q1 r0 r1 ∧ Q2 r0 r1) (h1 : W_X9_ticks_110 k67_1 x1 A Q1) (h2 : W_X9_ticks_110 k67_2 x1 A Q2) : ∃ (r0 : Int) (r1 : Il), Q1 r0 r1 ∧ Q2 r0 r1 := by
  unfold W_X9_ticks_110 at h1 h2
  exact hk67 _ _ h1 h2
theorem D_X9_arrives  {x1 : Int} {A : Il} {Q1 Q2 : Il → Prop}  (h1 : W_X9_arrives x1 A Q1) (h2 : W_X9_arrives x1 A Q2) : ∃ (r0 : Il), Q1 r0 ∧ Q2 r0 := by
  unfold W_X9_arrives at h1 h2
  refine br_D h1.2.2.2.2.2.2.2.2.2.2.2.2.2.2 h2.2.2.2.2.2.2.2.2.2.2.2.2.2.2 (fun c h1 h2 => ?_) (fun c h1 h2 => ?_)
  · exact ⟨_, h1.2.2, h2.2.2⟩
  · exact ⟨_, h1.2.2, h2.2.2⟩
theorem D_X9_ticks_67  {Q1 Q2 : Int → Il → Prop}  : ∀ (n1 n2 : Nat) (x1 : Int) (A : Il), W_X9_ticks_67 n1 x1 A Q1 → W_X9_ticks_67 n2 x1 A Q2 → ∃ (r0 : Int) (r1 : Il), Q1 r0 r1 ∧ Q2 r0 r1 := by
  intro n1
  induction n1 with
  | zero => intro n2 x1 A h1 _; exact h1.elim
  | succ n1 ih =>
    intro n2 x1 A h1 h2
    cases n2 with
    | zero => exact h2.elim
    | succ n2 =>
      unfold W_X9_ticks_67 at h1 h2
      refine br_D h1 h2 (fun c h1 h2 => ?_) (fun c h1 h2 => ?_)
      · refine bn_D h1 h2 (fun c h1 h2 => ?_) (fun c h1 h2 => ?_)
        · exact D_X9_ticks_131 h1 h2
        · obtain ⟨A1, h1, h2⟩ := D_X9_pays h1 h2
          exact D_X9_ticks_131 h1 h2
      · refine br_D h1.2.2 h2.2.2 (fun c h1 h2 => ?_) (fun c h1 h2 => ?_)
        · exact D_X9_ticks_110 (fun _ _ h1 h2 => ih _ _ _ h1 h2) h1 h2
        · refine bn_D h1.2.2 h2.2.2 (fun c h1 h2 => ?_) (fun c h1 h2 => ?_)
          · exact D_X9_ticks_110 (fun _ _ h1 h2 => ih _ _ _ h1 h2) h1 h2
          · refine bn_D h1.2.2 h2.2.2 (fun c h1 h2 => ?_) (fun c h1 h2 => ?_)
            · exact D_X9_ticks_110 (fun _ _ h1 h2 => ih _ _ _ h1 h2) h1 h2
            · obtain ⟨A4, h1, h2⟩ := D_X9_arrives h1 h2
              exact D_X9_ticks_110 (fun _ _ h1 h2 => ih _ _ _ h1 h2) h1 h2
theorem D_X9_ticks_58 {k12_1 k12_2 : Int → Il → Prop} {x1 : Int} {s0 : Int} {s1 : Int} {A : Il} {Q1 Q2 : Int → Il → Prop} (hk12 : ∀ (y0 : Int) (y1 : Il), k12_1 y0 y1 → k12_2 y0 y1 → ∃ (r0 : Int) (r1 : Il), Q1 r0 r1 ∧ Q2 r0 r1) (h1 : W_X9_ticks_58 k12_1 x1 s0 s1 A Q1) (h2 : W_X9_ticks_58 k12_2 x1 s0 s1 A Q2) : ∃ (r0 : Int) (r1 : Il), Q1 r0 r1 ∧ Q2 r0 r1 := by
  unfold W_X9_ticks_58 at h1 h2
  exact hk12 _ _ h1.2.2 h2.2.2
theorem D_X9_ticks_52 {k12_1 k12_2 : Int → Il → Prop} {x1 : Int} {s0 : Int} {A : Il} {Q1 Q2 : Int → Il → Prop} (hk12 : ∀ (y0 : Int) (y1 : Il), k12_1 y0 y1 → k12_2 y0 y1 → ∃ (r0 : Int) (r1 : Il), Q1 r0 r1 ∧ Q2 r0 r1) (h1 : W_X9_ticks_52 k12_1 x1 s0 A Q1) (h2 : W_X9_ticks_52 k12_2 x1 s0 A Q2) : ∃ (r0 : Int) (r1 : Il), Q1 r0 r1 ∧ Q2 r0 r1 := by
  unfold W_X9_ticks_52 at h1 h2
  exact D_X9_ticks_58 hk12 h1.2.2 h2.2.2
theorem D_X9_ticks_12  {Q1 Q2 : Int → Il → Prop}  : ∀ (n1 n2 : Nat) (x1 : Int) (A : Il), W_X9_ticks_12 n1 x1 A Q1 → W_X9_ticks_12 n2 x1 A Q2 → ∃ (r0 : Int) (r1 : Il), Q1 r0 r1 ∧ Q2 r0 r1 := by
  intro n1
  induction n1 with
  | zero => intro n2 x1 A h1 _; exact h1.elim
  | succ n1 ih =>
    intro n2 x1 A h1 h2
    cases n2 with
    | zero => exact h2.elim
    | succ n2 =>
      unfold W_X9_ticks_12 at h1 h2
      refine br_D h1 h2 (fun c h1 h2 => ?_) (fun c h1 h2 => ?_)
      · obtain ⟨n1, h1⟩ := h1
        obtain ⟨n2, h2⟩ := h2
        exact D_X9_ticks_67 n1 n2 _ _ h1 h2
      · refine br_D h1.2.2 h2.2.2 (fun c h1 h2 => ?_) (fun c h1 h2 => ?_)
        · exact D_X9_ticks_52 (fun _ _ h1 h2 => ih _ _ _ h1 h2) h1 h2
        · refine br_D h1.2.2 h2.2.2 (fun c h1 h2 => ?_) (fun c h1 h2 => ?_)
          · exact D_X9_ticks_52 (fun _ _ h1 h2 => ih _ _ _ h1 h2) h1 h2
          · exact D_X9_ticks_58 (fun _ _ h1 h2 => ih _ _ _ h1 h2) h1 h2
theorem D_X9_ticks  {A : Il} {Q1 Q2 : Int → Il → Prop}  (h1 : W_X9_ticks A Q1) (h2 : W_X9_ticks A Q2) : ∃ (r0 : Int) (r1 : Il), Q1 r0 r1 ∧ Q2 r0 r1 := by
  unfold W_X9_ticks at h1 h2
  obtain ⟨n1, h1⟩ := h1
  obtain ⟨n2, h2⟩ := h2
  exact D_X9_ticks_12 n1 n2 _ _ h1 h2
theorem D_X9_run_40  {Q1 Q2 : Int → Il → Prop}  : ∀ (n1 n2 : Nat) (x1 : Int) (x2 : Int) (x3 : Int) (A : Il), W_X9_run_40 n1 x1 x2 x3 A Q1 → W_X9_run_40 n2 x1 x2 x3 A Q2 → ∃ (r0 : Int) (r1 : Il), Q1 r0 r1 ∧ Q2 r0 r1 := by
  intro n1
  induction n1 with
  | zero => intro n2 x1 x2 x3 A h1 _; exact h1.elim
  | succ n1 ih =>
    intro n2 x1 x2 x3 A h1 h2
    cases n2 with
    | zero => exact h2.elim
    | succ n2 =>
      unfold W_X9_run_40 at h1 h2
      refine br_D h1 h2 (fun c h1 h2 => ?_) (fun c h1 h2 => ?_)
      · exact ⟨_, _, h1, h2⟩
      · refine bn_D h1 h2 (fun c h1 h2 => ?_) (fun c h1 h2 => ?_)
        · exact ⟨_, _, h1, h2⟩
        · obtain ⟨z1, A2, h1, h2⟩ := D_X9_ticks h1 h2
          exact ih _ _ _ _ _ h1 h2
theorem D_X9_run_33  {x1 : Int} {s0 : Int} {A : Il} {Q1 Q2 : Int → Il → Prop}  (h1 : W_X9_run_33 x1 s0 A Q1) (h2 : W_X9_run_33 x1 s0 A Q2) : ∃ (r0 : Int) (r1 : Il), Q1 r0 r1 ∧ Q2 r0 r1 := by
  unfold W_X9_run_33 at h1 h2
  obtain ⟨n1, h1⟩ := h1
  obtain ⟨n2, h2⟩ := h2
  exact D_X9_run_40 n1 n2 _ _ _ _ h1 h2
theorem D_X9_run  {x1 : Int} {A : Il} {Q1 Q2 : Int → Il → Prop}  (h1 : W_X9_run x1 A Q1) (h2 : W_X9_run x1 A Q2) : ∃ (r0 : Int) (r1 : Il), Q1 r0 r1 ∧ Q2 r0 r1 := by
  unfold W_X9_run at h1 h2
  obtain ⟨z1, h1, h2⟩ := D_X9_in h1 h2
  refine bn_D h1 h2 (fun c h1 h2 => ?_) (fun c h1 h2 => ?_)
  · refine br_D h1 h2 (fun c h1 h2 => ?_) (fun c h1 h2 => ?_)
    · exact D_X9_run_33 h1 h2
    · exact D_X9_run_33 h1 h2
  · exact D_X9_run_33 h1 h2
theorem D_X9_clock  {A : Il} {Q1 Q2 : Int → Il → Prop}  (h1 : W_X9_clock A Q1) (h2 : W_X9_clock A Q2) : ∃ (r0 : Int) (r1 : Il), Q1 r0 r1 ∧ Q2 r0 r1 := by
  unfold W_X9_clock at h1 h2
  exact ⟨_, _, h1, h2⟩
theorem D_X9_cash  {A : Il} {Q1 Q2 : Int → Il → Prop}  (h1 : W_X9_cash A Q1) (h2 : W_X9_cash A Q2) : ∃ (r0 : Int) (r1 : Il), Q1 r0 r1 ∧ Q2 r0 r1 := by
  unfold W_X9_cash at h1 h2
  exact ⟨_, _, h1, h2⟩
theorem D_X9_freeTracks_13  {x1 : Int} {s0 : Int} {A : Il} {Q1 Q2 : Int → Il → Prop}  (h1 : W_X9_freeTracks_13 x1 s0 A Q1) (h2 : W_X9_freeTracks_13 x1 s0 A Q2) : ∃ (r0 : Int) (r1 : Il), Q1 r0 r1 ∧ Q2 r0 r1 := by
  unfold W_X9_freeTracks_13 at h1 h2
  refine br_D h1 h2 (fun c h1 h2 => ?_) (fun c h1 h2 => ?_)
  · obtain ⟨z1, h1, h2⟩ := D_X9_taken h1.2.2 h2.2.2
    exact ⟨_, _, h1, h2⟩
  · exact ⟨_, _, h1, h2⟩
theorem D_X9_freeTracks  {x1 : Int} {A : Il} {Q1 Q2 : Int → Il → Prop}  (h1 : W_X9_freeTracks x1 A Q1) (h2 : W_X9_freeTracks x1 A Q2) : ∃ (r0 : Int) (r1 : Il), Q1 r0 r1 ∧ Q2 r0 r1 := by
  unfold W_X9_freeTracks at h1 h2
  obtain ⟨z1, h1, h2⟩ := D_X9_isStation h1 h2
  refine br_D h1 h2 (fun c h1 h2 => ?_) (fun c h1 h2 => ?_)
  · exact D_X9_freeTracks_13 h1 h2
  · exact D_X9_freeTracks_13 h1 h2
theorem D_X9_holder_14  {x1 : Int} {s0 : Int} {A : Il} {Q1 Q2 : Int → Il → Prop}  (h1 : W_X9_holder_14 x1 s0 A Q1) (h2 : W_X9_holder_14 x1 s0 A Q2) : ∃ (r0 : Int) (r1 : Il), Q1 r0 r1 ∧ Q2 r0 r1 := by
  unfold W_X9_holder_14 at h1 h2
  refine br_D h1 h2 (fun c h1 h2 => ?_) (fun c h1 h2 => ?_)
  · exact ⟨_, _, h1.2.2, h2.2.2⟩
  · exact ⟨_, _, h1, h2⟩
theorem D_X9_holder  {x1 : Int} {A : Il} {Q1 Q2 : Int → Il → Prop}  (h1 : W_X9_holder x1 A Q1) (h2 : W_X9_holder x1 A Q2) : ∃ (r0 : Int) (r1 : Il), Q1 r0 r1 ∧ Q2 r0 r1 := by
  unfold W_X9_holder at h1 h2
  obtain ⟨z1, h1, h2⟩ := D_X9_isBlock h1 h2
  refine br_D h1 h2 (fun c h1 h2 => ?_) (fun c h1 h2 => ?_)
  · exact D_X9_holder_14 h1 h2
  · exact D_X9_holder_14 h1 h2
theorem D_X9_holderByTrains  {x1 : Int} {A : Il} {Q1 Q2 : Int → Il → Prop}  (h1 : W_X9_holderByTrains x1 A Q1) (h2 : W_X9_holderByTrains x1 A Q2) : ∃ (r0 : Int) (r1 : Il), Q1 r0 r1 ∧ Q2 r0 r1 := by
  unfold W_X9_holderByTrains at h1 h2
  obtain ⟨z1, A2, h1, h2⟩ := D_X9_holder h1 h2
  exact ⟨_, _, h1, h2⟩
theorem D_X9_block_23  {x1 : Int} {x2 : Int} {s0 : Int} {A : Il} {Q1 Q2 : Int → Il → Prop}  (h1 : W_X9_block_23 x1 x2 s0 A Q1) (h2 : W_X9_block_23 x1 x2 s0 A Q2) : ∃ (r0 : Int) (r1 : Il), Q1 r0 r1 ∧ Q2 r0 r1 := by
  unfold W_X9_block_23 at h1 h2
  refine br_D h1 h2 (fun c h1 h2 => ?_) (fun c h1 h2 => ?_)
  · refine bn_D h1 h2 (fun c h1 h2 => ?_) (fun c h1 h2 => ?_)
    · refine bn_D h1 h2 (fun c h1 h2 => ?_) (fun c h1 h2 => ?_)
      · refine br_D h1.2.2 h2.2.2 (fun c h1 h2 => ?_) (fun c h1 h2 => ?_)
        · exact ⟨_, _, h1, h2⟩
        · exact ⟨_, _, h1, h2⟩
      · obtain ⟨z1, h1, h2⟩ := D_X9_isClosed h1 h2
        refine br_D h1 h2 (fun c h1 h2 => ?_) (fun c h1 h2 => ?_)
        · exact ⟨_, _, h1, h2⟩
        · exact ⟨_, _, h1, h2⟩
    · exact ⟨_, _, h1.2.2, h2.2.2⟩
  · exact ⟨_, _, h1, h2⟩
theorem D_X9_block_22  {x1 : Int} {x2 : Int} {A : Il} {Q1 Q2 : Int → Il → Prop}  (h1 : W_X9_block_22 x1 x2 A Q1) (h2 : W_X9_block_22 x1 x2 A Q2) : ∃ (r0 : Int) (r1 : Il), Q1 r0 r1 ∧ Q2 r0 r1 := by
  unfold W_X9_block_22 at h1 h2
  exact D_X9_block_23 h1 h2
theorem D_X9_block  {x1 : Int} {x2 : Int} {A : Il} {Q1 Q2 : Int → Il → Prop}  (h1 : W_X9_block x1 x2 A Q1) (h2 : W_X9_block x1 x2 A Q2) : ∃ (r0 : Int) (r1 : Il), Q1 r0 r1 ∧ Q2 r0 r1 := by
  unfold W_X9_block at h1 h2
  obtain ⟨z1, h1, h2⟩ := D_X9_isBlock h1 h2
  refine br_D h1 h2 (fun c h1 h2 => ?_) (fun c h1 h2 => ?_)
  · exact D_X9_block_22 h1 h2
  · obtain ⟨z2, h1, h2⟩ := D_X9_in h1 h2
    refine br_D h1 h2 (fun c h1 h2 => ?_) (fun c h1 h2 => ?_)
    · exact D_X9_block_22 h1 h2
    · exact D_X9_block_23 h1 h2
theorem D_X9_train_24  {x1 : Int} {x2 : Int} {s0 : Int} {A : Il} {Q1 Q2 : Int → Il → Prop}  (h1 : W_X9_train_24 x1 x2 s0 A Q1) (h2 : W_X9_train_24 x1 x2 s0 A Q2) : ∃ (r0 : Int) (r1 : Il), Q1 r0 r1 ∧ Q2 r0 r1 := by
  unfold W_X9_train_24 at h1 h2
  refine br_D h1 h2 (fun c h1 h2 => ?_) (fun c h1 h2 => ?_)
  · refine sw_D h1 h2 (fun c h1 h2 => ?_) (fun c1 h1 h2 => ?_)
    · exact ⟨_, _, h1.2.2, h2.2.2⟩
    · refine sw_D h1 h2 (fun c h1 h2 => ?_) (fun c2 h1 h2 => ?_)
      · refine bn_D h1.2.2 h2.2.2 (fun c h1 h2 => ?_) (fun c h1 h2 => ?_)
        · exact ⟨_, _, h1.2.2, h2.2.2⟩
        · exact ⟨_, _, h1, h2⟩
      · refine sw_D h1 h2 (fun c h1 h2 => ?_) (fun c3 h1 h2 => ?_)
        · exact ⟨_, _, h1.2.2, h2.2.2⟩
        · refine sw_D h1 h2 (fun c h1 h2 => ?_) (fun c4 h1 h2 => ?_)
          · obtain ⟨z1, h1, h2⟩ := D_X9_weight h1 h2
            exact ⟨_, _, h1, h2⟩
          · refine sw_D h1 h2 (fun c h1 h2 => ?_) (fun c5 h1 h2 => ?_)
            · exact ⟨_, _, h1.2.2, h2.2.2⟩
            · refine sw_D h1 h2 (fun c h1 h2 => ?_) (fun c6 h1 h2 => ?_)
              · exact ⟨_, _, h1.2.2.2.2, h2.2.2.2.2⟩
              · have c : x2 < 0 ∨ 5 < x2 := (Int.lt_or_le _ _).imp id (fun g => (sw_s (sw_s (sw_s (sw_s (sw_s (sw_s g c1) c2) c3) c4) c5) c6))
                have h1 := h1 c
                have h2 := h2 c
                refine bn_D h1.2.2 h2.2.2 (fun c h1 h2 => ?_) (fun c h1 h2 => ?_)
                · exact ⟨_, _, h1, h2⟩
                · exact ⟨_, _, h1.2.2, h2.2.2⟩
  · exact ⟨_, _, h1, h2⟩
theorem D_X9_train_23  {x1 : Int} {x2 : Int} {A : Il} {Q1 Q2 : Int → Il → Prop}  (h1 : W_X9_train_23 x1 x2 A Q1) (h2 : W_X9_train_23 x1 x2 A Q2) : ∃ (r0 : Int) (r1 : Il), Q1 r0 r1 ∧ Q2 r0 r1 := by
  unfold W_X9_train_23 at h1 h2
  exact D_X9_train_24 h1 h2
theorem D_X9_train  {x1 : Int} {x2 : Int} {A : Il} {Q1 Q2 : Int → Il → Prop}  (h1 : W_X9_train x1 x2 A Q1) (h2 : W_X9_train x1 x2 A Q2) : ∃ (r0 : Int) (r1 : Il), Q1 r0 r1 ∧ Q2 r0 r1 := by
  unfold W_X9_train at h1 h2
  obtain ⟨z1, h1, h2⟩ := D_X9_isTrain h1 h2
  refine br_D h1 h2 (fun c h1 h2 => ?_) (fun c h1 h2 => ?_)
  · exact D_X9_train_23 h1 h2
  · obtain ⟨z2, h1, h2⟩ := D_X9_in h1 h2
    refine br_D h1 h2 (fun c h1 h2 => ?_) (fun c h1 h2 => ?_)
    · exact D_X9_train_23 h1 h2
    · exact D_X9_train_24 h1 h2
theorem D_X9_barred_14  {x1 : Int} {s0 : Int} {A : Il} {Q1 Q2 : Int → Il → Prop}  (h1 : W_X9_barred_14 x1 s0 A Q1) (h2 : W_X9_barred_14 x1 s0 A Q2) : ∃ (r0 : Int) (r1 : Il), Q1 r0 r1 ∧ Q2 r0 r1 := by
  unfold W_X9_barred_14 at h1 h2
  refine br_D h1 h2 (fun c h1 h2 => ?_) (fun c h1 h2 => ?_)
  · refine br_D h1.2.2 h2.2.2 (fun c h1 h2 => ?_) (fun c h1 h2 => ?_)
    · obtain ⟨z1, h1, h2⟩ := D_X9_bar h1 h2
      exact ⟨_, _, h1, h2⟩
    · exact ⟨_, _, h1, h2⟩
  · exact ⟨_, _, h1, h2⟩
theorem D_X9_barred  {x1 : Int} {A : Il} {Q1 Q2 : Int → Il → Prop}  (h1 : W_X9_barred x1 A Q1) (h2 : W_X9_barred x1 A Q2) : ∃ (r0 : Int) (r1 : Il), Q1 r0 r1 ∧ Q2 r0 r1 := by
  unfold W_X9_barred at h1 h2
  obtain ⟨z1, h1, h2⟩ := D_X9_isTrain h1 h2
  refine br_D h1 h2 (fun c h1 h2 => ?_) (fun c h1 h2 => ?_)
  · exact D_X9_barred_14 h1 h2
  · exact D_X9_barred_14 h1 h2
theorem D_X9_duty_14  {x1 : Int} {s0 : Int} {A : Il} {Q1 Q2 : Int → Il → Prop}  (h1 : W_X9_duty_14 x1 s0 A Q1) (h2 : W_X9_duty_14 x1 s0 A Q2) : ∃ (r0 : Int) (r1 : Il), Q1 r0 r1 ∧ Q2 r0 r1 := by
  unfold W_X9_duty_14 at h1 h2
  refine br_D h1 h2 (fun c h1 h2 => ?_) (fun c h1 h2 => ?_)
  · obtain ⟨z1, h1, h2⟩ := D_X9_rests h1 h2
    refine br_D h1 h2 (fun c h1 h2 => ?_) (fun c h1 h2 => ?_)
    · exact ⟨_, _, h1.2.2, h2.2.2⟩
    · exact ⟨_, _, h1, h2⟩
  · exact ⟨_, _, h1, h2⟩
theorem D_X9_duty  {x1 : Int} {A : Il} {Q1 Q2 : Int → Il → Prop}  (h1 : W_X9_duty x1 A Q1) (h2 : W_X9_duty x1 A Q2) : ∃ (r0 : Int) (r1 : Il), Q1 r0 r1 ∧ Q2 r0 r1 := by
  unfold W_X9_duty at h1 h2
  obtain ⟨z1, h1, h2⟩ := D_X9_isCrew h1 h2
  refine br_D h1 h2 (fun c h1 h2 => ?_) (fun c h1 h2 => ?_)
  · exact D_X9_duty_14 h1 h2
  · exact D_X9_duty_14 h1 h2
