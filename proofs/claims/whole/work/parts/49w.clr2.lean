/-! the simulation of clear -/
section ClrS
variable {c LN : Nat → Nat} {B B' : Fl} {E E' : El} {A A' : Il}
/-- the first n cars of train t come to station s -/
def cmk (A : Il) (t s : Int) : Nat → Il
  | 0 => A
  | n + 1 => cms (cmk A t s n) (A 43 (10 * t + (n : Int))) s
theorem cms_o {x s j : Int} {a : Nat} (h : a ≠ 31 ∧ a ≠ 32 ∧ a ≠ 34 ∧ a ≠ 35 ∧ a ≠ 60 ∧ a ≠ 61 ∧ a ≠ 62) : cms A x s a j = A a j := (sc_k (by omega)).trans ((ui_k (by omega)).trans ((ui_k (by omega)).trans ((ui_k (by omega)).trans ((ui_k (by omega)).trans ((ui_k (by omega)).trans (ui_k (by omega)))))))
theorem cms_32 {x s j : Int} (h : j ≠ x) : cms A x s 32 j = A 32 j := (sc_k (by decide)).trans ((ui_k (by decide)).trans ((ui_k (by decide)).trans ((ui_k (by decide)).trans ((ui_k (by decide)).trans ((ui_k (by decide)).trans (ui_j h))))))
theorem cms_60 {x s : Int} : cms A x s 60 0 = A 60 0 + 1 := sc_s
theorem cmk_o {t s : Int} {a : Nat} (h : a ≠ 31 ∧ a ≠ 32 ∧ a ≠ 34 ∧ a ≠ 35 ∧ a ≠ 60 ∧ a ≠ 61 ∧ a ≠ 62) : ∀ (n : Nat) (j : Int), cmk A t s n a j = A a j
  | 0, _ => rfl
  | n + 1, j => (cms_o h).trans (cmk_o h n j)
theorem cmk_60 {t s : Int} : ∀ n : Nat, cmk A t s n 60 0 = A 60 0 + (n : Int)
  | 0 => by
    show A 60 0 = A 60 0 + ((0 : Nat) : Int)
    omega
  | n + 1 => by
    show cms (cmk A t s n) _ s 60 0 = _
    rw [cms_60, cmk_60 n]
    omega
theorem cmk_32 {t s j : Int} : ∀ n : Nat, (∀ p : Nat, p < n → j ≠ A 43 (10 * t + (p : Int))) → cmk A t s n 32 j = A 32 j
  | 0, _ => rfl
  | n + 1, h => (cms_32 (h n (by omega))).trans (cmk_32 n (fun p hp => h p (by omega)))
theorem pz_cms {x s : Int} : pz (cms A x s) = pz A + 1 := by
  unfold pz tz
  rw [cms_60]
  simp only [cms_o (A := A) (x := x) (s := s) (a := 36) (by decide), cms_o (A := A) (x := x) (s := s) (a := 44) (by decide)]
  omega
theorem pz_cmk {t s : Int} : ∀ n : Nat, pz (cmk A t s n) = pz A + (n : Int)
  | 0 => by
    show pz A = pz A + ((0 : Nat) : Int)
    omega
  | n + 1 => by
    show pz (cms (cmk A t s n) _ s) = _
    rw [pz_cms, pz_cmk n]
    omega
theorem pz_enA {t s : Int} (t0 : 0 ≤ t) (t1 : t < 6) (h36 : A 36 t = 1) : pz (enA A t s) + A 44 t = pz A := by
  have e44 : ∀ j, enA A t s 44 j = A 44 j := fun j => rfl
  have e60 : enA A t s 60 0 = A 60 0 := rfl
  have a36 : enA A t s 36 t = 0 ∧ ∀ j, j ≠ t → enA A t s 36 j = A 36 j := ⟨(ui_k (by decide)).trans ((ui_k (by decide)).trans ((ui_k (by decide)).trans ((ui_k (by decide)).trans ui_s))), fun j h => (ui_k (by decide)).trans ((ui_k (by decide)).trans ((ui_k (by decide)).trans ((ui_k (by decide)).trans (ui_j h))))⟩
  have hz : ∀ q : Int, q ≠ t → tz (enA A t s) q = tz A q := fun q nq => by
    unfold tz
    rw [e44, a36.2 q nq]
  have hzt : tz (enA A t s) t = 0 := by
    unfold tz
    rw [a36.1, if_neg (by decide)]
  have hzt2 : tz A t = A 44 t := by
    unfold tz
    rw [if_pos h36]
  unfold pz
  rw [e60]
  have g0 := hz 0
  have g1 := hz 1
  have g2 := hz 2
  have g3 := hz 3
  have g4 := hz 4
  have g5 := hz 5
  have ss : t = 0 ∨ t = 1 ∨ t = 2 ∨ t = 3 ∨ t = 4 ∨ t = 5 := by omega
  rcases ss with e | e | e | e | e | e <;> rw [e] at hzt hzt2 g0 g1 g2 g3 g4 g5 ⊢ <;> omega
/-- the cars of a train that is no more -/
def Crw (A : Il) (t : Int) (N : Nat) : Prop := (∀ p : Int, 0 ≤ p → p < (N : Int) → 0 ≤ A 43 (10 * t + p) ∧ A 43 (10 * t + p) < A 29 0 ∧ A 32 (A 43 (10 * t + p)) = t) ∧ (∀ p q : Int, 0 ≤ p → p < (N : Int) → 0 ≤ q → q < (N : Int) → A 43 (10 * t + p) = A 43 (10 * t + q) → p = q) ∧ A 36 t = 0 ∧ t ≠ -1 ∧ A 60 0 + (N : Int) ≤ 1024
def Xof (A : Il) (t : Int) (N : Nat) (n : Int) : Int → Prop := fun x => ∃ p : Int, n ≤ p ∧ p < (N : Int) ∧ A 43 (10 * t + p) = x
theorem crw_x {t s : Int} {N n : Nat} (h : Crw A t N) (hn : n < N) : cmk A t s n 32 (A 43 (10 * t + (n : Int))) = t := by
  rw [cmk_32 n (fun p hp w => by
    have := h.2.1 (n : Int) (p : Int) (by omega) (by omega) (by omega) (by omega) w
    omega)]
  exact (h.1 (n : Int) (by omega) (by omega)).2.2
theorem Xof_up {t : Int} {N n : Nat} : ∀ k, (Xof A t N (n : Int) k ∧ k ≠ A 43 (10 * t + (n : Int))) → Xof A t N ((n + 1 : Nat) : Int) k := fun k w => by
  obtain ⟨⟨p, p0, p1, p2⟩, nk⟩ := w
  refine ⟨p, ?_, p1, p2⟩
  have : p ≠ (n : Int) := fun e => nk (by rw [← p2, e])
  omega
theorem cmk_good {t s : Int} {N : Nat} (h : Crw A t N) (hs : 0 ≤ s ∧ s < 8) (h0 : ∃ (LN : Nat → Nat) (B : Fl) (E : El), RepV (Xof A t N 0) (N : Int) c LN B E A) : ∀ n : Nat, n ≤ N → ∃ (LN : Nat → Nat) (B : Fl) (E : El), RepV (Xof A t N (n : Int)) ((N : Int) - (n : Int)) c LN B E (cmk A t s n)
  | 0, _ => by
    obtain ⟨LN, B, E, hV⟩ := h0
    refine ⟨LN, B, E, ?_⟩
    show RepV (Xof A t N ((0 : Nat) : Int)) ((N : Int) - ((0 : Nat) : Int)) c LN B E A
    rw [show (N : Int) - ((0 : Nat) : Int) = (N : Int) by omega]
    exact hV
  | n + 1, hn => by
    obtain ⟨LN, B, E, hV⟩ := cmk_good h hs h0 n (by omega)
    have w := h.1 (n : Int) (by omega) (by omega)
    have h5 := h.2.2.2.2
    obtain ⟨ny, nu⟩ := hV.nyu (crw_x (s := s) h (by omega)) h.2.2.2.1 ((cmk_o (by decide) n t).trans h.2.2.1)
    obtain ⟨LN', B', E', hV'⟩ := comes_ex (s := s) hV ⟨w.1, by rw [cmk_o (by decide)]; exact w.2.1⟩ hs (by omega) ⟨(n : Int), Int.le_refl _, by omega, rfl⟩ (by rw [cmk_60]; omega) ny nu
    refine ⟨LN', B', E', ?_⟩
    rw [show (N : Int) - ((n + 1 : Nat) : Int) = (N : Int) - (n : Int) - 1 by omega]
    exact hV'.mono Xof_up
theorem m_clr_in {t s b cnt : Int} {N : Nat} {k69 : Int → Int → Int → Il → Prop} {Q : Int → Il → Prop} (h : Crw A t N) (hs : 0 ≤ s ∧ s < 8) (t0 : 0 ≤ t) (t1 : t < 6) (hb : 0 ≤ b ∧ b < 16) (h7 : A 7 (2 * b) = s) (h44 : A 44 t = (N : Int)) (hN10 : N ≤ 10) (h29 : A 29 0 ≤ 20) (h60 : 0 ≤ A 60 0) (h0 : ∃ (LN : Nat → Nat) (B : Fl) (E : El), RepV (Xof A t N 0) (N : Int) c LN B E A) (fin : k69 b (w32 (cnt + 1)) (w32 (t + 1)) (cmk A t s N)) : ∀ k n : Nat, n + k = N → W_X9_clear_120 (k + 1) k69 b cnt t (n : Int) (cmk A t s n) Q
  | 0, n, e => by
    have e' : n = N := by omega
    subst e'
    exact ⟨t0, t1, br_T (by rw [cmk_o (by decide), h44]; exact Int.le_refl _) fin⟩
  | k + 1, n, e => by
    have ih := m_clr_in (Q := Q) h hs t0 t1 hb h7 h44 hN10 h29 h60 h0 fin k (n + 1) (by omega)
    have e1 : w32 (10 * t) = 10 * t := w32_id (by unfold rg; omega)
    have e2 : w32 (10 * t + (n : Int)) = 10 * t + (n : Int) := w32_id (by unfold rg; omega)
    have e3 : w32 (2 * b) = 2 * b := w32_id (by unfold rg; omega)
    have w := h.1 (n : Int) (by omega) (by omega)
    have h5 := h.2.2.2.2
    obtain ⟨LN, B, E, hV⟩ := cmk_good h hs h0 n (by omega)
    have yr := hV.yroom (by omega) hs
    refine ⟨t0, t1, br_F (by rw [cmk_o (by decide), h44]; omega) ?_⟩
    rw [e1, e2, e3, cmk_o (a := 43) (by decide), cmk_o (a := 7) (by decide), h7]
    refine ⟨by omega, by omega, by omega, by omega, m_comes ⟨w.1, by omega⟩ hs ⟨yr.1, by omega⟩ ⟨by rw [cmk_60]; omega, by rw [cmk_60]; omega⟩ ?_⟩
    rw [w32_up (by omega)]
    exact ih
def vB (B : Fl) (v : Nat) : Fl := u2 (u2 B 210 v 0) 209 v 0
theorem sv {e k t s : Int} {v w q : Nat} (h : q ≠ 502 ∧ q ≠ 501 ∧ q ≠ 401 ∧ q ≠ 400 ∧ q ≠ 801 ∧ q ≠ 210 ∧ q ≠ 209) : soB (vB B v) e k t s q w = B q w := (u2_k (by omega)).trans ((u2_k (by omega)).trans ((u2_k (by omega)).trans ((u2_k (by omega)).trans ((u2_k (by omega)).trans ((u2_k (by omega)).trans (u2_k (by omega)))))))
theorem sv_c {e k t s : Int} {v w q : Nat} (h : B' q w = B q w) : soB (vB B' v) e k t s q w = soB (vB B v) e k t s q w := by
  unfold soB vB u2
  rw [h]
theorem vs {e k t s : Int} {v : Nat} : vB (soB B e k t s) v = soB (vB B v) e k t s := by
  unfold soB vB
  rw [u2_com (k := 801) (k1 := 210) (Or.inl (by decide)), u2_com (k := 400) (k1 := 210) (Or.inl (by decide)), u2_com (k := 401) (k1 := 210) (Or.inl (by decide)), u2_com (k := 501) (k1 := 210) (Or.inl (by decide)), u2_com (k := 502) (k1 := 210) (Or.inl (by decide)), u2_com (k := 801) (k1 := 209) (Or.inl (by decide)), u2_com (k := 400) (k1 := 209) (Or.inl (by decide)), u2_com (k := 401) (k1 := 209) (Or.inl (by decide)), u2_com (k := 501) (k1 := 209) (Or.inl (by decide)), u2_com (k := 502) (k1 := 209) (Or.inl (by decide))]
/-- what stays while cars come -/
def Kep (B0 B : Fl) : Prop := ∀ q v, (q ≠ 301 ∧ q ≠ 302 ∧ q ≠ 601) → B q v = B0 q v
set_option maxHeartbeats 2000000 in
theorem q_clr_in {t s e kk : Int} {v N : Nat} {B0 : Fl} {Q : (Nat → Nat) → Fl → El → Prop} {QX : String → (Nat → Nat) → Fl → El → Prop} (h : Crw A t N) (hs : 0 ≤ s ∧ s < 8) (t0 : 0 ≤ t) (t1 : t < 6) (hN10 : N ≤ 10) (h29 : A 29 0 ≤ 20) (hQ : ∀ (LN : Nat → Nat) (B : Fl) (E : El), RepV (Xof A t N (N : Int)) 0 c LN (soB (vB B v) e kk t s) E (cmk A t s N) → Kep B0 B → Q LN B E) : ∀ (k n : Nat) (LN : Nat → Nat) (B : Fl) (E : El), n + k = N → RepV (Xof A t N (n : Int)) ((N : Int) - (n : Int)) c LN (soB (vB B v) e kk t s) E (cmk A t s n) → Kep B0 B → rowR LN B E (50 + t.toNat) (N : Int) (fun p => A 43 (10 * t + p)) → W_X8_bringCarsToYard_2 c (k + 1) 0 (40 + t.toNat) s (n : Int) LN B E Q QX
  | 0, n, LN, B, E, en, hV, hk, hr => by
    have e' : n = N := by omega
    subst e'
    have e50 : 40 + t.toNat + 10 = 50 + t.toNat := by omega
    rw [show (n : Int) - (n : Int) = 0 by omega] at hV
    refine ⟨kdtr (by omega) (by omega), by rw [e50]; exact kdtc (by omega) (by omega), ?_⟩
    rw [e50, hr.1]
    exact br_T (Int.le_refl _) (hQ LN B E hV hk)
  | k + 1, n, LN, B, E, en, hV, hk, hr => by
    have e50 : 40 + t.toNat + 10 = 50 + t.toNat := by omega
    have hkt := kdtr (c := c) (v := 40 + t.toNat) (by omega) (by omega)
    have hkc := kdtc (c := c) (v := 50 + t.toNat) (by omega) (by omega)
    have w := h.1 (n : Int) (by omega) (by omega)
    have h5 := h.2.2.2.2
    have xx := crw_x (s := s) h (show n < N by omega)
    obtain ⟨ny, nu⟩ := hV.nyu xx h.2.2.2.1 ((cmk_o (by decide) n t).trans h.2.2.1)
    have hx : 0 ≤ A 43 (10 * t + (n : Int)) ∧ A 43 (10 * t + (n : Int)) < cmk A t s n 29 0 := ⟨w.1, by rw [cmk_o (by decide)]; exact w.2.1⟩
    have h60 : cmk A t s n 60 0 ≤ 1023 := by rw [cmk_60]; omega
    have gK0 := hV.2.2.2.2.2.2.2.2.1
    have gK : RepK c B (cmk A t s n) := gK0.fr (fun q u hq => (sv (by omega)).symm) (fun _ _ _ => rfl)
    have gP := (hV.2.2.2.2.2.2.2.2.2.2.2.2.2.2.2.1).room hx (by rw [cmk_o (by decide)]; exact h29) h60
    rw [sv (by decide)] at gP
    obtain ⟨⟨z1, z2, z3, z4⟩, z5, z6, z7⟩ := hV.2.2.2.2.2.2.2.2.2.2.2.2.1 s hs.1 hs.2
    rw [sv (by decide)] at z1
    have hm : 1 ≤ (N : Int) - (n : Int) := by omega
    have hX : Xof A t N (n : Int) (A 43 (10 * t + (n : Int))) := ⟨(n : Int), Int.le_refl _, by omega, rfl⟩
    refine ⟨hkt, by rw [e50]; exact hkc, ?_⟩
    rw [e50, hr.1]
    refine br_F (by omega) (q_at hkc hr ?_)
    rw [if_pos (by omega)]
    refine ⟨rfl, q_bring gK hx hs gP ⟨by rw [z1]; exact z2, by rw [z1]; exact z3, z6, by rw [z1]; exact z5⟩ (fun LN' E' x1 x2 x3 x4 x5 x6 x7 x8 x9 x10 => ?_)⟩
    rw [w32_up (by omega)]
    refine q_clr_in h hs t0 t1 hN10 h29 hQ k (n + 1) LN' _ E' (by omega) ?_ (fun q u hq => ((u2_k (by omega)).trans ((u2_k (by omega)).trans ((u2_k (by omega)).trans (u2_k (by omega))))).trans (hk q u hq)) ⟨((u2_v (by omega)).trans ((u2_v (by omega)).trans ((u2_k (by decide)).trans (u2_k (by decide))))).trans hr.1, hr.2.1, by rw [x1 _ (by omega)]; exact hr.2.2.1, fun p p0 p1 => (x5 _ (by omega) p).trans (hr.2.2.2 p p0 p1)⟩
    rw [show (N : Int) - ((n + 1 : Nat) : Int) = (N : Int) - (n : Int) - 1 by omega]
    refine RepV.mono (comes_rep (B := soB (vB B v) e kk t s) (E := E) hV rfl hx hs hm hX h60 ny nu (fun q u hq => sv_c ((u2_k (by omega)).trans ((u2_k (by omega)).trans ((u2_k (by omega)).trans (u2_k (by omega)))))) ⟨(sv (by decide)).trans ((u2_k (by decide)).trans ((u2_k (by decide)).trans u2_s)), fun u hu => sv_c ((u2_k (by decide)).trans ((u2_k (by decide)).trans ((u2_v hu).trans (u2_k (by decide)))))⟩ ⟨(sv (by decide)).trans ((u2_k (by decide)).trans ((u2_k (by decide)).trans ((u2_k (by decide)).trans u2_s))), fun u hu => sv_c ((u2_k (by decide)).trans ((u2_k (by decide)).trans ((u2_k (by decide)).trans (u2_v hu))))⟩
      ⟨by rw [sv (by decide), sv (by decide)]; exact (u2_v (by omega)).trans u2_s, by rw [sv (by decide), sv (by decide)]; exact u2_s, fun u hu => sv_c ((u2_v hu.2).trans ((u2_v hu.1).trans ((u2_k (by decide)).trans (u2_k (by decide)))))⟩ x1 (by rw [sv (by decide)]; exact x2) (by rw [sv (by decide)]; exact x3) (by rw [sv (by decide)]; exact x4) x5 x6 (by rw [sv (by decide)]; exact x7) (by rw [sv (by decide)]; exact x8) (by rw [sv (by decide)]; exact x9) (by rw [sv (by decide)]; exact x10)) Xof_up
set_option maxHeartbeats 2000000 in
theorem s_clr {b : Int} (hb : 0 ≤ b ∧ b < 16) : ∀ (k n : Nat) (cnt : Int) (A : Il), n + k = 6 → (∃ (LN : Nat → Nat) (B : Fl) (E : El), Rep c LN B E A) → b < A 6 0 → pz A ≤ 1022 → ∃ (ans : Int) (A' : Il), pz A' = pz A ∧ A' 0 0 = A 0 0 ∧ (∀ Q, Q ans A' → W_X9_clear_69 (k + 1) b cnt (n : Int) A Q) ∧ ∀ (LN : Nat → Nat) (B : Fl) (E : El) (Q : Int → (Nat → Nat) → Fl → El → Prop) (QX : String → (Nat → Nat) → Fl → El → Prop), Rep c LN (vB B (100 + b.toNat)) E A → (∀ (LN' : Nat → Nat) (B' : Fl) (E' : El), Rep c LN' (vB B' (100 + b.toNat)) E' A' → Q ans LN' (vB B' (100 + b.toNat)) E') → W_X8_clear_30 c (k + 1) 0 b (100 + b.toNat) cnt (n : Int) LN B E Q QX
  | 0, n, cnt, A, e, hG, h6, hp => by
    have l2 : ((ln 2 : Nat) : Int) = 6 := rfl
    refine ⟨cnt, A, rfl, rfl, fun Q hQ => br_T (by omega) hQ, fun LN B E Q QX hR hQ => ⟨rfl, rfl, br_T (by omega) ⟨kd8 (by omega) (by have := hR.2.2.1.1; omega) hR.2.2.1.1.2.2, hQ LN B E hR⟩⟩⟩
  | k + 1, n, cnt, A, e, hG, h6, hp => by
    have l2 : ((ln 2 : Nat) : Int) = 6 := rfl
    have hkt := kdtr (c := c) (v := 40 + (n : Int).toNat) (by omega) (by omega)
    obtain ⟨LNg, Bg, Eg, hRg⟩ := id hG
    have gTg := hRg.2.2.2.2.2.2.2.2.2.2.2.2.2.2.2.2.1
    by_cases go : A 36 (n : Int) = 1 ∧ A 39 (n : Int) = 3 ∧ A 41 (n : Int) = b
    · obtain ⟨g1, g2, g3⟩ := go
      obtain ⟨⟨b1, b2, b3⟩, b4, -⟩ := hRg.2.2.1
      obtain ⟨-, -, s0, s1, -⟩ := b4 b hb.1 h6
      obtain ⟨y1, y2, y3, y4, y5, y6, y7, y8, y9, y10, y11, y12, y13, y14, y15, y16, y17, y18, y19, y20, y21, y22, y23, -⟩ := (gTg (n : Int) (by omega) (by omega)).2.2.2.2 g1
      clear y13 y16 y17 y20 y21
      have e19 := hRg.2.2.2.2.2.1.1
      have e23 := hRg.2.2.2.2.2.2.1.1
      have k20 := hRg.2.2.2.2.2.2.2.2.1.1
      have hp60 := hRg.2.2.2.2.2.2.2.2.2.2.2.2.2.2.2.1.1
      obtain ⟨N, hN⟩ := Int.eq_ofNat_of_zero_le y22
      have pe := pz_enA (A := A) (t := (n : Int)) (s := A 7 (2 * b)) (by omega) (by omega) g1
      have hVg := ends_rep hRg (t := (n : Int)) (s := A 7 (2 * b)) (by omega) (by omega) g1 g2 ⟨s0, s1⟩
      have pge : A 60 0 ≤ pz (enA A (n : Int) (A 7 (2 * b))) := by
        have z := hVg.2.2.2.2.2.2.2.2.2.2.2.2.2.2.2.2.1
        exact pz_ge z
      obtain ⟨-, ru2⟩ := ((hRg.2.2.2.2.2.2.2.2.2.2.2.2.2.1) (n : Int) (by omega) (by omega)).2 g1
      have a36 : enA A (n : Int) (A 7 (2 * b)) 36 (n : Int) = 0 := (ui_k (by decide)).trans ((ui_k (by decide)).trans ((ui_k (by decide)).trans ((ui_k (by decide)).trans ui_s)))
      have hC : Crw (enA A (n : Int) (A 7 (2 * b))) (n : Int) N := ⟨fun p p0 p1 => ⟨(ru2 p p0 (by omega)).1, (ru2 p p0 (by omega)).2.1, (ru2 p p0 (by omega)).2.2.1⟩, fun p q p0 p1 q0 q1 w => (ru2 q q0 (by omega)).2.2.2 p p0 (by omega) w, a36, by omega, by show A 60 0 + (N : Int) ≤ 1024; omega⟩
      have hV0 : ∀ {LN : Nat → Nat} {B : Fl} {E : El}, RepV (fun x => ∃ p : Int, 0 ≤ p ∧ p < A 44 (n : Int) ∧ A 43 (10 * (n : Int) + p) = x) (A 44 (n : Int)) c LN B E (enA A (n : Int) (A 7 (2 * b))) → RepV (Xof (enA A (n : Int) (A 7 (2 * b))) (n : Int) N 0) (N : Int) c LN B E (enA A (n : Int) (A 7 (2 * b))) := fun hV => by
        rw [hN] at hV
        exact hV
      have good := cmk_good (c := c) (s := A 7 (2 * b)) hC ⟨s0, s1⟩ ⟨_, _, _, hV0 hVg⟩
      have emp : ∀ x, ¬ Xof (enA A (n : Int) (A 7 (2 * b))) (n : Int) N (N : Int) x := fun x w => by
        obtain ⟨p, p0, p1, -⟩ := w
        omega
      obtain ⟨LN2, B2, E2, hV2⟩ := good N (Nat.le_refl _)
      have f6 : cmk (enA A (n : Int) (A 7 (2 * b))) (n : Int) (A 7 (2 * b)) N 6 0 = A 6 0 := (cmk_o (by decide) N 0).trans rfl
      have f0 : cmk (enA A (n : Int) (A 7 (2 * b))) (n : Int) (A 7 (2 * b)) N 0 0 = A 0 0 := (cmk_o (by decide) N 0).trans rfl
      have fp : pz (cmk (enA A (n : Int) (A 7 (2 * b))) (n : Int) (A 7 (2 * b)) N) = pz A := by
        rw [pz_cmk]
        omega
      obtain ⟨ans, A', i1, i2, i3, i4⟩ := s_clr hb k (n + 1) (w32 (cnt + 1)) _ (by omega) ⟨LN2, B2, E2, hV2.r emp (by omega)⟩ (by rw [f6]; exact h6) (by rw [fp]; exact hp)
      refine ⟨ans, A', i1.trans fp, i2.trans f0, fun Q hQ => ?_, fun LN B E Q QX hR hQ => ?_⟩
      · have e2 : w32 (2 * b) = 2 * b := w32_id (by unfold rg; omega)
        refine br_F (by omega) ⟨by omega, by omega, br_F (by omega) ⟨by omega, by omega, bn_T g2 ⟨by omega, by omega, bn_T g3 ?_⟩⟩⟩
        rw [e2]
        refine ⟨by omega, by omega, m_ends (by omega) (by omega) ⟨y5, by omega⟩ ⟨y9, by omega⟩ ⟨N + 1, ?_⟩⟩
        have w := m_clr_in (c := c) (A := enA A (n : Int) (A 7 (2 * b))) (b := b) (cnt := cnt) (k69 := fun y0 y1 y2 A' => W_X9_clear_69 (k + 1) y0 y1 y2 A' Q) (Q := Q) hC ⟨s0, s1⟩ (by omega) (by omega) hb rfl hN (by omega) (by show A 29 0 ≤ 20; omega) hp60 ⟨_, _, _, hV0 hVg⟩ (by rw [w32_up (by omega)]; exact i3 Q hQ) N 0 (Nat.zero_add _)
        exact w
      · have gT := hR.2.2.2.2.2.2.2.2.2.2.2.2.2.2.2.2.1
        obtain ⟨z1, z2, z3, z4, z5, z6, z7, z8, z9, z10, z11, z12, z13, z14, z15, z16, -⟩ := (gT (n : Int) (by omega) (by omega)).2.2.2.2 g1
        have f801 : B 801 (40 + (n : Int).toNat) = 3 := by
          have w : vB B (100 + b.toNat) 801 (40 + (n : Int).toNat) = B 801 (40 + (n : Int).toNat) := (u2_k (by decide)).trans (u2_k (by decide))
          rw [← w, z1]
          exact g2
        have f806 : B 806 (40 + (n : Int).toNat) = b := by
          have w : vB B (100 + b.toNat) 806 (40 + (n : Int).toNat) = B 806 (40 + (n : Int).toNat) := (u2_k (by decide)).trans (u2_k (by decide))
          rw [← w, z16]
          exact g3
        have f802 : B 802 (40 + (n : Int).toNat) = A 37 (n : Int) := by
          have w : vB B (100 + b.toNat) 802 (40 + (n : Int).toNat) = B 802 (40 + (n : Int).toNat) := (u2_k (by decide)).trans (u2_k (by decide))
          rw [← w, z4]
        have f803 : B 803 (40 + (n : Int).toNat) = A 38 (n : Int) := by
          have w : vB B (100 + b.toNat) 803 (40 + (n : Int).toNat) = B 803 (40 + (n : Int).toNat) := (u2_k (by decide)).trans (u2_k (by decide))
          rw [← w, z8]
        have f200 : B 200 (100 + b.toNat) = A 7 (2 * b) := by
          have w : vB B (100 + b.toNat) 200 (100 + b.toNat) = B 200 (100 + b.toNat) := (u2_k (by decide)).trans (u2_k (by decide))
          rw [← w]
          exact (hR.2.2.1.2.1 b hb.1 h6).1
        have hkb := kd8 (c := c) (v := 100 + b.toNat) (by omega) (by omega) b3
        have gE0 : RepE c B A := hR.2.2.2.2.2.1.fr (fun q u hq => ((u2_k (by omega)).trans (u2_k (by omega))).symm) (fun _ _ _ => rfl)
        have gC0 : RepC c B A := hR.2.2.2.2.2.2.1.fr (fun q u hq => ((u2_k (by omega)).trans (u2_k (by omega))).symm) (fun _ _ _ => rfl)
        obtain ⟨ru, -⟩ := ((hR.2.2.2.2.2.2.2.2.2.2.2.2.2.1) (n : Int) (by omega) (by omega)).2 g1
        have ru' : rowR LN B E (50 + (n : Int).toNat) (N : Int) (fun p => enA A (n : Int) (A 7 (2 * b)) 43 (10 * (n : Int) + p)) := ⟨by rw [← hN]; exact ((u2_k (by decide)).trans (u2_k (by decide))).symm.trans ru.1, by omega, by rw [← hN]; exact ru.2.2.1, fun p p0 p1 => ru.2.2.2 p p0 (by omega)⟩
        have hV1 := hV0 (ends_rep hR (t := (n : Int)) (s := A 7 (2 * b)) (by omega) (by omega) g1 g2 ⟨s0, s1⟩)
        refine ⟨rfl, rfl, br_F (by omega) ⟨by omega, by omega, hkt, bn_T f801 (bn_T f806 ⟨hkb, ?_⟩)⟩⟩
        rw [f200]
        refine ⟨N + 1, q_clr_in (v := 100 + b.toNat) (e := A 37 (n : Int)) (kk := A 38 (n : Int)) (B0 := B) hC ⟨s0, s1⟩ (by omega) (by omega) (by omega) (by show A 29 0 ≤ 20; omega) (fun LN8 B12 E13 hV8 hk8 => ?_) N 0 LN B E (Nat.zero_add _) ?_ (fun _ _ _ => rfl) ru'⟩
        · refine ⟨hkb, rfl, hkt, rfl, ?_⟩
          rw [hk8 200 _ (by decide), f200, hk8 802 _ (by decide), f802]
          have gE1 : RepE c B12 A := gE0.fr (fun q u hq => hk8 q u (by omega)) (fun _ _ _ => rfl)
          refine q_engineOf1 gE1 ⟨y5, y6⟩ ⟨kd9 (by omega) (by omega) e19.2.2, ?_⟩
          have gC1 : RepC c (u2 (u2 B12 502 (120 + (A 37 (n : Int)).toNat) (-1)) 501 (120 + (A 37 (n : Int)).toNat) (A 7 (2 * b))) A := gC0.fr (fun q u hq => (u2_k (by omega)).trans ((u2_k (by omega)).trans (hk8 q u (by omega)))) (fun _ _ _ => rfl)
          rw [show u2 (u2 B12 502 (120 + (A 37 (n : Int)).toNat) (-1)) 501 (120 + (A 37 (n : Int)).toNat) (A 7 (2 * b)) 803 (40 + (n : Int).toNat) = A 38 (n : Int) from (u2_k (by decide)).trans ((u2_k (by decide)).trans ((hk8 803 _ (by decide)).trans f803))]
          refine q_crewOf1 gC1 ⟨y9, y10⟩ ⟨kd10 (by omega) (by omega) e23.2.2, ?_⟩
          show W_X8_clear_30 c (k + 1) 0 b (100 + b.toNat) (w32 (cnt + 1)) (w32 ((n : Int) + 1)) LN8 (soB B12 (A 37 (n : Int)) (A 38 (n : Int)) (n : Int) (A 7 (2 * b))) E13 Q QX
          rw [w32_up (by omega)]
          refine i4 LN8 _ E13 Q QX ?_ hQ
          rw [vs]
          exact hV8.r emp rfl
        · show RepV (Xof (enA A (n : Int) (A 7 (2 * b))) (n : Int) N ((0 : Nat) : Int)) ((N : Int) - ((0 : Nat) : Int)) c LN _ E _
          rw [show (N : Int) - ((0 : Nat) : Int) = (N : Int) by omega]
          exact hV1
    · obtain ⟨ans, A', i1, i2, i3, i4⟩ := s_clr hb k (n + 1) cnt A (by omega) hG h6 hp
      refine ⟨ans, A', i1, i2, fun Q hQ => ?_, fun LN B E Q QX hR hQ => ?_⟩
      · have F : W_X9_clear_164 (fun y0 y1 y2 A' => W_X9_clear_69 (k + 1) y0 y1 y2 A' Q) b cnt (n : Int) A Q := by
          show W_X9_clear_69 (k + 1) b cnt (w32 ((n : Int) + 1)) A Q
          rw [w32_up (by omega)]
          exact i3 Q hQ
        refine br_F (by omega) ⟨by omega, by omega, fun _ => F, fun c1 => ⟨by omega, by omega, fun _ => F, fun c2 => ⟨by omega, by omega, fun _ => F, fun c3 => ?_⟩⟩⟩
        exact absurd ⟨((gTg.is (x := (n : Int)) (by omega) (by omega)).2 c1).1, c2, c3⟩ go
      · have gT := hR.2.2.2.2.2.2.2.2.2.2.2.2.2.2.2.2.1
        have F : W_X8_clear_90 c (fun y0 y1 y2 y3 y4 LN' B' E' => W_X8_clear_30 c (k + 1) y0 y1 y2 y3 y4 LN' B' E' Q QX) 0 b (100 + b.toNat) cnt (n : Int) LN B E Q QX := by
          show W_X8_clear_30 c (k + 1) 0 b (100 + b.toNat) cnt (w32 ((n : Int) + 1)) LN B E Q QX
          rw [w32_up (by omega)]
          exact i4 LN B E Q QX hR hQ
        have w801 : vB B (100 + b.toNat) 801 (40 + (n : Int).toNat) = B 801 (40 + (n : Int).toNat) := (u2_k (by decide)).trans (u2_k (by decide))
        have w806 : vB B (100 + b.toNat) 806 (40 + (n : Int).toNat) = B 806 (40 + (n : Int).toNat) := (u2_k (by decide)).trans (u2_k (by decide))
        refine ⟨rfl, rfl, br_F (by omega) ⟨by omega, by omega, hkt, fun _ => F, fun c2 => ⟨fun _ => F, fun c3 => ?_⟩⟩⟩
        rw [← w801] at c2
        rw [← w806] at c3
        by_cases c1 : A 36 (n : Int) = 0
        · have := (gT.is (x := (n : Int)) (by omega) (by omega)).1 c1
          rw [this] at c2
          exact absurd c2 (by decide)
        · obtain ⟨w1, w2, -⟩ := (gT.is (x := (n : Int)) (by omega) (by omega)).2 c1
          obtain ⟨z1, z2, z3, z4, z5, z6, z7, z8, z9, z10, z11, z12, z13, z14, z15, z16, -⟩ := (gT (n : Int) (by omega) (by omega)).2.2.2.2 w1
          exact absurd ⟨w1, w2.symm.trans c2, z16.symm.trans c3⟩ go
theorem opn_rep {b : Int} (hR : Rep c LN B E A) (hb : 0 ≤ b ∧ b < A 6 0) : Rep c LN (vB B (100 + b.toNat)) E (ui (ui A 12 b 0) 11 b 0) := by
  obtain ⟨gG, gS, gB, g0, gH, gE, gC, gN, gK, gL, gR, gD, gY, gU, gW, gP, gT, gX, gZ⟩ := id hR
  obtain ⟨⟨b1, b2, b3⟩, b4, b5, b6, b7, b8, b9, b10, b11, b12, b13, b14⟩ := id gB
  have hB : ∀ q v, (q ≠ 210 ∧ q ≠ 209) → vB B (100 + b.toNat) q v = B q v := fun q v h => (u2_k (by omega)).trans (u2_k (by omega))
  have hA : ∀ a j, (a ≠ 12 ∧ a ≠ 11) → ui (ui A 12 b 0) 11 b 0 a j = A a j := fun a j h => (ui_k (by omega)).trans (ui_k (by omega))
  have a12 : ui (ui A 12 b 0) 11 b 0 12 b = 0 ∧ ∀ j, j ≠ b → ui (ui A 12 b 0) 11 b 0 12 j = A 12 j := ⟨(ui_k (by decide)).trans ui_s, fun j h => (ui_k (by decide)).trans (ui_j h)⟩
  have a11 : ui (ui A 12 b 0) 11 b 0 11 b = 0 ∧ ∀ j, j ≠ b → ui (ui A 12 b 0) 11 b 0 11 j = A 11 j := ⟨ui_s, fun j h => (ui_j h).trans (ui_k (by decide))⟩
  refine ⟨gG.fr (fun k v h => hB k v (by omega)) (fun a j h => hA a j (by omega)), gS.fr (fun k v h => hB k v (by omega)) (fun a j h => hA a j (by omega)), ?_, ?_, gH.fr (fun k v h => hB k v (by omega)) (fun a j h => hA a j (by omega)), gE.fr (fun k v h => hB k v (by omega)) (fun a j h => hA a j (by omega)), gC.fr (fun k v h => hB k v (by omega)) (fun a j h => hA a j (by omega)), gN.fr (fun k v h => hB k v (by omega)) (fun a j h => hA a j (by omega)), gK.fr (fun k v h => hB k v (by omega)) (fun a j h => hA a j (by omega)), gL.fr (fun k v h => hB k v (by omega)) (fun a j h => hA a j (by omega)), gR.fr (fun _ => rfl) (fun _ => rfl) (fun a j h => hA a j (by omega)), gD.fr (fun k v h => hB k v (by omega)) (fun _ _ => rfl) (fun a j h => hA a j (by omega)), gY.fr (fun k v h => hB k v (by omega)) (fun _ _ => rfl) (fun a j h => hA a j (by omega)), gU.fr (fun k v h => hB k v (by omega)) (fun _ _ => rfl) (fun a j h => hA a j (by omega)), gW.fr (fun a j h => hA a j (by omega)), gP.fr (fun k v h => hB k v (by omega)) (fun _ _ => rfl) (fun a j h => hA a j (by omega)), gT.fr (fun k v h => hB k v (by omega)) (fun _ _ => rfl) (fun _ _ => rfl) (fun a j h => hA a j (by omega)), gX.fr (fun a j h => hA a j (by omega)), gZ.fr (fun a j h => hA a j (by omega))⟩
  · refine ⟨⟨b1, b2, b3⟩, b4, b5, b6, b7, b8, b9, b10, b11, b12.put hb.1 ⟨u2_s, fun v h => (u2_v h).trans (u2_k (by decide))⟩ a11, b13.put hb.1 ⟨(u2_k (by decide)).trans u2_s, fun v h => (u2_k (by decide)).trans (u2_v h)⟩ a12, fun j j0 j1 => ?_⟩
    obtain ⟨w1, w2, w3, w4⟩ := b14 j j0 j1
    refine ⟨w1, w2, ?_, w4⟩
    by_cases ej : j = b
    · rw [ej, a12.1]; exact Or.inl rfl
    · rw [a12.2 j ej]; exact w3
  · intro j j0 j1
    have j0 : A 6 0 ≤ j := j0
    obtain ⟨w1, w2, w3, w4⟩ := g0 j j0 j1
    refine ⟨w1, ?_, ?_, w4⟩
    · rw [a11.2 j (by omega)]; exact w2
    · rw [a12.2 j (by omega)]; exact w3
theorem sim_clear {a0 : Int} (hR : Rep c LN B E A) (hp : pz A ≤ 1022) (hr0 : rg a0) : ∃ (ans : Int) (A' : Il), (∀ Q, Q ans A' → W_X9_clear a0 A Q) ∧ pz A' ≤ pz A + 2 ∧ W_X8_clear c  0 a0 LN B E (fun z LN' B' E' => A' 0 0 = 0 ∧ z = ans ∧ Rep c LN' B' E' A') (fun X9 LN' B' E' => ((X9 = "java/lang/IndexOutOfBoundsException" ∧ A' 0 0 = 1) ∨ (X9 = "java/lang/IllegalStateException" ∧ A' 0 0 = 2)) ∧ Rep c LN' B' E' A') := by
  have gB := hR.2.2.1
  obtain ⟨⟨b1, b2, b3⟩, b4, b5, b6, b7, b8, b9, b10, b11, b12, b13, b14⟩ := id gB
  have h6 : 0 ≤ A 6 0 ∧ A 6 0 ≤ 16 := by omega
  by_cases hb : 0 ≤ a0 ∧ a0 < A 6 0
  · have hk := kd8 (c := c) (v := 100 + a0.toNat) (by omega) (by omega) b3
    have f210 := b13 a0 hb.1 hb.2
    by_cases hw : A 12 a0 = 0
    · refine ⟨0, sc A 0 2, fun Q hQ => m_isBlock1 h6 hb (bn_F (by decide) ⟨hb.1, by omega, bn_T hw (by unfold W_X9_clear_27; exact br_F no2 hQ)⟩), pz_thr, rfl, q_blockOf1 gB hb ⟨hk, ?_⟩⟩
      rw [f210, hw]
      exact q_state0 ⟨Or.inr ⟨rfl, rfl⟩, hR.thr⟩
    · have h12 : A 12 a0 = 1 := by
        have := (b14 a0 hb.1 hb.2).2.2.1
        omega
      have hR1 : Rep c LN (u2 B 913 0 (w32 (B 913 0 - 500))) E (sc (sc A 0 0) 2 (w32 (A 2 0 - 500))) := by
        have w := cash1_rep (z := w32 (A 2 0 - 500)) (hR.thr (z := 0)) (rg_w32 _)
        rw [hR.1.2.1]
        exact w
      have hR2 := opn_rep hR1 hb
      obtain ⟨ans, A', i1, i2, i3, i4⟩ := s_clr (c := c) (b := a0) ⟨hb.1, by omega⟩ 6 0 0 (ui (ui (sc (sc A 0 0) 2 (w32 (A 2 0 - 500))) 12 a0 0) 11 a0 0) rfl ⟨_, _, _, hR2⟩ hb.2 hp
      have z0 : A' 0 0 = 0 := i2
      refine ⟨ans, A', fun Q hQ => m_isBlock1 h6 hb (bn_F (by decide) ⟨hb.1, by omega, bn_F hw ?_⟩), ?_, rfl, q_blockOf1 gB hb ⟨hk, ?_⟩⟩
      · unfold W_X9_clear_27
        exact br_T le0 ⟨hb.1, by omega, hb.1, by omega, 7, i3 Q hQ⟩
      · have w : pz A' = pz A := i1
        omega
      · rw [f210, h12]
        exact q_state1 ⟨7, i4 LN _ E _ _ hR2 (fun LN' B' E' h => ⟨z0, rfl, h⟩)⟩
  · exact ⟨0, sc A 0 1, fun Q hQ => m_isBlock0 h6 hb (bn_T rfl (by unfold W_X9_clear_27; exact br_F no1 hQ)), pz_thr, rfl, q_blockOf0 gB hb ⟨Or.inl ⟨rfl, rfl⟩, hR.thr⟩⟩
end ClrS
