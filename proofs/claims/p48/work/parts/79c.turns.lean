/-! fifty turns -/
section Turns
variable {m : Nat} {G : Gp} {x : Nat} {la : Nat → Nat} {A : Il} {S : Shp} {F : Fl} {I : Il} {Q : Int → Shp → Fl → Il → Prop}
theorem l_cell {i : Int} {Q : Int → Prop} (hi : 0 ≤ i) (h : ∀ z, Q z) : V_L_cell G i S F I Q := by
  refine ⟨fun _ => h _, fun c => ⟨hi, by omega, h _⟩⟩
theorem l_turns (hQ : ∀ S F I, Q 1 S F I) : ∀ (k j : Nat) (A : Il) (S : Shp) (F : Fl) (I : Il), j + k = 50 → VP (8 * k + 8) G x la A S F I → LR (lA la I) A → A 1 0 ≤ 300 * (j : Int) → V_L_law_551 G (k + 1) x (la 1) (la 2) (la 0) (la 3) 1 (j : Int) S F I Q
  | 0, j, A, S, F, I, e, hP, hL, hc => br_T (by omega) ⟨Or.inr rfl, hQ S F I⟩
  | k + 1, j, A, S, F, I, e, hP, hL, hc => by
    have hS := hP.ls
    have n2 := hS.n2
    have n3 := hS.n3
    obtain ⟨cc, LN, B, E, hR⟩ := hP.rep
    have gT := hR.2.2.2.2.2.2.2.2.2.2.2.2.2.2.2.2.1
    have hF : Fin (8 * k + 8) G x la (j : Int) (A 1 0 + 300) (fun y0 y1 y2 y3 y4 y5 y6 S' F' I' => V_L_law_551 G (k + 1) y0 y1 y2 y3 y4 y5 y6 S' F' I' Q) Q := fun A' S' F' I' a b c => by
      refine br_F (by decide) (l_shows a b (br_F (by decide) ?_))
      show V_L_law_551 G (k + 1) x (la 1) (la 2) (la 0) (la 3) 1 (w32 ((j : Int) + 1)) S' F' I' Q
      rw [w32_up (by omega)]
      exact l_turns hQ k (j + 1) A' S' F' I' (by omega) a b (by omega)
    refine br_F (by omega) (br_F (by decide) (l_cell (by rw [w32_id (by unfold rg; omega)]; omega) (fun z1 => pick _ _ (by decide) (fun z2 _ _ => pick _ _ (by decide) (fun n n0 n1 => fun v4 hv4 => pick _ _ (by decide) (fun b b0 b1 => ?_) (by decide)) (by decide)) (by decide))))
    rw [w32_id (by unfold rg; omega)] at hv4
    subst hv4
    have hP1 : VP (8 * k + 8 + 1) G x la A S F I := hP.less (by omega)
    have hP8 : VP (8 * k + 8 + 8) G x la A S F I := hP.less (by omega)
    have act := t_663 hP1 hL (by omega) ⟨n0, n1⟩ ⟨b0, b1⟩ hF z1 z2
    have e3 := ix (i := 3) n0 n1 (by decide) (by decide)
    have r36 : I (la 2) (16 * n) = A 36 n := (hL.2.2.2.2.1 n n0 n1).1
    have r3 : A 36 n = 1 → I (la 2) (16 * n + 3) = A 39 n := fun w => ((hL.2.2.2.2.1 n n0 n1).2 w).2.2.1
    have q3 : I (la 3) 3 = A 52 0 := hL.1.2.2.2
    refine ⟨fun _ => act, fun _ => ⟨hS.k (by decide), by omega, by omega, fun _ => act, fun c1 => ?_⟩⟩
    rw [r36] at c1
    have c39 : 0 ≤ A 39 n := ((gT n n0 (by omega)).2.2.2.2 c1).2.1
    rw [e3, r3 c1, q3]
    exact ⟨by omega, by omega, fun _ => act, fun c2 => ⟨hS.k (by decide), by decide, by omega, fun _ => act, fun c3 => t_plan hP8 hL ⟨n0, n1⟩ c1 (by omega) c3 (by omega) (fun A' S' F' I' a b c => hF A' S' F' I' a b (by omega))⟩⟩
end Turns
