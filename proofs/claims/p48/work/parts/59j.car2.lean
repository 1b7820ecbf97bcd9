/-! the makers: the car, its pieces -/
section Car2
variable {Y : Yt} {it LN : Nat → Nat} {S : Shp} {F : Fl} {I : Il} {A : Il}
theorem v_stationOf {x : Int} {Q : Nat → Prop} {QX : String → Shp → Fl → Il → Prop} (hC : Cg Y it LN S) (h1 : 0 ≤ x ∧ x < 8 → Q (yg Y (20 + x.toNat))) (h0 : ¬ (0 ≤ x ∧ x < 8) → QX "java/lang/IndexOutOfBoundsException" (thr S) F I) : V_X8_stationOf (yg Y 0) x S F I Q QX := by
  have h9 := Cg.sa hC
  have h6 := Cg.sb hC
  have n := Cg.n hC (v := 1) (k := 23) rfl
  unfold V_X8_stationOf V_X8_requireIndex V_X8_requireIndex_9
  refine ⟨Cg.k hC rfl (by decide), _, Cg.r900 hC rfl, Cg.k hC rfl (by decide), by rw [n]; exact ln_le _, ?_⟩
  rw [n]
  have e : ((ln 1 : Nat) : Int) = 8 := rfl
  rw [e]
  exact ⟨fun c => ⟨h9, h6, h0 (by omega)⟩, fun c => ⟨fun c2 => ⟨by omega, c2, _, Cg.a1 hC (by omega) (by rw [e]; exact c2), h1 (by omega)⟩, fun c2 => ⟨h9, h6, h0 (by omega)⟩⟩⟩
theorem cms_pre {x s : Int} : cms (ui (ui A 31 x s) 32 x (-1)) x s = cms A x s := by
  have e : ui (ui (ui (ui A 31 x s) 32 x (-1)) 32 x (-1)) 31 x s = ui (ui A 32 x (-1)) 31 x s := by
    funext k j
    unfold ui
    by_cases h1 : k = 31 ∧ j = x
    · rw [if_pos h1, if_pos h1]
    · rw [if_neg h1, if_neg h1]
      by_cases h2 : k = 32 ∧ j = x
      · simp only [if_pos h2, if_neg h1]
      · simp only [if_neg h2, if_neg h1]
  unfold cms
  show sc (ui (ui (ui (ui (ui (ui (ui (ui A 31 x s) 32 x (-1)) 32 x (-1)) 31 x s) 34 (20 * s + A 35 s) x) 35 s (A 35 s + 1)) 61 (A 60 0) x) 62 (A 60 0) s) 60 (A 60 0 + 1) = _
  rw [e]
def A1c (A : Il) (s : Int) : Il := sc (ui (ui (sc (sc A 0 0) 29 (A 29 0 + 1)) 30 (A 29 0) s) 33 (A 29 0) (-1)) 2 (w32 (A 2 0 - 50))
theorem m_car {s : Int} {Q : Int → Il → Prop} (hN : 0 ≤ A 29 0 ∧ A 29 0 < 20) (hs : 0 ≤ s ∧ s < 8) (h35 : 0 ≤ A 35 s ∧ A 35 s < 20) (h60 : 0 ≤ A 60 0 ∧ A 60 0 < 3999) (h : Q (A 29 0) (cms (A1c A s) (A 29 0) s)) : W_X9_car s A Q := by
  refine m_isStation1 hs (bn_F (by decide) (bn_F (by omega) ?_))
  have e1 : w32 (A 29 0 + 1) = A 29 0 + 1 := w32_id (by unfold rg; omega)
  unfold W_X9_car_26
  refine br_T le0 ?_
  show 0 ≤ A 29 0 ∧ A 29 0 < 20 ∧ 0 ≤ A 29 0 ∧ A 29 0 < 20 ∧ W_X9_comes (A 29 0) s (sc (ui (ui (sc (sc A 0 0) 29 (w32 (A 29 0 + 1))) 30 (A 29 0) s) 33 (A 29 0) (-1)) 2 (w32 (A 2 0 - 50))) (fun A1 => Q (A 29 0) A1)
  rw [e1]
  exact ⟨hN.1, hN.2, hN.1, hN.2, m_comes (A := A1c A s) hN hs h35 h60 h⟩
theorem pq_new {LN LN' : Nat → Nat} {i0 : Nat} (hi : i0 < 20) (h : ∀ v, v ≠ 160 + i0 → LN' v = LN v) : pq LN' ≤ pq LN + 1024 := by
  have e1 := (sm_upd (f := fun i => 1024 - LN (160 + i)) (f' := fun i => 1024 - LN' (160 + i)) (i0 := i0) (fun i hi => by
    show 1024 - LN' (160 + i) = 1024 - LN (160 + i)
    rw [h _ (by omega)]) 20).1 hi
  have e2 := sm_eq (f := fun i => 64 - LN (30 + i)) (f' := fun i => 64 - LN' (30 + i)) 8 (fun i hi => by
    show 64 - LN' (30 + i) = 64 - LN (30 + i)
    rw [h _ (by omega)])
  show sm 20 (fun i => 1024 - LN' (160 + i)) + sm 8 (fun i => 64 - LN' (30 + i)) ≤ sm 20 (fun i => 1024 - LN (160 + i)) + sm 8 (fun i => 64 - LN (30 + i)) + 1024
  rw [e2]
  have e1 : sm 20 (fun i => 1024 - LN' (160 + i)) + (1024 - LN (160 + i0)) = sm 20 (fun i => 1024 - LN (160 + i)) + (1024 - LN' (160 + i0)) := e1
  omega
end Car2
