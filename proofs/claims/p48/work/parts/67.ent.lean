/-! a train enters a block, a train arrives: the reference's rows and the law's -/
section EntP
variable {A L : Il} {t : Int}
theorem ent_o {a : Nat} {j : Int} (h : a ≠ 17 ∧ a ≠ 18 ∧ a ≠ 14 ∧ a ≠ 26 ∧ a ≠ 42 ∧ a ≠ 50 ∧ a ≠ 40 ∧ a ≠ 41 ∧ a ≠ 39 ∧ a ≠ 46) : ent A t a j = A a j :=
  (ui_k (by omega)).trans ((ui_k (by omega)).trans ((ui_k (by omega)).trans ((ui_k (by omega)).trans ((ui_k (by omega)).trans ((ui_k (by omega)).trans ((ui_k (by omega)).trans ((ui_k (by omega)).trans ((ui_k (by omega)).trans (ui_k (by omega))))))))))
theorem ent_17 {j : Int} : ent A t 17 j = if j = nb A t then t else A 17 j := by simp [ent, ui]
theorem ent_18 {j : Int} : ent A t 18 j = if j = nb A t then clm A t (nb A t) else A 18 j := by simp [ent, ui]
theorem ent_14 {j : Int} : ent A t 14 j = if j = nb A t then 0 else A 14 j := by simp [ent, ui]
theorem ent_26 {j : Int} : ent A t 26 j = if j = A 38 t then A 26 (A 38 t) + rnv A t (nb A t) else A 26 j := by simp [ent, ui]
theorem ent_42 {j : Int} : ent A t 42 j = if j = t then A 1 0 + rnv A t (nb A t) else A 42 j := by simp [ent, ui]
theorem ent_50 {j : Int} : ent A t 50 j = if j = t then (if A 51 t = A 40 t then -1 else A 50 t) else A 50 j := by simp [ent, ui]
theorem ent_40 {j : Int} : ent A t 40 j = if j = t then oth A (nb A t) (A 40 t) else A 40 j := by simp [ent, ui]
theorem ent_41 {j : Int} : ent A t 41 j = if j = t then nb A t else A 41 j := by simp [ent, ui]
theorem ent_39 {j : Int} : ent A t 39 j = if j = t then 2 else A 39 j := by simp [ent, ui]
theorem ent_46 {j : Int} : ent A t 46 j = if j = t then A 46 t + 1 else A 46 j := by simp [ent, ui]
/-- the same in the law's rows: n enters b, gone over at U; from when it waits, where it comes, when; the way's place; duty -/
def entL (L : Il) (n b U w o m p d : Int) : Il := ui (ui (ui (ui (ui (ui (ui (ui (ui (ui (ui L 1 (28 + b) n) 1 (32 + b) U) 1 (16 + b) 0) 2 (16 * n + 11) w) 2 (16 * n + 3) 2) 2 (16 * n + 4) o) 2 (16 * n + 5) b) 2 (16 * n + 6) m) 2 (16 * n + 7) p) 2 (16 * n + 13) d) 3 2 (w32 (L 3 2 + 1))
section EL
variable {n b U w o m p d : Int}
theorem entL_0 {j : Int} : entL L n b U w o m p d 0 j = L 0 j := by simp [entL, ui]
theorem entL_1 {j : Int} : entL L n b U w o m p d 1 j = if j = 16 + b then 0 else if j = 32 + b then U else if j = 28 + b then n else L 1 j := by simp [entL, ui]
theorem entL_2 {j : Int} : entL L n b U w o m p d 2 j = if j = 16 * n + 13 then d else if j = 16 * n + 7 then p else if j = 16 * n + 6 then m else if j = 16 * n + 5 then b else if j = 16 * n + 4 then o else if j = 16 * n + 3 then 2 else if j = 16 * n + 11 then w else L 2 j := by simp [entL, ui]
theorem entL_3 {j : Int} : entL L n b U w o m p d 3 j = if j = 2 then w32 (L 3 2 + 1) else L 3 j := by simp [entL, ui]
end EL
theorem ent_LR {c LN : Nat → Nat} {B : Fl} {E : El} (hL : LR L A) (hR : Rep c LN B E A) (h0 : 0 ≤ t) (h1 : t < 3) (h36 : A 36 t = 1) (h39 : A 39 t = 1) : LR (entL L t (nb A t) (clm A t (nb A t)) (if A 51 t = A 40 t then -1 else A 50 t) (oth A (nb A t) (A 40 t)) (A 1 0 + rnv A t (nb A t)) (A 46 t + 1) (A 26 t + rnv A t (nb A t))) (ent A t) := by
  have hr := hR.rdy h0 (by omega) h36 h39
  obtain ⟨⟨r1, r2, r3, r4⟩, ⟨r5, r6, r7⟩, ⟨r8, r9, r10⟩, ⟨r11, r12⟩, -⟩ := id hr
  have h47 := hR.w47
  obtain ⟨hg, hs, ⟨hb0, hb⟩, ⟨hc0, hc1, hc⟩, ht, ht6⟩ := hL
  obtain ⟨-, t36⟩ := ht t h0 h1
  have tt := t36 h36
  obtain ⟨b1, b2, -⟩ := hb (nb A t) r5 (by omega)
  have ho : oth A (nb A t) (A 40 t) < 4 := by
    unfold oth
    rw [b1, b2]
    unfold nx
    split
    · split <;> omega
    · split <;> omega
  generalize hU : clm A t (nb A t) = U
  have e18 : ∀ j, ent A t 18 j = if j = nb A t then U else A 18 j := fun j => by rw [ent_18, hU]
  generalize ew : (if A 51 t = A 40 t then -1 else A 50 t) = w
  have e50 : ∀ j, ent A t 50 j = if j = t then w else A 50 j := fun j => by rw [ent_50, ew]
  have lw : w < 3 ∧ (w ≠ -1 → A 50 t ≠ -1) := by
    have := tt.2.2.2.2.2.2.2.2.2.2.2.2.2.2.1
    rw [← ew]
    split <;> omega
  refine ⟨hg.fr ⟨by rw [entL_3]; exact if_neg (by decide), by rw [entL_3]; exact if_neg (by decide), by rw [entL_3]; exact if_neg (by decide)⟩ (fun a h => ent_o (by omega)), hs.fr (fun j hj => by rw [entL_3]; exact if_neg (by omega)) (fun j => ent_o (by decide)), ?_, ?_, ?_, ?_⟩
  · refine ⟨(ent_o (by decide)).trans hb0, fun k k0 k1 => ?_⟩
    obtain ⟨w1, w2, w3, w4, w5, w6, w7, w8, w9, w10, w11, w12, w13⟩ := hb k k0 k1
    rw [ent_o (a := 7) (by decide), ent_o (a := 7) (by decide), ent_o (a := 8) (by decide), ent_o (a := 9) (by decide), ent_o (a := 10) (by decide), ent_o (a := 13) (by decide), ent_o (a := 15) (by decide), ent_o (a := 16) (by decide), ent_o (a := 11) (by decide), ent_o (a := 12) (by decide), ent_14, ent_17, e18]
    simp only [entL_1]
    generalize nb A t = b at *
    refine ⟨w1, w2, ?_, ?_, ?_, ?_, ?_, ?_, ?_, ?_, fun w11' => ?_, ?_, w13⟩ <;> repeat' (first | omega | split)
  · refine ⟨(ent_o (by decide)).trans hc0, (ent_o (by decide)).trans hc1, fun n n0 n1 => ?_⟩
    obtain ⟨w1, w2, w3, w4, w5, w6⟩ := hc n n0 n1
    have e38 := tt.2.1
    rw [ent_o (a := 20) (by decide), ent_o (a := 27) (by decide), ent_26, e38]
    have q15 : ∀ x1 x2 x3 x4 x5 x6 x7 x8 : Int, entL L t x1 x2 x3 x4 x5 x6 x7 2 (16 * n + 15) = L 2 (16 * n + 15) := fun x1 x2 x3 x4 x5 x6 x7 x8 => by
      rw [entL_2]
      repeat' (first | rfl | omega | rw [if_neg (by omega)])
    rw [q15 _ _ _ _ _ _ _ 0]
    refine ⟨?_, w2, ?_, ?_, w5, fun b b0 b1 => by rw [ent_o (a := 28) (by decide)]; exact w6 b b0 b1⟩
    · rw [entL_2]; repeat' (first | omega | split)
    · rw [entL_2]
      by_cases e : n = t
      · rw [if_pos (by omega), if_pos e]
      · rw [if_neg (by omega), if_neg e]
        repeat' (first | omega | split)
    · rw [entL_2]; repeat' (first | omega | split)
  · intro n n0 n1
    obtain ⟨u1, u2⟩ := ht n n0 n1
    rw [ent_o (a := 36) (by decide)]
    refine ⟨by rw [entL_2]; repeat' (first | omega | split), fun c36 => ?_⟩
    by_cases e : n = t
    · subst e
      obtain ⟨w1, w2, w3, w4, w5, w6, w7, w8, w9, w10, w11, w12, w13, w14, w15, w16, w17⟩ := tt
      have w13 := w13 (Or.inl h39)
      unfold LT
      rw [ent_o (a := 37) (by decide), ent_o (a := 38) (by decide), ent_39, ent_40, ent_41, ent_42, ent_o (a := 44) (by decide), ent_46, ent_o (a := 47) (by decide), ent_o (a := 48) (by decide), ent_o (a := 49) (by decide), e50, ent_o (a := 51) (by decide)]
      rw [if_pos rfl, if_pos rfl, if_pos rfl, if_pos rfl, if_pos rfl, if_pos rfl]
      simp only [entL_2, entL_0]
      refine ⟨w1, w2, ?_, by decide, ?_, ho, ?_, fun _ => ?_, ?_, w10, ?_, ?_, fun _ => ⟨?_, ?_⟩, ?_, lw.1, fun h => ?_, fun i i0 i1 => ?_⟩
      · repeat' (first | rfl | omega | split)
      · repeat' (first | rfl | omega | split)
      · repeat' (first | rfl | omega | split)
      · repeat' (first | rfl | omega | split)
      · repeat' (first | rfl | omega | split)
      · repeat' (first | rfl | omega | split)
      · repeat' (first | rfl | omega | split)
      · repeat' (first | rfl | omega | split)
      · repeat' (first | rfl | omega | split)
      · repeat' (first | rfl | omega | split)
      · have := w16 (lw.2 h)
        repeat' (first | rfl | omega | split)
      · rw [ent_o (a := 45) (by decide)]
        exact w17 i i0 i1
    · refine (u2 c36).fr (h47 n n0 n1 c36) (fun i i0 i1 => ?_) (fun i _ _ => entL_0) (fun a a0 a1 a2 a3 => ?_) (fun i _ _ => ent_o (by decide))
      · rw [entL_2]
        repeat' (first | rfl | omega | rw [if_neg (by omega)])
      · by_cases c39 : a = 39
        · subst c39; rw [ent_39, if_neg e]
        by_cases c40 : a = 40
        · subst c40; rw [ent_40, if_neg e]
        by_cases c41 : a = 41
        · subst c41; rw [ent_41, if_neg e]
        by_cases c42 : a = 42
        · subst c42; rw [ent_42, if_neg e]
        by_cases c46 : a = 46
        · subst c46; rw [ent_46, if_neg e]
        by_cases c50 : a = 50
        · subst c50; rw [e50, if_neg e]
        · exact ent_o (by omega)
  · exact fun n n0 n1 => (ent_o (by decide)).trans (ht6 n n0 n1)
theorem arr_o {a : Nat} {j : Int} (h : a ≠ 10 ∧ a ≠ 41 ∧ a ≠ 39) : arr A t a j = A a j := (ui_k (by omega)).trans ((ui_k (by omega)).trans (ui_k (by omega)))
theorem arr_10 {j : Int} : arr A t 10 j = if j = A 41 t then w32 (A 10 (A 41 t) + w32 (1 + A 44 t)) else A 10 j := by simp [arr, ui]
theorem arr_41 {j : Int} : arr A t 41 j = if j = t then -1 else A 41 j := by simp [arr, ui]
theorem arr_39 {j : Int} : arr A t 39 j = if j = t then (if A 47 t ≤ A 46 t then 0 else 1) else A 39 j := by simp [arr, ui]
def arrL (L : Il) (n b v s : Int) : Il := ui (ui (ui L 1 (8 + b) v) 2 (16 * n + 5) (-1)) 2 (16 * n + 3) s
section AL
variable {n b v s : Int}
theorem arrL_0 {j : Int} : arrL L n b v s 0 j = L 0 j := by simp [arrL, ui]
theorem arrL_1 {j : Int} : arrL L n b v s 1 j = if j = 8 + b then v else L 1 j := by simp [arrL, ui]
theorem arrL_2 {j : Int} : arrL L n b v s 2 j = if j = 16 * n + 3 then s else if j = 16 * n + 5 then -1 else L 2 j := by simp [arrL, ui]
theorem arrL_3 {j : Int} : arrL L n b v s 3 j = L 3 j := by simp [arrL, ui]
end AL
theorem arr_LR (hL : LR L A) (h47 : ∀ n : Int, 0 ≤ n → n < 3 → A 36 n = 1 → A 47 n ≤ 8) (h0 : 0 ≤ t) (h1 : t < 3) (h36 : A 36 t = 1) (h39 : A 39 t = 2) (h41 : 0 ≤ A 41 t ∧ A 41 t < 4) : LR (arrL L t (A 41 t) (w32 (A 10 (A 41 t) + w32 (1 + A 44 t))) (if A 47 t ≤ A 46 t then 0 else 1)) (arr A t) := by
  obtain ⟨hg, hs, ⟨hb0, hb⟩, hc, ht, ht6⟩ := hL
  obtain ⟨-, t36⟩ := ht t h0 h1
  have tt := t36 h36
  generalize hv : w32 (A 10 (A 41 t) + w32 (1 + A 44 t)) = v
  have e10 : ∀ j, arr A t 10 j = if j = A 41 t then v else A 10 j := fun j => by rw [arr_10, hv]
  generalize ew : (if A 47 t ≤ A 46 t then (0 : Int) else 1) = w
  have e39 : ∀ j, arr A t 39 j = if j = t then w else A 39 j := fun j => by rw [arr_39, ew]
  have lw : w = 0 ∨ w = 1 := by
    rw [← ew]
    split
    · exact Or.inl rfl
    · exact Or.inr rfl
  refine ⟨hg.fr ⟨arrL_3, arrL_3, arrL_3⟩ (fun a h => arr_o (by omega)), hs.fr (fun j hj => arrL_3) (fun j => arr_o (by decide)), ?_, ?_, ?_, ?_⟩
  · refine ⟨(arr_o (by decide)).trans hb0, fun k k0 k1 => ?_⟩
    obtain ⟨w1, w2, w3, w4, w5, w6, w7, w8, w9, w10, w11, w12, w13⟩ := hb k k0 k1
    rw [arr_o (a := 7) (by decide), arr_o (a := 7) (by decide), arr_o (a := 8) (by decide), arr_o (a := 9) (by decide), e10, arr_o (a := 13) (by decide), arr_o (a := 14) (by decide), arr_o (a := 15) (by decide), arr_o (a := 16) (by decide), arr_o (a := 17) (by decide), arr_o (a := 18) (by decide), arr_o (a := 11) (by decide), arr_o (a := 12) (by decide)]
    simp only [arrL_1]
    generalize A 41 t = b at *
    refine ⟨w1, w2, ?_, ?_, ?_, ?_, ?_, ?_, ?_, ?_, fun w11' => ?_, ?_, w13⟩ <;> repeat' (first | omega | split)
  · refine hc.fr (fun n i n0 n1 hi => ?_) (fun a j h => arr_o (by omega))
    rw [arrL_2, if_neg (by omega), if_neg (by omega)]
  · intro n n0 n1
    obtain ⟨u1, u2⟩ := ht n n0 n1
    rw [arr_o (a := 36) (by decide)]
    refine ⟨by rw [arrL_2, if_neg (by omega), if_neg (by omega)]; exact u1, fun c36 => ?_⟩
    by_cases e : n = t
    · subst e
      obtain ⟨w1, w2, w3, w4, w5, w6, w7, w8, w9, w10, w11, w12, w13, w14, w15, w16, w17⟩ := tt
      have w13 := w13 (Or.inr h39)
      unfold LT
      rw [arr_o (a := 37) (by decide), arr_o (a := 38) (by decide), e39, arr_o (a := 40) (by decide), arr_41, arr_o (a := 42) (by decide), arr_o (a := 44) (by decide), arr_o (a := 46) (by decide), arr_o (a := 47) (by decide), arr_o (a := 48) (by decide), arr_o (a := 49) (by decide), arr_o (a := 50) (by decide), arr_o (a := 51) (by decide)]
      rw [if_pos rfl, if_pos rfl]
      simp only [arrL_2, arrL_0]
      refine ⟨w1, w2, ?_, by omega, ?_, w6, ?_, fun _ => ?_, ?_, w10, ?_, ?_, fun _ => ⟨?_, ?_⟩, ?_, w15, fun h => ?_, fun i i0 i1 => ?_⟩
      · repeat' (first | rfl | omega | split)
      · repeat' (first | rfl | omega | split)
      · repeat' (first | rfl | omega | split)
      · exfalso; omega
      · repeat' (first | rfl | omega | split)
      · repeat' (first | rfl | omega | split)
      · repeat' (first | rfl | omega | split)
      · repeat' (first | rfl | omega | split)
      · repeat' (first | rfl | omega | split)
      · repeat' (first | rfl | omega | split)
      · have := w16 h
        repeat' (first | rfl | omega | split)
      · rw [arr_o (a := 45) (by decide)]
        exact w17 i i0 i1
    · refine (u2 c36).fr (h47 n n0 n1 c36) (fun i i0 i1 => ?_) (fun i _ _ => arrL_0) (fun a a0 a1 a2 a3 => ?_) (fun i _ _ => arr_o (by decide))
      · rw [arrL_2, if_neg (by omega), if_neg (by omega)]
      · by_cases c39 : a = 39
        · subst c39; rw [e39, if_neg e]
        by_cases c41 : a = 41
        · subst c41; rw [arr_41, if_neg e]
        · exact arr_o (by omega)
  · exact fun n n0 n1 => (arr_o (by decide)).trans (ht6 n n0 n1)
end EntP
