/-! behind each act: the law's rows beside the reference's numbers -/
section Acts
variable {L A : Il} {b n v u o s f t c : Int}
theorem LR.fail (hL : LR L A) (h47 : ∀ n : Int, 0 ≤ n → n < 3 → A 36 n = 1 → A 47 n ≤ 8) (hb : 0 ≤ b ∧ b < 4) : LR (ui (ui L 1 (12 + b) v) 1 (16 + b) 0) (ui (ui (sc A 0 0) 13 b v) 14 b 0) := by
  obtain ⟨⟨g1, g2, g3, g4⟩, hs, ⟨hb0, hbk⟩, hc, ht⟩ := hL
  have r1 : ∀ j, (ui (ui L 1 (12 + b) v) 1 (16 + b) 0) 1 j = if j = 16 + b then 0 else if j = 12 + b then v else L 1 j := fun j => by simp [ui]
  have r2 : ∀ j, (ui (ui L 1 (12 + b) v) 1 (16 + b) 0) 2 j = L 2 j := fun j => by simp [ui]
  have r0 : ∀ j, (ui (ui L 1 (12 + b) v) 1 (16 + b) 0) 0 j = L 0 j := fun j => by simp [ui]
  have r3 : ∀ j, (ui (ui L 1 (12 + b) v) 1 (16 + b) 0) 3 j = L 3 j := fun j => by simp [ui]
  have a13 : ∀ j, (ui (ui (sc A 0 0) 13 b v) 14 b 0) 13 j = if j = b then v else A 13 j := fun j => by simp [ui, sc]
  have a14 : ∀ j, (ui (ui (sc A 0 0) 13 b v) 14 b 0) 14 j = if j = b then 0 else A 14 j := fun j => by simp [ui, sc]
  have hA : ∀ a j, (a ≠ 13 ∧ a ≠ 14 ∧ a ≠ 0) → (ui (ui (sc A 0 0) 13 b v) 14 b 0) a j = A a j := fun a j h => ((ui_k (by omega)).trans ((ui_k (by omega)).trans (sc_k (by omega))))
  generalize (ui (ui L 1 (12 + b) v) 1 (16 + b) 0) = L' at *
  generalize (ui (ui (sc A 0 0) 13 b v) 14 b 0) = A' at *
  refine ⟨⟨?_, ?_, (hA 3 0 (by decide)).trans g3, ?_⟩, ?_, ⟨(hA 6 0 (by decide)).trans hb0, fun k k0 k1 => ?_⟩, hc.fr (fun _ _ _ _ _ => r2 _) (fun a j h => hA a j (by omega)), ht.fr h47 (fun _ _ _ _ _ _ => r2 _) r0 (fun a j a0 a1 a3 => hA a j (by omega))⟩
  · rw [r3, hA 1 0 (by decide)]
    repeat' (first | omega | split)
  · rw [r3, hA 2 0 (by decide)]
    repeat' (first | omega | split)
  · rw [r3, hA 52 0 (by decide)]
    repeat' (first | omega | split)
  · refine hs.fr (fun j hj => ?_) (fun j => hA 5 j (by decide))
    rw [r3]
    repeat' (first | rfl | omega | split)
  · obtain ⟨w1, w2, w3, w4, w5, w6, w7, w8, w9, w10, w11, w12, w13⟩ := hbk k k0 k1
    rw [hA 7 _ (by decide), hA 7 _ (by decide), hA 12 _ (by decide), hA 8 _ (by decide), hA 9 _ (by decide), hA 10 _ (by decide), hA 15 _ (by decide), hA 16 _ (by decide), hA 17 _ (by decide), hA 18 _ (by decide), hA 11 _ (by decide)]
    rw [a13, a14]
    simp only [r1]
    refine ⟨w1, w2, ?_, ?_, ?_, ?_, ?_, ?_, ?_, ?_, fun w11' => ?_, ?_, w13⟩ <;> repeat' (first | omega | split)
theorem LR.flag (hL : LR L A) (h47 : ∀ n : Int, 0 ≤ n → n < 3 → A 36 n = 1 → A 47 n ≤ 8) (hb : 0 ≤ b ∧ b < 4) : LR (ui L 1 (16 + b) 1) (ui (sc A 0 0) 14 b 1) := by
  obtain ⟨⟨g1, g2, g3, g4⟩, hs, ⟨hb0, hbk⟩, hc, ht⟩ := hL
  have r1 : ∀ j, (ui L 1 (16 + b) 1) 1 j = if j = 16 + b then 1 else L 1 j := fun j => by simp [ui]
  have r2 : ∀ j, (ui L 1 (16 + b) 1) 2 j = L 2 j := fun j => by simp [ui]
  have r0 : ∀ j, (ui L 1 (16 + b) 1) 0 j = L 0 j := fun j => by simp [ui]
  have r3 : ∀ j, (ui L 1 (16 + b) 1) 3 j = L 3 j := fun j => by simp [ui]
  have a14 : ∀ j, (ui (sc A 0 0) 14 b 1) 14 j = if j = b then 1 else A 14 j := fun j => by simp [ui, sc]
  have hA : ∀ a j, (a ≠ 14 ∧ a ≠ 0) → (ui (sc A 0 0) 14 b 1) a j = A a j := fun a j h => ((ui_k (by omega)).trans (sc_k (by omega)))
  generalize (ui L 1 (16 + b) 1) = L' at *
  generalize (ui (sc A 0 0) 14 b 1) = A' at *
  refine ⟨⟨?_, ?_, (hA 3 0 (by decide)).trans g3, ?_⟩, ?_, ⟨(hA 6 0 (by decide)).trans hb0, fun k k0 k1 => ?_⟩, hc.fr (fun _ _ _ _ _ => r2 _) (fun a j h => hA a j (by omega)), ht.fr h47 (fun _ _ _ _ _ _ => r2 _) r0 (fun a j a0 a1 a3 => hA a j (by omega))⟩
  · rw [r3, hA 1 0 (by decide)]
    repeat' (first | omega | split)
  · rw [r3, hA 2 0 (by decide)]
    repeat' (first | omega | split)
  · rw [r3, hA 52 0 (by decide)]
    repeat' (first | omega | split)
  · refine hs.fr (fun j hj => ?_) (fun j => hA 5 j (by decide))
    rw [r3]
    repeat' (first | rfl | omega | split)
  · obtain ⟨w1, w2, w3, w4, w5, w6, w7, w8, w9, w10, w11, w12, w13⟩ := hbk k k0 k1
    rw [hA 7 _ (by decide), hA 7 _ (by decide), hA 12 _ (by decide), hA 8 _ (by decide), hA 9 _ (by decide), hA 10 _ (by decide), hA 13 _ (by decide), hA 15 _ (by decide), hA 16 _ (by decide), hA 17 _ (by decide), hA 18 _ (by decide), hA 11 _ (by decide)]
    rw [a14]
    simp only [r1]
    refine ⟨w1, w2, ?_, ?_, ?_, ?_, ?_, ?_, ?_, ?_, fun w11' => ?_, ?_, w13⟩ <;> repeat' (first | omega | split)
theorem LR.hours (hL : LR L A) (h47 : ∀ n : Int, 0 ≤ n → n < 3 → A 36 n = 1 → A 47 n ≤ 8) (hb : 0 ≤ b ∧ b < 4) : LR (ui (ui L 1 (20 + b) f) 1 (24 + b) t) (ui (ui (sc A 0 0) 15 b f) 16 b t) := by
  obtain ⟨⟨g1, g2, g3, g4⟩, hs, ⟨hb0, hbk⟩, hc, ht⟩ := hL
  have r1 : ∀ j, (ui (ui L 1 (20 + b) f) 1 (24 + b) t) 1 j = if j = 24 + b then t else if j = 20 + b then f else L 1 j := fun j => by simp [ui]
  have r2 : ∀ j, (ui (ui L 1 (20 + b) f) 1 (24 + b) t) 2 j = L 2 j := fun j => by simp [ui]
  have r0 : ∀ j, (ui (ui L 1 (20 + b) f) 1 (24 + b) t) 0 j = L 0 j := fun j => by simp [ui]
  have r3 : ∀ j, (ui (ui L 1 (20 + b) f) 1 (24 + b) t) 3 j = L 3 j := fun j => by simp [ui]
  have a15 : ∀ j, (ui (ui (sc A 0 0) 15 b f) 16 b t) 15 j = if j = b then f else A 15 j := fun j => by simp [ui, sc]
  have a16 : ∀ j, (ui (ui (sc A 0 0) 15 b f) 16 b t) 16 j = if j = b then t else A 16 j := fun j => by simp [ui, sc]
  have hA : ∀ a j, (a ≠ 15 ∧ a ≠ 16 ∧ a ≠ 0) → (ui (ui (sc A 0 0) 15 b f) 16 b t) a j = A a j := fun a j h => ((ui_k (by omega)).trans ((ui_k (by omega)).trans (sc_k (by omega))))
  generalize (ui (ui L 1 (20 + b) f) 1 (24 + b) t) = L' at *
  generalize (ui (ui (sc A 0 0) 15 b f) 16 b t) = A' at *
  refine ⟨⟨?_, ?_, (hA 3 0 (by decide)).trans g3, ?_⟩, ?_, ⟨(hA 6 0 (by decide)).trans hb0, fun k k0 k1 => ?_⟩, hc.fr (fun _ _ _ _ _ => r2 _) (fun a j h => hA a j (by omega)), ht.fr h47 (fun _ _ _ _ _ _ => r2 _) r0 (fun a j a0 a1 a3 => hA a j (by omega))⟩
  · rw [r3, hA 1 0 (by decide)]
    repeat' (first | omega | split)
  · rw [r3, hA 2 0 (by decide)]
    repeat' (first | omega | split)
  · rw [r3, hA 52 0 (by decide)]
    repeat' (first | omega | split)
  · refine hs.fr (fun j hj => ?_) (fun j => hA 5 j (by decide))
    rw [r3]
    repeat' (first | rfl | omega | split)
  · obtain ⟨w1, w2, w3, w4, w5, w6, w7, w8, w9, w10, w11, w12, w13⟩ := hbk k k0 k1
    rw [hA 7 _ (by decide), hA 7 _ (by decide), hA 12 _ (by decide), hA 8 _ (by decide), hA 9 _ (by decide), hA 10 _ (by decide), hA 13 _ (by decide), hA 14 _ (by decide), hA 17 _ (by decide), hA 18 _ (by decide), hA 11 _ (by decide)]
    rw [a15, a16]
    simp only [r1]
    refine ⟨w1, w2, ?_, ?_, ?_, ?_, ?_, ?_, ?_, ?_, fun w11' => ?_, ?_, w13⟩ <;> repeat' (first | omega | split)
theorem LR.repair (hL : LR L A) (h47 : ∀ n : Int, 0 ≤ n → n < 3 → A 36 n = 1 → A 47 n ≤ 8) (hb : 0 ≤ b ∧ b < 4) : LR (ui (ui (ui L 3 (1) c) 1 (36 + b) u) 1 (8 + b) 0) (ui (ui (sc (sc A 0 0) 2 c) 10 b 0) 11 b u) := by
  obtain ⟨⟨g1, g2, g3, g4⟩, hs, ⟨hb0, hbk⟩, hc, ht⟩ := hL
  have r1 : ∀ j, (ui (ui (ui L 3 (1) c) 1 (36 + b) u) 1 (8 + b) 0) 1 j = if j = 8 + b then 0 else if j = 36 + b then u else L 1 j := fun j => by simp [ui]
  have r2 : ∀ j, (ui (ui (ui L 3 (1) c) 1 (36 + b) u) 1 (8 + b) 0) 2 j = L 2 j := fun j => by simp [ui]
  have r0 : ∀ j, (ui (ui (ui L 3 (1) c) 1 (36 + b) u) 1 (8 + b) 0) 0 j = L 0 j := fun j => by simp [ui]
  have r3 : ∀ j, (ui (ui (ui L 3 (1) c) 1 (36 + b) u) 1 (8 + b) 0) 3 j = if j = 1 then c else L 3 j := fun j => by simp [ui]
  have a10 : ∀ j, (ui (ui (sc (sc A 0 0) 2 c) 10 b 0) 11 b u) 10 j = if j = b then 0 else A 10 j := fun j => by simp [ui, sc]
  have a11 : ∀ j, (ui (ui (sc (sc A 0 0) 2 c) 10 b 0) 11 b u) 11 j = if j = b then u else A 11 j := fun j => by simp [ui, sc]
  have hA : ∀ a j, (a ≠ 2 ∧ a ≠ 10 ∧ a ≠ 11 ∧ a ≠ 0) → (ui (ui (sc (sc A 0 0) 2 c) 10 b 0) 11 b u) a j = A a j := fun a j h => ((ui_k (by omega)).trans ((ui_k (by omega)).trans ((sc_k (by omega)).trans (sc_k (by omega)))))
  have a2 : (ui (ui (sc (sc A 0 0) 2 c) 10 b 0) 11 b u) 2 0 = c := by simp [ui, sc]
  generalize (ui (ui (ui L 3 (1) c) 1 (36 + b) u) 1 (8 + b) 0) = L' at *
  generalize (ui (ui (sc (sc A 0 0) 2 c) 10 b 0) 11 b u) = A' at *
  refine ⟨⟨?_, ?_, (hA 3 0 (by decide)).trans g3, ?_⟩, ?_, ⟨(hA 6 0 (by decide)).trans hb0, fun k k0 k1 => ?_⟩, hc.fr (fun _ _ _ _ _ => r2 _) (fun a j h => hA a j (by omega)), ht.fr h47 (fun _ _ _ _ _ _ => r2 _) r0 (fun a j a0 a1 a3 => hA a j (by omega))⟩
  · rw [r3, hA 1 0 (by decide)]
    repeat' (first | omega | split)
  · rw [r3, a2]
    repeat' (first | rfl | omega | split)
  · rw [r3, hA 52 0 (by decide)]
    repeat' (first | omega | split)
  · refine hs.fr (fun j hj => ?_) (fun j => hA 5 j (by decide))
    rw [r3]
    repeat' (first | rfl | omega | split)
  · obtain ⟨w1, w2, w3, w4, w5, w6, w7, w8, w9, w10, w11, w12, w13⟩ := hbk k k0 k1
    rw [hA 7 _ (by decide), hA 7 _ (by decide), hA 12 _ (by decide), hA 8 _ (by decide), hA 9 _ (by decide), hA 13 _ (by decide), hA 14 _ (by decide), hA 15 _ (by decide), hA 16 _ (by decide), hA 17 _ (by decide), hA 18 _ (by decide)]
    rw [a10, a11]
    simp only [r1]
    refine ⟨w1, w2, ?_, ?_, ?_, ?_, ?_, ?_, ?_, ?_, fun w11' => ?_, ?_, w13⟩ <;> repeat' (first | omega | split)
theorem LR.tracks (hL : LR L A) (h47 : ∀ n : Int, 0 ≤ n → n < 3 → A 36 n = 1 → A 47 n ≤ 8) (hb : 0 ≤ b ∧ b < 4) : LR (ui L 3 (4 + b) v) (ui (sc A 0 0) 5 b v) := by
  obtain ⟨hg, hs, hbk, hc, ht⟩ := hL
  have hA : ∀ a j, (a ≠ 0 ∧ a ≠ 5) → ui (sc A 0 0) 5 b v a j = A a j := fun a j h => (ui_k (by omega)).trans (sc_k (by omega))
  have r3 : ∀ j, j ≠ 4 + b → ui L 3 (4 + b) v 3 j = L 3 j := fun j h => ui_j h
  refine ⟨hg.fr ⟨r3 0 (by omega), r3 1 (by omega), r3 3 (by omega)⟩ (fun a h => hA a 0 (by omega)), fun s s0 s1 => ?_, hbk.fr (fun j => ui_k (by decide)) (fun a j h => hA a j (by omega)), hc.fr (fun _ _ _ _ _ => ui_k (by decide)) (fun a j h => hA a j (by omega)), ht.fr h47 (fun _ _ _ _ _ _ => ui_k (by decide)) (fun _ => ui_k (by decide)) (fun a j a0 a1 a3 => hA a j (by omega))⟩
  by_cases e : s = b
  · subst e
    rw [ui_s]
    exact ui_s.symm
  · rw [r3 _ (by omega)]
    exact (hs s s0 s1).trans (ui_j e).symm
theorem LR.rest (hL : LR L A) (h47 : ∀ n : Int, 0 ≤ n → n < 3 → A 36 n = 1 → A 47 n ≤ 8) (hn : 0 ≤ n ∧ n < 3) : LR (ui (ui L 2 (16 * n + 14) u) 2 (16 * n + 13) 0) (ui (ui (sc A 0 0) 27 n u) 26 n 0) := by
  obtain ⟨hg, hs, hbk, ⟨c1, c2, c3⟩, ht⟩ := hL
  have hA : ∀ a j, (a ≠ 0 ∧ a ≠ 27 ∧ a ≠ 26) → ui (ui (sc A 0 0) 27 n u) 26 n 0 a j = A a j := fun a j h => (ui_k (by omega)).trans ((ui_k (by omega)).trans (sc_k (by omega)))
  have rk : ∀ r j, r ≠ 2 → ui (ui L 2 (16 * n + 14) u) 2 (16 * n + 13) 0 r j = L r j := fun r j h => (ui_k h).trans (ui_k h)
  have r2 : ∀ j, ui (ui L 2 (16 * n + 14) u) 2 (16 * n + 13) 0 2 j = if j = 16 * n + 13 then 0 else if j = 16 * n + 14 then u else L 2 j := fun j => by simp [ui]
  have a27 : ∀ j, ui (ui (sc A 0 0) 27 n u) 26 n 0 27 j = if j = n then u else A 27 j := fun j => by simp [ui, sc]
  have a26 : ∀ j, ui (ui (sc A 0 0) 27 n u) 26 n 0 26 j = if j = n then 0 else A 26 j := fun j => by simp [ui, sc]
  generalize ui (ui L 2 (16 * n + 14) u) 2 (16 * n + 13) 0 = L' at *
  generalize ui (ui (sc A 0 0) 27 n u) 26 n 0 = A' at *
  refine ⟨hg.fr ⟨rk 3 0 (by decide), rk 3 1 (by decide), rk 3 3 (by decide)⟩ (fun a h => hA a 0 (by omega)), hs.fr (fun j _ => rk 3 j (by decide)) (fun j => hA 5 j (by decide)), hbk.fr (fun j => rk 1 j (by decide)) (fun a j h => hA a j (by omega)), ⟨(hA 19 0 (by decide)).trans c1, (hA 23 0 (by decide)).trans c2, fun m m0 m1 => ?_⟩, ht.fr h47 (fun m i m0 m1 i0 i1 => ?_) (fun j => rk 0 j (by decide)) (fun a j a0 a1 a3 => hA a j (by omega))⟩
  · obtain ⟨w1, w2, w3, w4, w5, w6⟩ := c3 m m0 m1
    have q15 : L' 2 (16 * m + 15) = L 2 (16 * m + 15) := by rw [r2, if_neg (by omega), if_neg (by omega)]
    rw [q15, hA 20 _ (by decide), a26, a27]
    refine ⟨?_, w2, ?_, ?_, w5, fun b b0 b1 => by rw [hA 28 _ (by decide)]; exact w6 b b0 b1⟩
    · rw [r2]; repeat' (first | omega | split)
    · rw [r2]; repeat' (first | omega | split)
    · rw [r2]; repeat' (first | omega | split)
  · rw [r2, if_neg (by omega), if_neg (by omega)]
theorem LR.await (hL : LR L A) (h47 : ∀ n : Int, 0 ≤ n → n < 3 → A 36 n = 1 → A 47 n ≤ 8) (hn : 0 ≤ n ∧ n < 3) (ho : 0 ≤ o ∧ o < 3) : LR (ui (ui L 2 (16 * n + 11) o) 2 (16 * n + 12) s) (ui (ui (sc A 0 0) 50 n o) 51 n s) := by
  obtain ⟨hg, hs, hbk, hc, ht, ht6⟩ := hL
  have hA : ∀ a j, (a ≠ 0 ∧ a ≠ 50 ∧ a ≠ 51) → ui (ui (sc A 0 0) 50 n o) 51 n s a j = A a j := fun a j h => (ui_k (by omega)).trans ((ui_k (by omega)).trans (sc_k (by omega)))
  have rk : ∀ r j, r ≠ 2 → ui (ui L 2 (16 * n + 11) o) 2 (16 * n + 12) s r j = L r j := fun r j h => (ui_k h).trans (ui_k h)
  have r2 : ∀ j, ui (ui L 2 (16 * n + 11) o) 2 (16 * n + 12) s 2 j = if j = 16 * n + 12 then s else if j = 16 * n + 11 then o else L 2 j := fun j => by simp [ui]
  have a50 : ∀ j, ui (ui (sc A 0 0) 50 n o) 51 n s 50 j = if j = n then o else A 50 j := fun j => by simp [ui, sc]
  have a51 : ∀ j, ui (ui (sc A 0 0) 50 n o) 51 n s 51 j = if j = n then s else A 51 j := fun j => by simp [ui, sc]
  generalize ui (ui L 2 (16 * n + 11) o) 2 (16 * n + 12) s = L' at *
  generalize ui (ui (sc A 0 0) 50 n o) 51 n s = A' at *
  have n2 : ∀ j, j ≠ 16 * n + 11 → j ≠ 16 * n + 12 → L' 2 j = L 2 j := fun j h1 h2 => by rw [r2, if_neg h2, if_neg h1]
  refine ⟨hg.fr ⟨rk 3 0 (by decide), rk 3 1 (by decide), rk 3 3 (by decide)⟩ (fun a h => hA a 0 (by omega)), hs.fr (fun j _ => rk 3 j (by decide)) (fun j => hA 5 j (by decide)), hbk.fr (fun j => rk 1 j (by decide)) (fun a j h => hA a j (by omega)), hc.fr (fun m i m0 m1 hi => n2 _ (by omega) (by omega)) (fun a j h => hA a j (by omega)), fun m m0 m1 => ?_, fun m m0 m1 => (hA 36 m (by decide)).trans (ht6 m m0 m1)⟩
  obtain ⟨u1, u2⟩ := ht m m0 m1
  rw [n2 (16 * m) (by omega) (by omega), hA 36 m (by decide)]
  refine ⟨u1, fun c36 => ?_⟩
  by_cases e : m = n
  · subst e
    obtain ⟨w1, w2, w3, w4, w5, w6, w7, w8, w9, w10, w11, w12, w13, w14, w15, w16, w17⟩ := u2 c36
    unfold LT
    rw [hA 37 _ (by decide), hA 38 _ (by decide), hA 39 _ (by decide), hA 40 _ (by decide), hA 41 _ (by decide), hA 42 _ (by decide), hA 44 _ (by decide), hA 46 _ (by decide), hA 47 _ (by decide), hA 48 _ (by decide), hA 49 _ (by decide), a50, a51]
    rw [if_pos rfl, if_pos rfl, n2 (16 * m + 3) (by omega) (by omega), n2 (16 * m + 4) (by omega) (by omega), n2 (16 * m + 5) (by omega) (by omega), n2 (16 * m + 6) (by omega) (by omega), n2 (16 * m + 2) (by omega) (by omega), n2 (16 * m + 7) (by omega) (by omega), n2 (16 * m + 8) (by omega) (by omega), n2 (16 * m + 9) (by omega) (by omega), n2 (16 * m + 10) (by omega) (by omega)]
    refine ⟨w1, w2, w3, w4, w5, w6, w7, w8, w9, w10, w11, w12, w13, ?_, ho.2, fun _ => ?_, fun i i0 i1 => ?_⟩
    · rw [r2, if_neg (by omega), if_pos rfl]
    · rw [r2, if_pos rfl]
    · rw [rk 0 _ (by decide), hA 45 _ (by decide)]
      exact w17 i i0 i1
  · refine (u2 c36).fr (h47 m m0 m1 c36) (fun i i0 i1 => n2 _ (by omega) (by omega)) (fun i _ _ => rk 0 _ (by decide)) (fun a a0 a1 a2 a3 => ?_) (fun i _ _ => hA 45 _ (by decide))
    by_cases c50 : a = 50
    · subst c50
      rw [a50, if_neg e]
    by_cases c51 : a = 51
    · subst c51
      rw [a51, if_neg e]
    · exact hA a m (by omega)
end Acts
