/-! frames: a group stays where what it speaks of stays -/
theorem pcn_fr {A A' : Il} (h : ∀ j, A' 61 j = A 61 j) (k : Int) : ∀ n, pcn A' k n = pcn A k n
  | 0 => rfl
  | n + 1 => by
    show pcn A' k n + (if A' 61 (n : Int) = k then 1 else 0) = pcn A k n + (if A 61 (n : Int) = k then 1 else 0)
    rw [pcn_fr h k n, h]
theorem wgt_fr {A A' : Il} (h : ∀ j, A' 33 j = A 33 j) (h2 : ∀ j, A' 43 j = A 43 j) (t : Int) : ∀ n, wgt A' t n = wgt A t n
  | 0 => rfl
  | n + 1 => by
    show wgt A' t n + (if A' 33 (A' 43 (10 * t + (n : Int))) = -1 then 2 else 5) = wgt A t n + (if A 33 (A 43 (10 * t + (n : Int))) = -1 then 2 else 5)
    rw [wgt_fr h h2 t n, h2, h]
theorem oth_fr {A A' : Il} (h : ∀ j, A' 7 j = A 7 j) (b s : Int) : oth A' b s = oth A b s := by
  unfold oth
  simp only [h]
theorem wend_fr {A A' : Il} (h : ∀ j, A' 7 j = A 7 j) (h2 : ∀ j, A' 45 j = A 45 j) (t : Int) : ∀ n i s, wend A' t n i s = wend A t n i s
  | 0, _, _ => rfl
  | n + 1, i, s => by
    show wend A' t n (i + 1) (oth A' (A' 45 (8 * t + i)) s) = wend A t n (i + 1) (oth A (A 45 (8 * t + i)) s)
    rw [wend_fr h h2 t n, h2, oth_fr h]
theorem RepG.fr {B B' : Fl} {A A' : Il} (h : RepG B A) (hB : ∀ k v, (k = 912 ∨ k = 913 ∨ k = 914 ∨ k = 915) → B' k v = B k v) (hA : ∀ a j, (a = 1 ∨ a = 2 ∨ a = 3 ∨ a = 4) → A' a j = A a j) : RepG B' A' := by
  have b912 : ∀ v, B' 912 v = B 912 v := fun v => hB 912 v (by decide)
  have b913 : ∀ v, B' 913 v = B 913 v := fun v => hB 913 v (by decide)
  have b914 : ∀ v, B' 914 v = B 914 v := fun v => hB 914 v (by decide)
  have b915 : ∀ v, B' 915 v = B 915 v := fun v => hB 915 v (by decide)
  have a1 : ∀ j, A' 1 j = A 1 j := fun j => hA 1 j (by decide)
  have a2 : ∀ j, A' 2 j = A 2 j := fun j => hA 2 j (by decide)
  have a3 : ∀ j, A' 3 j = A 3 j := fun j => hA 3 j (by decide)
  have a4 : ∀ j, A' 4 j = A 4 j := fun j => hA 4 j (by decide)
  unfold RepG
  unfold RepG at h
  simp only [b912, b913, b914, b915, a1, a2, a3, a4]
  exact h
theorem RepS.fr {B B' : Fl} {A A' : Il} (h : RepS B A) (hB : ∀ k v, (k = 700) → B' k v = B k v) (hA : ∀ a j, (a = 5) → A' a j = A a j) : RepS B' A' := by
  have b700 : ∀ v, B' 700 v = B 700 v := fun v => hB 700 v (by decide)
  have a5 : ∀ j, A' 5 j = A 5 j := fun j => hA 5 j (by decide)
  unfold RepS eqF
  unfold RepS eqF at h
  simp only [b700, a5]
  exact h
theorem RepB.fr {c : Nat → Nat} {B B' : Fl} {A A' : Il} (h : RepB c B A) (hB : ∀ k v, (k = 2 ∨ k = 200 ∨ k = 201 ∨ k = 202 ∨ k = 203 ∨ k = 204 ∨ k = 205 ∨ k = 206 ∨ k = 207 ∨ k = 208 ∨ k = 209 ∨ k = 210) → B' k v = B k v) (hA : ∀ a j, (a = 6 ∨ a = 7 ∨ a = 8 ∨ a = 9 ∨ a = 10 ∨ a = 11 ∨ a = 12 ∨ a = 13 ∨ a = 14 ∨ a = 15 ∨ a = 16) → A' a j = A a j) : RepB c B' A' := by
  have b2 : ∀ v, B' 2 v = B 2 v := fun v => hB 2 v (by decide)
  have b200 : ∀ v, B' 200 v = B 200 v := fun v => hB 200 v (by decide)
  have b201 : ∀ v, B' 201 v = B 201 v := fun v => hB 201 v (by decide)
  have b202 : ∀ v, B' 202 v = B 202 v := fun v => hB 202 v (by decide)
  have b203 : ∀ v, B' 203 v = B 203 v := fun v => hB 203 v (by decide)
  have b204 : ∀ v, B' 204 v = B 204 v := fun v => hB 204 v (by decide)
  have b205 : ∀ v, B' 205 v = B 205 v := fun v => hB 205 v (by decide)
  have b206 : ∀ v, B' 206 v = B 206 v := fun v => hB 206 v (by decide)
  have b207 : ∀ v, B' 207 v = B 207 v := fun v => hB 207 v (by decide)
  have b208 : ∀ v, B' 208 v = B 208 v := fun v => hB 208 v (by decide)
  have b209 : ∀ v, B' 209 v = B 209 v := fun v => hB 209 v (by decide)
  have b210 : ∀ v, B' 210 v = B 210 v := fun v => hB 210 v (by decide)
  have a6 : ∀ j, A' 6 j = A 6 j := fun j => hA 6 j (by decide)
  have a7 : ∀ j, A' 7 j = A 7 j := fun j => hA 7 j (by decide)
  have a8 : ∀ j, A' 8 j = A 8 j := fun j => hA 8 j (by decide)
  have a9 : ∀ j, A' 9 j = A 9 j := fun j => hA 9 j (by decide)
  have a10 : ∀ j, A' 10 j = A 10 j := fun j => hA 10 j (by decide)
  have a11 : ∀ j, A' 11 j = A 11 j := fun j => hA 11 j (by decide)
  have a12 : ∀ j, A' 12 j = A 12 j := fun j => hA 12 j (by decide)
  have a13 : ∀ j, A' 13 j = A 13 j := fun j => hA 13 j (by decide)
  have a14 : ∀ j, A' 14 j = A 14 j := fun j => hA 14 j (by decide)
  have a15 : ∀ j, A' 15 j = A 15 j := fun j => hA 15 j (by decide)
  have a16 : ∀ j, A' 16 j = A 16 j := fun j => hA 16 j (by decide)
  unfold RepB eqF
  unfold RepB eqF at h
  simp only [b2, b200, b201, b202, b203, b204, b205, b206, b207, b208, b209, b210, a6, a7, a8, a9, a10, a11, a12, a13, a14, a15, a16]
  exact h
theorem Rep0.fr {A A' : Il} (h : Rep0 A) (hA : ∀ a j, (a = 6 ∨ a = 10 ∨ a = 11 ∨ a = 12 ∨ a = 13 ∨ a = 14 ∨ a = 15 ∨ a = 16) → A' a j = A a j) : Rep0 A' := by
  have a6 : ∀ j, A' 6 j = A 6 j := fun j => hA 6 j (by decide)
  have a10 : ∀ j, A' 10 j = A 10 j := fun j => hA 10 j (by decide)
  have a11 : ∀ j, A' 11 j = A 11 j := fun j => hA 11 j (by decide)
  have a12 : ∀ j, A' 12 j = A 12 j := fun j => hA 12 j (by decide)
  have a13 : ∀ j, A' 13 j = A 13 j := fun j => hA 13 j (by decide)
  have a14 : ∀ j, A' 14 j = A 14 j := fun j => hA 14 j (by decide)
  have a15 : ∀ j, A' 15 j = A 15 j := fun j => hA 15 j (by decide)
  have a16 : ∀ j, A' 16 j = A 16 j := fun j => hA 16 j (by decide)
  unfold Rep0
  unfold Rep0 at h
  simp only [a6, a10, a11, a12, a13, a14, a15, a16]
  exact h
theorem RepH.fr {B B' : Fl} {A A' : Il} (h : RepH B A) (hB : ∀ k v, (k = 211 ∨ k = 212) → B' k v = B k v) (hA : ∀ a j, (a = 1 ∨ a = 6 ∨ a = 17 ∨ a = 18) → A' a j = A a j) : RepH B' A' := by
  have b211 : ∀ v, B' 211 v = B 211 v := fun v => hB 211 v (by decide)
  have b212 : ∀ v, B' 212 v = B 212 v := fun v => hB 212 v (by decide)
  have a1 : ∀ j, A' 1 j = A 1 j := fun j => hA 1 j (by decide)
  have a6 : ∀ j, A' 6 j = A 6 j := fun j => hA 6 j (by decide)
  have a17 : ∀ j, A' 17 j = A 17 j := fun j => hA 17 j (by decide)
  have a18 : ∀ j, A' 18 j = A 18 j := fun j => hA 18 j (by decide)
  unfold RepH
  unfold RepH at h
  simp only [b211, b212, a1, a6, a17, a18]
  exact h
theorem RepE.fr {c : Nat → Nat} {B B' : Fl} {A A' : Il} (h : RepE c B A) (hB : ∀ k v, (k = 2 ∨ k = 500 ∨ k = 501 ∨ k = 502) → B' k v = B k v) (hA : ∀ a j, (a = 19 ∨ a = 20 ∨ a = 21 ∨ a = 22) → A' a j = A a j) : RepE c B' A' := by
  have b2 : ∀ v, B' 2 v = B 2 v := fun v => hB 2 v (by decide)
  have b500 : ∀ v, B' 500 v = B 500 v := fun v => hB 500 v (by decide)
  have b501 : ∀ v, B' 501 v = B 501 v := fun v => hB 501 v (by decide)
  have b502 : ∀ v, B' 502 v = B 502 v := fun v => hB 502 v (by decide)
  have a19 : ∀ j, A' 19 j = A 19 j := fun j => hA 19 j (by decide)
  have a20 : ∀ j, A' 20 j = A 20 j := fun j => hA 20 j (by decide)
  have a21 : ∀ j, A' 21 j = A 21 j := fun j => hA 21 j (by decide)
  have a22 : ∀ j, A' 22 j = A 22 j := fun j => hA 22 j (by decide)
  unfold RepE eqF
  unfold RepE eqF at h
  simp only [b2, b500, b501, b502, a19, a20, a21, a22]
  exact h
theorem RepC.fr {c : Nat → Nat} {B B' : Fl} {A A' : Il} (h : RepC c B A) (hB : ∀ k v, (k = 2 ∨ k = 400 ∨ k = 401 ∨ k = 403 ∨ k = 404) → B' k v = B k v) (hA : ∀ a j, (a = 23 ∨ a = 24 ∨ a = 25 ∨ a = 26 ∨ a = 27) → A' a j = A a j) : RepC c B' A' := by
  have b2 : ∀ v, B' 2 v = B 2 v := fun v => hB 2 v (by decide)
  have b400 : ∀ v, B' 400 v = B 400 v := fun v => hB 400 v (by decide)
  have b401 : ∀ v, B' 401 v = B 401 v := fun v => hB 401 v (by decide)
  have b403 : ∀ v, B' 403 v = B 403 v := fun v => hB 403 v (by decide)
  have b404 : ∀ v, B' 404 v = B 404 v := fun v => hB 404 v (by decide)
  have a23 : ∀ j, A' 23 j = A 23 j := fun j => hA 23 j (by decide)
  have a24 : ∀ j, A' 24 j = A 24 j := fun j => hA 24 j (by decide)
  have a25 : ∀ j, A' 25 j = A 25 j := fun j => hA 25 j (by decide)
  have a26 : ∀ j, A' 26 j = A 26 j := fun j => hA 26 j (by decide)
  have a27 : ∀ j, A' 27 j = A 27 j := fun j => hA 27 j (by decide)
  unfold RepC eqF
  unfold RepC eqF at h
  simp only [b2, b400, b401, b403, b404, a23, a24, a25, a26, a27]
  exact h
theorem RepN.fr {B B' : Fl} {A A' : Il} (h : RepN B A) (hB : ∀ k v, (k = 402) → B' k v = B k v) (hA : ∀ a j, (a = 23 ∨ a = 28) → A' a j = A a j) : RepN B' A' := by
  have b402 : ∀ v, B' 402 v = B 402 v := fun v => hB 402 v (by decide)
  have a23 : ∀ j, A' 23 j = A 23 j := fun j => hA 23 j (by decide)
  have a28 : ∀ j, A' 28 j = A 28 j := fun j => hA 28 j (by decide)
  unfold RepN
  unfold RepN at h
  simp only [b402, a23, a28]
  exact h
theorem RepK.fr {c : Nat → Nat} {B B' : Fl} {A A' : Il} (h : RepK c B A) (hB : ∀ k v, (k = 2 ∨ k = 300 ∨ k = 301 ∨ k = 302 ∨ k = 303) → B' k v = B k v) (hA : ∀ a j, (a = 29 ∨ a = 30 ∨ a = 31 ∨ a = 32 ∨ a = 33 ∨ a = 54) → A' a j = A a j) : RepK c B' A' := by
  have b2 : ∀ v, B' 2 v = B 2 v := fun v => hB 2 v (by decide)
  have b300 : ∀ v, B' 300 v = B 300 v := fun v => hB 300 v (by decide)
  have b301 : ∀ v, B' 301 v = B 301 v := fun v => hB 301 v (by decide)
  have b302 : ∀ v, B' 302 v = B 302 v := fun v => hB 302 v (by decide)
  have b303 : ∀ v, B' 303 v = B 303 v := fun v => hB 303 v (by decide)
  have a29 : ∀ j, A' 29 j = A 29 j := fun j => hA 29 j (by decide)
  have a30 : ∀ j, A' 30 j = A 30 j := fun j => hA 30 j (by decide)
  have a31 : ∀ j, A' 31 j = A 31 j := fun j => hA 31 j (by decide)
  have a32 : ∀ j, A' 32 j = A 32 j := fun j => hA 32 j (by decide)
  have a33 : ∀ j, A' 33 j = A 33 j := fun j => hA 33 j (by decide)
  have a54 : ∀ j, A' 54 j = A 54 j := fun j => hA 54 j (by decide)
  unfold RepK eqF
  unfold RepK eqF at h
  simp only [b2, b300, b301, b302, b303, a29, a30, a31, a32, a33, a54]
  exact h
theorem RepL.fr {c : Nat → Nat} {B B' : Fl} {A A' : Il} (h : RepL c B A) (hB : ∀ k v, (k = 2 ∨ k = 100 ∨ k = 101 ∨ k = 102 ∨ k = 103) → B' k v = B k v) (hA : ∀ a j, (a = 54 ∨ a = 55 ∨ a = 56 ∨ a = 57 ∨ a = 58) → A' a j = A a j) : RepL c B' A' := by
  have b2 : ∀ v, B' 2 v = B 2 v := fun v => hB 2 v (by decide)
  have b100 : ∀ v, B' 100 v = B 100 v := fun v => hB 100 v (by decide)
  have b101 : ∀ v, B' 101 v = B 101 v := fun v => hB 101 v (by decide)
  have b102 : ∀ v, B' 102 v = B 102 v := fun v => hB 102 v (by decide)
  have b103 : ∀ v, B' 103 v = B 103 v := fun v => hB 103 v (by decide)
  have a54 : ∀ j, A' 54 j = A 54 j := fun j => hA 54 j (by decide)
  have a55 : ∀ j, A' 55 j = A 55 j := fun j => hA 55 j (by decide)
  have a56 : ∀ j, A' 56 j = A 56 j := fun j => hA 56 j (by decide)
  have a57 : ∀ j, A' 57 j = A 57 j := fun j => hA 57 j (by decide)
  have a58 : ∀ j, A' 58 j = A 58 j := fun j => hA 58 j (by decide)
  unfold RepL eqF
  unfold RepL eqF at h
  simp only [b2, b100, b101, b102, b103, a54, a55, a56, a57, a58]
  exact h
theorem RepR.fr {E E' : El} {A A' : Il} (h : RepR E A) (hE : ∀ j, E' (.inl 3) j = E (.inl 3) j) (hE2 : ∀ j, E' (.inl 4) j = E (.inl 4) j) (hA : ∀ a j, (a = 59) → A' a j = A a j) : RepR E' A' := by
  have a59 : ∀ j, A' 59 j = A 59 j := fun j => hA 59 j (by decide)
  unfold RepR
  unfold RepR at h
  simp only [a59, hE, hE2]
  exact h
theorem RepD.fr {LN : Nat → Nat} {B B' : Fl} {E E' : El} {A A' : Il} (h : RepD LN B E A) (hB : ∀ k v, (k = 601) → B' k v = B k v) (hE : ∀ v j, E' (.inr v) j = E (.inr v) j) (hA : ∀ a j, (a = 6 ∨ a = 52 ∨ a = 53) → A' a j = A a j) : RepD LN B' E' A' := by
  have b601 : ∀ v, B' 601 v = B 601 v := fun v => hB 601 v (by decide)
  have a6 : ∀ j, A' 6 j = A 6 j := fun j => hA 6 j (by decide)
  have a52 : ∀ j, A' 52 j = A 52 j := fun j => hA 52 j (by decide)
  have a53 : ∀ j, A' 53 j = A 53 j := fun j => hA 53 j (by decide)
  unfold RepD rowR
  unfold RepD rowR at h
  simp only [b601, a6, a52, a53, hE]
  exact h
theorem RepY.fr {LN : Nat → Nat} {B B' : Fl} {E E' : El} {A A' : Il} (h : RepY LN B E A) (hB : ∀ k v, (k = 601) → B' k v = B k v) (hE : ∀ v j, E' (.inr v) j = E (.inr v) j) (hA : ∀ a j, (a = 29 ∨ a = 31 ∨ a = 32 ∨ a = 34 ∨ a = 35) → A' a j = A a j) : RepY LN B' E' A' := by
  have b601 : ∀ v, B' 601 v = B 601 v := fun v => hB 601 v (by decide)
  have a29 : ∀ j, A' 29 j = A 29 j := fun j => hA 29 j (by decide)
  have a31 : ∀ j, A' 31 j = A 31 j := fun j => hA 31 j (by decide)
  have a32 : ∀ j, A' 32 j = A 32 j := fun j => hA 32 j (by decide)
  have a34 : ∀ j, A' 34 j = A 34 j := fun j => hA 34 j (by decide)
  have a35 : ∀ j, A' 35 j = A 35 j := fun j => hA 35 j (by decide)
  unfold RepY rowR
  unfold RepY rowR at h
  simp only [b601, a29, a31, a32, a34, a35, hE]
  exact h
theorem RepU.fr {LN : Nat → Nat} {B B' : Fl} {E E' : El} {A A' : Il} (h : RepU LN B E A) (hB : ∀ k v, (k = 601) → B' k v = B k v) (hE : ∀ v j, E' (.inr v) j = E (.inr v) j) (hA : ∀ a j, (a = 29 ∨ a = 32 ∨ a = 36 ∨ a = 43 ∨ a = 44) → A' a j = A a j) : RepU LN B' E' A' := by
  have b601 : ∀ v, B' 601 v = B 601 v := fun v => hB 601 v (by decide)
  have a29 : ∀ j, A' 29 j = A 29 j := fun j => hA 29 j (by decide)
  have a32 : ∀ j, A' 32 j = A 32 j := fun j => hA 32 j (by decide)
  have a36 : ∀ j, A' 36 j = A 36 j := fun j => hA 36 j (by decide)
  have a43 : ∀ j, A' 43 j = A 43 j := fun j => hA 43 j (by decide)
  have a44 : ∀ j, A' 44 j = A 44 j := fun j => hA 44 j (by decide)
  unfold RepU rowR
  unfold RepU rowR at h
  simp only [b601, a29, a32, a36, a43, a44, hE]
  exact h
theorem RepW.fr {A A' : Il} (h : RepW A) (hA : ∀ a j, (a = 29 ∨ a = 31 ∨ a = 32 ∨ a = 34 ∨ a = 35 ∨ a = 36 ∨ a = 43 ∨ a = 44) → A' a j = A a j) : RepW A' := by
  have a29 : ∀ j, A' 29 j = A 29 j := fun j => hA 29 j (by decide)
  have a31 : ∀ j, A' 31 j = A 31 j := fun j => hA 31 j (by decide)
  have a32 : ∀ j, A' 32 j = A 32 j := fun j => hA 32 j (by decide)
  have a34 : ∀ j, A' 34 j = A 34 j := fun j => hA 34 j (by decide)
  have a35 : ∀ j, A' 35 j = A 35 j := fun j => hA 35 j (by decide)
  have a36 : ∀ j, A' 36 j = A 36 j := fun j => hA 36 j (by decide)
  have a43 : ∀ j, A' 43 j = A 43 j := fun j => hA 43 j (by decide)
  have a44 : ∀ j, A' 44 j = A 44 j := fun j => hA 44 j (by decide)
  unfold RepW
  unfold RepW at h
  simp only [a29, a31, a32, a34, a35, a36, a43, a44]
  exact h
theorem RepP.fr {LN : Nat → Nat} {B B' : Fl} {E E' : El} {A A' : Il} (h : RepP LN B E A) (hB : ∀ k v, (k = 601) → B' k v = B k v) (hE : ∀ v j, E' (.inr v) j = E (.inr v) j) (hA : ∀ a j, (a = 29 ∨ a = 31 ∨ a = 32 ∨ a = 60 ∨ a = 61 ∨ a = 62) → A' a j = A a j) : RepP LN B' E' A' := by
  have b601 : ∀ v, B' 601 v = B 601 v := fun v => hB 601 v (by decide)
  have a29 : ∀ j, A' 29 j = A 29 j := fun j => hA 29 j (by decide)
  have a31 : ∀ j, A' 31 j = A 31 j := fun j => hA 31 j (by decide)
  have a32 : ∀ j, A' 32 j = A 32 j := fun j => hA 32 j (by decide)
  have a60 : ∀ j, A' 60 j = A 60 j := fun j => hA 60 j (by decide)
  have a61 : ∀ j, A' 61 j = A 61 j := fun j => hA 61 j (by decide)
  have a62 : ∀ j, A' 62 j = A 62 j := fun j => hA 62 j (by decide)
  unfold RepP
  unfold RepP at h
  simp only [b601, a29, a31, a32, a60, a61, a62, pcn_fr a61, hE]
  exact h
theorem RepT.fr {LN : Nat → Nat} {B B' : Fl} {E E' : El} {A A' : Il} (h : RepT LN B E A) (hB : ∀ k v, (k = 601 ∨ k = 800 ∨ k = 801 ∨ k = 802 ∨ k = 803 ∨ k = 804 ∨ k = 805 ∨ k = 806 ∨ k = 807 ∨ k = 808 ∨ k = 811 ∨ k = 812 ∨ k = 813 ∨ k = 814 ∨ k = 815) → B' k v = B k v) (hE : ∀ v j, E' (.inr v) j = E (.inr v) j) (hE2 : ∀ t j, E' (.inl (70 + t)) j = E (.inl (70 + t)) j) (hA : ∀ a j, (a = 1 ∨ a = 6 ∨ a = 7 ∨ a = 17 ∨ a = 18 ∨ a = 19 ∨ a = 20 ∨ a = 22 ∨ a = 23 ∨ a = 25 ∨ a = 33 ∨ a = 36 ∨ a = 37 ∨ a = 38 ∨ a = 39 ∨ a = 40 ∨ a = 41 ∨ a = 42 ∨ a = 43 ∨ a = 44 ∨ a = 45 ∨ a = 46 ∨ a = 47 ∨ a = 48 ∨ a = 49 ∨ a = 50 ∨ a = 51) → A' a j = A a j) : RepT LN B' E' A' := by
  have b601 : ∀ v, B' 601 v = B 601 v := fun v => hB 601 v (by decide)
  have b800 : ∀ v, B' 800 v = B 800 v := fun v => hB 800 v (by decide)
  have b801 : ∀ v, B' 801 v = B 801 v := fun v => hB 801 v (by decide)
  have b802 : ∀ v, B' 802 v = B 802 v := fun v => hB 802 v (by decide)
  have b803 : ∀ v, B' 803 v = B 803 v := fun v => hB 803 v (by decide)
  have b804 : ∀ v, B' 804 v = B 804 v := fun v => hB 804 v (by decide)
  have b805 : ∀ v, B' 805 v = B 805 v := fun v => hB 805 v (by decide)
  have b806 : ∀ v, B' 806 v = B 806 v := fun v => hB 806 v (by decide)
  have b807 : ∀ v, B' 807 v = B 807 v := fun v => hB 807 v (by decide)
  have b808 : ∀ v, B' 808 v = B 808 v := fun v => hB 808 v (by decide)
  have b811 : ∀ v, B' 811 v = B 811 v := fun v => hB 811 v (by decide)
  have b812 : ∀ v, B' 812 v = B 812 v := fun v => hB 812 v (by decide)
  have b813 : ∀ v, B' 813 v = B 813 v := fun v => hB 813 v (by decide)
  have b814 : ∀ v, B' 814 v = B 814 v := fun v => hB 814 v (by decide)
  have b815 : ∀ v, B' 815 v = B 815 v := fun v => hB 815 v (by decide)
  have a1 : ∀ j, A' 1 j = A 1 j := fun j => hA 1 j (by decide)
  have a6 : ∀ j, A' 6 j = A 6 j := fun j => hA 6 j (by decide)
  have a7 : ∀ j, A' 7 j = A 7 j := fun j => hA 7 j (by decide)
  have a17 : ∀ j, A' 17 j = A 17 j := fun j => hA 17 j (by decide)
  have a18 : ∀ j, A' 18 j = A 18 j := fun j => hA 18 j (by decide)
  have a19 : ∀ j, A' 19 j = A 19 j := fun j => hA 19 j (by decide)
  have a20 : ∀ j, A' 20 j = A 20 j := fun j => hA 20 j (by decide)
  have a22 : ∀ j, A' 22 j = A 22 j := fun j => hA 22 j (by decide)
  have a23 : ∀ j, A' 23 j = A 23 j := fun j => hA 23 j (by decide)
  have a25 : ∀ j, A' 25 j = A 25 j := fun j => hA 25 j (by decide)
  have a33 : ∀ j, A' 33 j = A 33 j := fun j => hA 33 j (by decide)
  have a36 : ∀ j, A' 36 j = A 36 j := fun j => hA 36 j (by decide)
  have a37 : ∀ j, A' 37 j = A 37 j := fun j => hA 37 j (by decide)
  have a38 : ∀ j, A' 38 j = A 38 j := fun j => hA 38 j (by decide)
  have a39 : ∀ j, A' 39 j = A 39 j := fun j => hA 39 j (by decide)
  have a40 : ∀ j, A' 40 j = A 40 j := fun j => hA 40 j (by decide)
  have a41 : ∀ j, A' 41 j = A 41 j := fun j => hA 41 j (by decide)
  have a42 : ∀ j, A' 42 j = A 42 j := fun j => hA 42 j (by decide)
  have a43 : ∀ j, A' 43 j = A 43 j := fun j => hA 43 j (by decide)
  have a44 : ∀ j, A' 44 j = A 44 j := fun j => hA 44 j (by decide)
  have a45 : ∀ j, A' 45 j = A 45 j := fun j => hA 45 j (by decide)
  have a46 : ∀ j, A' 46 j = A 46 j := fun j => hA 46 j (by decide)
  have a47 : ∀ j, A' 47 j = A 47 j := fun j => hA 47 j (by decide)
  have a48 : ∀ j, A' 48 j = A 48 j := fun j => hA 48 j (by decide)
  have a49 : ∀ j, A' 49 j = A 49 j := fun j => hA 49 j (by decide)
  have a50 : ∀ j, A' 50 j = A 50 j := fun j => hA 50 j (by decide)
  have a51 : ∀ j, A' 51 j = A 51 j := fun j => hA 51 j (by decide)
  unfold RepT rowR
  unfold RepT rowR at h
  simp only [b601, b800, b801, b802, b803, b804, b805, b806, b807, b808, b811, b812, b813, b814, b815, a1, a6, a7, a17, a18, a19, a20, a22, a23, a25, a33, a36, a37, a38, a39, a40, a41, a42, a43, a44, a45, a46, a47, a48, a49, a50, a51, wgt_fr a33 a43, wend_fr a7 a45, hE, hE2]
  exact h
theorem RepX.fr {A A' : Il} (h : RepX A) (hA : ∀ a j, (a = 6 ∨ a = 17 ∨ a = 19 ∨ a = 22 ∨ a = 23 ∨ a = 25 ∨ a = 36 ∨ a = 37 ∨ a = 38 ∨ a = 39) → A' a j = A a j) : RepX A' := by
  have a6 : ∀ j, A' 6 j = A 6 j := fun j => hA 6 j (by decide)
  have a17 : ∀ j, A' 17 j = A 17 j := fun j => hA 17 j (by decide)
  have a19 : ∀ j, A' 19 j = A 19 j := fun j => hA 19 j (by decide)
  have a22 : ∀ j, A' 22 j = A 22 j := fun j => hA 22 j (by decide)
  have a23 : ∀ j, A' 23 j = A 23 j := fun j => hA 23 j (by decide)
  have a25 : ∀ j, A' 25 j = A 25 j := fun j => hA 25 j (by decide)
  have a36 : ∀ j, A' 36 j = A 36 j := fun j => hA 36 j (by decide)
  have a37 : ∀ j, A' 37 j = A 37 j := fun j => hA 37 j (by decide)
  have a38 : ∀ j, A' 38 j = A 38 j := fun j => hA 38 j (by decide)
  have a39 : ∀ j, A' 39 j = A 39 j := fun j => hA 39 j (by decide)
  unfold RepX
  unfold RepX at h
  simp only [a6, a17, a19, a22, a23, a25, a36, a37, a38, a39]
  exact h
theorem RepZ.fr {A A' : Il} (h : RepZ A) (hA : ∀ a j, (a = 29 ∨ a = 35 ∨ a = 36 ∨ a = 44) → A' a j = A a j) : RepZ A' := by
  have a29 : ∀ j, A' 29 j = A 29 j := fun j => hA 29 j (by decide)
  have a35 : ∀ j, A' 35 j = A 35 j := fun j => hA 35 j (by decide)
  have a36 : ∀ j, A' 36 j = A 36 j := fun j => hA 36 j (by decide)
  have a44 : ∀ j, A' 44 j = A 44 j := fun j => hA 44 j (by decide)
  unfold RepZ
  unfold RepZ at h
  simp only [a29, a35, a36, a44]
  exact h
