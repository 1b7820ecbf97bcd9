/-! the class's cells against the reference's rows, group by group -/
theorem br_T {p : Prop} {a b : Prop} (h : p) (k : a) : (p → a) ∧ (¬ p → b) := ⟨fun _ => k, fun n => absurd h n⟩
theorem br_F {p : Prop} {a b : Prop} (h : ¬ p) (k : b) : (p → a) ∧ (¬ p → b) := ⟨fun n => absurd n h, fun _ => k⟩
theorem bn_T {p : Prop} {a b : Prop} (h : p) (k : b) : (¬ p → a) ∧ (p → b) := ⟨fun n => absurd h n, fun _ => k⟩
theorem bn_F {p : Prop} {a b : Prop} (h : ¬ p) (k : a) : (¬ p → a) ∧ (p → b) := ⟨fun _ => k, fun n => absurd n h⟩
theorem u2_k {α : Type} {B : Nat → Nat → α} {k k' v v' : Nat} {z : α} (h : k' ≠ k) : u2 B k v z k' v' = B k' v' := if_neg (fun w => h w.1)
theorem u2_v {α : Type} {B : Nat → Nat → α} {k v v' : Nat} {z : α} (h : v' ≠ v) : u2 B k v z k v' = B k v' := if_neg (fun w => h w.2)
theorem u2_s {α : Type} {B : Nat → Nat → α} {k v : Nat} {z : α} : u2 B k v z k v = z := if_pos ⟨rfl, rfl⟩
theorem sc_s {A : Il} {k : Nat} {z j : Int} : sc A k z k j = z := if_pos rfl
theorem sc_k {A : Il} {k k' : Nat} {z j : Int} (h : k' ≠ k) : sc A k z k' j = A k' j := if_neg h
theorem ui_k {A : Il} {k k' : Nat} {i z j : Int} (h : k' ≠ k) : ui A k i z k' j = A k' j := if_neg (fun w => h w.1)
theorem ui_s {A : Il} {k : Nat} {i z : Int} : ui A k i z k i = z := if_pos ⟨rfl, rfl⟩
theorem ui_j {A : Il} {k : Nat} {i j z : Int} (h : j ≠ i) : ui A k i z k j = A k j := if_neg (fun w => h w.2)
/-- field k of the things from base on is row a of the reference, below n -/
def eqF (B : Fl) (A : Il) (k base a : Nat) (n : Int) : Prop := ∀ j : Int, 0 ≤ j → j < n → B k (base + j.toNat) = A a j
section EqF
variable {B : Fl} {A : Il} {k base a : Nat} {n : Int}
theorem eqF.oB {k' v : Nat} {z : Int} (hk : k' ≠ k) (h : eqF B A k base a n) : eqF (u2 B k' v z) A k base a n := fun j h0 h1 => (u2_k (fun w => hk w.symm)).trans (h j h0 h1)
theorem eqF.oN {k' v : Nat} {z : Int} (hv : v < base ∨ base + n.toNat ≤ v) (h : eqF B A k base a n) : eqF (u2 B k' v z) A k base a n := fun j h0 h1 => (if_neg (fun w => by
  have := w.2
  omega)).trans (h j h0 h1)
theorem eqF.oA {a' : Nat} {i z : Int} (ha : a' ≠ a) (h : eqF B A k base a n) : eqF B (ui A a' i z) k base a n := fun j h0 h1 => (h j h0 h1).trans (ui_k (fun w => ha w.symm)).symm
theorem eqF.oS {a' : Nat} {z : Int} (ha : a' ≠ a) (h : eqF B A k base a n) : eqF B (sc A a' z) k base a n := fun j h0 h1 => (h j h0 h1).trans (sc_k (fun w => ha w.symm)).symm
theorem eqF.set {i z : Int} (hi : 0 ≤ i) (h : eqF B A k base a n) : eqF (u2 B k (base + i.toNat) z) (ui A a i z) k base a n := fun j h0 h1 => by
  by_cases e : j = i
  · subst e
    rw [u2_s, ui_s]
  · rw [u2_v (by omega), ui_j e]
    exact h j h0 h1
end EqF
/-- a Row v: how many it holds, what -/
def rowR (LN : Nat → Nat) (B : Fl) (E : El) (v : Nat) (n : Int) (f : Int → Int) : Prop := B 601 v = n ∧ 0 ≤ n ∧ n ≤ (LN v : Int) ∧ ∀ p : Int, 0 ≤ p → p < n → E (.inr v) p = f p
/-- the whole: clock, cash, debt, what was broken -/
def RepG (B : Fl) (A : Il) : Prop := B 912 0 = A 1 0 ∧ B 913 0 = A 2 0 ∧ B 914 0 = A 3 0 ∧ B 915 0 = A 4 0 ∧ (0 ≤ A 1 0 ∧ A 1 0 ≤ 20000) ∧ rg (A 2 0) ∧ 0 ≤ A 3 0 ∧ A 3 0 ≤ 50000
/-- stations -/
def RepS (B : Fl) (A : Il) : Prop := eqF B A 700 20 5 8 ∧ ∀ j : Int, 0 ≤ j → j < 8 → 1 ≤ A 5 j ∧ A 5 j ≤ 4
/-- blocks -/
def RepB (c : Nat → Nat) (B : Fl) (A : Il) : Prop := (A 6 0 = (c 8 : Int) ∧ B 2 8 = A 6 0 ∧ c 8 ≤ 16) ∧
  (∀ j : Int, 0 ≤ j → j < A 6 0 → B 200 (100 + j.toNat) = A 7 (2 * j) ∧ B 201 (100 + j.toNat) = A 7 (2 * j + 1) ∧ 0 ≤ A 7 (2 * j) ∧ A 7 (2 * j) < 8 ∧ 0 ≤ A 7 (2 * j + 1) ∧ A 7 (2 * j + 1) < 8 ∧ A 7 (2 * j) ≠ A 7 (2 * j + 1) ∧ 2 ≤ A 8 j ∧ A 8 j ≤ 60 ∧ 0 ≤ A 9 j ∧ A 9 j ≤ 3) ∧
  eqF B A 202 100 8 (A 6 0) ∧ eqF B A 203 100 9 (A 6 0) ∧ eqF B A 204 100 10 (A 6 0) ∧ eqF B A 205 100 13 (A 6 0) ∧ eqF B A 206 100 14 (A 6 0) ∧ eqF B A 207 100 15 (A 6 0) ∧ eqF B A 208 100 16 (A 6 0) ∧ eqF B A 209 100 11 (A 6 0) ∧ eqF B A 210 100 12 (A 6 0) ∧
  (∀ j : Int, 0 ≤ j → j < A 6 0 → (A 13 j = 0 ∨ A 13 j = 1) ∧ (A 14 j = 0 ∨ A 14 j = 1) ∧ (A 12 j = 0 ∨ A 12 j = 1) ∧ 0 ≤ A 15 j ∧ A 15 j ≤ 1440 ∧ A 15 j ≤ A 16 j ∧ A 16 j ≤ 1440)
/-- blocks that are not yet laid -/
def Rep0 (A : Il) : Prop := ∀ j : Int, A 6 0 ≤ j → j < 16 → A 10 j = 0 ∧ A 11 j = 0 ∧ A 12 j = 0 ∧ A 13 j = 0 ∧ A 14 j = 0 ∧ A 15 j = 0 ∧ A 16 j = 0
/-- by whom a block is held: the class keeps until when -/
def RepH (B : Fl) (A : Il) : Prop := ∀ j : Int, 0 ≤ j → j < A 6 0 → A 17 j = (if A 1 0 < B 212 (100 + j.toNat) then B 211 (100 + j.toNat) else -1) ∧ (A 17 j ≠ -1 → A 18 j = B 212 (100 + j.toNat)) ∧ -1 ≤ A 17 j ∧ A 17 j < 6
/-- engines -/
def RepE (c : Nat → Nat) (B : Fl) (A : Il) : Prop := (A 19 0 = (c 9 : Int) ∧ B 2 9 = A 19 0 ∧ c 9 ≤ 6) ∧ eqF B A 500 120 20 (A 19 0) ∧ eqF B A 501 120 21 (A 19 0) ∧ eqF B A 502 120 22 (A 19 0) ∧ ∀ j : Int, 0 ≤ j → j < A 19 0 → 1 ≤ A 20 j ∧ A 20 j ≤ 9 ∧ 0 ≤ A 21 j ∧ A 21 j < 8 ∧ -1 ≤ A 22 j ∧ A 22 j < 6
/-- crews -/
def RepC (c : Nat → Nat) (B : Fl) (A : Il) : Prop := (A 23 0 = (c 10 : Int) ∧ B 2 10 = A 23 0 ∧ c 10 ≤ 6) ∧ eqF B A 400 130 24 (A 23 0) ∧ eqF B A 401 130 25 (A 23 0) ∧ eqF B A 403 130 26 (A 23 0) ∧ eqF B A 404 130 27 (A 23 0) ∧ (∀ j : Int, 0 ≤ j → j < A 23 0 → 0 ≤ A 24 j ∧ A 24 j < 8 ∧ -1 ≤ A 25 j ∧ A 25 j < 6 ∧ 0 ≤ A 26 j ∧ A 26 j ≤ 600 ∧ 0 ≤ A 27 j ∧ A 27 j ≤ 20480) ∧ ∀ j : Int, A 23 0 ≤ j → j < 6 → A 26 j = 0 ∧ A 27 j = 0
/-- the blocks that crews know: bits here, places there -/
def RepN (B : Fl) (A : Il) : Prop := (∀ j : Int, 0 ≤ j → j < A 23 0 → 0 ≤ B 402 (130 + j.toNat) ∧ B 402 (130 + j.toNat) < 65536 ∧ ∀ b : Int, 0 ≤ b → b < 16 → ((B 402 (130 + j.toNat)).toNat.testBit b.toNat = true ↔ ¬ A 28 (16 * j + b) = 0)) ∧ (∀ j : Int, 0 ≤ j → j < 96 → A 28 j = 0 ∨ A 28 j = 1) ∧ ∀ j : Int, 16 * A 23 0 ≤ j → j < 96 → A 28 j = 0
/-- cars -/
def RepK (c : Nat → Nat) (B : Fl) (A : Il) : Prop := (A 29 0 = (c 11 : Int) ∧ B 2 11 = A 29 0 ∧ c 11 ≤ 20) ∧ eqF B A 300 140 30 (A 29 0) ∧ eqF B A 301 140 31 (A 29 0) ∧ eqF B A 302 140 32 (A 29 0) ∧ eqF B A 303 140 33 (A 29 0) ∧ ∀ j : Int, 0 ≤ j → j < A 29 0 → 0 ≤ A 30 j ∧ A 30 j < 8 ∧ 0 ≤ A 31 j ∧ A 31 j < 8 ∧ -1 ≤ A 32 j ∧ A 32 j < 6 ∧ -1 ≤ A 33 j ∧ A 33 j < A 54 0
/-- bills -/
def RepL (c : Nat → Nat) (B : Fl) (A : Il) : Prop := (A 54 0 = (c 12 : Int) ∧ B 2 12 = A 54 0 ∧ c 12 ≤ 0) ∧ eqF B A 100 180 55 (A 54 0) ∧ eqF B A 101 180 56 (A 54 0) ∧ eqF B A 102 180 57 (A 54 0) ∧ eqF B A 103 180 58 (A 54 0) ∧ (∀ j : Int, 0 ≤ j → j < A 54 0 → 0 ≤ A 55 j ∧ A 55 j < 8 ∧ 0 ≤ A 56 j ∧ A 56 j < 8 ∧ 1 ≤ A 57 j ∧ A 57 j ≤ 999 ∧ (A 58 j = 0 ∨ A 58 j = 1)) ∧ ∀ j : Int, A 54 0 ≤ j → j < 40 → A 58 j = 0
/-- rates -/
def RepR (E : El) (A : Il) : Prop := ∀ j : Int, 0 ≤ j → j < 64 → E (.inl 3) j = A 59 j ∧ E (.inl 4) j = A 59 (64 + j) ∧ 1 ≤ A 59 j ∧ A 59 j ≤ 999 ∧ 1 ≤ A 59 (64 + j) ∧ A 59 (64 + j) ≤ 999
/-- what is drafted; the row for sorting -/
def RepD (LN : Nat → Nat) (B : Fl) (E : El) (A : Il) : Prop := LN 6 = 8 ∧ LN 7 = 20 ∧ rowR LN B E 6 (A 52 0) (fun p => A 53 p) ∧ (∀ p : Int, 0 ≤ p → p < A 52 0 → 0 ≤ A 53 p ∧ A 53 p < A 6 0) ∧ 0 ≤ B 601 7 ∧ B 601 7 ≤ 20
/-- yards -/
def RepY (LN : Nat → Nat) (B : Fl) (E : El) (A : Il) : Prop := ∀ s : Int, 0 ≤ s → s < 8 → rowR LN B E (30 + s.toNat) (A 35 s) (fun p => A 34 (20 * s + p)) ∧ A 35 s ≤ 20 ∧ 1 ≤ LN (30 + s.toNat) ∧ ∀ p : Int, 0 ≤ p → p < A 35 s → 0 ≤ A 34 (20 * s + p) ∧ A 34 (20 * s + p) < A 29 0 ∧ A 32 (A 34 (20 * s + p)) = -1 ∧ A 31 (A 34 (20 * s + p)) = s ∧ ∀ q : Int, 0 ≤ q → q < A 35 s → A 34 (20 * s + q) = A 34 (20 * s + p) → q = p
/-- the cars of trains -/
def RepU (LN : Nat → Nat) (B : Fl) (E : El) (A : Il) : Prop := ∀ t : Int, 0 ≤ t → t < 6 → LN (50 + t.toNat) = 10 ∧ (A 36 t = 1 → rowR LN B E (50 + t.toNat) (A 44 t) (fun p => A 43 (10 * t + p)) ∧ ∀ p : Int, 0 ≤ p → p < A 44 t → 0 ≤ A 43 (10 * t + p) ∧ A 43 (10 * t + p) < A 29 0 ∧ A 32 (A 43 (10 * t + p)) = t ∧ ∀ q : Int, 0 ≤ q → q < A 44 t → A 43 (10 * t + q) = A 43 (10 * t + p) → q = p)
/-- each car is where it is said to be -/
def RepW (A : Il) : Prop := ∀ k : Int, 0 ≤ k → k < A 29 0 → (A 32 k = -1 → ∃ p : Int, 0 ≤ p ∧ p < A 35 (A 31 k) ∧ A 34 (20 * A 31 k + p) = k) ∧ (A 32 k ≠ -1 → A 36 (A 32 k) = 1 ∧ ∃ p : Int, 0 ≤ p ∧ p < A 44 (A 32 k) ∧ A 43 (10 * A 32 k + p) = k)
/-- how many papers of car k are among the first n -/
def pcn (A : Il) (k : Int) : Nat → Int
  | 0 => 0
  | n + 1 => pcn A k n + if A 61 (n : Int) = k then 1 else 0
/-- papers -/
def RepP (LN : Nat → Nat) (B : Fl) (E : El) (A : Il) : Prop := 0 ≤ A 60 0 ∧ A 60 0 ≤ 1024 ∧ (∀ i : Int, 0 ≤ i → i < A 60 0 → 0 ≤ A 61 i ∧ A 61 i < A 29 0) ∧ ∀ k : Int, 0 ≤ k → k < A 29 0 → B 601 (160 + k.toNat) = pcn A k (A 60 0).toNat ∧ B 601 (160 + k.toNat) ≤ (LN (160 + k.toNat) : Int) ∧ (∃ e : Nat, e ≤ 8 ∧ LN (160 + k.toNat) = 4 * 2 ^ e) ∧ (∀ i : Nat, (i : Int) < A 60 0 → A 61 (i : Int) = k → E (.inr (160 + k.toNat)) (pcn A k i) = A 62 (i : Int)) ∧ ∃ p : Int, 0 ≤ p ∧ p < B 601 (160 + k.toNat) ∧ E (.inr (160 + k.toNat)) p = (if A 32 k = -1 then A 31 k else 100 + A 32 k) ∧ ∀ q : Int, p < q → q < B 601 (160 + k.toNat) → 200 ≤ E (.inr (160 + k.toNat)) q
/-- the weight of a train: 2 for each empty car, 5 for each loaded one -/
def wgt (A : Il) (t : Int) : Nat → Int
  | 0 => 0
  | n + 1 => wgt A t n + if A 33 (A 43 (10 * t + (n : Int))) = -1 then 2 else 5
/-- where the other end of a block is -/
def oth (A : Il) (b s : Int) : Int := if A 7 (2 * b) = s then A 7 (2 * b + 1) else if A 7 (2 * b + 1) = s then A 7 (2 * b) else -1
/-- where a way leads, from its place i on, n blocks of it -/
def wend (A : Il) (t : Int) : Nat → Int → Int → Int
  | 0, _, s => s
  | n + 1, i, s => wend A t n (i + 1) (oth A (A 45 (8 * t + i)) s)
/-- ready or running -/
def Rn (z : Int) : Prop := z = 1 ∨ z = 2
/-- trains -/
def RepT (LN : Nat → Nat) (B : Fl) (E : El) (A : Il) : Prop := ∀ t : Int, 0 ≤ t → t < 6 → B 800 (40 + t.toNat) = t ∧ LN (60 + t.toNat) = 8 ∧ (A 36 t = 0 ∨ A 36 t = 1) ∧ (A 36 t = 0 → B 801 (40 + t.toNat) = -1) ∧
  (A 36 t = 1 → B 801 (40 + t.toNat) = A 39 t ∧ 0 ≤ A 39 t ∧ A 39 t ≤ 3 ∧
    B 802 (40 + t.toNat) = A 37 t ∧ 0 ≤ A 37 t ∧ A 37 t < A 19 0 ∧ A 22 (A 37 t) = t ∧
    B 803 (40 + t.toNat) = A 38 t ∧ 0 ≤ A 38 t ∧ A 38 t < A 23 0 ∧ A 25 (A 38 t) = t ∧
    B 804 (40 + t.toNat) = A 20 (A 37 t) ∧
    B 805 (40 + t.toNat) = (if A 39 t = 3 then -1 else A 40 t) ∧ 0 ≤ A 40 t ∧ A 40 t < 8 ∧
    B 806 (40 + t.toNat) = A 41 t ∧ (A 41 t = -1 ↔ A 39 t ≤ 1) ∧ -1 ≤ A 41 t ∧ A 41 t < A 6 0 ∧
    (A 39 t = 2 → B 807 (40 + t.toNat) = A 42 t ∧ A 1 0 < A 42 t ∧ A 42 t ≤ 30000 ∧ A 17 (A 41 t) = t ∧ A 18 (A 41 t) = A 42 t + (1 + A 44 t / 4)) ∧
    B 808 (40 + t.toNat) = wgt A t (A 44 t).toNat ∧ 0 ≤ A 44 t ∧ A 44 t ≤ 10 ∧
    0 ≤ A 46 t ∧ A 46 t ≤ A 47 t ∧ A 47 t ≤ 8 ∧
    (A 39 t = 3 → B 601 (60 + t.toNat) = 0 ∧ B 811 (40 + t.toNat) = 0 ∧ A 46 t = A 47 t) ∧
    (A 39 t ≠ 3 → rowR LN B E (60 + t.toNat) (A 47 t) (fun p => A 45 (8 * t + p)) ∧ B 811 (40 + t.toNat) = A 46 t ∧ (∀ p : Int, 0 ≤ p → p < A 47 t → 0 ≤ A 45 (8 * t + p) ∧ A 45 (8 * t + p) < A 6 0) ∧ ∀ n : Nat, (n : Int) ≤ A 47 t - A 46 t → wend A t n (A 46 t) (A 40 t) ≠ -1) ∧
    (A 39 t = 0 → A 46 t = A 47 t) ∧ (A 39 t = 1 → A 46 t < A 47 t) ∧
    (Rn (A 39 t) → B 812 (40 + t.toNat) = A 48 t ∧ B 813 (40 + t.toNat) = A 49 t ∧ 0 ≤ A 49 t ∧ A 49 t ≤ 9) ∧
    B 814 (40 + t.toNat) = A 50 t ∧ -1 ≤ A 50 t ∧ A 50 t < 6 ∧ (A 50 t ≠ -1 → B 815 (40 + t.toNat) = A 51 t) ∧
    ∀ b : Int, 0 ≤ b → b < 16 → (if b < A 6 0 ∧ A 17 b = t ∧ ¬ (A 39 t = 2 ∧ A 41 t = b) then E (.inl (70 + t.toNat)) b = A 18 b else A 39 t ≠ 3 → E (.inl (70 + t.toNat)) b ≤ A 1 0))
/-- who is held by whom: engines, crews, blocks by trains that are there -/
def RepX (A : Il) : Prop := (∀ j : Int, 0 ≤ j → j < A 19 0 → A 22 j ≠ -1 → A 36 (A 22 j) = 1 ∧ A 37 (A 22 j) = j) ∧ (∀ j : Int, 0 ≤ j → j < A 23 0 → A 25 j ≠ -1 → A 36 (A 25 j) = 1 ∧ A 38 (A 25 j) = j) ∧ (∀ j : Int, 0 ≤ j → j < A 6 0 → A 17 j ≠ -1 → A 36 (A 17 j) = 1 ∧ A 39 (A 17 j) ≠ 3)
theorem kd8 {c : Nat → Nat} {v : Nat} (h0 : 100 ≤ v) (h1 : v < 100 + c 8) (h2 : c 8 ≤ 16) : kd c v = 2 := by
  unfold kd
  repeat' (first | omega | (refine ite_ez (fun _ => ?_) (fun _ => ?_)))
theorem m_in {x lo hi : Int} {A : Il} {Q : Int → Prop} (h : Q (if lo ≤ x ∧ x ≤ hi then 1 else 0)) : W_X9_in x lo hi A Q := by
  unfold W_X9_in
  refine ⟨fun c1 => ?_, fun c1 => ⟨fun c2 => ?_, fun c2 => ?_⟩⟩
  · rw [if_neg (by omega)] at h; exact h
  · rw [if_neg (by omega)] at h; exact h
  · rw [if_pos (by omega)] at h; exact h
theorem m_in1 {x lo hi : Int} {A : Il} {Q : Int → Prop} (hx : lo ≤ x ∧ x ≤ hi) (h : Q 1) : W_X9_in x lo hi A Q := m_in (by rw [if_pos hx]; exact h)
theorem m_in0 {x lo hi : Int} {A : Il} {Q : Int → Prop} (hx : ¬ (lo ≤ x ∧ x ≤ hi)) (h : Q 0) : W_X9_in x lo hi A Q := m_in (by rw [if_neg hx]; exact h)
theorem m_isBlock1 {x : Int} {A : Il} {Q : Int → Prop} (h0 : 0 ≤ A 6 0 ∧ A 6 0 ≤ 16) (hx : 0 ≤ x ∧ x < A 6 0) (h : Q 1) : W_X9_isBlock x A Q := by
  unfold W_X9_isBlock
  rw [w32_id (by unfold rg; omega)]
  exact m_in1 (by omega) ⟨Or.inr rfl, h⟩
theorem m_isBlock0 {x : Int} {A : Il} {Q : Int → Prop} (h0 : 0 ≤ A 6 0 ∧ A 6 0 ≤ 16) (hx : ¬ (0 ≤ x ∧ x < A 6 0)) (h : Q 0) : W_X9_isBlock x A Q := by
  unfold W_X9_isBlock
  rw [w32_id (by unfold rg; omega)]
  exact m_in0 (by omega) ⟨Or.inl rfl, h⟩
section Req
variable {c LN : Nat → Nat} {B : Fl} {E : El} {QX : String → Fl → El → Prop}
theorem q_range1 {x lo hi : Int} {Q : Prop} (hx : lo ≤ x ∧ x ≤ hi) (h : Q) : W_X8_requireRange c LN x lo hi B E Q QX := by
  unfold W_X8_requireRange W_X8_requireRange_15 W_X8_requireArgument
  exact br_F (by omega) (br_F (by omega) (bn_F (by decide) h))
theorem q_range0 {x lo hi : Int} {Q : Prop} (hx : ¬ (lo ≤ x ∧ x ≤ hi)) (h : QX "java/lang/IllegalArgumentException" B E) : W_X8_requireRange c LN x lo hi B E Q QX := by
  unfold W_X8_requireRange W_X8_requireRange_14 W_X8_requireRange_15 W_X8_requireArgument
  exact ⟨fun _ => bn_T rfl h, fun _ => ⟨fun _ => bn_T rfl h, fun _ => by omega⟩⟩
theorem q_state1 {Q : Prop} (h : Q) : W_X8_requireState c LN 1 B E Q QX := bn_F (by decide) h
theorem q_state0 {Q : Prop} (h : QX "java/lang/IllegalStateException" B E) : W_X8_requireState c LN 0 B E Q QX := bn_T rfl h
theorem q_index1 {x n : Int} {Q : Prop} (hx : 0 ≤ x ∧ x < n) (h : Q) : W_X8_requireIndex c LN x n B E Q QX := br_F (by omega) (br_T hx.2 h)
theorem q_index0 {x n : Int} {Q : Prop} (hx : ¬ (0 ≤ x ∧ x < n)) (h : QX "java/lang/IndexOutOfBoundsException" B E) : W_X8_requireIndex c LN x n B E Q QX := ⟨fun _ => h, fun _ => ⟨fun _ => by omega, fun _ => h⟩⟩
theorem q_blockOf1 {A : Il} {x : Int} {Q : Nat → Prop} (hB : RepB c B A) (hx : 0 ≤ x ∧ x < A 6 0) (h : Q (100 + x.toNat)) : W_X8_blockOf c LN 0 x B E Q QX := by
  obtain ⟨⟨b1, b2, b3⟩, -⟩ := hB
  refine ⟨rfl, rfl, rfl, ?_⟩
  dsimp only
  refine q_index1 (by rw [b2]; exact hx) ⟨rfl, hx.1, by rw [b2]; exact hx.2, by omega, ?_⟩
  exact ⟨kd8 (by show 100 ≤ 100 + _; omega) (by show 100 + _ < _; omega) b3, h⟩
theorem q_blockOf0 {A : Il} {x : Int} {Q : Nat → Prop} (hB : RepB c B A) (hx : ¬ (0 ≤ x ∧ x < A 6 0)) (h : QX "java/lang/IndexOutOfBoundsException" B E) : W_X8_blockOf c LN 0 x B E Q QX := by
  obtain ⟨⟨b1, b2, b3⟩, -⟩ := hB
  refine ⟨rfl, rfl, rfl, ?_⟩
  dsimp only
  exact q_index0 (by rw [b2]; exact hx) h
end Req
/-- how many cars are with trains; papers beside them -/
def tz (A : Il) (t : Int) : Int := if A 36 t = 1 then A 44 t else 0
def pz (A : Il) : Int := A 60 0 + (tz A 0 + tz A 1 + tz A 2 + tz A 3 + tz A 4 + tz A 5)
/-- all cars are somewhere -/
def RepZ (A : Il) : Prop := A 35 0 + A 35 1 + A 35 2 + A 35 3 + A 35 4 + A 35 5 + A 35 6 + A 35 7 + ((if A 36 0 = 1 then A 44 0 else 0) + (if A 36 1 = 1 then A 44 1 else 0) + (if A 36 2 = 1 then A 44 2 else 0) + (if A 36 3 = 1 then A 44 3 else 0) + (if A 36 4 = 1 then A 44 4 else 0) + (if A 36 5 = 1 then A 44 5 else 0)) = A 29 0
/-- the class's cells hold what the reference's rows hold -/
def Rep (c LN : Nat → Nat) (B : Fl) (E : El) (A : Il) : Prop := RepG B A ∧ RepS B A ∧ RepB c B A ∧ Rep0 A ∧ RepH B A ∧ RepE c B A ∧ RepC c B A ∧ RepN B A ∧ RepK c B A ∧ RepL c B A ∧ RepR E A ∧ RepD LN B E A ∧ RepY LN B E A ∧ RepU LN B E A ∧ RepW A ∧ RepP LN B E A ∧ RepT LN B E A ∧ RepX A ∧ RepZ A
