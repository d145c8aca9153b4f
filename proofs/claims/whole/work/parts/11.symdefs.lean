/-! ===== symbols: what the reference's reading says, as functions ===== -/
def x_lookv (b : Nat → Int32) (t a : Nat) : Int32 := if a < t then b a &&& nI 255 else -1
def x_isOrd (c : Int32) : Bool := (decide (nI 49 ≤ c) && decide (c ≤ nI 52)) || decide (c = nI 54)
def x_axAt (n : Nat) (c : Int32) : Int32 := if 1 < n ∧ nI 120 ≤ c ∧ c ≤ nI 122 then c - nI 120 else if n = 2 ∧ c = nI 39 then nI 3 else if n = 2 ∧ c = nI 34 then nI 4 else if n = 3 ∧ c = nI 42 then nI 5 else -1
def x_axFor (such first n : Nat) : Int32 := if such = 0 then nI 2 else if such = 1 ∧ n = 2 then (if first = 2 ∨ first = 4 then nI 0 else if first = 3 ∨ first = 6 then nI 3 else -1) else if n = 3 then nI 5 else -1
def x_one : List Int32 := [nI 1, nI 0, nI 0, nI 0, nI 1, nI 0, nI 0, nI 0, nI 1]
def x_base (n ax : Nat) : List Int32 := if ax = 5 then [nI 0, nI 0, nI 1, nI 1, nI 0, nI 0, nI 0, nI 1, nI 0] else if ax = 3 then [nI 0, -1, nI 0, -1, nI 0, nI 0, nI 0, nI 0, -1] else if ax = 4 then [nI 0, nI 1, nI 0, nI 1, nI 0, nI 0, nI 0, nI 0, -1] else if n = 2 then [-1, nI 0, nI 0, nI 0, -1, nI 0, nI 0, nI 0, nI 1] else if n = 3 then [nI 0, -1, nI 0, nI 1, -1, nI 0, nI 0, nI 0, nI 1] else if n = 4 then [nI 0, -1, nI 0, nI 1, nI 0, nI 0, nI 0, nI 0, nI 1] else [nI 1, -1, nI 0, nI 1, nI 0, nI 0, nI 0, nI 0, nI 1]
def x_rotl (n ax bef : Nat) : List Int32 := if ax < 3 then x_tn ((ax + 1) % 3) (x_base n ax) else if ax = 3 ∨ ax = 4 then x_tn ((bef + 1) % 3) (x_base n ax) else x_base n ax
theorem x_tr_len (l : List Int32) : (x_tr l).length = 9 := rfl
theorem x_base_len (n ax : Nat) : (x_base n ax).length = 9 := by
  unfold x_base
  repeat' split
  all_goals rfl
theorem x_tn_len (k : Nat) (l : List Int32) (h : l.length = 9) : (x_tn k l).length = 9 := by
  cases k with
  | zero => exact h
  | succ k => exact x_tr_len _
theorem x_rotl_len (n ax bef : Nat) : (x_rotl n ax bef).length = 9 := by
  unfold x_rotl
  repeat' split
  · exact x_tn_len _ _ (x_base_len _ _)
  · exact x_tn_len _ _ (x_base_len _ _)
  · exact x_base_len _ _
theorem x_list9 (l : List Int32) (h : l.length = 9) : ∃ a b c d f g h i j, l = [a, b, c, d, f, g, h, i, j] := by
  match l, h with
  | [a, b, c, d, f, g, h, i, j], _ => exact ⟨a, b, c, d, f, g, h, i, j, rfl⟩
