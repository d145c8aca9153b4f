theorem x_colf_a {b : Nat → Int32} {t : Nat} {sg : Bool} : ∀ (k a : Nat) (bg ng : Bool) (v : Nat), (x_colf b t sg k a bg ng v).1 = true → (x_colf b t sg k a bg ng v).2.1 = a + k
  | 0, a, bg, ng, v, _ => rfl
  | k + 1, a, bg, ng, v, h => by
    unfold x_colf at h ⊢
    split at h
    · next h1 =>
      rw [if_pos h1]
      rw [x_colf_a k _ _ _ _ h]
      omega
    · cases h
theorem x_colf_le {b : Nat → Int32} {t : Nat} {sg : Bool} : ∀ (k a : Nat) (bg ng : Bool) (v : Nat), a ≤ t → (x_colf b t sg k a bg ng v).2.1 ≤ t
  | 0, a, bg, ng, v, h => h
  | k + 1, a, bg, ng, v, h => by
    unfold x_colf
    split
    · next h1 => exact x_colf_le k _ _ _ _ (x_col_lt h1)
    · exact h
def x_val (ng : Bool) (v : Nat) : Int32 := if ng = true then -nI v else nI v
theorem x_neg_toInt {v : Nat} (h : v < 2 ^ 31) : (-nI v).toInt = -(v : Int) := sb_negT h
theorem x_val_toInt {ng : Bool} {v : Nat} (h : v < 2 ^ 31) : (x_val ng v).toInt = if ng = true then -(v : Int) else (v : Int) := by
  unfold x_val
  split
  · exact x_neg_toInt h
  · exact nI_toInt h
theorem x_ix_val {ng : Bool} {v : Nat} (h : v < 2 ^ 31) : x_ix (x_val ng v) = decide (v ≤ 127) := by
  unfold x_ix
  have e := x_val_toInt (ng := ng) h
  have e1 : (-127 : Int32).toInt = -127 := by decide
  have e2 : (nI 127).toInt = 127 := by decide
  rw [Bool.eq_iff_iff, Bool.and_eq_true, decide_eq_true_eq, decide_eq_true_eq, decide_eq_true_eq, Int32.le_iff_toInt_le, Int32.le_iff_toInt_le, e, e1, e2]
  cases ng
  · simp; omega
  · simp; omega
theorem x_val_abs {ng : Bool} {v : Nat} (h : v < 2 ^ 31) : (if x_val ng v < 0 then -x_val ng v else x_val ng v) = nI v := by
  have e := x_val_toInt (ng := ng) h
  have h0 : (x_val ng v < 0) = ((x_val ng v).toInt < 0) := propext (by rw [Int32.lt_iff_toInt_lt]; rfl)
  cases ng
  · rw [if_neg (by rw [h0, e]; first | (simp; done) | (simp; omega))]; rfl
  · by_cases hv : v = 0
    · subst hv; decide
    · rw [if_pos (by rw [h0, e]; first | (simp; done) | (simp; omega))]
      show - - nI v = nI v
      exact Int32.neg_neg
/-- a number in hundredths: whether it is one, where the reading ended, its sign, its size -/
def x_hun (b : Nat → Int32) (t : Nat) (sg : Bool) (a : Nat) : Bool × Nat × Bool × Nat :=
  if (x_colf b t sg 5 a false false 0).1 = true then
    if x_lookv b t (a + 5) = nI 46 then
      if x_dig (x_lookv b t (a + 6)) = true then
        if x_dig (x_lookv b t (a + 7)) = true then (true, a + 8, (x_colf b t sg 5 a false false 0).2.2.1, 10 * (10 * (x_colf b t sg 5 a false false 0).2.2.2 + ((x_lookv b t (a + 6)).toNatClampNeg - 48)) + ((x_lookv b t (a + 7)).toNatClampNeg - 48))
        else (false, a + 7, false, 0)
      else (false, a + 6, false, 0)
    else (false, a + 5, false, 0)
  else (false, (x_colf b t sg 5 a false false 0).2.1, false, 0)
def x_idx (b : Nat → Int32) (t a : Nat) : Bool × Nat × Bool × Nat :=
  if (x_colf b t true 4 a false false 0).1 = true then
    if (x_colf b t true 4 a false false 0).2.2.2 ≤ 127 then (true, a + 4, (x_colf b t true 4 a false false 0).2.2.1, (x_colf b t true 4 a false false 0).2.2.2)
    else (false, a + 3, false, 0)
  else (false, (x_colf b t true 4 a false false 0).2.1, false, 0)
