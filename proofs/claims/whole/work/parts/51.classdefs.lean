/-! ===== the class: indices, the tape, questions of a group, as functions ===== -/
def z_mx (a b : Int32) : Int32 := if a < b then b else a
def z_pack (h k l : Int32) : Int32 := ((h + nI 512) <<< (nI 20 &&& 31)) + ((k + nI 512) <<< (nI 10 &&& 31)) + l + nI 512
def z_part (q : Int32) (w : Nat) : Int32 := ((q >>> (nI (20 - 10 * w) &&& 31)) &&& nI 1023) - nI 512
def z_opp (q : Int32) : Int32 := nI 1074791424 - q
def z_box (h k l m : Int32) : Bool := (decide (-m ≤ h) && decide (h ≤ m)) && ((decide (-m ≤ k) && decide (k ≤ m)) && (decide (-m ≤ l) && decide (l ≤ m)))
theorem z_tm (a : Int) : a = 12 * a.tdiv 12 + a.tmod 12 ∧ -11 ≤ a.tmod 12 ∧ a.tmod 12 ≤ 11 ∧ (a < 0 → a.tmod 12 ≤ 0) ∧ (0 ≤ a → 0 ≤ a.tmod 12) := by
  have h0 := Int.mul_tdiv_add_tmod a 12
  rcases Int.lt_or_le a 0 with h | h
  · have h1 : a.tmod 12 = -((-a).tmod 12) := by
      have := Int.neg_tmod (-a) 12
      rw [Int.neg_neg] at this
      exact this
    rw [Int.tmod_eq_emod_of_nonneg (show 0 ≤ -a by omega)] at h1
    omega
  · have h1 := Int.tmod_eq_emod_of_nonneg (b := 12) h
    omega
theorem z_rem12 (x : Int32) : (x_rem x (nI 12)).toInt = x.toInt.tmod 12 := by
  have h2 := x.toInt_lt
  have h3 := x.le_toInt
  have h4 := z_tm x.toInt
  have h1 : (x / nI 12 * nI 12).toInt = x.toInt.tdiv 12 * 12 := by
    rw [Int32.toInt_mul, Int32.toInt_div_of_ne_right _ _ (by decide)]
    show Int.bmod (x.toInt.tdiv 12 * 12) (2 ^ 32) = _
    refine Int.bmod_eq_of_le ?_ ?_ <;> omega
  show (x - x / nI 12 * nI 12).toInt = _
  rw [Int32.toInt_sub, h1, show x.toInt - x.toInt.tdiv 12 * 12 = x.toInt.tmod 12 by omega]
  refine Int.bmod_eq_of_le ?_ ?_ <;> omega
theorem z_rem_ex (x : Int32) : ∃ k, k < 23 ∧ x_rem x (nI 12) = nI k - nI 11 ∧ (x < 0 → k ≤ 11) ∧ (¬ x < 0 → 11 ≤ k) := by
  have h := z_rem12 x
  have h4 := z_tm x.toInt
  refine ⟨(x.toInt.tmod 12 + 11).toNat, by omega, ?_, fun hx => ?_, fun hx => ?_⟩
  · apply Int32.toInt_inj.mp
    rw [h, pk_sub_toInt (by omega) (by decide)]
    omega
  · have h2 := Int32.lt_iff_toInt_lt.mp hx
    have h3 : (0 : Int32).toInt = 0 := rfl
    omega
  · have h2 := Int32.le_iff_toInt_le.mp (Int32.not_lt.mp hx)
    have h3 : (0 : Int32).toInt = 0 := rfl
    omega
theorem z_fm0 : ∀ k, k < 23 → k ≤ 11 → ¬ nI k - nI 11 = 0 → nI k - nI 11 + nI 12 = x_rem (nI k - nI 11 + nI 12) (nI 12) := by decide +kernel
theorem z_fm1 : ∀ k, k < 23 → 11 ≤ k → nI k - nI 11 = x_rem (nI k - nI 11 + nI 12) (nI 12) := by decide +kernel
theorem z_xn (x : Int32) : x ^^^ nI 12 < 0 ↔ x < 0 := by
  have key : ∀ y : Int32, y < 0 ↔ y.toBitVec.msb = true := fun y => by
    rw [Int32.lt_iff_toInt_lt]
    show y.toBitVec.toInt < 0 ↔ _
    rw [BitVec.msb_eq_toInt, decide_eq_true_eq]
  rw [key, key, Int32.toBitVec_xor, BitVec.msb_xor]
  have e : (nI 12).toBitVec.msb = false := by decide
  rw [e, Bool.xor_false]
theorem z_fmod (x : Int32) : (x ^^^ nI 12 < 0 → ¬ x_rem x (nI 12) = 0 → x_rem x (nI 12) + nI 12 = x_md12 x) ∧ (¬ (x ^^^ nI 12 < 0) → x_rem x (nI 12) = x_md12 x) ∧ (x_rem x (nI 12) = 0 → x_rem x (nI 12) = x_md12 x) := by
  obtain ⟨k, h1, h2, h3, h4⟩ := z_rem_ex x
  unfold x_md12
  rw [z_xn, h2]
  refine ⟨fun a b => z_fm0 k h1 (h3 a) b, fun a => z_fm1 k h1 (h4 a), fun a => ?_⟩
  rw [a]
  decide
/-- the tape's four bytes of an int -/
def z_b4 (a : Int32) (j : Nat) : Int32 := vp_nar .byte (a >>> (nI (24 - 8 * j) &&& 31)).toInt8.toInt32
theorem z_cpy_s (g f : Nat → Int32) (d k : Nat) : upd (va_cpy g f 0 d k) (d + k) (g k) = va_cpy g f 0 d (k + 1) := by
  funext j
  by_cases h : j = d + k
  · subst h
    rw [pk_us, pk_cpy_in (by omega) (by omega), show 0 + (d + k - d) = k by omega]
  · rw [pk_un h]
    by_cases h2 : d ≤ j ∧ j < d + k
    · rw [pk_cpy_in h2.1 h2.2, pk_cpy_in (by omega) (by omega)]
    · rw [pk_cpy_out (by omega), pk_cpy_out (by omega)]
theorem z_cpy_0 (g f : Nat → Int32) (d : Nat) : va_cpy g f 0 d 0 = f := by
  funext j
  exact pk_cpy_out (by omega)
theorem z_feed (a b c d e : Int32) (f : Nat → Int32) (t : Nat) : va_cpy (z_b4 e) (va_cpy (z_b4 d) (va_cpy (z_b4 c) (va_cpy (z_b4 b) (va_cpy (z_b4 a) f 0 t 4) 0 (t + 4) 4) 0 (t + 8) 4) 0 (t + 12) 4) 0 (t + 16) 4 = va_cpy (x_fdb a b c d e) f 0 t 20 := by
  funext j
  by_cases h0 : t ≤ j ∧ j < t + 20
  · rw [pk_cpy_in (f := x_fdb a b c d e) h0.1 h0.2, Nat.zero_add]
    unfold x_fdb x_fdv
    rcases (show j < t + 4 ∨ (t + 4 ≤ j ∧ j < t + 8) ∨ (t + 8 ≤ j ∧ j < t + 12) ∨ (t + 12 ≤ j ∧ j < t + 16) ∨ t + 16 ≤ j by omega) with h | h | h | h | h
    · rw [pk_cpy_out (by omega), pk_cpy_out (by omega), pk_cpy_out (by omega), pk_cpy_out (by omega), pk_cpy_in (by omega) (by omega), if_pos (by omega), show (j - t) % 4 = j - t by omega, Nat.zero_add]
      rfl
    · rw [pk_cpy_out (by omega), pk_cpy_out (by omega), pk_cpy_out (by omega), pk_cpy_in (by omega) (by omega), if_neg (by omega), if_pos (by omega), show (j - t) % 4 = j - (t + 4) by omega, Nat.zero_add]
      rfl
    · rw [pk_cpy_out (by omega), pk_cpy_out (by omega), pk_cpy_in (by omega) (by omega), if_neg (by omega), if_neg (by omega), if_pos (by omega), show (j - t) % 4 = j - (t + 8) by omega, Nat.zero_add]
      rfl
    · rw [pk_cpy_out (by omega), pk_cpy_in (by omega) (by omega), if_neg (by omega), if_neg (by omega), if_neg (by omega), if_pos (by omega), show (j - t) % 4 = j - (t + 12) by omega, Nat.zero_add]
      rfl
    · rw [pk_cpy_in (by omega) (by omega), if_neg (by omega), if_neg (by omega), if_neg (by omega), if_neg (by omega), show (j - t) % 4 = j - (t + 16) by omega, Nat.zero_add]
      rfl
  · rw [pk_cpy_out (by omega), pk_cpy_out (by omega), pk_cpy_out (by omega), pk_cpy_out (by omega), pk_cpy_out (by omega), pk_cpy_out (by omega)]
/-! questions of a group: f the numbers, twelve an operator; t the turns -/
def z_sn (f : Nat → Int32) (i j : Nat) (h k l : Int32) : Int32 := h * f (i * 12 + j) + k * f (i * 12 + j + 3) + l * f (i * 12 + j + 6)
def z_ph (f : Nat → Int32) (i : Nat) (h k l : Int32) : Int32 := x_md12 (h * f (i * 12 + 9) + k * f (i * 12 + 9 + 1) + l * f (i * 12 + 9 + 2))
def z_ab1 (f : Nat → Int32) (h k l : Int32) (i : Nat) : Bool := decide (z_sn f i 0 h k l = h) && (decide (z_sn f i 1 h k l = k) && (decide (z_sn f i 2 h k l = l) && !decide (z_ph f i h k l = nI 0)))
def z_abs (f : Nat → Int32) (n : Nat) (h k l : Int32) : Bool := x_anyf (z_ab1 f h k l) n 0
def z_tu (f : Nat → Int32) (h k l : Int32) (i : Nat) : Int32 := z_pack (h * f (i * 12) + k * f (i * 12 + 3) + l * f (i * 12 + 6)) (h * f (i * 12 + 1) + k * f (i * 12 + 4) + l * f (i * 12 + 7)) (h * f (i * 12 + 2) + k * f (i * 12 + 5) + l * f (i * 12 + 8))
def z_gof (f : Nat → Int32) (h k l : Int32) : Nat → Int32
  | 0 => z_pack h k l
  | i + 1 => z_mx (z_gof f h k l i) (z_mx (z_tu f h k l i) (z_opp (z_tu f h k l i)))
def z_ig1 (f : Nat → Int32) (h k l : Int32) (i : Nat) : Bool := decide (z_pack h k l < z_tu f h k l i) || decide (z_pack h k l < z_opp (z_tu f h k l i))
def z_isg (f : Nat → Int32) (c : Nat) (h k l : Int32) : Bool := !x_anyf (z_ig1 f h k l) c 0
def z_st (f : Nat → Int32) (h k l : Int32) : Nat → Nat
  | 0 => 0
  | i + 1 => z_st f h k l i + (if z_tu f h k l i = z_pack h k l then 1 else 0) + (if z_opp (z_tu f h k l i) = z_pack h k l then 1 else 0)
theorem z_st_s (f : Nat → Int32) (h k l : Int32) (i : Nat) : z_st f h k l (i + 1) = z_st f h k l i + (if z_tu f h k l i = z_pack h k l then 1 else 0) + (if z_opp (z_tu f h k l i) = z_pack h k l then 1 else 0) := rfl
theorem z_st_le (f : Nat → Int32) (h k l : Int32) : ∀ c, z_st f h k l c ≤ 2 * c
  | 0 => Nat.le_refl 0
  | i + 1 => by
    have := z_st_le f h k l i
    rw [z_st_s]
    split <;> split <;> omega
def z_mul (f : Nat → Int32) (c : Nat) (h k l : Int32) : Nat := if z_st f h k l c = 0 then 0 else 2 * c / z_st f h k l c
def z_tr1 (f : Nat → Int32) (q : Int32) (i : Nat) : Bool := decide (f (i * 12) + f (i * 12 + 4) + f (i * 12 + 8) = q)
def z_hast (f : Nat → Int32) (c : Nat) (q : Int32) : Bool := x_anyf (z_tr1 f q) c 0
def z_laue (f : Nat → Int32) (c : Nat) : Int32 := if c = 1 then nI 0 else if c = 2 then nI 1 else if c = 3 then nI 5 else if c = 4 then (if z_hast f c (nI 1) = true then nI 3 else nI 2) else if c = 6 then (if z_hast f c (nI 2) = true then nI 7 else nI 6) else if c = 8 then nI 4 else if c = 12 then (if z_hast f c (nI 2) = true then nI 8 else nI 9) else if c = 24 then nI 10 else -1
def z_det (f : Nat → Int32) (a : Nat) : Int32 := f a * (f (a + 4) * f (a + 8) - f (a + 5) * f (a + 7)) - f (a + 1) * (f (a + 3) * f (a + 8) - f (a + 5) * f (a + 6)) + f (a + 2) * (f (a + 3) * f (a + 7) - f (a + 4) * f (a + 6))
def z_pln (f : Nat → Int32) (q : Int32) (i : Nat) : Bool := decide (f i >>> (nI 12 &&& 31) = q)
def z_own (f t : Nat → Int32) (n c : Nat) (h k l : Int32) : Bool := (!(decide (h = 0) && decide (k = 0) && decide (l = 0)) && z_isg t c h k l) && !z_abs f n h k l
def z_c1 (f t : Nat → Int32) (n c m : Nat) (h k : Int32) : Nat := y_cnb (fun j => z_own f t n c h k (y_fm m j)) (2 * m + 1)
def z_c2 (f t : Nat → Int32) (n c m : Nat) (h : Int32) : Nat := y_sum (fun j => z_c1 f t n c m h (y_fm m j)) (2 * m + 1)
def z_c3 (f t : Nat → Int32) (n c m : Nat) : Nat := y_sum (fun j => z_c2 f t n c m (nI j)) (m + 1)
/-- an operator's number out of its key -/
def z_ub (q : Int32) (m : Nat) : Int32 := if m < 9 then ((q >>> (nI (12 + 2 * (8 - m)) &&& 31)) &&& nI 3) - nI 1 else (q >>> (nI (4 * (2 - (m - 9))) &&& 31)) &&& nI 15
theorem z_abf {f : Nat → Int32} {h k l : Int32} {i : Nat} (e : ¬ z_sn f i 0 h k l = h ∨ ¬ z_sn f i 1 h k l = k ∨ ¬ z_sn f i 2 h k l = l ∨ z_ph f i h k l = 0) : z_ab1 f h k l i = false := by
  unfold z_ab1
  rcases e with e | e | e | e
  · rw [decide_eq_false e]; rfl
  · rw [decide_eq_false e]; simp
  · rw [decide_eq_false e]; simp
  · rw [decide_eq_true (show z_ph f i h k l = nI 0 from e)]; simp
theorem z_abt {f : Nat → Int32} {h k l : Int32} {i : Nat} (e0 : z_sn f i 0 h k l = h) (e1 : z_sn f i 1 h k l = k) (e2 : z_sn f i 2 h k l = l) (e3 : ¬ z_ph f i h k l = 0) : z_ab1 f h k l i = true := by
  unfold z_ab1
  rw [decide_eq_true e0, decide_eq_true e1, decide_eq_true e2, decide_eq_false (show ¬ z_ph f i h k l = nI 0 from e3)]
  rfl
theorem z_igt {f : Nat → Int32} {h k l : Int32} {i : Nat} (e : z_pack h k l < z_tu f h k l i ∨ z_pack h k l < z_opp (z_tu f h k l i)) : z_ig1 f h k l i = true := by
  unfold z_ig1
  rcases e with e | e
  · rw [decide_eq_true e]; rfl
  · rw [decide_eq_true e]; simp
theorem z_igf {f : Nat → Int32} {h k l : Int32} {i : Nat} (e0 : ¬ z_pack h k l < z_tu f h k l i) (e1 : ¬ z_pack h k l < z_opp (z_tu f h k l i)) : z_ig1 f h k l i = false := by
  unfold z_ig1
  rw [decide_eq_false e0, decide_eq_false e1]
  rfl
theorem z_rng {i : Int32} {n : Nat} (hn : n < 2 ^ 30) (h1 : ¬ i < 0) (h2 : i < nI n) : x_rng i n := by
  have g1 := Int32.le_iff_toInt_le.mp (Int32.not_lt.mp h1)
  have g2 := Int32.lt_iff_toInt_lt.mp h2
  rw [nI_toInt (by omega)] at g2
  have h3 : (0 : Int32).toInt = 0 := rfl
  obtain ⟨j, hj⟩ := Int.eq_ofNat_of_zero_le (a := i.toInt) (by omega)
  exact ⟨j, by omega, x_ofInt hj (by omega)⟩
theorem z_rngn1 {i : Int32} {n : Nat} (hn : n < 2 ^ 30) (h1 : i < 0) : ¬ x_rng i n := by
  rintro ⟨j, hj, rfl⟩
  exact y_nneg (by omega) h1
theorem z_rngn2 {i : Int32} {n : Nat} (hn : n < 2 ^ 30) (h1 : nI n ≤ i) : ¬ x_rng i n := by
  rintro ⟨j, hj, rfl⟩
  have g1 := Int32.le_iff_toInt_le.mp h1
  rw [nI_toInt (by omega), nI_toInt (by omega)] at g1
  omega
theorem z_sh8a : ∀ j, j < 5 → (nI (32 - 8 * j) - nI 8 < 0 ↔ j = 4) := by decide +kernel
theorem z_sh8b : ∀ j, j < 4 → nI (32 - 8 * j) - nI 8 = nI (24 - 8 * j) := by decide +kernel
theorem z_sh8c : ∀ j, j < 4 → nI (32 - 8 * j) - nI 8 + (-8) = nI (32 - 8 * (j + 1)) - nI 8 := by decide +kernel
theorem z_sh8e {j : Nat} {v : Int32} (hj : j ≤ 4) (hv : v = nI (32 - 8 * j) - nI 8) (h : v < 0) : j = 4 := (z_sh8a j (by omega)).mp (by rw [← hv]; exact h)
theorem z_sh8f {j : Nat} {v : Int32} (hj : j ≤ 4) (hv : v = nI (32 - 8 * j) - nI 8) (h : ¬ v < 0) : j < 4 := by
  rcases Nat.lt_or_ge j 4 with h1 | h1
  · exact h1
  · exact absurd (by rw [hv]; exact (z_sh8a j (by omega)).mpr (by omega)) h
