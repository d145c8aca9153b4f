/-! ===== the class's quotient ===== -/
theorem z_mxn {a b : Nat} (ha : a < 2 ^ 31) (hb : b < 2 ^ 31) : z_mx (nI a) (nI b) = nI (max a b) := by
  unfold z_mx
  have e : nI a < nI b ↔ a < b := by
    rw [Int32.lt_iff_toInt_lt, nI_toInt ha, nI_toInt hb]
    omega
  by_cases h : a < b
  · rw [if_pos (e.mpr h), Nat.max_eq_right (Nat.le_of_lt h)]
  · rw [if_neg (fun z => h (e.mp z)), Nat.max_eq_left (by omega)]
theorem z_gcm (D l : Nat) : Nat.gcd (D % l) l = Nat.gcd D l := by
  rw [← Nat.gcd_rec l D, Nat.gcd_comm]
/-- the powers of primes in D are small -/
def z_pb (D : Nat) : Prop := ∀ p j, 2 ≤ p → y_prm p → p ^ j ∣ D → p ^ j ≤ 3000
theorem z_pb_dv {D E : Nat} (h : z_pb D) (hd : E ∣ D) : z_pb E := fun p j h2 hp hj => h p j h2 hp (Nat.dvd_trans hj hd)
theorem z_pb_1 : z_pb 1 := fun p j h2 hp hj => Nat.le_trans (Nat.le_of_dvd (by decide) hj) (by decide)
theorem z_co_of {p x : Nat} (hp : y_prm p) (h2 : 2 ≤ p) (h : ¬ p ∣ x) : Nat.Coprime p x := by
  show Nat.gcd p x = 1
  have h1 := Nat.gcd_dvd_left p x
  have h3 := Nat.gcd_dvd_right p x
  have h4 : Nat.gcd p x ≤ p := Nat.le_of_dvd (by omega) h1
  have h5 : 0 < Nat.gcd p x := Nat.gcd_pos_of_pos_left _ (by omega)
  rcases Nat.lt_or_ge (Nat.gcd p x) 2 with h6 | h6
  · omega
  · rcases Nat.lt_or_ge (Nat.gcd p x) p with h7 | h7
    · exact absurd h1 (y_prm_dv hp h6 h7)
    · have e : Nat.gcd p x = p := by omega
      rw [e] at h3
      exact absurd h3 h
/-- a power of a prime in a product whose other factor has none of it -/
theorem z_pw_dv {p j x y : Nat} (hp : y_prm p) (h2 : 2 ≤ p) (hy : ¬ p ∣ y) (h : p ^ j ∣ x * y) : p ^ j ∣ x :=
  Nat.Coprime.dvd_of_dvd_mul_right (Nat.Coprime.pow_left j (z_co_of hp h2 hy)) h
theorem z_pr_mul {p x y : Nat} (hp : y_prm p) (h2 : 2 ≤ p) (hx : ¬ p ∣ x) (hy : ¬ p ∣ y) : ¬ p ∣ x * y := fun h => by
  have h3 : p ^ 1 ∣ x * y := by rw [Nat.pow_one]; exact h
  have := z_pw_dv hp h2 hy h3
  rw [Nat.pow_one] at this
  exact hx this
/-- a power of a prime in the least common multiple is in one of the two -/
theorem z_lcm_pw {p j D l : Nat} (hp : y_prm p) (h2 : 2 ≤ p) (hD : 0 < D) (hl : 0 < l) (h : p ^ j ∣ D * (l / Nat.gcd D l)) : p ^ j ∣ D ∨ p ^ j ∣ l := by
  obtain ⟨e, D1, hD1, hD2⟩ := y_free h2 D hD
  obtain ⟨f, l1, hl1, hl2⟩ := y_free h2 l hl
  have hg0 : 0 < Nat.gcd D l := Nat.gcd_pos_of_pos_left l hD
  obtain ⟨m, hm⟩ := Nat.gcd_dvd_right D l
  have hmd : l / Nat.gcd D l = m := Nat.div_eq_of_eq_mul_right hg0 hm
  rw [hmd] at h
  rcases Nat.le_total f e with hfe | hfe
  · -- the gcd has p^f, so m has none
    left
    have h3 : p ^ f ∣ Nat.gcd D l := Nat.dvd_gcd (Nat.dvd_trans (Nat.pow_dvd_pow p hfe) ⟨D1, hD1⟩) ⟨l1, hl1⟩
    obtain ⟨q, hq⟩ := h3
    have h4 : l1 = q * m := by
      have h5 : p ^ f * l1 = p ^ f * (q * m) := by rw [← hl1, ← Nat.mul_assoc, ← hq, ← hm]
      exact Nat.eq_of_mul_eq_mul_left (Nat.pow_pos (by omega)) h5
    exact z_pw_dv hp h2 (fun z => hl2 (by rw [h4]; exact Nat.dvd_trans z (Nat.dvd_mul_left m q))) h
  · right
    -- D * m = p^f * (something free of p)
    have h3 : p ^ e ∣ Nat.gcd D l := Nat.dvd_gcd ⟨D1, hD1⟩ (Nat.dvd_trans (Nat.pow_dvd_pow p hfe) ⟨l1, hl1⟩)
    obtain ⟨q, hq⟩ := h3
    obtain ⟨n, hn⟩ := Nat.gcd_dvd_left D l
    -- q is free of p, since p^(e+1) does not divide D
    have hq2 : D1 = q * n := by
      have h5 : p ^ e * D1 = p ^ e * (q * n) := by rw [← hD1, ← Nat.mul_assoc, ← hq, ← hn]
      exact Nat.eq_of_mul_eq_mul_left (Nat.pow_pos (by omega)) h5
    have hqf : ¬ p ∣ q := fun z => hD2 (by rw [hq2]; exact Nat.dvd_trans z (Nat.dvd_mul_right q n))
    have h6 : q * (D * m) = p ^ f * (l1 * D1) := by
      have h7 : D * m * q = l * D1 := by
        have h8 : p ^ e * (D * m * q) = p ^ e * (l * D1) := by
          calc p ^ e * (D * m * q) = D * m * (p ^ e * q) := by rw [← Nat.mul_assoc, Nat.mul_comm (p ^ e), Nat.mul_assoc (D * m)]
            _ = D * m * Nat.gcd D l := by rw [← hq]
            _ = D * (Nat.gcd D l * m) := by rw [Nat.mul_assoc, Nat.mul_comm m]
            _ = D * l := by rw [← hm]
            _ = p ^ e * D1 * l := by rw [← hD1]
            _ = p ^ e * (l * D1) := by rw [Nat.mul_assoc, Nat.mul_comm D1]
        exact Nat.eq_of_mul_eq_mul_left (Nat.pow_pos (by omega)) h8
      rw [Nat.mul_comm q, h7]
      conv => lhs; rw [hl1]
      rw [Nat.mul_assoc]
    have h9 : p ^ j ∣ p ^ f * (l1 * D1) := by rw [← h6]; exact Nat.dvd_trans h (Nat.dvd_mul_left _ q)
    have h10 := z_pw_dv hp h2 (z_pr_mul hp h2 hl2 hD2) h9
    exact Nat.dvd_trans h10 ⟨l1, hl1⟩
theorem z_pb_add {D l c : Nat} (hD : 0 < D) (hl : 0 < l) (hlc : l ≤ c) (hc : c ≤ 3000) (h : z_pb D) : z_pb (D * (l / Nat.gcd D l)) := fun p j h2 hp hj => by
  rcases z_lcm_pw hp h2 hD hl hj with h3 | h3
  · exact h p j h2 hp h3
  · have := Nat.le_of_dvd hl h3
    omega
/-- a common divisor with none below it is a prime -/
theorem z_cm_pr {f N D : Nat} (hf : 2 ≤ f) (h : ∀ d, 2 ≤ d → d < f → ¬ (d ∣ N ∧ d ∣ D)) (h1 : f ∣ N) (h2 : f ∣ D) : y_prm f := fun d hd hdd hdf => by
  have h5 : d < f := Nat.lt_of_lt_of_le (by
    have := Nat.mul_lt_mul_of_pos_left (show 1 < d by omega) (show 0 < d by omega)
    omega) hdd
  exact h d hd h5 ⟨Nat.dvd_trans hdf h1, Nat.dvd_trans hdf h2⟩
theorem z_32 {f D : Nat} (hf : 2 ≤ f) (hp : y_prm f) (h : z_pb D) (hd : f ^ 32 ∣ D) : False := by
  have h1 := h f 32 hf hp hd
  have h2 : 2 ^ 32 ≤ f ^ 32 := Nat.pow_le_pow_left hf 32
  omega
theorem z_nocm {N D E M f : Nat} (h : ∀ d, 2 ≤ d → d < f → ¬ (d ∣ N ∧ d ∣ D)) (h1 : M ∣ N) (h2 : E ∣ D) : ∀ d, 2 ≤ d → d < f → ¬ (d ∣ M ∧ d ∣ E) := fun d hd hdf z => h d hd hdf ⟨Nat.dvd_trans z.1 h1, Nat.dvd_trans z.2 h2⟩
theorem z_dv0 {a b : Nat} (h : a % b = 0) : a / b * b = a := Nat.div_mul_cancel (Nat.dvd_of_mod_eq_zero h)
