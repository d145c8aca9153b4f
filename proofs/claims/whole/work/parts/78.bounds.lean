/-! ===== how large the rows' numbers are ===== -/
theorem z_addI {x y : Int64} (h1 : -2 ^ 63 ≤ x.toInt + y.toInt) (h2 : x.toInt + y.toInt < 2 ^ 63) : (x + y).toInt = x.toInt + y.toInt := by
  rw [Int64.toInt_add]
  refine Int.bmod_eq_of_le ?_ ?_ <;> omega
theorem z_subI {x y : Int64} (h1 : -2 ^ 63 ≤ x.toInt - y.toInt) (h2 : x.toInt - y.toInt < 2 ^ 63) : (x - y).toInt = x.toInt - y.toInt := by
  rw [Int64.toInt_sub]
  refine Int.bmod_eq_of_le ?_ ?_ <;> omega
theorem z_mulI {x y : Int64} (h1 : -2 ^ 63 ≤ x.toInt * y.toInt) (h2 : x.toInt * y.toInt < 2 ^ 63) : (x * y).toInt = x.toInt * y.toInt := by
  rw [Int64.toInt_mul]
  refine Int.bmod_eq_of_le ?_ ?_ <;> omega
theorem z_lN_of {x : Int64} (h : 0 ≤ x.toInt) : x = lN x.toInt.toNat ∧ x.toInt.toNat < 2 ^ 63 := by
  have h1 := x.toInt_lt
  have h2 : x.toInt.toNat < 2 ^ 63 := by omega
  refine ⟨Int64.toInt_inj.mp ?_, h2⟩
  rw [pf_lI h2]
  omega
theorem z_abI {d : Int64} (h : -2 ^ 63 < d.toInt) : ∃ m : Nat, x_ab d = lN m ∧ (m : Int) = d.toInt.natAbs := by
  unfold x_ab
  have h0 : (0 : Int64).toInt = 0 := rfl
  by_cases hd : d < 0
  · rw [if_pos hd]
    have h1 := Int64.lt_iff_toInt_lt.mp hd
    have h2 : (-d).toInt = -d.toInt := by
      rw [Int64.toInt_neg]
      refine Int.bmod_eq_of_le ?_ ?_ <;> omega
    obtain ⟨h3, -⟩ := z_lN_of (x := -d) (by omega)
    exact ⟨_, h3, by omega⟩
  · rw [if_neg hd]
    have h1 := Int64.le_iff_toInt_le.mp (Int64.not_lt.mp hd)
    obtain ⟨h3, -⟩ := z_lN_of (x := d) (by omega)
    exact ⟨_, h3, by omega⟩
/-- all intensities are small -/
def z_vb (V : Nat → Int64) (N : Nat) : Prop := ∀ i, i < N → -10000000 ≤ (V i).toInt ∧ (V i).toInt ≤ 10000000
theorem z_sm_b {K V : Nat → Int64} {q : Int64} {N : Nat} (hN : N ≤ 400) (hV : z_vb V N) : ∀ {i : Nat}, i ≤ N → -(10000000 * (i : Int)) ≤ (x_sm K V q i).toInt ∧ (x_sm K V q i).toInt ≤ 10000000 * (i : Int)
  | 0, _ => (by decide : -(10000000 * ((0 : Nat) : Int)) ≤ (0 : Int64).toInt ∧ (0 : Int64).toInt ≤ 10000000 * ((0 : Nat) : Int))
  | i + 1, h => by
    have ih := z_sm_b (K := K) (q := q) hN hV (i := i) (by omega)
    have hv := hV i (by omega)
    show -(10000000 * ((i + 1 : Nat) : Int)) ≤ (if K i = q then x_sm K V q i + V i else x_sm K V q i).toInt ∧ _
    by_cases e : K i = q
    · rw [if_pos e, show x_sm K V q (i + 1) = x_sm K V q i + V i from if_pos e, z_addI (by omega) (by omega)]
      omega
    · rw [if_neg e, show x_sm K V q (i + 1) = x_sm K V q i from if_neg e]
      omega
theorem z_spr_b {K V : Nat → Int64} {q s : Int64} {cq N : Nat} (hN : N ≤ 400) (hV : z_vb V N) (hc : cq ≤ N) (hs : -(10000000 * (N : Int)) ≤ s.toInt ∧ s.toInt ≤ 10000000 * (N : Int)) : ∀ {i : Nat}, i ≤ N → ∃ m : Nat, x_spr K V (nI cq).toInt64 s q i = lN m ∧ m ≤ 8000000000 * i
  | 0, _ => ⟨0, rfl, by omega⟩
  | i + 1, h => by
    obtain ⟨m, h1, h2⟩ := z_spr_b (K := K) (q := q) hN hV hc hs (i := i) (by omega)
    have hv := hV i (by omega)
    by_cases e : K i = q
    · have e1 : x_spr K V (nI cq).toInt64 s q (i + 1) = x_spr K V (nI cq).toInt64 s q i + x_ab ((nI cq).toInt64 * V i - s) := if_pos e
      have e2 : ((nI cq).toInt64).toInt = (cq : Int) := by rw [nI_l (by omega), pf_lI (by omega)]
      have b1 : (cq : Int) * (V i).toInt ≤ 400 * 10000000 := by
        have := Int.mul_le_mul_of_nonneg_left hv.2 (show (0 : Int) ≤ cq by omega)
        omega
      have b2 : -(400 * 10000000) ≤ (cq : Int) * (V i).toInt := by
        have := Int.mul_le_mul_of_nonneg_left hv.1 (show (0 : Int) ≤ cq by omega)
        omega
      have e3 : ((nI cq).toInt64 * V i).toInt = (cq : Int) * (V i).toInt := by
        rw [z_mulI (by rw [e2]; omega) (by rw [e2]; omega), e2]
      have e4 : ((nI cq).toInt64 * V i - s).toInt = (cq : Int) * (V i).toInt - s.toInt := by
        rw [z_subI (by rw [e3]; omega) (by rw [e3]; omega), e3]
      obtain ⟨k, h3, h4⟩ := z_abI (d := (nI cq).toInt64 * V i - s) (by rw [e4]; omega)
      rw [e4] at h4
      refine ⟨m + k, by rw [e1, h1, h3, lN_add], ?_⟩
      omega
    · exact ⟨m, by rw [← h1]; exact if_neg e, by omega⟩
theorem z_tot_b {ct : Nat → Bool} {f : Nat → Int64} {n : Nat} (hn : n ≤ 400) (hf : ∀ a, a < n → -4000000000 ≤ (f a).toInt ∧ (f a).toInt ≤ 4000000000) : ∀ {r : Nat}, r ≤ n → -(4000000000 * (r : Int)) ≤ (y_tot ct f r).toInt ∧ (y_tot ct f r).toInt ≤ 4000000000 * (r : Int)
  | 0, _ => (by decide : -(4000000000 * ((0 : Nat) : Int)) ≤ (0 : Int64).toInt ∧ (0 : Int64).toInt ≤ 4000000000 * ((0 : Nat) : Int))
  | r + 1, h => by
    have ih := z_tot_b (ct := ct) hn hf (r := r) (by omega)
    have hv := hf r (by omega)
    cases hc : ct r with
    | true =>
      rw [← y_tot_t hc, z_addI (by omega) (by omega)]
      omega
    | false =>
      rw [← y_tot_f hc]
      omega
theorem z_tot_T {ct : Nat → Bool} {f : Nat → Int64} {n : Nat} (hn : n ≤ 400) (hf : ∀ a, a < n → -4000000000 ≤ (f a).toInt ∧ (f a).toInt ≤ 4000000000) (h : 0 < y_tot ct f n) : y_tot ct f n = lN (y_tot ct f n).toInt.toNat ∧ 0 < (y_tot ct f n).toInt.toNat ∧ (y_tot ct f n).toInt.toNat < 2 ^ 41 := by
  have h1 := Int64.lt_iff_toInt_lt.mp h
  have h0 : (0 : Int64).toInt = 0 := rfl
  have h2 := z_tot_b (ct := ct) hn hf (Nat.le_refl n)
  exact ⟨(z_lN_of (by omega)).1, by omega, by omega⟩
theorem z_totn {ct : Nat → Bool} {f : Nat → Int64} {n : Nat} (hn : n ≤ 400) (hf : ∀ a, a < n → -4000000000 ≤ (f a).toInt ∧ (f a).toInt ≤ 4000000000) : (y_tot ct f n).toInt.toNat < 2 ^ 41 := by
  have h2 := z_tot_b (ct := ct) hn hf (Nat.le_refl n)
  omega
/-! the product of the sizes -/
def z_prod (cn : Nat → Nat) : Nat → Nat
  | 0 => 1
  | a + 1 => z_prod cn a * cn a
theorem z_prod_dv {cn : Nat → Nat} : ∀ {n a : Nat}, a < n → cn a ∣ z_prod cn n
  | 0, a, h => absurd h (Nat.not_lt_zero a)
  | n + 1, a, h => by
    by_cases e : a = n
    · subst e; exact Nat.dvd_mul_left _ _
    · exact Nat.dvd_trans (z_prod_dv (by omega : a < n)) (Nat.dvd_mul_right _ _)
theorem z_prod_pos {cn : Nat → Nat} : ∀ {n : Nat}, (∀ a, a < n → 0 < cn a) → 0 < z_prod cn n
  | 0, _ => Nat.zero_lt_one
  | n + 1, h => Nat.mul_pos (z_prod_pos (fun a ha => h a (by omega))) (h n (by omega))
theorem z_cube : ∀ c : Nat, 0 < c → c ^ 3 ≤ 3 ^ c
  | 0, h => absurd h (by decide)
  | 1, _ => by decide
  | 2, _ => by decide
  | 3, _ => by decide
  | c + 4, _ => by
    have ih := z_cube (c + 3) (by omega)
    -- (c+4)^3 <= 3 (c+3)^3
    have h1 : (c + 4) ^ 3 ≤ 3 * (c + 3) ^ 3 := by
      obtain ⟨x, hx⟩ : ∃ x, c + 3 = x := ⟨_, rfl⟩
      have hx3 : 3 ≤ x := by omega
      rw [show c + 4 = x + 1 by omega, hx]
      have e1 : (x + 1) ^ 3 = x * (x * x) + 3 * (x * x) + 3 * x + 1 := by
        simp only [Nat.pow_succ, Nat.pow_zero, Nat.one_mul, Nat.add_mul, Nat.mul_add, Nat.mul_one, Nat.mul_assoc]
        omega
      have e2 : x ^ 3 = x * (x * x) := by
        simp only [Nat.pow_succ, Nat.pow_zero, Nat.one_mul, Nat.mul_assoc]
      have b1 : 3 * (x * x) ≤ x * (x * x) := Nat.mul_le_mul_right _ hx3
      have b2 : 3 * x ≤ x * x := Nat.mul_le_mul_right _ hx3
      rw [e1, e2]
      omega
    have h2 : 3 ^ (c + 4) = 3 * 3 ^ (c + 3) := by
      rw [show c + 4 = (c + 3) + 1 by omega, Nat.pow_succ, Nat.mul_comm]
    rw [h2]
    exact Nat.le_trans h1 (Nat.mul_le_mul_left 3 ih)
theorem z_prod_b {cn : Nat → Nat} : ∀ {n : Nat}, (∀ a, a < n → 0 < cn a) → z_prod cn n ^ 3 ≤ 3 ^ y_sum cn n
  | 0, _ => (by decide : (1 : Nat) ^ 3 ≤ 3 ^ 0)
  | n + 1, h => by
    show (z_prod cn n * cn n) ^ 3 ≤ 3 ^ (y_sum cn n + cn n)
    rw [Nat.mul_pow, Nat.pow_add]
    exact Nat.mul_le_mul (z_prod_b (fun a ha => h a (by omega))) (z_cube _ (h n (by omega)))
/-- how many of the first are equal to the row's key: all rows together -/
theorem z_one {f : Nat → Int64} {q : Int64} : ∀ {n : Nat}, (∀ a b, a < b → b < n → f a < f b) → y_sum (fun a => if q = f a then 1 else 0) n ≤ 1
  | 0, _ => Nat.zero_le 1
  | n + 1, h => by
    show y_sum (fun a => if q = f a then 1 else 0) n + (if q = f n then 1 else 0) ≤ 1
    have ih : y_sum (fun a => if q = f a then 1 else 0) n ≤ 1 := z_one (fun a b h1 h2 => h a b h1 (by omega))
    by_cases e : q = f n
    · rw [if_pos e]
      have : y_sum (fun a => if q = f a then 1 else 0) n = 0 := z_sum0i (fun a ha => if_neg (fun z => by
        have h1 := h a n ha (by omega)
        rw [← z, ← e] at h1
        exact x_lt_irr h1))
      omega
    · rw [if_neg e]
      exact ih
theorem z_cnt_sum {K f : Nat → Int64} {n : Nat} (h : ∀ a b, a < b → b < n → f a < f b) : ∀ (i : Nat), y_sum (fun a => x_cnt K (f a) i) n ≤ i
  | 0 => by
    have : y_sum (fun a => x_cnt K (f a) 0) n = 0 := z_sum0i (fun a _ => rfl)
    omega
  | i + 1 => by
    have ih := z_cnt_sum (K := K) h i
    have e : ∀ m, y_sum (fun a => x_cnt K (f a) (i + 1)) m = y_sum (fun a => x_cnt K (f a) i) m + y_sum (fun a => if K i = f a then 1 else 0) m := fun m => by
      induction m with
      | zero => rfl
      | succ m ihm =>
        show y_sum (fun a => x_cnt K (f a) (i + 1)) m + x_cnt K (f m) (i + 1) = (y_sum (fun a => x_cnt K (f a) i) m + x_cnt K (f m) i) + (y_sum (fun a => if K i = f a then 1 else 0) m + (if K i = f m then 1 else 0))
        rw [ihm]
        have : x_cnt K (f m) (i + 1) = x_cnt K (f m) i + (if K i = f m then 1 else 0) := by
          show (if K i = f m then x_cnt K (f m) i + 1 else x_cnt K (f m) i) = _
          split <;> rfl
        omega
    rw [e]
    have := z_one (q := K i) h
    omega
theorem z_pr3 {x : Nat} (h : x ^ 3 ≤ 3 ^ 400) : x < 2 ^ 212 := by
  refine Nat.lt_of_not_le (fun z => ?_)
  have h1 : (2 ^ 212) ^ 3 ≤ x ^ 3 := Nat.pow_le_pow_left z 3
  have h2 : (3 : Nat) ^ 400 < (2 ^ 212) ^ 3 := by decide +kernel
  omega
theorem z_cnt_pos {K : Nat → Int64} {q : Int64} : ∀ {i j : Nat}, j < i → K j = q → 0 < x_cnt K q i
  | 0, j, h, _ => absurd h (Nat.not_lt_zero j)
  | i + 1, j, h, e => by
    show 0 < if K i = q then x_cnt K q i + 1 else x_cnt K q i
    by_cases e1 : K i = q
    · rw [if_pos e1]; omega
    · rw [if_neg e1]
      have : j ≠ i := fun z => by subst z; exact e1 e
      exact z_cnt_pos (by omega : j < i) e
theorem z_ssp_b {ct : Nat → Bool} {sp : Nat → Nat} {b : Nat} : ∀ {n : Nat}, (∀ a, a < n → sp a ≤ b) → y_ssp ct sp n ≤ n * b
  | 0, _ => Nat.zero_le _
  | n + 1, h => by
    have ih : y_ssp ct sp n ≤ n * b := z_ssp_b (fun a ha => h a (by omega))
    have h1 := h n (by omega)
    show (if ct n = true then y_ssp ct sp n + sp n else y_ssp ct sp n) ≤ (n + 1) * b
    rw [Nat.succ_mul]
    split <;> omega
/-- all that R wants of the rows -/
theorem z_rows {K V : Nat → Int64} {N n : Nat} {f : Nat → Int64} {c : Nat → Int32} {s : Nat → Int64} (h : x_ro K V N n f c s) (hN : N ≤ 400) (hV : z_vb V N) :
    (∀ a, a < n → c a = nI (x_cnt K (f a) N) ∧ 0 < x_cnt K (f a) N ∧ x_cnt K (f a) N ≤ 400) ∧ (∀ a, a < n → -4000000000 ≤ (s a).toInt ∧ (s a).toInt ≤ 4000000000) ∧ (∀ a, a < n → ∃ m, x_spr K V (c a).toInt64 (s a) (f a) N = lN m ∧ m ≤ 3200000000000) ∧ z_prod (fun a => x_cnt K (f a) N) n < 2 ^ 212 := by
  obtain ⟨h1, h2, h3, h4⟩ := h
  have p1 : ∀ a, a < n → c a = nI (x_cnt K (f a) N) ∧ 0 < x_cnt K (f a) N ∧ x_cnt K (f a) N ≤ N := fun a ha => by
    obtain ⟨⟨j, hj, e⟩, h5, h6⟩ := h4 a ha
    exact ⟨h5, z_cnt_pos hj e, x_cnt_le K (f a) N⟩
  have p2 : ∀ a, a < n → -(10000000 * (N : Int)) ≤ (s a).toInt ∧ (s a).toInt ≤ 10000000 * (N : Int) := fun a ha => by
    rw [(h4 a ha).2.2]
    exact z_sm_b hN hV (Nat.le_refl N)
  refine ⟨fun a ha => ⟨(p1 a ha).1, (p1 a ha).2.1, by have := (p1 a ha).2.2; omega⟩, fun a ha => ?_, fun a ha => ?_, ?_⟩
  · have := p2 a ha
    omega
  · rw [(p1 a ha).1]
    obtain ⟨m, h5, h6⟩ := z_spr_b (K := K) (q := f a) hN hV (p1 a ha).2.2 (p2 a ha) (Nat.le_refl N)
    exact ⟨m, h5, by omega⟩
  · apply z_pr3
    refine Nat.le_trans (z_prod_b (fun a ha => (p1 a ha).2.1)) ?_
    exact Nat.pow_le_pow_right (by decide) (Nat.le_trans (z_cnt_sum h2 N) hN)
