/-! ===== the class's naturals: twenty limbs ===== -/
def z_is (f : Nat → Int32) (v : Nat) : Prop := v < 65536 ^ 20 ∧ ∀ k, k < 20 → f k = nI (y_dg v k)
def z_pt (g : Nat → Int32) (k w v : Nat) : Prop := ∀ j, j < 20 → g j = nI (if j < k then y_dg w j else y_dg v j)
theorem z_pt_0 {g : Nat → Int32} {v : Nat} (w : Nat) (h : z_is g v) : z_pt g 0 w v := fun j hj => by
  rw [if_neg (Nat.not_lt_zero j)]
  exact h.2 j hj
theorem z_pt_t {g : Nat → Int32} {v : Nat} (w : Nat) (h : z_is g v) : z_pt g 20 v w := fun j hj => by
  rw [if_pos hj]
  exact h.2 j hj
theorem z_pt_20 {g : Nat → Int32} {w v : Nat} (h : z_pt g 20 w v) (hw : w < 65536 ^ 20) : z_is g w := ⟨hw, fun k hk => by
  have := h k hk
  rw [if_pos hk] at this
  exact this⟩
theorem z_pt_b {g : Nat → Int32} {w v : Nat} (h : z_pt g 0 w v) (hw : v < 65536 ^ 20) : z_is g v := ⟨hw, fun k hk => by
  have := h k hk
  rw [if_neg (Nat.not_lt_zero k)] at this
  exact this⟩
theorem z_pt_at {g : Nat → Int32} {k w v : Nat} (h : z_pt g k w v) (hk : k < 20) : g k = nI (y_dg v k) := by
  have := h k hk
  rw [if_neg (Nat.lt_irrefl k)] at this
  exact this
theorem z_pt_lo {g : Nat → Int32} {k w v j : Nat} (h : z_pt g k w v) (hj : j < 20) (hk : j < k) : g j = nI (y_dg w j) := by
  have := h j hj
  rw [if_pos hk] at this
  exact this
theorem z_pt_s {g : Nat → Int32} {k w v : Nat} (h : z_pt g k w v) : z_pt (upd g k (nI (y_dg w k))) (k + 1) w v := fun j hj => by
  by_cases e : j = k
  · subst e
    rw [pk_us, if_pos (Nat.lt_succ_self j)]
  · rw [pk_un (by omega), h j hj]
    by_cases h2 : j < k
    · rw [if_pos h2, if_pos (by omega)]
    · rw [if_neg h2, if_neg (by omega)]
theorem z_pt_d {g : Nat → Int32} {k w v : Nat} (h : z_pt g (k + 1) w v) : z_pt (upd g k (nI (y_dg v k))) k w v := fun j hj => by
  by_cases e : j = k
  · subst e
    rw [pk_us, if_neg (Nat.lt_irrefl j)]
  · rw [pk_un (by omega), h j hj]
    by_cases h2 : j < k
    · rw [if_pos h2, if_pos (by omega)]
    · rw [if_neg h2, if_neg (by omega)]
/-! a product is added -/
def z_cp (v w b k : Nat) : Nat := (v % 65536 ^ k + w % 65536 ^ k * b) / 65536 ^ k
theorem z_cp_0 (v w b : Nat) : z_cp v w b 0 = 0 := by
  unfold z_cp
  rw [Nat.pow_zero, Nat.mod_one, Nat.mod_one, Nat.zero_mul]
theorem z_cp_le (v w b k : Nat) : z_cp v w b k ≤ b + 1 := by
  unfold z_cp
  have h0 := y_B0 k
  refine Nat.div_le_of_le_mul ?_
  have h1 := Nat.mod_lt v h0
  have h2 : w % 65536 ^ k * b ≤ 65536 ^ k * b := Nat.mul_le_mul_right b (Nat.le_of_lt (Nat.mod_lt _ h0))
  rw [Nat.mul_add, Nat.mul_one]
  omega
theorem z_cp_s (v w b k : Nat) : z_cp v w b (k + 1) = (z_cp v w b k + (y_dg v k + y_dg w k * b)) / 65536 := by
  unfold z_cp
  rw [y_md_s, y_md_s, Nat.pow_succ, ← Nat.div_div_eq_div_mul]
  congr 1
  have e : v % 65536 ^ k + 65536 ^ k * y_dg v k + (w % 65536 ^ k + 65536 ^ k * y_dg w k) * b = v % 65536 ^ k + w % 65536 ^ k * b + 65536 ^ k * (y_dg v k + y_dg w k * b) := by
    rw [Nat.add_mul, Nat.mul_add, Nat.mul_assoc]
    omega
  rw [e, Nat.add_mul_div_left _ _ (y_B0 k)]
theorem z_ap_d (v w b k : Nat) : y_dg (v + w * b) k = (z_cp v w b k + (y_dg v k + y_dg w k * b)) % 65536 := by
  have h := Nat.div_add_mod v (65536 ^ k)
  have h' := Nat.div_add_mod w (65536 ^ k)
  have e : (v + w * b) / 65536 ^ k = z_cp v w b k + (v / 65536 ^ k + w / 65536 ^ k * b) := by
    unfold z_cp
    have e2 : v + w * b = v % 65536 ^ k + w % 65536 ^ k * b + 65536 ^ k * (v / 65536 ^ k + w / 65536 ^ k * b) := by
      conv => lhs; rw [← h, ← h']
      rw [Nat.add_mul, Nat.mul_add, Nat.mul_assoc]
      omega
    conv => lhs; rw [e2]
    rw [Nat.add_mul_div_left _ _ (y_B0 k)]
  unfold y_dg
  rw [e]
  have e3 : w / 65536 ^ k * b % 65536 = w / 65536 ^ k % 65536 * b % 65536 := (Nat.mod_mul_mod _ _ _).symm
  omega
theorem z_ap_b {v w b k : Nat} (hb : b < 2 ^ 46) : z_cp v w b k + (y_dg v k + y_dg w k * b) < 2 ^ 63 := by
  have h1 := z_cp_le v w b k
  have h2 : y_dg w k * b ≤ 65535 * b := Nat.mul_le_mul_right b (by have := y_dg_lt w k; omega)
  have h3 := y_dg_lt v k
  omega
theorem z_tm_c (v b k : Nat) : y_cy v b (k + 1) = (y_cy v b k + y_dg v k * b) / 65536 ∧ y_dg (v * b) k = (y_cy v b k + y_dg v k * b) % 65536 := by
  rw [y_cy_s, y_tm_d, Nat.add_comm]
  exact ⟨rfl, rfl⟩
theorem z_is_20 {f : Nat → Int32} {v : Nat} (h : z_is f v) (k : Nat) (hk : k < 20) : f k = nI (y_dg v k) := h.2 k hk
theorem z_cpy20 (f g : Nat → Int32) {v : Nat} (h : z_is f v) : z_is (va_cpy f g 0 0 20) v := ⟨h.1, fun k hk => by
  rw [pk_cpy_in (by omega) (by omega), Nat.sub_zero, Nat.zero_add]
  exact h.2 k hk⟩
theorem z_eu {u w s : Nat} (hw : 0 < w) (h : s = 0 ∨ (w < u ∧ u * w < 2 ^ (127 - s))) (hw9 : w < 2 ^ 63) (hs : s < 128) : u % w < w ∧ w * (u % w) < 2 ^ (127 - (s + 1)) := by
  have h1 := Nat.mod_lt u hw
  refine ⟨h1, ?_⟩
  rcases h with h | ⟨h2, h3⟩
  · subst h
    have h4 : w * (u % w) < w * w := Nat.mul_lt_mul_of_pos_left h1 hw
    have h5 : w * w ≤ 2 ^ 63 * 2 ^ 63 := Nat.mul_le_mul (by omega) (by omega)
    rw [← Nat.pow_add] at h5
    exact Nat.lt_of_lt_of_le h4 h5
  · have h4 := Nat.div_add_mod u w
    have h5 : 0 < u / w := Nat.div_pos (by omega) hw
    have h6 : w * 1 ≤ w * (u / w) := Nat.mul_le_mul_left w h5
    have h7 : 2 * (u % w) ≤ u := by omega
    have h8 : 2 * (u % w) * w ≤ u * w := Nat.mul_le_mul_right w h7
    have h9 : 2 * (w * (u % w)) ≤ u * w := by
      rw [Nat.mul_assoc, Nat.mul_comm (u % w)] at h8
      exact h8
    rcases Nat.lt_or_ge s 127 with h10 | h10
    · rw [show 127 - s = (127 - (s + 1)) + 1 by omega, Nat.pow_succ] at h3
      omega
    · rw [show 127 - s = 0 by omega, Nat.pow_zero] at h3
      have : w * (u % w) = 0 := by omega
      rw [this]
      exact Nat.two_pow_pos _
theorem z_eu0 {u w s : Nat} (h : s = 0 ∨ (w < u ∧ u * w < 2 ^ (127 - s))) (hs : 128 ≤ s) : w = 0 := by
  rcases h with h | ⟨h2, h3⟩
  · omega
  · rw [show 127 - s = 0 by omega, Nat.pow_zero] at h3
    rcases Nat.eq_zero_or_pos w with h4 | h4
    · exact h4
    · have := Nat.mul_pos (show 0 < u by omega) h4
      omega
theorem z_d32_o {a b : Nat} (ha : a < 65536) (hb : b < 65536) : (nI a <<< (nI 16 &&& 31)) + nI b = nI (a * 65536 + b) := by
  have e : nI a <<< (nI 16 &&& 31) = nI (a * 2 ^ 16) := pk_shlN _ 16 (by decide) (by omega)
  rw [e, nI_add]
theorem z_d32_0 {v k : Nat} (hv : v < 65536 ^ 20) (hk : 10 ≤ k) : y_d32 v k = 0 := by
  unfold y_d32
  rw [y_pq]
  have : (65536 : Nat) ^ 20 ≤ 65536 ^ (2 * k) := Nat.pow_le_pow_right (by decide) (by omega)
  rw [Nat.div_eq_of_lt (by omega), Nat.zero_mod]
theorem z_d32_lt (v k : Nat) : y_d32 v k < 4294967296 := Nat.mod_lt _ (by decide)
theorem z_d32_n0 {v k : Nat} : nI (y_d32 v k) = 0 ↔ y_d32 v k = 0 := by
  constructor
  · intro h
    have h1 : (nI (y_d32 v k)).toBitVec.toNat = (0 : Int32).toBitVec.toNat := by rw [h]
    rw [pk_tn (z_d32_lt v k)] at h1
    exact h1
  · intro h
    rw [h]
    rfl
theorem z_nd_i {v k : Nat} (h : v < 4294967296 ^ (k + 1)) (hd : ¬ y_d32 v k = 0) : y_nd v (k + 1) := by
  refine ⟨h, Or.inr ?_⟩
  rw [Nat.add_sub_cancel]
  refine Nat.le_of_not_lt (fun z => hd ?_)
  unfold y_d32
  rw [Nat.div_eq_of_lt z, Nat.zero_mod]
theorem z_nd_d {v k : Nat} (h : v < 4294967296 ^ (k + 1)) (hd : y_d32 v k = 0) : v < 4294967296 ^ k := by
  unfold y_d32 at hd
  have h1 : v / 4294967296 ^ k < 4294967296 := Nat.div_lt_of_lt_mul (by rw [← Nat.pow_succ]; exact h)
  rw [Nat.mod_eq_of_lt h1] at hd
  have h2 := Nat.div_add_mod v (4294967296 ^ k)
  have h3 := Nat.mod_lt v (show 0 < 4294967296 ^ k from Nat.pow_pos (by decide))
  rw [hd, Nat.mul_zero] at h2
  omega
theorem z_ap_b2 {v w b k : Nat} (hb : b < 2 ^ 45) : z_cp v w b k + (y_dg v k + y_dg w k * b) < 2 ^ 62 := by
  have h1 := z_cp_le v w b k
  have h2 : y_dg w k * b ≤ 65535 * b := Nat.mul_le_mul_right b (by have := y_dg_lt w k; omega)
  have h3 := y_dg_lt v k
  omega
theorem z_lle {a b : Nat} (ha : a < 2 ^ 63) (hb : b < 2 ^ 63) : lN a ≤ lN b ↔ a ≤ b := by
  rw [Int64.le_iff_toInt_le, pf_lI ha, pf_lI hb]
  omega
theorem z_llt {a b : Nat} (ha : a < 2 ^ 63) (hb : b < 2 ^ 63) : lN a < lN b ↔ a < b := by
  rw [Int64.lt_iff_toInt_lt, pf_lI ha, pf_lI hb]
  omega
theorem z_l1 {b : Nat} (hb : b < 2 ^ 63) (h : 0 < b) : lN 1 ≤ lN b := (z_lle (by decide) hb).mpr h
theorem z_l0 {b : Nat} (hb : b < 2 ^ 63) (h : lN b ≤ lN 0) : b = 0 := by
  have := (z_lle hb (by decide)).mp h
  omega
theorem z_l0p {b : Nat} (hb : b < 2 ^ 63) (h : lN 0 < lN b) : 0 < b := (z_llt (by decide) hb).mp h
