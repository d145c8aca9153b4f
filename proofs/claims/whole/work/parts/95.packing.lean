/-! ===== indices in one number, the class's way and the reference's ===== -/
def mm_pk (v : mm_V) : Int32 := z_pack v.1 v.2.1 v.2.2
def mm_kv (v : mm_V) : Int64 := x_key v.1 v.2.1 v.2.2
def mm_s1 (x : Int32) : Prop := -511 ≤ x.toInt ∧ x.toInt ≤ 511
def mm_sml (v : mm_V) : Prop := mm_s1 v.1 ∧ mm_s1 v.2.1 ∧ mm_s1 v.2.2
theorem mm_s1_n {x : Int32} (h : mm_s1 x) : ∃ A : Nat, 0 < A ∧ A < 1024 ∧ x + nI 512 = nI A ∧ x = nI A - nI 512 ∧ x.toInt64 + 524288 = lN (A + 523776) := by
  obtain ⟨h1, h2⟩ := h
  have e512 : (nI 512).toInt = 512 := by decide
  have e0 : (x + nI 512).toInt = x.toInt + 512 := by
    rw [Int32.toInt_add, e512]
    exact Int.bmod_eq_of_le (by omega) (by omega)
  have e1 : x + nI 512 = nI (x.toInt + 512).toNat := by
    apply Int32.toInt_inj.mp
    rw [e0, nI_toInt (by omega)]
    omega
  refine ⟨(x.toInt + 512).toNat, by omega, by omega, e1, ?_, ?_⟩
  · rw [← e1, Int32.add_sub_cancel]
  · apply Int64.toInt_inj.mp
    have e2 : (524288 : Int64).toInt = 524288 := by decide
    rw [Int64.toInt_add, Int32.toInt_toInt64, e2, lN_toInt (by omega), Int.bmod_eq_of_le (by omega) (by omega)]
    omega
theorem mm_sml_n {v : mm_V} (h : mm_sml v) : ∃ A B C : Nat, (0 < A ∧ A < 1024) ∧ (0 < B ∧ B < 1024) ∧ (0 < C ∧ C < 1024) ∧ v = (nI A - nI 512, nI B - nI 512, nI C - nI 512) ∧ mm_pk v = nI (A * 1048576 + B * 1024 + C) ∧ mm_kv v = lN (((A + 523776) * 1048576 + (B + 523776)) * 1048576 + (C + 523776)) := by
  obtain ⟨A, a1, a2, a3, a4, a5⟩ := mm_s1_n h.1
  obtain ⟨B, b1, b2, b3, b4, b5⟩ := mm_s1_n h.2.1
  obtain ⟨C, c1, c2, c3, c4, c5⟩ := mm_s1_n h.2.2
  refine ⟨A, B, C, ⟨a1, a2⟩, ⟨b1, b2⟩, ⟨c1, c2⟩, ?_, ?_, ?_⟩
  · exact Prod.ext a4 (Prod.ext b4 c4)
  · unfold mm_pk z_pack
    rw [a3, b3, pk_shlN _ 20 (by decide) (by omega), pk_shlN _ 10 (by decide) (by omega), Int32.add_assoc (_ + _) _ (nI 512), c3, nI_add, nI_add]
  · unfold mm_kv x_key
    rw [a5, show (1048576 : Int64) = lN 1048576 from rfl, Int64.add_assoc (_ * _) _ 524288, c5, Int64.add_assoc (_ * _) _ 524288, b5, lN_mul, lN_add, lN_mul, lN_add]
theorem mm_pk_lt {v w : mm_V} (hv : mm_sml v) (hw : mm_sml w) : mm_pk v < mm_pk w ↔ mm_kv v < mm_kv w := by
  obtain ⟨A, B, C, h1, h2, h3, -, e1, e2⟩ := mm_sml_n hv
  obtain ⟨A', B', C', h1', h2', h3', -, e1', e2'⟩ := mm_sml_n hw
  rw [e1, e2, e1', e2', nI_ltI (by omega) (by omega), z_llt (by omega) (by omega)]
  omega
theorem mm_pk_inj {v w : mm_V} (hv : mm_sml v) (hw : mm_sml w) (h : mm_pk v = mm_pk w) : v = w := by
  obtain ⟨A, B, C, h1, h2, h3, e0, e1, -⟩ := mm_sml_n hv
  obtain ⟨A', B', C', h1', h2', h3', e0', e1', -⟩ := mm_sml_n hw
  rw [e1, e1', nI_eq (by omega) (by omega)] at h
  have ha : A = A' := by omega
  have hb : B = B' := by omega
  have hc : C = C' := by omega
  rw [e0, e0', ha, hb, hc]
theorem mm_kv_inj {v w : mm_V} (hv : mm_sml v) (hw : mm_sml w) (h : mm_kv v = mm_kv w) : v = w := by
  obtain ⟨A, B, C, h1, h2, h3, e0, -, e1⟩ := mm_sml_n hv
  obtain ⟨A', B', C', h1', h2', h3', e0', -, e1'⟩ := mm_sml_n hw
  rw [e1, e1', pk_lEQ (by omega) (by omega)] at h
  have ha : A = A' := by omega
  have hb : B = B' := by omega
  have hc : C = C' := by omega
  rw [e0, e0', ha, hb, hc]
theorem mm_sub512 {A : Nat} : nI (A + 523776) - nI 524288 = nI A - nI 512 := by
  rw [← nI_add, show nI 524288 = nI 523776 + nI 512 from rfl, Int32.sub_eq_add_neg, Int32.sub_eq_add_neg, Int32.neg_add, Int32.sub_eq_add_neg]
  have : nI A + nI 523776 + (-nI 523776 + -nI 512) = nI A + -nI 512 + (nI 523776 + -nI 523776) := by ac_rfl
  rw [this, ← Int32.sub_eq_add_neg (nI 523776), Int32.sub_self, Int32.add_zero]
theorem mm_zpart {v : mm_V} (h : mm_sml v) : z_part (mm_pk v) 0 = v.1 ∧ z_part (mm_pk v) 1 = v.2.1 ∧ z_part (mm_pk v) 2 = v.2.2 := by
  obtain ⟨A, B, C, h1, h2, h3, e0, e1, -⟩ := mm_sml_n h
  rw [e1, e0]
  unfold z_part
  refine ⟨?_, ?_, ?_⟩
  · rw [pk_shrN (by omega) _ 20 (by decide), pk_andN (by omega) 10 (by decide), show (A * 1048576 + B * 1024 + C) / 2 ^ 20 % 2 ^ 10 = A by omega]
  · rw [pk_shrN (by omega) _ 10 (by decide), pk_andN (by omega) 10 (by decide), show (A * 1048576 + B * 1024 + C) / 2 ^ 10 % 2 ^ 10 = B by omega]
  · rw [pk_shrN (by omega) _ 0 (by decide), pk_andN (by omega) 10 (by decide), show (A * 1048576 + B * 1024 + C) / 2 ^ 0 % 2 ^ 10 = C by omega]
theorem mm_xpart {v : mm_V} (h : mm_sml v) : x_part (mm_kv v) 0 = v.1 ∧ x_part (mm_kv v) 1 = v.2.1 ∧ ∀ w, 2 ≤ w → x_part (mm_kv v) w = v.2.2 := by
  obtain ⟨A, B, C, h1, h2, h3, e0, -, e1⟩ := mm_sml_n h
  rw [e1, e0]
  unfold x_part
  refine ⟨?_, ?_, fun w hw => ?_⟩
  · rw [if_pos rfl, x_lshrN 40 (by decide) (by omega), show (1048575 : Int64) = lN 1048575 from rfl, x_lmask 20 (by decide) (by omega), lN_i, show (((A + 523776) * 1048576 + (B + 523776)) * 1048576 + (C + 523776)) / 2 ^ 40 % 2 ^ 20 = A + 523776 by omega, mm_sub512]
  · rw [if_neg (by decide), if_pos rfl, x_lshrN 20 (by decide) (by omega), show (1048575 : Int64) = lN 1048575 from rfl, x_lmask 20 (by decide) (by omega), lN_i, show (((A + 523776) * 1048576 + (B + 523776)) * 1048576 + (C + 523776)) / 2 ^ 20 % 2 ^ 20 = B + 523776 by omega, mm_sub512]
  · rw [if_neg (by omega), if_neg (by omega), show (1048575 : Int64) = lN 1048575 from rfl, x_lmask 20 (by decide) (by omega), lN_i, show (((A + 523776) * 1048576 + (B + 523776)) * 1048576 + (C + 523776)) % 2 ^ 20 = C + 523776 by omega, mm_sub512]
theorem mm_shl20 (x : Int32) : x <<< (nI 20 &&& 31) = x * nI 1048576 := by
  apply Int32.toBitVec_inj.mp
  apply BitVec.eq_of_toNat_eq
  rw [pk_shl _ _ 20 (by decide), Int32.toBitVec_mul, BitVec.toNat_mul]
  rfl
theorem mm_shl10 (x : Int32) : x <<< (nI 10 &&& 31) = x * nI 1024 := by
  apply Int32.toBitVec_inj.mp
  apply BitVec.eq_of_toNat_eq
  rw [pk_shl _ _ 10 (by decide), Int32.toBitVec_mul, BitVec.toNat_mul]
  rfl
theorem mm_opp (v : mm_V) : z_opp (mm_pk v) = mm_pk (mm_vn v) := by
  obtain ⟨x, y, z⟩ := v
  show nI 1074791424 - z_pack x y z = z_pack (-x) (-y) (-z)
  unfold z_pack
  rw [mm_shl20, mm_shl20, mm_shl10, mm_shl10, show nI 1074791424 = (1074791424 : Int32) from rfl, show nI 512 = (512 : Int32) from rfl, show nI 1048576 = (1048576 : Int32) from rfl, show nI 1024 = (1024 : Int32) from rfl]
  grind
theorem mm_s1_neg {x : Int32} (h : mm_s1 x) : mm_s1 (-x) := by
  have e : (-x).toInt = -x.toInt := by
    rw [Int32.toInt_neg]
    exact Int.bmod_eq_of_le (by have := h.1; have := h.2; omega) (by have := h.1; have := h.2; omega)
  unfold mm_s1
  rw [e]
  have := h.1; have := h.2
  omega
theorem mm_sml_neg {v : mm_V} (h : mm_sml v) : mm_sml (mm_vn v) := ⟨mm_s1_neg h.1, mm_s1_neg h.2.1, mm_s1_neg h.2.2⟩
theorem mm_vn_vn (v : mm_V) : mm_vn (mm_vn v) = v := by
  obtain ⟨x, y, z⟩ := v
  show (- -x, - -y, - -z) = (x, y, z)
  rw [Int32.neg_neg, Int32.neg_neg, Int32.neg_neg]
/-- a number of an index -/
def mm_i1 (x : Int32) : Prop := -127 ≤ x.toInt ∧ x.toInt ≤ 127
def mm_ix (v : mm_V) : Prop := mm_i1 v.1 ∧ mm_i1 v.2.1 ∧ mm_i1 v.2.2
theorem mm_i1_mul {x a : Int32} (h : mm_i1 x) (ha : z_inr a) : mm_i1 (x * a) := by
  have h1 := Int32.le_iff_toInt_le.mp (Int32.not_lt.mp ha.1)
  have h2 := Int32.le_iff_toInt_le.mp (Int32.not_lt.mp ha.2)
  rw [show (-1 : Int32).toInt = -1 from rfl] at h1
  rw [show (nI 1).toInt = 1 from rfl] at h2
  obtain ⟨x1, x2⟩ := h
  have e : (x * a).toInt = x.toInt * a.toInt := by
    rw [Int32.toInt_mul]
    rcases (show a.toInt = -1 ∨ a.toInt = 0 ∨ a.toInt = 1 by omega) with h3 | h3 | h3 <;> rw [h3] <;> exact Int.bmod_eq_of_le (by omega) (by omega)
  unfold mm_i1
  rw [e]
  rcases (show a.toInt = -1 ∨ a.toInt = 0 ∨ a.toInt = 1 by omega) with h3 | h3 | h3 <;> rw [h3] <;> omega
theorem mm_i1_add3 {x y z : Int32} (hx : mm_i1 x) (hy : mm_i1 y) (hz : mm_i1 z) : mm_s1 (x + y + z) := by
  obtain ⟨x1, x2⟩ := hx
  obtain ⟨y1, y2⟩ := hy
  obtain ⟨z1, z2⟩ := hz
  have e1 : (x + y).toInt = x.toInt + y.toInt := by
    rw [Int32.toInt_add]
    exact Int.bmod_eq_of_le (by omega) (by omega)
  have e2 : (x + y + z).toInt = x.toInt + y.toInt + z.toInt := by
    rw [Int32.toInt_add, e1]
    exact Int.bmod_eq_of_le (by omega) (by omega)
  unfold mm_s1
  rw [e2]
  omega
theorem mm_va_sml {v : mm_V} (h : mm_ix v) {A : List Int32} (hA : ∀ m, m < 9 → z_inr (A.getD m 0)) : mm_sml (mm_va v A) := by
  have key : ∀ c, c < 3 → mm_s1 (mm_v1 v A c) := fun c hc => mm_i1_add3 (mm_i1_mul h.1 (hA c (by omega))) (mm_i1_mul h.2.1 (hA (3 + c) (by omega))) (mm_i1_mul h.2.2 (hA (6 + c) (by omega)))
  exact ⟨key 0 (by decide), key 1 (by decide), key 2 (by decide)⟩
