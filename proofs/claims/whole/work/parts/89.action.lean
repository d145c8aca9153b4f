/-! ===== products of matrices; their action on indices ===== -/
theorem mm_g (A B : List Int32) {r c : Nat} (hr : r < 3) (hc : c < 3) : (x_mul A B).getD (3 * r + c) 0 = x_d3 A B r c := by
  rcases (show r = 0 ∨ r = 1 ∨ r = 2 by omega) with rfl | rfl | rfl <;> rcases (show c = 0 ∨ c = 1 ∨ c = 2 by omega) with rfl | rfl | rfl <;> rfl
theorem mm_d3_assoc (A B C : List Int32) {r c : Nat} (hr : r < 3) (hc : c < 3) : x_d3 (x_mul A B) C r c = x_d3 A (x_mul B C) r c := by
  have e0 : (x_mul A B).getD (3 * r) 0 = x_d3 A B r 0 := mm_g A B (c := 0) hr (by decide)
  have e1 : (x_mul A B).getD (3 * r + 1) 0 = x_d3 A B r 1 := mm_g A B hr (by decide)
  have e2 : (x_mul A B).getD (3 * r + 2) 0 = x_d3 A B r 2 := mm_g A B hr (by decide)
  have f0 : (x_mul B C).getD c 0 = x_d3 B C 0 c := by
    have h := mm_g B C (r := 0) (by decide) hc
    rwa [show 3 * 0 + c = c by omega] at h
  have f1 : (x_mul B C).getD (3 + c) 0 = x_d3 B C 1 c := mm_g B C (r := 1) (by decide) hc
  have f2 : (x_mul B C).getD (6 + c) 0 = x_d3 B C 2 c := mm_g B C (r := 2) (by decide) hc
  unfold x_d3
  rw [e0, e1, e2, f0, f1, f2]
  unfold x_d3
  simp only [show nI 0 = 0 from rfl, Int32.zero_add, Int32.mul_add, Int32.add_mul, Int32.mul_assoc, Nat.mul_zero, Nat.zero_add, Nat.mul_one, Nat.reduceMul, Nat.reduceAdd, Nat.add_zero]
  ac_rfl
theorem mm_assoc (A B C : List Int32) : x_mul (x_mul A B) C = x_mul A (x_mul B C) := by
  show [x_d3 (x_mul A B) C 0 0, x_d3 (x_mul A B) C 0 1, x_d3 (x_mul A B) C 0 2, x_d3 (x_mul A B) C 1 0, x_d3 (x_mul A B) C 1 1, x_d3 (x_mul A B) C 1 2, x_d3 (x_mul A B) C 2 0, x_d3 (x_mul A B) C 2 1, x_d3 (x_mul A B) C 2 2] = [x_d3 A (x_mul B C) 0 0, x_d3 A (x_mul B C) 0 1, x_d3 A (x_mul B C) 0 2, x_d3 A (x_mul B C) 1 0, x_d3 A (x_mul B C) 1 1, x_d3 A (x_mul B C) 1 2, x_d3 A (x_mul B C) 2 0, x_d3 A (x_mul B C) 2 1, x_d3 A (x_mul B C) 2 2]
  rw [mm_d3_assoc A B C (r := 0) (c := 0) (by decide) (by decide), mm_d3_assoc A B C (r := 0) (c := 1) (by decide) (by decide), mm_d3_assoc A B C (r := 0) (c := 2) (by decide) (by decide), mm_d3_assoc A B C (r := 1) (c := 0) (by decide) (by decide), mm_d3_assoc A B C (r := 1) (c := 1) (by decide) (by decide), mm_d3_assoc A B C (r := 1) (c := 2) (by decide) (by decide), mm_d3_assoc A B C (r := 2) (c := 0) (by decide) (by decide), mm_d3_assoc A B C (r := 2) (c := 1) (by decide) (by decide), mm_d3_assoc A B C (r := 2) (c := 2) (by decide) (by decide)]
abbrev mm_V : Type := Int32 × Int32 × Int32
def mm_v1 (v : mm_V) (A : List Int32) (c : Nat) : Int32 := v.1 * A.getD c 0 + v.2.1 * A.getD (3 + c) 0 + v.2.2 * A.getD (6 + c) 0
def mm_va (v : mm_V) (A : List Int32) : mm_V := (mm_v1 v A 0, mm_v1 v A 1, mm_v1 v A 2)
theorem mm_v1_mul (v : mm_V) (A B : List Int32) {c : Nat} (hc : c < 3) : mm_v1 (mm_va v A) B c = mm_v1 v (x_mul A B) c := by
  have f0 : (x_mul A B).getD c 0 = x_d3 A B 0 c := by
    have h := mm_g A B (r := 0) (by decide) hc
    rwa [show 3 * 0 + c = c by omega] at h
  have f1 : (x_mul A B).getD (3 + c) 0 = x_d3 A B 1 c := mm_g A B (r := 1) (by decide) hc
  have f2 : (x_mul A B).getD (6 + c) 0 = x_d3 A B 2 c := mm_g A B (r := 2) (by decide) hc
  unfold mm_v1
  rw [f0, f1, f2]
  unfold mm_va mm_v1 x_d3
  simp only [show nI 0 = 0 from rfl, Int32.zero_add, Int32.mul_add, Int32.add_mul, Int32.mul_assoc, Nat.mul_zero, Nat.zero_add, Nat.mul_one, Nat.reduceMul, Nat.reduceAdd, Nat.add_zero]
  ac_rfl
theorem mm_va_mul (v : mm_V) (A B : List Int32) : mm_va (mm_va v A) B = mm_va v (x_mul A B) := by
  show (mm_v1 (mm_va v A) B 0, mm_v1 (mm_va v A) B 1, mm_v1 (mm_va v A) B 2) = (mm_v1 v (x_mul A B) 0, mm_v1 v (x_mul A B) 1, mm_v1 v (x_mul A B) 2)
  rw [mm_v1_mul v A B (c := 0) (by decide), mm_v1_mul v A B (c := 1) (by decide), mm_v1_mul v A B (c := 2) (by decide)]
theorem mm_va_one (v : mm_V) : mm_va v x_one = v := by
  obtain ⟨x, y, z⟩ := v
  show (x * nI 1 + y * nI 0 + z * nI 0, x * nI 0 + y * nI 1 + z * nI 0, x * nI 0 + y * nI 0 + z * nI 1) = (x, y, z)
  simp only [show nI 0 = 0 from rfl, show nI 1 = 1 from rfl, Int32.mul_zero, Int32.mul_one, Int32.add_zero, Int32.zero_add]
theorem mm_mul_one {A : List Int32} (h : A.length = 9) : x_mul A x_one = A := by
  obtain ⟨a, b, c, d, f, g, k, i, j, rfl⟩ := x_list9 A h
  show [nI 0 + a * nI 1 + b * nI 0 + c * nI 0, nI 0 + a * nI 0 + b * nI 1 + c * nI 0, nI 0 + a * nI 0 + b * nI 0 + c * nI 1, nI 0 + d * nI 1 + f * nI 0 + g * nI 0, nI 0 + d * nI 0 + f * nI 1 + g * nI 0, nI 0 + d * nI 0 + f * nI 0 + g * nI 1, nI 0 + k * nI 1 + i * nI 0 + j * nI 0, nI 0 + k * nI 0 + i * nI 1 + j * nI 0, nI 0 + k * nI 0 + i * nI 0 + j * nI 1] = _
  simp only [show nI 0 = 0 from rfl, show nI 1 = 1 from rfl, Int32.mul_zero, Int32.mul_one, Int32.add_zero, Int32.zero_add]
theorem mm_one_mul {A : List Int32} (h : A.length = 9) : x_mul x_one A = A := by
  obtain ⟨a, b, c, d, f, g, k, i, j, rfl⟩ := x_list9 A h
  show [nI 0 + nI 1 * a + nI 0 * d + nI 0 * k, nI 0 + nI 1 * b + nI 0 * f + nI 0 * i, nI 0 + nI 1 * c + nI 0 * g + nI 0 * j, nI 0 + nI 0 * a + nI 1 * d + nI 0 * k, nI 0 + nI 0 * b + nI 1 * f + nI 0 * i, nI 0 + nI 0 * c + nI 1 * g + nI 0 * j, nI 0 + nI 0 * a + nI 0 * d + nI 1 * k, nI 0 + nI 0 * b + nI 0 * f + nI 1 * i, nI 0 + nI 0 * c + nI 0 * g + nI 1 * j] = _
  simp only [show nI 0 = 0 from rfl, show nI 1 = 1 from rfl, Int32.zero_mul, Int32.one_mul, Int32.add_zero, Int32.zero_add]
theorem mm_gneg (A : List Int32) (k : Nat) : (x_neg A).getD k 0 = -(A.getD k 0) := by
  unfold x_neg
  rw [List.getD, List.getD, List.getElem?_map]
  cases A[k]? <;> rfl
def mm_vn (v : mm_V) : mm_V := (-v.1, -v.2.1, -v.2.2)
theorem mm_va_neg (v : mm_V) (A : List Int32) : mm_va v (x_neg A) = mm_vn (mm_va v A) := by
  unfold mm_vn mm_va mm_v1
  simp only [mm_gneg, Int32.mul_neg, Int32.neg_add, Int32.sub_eq_add_neg]
theorem mm_neg_mul (A B : List Int32) : x_mul (x_neg A) B = x_neg (x_mul A B) := by
  have h : ∀ r c, x_d3 (x_neg A) B r c = -(x_d3 A B r c) := fun r c => by
    unfold x_d3
    simp only [mm_gneg, show nI 0 = 0 from rfl, Int32.zero_add, Int32.neg_mul, Int32.neg_add, Int32.sub_eq_add_neg]
  show [x_d3 (x_neg A) B 0 0, x_d3 (x_neg A) B 0 1, x_d3 (x_neg A) B 0 2, x_d3 (x_neg A) B 1 0, x_d3 (x_neg A) B 1 1, x_d3 (x_neg A) B 1 2, x_d3 (x_neg A) B 2 0, x_d3 (x_neg A) B 2 1, x_d3 (x_neg A) B 2 2] = _
  simp only [h]
  rfl
theorem mm_mul_neg (A B : List Int32) : x_mul A (x_neg B) = x_neg (x_mul A B) := by
  have h : ∀ r c, x_d3 A (x_neg B) r c = -(x_d3 A B r c) := fun r c => by
    unfold x_d3
    simp only [mm_gneg, show nI 0 = 0 from rfl, Int32.zero_add, Int32.mul_neg, Int32.neg_add, Int32.sub_eq_add_neg]
  show [x_d3 A (x_neg B) 0 0, x_d3 A (x_neg B) 0 1, x_d3 A (x_neg B) 0 2, x_d3 A (x_neg B) 1 0, x_d3 A (x_neg B) 1 1, x_d3 A (x_neg B) 1 2, x_d3 A (x_neg B) 2 0, x_d3 A (x_neg B) 2 1, x_d3 A (x_neg B) 2 2] = _
  simp only [h]
  rfl
theorem mm_neg_neg (A : List Int32) : x_neg (x_neg A) = A := by
  unfold x_neg
  rw [List.map_map]
  have : ((fun x : Int32 => -x) ∘ fun x => -x) = id := by
    funext x
    exact Int32.neg_neg
  rw [this, List.map_id]
/-! the numbers modulo 256 -/
def mm_n8 (x : Int32) : Nat := x.toBitVec.toNat % 256
theorem mm_n8_mul (x y : Int32) : mm_n8 (x * y) = mm_n8 x * mm_n8 y % 256 := by
  unfold mm_n8
  rw [Int32.toBitVec_mul, BitVec.toNat_mul, Nat.mod_mod_of_dvd _ (by decide), Nat.mul_mod]
theorem mm_n8_add (x y : Int32) : mm_n8 (x + y) = (mm_n8 x + mm_n8 y) % 256 := by
  unfold mm_n8
  rw [Int32.toBitVec_add, BitVec.toNat_add, Nat.mod_mod_of_dvd _ (by decide), Nat.add_mod]
abbrev mm_N3 : Type := Nat × Nat × Nat
def mm_w1 (a : List Nat) (x : mm_N3) (c : Nat) : Nat := (x.1 * a.getD c 0 + x.2.1 * a.getD (3 + c) 0 + x.2.2 * a.getD (6 + c) 0) % 256
def mm_wa (a : List Nat) (x : mm_N3) : mm_N3 := (mm_w1 a x 0, mm_w1 a x 1, mm_w1 a x 2)
def mm_t8 (v : mm_V) : mm_N3 := (mm_n8 v.1, mm_n8 v.2.1, mm_n8 v.2.2)
theorem mm_g8 (A : List Int32) (k : Nat) : (A.map mm_n8).getD k 0 = mm_n8 (A.getD k 0) := by
  rw [List.getD, List.getD, List.getElem?_map]
  cases A[k]? <;> rfl
theorem mm_v1_8 (v : mm_V) (A : List Int32) (c : Nat) : mm_n8 (mm_v1 v A c) = mm_w1 (A.map mm_n8) (mm_t8 v) c := by
  unfold mm_v1 mm_w1 mm_t8
  rw [mm_n8_add, mm_n8_add, mm_n8_mul, mm_n8_mul, mm_n8_mul, mm_g8, mm_g8, mm_g8]
  simp only [Nat.mod_add_mod, Nat.add_mod_mod]
theorem mm_va_8 (v : mm_V) (A : List Int32) : mm_t8 (mm_va v A) = mm_wa (A.map mm_n8) (mm_t8 v) := by
  show (mm_n8 (mm_v1 v A 0), mm_n8 (mm_v1 v A 1), mm_n8 (mm_v1 v A 2)) = _
  rw [mm_v1_8, mm_v1_8, mm_v1_8]
  rfl
/-- the vector x sent again and again, n times: it never comes to v -/
def mm_run (a : List Nat) (v : mm_N3) : Nat → mm_N3 → Bool
  | 0, _ => true
  | n + 1, x => !(Nat.beq (mm_wa a x).1 v.1 && (Nat.beq (mm_wa a x).2.1 v.2.1 && Nat.beq (mm_wa a x).2.2 v.2.2)) && mm_run a v n (mm_wa a x)
def mm_inf1 (w : List Int32) (v : mm_N3) : Bool := mm_run (w.map mm_n8) v 192 v
def mm_inf (w : List Int32) : Bool := mm_inf1 w (1, 0, 0) || (mm_inf1 w (0, 1, 0) || mm_inf1 w (0, 0, 1))
def mm_badp (a b : List Int32) : Bool := mm_inf (x_mul a b) || mm_inf (x_mul (x_mul a a) b)
theorem mm_bad1 : mm_X1.all (fun a => mm_S.all (fun b => mm_M1.elem b || mm_badp a b)) = true := by decide +kernel
theorem mm_bad2 : mm_X2.all (fun a => mm_S.all (fun b => mm_M2.elem b || mm_badp a b)) = true := by decide +kernel
theorem mm_bad3 : mm_X3.all (fun a => mm_S.all (fun b => mm_M3.elem b || mm_badp a b)) = true := by decide +kernel
