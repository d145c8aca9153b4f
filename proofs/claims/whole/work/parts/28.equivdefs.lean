/-! ===== equivalent indices, as the reference has them ===== -/
def x_key (h k l : Int32) : Int64 := ((h.toInt64 + (524288)) * (1048576) + k.toInt64 + (524288)) * (1048576) + l.toInt64 + (524288)
def x_part (q : Int64) (w : Nat) : Int32 := ((if w = 0 then q >>> ((nI 40).toInt64 &&& 63) else if w = 1 then q >>> ((nI 20).toInt64 &&& 63) else q) &&& (1048575)).toInt32 - nI 524288
def x_mj (l : List Int64) (f : Nat → Int64) : Nat → Int64 := fun j => l.getD j (f j)
theorem x_mj_nil (f : Nat → Int64) : x_mj [] f = f := by
  funext j
  rfl
theorem x_mj_push (l : List Int64) (f : Nat → Int64) (x : Int64) : vp_updL (x_mj l f) l.length x = x_mj (l ++ [x]) f := by
  funext i
  unfold x_mj
  by_cases hi : i = l.length
  · subst hi
    rw [pk_uLs]
    simp [List.getD]
  · rw [pk_uLn hi]
    by_cases h2 : i < l.length
    · simp [List.getD, List.getElem?_append_left h2]
    · have h3 : l.length + 1 ≤ i := by omega
      rw [List.getD, List.getD, List.getElem?_eq_none (by omega), List.getElem?_eq_none (by rw [List.length_append]; simpa using h3)]
theorem x_mj_at (l : List Int64) (f : Nat → Int64) {j : Nat} (h : j < l.length) : x_mj l f j = l.getD j 0 := by
  unfold x_mj
  simp [List.getD, h]
def x_eq (σ : x_S) (Es : List Int64) : x_S := x_u (x_ul σ 48 (x_mj Es (σ.2 48))) 38 18 (nI Es.length)
def x_addu (Es : List Int64) (x : Int64) : List Int64 := if x ∈ Es then Es else Es ++ [x]
theorem x_addu_len (Es : List Int64) (x : Int64) : (x_addu Es x).length ≤ Es.length + 1 := by
  unfold x_addu
  split
  · omega
  · rw [List.length_append]; exact Nat.le_refl _
theorem x_eq_start (σ : x_S) : x_u σ 38 18 (nI 0) = x_eq σ [] := by
  unfold x_eq
  rw [x_mj_nil, x_ul_self]
  rfl
theorem x_eq_push (σ : x_S) (Es : List Int64) (x : Int64) : x_u (x_w (x_eq σ Es) 48 Es.length x) 38 18 (nI (Es.length + 1)) = x_eq σ (Es ++ [x]) := by
  have e : x_w (x_eq σ Es) 48 Es.length x = x_u (x_ul σ 48 (x_mj (Es ++ [x]) (σ.2 48))) 38 18 (nI Es.length) := by
    rw [← x_mj_push]
    unfold x_eq x_w x_u x_ul
    refine Prod.ext rfl ?_
    funext j
    show va_up (va_up σ.2 48 (x_mj Es (σ.2 48))) 48 (vp_updL (va_up σ.2 48 (x_mj Es (σ.2 48)) 48) Es.length x) j = va_up σ.2 48 (vp_updL (x_mj Es (σ.2 48)) Es.length x) j
    by_cases h : j = 48
    · subst h; rw [va_up_self, va_up_self, va_up_self]
    · rw [va_up_ne _ _ h, va_up_ne _ _ h, va_up_ne _ _ h]
  rw [e, x_u_u]
  unfold x_eq
  rw [List.length_append]
  rfl
def x_k1 (t : Nat → Int32) (h k l : Int32) (i : Nat) : Int64 := x_key (x_snt t i 0 h k l) (x_snt t i 1 h k l) (x_snt t i 2 h k l)
def x_k2 (t : Nat → Int32) (h k l : Int32) (i : Nat) : Int64 := x_key (-x_snt t i 0 h k l) (-x_snt t i 1 h k l) (-x_snt t i 2 h k l)
def x_eqf (t : Nat → Int32) (h k l : Int32) : Nat → List Int64
  | 0 => []
  | i + 1 => x_addu (x_addu (x_eqf t h k l i) (x_k1 t h k l i)) (x_k2 t h k l i)
theorem x_eqf_len (t : Nat → Int32) (h k l : Int32) : ∀ i, (x_eqf t h k l i).length ≤ 2 * i
  | 0 => Nat.le_refl 0
  | i + 1 => by
    have := x_eqf_len t h k l i
    have h1 := x_addu_len (x_eqf t h k l i) (x_k1 t h k l i)
    have h2 := x_addu_len (x_addu (x_eqf t h k l i) (x_k1 t h k l i)) (x_k2 t h k l i)
    show (x_addu _ _).length ≤ _
    omega
def x_mx (x y : Int64) : Int64 := if y < x then x else y
def x_gof (t : Nat → Int32) (h k l : Int32) : Nat → Int64
  | 0 => x_key h k l
  | i + 1 => x_mx (x_k2 t h k l i) (x_mx (x_k1 t h k l i) (x_gof t h k l i))
theorem x_mem_drop {Es : List Int64} {i : Nat} {x : Int64} (h : i < Es.length) : (decide (x ∈ Es.drop i)) = (decide (Es.getD i 0 = x) || decide (x ∈ Es.drop (i + 1))) := by
  rw [List.drop_eq_getElem_cons h]
  simp only [List.mem_cons, List.getD, List.getElem?_eq_getElem h, Option.getD_some]
  by_cases e : x = Es[i]
  · subst e; simp
  · have e' : ¬ Es[i] = x := fun z => e z.symm
    simp [e, e']
/-! classes -/
def x_allb (p : Nat → Bool) : Nat → Bool
  | 0 => true
  | k + 1 => x_allb p k && p k
def x_same (t : Nat → Int32) (i j : Nat) : Bool := x_allb (fun k => decide (t (9 * i + k) = x_det t i * x_det t j * t (9 * j + k))) 9
def x_lcnt (t : Nat → Int32) : Nat → Nat
  | 0 => 0
  | i + 1 => if x_allb (fun j => !x_same t i j) i = true then x_lcnt t i + 1 else x_lcnt t i
theorem x_lcnt_le (t : Nat → Int32) : ∀ i, x_lcnt t i ≤ i
  | 0 => Nat.le_refl 0
  | i + 1 => by
    have := x_lcnt_le t i
    unfold x_lcnt
    split <;> omega
def x_trc (t : Nat → Int32) (i : Nat) : Int32 := x_det t i * (t (9 * i) + t (9 * i + 4) + t (9 * i + 8))
def x_ltr (t : Nat → Int32) (v : Nat) : Nat → Bool
  | 0 => false
  | i + 1 => x_ltr t v i || decide (x_trc t i = nI v)
def x_lau (n : Nat) (one two : Bool) : Int32 := if n = 1 then nI 0 else if n = 2 then nI 1 else if n = 3 then nI 5 else if n = 4 then (if one = true then nI 3 else nI 2) else if n = 6 then (if two = true then nI 7 else nI 6) else if n = 8 then nI 4 else if n = 12 then (if two = true then nI 8 else nI 9) else nI 10
def x_pl1 (t : Nat → Int32) (sg : Int32) (i : Nat) : Bool := x_allb (fun k => decide (t (9 * i + k) = if k % 4 = 0 then sg else nI 0)) 9
def x_plc (t : Nat → Int32) (sg : Int32) : Nat → Nat
  | 0 => 0
  | i + 1 => if x_pl1 t sg i = true then x_plc t sg i + 1 else x_plc t sg i
theorem x_plc_le (t : Nat → Int32) (sg : Int32) : ∀ i, x_plc t sg i ≤ i
  | 0 => Nat.le_refl 0
  | i + 1 => by
    have := x_plc_le t sg i
    unfold x_plc
    split <;> omega
theorem x_mx_gt {x y : Int64} (h : y < x) : x_mx x y = x := by
  unfold x_mx
  rw [if_pos h]
theorem x_mx_le {x y : Int64} (h : x ≤ y) : x_mx x y = y := by
  unfold x_mx
  rw [if_neg (Int64.not_lt.mpr h)]
