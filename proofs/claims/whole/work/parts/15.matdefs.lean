/-! ===== a matrix of a symbol ===== -/
def x_ma1 (b : Nat → Int32) (t a : Nat) : Nat := if x_lookv b t a = nI 45 then a + 1 else a
def x_mn (b : Nat → Int32) (t a : Nat) : Nat := x_ordn (x_lookv b t (x_ma1 b t a))
def x_maw (b : Nat → Int32) (t a : Nat) : Int32 := x_axAt (x_mn b t a) (x_lookv b t (x_ma1 b t a + 1))
def x_max (b : Nat → Int32) (t a su fi : Nat) : Int32 := if x_maw b t a = -1 then (if 1 < x_mn b t a then x_axFor su fi (x_mn b t a) else -1) else x_maw b t a
def x_mok (b : Nat → Int32) (t a su fi : Nat) : Bool := x_isOrd (x_lookv b t (x_ma1 b t a)) && (decide (x_mn b t a = 1) || !decide (x_max b t a su fi = -1))
def x_mfl (b : Nat → Int32) (t a : Nat) : Nat := if x_isOrd (x_lookv b t (x_ma1 b t a)) = true then x_ma1 b t a + 1 else x_ma1 b t a
def x_man (b : Nat → Int32) (t a su fi : Nat) : Nat := (x_max b t a su fi).toNatClampNeg
def x_mr0 (b : Nat → Int32) (t a su fi be : Nat) : List Int32 := if x_mn b t a = 1 then x_one else x_rotl (x_mn b t a) (x_man b t a su fi) be
def x_neg (l : List Int32) : List Int32 := l.map (fun x => -x)
def x_mrot (b : Nat → Int32) (t a su fi be : Nat) : List Int32 := if x_lookv b t a = nI 45 then x_neg (x_mr0 b t a su fi be) else x_mr0 b t a su fi be
def x_ma3 (b : Nat → Int32) (t a : Nat) : Nat := if x_maw b t a = -1 then x_ma1 b t a + 1 else x_ma1 b t a + 2
def x_msf (b : Nat → Int32) (t a su fi : Nat) : Nat × Nat × Nat × Nat := x_sf b t (x_mn b t a) (x_man b t a su fi) 4 (decide (2 < x_mn b t a) && decide (x_man b t a su fi < 3)) (x_ma3 b t a) 0 0 0
theorem x_lookv_m1 {b : Nat → Int32} {t a : Nat} (h : ¬ a < t) : x_lookv b t a = -1 := by
  unfold x_lookv
  rw [if_neg h]
theorem x_isOrd_lt {b : Nat → Int32} {t a : Nat} (h : x_isOrd (x_lookv b t a) = true) : a < t := by
  by_cases ha : a < t
  · exact ha
  · rw [x_lookv_m1 ha] at h
    exact absurd h (by decide)
theorem x_bet {c : Int32} {p q : Nat} (h1 : nI p ≤ c) (h2 : c ≤ nI q) (hp : p < 2 ^ 31) (hq : q < 2 ^ 31) : ∃ j, p ≤ j ∧ j ≤ q ∧ c = nI j := by
  have g1 := Int32.le_iff_toInt_le.mp h1
  have g2 := Int32.le_iff_toInt_le.mp h2
  rw [nI_toInt hp] at g1
  rw [nI_toInt hq] at g2
  obtain ⟨j, hj⟩ := Int.eq_ofNat_of_zero_le (a := c.toInt) (by omega)
  exact ⟨j, by omega, by omega, x_ofInt hj (by omega)⟩
theorem x_isOrd_cases {c : Int32} (h : x_isOrd c = true) : c = nI 49 ∨ c = nI 50 ∨ c = nI 51 ∨ c = nI 52 ∨ c = nI 54 := by
  unfold x_isOrd at h
  simp only [Bool.or_eq_true, Bool.and_eq_true, decide_eq_true_eq] at h
  rcases h with ⟨h1, h2⟩ | h
  · obtain ⟨j, g1, g2, rfl⟩ := x_bet h1 h2 (by decide) (by decide)
    rcases (show j = 49 ∨ j = 50 ∨ j = 51 ∨ j = 52 by omega) with rfl | rfl | rfl | rfl <;> simp
  · simp [h]
theorem x_ord_sub {c : Int32} (h : x_isOrd c = true) : c - nI 48 = nI (x_ordn c) := by
  rcases x_isOrd_cases h with rfl | rfl | rfl | rfl | rfl <;> rfl
theorem x_ord_le (c : Int32) : 1 ≤ x_ordn c ∧ x_ordn c ≤ 6 ∧ x_ordn c ≠ 5 := by
  unfold x_ordn
  repeat' split
  all_goals omega
theorem x_axAt_m1 (n : Nat) : x_axAt n (-1) = -1 := by
  unfold x_axAt
  have h1 : ¬ (nI 120 ≤ (-1 : Int32)) := by decide
  have h2 : ¬ ((-1 : Int32) = nI 39) := by decide
  have h3 : ¬ ((-1 : Int32) = nI 34) := by decide
  have h4 : ¬ ((-1 : Int32) = nI 42) := by decide
  simp [h1, h2, h3, h4]
theorem x_axAt_lt {b : Nat → Int32} {t a n : Nat} (h : ¬ x_axAt n (x_lookv b t a) = -1) : a < t := by
  by_cases ha : a < t
  · exact ha
  · rw [x_lookv_m1 ha, x_axAt_m1] at h
    exact absurd rfl h
theorem x_axAt_nat {n : Nat} {c : Int32} (h : ¬ x_axAt n c = -1) : 1 < n ∧ ∃ ax, ax ≤ 5 ∧ x_axAt n c = nI ax := by
  unfold x_axAt at h ⊢
  by_cases h1 : 1 < n ∧ nI 120 ≤ c ∧ c ≤ nI 122
  · rw [if_pos h1]
    obtain ⟨g0, g1, g2⟩ := h1
    obtain ⟨j, k1, k2, rfl⟩ := x_bet g1 g2 (by decide) (by decide)
    exact ⟨g0, j - 120, by omega, pk_sub k1⟩
  · rw [if_neg h1] at h ⊢
    by_cases h2 : n = 2 ∧ c = nI 39
    · rw [if_pos h2]; exact ⟨by omega, 3, by omega, rfl⟩
    · rw [if_neg h2] at h ⊢
      by_cases h3 : n = 2 ∧ c = nI 34
      · rw [if_pos h3]; exact ⟨by omega, 4, by omega, rfl⟩
      · rw [if_neg h3] at h ⊢
        by_cases h4 : n = 3 ∧ c = nI 42
        · rw [if_pos h4]; exact ⟨by omega, 5, by omega, rfl⟩
        · rw [if_neg h4] at h
          exact absurd rfl h
theorem x_axFor_nat {su fi n : Nat} (h : ¬ x_axFor su fi n = -1) : ∃ ax, ax ≤ 5 ∧ x_axFor su fi n = nI ax := by
  unfold x_axFor at h ⊢
  repeat' split
  all_goals first | exact ⟨_, by omega, rfl⟩ | (simp_all; done)
theorem x_digit {c : Int32} {n : Nat} (h1 : nI 49 ≤ c) (h2 : c < nI (48 + n)) (hn : n ≤ 6) : ∃ d, 1 ≤ d ∧ d < n ∧ c = nI (48 + d) := by
  have g1 := Int32.le_iff_toInt_le.mp h1
  have g2 := Int32.lt_iff_toInt_lt.mp h2
  rw [nI_toInt (by decide)] at g1
  rw [nI_toInt (by omega)] at g2
  obtain ⟨j, hj⟩ := Int.eq_ofNat_of_zero_le (a := c.toInt) (by omega)
  exact ⟨j - 48, by omega, by omega, x_ofInt (by omega) (by omega)⟩
theorem x_dig_lt {d n : Nat} (h : d < n) : d * 12 / n < 12 := by
  rw [Nat.div_lt_iff_lt_mul (by omega)]
  omega
theorem x_l3_m1 : (x_l3 (-1)).2.2.2 = false := by decide
theorem x_l3_lt {b : Nat → Int32} {t a : Nat} (h : (x_l3 (x_lookv b t a)).2.2.2 = true) : a < t := by
  by_cases ha : a < t
  · exact ha
  · rw [x_lookv_m1 ha, x_l3_m1] at h
    cases h
theorem x_l3_12 (c : Int32) : (x_l3 c).1 < 12 ∧ (x_l3 c).2.1 < 12 ∧ (x_l3 c).2.2.1 < 12 := by
  unfold x_l3
  repeat' split
  all_goals decide
theorem x_sf_dig {b : Nat → Int32} {t n ax k a u v w : Nat} {dg : Bool} (hk : k < 4) (hd : dg = true) (h1 : nI 49 ≤ x_lookv b t a) (h2 : x_lookv b t a < nI (48 + n)) {d : Nat} (hc : x_lookv b t a = nI (48 + d)) (hdn : d < n) (hn : n ≤ 6) :
    x_sf b t n ax (4 - k) dg a u v w = x_sf b t n ax (4 - (k + 1)) false (a + 1) ((u + (if ax = 0 then d * 12 / n else 0)) % 12) ((v + (if ax = 1 then d * 12 / n else 0)) % 12) ((w + (if ax = 2 then d * 12 / n else 0)) % 12) := by
  rw [show 4 - k = (4 - (k + 1)) + 1 by omega]
  show (if dg = true ∧ nI 49 ≤ x_lookv b t a ∧ x_lookv b t a < nI (48 + n) then _ else _) = _
  rw [if_pos ⟨hd, h1, h2⟩, hc, nI_clamp (by omega), Nat.add_sub_cancel_left]
  have e : ∀ z : Nat, (if ax = z then d else 0) * 12 / n = if ax = z then d * 12 / n else 0 := fun z => by
    by_cases hz : ax = z
    · rw [if_pos hz, if_pos hz]
    · rw [if_neg hz, if_neg hz]; simp
  rw [e, e, e]
theorem x_sf_let {b : Nat → Int32} {t n ax k a u v w : Nat} {dg : Bool} (hk : k < 4) (hd : ¬ (dg = true ∧ nI 49 ≤ x_lookv b t a ∧ x_lookv b t a < nI (48 + n))) (h1 : (x_l3 (x_lookv b t a)).2.2.2 = true) :
    x_sf b t n ax (4 - k) dg a u v w = x_sf b t n ax (4 - (k + 1)) dg (a + 1) ((u + (x_l3 (x_lookv b t a)).1) % 12) ((v + (x_l3 (x_lookv b t a)).2.1) % 12) ((w + (x_l3 (x_lookv b t a)).2.2.1) % 12) := by
  rw [show 4 - k = (4 - (k + 1)) + 1 by omega]
  show (if dg = true ∧ nI 49 ≤ x_lookv b t a ∧ x_lookv b t a < nI (48 + n) then _ else _) = _
  rw [if_neg hd, if_pos h1]
theorem x_sf_end {b : Nat → Int32} {t n ax k a u v w : Nat} {dg : Bool} (hk : k < 4) (hd : ¬ (dg = true ∧ nI 49 ≤ x_lookv b t a ∧ x_lookv b t a < nI (48 + n))) (h1 : (x_l3 (x_lookv b t a)).2.2.2 = false) (hu : u < 12) (hv : v < 12) (hw : w < 12) :
    x_sf b t n ax (4 - k) dg a u v w = (a, (u + (x_l3 (x_lookv b t a)).1) % 12, (v + (x_l3 (x_lookv b t a)).2.1) % 12, (w + (x_l3 (x_lookv b t a)).2.2.1) % 12) := by
  have e : x_l3 (x_lookv b t a) = (0, 0, 0, false) := by
    generalize x_lookv b t a = c at h1
    unfold x_l3 at h1 ⊢
    repeat' split
    all_goals first | rfl | (simp_all; done)
  rw [show 4 - k = (4 - (k + 1)) + 1 by omega]
  show (if dg = true ∧ nI 49 ≤ x_lookv b t a ∧ x_lookv b t a < nI (48 + n) then _ else _) = _
  rw [if_neg hd, e]
  simp [Nat.mod_eq_of_lt hu, Nat.mod_eq_of_lt hv, Nat.mod_eq_of_lt hw]
/-- signs changed up to the place k -/
def x_ng (k : Nat) (l : List Int32) : List Int32 := (l.take k).map (fun x => -x) ++ l.drop k
theorem x_ng_0 (l : List Int32) : x_ng 0 l = l := by simp [x_ng]
theorem x_ng_len (k : Nat) (l : List Int32) : (x_ng k l).length = l.length := by simp [x_ng]; omega
theorem x_ng_all {l : List Int32} {k : Nat} (h : l.length = k) : x_ng k l = x_neg l := by
  subst h
  simp [x_ng, x_neg]
theorem x_ng_at {l : List Int32} {k : Nat} (h : k < l.length) : (x_ng k l).getD k 0 = l.getD k 0 := by
  unfold x_ng
  have e : ((l.take k).map (fun x => -x)).length = k := by simp; omega
  rw [List.getD, List.getD, List.getElem?_append_right (by omega), e, Nat.sub_self, List.getElem?_drop, Nat.add_zero]
theorem x_ng_s {l : List Int32} {k : Nat} (h : k < l.length) : (x_ng k l).set k (-(l.getD k 0)) = x_ng (k + 1) l := by
  apply List.ext_getElem?
  intro j
  unfold x_ng
  have e : ((l.take k).map (fun x => -x)).length = k := by simp; omega
  have e2 : ((l.take (k + 1)).map (fun x => -x)).length = k + 1 := by simp; omega
  by_cases hj : j = k
  · subst hj
    rw [List.getElem?_set_self (by rw [List.length_append, e, List.length_drop]; omega), List.getElem?_append_left (by omega), List.getElem?_map, List.getElem?_take_of_lt (by omega), List.getD, List.getElem?_eq_getElem h]
    rfl
  · rw [List.getElem?_set_ne (fun z => hj z.symm)]
    by_cases h2 : j < k
    · rw [List.getElem?_append_left (by omega), List.getElem?_append_left (by omega), List.getElem?_map, List.getElem?_map, List.getElem?_take_of_lt h2, List.getElem?_take_of_lt (by omega)]
    · rw [List.getElem?_append_right (by omega), List.getElem?_append_right (by omega), e, e2, List.getElem?_drop, List.getElem?_drop]
      congr 1
      omega
theorem x_nI_m1 {n : Nat} (h : n < 2 ^ 31) : ¬ nI n = -1 := by
  intro z
  have := congrArg Int32.toInt z
  rw [nI_toInt h] at this
  have h2 : (-1 : Int32).toInt = -1 := by decide
  omega
