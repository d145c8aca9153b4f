/-! ===== the class's reading of a file, against the reference's ===== -/
section ZCF
variable {b : Nat → Int32} {t k a v : Nat} {sg bg ng : Bool}
theorem z_cf_b (h : x_lookv b t a = nI 32) (hb : bg = false) (hn : ng = false) (hk : k ≠ 0) : x_colf b t sg (k + 1) a bg ng v = x_colf b t sg k (a + 1) bg ng v := by
  conv => lhs; unfold x_colf
  have e1 : x_dig (nI 32) = false := by decide
  have e2 : x_cm (nI 32) sg bg ng (decide (k = 0)) = false := by
    unfold x_cm
    rw [decide_eq_false (show ¬ nI 32 = nI 45 by decide)]
    rfl
  have e3 : x_cb (nI 32) bg ng (decide (k = 0)) = true := by
    unfold x_cb
    rw [hb, hn, decide_eq_false hk]
    rfl
  rw [h, e1, e2, e3]
  subst hb; subst hn
  rfl
theorem z_cf_m (h : x_lookv b t a = nI 45) (hs : sg = true) (hb : bg = false) (hn : ng = false) (hk : k ≠ 0) : x_colf b t sg (k + 1) a bg ng v = x_colf b t sg k (a + 1) false true v := by
  conv => lhs; unfold x_colf
  have e1 : x_dig (nI 45) = false := by decide
  have e2 : x_cm (nI 45) sg bg ng (decide (k = 0)) = true := by
    unfold x_cm
    rw [hb, hn, hs, decide_eq_false hk]
    rfl
  have e3 : x_cb (nI 45) bg ng (decide (k = 0)) = false := by
    unfold x_cb
    rw [decide_eq_false (show ¬ nI 45 = nI 32 by decide)]
    rfl
  rw [h, e1, e2, e3]
  subst hb; subst hn
  rfl
theorem z_cf_d (h : x_dig (x_lookv b t a) = true) : x_colf b t sg (k + 1) a bg ng v = x_colf b t sg k (a + 1) true ng (10 * v + ((x_lookv b t a).toNatClampNeg - 48)) := by
  obtain ⟨d, h1, h2⟩ := x_dig_nat h
  have e2 : x_cm (x_lookv b t a) sg bg ng (decide (k = 0)) = false := by
    unfold x_cm
    rw [h2, decide_eq_false (fun z => by have := (nI_eq (by omega) (by decide)).mp z; omega)]
    rfl
  conv => lhs; unfold x_colf
  rw [h, e2]
  simp
theorem z_cf_f (h : x_dig (x_lookv b t a) = false) (hno : x_cb (x_lookv b t a) bg ng (decide (k = 0)) = false ∧ x_cm (x_lookv b t a) sg bg ng (decide (k = 0)) = false) : x_colf b t sg (k + 1) a bg ng v = (false, a, ng, v) := by
  unfold x_colf
  rw [h, hno.1, hno.2]
  rfl
theorem z_cfA {c : Int32} {la : Bool} (h : (bg || ng) = true) : x_cb c bg ng la = false ∧ x_cm c sg bg ng la = false := by
  unfold x_cb x_cm
  cases bg <;> cases ng <;> simp_all
theorem z_cfB {c : Int32} {la : Bool} (h : la = true) : x_cb c bg ng la = false ∧ x_cm c sg bg ng la = false := by
  unfold x_cb x_cm
  subst h
  simp
theorem z_cfC1 {c : Int32} {la : Bool} (h : ¬ c = nI 32) (h2 : ¬ c = nI 45) : x_cb c bg ng la = false ∧ x_cm c sg bg ng la = false := by
  unfold x_cb x_cm
  rw [decide_eq_false h, decide_eq_false h2]
  exact ⟨rfl, rfl⟩
theorem z_cfC2 {c : Int32} {la : Bool} (h : ¬ c = nI 32) (h2 : sg = false) : x_cb c bg ng la = false ∧ x_cm c sg bg ng la = false := by
  unfold x_cb x_cm
  rw [decide_eq_false h, h2]
  simp
end ZCF
/-- the class's reflections are the reference's -/
def z_kp (f16 f17 f18 : Nat → Int32) (A : x_A5) (n : Nat) : Prop := ∀ j, j < n → f16 j = z_pack (A.1 j) (A.2.1 j) (A.2.2.1 j) ∧ f17 j = A.2.2.2.1 j ∧ f18 j = A.2.2.2.2 j
theorem z_kp_s {f16 f17 f18 : Nat → Int32} {A : x_A5} {n : Nat} {b : Nat → Int32} {t a : Nat} (h : z_kp f16 f17 f18 A n) : z_kp (upd f16 n (z_pack (x_iv b t a) (x_iv b t (a + 4)) (x_iv b t (a + 8)))) (upd f17 n (x_hv b t true (a + 12))) (upd f18 n (x_hv b t false (a + 20))) (x_ap b t a n A) (n + 1) := fun j hj => by
  unfold x_ap
  by_cases e : j = n
  · subst e
    simp only [pk_us, and_self]
  · simp only [pk_un e]
    exact h j (by omega)
theorem z_kp_le {f16 f17 f18 : Nat → Int32} {A : x_A5} {n m : Nat} (h : z_kp f16 f17 f18 A n) (hm : m ≤ n) : z_kp f16 f17 f18 A m := fun j hj => h j (by omega)
theorem z_colf0 {b : Nat → Int32} {k : Nat} {sg : Bool} : x_colf b 0 sg (k + 1) 0 false false 0 = (false, 0, false, 0) := by
  refine z_cf_f ?_ ?_
  · rw [x_lookv_m1 (Nat.lt_irrefl 0)]
    decide
  · rw [x_lookv_m1 (Nat.lt_irrefl 0)]
    exact z_cfC1 (by decide) (by decide)
theorem z_row0 {b : Nat → Int32} : x_row b 0 0 = (false, 0) := by
  have e : x_idx b 0 0 = (false, 0, false, 0) := by
    unfold x_idx
    rw [z_colf0]
    rfl
  unfold x_row
  rw [e]
  rfl
theorem z_fil {b : Nat → Int32} {t n : Nat} {A : x_A5} (ht : 0 < t) : x_fil b t n A = x_flf b t (t + 1) 0 n false A := by
  unfold x_fil
  rw [decide_eq_true ht]
  rfl
theorem z_fil0 {b : Nat → Int32} {n : Nat} {A : x_A5} : x_fil b 0 n A = (false, 0, n, A) := rfl
section ZFL
variable {b : Nat → Int32} {t f a n : Nat} {en : Bool} {A : x_A5}
theorem z_fl_end (h : t ≤ a) : x_flf b t (f + 1) a n en A = (true, a, n, A) := by
  unfold x_flf
  rw [if_pos h]
theorem z_fl_en (h : ¬ t ≤ a) (he : en = true) : x_flf b t (f + 1) a n en A = (false, a, n, A) := by
  unfold x_flf
  rw [if_neg h, if_pos he]
theorem z_fl_bad (h : ¬ t ≤ a) (he : en = false) (hr : (x_row b t a).1 = false) : x_flf b t (f + 1) a n en A = (false, (x_row b t a).2, n, A) := by
  unfold x_flf
  rw [if_neg h, if_neg (by rw [he]; decide), if_neg (by rw [hr]; decide)]
theorem z_fl_z (h : ¬ t ≤ a) (he : en = false) (hr : (x_row b t a).1 = true) (hz : x_rz b t a = true) : x_flf b t (f + 1) a n en A = if a + 28 < t then (if x_lookv b t (a + 28) = nI 10 then x_flf b t f (a + 29) n true A else (false, a + 28, n, A)) else (true, a + 28, n, A) := by
  conv => lhs; unfold x_flf
  rw [if_neg h, if_neg (by rw [he]; decide), if_pos hr, if_pos hz]
theorem z_fl_full (h : ¬ t ≤ a) (he : en = false) (hr : (x_row b t a).1 = true) (hz : x_rz b t a = false) (hn : n = 3000) : x_flf b t (f + 1) a n en A = (false, a, n, A) := by
  unfold x_flf
  rw [if_neg h, if_neg (by rw [he]; decide), if_pos hr, if_neg (by rw [hz]; decide), if_pos hn]
theorem z_fl_n (h : ¬ t ≤ a) (he : en = false) (hr : (x_row b t a).1 = true) (hz : x_rz b t a = false) (hn : ¬ n = 3000) : x_flf b t (f + 1) a n en A = if a + 28 < t then (if x_lookv b t (a + 28) = nI 10 then x_flf b t f (a + 29) (n + 1) false (x_ap b t a n A) else (false, a + 28, n + 1, x_ap b t a n A)) else (true, a + 28, n + 1, x_ap b t a n A) := by
  conv => lhs; unfold x_flf
  rw [if_neg h, if_neg (by rw [he]; decide), if_pos hr, if_neg (by rw [hz]; decide), if_neg hn]
end ZFL
theorem z_dg_v {c : Int32} {v : Nat} (h : x_dig c = true) : nI (v * 10) + c - nI 48 = nI (10 * v + (c.toNatClampNeg - 48)) := by
  obtain ⟨d, h1, rfl⟩ := x_dig_nat h
  rw [nI_add, pk_sub (by omega), z_cl (by omega)]
  congr 1
  omega
theorem z_v10 {b : Nat → Int32} {t fr p v : Nat} (h : v < 10 ^ (p - fr)) (hp : fr ≤ p) (hd : x_dig (x_lookv b t p) = true) : 10 * v + ((x_lookv b t p).toNatClampNeg - 48) < 10 ^ (p + 1 - fr) := by
  obtain ⟨d, h1, h2⟩ := x_dig_nat hd
  rw [h2, z_cl (by omega), show p + 1 - fr = (p - fr) + 1 by omega, Nat.pow_succ]
  omega
theorem z_v10b {fr p v : Nat} (h : v < 10 ^ (p - fr)) : v < 10 ^ (p + 1 - fr) := Nat.lt_of_lt_of_le h (Nat.pow_le_pow_right (by decide) (by omega))
theorem z_orf1 {a b : Bool} (h : (a || b) = false) : a = false := by cases a <;> simp_all
theorem z_orf2 {a b : Bool} (h : (a || b) = false) : b = false := by cases b <;> simp_all
