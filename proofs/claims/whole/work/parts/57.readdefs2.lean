/-! ===== the class's reading of a matrix, against the reference's ===== -/
theorem z_sf_end {b : Nat → Int32} {t n ax k a u v w : Nat} {dg : Bool} (hk : k < 4) (hd : ¬ (dg = true ∧ nI 49 ≤ x_lookv b t a ∧ x_lookv b t a < nI (48 + n))) (h1 : (x_l3 (x_lookv b t a)).2.2.2 = false) : x_sf b t n ax (4 - k) dg a u v w = (a, u, v, w) := by
  rw [show 4 - k = (4 - (k + 1)) + 1 by omega]
  unfold x_sf
  rw [if_neg hd, if_neg (by rw [h1]; decide)]
theorem z_dax_c {su fi n : Nat} (h : ¬ z_dax su fi n = nI 7) : (n = 1 ∧ z_dax su fi n = nI 6) ∨ (n ≠ 1 ∧ ∃ ax, ax ≤ 5 ∧ x_axFor su fi n = nI ax ∧ z_dax su fi n = nI ax) := by
  unfold z_dax at h ⊢
  by_cases h1 : n = 1
  · rw [if_pos h1]; exact Or.inl ⟨h1, rfl⟩
  · rw [if_neg h1] at h ⊢
    by_cases h2 : x_axFor su fi n = -1
    · rw [if_pos h2] at h; exact absurd rfl h
    · rw [if_neg h2]
      obtain ⟨ax, h3, h4⟩ := x_axFor_nat h2
      exact Or.inr ⟨h1, ax, h3, h4, h4⟩
theorem z_dax_7 {su fi n : Nat} (h : z_dax su fi n = nI 7) : n ≠ 1 ∧ x_axFor su fi n = -1 := by
  unfold z_dax at h
  by_cases h1 : n = 1
  · rw [if_pos h1] at h
    exact absurd h (by decide)
  · rw [if_neg h1] at h
    by_cases h2 : x_axFor su fi n = -1
    · exact ⟨h1, h2⟩
    · rw [if_neg h2] at h
      obtain ⟨ax, h3, h4⟩ := x_axFor_nat h2
      rw [h4] at h
      have := (nI_eq (by omega) (by decide)).mp h
      omega
theorem z_man {b : Nat → Int32} {t a su fi ax : Nat} (h : x_max b t a su fi = nI ax) (hax : ax ≤ 5) : x_man b t a su fi = ax := by
  unfold x_man
  rw [h, z_cl (by omega)]
/-- the rotation that the class writes -/
theorem z_rot_is {b : Nat → Int32} {t a su fi be n ax : Nat} {s : Int32} (hs : (x_lookv b t a = nI 45 ∧ s = -1) ∨ (¬ x_lookv b t a = nI 45 ∧ s = nI 1)) (hn : x_mn b t a = n) (hn0 : ¬ (n = 0 ∨ n = 5)) (hn9 : n ≤ 6) (hbe : be < 3)
    (hax : (n = 1 ∧ ax = 6) ∨ (n ≠ 1 ∧ ax ≤ 5 ∧ x_max b t a su fi = nI ax)) : z_rl (z_ro n ax) (z_tf ax be) s = x_mrot b t a su fi be := by
  have key : z_rl (z_ro n ax) (z_tf ax be) (nI 1) = x_mr0 b t a su fi be ∧ z_rl (z_ro n ax) (z_tf ax be) (-1) = x_neg (x_mr0 b t a su fi be) := by
    unfold x_mr0
    rw [hn]
    rcases hax with ⟨h1, h2⟩ | ⟨h1, h2, h3⟩
    · subst h1; subst h2
      rw [if_pos rfl]
      exact ⟨z_rl_1.1, z_rl_1.2.1⟩
    · rw [if_neg h1, z_man h3 h2]
      exact z_rl_t (by omega) (by omega) (by omega) hbe
  unfold x_mrot
  rcases hs with ⟨h1, h2⟩ | ⟨h1, h2⟩
  · rw [if_pos h1, h2]; exact key.2
  · rw [if_neg h1, h2]; exact key.1
theorem z_rm1 {b : Nat → Int32} {t a su fi be n A : Nat} {s : Int32} (hA : x_ma1 b t a = A) (hord : x_isOrd (x_lookv b t A) = true) (hn : x_ordn (x_lookv b t A) = n) (hw : x_axAt n (x_lookv b t (A + 1)) = -1) (h7 : ¬ z_dax su fi n = nI 7) (hbe : be < 3)
    (hs : (x_lookv b t a = nI 45 ∧ s = -1) ∨ (¬ x_lookv b t a = nI 45 ∧ s = nI 1)) :
    ∃ ax, z_dax su fi n = nI ax ∧ ax ≤ 6 ∧ z_rl (z_ro n ax) (z_tf ax be) s = x_mrot b t a su fi be ∧ x_sf b t n ax 4 (decide (2 < n) && decide (ax < 3)) (A + 1) 0 0 0 = x_msf b t a su fi ∧ x_mok b t a su fi = true ∧ (if 1 < n ∧ ax < 3 then ax else be) = (if 1 < n ∧ x_man b t a su fi < 3 then x_man b t a su fi else be) := by
  have hmn : x_mn b t a = n := by unfold x_mn; rw [hA, hn]
  have hle := x_ord_le (x_lookv b t A)
  rw [hn] at hle
  have hmaw : x_maw b t a = -1 := by unfold x_maw; rw [hmn, hA]; exact hw
  have hmx : x_max b t a su fi = if 1 < n then x_axFor su fi n else -1 := by unfold x_max; rw [if_pos hmaw, hmn]
  have hm3 : x_ma3 b t a = A + 1 := by unfold x_ma3; rw [if_pos hmaw, hA]
  have hor : x_isOrd (x_lookv b t (x_ma1 b t a)) = true := by rw [hA]; exact hord
  rcases z_dax_c h7 with ⟨h1, h2⟩ | ⟨h1, ax, h2, h3, h4⟩
  · refine ⟨6, h2, by decide, z_rot_is hs hmn (by omega) (by omega) hbe (Or.inl ⟨h1, rfl⟩), ?_, ?_, ?_⟩
    · unfold x_msf
      rw [hmn, hm3, decide_eq_false (show ¬ 2 < n by omega), Bool.false_and, Bool.false_and]
      exact z_sf_ax _ _ _ _ _
    · unfold x_mok
      rw [hor, hmn, decide_eq_true h1]
      rfl
    · rw [if_neg (by omega), if_neg (by omega)]
  · have hM : x_max b t a su fi = nI ax := by rw [hmx, if_pos (by omega), h3]
    refine ⟨ax, h4, by omega, z_rot_is hs hmn (by omega) (by omega) hbe (Or.inr ⟨h1, h2, hM⟩), ?_, ?_, ?_⟩
    · unfold x_msf
      rw [hmn, hm3, z_man hM h2]
    · unfold x_mok
      rw [hor, hM, decide_eq_false (x_nI_m1 (by omega))]
      simp
    · rw [z_man hM h2]
theorem z_rm2 {b : Nat → Int32} {t a su fi be n A : Nat} {s : Int32} (hA : x_ma1 b t a = A) (hord : x_isOrd (x_lookv b t A) = true) (hn : x_ordn (x_lookv b t A) = n) (hw : ¬ x_axAt n (x_lookv b t (A + 1)) = -1) (hbe : be < 3)
    (hs : (x_lookv b t a = nI 45 ∧ s = -1) ∨ (¬ x_lookv b t a = nI 45 ∧ s = nI 1)) :
    ∃ ax, x_axAt n (x_lookv b t (A + 1)) = nI ax ∧ ax ≤ 5 ∧ z_rl (z_ro n ax) (z_tf ax be) s = x_mrot b t a su fi be ∧ x_sf b t n ax 4 (decide (2 < n) && decide (ax < 3)) (A + 1 + 1) 0 0 0 = x_msf b t a su fi ∧ x_mok b t a su fi = true ∧ (if 1 < n ∧ ax < 3 then ax else be) = (if 1 < n ∧ x_man b t a su fi < 3 then x_man b t a su fi else be) := by
  have hmn : x_mn b t a = n := by unfold x_mn; rw [hA, hn]
  have hle := x_ord_le (x_lookv b t A)
  rw [hn] at hle
  obtain ⟨h1, ax, h2, h3⟩ := x_axAt_nat hw
  have hmaw : x_maw b t a = nI ax := by unfold x_maw; rw [hmn, hA]; exact h3
  have hne : ¬ x_maw b t a = -1 := by rw [hmaw]; exact x_nI_m1 (by omega)
  have hM : x_max b t a su fi = nI ax := by unfold x_max; rw [if_neg hne]; exact hmaw
  have hm3 : x_ma3 b t a = A + 2 := by unfold x_ma3; rw [if_neg hne, hA]
  refine ⟨ax, h3, h2, z_rot_is hs hmn (by omega) (by omega) hbe (Or.inr ⟨by omega, h2, hM⟩), ?_, ?_, ?_⟩
  · unfold x_msf
    rw [hmn, hm3, z_man hM h2]
  · unfold x_mok
    rw [hA, hord, hM, decide_eq_false (x_nI_m1 (by omega))]
    simp
  · rw [z_man hM h2]
theorem z_rf1 {b : Nat → Int32} {t a su fi A : Nat} (hA : x_ma1 b t a = A) (hord : x_isOrd (x_lookv b t A) = false) : x_mok b t a su fi = false ∧ x_mfl b t a = A := by
  unfold x_mok x_mfl
  rw [hA, hord]
  exact ⟨rfl, if_neg (by decide)⟩
theorem z_rf2 {b : Nat → Int32} {t a su fi n A : Nat} (hA : x_ma1 b t a = A) (hord : x_isOrd (x_lookv b t A) = true) (hn : x_ordn (x_lookv b t A) = n) (hw : x_axAt n (x_lookv b t (A + 1)) = -1) (h7 : z_dax su fi n = nI 7) : x_mok b t a su fi = false ∧ x_mfl b t a = A + 1 := by
  have hmn : x_mn b t a = n := by unfold x_mn; rw [hA, hn]
  have hmaw : x_maw b t a = -1 := by unfold x_maw; rw [hmn, hA]; exact hw
  have hmx : x_max b t a su fi = if 1 < n then x_axFor su fi n else -1 := by unfold x_max; rw [if_pos hmaw, hmn]
  obtain ⟨h1, h2⟩ := z_dax_7 h7
  unfold x_mok x_mfl
  rw [hA, hord, hmn, hmx, h2, decide_eq_false h1]
  refine ⟨?_, if_pos rfl⟩
  split <;> rfl
theorem z_ax2 {n : Nat} {c : Int32} {b : Nat → Int32} {t a : Nat} (h : ¬ x_axAt n (x_lookv b t a) = -1) : a + 1 ≤ t := x_axAt_lt h
theorem z_ne7 {n : Nat} {c : Int32} (h : ¬ x_axAt n c = -1) : ¬ x_axAt n c = nI 7 := fun z => by
  obtain ⟨-, ax, h2, h3⟩ := x_axAt_nat h
  rw [h3] at z
  have := (nI_eq (by omega) (by decide)).mp z
  omega
