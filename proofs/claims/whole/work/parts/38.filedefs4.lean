abbrev x_A5 : Type := (Nat → Int32) × (Nat → Int32) × (Nat → Int32) × (Nat → Int32) × (Nat → Int32)
def x_ap (b : Nat → Int32) (t a n : Nat) (A : x_A5) : x_A5 := (upd A.1 n (x_iv b t a), upd A.2.1 n (x_iv b t (a + 4)), upd A.2.2.1 n (x_iv b t (a + 8)), upd A.2.2.2.1 n (x_hv b t true (a + 12)), upd A.2.2.2.2 n (x_hv b t false (a + 20)))
/-- the rows of a file from a on: n reflections are there, en: the end has been read -/
def x_flf (b : Nat → Int32) (t : Nat) : Nat → Nat → Nat → Bool → x_A5 → Bool × Nat × Nat × x_A5
  | 0, a, n, _, A => (true, a, n, A)
  | f + 1, a, n, en, A =>
    if t ≤ a then (true, a, n, A)
    else if en = true then (false, a, n, A)
    else if (x_row b t a).1 = true then
      if x_rz b t a = true then
        (if a + 28 < t then (if x_lookv b t (a + 28) = nI 10 then x_flf b t f (a + 29) n true A else (false, a + 28, n, A)) else (true, a + 28, n, A))
      else if n = 3000 then (false, a, n, A)
      else (if a + 28 < t then (if x_lookv b t (a + 28) = nI 10 then x_flf b t f (a + 29) (n + 1) false (x_ap b t a n A) else (false, a + 28, n + 1, x_ap b t a n A)) else (true, a + 28, n + 1, x_ap b t a n A))
    else (false, (x_row b t a).2, n, A)
def x_fil (b : Nat → Int32) (t n : Nat) (A : x_A5) : Bool × Nat × Nat × x_A5 := if decide (0 < t) = true then x_flf b t (t + 1) 0 n false A else (false, 0, n, A)
theorem x_fz_start (σ : x_S) {ng : Bool} (h : σ.1 38 27 = x_z ng) : x_u (x_u σ 38 3 (nI 0)) 38 28 (x_z false) = x_fz σ false (σ.1 49) (σ.1 50) (σ.1 51) (σ.1 52) (σ.1 53) 0 (σ.1 38 26) ng := by
  rw [x_u_ui σ 38 3 (nI 0), x_u_of_ui]
  refine x_ui_ext ?_ (fun j hj => ?_) rfl
  · show x_ff (upd (σ.1 38) 28 (x_z false)) 0 (σ.1 38 26) ng = _
    funext j
    by_cases h1 : j = 28
    · subst h1; rw [pk_us]; show upd (σ.1 38) 28 (x_z false) 28 = _; rw [pk_us]
    rw [pk_un h1]
    by_cases h2 : j = 3
    · subst h2; rw [pk_us]; rfl
    rw [pk_un h2]
    unfold x_ff
    rw [if_neg h2, pk_un h1]
    by_cases h3 : j = 26
    · subst h3; rfl
    rw [if_neg h3]
    by_cases h4 : j = 27
    · subst h4; rw [if_pos rfl, h]
    rw [if_neg h4]
  · simp only [x_fm, x_fy, hj, if_false]
    by_cases h1 : j = 49
    · rw [if_pos h1, h1]
    rw [if_neg h1]
    by_cases h2 : j = 50
    · rw [if_pos h2, h2]
    rw [if_neg h2]
    by_cases h3 : j = 51
    · rw [if_pos h3, h3]
    rw [if_neg h3]
    by_cases h4 : j = 52
    · rw [if_pos h4, h4]
    rw [if_neg h4]
    by_cases h5 : j = 53
    · rw [if_pos h5, h5]
    rw [if_neg h5]
theorem x_row_le {b : Nat → Int32} {t a : Nat} (h : (x_row b t a).1 = true) : a + 28 ≤ t := by
  unfold x_row at h
  split at h
  · split at h
    · split at h
      · split at h
        · split at h
          · next h5 => exact x_hun_le h5
          · cases h
        · cases h
      · cases h
    · cases h
  · cases h
