def x_fy (σ : x_S) (en : Bool) (f49 f50 f51 f52 f53 : Nat → Int32) : x_S := (fun k => if k = 38 then upd (σ.1 38) 28 (x_z en) else if k = 49 then f49 else if k = 50 then f50 else if k = 51 then f51 else if k = 52 then f52 else if k = 53 then f53 else σ.1 k, σ.2)
abbrev x_fz (σ : x_S) (en : Bool) (f49 f50 f51 f52 f53 : Nat → Int32) (a : Nat) (v : Int32) (ng : Bool) : x_S := x_fm (x_fy σ en f49 f50 f51 f52 f53) a v ng
section FZ
variable (σ : x_S) (en : Bool) (f49 f50 f51 f52 f53 : Nat → Int32) (a : Nat) (v : Int32) (ng : Bool)
theorem x_fz_3 (a' : Nat) : x_u (x_fz σ en f49 f50 f51 f52 f53 a v ng) 38 3 (nI a') = x_fz σ en f49 f50 f51 f52 f53 a' v ng := x_fm_3 _ _ _ _ _
theorem x_fz_26 (v' : Int32) : x_u (x_fz σ en f49 f50 f51 f52 f53 a v ng) 38 26 v' = x_fz σ en f49 f50 f51 f52 f53 a v' ng := x_fm_26 _ _ _ _ _
theorem x_fz_27 (ng' : Bool) : x_u (x_fz σ en f49 f50 f51 f52 f53 a v ng) 38 27 (x_z ng') = x_fz σ en f49 f50 f51 f52 f53 a v ng' := x_fm_27 _ _ _ _ _
theorem x_fz_28 (en' : Bool) : x_u (x_fz σ en f49 f50 f51 f52 f53 a v ng) 38 28 (x_z en') = x_fz σ en' f49 f50 f51 f52 f53 a v ng := by
  rw [x_u_ui]
  refine x_ui_ext ?_ (fun j hj => ?_) rfl
  · show x_ff (upd (σ.1 38) 28 (x_z en')) a v ng = upd (x_ff (upd (σ.1 38) 28 (x_z en)) a v ng) 28 (x_z en')
    funext j
    by_cases h : j = 28
    · subst h; rw [pk_us]; show upd (σ.1 38) 28 (x_z en') 28 = _; rw [pk_us]
    · rw [pk_un h]
      unfold x_ff
      rw [pk_un h, pk_un h]
  · simp [x_fm, x_fy, hj]
theorem x_fz_49 (f : Nat → Int32) : x_ui (x_fz σ en f49 f50 f51 f52 f53 a v ng) 49 f = x_fz σ en f f50 f51 f52 f53 a v ng := by
  refine x_ui_ext rfl (fun j hj => ?_) rfl
  simp [x_fm, x_fy, hj]
theorem x_fz_50 (f : Nat → Int32) : x_ui (x_fz σ en f49 f50 f51 f52 f53 a v ng) 50 f = x_fz σ en f49 f f51 f52 f53 a v ng := by
  refine x_ui_ext rfl (fun j hj => ?_) rfl
  simp [x_fm, x_fy, hj]
theorem x_fz_51 (f : Nat → Int32) : x_ui (x_fz σ en f49 f50 f51 f52 f53 a v ng) 51 f = x_fz σ en f49 f50 f f52 f53 a v ng := by
  refine x_ui_ext rfl (fun j hj => ?_) rfl
  simp [x_fm, x_fy, hj]
theorem x_fz_52 (f : Nat → Int32) : x_ui (x_fz σ en f49 f50 f51 f52 f53 a v ng) 52 f = x_fz σ en f49 f50 f51 f f53 a v ng := by
  refine x_ui_ext rfl (fun j hj => ?_) rfl
  simp [x_fm, x_fy, hj]
theorem x_fz_53 (f : Nat → Int32) : x_ui (x_fz σ en f49 f50 f51 f52 f53 a v ng) 53 f = x_fz σ en f49 f50 f51 f52 f a v ng := by
  refine x_ui_ext rfl (fun j hj => ?_) rfl
  simp [x_fm, x_fy, hj]
end FZ
/-- a row: whether it is one, where the reading ended -/
def x_row (b : Nat → Int32) (t a : Nat) : Bool × Nat :=
  if (x_idx b t a).1 = true then
    if (x_idx b t (a + 4)).1 = true then
      if (x_idx b t (a + 8)).1 = true then
        if (x_hun b t true (a + 12)).1 = true then
          if (x_hun b t false (a + 20)).1 = true then (true, a + 28) else (false, (x_hun b t false (a + 20)).2.1)
        else (false, (x_hun b t true (a + 12)).2.1)
      else (false, (x_idx b t (a + 8)).2.1)
    else (false, (x_idx b t (a + 4)).2.1)
  else (false, (x_idx b t a).2.1)
def x_iv (b : Nat → Int32) (t a : Nat) : Int32 := x_val (x_idx b t a).2.2.1 (x_idx b t a).2.2.2
def x_hv (b : Nat → Int32) (t : Nat) (sg : Bool) (a : Nat) : Int32 := x_val (x_hun b t sg a).2.2.1 (x_hun b t sg a).2.2.2
def x_rz (b : Nat → Int32) (t a : Nat) : Bool := decide (x_iv b t a = 0) && (decide (x_iv b t (a + 4) = 0) && decide (x_iv b t (a + 8) = 0))
theorem x_idx_a {b : Nat → Int32} {t a : Nat} (h : (x_idx b t a).1 = true) : (x_idx b t a).2.1 = a + 4 := by
  unfold x_idx at h ⊢
  split at h
  · next h1 =>
    rw [if_pos h1]
    split at h
    · next h2 => rw [if_pos h2]
    · cases h
  · cases h
theorem x_hun_a {b : Nat → Int32} {t a : Nat} {sg : Bool} (h : (x_hun b t sg a).1 = true) : (x_hun b t sg a).2.1 = a + 8 := by
  unfold x_hun at h ⊢
  split at h
  · next h1 =>
    rw [if_pos h1]
    split at h
    · next h2 =>
      rw [if_pos h2]
      split at h
      · next h3 =>
        rw [if_pos h3]
        split at h
        · next h4 => rw [if_pos h4]
        · cases h
      · cases h
    · cases h
  · cases h
theorem x_idx_le {b : Nat → Int32} {t a : Nat} (h : (x_idx b t a).1 = true) (ha : a ≤ t) : a + 4 ≤ t := by
  unfold x_idx at h
  split at h
  · next h1 =>
    have h2 := x_colf_le (b := b) (t := t) (sg := true) 4 a false false 0 ha
    rw [x_colf_a 4 a false false 0 h1] at h2
    exact h2
  · cases h
theorem x_hun_le {b : Nat → Int32} {t a : Nat} {sg : Bool} (h : (x_hun b t sg a).1 = true) : a + 8 ≤ t := by
  unfold x_hun at h
  split at h
  · split at h
    · split at h
      · split at h
        · next h4 => exact x_dig_lt2 h4
        · cases h
      · cases h
    · cases h
  · cases h
