/-! ===== the reference's state while it reads a symbol ===== -/
theorem x_ui_ext {σ : x_S} {k : Nat} {f : Nat → Int32} {τ : x_S} (h1 : τ.1 k = f) (h2 : ∀ j, j ≠ k → τ.1 j = σ.1 j) (h3 : τ.2 = σ.2) : x_ui σ k f = τ := by
  refine Prod.ext (funext fun j => ?_) h3.symm
  show va_up σ.1 k f j = τ.1 j
  by_cases h : j = k
  · subst h; rw [va_up_self, h1]
  · rw [va_up_ne _ _ h, h2 j h]
def x_ga (w : Nat) (Ls : List (List Int32)) (F : Nat → Int32) : Nat → Int32 := fun j => match Ls[j / w]? with
  | some l => l.getD (j % w) 0
  | none => F j
theorem x_ga_nil (w : Nat) (F : Nat → Int32) : x_ga w [] F = F := by
  funext j
  simp [x_ga]
theorem x_ga_app (w : Nat) (hw : 0 < w) (Ls : List (List Int32)) (F : Nat → Int32) (l : List Int32) (hl : l.length = w) (G : Nat → Int32) : va_cpy (x_ml l G) (x_ga w Ls F) 0 (w * Ls.length) w = x_ga w (Ls ++ [l]) F := by
  funext j
  by_cases h : w * Ls.length ≤ j ∧ j < w * Ls.length + w
  · rw [pk_cpy_in h.1 h.2, Nat.zero_add]
    have h1 : j / w = Ls.length := by
      rw [Nat.div_eq_iff hw]
      constructor
      · rw [Nat.mul_comm]; exact h.1
      · have := h.2; rw [Nat.mul_comm] at this; omega
    have h2 : j % w = j - w * Ls.length := by
      have := Nat.div_add_mod j w
      rw [h1] at this
      omega
    rw [x_ml_at l G (by omega)]
    simp [x_ga, h1, h2]
  · rw [pk_cpy_out (by omega)]
    unfold x_ga
    have h1 : j / w ≠ Ls.length := by
      intro hj
      apply h
      have h3 := Nat.div_add_mod j w
      have h4 := Nat.mod_lt j hw
      rw [hj] at h3
      omega
    by_cases h2 : j / w < Ls.length
    · rw [List.getElem?_append_left h2]
    · rw [List.getElem?_eq_none (by omega), List.getElem?_eq_none (by rw [List.length_append]; simp; omega)]
def x_pf (f : Nat → Int32) (a g su fi be : Nat) : Nat → Int32 := fun j => if j = 3 then nI a else if j = 10 then nI g else if j = 15 then nI su else if j = 16 then nI fi else if j = 17 then nI be else f j
def x_pm (σ : x_S) (a su fi be : Nat) (Gt Gs : List (List Int32)) (f46 f47 : Nat → Int32) : x_S :=
  (fun k => if k = 38 then x_pf (σ.1 38) a Gt.length su fi be else if k = 44 then x_ga 9 Gt (σ.1 44) else if k = 45 then x_ga 3 Gs (σ.1 45) else if k = 46 then f46 else if k = 47 then f47 else σ.1 k, σ.2)
section PM
variable (σ : x_S) (a su fi be : Nat) (Gt Gs : List (List Int32)) (f46 f47 : Nat → Int32)
theorem x_pm_46 (f : Nat → Int32) : x_ui (x_pm σ a su fi be Gt Gs f46 f47) 46 f = x_pm σ a su fi be Gt Gs f f47 := by
  refine x_ui_ext rfl (fun j hj => ?_) rfl
  simp [x_pm, hj]
theorem x_pm_47 (f : Nat → Int32) : x_ui (x_pm σ a su fi be Gt Gs f46 f47) 47 f = x_pm σ a su fi be Gt Gs f46 f := by
  refine x_ui_ext rfl (fun j hj => ?_) rfl
  simp [x_pm, hj]
theorem x_pm_f {j : Nat} {x : Int32} {a' su' fi' be' : Nat} (h : upd (x_pf (σ.1 38) a Gt.length su fi be) j x = x_pf (σ.1 38) a' Gt.length su' fi' be') : x_u (x_pm σ a su fi be Gt Gs f46 f47) 38 j x = x_pm σ a' su' fi' be' Gt Gs f46 f47 := by
  rw [x_u_ui]
  refine x_ui_ext (by exact h.symm) (fun j hj => ?_) rfl
  simp [x_pm, hj]
theorem x_pf_3 (f : Nat → Int32) (g a' : Nat) : upd (x_pf f a g su fi be) 3 (nI a') = x_pf f a' g su fi be := by
  funext j
  by_cases h : j = 3
  · subst h; rw [pk_us]; rfl
  · rw [pk_un h]; simp [x_pf, h]
theorem x_pf_15 (f : Nat → Int32) (g a' : Nat) : upd (x_pf f a g su fi be) 15 (nI a') = x_pf f a g a' fi be := by
  funext j
  by_cases h : j = 15
  · subst h; rw [pk_us]; rfl
  · rw [pk_un h]; simp [x_pf, h]
theorem x_pf_16 (f : Nat → Int32) (g a' : Nat) : upd (x_pf f a g su fi be) 16 (nI a') = x_pf f a g su a' be := by
  funext j
  by_cases h : j = 16
  · subst h; rw [pk_us]; rfl
  · rw [pk_un h]; simp [x_pf, h]
theorem x_pf_17 (f : Nat → Int32) (g a' : Nat) : upd (x_pf f a g su fi be) 17 (nI a') = x_pf f a g su fi a' := by
  funext j
  by_cases h : j = 17
  · subst h; rw [pk_us]; rfl
  · rw [pk_un h]; simp [x_pf, h]
theorem x_pf_10 (f : Nat → Int32) (g g' : Nat) : upd (x_pf f a g su fi be) 10 (nI g') = x_pf f a g' su fi be := by
  funext j
  by_cases h : j = 10
  · subst h; rw [pk_us]; rfl
  · rw [pk_un h]; simp [x_pf, h]
theorem x_pm_3 (a' : Nat) : x_u (x_pm σ a su fi be Gt Gs f46 f47) 38 3 (nI a') = x_pm σ a' su fi be Gt Gs f46 f47 := x_pm_f σ a su fi be Gt Gs f46 f47 (x_pf_3 a su fi be _ _ a')
theorem x_pm_15 (a' : Nat) : x_u (x_pm σ a su fi be Gt Gs f46 f47) 38 15 (nI a') = x_pm σ a a' fi be Gt Gs f46 f47 := x_pm_f σ a su fi be Gt Gs f46 f47 (x_pf_15 a su fi be _ _ a')
theorem x_pm_16 (a' : Nat) : x_u (x_pm σ a su fi be Gt Gs f46 f47) 38 16 (nI a') = x_pm σ a su a' be Gt Gs f46 f47 := x_pm_f σ a su fi be Gt Gs f46 f47 (x_pf_16 a su fi be _ _ a')
theorem x_pm_17 (a' : Nat) : x_u (x_pm σ a su fi be Gt Gs f46 f47) 38 17 (nI a') = x_pm σ a su fi a' Gt Gs f46 f47 := x_pm_f σ a su fi be Gt Gs f46 f47 (x_pf_17 a su fi be _ _ a')
/-- behind generate() -/
theorem x_pm_gen (l s : List Int32) (G46 G47 : Nat → Int32) (hl : l.length = 9) (hs : s.length = 3) (hg : Gs.length = Gt.length) :
    x_u (x_ui (x_ui (x_pm σ a su fi be Gt Gs (x_ml l G46) (x_ml s G47)) 44 (va_cpy (x_ml l G46) (x_ga 9 Gt (σ.1 44)) 0 (9 * Gt.length) 9)) 45 (va_cpy (x_ml s G47) (x_ga 3 Gs (σ.1 45)) 0 (3 * Gt.length) 3)) 38 10 (nI (Gt.length + 1)) =
      x_pm σ a su fi be (Gt ++ [l]) (Gs ++ [s]) (x_ml l G46) (x_ml s G47) := by
  rw [x_ga_app 9 (by decide) Gt _ l hl G46, ← hg, x_ga_app 3 (by decide) Gs _ s hs G47, hg]
  have h1 : x_ui (x_ui (x_pm σ a su fi be Gt Gs (x_ml l G46) (x_ml s G47)) 44 (x_ga 9 (Gt ++ [l]) (σ.1 44))) 45 (x_ga 3 (Gs ++ [s]) (σ.1 45)) = (fun k => if k = 38 then x_pf (σ.1 38) a Gt.length su fi be else if k = 44 then x_ga 9 (Gt ++ [l]) (σ.1 44) else if k = 45 then x_ga 3 (Gs ++ [s]) (σ.1 45) else if k = 46 then x_ml l G46 else if k = 47 then x_ml s G47 else σ.1 k, σ.2) := by
    refine x_ui_ext rfl (fun j hj => ?_) rfl
    by_cases h : j = 44
    · subst h; rw [x_ui_at]; rfl
    · rw [x_ui_ne _ _ h]; simp [x_pm, hj, h]
  rw [h1, x_u_ui]
  refine x_ui_ext ?_ (fun j hj => ?_) rfl
  · show x_pf (σ.1 38) a (Gt ++ [l]).length su fi be = upd (x_pf (σ.1 38) a Gt.length su fi be) 10 (nI (Gt.length + 1))
    rw [x_pf_10, List.length_append]
    rfl
  · simp [x_pm, hj]
end PM
theorem x_pm_start (σ : x_S) (a0 : Int32) : x_u (x_u (x_u (x_u (x_u σ 38 3 (nI 0)) 38 10 (nI 0)) 38 15 (nI 0)) 38 16 (nI 0)) 38 17 (nI 2) = x_pm σ 0 0 0 2 [] [] (σ.1 46) (σ.1 47) := by
  simp only [x_u_ui, x_ui_ui, x_ui_at]
  refine x_ui_ext ?_ (fun j hj => ?_) rfl
  · show x_pf (σ.1 38) 0 0 0 0 2 = _
    funext j
    unfold x_pf
    by_cases h1 : j = 17
    · subst h1; rw [pk_us]; rfl
    rw [pk_un h1]
    by_cases h2 : j = 16
    · subst h2; rw [pk_us]; rfl
    rw [pk_un h2]
    by_cases h3 : j = 15
    · subst h3; rw [pk_us]; rfl
    rw [pk_un h3]
    by_cases h4 : j = 10
    · subst h4; rw [pk_us]; rfl
    rw [pk_un h4]
    by_cases h5 : j = 3
    · subst h5; rw [pk_us]; rfl
    rw [pk_un h5]
    simp [h1, h2, h3, h4, h5]
  · simp only [x_pm, x_ga_nil, hj, if_false]
    by_cases h1 : j = 44
    · rw [if_pos h1, h1]
    rw [if_neg h1]
    by_cases h2 : j = 45
    · rw [if_pos h2, h2]
    rw [if_neg h2]
    by_cases h3 : j = 46
    · rw [if_pos h3, h3]
    rw [if_neg h3]
    by_cases h4 : j = 47
    · rw [if_pos h4, h4]
    rw [if_neg h4]
/-! what is read -/
def x_bl (b : Nat → Int32) (t : Nat) : Nat → Nat → Nat
  | 0, a => a
  | k + 1, a => if x_lookv b t a = nI 32 then x_bl b t k (a + 1) else a
def x_blank (b : Nat → Int32) (t a : Nat) : Nat := x_bl b t (t - a) a
theorem x_lookv_lt {b : Nat → Int32} {t a : Nat} {n : Nat} (h : x_lookv b t a = nI n) (hn : n < 2 ^ 31) : a < t := by
  unfold x_lookv at h
  by_cases ha : a < t
  · exact ha
  · rw [if_neg ha] at h
    have := congrArg Int32.toInt h
    rw [nI_toInt hn] at this
    have h2 : (-1 : Int32).toInt = -1 := by decide
    omega
theorem x_blank_s {b : Nat → Int32} {t a : Nat} (h : x_lookv b t a = nI 32) : x_blank b t a = x_blank b t (a + 1) := by
  have ha := x_lookv_lt h (by decide)
  unfold x_blank
  obtain ⟨k, hk⟩ : ∃ k, t - a = k + 1 := ⟨t - a - 1, by omega⟩
  rw [hk]
  show (if x_lookv b t a = nI 32 then x_bl b t k (a + 1) else a) = _
  rw [if_pos h, show t - (a + 1) = k by omega]
theorem x_blank_e {b : Nat → Int32} {t a : Nat} (h : ¬ x_lookv b t a = nI 32) : x_blank b t a = a := by
  unfold x_blank
  cases hk : t - a with
  | zero => rfl
  | succ k => show (if x_lookv b t a = nI 32 then x_bl b t k (a + 1) else a) = _; rw [if_neg h]
theorem x_bl_le (b : Nat → Int32) (t : Nat) : ∀ (k a : Nat), a ≤ x_bl b t k a ∧ (a ≤ t → x_bl b t k a ≤ t)
  | 0, a => ⟨Nat.le_refl a, id⟩
  | k + 1, a => by
    show a ≤ (if x_lookv b t a = nI 32 then x_bl b t k (a + 1) else a) ∧ (a ≤ t → (if x_lookv b t a = nI 32 then x_bl b t k (a + 1) else a) ≤ t)
    by_cases h : x_lookv b t a = nI 32
    · rw [if_pos h]
      have := x_bl_le b t k (a + 1)
      have ha := x_lookv_lt h (by decide)
      exact ⟨by omega, fun _ => this.2 (by omega)⟩
    · rw [if_neg h]
      exact ⟨Nat.le_refl a, id⟩
theorem x_blank_le (b : Nat → Int32) (t a : Nat) (h : a ≤ t) : a ≤ x_blank b t a ∧ x_blank b t a ≤ t := ⟨(x_bl_le b t _ a).1, (x_bl_le b t _ a).2 h⟩
/-- what a letter shifts by: three twelfths, and whether it is one -/
def x_l3 (c : Int32) : Nat × Nat × Nat × Bool := if c = nI 97 then (6, 0, 0, true) else if c = nI 98 then (0, 6, 0, true) else if c = nI 99 then (0, 0, 6, true) else if c = nI 100 then (3, 3, 3, true) else if c = nI 110 then (6, 6, 6, true) else if c = nI 117 then (3, 0, 0, true) else if c = nI 118 then (0, 3, 0, true) else if c = nI 119 then (0, 0, 3, true) else (0, 0, 0, false)
/-- the centring of a letter; none: no such letter -/
def x_cen (c : Int32) : Option (List (List Int32)) := if c = nI 65 then some [[nI 0, nI 6, nI 6]] else if c = nI 66 then some [[nI 6, nI 0, nI 6]] else if c = nI 67 then some [[nI 6, nI 6, nI 0]] else if c = nI 70 then some [[nI 0, nI 6, nI 6], [nI 6, nI 0, nI 6], [nI 6, nI 6, nI 0]] else if c = nI 73 then some [[nI 6, nI 6, nI 6]] else if c = nI 80 then some [] else if c = nI 82 then some [[nI 8, nI 4, nI 4], [nI 4, nI 8, nI 8]] else none
def x_ordn (c : Int32) : Nat := if c = nI 49 then 1 else if c = nI 50 then 2 else if c = nI 51 then 3 else if c = nI 52 then 4 else 6
/-- the shifts of a matrix of order n and axis ax: how many may come, whether a digit may, the place, the sum -/
def x_sf (b : Nat → Int32) (t n ax : Nat) : Nat → Bool → Nat → Nat → Nat → Nat → Nat × Nat × Nat × Nat
  | 0, _, a, u, v, w => (a, u, v, w)
  | k + 1, dg, a, u, v, w =>
    if dg = true ∧ nI 49 ≤ x_lookv b t a ∧ x_lookv b t a < nI (48 + n) then
      x_sf b t n ax k false (a + 1) ((u + (if ax = 0 then (x_lookv b t a).toNatClampNeg - 48 else 0) * 12 / n) % 12) ((v + (if ax = 1 then (x_lookv b t a).toNatClampNeg - 48 else 0) * 12 / n) % 12) ((w + (if ax = 2 then (x_lookv b t a).toNatClampNeg - 48 else 0) * 12 / n) % 12)
    else if (x_l3 (x_lookv b t a)).2.2.2 = true then
      x_sf b t n ax k dg (a + 1) ((u + (x_l3 (x_lookv b t a)).1) % 12) ((v + (x_l3 (x_lookv b t a)).2.1) % 12) ((w + (x_l3 (x_lookv b t a)).2.2.1) % 12)
    else (a, u, v, w)
theorem x_u_u (σ : x_S) (k j : Nat) (x y : Int32) : x_u (x_u σ k j x) k j y = x_u σ k j y := by
  rw [x_u_ui σ k j x, x_u_of_ui, x_u_ui]
  refine x_ui_congr σ k (funext fun i => ?_)
  by_cases h : i = j
  · subst h; rw [pk_us, pk_us]
  · rw [pk_un h, pk_un h, pk_un h]
theorem x_u_self (σ : x_S) (k j : Nat) : x_u σ k j (σ.1 k j) = σ := by
  rw [x_u_ui]
  refine Eq.trans (x_ui_congr σ k (funext fun i => ?_)) (x_ui_self σ k)
  by_cases h : i = j
  · subst h; rw [pk_us]
  · rw [pk_un h]
