set_option maxRecDepth 100000 in
set_option maxHeartbeats 200000 in
theorem c_X12_thrown_K (l : Launch) (Y : x_Y) (σ : x_S) (K : Option Value → x_S → Prop) (hK : ∀ (r : Option Value) (τ : x_S), (r = some (.int (σ.1 38 0)) ∧ τ = σ) → K r τ) : x_M l yX12_thrown cX12_thrown 1 (some .int) 0 Y [.ref 38] σ K := by
  refine x_start (by decide) (Nat.le_of_ble_eq_true rfl) ?_
  intro xp xe xs xm xg xb xt xc C xr xk
  refine x_aload_n C (i := 0) dX12_thrown_0 rfl rfl ?_
  refine x_getI C fi_38_0 kf_X12_85 dX12_thrown_1 ?_
  refine x_iret C xr xk dX12_thrown_4 ?_
  exact hK _ _ ⟨rfl, rfl⟩
theorem c_X12_thrown (l : Launch) (Y : x_Y) (σ : x_S) : x_M l yX12_thrown cX12_thrown 1 (some .int) 0 Y [.ref 38] σ (fun r τ => r = some (.int (σ.1 38 0)) ∧ τ = σ) := c_X12_thrown_K l Y σ  _ (fun _ _ h => h)
set_option maxRecDepth 100000 in
set_option maxHeartbeats 200000 in
theorem c_X12_in_K (l : Launch) (Y : x_Y) (σ : x_S) (v lo hi : Int32) (K : Option Value → x_S → Prop) (hK : ∀ (r : Option Value) (τ : x_S), (r = some (.int (x_z (decide (lo ≤ v) && decide (v ≤ hi)))) ∧ τ = σ) → K r τ) : x_M l yX12_in cX12_in 3 (some .boolean) 0 Y [.int v, .int lo, .int hi] σ K := by
  refine x_start (by decide) (Nat.le_of_ble_eq_true rfl) ?_
  intro xp xe xs xm xg xb xt xc C xr xk
  refine x_iload_n C (i := 0) dX12_in_0 rfl rfl ?_
  refine x_iload_n C (i := 1) dX12_in_1 rfl rfl ?_
  refine x_jcmp_lt C 14 dX12_in_2 (by decide) (fun c2 => ?_) (fun c2 => ?_)
  · skip
    have c2' := Int32.not_le.mpr c2
    refine x_iconst C (nI 0) dX12_in_14 rfl ?_
    refine x_zret C xr xk dX12_in_15 rfl ?_
    exact hK _ _ ⟨by simp [*, x_z], rfl⟩
  · skip
    have c2' := Int32.not_lt.mpr c2
    refine x_iload_n C (i := 0) dX12_in_5 rfl rfl ?_
    refine x_iload_n C (i := 2) dX12_in_6 rfl rfl ?_
    refine x_jcmp_gt C 14 dX12_in_7 (by decide) (fun c7 => ?_) (fun c7 => ?_)
    · skip
      have c7' := Int32.not_le.mpr c7
      refine x_iconst C (nI 0) dX12_in_14 rfl ?_
      refine x_zret C xr xk dX12_in_15 rfl ?_
      exact hK _ _ ⟨by simp [*, x_z], rfl⟩
    · skip
      have c7' := Int32.not_lt.mpr c7
      refine x_iconst C (nI 1) dX12_in_10 rfl ?_
      refine x_goto C 15 dX12_in_11 (by decide) ?_
      refine x_zret C xr xk dX12_in_15 rfl ?_
      exact hK _ _ ⟨by simp [*, x_z], rfl⟩
theorem c_X12_in (l : Launch) (Y : x_Y) (σ : x_S) (v lo hi : Int32) : x_M l yX12_in cX12_in 3 (some .boolean) 0 Y [.int v, .int lo, .int hi] σ (fun r τ => r = some (.int (x_z (decide (lo ≤ v) && decide (v ≤ hi)))) ∧ τ = σ) := c_X12_in_K l Y σ v lo hi _ (fun _ _ h => h)
set_option maxRecDepth 100000 in
set_option maxHeartbeats 200000 in
theorem c_X12_goes_K (l : Launch) (Y : x_Y) (σ : x_S) (b : Bool) (K : Option Value → x_S → Prop) (hK : ∀ (r : Option Value) (τ : x_S), (r = some (.int (x_z b)) ∧ τ = x_u σ 38 0 (x_z !b)) → K r τ) : x_M l yX12_goes cX12_goes 2 (some .boolean) 0 Y [.ref 38, .int (x_z b)] σ K := by
  refine x_start (by decide) (Nat.le_of_ble_eq_true rfl) ?_
  intro xp xe xs xm xg xb xt xc C xr xk
  refine x_aload_n C (i := 0) dX12_goes_0 rfl rfl ?_
  refine x_iload_n C (i := 1) dX12_goes_1 rfl rfl ?_
  refine x_if_eqZ C 9 dX12_goes_2 (by decide) (fun c2 => ?_) (fun c2 => ?_)
  · skip
    refine x_iconst C (nI 1) dX12_goes_9 rfl ?_
    refine x_putN C fi_38_0 kf_X12_85 rfl rfl dX12_goes_10 ?_
    refine x_iload_n C (i := 1) dX12_goes_13 rfl rfl ?_
    refine x_zret C xr xk dX12_goes_14 (x_z_n _) ?_
    exact hK _ _ ⟨rfl, by subst_vars; rfl⟩
  · skip
    refine x_iconst C (nI 0) dX12_goes_5 rfl ?_
    refine x_goto C 10 dX12_goes_6 (by decide) ?_
    refine x_putN C fi_38_0 kf_X12_85 rfl rfl dX12_goes_10 ?_
    refine x_iload_n C (i := 1) dX12_goes_13 rfl rfl ?_
    refine x_zret C xr xk dX12_goes_14 (x_z_n _) ?_
    exact hK _ _ ⟨rfl, by subst_vars; rfl⟩
theorem c_X12_goes (l : Launch) (Y : x_Y) (σ : x_S) (b : Bool) : x_M l yX12_goes cX12_goes 2 (some .boolean) 0 Y [.ref 38, .int (x_z b)] σ (fun r τ => r = some (.int (x_z b)) ∧ τ = x_u σ 38 0 (x_z !b)) := c_X12_goes_K l Y σ b _ (fun _ _ h => h)
