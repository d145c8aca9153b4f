set_option maxRecDepth 100000 in
set_option maxHeartbeats 200000 in
theorem c_J9_max_7cf53_K (l : Launch) (Y : x_Y) (σ : x_S) (a b : Int32) (K : Option Value → x_S → Prop) (hK : ∀ (r : Option Value) (τ : x_S), (r = some (.int (z_mx a b)) ∧ τ = σ) → K r τ) : x_M l yJ9_max_7cf53 cJ9_max_7cf53 2 (some .int) 0 Y [.int a, .int b] σ K := by
  refine x_startF (by decide +kernel) (Nat.le_of_ble_eq_true rfl) ?_
  intro xp xe xs xm xg xb xt xc C xr xk
  refine x_iload_n C (i := 0) dJ9_max_7cf53_0 rfl rfl ?_
  refine x_iload_n C (i := 1) dJ9_max_7cf53_1 rfl rfl ?_
  refine x_jcmp_lt C 9 dJ9_max_7cf53_2 (by decide) (fun c2 => ?_) (fun c2 => ?_)
  · skip
    have c2' := Int32.not_le.mpr c2
    refine x_iload_n C (i := 1) dJ9_max_7cf53_9 rfl rfl ?_
    refine x_iret C xr xk dJ9_max_7cf53_10 ?_
    exact hK _ _ ⟨by unfold z_mx; first | rw [if_pos c2] | rw [if_neg c2'], rfl⟩
  · skip
    have c2' := Int32.not_lt.mpr c2
    refine x_iload_n C (i := 0) dJ9_max_7cf53_5 rfl rfl ?_
    refine x_goto C 10 dJ9_max_7cf53_6 (by decide) ?_
    refine x_iret C xr xk dJ9_max_7cf53_10 ?_
    exact hK _ _ ⟨by unfold z_mx; first | rw [if_pos c2] | rw [if_neg c2'], rfl⟩
theorem c_J9_max_7cf53 (l : Launch) (Y : x_Y) (σ : x_S) (a b : Int32) : x_M l yJ9_max_7cf53 cJ9_max_7cf53 2 (some .int) 0 Y [.int a, .int b] σ (fun r τ => r = some (.int (z_mx a b)) ∧ τ = σ) := c_J9_max_7cf53_K l Y σ a b _ (fun _ _ h => h)
set_option maxRecDepth 100000 in
set_option maxHeartbeats 200000 in
theorem c_J9_abs_067f4_K (l : Launch) (Y : x_Y) (σ : x_S) (a : Int64) (K : Option Value → x_S → Prop) (hK : ∀ (r : Option Value) (τ : x_S), (r = some (.long (x_ab a)) ∧ τ = σ) → K r τ) : x_M l yJ9_abs_067f4 cJ9_abs_067f4 2 (some .long) 0 Y [.long a] σ K := by
  refine x_startF (by decide +kernel) (Nat.le_of_ble_eq_true rfl) ?_
  intro xp xe xs xm xg xb xt xc C xr xk
  refine x_lload_n C (i := 0) dJ9_abs_067f4_0 rfl rfl ?_
  refine x_lconst C (0) dJ9_abs_067f4_1 rfl ?_
  refine x_lcmp C dJ9_abs_067f4_2 ?_
  refine x_jf_ge C 11 dJ9_abs_067f4_3 (by decide) (fun c3 => ?_) (fun c3 => ?_)
  · skip
    have c3 := (lg_cmp_ge _ _).mp c3
    have c3' := Int64.not_lt.mpr c3
    refine x_lload_n C (i := 0) dJ9_abs_067f4_11 rfl rfl ?_
    refine x_lret C xr xk dJ9_abs_067f4_12 ?_
    exact hK _ _ ⟨by unfold x_ab; first | rw [if_pos c3] | rw [if_neg c3'], rfl⟩
  · skip
    have c3 := (lg_cmp_lt _ _).mp c3
    have c3' := Int64.not_le.mpr c3
    refine x_lload_n C (i := 0) dJ9_abs_067f4_6 rfl rfl ?_
    refine x_lneg C dJ9_abs_067f4_7 ?_
    refine x_goto C 12 dJ9_abs_067f4_8 (by decide) ?_
    refine x_lret C xr xk dJ9_abs_067f4_12 ?_
    exact hK _ _ ⟨by unfold x_ab; first | rw [if_pos c3] | rw [if_neg c3'], rfl⟩
theorem c_J9_abs_067f4 (l : Launch) (Y : x_Y) (σ : x_S) (a : Int64) : x_M l yJ9_abs_067f4 cJ9_abs_067f4 2 (some .long) 0 Y [.long a] σ (fun r τ => r = some (.long (x_ab a)) ∧ τ = σ) := c_J9_abs_067f4_K l Y σ a _ (fun _ _ h => h)
set_option maxRecDepth 100000 in
set_option maxHeartbeats 200000 in
theorem c_J9_floorMod_7cf53_K (l : Launch) (Y : x_Y) (σ : x_S) (x : Int32) (K : Option Value → x_S → Prop) (hK : ∀ (r : Option Value) (τ : x_S), (r = some (.int (x_md12 x)) ∧ τ = σ) → K r τ) : x_M l yJ9_floorMod_7cf53 cJ9_floorMod_7cf53 3 (some .int) 0 Y [.int x, .int (nI 12)] σ K := by
  refine x_startF (by decide +kernel) (Nat.le_of_ble_eq_true rfl) ?_
  intro xp xe xs xm xg xb xt xc C xr xk
  refine x_iload_n C (i := 0) dJ9_floorMod_7cf53_0 rfl rfl ?_
  refine x_iload_n C (i := 1) dJ9_floorMod_7cf53_1 rfl rfl ?_
  refine x_irem C dJ9_floorMod_7cf53_2 (by decide) ?_
  refine x_topI (y := x_rem x (nI 12)) rfl ?_
  refine x_istore_n C (i := 2) dJ9_floorMod_7cf53_3 rfl (by decide) ?_
  refine x_iload_n C (i := 0) dJ9_floorMod_7cf53_4 rfl rfl ?_
  refine x_iload_n C (i := 1) dJ9_floorMod_7cf53_5 rfl rfl ?_
  refine x_ixor C dJ9_floorMod_7cf53_6 ?_
  refine x_jf_ge C 18 dJ9_floorMod_7cf53_7 (by decide) (fun c7 => ?_) (fun c7 => ?_)
  · skip
    have c7' := Int32.not_lt.mpr c7
    refine x_iload_n C (i := 2) dJ9_floorMod_7cf53_18 rfl rfl ?_
    refine x_iret C xr xk dJ9_floorMod_7cf53_19 ?_
    exact hK _ _ ⟨by first | rw [(z_fmod x).2.1 c7'] | rw [(z_fmod x).2.2 c11], rfl⟩
  · skip
    have c7' := Int32.not_le.mpr c7
    refine x_iload_n C (i := 2) dJ9_floorMod_7cf53_10 rfl rfl ?_
    refine x_if_eq C 18 dJ9_floorMod_7cf53_11 (by decide) (fun c11 => ?_) (fun c11 => ?_)
    · skip
      refine x_iload_n C (i := 2) dJ9_floorMod_7cf53_18 rfl rfl ?_
      refine x_iret C xr xk dJ9_floorMod_7cf53_19 ?_
      exact hK _ _ ⟨by first | rw [(z_fmod x).2.1 c7'] | rw [(z_fmod x).2.2 c11], rfl⟩
    · skip
      refine x_iload_n C (i := 2) dJ9_floorMod_7cf53_14 rfl rfl ?_
      refine x_iload_n C (i := 1) dJ9_floorMod_7cf53_15 rfl rfl ?_
      refine x_iadd C dJ9_floorMod_7cf53_16 ?_
      refine x_iret C xr xk dJ9_floorMod_7cf53_17 ?_
      exact hK _ _ ⟨by rw [(z_fmod x).1 c7 c11], rfl⟩
theorem c_J9_floorMod_7cf53 (l : Launch) (Y : x_Y) (σ : x_S) (x : Int32) : x_M l yJ9_floorMod_7cf53 cJ9_floorMod_7cf53 3 (some .int) 0 Y [.int x, .int (nI 12)] σ (fun r τ => r = some (.int (x_md12 x)) ∧ τ = σ) := c_J9_floorMod_7cf53_K l Y σ x _ (fun _ _ h => h)
set_option maxRecDepth 100000 in
set_option maxHeartbeats 200000 in
theorem c_X3_pack_K (l : Launch) (Y : x_Y) (σ : x_S) (h k q : Int32) (K : Option Value → x_S → Prop) (hK : ∀ (r : Option Value) (τ : x_S), (r = some (.int (z_pack h k q)) ∧ τ = σ) → K r τ) : x_M l yX3_pack cX3_pack 3 (some .int) 0 Y [.int h, .int k, .int q] σ K := by
  refine x_start (by decide) (Nat.le_of_ble_eq_true rfl) ?_
  intro xp xe xs xm xg xb xt xc C xr xk
  refine x_iload_n C (i := 0) dX3_pack_0 rfl rfl ?_
  refine x_sipush C (nI 512) dX3_pack_1 rfl ?_
  refine x_iadd C dX3_pack_4 ?_
  refine x_bipush C (nI 20) dX3_pack_5 rfl ?_
  refine x_ishl C dX3_pack_7 ?_
  refine x_iload_n C (i := 1) dX3_pack_8 rfl rfl ?_
  refine x_sipush C (nI 512) dX3_pack_9 rfl ?_
  refine x_iadd C dX3_pack_12 ?_
  refine x_bipush C (nI 10) dX3_pack_13 rfl ?_
  refine x_ishl C dX3_pack_15 ?_
  refine x_iadd C dX3_pack_16 ?_
  refine x_iload_n C (i := 2) dX3_pack_17 rfl rfl ?_
  refine x_iadd C dX3_pack_18 ?_
  refine x_sipush C (nI 512) dX3_pack_19 rfl ?_
  refine x_iadd C dX3_pack_22 ?_
  refine x_iret C xr xk dX3_pack_23 ?_
  exact hK _ _ ⟨rfl, rfl⟩
theorem c_X3_pack (l : Launch) (Y : x_Y) (σ : x_S) (h k q : Int32) : x_M l yX3_pack cX3_pack 3 (some .int) 0 Y [.int h, .int k, .int q] σ (fun r τ => r = some (.int (z_pack h k q)) ∧ τ = σ) := c_X3_pack_K l Y σ h k q _ (fun _ _ h => h)
set_option maxRecDepth 100000 in
set_option maxHeartbeats 200000 in
theorem c_X3_part_K (l : Launch) (Y : x_Y) (σ : x_S) (q : Int32) (w : Nat) (hw : w < 3) (K : Option Value → x_S → Prop) (hK : ∀ (r : Option Value) (τ : x_S), (r = some (.int (z_part q w)) ∧ τ = σ) → K r τ) : x_M l yX3_part cX3_part 2 (some .int) 0 Y [.int q, .int (nI w)] σ K := by
  refine x_start (by decide) (Nat.le_of_ble_eq_true rfl) ?_
  intro xp xe xs xm xg xb xt xc C xr xk
  refine x_iload_n C (i := 0) dX3_part_0 rfl rfl ?_
  refine x_bipush C (nI 20) dX3_part_1 rfl ?_
  refine x_bipush C (nI 10) dX3_part_3 rfl ?_
  refine x_iload_n C (i := 1) dX3_part_5 rfl rfl ?_
  refine x_imulN C dX3_part_6 ?_
  refine x_isubN C dX3_part_7 (by omega) ?_
  refine x_ishr C dX3_part_8 ?_
  refine x_sipush C (nI 1023) dX3_part_9 rfl ?_
  refine x_iand C dX3_part_12 ?_
  refine x_sipush C (nI 512) dX3_part_13 rfl ?_
  refine x_isub C dX3_part_16 ?_
  refine x_iret C xr xk dX3_part_17 ?_
  exact hK _ _ ⟨rfl, rfl⟩
theorem c_X3_part (l : Launch) (Y : x_Y) (σ : x_S) (q : Int32) (w : Nat) (hw : w < 3) : x_M l yX3_part cX3_part 2 (some .int) 0 Y [.int q, .int (nI w)] σ (fun r τ => r = some (.int (z_part q w)) ∧ τ = σ) := c_X3_part_K l Y σ q w hw _ (fun _ _ h => h)
set_option maxRecDepth 100000 in
set_option maxHeartbeats 200000 in
theorem c_X3_opposite_K (l : Launch) (Y : x_Y) (σ : x_S) (q : Int32) (K : Option Value → x_S → Prop) (hK : ∀ (r : Option Value) (τ : x_S), (r = some (.int (z_opp q)) ∧ τ = σ) → K r τ) : x_M l yX3_opposite cX3_opposite 1 (some .int) 0 Y [.int q] σ K := by
  refine x_start (by decide) (Nat.le_of_ble_eq_true rfl) ?_
  intro xp xe xs xm xg xb xt xc C xr xk
  refine x_ldc C (1074791424) kc_X3_9 dX3_opposite_0 (x_topI (y := nI 1074791424) rfl ?_)
  refine x_iload_n C (i := 0) dX3_opposite_2 rfl rfl ?_
  refine x_isub C dX3_opposite_3 ?_
  refine x_iret C xr xk dX3_opposite_4 ?_
  exact hK _ _ ⟨rfl, rfl⟩
theorem c_X3_opposite (l : Launch) (Y : x_Y) (σ : x_S) (q : Int32) : x_M l yX3_opposite cX3_opposite 1 (some .int) 0 Y [.int q] σ (fun r τ => r = some (.int (z_opp q)) ∧ τ = σ) := c_X3_opposite_K l Y σ q _ (fun _ _ h => h)
set_option maxRecDepth 100000 in
set_option maxHeartbeats 200000 in
theorem c_X3_isInBox_K (l : Launch) (Y : x_Y) (σ : x_S) (h k q m : Int32) (K : Option Value → x_S → Prop) (hK : ∀ (r : Option Value) (τ : x_S), (r = some (.int (x_z (z_box h k q m))) ∧ τ = σ) → K r τ) : x_M l yX3_isInBox cX3_isInBox 4 (some .boolean) 0 Y [.int h, .int k, .int q, .int m] σ K := by
  refine x_start (by decide) (Nat.le_of_ble_eq_true rfl) ?_
  intro xp xe xs xm xg xb xt xc C xr xk
  refine x_iload_n C (i := 0) dX3_isInBox_0 rfl rfl ?_
  refine x_iload_n C (i := 3) dX3_isInBox_1 rfl rfl ?_
  refine x_ineg C dX3_isInBox_2 ?_
  refine x_jcmp_lt C 37 dX3_isInBox_3 (by decide) (fun c3 => ?_) (fun c3 => ?_)
  · skip
    have c3' := Int32.not_le.mpr c3
    refine x_iconst C (nI 0) dX3_isInBox_37 rfl ?_
    refine x_zret C xr xk dX3_isInBox_38 rfl ?_
    exact hK _ _ ⟨by unfold z_box; first | (rw [decide_eq_true c3, decide_eq_true c8, decide_eq_true c14, decide_eq_true c19, decide_eq_true c25, decide_eq_true c30]; rfl) | (rw [decide_eq_true c3, decide_eq_true c8, decide_eq_true c14, decide_eq_true c19, decide_eq_true c25, decide_eq_false c30']; simp only [Bool.false_and, Bool.and_false, Bool.true_and, Bool.and_true]; rfl) | (rw [decide_eq_true c3, decide_eq_true c8, decide_eq_true c14, decide_eq_true c19, decide_eq_false c25']; simp only [Bool.false_and, Bool.and_false, Bool.true_and, Bool.and_true]; rfl) | (rw [decide_eq_true c3, decide_eq_true c8, decide_eq_true c14, decide_eq_false c19']; simp only [Bool.false_and, Bool.and_false, Bool.true_and, Bool.and_true]; rfl) | (rw [decide_eq_true c3, decide_eq_true c8, decide_eq_false c14']; simp only [Bool.false_and, Bool.and_false, Bool.true_and, Bool.and_true]; rfl) | (rw [decide_eq_true c3, decide_eq_false c8']; simp only [Bool.false_and, Bool.and_false, Bool.true_and, Bool.and_true]; rfl) | (rw [decide_eq_false c3']; simp only [Bool.false_and, Bool.and_false, Bool.true_and, Bool.and_true]; rfl), rfl⟩
  · skip
    have c3' := Int32.not_lt.mpr c3
    refine x_iload_n C (i := 0) dX3_isInBox_6 rfl rfl ?_
    refine x_iload_n C (i := 3) dX3_isInBox_7 rfl rfl ?_
    refine x_jcmp_gt C 37 dX3_isInBox_8 (by decide) (fun c8 => ?_) (fun c8 => ?_)
    · skip
      have c8' := Int32.not_le.mpr c8
      refine x_iconst C (nI 0) dX3_isInBox_37 rfl ?_
      refine x_zret C xr xk dX3_isInBox_38 rfl ?_
      exact hK _ _ ⟨by unfold z_box; first | (rw [decide_eq_true c3, decide_eq_true c8, decide_eq_true c14, decide_eq_true c19, decide_eq_true c25, decide_eq_true c30]; rfl) | (rw [decide_eq_true c3, decide_eq_true c8, decide_eq_true c14, decide_eq_true c19, decide_eq_true c25, decide_eq_false c30']; simp only [Bool.false_and, Bool.and_false, Bool.true_and, Bool.and_true]; rfl) | (rw [decide_eq_true c3, decide_eq_true c8, decide_eq_true c14, decide_eq_true c19, decide_eq_false c25']; simp only [Bool.false_and, Bool.and_false, Bool.true_and, Bool.and_true]; rfl) | (rw [decide_eq_true c3, decide_eq_true c8, decide_eq_true c14, decide_eq_false c19']; simp only [Bool.false_and, Bool.and_false, Bool.true_and, Bool.and_true]; rfl) | (rw [decide_eq_true c3, decide_eq_true c8, decide_eq_false c14']; simp only [Bool.false_and, Bool.and_false, Bool.true_and, Bool.and_true]; rfl) | (rw [decide_eq_true c3, decide_eq_false c8']; simp only [Bool.false_and, Bool.and_false, Bool.true_and, Bool.and_true]; rfl) | (rw [decide_eq_false c3']; simp only [Bool.false_and, Bool.and_false, Bool.true_and, Bool.and_true]; rfl), rfl⟩
    · skip
      have c8' := Int32.not_lt.mpr c8
      refine x_iload_n C (i := 1) dX3_isInBox_11 rfl rfl ?_
      refine x_iload_n C (i := 3) dX3_isInBox_12 rfl rfl ?_
      refine x_ineg C dX3_isInBox_13 ?_
      refine x_jcmp_lt C 37 dX3_isInBox_14 (by decide) (fun c14 => ?_) (fun c14 => ?_)
      · skip
        have c14' := Int32.not_le.mpr c14
        refine x_iconst C (nI 0) dX3_isInBox_37 rfl ?_
        refine x_zret C xr xk dX3_isInBox_38 rfl ?_
        exact hK _ _ ⟨by unfold z_box; first | (rw [decide_eq_true c3, decide_eq_true c8, decide_eq_true c14, decide_eq_true c19, decide_eq_true c25, decide_eq_true c30]; rfl) | (rw [decide_eq_true c3, decide_eq_true c8, decide_eq_true c14, decide_eq_true c19, decide_eq_true c25, decide_eq_false c30']; simp only [Bool.false_and, Bool.and_false, Bool.true_and, Bool.and_true]; rfl) | (rw [decide_eq_true c3, decide_eq_true c8, decide_eq_true c14, decide_eq_true c19, decide_eq_false c25']; simp only [Bool.false_and, Bool.and_false, Bool.true_and, Bool.and_true]; rfl) | (rw [decide_eq_true c3, decide_eq_true c8, decide_eq_true c14, decide_eq_false c19']; simp only [Bool.false_and, Bool.and_false, Bool.true_and, Bool.and_true]; rfl) | (rw [decide_eq_true c3, decide_eq_true c8, decide_eq_false c14']; simp only [Bool.false_and, Bool.and_false, Bool.true_and, Bool.and_true]; rfl) | (rw [decide_eq_true c3, decide_eq_false c8']; simp only [Bool.false_and, Bool.and_false, Bool.true_and, Bool.and_true]; rfl) | (rw [decide_eq_false c3']; simp only [Bool.false_and, Bool.and_false, Bool.true_and, Bool.and_true]; rfl), rfl⟩
      · skip
        have c14' := Int32.not_lt.mpr c14
        refine x_iload_n C (i := 1) dX3_isInBox_17 rfl rfl ?_
        refine x_iload_n C (i := 3) dX3_isInBox_18 rfl rfl ?_
        refine x_jcmp_gt C 37 dX3_isInBox_19 (by decide) (fun c19 => ?_) (fun c19 => ?_)
        · skip
          have c19' := Int32.not_le.mpr c19
          refine x_iconst C (nI 0) dX3_isInBox_37 rfl ?_
          refine x_zret C xr xk dX3_isInBox_38 rfl ?_
          exact hK _ _ ⟨by unfold z_box; first | (rw [decide_eq_true c3, decide_eq_true c8, decide_eq_true c14, decide_eq_true c19, decide_eq_true c25, decide_eq_true c30]; rfl) | (rw [decide_eq_true c3, decide_eq_true c8, decide_eq_true c14, decide_eq_true c19, decide_eq_true c25, decide_eq_false c30']; simp only [Bool.false_and, Bool.and_false, Bool.true_and, Bool.and_true]; rfl) | (rw [decide_eq_true c3, decide_eq_true c8, decide_eq_true c14, decide_eq_true c19, decide_eq_false c25']; simp only [Bool.false_and, Bool.and_false, Bool.true_and, Bool.and_true]; rfl) | (rw [decide_eq_true c3, decide_eq_true c8, decide_eq_true c14, decide_eq_false c19']; simp only [Bool.false_and, Bool.and_false, Bool.true_and, Bool.and_true]; rfl) | (rw [decide_eq_true c3, decide_eq_true c8, decide_eq_false c14']; simp only [Bool.false_and, Bool.and_false, Bool.true_and, Bool.and_true]; rfl) | (rw [decide_eq_true c3, decide_eq_false c8']; simp only [Bool.false_and, Bool.and_false, Bool.true_and, Bool.and_true]; rfl) | (rw [decide_eq_false c3']; simp only [Bool.false_and, Bool.and_false, Bool.true_and, Bool.and_true]; rfl), rfl⟩
        · skip
          have c19' := Int32.not_lt.mpr c19
          refine x_iload_n C (i := 2) dX3_isInBox_22 rfl rfl ?_
          refine x_iload_n C (i := 3) dX3_isInBox_23 rfl rfl ?_
          refine x_ineg C dX3_isInBox_24 ?_
          refine x_jcmp_lt C 37 dX3_isInBox_25 (by decide) (fun c25 => ?_) (fun c25 => ?_)
          · skip
            have c25' := Int32.not_le.mpr c25
            refine x_iconst C (nI 0) dX3_isInBox_37 rfl ?_
            refine x_zret C xr xk dX3_isInBox_38 rfl ?_
            exact hK _ _ ⟨by unfold z_box; first | (rw [decide_eq_true c3, decide_eq_true c8, decide_eq_true c14, decide_eq_true c19, decide_eq_true c25, decide_eq_true c30]; rfl) | (rw [decide_eq_true c3, decide_eq_true c8, decide_eq_true c14, decide_eq_true c19, decide_eq_true c25, decide_eq_false c30']; simp only [Bool.false_and, Bool.and_false, Bool.true_and, Bool.and_true]; rfl) | (rw [decide_eq_true c3, decide_eq_true c8, decide_eq_true c14, decide_eq_true c19, decide_eq_false c25']; simp only [Bool.false_and, Bool.and_false, Bool.true_and, Bool.and_true]; rfl) | (rw [decide_eq_true c3, decide_eq_true c8, decide_eq_true c14, decide_eq_false c19']; simp only [Bool.false_and, Bool.and_false, Bool.true_and, Bool.and_true]; rfl) | (rw [decide_eq_true c3, decide_eq_true c8, decide_eq_false c14']; simp only [Bool.false_and, Bool.and_false, Bool.true_and, Bool.and_true]; rfl) | (rw [decide_eq_true c3, decide_eq_false c8']; simp only [Bool.false_and, Bool.and_false, Bool.true_and, Bool.and_true]; rfl) | (rw [decide_eq_false c3']; simp only [Bool.false_and, Bool.and_false, Bool.true_and, Bool.and_true]; rfl), rfl⟩
          · skip
            have c25' := Int32.not_lt.mpr c25
            refine x_iload_n C (i := 2) dX3_isInBox_28 rfl rfl ?_
            refine x_iload_n C (i := 3) dX3_isInBox_29 rfl rfl ?_
            refine x_jcmp_gt C 37 dX3_isInBox_30 (by decide) (fun c30 => ?_) (fun c30 => ?_)
            · skip
              have c30' := Int32.not_le.mpr c30
              refine x_iconst C (nI 0) dX3_isInBox_37 rfl ?_
              refine x_zret C xr xk dX3_isInBox_38 rfl ?_
              exact hK _ _ ⟨by unfold z_box; first | (rw [decide_eq_true c3, decide_eq_true c8, decide_eq_true c14, decide_eq_true c19, decide_eq_true c25, decide_eq_true c30]; rfl) | (rw [decide_eq_true c3, decide_eq_true c8, decide_eq_true c14, decide_eq_true c19, decide_eq_true c25, decide_eq_false c30']; simp only [Bool.false_and, Bool.and_false, Bool.true_and, Bool.and_true]; rfl) | (rw [decide_eq_true c3, decide_eq_true c8, decide_eq_true c14, decide_eq_true c19, decide_eq_false c25']; simp only [Bool.false_and, Bool.and_false, Bool.true_and, Bool.and_true]; rfl) | (rw [decide_eq_true c3, decide_eq_true c8, decide_eq_true c14, decide_eq_false c19']; simp only [Bool.false_and, Bool.and_false, Bool.true_and, Bool.and_true]; rfl) | (rw [decide_eq_true c3, decide_eq_true c8, decide_eq_false c14']; simp only [Bool.false_and, Bool.and_false, Bool.true_and, Bool.and_true]; rfl) | (rw [decide_eq_true c3, decide_eq_false c8']; simp only [Bool.false_and, Bool.and_false, Bool.true_and, Bool.and_true]; rfl) | (rw [decide_eq_false c3']; simp only [Bool.false_and, Bool.and_false, Bool.true_and, Bool.and_true]; rfl), rfl⟩
            · skip
              have c30' := Int32.not_lt.mpr c30
              refine x_iconst C (nI 1) dX3_isInBox_33 rfl ?_
              refine x_goto C 38 dX3_isInBox_34 (by decide) ?_
              refine x_zret C xr xk dX3_isInBox_38 rfl ?_
              exact hK _ _ ⟨by unfold z_box; first | (rw [decide_eq_true c3, decide_eq_true c8, decide_eq_true c14, decide_eq_true c19, decide_eq_true c25, decide_eq_true c30]; rfl) | (rw [decide_eq_true c3, decide_eq_true c8, decide_eq_true c14, decide_eq_true c19, decide_eq_true c25, decide_eq_false c30']; simp only [Bool.false_and, Bool.and_false, Bool.true_and, Bool.and_true]; rfl) | (rw [decide_eq_true c3, decide_eq_true c8, decide_eq_true c14, decide_eq_true c19, decide_eq_false c25']; simp only [Bool.false_and, Bool.and_false, Bool.true_and, Bool.and_true]; rfl) | (rw [decide_eq_true c3, decide_eq_true c8, decide_eq_true c14, decide_eq_false c19']; simp only [Bool.false_and, Bool.and_false, Bool.true_and, Bool.and_true]; rfl) | (rw [decide_eq_true c3, decide_eq_true c8, decide_eq_false c14']; simp only [Bool.false_and, Bool.and_false, Bool.true_and, Bool.and_true]; rfl) | (rw [decide_eq_true c3, decide_eq_false c8']; simp only [Bool.false_and, Bool.and_false, Bool.true_and, Bool.and_true]; rfl) | (rw [decide_eq_false c3']; simp only [Bool.false_and, Bool.and_false, Bool.true_and, Bool.and_true]; rfl), rfl⟩
theorem c_X3_isInBox (l : Launch) (Y : x_Y) (σ : x_S) (h k q m : Int32) : x_M l yX3_isInBox cX3_isInBox 4 (some .boolean) 0 Y [.int h, .int k, .int q, .int m] σ (fun r τ => r = some (.int (x_z (z_box h k q m))) ∧ τ = σ) := c_X3_isInBox_K l Y σ h k q m _ (fun _ _ h => h)
set_option maxRecDepth 100000 in
set_option maxHeartbeats 200000 in
theorem c_X9_append_K (l : Launch) (Y : x_Y) (σ : x_S) (a : Int32) (t : Nat) (f : Nat → Int32) (ht : σ.1 1 1 = nI t) (hf : σ.1 2 = f) (ht8 : t + 4 ≤ 8000) (K : Option Value → x_S → Prop) (hK : ∀ (r : Option Value) (τ : x_S), (r = none ∧ τ = x_st σ [(1, 1, nI (t + 4))] [(2, va_cpy (z_b4 a) f 0 t 4)] []) → K r τ) : x_M l yX9_append cX9_append 3 none 0 Y [.ref 1, .int a] σ K := by
  refine x_start (by decide) (Nat.le_of_ble_eq_true rfl) ?_
  intro xp xe xs xm xg xb xt xc C xr xk
  refine x_sig (σ' := x_st σ [(1, 1, nI t)] [(2, f)] []) (x_st_in (And.intro ht trivial) (And.intro hf trivial) trivial) ?_
  refine x_bipush C (nI 24) dX9_append_0 rfl ?_
  refine x_istore_n C (i := 2) dX9_append_2 rfl (by decide) ?_
  have lp3 : ∀ (m3 : Nat) (j : Nat) (sv : Int32), (4 - j) = m3 → (j ≤ 4) → (sv = nI (32 - 8 * j) - nI 8) → ∀ L : x_Lo, L.1 0 = some (.ref 1) → L.1 1 = some (.int a) → L.1 2 = some (.int sv) → x_W xp l xe (x_rm 0) xs xm xg xb xt xc 3 Y 0 0 (MQ xb (x_Q Y K) xg xs 0 0 (x_A Y)) 3 L [] (x_st σ [(1, 1, nI (t + j))] [(2, va_cpy (z_b4 a) f 0 t j)] []) := by
    intro m3
    induction m3 using Nat.strongRecOn with
    | _ m3 ih3 =>
      intro j sv hm3 hj hs L xl0 xl1 xl2
      refine x_iload_n C (i := 2) dX9_append_3 rfl xl2 ?_
      refine x_jf_lt C 46 dX9_append_4 (by decide) (fun c4 => ?_) (fun c4 => ?_)
      · skip
        have c4' := Int32.not_le.mpr c4
        obtain rfl : j = 4 := z_sh8e hj hs c4
        refine x_vret C xr xk dX9_append_46 ?_
        exact hK _ _ ⟨rfl, rfl⟩
      · skip
        have c4' := Int32.not_lt.mpr c4
        have hj4 : j < 4 := z_sh8f hj hs c4'
        subst hs
        refine x_aload_n C (i := 0) dX9_append_7 rfl xl0 ?_
        refine x_getI C fi_1_1 kf_X9_15 dX9_append_8 ?_
        refine x_topI (y := nI (t + j)) rfl ?_
        refine x_sipush C (nI 8000) dX9_append_11 rfl ?_
        refine x_icmp_geN C 46 dX9_append_14 (by decide) (by omega) (by omega) (fun c14 => ?_) (fun c14 => ?_)
        · skip
          have c14' := Nat.not_lt.mpr c14
          omega
        · skip
          have c14' := Nat.not_le.mpr c14
          refine x_aload_n C (i := 0) dX9_append_17 rfl xl0 ?_
          refine x_getR C fr_1_0 kf_X9_9 dX9_append_18 ?_
          refine x_aload_n C (i := 0) dX9_append_21 rfl xl0 ?_
          refine x_getI C fi_1_1 kf_X9_15 dX9_append_22 ?_
          refine x_topI (y := nI (t + j)) rfl ?_
          refine x_iload_n C (i := 1) dX9_append_25 rfl xl1 ?_
          refine x_iload_n C (i := 2) dX9_append_26 rfl xl2 ?_
          refine x_ishr C dX9_append_27 ?_
          refine x_i2b C dX9_append_28 ?_
          refine x_topI (y := (a >>> (nI (24 - 8 * j) &&& 31)).toInt8.toInt32) (by rw [z_sh8b j hj4]) ?_
          refine x_bastN C (by decide) rfl (by decide) dX9_append_29 (by omega) ?_
          refine x_sig (σ' := x_st σ [(1, 1, nI (t + j))] [(2, upd (va_cpy (z_b4 a) f 0 t j) (t + j) (vp_nar .byte ((a >>> (nI (24 - 8 * j) &&& 31)).toInt8.toInt32)))] []) (x_st_ua rfl) ?_
          refine x_aload_n C (i := 0) dX9_append_30 rfl xl0 ?_
          refine x_dup C dX9_append_31 rfl ?_
          refine x_getI C fi_1_1 kf_X9_15 dX9_append_32 ?_
          refine x_topI (y := nI (t + j)) rfl ?_
          refine x_iconst C (nI 1) dX9_append_35 rfl ?_
          refine x_iaddN C dX9_append_36 ?_
          refine x_putN C fi_1_1 kf_X9_15 rfl rfl dX9_append_37 ?_
          refine x_sig (σ' := x_st σ [(1, 1, nI (t + j + 1))] [(2, upd (va_cpy (z_b4 a) f 0 t j) (t + j) (vp_nar .byte ((a >>> (nI (24 - 8 * j) &&& 31)).toInt8.toInt32)))] []) (x_st_u rfl) ?_
          refine x_iinc C (i := 2) (-8) dX9_append_40 xl2 rfl (by decide) ?_
          refine x_goto C 3 dX9_append_43 (by decide) ?_
          refine x_sig (σ' := x_st σ [(1, 1, nI (t + (j + 1)))] [(2, va_cpy (z_b4 a) f 0 t (j + 1))] []) (by rw [← z_cpy_s]; rfl) ?_
          exact ih3 _ (by omega) (j + 1) ((nI (32 - 8 * j) - nI 8) + (-8)) rfl (by omega) (z_sh8c j hj4) _ xl0 xl1 rfl
  refine x_sig (σ' := x_st σ [(1, 1, nI (t + 0))] [(2, va_cpy (z_b4 a) f 0 t 0)] []) (by rw [z_cpy_0]; rfl) ?_
  exact lp3 _ 0 (nI 24) rfl (by decide) (by decide) _ rfl rfl rfl
theorem c_X9_append (l : Launch) (Y : x_Y) (σ : x_S) (a : Int32) (t : Nat) (f : Nat → Int32) (ht : σ.1 1 1 = nI t) (hf : σ.1 2 = f) (ht8 : t + 4 ≤ 8000) : x_M l yX9_append cX9_append 3 none 0 Y [.ref 1, .int a] σ (fun r τ => r = none ∧ τ = x_st σ [(1, 1, nI (t + 4))] [(2, va_cpy (z_b4 a) f 0 t 4)] []) := c_X9_append_K l Y σ a t f ht hf ht8 _ (fun _ _ h => h)
set_option maxRecDepth 100000 in
set_option maxHeartbeats 200000 in
theorem c_X9_byteAt_K (l : Launch) (Y : x_Y) (σ : x_S) (a t : Nat) (b : Nat → Int32) (ht : σ.1 1 1 = nI t) (hb : σ.1 2 = b) (ht8 : t ≤ 8000) (ha : a < 2 ^ 31) (K : Option Value → x_S → Prop) (hK : ∀ (r : Option Value) (τ : x_S), (r = some (.int (x_lookv b t a)) ∧ τ = σ) → K r τ) : x_M l yX9_byteAt cX9_byteAt 2 (some .int) 0 Y [.ref 1, .int (nI a)] σ K := by
  refine x_start (by decide) (Nat.le_of_ble_eq_true rfl) ?_
  intro xp xe xs xm xg xb xt xc C xr xk
  refine x_iload_n C (i := 1) dX9_byteAt_0 rfl rfl ?_
  refine x_if_ltN C 12 dX9_byteAt_1 (by decide) (by omega) ?_
  refine x_iload_n C (i := 1) dX9_byteAt_4 rfl rfl ?_
  refine x_aload_n C (i := 0) dX9_byteAt_5 rfl rfl ?_
  refine x_getI C fi_1_1 kf_X9_15 dX9_byteAt_6 ?_
  refine x_topI (y := nI t) ht ?_
  refine x_icmp_ltN C 14 dX9_byteAt_9 (by decide) (by omega) (by omega) (fun c9 => ?_) (fun c9 => ?_)
  · skip
    have c9' := Nat.not_le.mpr c9
    refine x_aload_n C (i := 0) dX9_byteAt_14 rfl rfl ?_
    refine x_getR C fr_1_0 kf_X9_9 dX9_byteAt_15 ?_
    refine x_iload_n C (i := 1) dX9_byteAt_18 rfl rfl ?_
    refine x_baldN C (by decide) rfl (by decide) dX9_byteAt_19 (by omega) ?_
    refine x_sipush C (nI 255) dX9_byteAt_20 rfl ?_
    refine x_iand C dX9_byteAt_23 ?_
    refine x_iret C xr xk dX9_byteAt_24 ?_
    exact hK _ _ ⟨by unfold x_lookv; rw [if_pos (by omega), ← hb], rfl⟩
  · skip
    have c9' := Nat.not_lt.mpr c9
    refine x_iconst C (-1) dX9_byteAt_12 rfl ?_
    refine x_iret C xr xk dX9_byteAt_13 ?_
    exact hK _ _ ⟨by unfold x_lookv; rw [if_neg (by omega)], rfl⟩
theorem c_X9_byteAt (l : Launch) (Y : x_Y) (σ : x_S) (a t : Nat) (b : Nat → Int32) (ht : σ.1 1 1 = nI t) (hb : σ.1 2 = b) (ht8 : t ≤ 8000) (ha : a < 2 ^ 31) : x_M l yX9_byteAt cX9_byteAt 2 (some .int) 0 Y [.ref 1, .int (nI a)] σ (fun r τ => r = some (.int (x_lookv b t a)) ∧ τ = σ) := c_X9_byteAt_K l Y σ a t b ht hb ht8 ha _ (fun _ _ h => h)
set_option maxRecDepth 100000 in
set_option maxHeartbeats 200000 in
theorem c_X1_rotationKey_K (l : Launch) (Y : x_Y) (σ : x_S) (i : Nat) (hi : i < 192) (K : Option Value → x_S → Prop) (hK : ∀ (r : Option Value) (τ : x_S), (r = some (.int ((σ.1 11 i) >>> (nI 12 &&& 31))) ∧ τ = σ) → K r τ) : x_M l yX1_rotationKey cX1_rotationKey 2 (some .int) 0 Y [.ref 10, .int (nI i)] σ K := by
  refine x_start (by decide) (Nat.le_of_ble_eq_true rfl) ?_
  intro xp xe xs xm xg xb xt xc C xr xk
  refine x_aload_n C (i := 0) dX1_rotationKey_0 rfl rfl ?_
  refine x_getR C fr_10_0 kf_X1_11 dX1_rotationKey_1 ?_
  refine x_iload_n C (i := 1) dX1_rotationKey_4 rfl rfl ?_
  refine x_ialdN C (by decide) rfl (by decide) dX1_rotationKey_5 (by omega) ?_
  refine x_bipush C (nI 12) dX1_rotationKey_6 rfl ?_
  refine x_ishr C dX1_rotationKey_8 ?_
  refine x_iret C xr xk dX1_rotationKey_9 ?_
  exact hK _ _ ⟨rfl, rfl⟩
theorem c_X1_rotationKey (l : Launch) (Y : x_Y) (σ : x_S) (i : Nat) (hi : i < 192) : x_M l yX1_rotationKey cX1_rotationKey 2 (some .int) 0 Y [.ref 10, .int (nI i)] σ (fun r τ => r = some (.int ((σ.1 11 i) >>> (nI 12 &&& 31))) ∧ τ = σ) := c_X1_rotationKey_K l Y σ i hi _ (fun _ _ h => h)
set_option maxRecDepth 100000 in
set_option maxHeartbeats 200000 in
theorem c_X1_has_K (l : Launch) (Y : x_Y) (σ : x_S) (i : Int32) (n : Nat) (hn : σ.1 10 5 = nI n) (hn9 : n ≤ 192) (K : Option Value → x_S → Prop) (hK : ∀ (r : Option Value) (τ : x_S), (∃ b : Bool, (r = some (.int (x_z b)) ∧ τ = σ) ∧ (b = true ↔ x_rng i n)) → K r τ) : x_M l yX1_has cX1_has 2 (some .boolean) 0 Y [.ref 10, .int i] σ K := by
  refine x_start (by decide) (Nat.le_of_ble_eq_true rfl) ?_
  intro xp xe xs xm xg xb xt xc C xr xk
  refine x_iload_n C (i := 1) dX1_has_0 rfl rfl ?_
  refine x_jf_lt C 16 dX1_has_1 (by decide) (fun c1 => ?_) (fun c1 => ?_)
  · skip
    have c1' := Int32.not_le.mpr c1
    refine x_iconst C (nI 0) dX1_has_16 rfl ?_
    refine x_zret C xr xk dX1_has_17 rfl ?_
    exact hK _ _ ⟨false, ⟨rfl, rfl⟩, ⟨(fun z => by cases z), fun z => absurd z (by first | exact z_rngn1 (by omega) c1 | exact z_rngn2 (by omega) c9)⟩⟩
  · skip
    have c1' := Int32.not_lt.mpr c1
    refine x_iload_n C (i := 1) dX1_has_4 rfl rfl ?_
    refine x_aload_n C (i := 0) dX1_has_5 rfl rfl ?_
    refine x_getI C fi_10_5 kf_X1_30 dX1_has_6 ?_
    refine x_topI (y := nI n) hn ?_
    refine x_jcmp_ge C 16 dX1_has_9 (by decide) (fun c9 => ?_) (fun c9 => ?_)
    · skip
      have c9' := Int32.not_lt.mpr c9
      refine x_iconst C (nI 0) dX1_has_16 rfl ?_
      refine x_zret C xr xk dX1_has_17 rfl ?_
      exact hK _ _ ⟨false, ⟨rfl, rfl⟩, ⟨(fun z => by cases z), fun z => absurd z (by first | exact z_rngn1 (by omega) c1 | exact z_rngn2 (by omega) c9)⟩⟩
    · skip
      have c9' := Int32.not_le.mpr c9
      refine x_iconst C (nI 1) dX1_has_12 rfl ?_
      refine x_goto C 17 dX1_has_13 (by decide) ?_
      refine x_zret C xr xk dX1_has_17 rfl ?_
      exact hK _ _ ⟨true, ⟨rfl, rfl⟩, ⟨fun _ => z_rng (by omega) c1' c9, fun _ => rfl⟩⟩
theorem c_X1_has (l : Launch) (Y : x_Y) (σ : x_S) (i : Int32) (n : Nat) (hn : σ.1 10 5 = nI n) (hn9 : n ≤ 192) : x_M l yX1_has cX1_has 2 (some .boolean) 0 Y [.ref 10, .int i] σ (fun r τ => ∃ b : Bool, (r = some (.int (x_z b)) ∧ τ = σ) ∧ (b = true ↔ x_rng i n)) := c_X1_has_K l Y σ i n hn hn9 _ (fun _ _ h => h)
set_option maxRecDepth 100000 in
set_option maxHeartbeats 200000 in
theorem c_X1_number_K (l : Launch) (Y : x_Y) (σ : x_S) (i k : Nat) (hi : i < 192) (hk : k < 12) (K : Option Value → x_S → Prop) (hK : ∀ (r : Option Value) (τ : x_S), (r = some (.int (σ.1 12 (i * 12 + k))) ∧ τ = σ) → K r τ) : x_M l yX1_number cX1_number 3 (some .int) 0 Y [.ref 10, .int (nI i), .int (nI k)] σ K := by
  refine x_start (by decide) (Nat.le_of_ble_eq_true rfl) ?_
  intro xp xe xs xm xg xb xt xc C xr xk
  refine x_aload_n C (i := 0) dX1_number_0 rfl rfl ?_
  refine x_getR C fr_10_1 kf_X1_15 dX1_number_1 ?_
  refine x_iload_n C (i := 1) dX1_number_4 rfl rfl ?_
  refine x_bipush C (nI 12) dX1_number_5 rfl ?_
  refine x_imulN C dX1_number_7 ?_
  refine x_iload_n C (i := 2) dX1_number_8 rfl rfl ?_
  refine x_iaddN C dX1_number_9 ?_
  refine x_ialdN C (by decide) rfl (by decide) dX1_number_10 (by omega) ?_
  refine x_iret C xr xk dX1_number_11 ?_
  exact hK _ _ ⟨rfl, rfl⟩
theorem c_X1_number (l : Launch) (Y : x_Y) (σ : x_S) (i k : Nat) (hi : i < 192) (hk : k < 12) : x_M l yX1_number cX1_number 3 (some .int) 0 Y [.ref 10, .int (nI i), .int (nI k)] σ (fun r τ => r = some (.int (σ.1 12 (i * 12 + k))) ∧ τ = σ) := c_X1_number_K l Y σ i k hi hk _ (fun _ _ h => h)
set_option maxRecDepth 100000 in
set_option maxHeartbeats 200000 in
theorem c_X1_determinant_K (l : Launch) (Y : x_Y) (σ : x_S) (a : Nat) (ha : a + 12 ≤ 2304) (K : Option Value → x_S → Prop) (hK : ∀ (r : Option Value) (τ : x_S), (r = some (.int (z_det (σ.1 12) a)) ∧ τ = σ) → K r τ) : x_M l yX1_determinant cX1_determinant 2 (some .int) 0 Y [.ref 10, .int (nI a)] σ K := by
  refine x_start (by decide) (Nat.le_of_ble_eq_true rfl) ?_
  intro xp xe xs xm xg xb xt xc C xr xk
  refine x_aload_n C (i := 0) dX1_determinant_0 rfl rfl ?_
  refine x_getR C fr_10_1 kf_X1_15 dX1_determinant_1 ?_
  refine x_iload_n C (i := 1) dX1_determinant_4 rfl rfl ?_
  refine x_ialdN C (by decide) rfl (by decide) dX1_determinant_5 (by omega) ?_
  refine x_aload_n C (i := 0) dX1_determinant_6 rfl rfl ?_
  refine x_getR C fr_10_1 kf_X1_15 dX1_determinant_7 ?_
  refine x_iload_n C (i := 1) dX1_determinant_10 rfl rfl ?_
  refine x_iconst C (nI 4) dX1_determinant_11 rfl ?_
  refine x_iaddN C dX1_determinant_12 ?_
  refine x_ialdN C (by decide) rfl (by decide) dX1_determinant_13 (by omega) ?_
  refine x_aload_n C (i := 0) dX1_determinant_14 rfl rfl ?_
  refine x_getR C fr_10_1 kf_X1_15 dX1_determinant_15 ?_
  refine x_iload_n C (i := 1) dX1_determinant_18 rfl rfl ?_
  refine x_bipush C (nI 8) dX1_determinant_19 rfl ?_
  refine x_iaddN C dX1_determinant_21 ?_
  refine x_ialdN C (by decide) rfl (by decide) dX1_determinant_22 (by omega) ?_
  refine x_imul C dX1_determinant_23 ?_
  refine x_aload_n C (i := 0) dX1_determinant_24 rfl rfl ?_
  refine x_getR C fr_10_1 kf_X1_15 dX1_determinant_25 ?_
  refine x_iload_n C (i := 1) dX1_determinant_28 rfl rfl ?_
  refine x_iconst C (nI 5) dX1_determinant_29 rfl ?_
  refine x_iaddN C dX1_determinant_30 ?_
  refine x_ialdN C (by decide) rfl (by decide) dX1_determinant_31 (by omega) ?_
  refine x_aload_n C (i := 0) dX1_determinant_32 rfl rfl ?_
  refine x_getR C fr_10_1 kf_X1_15 dX1_determinant_33 ?_
  refine x_iload_n C (i := 1) dX1_determinant_36 rfl rfl ?_
  refine x_bipush C (nI 7) dX1_determinant_37 rfl ?_
  refine x_iaddN C dX1_determinant_39 ?_
  refine x_ialdN C (by decide) rfl (by decide) dX1_determinant_40 (by omega) ?_
  refine x_imul C dX1_determinant_41 ?_
  refine x_isub C dX1_determinant_42 ?_
  refine x_imul C dX1_determinant_43 ?_
  refine x_aload_n C (i := 0) dX1_determinant_44 rfl rfl ?_
  refine x_getR C fr_10_1 kf_X1_15 dX1_determinant_45 ?_
  refine x_iload_n C (i := 1) dX1_determinant_48 rfl rfl ?_
  refine x_iconst C (nI 1) dX1_determinant_49 rfl ?_
  refine x_iaddN C dX1_determinant_50 ?_
  refine x_ialdN C (by decide) rfl (by decide) dX1_determinant_51 (by omega) ?_
  refine x_aload_n C (i := 0) dX1_determinant_52 rfl rfl ?_
  refine x_getR C fr_10_1 kf_X1_15 dX1_determinant_53 ?_
  refine x_iload_n C (i := 1) dX1_determinant_56 rfl rfl ?_
  refine x_iconst C (nI 3) dX1_determinant_57 rfl ?_
  refine x_iaddN C dX1_determinant_58 ?_
  refine x_ialdN C (by decide) rfl (by decide) dX1_determinant_59 (by omega) ?_
  refine x_aload_n C (i := 0) dX1_determinant_60 rfl rfl ?_
  refine x_getR C fr_10_1 kf_X1_15 dX1_determinant_61 ?_
  refine x_iload_n C (i := 1) dX1_determinant_64 rfl rfl ?_
  refine x_bipush C (nI 8) dX1_determinant_65 rfl ?_
  refine x_iaddN C dX1_determinant_67 ?_
  refine x_ialdN C (by decide) rfl (by decide) dX1_determinant_68 (by omega) ?_
  refine x_imul C dX1_determinant_69 ?_
  refine x_aload_n C (i := 0) dX1_determinant_70 rfl rfl ?_
  refine x_getR C fr_10_1 kf_X1_15 dX1_determinant_71 ?_
  refine x_iload_n C (i := 1) dX1_determinant_74 rfl rfl ?_
  refine x_iconst C (nI 5) dX1_determinant_75 rfl ?_
  refine x_iaddN C dX1_determinant_76 ?_
  refine x_ialdN C (by decide) rfl (by decide) dX1_determinant_77 (by omega) ?_
  refine x_aload_n C (i := 0) dX1_determinant_78 rfl rfl ?_
  refine x_getR C fr_10_1 kf_X1_15 dX1_determinant_79 ?_
  refine x_iload_n C (i := 1) dX1_determinant_82 rfl rfl ?_
  refine x_bipush C (nI 6) dX1_determinant_83 rfl ?_
  refine x_iaddN C dX1_determinant_85 ?_
  refine x_ialdN C (by decide) rfl (by decide) dX1_determinant_86 (by omega) ?_
  refine x_imul C dX1_determinant_87 ?_
  refine x_isub C dX1_determinant_88 ?_
  refine x_imul C dX1_determinant_89 ?_
  refine x_isub C dX1_determinant_90 ?_
  refine x_aload_n C (i := 0) dX1_determinant_91 rfl rfl ?_
  refine x_getR C fr_10_1 kf_X1_15 dX1_determinant_92 ?_
  refine x_iload_n C (i := 1) dX1_determinant_95 rfl rfl ?_
  refine x_iconst C (nI 2) dX1_determinant_96 rfl ?_
  refine x_iaddN C dX1_determinant_97 ?_
  refine x_ialdN C (by decide) rfl (by decide) dX1_determinant_98 (by omega) ?_
  refine x_aload_n C (i := 0) dX1_determinant_99 rfl rfl ?_
  refine x_getR C fr_10_1 kf_X1_15 dX1_determinant_100 ?_
  refine x_iload_n C (i := 1) dX1_determinant_103 rfl rfl ?_
  refine x_iconst C (nI 3) dX1_determinant_104 rfl ?_
  refine x_iaddN C dX1_determinant_105 ?_
  refine x_ialdN C (by decide) rfl (by decide) dX1_determinant_106 (by omega) ?_
  refine x_aload_n C (i := 0) dX1_determinant_107 rfl rfl ?_
  refine x_getR C fr_10_1 kf_X1_15 dX1_determinant_108 ?_
  refine x_iload_n C (i := 1) dX1_determinant_111 rfl rfl ?_
  refine x_bipush C (nI 7) dX1_determinant_112 rfl ?_
  refine x_iaddN C dX1_determinant_114 ?_
  refine x_ialdN C (by decide) rfl (by decide) dX1_determinant_115 (by omega) ?_
  refine x_imul C dX1_determinant_116 ?_
  refine x_aload_n C (i := 0) dX1_determinant_117 rfl rfl ?_
  refine x_getR C fr_10_1 kf_X1_15 dX1_determinant_118 ?_
  refine x_iload_n C (i := 1) dX1_determinant_121 rfl rfl ?_
  refine x_iconst C (nI 4) dX1_determinant_122 rfl ?_
  refine x_iaddN C dX1_determinant_123 ?_
  refine x_ialdN C (by decide) rfl (by decide) dX1_determinant_124 (by omega) ?_
  refine x_aload_n C (i := 0) dX1_determinant_125 rfl rfl ?_
  refine x_getR C fr_10_1 kf_X1_15 dX1_determinant_126 ?_
  refine x_iload_n C (i := 1) dX1_determinant_129 rfl rfl ?_
  refine x_bipush C (nI 6) dX1_determinant_130 rfl ?_
  refine x_iaddN C dX1_determinant_132 ?_
  refine x_ialdN C (by decide) rfl (by decide) dX1_determinant_133 (by omega) ?_
  refine x_imul C dX1_determinant_134 ?_
  refine x_isub C dX1_determinant_135 ?_
  refine x_imul C dX1_determinant_136 ?_
  refine x_iadd C dX1_determinant_137 ?_
  refine x_iret C xr xk dX1_determinant_138 ?_
  exact hK _ _ ⟨rfl, rfl⟩
theorem c_X1_determinant (l : Launch) (Y : x_Y) (σ : x_S) (a : Nat) (ha : a + 12 ≤ 2304) : x_M l yX1_determinant cX1_determinant 2 (some .int) 0 Y [.ref 10, .int (nI a)] σ (fun r τ => r = some (.int (z_det (σ.1 12) a)) ∧ τ = σ) := c_X1_determinant_K l Y σ a ha _ (fun _ _ h => h)
set_option maxRecDepth 100000 in
set_option maxHeartbeats 200000 in
theorem c_X1_sentNumber_K (l : Launch) (Y : x_Y) (σ : x_S) (i j : Nat) (h k q : Int32) (hi : i < 192) (hj : j < 3) (K : Option Value → x_S → Prop) (hK : ∀ (r : Option Value) (τ : x_S), (r = some (.int (z_sn (σ.1 12) i j h k q)) ∧ τ = σ) → K r τ) : x_M l yX1_sentNumber cX1_sentNumber 7 (some .int) 0 Y [.ref 10, .int (nI i), .int (nI j), .int h, .int k, .int q] σ K := by
  refine x_start (by decide) (Nat.le_of_ble_eq_true rfl) ?_
  intro xp xe xs xm xg xb xt xc C xr xk
  refine x_iload_n C (i := 1) dX1_sentNumber_0 rfl rfl ?_
  refine x_bipush C (nI 12) dX1_sentNumber_1 rfl ?_
  refine x_imulN C dX1_sentNumber_3 ?_
  refine x_iload_n C (i := 2) dX1_sentNumber_4 rfl rfl ?_
  refine x_iaddN C dX1_sentNumber_5 ?_
  refine x_istore C (i := 6) dX1_sentNumber_6 (by decide) ?_
  refine x_iload_n C (i := 3) dX1_sentNumber_8 rfl rfl ?_
  refine x_aload_n C (i := 0) dX1_sentNumber_9 rfl rfl ?_
  refine x_getR C fr_10_1 kf_X1_15 dX1_sentNumber_10 ?_
  refine x_iload C (i := 6) dX1_sentNumber_13 rfl ?_
  refine x_ialdN C (by decide) rfl (by decide) dX1_sentNumber_15 (by omega) ?_
  refine x_imul C dX1_sentNumber_16 ?_
  refine x_iload C (i := 4) dX1_sentNumber_17 rfl ?_
  refine x_aload_n C (i := 0) dX1_sentNumber_19 rfl rfl ?_
  refine x_getR C fr_10_1 kf_X1_15 dX1_sentNumber_20 ?_
  refine x_iload C (i := 6) dX1_sentNumber_23 rfl ?_
  refine x_iconst C (nI 3) dX1_sentNumber_25 rfl ?_
  refine x_iaddN C dX1_sentNumber_26 ?_
  refine x_ialdN C (by decide) rfl (by decide) dX1_sentNumber_27 (by omega) ?_
  refine x_imul C dX1_sentNumber_28 ?_
  refine x_iadd C dX1_sentNumber_29 ?_
  refine x_iload C (i := 5) dX1_sentNumber_30 rfl ?_
  refine x_aload_n C (i := 0) dX1_sentNumber_32 rfl rfl ?_
  refine x_getR C fr_10_1 kf_X1_15 dX1_sentNumber_33 ?_
  refine x_iload C (i := 6) dX1_sentNumber_36 rfl ?_
  refine x_bipush C (nI 6) dX1_sentNumber_38 rfl ?_
  refine x_iaddN C dX1_sentNumber_40 ?_
  refine x_ialdN C (by decide) rfl (by decide) dX1_sentNumber_41 (by omega) ?_
  refine x_imul C dX1_sentNumber_42 ?_
  refine x_iadd C dX1_sentNumber_43 ?_
  refine x_iret C xr xk dX1_sentNumber_44 ?_
  exact hK _ _ ⟨rfl, rfl⟩
theorem c_X1_sentNumber (l : Launch) (Y : x_Y) (σ : x_S) (i j : Nat) (h k q : Int32) (hi : i < 192) (hj : j < 3) : x_M l yX1_sentNumber cX1_sentNumber 7 (some .int) 0 Y [.ref 10, .int (nI i), .int (nI j), .int h, .int k, .int q] σ (fun r τ => r = some (.int (z_sn (σ.1 12) i j h k q)) ∧ τ = σ) := c_X1_sentNumber_K l Y σ i j h k q hi hj _ (fun _ _ h => h)
set_option maxRecDepth 100000 in
set_option maxHeartbeats 200000 in
theorem c_X1_phase_K (l : Launch) (Y : x_Y) (σ : x_S) (i : Nat) (h k q : Int32) (hi : i < 192) (K : Option Value → x_S → Prop) (hK : ∀ (r : Option Value) (τ : x_S), (r = some (.int (z_ph (σ.1 12) i h k q)) ∧ τ = σ) → K r τ) : x_M l yX1_phase cX1_phase 6 (some .int) 1 Y [.ref 10, .int (nI i), .int h, .int k, .int q] σ K := by
  refine x_start (by decide) (Nat.le_of_ble_eq_true rfl) ?_
  intro xp xe xs xm xg xb xt xc C xr xk
  refine x_iload_n C (i := 1) dX1_phase_0 rfl rfl ?_
  refine x_bipush C (nI 12) dX1_phase_1 rfl ?_
  refine x_imulN C dX1_phase_3 ?_
  refine x_bipush C (nI 9) dX1_phase_4 rfl ?_
  refine x_iaddN C dX1_phase_6 ?_
  refine x_istore C (i := 5) dX1_phase_7 (by decide) ?_
  refine x_iload_n C (i := 2) dX1_phase_9 rfl rfl ?_
  refine x_aload_n C (i := 0) dX1_phase_10 rfl rfl ?_
  refine x_getR C fr_10_1 kf_X1_15 dX1_phase_11 ?_
  refine x_iload C (i := 5) dX1_phase_14 rfl ?_
  refine x_ialdN C (by decide) rfl (by decide) dX1_phase_16 (by omega) ?_
  refine x_imul C dX1_phase_17 ?_
  refine x_iload_n C (i := 3) dX1_phase_18 rfl rfl ?_
  refine x_aload_n C (i := 0) dX1_phase_19 rfl rfl ?_
  refine x_getR C fr_10_1 kf_X1_15 dX1_phase_20 ?_
  refine x_iload C (i := 5) dX1_phase_23 rfl ?_
  refine x_iconst C (nI 1) dX1_phase_25 rfl ?_
  refine x_iaddN C dX1_phase_26 ?_
  refine x_ialdN C (by decide) rfl (by decide) dX1_phase_27 (by omega) ?_
  refine x_imul C dX1_phase_28 ?_
  refine x_iadd C dX1_phase_29 ?_
  refine x_iload C (i := 4) dX1_phase_30 rfl ?_
  refine x_aload_n C (i := 0) dX1_phase_32 rfl rfl ?_
  refine x_getR C fr_10_1 kf_X1_15 dX1_phase_33 ?_
  refine x_iload C (i := 5) dX1_phase_36 rfl ?_
  refine x_iconst C (nI 2) dX1_phase_38 rfl ?_
  refine x_iaddN C dX1_phase_39 ?_
  refine x_ialdN C (by decide) rfl (by decide) dX1_phase_40 (by omega) ?_
  refine x_imul C dX1_phase_41 ?_
  refine x_iadd C dX1_phase_42 ?_
  refine x_bipush C (nI 12) dX1_phase_43 rfl ?_
  have hM := c_J9_floorMod_7cf53 l Y σ (((h * (σ.1 12 ((i * 12) + 9))) + (k * (σ.1 12 ((i * 12) + 9 + 1)))) + (q * (σ.1 12 ((i * 12) + 9 + 2))))
  refine x_callS C (as := [.int (((h * (σ.1 12 ((i * 12) + 9))) + (k * (σ.1 12 ((i * 12) + 9 + 1)))) + (q * (σ.1 12 ((i * 12) + 9 + 2)))), .int (nI 12)]) (st := []) (hM) kb_J9_floorMod_7cf53 ks_X1_60 dX1_phase_45 rfl rfl (Nat.le_of_ble_eq_true rfl) ⟨by decide, by decide⟩ ⟨by decide, by decide⟩ ?_
  clear hM
  intro r9 τ9 h9
  obtain ⟨rfl, h8⟩ := h9
  rw [h8]
  clear h8 τ9
  refine x_iret C xr xk dX1_phase_48 ?_
  exact hK _ _ ⟨rfl, rfl⟩
theorem c_X1_phase (l : Launch) (Y : x_Y) (σ : x_S) (i : Nat) (h k q : Int32) (hi : i < 192) : x_M l yX1_phase cX1_phase 6 (some .int) 1 Y [.ref 10, .int (nI i), .int h, .int k, .int q] σ (fun r τ => r = some (.int (z_ph (σ.1 12) i h k q)) ∧ τ = σ) := c_X1_phase_K l Y σ i h k q hi _ (fun _ _ h => h)
set_option maxRecDepth 100000 in
set_option maxHeartbeats 200000 in
theorem c_X1_isAbsent_K (l : Launch) (Y : x_Y) (σ : x_S) (h k q : Int32) (n : Nat) (hn : σ.1 10 5 = nI n) (hn9 : n ≤ 192) (K : Option Value → x_S → Prop) (hK : ∀ (r : Option Value) (τ : x_S), (r = some (.int (x_z (z_abs (σ.1 12) n h k q))) ∧ τ = σ) → K r τ) : x_M l yX1_isAbsent cX1_isAbsent 5 (some .boolean) 2 Y [.ref 10, .int h, .int k, .int q] σ K := by
  refine x_start (by decide) (Nat.le_of_ble_eq_true rfl) ?_
  intro xp xe xs xm xg xb xt xc C xr xk
  refine x_iconst C (nI 0) dX1_isAbsent_0 rfl ?_
  refine x_istore C (i := 4) dX1_isAbsent_1 (by decide) ?_
  have lp3 : ∀ (m3 : Nat) (i : Nat), (n - i) = m3 → (i ≤ n) → (x_anyf (z_ab1 (σ.1 12) h k q) (n - i) i = z_abs (σ.1 12) n h k q) → ∀ L : x_Lo, L.1 0 = some (.ref 10) → L.1 1 = some (.int h) → L.1 2 = some (.int k) → L.1 3 = some (.int q) → L.1 4 = some (.int (nI i)) → x_W xp l xe (x_rm 2) xs xm xg xb xt xc 5 Y 0 0 (MQ xb (x_Q Y K) xg xs 0 0 (x_A Y)) 3 L [] σ := by
    intro m3
    induction m3 using Nat.strongRecOn with
    | _ m3 ih3 =>
      intro i hm3 hi hR L xl0 xl1 xl2 xl3 xl4
      refine x_iload C (i := 4) dX1_isAbsent_3 xl4 ?_
      refine x_aload_n C (i := 0) dX1_isAbsent_5 rfl xl0 ?_
      refine x_getI C fi_10_5 kf_X1_30 dX1_isAbsent_6 ?_
      refine x_topI (y := nI n) hn ?_
      refine x_icmp_geN C 74 dX1_isAbsent_9 (by decide) (by omega) (by omega) (fun c9 => ?_) (fun c9 => ?_)
      · skip
        have c9' := Nat.not_lt.mpr c9
        refine x_iconst C (nI 0) dX1_isAbsent_74 rfl ?_
        refine x_zret C xr xk dX1_isAbsent_75 rfl ?_
        exact hK _ _ ⟨by rw [← hR, x_anyf_e _ (by omega)]; rfl, rfl⟩
      · skip
        have c9' := Nat.not_le.mpr c9
        refine x_aload_n C (i := 0) dX1_isAbsent_12 rfl xl0 ?_
        refine x_iload C (i := 4) dX1_isAbsent_13 xl4 ?_
        refine x_iconst C (nI 0) dX1_isAbsent_15 rfl ?_
        refine x_iload_n C (i := 1) dX1_isAbsent_16 rfl xl1 ?_
        refine x_iload_n C (i := 2) dX1_isAbsent_17 rfl xl2 ?_
        refine x_iload_n C (i := 3) dX1_isAbsent_18 rfl xl3 ?_
        have hM := c_X1_sentNumber l Y σ i 0 h k q (by omega) (by omega)
        refine x_callV C (as := [.int (nI i), .int (nI 0), .int h, .int k, .int q]) (st := []) (hM) kb_X1_sentNumber kv_X1_66 dX1_isAbsent_19 rfl rfl (Nat.le_of_ble_eq_true rfl) ⟨by decide, by decide⟩ ⟨by decide, by decide⟩ ko_10 ?_
        clear hM
        intro r9 τ9 h9
        obtain ⟨rfl, h8⟩ := h9
        rw [h8]
        clear h8 τ9
        refine x_iload_n C (i := 1) dX1_isAbsent_22 rfl xl1 ?_
        refine x_icmp_ne C 68 dX1_isAbsent_23 (by decide) (fun c23 => ?_) (fun c23 => ?_)
        · skip
          refine x_iincN C (i := 4) (b := 1) dX1_isAbsent_68 xl4 rfl (by decide) ?_
          refine x_goto C 3 dX1_isAbsent_71 (by decide) ?_
          exact ih3 _ (by omega) (i + 1) rfl (by omega) (by rw [← hR, x_anyf_s _ (by omega : i < n), z_abf (by first | exact Or.inl c23 | exact Or.inr (Or.inl c37) | exact Or.inr (Or.inr (Or.inl c51)) | exact Or.inr (Or.inr (Or.inr c63)))]; rfl) _ xl0 xl1 xl2 xl3 rfl
        · skip
          refine x_aload_n C (i := 0) dX1_isAbsent_26 rfl xl0 ?_
          refine x_iload C (i := 4) dX1_isAbsent_27 xl4 ?_
          refine x_iconst C (nI 1) dX1_isAbsent_29 rfl ?_
          refine x_iload_n C (i := 1) dX1_isAbsent_30 rfl xl1 ?_
          refine x_iload_n C (i := 2) dX1_isAbsent_31 rfl xl2 ?_
          refine x_iload_n C (i := 3) dX1_isAbsent_32 rfl xl3 ?_
          have hM := c_X1_sentNumber l Y σ i 1 h k q (by omega) (by omega)
          refine x_callV C (as := [.int (nI i), .int (nI 1), .int h, .int k, .int q]) (st := []) (hM) kb_X1_sentNumber kv_X1_66 dX1_isAbsent_33 rfl rfl (Nat.le_of_ble_eq_true rfl) ⟨by decide, by decide⟩ ⟨by decide, by decide⟩ ko_10 ?_
          clear hM
          intro r9 τ9 h9
          obtain ⟨rfl, h8⟩ := h9
          rw [h8]
          clear h8 τ9
          refine x_iload_n C (i := 2) dX1_isAbsent_36 rfl xl2 ?_
          refine x_icmp_ne C 68 dX1_isAbsent_37 (by decide) (fun c37 => ?_) (fun c37 => ?_)
          · skip
            refine x_iincN C (i := 4) (b := 1) dX1_isAbsent_68 xl4 rfl (by decide) ?_
            refine x_goto C 3 dX1_isAbsent_71 (by decide) ?_
            exact ih3 _ (by omega) (i + 1) rfl (by omega) (by rw [← hR, x_anyf_s _ (by omega : i < n), z_abf (by first | exact Or.inl c23 | exact Or.inr (Or.inl c37) | exact Or.inr (Or.inr (Or.inl c51)) | exact Or.inr (Or.inr (Or.inr c63)))]; rfl) _ xl0 xl1 xl2 xl3 rfl
          · skip
            refine x_aload_n C (i := 0) dX1_isAbsent_40 rfl xl0 ?_
            refine x_iload C (i := 4) dX1_isAbsent_41 xl4 ?_
            refine x_iconst C (nI 2) dX1_isAbsent_43 rfl ?_
            refine x_iload_n C (i := 1) dX1_isAbsent_44 rfl xl1 ?_
            refine x_iload_n C (i := 2) dX1_isAbsent_45 rfl xl2 ?_
            refine x_iload_n C (i := 3) dX1_isAbsent_46 rfl xl3 ?_
            have hM := c_X1_sentNumber l Y σ i 2 h k q (by omega) (by omega)
            refine x_callV C (as := [.int (nI i), .int (nI 2), .int h, .int k, .int q]) (st := []) (hM) kb_X1_sentNumber kv_X1_66 dX1_isAbsent_47 rfl rfl (Nat.le_of_ble_eq_true rfl) ⟨by decide, by decide⟩ ⟨by decide, by decide⟩ ko_10 ?_
            clear hM
            intro r9 τ9 h9
            obtain ⟨rfl, h8⟩ := h9
            rw [h8]
            clear h8 τ9
            refine x_iload_n C (i := 3) dX1_isAbsent_50 rfl xl3 ?_
            refine x_icmp_ne C 68 dX1_isAbsent_51 (by decide) (fun c51 => ?_) (fun c51 => ?_)
            · skip
              refine x_iincN C (i := 4) (b := 1) dX1_isAbsent_68 xl4 rfl (by decide) ?_
              refine x_goto C 3 dX1_isAbsent_71 (by decide) ?_
              exact ih3 _ (by omega) (i + 1) rfl (by omega) (by rw [← hR, x_anyf_s _ (by omega : i < n), z_abf (by first | exact Or.inl c23 | exact Or.inr (Or.inl c37) | exact Or.inr (Or.inr (Or.inl c51)) | exact Or.inr (Or.inr (Or.inr c63)))]; rfl) _ xl0 xl1 xl2 xl3 rfl
            · skip
              refine x_aload_n C (i := 0) dX1_isAbsent_54 rfl xl0 ?_
              refine x_iload C (i := 4) dX1_isAbsent_55 xl4 ?_
              refine x_iload_n C (i := 1) dX1_isAbsent_57 rfl xl1 ?_
              refine x_iload_n C (i := 2) dX1_isAbsent_58 rfl xl2 ?_
              refine x_iload_n C (i := 3) dX1_isAbsent_59 rfl xl3 ?_
              have hM := c_X1_phase l Y σ i h k q (by omega)
              refine x_callV C (as := [.int (nI i), .int h, .int k, .int q]) (st := []) (hM) kb_X1_phase kv_X1_70 dX1_isAbsent_60 rfl rfl (Nat.le_of_ble_eq_true rfl) ⟨by decide, by decide⟩ ⟨by decide, by decide⟩ ko_10 ?_
              clear hM
              intro r9 τ9 h9
              obtain ⟨rfl, h8⟩ := h9
              rw [h8]
              clear h8 τ9
              refine x_if_eq C 68 dX1_isAbsent_63 (by decide) (fun c63 => ?_) (fun c63 => ?_)
              · skip
                refine x_iincN C (i := 4) (b := 1) dX1_isAbsent_68 xl4 rfl (by decide) ?_
                refine x_goto C 3 dX1_isAbsent_71 (by decide) ?_
                exact ih3 _ (by omega) (i + 1) rfl (by omega) (by rw [← hR, x_anyf_s _ (by omega : i < n), z_abf (by first | exact Or.inl c23 | exact Or.inr (Or.inl c37) | exact Or.inr (Or.inr (Or.inl c51)) | exact Or.inr (Or.inr (Or.inr c63)))]; rfl) _ xl0 xl1 xl2 xl3 rfl
              · skip
                refine x_iconst C (nI 1) dX1_isAbsent_66 rfl ?_
                refine x_zret C xr xk dX1_isAbsent_67 rfl ?_
                exact hK _ _ ⟨by rw [← hR, x_anyf_s _ (by omega : i < n), z_abt c23 c37 c51 c63]; rfl, rfl⟩
  exact lp3 _ 0 rfl (Nat.zero_le _) rfl _ rfl rfl rfl rfl rfl
theorem c_X1_isAbsent (l : Launch) (Y : x_Y) (σ : x_S) (h k q : Int32) (n : Nat) (hn : σ.1 10 5 = nI n) (hn9 : n ≤ 192) : x_M l yX1_isAbsent cX1_isAbsent 5 (some .boolean) 2 Y [.ref 10, .int h, .int k, .int q] σ (fun r τ => r = some (.int (x_z (z_abs (σ.1 12) n h k q))) ∧ τ = σ) := c_X1_isAbsent_K l Y σ h k q n hn hn9 _ (fun _ _ h => h)
set_option maxRecDepth 100000 in
set_option maxHeartbeats 200000 in
theorem c_X1_turned_K (l : Launch) (Y : x_Y) (σ : x_S) (i : Nat) (h k q : Int32) (hi : i < 192) (K : Option Value → x_S → Prop) (hK : ∀ (r : Option Value) (τ : x_S), (r = some (.int (z_tu (σ.1 13) h k q i)) ∧ τ = σ) → K r τ) : x_M l yX1_turned cX1_turned 6 (some .int) 1 Y [.ref 10, .int (nI i), .int h, .int k, .int q] σ K := by
  refine x_start (by decide) (Nat.le_of_ble_eq_true rfl) ?_
  intro xp xe xs xm xg xb xt xc C xr xk
  refine x_iload_n C (i := 1) dX1_turned_0 rfl rfl ?_
  refine x_bipush C (nI 12) dX1_turned_1 rfl ?_
  refine x_imulN C dX1_turned_3 ?_
  refine x_istore C (i := 5) dX1_turned_4 (by decide) ?_
  refine x_iload_n C (i := 2) dX1_turned_6 rfl rfl ?_
  refine x_aload_n C (i := 0) dX1_turned_7 rfl rfl ?_
  refine x_getR C fr_10_2 kf_X1_18 dX1_turned_8 ?_
  refine x_iload C (i := 5) dX1_turned_11 rfl ?_
  refine x_ialdN C (by decide) rfl (by decide) dX1_turned_13 (by omega) ?_
  refine x_imul C dX1_turned_14 ?_
  refine x_iload_n C (i := 3) dX1_turned_15 rfl rfl ?_
  refine x_aload_n C (i := 0) dX1_turned_16 rfl rfl ?_
  refine x_getR C fr_10_2 kf_X1_18 dX1_turned_17 ?_
  refine x_iload C (i := 5) dX1_turned_20 rfl ?_
  refine x_iconst C (nI 3) dX1_turned_22 rfl ?_
  refine x_iaddN C dX1_turned_23 ?_
  refine x_ialdN C (by decide) rfl (by decide) dX1_turned_24 (by omega) ?_
  refine x_imul C dX1_turned_25 ?_
  refine x_iadd C dX1_turned_26 ?_
  refine x_iload C (i := 4) dX1_turned_27 rfl ?_
  refine x_aload_n C (i := 0) dX1_turned_29 rfl rfl ?_
  refine x_getR C fr_10_2 kf_X1_18 dX1_turned_30 ?_
  refine x_iload C (i := 5) dX1_turned_33 rfl ?_
  refine x_bipush C (nI 6) dX1_turned_35 rfl ?_
  refine x_iaddN C dX1_turned_37 ?_
  refine x_ialdN C (by decide) rfl (by decide) dX1_turned_38 (by omega) ?_
  refine x_imul C dX1_turned_39 ?_
  refine x_iadd C dX1_turned_40 ?_
  refine x_iload_n C (i := 2) dX1_turned_41 rfl rfl ?_
  refine x_aload_n C (i := 0) dX1_turned_42 rfl rfl ?_
  refine x_getR C fr_10_2 kf_X1_18 dX1_turned_43 ?_
  refine x_iload C (i := 5) dX1_turned_46 rfl ?_
  refine x_iconst C (nI 1) dX1_turned_48 rfl ?_
  refine x_iaddN C dX1_turned_49 ?_
  refine x_ialdN C (by decide) rfl (by decide) dX1_turned_50 (by omega) ?_
  refine x_imul C dX1_turned_51 ?_
  refine x_iload_n C (i := 3) dX1_turned_52 rfl rfl ?_
  refine x_aload_n C (i := 0) dX1_turned_53 rfl rfl ?_
  refine x_getR C fr_10_2 kf_X1_18 dX1_turned_54 ?_
  refine x_iload C (i := 5) dX1_turned_57 rfl ?_
  refine x_iconst C (nI 4) dX1_turned_59 rfl ?_
  refine x_iaddN C dX1_turned_60 ?_
  refine x_ialdN C (by decide) rfl (by decide) dX1_turned_61 (by omega) ?_
  refine x_imul C dX1_turned_62 ?_
  refine x_iadd C dX1_turned_63 ?_
  refine x_iload C (i := 4) dX1_turned_64 rfl ?_
  refine x_aload_n C (i := 0) dX1_turned_66 rfl rfl ?_
  refine x_getR C fr_10_2 kf_X1_18 dX1_turned_67 ?_
  refine x_iload C (i := 5) dX1_turned_70 rfl ?_
  refine x_bipush C (nI 7) dX1_turned_72 rfl ?_
  refine x_iaddN C dX1_turned_74 ?_
  refine x_ialdN C (by decide) rfl (by decide) dX1_turned_75 (by omega) ?_
  refine x_imul C dX1_turned_76 ?_
  refine x_iadd C dX1_turned_77 ?_
  refine x_iload_n C (i := 2) dX1_turned_78 rfl rfl ?_
  refine x_aload_n C (i := 0) dX1_turned_79 rfl rfl ?_
  refine x_getR C fr_10_2 kf_X1_18 dX1_turned_80 ?_
  refine x_iload C (i := 5) dX1_turned_83 rfl ?_
  refine x_iconst C (nI 2) dX1_turned_85 rfl ?_
  refine x_iaddN C dX1_turned_86 ?_
  refine x_ialdN C (by decide) rfl (by decide) dX1_turned_87 (by omega) ?_
  refine x_imul C dX1_turned_88 ?_
  refine x_iload_n C (i := 3) dX1_turned_89 rfl rfl ?_
  refine x_aload_n C (i := 0) dX1_turned_90 rfl rfl ?_
  refine x_getR C fr_10_2 kf_X1_18 dX1_turned_91 ?_
  refine x_iload C (i := 5) dX1_turned_94 rfl ?_
  refine x_iconst C (nI 5) dX1_turned_96 rfl ?_
  refine x_iaddN C dX1_turned_97 ?_
  refine x_ialdN C (by decide) rfl (by decide) dX1_turned_98 (by omega) ?_
  refine x_imul C dX1_turned_99 ?_
  refine x_iadd C dX1_turned_100 ?_
  refine x_iload C (i := 4) dX1_turned_101 rfl ?_
  refine x_aload_n C (i := 0) dX1_turned_103 rfl rfl ?_
  refine x_getR C fr_10_2 kf_X1_18 dX1_turned_104 ?_
  refine x_iload C (i := 5) dX1_turned_107 rfl ?_
  refine x_bipush C (nI 8) dX1_turned_109 rfl ?_
  refine x_iaddN C dX1_turned_111 ?_
  refine x_ialdN C (by decide) rfl (by decide) dX1_turned_112 (by omega) ?_
  refine x_imul C dX1_turned_113 ?_
  refine x_iadd C dX1_turned_114 ?_
  have hM := c_X3_pack l Y σ (((h * (σ.1 13 (i * 12))) + (k * (σ.1 13 ((i * 12) + 3)))) + (q * (σ.1 13 ((i * 12) + 6)))) (((h * (σ.1 13 ((i * 12) + 1))) + (k * (σ.1 13 ((i * 12) + 4)))) + (q * (σ.1 13 ((i * 12) + 7)))) (((h * (σ.1 13 ((i * 12) + 2))) + (k * (σ.1 13 ((i * 12) + 5)))) + (q * (σ.1 13 ((i * 12) + 8))))
  refine x_callS C (as := [.int (((h * (σ.1 13 (i * 12))) + (k * (σ.1 13 ((i * 12) + 3)))) + (q * (σ.1 13 ((i * 12) + 6)))), .int (((h * (σ.1 13 ((i * 12) + 1))) + (k * (σ.1 13 ((i * 12) + 4)))) + (q * (σ.1 13 ((i * 12) + 7)))), .int (((h * (σ.1 13 ((i * 12) + 2))) + (k * (σ.1 13 ((i * 12) + 5)))) + (q * (σ.1 13 ((i * 12) + 8))))]) (st := []) (hM) kb_X3_pack ks_X1_74 dX1_turned_115 rfl rfl (Nat.le_of_ble_eq_true rfl) ⟨by decide, by decide⟩ ⟨by decide, by decide⟩ ?_
  clear hM
  intro r9 τ9 h9
  obtain ⟨rfl, h8⟩ := h9
  rw [h8]
  clear h8 τ9
  refine x_iret C xr xk dX1_turned_118 ?_
  exact hK _ _ ⟨rfl, rfl⟩
theorem c_X1_turned (l : Launch) (Y : x_Y) (σ : x_S) (i : Nat) (h k q : Int32) (hi : i < 192) : x_M l yX1_turned cX1_turned 6 (some .int) 1 Y [.ref 10, .int (nI i), .int h, .int k, .int q] σ (fun r τ => r = some (.int (z_tu (σ.1 13) h k q i)) ∧ τ = σ) := c_X1_turned_K l Y σ i h k q hi _ (fun _ _ h => h)
set_option maxRecDepth 100000 in
set_option maxHeartbeats 200000 in
theorem c_X1_greatestOf_K (l : Launch) (Y : x_Y) (σ : x_S) (h k q : Int32) (c : Nat) (hc : σ.1 10 4 = nI c) (hc9 : c ≤ 192) (K : Option Value → x_S → Prop) (hK : ∀ (r : Option Value) (τ : x_S), (r = some (.int (z_gof (σ.1 13) h k q c)) ∧ τ = σ) → K r τ) : x_M l yX1_greatestOf cX1_greatestOf 7 (some .int) 2 Y [.ref 10, .int h, .int k, .int q] σ K := by
  refine x_start (by decide) (Nat.le_of_ble_eq_true rfl) ?_
  intro xp xe xs xm xg xb xt xc C xr xk
  refine x_iload_n C (i := 1) dX1_greatestOf_0 rfl rfl ?_
  refine x_iload_n C (i := 2) dX1_greatestOf_1 rfl rfl ?_
  refine x_iload_n C (i := 3) dX1_greatestOf_2 rfl rfl ?_
  have hM := c_X3_pack l Y σ h k q
  refine x_callS C (as := [.int h, .int k, .int q]) (st := []) (hM) kb_X3_pack ks_X1_74 dX1_greatestOf_3 rfl rfl (Nat.le_of_ble_eq_true rfl) ⟨by decide, by decide⟩ ⟨by decide, by decide⟩ ?_
  clear hM
  intro r9 τ9 h9
  obtain ⟨rfl, h8⟩ := h9
  rw [h8]
  clear h8 τ9
  refine x_istore C (i := 4) dX1_greatestOf_6 (by decide) ?_
  refine x_iconst C (nI 0) dX1_greatestOf_8 rfl ?_
  refine x_istore C (i := 5) dX1_greatestOf_9 (by decide) ?_
  have lp11 : ∀ (m11 : Nat) (i : Nat), (c - i) = m11 → (i ≤ c) → ∀ L : x_Lo, L.1 0 = some (.ref 10) → L.1 1 = some (.int h) → L.1 2 = some (.int k) → L.1 3 = some (.int q) → L.1 4 = some (.int (z_gof (σ.1 13) h k q i)) → L.1 5 = some (.int (nI i)) → x_W xp l xe (x_rm 2) xs xm xg xb xt xc 7 Y 0 0 (MQ xb (x_Q Y K) xg xs 0 0 (x_A Y)) 11 L [] σ := by
    intro m11
    induction m11 using Nat.strongRecOn with
    | _ m11 ih11 =>
      intro i hm11 hi L xl0 xl1 xl2 xl3 xl4 xl5
      refine x_iload C (i := 5) dX1_greatestOf_11 xl5 ?_
      refine x_aload_n C (i := 0) dX1_greatestOf_13 rfl xl0 ?_
      refine x_getI C fi_10_4 kf_X1_33 dX1_greatestOf_14 ?_
      refine x_topI (y := nI c) hc ?_
      refine x_icmp_geN C 54 dX1_greatestOf_17 (by decide) (by omega) (by omega) (fun c17 => ?_) (fun c17 => ?_)
      · skip
        have c17' := Nat.not_lt.mpr c17
        obtain rfl : c = i := by omega
        refine x_iload C (i := 4) dX1_greatestOf_54 xl4 ?_
        refine x_iret C xr xk dX1_greatestOf_56 ?_
        exact hK _ _ ⟨rfl, rfl⟩
      · skip
        have c17' := Nat.not_le.mpr c17
        refine x_aload_n C (i := 0) dX1_greatestOf_20 rfl xl0 ?_
        refine x_iload C (i := 5) dX1_greatestOf_21 xl5 ?_
        refine x_iload_n C (i := 1) dX1_greatestOf_23 rfl xl1 ?_
        refine x_iload_n C (i := 2) dX1_greatestOf_24 rfl xl2 ?_
        refine x_iload_n C (i := 3) dX1_greatestOf_25 rfl xl3 ?_
        have hM := c_X1_turned l Y σ i h k q (by omega)
        refine x_callV C (as := [.int (nI i), .int h, .int k, .int q]) (st := []) (hM) kb_X1_turned kv_X1_80 dX1_greatestOf_26 rfl rfl (Nat.le_of_ble_eq_true rfl) ⟨by decide, by decide⟩ ⟨by decide, by decide⟩ ko_10 ?_
        clear hM
        intro r9 τ9 h9
        obtain ⟨rfl, h8⟩ := h9
        rw [h8]
        clear h8 τ9
        refine x_istore C (i := 6) dX1_greatestOf_29 (by decide) ?_
        refine x_iload C (i := 4) dX1_greatestOf_31 xl4 ?_
        refine x_iload C (i := 6) dX1_greatestOf_33 rfl ?_
        refine x_iload C (i := 6) dX1_greatestOf_35 rfl ?_
        have hM := c_X3_opposite l Y σ (z_tu (σ.1 13) h k q i)
        refine x_callS C (as := [.int (z_tu (σ.1 13) h k q i)]) (st := [.int (z_tu (σ.1 13) h k q i), .int (z_gof (σ.1 13) h k q i)]) (hM) kb_X3_opposite ks_X1_83 dX1_greatestOf_37 rfl rfl (Nat.le_of_ble_eq_true rfl) ⟨by decide, by decide⟩ ⟨by decide, by decide⟩ ?_
        clear hM
        intro r9 τ9 h9
        obtain ⟨rfl, h8⟩ := h9
        rw [h8]
        clear h8 τ9
        have hM := c_J9_max_7cf53 l Y σ (z_tu (σ.1 13) h k q i) (z_opp (z_tu (σ.1 13) h k q i))
        refine x_callS C (as := [.int (z_tu (σ.1 13) h k q i), .int (z_opp (z_tu (σ.1 13) h k q i))]) (st := [.int (z_gof (σ.1 13) h k q i)]) (hM) kb_J9_max_7cf53 ks_X1_86 dX1_greatestOf_40 rfl rfl (Nat.le_of_ble_eq_true rfl) ⟨by decide, by decide⟩ ⟨by decide, by decide⟩ ?_
        clear hM
        intro r9 τ9 h9
        obtain ⟨rfl, h8⟩ := h9
        rw [h8]
        clear h8 τ9
        have hM := c_J9_max_7cf53 l Y σ (z_gof (σ.1 13) h k q i) (z_mx (z_tu (σ.1 13) h k q i) (z_opp (z_tu (σ.1 13) h k q i)))
        refine x_callS C (as := [.int (z_gof (σ.1 13) h k q i), .int (z_mx (z_tu (σ.1 13) h k q i) (z_opp (z_tu (σ.1 13) h k q i)))]) (st := []) (hM) kb_J9_max_7cf53 ks_X1_86 dX1_greatestOf_43 rfl rfl (Nat.le_of_ble_eq_true rfl) ⟨by decide, by decide⟩ ⟨by decide, by decide⟩ ?_
        clear hM
        intro r9 τ9 h9
        obtain ⟨rfl, h8⟩ := h9
        rw [h8]
        clear h8 τ9
        refine x_istore C (i := 4) dX1_greatestOf_46 (by decide) ?_
        refine x_iincN C (i := 5) (b := 1) dX1_greatestOf_48 xl5 rfl (by decide) ?_
        refine x_goto C 11 dX1_greatestOf_51 (by decide) ?_
        exact ih11 _ (by omega) (i + 1) rfl (by omega) _ xl0 xl1 xl2 xl3 rfl rfl
  exact lp11 _ 0 rfl (Nat.zero_le _) _ rfl rfl rfl rfl rfl rfl
theorem c_X1_greatestOf (l : Launch) (Y : x_Y) (σ : x_S) (h k q : Int32) (c : Nat) (hc : σ.1 10 4 = nI c) (hc9 : c ≤ 192) : x_M l yX1_greatestOf cX1_greatestOf 7 (some .int) 2 Y [.ref 10, .int h, .int k, .int q] σ (fun r τ => r = some (.int (z_gof (σ.1 13) h k q c)) ∧ τ = σ) := c_X1_greatestOf_K l Y σ h k q c hc hc9 _ (fun _ _ h => h)
set_option maxRecDepth 100000 in
set_option maxHeartbeats 200000 in
theorem c_X1_isGreatest_K (l : Launch) (Y : x_Y) (σ : x_S) (h k q : Int32) (c : Nat) (hc : σ.1 10 4 = nI c) (hc9 : c ≤ 192) (K : Option Value → x_S → Prop) (hK : ∀ (r : Option Value) (τ : x_S), (r = some (.int (x_z (z_isg (σ.1 13) c h k q))) ∧ τ = σ) → K r τ) : x_M l yX1_isGreatest cX1_isGreatest 7 (some .boolean) 2 Y [.ref 10, .int h, .int k, .int q] σ K := by
  refine x_start (by decide) (Nat.le_of_ble_eq_true rfl) ?_
  intro xp xe xs xm xg xb xt xc C xr xk
  refine x_iload_n C (i := 1) dX1_isGreatest_0 rfl rfl ?_
  refine x_iload_n C (i := 2) dX1_isGreatest_1 rfl rfl ?_
  refine x_iload_n C (i := 3) dX1_isGreatest_2 rfl rfl ?_
  have hM := c_X3_pack l Y σ h k q
  refine x_callS C (as := [.int h, .int k, .int q]) (st := []) (hM) kb_X3_pack ks_X1_74 dX1_isGreatest_3 rfl rfl (Nat.le_of_ble_eq_true rfl) ⟨by decide, by decide⟩ ⟨by decide, by decide⟩ ?_
  clear hM
  intro r9 τ9 h9
  obtain ⟨rfl, h8⟩ := h9
  rw [h8]
  clear h8 τ9
  refine x_istore C (i := 4) dX1_isGreatest_6 (by decide) ?_
  refine x_iconst C (nI 0) dX1_isGreatest_8 rfl ?_
  refine x_istore C (i := 5) dX1_isGreatest_9 (by decide) ?_
  have lp11 : ∀ (m11 : Nat) (i : Nat), (c - i) = m11 → (i ≤ c) → ((!x_anyf (z_ig1 (σ.1 13) h k q) (c - i) i) = z_isg (σ.1 13) c h k q) → ∀ L : x_Lo, L.1 0 = some (.ref 10) → L.1 1 = some (.int h) → L.1 2 = some (.int k) → L.1 3 = some (.int q) → L.1 4 = some (.int (z_pack h k q)) → L.1 5 = some (.int (nI i)) → x_W xp l xe (x_rm 2) xs xm xg xb xt xc 7 Y 0 0 (MQ xb (x_Q Y K) xg xs 0 0 (x_A Y)) 11 L [] σ := by
    intro m11
    induction m11 using Nat.strongRecOn with
    | _ m11 ih11 =>
      intro i hm11 hi hR L xl0 xl1 xl2 xl3 xl4 xl5
      refine x_iload C (i := 5) dX1_isGreatest_11 xl5 ?_
      refine x_aload_n C (i := 0) dX1_isGreatest_13 rfl xl0 ?_
      refine x_getI C fi_10_4 kf_X1_33 dX1_isGreatest_14 ?_
      refine x_topI (y := nI c) hc ?_
      refine x_icmp_geN C 56 dX1_isGreatest_17 (by decide) (by omega) (by omega) (fun c17 => ?_) (fun c17 => ?_)
      · skip
        have c17' := Nat.not_lt.mpr c17
        refine x_iconst C (nI 1) dX1_isGreatest_56 rfl ?_
        refine x_zret C xr xk dX1_isGreatest_57 rfl ?_
        exact hK _ _ ⟨by rw [← hR, x_anyf_e _ (by omega)]; rfl, rfl⟩
      · skip
        have c17' := Nat.not_le.mpr c17
        refine x_aload_n C (i := 0) dX1_isGreatest_20 rfl xl0 ?_
        refine x_iload C (i := 5) dX1_isGreatest_21 xl5 ?_
        refine x_iload_n C (i := 1) dX1_isGreatest_23 rfl xl1 ?_
        refine x_iload_n C (i := 2) dX1_isGreatest_24 rfl xl2 ?_
        refine x_iload_n C (i := 3) dX1_isGreatest_25 rfl xl3 ?_
        have hM := c_X1_turned l Y σ i h k q (by omega)
        refine x_callV C (as := [.int (nI i), .int h, .int k, .int q]) (st := []) (hM) kb_X1_turned kv_X1_80 dX1_isGreatest_26 rfl rfl (Nat.le_of_ble_eq_true rfl) ⟨by decide, by decide⟩ ⟨by decide, by decide⟩ ko_10 ?_
        clear hM
        intro r9 τ9 h9
        obtain ⟨rfl, h8⟩ := h9
        rw [h8]
        clear h8 τ9
        refine x_istore C (i := 6) dX1_isGreatest_29 (by decide) ?_
        refine x_iload C (i := 6) dX1_isGreatest_31 rfl ?_
        refine x_iload C (i := 4) dX1_isGreatest_33 xl4 ?_
        refine x_jcmp_gt C 48 dX1_isGreatest_35 (by decide) (fun c35 => ?_) (fun c35 => ?_)
        · skip
          have c35' := Int32.not_le.mpr c35
          have hig : z_ig1 (σ.1 13) h k q i = true := z_igt (Or.inl c35)
          refine x_iconst C (nI 0) dX1_isGreatest_48 rfl ?_
          refine x_zret C xr xk dX1_isGreatest_49 rfl ?_
          exact hK _ _ ⟨by rw [← hR, x_anyf_s _ (by omega : i < c), hig]; rfl, rfl⟩
        · skip
          have c35' := Int32.not_lt.mpr c35
          refine x_iload C (i := 6) dX1_isGreatest_38 rfl ?_
          have hM := c_X3_opposite l Y σ (z_tu (σ.1 13) h k q i)
          refine x_callS C (as := [.int (z_tu (σ.1 13) h k q i)]) (st := []) (hM) kb_X3_opposite ks_X1_83 dX1_isGreatest_40 rfl rfl (Nat.le_of_ble_eq_true rfl) ⟨by decide, by decide⟩ ⟨by decide, by decide⟩ ?_
          clear hM
          intro r9 τ9 h9
          obtain ⟨rfl, h8⟩ := h9
          rw [h8]
          clear h8 τ9
          refine x_iload C (i := 4) dX1_isGreatest_43 xl4 ?_
          refine x_jcmp_le C 50 dX1_isGreatest_45 (by decide) (fun c45 => ?_) (fun c45 => ?_)
          · skip
            have c45' := Int32.not_lt.mpr c45
            have hig : z_ig1 (σ.1 13) h k q i = false := z_igf c35' c45'
            refine x_iincN C (i := 5) (b := 1) dX1_isGreatest_50 xl5 rfl (by decide) ?_
            refine x_goto C 11 dX1_isGreatest_53 (by decide) ?_
            exact ih11 _ (by omega) (i + 1) rfl (by omega) (by rw [← hR, x_anyf_s _ (by omega : i < c), hig]; rfl) _ xl0 xl1 xl2 xl3 xl4 rfl
          · skip
            have c45' := Int32.not_le.mpr c45
            have hig : z_ig1 (σ.1 13) h k q i = true := z_igt (Or.inr c45)
            refine x_iconst C (nI 0) dX1_isGreatest_48 rfl ?_
            refine x_zret C xr xk dX1_isGreatest_49 rfl ?_
            exact hK _ _ ⟨by rw [← hR, x_anyf_s _ (by omega : i < c), hig]; rfl, rfl⟩
  exact lp11 _ 0 rfl (Nat.zero_le _) rfl _ rfl rfl rfl rfl rfl rfl
theorem c_X1_isGreatest (l : Launch) (Y : x_Y) (σ : x_S) (h k q : Int32) (c : Nat) (hc : σ.1 10 4 = nI c) (hc9 : c ≤ 192) : x_M l yX1_isGreatest cX1_isGreatest 7 (some .boolean) 2 Y [.ref 10, .int h, .int k, .int q] σ (fun r τ => r = some (.int (x_z (z_isg (σ.1 13) c h k q))) ∧ τ = σ) := c_X1_isGreatest_K l Y σ h k q c hc hc9 _ (fun _ _ h => h)
set_option maxRecDepth 100000 in
set_option maxHeartbeats 200000 in
theorem c_X1_multiplicity_K (l : Launch) (Y : x_Y) (σ : x_S) (h k q : Int32) (c : Nat) (hc : σ.1 10 4 = nI c) (hc9 : c ≤ 192) (K : Option Value → x_S → Prop) (hK : ∀ (r : Option Value) (τ : x_S), (r = some (.int (nI (z_mul (σ.1 13) c h k q))) ∧ τ = σ) → K r τ) : x_M l yX1_multiplicity cX1_multiplicity 8 (some .int) 2 Y [.ref 10, .int h, .int k, .int q] σ K := by
  refine x_start (by decide) (Nat.le_of_ble_eq_true rfl) ?_
  intro xp xe xs xm xg xb xt xc C xr xk
  refine x_iload_n C (i := 1) dX1_multiplicity_0 rfl rfl ?_
  refine x_iload_n C (i := 2) dX1_multiplicity_1 rfl rfl ?_
  refine x_iload_n C (i := 3) dX1_multiplicity_2 rfl rfl ?_
  have hM := c_X3_pack l Y σ h k q
  refine x_callS C (as := [.int h, .int k, .int q]) (st := []) (hM) kb_X3_pack ks_X1_74 dX1_multiplicity_3 rfl rfl (Nat.le_of_ble_eq_true rfl) ⟨by decide, by decide⟩ ⟨by decide, by decide⟩ ?_
  clear hM
  intro r9 τ9 h9
  obtain ⟨rfl, h8⟩ := h9
  rw [h8]
  clear h8 τ9
  refine x_istore C (i := 4) dX1_multiplicity_6 (by decide) ?_
  refine x_iconst C (nI 0) dX1_multiplicity_8 rfl ?_
  refine x_topI (y := nI (z_st (σ.1 13) h k q 0)) rfl ?_
  refine x_istore C (i := 5) dX1_multiplicity_9 (by decide) ?_
  refine x_iconst C (nI 0) dX1_multiplicity_11 rfl ?_
  refine x_istore C (i := 6) dX1_multiplicity_12 (by decide) ?_
  have lp14 : ∀ (m14 : Nat) (i : Nat), (c - i) = m14 → (i ≤ c) → ∀ L : x_Lo, L.1 0 = some (.ref 10) → L.1 1 = some (.int h) → L.1 2 = some (.int k) → L.1 3 = some (.int q) → L.1 4 = some (.int (z_pack h k q)) → L.1 5 = some (.int (nI (z_st (σ.1 13) h k q i))) → L.1 6 = some (.int (nI i)) → x_W xp l xe (x_rm 2) xs xm xg xb xt xc 8 Y 0 0 (MQ xb (x_Q Y K) xg xs 0 0 (x_A Y)) 14 L [] σ := by
    intro m14
    induction m14 using Nat.strongRecOn with
    | _ m14 ih14 =>
      intro i hm14 hi L xl0 xl1 xl2 xl3 xl4 xl5 xl6
      refine x_iload C (i := 6) dX1_multiplicity_14 xl6 ?_
      refine x_aload_n C (i := 0) dX1_multiplicity_16 rfl xl0 ?_
      refine x_getI C fi_10_4 kf_X1_33 dX1_multiplicity_17 ?_
      refine x_topI (y := nI c) hc ?_
      refine x_icmp_geN C 77 dX1_multiplicity_20 (by decide) (by omega) (by omega) (fun c20 => ?_) (fun c20 => ?_)
      · skip
        have c20' := Nat.not_lt.mpr c20
        obtain rfl : c = i := by omega
        refine x_iload C (i := 5) dX1_multiplicity_77 xl5 ?_
        have hs9 := z_st_le (σ.1 13) h k q c
        refine x_if_neN C 86 dX1_multiplicity_79 (by decide) (by omega) (fun c79 => ?_) (fun c79 => ?_)
        · skip
          refine x_iconst C (nI 2) dX1_multiplicity_86 rfl ?_
          refine x_aload_n C (i := 0) dX1_multiplicity_87 rfl xl0 ?_
          refine x_getI C fi_10_4 kf_X1_33 dX1_multiplicity_88 ?_
          refine x_topI (y := nI c) hc ?_
          refine x_imulN C dX1_multiplicity_91 ?_
          refine x_iload C (i := 5) dX1_multiplicity_92 xl5 ?_
          refine x_idivN C dX1_multiplicity_94 (by omega) (by omega) (by omega) ?_
          refine x_iret C xr xk dX1_multiplicity_95 ?_
          exact hK _ _ ⟨by unfold z_mul; first | rw [if_pos c79] | rw [if_neg c79], rfl⟩
        · skip
          refine x_iconst C (nI 0) dX1_multiplicity_82 rfl ?_
          refine x_goto C 95 dX1_multiplicity_83 (by decide) ?_
          refine x_iret C xr xk dX1_multiplicity_95 ?_
          exact hK _ _ ⟨by unfold z_mul; first | rw [if_pos c79] | rw [if_neg c79], rfl⟩
      · skip
        have c20' := Nat.not_le.mpr c20
        refine x_aload_n C (i := 0) dX1_multiplicity_23 rfl xl0 ?_
        refine x_iload C (i := 6) dX1_multiplicity_24 xl6 ?_
        refine x_iload_n C (i := 1) dX1_multiplicity_26 rfl xl1 ?_
        refine x_iload_n C (i := 2) dX1_multiplicity_27 rfl xl2 ?_
        refine x_iload_n C (i := 3) dX1_multiplicity_28 rfl xl3 ?_
        have hM := c_X1_turned l Y σ i h k q (by omega)
        refine x_callV C (as := [.int (nI i), .int h, .int k, .int q]) (st := []) (hM) kb_X1_turned kv_X1_80 dX1_multiplicity_29 rfl rfl (Nat.le_of_ble_eq_true rfl) ⟨by decide, by decide⟩ ⟨by decide, by decide⟩ ko_10 ?_
        clear hM
        intro r9 τ9 h9
        obtain ⟨rfl, h8⟩ := h9
        rw [h8]
        clear h8 τ9
        refine x_istore C (i := 7) dX1_multiplicity_32 (by decide) ?_
        refine x_iload C (i := 5) dX1_multiplicity_34 xl5 ?_
        refine x_iload C (i := 7) dX1_multiplicity_36 rfl ?_
        refine x_iload C (i := 4) dX1_multiplicity_38 xl4 ?_
        refine x_icmp_ne C 47 dX1_multiplicity_40 (by decide) (fun c40 => ?_) (fun c40 => ?_)
        · skip
          refine x_iconst C (nI 0) dX1_multiplicity_47 rfl ?_
          refine x_iaddN C dX1_multiplicity_48 ?_
          refine x_istore C (i := 5) dX1_multiplicity_49 (by decide) ?_
          refine x_iload C (i := 5) dX1_multiplicity_51 rfl ?_
          refine x_iload C (i := 7) dX1_multiplicity_53 rfl ?_
          have hM := c_X3_opposite l Y σ (z_tu (σ.1 13) h k q i)
          refine x_callS C (as := [.int (z_tu (σ.1 13) h k q i)]) (st := [.int (nI ((z_st (σ.1 13) h k q i) + 0))]) (hM) kb_X3_opposite ks_X1_83 dX1_multiplicity_55 rfl rfl (Nat.le_of_ble_eq_true rfl) ⟨by decide, by decide⟩ ⟨by decide, by decide⟩ ?_
          clear hM
          intro r9 τ9 h9
          obtain ⟨rfl, h8⟩ := h9
          rw [h8]
          clear h8 τ9
          refine x_iload C (i := 4) dX1_multiplicity_58 xl4 ?_
          refine x_icmp_ne C 67 dX1_multiplicity_60 (by decide) (fun c60 => ?_) (fun c60 => ?_)
          · skip
            refine x_iconst C (nI 0) dX1_multiplicity_67 rfl ?_
            refine x_iaddN C dX1_multiplicity_68 ?_
            refine x_topI (y := nI (z_st (σ.1 13) h k q (i + 1))) (congrArg nI (by rw [z_st_s]; first | rw [if_pos c40, if_pos c60] | rw [if_pos c40, if_neg c60] | rw [if_neg c40, if_pos c60] | rw [if_neg c40, if_neg c60])) ?_
            refine x_istore C (i := 5) dX1_multiplicity_69 (by decide) ?_
            refine x_iincN C (i := 6) (b := 1) dX1_multiplicity_71 xl6 rfl (by decide) ?_
            refine x_goto C 14 dX1_multiplicity_74 (by decide) ?_
            exact ih14 _ (by omega) (i + 1) rfl (by omega) _ xl0 xl1 xl2 xl3 xl4 rfl rfl
          · skip
            refine x_iconst C (nI 1) dX1_multiplicity_63 rfl ?_
            refine x_goto C 68 dX1_multiplicity_64 (by decide) ?_
            refine x_iaddN C dX1_multiplicity_68 ?_
            refine x_topI (y := nI (z_st (σ.1 13) h k q (i + 1))) (congrArg nI (by rw [z_st_s]; first | rw [if_pos c40, if_pos c60] | rw [if_pos c40, if_neg c60] | rw [if_neg c40, if_pos c60] | rw [if_neg c40, if_neg c60])) ?_
            refine x_istore C (i := 5) dX1_multiplicity_69 (by decide) ?_
            refine x_iincN C (i := 6) (b := 1) dX1_multiplicity_71 xl6 rfl (by decide) ?_
            refine x_goto C 14 dX1_multiplicity_74 (by decide) ?_
            exact ih14 _ (by omega) (i + 1) rfl (by omega) _ xl0 xl1 xl2 xl3 xl4 rfl rfl
        · skip
          refine x_iconst C (nI 1) dX1_multiplicity_43 rfl ?_
          refine x_goto C 48 dX1_multiplicity_44 (by decide) ?_
          refine x_iaddN C dX1_multiplicity_48 ?_
          refine x_istore C (i := 5) dX1_multiplicity_49 (by decide) ?_
          refine x_iload C (i := 5) dX1_multiplicity_51 rfl ?_
          refine x_iload C (i := 7) dX1_multiplicity_53 rfl ?_
          have hM := c_X3_opposite l Y σ (z_tu (σ.1 13) h k q i)
          refine x_callS C (as := [.int (z_tu (σ.1 13) h k q i)]) (st := [.int (nI ((z_st (σ.1 13) h k q i) + 1))]) (hM) kb_X3_opposite ks_X1_83 dX1_multiplicity_55 rfl rfl (Nat.le_of_ble_eq_true rfl) ⟨by decide, by decide⟩ ⟨by decide, by decide⟩ ?_
          clear hM
          intro r9 τ9 h9
          obtain ⟨rfl, h8⟩ := h9
          rw [h8]
          clear h8 τ9
          refine x_iload C (i := 4) dX1_multiplicity_58 xl4 ?_
          refine x_icmp_ne C 67 dX1_multiplicity_60 (by decide) (fun c60 => ?_) (fun c60 => ?_)
          · skip
            refine x_iconst C (nI 0) dX1_multiplicity_67 rfl ?_
            refine x_iaddN C dX1_multiplicity_68 ?_
            refine x_topI (y := nI (z_st (σ.1 13) h k q (i + 1))) (congrArg nI (by rw [z_st_s]; first | rw [if_pos c40, if_pos c60] | rw [if_pos c40, if_neg c60] | rw [if_neg c40, if_pos c60] | rw [if_neg c40, if_neg c60])) ?_
            refine x_istore C (i := 5) dX1_multiplicity_69 (by decide) ?_
            refine x_iincN C (i := 6) (b := 1) dX1_multiplicity_71 xl6 rfl (by decide) ?_
            refine x_goto C 14 dX1_multiplicity_74 (by decide) ?_
            exact ih14 _ (by omega) (i + 1) rfl (by omega) _ xl0 xl1 xl2 xl3 xl4 rfl rfl
          · skip
            refine x_iconst C (nI 1) dX1_multiplicity_63 rfl ?_
            refine x_goto C 68 dX1_multiplicity_64 (by decide) ?_
            refine x_iaddN C dX1_multiplicity_68 ?_
            refine x_topI (y := nI (z_st (σ.1 13) h k q (i + 1))) (congrArg nI (by rw [z_st_s]; first | rw [if_pos c40, if_pos c60] | rw [if_pos c40, if_neg c60] | rw [if_neg c40, if_pos c60] | rw [if_neg c40, if_neg c60])) ?_
            refine x_istore C (i := 5) dX1_multiplicity_69 (by decide) ?_
            refine x_iincN C (i := 6) (b := 1) dX1_multiplicity_71 xl6 rfl (by decide) ?_
            refine x_goto C 14 dX1_multiplicity_74 (by decide) ?_
            exact ih14 _ (by omega) (i + 1) rfl (by omega) _ xl0 xl1 xl2 xl3 xl4 rfl rfl
  exact lp14 _ 0 rfl (Nat.zero_le _) _ rfl rfl rfl rfl rfl rfl rfl
theorem c_X1_multiplicity (l : Launch) (Y : x_Y) (σ : x_S) (h k q : Int32) (c : Nat) (hc : σ.1 10 4 = nI c) (hc9 : c ≤ 192) : x_M l yX1_multiplicity cX1_multiplicity 8 (some .int) 2 Y [.ref 10, .int h, .int k, .int q] σ (fun r τ => r = some (.int (nI (z_mul (σ.1 13) c h k q))) ∧ τ = σ) := c_X1_multiplicity_K l Y σ h k q c hc hc9 _ (fun _ _ h => h)
set_option maxRecDepth 100000 in
set_option maxHeartbeats 200000 in
theorem c_X1_hasTurnOfTrace_K (l : Launch) (Y : x_Y) (σ : x_S) (q : Int32) (c : Nat) (hc : σ.1 10 4 = nI c) (hc9 : c ≤ 192) (K : Option Value → x_S → Prop) (hK : ∀ (r : Option Value) (τ : x_S), (r = some (.int (x_z (z_hast (σ.1 13) c q))) ∧ τ = σ) → K r τ) : x_M l yX1_hasTurnOfTrace cX1_hasTurnOfTrace 4 (some .boolean) 0 Y [.ref 10, .int q] σ K := by
  refine x_start (by decide) (Nat.le_of_ble_eq_true rfl) ?_
  intro xp xe xs xm xg xb xt xc C xr xk
  refine x_iconst C (nI 0) dX1_hasTurnOfTrace_0 rfl ?_
  refine x_istore_n C (i := 2) dX1_hasTurnOfTrace_1 rfl (by decide) ?_
  have lp2 : ∀ (m2 : Nat) (i : Nat), (c - i) = m2 → (i ≤ c) → (x_anyf (z_tr1 (σ.1 13) q) (c - i) i = z_hast (σ.1 13) c q) → ∀ L : x_Lo, L.1 0 = some (.ref 10) → L.1 1 = some (.int q) → L.1 2 = some (.int (nI i)) → x_W xp l xe (x_rm 0) xs xm xg xb xt xc 4 Y 0 0 (MQ xb (x_Q Y K) xg xs 0 0 (x_A Y)) 2 L [] σ := by
    intro m2
    induction m2 using Nat.strongRecOn with
    | _ m2 ih2 =>
      intro i hm2 hi hR L xl0 xl1 xl2
      refine x_iload_n C (i := 2) dX1_hasTurnOfTrace_2 rfl xl2 ?_
      refine x_aload_n C (i := 0) dX1_hasTurnOfTrace_3 rfl xl0 ?_
      refine x_getI C fi_10_4 kf_X1_33 dX1_hasTurnOfTrace_4 ?_
      refine x_topI (y := nI c) hc ?_
      refine x_icmp_geN C 52 dX1_hasTurnOfTrace_7 (by decide) (by omega) (by omega) (fun c7 => ?_) (fun c7 => ?_)
      · skip
        have c7' := Nat.not_lt.mpr c7
        refine x_iconst C (nI 0) dX1_hasTurnOfTrace_52 rfl ?_
        refine x_zret C xr xk dX1_hasTurnOfTrace_53 rfl ?_
        exact hK _ _ ⟨by rw [← hR, x_anyf_e _ (by omega)]; rfl, rfl⟩
      · skip
        have c7' := Nat.not_le.mpr c7
        refine x_iload_n C (i := 2) dX1_hasTurnOfTrace_10 rfl xl2 ?_
        refine x_bipush C (nI 12) dX1_hasTurnOfTrace_11 rfl ?_
        refine x_imulN C dX1_hasTurnOfTrace_13 ?_
        refine x_istore_n C (i := 3) dX1_hasTurnOfTrace_14 rfl (by decide) ?_
        refine x_aload_n C (i := 0) dX1_hasTurnOfTrace_15 rfl xl0 ?_
        refine x_getR C fr_10_2 kf_X1_18 dX1_hasTurnOfTrace_16 ?_
        refine x_iload_n C (i := 3) dX1_hasTurnOfTrace_19 rfl rfl ?_
        refine x_ialdN C (by decide) rfl (by decide) dX1_hasTurnOfTrace_20 (by omega) ?_
        refine x_aload_n C (i := 0) dX1_hasTurnOfTrace_21 rfl xl0 ?_
        refine x_getR C fr_10_2 kf_X1_18 dX1_hasTurnOfTrace_22 ?_
        refine x_iload_n C (i := 3) dX1_hasTurnOfTrace_25 rfl rfl ?_
        refine x_iconst C (nI 4) dX1_hasTurnOfTrace_26 rfl ?_
        refine x_iaddN C dX1_hasTurnOfTrace_27 ?_
        refine x_ialdN C (by decide) rfl (by decide) dX1_hasTurnOfTrace_28 (by omega) ?_
        refine x_iadd C dX1_hasTurnOfTrace_29 ?_
        refine x_aload_n C (i := 0) dX1_hasTurnOfTrace_30 rfl xl0 ?_
        refine x_getR C fr_10_2 kf_X1_18 dX1_hasTurnOfTrace_31 ?_
        refine x_iload_n C (i := 3) dX1_hasTurnOfTrace_34 rfl rfl ?_
        refine x_bipush C (nI 8) dX1_hasTurnOfTrace_35 rfl ?_
        refine x_iaddN C dX1_hasTurnOfTrace_37 ?_
        refine x_ialdN C (by decide) rfl (by decide) dX1_hasTurnOfTrace_38 (by omega) ?_
        refine x_iadd C dX1_hasTurnOfTrace_39 ?_
        refine x_iload_n C (i := 1) dX1_hasTurnOfTrace_40 rfl xl1 ?_
        refine x_icmp_ne C 46 dX1_hasTurnOfTrace_41 (by decide) (fun c41 => ?_) (fun c41 => ?_)
        · skip
          refine x_iincN C (i := 2) (b := 1) dX1_hasTurnOfTrace_46 xl2 rfl (by decide) ?_
          refine x_goto C 2 dX1_hasTurnOfTrace_49 (by decide) ?_
          exact ih2 _ (by omega) (i + 1) rfl (by omega) (by rw [← hR, x_anyf_s _ (by omega : i < c), show (z_tr1 (σ.1 13) q) i = false from decide_eq_false c41]; rfl) _ xl0 xl1 rfl
        · skip
          refine x_iconst C (nI 1) dX1_hasTurnOfTrace_44 rfl ?_
          refine x_zret C xr xk dX1_hasTurnOfTrace_45 rfl ?_
          exact hK _ _ ⟨by rw [← hR, x_anyf_s _ (by omega : i < c), show (z_tr1 (σ.1 13) q) i = true from decide_eq_true c41]; rfl, rfl⟩
  exact lp2 _ 0 rfl (Nat.zero_le _) rfl _ rfl rfl rfl
theorem c_X1_hasTurnOfTrace (l : Launch) (Y : x_Y) (σ : x_S) (q : Int32) (c : Nat) (hc : σ.1 10 4 = nI c) (hc9 : c ≤ 192) : x_M l yX1_hasTurnOfTrace cX1_hasTurnOfTrace 4 (some .boolean) 0 Y [.ref 10, .int q] σ (fun r τ => r = some (.int (x_z (z_hast (σ.1 13) c q))) ∧ τ = σ) := c_X1_hasTurnOfTrace_K l Y σ q c hc hc9 _ (fun _ _ h => h)
set_option maxRecDepth 100000 in
set_option maxHeartbeats 200000 in
theorem c_X1_laueClass_K (l : Launch) (Y : x_Y) (σ : x_S) (c : Nat) (hc : σ.1 10 4 = nI c) (hc9 : c ≤ 192) (K : Option Value → x_S → Prop) (hK : ∀ (r : Option Value) (τ : x_S), (r = some (.int (z_laue (σ.1 13) c)) ∧ τ = σ) → K r τ) : x_M l yX1_laueClass cX1_laueClass 1 (some .int) 1 Y [.ref 10] σ K := by
  refine x_start (by decide) (Nat.le_of_ble_eq_true rfl) ?_
  intro xp xe xs xm xg xb xt xc C xr xk
  refine x_aload_n C (i := 0) dX1_laueClass_0 rfl rfl ?_
  refine x_getI C fi_10_4 kf_X1_33 dX1_laueClass_1 ?_
  refine x_topI (y := nI c) hc ?_
  by_cases c4_1 : nI c = nI 1
  · skip
    refine x_topI c4_1 ?_
    refine x_tableIn C 116 dX1_laueClass_4 (by decide) (by decide) rfl (by decide) ?_
    refine x_iconst C (nI 0) dX1_laueClass_116 rfl ?_
    refine x_iret C xr xk dX1_laueClass_117 ?_
    exact hK _ _ ⟨by unfold z_laue; have e9 := (nI_eq (by omega) (by decide)).mp c4_1; subst e9; first | rfl | (rw [show z_hast (σ.1 13) 1 (nI 1) = true from c127]; rfl) | (rw [show z_hast (σ.1 13) 1 (nI 1) = false from c127]; rfl), rfl⟩
  by_cases c4_2 : nI c = nI 2
  · skip
    refine x_topI c4_2 ?_
    refine x_tableIn C 118 dX1_laueClass_4 (by decide) (by decide) rfl (by decide) ?_
    refine x_iconst C (nI 1) dX1_laueClass_118 rfl ?_
    refine x_iret C xr xk dX1_laueClass_119 ?_
    exact hK _ _ ⟨by unfold z_laue; have e9 := (nI_eq (by omega) (by decide)).mp c4_2; subst e9; first | rfl | (rw [show z_hast (σ.1 13) 2 (nI 1) = true from c127]; rfl) | (rw [show z_hast (σ.1 13) 2 (nI 1) = false from c127]; rfl), rfl⟩
  by_cases c4_3 : nI c = nI 3
  · skip
    refine x_topI c4_3 ?_
    refine x_tableIn C 120 dX1_laueClass_4 (by decide) (by decide) rfl (by decide) ?_
    refine x_iconst C (nI 5) dX1_laueClass_120 rfl ?_
    refine x_iret C xr xk dX1_laueClass_121 ?_
    exact hK _ _ ⟨by unfold z_laue; have e9 := (nI_eq (by omega) (by decide)).mp c4_3; subst e9; first | rfl | (rw [show z_hast (σ.1 13) 3 (nI 1) = true from c127]; rfl) | (rw [show z_hast (σ.1 13) 3 (nI 1) = false from c127]; rfl), rfl⟩
  by_cases c4_4 : nI c = nI 4
  · skip
    refine x_topI c4_4 ?_
    refine x_tableIn C 122 dX1_laueClass_4 (by decide) (by decide) rfl (by decide) ?_
    refine x_aload_n C (i := 0) dX1_laueClass_122 rfl rfl ?_
    refine x_iconst C (nI 1) dX1_laueClass_123 rfl ?_
    have hM := c_X1_hasTurnOfTrace l Y σ (nI 1) c hc hc9
    refine x_callV C (as := [.int (nI 1)]) (st := []) (hM) kb_X1_hasTurnOfTrace kv_X1_55 dX1_laueClass_124 rfl rfl (Nat.le_of_ble_eq_true rfl) ⟨by decide, by decide⟩ ⟨by decide, by decide⟩ ko_10 ?_
    clear hM
    intro r9 τ9 h9
    obtain ⟨rfl, h8⟩ := h9
    rw [h8]
    clear h8 τ9
    refine x_if_eqZ C 134 dX1_laueClass_127 (by decide) (fun c127 => ?_) (fun c127 => ?_)
    · skip
      refine x_iconst C (nI 2) dX1_laueClass_134 rfl ?_
      refine x_iret C xr xk dX1_laueClass_135 ?_
      exact hK _ _ ⟨by unfold z_laue; have e9 := (nI_eq (by omega) (by decide)).mp c4_4; subst e9; first | rfl | (rw [show z_hast (σ.1 13) 4 (nI 1) = true from c127]; rfl) | (rw [show z_hast (σ.1 13) 4 (nI 1) = false from c127]; rfl), rfl⟩
    · skip
      refine x_iconst C (nI 3) dX1_laueClass_130 rfl ?_
      refine x_goto C 135 dX1_laueClass_131 (by decide) ?_
      refine x_iret C xr xk dX1_laueClass_135 ?_
      exact hK _ _ ⟨by unfold z_laue; have e9 := (nI_eq (by omega) (by decide)).mp c4_4; subst e9; first | rfl | (rw [show z_hast (σ.1 13) 4 (nI 1) = true from c127]; rfl) | (rw [show z_hast (σ.1 13) 4 (nI 1) = false from c127]; rfl), rfl⟩
  by_cases c4_6 : nI c = nI 6
  · skip
    refine x_topI c4_6 ?_
    refine x_tableIn C 136 dX1_laueClass_4 (by decide) (by decide) rfl (by decide) ?_
    refine x_aload_n C (i := 0) dX1_laueClass_136 rfl rfl ?_
    refine x_iconst C (nI 2) dX1_laueClass_137 rfl ?_
    have hM := c_X1_hasTurnOfTrace l Y σ (nI 2) c hc hc9
    refine x_callV C (as := [.int (nI 2)]) (st := []) (hM) kb_X1_hasTurnOfTrace kv_X1_55 dX1_laueClass_138 rfl rfl (Nat.le_of_ble_eq_true rfl) ⟨by decide, by decide⟩ ⟨by decide, by decide⟩ ko_10 ?_
    clear hM
    intro r9 τ9 h9
    obtain ⟨rfl, h8⟩ := h9
    rw [h8]
    clear h8 τ9
    refine x_if_eqZ C 149 dX1_laueClass_141 (by decide) (fun c141 => ?_) (fun c141 => ?_)
    · skip
      refine x_bipush C (nI 6) dX1_laueClass_149 rfl ?_
      refine x_iret C xr xk dX1_laueClass_151 ?_
      exact hK _ _ ⟨by unfold z_laue; have e9 := (nI_eq (by omega) (by decide)).mp c4_6; subst e9; first | rfl | (rw [show z_hast (σ.1 13) 6 (nI 2) = true from c141]; rfl) | (rw [show z_hast (σ.1 13) 6 (nI 2) = false from c141]; rfl), rfl⟩
    · skip
      refine x_bipush C (nI 7) dX1_laueClass_144 rfl ?_
      refine x_goto C 151 dX1_laueClass_146 (by decide) ?_
      refine x_iret C xr xk dX1_laueClass_151 ?_
      exact hK _ _ ⟨by unfold z_laue; have e9 := (nI_eq (by omega) (by decide)).mp c4_6; subst e9; first | rfl | (rw [show z_hast (σ.1 13) 6 (nI 2) = true from c141]; rfl) | (rw [show z_hast (σ.1 13) 6 (nI 2) = false from c141]; rfl), rfl⟩
  by_cases c4_8 : nI c = nI 8
  · skip
    refine x_topI c4_8 ?_
    refine x_tableIn C 152 dX1_laueClass_4 (by decide) (by decide) rfl (by decide) ?_
    refine x_iconst C (nI 4) dX1_laueClass_152 rfl ?_
    refine x_iret C xr xk dX1_laueClass_153 ?_
    exact hK _ _ ⟨by unfold z_laue; have e9 := (nI_eq (by omega) (by decide)).mp c4_8; subst e9; first | rfl | (rw [show z_hast (σ.1 13) 8 (nI 1) = true from c127]; rfl) | (rw [show z_hast (σ.1 13) 8 (nI 1) = false from c127]; rfl), rfl⟩
  by_cases c4_12 : nI c = nI 12
  · skip
    refine x_topI c4_12 ?_
    refine x_tableIn C 154 dX1_laueClass_4 (by decide) (by decide) rfl (by decide) ?_
    refine x_aload_n C (i := 0) dX1_laueClass_154 rfl rfl ?_
    refine x_iconst C (nI 2) dX1_laueClass_155 rfl ?_
    have hM := c_X1_hasTurnOfTrace l Y σ (nI 2) c hc hc9
    refine x_callV C (as := [.int (nI 2)]) (st := []) (hM) kb_X1_hasTurnOfTrace kv_X1_55 dX1_laueClass_156 rfl rfl (Nat.le_of_ble_eq_true rfl) ⟨by decide, by decide⟩ ⟨by decide, by decide⟩ ko_10 ?_
    clear hM
    intro r9 τ9 h9
    obtain ⟨rfl, h8⟩ := h9
    rw [h8]
    clear h8 τ9
    refine x_if_eqZ C 167 dX1_laueClass_159 (by decide) (fun c159 => ?_) (fun c159 => ?_)
    · skip
      refine x_bipush C (nI 9) dX1_laueClass_167 rfl ?_
      refine x_iret C xr xk dX1_laueClass_169 ?_
      exact hK _ _ ⟨by unfold z_laue; have e9 := (nI_eq (by omega) (by decide)).mp c4_12; subst e9; first | rfl | (rw [show z_hast (σ.1 13) 12 (nI 2) = true from c159]; rfl) | (rw [show z_hast (σ.1 13) 12 (nI 2) = false from c159]; rfl), rfl⟩
    · skip
      refine x_bipush C (nI 8) dX1_laueClass_162 rfl ?_
      refine x_goto C 169 dX1_laueClass_164 (by decide) ?_
      refine x_iret C xr xk dX1_laueClass_169 ?_
      exact hK _ _ ⟨by unfold z_laue; have e9 := (nI_eq (by omega) (by decide)).mp c4_12; subst e9; first | rfl | (rw [show z_hast (σ.1 13) 12 (nI 2) = true from c159]; rfl) | (rw [show z_hast (σ.1 13) 12 (nI 2) = false from c159]; rfl), rfl⟩
  by_cases c4_24 : nI c = nI 24
  · skip
    refine x_topI c4_24 ?_
    refine x_tableIn C 170 dX1_laueClass_4 (by decide) (by decide) rfl (by decide) ?_
    refine x_bipush C (nI 10) dX1_laueClass_170 rfl ?_
    refine x_iret C xr xk dX1_laueClass_172 ?_
    exact hK _ _ ⟨by unfold z_laue; have e9 := (nI_eq (by omega) (by decide)).mp c4_24; subst e9; first | rfl | (rw [show z_hast (σ.1 13) 24 (nI 1) = true from c127]; rfl) | (rw [show z_hast (σ.1 13) 24 (nI 1) = false from c127]; rfl), rfl⟩
  refine x_tdef C 173 dX1_laueClass_4 (fun k9 hk9 hx9 => ?_) (by decide) ?_
  · have hk8 : k9 = 0 ∨ k9 = 1 ∨ k9 = 2 ∨ k9 = 3 ∨ k9 = 4 ∨ k9 = 5 ∨ k9 = 6 ∨ k9 = 7 ∨ k9 = 8 ∨ k9 = 9 ∨ k9 = 10 ∨ k9 = 11 ∨ k9 = 12 ∨ k9 = 13 ∨ k9 = 14 ∨ k9 = 15 ∨ k9 = 16 ∨ k9 = 17 ∨ k9 = 18 ∨ k9 = 19 ∨ k9 = 20 ∨ k9 = 21 ∨ k9 = 22 ∨ k9 = 23 := by omega
    rcases hk8 with rfl | rfl | rfl | rfl | rfl | rfl | rfl | rfl | rfl | rfl | rfl | rfl | rfl | rfl | rfl | rfl | rfl | rfl | rfl | rfl | rfl | rfl | rfl | rfl
    · exact absurd (x_ofInt (n := 1) hx9 (by decide)) c4_1
    · exact absurd (x_ofInt (n := 2) hx9 (by decide)) c4_2
    · exact absurd (x_ofInt (n := 3) hx9 (by decide)) c4_3
    · exact absurd (x_ofInt (n := 4) hx9 (by decide)) c4_4
    · rfl
    · exact absurd (x_ofInt (n := 6) hx9 (by decide)) c4_6
    · rfl
    · exact absurd (x_ofInt (n := 8) hx9 (by decide)) c4_8
    · rfl
    · rfl
    · rfl
    · exact absurd (x_ofInt (n := 12) hx9 (by decide)) c4_12
    · rfl
    · rfl
    · rfl
    · rfl
    · rfl
    · rfl
    · rfl
    · rfl
    · rfl
    · rfl
    · rfl
    · exact absurd (x_ofInt (n := 24) hx9 (by decide)) c4_24
  refine x_iconst C (-1) dX1_laueClass_173 rfl ?_
  refine x_iret C xr xk dX1_laueClass_174 ?_
  exact hK _ _ ⟨by unfold z_laue; rw [if_neg (fun z => c4_1 (by rw [z])), if_neg (fun z => c4_2 (by rw [z])), if_neg (fun z => c4_3 (by rw [z])), if_neg (fun z => c4_4 (by rw [z])), if_neg (fun z => c4_6 (by rw [z])), if_neg (fun z => c4_8 (by rw [z])), if_neg (fun z => c4_12 (by rw [z])), if_neg (fun z => c4_24 (by rw [z]))], rfl⟩
theorem c_X1_laueClass (l : Launch) (Y : x_Y) (σ : x_S) (c : Nat) (hc : σ.1 10 4 = nI c) (hc9 : c ≤ 192) : x_M l yX1_laueClass cX1_laueClass 1 (some .int) 1 Y [.ref 10] σ (fun r τ => r = some (.int (z_laue (σ.1 13) c)) ∧ τ = σ) := c_X1_laueClass_K l Y σ c hc hc9 _ (fun _ _ h => h)
set_option maxRecDepth 100000 in
set_option maxHeartbeats 200000 in
theorem c_X1_countPlain_K (l : Launch) (Y : x_Y) (σ : x_S) (q : Int32) (n : Nat) (hn : σ.1 10 5 = nI n) (hn9 : n ≤ 192) (K : Option Value → x_S → Prop) (hK : ∀ (r : Option Value) (τ : x_S), (r = some (.int (nI (y_cnb (z_pln (σ.1 11) (if q < 0 then nI 21588 else nI 153174)) n))) ∧ τ = σ) → K r τ) : x_M l yX1_countPlain cX1_countPlain 5 (some .int) 1 Y [.ref 10, .int q] σ K := by
  refine x_start (by decide) (Nat.le_of_ble_eq_true rfl) ?_
  intro xp xe xs xm xg xb xt xc C xr xk
  refine x_iload_n C (i := 1) dX1_countPlain_0 rfl rfl ?_
  refine x_jf_ge C 10 dX1_countPlain_1 (by decide) (fun c1 => ?_) (fun c1 => ?_)
  · skip
    have c1' := Int32.not_lt.mpr c1
    refine x_ldc C (153174) kc_X1_59 dX1_countPlain_10 (x_topI (y := nI 153174) rfl ?_)
    refine x_topI (y := if q < 0 then nI 21588 else nI 153174) (by rw [if_neg c1']) ?_
    refine x_istore_n C (i := 2) dX1_countPlain_12 rfl (by decide) ?_
    refine x_iconst C (nI 0) dX1_countPlain_13 rfl ?_
    refine x_istore_n C (i := 3) dX1_countPlain_14 rfl (by decide) ?_
    refine x_iconst C (nI 0) dX1_countPlain_15 rfl ?_
    refine x_istore C (i := 4) dX1_countPlain_16 (by decide) ?_
    have lp18 : ∀ (m18 : Nat) (i : Nat) (y : Nat), (n - i) = m18 → (i ≤ n) → (y = y_cnb (z_pln (σ.1 11) (if q < 0 then nI 21588 else nI 153174)) i) → ∀ L : x_Lo, L.1 0 = some (.ref 10) → L.1 1 = some (.int q) → L.1 2 = some (.int (if q < 0 then nI 21588 else nI 153174)) → L.1 3 = some (.int (nI y)) → L.1 4 = some (.int (nI i)) → x_W xp l xe (x_rm 1) xs xm xg xb xt xc 5 Y 0 0 (MQ xb (x_Q Y K) xg xs 0 0 (x_A Y)) 18 L [] σ := by
      intro m18
      induction m18 using Nat.strongRecOn with
      | _ m18 ih18 =>
        intro i y hm18 hi hy L xl0 xl1 xl2 xl3 xl4
        refine x_iload C (i := 4) dX1_countPlain_18 xl4 ?_
        refine x_aload_n C (i := 0) dX1_countPlain_20 rfl xl0 ?_
        refine x_getI C fi_10_5 kf_X1_30 dX1_countPlain_21 ?_
        refine x_topI (y := nI n) hn ?_
        refine x_icmp_geN C 46 dX1_countPlain_24 (by decide) (by omega) (by omega) (fun c24 => ?_) (fun c24 => ?_)
        · skip
          have c24' := Nat.not_lt.mpr c24
          obtain rfl : n = i := by omega
          refine x_iload_n C (i := 3) dX1_countPlain_46 rfl xl3 ?_
          refine x_iret C xr xk dX1_countPlain_47 ?_
          exact hK _ _ ⟨by rw [hy], rfl⟩
        · skip
          have c24' := Nat.not_le.mpr c24
          refine x_aload_n C (i := 0) dX1_countPlain_27 rfl xl0 ?_
          refine x_iload C (i := 4) dX1_countPlain_28 xl4 ?_
          have hM := c_X1_rotationKey l Y σ i (by omega)
          refine x_callV C (as := [.int (nI i)]) (st := []) (hM) kb_X1_rotationKey kv_X1_43 dX1_countPlain_30 rfl rfl (Nat.le_of_ble_eq_true rfl) ⟨by decide, by decide⟩ ⟨by decide, by decide⟩ ko_10 ?_
          clear hM
          intro r9 τ9 h9
          obtain ⟨rfl, h8⟩ := h9
          rw [h8]
          clear h8 τ9
          refine x_iload_n C (i := 2) dX1_countPlain_33 rfl xl2 ?_
          refine x_icmp_ne C 40 dX1_countPlain_34 (by decide) (fun c34 => ?_) (fun c34 => ?_)
          · skip
            refine x_iincN C (i := 4) (b := 1) dX1_countPlain_40 xl4 rfl (by decide) ?_
            refine x_goto C 18 dX1_countPlain_43 (by decide) ?_
            exact ih18 _ (by omega) (i + 1) y rfl (by omega) (by rw [y_cnb_f (P := z_pln (σ.1 11) (if q < 0 then nI 21588 else nI 153174)) (decide_eq_false c34)]; exact hy) _ xl0 xl1 xl2 xl3 rfl
          · skip
            refine x_iincN C (i := 3) (b := 1) dX1_countPlain_37 xl3 rfl (by decide) ?_
            refine x_iincN C (i := 4) (b := 1) dX1_countPlain_40 xl4 rfl (by decide) ?_
            refine x_goto C 18 dX1_countPlain_43 (by decide) ?_
            exact ih18 _ (by omega) (i + 1) (y + 1) rfl (by omega) (by rw [y_cnb_t (P := z_pln (σ.1 11) (if q < 0 then nI 21588 else nI 153174)) (decide_eq_true c34), hy]) _ xl0 xl1 xl2 rfl rfl
    exact lp18 _ 0 0 rfl (Nat.zero_le _) rfl _ rfl rfl rfl rfl rfl
  · skip
    have c1' := Int32.not_le.mpr c1
    refine x_sipush C (nI 21588) dX1_countPlain_4 rfl ?_
    refine x_topI (y := if q < 0 then nI 21588 else nI 153174) (by rw [if_pos c1]) ?_
    refine x_goto C 12 dX1_countPlain_7 (by decide) ?_
    refine x_istore_n C (i := 2) dX1_countPlain_12 rfl (by decide) ?_
    refine x_iconst C (nI 0) dX1_countPlain_13 rfl ?_
    refine x_istore_n C (i := 3) dX1_countPlain_14 rfl (by decide) ?_
    refine x_iconst C (nI 0) dX1_countPlain_15 rfl ?_
    refine x_istore C (i := 4) dX1_countPlain_16 (by decide) ?_
    have lp18 : ∀ (m18 : Nat) (i : Nat) (y : Nat), (n - i) = m18 → (i ≤ n) → (y = y_cnb (z_pln (σ.1 11) (if q < 0 then nI 21588 else nI 153174)) i) → ∀ L : x_Lo, L.1 0 = some (.ref 10) → L.1 1 = some (.int q) → L.1 2 = some (.int (if q < 0 then nI 21588 else nI 153174)) → L.1 3 = some (.int (nI y)) → L.1 4 = some (.int (nI i)) → x_W xp l xe (x_rm 1) xs xm xg xb xt xc 5 Y 0 0 (MQ xb (x_Q Y K) xg xs 0 0 (x_A Y)) 18 L [] σ := by
      intro m18
      induction m18 using Nat.strongRecOn with
      | _ m18 ih18 =>
        intro i y hm18 hi hy L xl0 xl1 xl2 xl3 xl4
        refine x_iload C (i := 4) dX1_countPlain_18 xl4 ?_
        refine x_aload_n C (i := 0) dX1_countPlain_20 rfl xl0 ?_
        refine x_getI C fi_10_5 kf_X1_30 dX1_countPlain_21 ?_
        refine x_topI (y := nI n) hn ?_
        refine x_icmp_geN C 46 dX1_countPlain_24 (by decide) (by omega) (by omega) (fun c24 => ?_) (fun c24 => ?_)
        · skip
          have c24' := Nat.not_lt.mpr c24
          obtain rfl : n = i := by omega
          refine x_iload_n C (i := 3) dX1_countPlain_46 rfl xl3 ?_
          refine x_iret C xr xk dX1_countPlain_47 ?_
          exact hK _ _ ⟨by rw [hy], rfl⟩
        · skip
          have c24' := Nat.not_le.mpr c24
          refine x_aload_n C (i := 0) dX1_countPlain_27 rfl xl0 ?_
          refine x_iload C (i := 4) dX1_countPlain_28 xl4 ?_
          have hM := c_X1_rotationKey l Y σ i (by omega)
          refine x_callV C (as := [.int (nI i)]) (st := []) (hM) kb_X1_rotationKey kv_X1_43 dX1_countPlain_30 rfl rfl (Nat.le_of_ble_eq_true rfl) ⟨by decide, by decide⟩ ⟨by decide, by decide⟩ ko_10 ?_
          clear hM
          intro r9 τ9 h9
          obtain ⟨rfl, h8⟩ := h9
          rw [h8]
          clear h8 τ9
          refine x_iload_n C (i := 2) dX1_countPlain_33 rfl xl2 ?_
          refine x_icmp_ne C 40 dX1_countPlain_34 (by decide) (fun c34 => ?_) (fun c34 => ?_)
          · skip
            refine x_iincN C (i := 4) (b := 1) dX1_countPlain_40 xl4 rfl (by decide) ?_
            refine x_goto C 18 dX1_countPlain_43 (by decide) ?_
            exact ih18 _ (by omega) (i + 1) y rfl (by omega) (by rw [y_cnb_f (P := z_pln (σ.1 11) (if q < 0 then nI 21588 else nI 153174)) (decide_eq_false c34)]; exact hy) _ xl0 xl1 xl2 xl3 rfl
          · skip
            refine x_iincN C (i := 3) (b := 1) dX1_countPlain_37 xl3 rfl (by decide) ?_
            refine x_iincN C (i := 4) (b := 1) dX1_countPlain_40 xl4 rfl (by decide) ?_
            refine x_goto C 18 dX1_countPlain_43 (by decide) ?_
            exact ih18 _ (by omega) (i + 1) (y + 1) rfl (by omega) (by rw [y_cnb_t (P := z_pln (σ.1 11) (if q < 0 then nI 21588 else nI 153174)) (decide_eq_true c34), hy]) _ xl0 xl1 xl2 rfl rfl
    exact lp18 _ 0 0 rfl (Nat.zero_le _) rfl _ rfl rfl rfl rfl rfl
theorem c_X1_countPlain (l : Launch) (Y : x_Y) (σ : x_S) (q : Int32) (n : Nat) (hn : σ.1 10 5 = nI n) (hn9 : n ≤ 192) : x_M l yX1_countPlain cX1_countPlain 5 (some .int) 1 Y [.ref 10, .int q] σ (fun r τ => r = some (.int (nI (y_cnb (z_pln (σ.1 11) (if q < 0 then nI 21588 else nI 153174)) n))) ∧ τ = σ) := c_X1_countPlain_K l Y σ q n hn hn9 _ (fun _ _ h => h)
