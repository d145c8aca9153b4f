set_option maxRecDepth 100000 in
set_option maxHeartbeats 200000 in
theorem c_X12_look_K (l : Launch) (Y : x_Y) (σ : x_S) (b : Nat → Int32) (t a : Nat) (hb : σ.1 39 = b) (ht : σ.1 38 2 = nI t) (ha : σ.1 38 3 = nI a) (ht8 : t ≤ 8000) (ha9 : a ≤ 8001) (K : Option Value → x_S → Prop) (hK : ∀ (r : Option Value) (τ : x_S), (r = some (.int (x_lookv b t a)) ∧ τ = σ) → K r τ) : x_M l yX12_look cX12_look 1 (some .int) 0 Y [.ref 38] σ K := by
  refine x_start (by decide) (Nat.le_of_ble_eq_true rfl) ?_
  intro xp xe xs xm xg xb xt xc C xr xk
  refine x_aload_n C (i := 0) dX12_look_0 rfl rfl ?_
  refine x_getI C fi_38_3 kf_X12_100 dX12_look_1 ?_
  refine x_topI (y := nI a) ha ?_
  refine x_aload_n C (i := 0) dX12_look_4 rfl rfl ?_
  refine x_getI C fi_38_2 kf_X12_89 dX12_look_5 ?_
  refine x_topI (y := nI t) ht ?_
  refine x_icmp_geN C 27 dX12_look_8 (by decide) (by omega) (by omega) (fun c8 => ?_) (fun c8 => ?_)
  · skip
    have c8' := Nat.not_lt.mpr c8
    refine x_iconst C (-1) dX12_look_27 rfl ?_
    refine x_iret C xr xk dX12_look_28 ?_
    exact hK _ _ ⟨by first | (unfold x_lookv; rw [if_pos (by omega), ← hb]; done) | (unfold x_lookv; rw [if_neg (by omega)]; done), rfl⟩
  · skip
    have c8' := Nat.not_le.mpr c8
    refine x_aload_n C (i := 0) dX12_look_11 rfl rfl ?_
    refine x_getR C fr_38_1 kf_X12_7 dX12_look_12 ?_
    refine x_aload_n C (i := 0) dX12_look_15 rfl rfl ?_
    refine x_getI C fi_38_3 kf_X12_100 dX12_look_16 ?_
    refine x_topI (y := nI a) ha ?_
    refine x_baldN C (by decide) rfl (by decide) dX12_look_19 (by omega) ?_
    refine x_sipush C (nI 255) dX12_look_20 rfl ?_
    refine x_iand C dX12_look_23 ?_
    refine x_goto C 28 dX12_look_24 (by decide) ?_
    refine x_iret C xr xk dX12_look_28 ?_
    exact hK _ _ ⟨by first | (unfold x_lookv; rw [if_pos (by omega), ← hb]; done) | (unfold x_lookv; rw [if_neg (by omega)]; done), rfl⟩
theorem c_X12_look (l : Launch) (Y : x_Y) (σ : x_S) (b : Nat → Int32) (t a : Nat) (hb : σ.1 39 = b) (ht : σ.1 38 2 = nI t) (ha : σ.1 38 3 = nI a) (ht8 : t ≤ 8000) (ha9 : a ≤ 8001) : x_M l yX12_look cX12_look 1 (some .int) 0 Y [.ref 38] σ (fun r τ => r = some (.int (x_lookv b t a)) ∧ τ = σ) := c_X12_look_K l Y σ b t a hb ht ha ht8 ha9 _ (fun _ _ h => h)
set_option maxRecDepth 100000 in
set_option maxHeartbeats 200000 in
theorem c_X12_set_K (l : Launch) (Y : x_Y) (σ : x_S) (a b c d f g h i j : Int32) (K : Option Value → x_S → Prop) (hK : ∀ (r : Option Value) (τ : x_S), (r = none ∧ τ = x_ui σ 46 (x_ml [a, b, c, d, f, g, h, i, j] (σ.1 46))) → K r τ) : x_M l yX12_set cX12_set 10 none 0 Y [.ref 38, .int a, .int b, .int c, .int d, .int f, .int g, .int h, .int i, .int j] σ K := by
  refine x_start (by decide) (Nat.le_of_ble_eq_true rfl) ?_
  intro xp xe xs xm xg xb xt xc C xr xk
  refine x_aload_n C (i := 0) dX12_set_0 rfl rfl ?_
  refine x_getR C fr_38_13 kf_X12_32 dX12_set_1 ?_
  refine x_iconst C (nI 0) dX12_set_4 rfl ?_
  refine x_iload_n C (i := 1) dX12_set_5 rfl rfl ?_
  refine x_iastN C (by decide) rfl (by decide) dX12_set_6 (by omega) ?_
  refine x_aload_n C (i := 0) dX12_set_7 rfl rfl ?_
  refine x_getR C fr_38_13 kf_X12_32 dX12_set_8 ?_
  refine x_iconst C (nI 1) dX12_set_11 rfl ?_
  refine x_iload_n C (i := 2) dX12_set_12 rfl rfl ?_
  refine x_iastN C (by decide) rfl (by decide) dX12_set_13 (by omega) ?_
  refine x_aload_n C (i := 0) dX12_set_14 rfl rfl ?_
  refine x_getR C fr_38_13 kf_X12_32 dX12_set_15 ?_
  refine x_iconst C (nI 2) dX12_set_18 rfl ?_
  refine x_iload_n C (i := 3) dX12_set_19 rfl rfl ?_
  refine x_iastN C (by decide) rfl (by decide) dX12_set_20 (by omega) ?_
  refine x_aload_n C (i := 0) dX12_set_21 rfl rfl ?_
  refine x_getR C fr_38_13 kf_X12_32 dX12_set_22 ?_
  refine x_iconst C (nI 3) dX12_set_25 rfl ?_
  refine x_iload C (i := 4) dX12_set_26 rfl ?_
  refine x_iastN C (by decide) rfl (by decide) dX12_set_28 (by omega) ?_
  refine x_aload_n C (i := 0) dX12_set_29 rfl rfl ?_
  refine x_getR C fr_38_13 kf_X12_32 dX12_set_30 ?_
  refine x_iconst C (nI 4) dX12_set_33 rfl ?_
  refine x_iload C (i := 5) dX12_set_34 rfl ?_
  refine x_iastN C (by decide) rfl (by decide) dX12_set_36 (by omega) ?_
  refine x_aload_n C (i := 0) dX12_set_37 rfl rfl ?_
  refine x_getR C fr_38_13 kf_X12_32 dX12_set_38 ?_
  refine x_iconst C (nI 5) dX12_set_41 rfl ?_
  refine x_iload C (i := 6) dX12_set_42 rfl ?_
  refine x_iastN C (by decide) rfl (by decide) dX12_set_44 (by omega) ?_
  refine x_aload_n C (i := 0) dX12_set_45 rfl rfl ?_
  refine x_getR C fr_38_13 kf_X12_32 dX12_set_46 ?_
  refine x_bipush C (nI 6) dX12_set_49 rfl ?_
  refine x_iload C (i := 7) dX12_set_51 rfl ?_
  refine x_iastN C (by decide) rfl (by decide) dX12_set_53 (by omega) ?_
  refine x_aload_n C (i := 0) dX12_set_54 rfl rfl ?_
  refine x_getR C fr_38_13 kf_X12_32 dX12_set_55 ?_
  refine x_bipush C (nI 7) dX12_set_58 rfl ?_
  refine x_iload C (i := 8) dX12_set_60 rfl ?_
  refine x_iastN C (by decide) rfl (by decide) dX12_set_62 (by omega) ?_
  refine x_aload_n C (i := 0) dX12_set_63 rfl rfl ?_
  refine x_getR C fr_38_13 kf_X12_32 dX12_set_64 ?_
  refine x_bipush C (nI 8) dX12_set_67 rfl ?_
  refine x_iload C (i := 9) dX12_set_69 rfl ?_
  refine x_iastN C (by decide) rfl (by decide) dX12_set_71 (by omega) ?_
  refine x_vret C xr xk dX12_set_72 ?_
  exact hK _ _ ⟨rfl, x_set9 σ 46 a b c d f g h i j⟩
theorem c_X12_set (l : Launch) (Y : x_Y) (σ : x_S) (a b c d f g h i j : Int32) : x_M l yX12_set cX12_set 10 none 0 Y [.ref 38, .int a, .int b, .int c, .int d, .int f, .int g, .int h, .int i, .int j] σ (fun r τ => r = none ∧ τ = x_ui σ 46 (x_ml [a, b, c, d, f, g, h, i, j] (σ.1 46))) := c_X12_set_K l Y σ a b c d f g h i j _ (fun _ _ h => h)
set_option maxRecDepth 100000 in
set_option maxHeartbeats 200000 in
theorem c_X12_setShift_K (l : Launch) (Y : x_Y) (σ : x_S) (a b c : Int32) (K : Option Value → x_S → Prop) (hK : ∀ (r : Option Value) (τ : x_S), (r = none ∧ τ = x_ui σ 47 (x_ml [a, b, c] (σ.1 47))) → K r τ) : x_M l yX12_setShift cX12_setShift 4 none 0 Y [.ref 38, .int a, .int b, .int c] σ K := by
  refine x_start (by decide) (Nat.le_of_ble_eq_true rfl) ?_
  intro xp xe xs xm xg xb xt xc C xr xk
  refine x_aload_n C (i := 0) dX12_setShift_0 rfl rfl ?_
  refine x_getR C fr_38_14 kf_X12_35 dX12_setShift_1 ?_
  refine x_iconst C (nI 0) dX12_setShift_4 rfl ?_
  refine x_iload_n C (i := 1) dX12_setShift_5 rfl rfl ?_
  refine x_iastN C (by decide) rfl (by decide) dX12_setShift_6 (by omega) ?_
  refine x_aload_n C (i := 0) dX12_setShift_7 rfl rfl ?_
  refine x_getR C fr_38_14 kf_X12_35 dX12_setShift_8 ?_
  refine x_iconst C (nI 1) dX12_setShift_11 rfl ?_
  refine x_iload_n C (i := 2) dX12_setShift_12 rfl rfl ?_
  refine x_iastN C (by decide) rfl (by decide) dX12_setShift_13 (by omega) ?_
  refine x_aload_n C (i := 0) dX12_setShift_14 rfl rfl ?_
  refine x_getR C fr_38_14 kf_X12_35 dX12_setShift_15 ?_
  refine x_iconst C (nI 2) dX12_setShift_18 rfl ?_
  refine x_iload_n C (i := 3) dX12_setShift_19 rfl rfl ?_
  refine x_iastN C (by decide) rfl (by decide) dX12_setShift_20 (by omega) ?_
  refine x_vret C xr xk dX12_setShift_21 ?_
  exact hK _ _ ⟨rfl, x_set3 σ 47 a b c⟩
theorem c_X12_setShift (l : Launch) (Y : x_Y) (σ : x_S) (a b c : Int32) : x_M l yX12_setShift cX12_setShift 4 none 0 Y [.ref 38, .int a, .int b, .int c] σ (fun r τ => r = none ∧ τ = x_ui σ 47 (x_ml [a, b, c] (σ.1 47))) := c_X12_setShift_K l Y σ a b c _ (fun _ _ h => h)
set_option maxRecDepth 100000 in
set_option maxHeartbeats 200000 in
theorem c_X12_generate_K (l : Launch) (Y : x_Y) (σ : x_S) (g : Nat) (hg : σ.1 38 10 = nI g) (hg8 : g ≤ 8) (K : Option Value → x_S → Prop) (hK : ∀ (r : Option Value) (τ : x_S), (r = none ∧ τ = x_u (x_ui (x_ui σ 44 (va_cpy (σ.1 46) (σ.1 44) 0 (9 * g) 9)) 45 (va_cpy (σ.1 47) (σ.1 45) 0 (3 * g) 3)) 38 10 (nI (g + 1))) → K r τ) : x_M l yX12_generate cX12_generate 2 none 0 Y [.ref 38] σ K := by
  refine x_start (by decide) (Nat.le_of_ble_eq_true rfl) ?_
  intro xp xe xs xm xg xb xt xc C xr xk
  refine x_iconst C (nI 0) dX12_generate_0 rfl ?_
  refine x_istore_n C (i := 1) dX12_generate_1 rfl (by decide) ?_
  have lp2 : ∀ (m2 : Nat) (k : Nat), (9 - k) = m2 → (k ≤ 9) → ∀ L : x_Lo, L.1 0 = some (.ref 38) → L.1 1 = some (.int (nI k)) → x_W xp l xe (x_rm 0) xs xm xg xb xt xc 2 Y 0 0 (MQ xb (x_Q Y K) xg xs 0 0 (x_A Y)) 2 L [] (x_ui σ 44 (va_cpy (σ.1 46) (σ.1 44) 0 (9 * g) k)) := by
    intro m2
    induction m2 using Nat.strongRecOn with
    | _ m2 ih2 =>
      intro k hm2 hk9 L xl0 xl1
      refine x_iload_n C (i := 1) dX12_generate_2 rfl xl1 ?_
      refine x_bipush C (nI 9) dX12_generate_3 rfl ?_
      refine x_icmp_geN C 34 dX12_generate_5 (by decide) (by omega) (by omega) (fun c5 => ?_) (fun c5 => ?_)
      · skip
        have c5' := Nat.not_lt.mpr c5
        obtain rfl : k = 9 := by omega
        refine x_iconst C (nI 0) dX12_generate_34 rfl ?_
        refine x_istore_n C (i := 1) dX12_generate_35 rfl (by decide) ?_
        have lp36 : ∀ (m36 : Nat) (k : Nat), (3 - k) = m36 → (k ≤ 3) → ∀ L : x_Lo, L.1 0 = some (.ref 38) → L.1 1 = some (.int (nI k)) → x_W xp l xe (x_rm 0) xs xm xg xb xt xc 2 Y 0 0 (MQ xb (x_Q Y K) xg xs 0 0 (x_A Y)) 36 L [] (x_ui (x_ui σ 44 (va_cpy (σ.1 46) (σ.1 44) 0 (9 * g) 9)) 45 (va_cpy (σ.1 47) (σ.1 45) 0 (3 * g) k)) := by
          intro m36
          induction m36 using Nat.strongRecOn with
          | _ m36 ih36 =>
            intro k hm36 hk3 L xl0 xl1
            refine x_iload_n C (i := 1) dX12_generate_36 rfl xl1 ?_
            refine x_iconst C (nI 3) dX12_generate_37 rfl ?_
            refine x_icmp_geN C 66 dX12_generate_38 (by decide) (by omega) (by omega) (fun c38 => ?_) (fun c38 => ?_)
            · skip
              have c38' := Nat.not_lt.mpr c38
              obtain rfl : k = 3 := by omega
              refine x_aload_n C (i := 0) dX12_generate_66 rfl xl0 ?_
              refine x_dup C dX12_generate_67 rfl ?_
              refine x_getI C fi_38_10 kf_X12_103 dX12_generate_68 ?_
              refine x_topI (y := nI g) hg ?_
              refine x_iconst C (nI 1) dX12_generate_71 rfl ?_
              refine x_iaddN C dX12_generate_72 ?_
              refine x_putN C fi_38_10 kf_X12_103 rfl rfl dX12_generate_73 ?_
              refine x_vret C xr xk dX12_generate_76 ?_
              exact hK _ _ ⟨rfl, rfl⟩
            · skip
              have c38' := Nat.not_le.mpr c38
              refine x_aload_n C (i := 0) dX12_generate_41 rfl xl0 ?_
              refine x_getR C fr_38_12 kf_X12_29 dX12_generate_42 ?_
              refine x_iconst C (nI 3) dX12_generate_45 rfl ?_
              refine x_aload_n C (i := 0) dX12_generate_46 rfl xl0 ?_
              refine x_getI C fi_38_10 kf_X12_103 dX12_generate_47 ?_
              refine x_topI (y := nI g) hg ?_
              refine x_imulN C dX12_generate_50 ?_
              refine x_iload_n C (i := 1) dX12_generate_51 rfl xl1 ?_
              refine x_iaddN C dX12_generate_52 ?_
              refine x_aload_n C (i := 0) dX12_generate_53 rfl xl0 ?_
              refine x_getR C fr_38_14 kf_X12_35 dX12_generate_54 ?_
              refine x_iload_n C (i := 1) dX12_generate_57 rfl xl1 ?_
              refine x_ialdN C (by decide) rfl (by decide) dX12_generate_58 (by omega) ?_
              refine x_iastN C (by decide) rfl (by decide) dX12_generate_59 (by omega) ?_
              refine x_iincN C (i := 1) (b := 1) dX12_generate_60 xl1 rfl (by decide) ?_
              refine x_goto C 36 dX12_generate_63 (by decide) ?_
              refine x_sig (σ' := x_ui (x_ui σ 44 (va_cpy (σ.1 46) (σ.1 44) 0 (9 * g) 9)) 45 (va_cpy (σ.1 47) (σ.1 45) 0 (3 * g) (k + 1))) (by rw [x_u_of_ui]; exact x_ui_congr _ 45 (x_cpy_s0 (σ.1 47) (σ.1 45) (3 * g) k)) ?_
              exact ih36 _ (by omega) (k + 1) rfl (by omega) _ xl0 rfl
        refine x_sig (σ' := x_ui (x_ui σ 44 (va_cpy (σ.1 46) (σ.1 44) 0 (9 * g) 9)) 45 (va_cpy (σ.1 47) (σ.1 45) 0 (3 * g) 0)) (by rw [x_cpy_0]; exact (x_ui_self _ 45).symm) ?_
        exact lp36 _ 0 rfl (by omega) _ xl0 rfl
      · skip
        have c5' := Nat.not_le.mpr c5
        refine x_aload_n C (i := 0) dX12_generate_8 rfl xl0 ?_
        refine x_getR C fr_38_11 kf_X12_26 dX12_generate_9 ?_
        refine x_bipush C (nI 9) dX12_generate_12 rfl ?_
        refine x_aload_n C (i := 0) dX12_generate_14 rfl xl0 ?_
        refine x_getI C fi_38_10 kf_X12_103 dX12_generate_15 ?_
        refine x_topI (y := nI g) hg ?_
        refine x_imulN C dX12_generate_18 ?_
        refine x_iload_n C (i := 1) dX12_generate_19 rfl xl1 ?_
        refine x_iaddN C dX12_generate_20 ?_
        refine x_aload_n C (i := 0) dX12_generate_21 rfl xl0 ?_
        refine x_getR C fr_38_13 kf_X12_32 dX12_generate_22 ?_
        refine x_iload_n C (i := 1) dX12_generate_25 rfl xl1 ?_
        refine x_ialdN C (by decide) rfl (by decide) dX12_generate_26 (by omega) ?_
        refine x_iastN C (by decide) rfl (by decide) dX12_generate_27 (by omega) ?_
        refine x_iincN C (i := 1) (b := 1) dX12_generate_28 xl1 rfl (by decide) ?_
        refine x_goto C 2 dX12_generate_31 (by decide) ?_
        refine x_sig (σ' := x_ui σ 44 (va_cpy (σ.1 46) (σ.1 44) 0 (9 * g) (k + 1))) (by rw [x_u_of_ui]; exact x_ui_congr σ 44 (x_cpy_s0 (σ.1 46) (σ.1 44) (9 * g) k)) ?_
        exact ih2 _ (by omega) (k + 1) rfl (by omega) _ xl0 rfl
  refine x_sig (σ' := x_ui σ 44 (va_cpy (σ.1 46) (σ.1 44) 0 (9 * g) 0)) (by rw [x_cpy_0]; exact (x_ui_self σ 44).symm) ?_
  exact lp2 _ 0 rfl (by omega) _ rfl rfl
theorem c_X12_generate (l : Launch) (Y : x_Y) (σ : x_S) (g : Nat) (hg : σ.1 38 10 = nI g) (hg8 : g ≤ 8) : x_M l yX12_generate cX12_generate 2 none 0 Y [.ref 38] σ (fun r τ => r = none ∧ τ = x_u (x_ui (x_ui σ 44 (va_cpy (σ.1 46) (σ.1 44) 0 (9 * g) 9)) 45 (va_cpy (σ.1 47) (σ.1 45) 0 (3 * g) 3)) 38 10 (nI (g + 1))) := c_X12_generate_K l Y σ g hg hg8 _ (fun _ _ h => h)
set_option maxRecDepth 100000 in
set_option maxHeartbeats 200000 in
theorem c_X12_turnTo_K (l : Launch) (Y : x_Y) (σ : x_S) (a b c d f g h i j : Int32) (F : Nat → Int32) (ax : Nat) (hF : σ.1 46 = x_ml [a, b, c, d, f, g, h, i, j] F) (hax : ax < 3) (K : Option Value → x_S → Prop) (hK : ∀ (r : Option Value) (τ : x_S), (r = none ∧ τ = x_ui σ 46 (x_ml (x_tn ((ax + 1) % 3) [a, b, c, d, f, g, h, i, j]) F)) → K r τ) : x_M l yX12_turnTo cX12_turnTo 13 none 1 Y [.ref 38, .int (nI ax)] σ K := by
  refine x_start (by decide) (Nat.le_of_ble_eq_true rfl) ?_
  intro xp xe xs xm xg xb xt xc C xr xk
  refine x_iload_n C (i := 1) dX12_turnTo_0 rfl rfl ?_
  refine x_iconst C (nI 1) dX12_turnTo_1 rfl ?_
  refine x_iaddN C dX12_turnTo_2 ?_
  refine x_iconst C (nI 3) dX12_turnTo_3 rfl ?_
  refine x_iremN C dX12_turnTo_4 (by omega) (by omega) (by omega) ?_
  refine x_istore_n C (i := 2) dX12_turnTo_5 rfl (by decide) ?_
  refine x_aload_n C (i := 0) dX12_turnTo_6 rfl rfl ?_
  refine x_getR C fr_38_13 kf_X12_32 dX12_turnTo_7 ?_
  refine x_iconst C (nI 0) dX12_turnTo_10 rfl ?_
  refine x_ialdN C (by decide) rfl (by decide) dX12_turnTo_11 (by omega) ?_
  refine x_topI (y := a) (by rw [hF]; rfl) ?_
  refine x_istore_n C (i := 3) dX12_turnTo_12 rfl (by decide) ?_
  refine x_iconst C (nI 0) dX12_turnTo_13 rfl ?_
  refine x_istore C (i := 4) dX12_turnTo_14 (by decide) ?_
  have lp16 : ∀ (m16 : Nat) (k : Nat) (a1 : Int32) (a2 : Int32) (a3 : Int32) (a4 : Int32) (a5 : Int32) (a6 : Int32) (a7 : Int32) (a8 : Int32) (a9 : Int32), ((ax + 1) % 3 - k) = m16 → (k ≤ (ax + 1) % 3) → (x_tn k [a, b, c, d, f, g, h, i, j] = [a1, a2, a3, a4, a5, a6, a7, a8, a9]) → ∀ L : x_Lo, L.1 0 = some (.ref 38) → L.1 1 = some (.int (nI ax)) → L.1 2 = some (.int (nI ((ax + 1) % 3))) → L.1 4 = some (.int (nI k)) → x_W xp l xe (x_rm 1) xs xm xg xb xt xc 13 Y 0 0 (MQ xb (x_Q Y K) xg xs 0 0 (x_A Y)) 16 L [] (x_ui σ 46 (x_ml [a1, a2, a3, a4, a5, a6, a7, a8, a9] F)) := by
    intro m16
    induction m16 using Nat.strongRecOn with
    | _ m16 ih16 =>
      intro k a1 a2 a3 a4 a5 a6 a7 a8 a9 hm16 hk1 hk2 L xl0 xl1 xl2 xl4
      refine x_iload C (i := 4) dX12_turnTo_16 xl4 ?_
      refine x_iload_n C (i := 2) dX12_turnTo_18 rfl xl2 ?_
      refine x_icmp_geN C 123 dX12_turnTo_19 (by decide) (by omega) (by omega) (fun c19 => ?_) (fun c19 => ?_)
      · skip
        have c19' := Nat.not_lt.mpr c19
        obtain rfl : k = (ax + 1) % 3 := by omega
        refine x_vret C xr xk dX12_turnTo_123 ?_
        exact hK _ _ ⟨rfl, by rw [hk2]⟩
      · skip
        have c19' := Nat.not_le.mpr c19
        refine x_aload_n C (i := 0) dX12_turnTo_22 rfl xl0 ?_
        refine x_getR C fr_38_13 kf_X12_32 dX12_turnTo_23 ?_
        refine x_bipush C (nI 8) dX12_turnTo_26 rfl ?_
        refine x_ialdN C (by decide) rfl (by decide) dX12_turnTo_28 (by omega) ?_
        refine x_topI (y := a9) rfl ?_
        refine x_istore_n C (i := 3) dX12_turnTo_29 rfl (by decide) ?_
        refine x_aload_n C (i := 0) dX12_turnTo_30 rfl xl0 ?_
        refine x_getR C fr_38_13 kf_X12_32 dX12_turnTo_31 ?_
        refine x_bipush C (nI 6) dX12_turnTo_34 rfl ?_
        refine x_ialdN C (by decide) rfl (by decide) dX12_turnTo_36 (by omega) ?_
        refine x_topI (y := a7) rfl ?_
        refine x_istore C (i := 5) dX12_turnTo_37 (by decide) ?_
        refine x_aload_n C (i := 0) dX12_turnTo_39 rfl xl0 ?_
        refine x_getR C fr_38_13 kf_X12_32 dX12_turnTo_40 ?_
        refine x_bipush C (nI 7) dX12_turnTo_43 rfl ?_
        refine x_ialdN C (by decide) rfl (by decide) dX12_turnTo_45 (by omega) ?_
        refine x_topI (y := a8) rfl ?_
        refine x_istore C (i := 6) dX12_turnTo_46 (by decide) ?_
        refine x_aload_n C (i := 0) dX12_turnTo_48 rfl xl0 ?_
        refine x_getR C fr_38_13 kf_X12_32 dX12_turnTo_49 ?_
        refine x_iconst C (nI 2) dX12_turnTo_52 rfl ?_
        refine x_ialdN C (by decide) rfl (by decide) dX12_turnTo_53 (by omega) ?_
        refine x_topI (y := a3) rfl ?_
        refine x_istore C (i := 7) dX12_turnTo_54 (by decide) ?_
        refine x_aload_n C (i := 0) dX12_turnTo_56 rfl xl0 ?_
        refine x_getR C fr_38_13 kf_X12_32 dX12_turnTo_57 ?_
        refine x_iconst C (nI 0) dX12_turnTo_60 rfl ?_
        refine x_ialdN C (by decide) rfl (by decide) dX12_turnTo_61 (by omega) ?_
        refine x_topI (y := a1) rfl ?_
        refine x_istore C (i := 8) dX12_turnTo_62 (by decide) ?_
        refine x_aload_n C (i := 0) dX12_turnTo_64 rfl xl0 ?_
        refine x_getR C fr_38_13 kf_X12_32 dX12_turnTo_65 ?_
        refine x_iconst C (nI 1) dX12_turnTo_68 rfl ?_
        refine x_ialdN C (by decide) rfl (by decide) dX12_turnTo_69 (by omega) ?_
        refine x_topI (y := a2) rfl ?_
        refine x_istore C (i := 9) dX12_turnTo_70 (by decide) ?_
        refine x_aload_n C (i := 0) dX12_turnTo_72 rfl xl0 ?_
        refine x_getR C fr_38_13 kf_X12_32 dX12_turnTo_73 ?_
        refine x_iconst C (nI 5) dX12_turnTo_76 rfl ?_
        refine x_ialdN C (by decide) rfl (by decide) dX12_turnTo_77 (by omega) ?_
        refine x_topI (y := a6) rfl ?_
        refine x_istore C (i := 10) dX12_turnTo_78 (by decide) ?_
        refine x_aload_n C (i := 0) dX12_turnTo_80 rfl xl0 ?_
        refine x_getR C fr_38_13 kf_X12_32 dX12_turnTo_81 ?_
        refine x_iconst C (nI 3) dX12_turnTo_84 rfl ?_
        refine x_ialdN C (by decide) rfl (by decide) dX12_turnTo_85 (by omega) ?_
        refine x_topI (y := a4) rfl ?_
        refine x_istore C (i := 11) dX12_turnTo_86 (by decide) ?_
        refine x_aload_n C (i := 0) dX12_turnTo_88 rfl xl0 ?_
        refine x_getR C fr_38_13 kf_X12_32 dX12_turnTo_89 ?_
        refine x_iconst C (nI 4) dX12_turnTo_92 rfl ?_
        refine x_ialdN C (by decide) rfl (by decide) dX12_turnTo_93 (by omega) ?_
        refine x_topI (y := a5) rfl ?_
        refine x_istore C (i := 12) dX12_turnTo_94 (by decide) ?_
        refine x_aload_n C (i := 0) dX12_turnTo_96 rfl xl0 ?_
        refine x_iload_n C (i := 3) dX12_turnTo_97 rfl rfl ?_
        refine x_iload C (i := 5) dX12_turnTo_98 rfl ?_
        refine x_iload C (i := 6) dX12_turnTo_100 rfl ?_
        refine x_iload C (i := 7) dX12_turnTo_102 rfl ?_
        refine x_iload C (i := 8) dX12_turnTo_104 rfl ?_
        refine x_iload C (i := 9) dX12_turnTo_106 rfl ?_
        refine x_iload C (i := 10) dX12_turnTo_108 rfl ?_
        refine x_iload C (i := 11) dX12_turnTo_110 rfl ?_
        refine x_iload C (i := 12) dX12_turnTo_112 rfl ?_
        have hM := c_X12_set l Y (x_ui σ 46 (x_ml [a1, a2, a3, a4, a5, a6, a7, a8, a9] F)) a9 a7 a8 a3 a1 a2 a6 a4 a5
        refine x_callV C (as := [.int a9, .int a7, .int a8, .int a3, .int a1, .int a2, .int a6, .int a4, .int a5]) (st := []) (hM) kb_X12_set kv_X12_106 dX12_turnTo_114 rfl rfl (Nat.le_of_ble_eq_true rfl) ⟨by decide, by decide⟩ ⟨by decide, by decide⟩ ko_38 ?_
        clear hM
        rintro _ _ ⟨rfl, rfl⟩
        refine x_iincN C (i := 4) (b := 1) dX12_turnTo_117 xl4 rfl (by decide) ?_
        refine x_goto C 16 dX12_turnTo_120 (by decide) ?_
        refine x_sig (σ' := x_ui σ 46 (x_ml [a9, a7, a8, a3, a1, a2, a6, a4, a5] F)) (by rw [x_ui_ui]; exact x_ui_congr σ 46 (x_ml_ml _ _ _ (Nat.le_refl 9))) ?_
        exact ih16 _ (by omega) (k + 1) a9 a7 a8 a3 a1 a2 a6 a4 a5 rfl (by omega) (by show x_tr (x_tn k _) = _; rw [hk2]; rfl) _ xl0 xl1 xl2 rfl
  refine x_sig (σ' := x_ui σ 46 (x_ml [a, b, c, d, f, g, h, i, j] F)) (by rw [← hF]; exact (x_ui_self σ 46).symm) ?_
  exact lp16 _ 0 a b c d f g h i j rfl (Nat.zero_le _) rfl _ rfl rfl rfl rfl
theorem c_X12_turnTo (l : Launch) (Y : x_Y) (σ : x_S) (a b c d f g h i j : Int32) (F : Nat → Int32) (ax : Nat) (hF : σ.1 46 = x_ml [a, b, c, d, f, g, h, i, j] F) (hax : ax < 3) : x_M l yX12_turnTo cX12_turnTo 13 none 1 Y [.ref 38, .int (nI ax)] σ (fun r τ => r = none ∧ τ = x_ui σ 46 (x_ml (x_tn ((ax + 1) % 3) [a, b, c, d, f, g, h, i, j]) F)) := c_X12_turnTo_K l Y σ a b c d f g h i j F ax hF hax _ (fun _ _ h => h)
set_option maxRecDepth 100000 in
set_option maxHeartbeats 200000 in
theorem c_X12_isOrder_K (l : Launch) (Y : x_Y) (σ : x_S) (c : Int32) (K : Option Value → x_S → Prop) (hK : ∀ (r : Option Value) (τ : x_S), (r = some (.int (x_z (x_isOrd c))) ∧ τ = σ) → K r τ) : x_M l yX12_isOrder cX12_isOrder 1 (some .boolean) 0 Y [.int c] σ K := by
  refine x_start (by decide) (Nat.le_of_ble_eq_true rfl) ?_
  intro xp xe xs xm xg xb xt xc C xr xk
  refine x_iload_n C (i := 0) dX12_isOrder_0 rfl rfl ?_
  refine x_bipush C (nI 49) dX12_isOrder_1 rfl ?_
  refine x_jcmp_lt C 12 dX12_isOrder_3 (by decide) (fun c3 => ?_) (fun c3 => ?_)
  · skip
    have c3' := Int32.not_le.mpr c3
    refine x_iload_n C (i := 0) dX12_isOrder_12 rfl rfl ?_
    refine x_bipush C (nI 54) dX12_isOrder_13 rfl ?_
    refine x_icmp_ne C 22 dX12_isOrder_15 (by decide) (fun c15 => ?_) (fun c15 => ?_)
    · skip
      refine x_iconst C (nI 0) dX12_isOrder_22 rfl ?_
      refine x_zret C xr xk dX12_isOrder_23 rfl ?_
      exact hK _ _ ⟨by unfold x_isOrd; simp [*, x_z], rfl⟩
    · skip
      refine x_iconst C (nI 1) dX12_isOrder_18 rfl ?_
      refine x_goto C 23 dX12_isOrder_19 (by decide) ?_
      refine x_zret C xr xk dX12_isOrder_23 rfl ?_
      exact hK _ _ ⟨by unfold x_isOrd; simp [*, x_z], rfl⟩
  · skip
    have c3' := Int32.not_lt.mpr c3
    refine x_iload_n C (i := 0) dX12_isOrder_6 rfl rfl ?_
    refine x_bipush C (nI 52) dX12_isOrder_7 rfl ?_
    refine x_jcmp_le C 18 dX12_isOrder_9 (by decide) (fun c9 => ?_) (fun c9 => ?_)
    · skip
      have c9' := Int32.not_lt.mpr c9
      refine x_iconst C (nI 1) dX12_isOrder_18 rfl ?_
      refine x_goto C 23 dX12_isOrder_19 (by decide) ?_
      refine x_zret C xr xk dX12_isOrder_23 rfl ?_
      exact hK _ _ ⟨by unfold x_isOrd; simp [*, x_z], rfl⟩
    · skip
      have c9' := Int32.not_le.mpr c9
      refine x_iload_n C (i := 0) dX12_isOrder_12 rfl rfl ?_
      refine x_bipush C (nI 54) dX12_isOrder_13 rfl ?_
      refine x_icmp_ne C 22 dX12_isOrder_15 (by decide) (fun c15 => ?_) (fun c15 => ?_)
      · skip
        refine x_iconst C (nI 0) dX12_isOrder_22 rfl ?_
        refine x_zret C xr xk dX12_isOrder_23 rfl ?_
        exact hK _ _ ⟨by unfold x_isOrd; simp [*, x_z], rfl⟩
      · skip
        refine x_iconst C (nI 1) dX12_isOrder_18 rfl ?_
        refine x_goto C 23 dX12_isOrder_19 (by decide) ?_
        refine x_zret C xr xk dX12_isOrder_23 rfl ?_
        exact hK _ _ ⟨by unfold x_isOrd; simp [*, x_z], rfl⟩
theorem c_X12_isOrder (l : Launch) (Y : x_Y) (σ : x_S) (c : Int32) : x_M l yX12_isOrder cX12_isOrder 1 (some .boolean) 0 Y [.int c] σ (fun r τ => r = some (.int (x_z (x_isOrd c))) ∧ τ = σ) := c_X12_isOrder_K l Y σ c _ (fun _ _ h => h)
set_option maxRecDepth 100000 in
set_option maxHeartbeats 200000 in
theorem c_X12_axisAt_K (l : Launch) (Y : x_Y) (σ : x_S) (b : Nat → Int32) (t a : Nat) (hb : σ.1 39 = b) (ht : σ.1 38 2 = nI t) (ha : σ.1 38 3 = nI a) (ht8 : t ≤ 8000) (ha9 : a ≤ 8001) (n : Nat) (hn : n ≤ 6) (K : Option Value → x_S → Prop) (hK : ∀ (r : Option Value) (τ : x_S), (r = some (.int (x_axAt n (x_lookv b t a))) ∧ τ = σ) → K r τ) : x_M l yX12_axisAt cX12_axisAt 3 (some .int) 1 Y [.ref 38, .int (nI n)] σ K := by
  refine x_start (by decide) (Nat.le_of_ble_eq_true rfl) ?_
  intro xp xe xs xm xg xb xt xc C xr xk
  refine x_aload_n C (i := 0) dX12_axisAt_0 rfl rfl ?_
  have hM := c_X12_look l Y σ b t a hb ht ha ht8 (by omega)
  refine x_callV C (as := []) (st := []) (hM) kb_X12_look kv_X12_110 dX12_axisAt_1 rfl rfl (Nat.le_of_ble_eq_true rfl) ⟨by decide, by decide⟩ ⟨by decide, by decide⟩ ko_38 ?_
  clear hM
  intro r9 τ9 h9
  obtain ⟨rfl, h8⟩ := h9
  rw [h8]
  clear h8 τ9
  generalize x_lookv b t a = v at hK ⊢
  refine x_istore_n C (i := 2) dX12_axisAt_4 rfl (by decide) ?_
  refine x_iload_n C (i := 1) dX12_axisAt_5 rfl rfl ?_
  refine x_iconst C (nI 1) dX12_axisAt_6 rfl ?_
  refine x_icmp_leN C 27 dX12_axisAt_7 (by decide) (by omega) (by omega) (fun c7 => ?_) (fun c7 => ?_)
  · skip
    have c7' := Nat.not_lt.mpr c7
    refine x_iload_n C (i := 1) dX12_axisAt_27 rfl rfl ?_
    refine x_iconst C (nI 2) dX12_axisAt_28 rfl ?_
    refine x_icmp_neN C 42 dX12_axisAt_29 (by decide) (by omega) (by omega) (fun c29 => ?_) (fun c29 => ?_)
    · skip
      refine x_iload_n C (i := 1) dX12_axisAt_42 rfl rfl ?_
      refine x_iconst C (nI 2) dX12_axisAt_43 rfl ?_
      refine x_icmp_neN C 57 dX12_axisAt_44 (by decide) (by omega) (by omega) (fun c44 => ?_) (fun c44 => ?_)
      · skip
        refine x_iload_n C (i := 1) dX12_axisAt_57 rfl rfl ?_
        refine x_iconst C (nI 3) dX12_axisAt_58 rfl ?_
        refine x_icmp_neN C 72 dX12_axisAt_59 (by decide) (by omega) (by omega) (fun c59 => ?_) (fun c59 => ?_)
        · skip
          refine x_iconst C (-1) dX12_axisAt_72 rfl ?_
          refine x_iret C xr xk dX12_axisAt_73 ?_
          exact hK _ _ ⟨by unfold x_axAt; first | (exfalso; omega) | (simp [*]; done) | (subst_vars; rfl) | (subst_vars; simp [*]; done) | (subst_vars; decide) | (simp_all; done), rfl⟩
        · skip
          refine x_iload_n C (i := 2) dX12_axisAt_62 rfl rfl ?_
          refine x_bipush C (nI 42) dX12_axisAt_63 rfl ?_
          refine x_icmp_ne C 72 dX12_axisAt_65 (by decide) (fun c65 => ?_) (fun c65 => ?_)
          · skip
            refine x_iconst C (-1) dX12_axisAt_72 rfl ?_
            refine x_iret C xr xk dX12_axisAt_73 ?_
            exact hK _ _ ⟨by unfold x_axAt; first | (exfalso; omega) | (simp [*]; done) | (subst_vars; rfl) | (subst_vars; simp [*]; done) | (subst_vars; decide) | (simp_all; done), rfl⟩
          · skip
            refine x_iconst C (nI 5) dX12_axisAt_68 rfl ?_
            refine x_goto C 73 dX12_axisAt_69 (by decide) ?_
            refine x_iret C xr xk dX12_axisAt_73 ?_
            exact hK _ _ ⟨by unfold x_axAt; first | (exfalso; omega) | (simp [*]; done) | (subst_vars; rfl) | (subst_vars; simp [*]; done) | (subst_vars; decide) | (simp_all; done), rfl⟩
      · skip
        refine x_iload_n C (i := 2) dX12_axisAt_47 rfl rfl ?_
        refine x_bipush C (nI 34) dX12_axisAt_48 rfl ?_
        refine x_icmp_ne C 57 dX12_axisAt_50 (by decide) (fun c50 => ?_) (fun c50 => ?_)
        · skip
          refine x_iload_n C (i := 1) dX12_axisAt_57 rfl rfl ?_
          refine x_iconst C (nI 3) dX12_axisAt_58 rfl ?_
          refine x_icmp_neN C 72 dX12_axisAt_59 (by decide) (by omega) (by omega) (fun c59 => ?_) (fun c59 => ?_)
          · skip
            refine x_iconst C (-1) dX12_axisAt_72 rfl ?_
            refine x_iret C xr xk dX12_axisAt_73 ?_
            exact hK _ _ ⟨by unfold x_axAt; first | (exfalso; omega) | (simp [*]; done) | (subst_vars; rfl) | (subst_vars; simp [*]; done) | (subst_vars; decide) | (simp_all; done), rfl⟩
          · skip
            refine x_iload_n C (i := 2) dX12_axisAt_62 rfl rfl ?_
            refine x_bipush C (nI 42) dX12_axisAt_63 rfl ?_
            refine x_icmp_ne C 72 dX12_axisAt_65 (by decide) (fun c65 => ?_) (fun c65 => ?_)
            · skip
              refine x_iconst C (-1) dX12_axisAt_72 rfl ?_
              refine x_iret C xr xk dX12_axisAt_73 ?_
              exact hK _ _ ⟨by unfold x_axAt; first | (exfalso; omega) | (simp [*]; done) | (subst_vars; rfl) | (subst_vars; simp [*]; done) | (subst_vars; decide) | (simp_all; done), rfl⟩
            · skip
              refine x_iconst C (nI 5) dX12_axisAt_68 rfl ?_
              refine x_goto C 73 dX12_axisAt_69 (by decide) ?_
              refine x_iret C xr xk dX12_axisAt_73 ?_
              exact hK _ _ ⟨by unfold x_axAt; first | (exfalso; omega) | (simp [*]; done) | (subst_vars; rfl) | (subst_vars; simp [*]; done) | (subst_vars; decide) | (simp_all; done), rfl⟩
        · skip
          refine x_iconst C (nI 4) dX12_axisAt_53 rfl ?_
          refine x_goto C 73 dX12_axisAt_54 (by decide) ?_
          refine x_iret C xr xk dX12_axisAt_73 ?_
          exact hK _ _ ⟨by unfold x_axAt; first | (exfalso; omega) | (simp [*]; done) | (subst_vars; rfl) | (subst_vars; simp [*]; done) | (subst_vars; decide) | (simp_all; done), rfl⟩
    · skip
      refine x_iload_n C (i := 2) dX12_axisAt_32 rfl rfl ?_
      refine x_bipush C (nI 39) dX12_axisAt_33 rfl ?_
      refine x_icmp_ne C 42 dX12_axisAt_35 (by decide) (fun c35 => ?_) (fun c35 => ?_)
      · skip
        refine x_iload_n C (i := 1) dX12_axisAt_42 rfl rfl ?_
        refine x_iconst C (nI 2) dX12_axisAt_43 rfl ?_
        refine x_icmp_neN C 57 dX12_axisAt_44 (by decide) (by omega) (by omega) (fun c44 => ?_) (fun c44 => ?_)
        · skip
          refine x_iload_n C (i := 1) dX12_axisAt_57 rfl rfl ?_
          refine x_iconst C (nI 3) dX12_axisAt_58 rfl ?_
          refine x_icmp_neN C 72 dX12_axisAt_59 (by decide) (by omega) (by omega) (fun c59 => ?_) (fun c59 => ?_)
          · skip
            refine x_iconst C (-1) dX12_axisAt_72 rfl ?_
            refine x_iret C xr xk dX12_axisAt_73 ?_
            exact hK _ _ ⟨by unfold x_axAt; first | (exfalso; omega) | (simp [*]; done) | (subst_vars; rfl) | (subst_vars; simp [*]; done) | (subst_vars; decide) | (simp_all; done), rfl⟩
          · skip
            refine x_iload_n C (i := 2) dX12_axisAt_62 rfl rfl ?_
            refine x_bipush C (nI 42) dX12_axisAt_63 rfl ?_
            refine x_icmp_ne C 72 dX12_axisAt_65 (by decide) (fun c65 => ?_) (fun c65 => ?_)
            · skip
              refine x_iconst C (-1) dX12_axisAt_72 rfl ?_
              refine x_iret C xr xk dX12_axisAt_73 ?_
              exact hK _ _ ⟨by unfold x_axAt; first | (exfalso; omega) | (simp [*]; done) | (subst_vars; rfl) | (subst_vars; simp [*]; done) | (subst_vars; decide) | (simp_all; done), rfl⟩
            · skip
              refine x_iconst C (nI 5) dX12_axisAt_68 rfl ?_
              refine x_goto C 73 dX12_axisAt_69 (by decide) ?_
              refine x_iret C xr xk dX12_axisAt_73 ?_
              exact hK _ _ ⟨by unfold x_axAt; first | (exfalso; omega) | (simp [*]; done) | (subst_vars; rfl) | (subst_vars; simp [*]; done) | (subst_vars; decide) | (simp_all; done), rfl⟩
        · skip
          refine x_iload_n C (i := 2) dX12_axisAt_47 rfl rfl ?_
          refine x_bipush C (nI 34) dX12_axisAt_48 rfl ?_
          refine x_icmp_ne C 57 dX12_axisAt_50 (by decide) (fun c50 => ?_) (fun c50 => ?_)
          · skip
            refine x_iload_n C (i := 1) dX12_axisAt_57 rfl rfl ?_
            refine x_iconst C (nI 3) dX12_axisAt_58 rfl ?_
            refine x_icmp_neN C 72 dX12_axisAt_59 (by decide) (by omega) (by omega) (fun c59 => ?_) (fun c59 => ?_)
            · skip
              refine x_iconst C (-1) dX12_axisAt_72 rfl ?_
              refine x_iret C xr xk dX12_axisAt_73 ?_
              exact hK _ _ ⟨by unfold x_axAt; first | (exfalso; omega) | (simp [*]; done) | (subst_vars; rfl) | (subst_vars; simp [*]; done) | (subst_vars; decide) | (simp_all; done), rfl⟩
            · skip
              refine x_iload_n C (i := 2) dX12_axisAt_62 rfl rfl ?_
              refine x_bipush C (nI 42) dX12_axisAt_63 rfl ?_
              refine x_icmp_ne C 72 dX12_axisAt_65 (by decide) (fun c65 => ?_) (fun c65 => ?_)
              · skip
                refine x_iconst C (-1) dX12_axisAt_72 rfl ?_
                refine x_iret C xr xk dX12_axisAt_73 ?_
                exact hK _ _ ⟨by unfold x_axAt; first | (exfalso; omega) | (simp [*]; done) | (subst_vars; rfl) | (subst_vars; simp [*]; done) | (subst_vars; decide) | (simp_all; done), rfl⟩
              · skip
                refine x_iconst C (nI 5) dX12_axisAt_68 rfl ?_
                refine x_goto C 73 dX12_axisAt_69 (by decide) ?_
                refine x_iret C xr xk dX12_axisAt_73 ?_
                exact hK _ _ ⟨by unfold x_axAt; first | (exfalso; omega) | (simp [*]; done) | (subst_vars; rfl) | (subst_vars; simp [*]; done) | (subst_vars; decide) | (simp_all; done), rfl⟩
          · skip
            refine x_iconst C (nI 4) dX12_axisAt_53 rfl ?_
            refine x_goto C 73 dX12_axisAt_54 (by decide) ?_
            refine x_iret C xr xk dX12_axisAt_73 ?_
            exact hK _ _ ⟨by unfold x_axAt; first | (exfalso; omega) | (simp [*]; done) | (subst_vars; rfl) | (subst_vars; simp [*]; done) | (subst_vars; decide) | (simp_all; done), rfl⟩
      · skip
        refine x_iconst C (nI 3) dX12_axisAt_38 rfl ?_
        refine x_goto C 73 dX12_axisAt_39 (by decide) ?_
        refine x_iret C xr xk dX12_axisAt_73 ?_
        exact hK _ _ ⟨by unfold x_axAt; first | (exfalso; omega) | (simp [*]; done) | (subst_vars; rfl) | (subst_vars; simp [*]; done) | (subst_vars; decide) | (simp_all; done), rfl⟩
  · skip
    have c7' := Nat.not_le.mpr c7
    refine x_iload_n C (i := 2) dX12_axisAt_10 rfl rfl ?_
    refine x_bipush C (nI 120) dX12_axisAt_11 rfl ?_
    refine x_jcmp_lt C 27 dX12_axisAt_13 (by decide) (fun c13 => ?_) (fun c13 => ?_)
    · skip
      have c13' := Int32.not_le.mpr c13
      refine x_iload_n C (i := 1) dX12_axisAt_27 rfl rfl ?_
      refine x_iconst C (nI 2) dX12_axisAt_28 rfl ?_
      refine x_icmp_neN C 42 dX12_axisAt_29 (by decide) (by omega) (by omega) (fun c29 => ?_) (fun c29 => ?_)
      · skip
        refine x_iload_n C (i := 1) dX12_axisAt_42 rfl rfl ?_
        refine x_iconst C (nI 2) dX12_axisAt_43 rfl ?_
        refine x_icmp_neN C 57 dX12_axisAt_44 (by decide) (by omega) (by omega) (fun c44 => ?_) (fun c44 => ?_)
        · skip
          refine x_iload_n C (i := 1) dX12_axisAt_57 rfl rfl ?_
          refine x_iconst C (nI 3) dX12_axisAt_58 rfl ?_
          refine x_icmp_neN C 72 dX12_axisAt_59 (by decide) (by omega) (by omega) (fun c59 => ?_) (fun c59 => ?_)
          · skip
            refine x_iconst C (-1) dX12_axisAt_72 rfl ?_
            refine x_iret C xr xk dX12_axisAt_73 ?_
            exact hK _ _ ⟨by unfold x_axAt; first | (exfalso; omega) | (simp [*]; done) | (subst_vars; rfl) | (subst_vars; simp [*]; done) | (subst_vars; decide) | (simp_all; done), rfl⟩
          · skip
            refine x_iload_n C (i := 2) dX12_axisAt_62 rfl rfl ?_
            refine x_bipush C (nI 42) dX12_axisAt_63 rfl ?_
            refine x_icmp_ne C 72 dX12_axisAt_65 (by decide) (fun c65 => ?_) (fun c65 => ?_)
            · skip
              refine x_iconst C (-1) dX12_axisAt_72 rfl ?_
              refine x_iret C xr xk dX12_axisAt_73 ?_
              exact hK _ _ ⟨by unfold x_axAt; first | (exfalso; omega) | (simp [*]; done) | (subst_vars; rfl) | (subst_vars; simp [*]; done) | (subst_vars; decide) | (simp_all; done), rfl⟩
            · skip
              refine x_iconst C (nI 5) dX12_axisAt_68 rfl ?_
              refine x_goto C 73 dX12_axisAt_69 (by decide) ?_
              refine x_iret C xr xk dX12_axisAt_73 ?_
              exact hK _ _ ⟨by unfold x_axAt; first | (exfalso; omega) | (simp [*]; done) | (subst_vars; rfl) | (subst_vars; simp [*]; done) | (subst_vars; decide) | (simp_all; done), rfl⟩
        · skip
          refine x_iload_n C (i := 2) dX12_axisAt_47 rfl rfl ?_
          refine x_bipush C (nI 34) dX12_axisAt_48 rfl ?_
          refine x_icmp_ne C 57 dX12_axisAt_50 (by decide) (fun c50 => ?_) (fun c50 => ?_)
          · skip
            refine x_iload_n C (i := 1) dX12_axisAt_57 rfl rfl ?_
            refine x_iconst C (nI 3) dX12_axisAt_58 rfl ?_
            refine x_icmp_neN C 72 dX12_axisAt_59 (by decide) (by omega) (by omega) (fun c59 => ?_) (fun c59 => ?_)
            · skip
              refine x_iconst C (-1) dX12_axisAt_72 rfl ?_
              refine x_iret C xr xk dX12_axisAt_73 ?_
              exact hK _ _ ⟨by unfold x_axAt; first | (exfalso; omega) | (simp [*]; done) | (subst_vars; rfl) | (subst_vars; simp [*]; done) | (subst_vars; decide) | (simp_all; done), rfl⟩
            · skip
              refine x_iload_n C (i := 2) dX12_axisAt_62 rfl rfl ?_
              refine x_bipush C (nI 42) dX12_axisAt_63 rfl ?_
              refine x_icmp_ne C 72 dX12_axisAt_65 (by decide) (fun c65 => ?_) (fun c65 => ?_)
              · skip
                refine x_iconst C (-1) dX12_axisAt_72 rfl ?_
                refine x_iret C xr xk dX12_axisAt_73 ?_
                exact hK _ _ ⟨by unfold x_axAt; first | (exfalso; omega) | (simp [*]; done) | (subst_vars; rfl) | (subst_vars; simp [*]; done) | (subst_vars; decide) | (simp_all; done), rfl⟩
              · skip
                refine x_iconst C (nI 5) dX12_axisAt_68 rfl ?_
                refine x_goto C 73 dX12_axisAt_69 (by decide) ?_
                refine x_iret C xr xk dX12_axisAt_73 ?_
                exact hK _ _ ⟨by unfold x_axAt; first | (exfalso; omega) | (simp [*]; done) | (subst_vars; rfl) | (subst_vars; simp [*]; done) | (subst_vars; decide) | (simp_all; done), rfl⟩
          · skip
            refine x_iconst C (nI 4) dX12_axisAt_53 rfl ?_
            refine x_goto C 73 dX12_axisAt_54 (by decide) ?_
            refine x_iret C xr xk dX12_axisAt_73 ?_
            exact hK _ _ ⟨by unfold x_axAt; first | (exfalso; omega) | (simp [*]; done) | (subst_vars; rfl) | (subst_vars; simp [*]; done) | (subst_vars; decide) | (simp_all; done), rfl⟩
      · skip
        refine x_iload_n C (i := 2) dX12_axisAt_32 rfl rfl ?_
        refine x_bipush C (nI 39) dX12_axisAt_33 rfl ?_
        refine x_icmp_ne C 42 dX12_axisAt_35 (by decide) (fun c35 => ?_) (fun c35 => ?_)
        · skip
          refine x_iload_n C (i := 1) dX12_axisAt_42 rfl rfl ?_
          refine x_iconst C (nI 2) dX12_axisAt_43 rfl ?_
          refine x_icmp_neN C 57 dX12_axisAt_44 (by decide) (by omega) (by omega) (fun c44 => ?_) (fun c44 => ?_)
          · skip
            refine x_iload_n C (i := 1) dX12_axisAt_57 rfl rfl ?_
            refine x_iconst C (nI 3) dX12_axisAt_58 rfl ?_
            refine x_icmp_neN C 72 dX12_axisAt_59 (by decide) (by omega) (by omega) (fun c59 => ?_) (fun c59 => ?_)
            · skip
              refine x_iconst C (-1) dX12_axisAt_72 rfl ?_
              refine x_iret C xr xk dX12_axisAt_73 ?_
              exact hK _ _ ⟨by unfold x_axAt; first | (exfalso; omega) | (simp [*]; done) | (subst_vars; rfl) | (subst_vars; simp [*]; done) | (subst_vars; decide) | (simp_all; done), rfl⟩
            · skip
              refine x_iload_n C (i := 2) dX12_axisAt_62 rfl rfl ?_
              refine x_bipush C (nI 42) dX12_axisAt_63 rfl ?_
              refine x_icmp_ne C 72 dX12_axisAt_65 (by decide) (fun c65 => ?_) (fun c65 => ?_)
              · skip
                refine x_iconst C (-1) dX12_axisAt_72 rfl ?_
                refine x_iret C xr xk dX12_axisAt_73 ?_
                exact hK _ _ ⟨by unfold x_axAt; first | (exfalso; omega) | (simp [*]; done) | (subst_vars; rfl) | (subst_vars; simp [*]; done) | (subst_vars; decide) | (simp_all; done), rfl⟩
              · skip
                refine x_iconst C (nI 5) dX12_axisAt_68 rfl ?_
                refine x_goto C 73 dX12_axisAt_69 (by decide) ?_
                refine x_iret C xr xk dX12_axisAt_73 ?_
                exact hK _ _ ⟨by unfold x_axAt; first | (exfalso; omega) | (simp [*]; done) | (subst_vars; rfl) | (subst_vars; simp [*]; done) | (subst_vars; decide) | (simp_all; done), rfl⟩
          · skip
            refine x_iload_n C (i := 2) dX12_axisAt_47 rfl rfl ?_
            refine x_bipush C (nI 34) dX12_axisAt_48 rfl ?_
            refine x_icmp_ne C 57 dX12_axisAt_50 (by decide) (fun c50 => ?_) (fun c50 => ?_)
            · skip
              refine x_iload_n C (i := 1) dX12_axisAt_57 rfl rfl ?_
              refine x_iconst C (nI 3) dX12_axisAt_58 rfl ?_
              refine x_icmp_neN C 72 dX12_axisAt_59 (by decide) (by omega) (by omega) (fun c59 => ?_) (fun c59 => ?_)
              · skip
                refine x_iconst C (-1) dX12_axisAt_72 rfl ?_
                refine x_iret C xr xk dX12_axisAt_73 ?_
                exact hK _ _ ⟨by unfold x_axAt; first | (exfalso; omega) | (simp [*]; done) | (subst_vars; rfl) | (subst_vars; simp [*]; done) | (subst_vars; decide) | (simp_all; done), rfl⟩
              · skip
                refine x_iload_n C (i := 2) dX12_axisAt_62 rfl rfl ?_
                refine x_bipush C (nI 42) dX12_axisAt_63 rfl ?_
                refine x_icmp_ne C 72 dX12_axisAt_65 (by decide) (fun c65 => ?_) (fun c65 => ?_)
                · skip
                  refine x_iconst C (-1) dX12_axisAt_72 rfl ?_
                  refine x_iret C xr xk dX12_axisAt_73 ?_
                  exact hK _ _ ⟨by unfold x_axAt; first | (exfalso; omega) | (simp [*]; done) | (subst_vars; rfl) | (subst_vars; simp [*]; done) | (subst_vars; decide) | (simp_all; done), rfl⟩
                · skip
                  refine x_iconst C (nI 5) dX12_axisAt_68 rfl ?_
                  refine x_goto C 73 dX12_axisAt_69 (by decide) ?_
                  refine x_iret C xr xk dX12_axisAt_73 ?_
                  exact hK _ _ ⟨by unfold x_axAt; first | (exfalso; omega) | (simp [*]; done) | (subst_vars; rfl) | (subst_vars; simp [*]; done) | (subst_vars; decide) | (simp_all; done), rfl⟩
            · skip
              refine x_iconst C (nI 4) dX12_axisAt_53 rfl ?_
              refine x_goto C 73 dX12_axisAt_54 (by decide) ?_
              refine x_iret C xr xk dX12_axisAt_73 ?_
              exact hK _ _ ⟨by unfold x_axAt; first | (exfalso; omega) | (simp [*]; done) | (subst_vars; rfl) | (subst_vars; simp [*]; done) | (subst_vars; decide) | (simp_all; done), rfl⟩
        · skip
          refine x_iconst C (nI 3) dX12_axisAt_38 rfl ?_
          refine x_goto C 73 dX12_axisAt_39 (by decide) ?_
          refine x_iret C xr xk dX12_axisAt_73 ?_
          exact hK _ _ ⟨by unfold x_axAt; first | (exfalso; omega) | (simp [*]; done) | (subst_vars; rfl) | (subst_vars; simp [*]; done) | (subst_vars; decide) | (simp_all; done), rfl⟩
    · skip
      have c13' := Int32.not_lt.mpr c13
      refine x_iload_n C (i := 2) dX12_axisAt_16 rfl rfl ?_
      refine x_bipush C (nI 122) dX12_axisAt_17 rfl ?_
      refine x_jcmp_gt C 27 dX12_axisAt_19 (by decide) (fun c19 => ?_) (fun c19 => ?_)
      · skip
        have c19' := Int32.not_le.mpr c19
        refine x_iload_n C (i := 1) dX12_axisAt_27 rfl rfl ?_
        refine x_iconst C (nI 2) dX12_axisAt_28 rfl ?_
        refine x_icmp_neN C 42 dX12_axisAt_29 (by decide) (by omega) (by omega) (fun c29 => ?_) (fun c29 => ?_)
        · skip
          refine x_iload_n C (i := 1) dX12_axisAt_42 rfl rfl ?_
          refine x_iconst C (nI 2) dX12_axisAt_43 rfl ?_
          refine x_icmp_neN C 57 dX12_axisAt_44 (by decide) (by omega) (by omega) (fun c44 => ?_) (fun c44 => ?_)
          · skip
            refine x_iload_n C (i := 1) dX12_axisAt_57 rfl rfl ?_
            refine x_iconst C (nI 3) dX12_axisAt_58 rfl ?_
            refine x_icmp_neN C 72 dX12_axisAt_59 (by decide) (by omega) (by omega) (fun c59 => ?_) (fun c59 => ?_)
            · skip
              refine x_iconst C (-1) dX12_axisAt_72 rfl ?_
              refine x_iret C xr xk dX12_axisAt_73 ?_
              exact hK _ _ ⟨by unfold x_axAt; first | (exfalso; omega) | (simp [*]; done) | (subst_vars; rfl) | (subst_vars; simp [*]; done) | (subst_vars; decide) | (simp_all; done), rfl⟩
            · skip
              refine x_iload_n C (i := 2) dX12_axisAt_62 rfl rfl ?_
              refine x_bipush C (nI 42) dX12_axisAt_63 rfl ?_
              refine x_icmp_ne C 72 dX12_axisAt_65 (by decide) (fun c65 => ?_) (fun c65 => ?_)
              · skip
                refine x_iconst C (-1) dX12_axisAt_72 rfl ?_
                refine x_iret C xr xk dX12_axisAt_73 ?_
                exact hK _ _ ⟨by unfold x_axAt; first | (exfalso; omega) | (simp [*]; done) | (subst_vars; rfl) | (subst_vars; simp [*]; done) | (subst_vars; decide) | (simp_all; done), rfl⟩
              · skip
                refine x_iconst C (nI 5) dX12_axisAt_68 rfl ?_
                refine x_goto C 73 dX12_axisAt_69 (by decide) ?_
                refine x_iret C xr xk dX12_axisAt_73 ?_
                exact hK _ _ ⟨by unfold x_axAt; first | (exfalso; omega) | (simp [*]; done) | (subst_vars; rfl) | (subst_vars; simp [*]; done) | (subst_vars; decide) | (simp_all; done), rfl⟩
          · skip
            refine x_iload_n C (i := 2) dX12_axisAt_47 rfl rfl ?_
            refine x_bipush C (nI 34) dX12_axisAt_48 rfl ?_
            refine x_icmp_ne C 57 dX12_axisAt_50 (by decide) (fun c50 => ?_) (fun c50 => ?_)
            · skip
              refine x_iload_n C (i := 1) dX12_axisAt_57 rfl rfl ?_
              refine x_iconst C (nI 3) dX12_axisAt_58 rfl ?_
              refine x_icmp_neN C 72 dX12_axisAt_59 (by decide) (by omega) (by omega) (fun c59 => ?_) (fun c59 => ?_)
              · skip
                refine x_iconst C (-1) dX12_axisAt_72 rfl ?_
                refine x_iret C xr xk dX12_axisAt_73 ?_
                exact hK _ _ ⟨by unfold x_axAt; first | (exfalso; omega) | (simp [*]; done) | (subst_vars; rfl) | (subst_vars; simp [*]; done) | (subst_vars; decide) | (simp_all; done), rfl⟩
              · skip
                refine x_iload_n C (i := 2) dX12_axisAt_62 rfl rfl ?_
                refine x_bipush C (nI 42) dX12_axisAt_63 rfl ?_
                refine x_icmp_ne C 72 dX12_axisAt_65 (by decide) (fun c65 => ?_) (fun c65 => ?_)
                · skip
                  refine x_iconst C (-1) dX12_axisAt_72 rfl ?_
                  refine x_iret C xr xk dX12_axisAt_73 ?_
                  exact hK _ _ ⟨by unfold x_axAt; first | (exfalso; omega) | (simp [*]; done) | (subst_vars; rfl) | (subst_vars; simp [*]; done) | (subst_vars; decide) | (simp_all; done), rfl⟩
                · skip
                  refine x_iconst C (nI 5) dX12_axisAt_68 rfl ?_
                  refine x_goto C 73 dX12_axisAt_69 (by decide) ?_
                  refine x_iret C xr xk dX12_axisAt_73 ?_
                  exact hK _ _ ⟨by unfold x_axAt; first | (exfalso; omega) | (simp [*]; done) | (subst_vars; rfl) | (subst_vars; simp [*]; done) | (subst_vars; decide) | (simp_all; done), rfl⟩
            · skip
              refine x_iconst C (nI 4) dX12_axisAt_53 rfl ?_
              refine x_goto C 73 dX12_axisAt_54 (by decide) ?_
              refine x_iret C xr xk dX12_axisAt_73 ?_
              exact hK _ _ ⟨by unfold x_axAt; first | (exfalso; omega) | (simp [*]; done) | (subst_vars; rfl) | (subst_vars; simp [*]; done) | (subst_vars; decide) | (simp_all; done), rfl⟩
        · skip
          refine x_iload_n C (i := 2) dX12_axisAt_32 rfl rfl ?_
          refine x_bipush C (nI 39) dX12_axisAt_33 rfl ?_
          refine x_icmp_ne C 42 dX12_axisAt_35 (by decide) (fun c35 => ?_) (fun c35 => ?_)
          · skip
            refine x_iload_n C (i := 1) dX12_axisAt_42 rfl rfl ?_
            refine x_iconst C (nI 2) dX12_axisAt_43 rfl ?_
            refine x_icmp_neN C 57 dX12_axisAt_44 (by decide) (by omega) (by omega) (fun c44 => ?_) (fun c44 => ?_)
            · skip
              refine x_iload_n C (i := 1) dX12_axisAt_57 rfl rfl ?_
              refine x_iconst C (nI 3) dX12_axisAt_58 rfl ?_
              refine x_icmp_neN C 72 dX12_axisAt_59 (by decide) (by omega) (by omega) (fun c59 => ?_) (fun c59 => ?_)
              · skip
                refine x_iconst C (-1) dX12_axisAt_72 rfl ?_
                refine x_iret C xr xk dX12_axisAt_73 ?_
                exact hK _ _ ⟨by unfold x_axAt; first | (exfalso; omega) | (simp [*]; done) | (subst_vars; rfl) | (subst_vars; simp [*]; done) | (subst_vars; decide) | (simp_all; done), rfl⟩
              · skip
                refine x_iload_n C (i := 2) dX12_axisAt_62 rfl rfl ?_
                refine x_bipush C (nI 42) dX12_axisAt_63 rfl ?_
                refine x_icmp_ne C 72 dX12_axisAt_65 (by decide) (fun c65 => ?_) (fun c65 => ?_)
                · skip
                  refine x_iconst C (-1) dX12_axisAt_72 rfl ?_
                  refine x_iret C xr xk dX12_axisAt_73 ?_
                  exact hK _ _ ⟨by unfold x_axAt; first | (exfalso; omega) | (simp [*]; done) | (subst_vars; rfl) | (subst_vars; simp [*]; done) | (subst_vars; decide) | (simp_all; done), rfl⟩
                · skip
                  refine x_iconst C (nI 5) dX12_axisAt_68 rfl ?_
                  refine x_goto C 73 dX12_axisAt_69 (by decide) ?_
                  refine x_iret C xr xk dX12_axisAt_73 ?_
                  exact hK _ _ ⟨by unfold x_axAt; first | (exfalso; omega) | (simp [*]; done) | (subst_vars; rfl) | (subst_vars; simp [*]; done) | (subst_vars; decide) | (simp_all; done), rfl⟩
            · skip
              refine x_iload_n C (i := 2) dX12_axisAt_47 rfl rfl ?_
              refine x_bipush C (nI 34) dX12_axisAt_48 rfl ?_
              refine x_icmp_ne C 57 dX12_axisAt_50 (by decide) (fun c50 => ?_) (fun c50 => ?_)
              · skip
                refine x_iload_n C (i := 1) dX12_axisAt_57 rfl rfl ?_
                refine x_iconst C (nI 3) dX12_axisAt_58 rfl ?_
                refine x_icmp_neN C 72 dX12_axisAt_59 (by decide) (by omega) (by omega) (fun c59 => ?_) (fun c59 => ?_)
                · skip
                  refine x_iconst C (-1) dX12_axisAt_72 rfl ?_
                  refine x_iret C xr xk dX12_axisAt_73 ?_
                  exact hK _ _ ⟨by unfold x_axAt; first | (exfalso; omega) | (simp [*]; done) | (subst_vars; rfl) | (subst_vars; simp [*]; done) | (subst_vars; decide) | (simp_all; done), rfl⟩
                · skip
                  refine x_iload_n C (i := 2) dX12_axisAt_62 rfl rfl ?_
                  refine x_bipush C (nI 42) dX12_axisAt_63 rfl ?_
                  refine x_icmp_ne C 72 dX12_axisAt_65 (by decide) (fun c65 => ?_) (fun c65 => ?_)
                  · skip
                    refine x_iconst C (-1) dX12_axisAt_72 rfl ?_
                    refine x_iret C xr xk dX12_axisAt_73 ?_
                    exact hK _ _ ⟨by unfold x_axAt; first | (exfalso; omega) | (simp [*]; done) | (subst_vars; rfl) | (subst_vars; simp [*]; done) | (subst_vars; decide) | (simp_all; done), rfl⟩
                  · skip
                    refine x_iconst C (nI 5) dX12_axisAt_68 rfl ?_
                    refine x_goto C 73 dX12_axisAt_69 (by decide) ?_
                    refine x_iret C xr xk dX12_axisAt_73 ?_
                    exact hK _ _ ⟨by unfold x_axAt; first | (exfalso; omega) | (simp [*]; done) | (subst_vars; rfl) | (subst_vars; simp [*]; done) | (subst_vars; decide) | (simp_all; done), rfl⟩
              · skip
                refine x_iconst C (nI 4) dX12_axisAt_53 rfl ?_
                refine x_goto C 73 dX12_axisAt_54 (by decide) ?_
                refine x_iret C xr xk dX12_axisAt_73 ?_
                exact hK _ _ ⟨by unfold x_axAt; first | (exfalso; omega) | (simp [*]; done) | (subst_vars; rfl) | (subst_vars; simp [*]; done) | (subst_vars; decide) | (simp_all; done), rfl⟩
          · skip
            refine x_iconst C (nI 3) dX12_axisAt_38 rfl ?_
            refine x_goto C 73 dX12_axisAt_39 (by decide) ?_
            refine x_iret C xr xk dX12_axisAt_73 ?_
            exact hK _ _ ⟨by unfold x_axAt; first | (exfalso; omega) | (simp [*]; done) | (subst_vars; rfl) | (subst_vars; simp [*]; done) | (subst_vars; decide) | (simp_all; done), rfl⟩
      · skip
        have c19' := Int32.not_lt.mpr c19
        refine x_iload_n C (i := 2) dX12_axisAt_22 rfl rfl ?_
        refine x_bipush C (nI 120) dX12_axisAt_23 rfl ?_
        refine x_isub C dX12_axisAt_25 ?_
        refine x_iret C xr xk dX12_axisAt_26 ?_
        exact hK _ _ ⟨by unfold x_axAt; first | (exfalso; omega) | (simp [*]; done) | (subst_vars; rfl) | (subst_vars; simp [*]; done) | (subst_vars; decide) | (simp_all; done), rfl⟩
theorem c_X12_axisAt (l : Launch) (Y : x_Y) (σ : x_S) (b : Nat → Int32) (t a : Nat) (hb : σ.1 39 = b) (ht : σ.1 38 2 = nI t) (ha : σ.1 38 3 = nI a) (ht8 : t ≤ 8000) (ha9 : a ≤ 8001) (n : Nat) (hn : n ≤ 6) : x_M l yX12_axisAt cX12_axisAt 3 (some .int) 1 Y [.ref 38, .int (nI n)] σ (fun r τ => r = some (.int (x_axAt n (x_lookv b t a))) ∧ τ = σ) := c_X12_axisAt_K l Y σ b t a hb ht ha ht8 ha9 n hn _ (fun _ _ h => h)
set_option maxRecDepth 100000 in
set_option maxHeartbeats 200000 in
theorem c_X12_axisFor_K (l : Launch) (Y : x_Y) (σ : x_S) (su fi n : Nat) (h1 : σ.1 38 15 = nI su) (h2 : σ.1 38 16 = nI fi) (hn : n ≤ 6) (hs : su ≤ 6) (hf : fi ≤ 6) (K : Option Value → x_S → Prop) (hK : ∀ (r : Option Value) (τ : x_S), (r = some (.int (x_axFor su fi n)) ∧ τ = σ) → K r τ) : x_M l yX12_axisFor cX12_axisFor 2 (some .int) 0 Y [.ref 38, .int (nI n)] σ K := by
  refine x_start (by decide) (Nat.le_of_ble_eq_true rfl) ?_
  intro xp xe xs xm xg xb xt xc C xr xk
  refine x_aload_n C (i := 0) dX12_axisFor_0 rfl rfl ?_
  refine x_getI C fi_38_15 kf_X12_114 dX12_axisFor_1 ?_
  refine x_topI (y := nI su) h1 ?_
  refine x_if_neN C 9 dX12_axisFor_4 (by decide) (by omega) (fun c4 => ?_) (fun c4 => ?_)
  · skip
    refine x_aload_n C (i := 0) dX12_axisFor_9 rfl rfl ?_
    refine x_getI C fi_38_15 kf_X12_114 dX12_axisFor_10 ?_
    refine x_topI (y := nI su) h1 ?_
    refine x_iconst C (nI 1) dX12_axisFor_13 rfl ?_
    refine x_icmp_neN C 65 dX12_axisFor_14 (by decide) (by omega) (by omega) (fun c14 => ?_) (fun c14 => ?_)
    · skip
      refine x_iload_n C (i := 1) dX12_axisFor_65 rfl rfl ?_
      refine x_iconst C (nI 3) dX12_axisFor_66 rfl ?_
      refine x_icmp_neN C 74 dX12_axisFor_67 (by decide) (by omega) (by omega) (fun c67 => ?_) (fun c67 => ?_)
      · skip
        refine x_iconst C (-1) dX12_axisFor_74 rfl ?_
        refine x_iret C xr xk dX12_axisFor_75 ?_
        exact hK _ _ ⟨by unfold x_axFor; first | (exfalso; omega) | (simp [*]; done) | (subst_vars; rfl) | (subst_vars; simp [*]; done) | (subst_vars; decide) | (simp_all; done), rfl⟩
      · skip
        refine x_iconst C (nI 5) dX12_axisFor_70 rfl ?_
        refine x_goto C 75 dX12_axisFor_71 (by decide) ?_
        refine x_iret C xr xk dX12_axisFor_75 ?_
        exact hK _ _ ⟨by unfold x_axFor; first | (exfalso; omega) | (simp [*]; done) | (subst_vars; rfl) | (subst_vars; simp [*]; done) | (subst_vars; decide) | (simp_all; done), rfl⟩
    · skip
      refine x_iload_n C (i := 1) dX12_axisFor_17 rfl rfl ?_
      refine x_iconst C (nI 2) dX12_axisFor_18 rfl ?_
      refine x_icmp_neN C 65 dX12_axisFor_19 (by decide) (by omega) (by omega) (fun c19 => ?_) (fun c19 => ?_)
      · skip
        refine x_iload_n C (i := 1) dX12_axisFor_65 rfl rfl ?_
        refine x_iconst C (nI 3) dX12_axisFor_66 rfl ?_
        refine x_icmp_neN C 74 dX12_axisFor_67 (by decide) (by omega) (by omega) (fun c67 => ?_) (fun c67 => ?_)
        · skip
          refine x_iconst C (-1) dX12_axisFor_74 rfl ?_
          refine x_iret C xr xk dX12_axisFor_75 ?_
          exact hK _ _ ⟨by unfold x_axFor; first | (exfalso; omega) | (simp [*]; done) | (subst_vars; rfl) | (subst_vars; simp [*]; done) | (subst_vars; decide) | (simp_all; done), rfl⟩
        · skip
          refine x_iconst C (nI 5) dX12_axisFor_70 rfl ?_
          refine x_goto C 75 dX12_axisFor_71 (by decide) ?_
          refine x_iret C xr xk dX12_axisFor_75 ?_
          exact hK _ _ ⟨by unfold x_axFor; first | (exfalso; omega) | (simp [*]; done) | (subst_vars; rfl) | (subst_vars; simp [*]; done) | (subst_vars; decide) | (simp_all; done), rfl⟩
      · skip
        refine x_aload_n C (i := 0) dX12_axisFor_22 rfl rfl ?_
        refine x_getI C fi_38_16 kf_X12_117 dX12_axisFor_23 ?_
        refine x_topI (y := nI fi) h2 ?_
        refine x_iconst C (nI 2) dX12_axisFor_26 rfl ?_
        refine x_icmp_eqN C 38 dX12_axisFor_27 (by decide) (by omega) (by omega) (fun c27 => ?_) (fun c27 => ?_)
        · skip
          refine x_iconst C (nI 0) dX12_axisFor_38 rfl ?_
          refine x_goto C 64 dX12_axisFor_39 (by decide) ?_
          refine x_iret C xr xk dX12_axisFor_64 ?_
          exact hK _ _ ⟨by unfold x_axFor; first | (exfalso; omega) | (simp [*]; done) | (subst_vars; rfl) | (subst_vars; simp [*]; done) | (subst_vars; decide) | (simp_all; done), rfl⟩
        · skip
          refine x_aload_n C (i := 0) dX12_axisFor_30 rfl rfl ?_
          refine x_getI C fi_38_16 kf_X12_117 dX12_axisFor_31 ?_
          refine x_topI (y := nI fi) h2 ?_
          refine x_iconst C (nI 4) dX12_axisFor_34 rfl ?_
          refine x_icmp_neN C 42 dX12_axisFor_35 (by decide) (by omega) (by omega) (fun c35 => ?_) (fun c35 => ?_)
          · skip
            refine x_aload_n C (i := 0) dX12_axisFor_42 rfl rfl ?_
            refine x_getI C fi_38_16 kf_X12_117 dX12_axisFor_43 ?_
            refine x_topI (y := nI fi) h2 ?_
            refine x_iconst C (nI 3) dX12_axisFor_46 rfl ?_
            refine x_icmp_eqN C 59 dX12_axisFor_47 (by decide) (by omega) (by omega) (fun c47 => ?_) (fun c47 => ?_)
            · skip
              refine x_iconst C (nI 3) dX12_axisFor_59 rfl ?_
              refine x_goto C 64 dX12_axisFor_60 (by decide) ?_
              refine x_iret C xr xk dX12_axisFor_64 ?_
              exact hK _ _ ⟨by unfold x_axFor; first | (exfalso; omega) | (simp [*]; done) | (subst_vars; rfl) | (subst_vars; simp [*]; done) | (subst_vars; decide) | (simp_all; done), rfl⟩
            · skip
              refine x_aload_n C (i := 0) dX12_axisFor_50 rfl rfl ?_
              refine x_getI C fi_38_16 kf_X12_117 dX12_axisFor_51 ?_
              refine x_topI (y := nI fi) h2 ?_
              refine x_bipush C (nI 6) dX12_axisFor_54 rfl ?_
              refine x_icmp_neN C 63 dX12_axisFor_56 (by decide) (by omega) (by omega) (fun c56 => ?_) (fun c56 => ?_)
              · skip
                refine x_iconst C (-1) dX12_axisFor_63 rfl ?_
                refine x_iret C xr xk dX12_axisFor_64 ?_
                exact hK _ _ ⟨by unfold x_axFor; first | (exfalso; omega) | (simp [*]; done) | (subst_vars; rfl) | (subst_vars; simp [*]; done) | (subst_vars; decide) | (simp_all; done), rfl⟩
              · skip
                refine x_iconst C (nI 3) dX12_axisFor_59 rfl ?_
                refine x_goto C 64 dX12_axisFor_60 (by decide) ?_
                refine x_iret C xr xk dX12_axisFor_64 ?_
                exact hK _ _ ⟨by unfold x_axFor; first | (exfalso; omega) | (simp [*]; done) | (subst_vars; rfl) | (subst_vars; simp [*]; done) | (subst_vars; decide) | (simp_all; done), rfl⟩
          · skip
            refine x_iconst C (nI 0) dX12_axisFor_38 rfl ?_
            refine x_goto C 64 dX12_axisFor_39 (by decide) ?_
            refine x_iret C xr xk dX12_axisFor_64 ?_
            exact hK _ _ ⟨by unfold x_axFor; first | (exfalso; omega) | (simp [*]; done) | (subst_vars; rfl) | (subst_vars; simp [*]; done) | (subst_vars; decide) | (simp_all; done), rfl⟩
  · skip
    refine x_iconst C (nI 2) dX12_axisFor_7 rfl ?_
    refine x_iret C xr xk dX12_axisFor_8 ?_
    exact hK _ _ ⟨by unfold x_axFor; first | (exfalso; omega) | (simp [*]; done) | (subst_vars; rfl) | (subst_vars; simp [*]; done) | (subst_vars; decide) | (simp_all; done), rfl⟩
theorem c_X12_axisFor (l : Launch) (Y : x_Y) (σ : x_S) (su fi n : Nat) (h1 : σ.1 38 15 = nI su) (h2 : σ.1 38 16 = nI fi) (hn : n ≤ 6) (hs : su ≤ 6) (hf : fi ≤ 6) : x_M l yX12_axisFor cX12_axisFor 2 (some .int) 0 Y [.ref 38, .int (nI n)] σ (fun r τ => r = some (.int (x_axFor su fi n)) ∧ τ = σ) := c_X12_axisFor_K l Y σ su fi n h1 h2 hn hs hf _ (fun _ _ h => h)
set_option maxRecDepth 100000 in
set_option maxHeartbeats 200000 in
theorem c_X12_addShift_K (l : Launch) (Y : x_Y) (σ : x_S) (u v w q0 q1 q2 : Nat) (F : Nat → Int32) (hF : σ.1 47 = x_ml [nI q0, nI q1, nI q2] F) (h0 : q0 < 12) (h1 : q1 < 12) (h2 : q2 < 12) (hu : u < 12) (hv : v < 12) (hw : w < 12) (K : Option Value → x_S → Prop) (hK : ∀ (r : Option Value) (τ : x_S), (r = none ∧ τ = x_ui σ 47 (x_ml [nI ((q0 + u) % 12), nI ((q1 + v) % 12), nI ((q2 + w) % 12)] F)) → K r τ) : x_M l yX12_addShift cX12_addShift 4 none 1 Y [.ref 38, .int (nI u), .int (nI v), .int (nI w)] σ K := by
  refine x_start (by decide) (Nat.le_of_ble_eq_true rfl) ?_
  intro xp xe xs xm xg xb xt xc C xr xk
  refine x_aload_n C (i := 0) dX12_addShift_0 rfl rfl ?_
  refine x_aload_n C (i := 0) dX12_addShift_1 rfl rfl ?_
  refine x_getR C fr_38_14 kf_X12_35 dX12_addShift_2 ?_
  refine x_iconst C (nI 0) dX12_addShift_5 rfl ?_
  refine x_ialdN C (by decide) rfl (by decide) dX12_addShift_6 (by omega) ?_
  refine x_topI (y := nI q0) (by rw [hF]; rfl) ?_
  refine x_iload_n C (i := 1) dX12_addShift_7 rfl rfl ?_
  refine x_iaddN C dX12_addShift_8 ?_
  refine x_bipush C (nI 12) dX12_addShift_9 rfl ?_
  refine x_iremN C dX12_addShift_11 (by omega) (by omega) (by omega) ?_
  refine x_aload_n C (i := 0) dX12_addShift_12 rfl rfl ?_
  refine x_getR C fr_38_14 kf_X12_35 dX12_addShift_13 ?_
  refine x_iconst C (nI 1) dX12_addShift_16 rfl ?_
  refine x_ialdN C (by decide) rfl (by decide) dX12_addShift_17 (by omega) ?_
  refine x_topI (y := nI q1) (by rw [hF]; rfl) ?_
  refine x_iload_n C (i := 2) dX12_addShift_18 rfl rfl ?_
  refine x_iaddN C dX12_addShift_19 ?_
  refine x_bipush C (nI 12) dX12_addShift_20 rfl ?_
  refine x_iremN C dX12_addShift_22 (by omega) (by omega) (by omega) ?_
  refine x_aload_n C (i := 0) dX12_addShift_23 rfl rfl ?_
  refine x_getR C fr_38_14 kf_X12_35 dX12_addShift_24 ?_
  refine x_iconst C (nI 2) dX12_addShift_27 rfl ?_
  refine x_ialdN C (by decide) rfl (by decide) dX12_addShift_28 (by omega) ?_
  refine x_topI (y := nI q2) (by rw [hF]; rfl) ?_
  refine x_iload_n C (i := 3) dX12_addShift_29 rfl rfl ?_
  refine x_iaddN C dX12_addShift_30 ?_
  refine x_bipush C (nI 12) dX12_addShift_31 rfl ?_
  refine x_iremN C dX12_addShift_33 (by omega) (by omega) (by omega) ?_
  have hM := c_X12_setShift l Y σ (nI ((q0 + u) % 12)) (nI ((q1 + v) % 12)) (nI ((q2 + w) % 12))
  refine x_callV C (as := [.int (nI ((q0 + u) % 12)), .int (nI ((q1 + v) % 12)), .int (nI ((q2 + w) % 12))]) (st := []) (hM) kb_X12_setShift kv_X12_127 dX12_addShift_34 rfl rfl (Nat.le_of_ble_eq_true rfl) ⟨by decide, by decide⟩ ⟨by decide, by decide⟩ ko_38 ?_
  clear hM
  rintro _ _ ⟨rfl, rfl⟩
  refine x_vret C xr xk dX12_addShift_37 ?_
  exact hK _ _ ⟨rfl, by rw [hF]; exact x_ui_congr σ 47 (x_ml_ml _ _ _ (Nat.le_refl 3))⟩
theorem c_X12_addShift (l : Launch) (Y : x_Y) (σ : x_S) (u v w q0 q1 q2 : Nat) (F : Nat → Int32) (hF : σ.1 47 = x_ml [nI q0, nI q1, nI q2] F) (h0 : q0 < 12) (h1 : q1 < 12) (h2 : q2 < 12) (hu : u < 12) (hv : v < 12) (hw : w < 12) : x_M l yX12_addShift cX12_addShift 4 none 1 Y [.ref 38, .int (nI u), .int (nI v), .int (nI w)] σ (fun r τ => r = none ∧ τ = x_ui σ 47 (x_ml [nI ((q0 + u) % 12), nI ((q1 + v) % 12), nI ((q2 + w) % 12)] F)) := c_X12_addShift_K l Y σ u v w q0 q1 q2 F hF h0 h1 h2 hu hv hw _ (fun _ _ h => h)
