set_option maxRecDepth 100000 in
set_option maxHeartbeats 200000 in
theorem c_X12_multiply_K (l : Launch) (Y : x_Y) (σ : x_S) (la sa ga ha : List Int32) (i g : Nat) (hi : i < 193) (hg : g < 9) (hl : ∀ j, j < 9 → σ.1 42 (9 * i + j) = la.getD j 0) (hs : ∀ j, j < 3 → σ.1 43 (3 * i + j) = sa.getD j 0) (hG : ∀ j, j < 9 → σ.1 44 (9 * g + j) = ga.getD j 0) (hh : ∀ j, j < 3 → σ.1 45 (3 * g + j) = ha.getD j 0) (K : Option Value → x_S → Prop) (hK : ∀ (r : Option Value) (τ : x_S), (r = none ∧ τ = x_ui (x_ui σ 46 (x_ml (x_mul la ga) (σ.1 46))) 47 (x_ml (x_mus la sa ha) (σ.1 47))) → K r τ) : x_M l yX12_multiply cX12_multiply 7 none 0 Y [.ref 38, .int (nI i), .int (nI g)] σ K := by
  refine x_start (by decide) (Nat.le_of_ble_eq_true rfl) ?_
  intro xp xe xs xm xg xb xt xc C xr xk
  refine x_sig (σ' := x_ui (x_ui σ 46 (x_ml [] (σ.1 46))) 47 (x_ml [] (σ.1 47))) (by rw [x_ml_nil, x_ml_nil, x_ui_self]; exact (x_ui_self σ 47).symm) ?_
  refine x_iconst C (nI 0) dX12_multiply_0 rfl ?_
  refine x_istore_n C (i := 3) dX12_multiply_1 rfl (by decide) ?_
  refine x_iload_n C (i := 3) dX12_multiply_2 rfl rfl ?_
  refine x_iconst C (nI 3) dX12_multiply_3 rfl ?_
  refine x_icmp_geN C 175 dX12_multiply_4 (by decide) (by omega) (by omega) (fun c4 => absurd c4 (by decide)) (fun c4 => ?_)
  refine x_iconst C (nI 0) dX12_multiply_7 rfl ?_
  refine x_istore C (i := 4) dX12_multiply_8 (by decide) ?_
  refine x_iload C (i := 4) dX12_multiply_10 rfl ?_
  refine x_iconst C (nI 3) dX12_multiply_12 rfl ?_
  refine x_icmp_geN C 92 dX12_multiply_13 (by decide) (by omega) (by omega) (fun c13 => absurd c13 (by decide)) (fun c13 => ?_)
  refine x_iconst C (nI 0) dX12_multiply_16 rfl ?_
  refine x_istore C (i := 5) dX12_multiply_17 (by decide) ?_
  refine x_iconst C (nI 0) dX12_multiply_19 rfl ?_
  refine x_istore C (i := 6) dX12_multiply_20 (by decide) ?_
  refine x_iload C (i := 6) dX12_multiply_22 rfl ?_
  refine x_iconst C (nI 3) dX12_multiply_24 rfl ?_
  refine x_icmp_geN C 73 dX12_multiply_25 (by decide) (by omega) (by omega) (fun c25 => absurd c25 (by decide)) (fun c25 => ?_)
  refine x_iload C (i := 5) dX12_multiply_28 rfl ?_
  refine x_aload_n C (i := 0) dX12_multiply_30 rfl rfl ?_
  refine x_getR C fr_38_8 kf_X12_20 dX12_multiply_31 ?_
  refine x_bipush C (nI 9) dX12_multiply_34 rfl ?_
  refine x_iload_n C (i := 1) dX12_multiply_36 rfl rfl ?_
  refine x_imulN C dX12_multiply_37 ?_
  refine x_iconst C (nI 3) dX12_multiply_38 rfl ?_
  refine x_iload_n C (i := 3) dX12_multiply_39 rfl rfl ?_
  refine x_imulN C dX12_multiply_40 ?_
  refine x_iaddN C dX12_multiply_41 ?_
  refine x_iload C (i := 6) dX12_multiply_42 rfl ?_
  refine x_iaddN C dX12_multiply_44 ?_
  refine x_ialdN C (by decide) rfl (by decide) dX12_multiply_45 (by omega) ?_
  refine x_topI (y := la.getD 0 0) (hl 0 (by decide)) ?_
  refine x_aload_n C (i := 0) dX12_multiply_46 rfl rfl ?_
  refine x_getR C fr_38_11 kf_X12_26 dX12_multiply_47 ?_
  refine x_bipush C (nI 9) dX12_multiply_50 rfl ?_
  refine x_iload_n C (i := 2) dX12_multiply_52 rfl rfl ?_
  refine x_imulN C dX12_multiply_53 ?_
  refine x_iconst C (nI 3) dX12_multiply_54 rfl ?_
  refine x_iload C (i := 6) dX12_multiply_55 rfl ?_
  refine x_imulN C dX12_multiply_57 ?_
  refine x_iaddN C dX12_multiply_58 ?_
  refine x_iload C (i := 4) dX12_multiply_59 rfl ?_
  refine x_iaddN C dX12_multiply_61 ?_
  refine x_ialdN C (by decide) rfl (by decide) dX12_multiply_62 (by omega) ?_
  refine x_topI (y := ga.getD 0 0) (hG 0 (by decide)) ?_
  refine x_imul C dX12_multiply_63 ?_
  refine x_iadd C dX12_multiply_64 ?_
  refine x_istore C (i := 5) dX12_multiply_65 (by decide) ?_
  refine x_iincN C (i := 6) (b := 1) dX12_multiply_67 rfl rfl (by decide) ?_
  refine x_goto C 22 dX12_multiply_70 (by decide) ?_
  refine x_iload C (i := 6) dX12_multiply_22 rfl ?_
  refine x_iconst C (nI 3) dX12_multiply_24 rfl ?_
  refine x_icmp_geN C 73 dX12_multiply_25 (by decide) (by omega) (by omega) (fun c25 => absurd c25 (by decide)) (fun c25 => ?_)
  refine x_iload C (i := 5) dX12_multiply_28 rfl ?_
  refine x_aload_n C (i := 0) dX12_multiply_30 rfl rfl ?_
  refine x_getR C fr_38_8 kf_X12_20 dX12_multiply_31 ?_
  refine x_bipush C (nI 9) dX12_multiply_34 rfl ?_
  refine x_iload_n C (i := 1) dX12_multiply_36 rfl rfl ?_
  refine x_imulN C dX12_multiply_37 ?_
  refine x_iconst C (nI 3) dX12_multiply_38 rfl ?_
  refine x_iload_n C (i := 3) dX12_multiply_39 rfl rfl ?_
  refine x_imulN C dX12_multiply_40 ?_
  refine x_iaddN C dX12_multiply_41 ?_
  refine x_iload C (i := 6) dX12_multiply_42 rfl ?_
  refine x_iaddN C dX12_multiply_44 ?_
  refine x_ialdN C (by decide) rfl (by decide) dX12_multiply_45 (by omega) ?_
  refine x_topI (y := la.getD 1 0) (hl 1 (by decide)) ?_
  refine x_aload_n C (i := 0) dX12_multiply_46 rfl rfl ?_
  refine x_getR C fr_38_11 kf_X12_26 dX12_multiply_47 ?_
  refine x_bipush C (nI 9) dX12_multiply_50 rfl ?_
  refine x_iload_n C (i := 2) dX12_multiply_52 rfl rfl ?_
  refine x_imulN C dX12_multiply_53 ?_
  refine x_iconst C (nI 3) dX12_multiply_54 rfl ?_
  refine x_iload C (i := 6) dX12_multiply_55 rfl ?_
  refine x_imulN C dX12_multiply_57 ?_
  refine x_iaddN C dX12_multiply_58 ?_
  refine x_iload C (i := 4) dX12_multiply_59 rfl ?_
  refine x_iaddN C dX12_multiply_61 ?_
  refine x_ialdN C (by decide) rfl (by decide) dX12_multiply_62 (by omega) ?_
  refine x_topI (y := ga.getD 3 0) (hG 3 (by decide)) ?_
  refine x_imul C dX12_multiply_63 ?_
  refine x_iadd C dX12_multiply_64 ?_
  refine x_istore C (i := 5) dX12_multiply_65 (by decide) ?_
  refine x_iincN C (i := 6) (b := 1) dX12_multiply_67 rfl rfl (by decide) ?_
  refine x_goto C 22 dX12_multiply_70 (by decide) ?_
  refine x_iload C (i := 6) dX12_multiply_22 rfl ?_
  refine x_iconst C (nI 3) dX12_multiply_24 rfl ?_
  refine x_icmp_geN C 73 dX12_multiply_25 (by decide) (by omega) (by omega) (fun c25 => absurd c25 (by decide)) (fun c25 => ?_)
  refine x_iload C (i := 5) dX12_multiply_28 rfl ?_
  refine x_aload_n C (i := 0) dX12_multiply_30 rfl rfl ?_
  refine x_getR C fr_38_8 kf_X12_20 dX12_multiply_31 ?_
  refine x_bipush C (nI 9) dX12_multiply_34 rfl ?_
  refine x_iload_n C (i := 1) dX12_multiply_36 rfl rfl ?_
  refine x_imulN C dX12_multiply_37 ?_
  refine x_iconst C (nI 3) dX12_multiply_38 rfl ?_
  refine x_iload_n C (i := 3) dX12_multiply_39 rfl rfl ?_
  refine x_imulN C dX12_multiply_40 ?_
  refine x_iaddN C dX12_multiply_41 ?_
  refine x_iload C (i := 6) dX12_multiply_42 rfl ?_
  refine x_iaddN C dX12_multiply_44 ?_
  refine x_ialdN C (by decide) rfl (by decide) dX12_multiply_45 (by omega) ?_
  refine x_topI (y := la.getD 2 0) (hl 2 (by decide)) ?_
  refine x_aload_n C (i := 0) dX12_multiply_46 rfl rfl ?_
  refine x_getR C fr_38_11 kf_X12_26 dX12_multiply_47 ?_
  refine x_bipush C (nI 9) dX12_multiply_50 rfl ?_
  refine x_iload_n C (i := 2) dX12_multiply_52 rfl rfl ?_
  refine x_imulN C dX12_multiply_53 ?_
  refine x_iconst C (nI 3) dX12_multiply_54 rfl ?_
  refine x_iload C (i := 6) dX12_multiply_55 rfl ?_
  refine x_imulN C dX12_multiply_57 ?_
  refine x_iaddN C dX12_multiply_58 ?_
  refine x_iload C (i := 4) dX12_multiply_59 rfl ?_
  refine x_iaddN C dX12_multiply_61 ?_
  refine x_ialdN C (by decide) rfl (by decide) dX12_multiply_62 (by omega) ?_
  refine x_topI (y := ga.getD 6 0) (hG 6 (by decide)) ?_
  refine x_imul C dX12_multiply_63 ?_
  refine x_iadd C dX12_multiply_64 ?_
  refine x_istore C (i := 5) dX12_multiply_65 (by decide) ?_
  refine x_iincN C (i := 6) (b := 1) dX12_multiply_67 rfl rfl (by decide) ?_
  refine x_goto C 22 dX12_multiply_70 (by decide) ?_
  refine x_iload C (i := 6) dX12_multiply_22 rfl ?_
  refine x_iconst C (nI 3) dX12_multiply_24 rfl ?_
  refine x_icmp_geN C 73 dX12_multiply_25 (by decide) (by omega) (by omega) (fun c25 => ?_) (fun c25 => absurd c25 (by decide))
  refine x_aload_n C (i := 0) dX12_multiply_73 rfl rfl ?_
  refine x_getR C fr_38_13 kf_X12_32 dX12_multiply_74 ?_
  refine x_iconst C (nI 3) dX12_multiply_77 rfl ?_
  refine x_iload_n C (i := 3) dX12_multiply_78 rfl rfl ?_
  refine x_imulN C dX12_multiply_79 ?_
  refine x_iload C (i := 4) dX12_multiply_80 rfl ?_
  refine x_iaddN C dX12_multiply_82 ?_
  refine x_iload C (i := 5) dX12_multiply_83 rfl ?_
  refine x_topI (y := x_d3 la ga 0 0) rfl ?_
  refine x_iastN C (by decide) rfl (by decide) dX12_multiply_85 (by omega) ?_
  refine x_sig (σ' := x_ui (x_ui σ 46 (x_ml [x_d3 la ga 0 0] (σ.1 46))) 47 (x_ml [] (σ.1 47))) (by rw [x_ui_comm _ _ _ (by decide), x_u_of_ui, x_ui_comm _ _ _ (by decide)]; exact congrArg (fun z => x_ui (x_ui σ 46 z) 47 _) (x_ml_push [] (σ.1 46) _)) ?_
  refine x_iincN C (i := 4) (b := 1) dX12_multiply_86 rfl rfl (by decide) ?_
  refine x_goto C 10 dX12_multiply_89 (by decide) ?_
  refine x_iload C (i := 4) dX12_multiply_10 rfl ?_
  refine x_iconst C (nI 3) dX12_multiply_12 rfl ?_
  refine x_icmp_geN C 92 dX12_multiply_13 (by decide) (by omega) (by omega) (fun c13 => absurd c13 (by decide)) (fun c13 => ?_)
  refine x_iconst C (nI 0) dX12_multiply_16 rfl ?_
  refine x_istore C (i := 5) dX12_multiply_17 (by decide) ?_
  refine x_iconst C (nI 0) dX12_multiply_19 rfl ?_
  refine x_istore C (i := 6) dX12_multiply_20 (by decide) ?_
  refine x_iload C (i := 6) dX12_multiply_22 rfl ?_
  refine x_iconst C (nI 3) dX12_multiply_24 rfl ?_
  refine x_icmp_geN C 73 dX12_multiply_25 (by decide) (by omega) (by omega) (fun c25 => absurd c25 (by decide)) (fun c25 => ?_)
  refine x_iload C (i := 5) dX12_multiply_28 rfl ?_
  refine x_aload_n C (i := 0) dX12_multiply_30 rfl rfl ?_
  refine x_getR C fr_38_8 kf_X12_20 dX12_multiply_31 ?_
  refine x_bipush C (nI 9) dX12_multiply_34 rfl ?_
  refine x_iload_n C (i := 1) dX12_multiply_36 rfl rfl ?_
  refine x_imulN C dX12_multiply_37 ?_
  refine x_iconst C (nI 3) dX12_multiply_38 rfl ?_
  refine x_iload_n C (i := 3) dX12_multiply_39 rfl rfl ?_
  refine x_imulN C dX12_multiply_40 ?_
  refine x_iaddN C dX12_multiply_41 ?_
  refine x_iload C (i := 6) dX12_multiply_42 rfl ?_
  refine x_iaddN C dX12_multiply_44 ?_
  refine x_ialdN C (by decide) rfl (by decide) dX12_multiply_45 (by omega) ?_
  refine x_topI (y := la.getD 0 0) (hl 0 (by decide)) ?_
  refine x_aload_n C (i := 0) dX12_multiply_46 rfl rfl ?_
  refine x_getR C fr_38_11 kf_X12_26 dX12_multiply_47 ?_
  refine x_bipush C (nI 9) dX12_multiply_50 rfl ?_
  refine x_iload_n C (i := 2) dX12_multiply_52 rfl rfl ?_
  refine x_imulN C dX12_multiply_53 ?_
  refine x_iconst C (nI 3) dX12_multiply_54 rfl ?_
  refine x_iload C (i := 6) dX12_multiply_55 rfl ?_
  refine x_imulN C dX12_multiply_57 ?_
  refine x_iaddN C dX12_multiply_58 ?_
  refine x_iload C (i := 4) dX12_multiply_59 rfl ?_
  refine x_iaddN C dX12_multiply_61 ?_
  refine x_ialdN C (by decide) rfl (by decide) dX12_multiply_62 (by omega) ?_
  refine x_topI (y := ga.getD 1 0) (hG 1 (by decide)) ?_
  refine x_imul C dX12_multiply_63 ?_
  refine x_iadd C dX12_multiply_64 ?_
  refine x_istore C (i := 5) dX12_multiply_65 (by decide) ?_
  refine x_iincN C (i := 6) (b := 1) dX12_multiply_67 rfl rfl (by decide) ?_
  refine x_goto C 22 dX12_multiply_70 (by decide) ?_
  refine x_iload C (i := 6) dX12_multiply_22 rfl ?_
  refine x_iconst C (nI 3) dX12_multiply_24 rfl ?_
  refine x_icmp_geN C 73 dX12_multiply_25 (by decide) (by omega) (by omega) (fun c25 => absurd c25 (by decide)) (fun c25 => ?_)
  refine x_iload C (i := 5) dX12_multiply_28 rfl ?_
  refine x_aload_n C (i := 0) dX12_multiply_30 rfl rfl ?_
  refine x_getR C fr_38_8 kf_X12_20 dX12_multiply_31 ?_
  refine x_bipush C (nI 9) dX12_multiply_34 rfl ?_
  refine x_iload_n C (i := 1) dX12_multiply_36 rfl rfl ?_
  refine x_imulN C dX12_multiply_37 ?_
  refine x_iconst C (nI 3) dX12_multiply_38 rfl ?_
  refine x_iload_n C (i := 3) dX12_multiply_39 rfl rfl ?_
  refine x_imulN C dX12_multiply_40 ?_
  refine x_iaddN C dX12_multiply_41 ?_
  refine x_iload C (i := 6) dX12_multiply_42 rfl ?_
  refine x_iaddN C dX12_multiply_44 ?_
  refine x_ialdN C (by decide) rfl (by decide) dX12_multiply_45 (by omega) ?_
  refine x_topI (y := la.getD 1 0) (hl 1 (by decide)) ?_
  refine x_aload_n C (i := 0) dX12_multiply_46 rfl rfl ?_
  refine x_getR C fr_38_11 kf_X12_26 dX12_multiply_47 ?_
  refine x_bipush C (nI 9) dX12_multiply_50 rfl ?_
  refine x_iload_n C (i := 2) dX12_multiply_52 rfl rfl ?_
  refine x_imulN C dX12_multiply_53 ?_
  refine x_iconst C (nI 3) dX12_multiply_54 rfl ?_
  refine x_iload C (i := 6) dX12_multiply_55 rfl ?_
  refine x_imulN C dX12_multiply_57 ?_
  refine x_iaddN C dX12_multiply_58 ?_
  refine x_iload C (i := 4) dX12_multiply_59 rfl ?_
  refine x_iaddN C dX12_multiply_61 ?_
  refine x_ialdN C (by decide) rfl (by decide) dX12_multiply_62 (by omega) ?_
  refine x_topI (y := ga.getD 4 0) (hG 4 (by decide)) ?_
  refine x_imul C dX12_multiply_63 ?_
  refine x_iadd C dX12_multiply_64 ?_
  refine x_istore C (i := 5) dX12_multiply_65 (by decide) ?_
  refine x_iincN C (i := 6) (b := 1) dX12_multiply_67 rfl rfl (by decide) ?_
  refine x_goto C 22 dX12_multiply_70 (by decide) ?_
  refine x_iload C (i := 6) dX12_multiply_22 rfl ?_
  refine x_iconst C (nI 3) dX12_multiply_24 rfl ?_
  refine x_icmp_geN C 73 dX12_multiply_25 (by decide) (by omega) (by omega) (fun c25 => absurd c25 (by decide)) (fun c25 => ?_)
  refine x_iload C (i := 5) dX12_multiply_28 rfl ?_
  refine x_aload_n C (i := 0) dX12_multiply_30 rfl rfl ?_
  refine x_getR C fr_38_8 kf_X12_20 dX12_multiply_31 ?_
  refine x_bipush C (nI 9) dX12_multiply_34 rfl ?_
  refine x_iload_n C (i := 1) dX12_multiply_36 rfl rfl ?_
  refine x_imulN C dX12_multiply_37 ?_
  refine x_iconst C (nI 3) dX12_multiply_38 rfl ?_
  refine x_iload_n C (i := 3) dX12_multiply_39 rfl rfl ?_
  refine x_imulN C dX12_multiply_40 ?_
  refine x_iaddN C dX12_multiply_41 ?_
  refine x_iload C (i := 6) dX12_multiply_42 rfl ?_
  refine x_iaddN C dX12_multiply_44 ?_
  refine x_ialdN C (by decide) rfl (by decide) dX12_multiply_45 (by omega) ?_
  refine x_topI (y := la.getD 2 0) (hl 2 (by decide)) ?_
  refine x_aload_n C (i := 0) dX12_multiply_46 rfl rfl ?_
  refine x_getR C fr_38_11 kf_X12_26 dX12_multiply_47 ?_
  refine x_bipush C (nI 9) dX12_multiply_50 rfl ?_
  refine x_iload_n C (i := 2) dX12_multiply_52 rfl rfl ?_
  refine x_imulN C dX12_multiply_53 ?_
  refine x_iconst C (nI 3) dX12_multiply_54 rfl ?_
  refine x_iload C (i := 6) dX12_multiply_55 rfl ?_
  refine x_imulN C dX12_multiply_57 ?_
  refine x_iaddN C dX12_multiply_58 ?_
  refine x_iload C (i := 4) dX12_multiply_59 rfl ?_
  refine x_iaddN C dX12_multiply_61 ?_
  refine x_ialdN C (by decide) rfl (by decide) dX12_multiply_62 (by omega) ?_
  refine x_topI (y := ga.getD 7 0) (hG 7 (by decide)) ?_
  refine x_imul C dX12_multiply_63 ?_
  refine x_iadd C dX12_multiply_64 ?_
  refine x_istore C (i := 5) dX12_multiply_65 (by decide) ?_
  refine x_iincN C (i := 6) (b := 1) dX12_multiply_67 rfl rfl (by decide) ?_
  refine x_goto C 22 dX12_multiply_70 (by decide) ?_
  refine x_iload C (i := 6) dX12_multiply_22 rfl ?_
  refine x_iconst C (nI 3) dX12_multiply_24 rfl ?_
  refine x_icmp_geN C 73 dX12_multiply_25 (by decide) (by omega) (by omega) (fun c25 => ?_) (fun c25 => absurd c25 (by decide))
  refine x_aload_n C (i := 0) dX12_multiply_73 rfl rfl ?_
  refine x_getR C fr_38_13 kf_X12_32 dX12_multiply_74 ?_
  refine x_iconst C (nI 3) dX12_multiply_77 rfl ?_
  refine x_iload_n C (i := 3) dX12_multiply_78 rfl rfl ?_
  refine x_imulN C dX12_multiply_79 ?_
  refine x_iload C (i := 4) dX12_multiply_80 rfl ?_
  refine x_iaddN C dX12_multiply_82 ?_
  refine x_iload C (i := 5) dX12_multiply_83 rfl ?_
  refine x_topI (y := x_d3 la ga 0 1) rfl ?_
  refine x_iastN C (by decide) rfl (by decide) dX12_multiply_85 (by omega) ?_
  refine x_sig (σ' := x_ui (x_ui σ 46 (x_ml [x_d3 la ga 0 0, x_d3 la ga 0 1] (σ.1 46))) 47 (x_ml [] (σ.1 47))) (by rw [x_ui_comm _ _ _ (by decide), x_u_of_ui, x_ui_comm _ _ _ (by decide)]; exact congrArg (fun z => x_ui (x_ui σ 46 z) 47 _) (x_ml_push [x_d3 la ga 0 0] (σ.1 46) _)) ?_
  refine x_iincN C (i := 4) (b := 1) dX12_multiply_86 rfl rfl (by decide) ?_
  refine x_goto C 10 dX12_multiply_89 (by decide) ?_
  refine x_iload C (i := 4) dX12_multiply_10 rfl ?_
  refine x_iconst C (nI 3) dX12_multiply_12 rfl ?_
  refine x_icmp_geN C 92 dX12_multiply_13 (by decide) (by omega) (by omega) (fun c13 => absurd c13 (by decide)) (fun c13 => ?_)
  refine x_iconst C (nI 0) dX12_multiply_16 rfl ?_
  refine x_istore C (i := 5) dX12_multiply_17 (by decide) ?_
  refine x_iconst C (nI 0) dX12_multiply_19 rfl ?_
  refine x_istore C (i := 6) dX12_multiply_20 (by decide) ?_
  refine x_iload C (i := 6) dX12_multiply_22 rfl ?_
  refine x_iconst C (nI 3) dX12_multiply_24 rfl ?_
  refine x_icmp_geN C 73 dX12_multiply_25 (by decide) (by omega) (by omega) (fun c25 => absurd c25 (by decide)) (fun c25 => ?_)
  refine x_iload C (i := 5) dX12_multiply_28 rfl ?_
  refine x_aload_n C (i := 0) dX12_multiply_30 rfl rfl ?_
  refine x_getR C fr_38_8 kf_X12_20 dX12_multiply_31 ?_
  refine x_bipush C (nI 9) dX12_multiply_34 rfl ?_
  refine x_iload_n C (i := 1) dX12_multiply_36 rfl rfl ?_
  refine x_imulN C dX12_multiply_37 ?_
  refine x_iconst C (nI 3) dX12_multiply_38 rfl ?_
  refine x_iload_n C (i := 3) dX12_multiply_39 rfl rfl ?_
  refine x_imulN C dX12_multiply_40 ?_
  refine x_iaddN C dX12_multiply_41 ?_
  refine x_iload C (i := 6) dX12_multiply_42 rfl ?_
  refine x_iaddN C dX12_multiply_44 ?_
  refine x_ialdN C (by decide) rfl (by decide) dX12_multiply_45 (by omega) ?_
  refine x_topI (y := la.getD 0 0) (hl 0 (by decide)) ?_
  refine x_aload_n C (i := 0) dX12_multiply_46 rfl rfl ?_
  refine x_getR C fr_38_11 kf_X12_26 dX12_multiply_47 ?_
  refine x_bipush C (nI 9) dX12_multiply_50 rfl ?_
  refine x_iload_n C (i := 2) dX12_multiply_52 rfl rfl ?_
  refine x_imulN C dX12_multiply_53 ?_
  refine x_iconst C (nI 3) dX12_multiply_54 rfl ?_
  refine x_iload C (i := 6) dX12_multiply_55 rfl ?_
  refine x_imulN C dX12_multiply_57 ?_
  refine x_iaddN C dX12_multiply_58 ?_
  refine x_iload C (i := 4) dX12_multiply_59 rfl ?_
  refine x_iaddN C dX12_multiply_61 ?_
  refine x_ialdN C (by decide) rfl (by decide) dX12_multiply_62 (by omega) ?_
  refine x_topI (y := ga.getD 2 0) (hG 2 (by decide)) ?_
  refine x_imul C dX12_multiply_63 ?_
  refine x_iadd C dX12_multiply_64 ?_
  refine x_istore C (i := 5) dX12_multiply_65 (by decide) ?_
  refine x_iincN C (i := 6) (b := 1) dX12_multiply_67 rfl rfl (by decide) ?_
  refine x_goto C 22 dX12_multiply_70 (by decide) ?_
  refine x_iload C (i := 6) dX12_multiply_22 rfl ?_
  refine x_iconst C (nI 3) dX12_multiply_24 rfl ?_
  refine x_icmp_geN C 73 dX12_multiply_25 (by decide) (by omega) (by omega) (fun c25 => absurd c25 (by decide)) (fun c25 => ?_)
  refine x_iload C (i := 5) dX12_multiply_28 rfl ?_
  refine x_aload_n C (i := 0) dX12_multiply_30 rfl rfl ?_
  refine x_getR C fr_38_8 kf_X12_20 dX12_multiply_31 ?_
  refine x_bipush C (nI 9) dX12_multiply_34 rfl ?_
  refine x_iload_n C (i := 1) dX12_multiply_36 rfl rfl ?_
  refine x_imulN C dX12_multiply_37 ?_
  refine x_iconst C (nI 3) dX12_multiply_38 rfl ?_
  refine x_iload_n C (i := 3) dX12_multiply_39 rfl rfl ?_
  refine x_imulN C dX12_multiply_40 ?_
  refine x_iaddN C dX12_multiply_41 ?_
  refine x_iload C (i := 6) dX12_multiply_42 rfl ?_
  refine x_iaddN C dX12_multiply_44 ?_
  refine x_ialdN C (by decide) rfl (by decide) dX12_multiply_45 (by omega) ?_
  refine x_topI (y := la.getD 1 0) (hl 1 (by decide)) ?_
  refine x_aload_n C (i := 0) dX12_multiply_46 rfl rfl ?_
  refine x_getR C fr_38_11 kf_X12_26 dX12_multiply_47 ?_
  refine x_bipush C (nI 9) dX12_multiply_50 rfl ?_
  refine x_iload_n C (i := 2) dX12_multiply_52 rfl rfl ?_
  refine x_imulN C dX12_multiply_53 ?_
  refine x_iconst C (nI 3) dX12_multiply_54 rfl ?_
  refine x_iload C (i := 6) dX12_multiply_55 rfl ?_
  refine x_imulN C dX12_multiply_57 ?_
  refine x_iaddN C dX12_multiply_58 ?_
  refine x_iload C (i := 4) dX12_multiply_59 rfl ?_
  refine x_iaddN C dX12_multiply_61 ?_
  refine x_ialdN C (by decide) rfl (by decide) dX12_multiply_62 (by omega) ?_
  refine x_topI (y := ga.getD 5 0) (hG 5 (by decide)) ?_
  refine x_imul C dX12_multiply_63 ?_
  refine x_iadd C dX12_multiply_64 ?_
  refine x_istore C (i := 5) dX12_multiply_65 (by decide) ?_
  refine x_iincN C (i := 6) (b := 1) dX12_multiply_67 rfl rfl (by decide) ?_
  refine x_goto C 22 dX12_multiply_70 (by decide) ?_
  refine x_iload C (i := 6) dX12_multiply_22 rfl ?_
  refine x_iconst C (nI 3) dX12_multiply_24 rfl ?_
  refine x_icmp_geN C 73 dX12_multiply_25 (by decide) (by omega) (by omega) (fun c25 => absurd c25 (by decide)) (fun c25 => ?_)
  refine x_iload C (i := 5) dX12_multiply_28 rfl ?_
  refine x_aload_n C (i := 0) dX12_multiply_30 rfl rfl ?_
  refine x_getR C fr_38_8 kf_X12_20 dX12_multiply_31 ?_
  refine x_bipush C (nI 9) dX12_multiply_34 rfl ?_
  refine x_iload_n C (i := 1) dX12_multiply_36 rfl rfl ?_
  refine x_imulN C dX12_multiply_37 ?_
  refine x_iconst C (nI 3) dX12_multiply_38 rfl ?_
  refine x_iload_n C (i := 3) dX12_multiply_39 rfl rfl ?_
  refine x_imulN C dX12_multiply_40 ?_
  refine x_iaddN C dX12_multiply_41 ?_
  refine x_iload C (i := 6) dX12_multiply_42 rfl ?_
  refine x_iaddN C dX12_multiply_44 ?_
  refine x_ialdN C (by decide) rfl (by decide) dX12_multiply_45 (by omega) ?_
  refine x_topI (y := la.getD 2 0) (hl 2 (by decide)) ?_
  refine x_aload_n C (i := 0) dX12_multiply_46 rfl rfl ?_
  refine x_getR C fr_38_11 kf_X12_26 dX12_multiply_47 ?_
  refine x_bipush C (nI 9) dX12_multiply_50 rfl ?_
  refine x_iload_n C (i := 2) dX12_multiply_52 rfl rfl ?_
  refine x_imulN C dX12_multiply_53 ?_
  refine x_iconst C (nI 3) dX12_multiply_54 rfl ?_
  refine x_iload C (i := 6) dX12_multiply_55 rfl ?_
  refine x_imulN C dX12_multiply_57 ?_
  refine x_iaddN C dX12_multiply_58 ?_
  refine x_iload C (i := 4) dX12_multiply_59 rfl ?_
  refine x_iaddN C dX12_multiply_61 ?_
  refine x_ialdN C (by decide) rfl (by decide) dX12_multiply_62 (by omega) ?_
  refine x_topI (y := ga.getD 8 0) (hG 8 (by decide)) ?_
  refine x_imul C dX12_multiply_63 ?_
  refine x_iadd C dX12_multiply_64 ?_
  refine x_istore C (i := 5) dX12_multiply_65 (by decide) ?_
  refine x_iincN C (i := 6) (b := 1) dX12_multiply_67 rfl rfl (by decide) ?_
  refine x_goto C 22 dX12_multiply_70 (by decide) ?_
  refine x_iload C (i := 6) dX12_multiply_22 rfl ?_
  refine x_iconst C (nI 3) dX12_multiply_24 rfl ?_
  refine x_icmp_geN C 73 dX12_multiply_25 (by decide) (by omega) (by omega) (fun c25 => ?_) (fun c25 => absurd c25 (by decide))
  refine x_aload_n C (i := 0) dX12_multiply_73 rfl rfl ?_
  refine x_getR C fr_38_13 kf_X12_32 dX12_multiply_74 ?_
  refine x_iconst C (nI 3) dX12_multiply_77 rfl ?_
  refine x_iload_n C (i := 3) dX12_multiply_78 rfl rfl ?_
  refine x_imulN C dX12_multiply_79 ?_
  refine x_iload C (i := 4) dX12_multiply_80 rfl ?_
  refine x_iaddN C dX12_multiply_82 ?_
  refine x_iload C (i := 5) dX12_multiply_83 rfl ?_
  refine x_topI (y := x_d3 la ga 0 2) rfl ?_
  refine x_iastN C (by decide) rfl (by decide) dX12_multiply_85 (by omega) ?_
  refine x_sig (σ' := x_ui (x_ui σ 46 (x_ml [x_d3 la ga 0 0, x_d3 la ga 0 1, x_d3 la ga 0 2] (σ.1 46))) 47 (x_ml [] (σ.1 47))) (by rw [x_ui_comm _ _ _ (by decide), x_u_of_ui, x_ui_comm _ _ _ (by decide)]; exact congrArg (fun z => x_ui (x_ui σ 46 z) 47 _) (x_ml_push [x_d3 la ga 0 0, x_d3 la ga 0 1] (σ.1 46) _)) ?_
  refine x_iincN C (i := 4) (b := 1) dX12_multiply_86 rfl rfl (by decide) ?_
  refine x_goto C 10 dX12_multiply_89 (by decide) ?_
  refine x_iload C (i := 4) dX12_multiply_10 rfl ?_
  refine x_iconst C (nI 3) dX12_multiply_12 rfl ?_
  refine x_icmp_geN C 92 dX12_multiply_13 (by decide) (by omega) (by omega) (fun c13 => ?_) (fun c13 => absurd c13 (by decide))
  refine x_aload_n C (i := 0) dX12_multiply_92 rfl rfl ?_
  refine x_getR C fr_38_9 kf_X12_23 dX12_multiply_93 ?_
  refine x_iconst C (nI 3) dX12_multiply_96 rfl ?_
  refine x_iload_n C (i := 1) dX12_multiply_97 rfl rfl ?_
  refine x_imulN C dX12_multiply_98 ?_
  refine x_iload_n C (i := 3) dX12_multiply_99 rfl rfl ?_
  refine x_iaddN C dX12_multiply_100 ?_
  refine x_ialdN C (by decide) rfl (by decide) dX12_multiply_101 (by omega) ?_
  refine x_topI (y := sa.getD 0 0) (hs 0 (by decide)) ?_
  refine x_istore C (i := 4) dX12_multiply_102 (by decide) ?_
  refine x_iconst C (nI 0) dX12_multiply_104 rfl ?_
  refine x_istore C (i := 5) dX12_multiply_105 (by decide) ?_
  refine x_iload C (i := 5) dX12_multiply_107 rfl ?_
  refine x_iconst C (nI 3) dX12_multiply_109 rfl ?_
  refine x_icmp_geN C 152 dX12_multiply_110 (by decide) (by omega) (by omega) (fun c110 => absurd c110 (by decide)) (fun c110 => ?_)
  refine x_iload C (i := 4) dX12_multiply_113 rfl ?_
  refine x_aload_n C (i := 0) dX12_multiply_115 rfl rfl ?_
  refine x_getR C fr_38_8 kf_X12_20 dX12_multiply_116 ?_
  refine x_bipush C (nI 9) dX12_multiply_119 rfl ?_
  refine x_iload_n C (i := 1) dX12_multiply_121 rfl rfl ?_
  refine x_imulN C dX12_multiply_122 ?_
  refine x_iconst C (nI 3) dX12_multiply_123 rfl ?_
  refine x_iload_n C (i := 3) dX12_multiply_124 rfl rfl ?_
  refine x_imulN C dX12_multiply_125 ?_
  refine x_iaddN C dX12_multiply_126 ?_
  refine x_iload C (i := 5) dX12_multiply_127 rfl ?_
  refine x_iaddN C dX12_multiply_129 ?_
  refine x_ialdN C (by decide) rfl (by decide) dX12_multiply_130 (by omega) ?_
  refine x_topI (y := la.getD 0 0) (hl 0 (by decide)) ?_
  refine x_aload_n C (i := 0) dX12_multiply_131 rfl rfl ?_
  refine x_getR C fr_38_12 kf_X12_29 dX12_multiply_132 ?_
  refine x_iconst C (nI 3) dX12_multiply_135 rfl ?_
  refine x_iload_n C (i := 2) dX12_multiply_136 rfl rfl ?_
  refine x_imulN C dX12_multiply_137 ?_
  refine x_iload C (i := 5) dX12_multiply_138 rfl ?_
  refine x_iaddN C dX12_multiply_140 ?_
  refine x_ialdN C (by decide) rfl (by decide) dX12_multiply_141 (by omega) ?_
  refine x_topI (y := ha.getD 0 0) (hh 0 (by decide)) ?_
  refine x_imul C dX12_multiply_142 ?_
  refine x_iadd C dX12_multiply_143 ?_
  refine x_istore C (i := 4) dX12_multiply_144 (by decide) ?_
  refine x_iincN C (i := 5) (b := 1) dX12_multiply_146 rfl rfl (by decide) ?_
  refine x_goto C 107 dX12_multiply_149 (by decide) ?_
  refine x_iload C (i := 5) dX12_multiply_107 rfl ?_
  refine x_iconst C (nI 3) dX12_multiply_109 rfl ?_
  refine x_icmp_geN C 152 dX12_multiply_110 (by decide) (by omega) (by omega) (fun c110 => absurd c110 (by decide)) (fun c110 => ?_)
  refine x_iload C (i := 4) dX12_multiply_113 rfl ?_
  refine x_aload_n C (i := 0) dX12_multiply_115 rfl rfl ?_
  refine x_getR C fr_38_8 kf_X12_20 dX12_multiply_116 ?_
  refine x_bipush C (nI 9) dX12_multiply_119 rfl ?_
  refine x_iload_n C (i := 1) dX12_multiply_121 rfl rfl ?_
  refine x_imulN C dX12_multiply_122 ?_
  refine x_iconst C (nI 3) dX12_multiply_123 rfl ?_
  refine x_iload_n C (i := 3) dX12_multiply_124 rfl rfl ?_
  refine x_imulN C dX12_multiply_125 ?_
  refine x_iaddN C dX12_multiply_126 ?_
  refine x_iload C (i := 5) dX12_multiply_127 rfl ?_
  refine x_iaddN C dX12_multiply_129 ?_
  refine x_ialdN C (by decide) rfl (by decide) dX12_multiply_130 (by omega) ?_
  refine x_topI (y := la.getD 1 0) (hl 1 (by decide)) ?_
  refine x_aload_n C (i := 0) dX12_multiply_131 rfl rfl ?_
  refine x_getR C fr_38_12 kf_X12_29 dX12_multiply_132 ?_
  refine x_iconst C (nI 3) dX12_multiply_135 rfl ?_
  refine x_iload_n C (i := 2) dX12_multiply_136 rfl rfl ?_
  refine x_imulN C dX12_multiply_137 ?_
  refine x_iload C (i := 5) dX12_multiply_138 rfl ?_
  refine x_iaddN C dX12_multiply_140 ?_
  refine x_ialdN C (by decide) rfl (by decide) dX12_multiply_141 (by omega) ?_
  refine x_topI (y := ha.getD 1 0) (hh 1 (by decide)) ?_
  refine x_imul C dX12_multiply_142 ?_
  refine x_iadd C dX12_multiply_143 ?_
  refine x_istore C (i := 4) dX12_multiply_144 (by decide) ?_
  refine x_iincN C (i := 5) (b := 1) dX12_multiply_146 rfl rfl (by decide) ?_
  refine x_goto C 107 dX12_multiply_149 (by decide) ?_
  refine x_iload C (i := 5) dX12_multiply_107 rfl ?_
  refine x_iconst C (nI 3) dX12_multiply_109 rfl ?_
  refine x_icmp_geN C 152 dX12_multiply_110 (by decide) (by omega) (by omega) (fun c110 => absurd c110 (by decide)) (fun c110 => ?_)
  refine x_iload C (i := 4) dX12_multiply_113 rfl ?_
  refine x_aload_n C (i := 0) dX12_multiply_115 rfl rfl ?_
  refine x_getR C fr_38_8 kf_X12_20 dX12_multiply_116 ?_
  refine x_bipush C (nI 9) dX12_multiply_119 rfl ?_
  refine x_iload_n C (i := 1) dX12_multiply_121 rfl rfl ?_
  refine x_imulN C dX12_multiply_122 ?_
  refine x_iconst C (nI 3) dX12_multiply_123 rfl ?_
  refine x_iload_n C (i := 3) dX12_multiply_124 rfl rfl ?_
  refine x_imulN C dX12_multiply_125 ?_
  refine x_iaddN C dX12_multiply_126 ?_
  refine x_iload C (i := 5) dX12_multiply_127 rfl ?_
  refine x_iaddN C dX12_multiply_129 ?_
  refine x_ialdN C (by decide) rfl (by decide) dX12_multiply_130 (by omega) ?_
  refine x_topI (y := la.getD 2 0) (hl 2 (by decide)) ?_
  refine x_aload_n C (i := 0) dX12_multiply_131 rfl rfl ?_
  refine x_getR C fr_38_12 kf_X12_29 dX12_multiply_132 ?_
  refine x_iconst C (nI 3) dX12_multiply_135 rfl ?_
  refine x_iload_n C (i := 2) dX12_multiply_136 rfl rfl ?_
  refine x_imulN C dX12_multiply_137 ?_
  refine x_iload C (i := 5) dX12_multiply_138 rfl ?_
  refine x_iaddN C dX12_multiply_140 ?_
  refine x_ialdN C (by decide) rfl (by decide) dX12_multiply_141 (by omega) ?_
  refine x_topI (y := ha.getD 2 0) (hh 2 (by decide)) ?_
  refine x_imul C dX12_multiply_142 ?_
  refine x_iadd C dX12_multiply_143 ?_
  refine x_istore C (i := 4) dX12_multiply_144 (by decide) ?_
  refine x_iincN C (i := 5) (b := 1) dX12_multiply_146 rfl rfl (by decide) ?_
  refine x_goto C 107 dX12_multiply_149 (by decide) ?_
  refine x_iload C (i := 5) dX12_multiply_107 rfl ?_
  refine x_iconst C (nI 3) dX12_multiply_109 rfl ?_
  refine x_icmp_geN C 152 dX12_multiply_110 (by decide) (by omega) (by omega) (fun c110 => ?_) (fun c110 => absurd c110 (by decide))
  refine x_aload_n C (i := 0) dX12_multiply_152 rfl rfl ?_
  refine x_getR C fr_38_14 kf_X12_35 dX12_multiply_153 ?_
  refine x_iload_n C (i := 3) dX12_multiply_156 rfl rfl ?_
  refine x_iload C (i := 4) dX12_multiply_157 rfl ?_
  refine x_bipush C (nI 12) dX12_multiply_159 rfl ?_
  refine x_irem C dX12_multiply_161 (by decide) ?_
  refine x_bipush C (nI 12) dX12_multiply_162 rfl ?_
  refine x_iadd C dX12_multiply_164 ?_
  refine x_bipush C (nI 12) dX12_multiply_165 rfl ?_
  refine x_irem C dX12_multiply_167 (by decide) ?_
  refine x_topI (y := x_md12 (x_s3 la sa ha 0)) rfl ?_
  refine x_iastN C (by decide) rfl (by decide) dX12_multiply_168 (by omega) ?_
  refine x_sig (σ' := x_ui (x_ui σ 46 (x_ml [x_d3 la ga 0 0, x_d3 la ga 0 1, x_d3 la ga 0 2] (σ.1 46))) 47 (x_ml [x_md12 (x_s3 la sa ha 0)] (σ.1 47))) (by rw [x_u_of_ui]; exact congrArg (fun z => x_ui (x_ui σ 46 _) 47 z) (x_ml_push [] (σ.1 47) _)) ?_
  refine x_iincN C (i := 3) (b := 1) dX12_multiply_169 rfl rfl (by decide) ?_
  refine x_goto C 2 dX12_multiply_172 (by decide) ?_
  refine x_iload_n C (i := 3) dX12_multiply_2 rfl rfl ?_
  refine x_iconst C (nI 3) dX12_multiply_3 rfl ?_
  refine x_icmp_geN C 175 dX12_multiply_4 (by decide) (by omega) (by omega) (fun c4 => absurd c4 (by decide)) (fun c4 => ?_)
  refine x_iconst C (nI 0) dX12_multiply_7 rfl ?_
  refine x_istore C (i := 4) dX12_multiply_8 (by decide) ?_
  refine x_iload C (i := 4) dX12_multiply_10 rfl ?_
  refine x_iconst C (nI 3) dX12_multiply_12 rfl ?_
  refine x_icmp_geN C 92 dX12_multiply_13 (by decide) (by omega) (by omega) (fun c13 => absurd c13 (by decide)) (fun c13 => ?_)
  refine x_iconst C (nI 0) dX12_multiply_16 rfl ?_
  refine x_istore C (i := 5) dX12_multiply_17 (by decide) ?_
  refine x_iconst C (nI 0) dX12_multiply_19 rfl ?_
  refine x_istore C (i := 6) dX12_multiply_20 (by decide) ?_
  refine x_iload C (i := 6) dX12_multiply_22 rfl ?_
  refine x_iconst C (nI 3) dX12_multiply_24 rfl ?_
  refine x_icmp_geN C 73 dX12_multiply_25 (by decide) (by omega) (by omega) (fun c25 => absurd c25 (by decide)) (fun c25 => ?_)
  refine x_iload C (i := 5) dX12_multiply_28 rfl ?_
  refine x_aload_n C (i := 0) dX12_multiply_30 rfl rfl ?_
  refine x_getR C fr_38_8 kf_X12_20 dX12_multiply_31 ?_
  refine x_bipush C (nI 9) dX12_multiply_34 rfl ?_
  refine x_iload_n C (i := 1) dX12_multiply_36 rfl rfl ?_
  refine x_imulN C dX12_multiply_37 ?_
  refine x_iconst C (nI 3) dX12_multiply_38 rfl ?_
  refine x_iload_n C (i := 3) dX12_multiply_39 rfl rfl ?_
  refine x_imulN C dX12_multiply_40 ?_
  refine x_iaddN C dX12_multiply_41 ?_
  refine x_iload C (i := 6) dX12_multiply_42 rfl ?_
  refine x_iaddN C dX12_multiply_44 ?_
  refine x_ialdN C (by decide) rfl (by decide) dX12_multiply_45 (by omega) ?_
  refine x_topI (y := la.getD 3 0) (hl 3 (by decide)) ?_
  refine x_aload_n C (i := 0) dX12_multiply_46 rfl rfl ?_
  refine x_getR C fr_38_11 kf_X12_26 dX12_multiply_47 ?_
  refine x_bipush C (nI 9) dX12_multiply_50 rfl ?_
  refine x_iload_n C (i := 2) dX12_multiply_52 rfl rfl ?_
  refine x_imulN C dX12_multiply_53 ?_
  refine x_iconst C (nI 3) dX12_multiply_54 rfl ?_
  refine x_iload C (i := 6) dX12_multiply_55 rfl ?_
  refine x_imulN C dX12_multiply_57 ?_
  refine x_iaddN C dX12_multiply_58 ?_
  refine x_iload C (i := 4) dX12_multiply_59 rfl ?_
  refine x_iaddN C dX12_multiply_61 ?_
  refine x_ialdN C (by decide) rfl (by decide) dX12_multiply_62 (by omega) ?_
  refine x_topI (y := ga.getD 0 0) (hG 0 (by decide)) ?_
  refine x_imul C dX12_multiply_63 ?_
  refine x_iadd C dX12_multiply_64 ?_
  refine x_istore C (i := 5) dX12_multiply_65 (by decide) ?_
  refine x_iincN C (i := 6) (b := 1) dX12_multiply_67 rfl rfl (by decide) ?_
  refine x_goto C 22 dX12_multiply_70 (by decide) ?_
  refine x_iload C (i := 6) dX12_multiply_22 rfl ?_
  refine x_iconst C (nI 3) dX12_multiply_24 rfl ?_
  refine x_icmp_geN C 73 dX12_multiply_25 (by decide) (by omega) (by omega) (fun c25 => absurd c25 (by decide)) (fun c25 => ?_)
  refine x_iload C (i := 5) dX12_multiply_28 rfl ?_
  refine x_aload_n C (i := 0) dX12_multiply_30 rfl rfl ?_
  refine x_getR C fr_38_8 kf_X12_20 dX12_multiply_31 ?_
  refine x_bipush C (nI 9) dX12_multiply_34 rfl ?_
  refine x_iload_n C (i := 1) dX12_multiply_36 rfl rfl ?_
  refine x_imulN C dX12_multiply_37 ?_
  refine x_iconst C (nI 3) dX12_multiply_38 rfl ?_
  refine x_iload_n C (i := 3) dX12_multiply_39 rfl rfl ?_
  refine x_imulN C dX12_multiply_40 ?_
  refine x_iaddN C dX12_multiply_41 ?_
  refine x_iload C (i := 6) dX12_multiply_42 rfl ?_
  refine x_iaddN C dX12_multiply_44 ?_
  refine x_ialdN C (by decide) rfl (by decide) dX12_multiply_45 (by omega) ?_
  refine x_topI (y := la.getD 4 0) (hl 4 (by decide)) ?_
  refine x_aload_n C (i := 0) dX12_multiply_46 rfl rfl ?_
  refine x_getR C fr_38_11 kf_X12_26 dX12_multiply_47 ?_
  refine x_bipush C (nI 9) dX12_multiply_50 rfl ?_
  refine x_iload_n C (i := 2) dX12_multiply_52 rfl rfl ?_
  refine x_imulN C dX12_multiply_53 ?_
  refine x_iconst C (nI 3) dX12_multiply_54 rfl ?_
  refine x_iload C (i := 6) dX12_multiply_55 rfl ?_
  refine x_imulN C dX12_multiply_57 ?_
  refine x_iaddN C dX12_multiply_58 ?_
  refine x_iload C (i := 4) dX12_multiply_59 rfl ?_
  refine x_iaddN C dX12_multiply_61 ?_
  refine x_ialdN C (by decide) rfl (by decide) dX12_multiply_62 (by omega) ?_
  refine x_topI (y := ga.getD 3 0) (hG 3 (by decide)) ?_
  refine x_imul C dX12_multiply_63 ?_
  refine x_iadd C dX12_multiply_64 ?_
  refine x_istore C (i := 5) dX12_multiply_65 (by decide) ?_
  refine x_iincN C (i := 6) (b := 1) dX12_multiply_67 rfl rfl (by decide) ?_
  refine x_goto C 22 dX12_multiply_70 (by decide) ?_
  refine x_iload C (i := 6) dX12_multiply_22 rfl ?_
  refine x_iconst C (nI 3) dX12_multiply_24 rfl ?_
  refine x_icmp_geN C 73 dX12_multiply_25 (by decide) (by omega) (by omega) (fun c25 => absurd c25 (by decide)) (fun c25 => ?_)
  refine x_iload C (i := 5) dX12_multiply_28 rfl ?_
  refine x_aload_n C (i := 0) dX12_multiply_30 rfl rfl ?_
  refine x_getR C fr_38_8 kf_X12_20 dX12_multiply_31 ?_
  refine x_bipush C (nI 9) dX12_multiply_34 rfl ?_
  refine x_iload_n C (i := 1) dX12_multiply_36 rfl rfl ?_
  refine x_imulN C dX12_multiply_37 ?_
  refine x_iconst C (nI 3) dX12_multiply_38 rfl ?_
  refine x_iload_n C (i := 3) dX12_multiply_39 rfl rfl ?_
  refine x_imulN C dX12_multiply_40 ?_
  refine x_iaddN C dX12_multiply_41 ?_
  refine x_iload C (i := 6) dX12_multiply_42 rfl ?_
  refine x_iaddN C dX12_multiply_44 ?_
  refine x_ialdN C (by decide) rfl (by decide) dX12_multiply_45 (by omega) ?_
  refine x_topI (y := la.getD 5 0) (hl 5 (by decide)) ?_
  refine x_aload_n C (i := 0) dX12_multiply_46 rfl rfl ?_
  refine x_getR C fr_38_11 kf_X12_26 dX12_multiply_47 ?_
  refine x_bipush C (nI 9) dX12_multiply_50 rfl ?_
  refine x_iload_n C (i := 2) dX12_multiply_52 rfl rfl ?_
  refine x_imulN C dX12_multiply_53 ?_
  refine x_iconst C (nI 3) dX12_multiply_54 rfl ?_
  refine x_iload C (i := 6) dX12_multiply_55 rfl ?_
  refine x_imulN C dX12_multiply_57 ?_
  refine x_iaddN C dX12_multiply_58 ?_
  refine x_iload C (i := 4) dX12_multiply_59 rfl ?_
  refine x_iaddN C dX12_multiply_61 ?_
  refine x_ialdN C (by decide) rfl (by decide) dX12_multiply_62 (by omega) ?_
  refine x_topI (y := ga.getD 6 0) (hG 6 (by decide)) ?_
  refine x_imul C dX12_multiply_63 ?_
  refine x_iadd C dX12_multiply_64 ?_
  refine x_istore C (i := 5) dX12_multiply_65 (by decide) ?_
  refine x_iincN C (i := 6) (b := 1) dX12_multiply_67 rfl rfl (by decide) ?_
  refine x_goto C 22 dX12_multiply_70 (by decide) ?_
  refine x_iload C (i := 6) dX12_multiply_22 rfl ?_
  refine x_iconst C (nI 3) dX12_multiply_24 rfl ?_
  refine x_icmp_geN C 73 dX12_multiply_25 (by decide) (by omega) (by omega) (fun c25 => ?_) (fun c25 => absurd c25 (by decide))
  refine x_aload_n C (i := 0) dX12_multiply_73 rfl rfl ?_
  refine x_getR C fr_38_13 kf_X12_32 dX12_multiply_74 ?_
  refine x_iconst C (nI 3) dX12_multiply_77 rfl ?_
  refine x_iload_n C (i := 3) dX12_multiply_78 rfl rfl ?_
  refine x_imulN C dX12_multiply_79 ?_
  refine x_iload C (i := 4) dX12_multiply_80 rfl ?_
  refine x_iaddN C dX12_multiply_82 ?_
  refine x_iload C (i := 5) dX12_multiply_83 rfl ?_
  refine x_topI (y := x_d3 la ga 1 0) rfl ?_
  refine x_iastN C (by decide) rfl (by decide) dX12_multiply_85 (by omega) ?_
  refine x_sig (σ' := x_ui (x_ui σ 46 (x_ml [x_d3 la ga 0 0, x_d3 la ga 0 1, x_d3 la ga 0 2, x_d3 la ga 1 0] (σ.1 46))) 47 (x_ml [x_md12 (x_s3 la sa ha 0)] (σ.1 47))) (by rw [x_ui_comm _ _ _ (by decide), x_u_of_ui, x_ui_comm _ _ _ (by decide)]; exact congrArg (fun z => x_ui (x_ui σ 46 z) 47 _) (x_ml_push [x_d3 la ga 0 0, x_d3 la ga 0 1, x_d3 la ga 0 2] (σ.1 46) _)) ?_
  refine x_iincN C (i := 4) (b := 1) dX12_multiply_86 rfl rfl (by decide) ?_
  refine x_goto C 10 dX12_multiply_89 (by decide) ?_
  refine x_iload C (i := 4) dX12_multiply_10 rfl ?_
  refine x_iconst C (nI 3) dX12_multiply_12 rfl ?_
  refine x_icmp_geN C 92 dX12_multiply_13 (by decide) (by omega) (by omega) (fun c13 => absurd c13 (by decide)) (fun c13 => ?_)
  refine x_iconst C (nI 0) dX12_multiply_16 rfl ?_
  refine x_istore C (i := 5) dX12_multiply_17 (by decide) ?_
  refine x_iconst C (nI 0) dX12_multiply_19 rfl ?_
  refine x_istore C (i := 6) dX12_multiply_20 (by decide) ?_
  refine x_iload C (i := 6) dX12_multiply_22 rfl ?_
  refine x_iconst C (nI 3) dX12_multiply_24 rfl ?_
  refine x_icmp_geN C 73 dX12_multiply_25 (by decide) (by omega) (by omega) (fun c25 => absurd c25 (by decide)) (fun c25 => ?_)
  refine x_iload C (i := 5) dX12_multiply_28 rfl ?_
  refine x_aload_n C (i := 0) dX12_multiply_30 rfl rfl ?_
  refine x_getR C fr_38_8 kf_X12_20 dX12_multiply_31 ?_
  refine x_bipush C (nI 9) dX12_multiply_34 rfl ?_
  refine x_iload_n C (i := 1) dX12_multiply_36 rfl rfl ?_
  refine x_imulN C dX12_multiply_37 ?_
  refine x_iconst C (nI 3) dX12_multiply_38 rfl ?_
  refine x_iload_n C (i := 3) dX12_multiply_39 rfl rfl ?_
  refine x_imulN C dX12_multiply_40 ?_
  refine x_iaddN C dX12_multiply_41 ?_
  refine x_iload C (i := 6) dX12_multiply_42 rfl ?_
  refine x_iaddN C dX12_multiply_44 ?_
  refine x_ialdN C (by decide) rfl (by decide) dX12_multiply_45 (by omega) ?_
  refine x_topI (y := la.getD 3 0) (hl 3 (by decide)) ?_
  refine x_aload_n C (i := 0) dX12_multiply_46 rfl rfl ?_
  refine x_getR C fr_38_11 kf_X12_26 dX12_multiply_47 ?_
  refine x_bipush C (nI 9) dX12_multiply_50 rfl ?_
  refine x_iload_n C (i := 2) dX12_multiply_52 rfl rfl ?_
  refine x_imulN C dX12_multiply_53 ?_
  refine x_iconst C (nI 3) dX12_multiply_54 rfl ?_
  refine x_iload C (i := 6) dX12_multiply_55 rfl ?_
  refine x_imulN C dX12_multiply_57 ?_
  refine x_iaddN C dX12_multiply_58 ?_
  refine x_iload C (i := 4) dX12_multiply_59 rfl ?_
  refine x_iaddN C dX12_multiply_61 ?_
  refine x_ialdN C (by decide) rfl (by decide) dX12_multiply_62 (by omega) ?_
  refine x_topI (y := ga.getD 1 0) (hG 1 (by decide)) ?_
  refine x_imul C dX12_multiply_63 ?_
  refine x_iadd C dX12_multiply_64 ?_
  refine x_istore C (i := 5) dX12_multiply_65 (by decide) ?_
  refine x_iincN C (i := 6) (b := 1) dX12_multiply_67 rfl rfl (by decide) ?_
  refine x_goto C 22 dX12_multiply_70 (by decide) ?_
  refine x_iload C (i := 6) dX12_multiply_22 rfl ?_
  refine x_iconst C (nI 3) dX12_multiply_24 rfl ?_
  refine x_icmp_geN C 73 dX12_multiply_25 (by decide) (by omega) (by omega) (fun c25 => absurd c25 (by decide)) (fun c25 => ?_)
  refine x_iload C (i := 5) dX12_multiply_28 rfl ?_
  refine x_aload_n C (i := 0) dX12_multiply_30 rfl rfl ?_
  refine x_getR C fr_38_8 kf_X12_20 dX12_multiply_31 ?_
  refine x_bipush C (nI 9) dX12_multiply_34 rfl ?_
  refine x_iload_n C (i := 1) dX12_multiply_36 rfl rfl ?_
  refine x_imulN C dX12_multiply_37 ?_
  refine x_iconst C (nI 3) dX12_multiply_38 rfl ?_
  refine x_iload_n C (i := 3) dX12_multiply_39 rfl rfl ?_
  refine x_imulN C dX12_multiply_40 ?_
  refine x_iaddN C dX12_multiply_41 ?_
  refine x_iload C (i := 6) dX12_multiply_42 rfl ?_
  refine x_iaddN C dX12_multiply_44 ?_
  refine x_ialdN C (by decide) rfl (by decide) dX12_multiply_45 (by omega) ?_
  refine x_topI (y := la.getD 4 0) (hl 4 (by decide)) ?_
  refine x_aload_n C (i := 0) dX12_multiply_46 rfl rfl ?_
  refine x_getR C fr_38_11 kf_X12_26 dX12_multiply_47 ?_
  refine x_bipush C (nI 9) dX12_multiply_50 rfl ?_
  refine x_iload_n C (i := 2) dX12_multiply_52 rfl rfl ?_
  refine x_imulN C dX12_multiply_53 ?_
  refine x_iconst C (nI 3) dX12_multiply_54 rfl ?_
  refine x_iload C (i := 6) dX12_multiply_55 rfl ?_
  refine x_imulN C dX12_multiply_57 ?_
  refine x_iaddN C dX12_multiply_58 ?_
  refine x_iload C (i := 4) dX12_multiply_59 rfl ?_
  refine x_iaddN C dX12_multiply_61 ?_
  refine x_ialdN C (by decide) rfl (by decide) dX12_multiply_62 (by omega) ?_
  refine x_topI (y := ga.getD 4 0) (hG 4 (by decide)) ?_
  refine x_imul C dX12_multiply_63 ?_
  refine x_iadd C dX12_multiply_64 ?_
  refine x_istore C (i := 5) dX12_multiply_65 (by decide) ?_
  refine x_iincN C (i := 6) (b := 1) dX12_multiply_67 rfl rfl (by decide) ?_
  refine x_goto C 22 dX12_multiply_70 (by decide) ?_
  refine x_iload C (i := 6) dX12_multiply_22 rfl ?_
  refine x_iconst C (nI 3) dX12_multiply_24 rfl ?_
  refine x_icmp_geN C 73 dX12_multiply_25 (by decide) (by omega) (by omega) (fun c25 => absurd c25 (by decide)) (fun c25 => ?_)
  refine x_iload C (i := 5) dX12_multiply_28 rfl ?_
  refine x_aload_n C (i := 0) dX12_multiply_30 rfl rfl ?_
  refine x_getR C fr_38_8 kf_X12_20 dX12_multiply_31 ?_
  refine x_bipush C (nI 9) dX12_multiply_34 rfl ?_
  refine x_iload_n C (i := 1) dX12_multiply_36 rfl rfl ?_
  refine x_imulN C dX12_multiply_37 ?_
  refine x_iconst C (nI 3) dX12_multiply_38 rfl ?_
  refine x_iload_n C (i := 3) dX12_multiply_39 rfl rfl ?_
  refine x_imulN C dX12_multiply_40 ?_
  refine x_iaddN C dX12_multiply_41 ?_
  refine x_iload C (i := 6) dX12_multiply_42 rfl ?_
  refine x_iaddN C dX12_multiply_44 ?_
  refine x_ialdN C (by decide) rfl (by decide) dX12_multiply_45 (by omega) ?_
  refine x_topI (y := la.getD 5 0) (hl 5 (by decide)) ?_
  refine x_aload_n C (i := 0) dX12_multiply_46 rfl rfl ?_
  refine x_getR C fr_38_11 kf_X12_26 dX12_multiply_47 ?_
  refine x_bipush C (nI 9) dX12_multiply_50 rfl ?_
  refine x_iload_n C (i := 2) dX12_multiply_52 rfl rfl ?_
  refine x_imulN C dX12_multiply_53 ?_
  refine x_iconst C (nI 3) dX12_multiply_54 rfl ?_
  refine x_iload C (i := 6) dX12_multiply_55 rfl ?_
  refine x_imulN C dX12_multiply_57 ?_
  refine x_iaddN C dX12_multiply_58 ?_
  refine x_iload C (i := 4) dX12_multiply_59 rfl ?_
  refine x_iaddN C dX12_multiply_61 ?_
  refine x_ialdN C (by decide) rfl (by decide) dX12_multiply_62 (by omega) ?_
  refine x_topI (y := ga.getD 7 0) (hG 7 (by decide)) ?_
  refine x_imul C dX12_multiply_63 ?_
  refine x_iadd C dX12_multiply_64 ?_
  refine x_istore C (i := 5) dX12_multiply_65 (by decide) ?_
  refine x_iincN C (i := 6) (b := 1) dX12_multiply_67 rfl rfl (by decide) ?_
  refine x_goto C 22 dX12_multiply_70 (by decide) ?_
  refine x_iload C (i := 6) dX12_multiply_22 rfl ?_
  refine x_iconst C (nI 3) dX12_multiply_24 rfl ?_
  refine x_icmp_geN C 73 dX12_multiply_25 (by decide) (by omega) (by omega) (fun c25 => ?_) (fun c25 => absurd c25 (by decide))
  refine x_aload_n C (i := 0) dX12_multiply_73 rfl rfl ?_
  refine x_getR C fr_38_13 kf_X12_32 dX12_multiply_74 ?_
  refine x_iconst C (nI 3) dX12_multiply_77 rfl ?_
  refine x_iload_n C (i := 3) dX12_multiply_78 rfl rfl ?_
  refine x_imulN C dX12_multiply_79 ?_
  refine x_iload C (i := 4) dX12_multiply_80 rfl ?_
  refine x_iaddN C dX12_multiply_82 ?_
  refine x_iload C (i := 5) dX12_multiply_83 rfl ?_
  refine x_topI (y := x_d3 la ga 1 1) rfl ?_
  refine x_iastN C (by decide) rfl (by decide) dX12_multiply_85 (by omega) ?_
  refine x_sig (σ' := x_ui (x_ui σ 46 (x_ml [x_d3 la ga 0 0, x_d3 la ga 0 1, x_d3 la ga 0 2, x_d3 la ga 1 0, x_d3 la ga 1 1] (σ.1 46))) 47 (x_ml [x_md12 (x_s3 la sa ha 0)] (σ.1 47))) (by rw [x_ui_comm _ _ _ (by decide), x_u_of_ui, x_ui_comm _ _ _ (by decide)]; exact congrArg (fun z => x_ui (x_ui σ 46 z) 47 _) (x_ml_push [x_d3 la ga 0 0, x_d3 la ga 0 1, x_d3 la ga 0 2, x_d3 la ga 1 0] (σ.1 46) _)) ?_
  refine x_iincN C (i := 4) (b := 1) dX12_multiply_86 rfl rfl (by decide) ?_
  refine x_goto C 10 dX12_multiply_89 (by decide) ?_
  refine x_iload C (i := 4) dX12_multiply_10 rfl ?_
  refine x_iconst C (nI 3) dX12_multiply_12 rfl ?_
  refine x_icmp_geN C 92 dX12_multiply_13 (by decide) (by omega) (by omega) (fun c13 => absurd c13 (by decide)) (fun c13 => ?_)
  refine x_iconst C (nI 0) dX12_multiply_16 rfl ?_
  refine x_istore C (i := 5) dX12_multiply_17 (by decide) ?_
  refine x_iconst C (nI 0) dX12_multiply_19 rfl ?_
  refine x_istore C (i := 6) dX12_multiply_20 (by decide) ?_
  refine x_iload C (i := 6) dX12_multiply_22 rfl ?_
  refine x_iconst C (nI 3) dX12_multiply_24 rfl ?_
  refine x_icmp_geN C 73 dX12_multiply_25 (by decide) (by omega) (by omega) (fun c25 => absurd c25 (by decide)) (fun c25 => ?_)
  refine x_iload C (i := 5) dX12_multiply_28 rfl ?_
  refine x_aload_n C (i := 0) dX12_multiply_30 rfl rfl ?_
  refine x_getR C fr_38_8 kf_X12_20 dX12_multiply_31 ?_
  refine x_bipush C (nI 9) dX12_multiply_34 rfl ?_
  refine x_iload_n C (i := 1) dX12_multiply_36 rfl rfl ?_
  refine x_imulN C dX12_multiply_37 ?_
  refine x_iconst C (nI 3) dX12_multiply_38 rfl ?_
  refine x_iload_n C (i := 3) dX12_multiply_39 rfl rfl ?_
  refine x_imulN C dX12_multiply_40 ?_
  refine x_iaddN C dX12_multiply_41 ?_
  refine x_iload C (i := 6) dX12_multiply_42 rfl ?_
  refine x_iaddN C dX12_multiply_44 ?_
  refine x_ialdN C (by decide) rfl (by decide) dX12_multiply_45 (by omega) ?_
  refine x_topI (y := la.getD 3 0) (hl 3 (by decide)) ?_
  refine x_aload_n C (i := 0) dX12_multiply_46 rfl rfl ?_
  refine x_getR C fr_38_11 kf_X12_26 dX12_multiply_47 ?_
  refine x_bipush C (nI 9) dX12_multiply_50 rfl ?_
  refine x_iload_n C (i := 2) dX12_multiply_52 rfl rfl ?_
  refine x_imulN C dX12_multiply_53 ?_
  refine x_iconst C (nI 3) dX12_multiply_54 rfl ?_
  refine x_iload C (i := 6) dX12_multiply_55 rfl ?_
  refine x_imulN C dX12_multiply_57 ?_
  refine x_iaddN C dX12_multiply_58 ?_
  refine x_iload C (i := 4) dX12_multiply_59 rfl ?_
  refine x_iaddN C dX12_multiply_61 ?_
  refine x_ialdN C (by decide) rfl (by decide) dX12_multiply_62 (by omega) ?_
  refine x_topI (y := ga.getD 2 0) (hG 2 (by decide)) ?_
  refine x_imul C dX12_multiply_63 ?_
  refine x_iadd C dX12_multiply_64 ?_
  refine x_istore C (i := 5) dX12_multiply_65 (by decide) ?_
  refine x_iincN C (i := 6) (b := 1) dX12_multiply_67 rfl rfl (by decide) ?_
  refine x_goto C 22 dX12_multiply_70 (by decide) ?_
  refine x_iload C (i := 6) dX12_multiply_22 rfl ?_
  refine x_iconst C (nI 3) dX12_multiply_24 rfl ?_
  refine x_icmp_geN C 73 dX12_multiply_25 (by decide) (by omega) (by omega) (fun c25 => absurd c25 (by decide)) (fun c25 => ?_)
  refine x_iload C (i := 5) dX12_multiply_28 rfl ?_
  refine x_aload_n C (i := 0) dX12_multiply_30 rfl rfl ?_
  refine x_getR C fr_38_8 kf_X12_20 dX12_multiply_31 ?_
  refine x_bipush C (nI 9) dX12_multiply_34 rfl ?_
  refine x_iload_n C (i := 1) dX12_multiply_36 rfl rfl ?_
  refine x_imulN C dX12_multiply_37 ?_
  refine x_iconst C (nI 3) dX12_multiply_38 rfl ?_
  refine x_iload_n C (i := 3) dX12_multiply_39 rfl rfl ?_
  refine x_imulN C dX12_multiply_40 ?_
  refine x_iaddN C dX12_multiply_41 ?_
  refine x_iload C (i := 6) dX12_multiply_42 rfl ?_
  refine x_iaddN C dX12_multiply_44 ?_
  refine x_ialdN C (by decide) rfl (by decide) dX12_multiply_45 (by omega) ?_
  refine x_topI (y := la.getD 4 0) (hl 4 (by decide)) ?_
  refine x_aload_n C (i := 0) dX12_multiply_46 rfl rfl ?_
  refine x_getR C fr_38_11 kf_X12_26 dX12_multiply_47 ?_
  refine x_bipush C (nI 9) dX12_multiply_50 rfl ?_
  refine x_iload_n C (i := 2) dX12_multiply_52 rfl rfl ?_
  refine x_imulN C dX12_multiply_53 ?_
  refine x_iconst C (nI 3) dX12_multiply_54 rfl ?_
  refine x_iload C (i := 6) dX12_multiply_55 rfl ?_
  refine x_imulN C dX12_multiply_57 ?_
  refine x_iaddN C dX12_multiply_58 ?_
  refine x_iload C (i := 4) dX12_multiply_59 rfl ?_
  refine x_iaddN C dX12_multiply_61 ?_
  refine x_ialdN C (by decide) rfl (by decide) dX12_multiply_62 (by omega) ?_
  refine x_topI (y := ga.getD 5 0) (hG 5 (by decide)) ?_
  refine x_imul C dX12_multiply_63 ?_
  refine x_iadd C dX12_multiply_64 ?_
  refine x_istore C (i := 5) dX12_multiply_65 (by decide) ?_
  refine x_iincN C (i := 6) (b := 1) dX12_multiply_67 rfl rfl (by decide) ?_
  refine x_goto C 22 dX12_multiply_70 (by decide) ?_
  refine x_iload C (i := 6) dX12_multiply_22 rfl ?_
  refine x_iconst C (nI 3) dX12_multiply_24 rfl ?_
  refine x_icmp_geN C 73 dX12_multiply_25 (by decide) (by omega) (by omega) (fun c25 => absurd c25 (by decide)) (fun c25 => ?_)
  refine x_iload C (i := 5) dX12_multiply_28 rfl ?_
  refine x_aload_n C (i := 0) dX12_multiply_30 rfl rfl ?_
  refine x_getR C fr_38_8 kf_X12_20 dX12_multiply_31 ?_
  refine x_bipush C (nI 9) dX12_multiply_34 rfl ?_
  refine x_iload_n C (i := 1) dX12_multiply_36 rfl rfl ?_
  refine x_imulN C dX12_multiply_37 ?_
  refine x_iconst C (nI 3) dX12_multiply_38 rfl ?_
  refine x_iload_n C (i := 3) dX12_multiply_39 rfl rfl ?_
  refine x_imulN C dX12_multiply_40 ?_
  refine x_iaddN C dX12_multiply_41 ?_
  refine x_iload C (i := 6) dX12_multiply_42 rfl ?_
  refine x_iaddN C dX12_multiply_44 ?_
  refine x_ialdN C (by decide) rfl (by decide) dX12_multiply_45 (by omega) ?_
  refine x_topI (y := la.getD 5 0) (hl 5 (by decide)) ?_
  refine x_aload_n C (i := 0) dX12_multiply_46 rfl rfl ?_
  refine x_getR C fr_38_11 kf_X12_26 dX12_multiply_47 ?_
  refine x_bipush C (nI 9) dX12_multiply_50 rfl ?_
  refine x_iload_n C (i := 2) dX12_multiply_52 rfl rfl ?_
  refine x_imulN C dX12_multiply_53 ?_
  refine x_iconst C (nI 3) dX12_multiply_54 rfl ?_
  refine x_iload C (i := 6) dX12_multiply_55 rfl ?_
  refine x_imulN C dX12_multiply_57 ?_
  refine x_iaddN C dX12_multiply_58 ?_
  refine x_iload C (i := 4) dX12_multiply_59 rfl ?_
  refine x_iaddN C dX12_multiply_61 ?_
  refine x_ialdN C (by decide) rfl (by decide) dX12_multiply_62 (by omega) ?_
  refine x_topI (y := ga.getD 8 0) (hG 8 (by decide)) ?_
  refine x_imul C dX12_multiply_63 ?_
  refine x_iadd C dX12_multiply_64 ?_
  refine x_istore C (i := 5) dX12_multiply_65 (by decide) ?_
  refine x_iincN C (i := 6) (b := 1) dX12_multiply_67 rfl rfl (by decide) ?_
  refine x_goto C 22 dX12_multiply_70 (by decide) ?_
  refine x_iload C (i := 6) dX12_multiply_22 rfl ?_
  refine x_iconst C (nI 3) dX12_multiply_24 rfl ?_
  refine x_icmp_geN C 73 dX12_multiply_25 (by decide) (by omega) (by omega) (fun c25 => ?_) (fun c25 => absurd c25 (by decide))
  refine x_aload_n C (i := 0) dX12_multiply_73 rfl rfl ?_
  refine x_getR C fr_38_13 kf_X12_32 dX12_multiply_74 ?_
  refine x_iconst C (nI 3) dX12_multiply_77 rfl ?_
  refine x_iload_n C (i := 3) dX12_multiply_78 rfl rfl ?_
  refine x_imulN C dX12_multiply_79 ?_
  refine x_iload C (i := 4) dX12_multiply_80 rfl ?_
  refine x_iaddN C dX12_multiply_82 ?_
  refine x_iload C (i := 5) dX12_multiply_83 rfl ?_
  refine x_topI (y := x_d3 la ga 1 2) rfl ?_
  refine x_iastN C (by decide) rfl (by decide) dX12_multiply_85 (by omega) ?_
  refine x_sig (σ' := x_ui (x_ui σ 46 (x_ml [x_d3 la ga 0 0, x_d3 la ga 0 1, x_d3 la ga 0 2, x_d3 la ga 1 0, x_d3 la ga 1 1, x_d3 la ga 1 2] (σ.1 46))) 47 (x_ml [x_md12 (x_s3 la sa ha 0)] (σ.1 47))) (by rw [x_ui_comm _ _ _ (by decide), x_u_of_ui, x_ui_comm _ _ _ (by decide)]; exact congrArg (fun z => x_ui (x_ui σ 46 z) 47 _) (x_ml_push [x_d3 la ga 0 0, x_d3 la ga 0 1, x_d3 la ga 0 2, x_d3 la ga 1 0, x_d3 la ga 1 1] (σ.1 46) _)) ?_
  refine x_iincN C (i := 4) (b := 1) dX12_multiply_86 rfl rfl (by decide) ?_
  refine x_goto C 10 dX12_multiply_89 (by decide) ?_
  refine x_iload C (i := 4) dX12_multiply_10 rfl ?_
  refine x_iconst C (nI 3) dX12_multiply_12 rfl ?_
  refine x_icmp_geN C 92 dX12_multiply_13 (by decide) (by omega) (by omega) (fun c13 => ?_) (fun c13 => absurd c13 (by decide))
  refine x_aload_n C (i := 0) dX12_multiply_92 rfl rfl ?_
  refine x_getR C fr_38_9 kf_X12_23 dX12_multiply_93 ?_
  refine x_iconst C (nI 3) dX12_multiply_96 rfl ?_
  refine x_iload_n C (i := 1) dX12_multiply_97 rfl rfl ?_
  refine x_imulN C dX12_multiply_98 ?_
  refine x_iload_n C (i := 3) dX12_multiply_99 rfl rfl ?_
  refine x_iaddN C dX12_multiply_100 ?_
  refine x_ialdN C (by decide) rfl (by decide) dX12_multiply_101 (by omega) ?_
  refine x_topI (y := sa.getD 1 0) (hs 1 (by decide)) ?_
  refine x_istore C (i := 4) dX12_multiply_102 (by decide) ?_
  refine x_iconst C (nI 0) dX12_multiply_104 rfl ?_
  refine x_istore C (i := 5) dX12_multiply_105 (by decide) ?_
  refine x_iload C (i := 5) dX12_multiply_107 rfl ?_
  refine x_iconst C (nI 3) dX12_multiply_109 rfl ?_
  refine x_icmp_geN C 152 dX12_multiply_110 (by decide) (by omega) (by omega) (fun c110 => absurd c110 (by decide)) (fun c110 => ?_)
  refine x_iload C (i := 4) dX12_multiply_113 rfl ?_
  refine x_aload_n C (i := 0) dX12_multiply_115 rfl rfl ?_
  refine x_getR C fr_38_8 kf_X12_20 dX12_multiply_116 ?_
  refine x_bipush C (nI 9) dX12_multiply_119 rfl ?_
  refine x_iload_n C (i := 1) dX12_multiply_121 rfl rfl ?_
  refine x_imulN C dX12_multiply_122 ?_
  refine x_iconst C (nI 3) dX12_multiply_123 rfl ?_
  refine x_iload_n C (i := 3) dX12_multiply_124 rfl rfl ?_
  refine x_imulN C dX12_multiply_125 ?_
  refine x_iaddN C dX12_multiply_126 ?_
  refine x_iload C (i := 5) dX12_multiply_127 rfl ?_
  refine x_iaddN C dX12_multiply_129 ?_
  refine x_ialdN C (by decide) rfl (by decide) dX12_multiply_130 (by omega) ?_
  refine x_topI (y := la.getD 3 0) (hl 3 (by decide)) ?_
  refine x_aload_n C (i := 0) dX12_multiply_131 rfl rfl ?_
  refine x_getR C fr_38_12 kf_X12_29 dX12_multiply_132 ?_
  refine x_iconst C (nI 3) dX12_multiply_135 rfl ?_
  refine x_iload_n C (i := 2) dX12_multiply_136 rfl rfl ?_
  refine x_imulN C dX12_multiply_137 ?_
  refine x_iload C (i := 5) dX12_multiply_138 rfl ?_
  refine x_iaddN C dX12_multiply_140 ?_
  refine x_ialdN C (by decide) rfl (by decide) dX12_multiply_141 (by omega) ?_
  refine x_topI (y := ha.getD 0 0) (hh 0 (by decide)) ?_
  refine x_imul C dX12_multiply_142 ?_
  refine x_iadd C dX12_multiply_143 ?_
  refine x_istore C (i := 4) dX12_multiply_144 (by decide) ?_
  refine x_iincN C (i := 5) (b := 1) dX12_multiply_146 rfl rfl (by decide) ?_
  refine x_goto C 107 dX12_multiply_149 (by decide) ?_
  refine x_iload C (i := 5) dX12_multiply_107 rfl ?_
  refine x_iconst C (nI 3) dX12_multiply_109 rfl ?_
  refine x_icmp_geN C 152 dX12_multiply_110 (by decide) (by omega) (by omega) (fun c110 => absurd c110 (by decide)) (fun c110 => ?_)
  refine x_iload C (i := 4) dX12_multiply_113 rfl ?_
  refine x_aload_n C (i := 0) dX12_multiply_115 rfl rfl ?_
  refine x_getR C fr_38_8 kf_X12_20 dX12_multiply_116 ?_
  refine x_bipush C (nI 9) dX12_multiply_119 rfl ?_
  refine x_iload_n C (i := 1) dX12_multiply_121 rfl rfl ?_
  refine x_imulN C dX12_multiply_122 ?_
  refine x_iconst C (nI 3) dX12_multiply_123 rfl ?_
  refine x_iload_n C (i := 3) dX12_multiply_124 rfl rfl ?_
  refine x_imulN C dX12_multiply_125 ?_
  refine x_iaddN C dX12_multiply_126 ?_
  refine x_iload C (i := 5) dX12_multiply_127 rfl ?_
  refine x_iaddN C dX12_multiply_129 ?_
  refine x_ialdN C (by decide) rfl (by decide) dX12_multiply_130 (by omega) ?_
  refine x_topI (y := la.getD 4 0) (hl 4 (by decide)) ?_
  refine x_aload_n C (i := 0) dX12_multiply_131 rfl rfl ?_
  refine x_getR C fr_38_12 kf_X12_29 dX12_multiply_132 ?_
  refine x_iconst C (nI 3) dX12_multiply_135 rfl ?_
  refine x_iload_n C (i := 2) dX12_multiply_136 rfl rfl ?_
  refine x_imulN C dX12_multiply_137 ?_
  refine x_iload C (i := 5) dX12_multiply_138 rfl ?_
  refine x_iaddN C dX12_multiply_140 ?_
  refine x_ialdN C (by decide) rfl (by decide) dX12_multiply_141 (by omega) ?_
  refine x_topI (y := ha.getD 1 0) (hh 1 (by decide)) ?_
  refine x_imul C dX12_multiply_142 ?_
  refine x_iadd C dX12_multiply_143 ?_
  refine x_istore C (i := 4) dX12_multiply_144 (by decide) ?_
  refine x_iincN C (i := 5) (b := 1) dX12_multiply_146 rfl rfl (by decide) ?_
  refine x_goto C 107 dX12_multiply_149 (by decide) ?_
  refine x_iload C (i := 5) dX12_multiply_107 rfl ?_
  refine x_iconst C (nI 3) dX12_multiply_109 rfl ?_
  refine x_icmp_geN C 152 dX12_multiply_110 (by decide) (by omega) (by omega) (fun c110 => absurd c110 (by decide)) (fun c110 => ?_)
  refine x_iload C (i := 4) dX12_multiply_113 rfl ?_
  refine x_aload_n C (i := 0) dX12_multiply_115 rfl rfl ?_
  refine x_getR C fr_38_8 kf_X12_20 dX12_multiply_116 ?_
  refine x_bipush C (nI 9) dX12_multiply_119 rfl ?_
  refine x_iload_n C (i := 1) dX12_multiply_121 rfl rfl ?_
  refine x_imulN C dX12_multiply_122 ?_
  refine x_iconst C (nI 3) dX12_multiply_123 rfl ?_
  refine x_iload_n C (i := 3) dX12_multiply_124 rfl rfl ?_
  refine x_imulN C dX12_multiply_125 ?_
  refine x_iaddN C dX12_multiply_126 ?_
  refine x_iload C (i := 5) dX12_multiply_127 rfl ?_
  refine x_iaddN C dX12_multiply_129 ?_
  refine x_ialdN C (by decide) rfl (by decide) dX12_multiply_130 (by omega) ?_
  refine x_topI (y := la.getD 5 0) (hl 5 (by decide)) ?_
  refine x_aload_n C (i := 0) dX12_multiply_131 rfl rfl ?_
  refine x_getR C fr_38_12 kf_X12_29 dX12_multiply_132 ?_
  refine x_iconst C (nI 3) dX12_multiply_135 rfl ?_
  refine x_iload_n C (i := 2) dX12_multiply_136 rfl rfl ?_
  refine x_imulN C dX12_multiply_137 ?_
  refine x_iload C (i := 5) dX12_multiply_138 rfl ?_
  refine x_iaddN C dX12_multiply_140 ?_
  refine x_ialdN C (by decide) rfl (by decide) dX12_multiply_141 (by omega) ?_
  refine x_topI (y := ha.getD 2 0) (hh 2 (by decide)) ?_
  refine x_imul C dX12_multiply_142 ?_
  refine x_iadd C dX12_multiply_143 ?_
  refine x_istore C (i := 4) dX12_multiply_144 (by decide) ?_
  refine x_iincN C (i := 5) (b := 1) dX12_multiply_146 rfl rfl (by decide) ?_
  refine x_goto C 107 dX12_multiply_149 (by decide) ?_
  refine x_iload C (i := 5) dX12_multiply_107 rfl ?_
  refine x_iconst C (nI 3) dX12_multiply_109 rfl ?_
  refine x_icmp_geN C 152 dX12_multiply_110 (by decide) (by omega) (by omega) (fun c110 => ?_) (fun c110 => absurd c110 (by decide))
  refine x_aload_n C (i := 0) dX12_multiply_152 rfl rfl ?_
  refine x_getR C fr_38_14 kf_X12_35 dX12_multiply_153 ?_
  refine x_iload_n C (i := 3) dX12_multiply_156 rfl rfl ?_
  refine x_iload C (i := 4) dX12_multiply_157 rfl ?_
  refine x_bipush C (nI 12) dX12_multiply_159 rfl ?_
  refine x_irem C dX12_multiply_161 (by decide) ?_
  refine x_bipush C (nI 12) dX12_multiply_162 rfl ?_
  refine x_iadd C dX12_multiply_164 ?_
  refine x_bipush C (nI 12) dX12_multiply_165 rfl ?_
  refine x_irem C dX12_multiply_167 (by decide) ?_
  refine x_topI (y := x_md12 (x_s3 la sa ha 1)) rfl ?_
  refine x_iastN C (by decide) rfl (by decide) dX12_multiply_168 (by omega) ?_
  refine x_sig (σ' := x_ui (x_ui σ 46 (x_ml [x_d3 la ga 0 0, x_d3 la ga 0 1, x_d3 la ga 0 2, x_d3 la ga 1 0, x_d3 la ga 1 1, x_d3 la ga 1 2] (σ.1 46))) 47 (x_ml [x_md12 (x_s3 la sa ha 0), x_md12 (x_s3 la sa ha 1)] (σ.1 47))) (by rw [x_u_of_ui]; exact congrArg (fun z => x_ui (x_ui σ 46 _) 47 z) (x_ml_push [x_md12 (x_s3 la sa ha 0)] (σ.1 47) _)) ?_
  refine x_iincN C (i := 3) (b := 1) dX12_multiply_169 rfl rfl (by decide) ?_
  refine x_goto C 2 dX12_multiply_172 (by decide) ?_
  refine x_iload_n C (i := 3) dX12_multiply_2 rfl rfl ?_
  refine x_iconst C (nI 3) dX12_multiply_3 rfl ?_
  refine x_icmp_geN C 175 dX12_multiply_4 (by decide) (by omega) (by omega) (fun c4 => absurd c4 (by decide)) (fun c4 => ?_)
  refine x_iconst C (nI 0) dX12_multiply_7 rfl ?_
  refine x_istore C (i := 4) dX12_multiply_8 (by decide) ?_
  refine x_iload C (i := 4) dX12_multiply_10 rfl ?_
  refine x_iconst C (nI 3) dX12_multiply_12 rfl ?_
  refine x_icmp_geN C 92 dX12_multiply_13 (by decide) (by omega) (by omega) (fun c13 => absurd c13 (by decide)) (fun c13 => ?_)
  refine x_iconst C (nI 0) dX12_multiply_16 rfl ?_
  refine x_istore C (i := 5) dX12_multiply_17 (by decide) ?_
  refine x_iconst C (nI 0) dX12_multiply_19 rfl ?_
  refine x_istore C (i := 6) dX12_multiply_20 (by decide) ?_
  refine x_iload C (i := 6) dX12_multiply_22 rfl ?_
  refine x_iconst C (nI 3) dX12_multiply_24 rfl ?_
  refine x_icmp_geN C 73 dX12_multiply_25 (by decide) (by omega) (by omega) (fun c25 => absurd c25 (by decide)) (fun c25 => ?_)
  refine x_iload C (i := 5) dX12_multiply_28 rfl ?_
  refine x_aload_n C (i := 0) dX12_multiply_30 rfl rfl ?_
  refine x_getR C fr_38_8 kf_X12_20 dX12_multiply_31 ?_
  refine x_bipush C (nI 9) dX12_multiply_34 rfl ?_
  refine x_iload_n C (i := 1) dX12_multiply_36 rfl rfl ?_
  refine x_imulN C dX12_multiply_37 ?_
  refine x_iconst C (nI 3) dX12_multiply_38 rfl ?_
  refine x_iload_n C (i := 3) dX12_multiply_39 rfl rfl ?_
  refine x_imulN C dX12_multiply_40 ?_
  refine x_iaddN C dX12_multiply_41 ?_
  refine x_iload C (i := 6) dX12_multiply_42 rfl ?_
  refine x_iaddN C dX12_multiply_44 ?_
  refine x_ialdN C (by decide) rfl (by decide) dX12_multiply_45 (by omega) ?_
  refine x_topI (y := la.getD 6 0) (hl 6 (by decide)) ?_
  refine x_aload_n C (i := 0) dX12_multiply_46 rfl rfl ?_
  refine x_getR C fr_38_11 kf_X12_26 dX12_multiply_47 ?_
  refine x_bipush C (nI 9) dX12_multiply_50 rfl ?_
  refine x_iload_n C (i := 2) dX12_multiply_52 rfl rfl ?_
  refine x_imulN C dX12_multiply_53 ?_
  refine x_iconst C (nI 3) dX12_multiply_54 rfl ?_
  refine x_iload C (i := 6) dX12_multiply_55 rfl ?_
  refine x_imulN C dX12_multiply_57 ?_
  refine x_iaddN C dX12_multiply_58 ?_
  refine x_iload C (i := 4) dX12_multiply_59 rfl ?_
  refine x_iaddN C dX12_multiply_61 ?_
  refine x_ialdN C (by decide) rfl (by decide) dX12_multiply_62 (by omega) ?_
  refine x_topI (y := ga.getD 0 0) (hG 0 (by decide)) ?_
  refine x_imul C dX12_multiply_63 ?_
  refine x_iadd C dX12_multiply_64 ?_
  refine x_istore C (i := 5) dX12_multiply_65 (by decide) ?_
  refine x_iincN C (i := 6) (b := 1) dX12_multiply_67 rfl rfl (by decide) ?_
  refine x_goto C 22 dX12_multiply_70 (by decide) ?_
  refine x_iload C (i := 6) dX12_multiply_22 rfl ?_
  refine x_iconst C (nI 3) dX12_multiply_24 rfl ?_
  refine x_icmp_geN C 73 dX12_multiply_25 (by decide) (by omega) (by omega) (fun c25 => absurd c25 (by decide)) (fun c25 => ?_)
  refine x_iload C (i := 5) dX12_multiply_28 rfl ?_
  refine x_aload_n C (i := 0) dX12_multiply_30 rfl rfl ?_
  refine x_getR C fr_38_8 kf_X12_20 dX12_multiply_31 ?_
  refine x_bipush C (nI 9) dX12_multiply_34 rfl ?_
  refine x_iload_n C (i := 1) dX12_multiply_36 rfl rfl ?_
  refine x_imulN C dX12_multiply_37 ?_
  refine x_iconst C (nI 3) dX12_multiply_38 rfl ?_
  refine x_iload_n C (i := 3) dX12_multiply_39 rfl rfl ?_
  refine x_imulN C dX12_multiply_40 ?_
  refine x_iaddN C dX12_multiply_41 ?_
  refine x_iload C (i := 6) dX12_multiply_42 rfl ?_
  refine x_iaddN C dX12_multiply_44 ?_
  refine x_ialdN C (by decide) rfl (by decide) dX12_multiply_45 (by omega) ?_
  refine x_topI (y := la.getD 7 0) (hl 7 (by decide)) ?_
  refine x_aload_n C (i := 0) dX12_multiply_46 rfl rfl ?_
  refine x_getR C fr_38_11 kf_X12_26 dX12_multiply_47 ?_
  refine x_bipush C (nI 9) dX12_multiply_50 rfl ?_
  refine x_iload_n C (i := 2) dX12_multiply_52 rfl rfl ?_
  refine x_imulN C dX12_multiply_53 ?_
  refine x_iconst C (nI 3) dX12_multiply_54 rfl ?_
  refine x_iload C (i := 6) dX12_multiply_55 rfl ?_
  refine x_imulN C dX12_multiply_57 ?_
  refine x_iaddN C dX12_multiply_58 ?_
  refine x_iload C (i := 4) dX12_multiply_59 rfl ?_
  refine x_iaddN C dX12_multiply_61 ?_
  refine x_ialdN C (by decide) rfl (by decide) dX12_multiply_62 (by omega) ?_
  refine x_topI (y := ga.getD 3 0) (hG 3 (by decide)) ?_
  refine x_imul C dX12_multiply_63 ?_
  refine x_iadd C dX12_multiply_64 ?_
  refine x_istore C (i := 5) dX12_multiply_65 (by decide) ?_
  refine x_iincN C (i := 6) (b := 1) dX12_multiply_67 rfl rfl (by decide) ?_
  refine x_goto C 22 dX12_multiply_70 (by decide) ?_
  refine x_iload C (i := 6) dX12_multiply_22 rfl ?_
  refine x_iconst C (nI 3) dX12_multiply_24 rfl ?_
  refine x_icmp_geN C 73 dX12_multiply_25 (by decide) (by omega) (by omega) (fun c25 => absurd c25 (by decide)) (fun c25 => ?_)
  refine x_iload C (i := 5) dX12_multiply_28 rfl ?_
  refine x_aload_n C (i := 0) dX12_multiply_30 rfl rfl ?_
  refine x_getR C fr_38_8 kf_X12_20 dX12_multiply_31 ?_
  refine x_bipush C (nI 9) dX12_multiply_34 rfl ?_
  refine x_iload_n C (i := 1) dX12_multiply_36 rfl rfl ?_
  refine x_imulN C dX12_multiply_37 ?_
  refine x_iconst C (nI 3) dX12_multiply_38 rfl ?_
  refine x_iload_n C (i := 3) dX12_multiply_39 rfl rfl ?_
  refine x_imulN C dX12_multiply_40 ?_
  refine x_iaddN C dX12_multiply_41 ?_
  refine x_iload C (i := 6) dX12_multiply_42 rfl ?_
  refine x_iaddN C dX12_multiply_44 ?_
  refine x_ialdN C (by decide) rfl (by decide) dX12_multiply_45 (by omega) ?_
  refine x_topI (y := la.getD 8 0) (hl 8 (by decide)) ?_
  refine x_aload_n C (i := 0) dX12_multiply_46 rfl rfl ?_
  refine x_getR C fr_38_11 kf_X12_26 dX12_multiply_47 ?_
  refine x_bipush C (nI 9) dX12_multiply_50 rfl ?_
  refine x_iload_n C (i := 2) dX12_multiply_52 rfl rfl ?_
  refine x_imulN C dX12_multiply_53 ?_
  refine x_iconst C (nI 3) dX12_multiply_54 rfl ?_
  refine x_iload C (i := 6) dX12_multiply_55 rfl ?_
  refine x_imulN C dX12_multiply_57 ?_
  refine x_iaddN C dX12_multiply_58 ?_
  refine x_iload C (i := 4) dX12_multiply_59 rfl ?_
  refine x_iaddN C dX12_multiply_61 ?_
  refine x_ialdN C (by decide) rfl (by decide) dX12_multiply_62 (by omega) ?_
  refine x_topI (y := ga.getD 6 0) (hG 6 (by decide)) ?_
  refine x_imul C dX12_multiply_63 ?_
  refine x_iadd C dX12_multiply_64 ?_
  refine x_istore C (i := 5) dX12_multiply_65 (by decide) ?_
  refine x_iincN C (i := 6) (b := 1) dX12_multiply_67 rfl rfl (by decide) ?_
  refine x_goto C 22 dX12_multiply_70 (by decide) ?_
  refine x_iload C (i := 6) dX12_multiply_22 rfl ?_
  refine x_iconst C (nI 3) dX12_multiply_24 rfl ?_
  refine x_icmp_geN C 73 dX12_multiply_25 (by decide) (by omega) (by omega) (fun c25 => ?_) (fun c25 => absurd c25 (by decide))
  refine x_aload_n C (i := 0) dX12_multiply_73 rfl rfl ?_
  refine x_getR C fr_38_13 kf_X12_32 dX12_multiply_74 ?_
  refine x_iconst C (nI 3) dX12_multiply_77 rfl ?_
  refine x_iload_n C (i := 3) dX12_multiply_78 rfl rfl ?_
  refine x_imulN C dX12_multiply_79 ?_
  refine x_iload C (i := 4) dX12_multiply_80 rfl ?_
  refine x_iaddN C dX12_multiply_82 ?_
  refine x_iload C (i := 5) dX12_multiply_83 rfl ?_
  refine x_topI (y := x_d3 la ga 2 0) rfl ?_
  refine x_iastN C (by decide) rfl (by decide) dX12_multiply_85 (by omega) ?_
  refine x_sig (σ' := x_ui (x_ui σ 46 (x_ml [x_d3 la ga 0 0, x_d3 la ga 0 1, x_d3 la ga 0 2, x_d3 la ga 1 0, x_d3 la ga 1 1, x_d3 la ga 1 2, x_d3 la ga 2 0] (σ.1 46))) 47 (x_ml [x_md12 (x_s3 la sa ha 0), x_md12 (x_s3 la sa ha 1)] (σ.1 47))) (by rw [x_ui_comm _ _ _ (by decide), x_u_of_ui, x_ui_comm _ _ _ (by decide)]; exact congrArg (fun z => x_ui (x_ui σ 46 z) 47 _) (x_ml_push [x_d3 la ga 0 0, x_d3 la ga 0 1, x_d3 la ga 0 2, x_d3 la ga 1 0, x_d3 la ga 1 1, x_d3 la ga 1 2] (σ.1 46) _)) ?_
  refine x_iincN C (i := 4) (b := 1) dX12_multiply_86 rfl rfl (by decide) ?_
  refine x_goto C 10 dX12_multiply_89 (by decide) ?_
  refine x_iload C (i := 4) dX12_multiply_10 rfl ?_
  refine x_iconst C (nI 3) dX12_multiply_12 rfl ?_
  refine x_icmp_geN C 92 dX12_multiply_13 (by decide) (by omega) (by omega) (fun c13 => absurd c13 (by decide)) (fun c13 => ?_)
  refine x_iconst C (nI 0) dX12_multiply_16 rfl ?_
  refine x_istore C (i := 5) dX12_multiply_17 (by decide) ?_
  refine x_iconst C (nI 0) dX12_multiply_19 rfl ?_
  refine x_istore C (i := 6) dX12_multiply_20 (by decide) ?_
  refine x_iload C (i := 6) dX12_multiply_22 rfl ?_
  refine x_iconst C (nI 3) dX12_multiply_24 rfl ?_
  refine x_icmp_geN C 73 dX12_multiply_25 (by decide) (by omega) (by omega) (fun c25 => absurd c25 (by decide)) (fun c25 => ?_)
  refine x_iload C (i := 5) dX12_multiply_28 rfl ?_
  refine x_aload_n C (i := 0) dX12_multiply_30 rfl rfl ?_
  refine x_getR C fr_38_8 kf_X12_20 dX12_multiply_31 ?_
  refine x_bipush C (nI 9) dX12_multiply_34 rfl ?_
  refine x_iload_n C (i := 1) dX12_multiply_36 rfl rfl ?_
  refine x_imulN C dX12_multiply_37 ?_
  refine x_iconst C (nI 3) dX12_multiply_38 rfl ?_
  refine x_iload_n C (i := 3) dX12_multiply_39 rfl rfl ?_
  refine x_imulN C dX12_multiply_40 ?_
  refine x_iaddN C dX12_multiply_41 ?_
  refine x_iload C (i := 6) dX12_multiply_42 rfl ?_
  refine x_iaddN C dX12_multiply_44 ?_
  refine x_ialdN C (by decide) rfl (by decide) dX12_multiply_45 (by omega) ?_
  refine x_topI (y := la.getD 6 0) (hl 6 (by decide)) ?_
  refine x_aload_n C (i := 0) dX12_multiply_46 rfl rfl ?_
  refine x_getR C fr_38_11 kf_X12_26 dX12_multiply_47 ?_
  refine x_bipush C (nI 9) dX12_multiply_50 rfl ?_
  refine x_iload_n C (i := 2) dX12_multiply_52 rfl rfl ?_
  refine x_imulN C dX12_multiply_53 ?_
  refine x_iconst C (nI 3) dX12_multiply_54 rfl ?_
  refine x_iload C (i := 6) dX12_multiply_55 rfl ?_
  refine x_imulN C dX12_multiply_57 ?_
  refine x_iaddN C dX12_multiply_58 ?_
  refine x_iload C (i := 4) dX12_multiply_59 rfl ?_
  refine x_iaddN C dX12_multiply_61 ?_
  refine x_ialdN C (by decide) rfl (by decide) dX12_multiply_62 (by omega) ?_
  refine x_topI (y := ga.getD 1 0) (hG 1 (by decide)) ?_
  refine x_imul C dX12_multiply_63 ?_
  refine x_iadd C dX12_multiply_64 ?_
  refine x_istore C (i := 5) dX12_multiply_65 (by decide) ?_
  refine x_iincN C (i := 6) (b := 1) dX12_multiply_67 rfl rfl (by decide) ?_
  refine x_goto C 22 dX12_multiply_70 (by decide) ?_
  refine x_iload C (i := 6) dX12_multiply_22 rfl ?_
  refine x_iconst C (nI 3) dX12_multiply_24 rfl ?_
  refine x_icmp_geN C 73 dX12_multiply_25 (by decide) (by omega) (by omega) (fun c25 => absurd c25 (by decide)) (fun c25 => ?_)
  refine x_iload C (i := 5) dX12_multiply_28 rfl ?_
  refine x_aload_n C (i := 0) dX12_multiply_30 rfl rfl ?_
  refine x_getR C fr_38_8 kf_X12_20 dX12_multiply_31 ?_
  refine x_bipush C (nI 9) dX12_multiply_34 rfl ?_
  refine x_iload_n C (i := 1) dX12_multiply_36 rfl rfl ?_
  refine x_imulN C dX12_multiply_37 ?_
  refine x_iconst C (nI 3) dX12_multiply_38 rfl ?_
  refine x_iload_n C (i := 3) dX12_multiply_39 rfl rfl ?_
  refine x_imulN C dX12_multiply_40 ?_
  refine x_iaddN C dX12_multiply_41 ?_
  refine x_iload C (i := 6) dX12_multiply_42 rfl ?_
  refine x_iaddN C dX12_multiply_44 ?_
  refine x_ialdN C (by decide) rfl (by decide) dX12_multiply_45 (by omega) ?_
  refine x_topI (y := la.getD 7 0) (hl 7 (by decide)) ?_
  refine x_aload_n C (i := 0) dX12_multiply_46 rfl rfl ?_
  refine x_getR C fr_38_11 kf_X12_26 dX12_multiply_47 ?_
  refine x_bipush C (nI 9) dX12_multiply_50 rfl ?_
  refine x_iload_n C (i := 2) dX12_multiply_52 rfl rfl ?_
  refine x_imulN C dX12_multiply_53 ?_
  refine x_iconst C (nI 3) dX12_multiply_54 rfl ?_
  refine x_iload C (i := 6) dX12_multiply_55 rfl ?_
  refine x_imulN C dX12_multiply_57 ?_
  refine x_iaddN C dX12_multiply_58 ?_
  refine x_iload C (i := 4) dX12_multiply_59 rfl ?_
  refine x_iaddN C dX12_multiply_61 ?_
  refine x_ialdN C (by decide) rfl (by decide) dX12_multiply_62 (by omega) ?_
  refine x_topI (y := ga.getD 4 0) (hG 4 (by decide)) ?_
  refine x_imul C dX12_multiply_63 ?_
  refine x_iadd C dX12_multiply_64 ?_
  refine x_istore C (i := 5) dX12_multiply_65 (by decide) ?_
  refine x_iincN C (i := 6) (b := 1) dX12_multiply_67 rfl rfl (by decide) ?_
  refine x_goto C 22 dX12_multiply_70 (by decide) ?_
  refine x_iload C (i := 6) dX12_multiply_22 rfl ?_
  refine x_iconst C (nI 3) dX12_multiply_24 rfl ?_
  refine x_icmp_geN C 73 dX12_multiply_25 (by decide) (by omega) (by omega) (fun c25 => absurd c25 (by decide)) (fun c25 => ?_)
  refine x_iload C (i := 5) dX12_multiply_28 rfl ?_
  refine x_aload_n C (i := 0) dX12_multiply_30 rfl rfl ?_
  refine x_getR C fr_38_8 kf_X12_20 dX12_multiply_31 ?_
  refine x_bipush C (nI 9) dX12_multiply_34 rfl ?_
  refine x_iload_n C (i := 1) dX12_multiply_36 rfl rfl ?_
  refine x_imulN C dX12_multiply_37 ?_
  refine x_iconst C (nI 3) dX12_multiply_38 rfl ?_
  refine x_iload_n C (i := 3) dX12_multiply_39 rfl rfl ?_
  refine x_imulN C dX12_multiply_40 ?_
  refine x_iaddN C dX12_multiply_41 ?_
  refine x_iload C (i := 6) dX12_multiply_42 rfl ?_
  refine x_iaddN C dX12_multiply_44 ?_
  refine x_ialdN C (by decide) rfl (by decide) dX12_multiply_45 (by omega) ?_
  refine x_topI (y := la.getD 8 0) (hl 8 (by decide)) ?_
  refine x_aload_n C (i := 0) dX12_multiply_46 rfl rfl ?_
  refine x_getR C fr_38_11 kf_X12_26 dX12_multiply_47 ?_
  refine x_bipush C (nI 9) dX12_multiply_50 rfl ?_
  refine x_iload_n C (i := 2) dX12_multiply_52 rfl rfl ?_
  refine x_imulN C dX12_multiply_53 ?_
  refine x_iconst C (nI 3) dX12_multiply_54 rfl ?_
  refine x_iload C (i := 6) dX12_multiply_55 rfl ?_
  refine x_imulN C dX12_multiply_57 ?_
  refine x_iaddN C dX12_multiply_58 ?_
  refine x_iload C (i := 4) dX12_multiply_59 rfl ?_
  refine x_iaddN C dX12_multiply_61 ?_
  refine x_ialdN C (by decide) rfl (by decide) dX12_multiply_62 (by omega) ?_
  refine x_topI (y := ga.getD 7 0) (hG 7 (by decide)) ?_
  refine x_imul C dX12_multiply_63 ?_
  refine x_iadd C dX12_multiply_64 ?_
  refine x_istore C (i := 5) dX12_multiply_65 (by decide) ?_
  refine x_iincN C (i := 6) (b := 1) dX12_multiply_67 rfl rfl (by decide) ?_
  refine x_goto C 22 dX12_multiply_70 (by decide) ?_
  refine x_iload C (i := 6) dX12_multiply_22 rfl ?_
  refine x_iconst C (nI 3) dX12_multiply_24 rfl ?_
  refine x_icmp_geN C 73 dX12_multiply_25 (by decide) (by omega) (by omega) (fun c25 => ?_) (fun c25 => absurd c25 (by decide))
  refine x_aload_n C (i := 0) dX12_multiply_73 rfl rfl ?_
  refine x_getR C fr_38_13 kf_X12_32 dX12_multiply_74 ?_
  refine x_iconst C (nI 3) dX12_multiply_77 rfl ?_
  refine x_iload_n C (i := 3) dX12_multiply_78 rfl rfl ?_
  refine x_imulN C dX12_multiply_79 ?_
  refine x_iload C (i := 4) dX12_multiply_80 rfl ?_
  refine x_iaddN C dX12_multiply_82 ?_
  refine x_iload C (i := 5) dX12_multiply_83 rfl ?_
  refine x_topI (y := x_d3 la ga 2 1) rfl ?_
  refine x_iastN C (by decide) rfl (by decide) dX12_multiply_85 (by omega) ?_
  refine x_sig (σ' := x_ui (x_ui σ 46 (x_ml [x_d3 la ga 0 0, x_d3 la ga 0 1, x_d3 la ga 0 2, x_d3 la ga 1 0, x_d3 la ga 1 1, x_d3 la ga 1 2, x_d3 la ga 2 0, x_d3 la ga 2 1] (σ.1 46))) 47 (x_ml [x_md12 (x_s3 la sa ha 0), x_md12 (x_s3 la sa ha 1)] (σ.1 47))) (by rw [x_ui_comm _ _ _ (by decide), x_u_of_ui, x_ui_comm _ _ _ (by decide)]; exact congrArg (fun z => x_ui (x_ui σ 46 z) 47 _) (x_ml_push [x_d3 la ga 0 0, x_d3 la ga 0 1, x_d3 la ga 0 2, x_d3 la ga 1 0, x_d3 la ga 1 1, x_d3 la ga 1 2, x_d3 la ga 2 0] (σ.1 46) _)) ?_
  refine x_iincN C (i := 4) (b := 1) dX12_multiply_86 rfl rfl (by decide) ?_
  refine x_goto C 10 dX12_multiply_89 (by decide) ?_
  refine x_iload C (i := 4) dX12_multiply_10 rfl ?_
  refine x_iconst C (nI 3) dX12_multiply_12 rfl ?_
  refine x_icmp_geN C 92 dX12_multiply_13 (by decide) (by omega) (by omega) (fun c13 => absurd c13 (by decide)) (fun c13 => ?_)
  refine x_iconst C (nI 0) dX12_multiply_16 rfl ?_
  refine x_istore C (i := 5) dX12_multiply_17 (by decide) ?_
  refine x_iconst C (nI 0) dX12_multiply_19 rfl ?_
  refine x_istore C (i := 6) dX12_multiply_20 (by decide) ?_
  refine x_iload C (i := 6) dX12_multiply_22 rfl ?_
  refine x_iconst C (nI 3) dX12_multiply_24 rfl ?_
  refine x_icmp_geN C 73 dX12_multiply_25 (by decide) (by omega) (by omega) (fun c25 => absurd c25 (by decide)) (fun c25 => ?_)
  refine x_iload C (i := 5) dX12_multiply_28 rfl ?_
  refine x_aload_n C (i := 0) dX12_multiply_30 rfl rfl ?_
  refine x_getR C fr_38_8 kf_X12_20 dX12_multiply_31 ?_
  refine x_bipush C (nI 9) dX12_multiply_34 rfl ?_
  refine x_iload_n C (i := 1) dX12_multiply_36 rfl rfl ?_
  refine x_imulN C dX12_multiply_37 ?_
  refine x_iconst C (nI 3) dX12_multiply_38 rfl ?_
  refine x_iload_n C (i := 3) dX12_multiply_39 rfl rfl ?_
  refine x_imulN C dX12_multiply_40 ?_
  refine x_iaddN C dX12_multiply_41 ?_
  refine x_iload C (i := 6) dX12_multiply_42 rfl ?_
  refine x_iaddN C dX12_multiply_44 ?_
  refine x_ialdN C (by decide) rfl (by decide) dX12_multiply_45 (by omega) ?_
  refine x_topI (y := la.getD 6 0) (hl 6 (by decide)) ?_
  refine x_aload_n C (i := 0) dX12_multiply_46 rfl rfl ?_
  refine x_getR C fr_38_11 kf_X12_26 dX12_multiply_47 ?_
  refine x_bipush C (nI 9) dX12_multiply_50 rfl ?_
  refine x_iload_n C (i := 2) dX12_multiply_52 rfl rfl ?_
  refine x_imulN C dX12_multiply_53 ?_
  refine x_iconst C (nI 3) dX12_multiply_54 rfl ?_
  refine x_iload C (i := 6) dX12_multiply_55 rfl ?_
  refine x_imulN C dX12_multiply_57 ?_
  refine x_iaddN C dX12_multiply_58 ?_
  refine x_iload C (i := 4) dX12_multiply_59 rfl ?_
  refine x_iaddN C dX12_multiply_61 ?_
  refine x_ialdN C (by decide) rfl (by decide) dX12_multiply_62 (by omega) ?_
  refine x_topI (y := ga.getD 2 0) (hG 2 (by decide)) ?_
  refine x_imul C dX12_multiply_63 ?_
  refine x_iadd C dX12_multiply_64 ?_
  refine x_istore C (i := 5) dX12_multiply_65 (by decide) ?_
  refine x_iincN C (i := 6) (b := 1) dX12_multiply_67 rfl rfl (by decide) ?_
  refine x_goto C 22 dX12_multiply_70 (by decide) ?_
  refine x_iload C (i := 6) dX12_multiply_22 rfl ?_
  refine x_iconst C (nI 3) dX12_multiply_24 rfl ?_
  refine x_icmp_geN C 73 dX12_multiply_25 (by decide) (by omega) (by omega) (fun c25 => absurd c25 (by decide)) (fun c25 => ?_)
  refine x_iload C (i := 5) dX12_multiply_28 rfl ?_
  refine x_aload_n C (i := 0) dX12_multiply_30 rfl rfl ?_
  refine x_getR C fr_38_8 kf_X12_20 dX12_multiply_31 ?_
  refine x_bipush C (nI 9) dX12_multiply_34 rfl ?_
  refine x_iload_n C (i := 1) dX12_multiply_36 rfl rfl ?_
  refine x_imulN C dX12_multiply_37 ?_
  refine x_iconst C (nI 3) dX12_multiply_38 rfl ?_
  refine x_iload_n C (i := 3) dX12_multiply_39 rfl rfl ?_
  refine x_imulN C dX12_multiply_40 ?_
  refine x_iaddN C dX12_multiply_41 ?_
  refine x_iload C (i := 6) dX12_multiply_42 rfl ?_
  refine x_iaddN C dX12_multiply_44 ?_
  refine x_ialdN C (by decide) rfl (by decide) dX12_multiply_45 (by omega) ?_
  refine x_topI (y := la.getD 7 0) (hl 7 (by decide)) ?_
  refine x_aload_n C (i := 0) dX12_multiply_46 rfl rfl ?_
  refine x_getR C fr_38_11 kf_X12_26 dX12_multiply_47 ?_
  refine x_bipush C (nI 9) dX12_multiply_50 rfl ?_
  refine x_iload_n C (i := 2) dX12_multiply_52 rfl rfl ?_
  refine x_imulN C dX12_multiply_53 ?_
  refine x_iconst C (nI 3) dX12_multiply_54 rfl ?_
  refine x_iload C (i := 6) dX12_multiply_55 rfl ?_
  refine x_imulN C dX12_multiply_57 ?_
  refine x_iaddN C dX12_multiply_58 ?_
  refine x_iload C (i := 4) dX12_multiply_59 rfl ?_
  refine x_iaddN C dX12_multiply_61 ?_
  refine x_ialdN C (by decide) rfl (by decide) dX12_multiply_62 (by omega) ?_
  refine x_topI (y := ga.getD 5 0) (hG 5 (by decide)) ?_
  refine x_imul C dX12_multiply_63 ?_
  refine x_iadd C dX12_multiply_64 ?_
  refine x_istore C (i := 5) dX12_multiply_65 (by decide) ?_
  refine x_iincN C (i := 6) (b := 1) dX12_multiply_67 rfl rfl (by decide) ?_
  refine x_goto C 22 dX12_multiply_70 (by decide) ?_
  refine x_iload C (i := 6) dX12_multiply_22 rfl ?_
  refine x_iconst C (nI 3) dX12_multiply_24 rfl ?_
  refine x_icmp_geN C 73 dX12_multiply_25 (by decide) (by omega) (by omega) (fun c25 => absurd c25 (by decide)) (fun c25 => ?_)
  refine x_iload C (i := 5) dX12_multiply_28 rfl ?_
  refine x_aload_n C (i := 0) dX12_multiply_30 rfl rfl ?_
  refine x_getR C fr_38_8 kf_X12_20 dX12_multiply_31 ?_
  refine x_bipush C (nI 9) dX12_multiply_34 rfl ?_
  refine x_iload_n C (i := 1) dX12_multiply_36 rfl rfl ?_
  refine x_imulN C dX12_multiply_37 ?_
  refine x_iconst C (nI 3) dX12_multiply_38 rfl ?_
  refine x_iload_n C (i := 3) dX12_multiply_39 rfl rfl ?_
  refine x_imulN C dX12_multiply_40 ?_
  refine x_iaddN C dX12_multiply_41 ?_
  refine x_iload C (i := 6) dX12_multiply_42 rfl ?_
  refine x_iaddN C dX12_multiply_44 ?_
  refine x_ialdN C (by decide) rfl (by decide) dX12_multiply_45 (by omega) ?_
  refine x_topI (y := la.getD 8 0) (hl 8 (by decide)) ?_
  refine x_aload_n C (i := 0) dX12_multiply_46 rfl rfl ?_
  refine x_getR C fr_38_11 kf_X12_26 dX12_multiply_47 ?_
  refine x_bipush C (nI 9) dX12_multiply_50 rfl ?_
  refine x_iload_n C (i := 2) dX12_multiply_52 rfl rfl ?_
  refine x_imulN C dX12_multiply_53 ?_
  refine x_iconst C (nI 3) dX12_multiply_54 rfl ?_
  refine x_iload C (i := 6) dX12_multiply_55 rfl ?_
  refine x_imulN C dX12_multiply_57 ?_
  refine x_iaddN C dX12_multiply_58 ?_
  refine x_iload C (i := 4) dX12_multiply_59 rfl ?_
  refine x_iaddN C dX12_multiply_61 ?_
  refine x_ialdN C (by decide) rfl (by decide) dX12_multiply_62 (by omega) ?_
  refine x_topI (y := ga.getD 8 0) (hG 8 (by decide)) ?_
  refine x_imul C dX12_multiply_63 ?_
  refine x_iadd C dX12_multiply_64 ?_
  refine x_istore C (i := 5) dX12_multiply_65 (by decide) ?_
  refine x_iincN C (i := 6) (b := 1) dX12_multiply_67 rfl rfl (by decide) ?_
  refine x_goto C 22 dX12_multiply_70 (by decide) ?_
  refine x_iload C (i := 6) dX12_multiply_22 rfl ?_
  refine x_iconst C (nI 3) dX12_multiply_24 rfl ?_
  refine x_icmp_geN C 73 dX12_multiply_25 (by decide) (by omega) (by omega) (fun c25 => ?_) (fun c25 => absurd c25 (by decide))
  refine x_aload_n C (i := 0) dX12_multiply_73 rfl rfl ?_
  refine x_getR C fr_38_13 kf_X12_32 dX12_multiply_74 ?_
  refine x_iconst C (nI 3) dX12_multiply_77 rfl ?_
  refine x_iload_n C (i := 3) dX12_multiply_78 rfl rfl ?_
  refine x_imulN C dX12_multiply_79 ?_
  refine x_iload C (i := 4) dX12_multiply_80 rfl ?_
  refine x_iaddN C dX12_multiply_82 ?_
  refine x_iload C (i := 5) dX12_multiply_83 rfl ?_
  refine x_topI (y := x_d3 la ga 2 2) rfl ?_
  refine x_iastN C (by decide) rfl (by decide) dX12_multiply_85 (by omega) ?_
  refine x_sig (σ' := x_ui (x_ui σ 46 (x_ml [x_d3 la ga 0 0, x_d3 la ga 0 1, x_d3 la ga 0 2, x_d3 la ga 1 0, x_d3 la ga 1 1, x_d3 la ga 1 2, x_d3 la ga 2 0, x_d3 la ga 2 1, x_d3 la ga 2 2] (σ.1 46))) 47 (x_ml [x_md12 (x_s3 la sa ha 0), x_md12 (x_s3 la sa ha 1)] (σ.1 47))) (by rw [x_ui_comm _ _ _ (by decide), x_u_of_ui, x_ui_comm _ _ _ (by decide)]; exact congrArg (fun z => x_ui (x_ui σ 46 z) 47 _) (x_ml_push [x_d3 la ga 0 0, x_d3 la ga 0 1, x_d3 la ga 0 2, x_d3 la ga 1 0, x_d3 la ga 1 1, x_d3 la ga 1 2, x_d3 la ga 2 0, x_d3 la ga 2 1] (σ.1 46) _)) ?_
  refine x_iincN C (i := 4) (b := 1) dX12_multiply_86 rfl rfl (by decide) ?_
  refine x_goto C 10 dX12_multiply_89 (by decide) ?_
  refine x_iload C (i := 4) dX12_multiply_10 rfl ?_
  refine x_iconst C (nI 3) dX12_multiply_12 rfl ?_
  refine x_icmp_geN C 92 dX12_multiply_13 (by decide) (by omega) (by omega) (fun c13 => ?_) (fun c13 => absurd c13 (by decide))
  refine x_aload_n C (i := 0) dX12_multiply_92 rfl rfl ?_
  refine x_getR C fr_38_9 kf_X12_23 dX12_multiply_93 ?_
  refine x_iconst C (nI 3) dX12_multiply_96 rfl ?_
  refine x_iload_n C (i := 1) dX12_multiply_97 rfl rfl ?_
  refine x_imulN C dX12_multiply_98 ?_
  refine x_iload_n C (i := 3) dX12_multiply_99 rfl rfl ?_
  refine x_iaddN C dX12_multiply_100 ?_
  refine x_ialdN C (by decide) rfl (by decide) dX12_multiply_101 (by omega) ?_
  refine x_topI (y := sa.getD 2 0) (hs 2 (by decide)) ?_
  refine x_istore C (i := 4) dX12_multiply_102 (by decide) ?_
  refine x_iconst C (nI 0) dX12_multiply_104 rfl ?_
  refine x_istore C (i := 5) dX12_multiply_105 (by decide) ?_
  refine x_iload C (i := 5) dX12_multiply_107 rfl ?_
  refine x_iconst C (nI 3) dX12_multiply_109 rfl ?_
  refine x_icmp_geN C 152 dX12_multiply_110 (by decide) (by omega) (by omega) (fun c110 => absurd c110 (by decide)) (fun c110 => ?_)
  refine x_iload C (i := 4) dX12_multiply_113 rfl ?_
  refine x_aload_n C (i := 0) dX12_multiply_115 rfl rfl ?_
  refine x_getR C fr_38_8 kf_X12_20 dX12_multiply_116 ?_
  refine x_bipush C (nI 9) dX12_multiply_119 rfl ?_
  refine x_iload_n C (i := 1) dX12_multiply_121 rfl rfl ?_
  refine x_imulN C dX12_multiply_122 ?_
  refine x_iconst C (nI 3) dX12_multiply_123 rfl ?_
  refine x_iload_n C (i := 3) dX12_multiply_124 rfl rfl ?_
  refine x_imulN C dX12_multiply_125 ?_
  refine x_iaddN C dX12_multiply_126 ?_
  refine x_iload C (i := 5) dX12_multiply_127 rfl ?_
  refine x_iaddN C dX12_multiply_129 ?_
  refine x_ialdN C (by decide) rfl (by decide) dX12_multiply_130 (by omega) ?_
  refine x_topI (y := la.getD 6 0) (hl 6 (by decide)) ?_
  refine x_aload_n C (i := 0) dX12_multiply_131 rfl rfl ?_
  refine x_getR C fr_38_12 kf_X12_29 dX12_multiply_132 ?_
  refine x_iconst C (nI 3) dX12_multiply_135 rfl ?_
  refine x_iload_n C (i := 2) dX12_multiply_136 rfl rfl ?_
  refine x_imulN C dX12_multiply_137 ?_
  refine x_iload C (i := 5) dX12_multiply_138 rfl ?_
  refine x_iaddN C dX12_multiply_140 ?_
  refine x_ialdN C (by decide) rfl (by decide) dX12_multiply_141 (by omega) ?_
  refine x_topI (y := ha.getD 0 0) (hh 0 (by decide)) ?_
  refine x_imul C dX12_multiply_142 ?_
  refine x_iadd C dX12_multiply_143 ?_
  refine x_istore C (i := 4) dX12_multiply_144 (by decide) ?_
  refine x_iincN C (i := 5) (b := 1) dX12_multiply_146 rfl rfl (by decide) ?_
  refine x_goto C 107 dX12_multiply_149 (by decide) ?_
  refine x_iload C (i := 5) dX12_multiply_107 rfl ?_
  refine x_iconst C (nI 3) dX12_multiply_109 rfl ?_
  refine x_icmp_geN C 152 dX12_multiply_110 (by decide) (by omega) (by omega) (fun c110 => absurd c110 (by decide)) (fun c110 => ?_)
  refine x_iload C (i := 4) dX12_multiply_113 rfl ?_
  refine x_aload_n C (i := 0) dX12_multiply_115 rfl rfl ?_
  refine x_getR C fr_38_8 kf_X12_20 dX12_multiply_116 ?_
  refine x_bipush C (nI 9) dX12_multiply_119 rfl ?_
  refine x_iload_n C (i := 1) dX12_multiply_121 rfl rfl ?_
  refine x_imulN C dX12_multiply_122 ?_
  refine x_iconst C (nI 3) dX12_multiply_123 rfl ?_
  refine x_iload_n C (i := 3) dX12_multiply_124 rfl rfl ?_
  refine x_imulN C dX12_multiply_125 ?_
  refine x_iaddN C dX12_multiply_126 ?_
  refine x_iload C (i := 5) dX12_multiply_127 rfl ?_
  refine x_iaddN C dX12_multiply_129 ?_
  refine x_ialdN C (by decide) rfl (by decide) dX12_multiply_130 (by omega) ?_
  refine x_topI (y := la.getD 7 0) (hl 7 (by decide)) ?_
  refine x_aload_n C (i := 0) dX12_multiply_131 rfl rfl ?_
  refine x_getR C fr_38_12 kf_X12_29 dX12_multiply_132 ?_
  refine x_iconst C (nI 3) dX12_multiply_135 rfl ?_
  refine x_iload_n C (i := 2) dX12_multiply_136 rfl rfl ?_
  refine x_imulN C dX12_multiply_137 ?_
  refine x_iload C (i := 5) dX12_multiply_138 rfl ?_
  refine x_iaddN C dX12_multiply_140 ?_
  refine x_ialdN C (by decide) rfl (by decide) dX12_multiply_141 (by omega) ?_
  refine x_topI (y := ha.getD 1 0) (hh 1 (by decide)) ?_
  refine x_imul C dX12_multiply_142 ?_
  refine x_iadd C dX12_multiply_143 ?_
  refine x_istore C (i := 4) dX12_multiply_144 (by decide) ?_
  refine x_iincN C (i := 5) (b := 1) dX12_multiply_146 rfl rfl (by decide) ?_
  refine x_goto C 107 dX12_multiply_149 (by decide) ?_
  refine x_iload C (i := 5) dX12_multiply_107 rfl ?_
  refine x_iconst C (nI 3) dX12_multiply_109 rfl ?_
  refine x_icmp_geN C 152 dX12_multiply_110 (by decide) (by omega) (by omega) (fun c110 => absurd c110 (by decide)) (fun c110 => ?_)
  refine x_iload C (i := 4) dX12_multiply_113 rfl ?_
  refine x_aload_n C (i := 0) dX12_multiply_115 rfl rfl ?_
  refine x_getR C fr_38_8 kf_X12_20 dX12_multiply_116 ?_
  refine x_bipush C (nI 9) dX12_multiply_119 rfl ?_
  refine x_iload_n C (i := 1) dX12_multiply_121 rfl rfl ?_
  refine x_imulN C dX12_multiply_122 ?_
  refine x_iconst C (nI 3) dX12_multiply_123 rfl ?_
  refine x_iload_n C (i := 3) dX12_multiply_124 rfl rfl ?_
  refine x_imulN C dX12_multiply_125 ?_
  refine x_iaddN C dX12_multiply_126 ?_
  refine x_iload C (i := 5) dX12_multiply_127 rfl ?_
  refine x_iaddN C dX12_multiply_129 ?_
  refine x_ialdN C (by decide) rfl (by decide) dX12_multiply_130 (by omega) ?_
  refine x_topI (y := la.getD 8 0) (hl 8 (by decide)) ?_
  refine x_aload_n C (i := 0) dX12_multiply_131 rfl rfl ?_
  refine x_getR C fr_38_12 kf_X12_29 dX12_multiply_132 ?_
  refine x_iconst C (nI 3) dX12_multiply_135 rfl ?_
  refine x_iload_n C (i := 2) dX12_multiply_136 rfl rfl ?_
  refine x_imulN C dX12_multiply_137 ?_
  refine x_iload C (i := 5) dX12_multiply_138 rfl ?_
  refine x_iaddN C dX12_multiply_140 ?_
  refine x_ialdN C (by decide) rfl (by decide) dX12_multiply_141 (by omega) ?_
  refine x_topI (y := ha.getD 2 0) (hh 2 (by decide)) ?_
  refine x_imul C dX12_multiply_142 ?_
  refine x_iadd C dX12_multiply_143 ?_
  refine x_istore C (i := 4) dX12_multiply_144 (by decide) ?_
  refine x_iincN C (i := 5) (b := 1) dX12_multiply_146 rfl rfl (by decide) ?_
  refine x_goto C 107 dX12_multiply_149 (by decide) ?_
  refine x_iload C (i := 5) dX12_multiply_107 rfl ?_
  refine x_iconst C (nI 3) dX12_multiply_109 rfl ?_
  refine x_icmp_geN C 152 dX12_multiply_110 (by decide) (by omega) (by omega) (fun c110 => ?_) (fun c110 => absurd c110 (by decide))
  refine x_aload_n C (i := 0) dX12_multiply_152 rfl rfl ?_
  refine x_getR C fr_38_14 kf_X12_35 dX12_multiply_153 ?_
  refine x_iload_n C (i := 3) dX12_multiply_156 rfl rfl ?_
  refine x_iload C (i := 4) dX12_multiply_157 rfl ?_
  refine x_bipush C (nI 12) dX12_multiply_159 rfl ?_
  refine x_irem C dX12_multiply_161 (by decide) ?_
  refine x_bipush C (nI 12) dX12_multiply_162 rfl ?_
  refine x_iadd C dX12_multiply_164 ?_
  refine x_bipush C (nI 12) dX12_multiply_165 rfl ?_
  refine x_irem C dX12_multiply_167 (by decide) ?_
  refine x_topI (y := x_md12 (x_s3 la sa ha 2)) rfl ?_
  refine x_iastN C (by decide) rfl (by decide) dX12_multiply_168 (by omega) ?_
  refine x_sig (σ' := x_ui (x_ui σ 46 (x_ml [x_d3 la ga 0 0, x_d3 la ga 0 1, x_d3 la ga 0 2, x_d3 la ga 1 0, x_d3 la ga 1 1, x_d3 la ga 1 2, x_d3 la ga 2 0, x_d3 la ga 2 1, x_d3 la ga 2 2] (σ.1 46))) 47 (x_ml [x_md12 (x_s3 la sa ha 0), x_md12 (x_s3 la sa ha 1), x_md12 (x_s3 la sa ha 2)] (σ.1 47))) (by rw [x_u_of_ui]; exact congrArg (fun z => x_ui (x_ui σ 46 _) 47 z) (x_ml_push [x_md12 (x_s3 la sa ha 0), x_md12 (x_s3 la sa ha 1)] (σ.1 47) _)) ?_
  refine x_iincN C (i := 3) (b := 1) dX12_multiply_169 rfl rfl (by decide) ?_
  refine x_goto C 2 dX12_multiply_172 (by decide) ?_
  refine x_iload_n C (i := 3) dX12_multiply_2 rfl rfl ?_
  refine x_iconst C (nI 3) dX12_multiply_3 rfl ?_
  refine x_icmp_geN C 175 dX12_multiply_4 (by decide) (by omega) (by omega) (fun c4 => ?_) (fun c4 => absurd c4 (by decide))
  refine x_vret C xr xk dX12_multiply_175 ?_
  exact hK _ _ ⟨rfl, rfl⟩
theorem c_X12_multiply (l : Launch) (Y : x_Y) (σ : x_S) (la sa ga ha : List Int32) (i g : Nat) (hi : i < 193) (hg : g < 9) (hl : ∀ j, j < 9 → σ.1 42 (9 * i + j) = la.getD j 0) (hs : ∀ j, j < 3 → σ.1 43 (3 * i + j) = sa.getD j 0) (hG : ∀ j, j < 9 → σ.1 44 (9 * g + j) = ga.getD j 0) (hh : ∀ j, j < 3 → σ.1 45 (3 * g + j) = ha.getD j 0) : x_M l yX12_multiply cX12_multiply 7 none 0 Y [.ref 38, .int (nI i), .int (nI g)] σ (fun r τ => r = none ∧ τ = x_ui (x_ui σ 46 (x_ml (x_mul la ga) (σ.1 46))) 47 (x_ml (x_mus la sa ha) (σ.1 47))) := c_X12_multiply_K l Y σ la sa ga ha i g hi hg hl hs hG hh _ (fun _ _ h => h)
set_option maxRecDepth 100000 in
set_option maxHeartbeats 200000 in
theorem c_X12_compare_K (l : Launch) (Y : x_Y) (σ : x_S) (la sa lb sb : List Int32) (F G : Nat → Int32) (i : Nat) (hi : i < 193) (hl9 : la.length = 9) (hs3 : sa.length = 3) (hl19 : lb.length = 9) (hs13 : sb.length = 3) (hF : σ.1 46 = x_ml la F) (hG : σ.1 47 = x_ml sa G) (hl : ∀ j, j < 9 → σ.1 42 (9 * i + j) = lb.getD j 0) (hs : ∀ j, j < 3 → σ.1 43 (3 * i + j) = sb.getD j 0) (K : Option Value → x_S → Prop) (hK : ∀ (r : Option Value) (τ : x_S), (r = some (.int (x_cmp la sa lb sb)) ∧ τ = σ) → K r τ) : x_M l yX12_compare cX12_compare 3 (some .int) 0 Y [.ref 38, .int (nI i)] σ K := by
  refine x_start (by decide) (Nat.le_of_ble_eq_true rfl) ?_
  intro xp xe xs xm xg xb xt xc C xr xk
  refine x_iconst C (nI 0) dX12_compare_0 rfl ?_
  refine x_istore_n C (i := 2) dX12_compare_1 rfl (by decide) ?_
  have lp2 : ∀ (m2 : Nat) (k : Nat), (9 - k) = m2 → (k ≤ 9) → (x_lexl (la.drop k) (lb.drop k) = x_lexl la lb) → ∀ L : x_Lo, L.1 0 = some (.ref 38) → L.1 1 = some (.int (nI i)) → L.1 2 = some (.int (nI k)) → x_W xp l xe (x_rm 0) xs xm xg xb xt xc 3 Y 0 0 (MQ xb (x_Q Y K) xg xs 0 0 (x_A Y)) 2 L [] σ := by
    intro m2
    induction m2 using Nat.strongRecOn with
    | _ m2 ih2 =>
      intro k hm2 hk9 hk2 L xl0 xl1 xl2
      refine x_iload_n C (i := 2) dX12_compare_2 rfl xl2 ?_
      refine x_bipush C (nI 9) dX12_compare_3 rfl ?_
      refine x_icmp_geN C 60 dX12_compare_5 (by decide) (by omega) (by omega) (fun c5 => ?_) (fun c5 => ?_)
      · skip
        have c5' := Nat.not_lt.mpr c5
        have hk3 : x_lexl la lb = nI 0 := by rw [← hk2]; exact x_lexl_end (by omega)
        refine x_iconst C (nI 0) dX12_compare_60 rfl ?_
        refine x_istore_n C (i := 2) dX12_compare_61 rfl (by decide) ?_
        have lp62 : ∀ (m62 : Nat) (k : Nat), (3 - k) = m62 → (k ≤ 3) → (x_lexl (sa.drop k) (sb.drop k) = x_lexl sa sb) → ∀ L : x_Lo, L.1 0 = some (.ref 38) → L.1 1 = some (.int (nI i)) → L.1 2 = some (.int (nI k)) → x_W xp l xe (x_rm 0) xs xm xg xb xt xc 3 Y 0 0 (MQ xb (x_Q Y K) xg xs 0 0 (x_A Y)) 62 L [] σ := by
          intro m62
          induction m62 using Nat.strongRecOn with
          | _ m62 ih62 =>
            intro k hm62 hk9 hk2 L xl0 xl1 xl2
            refine x_iload_n C (i := 2) dX12_compare_62 rfl xl2 ?_
            refine x_iconst C (nI 3) dX12_compare_63 rfl ?_
            refine x_icmp_geN C 117 dX12_compare_64 (by decide) (by omega) (by omega) (fun c64 => ?_) (fun c64 => ?_)
            · skip
              have c64' := Nat.not_lt.mpr c64
              refine x_iconst C (nI 0) dX12_compare_117 rfl ?_
              refine x_iret C xr xk dX12_compare_118 ?_
              exact hK _ _ ⟨by unfold x_cmp; rw [if_pos hk3, ← hk2, x_lexl_end (by omega)], rfl⟩
            · skip
              have c64' := Nat.not_le.mpr c64
              refine x_aload_n C (i := 0) dX12_compare_67 rfl xl0 ?_
              refine x_getR C fr_38_14 kf_X12_35 dX12_compare_68 ?_
              refine x_iload_n C (i := 2) dX12_compare_71 rfl xl2 ?_
              refine x_ialdN C (by decide) rfl (by decide) dX12_compare_72 (by omega) ?_
              refine x_topI (y := sa.getD k 0) (by rw [hG, x_ml_at _ _ (by omega)]) ?_
              refine x_aload_n C (i := 0) dX12_compare_73 rfl xl0 ?_
              refine x_getR C fr_38_9 kf_X12_23 dX12_compare_74 ?_
              refine x_iconst C (nI 3) dX12_compare_77 rfl ?_
              refine x_iload_n C (i := 1) dX12_compare_78 rfl xl1 ?_
              refine x_imulN C dX12_compare_79 ?_
              refine x_iload_n C (i := 2) dX12_compare_80 rfl xl2 ?_
              refine x_iaddN C dX12_compare_81 ?_
              refine x_ialdN C (by decide) rfl (by decide) dX12_compare_82 (by omega) ?_
              refine x_topI (y := sb.getD k 0) (hs k (by omega)) ?_
              refine x_icmp_eq C 111 dX12_compare_83 (by decide) (fun c83 => ?_) (fun c83 => ?_)
              · skip
                refine x_iincN C (i := 2) (b := 1) dX12_compare_111 xl2 rfl (by decide) ?_
                refine x_goto C 62 dX12_compare_114 (by decide) ?_
                exact ih62 _ (by omega) (k + 1) rfl (by omega) (by rw [← hk2, x_lexl_drop (k := k) (by omega) (by omega), if_pos c83]) _ xl0 xl1 rfl
              · skip
                refine x_aload_n C (i := 0) dX12_compare_86 rfl xl0 ?_
                refine x_getR C fr_38_14 kf_X12_35 dX12_compare_87 ?_
                refine x_iload_n C (i := 2) dX12_compare_90 rfl xl2 ?_
                refine x_ialdN C (by decide) rfl (by decide) dX12_compare_91 (by omega) ?_
                refine x_topI (y := sa.getD k 0) (by rw [hG, x_ml_at _ _ (by omega)]) ?_
                refine x_aload_n C (i := 0) dX12_compare_92 rfl xl0 ?_
                refine x_getR C fr_38_9 kf_X12_23 dX12_compare_93 ?_
                refine x_iconst C (nI 3) dX12_compare_96 rfl ?_
                refine x_iload_n C (i := 1) dX12_compare_97 rfl xl1 ?_
                refine x_imulN C dX12_compare_98 ?_
                refine x_iload_n C (i := 2) dX12_compare_99 rfl xl2 ?_
                refine x_iaddN C dX12_compare_100 ?_
                refine x_ialdN C (by decide) rfl (by decide) dX12_compare_101 (by omega) ?_
                refine x_topI (y := sb.getD k 0) (hs k (by omega)) ?_
                refine x_jcmp_ge C 109 dX12_compare_102 (by decide) (fun c102 => ?_) (fun c102 => ?_)
                · skip
                  have c102' := Int32.not_lt.mpr c102
                  refine x_iconst C (nI 1) dX12_compare_109 rfl ?_
                  refine x_iret C xr xk dX12_compare_110 ?_
                  exact hK _ _ ⟨by unfold x_cmp; rw [if_pos hk3, ← hk2, x_lexl_drop (by omega) (by omega), if_neg c83]; first | rw [if_pos c102] | rw [if_neg c102'], rfl⟩
                · skip
                  have c102' := Int32.not_le.mpr c102
                  refine x_iconst C (-1) dX12_compare_105 rfl ?_
                  refine x_goto C 110 dX12_compare_106 (by decide) ?_
                  refine x_iret C xr xk dX12_compare_110 ?_
                  exact hK _ _ ⟨by unfold x_cmp; rw [if_pos hk3, ← hk2, x_lexl_drop (by omega) (by omega), if_neg c83]; first | rw [if_pos c102] | rw [if_neg c102'], rfl⟩
        exact lp62 _ 0 rfl (by omega) rfl _ xl0 xl1 rfl
      · skip
        have c5' := Nat.not_le.mpr c5
        refine x_aload_n C (i := 0) dX12_compare_8 rfl xl0 ?_
        refine x_getR C fr_38_13 kf_X12_32 dX12_compare_9 ?_
        refine x_iload_n C (i := 2) dX12_compare_12 rfl xl2 ?_
        refine x_ialdN C (by decide) rfl (by decide) dX12_compare_13 (by omega) ?_
        refine x_topI (y := la.getD k 0) (by rw [hF, x_ml_at _ _ (by omega)]) ?_
        refine x_aload_n C (i := 0) dX12_compare_14 rfl xl0 ?_
        refine x_getR C fr_38_8 kf_X12_20 dX12_compare_15 ?_
        refine x_bipush C (nI 9) dX12_compare_18 rfl ?_
        refine x_iload_n C (i := 1) dX12_compare_20 rfl xl1 ?_
        refine x_imulN C dX12_compare_21 ?_
        refine x_iload_n C (i := 2) dX12_compare_22 rfl xl2 ?_
        refine x_iaddN C dX12_compare_23 ?_
        refine x_ialdN C (by decide) rfl (by decide) dX12_compare_24 (by omega) ?_
        refine x_topI (y := lb.getD k 0) (hl k (by omega)) ?_
        refine x_icmp_eq C 54 dX12_compare_25 (by decide) (fun c25 => ?_) (fun c25 => ?_)
        · skip
          refine x_iincN C (i := 2) (b := 1) dX12_compare_54 xl2 rfl (by decide) ?_
          refine x_goto C 2 dX12_compare_57 (by decide) ?_
          exact ih2 _ (by omega) (k + 1) rfl (by omega) (by rw [← hk2, x_lexl_drop (k := k) (by omega) (by omega), if_pos c25]) _ xl0 xl1 rfl
        · skip
          refine x_aload_n C (i := 0) dX12_compare_28 rfl xl0 ?_
          refine x_getR C fr_38_13 kf_X12_32 dX12_compare_29 ?_
          refine x_iload_n C (i := 2) dX12_compare_32 rfl xl2 ?_
          refine x_ialdN C (by decide) rfl (by decide) dX12_compare_33 (by omega) ?_
          refine x_topI (y := la.getD k 0) (by rw [hF, x_ml_at _ _ (by omega)]) ?_
          refine x_aload_n C (i := 0) dX12_compare_34 rfl xl0 ?_
          refine x_getR C fr_38_8 kf_X12_20 dX12_compare_35 ?_
          refine x_bipush C (nI 9) dX12_compare_38 rfl ?_
          refine x_iload_n C (i := 1) dX12_compare_40 rfl xl1 ?_
          refine x_imulN C dX12_compare_41 ?_
          refine x_iload_n C (i := 2) dX12_compare_42 rfl xl2 ?_
          refine x_iaddN C dX12_compare_43 ?_
          refine x_ialdN C (by decide) rfl (by decide) dX12_compare_44 (by omega) ?_
          refine x_topI (y := lb.getD k 0) (hl k (by omega)) ?_
          refine x_jcmp_ge C 52 dX12_compare_45 (by decide) (fun c45 => ?_) (fun c45 => ?_)
          · skip
            have c45' := Int32.not_lt.mpr c45
            refine x_iconst C (nI 1) dX12_compare_52 rfl ?_
            refine x_iret C xr xk dX12_compare_53 ?_
            exact hK _ _ ⟨by unfold x_cmp; rw [← hk2, x_lexl_drop (by omega) (by omega), if_neg c25]; first | rw [if_pos c45, if_neg (by decide)] | rw [if_neg c45', if_neg (by decide)], rfl⟩
          · skip
            have c45' := Int32.not_le.mpr c45
            refine x_iconst C (-1) dX12_compare_48 rfl ?_
            refine x_goto C 53 dX12_compare_49 (by decide) ?_
            refine x_iret C xr xk dX12_compare_53 ?_
            exact hK _ _ ⟨by unfold x_cmp; rw [← hk2, x_lexl_drop (by omega) (by omega), if_neg c25]; first | rw [if_pos c45, if_neg (by decide)] | rw [if_neg c45', if_neg (by decide)], rfl⟩
  exact lp2 _ 0 rfl (by omega) rfl _ rfl rfl rfl
theorem c_X12_compare (l : Launch) (Y : x_Y) (σ : x_S) (la sa lb sb : List Int32) (F G : Nat → Int32) (i : Nat) (hi : i < 193) (hl9 : la.length = 9) (hs3 : sa.length = 3) (hl19 : lb.length = 9) (hs13 : sb.length = 3) (hF : σ.1 46 = x_ml la F) (hG : σ.1 47 = x_ml sa G) (hl : ∀ j, j < 9 → σ.1 42 (9 * i + j) = lb.getD j 0) (hs : ∀ j, j < 3 → σ.1 43 (3 * i + j) = sb.getD j 0) : x_M l yX12_compare cX12_compare 3 (some .int) 0 Y [.ref 38, .int (nI i)] σ (fun r τ => r = some (.int (x_cmp la sa lb sb)) ∧ τ = σ) := c_X12_compare_K l Y σ la sa lb sb F G i hi hl9 hs3 hl19 hs13 hF hG hl hs _ (fun _ _ h => h)
set_option maxRecDepth 100000 in
set_option maxHeartbeats 200000 in
theorem c_X12_putMade_K (l : Launch) (Y : x_Y) (σ : x_S) (i : Nat) (hi : i < 193) (K : Option Value → x_S → Prop) (hK : ∀ (r : Option Value) (τ : x_S), (r = none ∧ τ = x_ui (x_ui σ 42 (va_cpy (σ.1 46) (σ.1 42) 0 (9 * i) 9)) 43 (va_cpy (σ.1 47) (σ.1 43) 0 (3 * i) 3)) → K r τ) : x_M l yX12_putMade cX12_putMade 3 none 0 Y [.ref 38, .int (nI i)] σ K := by
  refine x_start (by decide) (Nat.le_of_ble_eq_true rfl) ?_
  intro xp xe xs xm xg xb xt xc C xr xk
  refine x_iconst C (nI 0) dX12_putMade_0 rfl ?_
  refine x_istore_n C (i := 2) dX12_putMade_1 rfl (by decide) ?_
  have lp2 : ∀ (m2 : Nat) (k : Nat), (9 - k) = m2 → (k ≤ 9) → ∀ L : x_Lo, L.1 0 = some (.ref 38) → L.1 1 = some (.int (nI i)) → L.1 2 = some (.int (nI k)) → x_W xp l xe (x_rm 0) xs xm xg xb xt xc 3 Y 0 0 (MQ xb (x_Q Y K) xg xs 0 0 (x_A Y)) 2 L [] (x_ui σ 42 (va_cpy (σ.1 46) (σ.1 42) 0 (9 * i) k)) := by
    intro m2
    induction m2 using Nat.strongRecOn with
    | _ m2 ih2 =>
      intro k hm2 hk9 L xl0 xl1 xl2
      refine x_iload_n C (i := 2) dX12_putMade_2 rfl xl2 ?_
      refine x_bipush C (nI 9) dX12_putMade_3 rfl ?_
      refine x_icmp_geN C 31 dX12_putMade_5 (by decide) (by omega) (by omega) (fun c5 => ?_) (fun c5 => ?_)
      · skip
        have c5' := Nat.not_lt.mpr c5
        obtain rfl : k = 9 := by omega
        refine x_iconst C (nI 0) dX12_putMade_31 rfl ?_
        refine x_istore_n C (i := 2) dX12_putMade_32 rfl (by decide) ?_
        have lp33 : ∀ (m33 : Nat) (k : Nat), (3 - k) = m33 → (k ≤ 3) → ∀ L : x_Lo, L.1 0 = some (.ref 38) → L.1 1 = some (.int (nI i)) → L.1 2 = some (.int (nI k)) → x_W xp l xe (x_rm 0) xs xm xg xb xt xc 3 Y 0 0 (MQ xb (x_Q Y K) xg xs 0 0 (x_A Y)) 33 L [] (x_ui (x_ui σ 42 (va_cpy (σ.1 46) (σ.1 42) 0 (9 * i) 9)) 43 (va_cpy (σ.1 47) (σ.1 43) 0 (3 * i) k)) := by
          intro m33
          induction m33 using Nat.strongRecOn with
          | _ m33 ih33 =>
            intro k hm33 hk3 L xl0 xl1 xl2
            refine x_iload_n C (i := 2) dX12_putMade_33 rfl xl2 ?_
            refine x_iconst C (nI 3) dX12_putMade_34 rfl ?_
            refine x_icmp_geN C 60 dX12_putMade_35 (by decide) (by omega) (by omega) (fun c35 => ?_) (fun c35 => ?_)
            · skip
              have c35' := Nat.not_lt.mpr c35
              obtain rfl : k = 3 := by omega
              refine x_vret C xr xk dX12_putMade_60 ?_
              exact hK _ _ ⟨rfl, rfl⟩
            · skip
              have c35' := Nat.not_le.mpr c35
              refine x_aload_n C (i := 0) dX12_putMade_38 rfl xl0 ?_
              refine x_getR C fr_38_9 kf_X12_23 dX12_putMade_39 ?_
              refine x_iconst C (nI 3) dX12_putMade_42 rfl ?_
              refine x_iload_n C (i := 1) dX12_putMade_43 rfl xl1 ?_
              refine x_imulN C dX12_putMade_44 ?_
              refine x_iload_n C (i := 2) dX12_putMade_45 rfl xl2 ?_
              refine x_iaddN C dX12_putMade_46 ?_
              refine x_aload_n C (i := 0) dX12_putMade_47 rfl xl0 ?_
              refine x_getR C fr_38_14 kf_X12_35 dX12_putMade_48 ?_
              refine x_iload_n C (i := 2) dX12_putMade_51 rfl xl2 ?_
              refine x_ialdN C (by decide) rfl (by decide) dX12_putMade_52 (by omega) ?_
              refine x_iastN C (by decide) rfl (by decide) dX12_putMade_53 (by omega) ?_
              refine x_iincN C (i := 2) (b := 1) dX12_putMade_54 xl2 rfl (by decide) ?_
              refine x_goto C 33 dX12_putMade_57 (by decide) ?_
              refine x_sig (σ' := x_ui (x_ui σ 42 (va_cpy (σ.1 46) (σ.1 42) 0 (9 * i) 9)) 43 (va_cpy (σ.1 47) (σ.1 43) 0 (3 * i) (k + 1))) (by rw [x_u_of_ui]; exact x_ui_congr _ 43 (x_cpy_s0 (σ.1 47) (σ.1 43) (3 * i) k)) ?_
              exact ih33 _ (by omega) (k + 1) rfl (by omega) _ xl0 xl1 rfl
        refine x_sig (σ' := x_ui (x_ui σ 42 (va_cpy (σ.1 46) (σ.1 42) 0 (9 * i) 9)) 43 (va_cpy (σ.1 47) (σ.1 43) 0 (3 * i) 0)) (by rw [x_cpy_0]; exact (x_ui_self _ 43).symm) ?_
        exact lp33 _ 0 rfl (by omega) _ xl0 xl1 rfl
      · skip
        have c5' := Nat.not_le.mpr c5
        refine x_aload_n C (i := 0) dX12_putMade_8 rfl xl0 ?_
        refine x_getR C fr_38_8 kf_X12_20 dX12_putMade_9 ?_
        refine x_bipush C (nI 9) dX12_putMade_12 rfl ?_
        refine x_iload_n C (i := 1) dX12_putMade_14 rfl xl1 ?_
        refine x_imulN C dX12_putMade_15 ?_
        refine x_iload_n C (i := 2) dX12_putMade_16 rfl xl2 ?_
        refine x_iaddN C dX12_putMade_17 ?_
        refine x_aload_n C (i := 0) dX12_putMade_18 rfl xl0 ?_
        refine x_getR C fr_38_13 kf_X12_32 dX12_putMade_19 ?_
        refine x_iload_n C (i := 2) dX12_putMade_22 rfl xl2 ?_
        refine x_ialdN C (by decide) rfl (by decide) dX12_putMade_23 (by omega) ?_
        refine x_iastN C (by decide) rfl (by decide) dX12_putMade_24 (by omega) ?_
        refine x_iincN C (i := 2) (b := 1) dX12_putMade_25 xl2 rfl (by decide) ?_
        refine x_goto C 2 dX12_putMade_28 (by decide) ?_
        refine x_sig (σ' := x_ui σ 42 (va_cpy (σ.1 46) (σ.1 42) 0 (9 * i) (k + 1))) (by rw [x_u_of_ui]; exact x_ui_congr σ 42 (x_cpy_s0 (σ.1 46) (σ.1 42) (9 * i) k)) ?_
        exact ih2 _ (by omega) (k + 1) rfl (by omega) _ xl0 xl1 rfl
  refine x_sig (σ' := x_ui σ 42 (va_cpy (σ.1 46) (σ.1 42) 0 (9 * i) 0)) (by rw [x_cpy_0]; exact (x_ui_self σ 42).symm) ?_
  exact lp2 _ 0 rfl (by omega) _ rfl rfl rfl
theorem c_X12_putMade (l : Launch) (Y : x_Y) (σ : x_S) (i : Nat) (hi : i < 193) : x_M l yX12_putMade cX12_putMade 3 none 0 Y [.ref 38, .int (nI i)] σ (fun r τ => r = none ∧ τ = x_ui (x_ui σ 42 (va_cpy (σ.1 46) (σ.1 42) 0 (9 * i) 9)) 43 (va_cpy (σ.1 47) (σ.1 43) 0 (3 * i) 3)) := c_X12_putMade_K l Y σ i hi _ (fun _ _ h => h)
