set_option maxRecDepth 100000 in
set_option maxHeartbeats 200000 in
theorem c_X12_feed_K (l : Launch) (Y : x_Y) (σ : x_S) (a b c d e : Int32) (t : Nat) (ht : σ.1 38 2 = nI t) (ht8 : t ≤ 8000) (K : Option Value → x_S → Prop) (hK : ∀ (r : Option Value) (τ : x_S), ((t + 20 ≤ 8000 ∧ r = some (.int (nI (t + 20))) ∧ τ = x_fe σ (va_cpy (x_fdb a b c d e) (σ.1 39) 0 t 20) (t + 20)) ∨ (8000 < t + 20 ∧ r = some (.int (nI 0)) ∧ τ = x_u σ 38 0 (nI 1))) → K r τ) : x_M l yX12_feed cX12_feed 8 (some .int) 1 Y [.ref 38, .int a, .int b, .int c, .int d, .int e] σ K := by
  refine x_start (by decide) (Nat.le_of_ble_eq_true rfl) ?_
  intro xp xe xs xm xg xb xt xc C xr xk
  refine x_aload_n C (i := 0) dX12_feed_0 rfl rfl ?_
  refine x_aload_n C (i := 0) dX12_feed_1 rfl rfl ?_
  refine x_getI C fi_38_2 kf_X12_89 dX12_feed_2 ?_
  refine x_topI (y := nI t) ht ?_
  refine x_bipush C (nI 20) dX12_feed_5 rfl ?_
  refine x_iaddN C dX12_feed_7 ?_
  refine x_sipush C (nI 8000) dX12_feed_8 rfl ?_
  refine x_icmp_gtN C 18 dX12_feed_11 (by decide) (by omega) (by omega) (fun c11 => ?_) (fun c11 => ?_)
  · skip
    have c11' := Nat.not_le.mpr c11
    refine x_iconst C (nI 0) dX12_feed_18 rfl ?_
    have hM := c_X12_goes l Y σ false
    refine x_callV C (as := [.int (x_z false)]) (st := []) (hM) kb_X12_goes kv_X12_92 dX12_feed_19 rfl rfl (Nat.le_of_ble_eq_true rfl) ⟨by decide, by decide⟩ ⟨by decide, by decide⟩ ko_38 ?_
    clear hM
    rintro _ _ ⟨rfl, rfl⟩
    refine x_if_neZ C 27 dX12_feed_22 (by decide) (fun c22 => absurd c22 (by decide)) (fun c22 => ?_)
    refine x_iconst C (nI 0) dX12_feed_25 rfl ?_
    refine x_iret C xr xk dX12_feed_26 ?_
    exact hK _ _ (Or.inr ⟨c11, rfl, rfl⟩)
  · skip
    have c11' := Nat.not_lt.mpr c11
    refine x_iconst C (nI 1) dX12_feed_14 rfl ?_
    refine x_goto C 19 dX12_feed_15 (by decide) ?_
    have hM := c_X12_goes l Y σ true
    refine x_callV C (as := [.int (x_z true)]) (st := []) (hM) kb_X12_goes kv_X12_92 dX12_feed_19 rfl rfl (Nat.le_of_ble_eq_true rfl) ⟨by decide, by decide⟩ ⟨by decide, by decide⟩ ko_38 ?_
    clear hM
    rintro _ _ ⟨rfl, rfl⟩
    refine x_if_neZ C 27 dX12_feed_22 (by decide) (fun c22 => ?_) (fun c22 => absurd c22 (by decide))
    refine x_sig (σ' := x_fe σ (va_cpy (x_fdb a b c d e) (σ.1 39) 0 t 0) t) (by rw [x_cpy_0]; exact x_fe_start σ ht) ?_
    refine x_iconst C (nI 0) dX12_feed_27 rfl ?_
    refine x_istore C (i := 6) dX12_feed_28 (by decide) ?_
    have lp30 : ∀ (m30 : Nat) (i : Nat), (20 - i) = m30 → (i ≤ 20) → ∀ L : x_Lo, L.1 0 = some (.ref 38) → L.1 1 = some (.int a) → L.1 2 = some (.int b) → L.1 3 = some (.int c) → L.1 4 = some (.int d) → L.1 5 = some (.int e) → L.1 6 = some (.int (nI i)) → x_W xp l xe (x_rm 1) xs xm xg xb xt xc 8 Y 0 0 (MQ xb (x_Q Y K) xg xs 0 0 (x_A Y)) 30 L [] (x_fe σ (va_cpy (x_fdb a b c d e) (σ.1 39) 0 t i) (t + i)) := by
      intro m30
      induction m30 using Nat.strongRecOn with
      | _ m30 ih30 =>
        intro i hm30 hi L xl0 xl1 xl2 xl3 xl4 xl5 xl6
        refine x_iload C (i := 6) dX12_feed_30 xl6 ?_
        refine x_bipush C (nI 20) dX12_feed_32 rfl ?_
        refine x_icmp_geN C 124 dX12_feed_34 (by decide) (by omega) (by omega) (fun c34 => ?_) (fun c34 => ?_)
        · skip
          have c34' := Nat.not_lt.mpr c34
          obtain rfl : i = 20 := by omega
          refine x_aload_n C (i := 0) dX12_feed_124 rfl xl0 ?_
          refine x_getI C fi_38_2 kf_X12_89 dX12_feed_125 ?_
          refine x_topI (y := nI (t + 20)) rfl ?_
          refine x_iret C xr xk dX12_feed_128 ?_
          exact hK _ _ (Or.inl ⟨c11, rfl, rfl⟩)
        · skip
          have c34' := Nat.not_le.mpr c34
          refine x_iload C (i := 6) dX12_feed_37 xl6 ?_
          refine x_iconst C (nI 4) dX12_feed_39 rfl ?_
          refine x_icmp_geN C 47 dX12_feed_40 (by decide) (by omega) (by omega) (fun c40 => ?_) (fun c40 => ?_)
          · skip
            have c40' := Nat.not_lt.mpr c40
            refine x_iload C (i := 6) dX12_feed_47 xl6 ?_
            refine x_bipush C (nI 8) dX12_feed_49 rfl ?_
            refine x_icmp_geN C 58 dX12_feed_51 (by decide) (by omega) (by omega) (fun c51 => ?_) (fun c51 => ?_)
            · skip
              have c51' := Nat.not_lt.mpr c51
              refine x_iload C (i := 6) dX12_feed_58 xl6 ?_
              refine x_bipush C (nI 12) dX12_feed_60 rfl ?_
              refine x_icmp_geN C 69 dX12_feed_62 (by decide) (by omega) (by omega) (fun c62 => ?_) (fun c62 => ?_)
              · skip
                have c62' := Nat.not_lt.mpr c62
                refine x_iload C (i := 6) dX12_feed_69 xl6 ?_
                refine x_bipush C (nI 16) dX12_feed_71 rfl ?_
                refine x_icmp_geN C 81 dX12_feed_73 (by decide) (by omega) (by omega) (fun c73 => ?_) (fun c73 => ?_)
                · skip
                  have c73' := Nat.not_lt.mpr c73
                  refine x_iload C (i := 5) dX12_feed_81 xl5 ?_
                  refine x_istore C (i := 7) dX12_feed_83 (by decide) ?_
                  refine x_aload_n C (i := 0) dX12_feed_85 rfl xl0 ?_
                  refine x_getR C fr_38_1 kf_X12_7 dX12_feed_86 ?_
                  refine x_aload_n C (i := 0) dX12_feed_89 rfl xl0 ?_
                  refine x_getI C fi_38_2 kf_X12_89 dX12_feed_90 ?_
                  refine x_topI (y := nI (t + i)) rfl ?_
                  refine x_iload C (i := 7) dX12_feed_93 rfl ?_
                  refine x_bipush C (nI 24) dX12_feed_95 rfl ?_
                  refine x_bipush C (nI 8) dX12_feed_97 rfl ?_
                  refine x_iload C (i := 6) dX12_feed_99 xl6 ?_
                  refine x_iconst C (nI 4) dX12_feed_101 rfl ?_
                  refine x_iremN C dX12_feed_102 (by omega) (by omega) (by omega) ?_
                  refine x_imulN C dX12_feed_103 ?_
                  refine x_isubN C dX12_feed_104 (by omega) ?_
                  refine x_ishr C dX12_feed_105 ?_
                  refine x_i2b C dX12_feed_106 ?_
                  refine x_topI (y := x_fdv a b c d e i) (by unfold x_fdv; first | rw [if_pos c40] | rw [if_neg c40', if_pos c51] | rw [if_neg c40', if_neg c51', if_pos c62] | rw [if_neg c40', if_neg c51', if_neg c62', if_pos c73] | rw [if_neg c40', if_neg c51', if_neg c62', if_neg c73']) ?_
                  refine x_bastN C (by decide) rfl (by decide) dX12_feed_107 (by omega) ?_
                  refine x_sig (σ' := x_fe σ (upd (va_cpy (x_fdb a b c d e) (σ.1 39) 0 t i) (t + i) (vp_nar .byte (x_fdv a b c d e i))) (t + i)) (by rw [x_u_ui]; exact x_fe_39 _ _ _ _) ?_
                  refine x_aload_n C (i := 0) dX12_feed_108 rfl xl0 ?_
                  refine x_dup C dX12_feed_109 rfl ?_
                  refine x_getI C fi_38_2 kf_X12_89 dX12_feed_110 ?_
                  refine x_topI (y := nI (t + i)) rfl ?_
                  refine x_iconst C (nI 1) dX12_feed_113 rfl ?_
                  refine x_iaddN C dX12_feed_114 ?_
                  refine x_putN C fi_38_2 kf_X12_89 rfl rfl dX12_feed_115 ?_
                  refine x_sig (σ' := x_fe σ (upd (va_cpy (x_fdb a b c d e) (σ.1 39) 0 t i) (t + i) (vp_nar .byte (x_fdv a b c d e i))) (t + i + 1)) (x_fe_2 _ _ _ _) ?_
                  refine x_iincN C (i := 6) (b := 1) dX12_feed_118 xl6 rfl (by decide) ?_
                  refine x_goto C 30 dX12_feed_121 (by decide) ?_
                  refine x_sig (σ' := x_fe σ (va_cpy (x_fdb a b c d e) (σ.1 39) 0 t (i + 1)) (t + (i + 1))) (congrArg (fun z => x_fe σ z (t + i + 1)) (x_cpy_s0 (x_fdb a b c d e) (σ.1 39) t i)) ?_
                  exact ih30 _ (by omega) (i + 1) rfl (by omega) _ xl0 xl1 xl2 xl3 xl4 xl5 rfl
                · skip
                  have c73' := Nat.not_le.mpr c73
                  refine x_iload C (i := 4) dX12_feed_76 xl4 ?_
                  refine x_goto C 83 dX12_feed_78 (by decide) ?_
                  refine x_istore C (i := 7) dX12_feed_83 (by decide) ?_
                  refine x_aload_n C (i := 0) dX12_feed_85 rfl xl0 ?_
                  refine x_getR C fr_38_1 kf_X12_7 dX12_feed_86 ?_
                  refine x_aload_n C (i := 0) dX12_feed_89 rfl xl0 ?_
                  refine x_getI C fi_38_2 kf_X12_89 dX12_feed_90 ?_
                  refine x_topI (y := nI (t + i)) rfl ?_
                  refine x_iload C (i := 7) dX12_feed_93 rfl ?_
                  refine x_bipush C (nI 24) dX12_feed_95 rfl ?_
                  refine x_bipush C (nI 8) dX12_feed_97 rfl ?_
                  refine x_iload C (i := 6) dX12_feed_99 xl6 ?_
                  refine x_iconst C (nI 4) dX12_feed_101 rfl ?_
                  refine x_iremN C dX12_feed_102 (by omega) (by omega) (by omega) ?_
                  refine x_imulN C dX12_feed_103 ?_
                  refine x_isubN C dX12_feed_104 (by omega) ?_
                  refine x_ishr C dX12_feed_105 ?_
                  refine x_i2b C dX12_feed_106 ?_
                  refine x_topI (y := x_fdv a b c d e i) (by unfold x_fdv; first | rw [if_pos c40] | rw [if_neg c40', if_pos c51] | rw [if_neg c40', if_neg c51', if_pos c62] | rw [if_neg c40', if_neg c51', if_neg c62', if_pos c73] | rw [if_neg c40', if_neg c51', if_neg c62', if_neg c73']) ?_
                  refine x_bastN C (by decide) rfl (by decide) dX12_feed_107 (by omega) ?_
                  refine x_sig (σ' := x_fe σ (upd (va_cpy (x_fdb a b c d e) (σ.1 39) 0 t i) (t + i) (vp_nar .byte (x_fdv a b c d e i))) (t + i)) (by rw [x_u_ui]; exact x_fe_39 _ _ _ _) ?_
                  refine x_aload_n C (i := 0) dX12_feed_108 rfl xl0 ?_
                  refine x_dup C dX12_feed_109 rfl ?_
                  refine x_getI C fi_38_2 kf_X12_89 dX12_feed_110 ?_
                  refine x_topI (y := nI (t + i)) rfl ?_
                  refine x_iconst C (nI 1) dX12_feed_113 rfl ?_
                  refine x_iaddN C dX12_feed_114 ?_
                  refine x_putN C fi_38_2 kf_X12_89 rfl rfl dX12_feed_115 ?_
                  refine x_sig (σ' := x_fe σ (upd (va_cpy (x_fdb a b c d e) (σ.1 39) 0 t i) (t + i) (vp_nar .byte (x_fdv a b c d e i))) (t + i + 1)) (x_fe_2 _ _ _ _) ?_
                  refine x_iincN C (i := 6) (b := 1) dX12_feed_118 xl6 rfl (by decide) ?_
                  refine x_goto C 30 dX12_feed_121 (by decide) ?_
                  refine x_sig (σ' := x_fe σ (va_cpy (x_fdb a b c d e) (σ.1 39) 0 t (i + 1)) (t + (i + 1))) (congrArg (fun z => x_fe σ z (t + i + 1)) (x_cpy_s0 (x_fdb a b c d e) (σ.1 39) t i)) ?_
                  exact ih30 _ (by omega) (i + 1) rfl (by omega) _ xl0 xl1 xl2 xl3 xl4 xl5 rfl
              · skip
                have c62' := Nat.not_le.mpr c62
                refine x_iload_n C (i := 3) dX12_feed_65 rfl xl3 ?_
                refine x_goto C 83 dX12_feed_66 (by decide) ?_
                refine x_istore C (i := 7) dX12_feed_83 (by decide) ?_
                refine x_aload_n C (i := 0) dX12_feed_85 rfl xl0 ?_
                refine x_getR C fr_38_1 kf_X12_7 dX12_feed_86 ?_
                refine x_aload_n C (i := 0) dX12_feed_89 rfl xl0 ?_
                refine x_getI C fi_38_2 kf_X12_89 dX12_feed_90 ?_
                refine x_topI (y := nI (t + i)) rfl ?_
                refine x_iload C (i := 7) dX12_feed_93 rfl ?_
                refine x_bipush C (nI 24) dX12_feed_95 rfl ?_
                refine x_bipush C (nI 8) dX12_feed_97 rfl ?_
                refine x_iload C (i := 6) dX12_feed_99 xl6 ?_
                refine x_iconst C (nI 4) dX12_feed_101 rfl ?_
                refine x_iremN C dX12_feed_102 (by omega) (by omega) (by omega) ?_
                refine x_imulN C dX12_feed_103 ?_
                refine x_isubN C dX12_feed_104 (by omega) ?_
                refine x_ishr C dX12_feed_105 ?_
                refine x_i2b C dX12_feed_106 ?_
                refine x_topI (y := x_fdv a b c d e i) (by unfold x_fdv; first | rw [if_pos c40] | rw [if_neg c40', if_pos c51] | rw [if_neg c40', if_neg c51', if_pos c62] | rw [if_neg c40', if_neg c51', if_neg c62', if_pos c73] | rw [if_neg c40', if_neg c51', if_neg c62', if_neg c73']) ?_
                refine x_bastN C (by decide) rfl (by decide) dX12_feed_107 (by omega) ?_
                refine x_sig (σ' := x_fe σ (upd (va_cpy (x_fdb a b c d e) (σ.1 39) 0 t i) (t + i) (vp_nar .byte (x_fdv a b c d e i))) (t + i)) (by rw [x_u_ui]; exact x_fe_39 _ _ _ _) ?_
                refine x_aload_n C (i := 0) dX12_feed_108 rfl xl0 ?_
                refine x_dup C dX12_feed_109 rfl ?_
                refine x_getI C fi_38_2 kf_X12_89 dX12_feed_110 ?_
                refine x_topI (y := nI (t + i)) rfl ?_
                refine x_iconst C (nI 1) dX12_feed_113 rfl ?_
                refine x_iaddN C dX12_feed_114 ?_
                refine x_putN C fi_38_2 kf_X12_89 rfl rfl dX12_feed_115 ?_
                refine x_sig (σ' := x_fe σ (upd (va_cpy (x_fdb a b c d e) (σ.1 39) 0 t i) (t + i) (vp_nar .byte (x_fdv a b c d e i))) (t + i + 1)) (x_fe_2 _ _ _ _) ?_
                refine x_iincN C (i := 6) (b := 1) dX12_feed_118 xl6 rfl (by decide) ?_
                refine x_goto C 30 dX12_feed_121 (by decide) ?_
                refine x_sig (σ' := x_fe σ (va_cpy (x_fdb a b c d e) (σ.1 39) 0 t (i + 1)) (t + (i + 1))) (congrArg (fun z => x_fe σ z (t + i + 1)) (x_cpy_s0 (x_fdb a b c d e) (σ.1 39) t i)) ?_
                exact ih30 _ (by omega) (i + 1) rfl (by omega) _ xl0 xl1 xl2 xl3 xl4 xl5 rfl
            · skip
              have c51' := Nat.not_le.mpr c51
              refine x_iload_n C (i := 2) dX12_feed_54 rfl xl2 ?_
              refine x_goto C 83 dX12_feed_55 (by decide) ?_
              refine x_istore C (i := 7) dX12_feed_83 (by decide) ?_
              refine x_aload_n C (i := 0) dX12_feed_85 rfl xl0 ?_
              refine x_getR C fr_38_1 kf_X12_7 dX12_feed_86 ?_
              refine x_aload_n C (i := 0) dX12_feed_89 rfl xl0 ?_
              refine x_getI C fi_38_2 kf_X12_89 dX12_feed_90 ?_
              refine x_topI (y := nI (t + i)) rfl ?_
              refine x_iload C (i := 7) dX12_feed_93 rfl ?_
              refine x_bipush C (nI 24) dX12_feed_95 rfl ?_
              refine x_bipush C (nI 8) dX12_feed_97 rfl ?_
              refine x_iload C (i := 6) dX12_feed_99 xl6 ?_
              refine x_iconst C (nI 4) dX12_feed_101 rfl ?_
              refine x_iremN C dX12_feed_102 (by omega) (by omega) (by omega) ?_
              refine x_imulN C dX12_feed_103 ?_
              refine x_isubN C dX12_feed_104 (by omega) ?_
              refine x_ishr C dX12_feed_105 ?_
              refine x_i2b C dX12_feed_106 ?_
              refine x_topI (y := x_fdv a b c d e i) (by unfold x_fdv; first | rw [if_pos c40] | rw [if_neg c40', if_pos c51] | rw [if_neg c40', if_neg c51', if_pos c62] | rw [if_neg c40', if_neg c51', if_neg c62', if_pos c73] | rw [if_neg c40', if_neg c51', if_neg c62', if_neg c73']) ?_
              refine x_bastN C (by decide) rfl (by decide) dX12_feed_107 (by omega) ?_
              refine x_sig (σ' := x_fe σ (upd (va_cpy (x_fdb a b c d e) (σ.1 39) 0 t i) (t + i) (vp_nar .byte (x_fdv a b c d e i))) (t + i)) (by rw [x_u_ui]; exact x_fe_39 _ _ _ _) ?_
              refine x_aload_n C (i := 0) dX12_feed_108 rfl xl0 ?_
              refine x_dup C dX12_feed_109 rfl ?_
              refine x_getI C fi_38_2 kf_X12_89 dX12_feed_110 ?_
              refine x_topI (y := nI (t + i)) rfl ?_
              refine x_iconst C (nI 1) dX12_feed_113 rfl ?_
              refine x_iaddN C dX12_feed_114 ?_
              refine x_putN C fi_38_2 kf_X12_89 rfl rfl dX12_feed_115 ?_
              refine x_sig (σ' := x_fe σ (upd (va_cpy (x_fdb a b c d e) (σ.1 39) 0 t i) (t + i) (vp_nar .byte (x_fdv a b c d e i))) (t + i + 1)) (x_fe_2 _ _ _ _) ?_
              refine x_iincN C (i := 6) (b := 1) dX12_feed_118 xl6 rfl (by decide) ?_
              refine x_goto C 30 dX12_feed_121 (by decide) ?_
              refine x_sig (σ' := x_fe σ (va_cpy (x_fdb a b c d e) (σ.1 39) 0 t (i + 1)) (t + (i + 1))) (congrArg (fun z => x_fe σ z (t + i + 1)) (x_cpy_s0 (x_fdb a b c d e) (σ.1 39) t i)) ?_
              exact ih30 _ (by omega) (i + 1) rfl (by omega) _ xl0 xl1 xl2 xl3 xl4 xl5 rfl
          · skip
            have c40' := Nat.not_le.mpr c40
            refine x_iload_n C (i := 1) dX12_feed_43 rfl xl1 ?_
            refine x_goto C 83 dX12_feed_44 (by decide) ?_
            refine x_istore C (i := 7) dX12_feed_83 (by decide) ?_
            refine x_aload_n C (i := 0) dX12_feed_85 rfl xl0 ?_
            refine x_getR C fr_38_1 kf_X12_7 dX12_feed_86 ?_
            refine x_aload_n C (i := 0) dX12_feed_89 rfl xl0 ?_
            refine x_getI C fi_38_2 kf_X12_89 dX12_feed_90 ?_
            refine x_topI (y := nI (t + i)) rfl ?_
            refine x_iload C (i := 7) dX12_feed_93 rfl ?_
            refine x_bipush C (nI 24) dX12_feed_95 rfl ?_
            refine x_bipush C (nI 8) dX12_feed_97 rfl ?_
            refine x_iload C (i := 6) dX12_feed_99 xl6 ?_
            refine x_iconst C (nI 4) dX12_feed_101 rfl ?_
            refine x_iremN C dX12_feed_102 (by omega) (by omega) (by omega) ?_
            refine x_imulN C dX12_feed_103 ?_
            refine x_isubN C dX12_feed_104 (by omega) ?_
            refine x_ishr C dX12_feed_105 ?_
            refine x_i2b C dX12_feed_106 ?_
            refine x_topI (y := x_fdv a b c d e i) (by unfold x_fdv; first | rw [if_pos c40] | rw [if_neg c40', if_pos c51] | rw [if_neg c40', if_neg c51', if_pos c62] | rw [if_neg c40', if_neg c51', if_neg c62', if_pos c73] | rw [if_neg c40', if_neg c51', if_neg c62', if_neg c73']) ?_
            refine x_bastN C (by decide) rfl (by decide) dX12_feed_107 (by omega) ?_
            refine x_sig (σ' := x_fe σ (upd (va_cpy (x_fdb a b c d e) (σ.1 39) 0 t i) (t + i) (vp_nar .byte (x_fdv a b c d e i))) (t + i)) (by rw [x_u_ui]; exact x_fe_39 _ _ _ _) ?_
            refine x_aload_n C (i := 0) dX12_feed_108 rfl xl0 ?_
            refine x_dup C dX12_feed_109 rfl ?_
            refine x_getI C fi_38_2 kf_X12_89 dX12_feed_110 ?_
            refine x_topI (y := nI (t + i)) rfl ?_
            refine x_iconst C (nI 1) dX12_feed_113 rfl ?_
            refine x_iaddN C dX12_feed_114 ?_
            refine x_putN C fi_38_2 kf_X12_89 rfl rfl dX12_feed_115 ?_
            refine x_sig (σ' := x_fe σ (upd (va_cpy (x_fdb a b c d e) (σ.1 39) 0 t i) (t + i) (vp_nar .byte (x_fdv a b c d e i))) (t + i + 1)) (x_fe_2 _ _ _ _) ?_
            refine x_iincN C (i := 6) (b := 1) dX12_feed_118 xl6 rfl (by decide) ?_
            refine x_goto C 30 dX12_feed_121 (by decide) ?_
            refine x_sig (σ' := x_fe σ (va_cpy (x_fdb a b c d e) (σ.1 39) 0 t (i + 1)) (t + (i + 1))) (congrArg (fun z => x_fe σ z (t + i + 1)) (x_cpy_s0 (x_fdb a b c d e) (σ.1 39) t i)) ?_
            exact ih30 _ (by omega) (i + 1) rfl (by omega) _ xl0 xl1 xl2 xl3 xl4 xl5 rfl
    refine x_sig (σ' := x_fe σ (va_cpy (x_fdb a b c d e) (σ.1 39) 0 t 0) (t + 0)) rfl ?_
    exact lp30 _ 0 rfl (by omega) _ rfl rfl rfl rfl rfl rfl rfl
theorem c_X12_feed (l : Launch) (Y : x_Y) (σ : x_S) (a b c d e : Int32) (t : Nat) (ht : σ.1 38 2 = nI t) (ht8 : t ≤ 8000) : x_M l yX12_feed cX12_feed 8 (some .int) 1 Y [.ref 38, .int a, .int b, .int c, .int d, .int e] σ (fun r τ => (t + 20 ≤ 8000 ∧ r = some (.int (nI (t + 20))) ∧ τ = x_fe σ (va_cpy (x_fdb a b c d e) (σ.1 39) 0 t 20) (t + 20)) ∨ (8000 < t + 20 ∧ r = some (.int (nI 0)) ∧ τ = x_u σ 38 0 (nI 1))) := c_X12_feed_K l Y σ a b c d e t ht ht8 _ (fun _ _ h => h)
set_option maxRecDepth 100000 in
set_option maxHeartbeats 200000 in
theorem c_X12_end_K (l : Launch) (Y : x_Y) (σ : x_S) (n : Int32) (t : Nat) (ht : σ.1 38 2 = nI t) (ht8 : t ≤ 8000) (K : Option Value → x_S → Prop) (hK : ∀ (r : Option Value) (τ : x_S), ((x_rng n (t + 1) ∧ r = none ∧ τ = x_u (x_u σ 38 0 (nI 0)) 38 2 n) ∨ (¬ x_rng n (t + 1) ∧ r = none ∧ τ = x_u σ 38 0 (nI 1))) → K r τ) : x_M l yX12_end cX12_end 2 none 1 Y [.ref 38, .int n] σ K := by
  refine x_start (by decide) (Nat.le_of_ble_eq_true rfl) ?_
  intro xp xe xs xm xg xb xt xc C xr xk
  refine x_aload_n C (i := 0) dX12_end_0 rfl rfl ?_
  refine x_iload_n C (i := 1) dX12_end_1 rfl rfl ?_
  refine x_iconst C (nI 0) dX12_end_2 rfl ?_
  refine x_aload_n C (i := 0) dX12_end_3 rfl rfl ?_
  refine x_getI C fi_38_2 kf_X12_89 dX12_end_4 ?_
  refine x_topI (y := nI t) ht ?_
  have hM := c_X12_in l Y σ n (nI 0) (nI t)
  refine x_callS C (as := [.int n, .int (nI 0), .int (nI t)]) (st := [.ref 38]) (hM) kb_X12_in ks_X12_96 dX12_end_7 rfl rfl (Nat.le_of_ble_eq_true rfl) ⟨by decide, by decide⟩ ⟨by decide, by decide⟩ ?_
  clear hM
  intro r9 τ9 h9
  obtain ⟨rfl, h8⟩ := h9
  rw [h8]
  clear h8 τ9
  have hM := c_X12_goes l Y σ (decide (nI 0 ≤ n) && decide (n ≤ nI t))
  refine x_callV C (as := [.int (x_z (decide (nI 0 ≤ n) && decide (n ≤ nI t)))]) (st := []) (hM) kb_X12_goes kv_X12_92 dX12_end_10 rfl rfl (Nat.le_of_ble_eq_true rfl) ⟨by decide, by decide⟩ ⟨by decide, by decide⟩ ko_38 ?_
  clear hM
  rintro _ _ ⟨rfl, rfl⟩
  refine x_if_eqZ C 21 dX12_end_13 (by decide) (fun c13 => ?_) (fun c13 => ?_)
  · skip
    have hz := x_rng_not2 (by omega) c13
    refine x_vret C xr xk dX12_end_21 ?_
    exact hK _ _ (by rw [c13]; first | exact Or.inl ⟨hz, rfl, rfl⟩ | exact Or.inr ⟨hz, rfl, rfl⟩)
  · skip
    have hz := (x_rng_iff2 (by omega)).mp c13
    refine x_aload_n C (i := 0) dX12_end_16 rfl rfl ?_
    refine x_iload_n C (i := 1) dX12_end_17 rfl rfl ?_
    refine x_putN C fi_38_2 kf_X12_89 rfl rfl dX12_end_18 ?_
    refine x_vret C xr xk dX12_end_21 ?_
    exact hK _ _ (by rw [c13]; first | exact Or.inl ⟨hz, rfl, rfl⟩ | exact Or.inr ⟨hz, rfl, rfl⟩)
theorem c_X12_end (l : Launch) (Y : x_Y) (σ : x_S) (n : Int32) (t : Nat) (ht : σ.1 38 2 = nI t) (ht8 : t ≤ 8000) : x_M l yX12_end cX12_end 2 none 1 Y [.ref 38, .int n] σ (fun r τ => (x_rng n (t + 1) ∧ r = none ∧ τ = x_u (x_u σ 38 0 (nI 0)) 38 2 n) ∨ (¬ x_rng n (t + 1) ∧ r = none ∧ τ = x_u σ 38 0 (nI 1))) := c_X12_end_K l Y σ n t ht ht8 _ (fun _ _ h => h)
set_option maxRecDepth 100000 in
set_option maxHeartbeats 200000 in
theorem c_X12_order_K (l : Launch) (Y : x_Y) (σ : x_S) (K : Option Value → x_S → Prop) (hK : ∀ (r : Option Value) (τ : x_S), (r = some (.int (σ.1 38 4)) ∧ τ = x_u σ 38 0 (nI 0)) → K r τ) : x_M l yX12_order cX12_order 1 (some .int) 0 Y [.ref 38] σ K := by
  refine x_start (by decide) (Nat.le_of_ble_eq_true rfl) ?_
  intro xp xe xs xm xg xb xt xc C xr xk
  refine x_aload_n C (i := 0) dX12_order_0 rfl rfl ?_
  refine x_iconst C (nI 0) dX12_order_1 rfl ?_
  refine x_putN C fi_38_0 kf_X12_85 rfl rfl dX12_order_2 ?_
  refine x_aload_n C (i := 0) dX12_order_5 rfl rfl ?_
  refine x_getI C fi_38_4 kf_X12_183 dX12_order_6 ?_
  refine x_iret C xr xk dX12_order_9 ?_
  exact hK _ _ ⟨rfl, rfl⟩
theorem c_X12_order (l : Launch) (Y : x_Y) (σ : x_S) : x_M l yX12_order cX12_order 1 (some .int) 0 Y [.ref 38] σ (fun r τ => r = some (.int (σ.1 38 4)) ∧ τ = x_u σ 38 0 (nI 0)) := c_X12_order_K l Y σ  _ (fun _ _ h => h)
set_option maxRecDepth 100000 in
set_option maxHeartbeats 200000 in
theorem c_X12_determinant_K (l : Launch) (Y : x_Y) (σ : x_S) (i : Nat) (hi : i < 192) (K : Option Value → x_S → Prop) (hK : ∀ (r : Option Value) (τ : x_S), (r = some (.int (x_det (σ.1 40) i)) ∧ τ = σ) → K r τ) : x_M l yX12_determinant cX12_determinant 6 (some .int) 0 Y [.ref 38, .int (nI i)] σ K := by
  refine x_start (by decide) (Nat.le_of_ble_eq_true rfl) ?_
  intro xp xe xs xm xg xb xt xc C xr xk
  refine x_bipush C (nI 9) dX12_determinant_0 rfl ?_
  refine x_iload_n C (i := 1) dX12_determinant_2 rfl rfl ?_
  refine x_imulN C dX12_determinant_3 ?_
  refine x_istore_n C (i := 2) dX12_determinant_4 rfl (by decide) ?_
  refine x_aload_n C (i := 0) dX12_determinant_5 rfl rfl ?_
  refine x_getR C fr_38_5 kf_X12_13 dX12_determinant_6 ?_
  refine x_iload_n C (i := 2) dX12_determinant_9 rfl rfl ?_
  refine x_ialdN C (by decide) rfl (by decide) dX12_determinant_10 (by omega) ?_
  refine x_aload_n C (i := 0) dX12_determinant_11 rfl rfl ?_
  refine x_getR C fr_38_5 kf_X12_13 dX12_determinant_12 ?_
  refine x_iload_n C (i := 2) dX12_determinant_15 rfl rfl ?_
  refine x_iconst C (nI 4) dX12_determinant_16 rfl ?_
  refine x_iaddN C dX12_determinant_17 ?_
  refine x_ialdN C (by decide) rfl (by decide) dX12_determinant_18 (by omega) ?_
  refine x_aload_n C (i := 0) dX12_determinant_19 rfl rfl ?_
  refine x_getR C fr_38_5 kf_X12_13 dX12_determinant_20 ?_
  refine x_iload_n C (i := 2) dX12_determinant_23 rfl rfl ?_
  refine x_bipush C (nI 8) dX12_determinant_24 rfl ?_
  refine x_iaddN C dX12_determinant_26 ?_
  refine x_ialdN C (by decide) rfl (by decide) dX12_determinant_27 (by omega) ?_
  refine x_imul C dX12_determinant_28 ?_
  refine x_aload_n C (i := 0) dX12_determinant_29 rfl rfl ?_
  refine x_getR C fr_38_5 kf_X12_13 dX12_determinant_30 ?_
  refine x_iload_n C (i := 2) dX12_determinant_33 rfl rfl ?_
  refine x_iconst C (nI 5) dX12_determinant_34 rfl ?_
  refine x_iaddN C dX12_determinant_35 ?_
  refine x_ialdN C (by decide) rfl (by decide) dX12_determinant_36 (by omega) ?_
  refine x_aload_n C (i := 0) dX12_determinant_37 rfl rfl ?_
  refine x_getR C fr_38_5 kf_X12_13 dX12_determinant_38 ?_
  refine x_iload_n C (i := 2) dX12_determinant_41 rfl rfl ?_
  refine x_bipush C (nI 7) dX12_determinant_42 rfl ?_
  refine x_iaddN C dX12_determinant_44 ?_
  refine x_ialdN C (by decide) rfl (by decide) dX12_determinant_45 (by omega) ?_
  refine x_imul C dX12_determinant_46 ?_
  refine x_isub C dX12_determinant_47 ?_
  refine x_imul C dX12_determinant_48 ?_
  refine x_istore_n C (i := 3) dX12_determinant_49 rfl (by decide) ?_
  refine x_aload_n C (i := 0) dX12_determinant_50 rfl rfl ?_
  refine x_getR C fr_38_5 kf_X12_13 dX12_determinant_51 ?_
  refine x_iload_n C (i := 2) dX12_determinant_54 rfl rfl ?_
  refine x_iconst C (nI 1) dX12_determinant_55 rfl ?_
  refine x_iaddN C dX12_determinant_56 ?_
  refine x_ialdN C (by decide) rfl (by decide) dX12_determinant_57 (by omega) ?_
  refine x_aload_n C (i := 0) dX12_determinant_58 rfl rfl ?_
  refine x_getR C fr_38_5 kf_X12_13 dX12_determinant_59 ?_
  refine x_iload_n C (i := 2) dX12_determinant_62 rfl rfl ?_
  refine x_iconst C (nI 3) dX12_determinant_63 rfl ?_
  refine x_iaddN C dX12_determinant_64 ?_
  refine x_ialdN C (by decide) rfl (by decide) dX12_determinant_65 (by omega) ?_
  refine x_aload_n C (i := 0) dX12_determinant_66 rfl rfl ?_
  refine x_getR C fr_38_5 kf_X12_13 dX12_determinant_67 ?_
  refine x_iload_n C (i := 2) dX12_determinant_70 rfl rfl ?_
  refine x_bipush C (nI 8) dX12_determinant_71 rfl ?_
  refine x_iaddN C dX12_determinant_73 ?_
  refine x_ialdN C (by decide) rfl (by decide) dX12_determinant_74 (by omega) ?_
  refine x_imul C dX12_determinant_75 ?_
  refine x_aload_n C (i := 0) dX12_determinant_76 rfl rfl ?_
  refine x_getR C fr_38_5 kf_X12_13 dX12_determinant_77 ?_
  refine x_iload_n C (i := 2) dX12_determinant_80 rfl rfl ?_
  refine x_iconst C (nI 5) dX12_determinant_81 rfl ?_
  refine x_iaddN C dX12_determinant_82 ?_
  refine x_ialdN C (by decide) rfl (by decide) dX12_determinant_83 (by omega) ?_
  refine x_aload_n C (i := 0) dX12_determinant_84 rfl rfl ?_
  refine x_getR C fr_38_5 kf_X12_13 dX12_determinant_85 ?_
  refine x_iload_n C (i := 2) dX12_determinant_88 rfl rfl ?_
  refine x_bipush C (nI 6) dX12_determinant_89 rfl ?_
  refine x_iaddN C dX12_determinant_91 ?_
  refine x_ialdN C (by decide) rfl (by decide) dX12_determinant_92 (by omega) ?_
  refine x_imul C dX12_determinant_93 ?_
  refine x_isub C dX12_determinant_94 ?_
  refine x_imul C dX12_determinant_95 ?_
  refine x_istore C (i := 4) dX12_determinant_96 (by decide) ?_
  refine x_aload_n C (i := 0) dX12_determinant_98 rfl rfl ?_
  refine x_getR C fr_38_5 kf_X12_13 dX12_determinant_99 ?_
  refine x_iload_n C (i := 2) dX12_determinant_102 rfl rfl ?_
  refine x_iconst C (nI 2) dX12_determinant_103 rfl ?_
  refine x_iaddN C dX12_determinant_104 ?_
  refine x_ialdN C (by decide) rfl (by decide) dX12_determinant_105 (by omega) ?_
  refine x_aload_n C (i := 0) dX12_determinant_106 rfl rfl ?_
  refine x_getR C fr_38_5 kf_X12_13 dX12_determinant_107 ?_
  refine x_iload_n C (i := 2) dX12_determinant_110 rfl rfl ?_
  refine x_iconst C (nI 3) dX12_determinant_111 rfl ?_
  refine x_iaddN C dX12_determinant_112 ?_
  refine x_ialdN C (by decide) rfl (by decide) dX12_determinant_113 (by omega) ?_
  refine x_aload_n C (i := 0) dX12_determinant_114 rfl rfl ?_
  refine x_getR C fr_38_5 kf_X12_13 dX12_determinant_115 ?_
  refine x_iload_n C (i := 2) dX12_determinant_118 rfl rfl ?_
  refine x_bipush C (nI 7) dX12_determinant_119 rfl ?_
  refine x_iaddN C dX12_determinant_121 ?_
  refine x_ialdN C (by decide) rfl (by decide) dX12_determinant_122 (by omega) ?_
  refine x_imul C dX12_determinant_123 ?_
  refine x_aload_n C (i := 0) dX12_determinant_124 rfl rfl ?_
  refine x_getR C fr_38_5 kf_X12_13 dX12_determinant_125 ?_
  refine x_iload_n C (i := 2) dX12_determinant_128 rfl rfl ?_
  refine x_iconst C (nI 4) dX12_determinant_129 rfl ?_
  refine x_iaddN C dX12_determinant_130 ?_
  refine x_ialdN C (by decide) rfl (by decide) dX12_determinant_131 (by omega) ?_
  refine x_aload_n C (i := 0) dX12_determinant_132 rfl rfl ?_
  refine x_getR C fr_38_5 kf_X12_13 dX12_determinant_133 ?_
  refine x_iload_n C (i := 2) dX12_determinant_136 rfl rfl ?_
  refine x_bipush C (nI 6) dX12_determinant_137 rfl ?_
  refine x_iaddN C dX12_determinant_139 ?_
  refine x_ialdN C (by decide) rfl (by decide) dX12_determinant_140 (by omega) ?_
  refine x_imul C dX12_determinant_141 ?_
  refine x_isub C dX12_determinant_142 ?_
  refine x_imul C dX12_determinant_143 ?_
  refine x_istore C (i := 5) dX12_determinant_144 (by decide) ?_
  refine x_iload_n C (i := 3) dX12_determinant_146 rfl rfl ?_
  refine x_iload C (i := 4) dX12_determinant_147 rfl ?_
  refine x_isub C dX12_determinant_149 ?_
  refine x_iload C (i := 5) dX12_determinant_150 rfl ?_
  refine x_iadd C dX12_determinant_152 ?_
  refine x_iret C xr xk dX12_determinant_153 ?_
  exact hK _ _ ⟨rfl, rfl⟩
theorem c_X12_determinant (l : Launch) (Y : x_Y) (σ : x_S) (i : Nat) (hi : i < 192) : x_M l yX12_determinant cX12_determinant 6 (some .int) 0 Y [.ref 38, .int (nI i)] σ (fun r τ => r = some (.int (x_det (σ.1 40) i)) ∧ τ = σ) := c_X12_determinant_K l Y σ i hi _ (fun _ _ h => h)
set_option maxRecDepth 100000 in
set_option maxHeartbeats 200000 in
theorem c_X12_isIndex_K (l : Launch) (Y : x_Y) (σ : x_S) (h k q : Int32) (K : Option Value → x_S → Prop) (hK : ∀ (r : Option Value) (τ : x_S), (r = some (.int (x_z (x_ixs h k q))) ∧ τ = σ) → K r τ) : x_M l yX12_isIndex cX12_isIndex 3 (some .boolean) 1 Y [.int h, .int k, .int q] σ K := by
  refine x_start (by decide) (Nat.le_of_ble_eq_true rfl) ?_
  intro xp xe xs xm xg xb xt xc C xr xk
  refine x_iload_n C (i := 0) dX12_isIndex_0 rfl rfl ?_
  refine x_bipush C (-127) dX12_isIndex_1 rfl ?_
  refine x_bipush C (nI 127) dX12_isIndex_3 rfl ?_
  have hM := c_X12_in l Y σ h (-127) (nI 127)
  refine x_callS C (as := [.int h, .int (-127), .int (nI 127)]) (st := []) (hM) kb_X12_in ks_X12_96 dX12_isIndex_5 rfl rfl (Nat.le_of_ble_eq_true rfl) ⟨by decide, by decide⟩ ⟨by decide, by decide⟩ ?_
  clear hM
  intro r9 τ9 h9
  obtain ⟨rfl, h8⟩ := h9
  rw [h8]
  clear h8 τ9
  refine x_if_eqZ C 37 dX12_isIndex_8 (by decide) (fun c8 => ?_) (fun c8 => ?_)
  · skip
    refine x_iconst C (nI 0) dX12_isIndex_37 rfl ?_
    refine x_zret C xr xk dX12_isIndex_38 rfl ?_
    exact hK _ _ ⟨by unfold x_ixs x_ix; first | (rw [c8, c19, c30]; rfl) | (rw [c8, c19, c30]) | (rw [c8, c19]; rfl) | (rw [c8]; rfl), rfl⟩
  · skip
    refine x_iload_n C (i := 1) dX12_isIndex_11 rfl rfl ?_
    refine x_bipush C (-127) dX12_isIndex_12 rfl ?_
    refine x_bipush C (nI 127) dX12_isIndex_14 rfl ?_
    have hM := c_X12_in l Y σ k (-127) (nI 127)
    refine x_callS C (as := [.int k, .int (-127), .int (nI 127)]) (st := []) (hM) kb_X12_in ks_X12_96 dX12_isIndex_16 rfl rfl (Nat.le_of_ble_eq_true rfl) ⟨by decide, by decide⟩ ⟨by decide, by decide⟩ ?_
    clear hM
    intro r9 τ9 h9
    obtain ⟨rfl, h8⟩ := h9
    rw [h8]
    clear h8 τ9
    refine x_if_eqZ C 37 dX12_isIndex_19 (by decide) (fun c19 => ?_) (fun c19 => ?_)
    · skip
      refine x_iconst C (nI 0) dX12_isIndex_37 rfl ?_
      refine x_zret C xr xk dX12_isIndex_38 rfl ?_
      exact hK _ _ ⟨by unfold x_ixs x_ix; first | (rw [c8, c19, c30]; rfl) | (rw [c8, c19, c30]) | (rw [c8, c19]; rfl) | (rw [c8]; rfl), rfl⟩
    · skip
      refine x_iload_n C (i := 2) dX12_isIndex_22 rfl rfl ?_
      refine x_bipush C (-127) dX12_isIndex_23 rfl ?_
      refine x_bipush C (nI 127) dX12_isIndex_25 rfl ?_
      have hM := c_X12_in l Y σ q (-127) (nI 127)
      refine x_callS C (as := [.int q, .int (-127), .int (nI 127)]) (st := []) (hM) kb_X12_in ks_X12_96 dX12_isIndex_27 rfl rfl (Nat.le_of_ble_eq_true rfl) ⟨by decide, by decide⟩ ⟨by decide, by decide⟩ ?_
      clear hM
      intro r9 τ9 h9
      obtain ⟨rfl, h8⟩ := h9
      rw [h8]
      clear h8 τ9
      refine x_if_eqZ C 37 dX12_isIndex_30 (by decide) (fun c30 => ?_) (fun c30 => ?_)
      · skip
        refine x_iconst C (nI 0) dX12_isIndex_37 rfl ?_
        refine x_zret C xr xk dX12_isIndex_38 rfl ?_
        exact hK _ _ ⟨by unfold x_ixs x_ix; first | (rw [c8, c19, c30]; rfl) | (rw [c8, c19, c30]) | (rw [c8, c19]; rfl) | (rw [c8]; rfl), rfl⟩
      · skip
        refine x_iconst C (nI 1) dX12_isIndex_33 rfl ?_
        refine x_goto C 38 dX12_isIndex_34 (by decide) ?_
        refine x_zret C xr xk dX12_isIndex_38 rfl ?_
        exact hK _ _ ⟨by unfold x_ixs x_ix; first | (rw [c8, c19, c30]; rfl) | (rw [c8, c19, c30]) | (rw [c8, c19]; rfl) | (rw [c8]; rfl), rfl⟩
theorem c_X12_isIndex (l : Launch) (Y : x_Y) (σ : x_S) (h k q : Int32) : x_M l yX12_isIndex cX12_isIndex 3 (some .boolean) 1 Y [.int h, .int k, .int q] σ (fun r τ => r = some (.int (x_z (x_ixs h k q))) ∧ τ = σ) := c_X12_isIndex_K l Y σ h k q _ (fun _ _ h => h)
set_option maxRecDepth 100000 in
set_option maxHeartbeats 200000 in
theorem c_X12_sentTo_K (l : Launch) (Y : x_Y) (σ : x_S) (i : Nat) (h k q : Int32) (j : Nat) (hi : i < 192) (hj : j < 3) (K : Option Value → x_S → Prop) (hK : ∀ (r : Option Value) (τ : x_S), (r = some (.int (x_snt (σ.1 40) i j h k q)) ∧ τ = σ) → K r τ) : x_M l yX12_sentTo cX12_sentTo 6 (some .int) 0 Y [.ref 38, .int (nI i), .int h, .int k, .int q, .int (nI j)] σ K := by
  refine x_start (by decide) (Nat.le_of_ble_eq_true rfl) ?_
  intro xp xe xs xm xg xb xt xc C xr xk
  refine x_iload_n C (i := 2) dX12_sentTo_0 rfl rfl ?_
  refine x_aload_n C (i := 0) dX12_sentTo_1 rfl rfl ?_
  refine x_getR C fr_38_5 kf_X12_13 dX12_sentTo_2 ?_
  refine x_bipush C (nI 9) dX12_sentTo_5 rfl ?_
  refine x_iload_n C (i := 1) dX12_sentTo_7 rfl rfl ?_
  refine x_imulN C dX12_sentTo_8 ?_
  refine x_iload C (i := 5) dX12_sentTo_9 rfl ?_
  refine x_iaddN C dX12_sentTo_11 ?_
  refine x_ialdN C (by decide) rfl (by decide) dX12_sentTo_12 (by omega) ?_
  refine x_imul C dX12_sentTo_13 ?_
  refine x_iload_n C (i := 3) dX12_sentTo_14 rfl rfl ?_
  refine x_aload_n C (i := 0) dX12_sentTo_15 rfl rfl ?_
  refine x_getR C fr_38_5 kf_X12_13 dX12_sentTo_16 ?_
  refine x_bipush C (nI 9) dX12_sentTo_19 rfl ?_
  refine x_iload_n C (i := 1) dX12_sentTo_21 rfl rfl ?_
  refine x_imulN C dX12_sentTo_22 ?_
  refine x_iconst C (nI 3) dX12_sentTo_23 rfl ?_
  refine x_iaddN C dX12_sentTo_24 ?_
  refine x_iload C (i := 5) dX12_sentTo_25 rfl ?_
  refine x_iaddN C dX12_sentTo_27 ?_
  refine x_ialdN C (by decide) rfl (by decide) dX12_sentTo_28 (by omega) ?_
  refine x_imul C dX12_sentTo_29 ?_
  refine x_iadd C dX12_sentTo_30 ?_
  refine x_iload C (i := 4) dX12_sentTo_31 rfl ?_
  refine x_aload_n C (i := 0) dX12_sentTo_33 rfl rfl ?_
  refine x_getR C fr_38_5 kf_X12_13 dX12_sentTo_34 ?_
  refine x_bipush C (nI 9) dX12_sentTo_37 rfl ?_
  refine x_iload_n C (i := 1) dX12_sentTo_39 rfl rfl ?_
  refine x_imulN C dX12_sentTo_40 ?_
  refine x_bipush C (nI 6) dX12_sentTo_41 rfl ?_
  refine x_iaddN C dX12_sentTo_43 ?_
  refine x_iload C (i := 5) dX12_sentTo_44 rfl ?_
  refine x_iaddN C dX12_sentTo_46 ?_
  refine x_ialdN C (by decide) rfl (by decide) dX12_sentTo_47 (by omega) ?_
  refine x_imul C dX12_sentTo_48 ?_
  refine x_iadd C dX12_sentTo_49 ?_
  refine x_iret C xr xk dX12_sentTo_50 ?_
  exact hK _ _ ⟨rfl, rfl⟩
theorem c_X12_sentTo (l : Launch) (Y : x_Y) (σ : x_S) (i : Nat) (h k q : Int32) (j : Nat) (hi : i < 192) (hj : j < 3) : x_M l yX12_sentTo cX12_sentTo 6 (some .int) 0 Y [.ref 38, .int (nI i), .int h, .int k, .int q, .int (nI j)] σ (fun r τ => r = some (.int (x_snt (σ.1 40) i j h k q)) ∧ τ = σ) := c_X12_sentTo_K l Y σ i h k q j hi hj _ (fun _ _ h => h)
set_option maxRecDepth 100000 in
set_option maxHeartbeats 200000 in
theorem c_X12_phase_K (l : Launch) (Y : x_Y) (σ : x_S) (i : Nat) (h k q : Int32) (hi : i < 192) (K : Option Value → x_S → Prop) (hK : ∀ (r : Option Value) (τ : x_S), (r = some (.int (x_phs (σ.1 41) i h k q)) ∧ τ = σ) → K r τ) : x_M l yX12_phase cX12_phase 6 (some .int) 0 Y [.ref 38, .int (nI i), .int h, .int k, .int q] σ K := by
  refine x_start (by decide) (Nat.le_of_ble_eq_true rfl) ?_
  intro xp xe xs xm xg xb xt xc C xr xk
  refine x_iload_n C (i := 2) dX12_phase_0 rfl rfl ?_
  refine x_aload_n C (i := 0) dX12_phase_1 rfl rfl ?_
  refine x_getR C fr_38_6 kf_X12_17 dX12_phase_2 ?_
  refine x_iconst C (nI 3) dX12_phase_5 rfl ?_
  refine x_iload_n C (i := 1) dX12_phase_6 rfl rfl ?_
  refine x_imulN C dX12_phase_7 ?_
  refine x_ialdN C (by decide) rfl (by decide) dX12_phase_8 (by omega) ?_
  refine x_imul C dX12_phase_9 ?_
  refine x_iload_n C (i := 3) dX12_phase_10 rfl rfl ?_
  refine x_aload_n C (i := 0) dX12_phase_11 rfl rfl ?_
  refine x_getR C fr_38_6 kf_X12_17 dX12_phase_12 ?_
  refine x_iconst C (nI 3) dX12_phase_15 rfl ?_
  refine x_iload_n C (i := 1) dX12_phase_16 rfl rfl ?_
  refine x_imulN C dX12_phase_17 ?_
  refine x_iconst C (nI 1) dX12_phase_18 rfl ?_
  refine x_iaddN C dX12_phase_19 ?_
  refine x_ialdN C (by decide) rfl (by decide) dX12_phase_20 (by omega) ?_
  refine x_imul C dX12_phase_21 ?_
  refine x_iadd C dX12_phase_22 ?_
  refine x_iload C (i := 4) dX12_phase_23 rfl ?_
  refine x_aload_n C (i := 0) dX12_phase_25 rfl rfl ?_
  refine x_getR C fr_38_6 kf_X12_17 dX12_phase_26 ?_
  refine x_iconst C (nI 3) dX12_phase_29 rfl ?_
  refine x_iload_n C (i := 1) dX12_phase_30 rfl rfl ?_
  refine x_imulN C dX12_phase_31 ?_
  refine x_iconst C (nI 2) dX12_phase_32 rfl ?_
  refine x_iaddN C dX12_phase_33 ?_
  refine x_ialdN C (by decide) rfl (by decide) dX12_phase_34 (by omega) ?_
  refine x_imul C dX12_phase_35 ?_
  refine x_iadd C dX12_phase_36 ?_
  refine x_istore C (i := 5) dX12_phase_37 (by decide) ?_
  refine x_iload C (i := 5) dX12_phase_39 rfl ?_
  refine x_bipush C (nI 12) dX12_phase_41 rfl ?_
  refine x_irem C dX12_phase_43 (by decide) ?_
  refine x_bipush C (nI 12) dX12_phase_44 rfl ?_
  refine x_iadd C dX12_phase_46 ?_
  refine x_bipush C (nI 12) dX12_phase_47 rfl ?_
  refine x_irem C dX12_phase_49 (by decide) ?_
  refine x_iret C xr xk dX12_phase_50 ?_
  exact hK _ _ ⟨rfl, rfl⟩
theorem c_X12_phase (l : Launch) (Y : x_Y) (σ : x_S) (i : Nat) (h k q : Int32) (hi : i < 192) : x_M l yX12_phase cX12_phase 6 (some .int) 0 Y [.ref 38, .int (nI i), .int h, .int k, .int q] σ (fun r τ => r = some (.int (x_phs (σ.1 41) i h k q)) ∧ τ = σ) := c_X12_phase_K l Y σ i h k q hi _ (fun _ _ h => h)
set_option maxRecDepth 100000 in
set_option maxHeartbeats 200000 in
theorem c_X12_isAbsent_K (l : Launch) (Y : x_Y) (σ : x_S) (h k q : Int32) (n : Nat) (hn : σ.1 38 4 = nI n) (hn9 : n ≤ 192) (K : Option Value → x_S → Prop) (hK : ∀ (r : Option Value) (τ : x_S), (r = some (.int (x_z (x_absent (σ.1 40) (σ.1 41) n h k q))) ∧ τ = σ) → K r τ) : x_M l yX12_isAbsent cX12_isAbsent 6 (some .boolean) 1 Y [.ref 38, .int h, .int k, .int q] σ K := by
  refine x_start (by decide) (Nat.le_of_ble_eq_true rfl) ?_
  intro xp xe xs xm xg xb xt xc C xr xk
  refine x_iconst C (nI 0) dX12_isAbsent_0 rfl ?_
  refine x_istore C (i := 4) dX12_isAbsent_1 (by decide) ?_
  refine x_iconst C (nI 0) dX12_isAbsent_3 rfl ?_
  refine x_istore C (i := 5) dX12_isAbsent_4 (by decide) ?_
  have lp6 : ∀ (m6 : Nat) (i : Nat) (is : Bool), (n - i) = m6 → (i ≤ n) → ((is || x_anyf (x_abs1 (σ.1 40) (σ.1 41) h k q) (n - i) i) = x_absent (σ.1 40) (σ.1 41) n h k q) → ∀ L : x_Lo, L.1 0 = some (.ref 38) → L.1 1 = some (.int h) → L.1 2 = some (.int k) → L.1 3 = some (.int q) → L.1 4 = some (.int (x_z is)) → L.1 5 = some (.int (nI i)) → x_W xp l xe (x_rm 1) xs xm xg xb xt xc 6 Y 0 0 (MQ xb (x_Q Y K) xg xs 0 0 (x_A Y)) 6 L [] σ := by
    intro m6
    induction m6 using Nat.strongRecOn with
    | _ m6 ih6 =>
      intro i is hm6 hi hR L xl0 xl1 xl2 xl3 xl4 xl5
      refine x_iload C (i := 5) dX12_isAbsent_6 xl5 ?_
      refine x_aload_n C (i := 0) dX12_isAbsent_8 rfl xl0 ?_
      refine x_getI C fi_38_4 kf_X12_183 dX12_isAbsent_9 ?_
      refine x_topI (y := nI n) hn ?_
      refine x_icmp_geN C 87 dX12_isAbsent_12 (by decide) (by omega) (by omega) (fun c12 => ?_) (fun c12 => ?_)
      · skip
        have c12' := Nat.not_lt.mpr c12
        refine x_iload C (i := 4) dX12_isAbsent_87 xl4 ?_
        refine x_zret C xr xk dX12_isAbsent_89 (x_z_n _) ?_
        exact hK _ _ ⟨by rw [← hR]; first | rw [x_anyf_e _ (by omega), Bool.or_false] | rw [c17]; rfl, rfl⟩
      · skip
        have c12' := Nat.not_le.mpr c12
        refine x_iload C (i := 4) dX12_isAbsent_15 xl4 ?_
        refine x_if_neZ C 87 dX12_isAbsent_17 (by decide) (fun c17 => ?_) (fun c17 => ?_)
        · skip
          refine x_iload C (i := 4) dX12_isAbsent_87 xl4 ?_
          refine x_zret C xr xk dX12_isAbsent_89 (x_z_n _) ?_
          exact hK _ _ ⟨by rw [← hR]; first | rw [x_anyf_e _ (by omega), Bool.or_false] | rw [c17]; rfl, rfl⟩
        · skip
          refine x_aload_n C (i := 0) dX12_isAbsent_20 rfl xl0 ?_
          refine x_iload C (i := 5) dX12_isAbsent_21 xl5 ?_
          refine x_iload_n C (i := 1) dX12_isAbsent_23 rfl xl1 ?_
          refine x_iload_n C (i := 2) dX12_isAbsent_24 rfl xl2 ?_
          refine x_iload_n C (i := 3) dX12_isAbsent_25 rfl xl3 ?_
          refine x_iconst C (nI 0) dX12_isAbsent_26 rfl ?_
          have hM := c_X12_sentTo l Y σ i h k q 0 (by omega) (by omega)
          refine x_callV C (as := [.int (nI i), .int h, .int k, .int q, .int (nI 0)]) (st := []) (hM) kb_X12_sentTo kv_X12_212 dX12_isAbsent_27 rfl rfl (Nat.le_of_ble_eq_true rfl) ⟨by decide, by decide⟩ ⟨by decide, by decide⟩ ko_38 ?_
          clear hM
          intro r9 τ9 h9
          obtain ⟨rfl, h8⟩ := h9
          rw [h8]
          clear h8 τ9
          refine x_iload_n C (i := 1) dX12_isAbsent_30 rfl xl1 ?_
          refine x_icmp_ne C 78 dX12_isAbsent_31 (by decide) (fun c31 => ?_) (fun c31 => ?_)
          · skip
            refine x_iconst C (nI 0) dX12_isAbsent_78 rfl ?_
            refine x_istore C (i := 4) dX12_isAbsent_79 (by decide) ?_
            refine x_iincN C (i := 5) (b := 1) dX12_isAbsent_81 xl5 rfl (by decide) ?_
            refine x_goto C 6 dX12_isAbsent_84 (by decide) ?_
            exact ih6 _ (by omega) (i + 1) false rfl (by omega) (by have e9 : x_abs1 (σ.1 40) (σ.1 41) h k q i = false := by { unfold x_abs1; simp [*, nI_0] }; rw [← hR, x_anyf_s _ (by omega : i < n), c17, e9]; rfl) _ xl0 xl1 xl2 xl3 rfl rfl
          · skip
            refine x_aload_n C (i := 0) dX12_isAbsent_34 rfl xl0 ?_
            refine x_iload C (i := 5) dX12_isAbsent_35 xl5 ?_
            refine x_iload_n C (i := 1) dX12_isAbsent_37 rfl xl1 ?_
            refine x_iload_n C (i := 2) dX12_isAbsent_38 rfl xl2 ?_
            refine x_iload_n C (i := 3) dX12_isAbsent_39 rfl xl3 ?_
            refine x_iconst C (nI 1) dX12_isAbsent_40 rfl ?_
            have hM := c_X12_sentTo l Y σ i h k q 1 (by omega) (by omega)
            refine x_callV C (as := [.int (nI i), .int h, .int k, .int q, .int (nI 1)]) (st := []) (hM) kb_X12_sentTo kv_X12_212 dX12_isAbsent_41 rfl rfl (Nat.le_of_ble_eq_true rfl) ⟨by decide, by decide⟩ ⟨by decide, by decide⟩ ko_38 ?_
            clear hM
            intro r9 τ9 h9
            obtain ⟨rfl, h8⟩ := h9
            rw [h8]
            clear h8 τ9
            refine x_iload_n C (i := 2) dX12_isAbsent_44 rfl xl2 ?_
            refine x_icmp_ne C 78 dX12_isAbsent_45 (by decide) (fun c45 => ?_) (fun c45 => ?_)
            · skip
              refine x_iconst C (nI 0) dX12_isAbsent_78 rfl ?_
              refine x_istore C (i := 4) dX12_isAbsent_79 (by decide) ?_
              refine x_iincN C (i := 5) (b := 1) dX12_isAbsent_81 xl5 rfl (by decide) ?_
              refine x_goto C 6 dX12_isAbsent_84 (by decide) ?_
              exact ih6 _ (by omega) (i + 1) false rfl (by omega) (by have e9 : x_abs1 (σ.1 40) (σ.1 41) h k q i = false := by { unfold x_abs1; simp [*, nI_0] }; rw [← hR, x_anyf_s _ (by omega : i < n), c17, e9]; rfl) _ xl0 xl1 xl2 xl3 rfl rfl
            · skip
              refine x_aload_n C (i := 0) dX12_isAbsent_48 rfl xl0 ?_
              refine x_iload C (i := 5) dX12_isAbsent_49 xl5 ?_
              refine x_iload_n C (i := 1) dX12_isAbsent_51 rfl xl1 ?_
              refine x_iload_n C (i := 2) dX12_isAbsent_52 rfl xl2 ?_
              refine x_iload_n C (i := 3) dX12_isAbsent_53 rfl xl3 ?_
              refine x_iconst C (nI 2) dX12_isAbsent_54 rfl ?_
              have hM := c_X12_sentTo l Y σ i h k q 2 (by omega) (by omega)
              refine x_callV C (as := [.int (nI i), .int h, .int k, .int q, .int (nI 2)]) (st := []) (hM) kb_X12_sentTo kv_X12_212 dX12_isAbsent_55 rfl rfl (Nat.le_of_ble_eq_true rfl) ⟨by decide, by decide⟩ ⟨by decide, by decide⟩ ko_38 ?_
              clear hM
              intro r9 τ9 h9
              obtain ⟨rfl, h8⟩ := h9
              rw [h8]
              clear h8 τ9
              refine x_iload_n C (i := 3) dX12_isAbsent_58 rfl xl3 ?_
              refine x_icmp_ne C 78 dX12_isAbsent_59 (by decide) (fun c59 => ?_) (fun c59 => ?_)
              · skip
                refine x_iconst C (nI 0) dX12_isAbsent_78 rfl ?_
                refine x_istore C (i := 4) dX12_isAbsent_79 (by decide) ?_
                refine x_iincN C (i := 5) (b := 1) dX12_isAbsent_81 xl5 rfl (by decide) ?_
                refine x_goto C 6 dX12_isAbsent_84 (by decide) ?_
                exact ih6 _ (by omega) (i + 1) false rfl (by omega) (by have e9 : x_abs1 (σ.1 40) (σ.1 41) h k q i = false := by { unfold x_abs1; simp [*, nI_0] }; rw [← hR, x_anyf_s _ (by omega : i < n), c17, e9]; rfl) _ xl0 xl1 xl2 xl3 rfl rfl
              · skip
                refine x_aload_n C (i := 0) dX12_isAbsent_62 rfl xl0 ?_
                refine x_iload C (i := 5) dX12_isAbsent_63 xl5 ?_
                refine x_iload_n C (i := 1) dX12_isAbsent_65 rfl xl1 ?_
                refine x_iload_n C (i := 2) dX12_isAbsent_66 rfl xl2 ?_
                refine x_iload_n C (i := 3) dX12_isAbsent_67 rfl xl3 ?_
                have hM := c_X12_phase l Y σ i h k q (by omega)
                refine x_callV C (as := [.int (nI i), .int h, .int k, .int q]) (st := []) (hM) kb_X12_phase kv_X12_208 dX12_isAbsent_68 rfl rfl (Nat.le_of_ble_eq_true rfl) ⟨by decide, by decide⟩ ⟨by decide, by decide⟩ ko_38 ?_
                clear hM
                intro r9 τ9 h9
                obtain ⟨rfl, h8⟩ := h9
                rw [h8]
                clear h8 τ9
                refine x_if_eq C 78 dX12_isAbsent_71 (by decide) (fun c71 => ?_) (fun c71 => ?_)
                · skip
                  have c71' : x_phs (σ.1 41) i h k q = nI 0 := c71
                  refine x_iconst C (nI 0) dX12_isAbsent_78 rfl ?_
                  refine x_istore C (i := 4) dX12_isAbsent_79 (by decide) ?_
                  refine x_iincN C (i := 5) (b := 1) dX12_isAbsent_81 xl5 rfl (by decide) ?_
                  refine x_goto C 6 dX12_isAbsent_84 (by decide) ?_
                  exact ih6 _ (by omega) (i + 1) false rfl (by omega) (by have e9 : x_abs1 (σ.1 40) (σ.1 41) h k q i = false := by { unfold x_abs1; simp [*, nI_0] }; rw [← hR, x_anyf_s _ (by omega : i < n), c17, e9]; rfl) _ xl0 xl1 xl2 xl3 rfl rfl
                · skip
                  have c71' : ¬ x_phs (σ.1 41) i h k q = nI 0 := c71
                  refine x_iconst C (nI 1) dX12_isAbsent_74 rfl ?_
                  refine x_goto C 79 dX12_isAbsent_75 (by decide) ?_
                  refine x_istore C (i := 4) dX12_isAbsent_79 (by decide) ?_
                  refine x_iincN C (i := 5) (b := 1) dX12_isAbsent_81 xl5 rfl (by decide) ?_
                  refine x_goto C 6 dX12_isAbsent_84 (by decide) ?_
                  exact ih6 _ (by omega) (i + 1) true rfl (by omega) (by have e9 : x_abs1 (σ.1 40) (σ.1 41) h k q i = true := by { unfold x_abs1; simp [*, nI_0] }; rw [← hR, x_anyf_s _ (by omega : i < n), c17, e9]; rfl) _ xl0 xl1 xl2 xl3 rfl rfl
  exact lp6 _ 0 false rfl (Nat.zero_le _) rfl _ rfl rfl rfl rfl rfl rfl
theorem c_X12_isAbsent (l : Launch) (Y : x_Y) (σ : x_S) (h k q : Int32) (n : Nat) (hn : σ.1 38 4 = nI n) (hn9 : n ≤ 192) : x_M l yX12_isAbsent cX12_isAbsent 6 (some .boolean) 1 Y [.ref 38, .int h, .int k, .int q] σ (fun r τ => r = some (.int (x_z (x_absent (σ.1 40) (σ.1 41) n h k q))) ∧ τ = σ) := c_X12_isAbsent_K l Y σ h k q n hn hn9 _ (fun _ _ h => h)
