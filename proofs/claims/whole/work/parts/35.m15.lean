set_option maxRecDepth 100000 in
set_option maxHeartbeats 200000 in
theorem c_X12_index_K (l : Launch) (Y : x_Y) (σ : x_S) (a : Nat) (v : Int32) (ng : Bool) (b : Nat → Int32) (t : Nat) (hb : σ.1 39 = b) (ht : σ.1 38 2 = nI t) (ht8 : t ≤ 8000) (hat : a ≤ t) (K : Option Value → x_S → Prop) (hK : ∀ (r : Option Value) (τ : x_S), (((x_idx b t a).1 = true ∧ r = some (.int (x_z true)) ∧ τ = x_fm σ (x_idx b t a).2.1 (x_val (x_idx b t a).2.2.1 (x_idx b t a).2.2.2) (x_idx b t a).2.2.1) ∨ ((x_idx b t a).1 = false ∧ r = some (.int (x_z false)) ∧ ∃ v9 n9, τ = x_fm σ (x_idx b t a).2.1 v9 n9)) → K r τ) : x_M l yX12_index cX12_index 1 (some .boolean) 2 Y [.ref 38] (x_fm σ a v ng) K := by
  refine x_start (by decide) (Nat.le_of_ble_eq_true rfl) ?_
  intro xp xe xs xm xg xb xt xc C xr xk
  refine x_aload_n C (i := 0) dX12_index_0 rfl rfl ?_
  refine x_iconst C (nI 4) dX12_index_1 rfl ?_
  refine x_iconst C (nI 1) dX12_index_2 rfl ?_
  obtain ⟨⟨ok, ac, nc, vc⟩, hC⟩ : ∃ z, z = x_colf b t true 4 a false false 0 := ⟨_, rfl⟩
  have hM := c_X12_column l Y σ a v ng 4 true b t hb ht ht8 hat (by decide) (by decide)
  refine x_callV C (as := [.int (nI 4), .int (x_z true)]) (st := []) (hM) kb_X12_column kv_X12_258 dX12_index_3 rfl rfl (Nat.le_of_ble_eq_true rfl) ⟨by decide, by decide⟩ ⟨by decide, by decide⟩ ko_38 ?_
  clear hM
  rw [← hC]
  dsimp only
  rintro _ _ (⟨hc1, rfl, rfl, hcv⟩ | ⟨hc1, rfl, rfl⟩)
  · skip
    subst hc1
    have hac : ac = a + 4 := by have h9 := x_colf_a (b := b) (t := t) (sg := true) 4 a false false 0 (by rw [← hC]); rw [← hC] at h9; exact h9
    have hact : ac ≤ t := by have h9 := x_colf_le (b := b) (t := t) (sg := true) 4 a false false 0 hat; rw [← hC] at h9; exact h9
    refine x_if_neZ C 11 dX12_index_6 (by decide) (fun c6 => ?_) (fun c6 => absurd c6 (by decide))
    refine x_aload_n C (i := 0) dX12_index_11 rfl rfl ?_
    refine x_getI C fi_38_26 kf_X12_248 dX12_index_12 ?_
    refine x_topI (y := x_val nc vc) rfl ?_
    refine x_bipush C (-127) dX12_index_15 rfl ?_
    refine x_bipush C (nI 127) dX12_index_17 rfl ?_
    have hM := c_X12_in l Y (x_fm σ ac (x_val nc vc) nc) (x_val nc vc) (-127) (nI 127)
    refine x_callS C (as := [.int (x_val nc vc), .int (-127), .int (nI 127)]) (st := []) (hM) kb_X12_in ks_X12_96 dX12_index_19 rfl rfl (Nat.le_of_ble_eq_true rfl) ⟨by decide, by decide⟩ ⟨by decide, by decide⟩ ?_
    clear hM
    intro r9 τ9 h9
    obtain ⟨rfl, h8⟩ := h9
    rw [h8]
    clear h8 τ9
    refine x_if_neZ C 37 dX12_index_22 (by decide) (fun c22 => ?_) (fun c22 => ?_)
    · skip
      have c22 := (x_ix_val (ng := nc) (v := vc) (by omega)).symm.trans c22
      have h127 := of_decide_eq_true c22
      refine x_iconst C (nI 1) dX12_index_37 rfl ?_
      refine x_zret C xr xk dX12_index_38 rfl ?_
      exact hK _ _ (Or.inl (by unfold x_idx; rw [← hC]; dsimp only; rw [if_pos rfl, if_pos h127]; exact ⟨rfl, rfl, by rw [hac]⟩))
    · skip
      have c22 := (x_ix_val (ng := nc) (v := vc) (by omega)).symm.trans c22
      have h127 := of_decide_eq_false c22
      refine x_aload_n C (i := 0) dX12_index_25 rfl rfl ?_
      refine x_dup C dX12_index_26 rfl ?_
      refine x_getI C fi_38_3 kf_X12_100 dX12_index_27 ?_
      refine x_topI (y := nI ac) rfl ?_
      refine x_iconst C (nI 1) dX12_index_30 rfl ?_
      refine x_isubN C dX12_index_31 (by omega) ?_
      refine x_putN C fi_38_3 kf_X12_100 rfl rfl dX12_index_32 ?_
      refine x_sig (σ' := x_fm σ (ac - 1) (x_val nc vc) nc) (x_fm_3 _ _ _ _ _) ?_
      refine x_iconst C (nI 0) dX12_index_35 rfl ?_
      refine x_zret C xr xk dX12_index_36 rfl ?_
      exact hK _ _ (Or.inr (by unfold x_idx; rw [← hC]; dsimp only; rw [if_pos rfl, if_neg h127]; exact ⟨rfl, rfl, _, _, by rw [show ac - 1 = a + 3 by omega]⟩))
  · skip
    subst hc1
    refine x_if_neZ C 11 dX12_index_6 (by decide) (fun c6 => absurd c6 (by decide)) (fun c6 => ?_)
    refine x_iconst C (nI 0) dX12_index_9 rfl ?_
    refine x_zret C xr xk dX12_index_10 rfl ?_
    exact hK _ _ (Or.inr (by unfold x_idx; rw [← hC]; exact ⟨rfl, rfl, _, _, rfl⟩))
theorem c_X12_index (l : Launch) (Y : x_Y) (σ : x_S) (a : Nat) (v : Int32) (ng : Bool) (b : Nat → Int32) (t : Nat) (hb : σ.1 39 = b) (ht : σ.1 38 2 = nI t) (ht8 : t ≤ 8000) (hat : a ≤ t) : x_M l yX12_index cX12_index 1 (some .boolean) 2 Y [.ref 38] (x_fm σ a v ng) (fun r τ => ((x_idx b t a).1 = true ∧ r = some (.int (x_z true)) ∧ τ = x_fm σ (x_idx b t a).2.1 (x_val (x_idx b t a).2.2.1 (x_idx b t a).2.2.2) (x_idx b t a).2.2.1) ∨ ((x_idx b t a).1 = false ∧ r = some (.int (x_z false)) ∧ ∃ v9 n9, τ = x_fm σ (x_idx b t a).2.1 v9 n9)) := c_X12_index_K l Y σ a v ng b t hb ht ht8 hat _ (fun _ _ h => h)
set_option maxRecDepth 100000 in
set_option maxHeartbeats 200000 in
theorem c_X12_hundredths_K (l : Launch) (Y : x_Y) (σ : x_S) (a : Nat) (v : Int32) (ng : Bool) (sg : Bool) (b : Nat → Int32) (t : Nat) (hb : σ.1 39 = b) (ht : σ.1 38 2 = nI t) (ht8 : t ≤ 8000) (hat : a ≤ t) (K : Option Value → x_S → Prop) (hK : ∀ (r : Option Value) (τ : x_S), (((x_hun b t sg a).1 = true ∧ r = some (.int (x_z true)) ∧ τ = x_fm σ (x_hun b t sg a).2.1 (x_val (x_hun b t sg a).2.2.1 (x_hun b t sg a).2.2.2) (x_hun b t sg a).2.2.1) ∨ ((x_hun b t sg a).1 = false ∧ r = some (.int (x_z false)) ∧ ∃ v9 n9, τ = x_fm σ (x_hun b t sg a).2.1 v9 n9)) → K r τ) : x_M l yX12_hundredths cX12_hundredths 4 (some .boolean) 2 Y [.ref 38, .int (x_z sg)] (x_fm σ a v ng) K := by
  refine x_start (by decide) (Nat.le_of_ble_eq_true rfl) ?_
  intro xp xe xs xm xg xb xt xc C xr xk
  refine x_aload_n C (i := 0) dX12_hundredths_0 rfl rfl ?_
  refine x_iconst C (nI 5) dX12_hundredths_1 rfl ?_
  refine x_iload_n C (i := 1) dX12_hundredths_2 rfl rfl ?_
  obtain ⟨⟨ok, ac, nc, vc⟩, hC⟩ : ∃ z, z = x_colf b t sg 5 a false false 0 := ⟨_, rfl⟩
  have hM := c_X12_column l Y σ a v ng 5 sg b t hb ht ht8 hat (by decide) (by decide)
  refine x_callV C (as := [.int (nI 5), .int (x_z sg)]) (st := []) (hM) kb_X12_column kv_X12_258 dX12_hundredths_3 rfl rfl (Nat.le_of_ble_eq_true rfl) ⟨by decide, by decide⟩ ⟨by decide, by decide⟩ ko_38 ?_
  clear hM
  rw [← hC]
  dsimp only
  rintro _ _ (⟨hc1, rfl, rfl, hcv⟩ | ⟨hc1, rfl, rfl⟩)
  · skip
    subst hc1
    have hac : ac = a + 5 := by have h9 := x_colf_a (b := b) (t := t) (sg := sg) 5 a false false 0 (by rw [← hC]); rw [← hC] at h9; exact h9
    have hact : ac ≤ t := by have h9 := x_colf_le (b := b) (t := t) (sg := sg) 5 a false false 0 hat; rw [← hC] at h9; exact h9
    refine x_if_neZ C 11 dX12_hundredths_6 (by decide) (fun c6 => ?_) (fun c6 => absurd c6 (by decide))
    subst hac
    refine x_aload_n C (i := 0) dX12_hundredths_11 rfl rfl ?_
    refine x_getI C fi_38_26 kf_X12_248 dX12_hundredths_12 ?_
    refine x_topI (y := x_val nc vc) rfl ?_
    refine x_jf_ge C 26 dX12_hundredths_15 (by decide) (fun c15 => ?_) (fun c15 => ?_)
    · skip
      have c15' := Int32.not_lt.mpr c15
      refine x_aload_n C (i := 0) dX12_hundredths_26 rfl rfl ?_
      refine x_getI C fi_38_26 kf_X12_248 dX12_hundredths_27 ?_
      refine x_topI (y := x_val nc vc) rfl ?_
      refine x_topI (y := nI vc) (by have h9 := x_val_abs (ng := nc) (v := vc) (by omega); first | (rw [if_pos c15] at h9; exact h9) | (rw [if_neg c15'] at h9; exact h9)) ?_
      refine x_istore_n C (i := 2) dX12_hundredths_30 rfl (by decide) ?_
      refine x_aload_n C (i := 0) dX12_hundredths_31 rfl rfl ?_
      have hM := c_X12_look l Y (x_fm σ (a + 5) (x_val nc vc) nc) b t (a + 5) hb ht rfl ht8 (by omega)
      refine x_callV C (as := []) (st := []) (hM) kb_X12_look kv_X12_110 dX12_hundredths_32 rfl rfl (Nat.le_of_ble_eq_true rfl) ⟨by decide, by decide⟩ ⟨by decide, by decide⟩ ko_38 ?_
      clear hM
      intro r9 τ9 h9
      obtain ⟨rfl, h8⟩ := h9
      rw [h8]
      clear h8 τ9
      refine x_bipush C (nI 46) dX12_hundredths_35 rfl ?_
      refine x_icmp_eq C 42 dX12_hundredths_37 (by decide) (fun c37 => ?_) (fun c37 => ?_)
      · skip
        have hlt5 := x_lookv_lt c37 (by decide)
        refine x_aload_n C (i := 0) dX12_hundredths_42 rfl rfl ?_
        refine x_dup C dX12_hundredths_43 rfl ?_
        refine x_getI C fi_38_3 kf_X12_100 dX12_hundredths_44 ?_
        refine x_topI (y := nI (a + 5)) rfl ?_
        refine x_iconst C (nI 1) dX12_hundredths_47 rfl ?_
        refine x_iaddN C dX12_hundredths_48 ?_
        refine x_putN C fi_38_3 kf_X12_100 rfl rfl dX12_hundredths_49 ?_
        refine x_sig (σ' := x_fm σ ((a + 5) + 1) (x_val nc vc) nc) (x_fm_3 _ _ _ _ _) ?_
        refine x_iconst C (nI 0) dX12_hundredths_52 rfl ?_
        refine x_istore_n C (i := 3) dX12_hundredths_53 rfl (by decide) ?_
        refine x_iload_n C (i := 3) dX12_hundredths_54 rfl rfl ?_
        refine x_iconst C (nI 2) dX12_hundredths_55 rfl ?_
        refine x_icmp_geN C 100 dX12_hundredths_56 (by decide) (by omega) (by omega) (fun c56 => absurd c56 (by decide)) (fun c56 => ?_)
        refine x_aload_n C (i := 0) dX12_hundredths_59 rfl rfl ?_
        have hM := c_X12_look l Y (x_fm σ ((a + 5) + 1) (x_val nc vc) nc) b t ((a + 5) + 1) hb ht rfl ht8 (by omega)
        refine x_callV C (as := []) (st := []) (hM) kb_X12_look kv_X12_110 dX12_hundredths_60 rfl rfl (Nat.le_of_ble_eq_true rfl) ⟨by decide, by decide⟩ ⟨by decide, by decide⟩ ko_38 ?_
        clear hM
        intro r9 τ9 h9
        obtain ⟨rfl, h8⟩ := h9
        rw [h8]
        clear h8 τ9
        have hM := c_X12_isDigit l Y (x_fm σ ((a + 5) + 1) (x_val nc vc) nc) (x_lookv b t ((a + 5) + 1))
        refine x_callS C (as := [.int (x_lookv b t ((a + 5) + 1))]) (st := []) (hM) kb_X12_isDigit ks_X12_255 dX12_hundredths_63 rfl rfl (Nat.le_of_ble_eq_true rfl) ⟨by decide, by decide⟩ ⟨by decide, by decide⟩ ?_
        clear hM
        intro r9 τ9 h9
        obtain ⟨rfl, h8⟩ := h9
        rw [h8]
        clear h8 τ9
        refine x_if_neZ C 71 dX12_hundredths_66 (by decide) (fun c66 => ?_) (fun c66 => ?_)
        · skip
          have e0 := c66
          obtain ⟨d0, hd0, hdc0⟩ := x_dig_nat c66
          refine x_bipush C (nI 10) dX12_hundredths_71 rfl ?_
          refine x_iload_n C (i := 2) dX12_hundredths_73 rfl rfl ?_
          refine x_imulN C dX12_hundredths_74 ?_
          refine x_aload_n C (i := 0) dX12_hundredths_75 rfl rfl ?_
          have hM := c_X12_look l Y (x_fm σ ((a + 5) + 1) (x_val nc vc) nc) b t ((a + 5) + 1) hb ht rfl ht8 (by omega)
          refine x_callV C (as := []) (st := [.int (nI (10 * vc))]) (hM) kb_X12_look kv_X12_110 dX12_hundredths_76 rfl rfl (Nat.le_of_ble_eq_true rfl) ⟨by decide, by decide⟩ ⟨by decide, by decide⟩ ko_38 ?_
          clear hM
          intro r9 τ9 h9
          obtain ⟨rfl, h8⟩ := h9
          rw [h8]
          clear h8 τ9
          refine x_topI (y := nI (48 + d0)) hdc0 ?_
          refine x_iaddN C dX12_hundredths_79 ?_
          refine x_bipush C (nI 48) dX12_hundredths_80 rfl ?_
          refine x_isubN C dX12_hundredths_82 (by omega) ?_
          refine x_topI (y := nI (10 * (vc) + d0)) (by congr 1; omega) ?_
          refine x_istore_n C (i := 2) dX12_hundredths_83 rfl (by decide) ?_
          refine x_aload_n C (i := 0) dX12_hundredths_84 rfl rfl ?_
          refine x_dup C dX12_hundredths_85 rfl ?_
          refine x_getI C fi_38_3 kf_X12_100 dX12_hundredths_86 ?_
          refine x_topI (y := nI ((a + 5) + 1)) rfl ?_
          refine x_iconst C (nI 1) dX12_hundredths_89 rfl ?_
          refine x_iaddN C dX12_hundredths_90 ?_
          refine x_putN C fi_38_3 kf_X12_100 rfl rfl dX12_hundredths_91 ?_
          refine x_sig (σ' := x_fm σ ((a + 5) + 1 + 1) (x_val nc vc) nc) (x_fm_3 _ _ _ _ _) ?_
          refine x_iincN C (i := 3) (b := 1) dX12_hundredths_94 rfl rfl (by decide) ?_
          refine x_goto C 54 dX12_hundredths_97 (by decide) ?_
          refine x_iload_n C (i := 3) dX12_hundredths_54 rfl rfl ?_
          refine x_iconst C (nI 2) dX12_hundredths_55 rfl ?_
          refine x_icmp_geN C 100 dX12_hundredths_56 (by decide) (by omega) (by omega) (fun c56 => absurd c56 (by decide)) (fun c56 => ?_)
          refine x_aload_n C (i := 0) dX12_hundredths_59 rfl rfl ?_
          have hM := c_X12_look l Y (x_fm σ ((a + 5) + 1 + 1) (x_val nc vc) nc) b t ((a + 5) + 1 + 1) hb ht rfl ht8 (by omega)
          refine x_callV C (as := []) (st := []) (hM) kb_X12_look kv_X12_110 dX12_hundredths_60 rfl rfl (Nat.le_of_ble_eq_true rfl) ⟨by decide, by decide⟩ ⟨by decide, by decide⟩ ko_38 ?_
          clear hM
          intro r9 τ9 h9
          obtain ⟨rfl, h8⟩ := h9
          rw [h8]
          clear h8 τ9
          have hM := c_X12_isDigit l Y (x_fm σ ((a + 5) + 1 + 1) (x_val nc vc) nc) (x_lookv b t ((a + 5) + 1 + 1))
          refine x_callS C (as := [.int (x_lookv b t ((a + 5) + 1 + 1))]) (st := []) (hM) kb_X12_isDigit ks_X12_255 dX12_hundredths_63 rfl rfl (Nat.le_of_ble_eq_true rfl) ⟨by decide, by decide⟩ ⟨by decide, by decide⟩ ?_
          clear hM
          intro r9 τ9 h9
          obtain ⟨rfl, h8⟩ := h9
          rw [h8]
          clear h8 τ9
          refine x_if_neZ C 71 dX12_hundredths_66 (by decide) (fun c66 => ?_) (fun c66 => ?_)
          · skip
            have e1 := c66
            obtain ⟨d1, hd1, hdc1⟩ := x_dig_nat c66
            refine x_bipush C (nI 10) dX12_hundredths_71 rfl ?_
            refine x_iload_n C (i := 2) dX12_hundredths_73 rfl rfl ?_
            refine x_imulN C dX12_hundredths_74 ?_
            refine x_aload_n C (i := 0) dX12_hundredths_75 rfl rfl ?_
            have hM := c_X12_look l Y (x_fm σ ((a + 5) + 1 + 1) (x_val nc vc) nc) b t ((a + 5) + 1 + 1) hb ht rfl ht8 (by omega)
            refine x_callV C (as := []) (st := [.int (nI (10 * (10 * (vc) + d0)))]) (hM) kb_X12_look kv_X12_110 dX12_hundredths_76 rfl rfl (Nat.le_of_ble_eq_true rfl) ⟨by decide, by decide⟩ ⟨by decide, by decide⟩ ko_38 ?_
            clear hM
            intro r9 τ9 h9
            obtain ⟨rfl, h8⟩ := h9
            rw [h8]
            clear h8 τ9
            refine x_topI (y := nI (48 + d1)) hdc1 ?_
            refine x_iaddN C dX12_hundredths_79 ?_
            refine x_bipush C (nI 48) dX12_hundredths_80 rfl ?_
            refine x_isubN C dX12_hundredths_82 (by omega) ?_
            refine x_topI (y := nI (10 * (10 * vc + d0) + d1)) (by congr 1; omega) ?_
            refine x_istore_n C (i := 2) dX12_hundredths_83 rfl (by decide) ?_
            refine x_aload_n C (i := 0) dX12_hundredths_84 rfl rfl ?_
            refine x_dup C dX12_hundredths_85 rfl ?_
            refine x_getI C fi_38_3 kf_X12_100 dX12_hundredths_86 ?_
            refine x_topI (y := nI ((a + 5) + 1 + 1)) rfl ?_
            refine x_iconst C (nI 1) dX12_hundredths_89 rfl ?_
            refine x_iaddN C dX12_hundredths_90 ?_
            refine x_putN C fi_38_3 kf_X12_100 rfl rfl dX12_hundredths_91 ?_
            refine x_sig (σ' := x_fm σ ((a + 5) + 1 + 1 + 1) (x_val nc vc) nc) (x_fm_3 _ _ _ _ _) ?_
            refine x_iincN C (i := 3) (b := 1) dX12_hundredths_94 rfl rfl (by decide) ?_
            refine x_goto C 54 dX12_hundredths_97 (by decide) ?_
            refine x_iload_n C (i := 3) dX12_hundredths_54 rfl rfl ?_
            refine x_iconst C (nI 2) dX12_hundredths_55 rfl ?_
            refine x_icmp_geN C 100 dX12_hundredths_56 (by decide) (by omega) (by omega) (fun c56 => ?_) (fun c56 => absurd c56 (by decide))
            refine x_aload_n C (i := 0) dX12_hundredths_100 rfl rfl ?_
            refine x_aload_n C (i := 0) dX12_hundredths_101 rfl rfl ?_
            refine x_getI C fi_38_27 kf_X12_251 dX12_hundredths_102 ?_
            refine x_topI (y := x_z nc) rfl ?_
            refine x_if_eqZ C 113 dX12_hundredths_105 (by decide) (fun c105 => ?_) (fun c105 => ?_)
            · skip
              refine x_iload_n C (i := 2) dX12_hundredths_113 rfl rfl ?_
              refine x_putN C fi_38_26 kf_X12_248 rfl rfl dX12_hundredths_114 ?_
              refine x_sig (σ' := x_fm σ ((a + 5) + 1 + 1 + 1) (nI (10 * (10 * vc + d0) + d1)) nc) (x_fm_26 _ _ _ _ _) ?_
              refine x_iconst C (nI 1) dX12_hundredths_117 rfl ?_
              refine x_zret C xr xk dX12_hundredths_118 rfl ?_
              exact hK _ _ (Or.inl (by unfold x_hun; rw [← hC]; dsimp only; rw [if_pos rfl, if_pos c37, if_pos e0, if_pos e1, show x_lookv b t (a + 6) = nI (48 + d0) from hdc0, show x_lookv b t (a + 7) = nI (48 + d1) from hdc1, nI_clamp (by omega), nI_clamp (by omega), Nat.add_sub_cancel_left, Nat.add_sub_cancel_left]; exact ⟨rfl, rfl, by unfold x_val; first | rw [if_pos c105] | rw [if_neg (fun z9 => absurd (c105.symm.trans z9) (by decide))]⟩))
            · skip
              refine x_iload_n C (i := 2) dX12_hundredths_108 rfl rfl ?_
              refine x_ineg C dX12_hundredths_109 ?_
              refine x_goto C 114 dX12_hundredths_110 (by decide) ?_
              refine x_putN C fi_38_26 kf_X12_248 rfl rfl dX12_hundredths_114 ?_
              refine x_sig (σ' := x_fm σ ((a + 5) + 1 + 1 + 1) (-(nI (10 * (10 * vc + d0) + d1))) nc) (x_fm_26 _ _ _ _ _) ?_
              refine x_iconst C (nI 1) dX12_hundredths_117 rfl ?_
              refine x_zret C xr xk dX12_hundredths_118 rfl ?_
              exact hK _ _ (Or.inl (by unfold x_hun; rw [← hC]; dsimp only; rw [if_pos rfl, if_pos c37, if_pos e0, if_pos e1, show x_lookv b t (a + 6) = nI (48 + d0) from hdc0, show x_lookv b t (a + 7) = nI (48 + d1) from hdc1, nI_clamp (by omega), nI_clamp (by omega), Nat.add_sub_cancel_left, Nat.add_sub_cancel_left]; exact ⟨rfl, rfl, by unfold x_val; first | rw [if_pos c105] | rw [if_neg (fun z9 => absurd (c105.symm.trans z9) (by decide))]⟩))
          · skip
            have e1 := c66
            refine x_iconst C (nI 0) dX12_hundredths_69 rfl ?_
            refine x_zret C xr xk dX12_hundredths_70 rfl ?_
            exact hK _ _ (Or.inr (by unfold x_hun; rw [← hC]; dsimp only; rw [if_pos rfl, if_pos c37, if_pos e0, if_neg (by rw [e1]; decide)]; exact ⟨rfl, rfl, _, _, rfl⟩))
        · skip
          have e0 := c66
          refine x_iconst C (nI 0) dX12_hundredths_69 rfl ?_
          refine x_zret C xr xk dX12_hundredths_70 rfl ?_
          exact hK _ _ (Or.inr (by unfold x_hun; rw [← hC]; dsimp only; rw [if_pos rfl, if_pos c37, if_neg (by rw [e0]; decide)]; exact ⟨rfl, rfl, _, _, rfl⟩))
      · skip
        refine x_iconst C (nI 0) dX12_hundredths_40 rfl ?_
        refine x_zret C xr xk dX12_hundredths_41 rfl ?_
        exact hK _ _ (Or.inr (by unfold x_hun; rw [← hC]; dsimp only; rw [if_pos rfl, if_neg c37]; exact ⟨rfl, rfl, _, _, rfl⟩))
    · skip
      have c15' := Int32.not_le.mpr c15
      refine x_aload_n C (i := 0) dX12_hundredths_18 rfl rfl ?_
      refine x_getI C fi_38_26 kf_X12_248 dX12_hundredths_19 ?_
      refine x_topI (y := x_val nc vc) rfl ?_
      refine x_ineg C dX12_hundredths_22 ?_
      refine x_goto C 30 dX12_hundredths_23 (by decide) ?_
      refine x_topI (y := nI vc) (by have h9 := x_val_abs (ng := nc) (v := vc) (by omega); first | (rw [if_pos c15] at h9; exact h9) | (rw [if_neg c15'] at h9; exact h9)) ?_
      refine x_istore_n C (i := 2) dX12_hundredths_30 rfl (by decide) ?_
      refine x_aload_n C (i := 0) dX12_hundredths_31 rfl rfl ?_
      have hM := c_X12_look l Y (x_fm σ (a + 5) (x_val nc vc) nc) b t (a + 5) hb ht rfl ht8 (by omega)
      refine x_callV C (as := []) (st := []) (hM) kb_X12_look kv_X12_110 dX12_hundredths_32 rfl rfl (Nat.le_of_ble_eq_true rfl) ⟨by decide, by decide⟩ ⟨by decide, by decide⟩ ko_38 ?_
      clear hM
      intro r9 τ9 h9
      obtain ⟨rfl, h8⟩ := h9
      rw [h8]
      clear h8 τ9
      refine x_bipush C (nI 46) dX12_hundredths_35 rfl ?_
      refine x_icmp_eq C 42 dX12_hundredths_37 (by decide) (fun c37 => ?_) (fun c37 => ?_)
      · skip
        have hlt5 := x_lookv_lt c37 (by decide)
        refine x_aload_n C (i := 0) dX12_hundredths_42 rfl rfl ?_
        refine x_dup C dX12_hundredths_43 rfl ?_
        refine x_getI C fi_38_3 kf_X12_100 dX12_hundredths_44 ?_
        refine x_topI (y := nI (a + 5)) rfl ?_
        refine x_iconst C (nI 1) dX12_hundredths_47 rfl ?_
        refine x_iaddN C dX12_hundredths_48 ?_
        refine x_putN C fi_38_3 kf_X12_100 rfl rfl dX12_hundredths_49 ?_
        refine x_sig (σ' := x_fm σ ((a + 5) + 1) (x_val nc vc) nc) (x_fm_3 _ _ _ _ _) ?_
        refine x_iconst C (nI 0) dX12_hundredths_52 rfl ?_
        refine x_istore_n C (i := 3) dX12_hundredths_53 rfl (by decide) ?_
        refine x_iload_n C (i := 3) dX12_hundredths_54 rfl rfl ?_
        refine x_iconst C (nI 2) dX12_hundredths_55 rfl ?_
        refine x_icmp_geN C 100 dX12_hundredths_56 (by decide) (by omega) (by omega) (fun c56 => absurd c56 (by decide)) (fun c56 => ?_)
        refine x_aload_n C (i := 0) dX12_hundredths_59 rfl rfl ?_
        have hM := c_X12_look l Y (x_fm σ ((a + 5) + 1) (x_val nc vc) nc) b t ((a + 5) + 1) hb ht rfl ht8 (by omega)
        refine x_callV C (as := []) (st := []) (hM) kb_X12_look kv_X12_110 dX12_hundredths_60 rfl rfl (Nat.le_of_ble_eq_true rfl) ⟨by decide, by decide⟩ ⟨by decide, by decide⟩ ko_38 ?_
        clear hM
        intro r9 τ9 h9
        obtain ⟨rfl, h8⟩ := h9
        rw [h8]
        clear h8 τ9
        have hM := c_X12_isDigit l Y (x_fm σ ((a + 5) + 1) (x_val nc vc) nc) (x_lookv b t ((a + 5) + 1))
        refine x_callS C (as := [.int (x_lookv b t ((a + 5) + 1))]) (st := []) (hM) kb_X12_isDigit ks_X12_255 dX12_hundredths_63 rfl rfl (Nat.le_of_ble_eq_true rfl) ⟨by decide, by decide⟩ ⟨by decide, by decide⟩ ?_
        clear hM
        intro r9 τ9 h9
        obtain ⟨rfl, h8⟩ := h9
        rw [h8]
        clear h8 τ9
        refine x_if_neZ C 71 dX12_hundredths_66 (by decide) (fun c66 => ?_) (fun c66 => ?_)
        · skip
          have e0 := c66
          obtain ⟨d0, hd0, hdc0⟩ := x_dig_nat c66
          refine x_bipush C (nI 10) dX12_hundredths_71 rfl ?_
          refine x_iload_n C (i := 2) dX12_hundredths_73 rfl rfl ?_
          refine x_imulN C dX12_hundredths_74 ?_
          refine x_aload_n C (i := 0) dX12_hundredths_75 rfl rfl ?_
          have hM := c_X12_look l Y (x_fm σ ((a + 5) + 1) (x_val nc vc) nc) b t ((a + 5) + 1) hb ht rfl ht8 (by omega)
          refine x_callV C (as := []) (st := [.int (nI (10 * vc))]) (hM) kb_X12_look kv_X12_110 dX12_hundredths_76 rfl rfl (Nat.le_of_ble_eq_true rfl) ⟨by decide, by decide⟩ ⟨by decide, by decide⟩ ko_38 ?_
          clear hM
          intro r9 τ9 h9
          obtain ⟨rfl, h8⟩ := h9
          rw [h8]
          clear h8 τ9
          refine x_topI (y := nI (48 + d0)) hdc0 ?_
          refine x_iaddN C dX12_hundredths_79 ?_
          refine x_bipush C (nI 48) dX12_hundredths_80 rfl ?_
          refine x_isubN C dX12_hundredths_82 (by omega) ?_
          refine x_topI (y := nI (10 * (vc) + d0)) (by congr 1; omega) ?_
          refine x_istore_n C (i := 2) dX12_hundredths_83 rfl (by decide) ?_
          refine x_aload_n C (i := 0) dX12_hundredths_84 rfl rfl ?_
          refine x_dup C dX12_hundredths_85 rfl ?_
          refine x_getI C fi_38_3 kf_X12_100 dX12_hundredths_86 ?_
          refine x_topI (y := nI ((a + 5) + 1)) rfl ?_
          refine x_iconst C (nI 1) dX12_hundredths_89 rfl ?_
          refine x_iaddN C dX12_hundredths_90 ?_
          refine x_putN C fi_38_3 kf_X12_100 rfl rfl dX12_hundredths_91 ?_
          refine x_sig (σ' := x_fm σ ((a + 5) + 1 + 1) (x_val nc vc) nc) (x_fm_3 _ _ _ _ _) ?_
          refine x_iincN C (i := 3) (b := 1) dX12_hundredths_94 rfl rfl (by decide) ?_
          refine x_goto C 54 dX12_hundredths_97 (by decide) ?_
          refine x_iload_n C (i := 3) dX12_hundredths_54 rfl rfl ?_
          refine x_iconst C (nI 2) dX12_hundredths_55 rfl ?_
          refine x_icmp_geN C 100 dX12_hundredths_56 (by decide) (by omega) (by omega) (fun c56 => absurd c56 (by decide)) (fun c56 => ?_)
          refine x_aload_n C (i := 0) dX12_hundredths_59 rfl rfl ?_
          have hM := c_X12_look l Y (x_fm σ ((a + 5) + 1 + 1) (x_val nc vc) nc) b t ((a + 5) + 1 + 1) hb ht rfl ht8 (by omega)
          refine x_callV C (as := []) (st := []) (hM) kb_X12_look kv_X12_110 dX12_hundredths_60 rfl rfl (Nat.le_of_ble_eq_true rfl) ⟨by decide, by decide⟩ ⟨by decide, by decide⟩ ko_38 ?_
          clear hM
          intro r9 τ9 h9
          obtain ⟨rfl, h8⟩ := h9
          rw [h8]
          clear h8 τ9
          have hM := c_X12_isDigit l Y (x_fm σ ((a + 5) + 1 + 1) (x_val nc vc) nc) (x_lookv b t ((a + 5) + 1 + 1))
          refine x_callS C (as := [.int (x_lookv b t ((a + 5) + 1 + 1))]) (st := []) (hM) kb_X12_isDigit ks_X12_255 dX12_hundredths_63 rfl rfl (Nat.le_of_ble_eq_true rfl) ⟨by decide, by decide⟩ ⟨by decide, by decide⟩ ?_
          clear hM
          intro r9 τ9 h9
          obtain ⟨rfl, h8⟩ := h9
          rw [h8]
          clear h8 τ9
          refine x_if_neZ C 71 dX12_hundredths_66 (by decide) (fun c66 => ?_) (fun c66 => ?_)
          · skip
            have e1 := c66
            obtain ⟨d1, hd1, hdc1⟩ := x_dig_nat c66
            refine x_bipush C (nI 10) dX12_hundredths_71 rfl ?_
            refine x_iload_n C (i := 2) dX12_hundredths_73 rfl rfl ?_
            refine x_imulN C dX12_hundredths_74 ?_
            refine x_aload_n C (i := 0) dX12_hundredths_75 rfl rfl ?_
            have hM := c_X12_look l Y (x_fm σ ((a + 5) + 1 + 1) (x_val nc vc) nc) b t ((a + 5) + 1 + 1) hb ht rfl ht8 (by omega)
            refine x_callV C (as := []) (st := [.int (nI (10 * (10 * (vc) + d0)))]) (hM) kb_X12_look kv_X12_110 dX12_hundredths_76 rfl rfl (Nat.le_of_ble_eq_true rfl) ⟨by decide, by decide⟩ ⟨by decide, by decide⟩ ko_38 ?_
            clear hM
            intro r9 τ9 h9
            obtain ⟨rfl, h8⟩ := h9
            rw [h8]
            clear h8 τ9
            refine x_topI (y := nI (48 + d1)) hdc1 ?_
            refine x_iaddN C dX12_hundredths_79 ?_
            refine x_bipush C (nI 48) dX12_hundredths_80 rfl ?_
            refine x_isubN C dX12_hundredths_82 (by omega) ?_
            refine x_topI (y := nI (10 * (10 * vc + d0) + d1)) (by congr 1; omega) ?_
            refine x_istore_n C (i := 2) dX12_hundredths_83 rfl (by decide) ?_
            refine x_aload_n C (i := 0) dX12_hundredths_84 rfl rfl ?_
            refine x_dup C dX12_hundredths_85 rfl ?_
            refine x_getI C fi_38_3 kf_X12_100 dX12_hundredths_86 ?_
            refine x_topI (y := nI ((a + 5) + 1 + 1)) rfl ?_
            refine x_iconst C (nI 1) dX12_hundredths_89 rfl ?_
            refine x_iaddN C dX12_hundredths_90 ?_
            refine x_putN C fi_38_3 kf_X12_100 rfl rfl dX12_hundredths_91 ?_
            refine x_sig (σ' := x_fm σ ((a + 5) + 1 + 1 + 1) (x_val nc vc) nc) (x_fm_3 _ _ _ _ _) ?_
            refine x_iincN C (i := 3) (b := 1) dX12_hundredths_94 rfl rfl (by decide) ?_
            refine x_goto C 54 dX12_hundredths_97 (by decide) ?_
            refine x_iload_n C (i := 3) dX12_hundredths_54 rfl rfl ?_
            refine x_iconst C (nI 2) dX12_hundredths_55 rfl ?_
            refine x_icmp_geN C 100 dX12_hundredths_56 (by decide) (by omega) (by omega) (fun c56 => ?_) (fun c56 => absurd c56 (by decide))
            refine x_aload_n C (i := 0) dX12_hundredths_100 rfl rfl ?_
            refine x_aload_n C (i := 0) dX12_hundredths_101 rfl rfl ?_
            refine x_getI C fi_38_27 kf_X12_251 dX12_hundredths_102 ?_
            refine x_topI (y := x_z nc) rfl ?_
            refine x_if_eqZ C 113 dX12_hundredths_105 (by decide) (fun c105 => ?_) (fun c105 => ?_)
            · skip
              refine x_iload_n C (i := 2) dX12_hundredths_113 rfl rfl ?_
              refine x_putN C fi_38_26 kf_X12_248 rfl rfl dX12_hundredths_114 ?_
              refine x_sig (σ' := x_fm σ ((a + 5) + 1 + 1 + 1) (nI (10 * (10 * vc + d0) + d1)) nc) (x_fm_26 _ _ _ _ _) ?_
              refine x_iconst C (nI 1) dX12_hundredths_117 rfl ?_
              refine x_zret C xr xk dX12_hundredths_118 rfl ?_
              exact hK _ _ (Or.inl (by unfold x_hun; rw [← hC]; dsimp only; rw [if_pos rfl, if_pos c37, if_pos e0, if_pos e1, show x_lookv b t (a + 6) = nI (48 + d0) from hdc0, show x_lookv b t (a + 7) = nI (48 + d1) from hdc1, nI_clamp (by omega), nI_clamp (by omega), Nat.add_sub_cancel_left, Nat.add_sub_cancel_left]; exact ⟨rfl, rfl, by unfold x_val; first | rw [if_pos c105] | rw [if_neg (fun z9 => absurd (c105.symm.trans z9) (by decide))]⟩))
            · skip
              refine x_iload_n C (i := 2) dX12_hundredths_108 rfl rfl ?_
              refine x_ineg C dX12_hundredths_109 ?_
              refine x_goto C 114 dX12_hundredths_110 (by decide) ?_
              refine x_putN C fi_38_26 kf_X12_248 rfl rfl dX12_hundredths_114 ?_
              refine x_sig (σ' := x_fm σ ((a + 5) + 1 + 1 + 1) (-(nI (10 * (10 * vc + d0) + d1))) nc) (x_fm_26 _ _ _ _ _) ?_
              refine x_iconst C (nI 1) dX12_hundredths_117 rfl ?_
              refine x_zret C xr xk dX12_hundredths_118 rfl ?_
              exact hK _ _ (Or.inl (by unfold x_hun; rw [← hC]; dsimp only; rw [if_pos rfl, if_pos c37, if_pos e0, if_pos e1, show x_lookv b t (a + 6) = nI (48 + d0) from hdc0, show x_lookv b t (a + 7) = nI (48 + d1) from hdc1, nI_clamp (by omega), nI_clamp (by omega), Nat.add_sub_cancel_left, Nat.add_sub_cancel_left]; exact ⟨rfl, rfl, by unfold x_val; first | rw [if_pos c105] | rw [if_neg (fun z9 => absurd (c105.symm.trans z9) (by decide))]⟩))
          · skip
            have e1 := c66
            refine x_iconst C (nI 0) dX12_hundredths_69 rfl ?_
            refine x_zret C xr xk dX12_hundredths_70 rfl ?_
            exact hK _ _ (Or.inr (by unfold x_hun; rw [← hC]; dsimp only; rw [if_pos rfl, if_pos c37, if_pos e0, if_neg (by rw [e1]; decide)]; exact ⟨rfl, rfl, _, _, rfl⟩))
        · skip
          have e0 := c66
          refine x_iconst C (nI 0) dX12_hundredths_69 rfl ?_
          refine x_zret C xr xk dX12_hundredths_70 rfl ?_
          exact hK _ _ (Or.inr (by unfold x_hun; rw [← hC]; dsimp only; rw [if_pos rfl, if_pos c37, if_neg (by rw [e0]; decide)]; exact ⟨rfl, rfl, _, _, rfl⟩))
      · skip
        refine x_iconst C (nI 0) dX12_hundredths_40 rfl ?_
        refine x_zret C xr xk dX12_hundredths_41 rfl ?_
        exact hK _ _ (Or.inr (by unfold x_hun; rw [← hC]; dsimp only; rw [if_pos rfl, if_neg c37]; exact ⟨rfl, rfl, _, _, rfl⟩))
  · skip
    subst hc1
    refine x_if_neZ C 11 dX12_hundredths_6 (by decide) (fun c6 => absurd c6 (by decide)) (fun c6 => ?_)
    refine x_iconst C (nI 0) dX12_hundredths_9 rfl ?_
    refine x_zret C xr xk dX12_hundredths_10 rfl ?_
    exact hK _ _ (Or.inr (by unfold x_hun; rw [← hC]; exact ⟨rfl, rfl, _, _, rfl⟩))
theorem c_X12_hundredths (l : Launch) (Y : x_Y) (σ : x_S) (a : Nat) (v : Int32) (ng : Bool) (sg : Bool) (b : Nat → Int32) (t : Nat) (hb : σ.1 39 = b) (ht : σ.1 38 2 = nI t) (ht8 : t ≤ 8000) (hat : a ≤ t) : x_M l yX12_hundredths cX12_hundredths 4 (some .boolean) 2 Y [.ref 38, .int (x_z sg)] (x_fm σ a v ng) (fun r τ => ((x_hun b t sg a).1 = true ∧ r = some (.int (x_z true)) ∧ τ = x_fm σ (x_hun b t sg a).2.1 (x_val (x_hun b t sg a).2.2.1 (x_hun b t sg a).2.2.2) (x_hun b t sg a).2.2.1) ∨ ((x_hun b t sg a).1 = false ∧ r = some (.int (x_z false)) ∧ ∃ v9 n9, τ = x_fm σ (x_hun b t sg a).2.1 v9 n9)) := c_X12_hundredths_K l Y σ a v ng sg b t hb ht ht8 hat _ (fun _ _ h => h)
