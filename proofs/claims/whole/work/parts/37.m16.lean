set_option maxRecDepth 100000 in
set_option maxHeartbeats 200000 in
theorem c_X12_readsRow_K (l : Launch) (Y : x_Y) (σ : x_S) (en : Bool) (f49 f50 f51 f52 f53 : Nat → Int32) (a : Nat) (v : Int32) (ng : Bool) (i : Nat) (b : Nat → Int32) (t : Nat) (hb : σ.1 39 = b) (ht : σ.1 38 2 = nI t) (ht8 : t ≤ 8000) (hat : a ≤ t) (hi : i ≤ 3000) (K : Option Value → x_S → Prop) (hK : ∀ (r : Option Value) (τ : x_S), (((x_row b t a).1 = true ∧ r = some (.int (x_z true)) ∧ τ = (if x_rz b t a = true ∨ 3000 ≤ i then x_fz σ (x_rz b t a) f49 f50 f51 f52 f53 (a + 28) (x_hv b t false (a + 20)) (x_hun b t false (a + 20)).2.2.1 else x_fz σ (x_rz b t a) (upd f49 i (x_iv b t a)) (upd f50 i (x_iv b t (a + 4))) (upd f51 i (x_iv b t (a + 8))) (upd f52 i (x_hv b t true (a + 12))) (upd f53 i (x_hv b t false (a + 20))) (a + 28) (x_hv b t false (a + 20)) (x_hun b t false (a + 20)).2.2.1)) ∨ ((x_row b t a).1 = false ∧ r = some (.int (x_z false)) ∧ ∃ v9 n9, τ = x_fz σ en f49 f50 f51 f52 f53 (x_row b t a).2 v9 n9)) → K r τ) : x_M l yX12_readsRow cX12_readsRow 6 (some .boolean) 3 Y [.ref 38, .int (nI i)] (x_fz σ en f49 f50 f51 f52 f53 a v ng) K := by
  refine x_start (by decide) (Nat.le_of_ble_eq_true rfl) ?_
  intro xp xe xs xm xg xb xt xc C xr xk
  refine x_iconst C (nI 0) dX12_readsRow_0 rfl ?_
  refine x_istore_n C (i := 2) dX12_readsRow_1 rfl (by decide) ?_
  refine x_iconst C (nI 0) dX12_readsRow_2 rfl ?_
  refine x_istore_n C (i := 3) dX12_readsRow_3 rfl (by decide) ?_
  refine x_iconst C (nI 0) dX12_readsRow_4 rfl ?_
  refine x_istore C (i := 4) dX12_readsRow_5 (by decide) ?_
  refine x_iconst C (nI 0) dX12_readsRow_7 rfl ?_
  refine x_istore C (i := 5) dX12_readsRow_8 (by decide) ?_
  refine x_iload C (i := 5) dX12_readsRow_10 rfl ?_
  refine x_iconst C (nI 3) dX12_readsRow_12 rfl ?_
  refine x_icmp_geN C 77 dX12_readsRow_13 (by decide) (by omega) (by omega) (fun c13 => absurd c13 (by decide)) (fun c13 => ?_)
  refine x_aload_n C (i := 0) dX12_readsRow_16 rfl rfl ?_
  have hM := c_X12_index l Y (x_fy σ en f49 f50 f51 f52 f53) a v ng b t hb ht ht8 (by omega)
  refine x_callV C (as := []) (st := []) (hM) kb_X12_index kv_X12_262 dX12_readsRow_17 rfl rfl (Nat.le_of_ble_eq_true rfl) ⟨by decide, by decide⟩ ⟨by decide, by decide⟩ ko_38 ?_
  clear hM
  rintro _ _ (⟨hx0, rfl, rfl⟩ | ⟨hx0, rfl, v9, n9, rfl⟩)
  · skip
    have hy0 := x_idx_le hx0 (by omega)
    rw [x_idx_a hx0]
    refine x_if_neZ C 25 dX12_readsRow_20 (by decide) (fun c20 => ?_) (fun c20 => absurd c20 (by decide))
    refine x_iload C (i := 5) dX12_readsRow_25 rfl ?_
    refine x_if_neN C 37 dX12_readsRow_27 (by decide) (by omega) (fun c27 => absurd c27 (by decide)) (fun c27 => ?_)
    refine x_aload_n C (i := 0) dX12_readsRow_30 rfl rfl ?_
    refine x_getI C fi_38_26 kf_X12_248 dX12_readsRow_31 ?_
    refine x_topI (y := x_iv b t a) rfl ?_
    refine x_goto C 38 dX12_readsRow_34 (by decide) ?_
    refine x_istore_n C (i := 2) dX12_readsRow_38 rfl (by decide) ?_
    refine x_iload C (i := 5) dX12_readsRow_39 rfl ?_
    refine x_iconst C (nI 1) dX12_readsRow_41 rfl ?_
    refine x_icmp_neN C 52 dX12_readsRow_42 (by decide) (by omega) (by omega) (fun c42 => ?_) (fun c42 => absurd c42 (by decide))
    refine x_iload_n C (i := 3) dX12_readsRow_52 rfl rfl ?_
    refine x_istore_n C (i := 3) dX12_readsRow_53 rfl (by decide) ?_
    refine x_iload C (i := 5) dX12_readsRow_54 rfl ?_
    refine x_iconst C (nI 2) dX12_readsRow_56 rfl ?_
    refine x_icmp_neN C 67 dX12_readsRow_57 (by decide) (by omega) (by omega) (fun c57 => ?_) (fun c57 => absurd c57 (by decide))
    refine x_iload C (i := 4) dX12_readsRow_67 rfl ?_
    refine x_istore C (i := 4) dX12_readsRow_69 (by decide) ?_
    refine x_iincN C (i := 5) (b := 1) dX12_readsRow_71 rfl rfl (by decide) ?_
    refine x_goto C 10 dX12_readsRow_74 (by decide) ?_
    refine x_iload C (i := 5) dX12_readsRow_10 rfl ?_
    refine x_iconst C (nI 3) dX12_readsRow_12 rfl ?_
    refine x_icmp_geN C 77 dX12_readsRow_13 (by decide) (by omega) (by omega) (fun c13 => absurd c13 (by decide)) (fun c13 => ?_)
    refine x_aload_n C (i := 0) dX12_readsRow_16 rfl rfl ?_
    have hM := c_X12_index l Y (x_fy σ en f49 f50 f51 f52 f53) (a + 4) (x_iv b t a) ((x_idx b t a).2.2.1) b t hb ht ht8 (by omega)
    refine x_callV C (as := []) (st := []) (hM) kb_X12_index kv_X12_262 dX12_readsRow_17 rfl rfl (Nat.le_of_ble_eq_true rfl) ⟨by decide, by decide⟩ ⟨by decide, by decide⟩ ko_38 ?_
    clear hM
    rintro _ _ (⟨hx4, rfl, rfl⟩ | ⟨hx4, rfl, v9, n9, rfl⟩)
    · skip
      have hy4 := x_idx_le hx4 (by omega)
      rw [x_idx_a hx4]
      refine x_if_neZ C 25 dX12_readsRow_20 (by decide) (fun c20 => ?_) (fun c20 => absurd c20 (by decide))
      refine x_iload C (i := 5) dX12_readsRow_25 rfl ?_
      refine x_if_neN C 37 dX12_readsRow_27 (by decide) (by omega) (fun c27 => ?_) (fun c27 => absurd c27 (by decide))
      refine x_iload_n C (i := 2) dX12_readsRow_37 rfl rfl ?_
      refine x_istore_n C (i := 2) dX12_readsRow_38 rfl (by decide) ?_
      refine x_iload C (i := 5) dX12_readsRow_39 rfl ?_
      refine x_iconst C (nI 1) dX12_readsRow_41 rfl ?_
      refine x_icmp_neN C 52 dX12_readsRow_42 (by decide) (by omega) (by omega) (fun c42 => absurd c42 (by decide)) (fun c42 => ?_)
      refine x_aload_n C (i := 0) dX12_readsRow_45 rfl rfl ?_
      refine x_getI C fi_38_26 kf_X12_248 dX12_readsRow_46 ?_
      refine x_topI (y := x_iv b t (a + 4)) rfl ?_
      refine x_goto C 53 dX12_readsRow_49 (by decide) ?_
      refine x_istore_n C (i := 3) dX12_readsRow_53 rfl (by decide) ?_
      refine x_iload C (i := 5) dX12_readsRow_54 rfl ?_
      refine x_iconst C (nI 2) dX12_readsRow_56 rfl ?_
      refine x_icmp_neN C 67 dX12_readsRow_57 (by decide) (by omega) (by omega) (fun c57 => ?_) (fun c57 => absurd c57 (by decide))
      refine x_iload C (i := 4) dX12_readsRow_67 rfl ?_
      refine x_istore C (i := 4) dX12_readsRow_69 (by decide) ?_
      refine x_iincN C (i := 5) (b := 1) dX12_readsRow_71 rfl rfl (by decide) ?_
      refine x_goto C 10 dX12_readsRow_74 (by decide) ?_
      refine x_iload C (i := 5) dX12_readsRow_10 rfl ?_
      refine x_iconst C (nI 3) dX12_readsRow_12 rfl ?_
      refine x_icmp_geN C 77 dX12_readsRow_13 (by decide) (by omega) (by omega) (fun c13 => absurd c13 (by decide)) (fun c13 => ?_)
      refine x_aload_n C (i := 0) dX12_readsRow_16 rfl rfl ?_
      have hM := c_X12_index l Y (x_fy σ en f49 f50 f51 f52 f53) (a + 8) (x_iv b t (a + 4)) ((x_idx b t (a + 4)).2.2.1) b t hb ht ht8 (by omega)
      refine x_callV C (as := []) (st := []) (hM) kb_X12_index kv_X12_262 dX12_readsRow_17 rfl rfl (Nat.le_of_ble_eq_true rfl) ⟨by decide, by decide⟩ ⟨by decide, by decide⟩ ko_38 ?_
      clear hM
      rintro _ _ (⟨hx8, rfl, rfl⟩ | ⟨hx8, rfl, v9, n9, rfl⟩)
      · skip
        have hy8 := x_idx_le hx8 (by omega)
        rw [x_idx_a hx8]
        refine x_if_neZ C 25 dX12_readsRow_20 (by decide) (fun c20 => ?_) (fun c20 => absurd c20 (by decide))
        refine x_iload C (i := 5) dX12_readsRow_25 rfl ?_
        refine x_if_neN C 37 dX12_readsRow_27 (by decide) (by omega) (fun c27 => ?_) (fun c27 => absurd c27 (by decide))
        refine x_iload_n C (i := 2) dX12_readsRow_37 rfl rfl ?_
        refine x_istore_n C (i := 2) dX12_readsRow_38 rfl (by decide) ?_
        refine x_iload C (i := 5) dX12_readsRow_39 rfl ?_
        refine x_iconst C (nI 1) dX12_readsRow_41 rfl ?_
        refine x_icmp_neN C 52 dX12_readsRow_42 (by decide) (by omega) (by omega) (fun c42 => ?_) (fun c42 => absurd c42 (by decide))
        refine x_iload_n C (i := 3) dX12_readsRow_52 rfl rfl ?_
        refine x_istore_n C (i := 3) dX12_readsRow_53 rfl (by decide) ?_
        refine x_iload C (i := 5) dX12_readsRow_54 rfl ?_
        refine x_iconst C (nI 2) dX12_readsRow_56 rfl ?_
        refine x_icmp_neN C 67 dX12_readsRow_57 (by decide) (by omega) (by omega) (fun c57 => absurd c57 (by decide)) (fun c57 => ?_)
        refine x_aload_n C (i := 0) dX12_readsRow_60 rfl rfl ?_
        refine x_getI C fi_38_26 kf_X12_248 dX12_readsRow_61 ?_
        refine x_topI (y := x_iv b t (a + 8)) rfl ?_
        refine x_goto C 69 dX12_readsRow_64 (by decide) ?_
        refine x_istore C (i := 4) dX12_readsRow_69 (by decide) ?_
        refine x_iincN C (i := 5) (b := 1) dX12_readsRow_71 rfl rfl (by decide) ?_
        refine x_goto C 10 dX12_readsRow_74 (by decide) ?_
        refine x_iload C (i := 5) dX12_readsRow_10 rfl ?_
        refine x_iconst C (nI 3) dX12_readsRow_12 rfl ?_
        refine x_icmp_geN C 77 dX12_readsRow_13 (by decide) (by omega) (by omega) (fun c13 => ?_) (fun c13 => absurd c13 (by decide))
        refine x_aload_n C (i := 0) dX12_readsRow_77 rfl rfl ?_
        refine x_iconst C (nI 1) dX12_readsRow_78 rfl ?_
        have hM := c_X12_hundredths l Y (x_fy σ en f49 f50 f51 f52 f53) (a + 12) (x_iv b t (a + 8)) ((x_idx b t (a + 8)).2.2.1) true b t hb ht ht8 (by omega)
        refine x_callV C (as := [.int (x_z true)]) (st := []) (hM) kb_X12_hundredths kv_X12_265 dX12_readsRow_79 rfl rfl (Nat.le_of_ble_eq_true rfl) ⟨by decide, by decide⟩ ⟨by decide, by decide⟩ ko_38 ?_
        clear hM
        rintro _ _ (⟨hx12, rfl, rfl⟩ | ⟨hx12, rfl, v9, n9, rfl⟩)
        · skip
          have hy12 := x_hun_le hx12
          rw [x_hun_a hx12]
          refine x_if_neZ C 87 dX12_readsRow_82 (by decide) (fun c82 => ?_) (fun c82 => absurd c82 (by decide))
          refine x_aload_n C (i := 0) dX12_readsRow_87 rfl rfl ?_
          refine x_getI C fi_38_26 kf_X12_248 dX12_readsRow_88 ?_
          refine x_topI (y := x_hv b t true (a + 12)) rfl ?_
          refine x_istore C (i := 5) dX12_readsRow_91 (by decide) ?_
          refine x_aload_n C (i := 0) dX12_readsRow_93 rfl rfl ?_
          refine x_iconst C (nI 0) dX12_readsRow_94 rfl ?_
          have hM := c_X12_hundredths l Y (x_fy σ en f49 f50 f51 f52 f53) (a + 20) (x_hv b t true (a + 12)) ((x_hun b t true (a + 12)).2.2.1) false b t hb ht ht8 (by omega)
          refine x_callV C (as := [.int (x_z false)]) (st := []) (hM) kb_X12_hundredths kv_X12_265 dX12_readsRow_95 rfl rfl (Nat.le_of_ble_eq_true rfl) ⟨by decide, by decide⟩ ⟨by decide, by decide⟩ ko_38 ?_
          clear hM
          rintro _ _ (⟨hx20, rfl, rfl⟩ | ⟨hx20, rfl, v9, n9, rfl⟩)
          · skip
            have hy20 := x_hun_le hx20
            rw [x_hun_a hx20]
            refine x_if_neZ C 103 dX12_readsRow_98 (by decide) (fun c98 => ?_) (fun c98 => absurd c98 (by decide))
            have lp125 : ∀ (ez : Bool), (ez = x_rz b t a) → ∀ L : x_Lo, L.1 0 = some (.ref 38) → L.1 1 = some (.int (nI i)) → L.1 2 = some (.int (x_iv b t a)) → L.1 3 = some (.int (x_iv b t (a + 4))) → L.1 4 = some (.int (x_iv b t (a + 8))) → L.1 5 = some (.int (x_hv b t true (a + 12))) → x_W xp l xe (x_rm 3) xs xm xg xb xt xc 6 Y 0 0 (MQ xb (x_Q Y K) xg xs 0 0 (x_A Y)) 125 L [] (x_fz σ ez f49 f50 f51 f52 f53 (a + 28) (x_hv b t false (a + 20)) ((x_hun b t false (a + 20)).2.2.1)) := by
              intro ez hez L xl0 xl1 xl2 xl3 xl4 xl5
              refine x_aload_n C (i := 0) dX12_readsRow_125 rfl xl0 ?_
              refine x_getI C fi_38_28 kf_X12_268 dX12_readsRow_126 ?_
              refine x_topI (y := x_z ez) rfl ?_
              refine x_if_neZ C 179 dX12_readsRow_129 (by decide) (fun c129 => ?_) (fun c129 => ?_)
              · skip
                refine x_iconst C (nI 1) dX12_readsRow_179 rfl ?_
                refine x_zret C xr xk dX12_readsRow_180 rfl ?_
                exact hK _ _ (Or.inl ⟨by unfold x_row; rw [if_pos hx0, if_pos hx4, if_pos hx8, if_pos hx12, if_pos hx20], rfl, by rw [← hez]; first | rw [if_pos (Or.inl c129)] | rw [if_pos (Or.inr c136)]⟩)
              · skip
                refine x_iload_n C (i := 1) dX12_readsRow_132 rfl xl1 ?_
                refine x_sipush C (nI 3000) dX12_readsRow_133 rfl ?_
                refine x_icmp_geN C 179 dX12_readsRow_136 (by decide) (by omega) (by omega) (fun c136 => ?_) (fun c136 => ?_)
                · skip
                  have c136' := Nat.not_lt.mpr c136
                  refine x_iconst C (nI 1) dX12_readsRow_179 rfl ?_
                  refine x_zret C xr xk dX12_readsRow_180 rfl ?_
                  exact hK _ _ (Or.inl ⟨by unfold x_row; rw [if_pos hx0, if_pos hx4, if_pos hx8, if_pos hx12, if_pos hx20], rfl, by rw [← hez]; first | rw [if_pos (Or.inl c129)] | rw [if_pos (Or.inr c136)]⟩)
                · skip
                  have c136' := Nat.not_le.mpr c136
                  refine x_aload_n C (i := 0) dX12_readsRow_139 rfl xl0 ?_
                  refine x_getR C fr_38_21 kf_X12_42 dX12_readsRow_140 ?_
                  refine x_iload_n C (i := 1) dX12_readsRow_143 rfl xl1 ?_
                  refine x_iload_n C (i := 2) dX12_readsRow_144 rfl xl2 ?_
                  refine x_iastN C (by decide) rfl (by decide) dX12_readsRow_145 (by omega) ?_
                  refine x_sig (σ' := x_fz σ ez (upd f49 i (x_iv b t a)) f50 f51 f52 f53 (a + 28) (x_hv b t false (a + 20)) ((x_hun b t false (a + 20)).2.2.1)) (by rw [x_u_ui]; exact x_fz_49 _ _ _ _ _ _ _ _ _ _ _) ?_
                  refine x_aload_n C (i := 0) dX12_readsRow_146 rfl xl0 ?_
                  refine x_getR C fr_38_22 kf_X12_45 dX12_readsRow_147 ?_
                  refine x_iload_n C (i := 1) dX12_readsRow_150 rfl xl1 ?_
                  refine x_iload_n C (i := 3) dX12_readsRow_151 rfl xl3 ?_
                  refine x_iastN C (by decide) rfl (by decide) dX12_readsRow_152 (by omega) ?_
                  refine x_sig (σ' := x_fz σ ez (upd f49 i (x_iv b t a)) (upd f50 i (x_iv b t (a + 4))) f51 f52 f53 (a + 28) (x_hv b t false (a + 20)) ((x_hun b t false (a + 20)).2.2.1)) (by rw [x_u_ui]; exact x_fz_50 _ _ _ _ _ _ _ _ _ _ _) ?_
                  refine x_aload_n C (i := 0) dX12_readsRow_153 rfl xl0 ?_
                  refine x_getR C fr_38_23 kf_X12_48 dX12_readsRow_154 ?_
                  refine x_iload_n C (i := 1) dX12_readsRow_157 rfl xl1 ?_
                  refine x_iload C (i := 4) dX12_readsRow_158 xl4 ?_
                  refine x_iastN C (by decide) rfl (by decide) dX12_readsRow_160 (by omega) ?_
                  refine x_sig (σ' := x_fz σ ez (upd f49 i (x_iv b t a)) (upd f50 i (x_iv b t (a + 4))) (upd f51 i (x_iv b t (a + 8))) f52 f53 (a + 28) (x_hv b t false (a + 20)) ((x_hun b t false (a + 20)).2.2.1)) (by rw [x_u_ui]; exact x_fz_51 _ _ _ _ _ _ _ _ _ _ _) ?_
                  refine x_aload_n C (i := 0) dX12_readsRow_161 rfl xl0 ?_
                  refine x_getR C fr_38_24 kf_X12_51 dX12_readsRow_162 ?_
                  refine x_iload_n C (i := 1) dX12_readsRow_165 rfl xl1 ?_
                  refine x_iload C (i := 5) dX12_readsRow_166 xl5 ?_
                  refine x_iastN C (by decide) rfl (by decide) dX12_readsRow_168 (by omega) ?_
                  refine x_sig (σ' := x_fz σ ez (upd f49 i (x_iv b t a)) (upd f50 i (x_iv b t (a + 4))) (upd f51 i (x_iv b t (a + 8))) (upd f52 i (x_hv b t true (a + 12))) f53 (a + 28) (x_hv b t false (a + 20)) ((x_hun b t false (a + 20)).2.2.1)) (by rw [x_u_ui]; exact x_fz_52 _ _ _ _ _ _ _ _ _ _ _) ?_
                  refine x_aload_n C (i := 0) dX12_readsRow_169 rfl xl0 ?_
                  refine x_getR C fr_38_25 kf_X12_54 dX12_readsRow_170 ?_
                  refine x_iload_n C (i := 1) dX12_readsRow_173 rfl xl1 ?_
                  refine x_aload_n C (i := 0) dX12_readsRow_174 rfl xl0 ?_
                  refine x_getI C fi_38_26 kf_X12_248 dX12_readsRow_175 ?_
                  refine x_topI (y := x_hv b t false (a + 20)) rfl ?_
                  refine x_iastN C (by decide) rfl (by decide) dX12_readsRow_178 (by omega) ?_
                  refine x_sig (σ' := x_fz σ ez (upd f49 i (x_iv b t a)) (upd f50 i (x_iv b t (a + 4))) (upd f51 i (x_iv b t (a + 8))) (upd f52 i (x_hv b t true (a + 12))) (upd f53 i (x_hv b t false (a + 20))) (a + 28) (x_hv b t false (a + 20)) ((x_hun b t false (a + 20)).2.2.1)) (by rw [x_u_ui]; exact x_fz_53 _ _ _ _ _ _ _ _ _ _ _) ?_
                  refine x_iconst C (nI 1) dX12_readsRow_179 rfl ?_
                  refine x_zret C xr xk dX12_readsRow_180 rfl ?_
                  exact hK _ _ (Or.inl ⟨by unfold x_row; rw [if_pos hx0, if_pos hx4, if_pos hx8, if_pos hx12, if_pos hx20], rfl, by rw [← hez]; rw [if_neg (by rw [c129]; simp; omega)]⟩)
            refine x_aload_n C (i := 0) dX12_readsRow_103 rfl rfl ?_
            refine x_iload_n C (i := 2) dX12_readsRow_104 rfl rfl ?_
            refine x_if_ne C 121 dX12_readsRow_105 (by decide) (fun c105 => ?_) (fun c105 => ?_)
            · skip
              refine x_iconst C (nI 0) dX12_readsRow_121 rfl ?_
              refine x_congr (st' := .int (x_z false) :: .ref 38 :: []) rfl rfl ?_
              refine x_putZ C fi_38_28 kf_X12_268 rfl rfl dX12_readsRow_122 ?_
              refine x_sig (σ' := x_fz σ false f49 f50 f51 f52 f53 (a + 28) (x_hv b t false (a + 20)) ((x_hun b t false (a + 20)).2.2.1)) (x_fz_28 _ _ _ _ _ _ _ _ _ _ _) ?_
              exact lp125 false (by unfold x_rz; first | (rw [decide_eq_false c105]; rfl) | (rw [decide_eq_true c105, decide_eq_false c109]; rfl) | (rw [decide_eq_true c105, decide_eq_true c109, decide_eq_false c114]; rfl) | (rw [decide_eq_true c105, decide_eq_true c109, decide_eq_true c114]; rfl)) _ rfl rfl rfl rfl rfl rfl
            · skip
              refine x_iload_n C (i := 3) dX12_readsRow_108 rfl rfl ?_
              refine x_if_ne C 121 dX12_readsRow_109 (by decide) (fun c109 => ?_) (fun c109 => ?_)
              · skip
                refine x_iconst C (nI 0) dX12_readsRow_121 rfl ?_
                refine x_congr (st' := .int (x_z false) :: .ref 38 :: []) rfl rfl ?_
                refine x_putZ C fi_38_28 kf_X12_268 rfl rfl dX12_readsRow_122 ?_
                refine x_sig (σ' := x_fz σ false f49 f50 f51 f52 f53 (a + 28) (x_hv b t false (a + 20)) ((x_hun b t false (a + 20)).2.2.1)) (x_fz_28 _ _ _ _ _ _ _ _ _ _ _) ?_
                exact lp125 false (by unfold x_rz; first | (rw [decide_eq_false c105]; rfl) | (rw [decide_eq_true c105, decide_eq_false c109]; rfl) | (rw [decide_eq_true c105, decide_eq_true c109, decide_eq_false c114]; rfl) | (rw [decide_eq_true c105, decide_eq_true c109, decide_eq_true c114]; rfl)) _ rfl rfl rfl rfl rfl rfl
              · skip
                refine x_iload C (i := 4) dX12_readsRow_112 rfl ?_
                refine x_if_ne C 121 dX12_readsRow_114 (by decide) (fun c114 => ?_) (fun c114 => ?_)
                · skip
                  refine x_iconst C (nI 0) dX12_readsRow_121 rfl ?_
                  refine x_congr (st' := .int (x_z false) :: .ref 38 :: []) rfl rfl ?_
                  refine x_putZ C fi_38_28 kf_X12_268 rfl rfl dX12_readsRow_122 ?_
                  refine x_sig (σ' := x_fz σ false f49 f50 f51 f52 f53 (a + 28) (x_hv b t false (a + 20)) ((x_hun b t false (a + 20)).2.2.1)) (x_fz_28 _ _ _ _ _ _ _ _ _ _ _) ?_
                  exact lp125 false (by unfold x_rz; first | (rw [decide_eq_false c105]; rfl) | (rw [decide_eq_true c105, decide_eq_false c109]; rfl) | (rw [decide_eq_true c105, decide_eq_true c109, decide_eq_false c114]; rfl) | (rw [decide_eq_true c105, decide_eq_true c109, decide_eq_true c114]; rfl)) _ rfl rfl rfl rfl rfl rfl
                · skip
                  refine x_iconst C (nI 1) dX12_readsRow_117 rfl ?_
                  refine x_goto C 122 dX12_readsRow_118 (by decide) ?_
                  refine x_congr (st' := .int (x_z true) :: .ref 38 :: []) rfl rfl ?_
                  refine x_putZ C fi_38_28 kf_X12_268 rfl rfl dX12_readsRow_122 ?_
                  refine x_sig (σ' := x_fz σ true f49 f50 f51 f52 f53 (a + 28) (x_hv b t false (a + 20)) ((x_hun b t false (a + 20)).2.2.1)) (x_fz_28 _ _ _ _ _ _ _ _ _ _ _) ?_
                  exact lp125 true (by unfold x_rz; first | (rw [decide_eq_false c105]; rfl) | (rw [decide_eq_true c105, decide_eq_false c109]; rfl) | (rw [decide_eq_true c105, decide_eq_true c109, decide_eq_false c114]; rfl) | (rw [decide_eq_true c105, decide_eq_true c109, decide_eq_true c114]; rfl)) _ rfl rfl rfl rfl rfl rfl
          · skip
            refine x_if_neZ C 103 dX12_readsRow_98 (by decide) (fun c98 => absurd c98 (by decide)) (fun c98 => ?_)
            refine x_iconst C (nI 0) dX12_readsRow_101 rfl ?_
            refine x_zret C xr xk dX12_readsRow_102 rfl ?_
            exact hK _ _ (Or.inr ⟨by unfold x_row; rw [if_pos hx0, if_pos hx4, if_pos hx8, if_pos hx12, if_neg (by rw [hx20]; decide)], rfl, _, _, by unfold x_row; rw [if_pos hx0, if_pos hx4, if_pos hx8, if_pos hx12, if_neg (by rw [hx20]; decide)]⟩)
        · skip
          refine x_if_neZ C 87 dX12_readsRow_82 (by decide) (fun c82 => absurd c82 (by decide)) (fun c82 => ?_)
          refine x_iconst C (nI 0) dX12_readsRow_85 rfl ?_
          refine x_zret C xr xk dX12_readsRow_86 rfl ?_
          exact hK _ _ (Or.inr ⟨by unfold x_row; rw [if_pos hx0, if_pos hx4, if_pos hx8, if_neg (by rw [hx12]; decide)], rfl, _, _, by unfold x_row; rw [if_pos hx0, if_pos hx4, if_pos hx8, if_neg (by rw [hx12]; decide)]⟩)
      · skip
        refine x_if_neZ C 25 dX12_readsRow_20 (by decide) (fun c20 => absurd c20 (by decide)) (fun c20 => ?_)
        refine x_iconst C (nI 0) dX12_readsRow_23 rfl ?_
        refine x_zret C xr xk dX12_readsRow_24 rfl ?_
        exact hK _ _ (Or.inr ⟨by unfold x_row; rw [if_pos hx0, if_pos hx4, if_neg (by rw [hx8]; decide)], rfl, _, _, by unfold x_row; rw [if_pos hx0, if_pos hx4, if_neg (by rw [hx8]; decide)]⟩)
    · skip
      refine x_if_neZ C 25 dX12_readsRow_20 (by decide) (fun c20 => absurd c20 (by decide)) (fun c20 => ?_)
      refine x_iconst C (nI 0) dX12_readsRow_23 rfl ?_
      refine x_zret C xr xk dX12_readsRow_24 rfl ?_
      exact hK _ _ (Or.inr ⟨by unfold x_row; rw [if_pos hx0, if_neg (by rw [hx4]; decide)], rfl, _, _, by unfold x_row; rw [if_pos hx0, if_neg (by rw [hx4]; decide)]⟩)
  · skip
    refine x_if_neZ C 25 dX12_readsRow_20 (by decide) (fun c20 => absurd c20 (by decide)) (fun c20 => ?_)
    refine x_iconst C (nI 0) dX12_readsRow_23 rfl ?_
    refine x_zret C xr xk dX12_readsRow_24 rfl ?_
    exact hK _ _ (Or.inr ⟨by unfold x_row; rw [if_neg (by rw [hx0]; decide)], rfl, _, _, by unfold x_row; rw [if_neg (by rw [hx0]; decide)]⟩)
theorem c_X12_readsRow (l : Launch) (Y : x_Y) (σ : x_S) (en : Bool) (f49 f50 f51 f52 f53 : Nat → Int32) (a : Nat) (v : Int32) (ng : Bool) (i : Nat) (b : Nat → Int32) (t : Nat) (hb : σ.1 39 = b) (ht : σ.1 38 2 = nI t) (ht8 : t ≤ 8000) (hat : a ≤ t) (hi : i ≤ 3000) : x_M l yX12_readsRow cX12_readsRow 6 (some .boolean) 3 Y [.ref 38, .int (nI i)] (x_fz σ en f49 f50 f51 f52 f53 a v ng) (fun r τ => ((x_row b t a).1 = true ∧ r = some (.int (x_z true)) ∧ τ = (if x_rz b t a = true ∨ 3000 ≤ i then x_fz σ (x_rz b t a) f49 f50 f51 f52 f53 (a + 28) (x_hv b t false (a + 20)) (x_hun b t false (a + 20)).2.2.1 else x_fz σ (x_rz b t a) (upd f49 i (x_iv b t a)) (upd f50 i (x_iv b t (a + 4))) (upd f51 i (x_iv b t (a + 8))) (upd f52 i (x_hv b t true (a + 12))) (upd f53 i (x_hv b t false (a + 20))) (a + 28) (x_hv b t false (a + 20)) (x_hun b t false (a + 20)).2.2.1)) ∨ ((x_row b t a).1 = false ∧ r = some (.int (x_z false)) ∧ ∃ v9 n9, τ = x_fz σ en f49 f50 f51 f52 f53 (x_row b t a).2 v9 n9)) := c_X12_readsRow_K l Y σ en f49 f50 f51 f52 f53 a v ng i b t hb ht ht8 hat hi _ (fun _ _ h => h)
