set_option maxRecDepth 100000 in
set_option maxHeartbeats 200000 in
theorem c_X12_isSymbol_K (l : Launch) (Y : x_Y) (σ : x_S) (b : Nat → Int32) (t : Nat) (hb : σ.1 39 = b) (ht : σ.1 38 2 = nI t) (ht8 : t ≤ 8000) (K : Option Value → x_S → Prop) (hK : ∀ (r : Option Value) (τ : x_S), (∃ su fi be f46 f47, r = some (.int (x_z (x_sym b t).1)) ∧ τ = x_pm σ (x_sym b t).2.1 su fi be (x_sym b t).2.2.1 (x_sym b t).2.2.2 f46 f47) → K r τ) : x_M l yX12_isSymbol cX12_isSymbol 2 (some .boolean) 4 Y [.ref 38] σ K := by
  refine x_start (by decide) (Nat.le_of_ble_eq_true rfl) ?_
  intro xp xe xs xm xg xb xt xc C xr xk
  refine x_aload_n C (i := 0) dX12_isSymbol_0 rfl rfl ?_
  refine x_iconst C (nI 0) dX12_isSymbol_1 rfl ?_
  refine x_putN C fi_38_3 kf_X12_100 rfl rfl dX12_isSymbol_2 ?_
  refine x_aload_n C (i := 0) dX12_isSymbol_5 rfl rfl ?_
  refine x_iconst C (nI 0) dX12_isSymbol_6 rfl ?_
  refine x_putN C fi_38_10 kf_X12_103 rfl rfl dX12_isSymbol_7 ?_
  refine x_aload_n C (i := 0) dX12_isSymbol_10 rfl rfl ?_
  refine x_iconst C (nI 0) dX12_isSymbol_11 rfl ?_
  refine x_putN C fi_38_15 kf_X12_114 rfl rfl dX12_isSymbol_12 ?_
  refine x_aload_n C (i := 0) dX12_isSymbol_15 rfl rfl ?_
  refine x_iconst C (nI 0) dX12_isSymbol_16 rfl ?_
  refine x_putN C fi_38_16 kf_X12_117 rfl rfl dX12_isSymbol_17 ?_
  refine x_aload_n C (i := 0) dX12_isSymbol_20 rfl rfl ?_
  refine x_iconst C (nI 2) dX12_isSymbol_21 rfl ?_
  refine x_putN C fi_38_17 kf_X12_124 rfl rfl dX12_isSymbol_22 ?_
  refine x_sig (σ' := x_pm σ 0 0 0 2 ([]) ([]) (σ.1 46) (σ.1 47)) (x_pm_start σ 0) ?_
  refine x_aload_n C (i := 0) dX12_isSymbol_25 rfl rfl ?_
  have hb0 := x_blank_le b t 0 (Nat.zero_le t)
  have hM := c_X12_blanks_K l Y (x_pm σ 0 0 0 2 ([]) ([]) (σ.1 46) (σ.1 47)) b t 0 hb ht rfl ht8 (Nat.zero_le t) (fun r τ => r = none ∧ τ = x_pm σ (x_blank b t 0) 0 0 2 ([]) ([]) (σ.1 46) (σ.1 47)) (by rintro _ _ ⟨rfl, rfl⟩; exact ⟨rfl, (x_pm_3 _ _ _ _ _ _ _ _ _ _)⟩)
  refine x_callV C (as := []) (st := []) (hM) kb_X12_blanks kv_X12_159 dX12_isSymbol_26 rfl rfl (Nat.le_of_ble_eq_true rfl) ⟨by decide, by decide⟩ ⟨by decide, by decide⟩ ko_38 ?_
  clear hM
  rintro _ _ ⟨rfl, rfl⟩
  refine x_aload_n C (i := 0) dX12_isSymbol_29 rfl rfl ?_
  have hM := c_X12_look l Y (x_pm σ (x_blank b t 0) 0 0 2 ([]) ([]) (σ.1 46) (σ.1 47)) b t (x_blank b t 0) hb ht rfl ht8 (by omega)
  refine x_callV C (as := []) (st := []) (hM) kb_X12_look kv_X12_110 dX12_isSymbol_30 rfl rfl (Nat.le_of_ble_eq_true rfl) ⟨by decide, by decide⟩ ⟨by decide, by decide⟩ ko_38 ?_
  clear hM
  intro r9 τ9 h9
  obtain ⟨rfl, h8⟩ := h9
  rw [h8]
  clear h8 τ9
  refine x_bipush C (nI 45) dX12_isSymbol_33 rfl ?_
  have lp72 : ∀ (a1 : Nat) (G0 : List (List Int32)) (S0 : List (List Int32)) (g6 : Nat → Int32) (g7 : Nat → Int32), (a1 = x_sa0 b t) → ((G0, S0) = x_sg0 b t) → (a1 ≤ t) → (S0.length = G0.length) → (G0.length ≤ 1) → ∀ L : x_Lo, L.1 0 = some (.ref 38) → x_W xp l xe (x_rm 4) xs xm xg xb xt xc 2 Y 0 0 (MQ xb (x_Q Y K) xg xs 0 0 (x_A Y)) 72 L [] (x_pm σ a1 0 0 2 G0 S0 g6 g7) := by
    intro a1 G0 S0 g6 g7 ha1 hG0 hat1 hL0 hL1 L xl0
    refine x_aload_n C (i := 0) dX12_isSymbol_72 rfl xl0 ?_
    have hM := c_X12_letter l Y σ a1 0 0 2 G0 S0 g6 g7 b t hb ht ht8 hat1 hL0 hL1
    refine x_callV C (as := []) (st := []) (hM) kb_X12_letter kv_X12_162 dX12_isSymbol_73 rfl rfl (Nat.le_of_ble_eq_true rfl) ⟨by decide, by decide⟩ ⟨by decide, by decide⟩ ko_38 ?_
    clear hM
    rintro _ _ (⟨hce, rfl, rfl⟩ | ⟨Cs, g46, g47, hce, rfl, rfl⟩)
    · skip
      refine x_if_neZ C 81 dX12_isSymbol_76 (by decide) (fun c76 => absurd c76 (by decide)) (fun c76 => ?_)
      refine x_iconst C (nI 0) dX12_isSymbol_79 rfl ?_
      refine x_zret C xr xk dX12_isSymbol_80 rfl ?_
      exact hK _ _ (by have hE : x_sym b t = (false, a1, G0, S0) := by { unfold x_sym; rw [← ha1, hce, ← hG0] }; rw [hE]; exact ⟨_, _, _, _, _, rfl, rfl⟩)
    · skip
      refine x_if_neZ C 81 dX12_isSymbol_76 (by decide) (fun c76 => ?_) (fun c76 => absurd c76 (by decide))
      refine x_aload_n C (i := 0) dX12_isSymbol_81 rfl xl0 ?_
      refine x_dup C dX12_isSymbol_82 rfl ?_
      refine x_getI C fi_38_3 kf_X12_100 dX12_isSymbol_83 ?_
      refine x_topI (y := nI a1) rfl ?_
      refine x_iconst C (nI 1) dX12_isSymbol_86 rfl ?_
      refine x_iaddN C dX12_isSymbol_87 ?_
      refine x_putN C fi_38_3 kf_X12_100 rfl rfl dX12_isSymbol_88 ?_
      refine x_sig (σ' := x_pm σ (a1 + 1) 0 0 2 (G0 ++ Cs.map (fun _ => x_one)) (S0 ++ Cs) g46 g47) (x_pm_3 _ _ _ _ _ _ _ _ _ _) ?_
      refine x_iconst C (nI 0) dX12_isSymbol_91 rfl ?_
      refine x_istore_n C (i := 1) dX12_isSymbol_92 rfl (by decide) ?_
      have lp93 : ∀ (m93 : Nat) (k : Nat) (a : Nat) (su : Nat) (fi : Nat) (be : Nat) (Gt : List (List Int32)) (Gs : List (List Int32)) (g46 : Nat → Int32) (g47 : Nat → Int32), (5 - k) = m93 → (k ≤ 4) → (a ≤ t) → (Gs.length = Gt.length) → (Gt.length ≤ 4 + k) → (su ≤ k) → (fi ≤ 6) → (be < 3) → (x_syl b t (5 - k) k a su fi be Gt Gs = x_sym b t) → ∀ L : x_Lo, L.1 0 = some (.ref 38) → L.1 1 = some (.int (nI k)) → x_W xp l xe (x_rm 4) xs xm xg xb xt xc 2 Y 0 0 (MQ xb (x_Q Y K) xg xs 0 0 (x_A Y)) 93 L [] (x_pm σ a su fi be Gt Gs g46 g47) := by
        intro m93
        induction m93 using Nat.strongRecOn with
        | _ m93 ih93 =>
          intro k a su fi be Gt Gs g46 g47 hm93 hk4 hat hG hGk hsu hfi hbe hR L xl0 xl1
          refine x_iload_n C (i := 1) dX12_isSymbol_93 rfl xl1 ?_
          refine x_iconst C (nI 5) dX12_isSymbol_94 rfl ?_
          refine x_icmp_geN C 167 dX12_isSymbol_95 (by decide) (by omega) (by omega) (fun c95 => ?_) (fun c95 => ?_)
          · skip
            have c95' := Nat.not_lt.mpr c95
            exfalso; omega
          · skip
            have c95' := Nat.not_le.mpr c95
            refine x_iload_n C (i := 1) dX12_isSymbol_98 rfl xl1 ?_
            refine x_if_leN C 115 dX12_isSymbol_99 (by decide) (by omega) (fun c99 => ?_) (fun c99 => ?_)
            · skip
              refine x_aload_n C (i := 0) dX12_isSymbol_115 rfl xl0 ?_
              have hM := c_X12_look l Y (x_pm σ a su fi be Gt Gs g46 g47) b t a hb ht rfl ht8 (by omega)
              refine x_callV C (as := []) (st := []) (hM) kb_X12_look kv_X12_110 dX12_isSymbol_116 rfl rfl (Nat.le_of_ble_eq_true rfl) ⟨by decide, by decide⟩ ⟨by decide, by decide⟩ ko_38 ?_
              clear hM
              intro r9 τ9 h9
              obtain ⟨rfl, h8⟩ := h9
              rw [h8]
              clear h8 τ9
              refine x_bipush C (nI 32) dX12_isSymbol_119 rfl ?_
              refine x_icmp_eq C 126 dX12_isSymbol_121 (by decide) (fun c121 => ?_) (fun c121 => ?_)
              · skip
                refine x_aload_n C (i := 0) dX12_isSymbol_126 rfl xl0 ?_
                have hbl := x_blank_le b t a hat
                have hM := c_X12_blanks_K l Y (x_pm σ a su fi be Gt Gs g46 g47) b t a hb ht rfl ht8 hat (fun r τ => r = none ∧ τ = x_pm σ (x_blank b t a) su fi be Gt Gs g46 g47) (by rintro _ _ ⟨rfl, rfl⟩; exact ⟨rfl, (x_pm_3 _ _ _ _ _ _ _ _ _ _)⟩)
                refine x_callV C (as := []) (st := []) (hM) kb_X12_blanks kv_X12_159 dX12_isSymbol_127 rfl rfl (Nat.le_of_ble_eq_true rfl) ⟨by decide, by decide⟩ ⟨by decide, by decide⟩ ko_38 ?_
                clear hM
                rintro _ _ ⟨rfl, rfl⟩
                refine x_iload_n C (i := 1) dX12_isSymbol_130 rfl xl1 ?_
                refine x_if_leN C 147 dX12_isSymbol_131 (by decide) (by omega) (fun c131 => ?_) (fun c131 => ?_)
                · skip
                  refine x_iload_n C (i := 1) dX12_isSymbol_147 rfl xl1 ?_
                  refine x_iconst C (nI 4) dX12_isSymbol_148 rfl ?_
                  refine x_icmp_eqN C 159 dX12_isSymbol_149 (by decide) (by omega) (by omega) (fun c149 => ?_) (fun c149 => ?_)
                  · skip
                    refine x_iconst C (nI 0) dX12_isSymbol_159 rfl ?_
                    refine x_zret C xr xk dX12_isSymbol_160 rfl ?_
                    have hE : x_sym b t = (false, x_blank b t a, Gt, Gs) := by rw [← hR, show 5 - k = (4 - k) + 1 by omega]; unfold x_syl; rw [if_neg (by omega), if_neg (fun z => z c121), if_neg (by omega), if_pos (by omega)]
                    exact hK _ _ (by rw [hE]; exact ⟨_, _, _, _, _, rfl, rfl⟩)
                  · skip
                    refine x_aload_n C (i := 0) dX12_isSymbol_152 rfl xl0 ?_
                    have hM := c_X12_matrix l Y σ (x_blank b t a) su fi be Gt Gs g46 g47 b t hb ht ht8 hbl.2 hG (by omega) (by omega) (by omega) (by omega)
                    refine x_callV C (as := []) (st := []) (hM) kb_X12_matrix kv_X12_165 dX12_isSymbol_153 rfl rfl (Nat.le_of_ble_eq_true rfl) ⟨by decide, by decide⟩ ⟨by decide, by decide⟩ ko_38 ?_
                    clear hM
                    rintro _ _ (⟨hmk, rfl, rfl⟩ | ⟨hmk, rfl, rfl⟩)
                    · skip
                      refine x_if_neZ C 161 dX12_isSymbol_156 (by decide) (fun c156 => ?_) (fun c156 => absurd c156 (by decide))
                      refine x_iincN C (i := 1) (b := 1) dX12_isSymbol_161 xl1 rfl (by decide) ?_
                      refine x_goto C 93 dX12_isSymbol_164 (by decide) ?_
                      exact ih93 _ (by omega) (k + 1) ((x_msf b t (x_blank b t a) su fi).1) (if 1 < x_mn b t (x_blank b t a) then su + 1 else su) (if 1 < x_mn b t (x_blank b t a) ∧ su = 0 then x_mn b t (x_blank b t a) else fi) (if 1 < x_mn b t (x_blank b t a) ∧ x_man b t (x_blank b t a) su fi < 3 then x_man b t (x_blank b t a) su fi else be) (Gt ++ [x_mrot b t (x_blank b t a) su fi be]) (Gs ++ [[nI (x_msf b t (x_blank b t a) su fi).2.1, nI (x_msf b t (x_blank b t a) su fi).2.2.1, nI (x_msf b t (x_blank b t a) su fi).2.2.2]]) (x_ml (x_mrot b t (x_blank b t a) su fi be) g46) (x_ml [nI (x_msf b t (x_blank b t a) su fi).2.1, nI (x_msf b t (x_blank b t a) su fi).2.2.1, nI (x_msf b t (x_blank b t a) su fi).2.2.2] g47) rfl (by omega) (x_msf_le hmk) (by rw [List.length_append, List.length_append, hG]; rfl) (by rw [List.length_append]; show Gt.length + 1 ≤ _; omega) (by split <;> omega) (by have h7 := x_ord_le (x_lookv b t (x_ma1 b t (x_blank b t a))); unfold x_mn; split <;> omega) (by split <;> omega) (by rw [show 5 - (k + 1) = 4 - k by omega, ← hR, show 5 - k = (4 - k) + 1 by omega]; conv => rhs; unfold x_syl; rw [if_neg (by omega), if_neg (fun z => z c121), if_neg (by omega), if_neg c149, if_pos hmk]) _ xl0 rfl
                    · skip
                      refine x_if_neZ C 161 dX12_isSymbol_156 (by decide) (fun c156 => absurd c156 (by decide)) (fun c156 => ?_)
                      refine x_iconst C (nI 0) dX12_isSymbol_159 rfl ?_
                      refine x_zret C xr xk dX12_isSymbol_160 rfl ?_
                      have hE : x_sym b t = (false, x_mfl b t (x_blank b t a), Gt, Gs) := by rw [← hR, show 5 - k = (4 - k) + 1 by omega]; unfold x_syl; rw [if_neg (by omega), if_neg (fun z => z c121), if_neg (by omega), if_neg (by omega), if_neg (by rw [hmk]; decide)]
                      exact hK _ _ (by rw [hE]; exact ⟨_, _, _, _, _, rfl, rfl⟩)
                · skip
                  refine x_aload_n C (i := 0) dX12_isSymbol_134 rfl xl0 ?_
                  refine x_getI C fi_38_3 kf_X12_100 dX12_isSymbol_135 ?_
                  refine x_topI (y := nI (x_blank b t a)) rfl ?_
                  refine x_aload_n C (i := 0) dX12_isSymbol_138 rfl xl0 ?_
                  refine x_getI C fi_38_2 kf_X12_89 dX12_isSymbol_139 ?_
                  refine x_topI (y := nI t) ht ?_
                  refine x_icmp_neN C 147 dX12_isSymbol_142 (by decide) (by omega) (by omega) (fun c142 => ?_) (fun c142 => ?_)
                  · skip
                    refine x_iload_n C (i := 1) dX12_isSymbol_147 rfl xl1 ?_
                    refine x_iconst C (nI 4) dX12_isSymbol_148 rfl ?_
                    refine x_icmp_eqN C 159 dX12_isSymbol_149 (by decide) (by omega) (by omega) (fun c149 => ?_) (fun c149 => ?_)
                    · skip
                      refine x_iconst C (nI 0) dX12_isSymbol_159 rfl ?_
                      refine x_zret C xr xk dX12_isSymbol_160 rfl ?_
                      have hE : x_sym b t = (false, x_blank b t a, Gt, Gs) := by rw [← hR, show 5 - k = (4 - k) + 1 by omega]; unfold x_syl; rw [if_neg (by omega), if_neg (fun z => z c121), if_neg (by omega), if_pos (by omega)]
                      exact hK _ _ (by rw [hE]; exact ⟨_, _, _, _, _, rfl, rfl⟩)
                    · skip
                      refine x_aload_n C (i := 0) dX12_isSymbol_152 rfl xl0 ?_
                      have hM := c_X12_matrix l Y σ (x_blank b t a) su fi be Gt Gs g46 g47 b t hb ht ht8 hbl.2 hG (by omega) (by omega) (by omega) (by omega)
                      refine x_callV C (as := []) (st := []) (hM) kb_X12_matrix kv_X12_165 dX12_isSymbol_153 rfl rfl (Nat.le_of_ble_eq_true rfl) ⟨by decide, by decide⟩ ⟨by decide, by decide⟩ ko_38 ?_
                      clear hM
                      rintro _ _ (⟨hmk, rfl, rfl⟩ | ⟨hmk, rfl, rfl⟩)
                      · skip
                        refine x_if_neZ C 161 dX12_isSymbol_156 (by decide) (fun c156 => ?_) (fun c156 => absurd c156 (by decide))
                        refine x_iincN C (i := 1) (b := 1) dX12_isSymbol_161 xl1 rfl (by decide) ?_
                        refine x_goto C 93 dX12_isSymbol_164 (by decide) ?_
                        exact ih93 _ (by omega) (k + 1) ((x_msf b t (x_blank b t a) su fi).1) (if 1 < x_mn b t (x_blank b t a) then su + 1 else su) (if 1 < x_mn b t (x_blank b t a) ∧ su = 0 then x_mn b t (x_blank b t a) else fi) (if 1 < x_mn b t (x_blank b t a) ∧ x_man b t (x_blank b t a) su fi < 3 then x_man b t (x_blank b t a) su fi else be) (Gt ++ [x_mrot b t (x_blank b t a) su fi be]) (Gs ++ [[nI (x_msf b t (x_blank b t a) su fi).2.1, nI (x_msf b t (x_blank b t a) su fi).2.2.1, nI (x_msf b t (x_blank b t a) su fi).2.2.2]]) (x_ml (x_mrot b t (x_blank b t a) su fi be) g46) (x_ml [nI (x_msf b t (x_blank b t a) su fi).2.1, nI (x_msf b t (x_blank b t a) su fi).2.2.1, nI (x_msf b t (x_blank b t a) su fi).2.2.2] g47) rfl (by omega) (x_msf_le hmk) (by rw [List.length_append, List.length_append, hG]; rfl) (by rw [List.length_append]; show Gt.length + 1 ≤ _; omega) (by split <;> omega) (by have h7 := x_ord_le (x_lookv b t (x_ma1 b t (x_blank b t a))); unfold x_mn; split <;> omega) (by split <;> omega) (by rw [show 5 - (k + 1) = 4 - k by omega, ← hR, show 5 - k = (4 - k) + 1 by omega]; conv => rhs; unfold x_syl; rw [if_neg (by omega), if_neg (fun z => z c121), if_neg (by omega), if_neg c149, if_pos hmk]) _ xl0 rfl
                      · skip
                        refine x_if_neZ C 161 dX12_isSymbol_156 (by decide) (fun c156 => absurd c156 (by decide)) (fun c156 => ?_)
                        refine x_iconst C (nI 0) dX12_isSymbol_159 rfl ?_
                        refine x_zret C xr xk dX12_isSymbol_160 rfl ?_
                        have hE : x_sym b t = (false, x_mfl b t (x_blank b t a), Gt, Gs) := by rw [← hR, show 5 - k = (4 - k) + 1 by omega]; unfold x_syl; rw [if_neg (by omega), if_neg (fun z => z c121), if_neg (by omega), if_neg (by omega), if_neg (by rw [hmk]; decide)]
                        exact hK _ _ (by rw [hE]; exact ⟨_, _, _, _, _, rfl, rfl⟩)
                  · skip
                    refine x_iconst C (nI 1) dX12_isSymbol_145 rfl ?_
                    refine x_zret C xr xk dX12_isSymbol_146 rfl ?_
                    have hE : x_sym b t = (true, x_blank b t a, Gt, Gs) := by rw [← hR, show 5 - k = (4 - k) + 1 by omega]; unfold x_syl; rw [if_neg (by omega), if_neg (fun z => z c121), if_pos (by omega)]
                    exact hK _ _ (by rw [hE]; exact ⟨_, _, _, _, _, rfl, rfl⟩)
              · skip
                refine x_iconst C (nI 0) dX12_isSymbol_124 rfl ?_
                refine x_zret C xr xk dX12_isSymbol_125 rfl ?_
                have hE : x_sym b t = (false, a, Gt, Gs) := by rw [← hR, show 5 - k = (4 - k) + 1 by omega]; unfold x_syl; rw [if_neg (by omega), if_pos c121]
                exact hK _ _ (by rw [hE]; exact ⟨_, _, _, _, _, rfl, rfl⟩)
            · skip
              refine x_aload_n C (i := 0) dX12_isSymbol_102 rfl xl0 ?_
              refine x_getI C fi_38_3 kf_X12_100 dX12_isSymbol_103 ?_
              refine x_topI (y := nI a) rfl ?_
              refine x_aload_n C (i := 0) dX12_isSymbol_106 rfl xl0 ?_
              refine x_getI C fi_38_2 kf_X12_89 dX12_isSymbol_107 ?_
              refine x_topI (y := nI t) ht ?_
              refine x_icmp_neN C 115 dX12_isSymbol_110 (by decide) (by omega) (by omega) (fun c110 => ?_) (fun c110 => ?_)
              · skip
                refine x_aload_n C (i := 0) dX12_isSymbol_115 rfl xl0 ?_
                have hM := c_X12_look l Y (x_pm σ a su fi be Gt Gs g46 g47) b t a hb ht rfl ht8 (by omega)
                refine x_callV C (as := []) (st := []) (hM) kb_X12_look kv_X12_110 dX12_isSymbol_116 rfl rfl (Nat.le_of_ble_eq_true rfl) ⟨by decide, by decide⟩ ⟨by decide, by decide⟩ ko_38 ?_
                clear hM
                intro r9 τ9 h9
                obtain ⟨rfl, h8⟩ := h9
                rw [h8]
                clear h8 τ9
                refine x_bipush C (nI 32) dX12_isSymbol_119 rfl ?_
                refine x_icmp_eq C 126 dX12_isSymbol_121 (by decide) (fun c121 => ?_) (fun c121 => ?_)
                · skip
                  refine x_aload_n C (i := 0) dX12_isSymbol_126 rfl xl0 ?_
                  have hbl := x_blank_le b t a hat
                  have hM := c_X12_blanks_K l Y (x_pm σ a su fi be Gt Gs g46 g47) b t a hb ht rfl ht8 hat (fun r τ => r = none ∧ τ = x_pm σ (x_blank b t a) su fi be Gt Gs g46 g47) (by rintro _ _ ⟨rfl, rfl⟩; exact ⟨rfl, (x_pm_3 _ _ _ _ _ _ _ _ _ _)⟩)
                  refine x_callV C (as := []) (st := []) (hM) kb_X12_blanks kv_X12_159 dX12_isSymbol_127 rfl rfl (Nat.le_of_ble_eq_true rfl) ⟨by decide, by decide⟩ ⟨by decide, by decide⟩ ko_38 ?_
                  clear hM
                  rintro _ _ ⟨rfl, rfl⟩
                  refine x_iload_n C (i := 1) dX12_isSymbol_130 rfl xl1 ?_
                  refine x_if_leN C 147 dX12_isSymbol_131 (by decide) (by omega) (fun c131 => ?_) (fun c131 => ?_)
                  · skip
                    refine x_iload_n C (i := 1) dX12_isSymbol_147 rfl xl1 ?_
                    refine x_iconst C (nI 4) dX12_isSymbol_148 rfl ?_
                    refine x_icmp_eqN C 159 dX12_isSymbol_149 (by decide) (by omega) (by omega) (fun c149 => ?_) (fun c149 => ?_)
                    · skip
                      refine x_iconst C (nI 0) dX12_isSymbol_159 rfl ?_
                      refine x_zret C xr xk dX12_isSymbol_160 rfl ?_
                      have hE : x_sym b t = (false, x_blank b t a, Gt, Gs) := by rw [← hR, show 5 - k = (4 - k) + 1 by omega]; unfold x_syl; rw [if_neg (by omega), if_neg (fun z => z c121), if_neg (by omega), if_pos (by omega)]
                      exact hK _ _ (by rw [hE]; exact ⟨_, _, _, _, _, rfl, rfl⟩)
                    · skip
                      refine x_aload_n C (i := 0) dX12_isSymbol_152 rfl xl0 ?_
                      have hM := c_X12_matrix l Y σ (x_blank b t a) su fi be Gt Gs g46 g47 b t hb ht ht8 hbl.2 hG (by omega) (by omega) (by omega) (by omega)
                      refine x_callV C (as := []) (st := []) (hM) kb_X12_matrix kv_X12_165 dX12_isSymbol_153 rfl rfl (Nat.le_of_ble_eq_true rfl) ⟨by decide, by decide⟩ ⟨by decide, by decide⟩ ko_38 ?_
                      clear hM
                      rintro _ _ (⟨hmk, rfl, rfl⟩ | ⟨hmk, rfl, rfl⟩)
                      · skip
                        refine x_if_neZ C 161 dX12_isSymbol_156 (by decide) (fun c156 => ?_) (fun c156 => absurd c156 (by decide))
                        refine x_iincN C (i := 1) (b := 1) dX12_isSymbol_161 xl1 rfl (by decide) ?_
                        refine x_goto C 93 dX12_isSymbol_164 (by decide) ?_
                        exact ih93 _ (by omega) (k + 1) ((x_msf b t (x_blank b t a) su fi).1) (if 1 < x_mn b t (x_blank b t a) then su + 1 else su) (if 1 < x_mn b t (x_blank b t a) ∧ su = 0 then x_mn b t (x_blank b t a) else fi) (if 1 < x_mn b t (x_blank b t a) ∧ x_man b t (x_blank b t a) su fi < 3 then x_man b t (x_blank b t a) su fi else be) (Gt ++ [x_mrot b t (x_blank b t a) su fi be]) (Gs ++ [[nI (x_msf b t (x_blank b t a) su fi).2.1, nI (x_msf b t (x_blank b t a) su fi).2.2.1, nI (x_msf b t (x_blank b t a) su fi).2.2.2]]) (x_ml (x_mrot b t (x_blank b t a) su fi be) g46) (x_ml [nI (x_msf b t (x_blank b t a) su fi).2.1, nI (x_msf b t (x_blank b t a) su fi).2.2.1, nI (x_msf b t (x_blank b t a) su fi).2.2.2] g47) rfl (by omega) (x_msf_le hmk) (by rw [List.length_append, List.length_append, hG]; rfl) (by rw [List.length_append]; show Gt.length + 1 ≤ _; omega) (by split <;> omega) (by have h7 := x_ord_le (x_lookv b t (x_ma1 b t (x_blank b t a))); unfold x_mn; split <;> omega) (by split <;> omega) (by rw [show 5 - (k + 1) = 4 - k by omega, ← hR, show 5 - k = (4 - k) + 1 by omega]; conv => rhs; unfold x_syl; rw [if_neg (by omega), if_neg (fun z => z c121), if_neg (by omega), if_neg c149, if_pos hmk]) _ xl0 rfl
                      · skip
                        refine x_if_neZ C 161 dX12_isSymbol_156 (by decide) (fun c156 => absurd c156 (by decide)) (fun c156 => ?_)
                        refine x_iconst C (nI 0) dX12_isSymbol_159 rfl ?_
                        refine x_zret C xr xk dX12_isSymbol_160 rfl ?_
                        have hE : x_sym b t = (false, x_mfl b t (x_blank b t a), Gt, Gs) := by rw [← hR, show 5 - k = (4 - k) + 1 by omega]; unfold x_syl; rw [if_neg (by omega), if_neg (fun z => z c121), if_neg (by omega), if_neg (by omega), if_neg (by rw [hmk]; decide)]
                        exact hK _ _ (by rw [hE]; exact ⟨_, _, _, _, _, rfl, rfl⟩)
                  · skip
                    refine x_aload_n C (i := 0) dX12_isSymbol_134 rfl xl0 ?_
                    refine x_getI C fi_38_3 kf_X12_100 dX12_isSymbol_135 ?_
                    refine x_topI (y := nI (x_blank b t a)) rfl ?_
                    refine x_aload_n C (i := 0) dX12_isSymbol_138 rfl xl0 ?_
                    refine x_getI C fi_38_2 kf_X12_89 dX12_isSymbol_139 ?_
                    refine x_topI (y := nI t) ht ?_
                    refine x_icmp_neN C 147 dX12_isSymbol_142 (by decide) (by omega) (by omega) (fun c142 => ?_) (fun c142 => ?_)
                    · skip
                      refine x_iload_n C (i := 1) dX12_isSymbol_147 rfl xl1 ?_
                      refine x_iconst C (nI 4) dX12_isSymbol_148 rfl ?_
                      refine x_icmp_eqN C 159 dX12_isSymbol_149 (by decide) (by omega) (by omega) (fun c149 => ?_) (fun c149 => ?_)
                      · skip
                        refine x_iconst C (nI 0) dX12_isSymbol_159 rfl ?_
                        refine x_zret C xr xk dX12_isSymbol_160 rfl ?_
                        have hE : x_sym b t = (false, x_blank b t a, Gt, Gs) := by rw [← hR, show 5 - k = (4 - k) + 1 by omega]; unfold x_syl; rw [if_neg (by omega), if_neg (fun z => z c121), if_neg (by omega), if_pos (by omega)]
                        exact hK _ _ (by rw [hE]; exact ⟨_, _, _, _, _, rfl, rfl⟩)
                      · skip
                        refine x_aload_n C (i := 0) dX12_isSymbol_152 rfl xl0 ?_
                        have hM := c_X12_matrix l Y σ (x_blank b t a) su fi be Gt Gs g46 g47 b t hb ht ht8 hbl.2 hG (by omega) (by omega) (by omega) (by omega)
                        refine x_callV C (as := []) (st := []) (hM) kb_X12_matrix kv_X12_165 dX12_isSymbol_153 rfl rfl (Nat.le_of_ble_eq_true rfl) ⟨by decide, by decide⟩ ⟨by decide, by decide⟩ ko_38 ?_
                        clear hM
                        rintro _ _ (⟨hmk, rfl, rfl⟩ | ⟨hmk, rfl, rfl⟩)
                        · skip
                          refine x_if_neZ C 161 dX12_isSymbol_156 (by decide) (fun c156 => ?_) (fun c156 => absurd c156 (by decide))
                          refine x_iincN C (i := 1) (b := 1) dX12_isSymbol_161 xl1 rfl (by decide) ?_
                          refine x_goto C 93 dX12_isSymbol_164 (by decide) ?_
                          exact ih93 _ (by omega) (k + 1) ((x_msf b t (x_blank b t a) su fi).1) (if 1 < x_mn b t (x_blank b t a) then su + 1 else su) (if 1 < x_mn b t (x_blank b t a) ∧ su = 0 then x_mn b t (x_blank b t a) else fi) (if 1 < x_mn b t (x_blank b t a) ∧ x_man b t (x_blank b t a) su fi < 3 then x_man b t (x_blank b t a) su fi else be) (Gt ++ [x_mrot b t (x_blank b t a) su fi be]) (Gs ++ [[nI (x_msf b t (x_blank b t a) su fi).2.1, nI (x_msf b t (x_blank b t a) su fi).2.2.1, nI (x_msf b t (x_blank b t a) su fi).2.2.2]]) (x_ml (x_mrot b t (x_blank b t a) su fi be) g46) (x_ml [nI (x_msf b t (x_blank b t a) su fi).2.1, nI (x_msf b t (x_blank b t a) su fi).2.2.1, nI (x_msf b t (x_blank b t a) su fi).2.2.2] g47) rfl (by omega) (x_msf_le hmk) (by rw [List.length_append, List.length_append, hG]; rfl) (by rw [List.length_append]; show Gt.length + 1 ≤ _; omega) (by split <;> omega) (by have h7 := x_ord_le (x_lookv b t (x_ma1 b t (x_blank b t a))); unfold x_mn; split <;> omega) (by split <;> omega) (by rw [show 5 - (k + 1) = 4 - k by omega, ← hR, show 5 - k = (4 - k) + 1 by omega]; conv => rhs; unfold x_syl; rw [if_neg (by omega), if_neg (fun z => z c121), if_neg (by omega), if_neg c149, if_pos hmk]) _ xl0 rfl
                        · skip
                          refine x_if_neZ C 161 dX12_isSymbol_156 (by decide) (fun c156 => absurd c156 (by decide)) (fun c156 => ?_)
                          refine x_iconst C (nI 0) dX12_isSymbol_159 rfl ?_
                          refine x_zret C xr xk dX12_isSymbol_160 rfl ?_
                          have hE : x_sym b t = (false, x_mfl b t (x_blank b t a), Gt, Gs) := by rw [← hR, show 5 - k = (4 - k) + 1 by omega]; unfold x_syl; rw [if_neg (by omega), if_neg (fun z => z c121), if_neg (by omega), if_neg (by omega), if_neg (by rw [hmk]; decide)]
                          exact hK _ _ (by rw [hE]; exact ⟨_, _, _, _, _, rfl, rfl⟩)
                    · skip
                      refine x_iconst C (nI 1) dX12_isSymbol_145 rfl ?_
                      refine x_zret C xr xk dX12_isSymbol_146 rfl ?_
                      have hE : x_sym b t = (true, x_blank b t a, Gt, Gs) := by rw [← hR, show 5 - k = (4 - k) + 1 by omega]; unfold x_syl; rw [if_neg (by omega), if_neg (fun z => z c121), if_pos (by omega)]
                      exact hK _ _ (by rw [hE]; exact ⟨_, _, _, _, _, rfl, rfl⟩)
                · skip
                  refine x_iconst C (nI 0) dX12_isSymbol_124 rfl ?_
                  refine x_zret C xr xk dX12_isSymbol_125 rfl ?_
                  have hE : x_sym b t = (false, a, Gt, Gs) := by rw [← hR, show 5 - k = (4 - k) + 1 by omega]; unfold x_syl; rw [if_neg (by omega), if_pos c121]
                  exact hK _ _ (by rw [hE]; exact ⟨_, _, _, _, _, rfl, rfl⟩)
              · skip
                refine x_iconst C (nI 1) dX12_isSymbol_113 rfl ?_
                refine x_zret C xr xk dX12_isSymbol_114 rfl ?_
                have hE : x_sym b t = (true, a, Gt, Gs) := by rw [← hR, show 5 - k = (4 - k) + 1 by omega]; unfold x_syl; rw [if_pos (by omega)]
                exact hK _ _ (by rw [hE]; exact ⟨_, _, _, _, _, rfl, rfl⟩)
      exact lp93 _ 0 (a1 + 1) 0 0 2 (G0 ++ Cs.map (fun _ => x_one)) (S0 ++ Cs) g46 g47 rfl (by decide) (by have := x_cen_lt hce; omega) (by rw [List.length_append, List.length_append, List.length_map, hL0]) (by rw [List.length_append, List.length_map]; have := x_cen_len hce; omega) (Nat.le_refl 0) (by decide) (by decide) (by unfold x_sym; rw [← ha1, hce, ← hG0]) _ xl0 rfl
  refine x_icmp_ne C 72 dX12_isSymbol_35 (by decide) (fun c35 => ?_) (fun c35 => ?_)
  · skip
    exact lp72 (x_blank b t 0) ([]) ([]) (σ.1 46) (σ.1 47) (by unfold x_sa0 x_ma1; rw [if_neg c35]) (by unfold x_sg0; rw [if_neg c35]) hb0.2 rfl (by decide) _ rfl
  · skip
    refine x_aload_n C (i := 0) dX12_isSymbol_38 rfl rfl ?_
    refine x_iconst C (-1) dX12_isSymbol_39 rfl ?_
    refine x_iconst C (nI 0) dX12_isSymbol_40 rfl ?_
    refine x_iconst C (nI 0) dX12_isSymbol_41 rfl ?_
    refine x_iconst C (nI 0) dX12_isSymbol_42 rfl ?_
    refine x_iconst C (-1) dX12_isSymbol_43 rfl ?_
    refine x_iconst C (nI 0) dX12_isSymbol_44 rfl ?_
    refine x_iconst C (nI 0) dX12_isSymbol_45 rfl ?_
    refine x_iconst C (nI 0) dX12_isSymbol_46 rfl ?_
    refine x_iconst C (-1) dX12_isSymbol_47 rfl ?_
    have hM := c_X12_set_K l Y (x_pm σ (x_blank b t 0) 0 0 2 ([]) ([]) (σ.1 46) (σ.1 47)) (-1) (nI 0) (nI 0) (nI 0) (-1) (nI 0) (nI 0) (nI 0) (-1) (fun r τ => r = none ∧ τ = x_pm σ (x_blank b t 0) 0 0 2 ([]) ([]) (x_ml [(-1), nI 0, nI 0, nI 0, (-1), nI 0, nI 0, nI 0, (-1)] (σ.1 46)) (σ.1 47)) (by rintro _ _ ⟨rfl, rfl⟩; exact ⟨rfl, x_pm_46 _ _ _ _ _ _ _ _ _ _⟩)
    refine x_callV C (as := [.int (-1), .int (nI 0), .int (nI 0), .int (nI 0), .int (-1), .int (nI 0), .int (nI 0), .int (nI 0), .int (-1)]) (st := []) (hM) kb_X12_set kv_X12_106 dX12_isSymbol_48 rfl rfl (Nat.le_of_ble_eq_true rfl) ⟨by decide, by decide⟩ ⟨by decide, by decide⟩ ko_38 ?_
    clear hM
    rintro _ _ ⟨rfl, rfl⟩
    refine x_aload_n C (i := 0) dX12_isSymbol_51 rfl rfl ?_
    refine x_iconst C (nI 0) dX12_isSymbol_52 rfl ?_
    refine x_iconst C (nI 0) dX12_isSymbol_53 rfl ?_
    refine x_iconst C (nI 0) dX12_isSymbol_54 rfl ?_
    have hM := c_X12_setShift_K l Y (x_pm σ (x_blank b t 0) 0 0 2 ([]) ([]) (x_ml [(-1), nI 0, nI 0, nI 0, (-1), nI 0, nI 0, nI 0, (-1)] (σ.1 46)) (σ.1 47)) (nI 0) (nI 0) (nI 0) (fun r τ => r = none ∧ τ = x_pm σ (x_blank b t 0) 0 0 2 ([]) ([]) (x_ml [(-1), nI 0, nI 0, nI 0, (-1), nI 0, nI 0, nI 0, (-1)] (σ.1 46)) (x_ml [nI 0, nI 0, nI 0] (σ.1 47))) (by rintro _ _ ⟨rfl, rfl⟩; exact ⟨rfl, x_pm_47 _ _ _ _ _ _ _ _ _ _⟩)
    refine x_callV C (as := [.int (nI 0), .int (nI 0), .int (nI 0)]) (st := []) (hM) kb_X12_setShift kv_X12_127 dX12_isSymbol_55 rfl rfl (Nat.le_of_ble_eq_true rfl) ⟨by decide, by decide⟩ ⟨by decide, by decide⟩ ko_38 ?_
    clear hM
    rintro _ _ ⟨rfl, rfl⟩
    refine x_aload_n C (i := 0) dX12_isSymbol_58 rfl rfl ?_
    have hM := c_X12_generate_K l Y (x_pm σ (x_blank b t 0) 0 0 2 ([]) ([]) (x_ml [(-1), nI 0, nI 0, nI 0, (-1), nI 0, nI 0, nI 0, (-1)] (σ.1 46)) (x_ml [nI 0, nI 0, nI 0] (σ.1 47))) (List.length ([])) rfl (by decide) (fun r τ => r = none ∧ τ = x_pm σ (x_blank b t 0) 0 0 2 ([] ++ [[(-1), nI 0, nI 0, nI 0, (-1), nI 0, nI 0, nI 0, (-1)]]) ([] ++ [[nI 0, nI 0, nI 0]]) (x_ml [(-1), nI 0, nI 0, nI 0, (-1), nI 0, nI 0, nI 0, (-1)] (σ.1 46)) (x_ml [nI 0, nI 0, nI 0] (σ.1 47))) (by rintro _ _ ⟨rfl, rfl⟩; exact ⟨rfl, x_pm_gen σ (x_blank b t 0) 0 0 2 ([]) ([]) [(-1), nI 0, nI 0, nI 0, (-1), nI 0, nI 0, nI 0, (-1)] [nI 0, nI 0, nI 0] (σ.1 46) (σ.1 47) rfl rfl rfl⟩)
    refine x_callV C (as := []) (st := []) (hM) kb_X12_generate kv_X12_153 dX12_isSymbol_59 rfl rfl (Nat.le_of_ble_eq_true rfl) ⟨by decide, by decide⟩ ⟨by decide, by decide⟩ ko_38 ?_
    clear hM
    rintro _ _ ⟨rfl, rfl⟩
    refine x_aload_n C (i := 0) dX12_isSymbol_62 rfl rfl ?_
    refine x_dup C dX12_isSymbol_63 rfl ?_
    refine x_getI C fi_38_3 kf_X12_100 dX12_isSymbol_64 ?_
    refine x_topI (y := nI (x_blank b t 0)) rfl ?_
    refine x_iconst C (nI 1) dX12_isSymbol_67 rfl ?_
    refine x_iaddN C dX12_isSymbol_68 ?_
    refine x_putN C fi_38_3 kf_X12_100 rfl rfl dX12_isSymbol_69 ?_
    refine x_sig (σ' := x_pm σ ((x_blank b t 0) + 1) 0 0 2 ([] ++ [[(-1), nI 0, nI 0, nI 0, (-1), nI 0, nI 0, nI 0, (-1)]]) ([] ++ [[nI 0, nI 0, nI 0]]) (x_ml [(-1), nI 0, nI 0, nI 0, (-1), nI 0, nI 0, nI 0, (-1)] (σ.1 46)) (x_ml [nI 0, nI 0, nI 0] (σ.1 47))) (x_pm_3 _ _ _ _ _ _ _ _ _ _) ?_
    exact lp72 ((x_blank b t 0) + 1) ([] ++ [[(-1), nI 0, nI 0, nI 0, (-1), nI 0, nI 0, nI 0, (-1)]]) ([] ++ [[nI 0, nI 0, nI 0]]) (x_ml [(-1), nI 0, nI 0, nI 0, (-1), nI 0, nI 0, nI 0, (-1)] (σ.1 46)) (x_ml [nI 0, nI 0, nI 0] (σ.1 47)) (by unfold x_sa0 x_ma1; rw [if_pos c35]) (by unfold x_sg0; rw [if_pos c35]; rfl) (x_lookv_lt c35 (by decide)) rfl (by decide) _ rfl
theorem c_X12_isSymbol (l : Launch) (Y : x_Y) (σ : x_S) (b : Nat → Int32) (t : Nat) (hb : σ.1 39 = b) (ht : σ.1 38 2 = nI t) (ht8 : t ≤ 8000) : x_M l yX12_isSymbol cX12_isSymbol 2 (some .boolean) 4 Y [.ref 38] σ (fun r τ => ∃ su fi be f46 f47, r = some (.int (x_z (x_sym b t).1)) ∧ τ = x_pm σ (x_sym b t).2.1 su fi be (x_sym b t).2.2.1 (x_sym b t).2.2.2 f46 f47) := c_X12_isSymbol_K l Y σ b t hb ht ht8 _ (fun _ _ h => h)
