set_option maxRecDepth 100000 in
set_option maxHeartbeats 200000 in
theorem c_X12_rotate_K (l : Launch) (Y : x_Y) (σ : x_S) (n ax be : Nat) (hbe : σ.1 38 17 = nI be) (hn : 1 < n) (hn6 : n ≤ 6) (hax : ax ≤ 5) (hb3 : be < 3) (K : Option Value → x_S → Prop) (hK : ∀ (r : Option Value) (τ : x_S), (r = none ∧ τ = x_ui σ 46 (x_ml (x_rotl n ax be) (σ.1 46))) → K r τ) : x_M l yX12_rotate cX12_rotate 3 none 2 Y [.ref 38, .int (nI n), .int (nI ax)] σ K := by
  refine x_start (by decide) (Nat.le_of_ble_eq_true rfl) ?_
  intro xp xe xs xm xg xb xt xc C xr xk
  refine x_iload_n C (i := 1) dX12_rotate_0 rfl rfl ?_
  refine x_iconst C (nI 1) dX12_rotate_1 rfl ?_
  refine x_icmp_neN C 21 dX12_rotate_2 (by decide) (by omega) (by omega) (fun c2 => ?_) (fun c2 => ?_)
  · skip
    refine x_iload_n C (i := 2) dX12_rotate_21 rfl rfl ?_
    refine x_iconst C (nI 5) dX12_rotate_22 rfl ?_
    refine x_icmp_neN C 42 dX12_rotate_23 (by decide) (by omega) (by omega) (fun c23 => ?_) (fun c23 => ?_)
    · skip
      refine x_iload_n C (i := 2) dX12_rotate_42 rfl rfl ?_
      refine x_iconst C (nI 3) dX12_rotate_43 rfl ?_
      refine x_icmp_neN C 63 dX12_rotate_44 (by decide) (by omega) (by omega) (fun c44 => ?_) (fun c44 => ?_)
      · skip
        refine x_iload_n C (i := 2) dX12_rotate_63 rfl rfl ?_
        refine x_iconst C (nI 4) dX12_rotate_64 rfl ?_
        refine x_icmp_neN C 84 dX12_rotate_65 (by decide) (by omega) (by omega) (fun c65 => ?_) (fun c65 => ?_)
        · skip
          refine x_iload_n C (i := 1) dX12_rotate_84 rfl rfl ?_
          refine x_iconst C (nI 2) dX12_rotate_85 rfl ?_
          refine x_icmp_neN C 105 dX12_rotate_86 (by decide) (by omega) (by omega) (fun c86 => ?_) (fun c86 => ?_)
          · skip
            refine x_iload_n C (i := 1) dX12_rotate_105 rfl rfl ?_
            refine x_iconst C (nI 3) dX12_rotate_106 rfl ?_
            refine x_icmp_neN C 126 dX12_rotate_107 (by decide) (by omega) (by omega) (fun c107 => ?_) (fun c107 => ?_)
            · skip
              refine x_iload_n C (i := 1) dX12_rotate_126 rfl rfl ?_
              refine x_iconst C (nI 4) dX12_rotate_127 rfl ?_
              refine x_icmp_neN C 147 dX12_rotate_128 (by decide) (by omega) (by omega) (fun c128 => ?_) (fun c128 => ?_)
              · skip
                refine x_aload_n C (i := 0) dX12_rotate_147 rfl rfl ?_
                refine x_iconst C (nI 1) dX12_rotate_148 rfl ?_
                refine x_iconst C (-1) dX12_rotate_149 rfl ?_
                refine x_iconst C (nI 0) dX12_rotate_150 rfl ?_
                refine x_iconst C (nI 1) dX12_rotate_151 rfl ?_
                refine x_iconst C (nI 0) dX12_rotate_152 rfl ?_
                refine x_iconst C (nI 0) dX12_rotate_153 rfl ?_
                refine x_iconst C (nI 0) dX12_rotate_154 rfl ?_
                refine x_iconst C (nI 0) dX12_rotate_155 rfl ?_
                refine x_iconst C (nI 1) dX12_rotate_156 rfl ?_
                have hM := c_X12_set l Y σ (nI 1) (-1) (nI 0) (nI 1) (nI 0) (nI 0) (nI 0) (nI 0) (nI 1)
                refine x_callV C (as := [.int (nI 1), .int (-1), .int (nI 0), .int (nI 1), .int (nI 0), .int (nI 0), .int (nI 0), .int (nI 0), .int (nI 1)]) (st := []) (hM) kb_X12_set kv_X12_106 dX12_rotate_157 rfl rfl (Nat.le_of_ble_eq_true rfl) ⟨by decide, by decide⟩ ⟨by decide, by decide⟩ ko_38 ?_
                clear hM
                rintro _ _ ⟨rfl, rfl⟩
                refine x_iload_n C (i := 1) dX12_rotate_160 rfl rfl ?_
                refine x_iconst C (nI 1) dX12_rotate_161 rfl ?_
                refine x_icmp_leN C 178 dX12_rotate_162 (by decide) (by omega) (by omega) (fun c162 => ?_) (fun c162 => ?_)
                · skip
                  have c162' := Nat.not_lt.mpr c162
                  exfalso; omega
                · skip
                  have c162' := Nat.not_le.mpr c162
                  refine x_iload_n C (i := 2) dX12_rotate_165 rfl rfl ?_
                  refine x_iconst C (nI 3) dX12_rotate_166 rfl ?_
                  refine x_icmp_geN C 178 dX12_rotate_167 (by decide) (by omega) (by omega) (fun c167 => ?_) (fun c167 => ?_)
                  · skip
                    have c167' := Nat.not_lt.mpr c167
                    refine x_iload_n C (i := 2) dX12_rotate_178 rfl rfl ?_
                    refine x_iconst C (nI 3) dX12_rotate_179 rfl ?_
                    refine x_icmp_eqN C 188 dX12_rotate_180 (by decide) (by omega) (by omega) (fun c180 => ?_) (fun c180 => ?_)
                    · skip
                      refine x_aload_n C (i := 0) dX12_rotate_188 rfl rfl ?_
                      refine x_aload_n C (i := 0) dX12_rotate_189 rfl rfl ?_
                      refine x_getI C fi_38_17 kf_X12_124 dX12_rotate_190 ?_
                      refine x_topI (y := nI be) hbe ?_
                      have hM := c_X12_turnTo_K l Y (x_ui σ 46 (x_ml [nI 1, (-1), nI 0, nI 1, nI 0, nI 0, nI 0, nI 0, nI 1] (σ.1 46))) (nI 1) (-1) (nI 0) (nI 1) (nI 0) (nI 0) (nI 0) (nI 0) (nI 1) (σ.1 46) be rfl (by omega) (fun r τ => r = none ∧ τ = x_ui σ 46 (x_ml (x_tn ((be + 1) % 3) [nI 1, (-1), nI 0, nI 1, nI 0, nI 0, nI 0, nI 0, nI 1]) (σ.1 46))) (by rintro _ _ ⟨rfl, rfl⟩; exact ⟨rfl, x_ui_ui _ _ _ _⟩)
                      refine x_callV C (as := [.int (nI be)]) (st := []) (hM) kb_X12_turnTo kv_X12_120 dX12_rotate_193 rfl rfl (Nat.le_of_ble_eq_true rfl) ⟨by decide, by decide⟩ ⟨by decide, by decide⟩ ko_38 ?_
                      clear hM
                      rintro _ _ ⟨rfl, rfl⟩
                      refine x_vret C xr xk dX12_rotate_196 ?_
                      exact hK _ _ ⟨rfl, by first | (exfalso; omega) | (refine x_ui_congr σ 46 (congrArg (fun z => x_ml z (σ.1 46)) ?_); unfold x_rotl x_base; first | (simp [*]; done) | (subst_vars; simp [*]; done) | (subst_vars; rfl))⟩
                    · skip
                      refine x_iload_n C (i := 2) dX12_rotate_183 rfl rfl ?_
                      refine x_iconst C (nI 4) dX12_rotate_184 rfl ?_
                      refine x_icmp_neN C 196 dX12_rotate_185 (by decide) (by omega) (by omega) (fun c185 => ?_) (fun c185 => ?_)
                      · skip
                        refine x_vret C xr xk dX12_rotate_196 ?_
                        exact hK _ _ ⟨rfl, by first | (exfalso; omega) | (refine x_ui_congr σ 46 (congrArg (fun z => x_ml z (σ.1 46)) ?_); unfold x_rotl x_base; first | (simp [*]; done) | (subst_vars; simp [*]; done) | (subst_vars; rfl))⟩
                      · skip
                        refine x_aload_n C (i := 0) dX12_rotate_188 rfl rfl ?_
                        refine x_aload_n C (i := 0) dX12_rotate_189 rfl rfl ?_
                        refine x_getI C fi_38_17 kf_X12_124 dX12_rotate_190 ?_
                        refine x_topI (y := nI be) hbe ?_
                        have hM := c_X12_turnTo_K l Y (x_ui σ 46 (x_ml [nI 1, (-1), nI 0, nI 1, nI 0, nI 0, nI 0, nI 0, nI 1] (σ.1 46))) (nI 1) (-1) (nI 0) (nI 1) (nI 0) (nI 0) (nI 0) (nI 0) (nI 1) (σ.1 46) be rfl (by omega) (fun r τ => r = none ∧ τ = x_ui σ 46 (x_ml (x_tn ((be + 1) % 3) [nI 1, (-1), nI 0, nI 1, nI 0, nI 0, nI 0, nI 0, nI 1]) (σ.1 46))) (by rintro _ _ ⟨rfl, rfl⟩; exact ⟨rfl, x_ui_ui _ _ _ _⟩)
                        refine x_callV C (as := [.int (nI be)]) (st := []) (hM) kb_X12_turnTo kv_X12_120 dX12_rotate_193 rfl rfl (Nat.le_of_ble_eq_true rfl) ⟨by decide, by decide⟩ ⟨by decide, by decide⟩ ko_38 ?_
                        clear hM
                        rintro _ _ ⟨rfl, rfl⟩
                        refine x_vret C xr xk dX12_rotate_196 ?_
                        exact hK _ _ ⟨rfl, by first | (exfalso; omega) | (refine x_ui_congr σ 46 (congrArg (fun z => x_ml z (σ.1 46)) ?_); unfold x_rotl x_base; first | (simp [*]; done) | (subst_vars; simp [*]; done) | (subst_vars; rfl))⟩
                  · skip
                    have c167' := Nat.not_le.mpr c167
                    refine x_aload_n C (i := 0) dX12_rotate_170 rfl rfl ?_
                    refine x_iload_n C (i := 2) dX12_rotate_171 rfl rfl ?_
                    have hM := c_X12_turnTo_K l Y (x_ui σ 46 (x_ml [nI 1, (-1), nI 0, nI 1, nI 0, nI 0, nI 0, nI 0, nI 1] (σ.1 46))) (nI 1) (-1) (nI 0) (nI 1) (nI 0) (nI 0) (nI 0) (nI 0) (nI 1) (σ.1 46) ax rfl (by omega) (fun r τ => r = none ∧ τ = x_ui σ 46 (x_ml (x_tn ((ax + 1) % 3) [nI 1, (-1), nI 0, nI 1, nI 0, nI 0, nI 0, nI 0, nI 1]) (σ.1 46))) (by rintro _ _ ⟨rfl, rfl⟩; exact ⟨rfl, x_ui_ui _ _ _ _⟩)
                    refine x_callV C (as := [.int (nI ax)]) (st := []) (hM) kb_X12_turnTo kv_X12_120 dX12_rotate_172 rfl rfl (Nat.le_of_ble_eq_true rfl) ⟨by decide, by decide⟩ ⟨by decide, by decide⟩ ko_38 ?_
                    clear hM
                    rintro _ _ ⟨rfl, rfl⟩
                    refine x_goto C 196 dX12_rotate_175 (by decide) ?_
                    refine x_vret C xr xk dX12_rotate_196 ?_
                    exact hK _ _ ⟨rfl, by first | (exfalso; omega) | (refine x_ui_congr σ 46 (congrArg (fun z => x_ml z (σ.1 46)) ?_); unfold x_rotl x_base; first | (simp [*]; done) | (subst_vars; simp [*]; done) | (subst_vars; rfl))⟩
              · skip
                refine x_aload_n C (i := 0) dX12_rotate_131 rfl rfl ?_
                refine x_iconst C (nI 0) dX12_rotate_132 rfl ?_
                refine x_iconst C (-1) dX12_rotate_133 rfl ?_
                refine x_iconst C (nI 0) dX12_rotate_134 rfl ?_
                refine x_iconst C (nI 1) dX12_rotate_135 rfl ?_
                refine x_iconst C (nI 0) dX12_rotate_136 rfl ?_
                refine x_iconst C (nI 0) dX12_rotate_137 rfl ?_
                refine x_iconst C (nI 0) dX12_rotate_138 rfl ?_
                refine x_iconst C (nI 0) dX12_rotate_139 rfl ?_
                refine x_iconst C (nI 1) dX12_rotate_140 rfl ?_
                have hM := c_X12_set l Y σ (nI 0) (-1) (nI 0) (nI 1) (nI 0) (nI 0) (nI 0) (nI 0) (nI 1)
                refine x_callV C (as := [.int (nI 0), .int (-1), .int (nI 0), .int (nI 1), .int (nI 0), .int (nI 0), .int (nI 0), .int (nI 0), .int (nI 1)]) (st := []) (hM) kb_X12_set kv_X12_106 dX12_rotate_141 rfl rfl (Nat.le_of_ble_eq_true rfl) ⟨by decide, by decide⟩ ⟨by decide, by decide⟩ ko_38 ?_
                clear hM
                rintro _ _ ⟨rfl, rfl⟩
                refine x_goto C 160 dX12_rotate_144 (by decide) ?_
                refine x_iload_n C (i := 1) dX12_rotate_160 rfl rfl ?_
                refine x_iconst C (nI 1) dX12_rotate_161 rfl ?_
                refine x_icmp_leN C 178 dX12_rotate_162 (by decide) (by omega) (by omega) (fun c162 => ?_) (fun c162 => ?_)
                · skip
                  have c162' := Nat.not_lt.mpr c162
                  exfalso; omega
                · skip
                  have c162' := Nat.not_le.mpr c162
                  refine x_iload_n C (i := 2) dX12_rotate_165 rfl rfl ?_
                  refine x_iconst C (nI 3) dX12_rotate_166 rfl ?_
                  refine x_icmp_geN C 178 dX12_rotate_167 (by decide) (by omega) (by omega) (fun c167 => ?_) (fun c167 => ?_)
                  · skip
                    have c167' := Nat.not_lt.mpr c167
                    refine x_iload_n C (i := 2) dX12_rotate_178 rfl rfl ?_
                    refine x_iconst C (nI 3) dX12_rotate_179 rfl ?_
                    refine x_icmp_eqN C 188 dX12_rotate_180 (by decide) (by omega) (by omega) (fun c180 => ?_) (fun c180 => ?_)
                    · skip
                      refine x_aload_n C (i := 0) dX12_rotate_188 rfl rfl ?_
                      refine x_aload_n C (i := 0) dX12_rotate_189 rfl rfl ?_
                      refine x_getI C fi_38_17 kf_X12_124 dX12_rotate_190 ?_
                      refine x_topI (y := nI be) hbe ?_
                      have hM := c_X12_turnTo_K l Y (x_ui σ 46 (x_ml [nI 0, (-1), nI 0, nI 1, nI 0, nI 0, nI 0, nI 0, nI 1] (σ.1 46))) (nI 0) (-1) (nI 0) (nI 1) (nI 0) (nI 0) (nI 0) (nI 0) (nI 1) (σ.1 46) be rfl (by omega) (fun r τ => r = none ∧ τ = x_ui σ 46 (x_ml (x_tn ((be + 1) % 3) [nI 0, (-1), nI 0, nI 1, nI 0, nI 0, nI 0, nI 0, nI 1]) (σ.1 46))) (by rintro _ _ ⟨rfl, rfl⟩; exact ⟨rfl, x_ui_ui _ _ _ _⟩)
                      refine x_callV C (as := [.int (nI be)]) (st := []) (hM) kb_X12_turnTo kv_X12_120 dX12_rotate_193 rfl rfl (Nat.le_of_ble_eq_true rfl) ⟨by decide, by decide⟩ ⟨by decide, by decide⟩ ko_38 ?_
                      clear hM
                      rintro _ _ ⟨rfl, rfl⟩
                      refine x_vret C xr xk dX12_rotate_196 ?_
                      exact hK _ _ ⟨rfl, by first | (exfalso; omega) | (refine x_ui_congr σ 46 (congrArg (fun z => x_ml z (σ.1 46)) ?_); unfold x_rotl x_base; first | (simp [*]; done) | (subst_vars; simp [*]; done) | (subst_vars; rfl))⟩
                    · skip
                      refine x_iload_n C (i := 2) dX12_rotate_183 rfl rfl ?_
                      refine x_iconst C (nI 4) dX12_rotate_184 rfl ?_
                      refine x_icmp_neN C 196 dX12_rotate_185 (by decide) (by omega) (by omega) (fun c185 => ?_) (fun c185 => ?_)
                      · skip
                        refine x_vret C xr xk dX12_rotate_196 ?_
                        exact hK _ _ ⟨rfl, by first | (exfalso; omega) | (refine x_ui_congr σ 46 (congrArg (fun z => x_ml z (σ.1 46)) ?_); unfold x_rotl x_base; first | (simp [*]; done) | (subst_vars; simp [*]; done) | (subst_vars; rfl))⟩
                      · skip
                        refine x_aload_n C (i := 0) dX12_rotate_188 rfl rfl ?_
                        refine x_aload_n C (i := 0) dX12_rotate_189 rfl rfl ?_
                        refine x_getI C fi_38_17 kf_X12_124 dX12_rotate_190 ?_
                        refine x_topI (y := nI be) hbe ?_
                        have hM := c_X12_turnTo_K l Y (x_ui σ 46 (x_ml [nI 0, (-1), nI 0, nI 1, nI 0, nI 0, nI 0, nI 0, nI 1] (σ.1 46))) (nI 0) (-1) (nI 0) (nI 1) (nI 0) (nI 0) (nI 0) (nI 0) (nI 1) (σ.1 46) be rfl (by omega) (fun r τ => r = none ∧ τ = x_ui σ 46 (x_ml (x_tn ((be + 1) % 3) [nI 0, (-1), nI 0, nI 1, nI 0, nI 0, nI 0, nI 0, nI 1]) (σ.1 46))) (by rintro _ _ ⟨rfl, rfl⟩; exact ⟨rfl, x_ui_ui _ _ _ _⟩)
                        refine x_callV C (as := [.int (nI be)]) (st := []) (hM) kb_X12_turnTo kv_X12_120 dX12_rotate_193 rfl rfl (Nat.le_of_ble_eq_true rfl) ⟨by decide, by decide⟩ ⟨by decide, by decide⟩ ko_38 ?_
                        clear hM
                        rintro _ _ ⟨rfl, rfl⟩
                        refine x_vret C xr xk dX12_rotate_196 ?_
                        exact hK _ _ ⟨rfl, by first | (exfalso; omega) | (refine x_ui_congr σ 46 (congrArg (fun z => x_ml z (σ.1 46)) ?_); unfold x_rotl x_base; first | (simp [*]; done) | (subst_vars; simp [*]; done) | (subst_vars; rfl))⟩
                  · skip
                    have c167' := Nat.not_le.mpr c167
                    refine x_aload_n C (i := 0) dX12_rotate_170 rfl rfl ?_
                    refine x_iload_n C (i := 2) dX12_rotate_171 rfl rfl ?_
                    have hM := c_X12_turnTo_K l Y (x_ui σ 46 (x_ml [nI 0, (-1), nI 0, nI 1, nI 0, nI 0, nI 0, nI 0, nI 1] (σ.1 46))) (nI 0) (-1) (nI 0) (nI 1) (nI 0) (nI 0) (nI 0) (nI 0) (nI 1) (σ.1 46) ax rfl (by omega) (fun r τ => r = none ∧ τ = x_ui σ 46 (x_ml (x_tn ((ax + 1) % 3) [nI 0, (-1), nI 0, nI 1, nI 0, nI 0, nI 0, nI 0, nI 1]) (σ.1 46))) (by rintro _ _ ⟨rfl, rfl⟩; exact ⟨rfl, x_ui_ui _ _ _ _⟩)
                    refine x_callV C (as := [.int (nI ax)]) (st := []) (hM) kb_X12_turnTo kv_X12_120 dX12_rotate_172 rfl rfl (Nat.le_of_ble_eq_true rfl) ⟨by decide, by decide⟩ ⟨by decide, by decide⟩ ko_38 ?_
                    clear hM
                    rintro _ _ ⟨rfl, rfl⟩
                    refine x_goto C 196 dX12_rotate_175 (by decide) ?_
                    refine x_vret C xr xk dX12_rotate_196 ?_
                    exact hK _ _ ⟨rfl, by first | (exfalso; omega) | (refine x_ui_congr σ 46 (congrArg (fun z => x_ml z (σ.1 46)) ?_); unfold x_rotl x_base; first | (simp [*]; done) | (subst_vars; simp [*]; done) | (subst_vars; rfl))⟩
            · skip
              refine x_aload_n C (i := 0) dX12_rotate_110 rfl rfl ?_
              refine x_iconst C (nI 0) dX12_rotate_111 rfl ?_
              refine x_iconst C (-1) dX12_rotate_112 rfl ?_
              refine x_iconst C (nI 0) dX12_rotate_113 rfl ?_
              refine x_iconst C (nI 1) dX12_rotate_114 rfl ?_
              refine x_iconst C (-1) dX12_rotate_115 rfl ?_
              refine x_iconst C (nI 0) dX12_rotate_116 rfl ?_
              refine x_iconst C (nI 0) dX12_rotate_117 rfl ?_
              refine x_iconst C (nI 0) dX12_rotate_118 rfl ?_
              refine x_iconst C (nI 1) dX12_rotate_119 rfl ?_
              have hM := c_X12_set l Y σ (nI 0) (-1) (nI 0) (nI 1) (-1) (nI 0) (nI 0) (nI 0) (nI 1)
              refine x_callV C (as := [.int (nI 0), .int (-1), .int (nI 0), .int (nI 1), .int (-1), .int (nI 0), .int (nI 0), .int (nI 0), .int (nI 1)]) (st := []) (hM) kb_X12_set kv_X12_106 dX12_rotate_120 rfl rfl (Nat.le_of_ble_eq_true rfl) ⟨by decide, by decide⟩ ⟨by decide, by decide⟩ ko_38 ?_
              clear hM
              rintro _ _ ⟨rfl, rfl⟩
              refine x_goto C 160 dX12_rotate_123 (by decide) ?_
              refine x_iload_n C (i := 1) dX12_rotate_160 rfl rfl ?_
              refine x_iconst C (nI 1) dX12_rotate_161 rfl ?_
              refine x_icmp_leN C 178 dX12_rotate_162 (by decide) (by omega) (by omega) (fun c162 => ?_) (fun c162 => ?_)
              · skip
                have c162' := Nat.not_lt.mpr c162
                exfalso; omega
              · skip
                have c162' := Nat.not_le.mpr c162
                refine x_iload_n C (i := 2) dX12_rotate_165 rfl rfl ?_
                refine x_iconst C (nI 3) dX12_rotate_166 rfl ?_
                refine x_icmp_geN C 178 dX12_rotate_167 (by decide) (by omega) (by omega) (fun c167 => ?_) (fun c167 => ?_)
                · skip
                  have c167' := Nat.not_lt.mpr c167
                  refine x_iload_n C (i := 2) dX12_rotate_178 rfl rfl ?_
                  refine x_iconst C (nI 3) dX12_rotate_179 rfl ?_
                  refine x_icmp_eqN C 188 dX12_rotate_180 (by decide) (by omega) (by omega) (fun c180 => ?_) (fun c180 => ?_)
                  · skip
                    refine x_aload_n C (i := 0) dX12_rotate_188 rfl rfl ?_
                    refine x_aload_n C (i := 0) dX12_rotate_189 rfl rfl ?_
                    refine x_getI C fi_38_17 kf_X12_124 dX12_rotate_190 ?_
                    refine x_topI (y := nI be) hbe ?_
                    have hM := c_X12_turnTo_K l Y (x_ui σ 46 (x_ml [nI 0, (-1), nI 0, nI 1, (-1), nI 0, nI 0, nI 0, nI 1] (σ.1 46))) (nI 0) (-1) (nI 0) (nI 1) (-1) (nI 0) (nI 0) (nI 0) (nI 1) (σ.1 46) be rfl (by omega) (fun r τ => r = none ∧ τ = x_ui σ 46 (x_ml (x_tn ((be + 1) % 3) [nI 0, (-1), nI 0, nI 1, (-1), nI 0, nI 0, nI 0, nI 1]) (σ.1 46))) (by rintro _ _ ⟨rfl, rfl⟩; exact ⟨rfl, x_ui_ui _ _ _ _⟩)
                    refine x_callV C (as := [.int (nI be)]) (st := []) (hM) kb_X12_turnTo kv_X12_120 dX12_rotate_193 rfl rfl (Nat.le_of_ble_eq_true rfl) ⟨by decide, by decide⟩ ⟨by decide, by decide⟩ ko_38 ?_
                    clear hM
                    rintro _ _ ⟨rfl, rfl⟩
                    refine x_vret C xr xk dX12_rotate_196 ?_
                    exact hK _ _ ⟨rfl, by first | (exfalso; omega) | (refine x_ui_congr σ 46 (congrArg (fun z => x_ml z (σ.1 46)) ?_); unfold x_rotl x_base; first | (simp [*]; done) | (subst_vars; simp [*]; done) | (subst_vars; rfl))⟩
                  · skip
                    refine x_iload_n C (i := 2) dX12_rotate_183 rfl rfl ?_
                    refine x_iconst C (nI 4) dX12_rotate_184 rfl ?_
                    refine x_icmp_neN C 196 dX12_rotate_185 (by decide) (by omega) (by omega) (fun c185 => ?_) (fun c185 => ?_)
                    · skip
                      refine x_vret C xr xk dX12_rotate_196 ?_
                      exact hK _ _ ⟨rfl, by first | (exfalso; omega) | (refine x_ui_congr σ 46 (congrArg (fun z => x_ml z (σ.1 46)) ?_); unfold x_rotl x_base; first | (simp [*]; done) | (subst_vars; simp [*]; done) | (subst_vars; rfl))⟩
                    · skip
                      refine x_aload_n C (i := 0) dX12_rotate_188 rfl rfl ?_
                      refine x_aload_n C (i := 0) dX12_rotate_189 rfl rfl ?_
                      refine x_getI C fi_38_17 kf_X12_124 dX12_rotate_190 ?_
                      refine x_topI (y := nI be) hbe ?_
                      have hM := c_X12_turnTo_K l Y (x_ui σ 46 (x_ml [nI 0, (-1), nI 0, nI 1, (-1), nI 0, nI 0, nI 0, nI 1] (σ.1 46))) (nI 0) (-1) (nI 0) (nI 1) (-1) (nI 0) (nI 0) (nI 0) (nI 1) (σ.1 46) be rfl (by omega) (fun r τ => r = none ∧ τ = x_ui σ 46 (x_ml (x_tn ((be + 1) % 3) [nI 0, (-1), nI 0, nI 1, (-1), nI 0, nI 0, nI 0, nI 1]) (σ.1 46))) (by rintro _ _ ⟨rfl, rfl⟩; exact ⟨rfl, x_ui_ui _ _ _ _⟩)
                      refine x_callV C (as := [.int (nI be)]) (st := []) (hM) kb_X12_turnTo kv_X12_120 dX12_rotate_193 rfl rfl (Nat.le_of_ble_eq_true rfl) ⟨by decide, by decide⟩ ⟨by decide, by decide⟩ ko_38 ?_
                      clear hM
                      rintro _ _ ⟨rfl, rfl⟩
                      refine x_vret C xr xk dX12_rotate_196 ?_
                      exact hK _ _ ⟨rfl, by first | (exfalso; omega) | (refine x_ui_congr σ 46 (congrArg (fun z => x_ml z (σ.1 46)) ?_); unfold x_rotl x_base; first | (simp [*]; done) | (subst_vars; simp [*]; done) | (subst_vars; rfl))⟩
                · skip
                  have c167' := Nat.not_le.mpr c167
                  refine x_aload_n C (i := 0) dX12_rotate_170 rfl rfl ?_
                  refine x_iload_n C (i := 2) dX12_rotate_171 rfl rfl ?_
                  have hM := c_X12_turnTo_K l Y (x_ui σ 46 (x_ml [nI 0, (-1), nI 0, nI 1, (-1), nI 0, nI 0, nI 0, nI 1] (σ.1 46))) (nI 0) (-1) (nI 0) (nI 1) (-1) (nI 0) (nI 0) (nI 0) (nI 1) (σ.1 46) ax rfl (by omega) (fun r τ => r = none ∧ τ = x_ui σ 46 (x_ml (x_tn ((ax + 1) % 3) [nI 0, (-1), nI 0, nI 1, (-1), nI 0, nI 0, nI 0, nI 1]) (σ.1 46))) (by rintro _ _ ⟨rfl, rfl⟩; exact ⟨rfl, x_ui_ui _ _ _ _⟩)
                  refine x_callV C (as := [.int (nI ax)]) (st := []) (hM) kb_X12_turnTo kv_X12_120 dX12_rotate_172 rfl rfl (Nat.le_of_ble_eq_true rfl) ⟨by decide, by decide⟩ ⟨by decide, by decide⟩ ko_38 ?_
                  clear hM
                  rintro _ _ ⟨rfl, rfl⟩
                  refine x_goto C 196 dX12_rotate_175 (by decide) ?_
                  refine x_vret C xr xk dX12_rotate_196 ?_
                  exact hK _ _ ⟨rfl, by first | (exfalso; omega) | (refine x_ui_congr σ 46 (congrArg (fun z => x_ml z (σ.1 46)) ?_); unfold x_rotl x_base; first | (simp [*]; done) | (subst_vars; simp [*]; done) | (subst_vars; rfl))⟩
          · skip
            refine x_aload_n C (i := 0) dX12_rotate_89 rfl rfl ?_
            refine x_iconst C (-1) dX12_rotate_90 rfl ?_
            refine x_iconst C (nI 0) dX12_rotate_91 rfl ?_
            refine x_iconst C (nI 0) dX12_rotate_92 rfl ?_
            refine x_iconst C (nI 0) dX12_rotate_93 rfl ?_
            refine x_iconst C (-1) dX12_rotate_94 rfl ?_
            refine x_iconst C (nI 0) dX12_rotate_95 rfl ?_
            refine x_iconst C (nI 0) dX12_rotate_96 rfl ?_
            refine x_iconst C (nI 0) dX12_rotate_97 rfl ?_
            refine x_iconst C (nI 1) dX12_rotate_98 rfl ?_
            have hM := c_X12_set l Y σ (-1) (nI 0) (nI 0) (nI 0) (-1) (nI 0) (nI 0) (nI 0) (nI 1)
            refine x_callV C (as := [.int (-1), .int (nI 0), .int (nI 0), .int (nI 0), .int (-1), .int (nI 0), .int (nI 0), .int (nI 0), .int (nI 1)]) (st := []) (hM) kb_X12_set kv_X12_106 dX12_rotate_99 rfl rfl (Nat.le_of_ble_eq_true rfl) ⟨by decide, by decide⟩ ⟨by decide, by decide⟩ ko_38 ?_
            clear hM
            rintro _ _ ⟨rfl, rfl⟩
            refine x_goto C 160 dX12_rotate_102 (by decide) ?_
            refine x_iload_n C (i := 1) dX12_rotate_160 rfl rfl ?_
            refine x_iconst C (nI 1) dX12_rotate_161 rfl ?_
            refine x_icmp_leN C 178 dX12_rotate_162 (by decide) (by omega) (by omega) (fun c162 => ?_) (fun c162 => ?_)
            · skip
              have c162' := Nat.not_lt.mpr c162
              exfalso; omega
            · skip
              have c162' := Nat.not_le.mpr c162
              refine x_iload_n C (i := 2) dX12_rotate_165 rfl rfl ?_
              refine x_iconst C (nI 3) dX12_rotate_166 rfl ?_
              refine x_icmp_geN C 178 dX12_rotate_167 (by decide) (by omega) (by omega) (fun c167 => ?_) (fun c167 => ?_)
              · skip
                have c167' := Nat.not_lt.mpr c167
                refine x_iload_n C (i := 2) dX12_rotate_178 rfl rfl ?_
                refine x_iconst C (nI 3) dX12_rotate_179 rfl ?_
                refine x_icmp_eqN C 188 dX12_rotate_180 (by decide) (by omega) (by omega) (fun c180 => ?_) (fun c180 => ?_)
                · skip
                  refine x_aload_n C (i := 0) dX12_rotate_188 rfl rfl ?_
                  refine x_aload_n C (i := 0) dX12_rotate_189 rfl rfl ?_
                  refine x_getI C fi_38_17 kf_X12_124 dX12_rotate_190 ?_
                  refine x_topI (y := nI be) hbe ?_
                  have hM := c_X12_turnTo_K l Y (x_ui σ 46 (x_ml [(-1), nI 0, nI 0, nI 0, (-1), nI 0, nI 0, nI 0, nI 1] (σ.1 46))) (-1) (nI 0) (nI 0) (nI 0) (-1) (nI 0) (nI 0) (nI 0) (nI 1) (σ.1 46) be rfl (by omega) (fun r τ => r = none ∧ τ = x_ui σ 46 (x_ml (x_tn ((be + 1) % 3) [(-1), nI 0, nI 0, nI 0, (-1), nI 0, nI 0, nI 0, nI 1]) (σ.1 46))) (by rintro _ _ ⟨rfl, rfl⟩; exact ⟨rfl, x_ui_ui _ _ _ _⟩)
                  refine x_callV C (as := [.int (nI be)]) (st := []) (hM) kb_X12_turnTo kv_X12_120 dX12_rotate_193 rfl rfl (Nat.le_of_ble_eq_true rfl) ⟨by decide, by decide⟩ ⟨by decide, by decide⟩ ko_38 ?_
                  clear hM
                  rintro _ _ ⟨rfl, rfl⟩
                  refine x_vret C xr xk dX12_rotate_196 ?_
                  exact hK _ _ ⟨rfl, by first | (exfalso; omega) | (refine x_ui_congr σ 46 (congrArg (fun z => x_ml z (σ.1 46)) ?_); unfold x_rotl x_base; first | (simp [*]; done) | (subst_vars; simp [*]; done) | (subst_vars; rfl))⟩
                · skip
                  refine x_iload_n C (i := 2) dX12_rotate_183 rfl rfl ?_
                  refine x_iconst C (nI 4) dX12_rotate_184 rfl ?_
                  refine x_icmp_neN C 196 dX12_rotate_185 (by decide) (by omega) (by omega) (fun c185 => ?_) (fun c185 => ?_)
                  · skip
                    refine x_vret C xr xk dX12_rotate_196 ?_
                    exact hK _ _ ⟨rfl, by first | (exfalso; omega) | (refine x_ui_congr σ 46 (congrArg (fun z => x_ml z (σ.1 46)) ?_); unfold x_rotl x_base; first | (simp [*]; done) | (subst_vars; simp [*]; done) | (subst_vars; rfl))⟩
                  · skip
                    refine x_aload_n C (i := 0) dX12_rotate_188 rfl rfl ?_
                    refine x_aload_n C (i := 0) dX12_rotate_189 rfl rfl ?_
                    refine x_getI C fi_38_17 kf_X12_124 dX12_rotate_190 ?_
                    refine x_topI (y := nI be) hbe ?_
                    have hM := c_X12_turnTo_K l Y (x_ui σ 46 (x_ml [(-1), nI 0, nI 0, nI 0, (-1), nI 0, nI 0, nI 0, nI 1] (σ.1 46))) (-1) (nI 0) (nI 0) (nI 0) (-1) (nI 0) (nI 0) (nI 0) (nI 1) (σ.1 46) be rfl (by omega) (fun r τ => r = none ∧ τ = x_ui σ 46 (x_ml (x_tn ((be + 1) % 3) [(-1), nI 0, nI 0, nI 0, (-1), nI 0, nI 0, nI 0, nI 1]) (σ.1 46))) (by rintro _ _ ⟨rfl, rfl⟩; exact ⟨rfl, x_ui_ui _ _ _ _⟩)
                    refine x_callV C (as := [.int (nI be)]) (st := []) (hM) kb_X12_turnTo kv_X12_120 dX12_rotate_193 rfl rfl (Nat.le_of_ble_eq_true rfl) ⟨by decide, by decide⟩ ⟨by decide, by decide⟩ ko_38 ?_
                    clear hM
                    rintro _ _ ⟨rfl, rfl⟩
                    refine x_vret C xr xk dX12_rotate_196 ?_
                    exact hK _ _ ⟨rfl, by first | (exfalso; omega) | (refine x_ui_congr σ 46 (congrArg (fun z => x_ml z (σ.1 46)) ?_); unfold x_rotl x_base; first | (simp [*]; done) | (subst_vars; simp [*]; done) | (subst_vars; rfl))⟩
              · skip
                have c167' := Nat.not_le.mpr c167
                refine x_aload_n C (i := 0) dX12_rotate_170 rfl rfl ?_
                refine x_iload_n C (i := 2) dX12_rotate_171 rfl rfl ?_
                have hM := c_X12_turnTo_K l Y (x_ui σ 46 (x_ml [(-1), nI 0, nI 0, nI 0, (-1), nI 0, nI 0, nI 0, nI 1] (σ.1 46))) (-1) (nI 0) (nI 0) (nI 0) (-1) (nI 0) (nI 0) (nI 0) (nI 1) (σ.1 46) ax rfl (by omega) (fun r τ => r = none ∧ τ = x_ui σ 46 (x_ml (x_tn ((ax + 1) % 3) [(-1), nI 0, nI 0, nI 0, (-1), nI 0, nI 0, nI 0, nI 1]) (σ.1 46))) (by rintro _ _ ⟨rfl, rfl⟩; exact ⟨rfl, x_ui_ui _ _ _ _⟩)
                refine x_callV C (as := [.int (nI ax)]) (st := []) (hM) kb_X12_turnTo kv_X12_120 dX12_rotate_172 rfl rfl (Nat.le_of_ble_eq_true rfl) ⟨by decide, by decide⟩ ⟨by decide, by decide⟩ ko_38 ?_
                clear hM
                rintro _ _ ⟨rfl, rfl⟩
                refine x_goto C 196 dX12_rotate_175 (by decide) ?_
                refine x_vret C xr xk dX12_rotate_196 ?_
                exact hK _ _ ⟨rfl, by first | (exfalso; omega) | (refine x_ui_congr σ 46 (congrArg (fun z => x_ml z (σ.1 46)) ?_); unfold x_rotl x_base; first | (simp [*]; done) | (subst_vars; simp [*]; done) | (subst_vars; rfl))⟩
        · skip
          refine x_aload_n C (i := 0) dX12_rotate_68 rfl rfl ?_
          refine x_iconst C (nI 0) dX12_rotate_69 rfl ?_
          refine x_iconst C (nI 1) dX12_rotate_70 rfl ?_
          refine x_iconst C (nI 0) dX12_rotate_71 rfl ?_
          refine x_iconst C (nI 1) dX12_rotate_72 rfl ?_
          refine x_iconst C (nI 0) dX12_rotate_73 rfl ?_
          refine x_iconst C (nI 0) dX12_rotate_74 rfl ?_
          refine x_iconst C (nI 0) dX12_rotate_75 rfl ?_
          refine x_iconst C (nI 0) dX12_rotate_76 rfl ?_
          refine x_iconst C (-1) dX12_rotate_77 rfl ?_
          have hM := c_X12_set l Y σ (nI 0) (nI 1) (nI 0) (nI 1) (nI 0) (nI 0) (nI 0) (nI 0) (-1)
          refine x_callV C (as := [.int (nI 0), .int (nI 1), .int (nI 0), .int (nI 1), .int (nI 0), .int (nI 0), .int (nI 0), .int (nI 0), .int (-1)]) (st := []) (hM) kb_X12_set kv_X12_106 dX12_rotate_78 rfl rfl (Nat.le_of_ble_eq_true rfl) ⟨by decide, by decide⟩ ⟨by decide, by decide⟩ ko_38 ?_
          clear hM
          rintro _ _ ⟨rfl, rfl⟩
          refine x_goto C 160 dX12_rotate_81 (by decide) ?_
          refine x_iload_n C (i := 1) dX12_rotate_160 rfl rfl ?_
          refine x_iconst C (nI 1) dX12_rotate_161 rfl ?_
          refine x_icmp_leN C 178 dX12_rotate_162 (by decide) (by omega) (by omega) (fun c162 => ?_) (fun c162 => ?_)
          · skip
            have c162' := Nat.not_lt.mpr c162
            exfalso; omega
          · skip
            have c162' := Nat.not_le.mpr c162
            refine x_iload_n C (i := 2) dX12_rotate_165 rfl rfl ?_
            refine x_iconst C (nI 3) dX12_rotate_166 rfl ?_
            refine x_icmp_geN C 178 dX12_rotate_167 (by decide) (by omega) (by omega) (fun c167 => ?_) (fun c167 => ?_)
            · skip
              have c167' := Nat.not_lt.mpr c167
              refine x_iload_n C (i := 2) dX12_rotate_178 rfl rfl ?_
              refine x_iconst C (nI 3) dX12_rotate_179 rfl ?_
              refine x_icmp_eqN C 188 dX12_rotate_180 (by decide) (by omega) (by omega) (fun c180 => ?_) (fun c180 => ?_)
              · skip
                refine x_aload_n C (i := 0) dX12_rotate_188 rfl rfl ?_
                refine x_aload_n C (i := 0) dX12_rotate_189 rfl rfl ?_
                refine x_getI C fi_38_17 kf_X12_124 dX12_rotate_190 ?_
                refine x_topI (y := nI be) hbe ?_
                have hM := c_X12_turnTo_K l Y (x_ui σ 46 (x_ml [nI 0, nI 1, nI 0, nI 1, nI 0, nI 0, nI 0, nI 0, (-1)] (σ.1 46))) (nI 0) (nI 1) (nI 0) (nI 1) (nI 0) (nI 0) (nI 0) (nI 0) (-1) (σ.1 46) be rfl (by omega) (fun r τ => r = none ∧ τ = x_ui σ 46 (x_ml (x_tn ((be + 1) % 3) [nI 0, nI 1, nI 0, nI 1, nI 0, nI 0, nI 0, nI 0, (-1)]) (σ.1 46))) (by rintro _ _ ⟨rfl, rfl⟩; exact ⟨rfl, x_ui_ui _ _ _ _⟩)
                refine x_callV C (as := [.int (nI be)]) (st := []) (hM) kb_X12_turnTo kv_X12_120 dX12_rotate_193 rfl rfl (Nat.le_of_ble_eq_true rfl) ⟨by decide, by decide⟩ ⟨by decide, by decide⟩ ko_38 ?_
                clear hM
                rintro _ _ ⟨rfl, rfl⟩
                refine x_vret C xr xk dX12_rotate_196 ?_
                exact hK _ _ ⟨rfl, by first | (exfalso; omega) | (refine x_ui_congr σ 46 (congrArg (fun z => x_ml z (σ.1 46)) ?_); unfold x_rotl x_base; first | (simp [*]; done) | (subst_vars; simp [*]; done) | (subst_vars; rfl))⟩
              · skip
                refine x_iload_n C (i := 2) dX12_rotate_183 rfl rfl ?_
                refine x_iconst C (nI 4) dX12_rotate_184 rfl ?_
                refine x_icmp_neN C 196 dX12_rotate_185 (by decide) (by omega) (by omega) (fun c185 => ?_) (fun c185 => ?_)
                · skip
                  refine x_vret C xr xk dX12_rotate_196 ?_
                  exact hK _ _ ⟨rfl, by first | (exfalso; omega) | (refine x_ui_congr σ 46 (congrArg (fun z => x_ml z (σ.1 46)) ?_); unfold x_rotl x_base; first | (simp [*]; done) | (subst_vars; simp [*]; done) | (subst_vars; rfl))⟩
                · skip
                  refine x_aload_n C (i := 0) dX12_rotate_188 rfl rfl ?_
                  refine x_aload_n C (i := 0) dX12_rotate_189 rfl rfl ?_
                  refine x_getI C fi_38_17 kf_X12_124 dX12_rotate_190 ?_
                  refine x_topI (y := nI be) hbe ?_
                  have hM := c_X12_turnTo_K l Y (x_ui σ 46 (x_ml [nI 0, nI 1, nI 0, nI 1, nI 0, nI 0, nI 0, nI 0, (-1)] (σ.1 46))) (nI 0) (nI 1) (nI 0) (nI 1) (nI 0) (nI 0) (nI 0) (nI 0) (-1) (σ.1 46) be rfl (by omega) (fun r τ => r = none ∧ τ = x_ui σ 46 (x_ml (x_tn ((be + 1) % 3) [nI 0, nI 1, nI 0, nI 1, nI 0, nI 0, nI 0, nI 0, (-1)]) (σ.1 46))) (by rintro _ _ ⟨rfl, rfl⟩; exact ⟨rfl, x_ui_ui _ _ _ _⟩)
                  refine x_callV C (as := [.int (nI be)]) (st := []) (hM) kb_X12_turnTo kv_X12_120 dX12_rotate_193 rfl rfl (Nat.le_of_ble_eq_true rfl) ⟨by decide, by decide⟩ ⟨by decide, by decide⟩ ko_38 ?_
                  clear hM
                  rintro _ _ ⟨rfl, rfl⟩
                  refine x_vret C xr xk dX12_rotate_196 ?_
                  exact hK _ _ ⟨rfl, by first | (exfalso; omega) | (refine x_ui_congr σ 46 (congrArg (fun z => x_ml z (σ.1 46)) ?_); unfold x_rotl x_base; first | (simp [*]; done) | (subst_vars; simp [*]; done) | (subst_vars; rfl))⟩
            · skip
              have c167' := Nat.not_le.mpr c167
              refine x_aload_n C (i := 0) dX12_rotate_170 rfl rfl ?_
              refine x_iload_n C (i := 2) dX12_rotate_171 rfl rfl ?_
              have hM := c_X12_turnTo_K l Y (x_ui σ 46 (x_ml [nI 0, nI 1, nI 0, nI 1, nI 0, nI 0, nI 0, nI 0, (-1)] (σ.1 46))) (nI 0) (nI 1) (nI 0) (nI 1) (nI 0) (nI 0) (nI 0) (nI 0) (-1) (σ.1 46) ax rfl (by omega) (fun r τ => r = none ∧ τ = x_ui σ 46 (x_ml (x_tn ((ax + 1) % 3) [nI 0, nI 1, nI 0, nI 1, nI 0, nI 0, nI 0, nI 0, (-1)]) (σ.1 46))) (by rintro _ _ ⟨rfl, rfl⟩; exact ⟨rfl, x_ui_ui _ _ _ _⟩)
              refine x_callV C (as := [.int (nI ax)]) (st := []) (hM) kb_X12_turnTo kv_X12_120 dX12_rotate_172 rfl rfl (Nat.le_of_ble_eq_true rfl) ⟨by decide, by decide⟩ ⟨by decide, by decide⟩ ko_38 ?_
              clear hM
              rintro _ _ ⟨rfl, rfl⟩
              refine x_goto C 196 dX12_rotate_175 (by decide) ?_
              refine x_vret C xr xk dX12_rotate_196 ?_
              exact hK _ _ ⟨rfl, by first | (exfalso; omega) | (refine x_ui_congr σ 46 (congrArg (fun z => x_ml z (σ.1 46)) ?_); unfold x_rotl x_base; first | (simp [*]; done) | (subst_vars; simp [*]; done) | (subst_vars; rfl))⟩
      · skip
        refine x_aload_n C (i := 0) dX12_rotate_47 rfl rfl ?_
        refine x_iconst C (nI 0) dX12_rotate_48 rfl ?_
        refine x_iconst C (-1) dX12_rotate_49 rfl ?_
        refine x_iconst C (nI 0) dX12_rotate_50 rfl ?_
        refine x_iconst C (-1) dX12_rotate_51 rfl ?_
        refine x_iconst C (nI 0) dX12_rotate_52 rfl ?_
        refine x_iconst C (nI 0) dX12_rotate_53 rfl ?_
        refine x_iconst C (nI 0) dX12_rotate_54 rfl ?_
        refine x_iconst C (nI 0) dX12_rotate_55 rfl ?_
        refine x_iconst C (-1) dX12_rotate_56 rfl ?_
        have hM := c_X12_set l Y σ (nI 0) (-1) (nI 0) (-1) (nI 0) (nI 0) (nI 0) (nI 0) (-1)
        refine x_callV C (as := [.int (nI 0), .int (-1), .int (nI 0), .int (-1), .int (nI 0), .int (nI 0), .int (nI 0), .int (nI 0), .int (-1)]) (st := []) (hM) kb_X12_set kv_X12_106 dX12_rotate_57 rfl rfl (Nat.le_of_ble_eq_true rfl) ⟨by decide, by decide⟩ ⟨by decide, by decide⟩ ko_38 ?_
        clear hM
        rintro _ _ ⟨rfl, rfl⟩
        refine x_goto C 160 dX12_rotate_60 (by decide) ?_
        refine x_iload_n C (i := 1) dX12_rotate_160 rfl rfl ?_
        refine x_iconst C (nI 1) dX12_rotate_161 rfl ?_
        refine x_icmp_leN C 178 dX12_rotate_162 (by decide) (by omega) (by omega) (fun c162 => ?_) (fun c162 => ?_)
        · skip
          have c162' := Nat.not_lt.mpr c162
          exfalso; omega
        · skip
          have c162' := Nat.not_le.mpr c162
          refine x_iload_n C (i := 2) dX12_rotate_165 rfl rfl ?_
          refine x_iconst C (nI 3) dX12_rotate_166 rfl ?_
          refine x_icmp_geN C 178 dX12_rotate_167 (by decide) (by omega) (by omega) (fun c167 => ?_) (fun c167 => ?_)
          · skip
            have c167' := Nat.not_lt.mpr c167
            refine x_iload_n C (i := 2) dX12_rotate_178 rfl rfl ?_
            refine x_iconst C (nI 3) dX12_rotate_179 rfl ?_
            refine x_icmp_eqN C 188 dX12_rotate_180 (by decide) (by omega) (by omega) (fun c180 => ?_) (fun c180 => ?_)
            · skip
              refine x_aload_n C (i := 0) dX12_rotate_188 rfl rfl ?_
              refine x_aload_n C (i := 0) dX12_rotate_189 rfl rfl ?_
              refine x_getI C fi_38_17 kf_X12_124 dX12_rotate_190 ?_
              refine x_topI (y := nI be) hbe ?_
              have hM := c_X12_turnTo_K l Y (x_ui σ 46 (x_ml [nI 0, (-1), nI 0, (-1), nI 0, nI 0, nI 0, nI 0, (-1)] (σ.1 46))) (nI 0) (-1) (nI 0) (-1) (nI 0) (nI 0) (nI 0) (nI 0) (-1) (σ.1 46) be rfl (by omega) (fun r τ => r = none ∧ τ = x_ui σ 46 (x_ml (x_tn ((be + 1) % 3) [nI 0, (-1), nI 0, (-1), nI 0, nI 0, nI 0, nI 0, (-1)]) (σ.1 46))) (by rintro _ _ ⟨rfl, rfl⟩; exact ⟨rfl, x_ui_ui _ _ _ _⟩)
              refine x_callV C (as := [.int (nI be)]) (st := []) (hM) kb_X12_turnTo kv_X12_120 dX12_rotate_193 rfl rfl (Nat.le_of_ble_eq_true rfl) ⟨by decide, by decide⟩ ⟨by decide, by decide⟩ ko_38 ?_
              clear hM
              rintro _ _ ⟨rfl, rfl⟩
              refine x_vret C xr xk dX12_rotate_196 ?_
              exact hK _ _ ⟨rfl, by first | (exfalso; omega) | (refine x_ui_congr σ 46 (congrArg (fun z => x_ml z (σ.1 46)) ?_); unfold x_rotl x_base; first | (simp [*]; done) | (subst_vars; simp [*]; done) | (subst_vars; rfl))⟩
            · skip
              refine x_iload_n C (i := 2) dX12_rotate_183 rfl rfl ?_
              refine x_iconst C (nI 4) dX12_rotate_184 rfl ?_
              refine x_icmp_neN C 196 dX12_rotate_185 (by decide) (by omega) (by omega) (fun c185 => ?_) (fun c185 => ?_)
              · skip
                refine x_vret C xr xk dX12_rotate_196 ?_
                exact hK _ _ ⟨rfl, by first | (exfalso; omega) | (refine x_ui_congr σ 46 (congrArg (fun z => x_ml z (σ.1 46)) ?_); unfold x_rotl x_base; first | (simp [*]; done) | (subst_vars; simp [*]; done) | (subst_vars; rfl))⟩
              · skip
                refine x_aload_n C (i := 0) dX12_rotate_188 rfl rfl ?_
                refine x_aload_n C (i := 0) dX12_rotate_189 rfl rfl ?_
                refine x_getI C fi_38_17 kf_X12_124 dX12_rotate_190 ?_
                refine x_topI (y := nI be) hbe ?_
                have hM := c_X12_turnTo_K l Y (x_ui σ 46 (x_ml [nI 0, (-1), nI 0, (-1), nI 0, nI 0, nI 0, nI 0, (-1)] (σ.1 46))) (nI 0) (-1) (nI 0) (-1) (nI 0) (nI 0) (nI 0) (nI 0) (-1) (σ.1 46) be rfl (by omega) (fun r τ => r = none ∧ τ = x_ui σ 46 (x_ml (x_tn ((be + 1) % 3) [nI 0, (-1), nI 0, (-1), nI 0, nI 0, nI 0, nI 0, (-1)]) (σ.1 46))) (by rintro _ _ ⟨rfl, rfl⟩; exact ⟨rfl, x_ui_ui _ _ _ _⟩)
                refine x_callV C (as := [.int (nI be)]) (st := []) (hM) kb_X12_turnTo kv_X12_120 dX12_rotate_193 rfl rfl (Nat.le_of_ble_eq_true rfl) ⟨by decide, by decide⟩ ⟨by decide, by decide⟩ ko_38 ?_
                clear hM
                rintro _ _ ⟨rfl, rfl⟩
                refine x_vret C xr xk dX12_rotate_196 ?_
                exact hK _ _ ⟨rfl, by first | (exfalso; omega) | (refine x_ui_congr σ 46 (congrArg (fun z => x_ml z (σ.1 46)) ?_); unfold x_rotl x_base; first | (simp [*]; done) | (subst_vars; simp [*]; done) | (subst_vars; rfl))⟩
          · skip
            have c167' := Nat.not_le.mpr c167
            refine x_aload_n C (i := 0) dX12_rotate_170 rfl rfl ?_
            refine x_iload_n C (i := 2) dX12_rotate_171 rfl rfl ?_
            have hM := c_X12_turnTo_K l Y (x_ui σ 46 (x_ml [nI 0, (-1), nI 0, (-1), nI 0, nI 0, nI 0, nI 0, (-1)] (σ.1 46))) (nI 0) (-1) (nI 0) (-1) (nI 0) (nI 0) (nI 0) (nI 0) (-1) (σ.1 46) ax rfl (by omega) (fun r τ => r = none ∧ τ = x_ui σ 46 (x_ml (x_tn ((ax + 1) % 3) [nI 0, (-1), nI 0, (-1), nI 0, nI 0, nI 0, nI 0, (-1)]) (σ.1 46))) (by rintro _ _ ⟨rfl, rfl⟩; exact ⟨rfl, x_ui_ui _ _ _ _⟩)
            refine x_callV C (as := [.int (nI ax)]) (st := []) (hM) kb_X12_turnTo kv_X12_120 dX12_rotate_172 rfl rfl (Nat.le_of_ble_eq_true rfl) ⟨by decide, by decide⟩ ⟨by decide, by decide⟩ ko_38 ?_
            clear hM
            rintro _ _ ⟨rfl, rfl⟩
            refine x_goto C 196 dX12_rotate_175 (by decide) ?_
            refine x_vret C xr xk dX12_rotate_196 ?_
            exact hK _ _ ⟨rfl, by first | (exfalso; omega) | (refine x_ui_congr σ 46 (congrArg (fun z => x_ml z (σ.1 46)) ?_); unfold x_rotl x_base; first | (simp [*]; done) | (subst_vars; simp [*]; done) | (subst_vars; rfl))⟩
    · skip
      refine x_aload_n C (i := 0) dX12_rotate_26 rfl rfl ?_
      refine x_iconst C (nI 0) dX12_rotate_27 rfl ?_
      refine x_iconst C (nI 0) dX12_rotate_28 rfl ?_
      refine x_iconst C (nI 1) dX12_rotate_29 rfl ?_
      refine x_iconst C (nI 1) dX12_rotate_30 rfl ?_
      refine x_iconst C (nI 0) dX12_rotate_31 rfl ?_
      refine x_iconst C (nI 0) dX12_rotate_32 rfl ?_
      refine x_iconst C (nI 0) dX12_rotate_33 rfl ?_
      refine x_iconst C (nI 1) dX12_rotate_34 rfl ?_
      refine x_iconst C (nI 0) dX12_rotate_35 rfl ?_
      have hM := c_X12_set l Y σ (nI 0) (nI 0) (nI 1) (nI 1) (nI 0) (nI 0) (nI 0) (nI 1) (nI 0)
      refine x_callV C (as := [.int (nI 0), .int (nI 0), .int (nI 1), .int (nI 1), .int (nI 0), .int (nI 0), .int (nI 0), .int (nI 1), .int (nI 0)]) (st := []) (hM) kb_X12_set kv_X12_106 dX12_rotate_36 rfl rfl (Nat.le_of_ble_eq_true rfl) ⟨by decide, by decide⟩ ⟨by decide, by decide⟩ ko_38 ?_
      clear hM
      rintro _ _ ⟨rfl, rfl⟩
      refine x_goto C 160 dX12_rotate_39 (by decide) ?_
      refine x_iload_n C (i := 1) dX12_rotate_160 rfl rfl ?_
      refine x_iconst C (nI 1) dX12_rotate_161 rfl ?_
      refine x_icmp_leN C 178 dX12_rotate_162 (by decide) (by omega) (by omega) (fun c162 => ?_) (fun c162 => ?_)
      · skip
        have c162' := Nat.not_lt.mpr c162
        exfalso; omega
      · skip
        have c162' := Nat.not_le.mpr c162
        refine x_iload_n C (i := 2) dX12_rotate_165 rfl rfl ?_
        refine x_iconst C (nI 3) dX12_rotate_166 rfl ?_
        refine x_icmp_geN C 178 dX12_rotate_167 (by decide) (by omega) (by omega) (fun c167 => ?_) (fun c167 => ?_)
        · skip
          have c167' := Nat.not_lt.mpr c167
          refine x_iload_n C (i := 2) dX12_rotate_178 rfl rfl ?_
          refine x_iconst C (nI 3) dX12_rotate_179 rfl ?_
          refine x_icmp_eqN C 188 dX12_rotate_180 (by decide) (by omega) (by omega) (fun c180 => ?_) (fun c180 => ?_)
          · skip
            refine x_aload_n C (i := 0) dX12_rotate_188 rfl rfl ?_
            refine x_aload_n C (i := 0) dX12_rotate_189 rfl rfl ?_
            refine x_getI C fi_38_17 kf_X12_124 dX12_rotate_190 ?_
            refine x_topI (y := nI be) hbe ?_
            have hM := c_X12_turnTo_K l Y (x_ui σ 46 (x_ml [nI 0, nI 0, nI 1, nI 1, nI 0, nI 0, nI 0, nI 1, nI 0] (σ.1 46))) (nI 0) (nI 0) (nI 1) (nI 1) (nI 0) (nI 0) (nI 0) (nI 1) (nI 0) (σ.1 46) be rfl (by omega) (fun r τ => r = none ∧ τ = x_ui σ 46 (x_ml (x_tn ((be + 1) % 3) [nI 0, nI 0, nI 1, nI 1, nI 0, nI 0, nI 0, nI 1, nI 0]) (σ.1 46))) (by rintro _ _ ⟨rfl, rfl⟩; exact ⟨rfl, x_ui_ui _ _ _ _⟩)
            refine x_callV C (as := [.int (nI be)]) (st := []) (hM) kb_X12_turnTo kv_X12_120 dX12_rotate_193 rfl rfl (Nat.le_of_ble_eq_true rfl) ⟨by decide, by decide⟩ ⟨by decide, by decide⟩ ko_38 ?_
            clear hM
            rintro _ _ ⟨rfl, rfl⟩
            refine x_vret C xr xk dX12_rotate_196 ?_
            exact hK _ _ ⟨rfl, by first | (exfalso; omega) | (refine x_ui_congr σ 46 (congrArg (fun z => x_ml z (σ.1 46)) ?_); unfold x_rotl x_base; first | (simp [*]; done) | (subst_vars; simp [*]; done) | (subst_vars; rfl))⟩
          · skip
            refine x_iload_n C (i := 2) dX12_rotate_183 rfl rfl ?_
            refine x_iconst C (nI 4) dX12_rotate_184 rfl ?_
            refine x_icmp_neN C 196 dX12_rotate_185 (by decide) (by omega) (by omega) (fun c185 => ?_) (fun c185 => ?_)
            · skip
              refine x_vret C xr xk dX12_rotate_196 ?_
              exact hK _ _ ⟨rfl, by first | (exfalso; omega) | (refine x_ui_congr σ 46 (congrArg (fun z => x_ml z (σ.1 46)) ?_); unfold x_rotl x_base; first | (simp [*]; done) | (subst_vars; simp [*]; done) | (subst_vars; rfl))⟩
            · skip
              refine x_aload_n C (i := 0) dX12_rotate_188 rfl rfl ?_
              refine x_aload_n C (i := 0) dX12_rotate_189 rfl rfl ?_
              refine x_getI C fi_38_17 kf_X12_124 dX12_rotate_190 ?_
              refine x_topI (y := nI be) hbe ?_
              have hM := c_X12_turnTo_K l Y (x_ui σ 46 (x_ml [nI 0, nI 0, nI 1, nI 1, nI 0, nI 0, nI 0, nI 1, nI 0] (σ.1 46))) (nI 0) (nI 0) (nI 1) (nI 1) (nI 0) (nI 0) (nI 0) (nI 1) (nI 0) (σ.1 46) be rfl (by omega) (fun r τ => r = none ∧ τ = x_ui σ 46 (x_ml (x_tn ((be + 1) % 3) [nI 0, nI 0, nI 1, nI 1, nI 0, nI 0, nI 0, nI 1, nI 0]) (σ.1 46))) (by rintro _ _ ⟨rfl, rfl⟩; exact ⟨rfl, x_ui_ui _ _ _ _⟩)
              refine x_callV C (as := [.int (nI be)]) (st := []) (hM) kb_X12_turnTo kv_X12_120 dX12_rotate_193 rfl rfl (Nat.le_of_ble_eq_true rfl) ⟨by decide, by decide⟩ ⟨by decide, by decide⟩ ko_38 ?_
              clear hM
              rintro _ _ ⟨rfl, rfl⟩
              refine x_vret C xr xk dX12_rotate_196 ?_
              exact hK _ _ ⟨rfl, by first | (exfalso; omega) | (refine x_ui_congr σ 46 (congrArg (fun z => x_ml z (σ.1 46)) ?_); unfold x_rotl x_base; first | (simp [*]; done) | (subst_vars; simp [*]; done) | (subst_vars; rfl))⟩
        · skip
          have c167' := Nat.not_le.mpr c167
          refine x_aload_n C (i := 0) dX12_rotate_170 rfl rfl ?_
          refine x_iload_n C (i := 2) dX12_rotate_171 rfl rfl ?_
          have hM := c_X12_turnTo_K l Y (x_ui σ 46 (x_ml [nI 0, nI 0, nI 1, nI 1, nI 0, nI 0, nI 0, nI 1, nI 0] (σ.1 46))) (nI 0) (nI 0) (nI 1) (nI 1) (nI 0) (nI 0) (nI 0) (nI 1) (nI 0) (σ.1 46) ax rfl (by omega) (fun r τ => r = none ∧ τ = x_ui σ 46 (x_ml (x_tn ((ax + 1) % 3) [nI 0, nI 0, nI 1, nI 1, nI 0, nI 0, nI 0, nI 1, nI 0]) (σ.1 46))) (by rintro _ _ ⟨rfl, rfl⟩; exact ⟨rfl, x_ui_ui _ _ _ _⟩)
          refine x_callV C (as := [.int (nI ax)]) (st := []) (hM) kb_X12_turnTo kv_X12_120 dX12_rotate_172 rfl rfl (Nat.le_of_ble_eq_true rfl) ⟨by decide, by decide⟩ ⟨by decide, by decide⟩ ko_38 ?_
          clear hM
          rintro _ _ ⟨rfl, rfl⟩
          refine x_goto C 196 dX12_rotate_175 (by decide) ?_
          refine x_vret C xr xk dX12_rotate_196 ?_
          exact hK _ _ ⟨rfl, by first | (exfalso; omega) | (refine x_ui_congr σ 46 (congrArg (fun z => x_ml z (σ.1 46)) ?_); unfold x_rotl x_base; first | (simp [*]; done) | (subst_vars; simp [*]; done) | (subst_vars; rfl))⟩
  · skip
    exfalso; omega
theorem c_X12_rotate (l : Launch) (Y : x_Y) (σ : x_S) (n ax be : Nat) (hbe : σ.1 38 17 = nI be) (hn : 1 < n) (hn6 : n ≤ 6) (hax : ax ≤ 5) (hb3 : be < 3) : x_M l yX12_rotate cX12_rotate 3 none 2 Y [.ref 38, .int (nI n), .int (nI ax)] σ (fun r τ => r = none ∧ τ = x_ui σ 46 (x_ml (x_rotl n ax be) (σ.1 46))) := c_X12_rotate_K l Y σ n ax be hbe hn hn6 hax hb3 _ (fun _ _ h => h)
set_option maxRecDepth 100000 in
set_option maxHeartbeats 200000 in
theorem c_X12_rotate1_K (l : Launch) (Y : x_Y) (σ : x_S) (n : Nat) (hn1 : n = 1) (K : Option Value → x_S → Prop) (hK : ∀ (r : Option Value) (τ : x_S), (r = none ∧ τ = x_ui σ 46 (x_ml x_one (σ.1 46))) → K r τ) : x_M l yX12_rotate cX12_rotate 3 none 2 Y [.ref 38, .int (nI n), .int (-1)] σ K := by
  refine x_start (by decide) (Nat.le_of_ble_eq_true rfl) ?_
  intro xp xe xs xm xg xb xt xc C xr xk
  refine x_iload_n C (i := 1) dX12_rotate_0 rfl rfl ?_
  refine x_iconst C (nI 1) dX12_rotate_1 rfl ?_
  refine x_icmp_neN C 21 dX12_rotate_2 (by decide) (by omega) (by omega) (fun c2 => ?_) (fun c2 => ?_)
  · skip
    exfalso; omega
  · skip
    refine x_aload_n C (i := 0) dX12_rotate_5 rfl rfl ?_
    refine x_iconst C (nI 1) dX12_rotate_6 rfl ?_
    refine x_iconst C (nI 0) dX12_rotate_7 rfl ?_
    refine x_iconst C (nI 0) dX12_rotate_8 rfl ?_
    refine x_iconst C (nI 0) dX12_rotate_9 rfl ?_
    refine x_iconst C (nI 1) dX12_rotate_10 rfl ?_
    refine x_iconst C (nI 0) dX12_rotate_11 rfl ?_
    refine x_iconst C (nI 0) dX12_rotate_12 rfl ?_
    refine x_iconst C (nI 0) dX12_rotate_13 rfl ?_
    refine x_iconst C (nI 1) dX12_rotate_14 rfl ?_
    have hM := c_X12_set l Y σ (nI 1) (nI 0) (nI 0) (nI 0) (nI 1) (nI 0) (nI 0) (nI 0) (nI 1)
    refine x_callV C (as := [.int (nI 1), .int (nI 0), .int (nI 0), .int (nI 0), .int (nI 1), .int (nI 0), .int (nI 0), .int (nI 0), .int (nI 1)]) (st := []) (hM) kb_X12_set kv_X12_106 dX12_rotate_15 rfl rfl (Nat.le_of_ble_eq_true rfl) ⟨by decide, by decide⟩ ⟨by decide, by decide⟩ ko_38 ?_
    clear hM
    rintro _ _ ⟨rfl, rfl⟩
    refine x_goto C 160 dX12_rotate_18 (by decide) ?_
    refine x_iload_n C (i := 1) dX12_rotate_160 rfl rfl ?_
    refine x_iconst C (nI 1) dX12_rotate_161 rfl ?_
    refine x_icmp_leN C 178 dX12_rotate_162 (by decide) (by omega) (by omega) (fun c162 => ?_) (fun c162 => ?_)
    · skip
      have c162' := Nat.not_lt.mpr c162
      refine x_iload_n C (i := 2) dX12_rotate_178 rfl rfl ?_
      refine x_iconst C (nI 3) dX12_rotate_179 rfl ?_
      refine x_icmp_eq C 188 dX12_rotate_180 (by decide) (fun c180 => ?_) (fun c180 => ?_)
      · skip
        exact absurd c180 (by decide)
      · skip
        refine x_iload_n C (i := 2) dX12_rotate_183 rfl rfl ?_
        refine x_iconst C (nI 4) dX12_rotate_184 rfl ?_
        refine x_icmp_ne C 196 dX12_rotate_185 (by decide) (fun c185 => ?_) (fun c185 => ?_)
        · skip
          refine x_vret C xr xk dX12_rotate_196 ?_
          exact hK _ _ ⟨rfl, rfl⟩
        · skip
          exact absurd c185 (by decide)
    · skip
      have c162' := Nat.not_le.mpr c162
      exfalso; omega
theorem c_X12_rotate1 (l : Launch) (Y : x_Y) (σ : x_S) (n : Nat) (hn1 : n = 1) : x_M l yX12_rotate cX12_rotate 3 none 2 Y [.ref 38, .int (nI n), .int (-1)] σ (fun r τ => r = none ∧ τ = x_ui σ 46 (x_ml x_one (σ.1 46))) := c_X12_rotate1_K l Y σ n hn1 _ (fun _ _ h => h)
set_option maxRecDepth 100000 in
set_option maxHeartbeats 200000 in
theorem c_X12_takesShift_K (l : Launch) (Y : x_Y) (σ : x_S) (b : Nat → Int32) (t a : Nat) (hb : σ.1 39 = b) (ht : σ.1 38 2 = nI t) (ha : σ.1 38 3 = nI a) (ht8 : t ≤ 8000) (ha9 : a ≤ 8001) (q0 q1 q2 : Nat) (F : Nat → Int32) (hF : σ.1 47 = x_ml [nI q0, nI q1, nI q2] F) (h0 : q0 < 12) (h1 : q1 < 12) (h2 : q2 < 12) (K : Option Value → x_S → Prop) (hK : ∀ (r : Option Value) (τ : x_S), (r = some (.int (x_z (x_l3 (x_lookv b t a)).2.2.2)) ∧ τ = x_ui σ 47 (x_ml [nI ((q0 + (x_l3 (x_lookv b t a)).1) % 12), nI ((q1 + (x_l3 (x_lookv b t a)).2.1) % 12), nI ((q2 + (x_l3 (x_lookv b t a)).2.2.1) % 12)] F)) → K r τ) : x_M l yX12_takesShift cX12_takesShift 1 (some .boolean) 2 Y [.ref 38] σ K := by
  refine x_start (by decide) (Nat.le_of_ble_eq_true rfl) ?_
  intro xp xe xs xm xg xb xt xc C xr xk
  refine x_aload_n C (i := 0) dX12_takesShift_0 rfl rfl ?_
  have hM := c_X12_look l Y σ b t a hb ht ha ht8 (by omega)
  refine x_callV C (as := []) (st := []) (hM) kb_X12_look kv_X12_110 dX12_takesShift_1 rfl rfl (Nat.le_of_ble_eq_true rfl) ⟨by decide, by decide⟩ ⟨by decide, by decide⟩ ko_38 ?_
  clear hM
  intro r9 τ9 h9
  obtain ⟨rfl, h8⟩ := h9
  rw [h8]
  clear h8 τ9
  generalize x_lookv b t a = v at hK ⊢
  by_cases c4_97 : v = nI 97
  · skip
    subst c4_97
    refine x_tableIn C 112 dX12_takesShift_4 (by decide) (by decide) rfl (by decide) ?_
    refine x_aload_n C (i := 0) dX12_takesShift_112 rfl rfl ?_
    refine x_bipush C (nI 6) dX12_takesShift_113 rfl ?_
    refine x_iconst C (nI 0) dX12_takesShift_115 rfl ?_
    refine x_iconst C (nI 0) dX12_takesShift_116 rfl ?_
    have hM := c_X12_addShift l Y σ 6 0 0 q0 q1 q2 F hF h0 h1 h2 (by omega) (by omega) (by omega)
    refine x_callV C (as := [.int (nI 6), .int (nI 0), .int (nI 0)]) (st := []) (hM) kb_X12_addShift kv_X12_131 dX12_takesShift_117 rfl rfl (Nat.le_of_ble_eq_true rfl) ⟨by decide, by decide⟩ ⟨by decide, by decide⟩ ko_38 ?_
    clear hM
    rintro _ _ ⟨rfl, rfl⟩
    refine x_iconst C (nI 1) dX12_takesShift_120 rfl ?_
    refine x_zret C xr xk dX12_takesShift_121 rfl ?_
    exact hK _ _ ⟨rfl, rfl⟩
  by_cases c4_98 : v = nI 98
  · skip
    subst c4_98
    refine x_tableIn C 122 dX12_takesShift_4 (by decide) (by decide) rfl (by decide) ?_
    refine x_aload_n C (i := 0) dX12_takesShift_122 rfl rfl ?_
    refine x_iconst C (nI 0) dX12_takesShift_123 rfl ?_
    refine x_bipush C (nI 6) dX12_takesShift_124 rfl ?_
    refine x_iconst C (nI 0) dX12_takesShift_126 rfl ?_
    have hM := c_X12_addShift l Y σ 0 6 0 q0 q1 q2 F hF h0 h1 h2 (by omega) (by omega) (by omega)
    refine x_callV C (as := [.int (nI 0), .int (nI 6), .int (nI 0)]) (st := []) (hM) kb_X12_addShift kv_X12_131 dX12_takesShift_127 rfl rfl (Nat.le_of_ble_eq_true rfl) ⟨by decide, by decide⟩ ⟨by decide, by decide⟩ ko_38 ?_
    clear hM
    rintro _ _ ⟨rfl, rfl⟩
    refine x_iconst C (nI 1) dX12_takesShift_130 rfl ?_
    refine x_zret C xr xk dX12_takesShift_131 rfl ?_
    exact hK _ _ ⟨rfl, rfl⟩
  by_cases c4_99 : v = nI 99
  · skip
    subst c4_99
    refine x_tableIn C 132 dX12_takesShift_4 (by decide) (by decide) rfl (by decide) ?_
    refine x_aload_n C (i := 0) dX12_takesShift_132 rfl rfl ?_
    refine x_iconst C (nI 0) dX12_takesShift_133 rfl ?_
    refine x_iconst C (nI 0) dX12_takesShift_134 rfl ?_
    refine x_bipush C (nI 6) dX12_takesShift_135 rfl ?_
    have hM := c_X12_addShift l Y σ 0 0 6 q0 q1 q2 F hF h0 h1 h2 (by omega) (by omega) (by omega)
    refine x_callV C (as := [.int (nI 0), .int (nI 0), .int (nI 6)]) (st := []) (hM) kb_X12_addShift kv_X12_131 dX12_takesShift_137 rfl rfl (Nat.le_of_ble_eq_true rfl) ⟨by decide, by decide⟩ ⟨by decide, by decide⟩ ko_38 ?_
    clear hM
    rintro _ _ ⟨rfl, rfl⟩
    refine x_iconst C (nI 1) dX12_takesShift_140 rfl ?_
    refine x_zret C xr xk dX12_takesShift_141 rfl ?_
    exact hK _ _ ⟨rfl, rfl⟩
  by_cases c4_100 : v = nI 100
  · skip
    subst c4_100
    refine x_tableIn C 181 dX12_takesShift_4 (by decide) (by decide) rfl (by decide) ?_
    refine x_aload_n C (i := 0) dX12_takesShift_181 rfl rfl ?_
    refine x_iconst C (nI 3) dX12_takesShift_182 rfl ?_
    refine x_iconst C (nI 3) dX12_takesShift_183 rfl ?_
    refine x_iconst C (nI 3) dX12_takesShift_184 rfl ?_
    have hM := c_X12_addShift l Y σ 3 3 3 q0 q1 q2 F hF h0 h1 h2 (by omega) (by omega) (by omega)
    refine x_callV C (as := [.int (nI 3), .int (nI 3), .int (nI 3)]) (st := []) (hM) kb_X12_addShift kv_X12_131 dX12_takesShift_185 rfl rfl (Nat.le_of_ble_eq_true rfl) ⟨by decide, by decide⟩ ⟨by decide, by decide⟩ ko_38 ?_
    clear hM
    rintro _ _ ⟨rfl, rfl⟩
    refine x_iconst C (nI 1) dX12_takesShift_188 rfl ?_
    refine x_zret C xr xk dX12_takesShift_189 rfl ?_
    exact hK _ _ ⟨rfl, rfl⟩
  by_cases c4_110 : v = nI 110
  · skip
    subst c4_110
    refine x_tableIn C 142 dX12_takesShift_4 (by decide) (by decide) rfl (by decide) ?_
    refine x_aload_n C (i := 0) dX12_takesShift_142 rfl rfl ?_
    refine x_bipush C (nI 6) dX12_takesShift_143 rfl ?_
    refine x_bipush C (nI 6) dX12_takesShift_145 rfl ?_
    refine x_bipush C (nI 6) dX12_takesShift_147 rfl ?_
    have hM := c_X12_addShift l Y σ 6 6 6 q0 q1 q2 F hF h0 h1 h2 (by omega) (by omega) (by omega)
    refine x_callV C (as := [.int (nI 6), .int (nI 6), .int (nI 6)]) (st := []) (hM) kb_X12_addShift kv_X12_131 dX12_takesShift_149 rfl rfl (Nat.le_of_ble_eq_true rfl) ⟨by decide, by decide⟩ ⟨by decide, by decide⟩ ko_38 ?_
    clear hM
    rintro _ _ ⟨rfl, rfl⟩
    refine x_iconst C (nI 1) dX12_takesShift_152 rfl ?_
    refine x_zret C xr xk dX12_takesShift_153 rfl ?_
    exact hK _ _ ⟨rfl, rfl⟩
  by_cases c4_117 : v = nI 117
  · skip
    subst c4_117
    refine x_tableIn C 154 dX12_takesShift_4 (by decide) (by decide) rfl (by decide) ?_
    refine x_aload_n C (i := 0) dX12_takesShift_154 rfl rfl ?_
    refine x_iconst C (nI 3) dX12_takesShift_155 rfl ?_
    refine x_iconst C (nI 0) dX12_takesShift_156 rfl ?_
    refine x_iconst C (nI 0) dX12_takesShift_157 rfl ?_
    have hM := c_X12_addShift l Y σ 3 0 0 q0 q1 q2 F hF h0 h1 h2 (by omega) (by omega) (by omega)
    refine x_callV C (as := [.int (nI 3), .int (nI 0), .int (nI 0)]) (st := []) (hM) kb_X12_addShift kv_X12_131 dX12_takesShift_158 rfl rfl (Nat.le_of_ble_eq_true rfl) ⟨by decide, by decide⟩ ⟨by decide, by decide⟩ ko_38 ?_
    clear hM
    rintro _ _ ⟨rfl, rfl⟩
    refine x_iconst C (nI 1) dX12_takesShift_161 rfl ?_
    refine x_zret C xr xk dX12_takesShift_162 rfl ?_
    exact hK _ _ ⟨rfl, rfl⟩
  by_cases c4_118 : v = nI 118
  · skip
    subst c4_118
    refine x_tableIn C 163 dX12_takesShift_4 (by decide) (by decide) rfl (by decide) ?_
    refine x_aload_n C (i := 0) dX12_takesShift_163 rfl rfl ?_
    refine x_iconst C (nI 0) dX12_takesShift_164 rfl ?_
    refine x_iconst C (nI 3) dX12_takesShift_165 rfl ?_
    refine x_iconst C (nI 0) dX12_takesShift_166 rfl ?_
    have hM := c_X12_addShift l Y σ 0 3 0 q0 q1 q2 F hF h0 h1 h2 (by omega) (by omega) (by omega)
    refine x_callV C (as := [.int (nI 0), .int (nI 3), .int (nI 0)]) (st := []) (hM) kb_X12_addShift kv_X12_131 dX12_takesShift_167 rfl rfl (Nat.le_of_ble_eq_true rfl) ⟨by decide, by decide⟩ ⟨by decide, by decide⟩ ko_38 ?_
    clear hM
    rintro _ _ ⟨rfl, rfl⟩
    refine x_iconst C (nI 1) dX12_takesShift_170 rfl ?_
    refine x_zret C xr xk dX12_takesShift_171 rfl ?_
    exact hK _ _ ⟨rfl, rfl⟩
  by_cases c4_119 : v = nI 119
  · skip
    subst c4_119
    refine x_tableIn C 172 dX12_takesShift_4 (by decide) (by decide) rfl (by decide) ?_
    refine x_aload_n C (i := 0) dX12_takesShift_172 rfl rfl ?_
    refine x_iconst C (nI 0) dX12_takesShift_173 rfl ?_
    refine x_iconst C (nI 0) dX12_takesShift_174 rfl ?_
    refine x_iconst C (nI 3) dX12_takesShift_175 rfl ?_
    have hM := c_X12_addShift l Y σ 0 0 3 q0 q1 q2 F hF h0 h1 h2 (by omega) (by omega) (by omega)
    refine x_callV C (as := [.int (nI 0), .int (nI 0), .int (nI 3)]) (st := []) (hM) kb_X12_addShift kv_X12_131 dX12_takesShift_176 rfl rfl (Nat.le_of_ble_eq_true rfl) ⟨by decide, by decide⟩ ⟨by decide, by decide⟩ ko_38 ?_
    clear hM
    rintro _ _ ⟨rfl, rfl⟩
    refine x_iconst C (nI 1) dX12_takesShift_179 rfl ?_
    refine x_zret C xr xk dX12_takesShift_180 rfl ?_
    exact hK _ _ ⟨rfl, rfl⟩
  refine x_tdef C 190 dX12_takesShift_4 (fun k9 hk9 hx9 => ?_) (by decide) ?_
  · have hk8 : k9 = 0 ∨ k9 = 1 ∨ k9 = 2 ∨ k9 = 3 ∨ k9 = 4 ∨ k9 = 5 ∨ k9 = 6 ∨ k9 = 7 ∨ k9 = 8 ∨ k9 = 9 ∨ k9 = 10 ∨ k9 = 11 ∨ k9 = 12 ∨ k9 = 13 ∨ k9 = 14 ∨ k9 = 15 ∨ k9 = 16 ∨ k9 = 17 ∨ k9 = 18 ∨ k9 = 19 ∨ k9 = 20 ∨ k9 = 21 ∨ k9 = 22 := by omega
    rcases hk8 with rfl | rfl | rfl | rfl | rfl | rfl | rfl | rfl | rfl | rfl | rfl | rfl | rfl | rfl | rfl | rfl | rfl | rfl | rfl | rfl | rfl | rfl | rfl
    · exact absurd (x_ofInt (n := 97) hx9 (by decide)) c4_97
    · exact absurd (x_ofInt (n := 98) hx9 (by decide)) c4_98
    · exact absurd (x_ofInt (n := 99) hx9 (by decide)) c4_99
    · exact absurd (x_ofInt (n := 100) hx9 (by decide)) c4_100
    · rfl
    · rfl
    · rfl
    · rfl
    · rfl
    · rfl
    · rfl
    · rfl
    · rfl
    · exact absurd (x_ofInt (n := 110) hx9 (by decide)) c4_110
    · rfl
    · rfl
    · rfl
    · rfl
    · rfl
    · rfl
    · exact absurd (x_ofInt (n := 117) hx9 (by decide)) c4_117
    · exact absurd (x_ofInt (n := 118) hx9 (by decide)) c4_118
    · exact absurd (x_ofInt (n := 119) hx9 (by decide)) c4_119
  refine x_iconst C (nI 0) dX12_takesShift_190 rfl ?_
  refine x_zret C xr xk dX12_takesShift_191 rfl ?_
  exact hK _ _ (by have e9 : x_l3 v = (0, 0, 0, false) := by { unfold x_l3; simp [*] }; rw [e9]; exact ⟨rfl, by rw [Nat.add_zero, Nat.add_zero, Nat.add_zero, Nat.mod_eq_of_lt h0, Nat.mod_eq_of_lt h1, Nat.mod_eq_of_lt h2, ← hF]; exact (x_ui_self σ 47).symm⟩)
theorem c_X12_takesShift (l : Launch) (Y : x_Y) (σ : x_S) (b : Nat → Int32) (t a : Nat) (hb : σ.1 39 = b) (ht : σ.1 38 2 = nI t) (ha : σ.1 38 3 = nI a) (ht8 : t ≤ 8000) (ha9 : a ≤ 8001) (q0 q1 q2 : Nat) (F : Nat → Int32) (hF : σ.1 47 = x_ml [nI q0, nI q1, nI q2] F) (h0 : q0 < 12) (h1 : q1 < 12) (h2 : q2 < 12) : x_M l yX12_takesShift cX12_takesShift 1 (some .boolean) 2 Y [.ref 38] σ (fun r τ => r = some (.int (x_z (x_l3 (x_lookv b t a)).2.2.2)) ∧ τ = x_ui σ 47 (x_ml [nI ((q0 + (x_l3 (x_lookv b t a)).1) % 12), nI ((q1 + (x_l3 (x_lookv b t a)).2.1) % 12), nI ((q2 + (x_l3 (x_lookv b t a)).2.2.1) % 12)] F)) := c_X12_takesShift_K l Y σ b t a hb ht ha ht8 ha9 q0 q1 q2 F hF h0 h1 h2 _ (fun _ _ h => h)
set_option maxRecDepth 100000 in
set_option maxHeartbeats 200000 in
theorem c_X12_blanks_K (l : Launch) (Y : x_Y) (σ : x_S) (b : Nat → Int32) (t a : Nat) (hb : σ.1 39 = b) (ht : σ.1 38 2 = nI t) (ha : σ.1 38 3 = nI a) (ht8 : t ≤ 8000) (hat : a ≤ t) (K : Option Value → x_S → Prop) (hK : ∀ (r : Option Value) (τ : x_S), (r = none ∧ τ = x_u σ 38 3 (nI (x_blank b t a))) → K r τ) : x_M l yX12_blanks cX12_blanks 1 none 1 Y [.ref 38] σ K := by
  refine x_start (by decide) (Nat.le_of_ble_eq_true rfl) ?_
  intro xp xe xs xm xg xb xt xc C xr xk
  have lp0 : ∀ (m0 : Nat) (i : Nat), (t - i) = m0 → (i ≤ t) → (x_blank b t i = x_blank b t a) → ∀ L : x_Lo, L.1 0 = some (.ref 38) → x_W xp l xe (x_rm 1) xs xm xg xb xt xc 1 Y 0 0 (MQ xb (x_Q Y K) xg xs 0 0 (x_A Y)) 0 L [] (x_u σ 38 3 (nI i)) := by
    intro m0
    induction m0 using Nat.strongRecOn with
    | _ m0 ih0 =>
      intro i hm0 hi1 hi2 L xl0
      refine x_aload_n C (i := 0) dX12_blanks_0 rfl xl0 ?_
      have hM := c_X12_look l Y (x_u σ 38 3 (nI i)) b t i hb ht rfl ht8 (by omega)
      refine x_callV C (as := []) (st := []) (hM) kb_X12_look kv_X12_110 dX12_blanks_1 rfl rfl (Nat.le_of_ble_eq_true rfl) ⟨by decide, by decide⟩ ⟨by decide, by decide⟩ ko_38 ?_
      clear hM
      intro r9 τ9 h9
      obtain ⟨rfl, h8⟩ := h9
      rw [h8]
      clear h8 τ9
      refine x_bipush C (nI 32) dX12_blanks_4 rfl ?_
      refine x_icmp_ne C 22 dX12_blanks_6 (by decide) (fun c6 => ?_) (fun c6 => ?_)
      · skip
        refine x_vret C xr xk dX12_blanks_22 ?_
        exact hK _ _ ⟨rfl, by rw [← hi2, x_blank_e c6]⟩
      · skip
        refine x_aload_n C (i := 0) dX12_blanks_9 rfl xl0 ?_
        refine x_dup C dX12_blanks_10 rfl ?_
        refine x_getI C fi_38_3 kf_X12_100 dX12_blanks_11 ?_
        refine x_topI (y := nI i) rfl ?_
        refine x_iconst C (nI 1) dX12_blanks_14 rfl ?_
        refine x_iaddN C dX12_blanks_15 ?_
        refine x_putN C fi_38_3 kf_X12_100 rfl rfl dX12_blanks_16 ?_
        refine x_goto C 0 dX12_blanks_19 (by decide) ?_
        have h7 := x_lookv_lt c6 (by decide)
        refine x_sig (σ' := x_u σ 38 3 (nI (i + 1))) (x_u_u _ _ _ _ _) ?_
        exact ih0 _ (by omega) (i + 1) rfl (by omega) (by rw [← hi2]; exact (x_blank_s c6).symm) _ xl0
  refine x_sig (σ' := x_u σ 38 3 (nI a)) (by rw [← ha]; exact (x_u_self σ 38 3).symm) ?_
  exact lp0 _ a rfl hat rfl _ rfl
theorem c_X12_blanks (l : Launch) (Y : x_Y) (σ : x_S) (b : Nat → Int32) (t a : Nat) (hb : σ.1 39 = b) (ht : σ.1 38 2 = nI t) (ha : σ.1 38 3 = nI a) (ht8 : t ≤ 8000) (hat : a ≤ t) : x_M l yX12_blanks cX12_blanks 1 none 1 Y [.ref 38] σ (fun r τ => r = none ∧ τ = x_u σ 38 3 (nI (x_blank b t a))) := c_X12_blanks_K l Y σ b t a hb ht ha ht8 hat _ (fun _ _ h => h)
set_option maxRecDepth 100000 in
set_option maxHeartbeats 200000 in
theorem c_X12_centre_K (l : Launch) (Y : x_Y) (σ : x_S) (a su fi be : Nat) (Gt Gs : List (List Int32)) (f46 f47 : Nat → Int32) (u v w : Int32) (hG : Gs.length = Gt.length) (hG8 : Gt.length ≤ 8) (K : Option Value → x_S → Prop) (hK : ∀ (r : Option Value) (τ : x_S), (r = none ∧ τ = x_pm σ a su fi be (Gt ++ [x_one]) (Gs ++ [[u, v, w]]) (x_ml x_one f46) (x_ml [u, v, w] f47)) → K r τ) : x_M l yX12_centre cX12_centre 4 none 2 Y [.ref 38, .int u, .int v, .int w] (x_pm σ a su fi be Gt Gs f46 f47) K := by
  refine x_start (by decide) (Nat.le_of_ble_eq_true rfl) ?_
  intro xp xe xs xm xg xb xt xc C xr xk
  refine x_aload_n C (i := 0) dX12_centre_0 rfl rfl ?_
  refine x_iconst C (nI 1) dX12_centre_1 rfl ?_
  refine x_iconst C (nI 0) dX12_centre_2 rfl ?_
  refine x_iconst C (nI 0) dX12_centre_3 rfl ?_
  refine x_iconst C (nI 0) dX12_centre_4 rfl ?_
  refine x_iconst C (nI 1) dX12_centre_5 rfl ?_
  refine x_iconst C (nI 0) dX12_centre_6 rfl ?_
  refine x_iconst C (nI 0) dX12_centre_7 rfl ?_
  refine x_iconst C (nI 0) dX12_centre_8 rfl ?_
  refine x_iconst C (nI 1) dX12_centre_9 rfl ?_
  have hM := c_X12_set_K l Y (x_pm σ a su fi be Gt Gs f46 f47) (nI 1) (nI 0) (nI 0) (nI 0) (nI 1) (nI 0) (nI 0) (nI 0) (nI 1) (fun r τ => r = none ∧ τ = x_pm σ a su fi be Gt Gs (x_ml [nI 1, nI 0, nI 0, nI 0, nI 1, nI 0, nI 0, nI 0, nI 1] f46) f47) (by rintro _ _ ⟨rfl, rfl⟩; exact ⟨rfl, x_pm_46 _ _ _ _ _ _ _ _ _ _⟩)
  refine x_callV C (as := [.int (nI 1), .int (nI 0), .int (nI 0), .int (nI 0), .int (nI 1), .int (nI 0), .int (nI 0), .int (nI 0), .int (nI 1)]) (st := []) (hM) kb_X12_set kv_X12_106 dX12_centre_10 rfl rfl (Nat.le_of_ble_eq_true rfl) ⟨by decide, by decide⟩ ⟨by decide, by decide⟩ ko_38 ?_
  clear hM
  rintro _ _ ⟨rfl, rfl⟩
  refine x_aload_n C (i := 0) dX12_centre_13 rfl rfl ?_
  refine x_iload_n C (i := 1) dX12_centre_14 rfl rfl ?_
  refine x_iload_n C (i := 2) dX12_centre_15 rfl rfl ?_
  refine x_iload_n C (i := 3) dX12_centre_16 rfl rfl ?_
  have hM := c_X12_setShift_K l Y (x_pm σ a su fi be Gt Gs (x_ml [nI 1, nI 0, nI 0, nI 0, nI 1, nI 0, nI 0, nI 0, nI 1] f46) f47) u v w (fun r τ => r = none ∧ τ = x_pm σ a su fi be Gt Gs (x_ml [nI 1, nI 0, nI 0, nI 0, nI 1, nI 0, nI 0, nI 0, nI 1] f46) (x_ml [u, v, w] f47)) (by rintro _ _ ⟨rfl, rfl⟩; exact ⟨rfl, x_pm_47 _ _ _ _ _ _ _ _ _ _⟩)
  refine x_callV C (as := [.int u, .int v, .int w]) (st := []) (hM) kb_X12_setShift kv_X12_127 dX12_centre_17 rfl rfl (Nat.le_of_ble_eq_true rfl) ⟨by decide, by decide⟩ ⟨by decide, by decide⟩ ko_38 ?_
  clear hM
  rintro _ _ ⟨rfl, rfl⟩
  refine x_aload_n C (i := 0) dX12_centre_20 rfl rfl ?_
  have hM := c_X12_generate_K l Y (x_pm σ a su fi be Gt Gs (x_ml [nI 1, nI 0, nI 0, nI 0, nI 1, nI 0, nI 0, nI 0, nI 1] f46) (x_ml [u, v, w] f47)) (List.length Gt) rfl (by omega) (fun r τ => r = none ∧ τ = x_pm σ a su fi be (Gt ++ [[nI 1, nI 0, nI 0, nI 0, nI 1, nI 0, nI 0, nI 0, nI 1]]) (Gs ++ [[u, v, w]]) (x_ml [nI 1, nI 0, nI 0, nI 0, nI 1, nI 0, nI 0, nI 0, nI 1] f46) (x_ml [u, v, w] f47)) (by rintro _ _ ⟨rfl, rfl⟩; exact ⟨rfl, x_pm_gen σ a su fi be Gt Gs [nI 1, nI 0, nI 0, nI 0, nI 1, nI 0, nI 0, nI 0, nI 1] [u, v, w] f46 f47 rfl rfl hG⟩)
  refine x_callV C (as := []) (st := []) (hM) kb_X12_generate kv_X12_153 dX12_centre_21 rfl rfl (Nat.le_of_ble_eq_true rfl) ⟨by decide, by decide⟩ ⟨by decide, by decide⟩ ko_38 ?_
  clear hM
  rintro _ _ ⟨rfl, rfl⟩
  refine x_vret C xr xk dX12_centre_24 ?_
  exact hK _ _ ⟨rfl, rfl⟩
theorem c_X12_centre (l : Launch) (Y : x_Y) (σ : x_S) (a su fi be : Nat) (Gt Gs : List (List Int32)) (f46 f47 : Nat → Int32) (u v w : Int32) (hG : Gs.length = Gt.length) (hG8 : Gt.length ≤ 8) : x_M l yX12_centre cX12_centre 4 none 2 Y [.ref 38, .int u, .int v, .int w] (x_pm σ a su fi be Gt Gs f46 f47) (fun r τ => r = none ∧ τ = x_pm σ a su fi be (Gt ++ [x_one]) (Gs ++ [[u, v, w]]) (x_ml x_one f46) (x_ml [u, v, w] f47)) := c_X12_centre_K l Y σ a su fi be Gt Gs f46 f47 u v w hG hG8 _ (fun _ _ h => h)
set_option maxRecDepth 100000 in
set_option maxHeartbeats 200000 in
theorem c_X12_letter_K (l : Launch) (Y : x_Y) (σ : x_S) (a su fi be : Nat) (Gt Gs : List (List Int32)) (f46 f47 : Nat → Int32) (b : Nat → Int32) (t : Nat) (hb : σ.1 39 = b) (ht : σ.1 38 2 = nI t) (ht8 : t ≤ 8000) (hat : a ≤ t) (hG : Gs.length = Gt.length) (hG8 : Gt.length ≤ 1) (K : Option Value → x_S → Prop) (hK : ∀ (r : Option Value) (τ : x_S), ((x_cen (x_lookv b t a) = none ∧ r = some (.int (x_z false)) ∧ τ = x_pm σ a su fi be Gt Gs f46 f47) ∨ (∃ Cs g46 g47, x_cen (x_lookv b t a) = some Cs ∧ r = some (.int (x_z true)) ∧ τ = x_pm σ a su fi be (Gt ++ Cs.map (fun _ => x_one)) (Gs ++ Cs) g46 g47)) → K r τ) : x_M l yX12_letter cX12_letter 1 (some .boolean) 3 Y [.ref 38] (x_pm σ a su fi be Gt Gs f46 f47) K := by
  refine x_start (by decide) (Nat.le_of_ble_eq_true rfl) ?_
  intro xp xe xs xm xg xb xt xc C xr xk
  refine x_aload_n C (i := 0) dX12_letter_0 rfl rfl ?_
  have hM := c_X12_look l Y (x_pm σ a su fi be Gt Gs f46 f47) b t a hb ht rfl ht8 (by omega)
  refine x_callV C (as := []) (st := []) (hM) kb_X12_look kv_X12_110 dX12_letter_1 rfl rfl (Nat.le_of_ble_eq_true rfl) ⟨by decide, by decide⟩ ⟨by decide, by decide⟩ ko_38 ?_
  clear hM
  intro r9 τ9 h9
  obtain ⟨rfl, h8⟩ := h9
  rw [h8]
  clear h8 τ9
  generalize x_lookv b t a = v at hK ⊢
  by_cases c4_65 : v = nI 65
  · skip
    subst c4_65
    refine x_tableIn C 94 dX12_letter_4 (by decide) (by decide) rfl (by decide) ?_
    refine x_aload_n C (i := 0) dX12_letter_94 rfl rfl ?_
    refine x_iconst C (nI 0) dX12_letter_95 rfl ?_
    refine x_bipush C (nI 6) dX12_letter_96 rfl ?_
    refine x_bipush C (nI 6) dX12_letter_98 rfl ?_
    have hM := c_X12_centre l Y σ a su fi be Gt Gs f46 f47 (nI 0) (nI 6) (nI 6) hG (by omega)
    refine x_callV C (as := [.int (nI 0), .int (nI 6), .int (nI 6)]) (st := []) (hM) kb_X12_centre kv_X12_156 dX12_letter_100 rfl rfl (Nat.le_of_ble_eq_true rfl) ⟨by decide, by decide⟩ ⟨by decide, by decide⟩ ko_38 ?_
    clear hM
    rintro _ _ ⟨rfl, rfl⟩
    refine x_iconst C (nI 1) dX12_letter_103 rfl ?_
    refine x_zret C xr xk dX12_letter_104 rfl ?_
    exact hK _ _ (Or.inr ⟨_, _, _, rfl, rfl, by first | rfl | (simp only [List.map_nil, List.append_nil]; rfl) | (simp only [List.map_cons, List.map_nil, List.append_assoc, List.cons_append, List.nil_append]; rfl)⟩)
  by_cases c4_66 : v = nI 66
  · skip
    subst c4_66
    refine x_tableIn C 105 dX12_letter_4 (by decide) (by decide) rfl (by decide) ?_
    refine x_aload_n C (i := 0) dX12_letter_105 rfl rfl ?_
    refine x_bipush C (nI 6) dX12_letter_106 rfl ?_
    refine x_iconst C (nI 0) dX12_letter_108 rfl ?_
    refine x_bipush C (nI 6) dX12_letter_109 rfl ?_
    have hM := c_X12_centre l Y σ a su fi be Gt Gs f46 f47 (nI 6) (nI 0) (nI 6) hG (by omega)
    refine x_callV C (as := [.int (nI 6), .int (nI 0), .int (nI 6)]) (st := []) (hM) kb_X12_centre kv_X12_156 dX12_letter_111 rfl rfl (Nat.le_of_ble_eq_true rfl) ⟨by decide, by decide⟩ ⟨by decide, by decide⟩ ko_38 ?_
    clear hM
    rintro _ _ ⟨rfl, rfl⟩
    refine x_iconst C (nI 1) dX12_letter_114 rfl ?_
    refine x_zret C xr xk dX12_letter_115 rfl ?_
    exact hK _ _ (Or.inr ⟨_, _, _, rfl, rfl, by first | rfl | (simp only [List.map_nil, List.append_nil]; rfl) | (simp only [List.map_cons, List.map_nil, List.append_assoc, List.cons_append, List.nil_append]; rfl)⟩)
  by_cases c4_67 : v = nI 67
  · skip
    subst c4_67
    refine x_tableIn C 116 dX12_letter_4 (by decide) (by decide) rfl (by decide) ?_
    refine x_aload_n C (i := 0) dX12_letter_116 rfl rfl ?_
    refine x_bipush C (nI 6) dX12_letter_117 rfl ?_
    refine x_bipush C (nI 6) dX12_letter_119 rfl ?_
    refine x_iconst C (nI 0) dX12_letter_121 rfl ?_
    have hM := c_X12_centre l Y σ a su fi be Gt Gs f46 f47 (nI 6) (nI 6) (nI 0) hG (by omega)
    refine x_callV C (as := [.int (nI 6), .int (nI 6), .int (nI 0)]) (st := []) (hM) kb_X12_centre kv_X12_156 dX12_letter_122 rfl rfl (Nat.le_of_ble_eq_true rfl) ⟨by decide, by decide⟩ ⟨by decide, by decide⟩ ko_38 ?_
    clear hM
    rintro _ _ ⟨rfl, rfl⟩
    refine x_iconst C (nI 1) dX12_letter_125 rfl ?_
    refine x_zret C xr xk dX12_letter_126 rfl ?_
    exact hK _ _ (Or.inr ⟨_, _, _, rfl, rfl, by first | rfl | (simp only [List.map_nil, List.append_nil]; rfl) | (simp only [List.map_cons, List.map_nil, List.append_assoc, List.cons_append, List.nil_append]; rfl)⟩)
  by_cases c4_70 : v = nI 70
  · skip
    subst c4_70
    refine x_tableIn C 158 dX12_letter_4 (by decide) (by decide) rfl (by decide) ?_
    refine x_aload_n C (i := 0) dX12_letter_158 rfl rfl ?_
    refine x_iconst C (nI 0) dX12_letter_159 rfl ?_
    refine x_bipush C (nI 6) dX12_letter_160 rfl ?_
    refine x_bipush C (nI 6) dX12_letter_162 rfl ?_
    have hM := c_X12_centre l Y σ a su fi be Gt Gs f46 f47 (nI 0) (nI 6) (nI 6) hG (by omega)
    refine x_callV C (as := [.int (nI 0), .int (nI 6), .int (nI 6)]) (st := []) (hM) kb_X12_centre kv_X12_156 dX12_letter_164 rfl rfl (Nat.le_of_ble_eq_true rfl) ⟨by decide, by decide⟩ ⟨by decide, by decide⟩ ko_38 ?_
    clear hM
    rintro _ _ ⟨rfl, rfl⟩
    refine x_aload_n C (i := 0) dX12_letter_167 rfl rfl ?_
    refine x_bipush C (nI 6) dX12_letter_168 rfl ?_
    refine x_iconst C (nI 0) dX12_letter_170 rfl ?_
    refine x_bipush C (nI 6) dX12_letter_171 rfl ?_
    have hM := c_X12_centre_K l Y σ a su fi be (Gt ++ [x_one]) (Gs ++ [[nI 0, nI 6, nI 6]]) (x_ml x_one f46) (x_ml [nI 0, nI 6, nI 6] f47) (nI 6) (nI 0) (nI 6) (by simp only [List.length_append, List.length_cons, List.length_nil]; omega) (by simp only [List.length_append, List.length_cons, List.length_nil]; omega) (fun r τ => r = none ∧ τ = x_pm σ a su fi be (Gt ++ [x_one] ++ [x_one]) (Gs ++ [[nI 0, nI 6, nI 6]] ++ [[nI 6, nI 0, nI 6]]) (x_ml x_one f46) (x_ml [nI 6, nI 0, nI 6] f47)) (by rintro _ _ ⟨rfl, rfl⟩; exact ⟨rfl, (by rw [x_ml_ml x_one x_one _ (Nat.le_refl _), x_ml_ml [nI 6, nI 0, nI 6] [nI 0, nI 6, nI 6] _ (Nat.le_refl 3)])⟩)
    refine x_callV C (as := [.int (nI 6), .int (nI 0), .int (nI 6)]) (st := []) (hM) kb_X12_centre kv_X12_156 dX12_letter_173 rfl rfl (Nat.le_of_ble_eq_true rfl) ⟨by decide, by decide⟩ ⟨by decide, by decide⟩ ko_38 ?_
    clear hM
    rintro _ _ ⟨rfl, rfl⟩
    refine x_aload_n C (i := 0) dX12_letter_176 rfl rfl ?_
    refine x_bipush C (nI 6) dX12_letter_177 rfl ?_
    refine x_bipush C (nI 6) dX12_letter_179 rfl ?_
    refine x_iconst C (nI 0) dX12_letter_181 rfl ?_
    have hM := c_X12_centre_K l Y σ a su fi be (Gt ++ [x_one] ++ [x_one]) (Gs ++ [[nI 0, nI 6, nI 6]] ++ [[nI 6, nI 0, nI 6]]) (x_ml x_one f46) (x_ml [nI 6, nI 0, nI 6] f47) (nI 6) (nI 6) (nI 0) (by simp only [List.length_append, List.length_cons, List.length_nil]; omega) (by simp only [List.length_append, List.length_cons, List.length_nil]; omega) (fun r τ => r = none ∧ τ = x_pm σ a su fi be (Gt ++ [x_one] ++ [x_one] ++ [x_one]) (Gs ++ [[nI 0, nI 6, nI 6]] ++ [[nI 6, nI 0, nI 6]] ++ [[nI 6, nI 6, nI 0]]) (x_ml x_one f46) (x_ml [nI 6, nI 6, nI 0] f47)) (by rintro _ _ ⟨rfl, rfl⟩; exact ⟨rfl, (by rw [x_ml_ml x_one x_one _ (Nat.le_refl _), x_ml_ml [nI 6, nI 6, nI 0] [nI 6, nI 0, nI 6] _ (Nat.le_refl 3)])⟩)
    refine x_callV C (as := [.int (nI 6), .int (nI 6), .int (nI 0)]) (st := []) (hM) kb_X12_centre kv_X12_156 dX12_letter_182 rfl rfl (Nat.le_of_ble_eq_true rfl) ⟨by decide, by decide⟩ ⟨by decide, by decide⟩ ko_38 ?_
    clear hM
    rintro _ _ ⟨rfl, rfl⟩
    refine x_iconst C (nI 1) dX12_letter_185 rfl ?_
    refine x_zret C xr xk dX12_letter_186 rfl ?_
    exact hK _ _ (Or.inr ⟨_, _, _, rfl, rfl, by first | rfl | (simp only [List.map_nil, List.append_nil]; rfl) | (simp only [List.map_cons, List.map_nil, List.append_assoc, List.cons_append, List.nil_append]; rfl)⟩)
  by_cases c4_73 : v = nI 73
  · skip
    subst c4_73
    refine x_tableIn C 127 dX12_letter_4 (by decide) (by decide) rfl (by decide) ?_
    refine x_aload_n C (i := 0) dX12_letter_127 rfl rfl ?_
    refine x_bipush C (nI 6) dX12_letter_128 rfl ?_
    refine x_bipush C (nI 6) dX12_letter_130 rfl ?_
    refine x_bipush C (nI 6) dX12_letter_132 rfl ?_
    have hM := c_X12_centre l Y σ a su fi be Gt Gs f46 f47 (nI 6) (nI 6) (nI 6) hG (by omega)
    refine x_callV C (as := [.int (nI 6), .int (nI 6), .int (nI 6)]) (st := []) (hM) kb_X12_centre kv_X12_156 dX12_letter_134 rfl rfl (Nat.le_of_ble_eq_true rfl) ⟨by decide, by decide⟩ ⟨by decide, by decide⟩ ko_38 ?_
    clear hM
    rintro _ _ ⟨rfl, rfl⟩
    refine x_iconst C (nI 1) dX12_letter_137 rfl ?_
    refine x_zret C xr xk dX12_letter_138 rfl ?_
    exact hK _ _ (Or.inr ⟨_, _, _, rfl, rfl, by first | rfl | (simp only [List.map_nil, List.append_nil]; rfl) | (simp only [List.map_cons, List.map_nil, List.append_assoc, List.cons_append, List.nil_append]; rfl)⟩)
  by_cases c4_80 : v = nI 80
  · skip
    subst c4_80
    refine x_tableIn C 92 dX12_letter_4 (by decide) (by decide) rfl (by decide) ?_
    refine x_iconst C (nI 1) dX12_letter_92 rfl ?_
    refine x_zret C xr xk dX12_letter_93 rfl ?_
    exact hK _ _ (Or.inr ⟨_, _, _, rfl, rfl, by first | rfl | (simp only [List.map_nil, List.append_nil]; rfl) | (simp only [List.map_cons, List.map_nil, List.append_assoc, List.cons_append, List.nil_append]; rfl)⟩)
  by_cases c4_82 : v = nI 82
  · skip
    subst c4_82
    refine x_tableIn C 139 dX12_letter_4 (by decide) (by decide) rfl (by decide) ?_
    refine x_aload_n C (i := 0) dX12_letter_139 rfl rfl ?_
    refine x_bipush C (nI 8) dX12_letter_140 rfl ?_
    refine x_iconst C (nI 4) dX12_letter_142 rfl ?_
    refine x_iconst C (nI 4) dX12_letter_143 rfl ?_
    have hM := c_X12_centre l Y σ a su fi be Gt Gs f46 f47 (nI 8) (nI 4) (nI 4) hG (by omega)
    refine x_callV C (as := [.int (nI 8), .int (nI 4), .int (nI 4)]) (st := []) (hM) kb_X12_centre kv_X12_156 dX12_letter_144 rfl rfl (Nat.le_of_ble_eq_true rfl) ⟨by decide, by decide⟩ ⟨by decide, by decide⟩ ko_38 ?_
    clear hM
    rintro _ _ ⟨rfl, rfl⟩
    refine x_aload_n C (i := 0) dX12_letter_147 rfl rfl ?_
    refine x_iconst C (nI 4) dX12_letter_148 rfl ?_
    refine x_bipush C (nI 8) dX12_letter_149 rfl ?_
    refine x_bipush C (nI 8) dX12_letter_151 rfl ?_
    have hM := c_X12_centre_K l Y σ a su fi be (Gt ++ [x_one]) (Gs ++ [[nI 8, nI 4, nI 4]]) (x_ml x_one f46) (x_ml [nI 8, nI 4, nI 4] f47) (nI 4) (nI 8) (nI 8) (by simp only [List.length_append, List.length_cons, List.length_nil]; omega) (by simp only [List.length_append, List.length_cons, List.length_nil]; omega) (fun r τ => r = none ∧ τ = x_pm σ a su fi be (Gt ++ [x_one] ++ [x_one]) (Gs ++ [[nI 8, nI 4, nI 4]] ++ [[nI 4, nI 8, nI 8]]) (x_ml x_one f46) (x_ml [nI 4, nI 8, nI 8] f47)) (by rintro _ _ ⟨rfl, rfl⟩; exact ⟨rfl, (by rw [x_ml_ml x_one x_one _ (Nat.le_refl _), x_ml_ml [nI 4, nI 8, nI 8] [nI 8, nI 4, nI 4] _ (Nat.le_refl 3)])⟩)
    refine x_callV C (as := [.int (nI 4), .int (nI 8), .int (nI 8)]) (st := []) (hM) kb_X12_centre kv_X12_156 dX12_letter_153 rfl rfl (Nat.le_of_ble_eq_true rfl) ⟨by decide, by decide⟩ ⟨by decide, by decide⟩ ko_38 ?_
    clear hM
    rintro _ _ ⟨rfl, rfl⟩
    refine x_iconst C (nI 1) dX12_letter_156 rfl ?_
    refine x_zret C xr xk dX12_letter_157 rfl ?_
    exact hK _ _ (Or.inr ⟨_, _, _, rfl, rfl, by first | rfl | (simp only [List.map_nil, List.append_nil]; rfl) | (simp only [List.map_cons, List.map_nil, List.append_assoc, List.cons_append, List.nil_append]; rfl)⟩)
  refine x_tdef C 187 dX12_letter_4 (fun k9 hk9 hx9 => ?_) (by decide) ?_
  · have hk8 : k9 = 0 ∨ k9 = 1 ∨ k9 = 2 ∨ k9 = 3 ∨ k9 = 4 ∨ k9 = 5 ∨ k9 = 6 ∨ k9 = 7 ∨ k9 = 8 ∨ k9 = 9 ∨ k9 = 10 ∨ k9 = 11 ∨ k9 = 12 ∨ k9 = 13 ∨ k9 = 14 ∨ k9 = 15 ∨ k9 = 16 ∨ k9 = 17 := by omega
    rcases hk8 with rfl | rfl | rfl | rfl | rfl | rfl | rfl | rfl | rfl | rfl | rfl | rfl | rfl | rfl | rfl | rfl | rfl | rfl
    · exact absurd (x_ofInt (n := 65) hx9 (by decide)) c4_65
    · exact absurd (x_ofInt (n := 66) hx9 (by decide)) c4_66
    · exact absurd (x_ofInt (n := 67) hx9 (by decide)) c4_67
    · rfl
    · rfl
    · exact absurd (x_ofInt (n := 70) hx9 (by decide)) c4_70
    · rfl
    · rfl
    · exact absurd (x_ofInt (n := 73) hx9 (by decide)) c4_73
    · rfl
    · rfl
    · rfl
    · rfl
    · rfl
    · rfl
    · exact absurd (x_ofInt (n := 80) hx9 (by decide)) c4_80
    · rfl
    · exact absurd (x_ofInt (n := 82) hx9 (by decide)) c4_82
  refine x_iconst C (nI 0) dX12_letter_187 rfl ?_
  refine x_zret C xr xk dX12_letter_188 rfl ?_
  exact hK _ _ (Or.inl ⟨by unfold x_cen; simp [*], rfl, rfl⟩)
theorem c_X12_letter (l : Launch) (Y : x_Y) (σ : x_S) (a su fi be : Nat) (Gt Gs : List (List Int32)) (f46 f47 : Nat → Int32) (b : Nat → Int32) (t : Nat) (hb : σ.1 39 = b) (ht : σ.1 38 2 = nI t) (ht8 : t ≤ 8000) (hat : a ≤ t) (hG : Gs.length = Gt.length) (hG8 : Gt.length ≤ 1) : x_M l yX12_letter cX12_letter 1 (some .boolean) 3 Y [.ref 38] (x_pm σ a su fi be Gt Gs f46 f47) (fun r τ => (x_cen (x_lookv b t a) = none ∧ r = some (.int (x_z false)) ∧ τ = x_pm σ a su fi be Gt Gs f46 f47) ∨ (∃ Cs g46 g47, x_cen (x_lookv b t a) = some Cs ∧ r = some (.int (x_z true)) ∧ τ = x_pm σ a su fi be (Gt ++ Cs.map (fun _ => x_one)) (Gs ++ Cs) g46 g47)) := c_X12_letter_K l Y σ a su fi be Gt Gs f46 f47 b t hb ht ht8 hat hG hG8 _ (fun _ _ h => h)
