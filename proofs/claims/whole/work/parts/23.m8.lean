set_option maxRecDepth 100000 in
set_option maxHeartbeats 200000 in
theorem c_X12_keep_K (l : Launch) (Y : x_Y) (σ : x_S) (Os : List x_O) (hO : x_ok Os) (hO9 : Os.length ≤ 192) (hH : x_hold σ Os) (hmd : σ.1 38 7 = nI Os.length) (K : Option Value → x_S → Prop) (hK : ∀ (r : Option Value) (τ : x_S), (∃ f46 f47, r = none ∧ τ = x_u (x_kp σ (x_kt Os Os.length (σ.1 40)) (x_ks Os Os.length (σ.1 41)) f46 f47) 38 4 (nI Os.length)) → K r τ) : x_M l yX12_keep cX12_keep 4 none 1 Y [.ref 38] σ K := by
  refine x_start (by decide) (Nat.le_of_ble_eq_true rfl) ?_
  intro xp xe xs xm xg xb xt xc C xr xk
  have hH0 := hH
  refine x_sig (σ' := x_kp σ (σ.1 40) (σ.1 41) (σ.1 46) (σ.1 47)) (x_kp_start σ) ?_
  refine x_iconst C (nI 0) dX12_keep_0 rfl ?_
  refine x_istore_n C (i := 1) dX12_keep_1 rfl (by decide) ?_
  have lp2 : ∀ (m2 : Nat) (i : Nat) (f46 : Nat → Int32) (f47 : Nat → Int32), (Os.length - i) = m2 → (i ≤ Os.length) → ∀ L : x_Lo, L.1 0 = some (.ref 38) → L.1 1 = some (.int (nI i)) → x_W xp l xe (x_rm 1) xs xm xg xb xt xc 4 Y 0 0 (MQ xb (x_Q Y K) xg xs 0 0 (x_A Y)) 2 L [] (x_kp σ (x_kt Os i (σ.1 40)) (x_ks Os i (σ.1 41)) f46 f47) := by
    intro m2
    induction m2 using Nat.strongRecOn with
    | _ m2 ih2 =>
      intro i f46 f47 hm2 hi L xl0 xl1
      refine x_iload_n C (i := 1) dX12_keep_2 rfl xl1 ?_
      refine x_aload_n C (i := 0) dX12_keep_3 rfl xl0 ?_
      refine x_getI C fi_38_7 kf_X12_168 dX12_keep_4 ?_
      refine x_topI (y := nI Os.length) hmd ?_
      refine x_icmp_geN C 170 dX12_keep_7 (by decide) (by omega) (by omega) (fun c7 => ?_) (fun c7 => ?_)
      · skip
        have c7' := Nat.not_lt.mpr c7
        obtain rfl : i = Os.length := by omega
        refine x_aload_n C (i := 0) dX12_keep_170 rfl xl0 ?_
        refine x_aload_n C (i := 0) dX12_keep_171 rfl xl0 ?_
        refine x_getI C fi_38_7 kf_X12_168 dX12_keep_172 ?_
        refine x_topI (y := nI Os.length) hmd ?_
        refine x_putN C fi_38_4 kf_X12_183 rfl rfl dX12_keep_175 ?_
        refine x_vret C xr xk dX12_keep_178 ?_
        exact hK _ _ ⟨_, _, rfl, rfl⟩
      · skip
        have c7' := Nat.not_le.mpr c7
        obtain ⟨q, hq⟩ : ∃ q, Os[i]? = some q := ⟨_, List.getElem?_eq_getElem (by omega)⟩
        have hq9 := x_ok_at hO hq
        obtain ⟨g46, hg46⟩ : ∃ g, g = f46 := ⟨_, rfl⟩
        obtain ⟨g47, hg47⟩ : ∃ g, g = f47 := ⟨_, rfl⟩
        rw [← hg46, ← hg47]
        refine x_iconst C (nI 0) dX12_keep_10 rfl ?_
        refine x_istore_n C (i := 2) dX12_keep_11 rfl (by decide) ?_
        have lp12 : ∀ (m12 : Nat) (k : Nat), (9 - k) = m12 → (k ≤ 9) → ∀ L : x_Lo, L.1 0 = some (.ref 38) → L.1 1 = some (.int (nI i)) → L.1 2 = some (.int (nI k)) → x_W xp l xe (x_rm 1) xs xm xg xb xt xc 4 Y 0 0 (MQ xb (x_Q Y K) xg xs 0 0 (x_A Y)) 12 L [] (x_kp σ (x_kt Os i (σ.1 40)) (x_ks Os i (σ.1 41)) (va_cpy (σ.1 42) g46 (9 * i) 0 k) g47) := by
          intro m12
          induction m12 using Nat.strongRecOn with
          | _ m12 ih12 =>
            intro k hm12 hk9 L xl0 xl1 xl2
            refine x_iload_n C (i := 2) dX12_keep_12 rfl xl2 ?_
            refine x_bipush C (nI 9) dX12_keep_13 rfl ?_
            refine x_icmp_geN C 41 dX12_keep_15 (by decide) (by omega) (by omega) (fun c15 => ?_) (fun c15 => ?_)
            · skip
              have c15' := Nat.not_lt.mpr c15
              obtain rfl : k = 9 := by omega
              refine x_iconst C (nI 0) dX12_keep_41 rfl ?_
              refine x_istore_n C (i := 2) dX12_keep_42 rfl (by decide) ?_
              have lp43 : ∀ (m43 : Nat) (k : Nat), (3 - k) = m43 → (k ≤ 3) → ∀ L : x_Lo, L.1 0 = some (.ref 38) → L.1 1 = some (.int (nI i)) → L.1 2 = some (.int (nI k)) → x_W xp l xe (x_rm 1) xs xm xg xb xt xc 4 Y 0 0 (MQ xb (x_Q Y K) xg xs 0 0 (x_A Y)) 43 L [] (x_kp σ (x_kt Os i (σ.1 40)) (x_ks Os i (σ.1 41)) (x_ml q.1 g46) (va_cpy (σ.1 43) g47 (3 * i) 0 k)) := by
                intro m43
                induction m43 using Nat.strongRecOn with
                | _ m43 ih43 =>
                  intro k hm43 hk3 L xl0 xl1 xl2
                  refine x_iload_n C (i := 2) dX12_keep_43 rfl xl2 ?_
                  refine x_iconst C (nI 3) dX12_keep_44 rfl ?_
                  refine x_icmp_geN C 70 dX12_keep_45 (by decide) (by omega) (by omega) (fun c45 => ?_) (fun c45 => ?_)
                  · skip
                    have c45' := Nat.not_lt.mpr c45
                    obtain rfl : k = 3 := by omega
                    refine x_iconst C (nI 0) dX12_keep_70 rfl ?_
                    refine x_istore_n C (i := 2) dX12_keep_71 rfl (by decide) ?_
                    refine x_iconst C (nI 0) dX12_keep_72 rfl ?_
                    refine x_istore_n C (i := 3) dX12_keep_73 rfl (by decide) ?_
                    have lp74 : ∀ (m74 : Nat) (j : Nat) (pl : Nat), (Os.length - j) = m74 → (j ≤ Os.length) → (pl = x_rank q (Os.take j)) → (pl ≤ j) → ∀ L : x_Lo, L.1 0 = some (.ref 38) → L.1 1 = some (.int (nI i)) → L.1 2 = some (.int (nI pl)) → L.1 3 = some (.int (nI j)) → x_W xp l xe (x_rm 1) xs xm xg xb xt xc 4 Y 0 0 (MQ xb (x_Q Y K) xg xs 0 0 (x_A Y)) 74 L [] (x_kp σ (x_kt Os i (σ.1 40)) (x_ks Os i (σ.1 41)) (x_ml q.1 g46) (x_ml q.2 g47)) := by
                      intro m74
                      induction m74 using Nat.strongRecOn with
                      | _ m74 ih74 =>
                        intro j pl hm74 hj hpl hpj L xl0 xl1 xl2 xl3
                        refine x_iload_n C (i := 3) dX12_keep_74 rfl xl3 ?_
                        refine x_aload_n C (i := 0) dX12_keep_75 rfl xl0 ?_
                        refine x_getI C fi_38_7 kf_X12_168 dX12_keep_76 ?_
                        refine x_topI (y := nI Os.length) hmd ?_
                        refine x_icmp_geN C 104 dX12_keep_79 (by decide) (by omega) (by omega) (fun c79 => ?_) (fun c79 => ?_)
                        · skip
                          have c79' := Nat.not_lt.mpr c79
                          obtain rfl : j = Os.length := by omega
                          rw [List.take_length] at hpl
                          have hpl2 : pl < Os.length := by rw [hpl]; exact x_rank_lt (List.mem_of_getElem? hq) (by rw [x_cmp_self]; decide)
                          refine x_iconst C (nI 0) dX12_keep_104 rfl ?_
                          refine x_istore_n C (i := 3) dX12_keep_105 rfl (by decide) ?_
                          have lp106 : ∀ (m106 : Nat) (k : Nat), (9 - k) = m106 → (k ≤ 9) → ∀ L : x_Lo, L.1 0 = some (.ref 38) → L.1 1 = some (.int (nI i)) → L.1 2 = some (.int (nI pl)) → L.1 3 = some (.int (nI k)) → x_W xp l xe (x_rm 1) xs xm xg xb xt xc 4 Y 0 0 (MQ xb (x_Q Y K) xg xs 0 0 (x_A Y)) 106 L [] (x_kp σ (va_cpy (x_ml q.1 g46) (x_kt Os i (σ.1 40)) 0 (9 * pl) k) (x_ks Os i (σ.1 41)) (x_ml q.1 g46) (x_ml q.2 g47)) := by
                            intro m106
                            induction m106 using Nat.strongRecOn with
                            | _ m106 ih106 =>
                              intro k hm106 hk9 L xl0 xl1 xl2 xl3
                              refine x_iload_n C (i := 3) dX12_keep_106 rfl xl3 ?_
                              refine x_bipush C (nI 9) dX12_keep_107 rfl ?_
                              refine x_icmp_geN C 135 dX12_keep_109 (by decide) (by omega) (by omega) (fun c109 => ?_) (fun c109 => ?_)
                              · skip
                                have c109' := Nat.not_lt.mpr c109
                                obtain rfl : k = 9 := by omega
                                refine x_iconst C (nI 0) dX12_keep_135 rfl ?_
                                refine x_istore_n C (i := 3) dX12_keep_136 rfl (by decide) ?_
                                have lp137 : ∀ (m137 : Nat) (k : Nat), (3 - k) = m137 → (k ≤ 3) → ∀ L : x_Lo, L.1 0 = some (.ref 38) → L.1 1 = some (.int (nI i)) → L.1 2 = some (.int (nI pl)) → L.1 3 = some (.int (nI k)) → x_W xp l xe (x_rm 1) xs xm xg xb xt xc 4 Y 0 0 (MQ xb (x_Q Y K) xg xs 0 0 (x_A Y)) 137 L [] (x_kp σ (x_pl q.1 (x_kt Os i (σ.1 40)) (9 * pl)) (va_cpy (x_ml q.2 g47) (x_ks Os i (σ.1 41)) 0 (3 * pl) k) (x_ml q.1 g46) (x_ml q.2 g47)) := by
                                  intro m137
                                  induction m137 using Nat.strongRecOn with
                                  | _ m137 ih137 =>
                                    intro k hm137 hk3 L xl0 xl1 xl2 xl3
                                    refine x_iload_n C (i := 3) dX12_keep_137 rfl xl3 ?_
                                    refine x_iconst C (nI 3) dX12_keep_138 rfl ?_
                                    refine x_icmp_geN C 164 dX12_keep_139 (by decide) (by omega) (by omega) (fun c139 => ?_) (fun c139 => ?_)
                                    · skip
                                      have c139' := Nat.not_lt.mpr c139
                                      obtain rfl : k = 3 := by omega
                                      refine x_sig (σ' := x_kp σ (x_pl q.1 (x_kt Os i (σ.1 40)) (9 * pl)) (x_pl q.2 (x_ks Os i (σ.1 41)) (3 * pl)) (x_ml q.1 g46) (x_ml q.2 g47)) (by rw [x_pl_of hq9.2]) ?_
                                      refine x_iincN C (i := 1) (b := 1) dX12_keep_164 xl1 rfl (by decide) ?_
                                      refine x_goto C 2 dX12_keep_167 (by decide) ?_
                                      refine x_sig (σ' := x_kp σ (x_kt Os (i + 1) (σ.1 40)) (x_ks Os (i + 1) (σ.1 41)) (x_ml q.1 g46) (x_ml q.2 g47)) (by rw [x_kt_s hq, x_ks_s hq, ← hpl]) ?_
                                      exact ih2 _ (by omega) (i + 1) (x_ml q.1 g46) (x_ml q.2 g47) rfl (by omega) _ xl0 rfl
                                    · skip
                                      have c139' := Nat.not_le.mpr c139
                                      refine x_aload_n C (i := 0) dX12_keep_142 rfl xl0 ?_
                                      refine x_getR C fr_38_6 kf_X12_17 dX12_keep_143 ?_
                                      refine x_iconst C (nI 3) dX12_keep_146 rfl ?_
                                      refine x_iload_n C (i := 2) dX12_keep_147 rfl xl2 ?_
                                      refine x_imulN C dX12_keep_148 ?_
                                      refine x_iload_n C (i := 3) dX12_keep_149 rfl xl3 ?_
                                      refine x_iaddN C dX12_keep_150 ?_
                                      refine x_aload_n C (i := 0) dX12_keep_151 rfl xl0 ?_
                                      refine x_getR C fr_38_14 kf_X12_35 dX12_keep_152 ?_
                                      refine x_iload_n C (i := 3) dX12_keep_155 rfl xl3 ?_
                                      refine x_ialdN C (by decide) rfl (by decide) dX12_keep_156 (by omega) ?_
                                      refine x_topI (y := x_ml q.2 g47 k) rfl ?_
                                      refine x_iastN C (by decide) rfl (by decide) dX12_keep_157 (by omega) ?_
                                      refine x_sig (σ' := x_kp σ (x_pl q.1 (x_kt Os i (σ.1 40)) (9 * pl)) (upd (va_cpy (x_ml q.2 g47) (x_ks Os i (σ.1 41)) 0 (3 * pl) k) ((3 * pl) + k) (x_ml q.2 g47 k)) (x_ml q.1 g46) (x_ml q.2 g47)) (by rw [x_u_ui]; exact x_kp_41 _ _ _ _ _ _) ?_
                                      refine x_iincN C (i := 3) (b := 1) dX12_keep_158 xl3 rfl (by decide) ?_
                                      refine x_goto C 137 dX12_keep_161 (by decide) ?_
                                      refine x_sig (σ' := x_kp σ (x_pl q.1 (x_kt Os i (σ.1 40)) (9 * pl)) (va_cpy (x_ml q.2 g47) (x_ks Os i (σ.1 41)) 0 (3 * pl) (k + 1)) (x_ml q.1 g46) (x_ml q.2 g47)) (congrArg (fun z => x_kp σ (x_pl q.1 (x_kt Os i (σ.1 40)) (9 * pl)) z (x_ml q.1 g46) (x_ml q.2 g47)) (x_cpy_s0 (x_ml q.2 g47) (x_ks Os i (σ.1 41)) (3 * pl) k)) ?_
                                      exact ih137 _ (by omega) (k + 1) rfl (by omega) _ xl0 xl1 xl2 rfl
                                refine x_sig (σ' := x_kp σ (x_pl q.1 (x_kt Os i (σ.1 40)) (9 * pl)) (va_cpy (x_ml q.2 g47) (x_ks Os i (σ.1 41)) 0 (3 * pl) 0) (x_ml q.1 g46) (x_ml q.2 g47)) (by rw [x_cpy_0, x_pl_of hq9.1]) ?_
                                exact lp137 _ 0 rfl (by omega) _ xl0 xl1 xl2 rfl
                              · skip
                                have c109' := Nat.not_le.mpr c109
                                refine x_aload_n C (i := 0) dX12_keep_112 rfl xl0 ?_
                                refine x_getR C fr_38_5 kf_X12_13 dX12_keep_113 ?_
                                refine x_bipush C (nI 9) dX12_keep_116 rfl ?_
                                refine x_iload_n C (i := 2) dX12_keep_118 rfl xl2 ?_
                                refine x_imulN C dX12_keep_119 ?_
                                refine x_iload_n C (i := 3) dX12_keep_120 rfl xl3 ?_
                                refine x_iaddN C dX12_keep_121 ?_
                                refine x_aload_n C (i := 0) dX12_keep_122 rfl xl0 ?_
                                refine x_getR C fr_38_13 kf_X12_32 dX12_keep_123 ?_
                                refine x_iload_n C (i := 3) dX12_keep_126 rfl xl3 ?_
                                refine x_ialdN C (by decide) rfl (by decide) dX12_keep_127 (by omega) ?_
                                refine x_topI (y := x_ml q.1 g46 k) rfl ?_
                                refine x_iastN C (by decide) rfl (by decide) dX12_keep_128 (by omega) ?_
                                refine x_sig (σ' := x_kp σ (upd (va_cpy (x_ml q.1 g46) (x_kt Os i (σ.1 40)) 0 (9 * pl) k) ((9 * pl) + k) (x_ml q.1 g46 k)) (x_ks Os i (σ.1 41)) (x_ml q.1 g46) (x_ml q.2 g47)) (by rw [x_u_ui]; exact x_kp_40 _ _ _ _ _ _) ?_
                                refine x_iincN C (i := 3) (b := 1) dX12_keep_129 xl3 rfl (by decide) ?_
                                refine x_goto C 106 dX12_keep_132 (by decide) ?_
                                refine x_sig (σ' := x_kp σ (va_cpy (x_ml q.1 g46) (x_kt Os i (σ.1 40)) 0 (9 * pl) (k + 1)) (x_ks Os i (σ.1 41)) (x_ml q.1 g46) (x_ml q.2 g47)) (congrArg (fun z => x_kp σ z (x_ks Os i (σ.1 41)) (x_ml q.1 g46) (x_ml q.2 g47)) (x_cpy_s0 (x_ml q.1 g46) (x_kt Os i (σ.1 40)) (9 * pl) k)) ?_
                                exact ih106 _ (by omega) (k + 1) rfl (by omega) _ xl0 xl1 xl2 rfl
                          refine x_sig (σ' := x_kp σ (va_cpy (x_ml q.1 g46) (x_kt Os i (σ.1 40)) 0 (9 * pl) 0) (x_ks Os i (σ.1 41)) (x_ml q.1 g46) (x_ml q.2 g47)) (by rw [x_cpy_0]) ?_
                          exact lp106 _ 0 rfl (by omega) _ xl0 xl1 xl2 rfl
                        · skip
                          have c79' := Nat.not_le.mpr c79
                          refine x_aload_n C (i := 0) dX12_keep_82 rfl xl0 ?_
                          refine x_iload_n C (i := 3) dX12_keep_83 rfl xl3 ?_
                          obtain ⟨q2, hq2⟩ : ∃ q2, Os[j]? = some q2 := ⟨_, List.getElem?_eq_getElem (by omega)⟩
                          have hq29 := x_ok_at hO hq2
                          have hM := c_X12_compare l Y (x_kp σ (x_kt Os i (σ.1 40)) (x_ks Os i (σ.1 41)) (x_ml q.1 g46) (x_ml q.2 g47)) q.1 q.2 q2.1 q2.2 g46 g47 j (by omega) hq9.1 hq9.2 hq29.1 hq29.2 rfl rfl (hH _ _ hq2).1 (hH _ _ hq2).2
                          refine x_callV C (as := [.int (nI j)]) (st := []) (hM) kb_X12_compare kv_X12_171 dX12_keep_84 rfl rfl (Nat.le_of_ble_eq_true rfl) ⟨by decide, by decide⟩ ⟨by decide, by decide⟩ ko_38 ?_
                          clear hM
                          intro r9 τ9 h9
                          obtain ⟨rfl, h8⟩ := h9
                          rw [h8]
                          clear h8 τ9
                          refine x_jf_le C 96 dX12_keep_87 (by decide) (fun c87 => ?_) (fun c87 => ?_)
                          · skip
                            have c87' := Int32.not_lt.mpr c87
                            refine x_iload_n C (i := 2) dX12_keep_96 rfl xl2 ?_
                            refine x_istore_n C (i := 2) dX12_keep_97 rfl (by decide) ?_
                            refine x_iincN C (i := 3) (b := 1) dX12_keep_98 xl3 rfl (by decide) ?_
                            refine x_goto C 74 dX12_keep_101 (by decide) ?_
                            exact ih74 _ (by omega) (j + 1) pl rfl (by omega) (by rw [x_rank_s hq2, hpl]; first | rw [if_pos c87] | rw [if_neg c87']) (by omega) _ xl0 xl1 rfl rfl
                          · skip
                            have c87' := Int32.not_le.mpr c87
                            refine x_iload_n C (i := 2) dX12_keep_90 rfl xl2 ?_
                            refine x_iconst C (nI 1) dX12_keep_91 rfl ?_
                            refine x_iaddN C dX12_keep_92 ?_
                            refine x_goto C 97 dX12_keep_93 (by decide) ?_
                            refine x_istore_n C (i := 2) dX12_keep_97 rfl (by decide) ?_
                            refine x_iincN C (i := 3) (b := 1) dX12_keep_98 xl3 rfl (by decide) ?_
                            refine x_goto C 74 dX12_keep_101 (by decide) ?_
                            exact ih74 _ (by omega) (j + 1) (pl + 1) rfl (by omega) (by rw [x_rank_s hq2, hpl]; first | rw [if_pos c87] | rw [if_neg c87']) (by omega) _ xl0 xl1 rfl rfl
                    refine x_sig (σ' := x_kp σ (x_kt Os i (σ.1 40)) (x_ks Os i (σ.1 41)) (x_ml q.1 g46) (x_ml q.2 g47)) (by rw [x_cpy_ml hq9.2 (σ.1 43) g47 (3 * i) (hH0 _ _ hq).2]) ?_
                    exact lp74 _ 0 0 rfl (Nat.zero_le _) rfl (Nat.le_refl 0) _ xl0 xl1 rfl rfl
                  · skip
                    have c45' := Nat.not_le.mpr c45
                    refine x_aload_n C (i := 0) dX12_keep_48 rfl xl0 ?_
                    refine x_getR C fr_38_14 kf_X12_35 dX12_keep_49 ?_
                    refine x_iload_n C (i := 2) dX12_keep_52 rfl xl2 ?_
                    refine x_aload_n C (i := 0) dX12_keep_53 rfl xl0 ?_
                    refine x_getR C fr_38_9 kf_X12_23 dX12_keep_54 ?_
                    refine x_iconst C (nI 3) dX12_keep_57 rfl ?_
                    refine x_iload_n C (i := 1) dX12_keep_58 rfl xl1 ?_
                    refine x_imulN C dX12_keep_59 ?_
                    refine x_iload_n C (i := 2) dX12_keep_60 rfl xl2 ?_
                    refine x_iaddN C dX12_keep_61 ?_
                    refine x_ialdN C (by decide) rfl (by decide) dX12_keep_62 (by omega) ?_
                    refine x_topI (y := σ.1 43 (3 * i + k)) rfl ?_
                    refine x_iastN C (by decide) rfl (by decide) dX12_keep_63 (by omega) ?_
                    refine x_sig (σ' := x_kp σ (x_kt Os i (σ.1 40)) (x_ks Os i (σ.1 41)) (x_ml q.1 g46) (upd (va_cpy (σ.1 43) g47 (3 * i) 0 k) k (σ.1 43 (3 * i + k)))) (by rw [x_u_ui]; exact x_kp_47 _ _ _ _ _ _) ?_
                    refine x_iincN C (i := 2) (b := 1) dX12_keep_64 xl2 rfl (by decide) ?_
                    refine x_goto C 43 dX12_keep_67 (by decide) ?_
                    refine x_sig (σ' := x_kp σ (x_kt Os i (σ.1 40)) (x_ks Os i (σ.1 41)) (x_ml q.1 g46) (va_cpy (σ.1 43) g47 (3 * i) 0 (k + 1))) (congrArg (fun z => x_kp σ (x_kt Os i (σ.1 40)) (x_ks Os i (σ.1 41)) (x_ml q.1 g46) z) (x_cpy_sp (σ.1 43) g47 (3 * i) k)) ?_
                    exact ih43 _ (by omega) (k + 1) rfl (by omega) _ xl0 xl1 rfl
              refine x_sig (σ' := x_kp σ (x_kt Os i (σ.1 40)) (x_ks Os i (σ.1 41)) (x_ml q.1 g46) (va_cpy (σ.1 43) g47 (3 * i) 0 0)) (by rw [x_cpy_0, x_cpy_ml hq9.1 (σ.1 42) g46 (9 * i) (hH0 _ _ hq).1]) ?_
              exact lp43 _ 0 rfl (by omega) _ xl0 xl1 rfl
            · skip
              have c15' := Nat.not_le.mpr c15
              refine x_aload_n C (i := 0) dX12_keep_18 rfl xl0 ?_
              refine x_getR C fr_38_13 kf_X12_32 dX12_keep_19 ?_
              refine x_iload_n C (i := 2) dX12_keep_22 rfl xl2 ?_
              refine x_aload_n C (i := 0) dX12_keep_23 rfl xl0 ?_
              refine x_getR C fr_38_8 kf_X12_20 dX12_keep_24 ?_
              refine x_bipush C (nI 9) dX12_keep_27 rfl ?_
              refine x_iload_n C (i := 1) dX12_keep_29 rfl xl1 ?_
              refine x_imulN C dX12_keep_30 ?_
              refine x_iload_n C (i := 2) dX12_keep_31 rfl xl2 ?_
              refine x_iaddN C dX12_keep_32 ?_
              refine x_ialdN C (by decide) rfl (by decide) dX12_keep_33 (by omega) ?_
              refine x_topI (y := σ.1 42 (9 * i + k)) rfl ?_
              refine x_iastN C (by decide) rfl (by decide) dX12_keep_34 (by omega) ?_
              refine x_sig (σ' := x_kp σ (x_kt Os i (σ.1 40)) (x_ks Os i (σ.1 41)) (upd (va_cpy (σ.1 42) g46 (9 * i) 0 k) k (σ.1 42 (9 * i + k))) g47) (by rw [x_u_ui]; exact x_kp_46 _ _ _ _ _ _) ?_
              refine x_iincN C (i := 2) (b := 1) dX12_keep_35 xl2 rfl (by decide) ?_
              refine x_goto C 12 dX12_keep_38 (by decide) ?_
              refine x_sig (σ' := x_kp σ (x_kt Os i (σ.1 40)) (x_ks Os i (σ.1 41)) (va_cpy (σ.1 42) g46 (9 * i) 0 (k + 1)) g47) (congrArg (fun z => x_kp σ (x_kt Os i (σ.1 40)) (x_ks Os i (σ.1 41)) z g47) (x_cpy_sp (σ.1 42) g46 (9 * i) k)) ?_
              exact ih12 _ (by omega) (k + 1) rfl (by omega) _ xl0 xl1 rfl
        refine x_sig (σ' := x_kp σ (x_kt Os i (σ.1 40)) (x_ks Os i (σ.1 41)) (va_cpy (σ.1 42) g46 (9 * i) 0 0) g47) (by rw [x_cpy_0]) ?_
        exact lp12 _ 0 rfl (by omega) _ xl0 xl1 rfl
  exact lp2 _ 0 (σ.1 46) (σ.1 47) rfl (Nat.zero_le _) _ rfl rfl
theorem c_X12_keep (l : Launch) (Y : x_Y) (σ : x_S) (Os : List x_O) (hO : x_ok Os) (hO9 : Os.length ≤ 192) (hH : x_hold σ Os) (hmd : σ.1 38 7 = nI Os.length) : x_M l yX12_keep cX12_keep 4 none 1 Y [.ref 38] σ (fun r τ => ∃ f46 f47, r = none ∧ τ = x_u (x_kp σ (x_kt Os Os.length (σ.1 40)) (x_ks Os Os.length (σ.1 41)) f46 f47) 38 4 (nI Os.length)) := c_X12_keep_K l Y σ Os hO hO9 hH hmd _ (fun _ _ h => h)
