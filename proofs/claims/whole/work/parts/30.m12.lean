set_option maxRecDepth 100000 in
set_option maxHeartbeats 200000 in
theorem c_X12_laue_K (l : Launch) (Y : x_Y) (σ : x_S) (n : Nat) (hn : σ.1 38 4 = nI n) (hn9 : n ≤ 192) (K : Option Value → x_S → Prop) (hK : ∀ (r : Option Value) (τ : x_S), (r = some (.int (if n = 0 then -1 else x_lau (x_lcnt (σ.1 40) n) (x_ltr (σ.1 40) 1 n) (x_ltr (σ.1 40) 2 n))) ∧ τ = x_u σ 38 0 (nI 0)) → K r τ) : x_M l yX12_laue cX12_laue 7 (some .int) 2 Y [.ref 38] σ K := by
  refine x_start (by decide) (Nat.le_of_ble_eq_true rfl) ?_
  intro xp xe xs xm xg xb xt xc C xr xk
  refine x_aload_n C (i := 0) dX12_laue_0 rfl rfl ?_
  refine x_iconst C (nI 0) dX12_laue_1 rfl ?_
  refine x_putN C fi_38_0 kf_X12_85 rfl rfl dX12_laue_2 ?_
  refine x_aload_n C (i := 0) dX12_laue_5 rfl rfl ?_
  refine x_getI C fi_38_4 kf_X12_183 dX12_laue_6 ?_
  refine x_topI (y := nI n) hn ?_
  refine x_if_neN C 14 dX12_laue_9 (by decide) (by omega) (fun c9 => ?_) (fun c9 => ?_)
  · skip
    have hn0 : ¬ n = 0 := c9
    refine x_iconst C (nI 0) dX12_laue_14 rfl ?_
    refine x_istore_n C (i := 1) dX12_laue_15 rfl (by decide) ?_
    refine x_iconst C (nI 0) dX12_laue_16 rfl ?_
    refine x_istore_n C (i := 2) dX12_laue_17 rfl (by decide) ?_
    refine x_iconst C (nI 0) dX12_laue_18 rfl ?_
    refine x_istore_n C (i := 3) dX12_laue_19 rfl (by decide) ?_
    refine x_iconst C (nI 0) dX12_laue_20 rfl ?_
    refine x_istore C (i := 4) dX12_laue_21 (by decide) ?_
    have lp23 : ∀ (m23 : Nat) (i : Nat) (c : Nat) (o : Bool) (w : Bool), (n - i) = m23 → (i ≤ n) → (c = x_lcnt (σ.1 40) i) → (o = x_ltr (σ.1 40) 1 i) → (w = x_ltr (σ.1 40) 2 i) → (c ≤ i) → ∀ L : x_Lo, L.1 0 = some (.ref 38) → L.1 1 = some (.int (nI c)) → L.1 2 = some (.int (x_z o)) → L.1 3 = some (.int (x_z w)) → L.1 4 = some (.int (nI i)) → x_W xp l xe (x_rm 2) xs xm xg xb xt xc 7 Y 0 0 (MQ xb (x_Q Y K) xg xs 0 0 (x_A Y)) 23 L [] (x_u σ 38 0 (nI 0)) := by
      intro m23
      induction m23 using Nat.strongRecOn with
      | _ m23 ih23 =>
        intro i c o w hm23 hi hc ho hw hci L xl0 xl1 xl2 xl3 xl4
        refine x_iload C (i := 4) dX12_laue_23 xl4 ?_
        refine x_aload_n C (i := 0) dX12_laue_25 rfl xl0 ?_
        refine x_getI C fi_38_4 kf_X12_183 dX12_laue_26 ?_
        refine x_topI (y := nI n) hn ?_
        refine x_icmp_geN C 171 dX12_laue_29 (by decide) (by omega) (by omega) (fun c29 => ?_) (fun c29 => ?_)
        · skip
          have c29' := Nat.not_lt.mpr c29
          obtain rfl : n = i := by omega
          refine x_iload_n C (i := 1) dX12_laue_171 rfl xl1 ?_
          by_cases c172_1 : nI c = nI 1
          · skip
            obtain rfl := (nI_eq (by omega) (by decide)).mp c172_1
            refine x_tableIn C 236 dX12_laue_172 (by decide) (by decide) rfl (by decide) ?_
            refine x_iconst C (nI 0) dX12_laue_236 rfl ?_
            refine x_iret C xr xk dX12_laue_237 ?_
            exact hK _ _ ⟨by rw [if_neg hn0]; unfold x_lau; rw [← hc, ← ho, ← hw]; first | rfl | (rw [c243]; rfl) | (rw [c253]; rfl) | (rw [c267]; rfl), rfl⟩
          by_cases c172_2 : nI c = nI 2
          · skip
            obtain rfl := (nI_eq (by omega) (by decide)).mp c172_2
            refine x_tableIn C 238 dX12_laue_172 (by decide) (by decide) rfl (by decide) ?_
            refine x_iconst C (nI 1) dX12_laue_238 rfl ?_
            refine x_iret C xr xk dX12_laue_239 ?_
            exact hK _ _ ⟨by rw [if_neg hn0]; unfold x_lau; rw [← hc, ← ho, ← hw]; first | rfl | (rw [c243]; rfl) | (rw [c253]; rfl) | (rw [c267]; rfl), rfl⟩
          by_cases c172_3 : nI c = nI 3
          · skip
            obtain rfl := (nI_eq (by omega) (by decide)).mp c172_3
            refine x_tableIn C 240 dX12_laue_172 (by decide) (by decide) rfl (by decide) ?_
            refine x_iconst C (nI 5) dX12_laue_240 rfl ?_
            refine x_iret C xr xk dX12_laue_241 ?_
            exact hK _ _ ⟨by rw [if_neg hn0]; unfold x_lau; rw [← hc, ← ho, ← hw]; first | rfl | (rw [c243]; rfl) | (rw [c253]; rfl) | (rw [c267]; rfl), rfl⟩
          by_cases c172_4 : nI c = nI 4
          · skip
            obtain rfl := (nI_eq (by omega) (by decide)).mp c172_4
            refine x_tableIn C 242 dX12_laue_172 (by decide) (by decide) rfl (by decide) ?_
            refine x_iload_n C (i := 2) dX12_laue_242 rfl xl2 ?_
            refine x_if_eqZ C 250 dX12_laue_243 (by decide) (fun c243 => ?_) (fun c243 => ?_)
            · skip
              refine x_iconst C (nI 2) dX12_laue_250 rfl ?_
              refine x_iret C xr xk dX12_laue_251 ?_
              exact hK _ _ ⟨by rw [if_neg hn0]; unfold x_lau; rw [← hc, ← ho, ← hw]; first | rfl | (rw [c243]; rfl) | (rw [c253]; rfl) | (rw [c267]; rfl), rfl⟩
            · skip
              refine x_iconst C (nI 3) dX12_laue_246 rfl ?_
              refine x_goto C 251 dX12_laue_247 (by decide) ?_
              refine x_iret C xr xk dX12_laue_251 ?_
              exact hK _ _ ⟨by rw [if_neg hn0]; unfold x_lau; rw [← hc, ← ho, ← hw]; first | rfl | (rw [c243]; rfl) | (rw [c253]; rfl) | (rw [c267]; rfl), rfl⟩
          by_cases c172_6 : nI c = nI 6
          · skip
            obtain rfl := (nI_eq (by omega) (by decide)).mp c172_6
            refine x_tableIn C 252 dX12_laue_172 (by decide) (by decide) rfl (by decide) ?_
            refine x_iload_n C (i := 3) dX12_laue_252 rfl xl3 ?_
            refine x_if_eqZ C 261 dX12_laue_253 (by decide) (fun c253 => ?_) (fun c253 => ?_)
            · skip
              refine x_bipush C (nI 6) dX12_laue_261 rfl ?_
              refine x_iret C xr xk dX12_laue_263 ?_
              exact hK _ _ ⟨by rw [if_neg hn0]; unfold x_lau; rw [← hc, ← ho, ← hw]; first | rfl | (rw [c243]; rfl) | (rw [c253]; rfl) | (rw [c267]; rfl), rfl⟩
            · skip
              refine x_bipush C (nI 7) dX12_laue_256 rfl ?_
              refine x_goto C 263 dX12_laue_258 (by decide) ?_
              refine x_iret C xr xk dX12_laue_263 ?_
              exact hK _ _ ⟨by rw [if_neg hn0]; unfold x_lau; rw [← hc, ← ho, ← hw]; first | rfl | (rw [c243]; rfl) | (rw [c253]; rfl) | (rw [c267]; rfl), rfl⟩
          by_cases c172_8 : nI c = nI 8
          · skip
            obtain rfl := (nI_eq (by omega) (by decide)).mp c172_8
            refine x_tableIn C 264 dX12_laue_172 (by decide) (by decide) rfl (by decide) ?_
            refine x_iconst C (nI 4) dX12_laue_264 rfl ?_
            refine x_iret C xr xk dX12_laue_265 ?_
            exact hK _ _ ⟨by rw [if_neg hn0]; unfold x_lau; rw [← hc, ← ho, ← hw]; first | rfl | (rw [c243]; rfl) | (rw [c253]; rfl) | (rw [c267]; rfl), rfl⟩
          by_cases c172_12 : nI c = nI 12
          · skip
            obtain rfl := (nI_eq (by omega) (by decide)).mp c172_12
            refine x_tableIn C 266 dX12_laue_172 (by decide) (by decide) rfl (by decide) ?_
            refine x_iload_n C (i := 3) dX12_laue_266 rfl xl3 ?_
            refine x_if_eqZ C 275 dX12_laue_267 (by decide) (fun c267 => ?_) (fun c267 => ?_)
            · skip
              refine x_bipush C (nI 9) dX12_laue_275 rfl ?_
              refine x_iret C xr xk dX12_laue_277 ?_
              exact hK _ _ ⟨by rw [if_neg hn0]; unfold x_lau; rw [← hc, ← ho, ← hw]; first | rfl | (rw [c243]; rfl) | (rw [c253]; rfl) | (rw [c267]; rfl), rfl⟩
            · skip
              refine x_bipush C (nI 8) dX12_laue_270 rfl ?_
              refine x_goto C 277 dX12_laue_272 (by decide) ?_
              refine x_iret C xr xk dX12_laue_277 ?_
              exact hK _ _ ⟨by rw [if_neg hn0]; unfold x_lau; rw [← hc, ← ho, ← hw]; first | rfl | (rw [c243]; rfl) | (rw [c253]; rfl) | (rw [c267]; rfl), rfl⟩
          refine x_tdef C 278 dX12_laue_172 (fun k9 hk9 hx9 => ?_) (by decide) ?_
          · have hk8 : k9 = 0 ∨ k9 = 1 ∨ k9 = 2 ∨ k9 = 3 ∨ k9 = 4 ∨ k9 = 5 ∨ k9 = 6 ∨ k9 = 7 ∨ k9 = 8 ∨ k9 = 9 ∨ k9 = 10 ∨ k9 = 11 := by omega
            rcases hk8 with rfl | rfl | rfl | rfl | rfl | rfl | rfl | rfl | rfl | rfl | rfl | rfl
            · exact absurd (x_ofInt (n := 1) hx9 (by decide)) c172_1
            · exact absurd (x_ofInt (n := 2) hx9 (by decide)) c172_2
            · exact absurd (x_ofInt (n := 3) hx9 (by decide)) c172_3
            · exact absurd (x_ofInt (n := 4) hx9 (by decide)) c172_4
            · rfl
            · exact absurd (x_ofInt (n := 6) hx9 (by decide)) c172_6
            · rfl
            · exact absurd (x_ofInt (n := 8) hx9 (by decide)) c172_8
            · rfl
            · rfl
            · rfl
            · exact absurd (x_ofInt (n := 12) hx9 (by decide)) c172_12
          refine x_bipush C (nI 10) dX12_laue_278 rfl ?_
          refine x_iret C xr xk dX12_laue_280 ?_
          have d1 : ¬ c = 1 := fun z => c172_1 (by rw [z])
          have d2 : ¬ c = 2 := fun z => c172_2 (by rw [z])
          have d3 : ¬ c = 3 := fun z => c172_3 (by rw [z])
          have d4 : ¬ c = 4 := fun z => c172_4 (by rw [z])
          have d6 : ¬ c = 6 := fun z => c172_6 (by rw [z])
          have d8 : ¬ c = 8 := fun z => c172_8 (by rw [z])
          have d12 : ¬ c = 12 := fun z => c172_12 (by rw [z])
          exact hK _ _ ⟨by rw [if_neg hn0]; unfold x_lau; rw [← hc, ← ho, ← hw, if_neg d1, if_neg d2, if_neg d3, if_neg d4, if_neg d6, if_neg d8, if_neg d12], rfl⟩
        · skip
          have c29' := Nat.not_le.mpr c29
          refine x_iconst C (nI 1) dX12_laue_32 rfl ?_
          refine x_istore C (i := 5) dX12_laue_33 (by decide) ?_
          refine x_iconst C (nI 0) dX12_laue_35 rfl ?_
          refine x_istore C (i := 6) dX12_laue_36 (by decide) ?_
          have lp38 : ∀ (m38 : Nat) (j : Nat) (f : Bool), (i - j) = m38 → (j ≤ i) → (f = x_allb (fun j => !x_same (σ.1 40) i j) j) → ∀ L : x_Lo, L.1 0 = some (.ref 38) → L.1 1 = some (.int (nI c)) → L.1 2 = some (.int (x_z o)) → L.1 3 = some (.int (x_z w)) → L.1 4 = some (.int (nI i)) → L.1 5 = some (.int (x_z f)) → L.1 6 = some (.int (nI j)) → x_W xp l xe (x_rm 2) xs xm xg xb xt xc 7 Y 0 0 (MQ xb (x_Q Y K) xg xs 0 0 (x_A Y)) 38 L [] (x_u σ 38 0 (nI 0)) := by
            intro m38
            induction m38 using Nat.strongRecOn with
            | _ m38 ih38 =>
              intro j f hm38 hj hf L xl0 xl1 xl2 xl3 xl4 xl5 xl6
              refine x_iload C (i := 6) dX12_laue_38 xl6 ?_
              refine x_iload C (i := 4) dX12_laue_40 xl4 ?_
              refine x_icmp_geN C 74 dX12_laue_42 (by decide) (by omega) (by omega) (fun c42 => ?_) (fun c42 => ?_)
              · skip
                have c42' := Nat.not_lt.mpr c42
                obtain rfl : i = j := by omega
                refine x_iload C (i := 5) dX12_laue_74 xl5 ?_
                have lp87 : ∀ (c2 : Nat), (c2 = x_lcnt (σ.1 40) (i + 1)) → (c2 ≤ i + 1) → ∀ L : x_Lo, L.1 0 = some (.ref 38) → L.1 1 = some (.int (nI c2)) → L.1 2 = some (.int (x_z o)) → L.1 3 = some (.int (x_z w)) → L.1 4 = some (.int (nI i)) → x_W xp l xe (x_rm 2) xs xm xg xb xt xc 7 Y 0 0 (MQ xb (x_Q Y K) xg xs 0 0 (x_A Y)) 87 L [] (x_u σ 38 0 (nI 0)) := by
                  intro c2 hc2 hc3 L xl0 xl1 xl2 xl3 xl4
                  refine x_aload_n C (i := 0) dX12_laue_87 rfl xl0 ?_
                  refine x_iload C (i := 4) dX12_laue_88 xl4 ?_
                  have hM := c_X12_determinant l Y (x_u σ 38 0 (nI 0)) i (by omega)
                  refine x_callV C (as := [.int (nI i)]) (st := []) (hM) kb_X12_determinant kv_X12_198 dX12_laue_90 rfl rfl (Nat.le_of_ble_eq_true rfl) ⟨by decide, by decide⟩ ⟨by decide, by decide⟩ ko_38 ?_
                  clear hM
                  intro r9 τ9 h9
                  obtain ⟨rfl, h8⟩ := h9
                  rw [h8]
                  clear h8 τ9
                  refine x_aload_n C (i := 0) dX12_laue_93 rfl xl0 ?_
                  refine x_getR C fr_38_5 kf_X12_13 dX12_laue_94 ?_
                  refine x_bipush C (nI 9) dX12_laue_97 rfl ?_
                  refine x_iload C (i := 4) dX12_laue_99 xl4 ?_
                  refine x_imulN C dX12_laue_101 ?_
                  refine x_ialdN C (by decide) rfl (by decide) dX12_laue_102 (by omega) ?_
                  refine x_aload_n C (i := 0) dX12_laue_103 rfl xl0 ?_
                  refine x_getR C fr_38_5 kf_X12_13 dX12_laue_104 ?_
                  refine x_bipush C (nI 9) dX12_laue_107 rfl ?_
                  refine x_iload C (i := 4) dX12_laue_109 xl4 ?_
                  refine x_imulN C dX12_laue_111 ?_
                  refine x_iconst C (nI 4) dX12_laue_112 rfl ?_
                  refine x_iaddN C dX12_laue_113 ?_
                  refine x_ialdN C (by decide) rfl (by decide) dX12_laue_114 (by omega) ?_
                  refine x_iadd C dX12_laue_115 ?_
                  refine x_aload_n C (i := 0) dX12_laue_116 rfl xl0 ?_
                  refine x_getR C fr_38_5 kf_X12_13 dX12_laue_117 ?_
                  refine x_bipush C (nI 9) dX12_laue_120 rfl ?_
                  refine x_iload C (i := 4) dX12_laue_122 xl4 ?_
                  refine x_imulN C dX12_laue_124 ?_
                  refine x_bipush C (nI 8) dX12_laue_125 rfl ?_
                  refine x_iaddN C dX12_laue_127 ?_
                  refine x_ialdN C (by decide) rfl (by decide) dX12_laue_128 (by omega) ?_
                  refine x_iadd C dX12_laue_129 ?_
                  refine x_imul C dX12_laue_130 ?_
                  refine x_topI (y := x_trc (σ.1 40) i) rfl ?_
                  refine x_istore C (i := 6) dX12_laue_131 (by decide) ?_
                  refine x_iload_n C (i := 2) dX12_laue_133 rfl xl2 ?_
                  have lp149 : ∀ (o2 : Bool), (o2 = x_ltr (σ.1 40) 1 (i + 1)) → ∀ L : x_Lo, L.1 0 = some (.ref 38) → L.1 1 = some (.int (nI c2)) → L.1 2 = some (.int (x_z o2)) → L.1 3 = some (.int (x_z w)) → L.1 4 = some (.int (nI i)) → L.1 6 = some (.int (x_trc (σ.1 40) i)) → x_W xp l xe (x_rm 2) xs xm xg xb xt xc 7 Y 0 0 (MQ xb (x_Q Y K) xg xs 0 0 (x_A Y)) 149 L [] (x_u σ 38 0 (nI 0)) := by
                    intro o2 ho2 L xl0 xl1 xl2 xl3 xl4 xl6
                    refine x_iload_n C (i := 3) dX12_laue_149 rfl xl3 ?_
                    refine x_if_neZ C 159 dX12_laue_150 (by decide) (fun c150 => ?_) (fun c150 => ?_)
                    · skip
                      refine x_iconst C (nI 1) dX12_laue_159 rfl ?_
                      refine x_goto C 164 dX12_laue_160 (by decide) ?_
                      refine x_istore_n C (i := 3) dX12_laue_164 rfl (by decide) ?_
                      refine x_iincN C (i := 4) (b := 1) dX12_laue_165 xl4 rfl (by decide) ?_
                      refine x_goto C 23 dX12_laue_168 (by decide) ?_
                      exact ih23 _ (by omega) (i + 1) c2 o2 true rfl (by omega) hc2 ho2 (by show _ = (x_ltr (σ.1 40) 2 i || decide (x_trc (σ.1 40) i = nI 2)); rw [← hw]; first | (rw [c150]; rfl) | (rw [c150, decide_eq_true c156]; rfl) | (rw [c150, decide_eq_false c156]; rfl)) (by omega) _ xl0 xl1 xl2 rfl rfl
                    · skip
                      refine x_iload C (i := 6) dX12_laue_153 xl6 ?_
                      refine x_iconst C (nI 2) dX12_laue_155 rfl ?_
                      refine x_icmp_ne C 163 dX12_laue_156 (by decide) (fun c156 => ?_) (fun c156 => ?_)
                      · skip
                        refine x_iconst C (nI 0) dX12_laue_163 rfl ?_
                        refine x_istore_n C (i := 3) dX12_laue_164 rfl (by decide) ?_
                        refine x_iincN C (i := 4) (b := 1) dX12_laue_165 xl4 rfl (by decide) ?_
                        refine x_goto C 23 dX12_laue_168 (by decide) ?_
                        exact ih23 _ (by omega) (i + 1) c2 o2 false rfl (by omega) hc2 ho2 (by show _ = (x_ltr (σ.1 40) 2 i || decide (x_trc (σ.1 40) i = nI 2)); rw [← hw]; first | (rw [c150]; rfl) | (rw [c150, decide_eq_true c156]; rfl) | (rw [c150, decide_eq_false c156]; rfl)) (by omega) _ xl0 xl1 xl2 rfl rfl
                      · skip
                        refine x_iconst C (nI 1) dX12_laue_159 rfl ?_
                        refine x_goto C 164 dX12_laue_160 (by decide) ?_
                        refine x_istore_n C (i := 3) dX12_laue_164 rfl (by decide) ?_
                        refine x_iincN C (i := 4) (b := 1) dX12_laue_165 xl4 rfl (by decide) ?_
                        refine x_goto C 23 dX12_laue_168 (by decide) ?_
                        exact ih23 _ (by omega) (i + 1) c2 o2 true rfl (by omega) hc2 ho2 (by show _ = (x_ltr (σ.1 40) 2 i || decide (x_trc (σ.1 40) i = nI 2)); rw [← hw]; first | (rw [c150]; rfl) | (rw [c150, decide_eq_true c156]; rfl) | (rw [c150, decide_eq_false c156]; rfl)) (by omega) _ xl0 xl1 xl2 rfl rfl
                  refine x_if_neZ C 143 dX12_laue_134 (by decide) (fun c134 => ?_) (fun c134 => ?_)
                  · skip
                    refine x_iconst C (nI 1) dX12_laue_143 rfl ?_
                    refine x_goto C 148 dX12_laue_144 (by decide) ?_
                    refine x_istore_n C (i := 2) dX12_laue_148 rfl (by decide) ?_
                    exact lp149 true (by show _ = (x_ltr (σ.1 40) 1 i || decide (x_trc (σ.1 40) i = nI 1)); rw [← ho]; first | (rw [c134]; rfl) | (rw [c134, decide_eq_true c140]; rfl) | (rw [c134, decide_eq_false c140]; rfl)) _ xl0 xl1 rfl xl3 xl4 rfl
                  · skip
                    refine x_iload C (i := 6) dX12_laue_137 rfl ?_
                    refine x_iconst C (nI 1) dX12_laue_139 rfl ?_
                    refine x_icmp_ne C 147 dX12_laue_140 (by decide) (fun c140 => ?_) (fun c140 => ?_)
                    · skip
                      refine x_iconst C (nI 0) dX12_laue_147 rfl ?_
                      refine x_istore_n C (i := 2) dX12_laue_148 rfl (by decide) ?_
                      exact lp149 false (by show _ = (x_ltr (σ.1 40) 1 i || decide (x_trc (σ.1 40) i = nI 1)); rw [← ho]; first | (rw [c134]; rfl) | (rw [c134, decide_eq_true c140]; rfl) | (rw [c134, decide_eq_false c140]; rfl)) _ xl0 xl1 rfl xl3 xl4 rfl
                    · skip
                      refine x_iconst C (nI 1) dX12_laue_143 rfl ?_
                      refine x_goto C 148 dX12_laue_144 (by decide) ?_
                      refine x_istore_n C (i := 2) dX12_laue_148 rfl (by decide) ?_
                      exact lp149 true (by show _ = (x_ltr (σ.1 40) 1 i || decide (x_trc (σ.1 40) i = nI 1)); rw [← ho]; first | (rw [c134]; rfl) | (rw [c134, decide_eq_true c140]; rfl) | (rw [c134, decide_eq_false c140]; rfl)) _ xl0 xl1 rfl xl3 xl4 rfl
                refine x_if_eqZ C 85 dX12_laue_76 (by decide) (fun c76 => ?_) (fun c76 => ?_)
                · skip
                  refine x_iload_n C (i := 1) dX12_laue_85 rfl xl1 ?_
                  refine x_istore_n C (i := 1) dX12_laue_86 rfl (by decide) ?_
                  exact lp87 c (by unfold x_lcnt; first | rw [if_pos (hf.symm.trans c76), hc] | rw [if_neg (by rw [← hf, c76]; decide), hc]) (by omega) _ xl0 rfl xl2 xl3 xl4
                · skip
                  refine x_iload_n C (i := 1) dX12_laue_79 rfl xl1 ?_
                  refine x_iconst C (nI 1) dX12_laue_80 rfl ?_
                  refine x_iaddN C dX12_laue_81 ?_
                  refine x_goto C 86 dX12_laue_82 (by decide) ?_
                  refine x_istore_n C (i := 1) dX12_laue_86 rfl (by decide) ?_
                  exact lp87 (c + 1) (by unfold x_lcnt; first | rw [if_pos (hf.symm.trans c76), hc] | rw [if_neg (by rw [← hf, c76]; decide), hc]) (by omega) _ xl0 rfl xl2 xl3 xl4
              · skip
                have c42' := Nat.not_le.mpr c42
                refine x_iload C (i := 5) dX12_laue_45 xl5 ?_
                refine x_if_eqZ C 65 dX12_laue_47 (by decide) (fun c47 => ?_) (fun c47 => ?_)
                · skip
                  refine x_iconst C (nI 0) dX12_laue_65 rfl ?_
                  refine x_istore C (i := 5) dX12_laue_66 (by decide) ?_
                  refine x_iincN C (i := 6) (b := 1) dX12_laue_68 xl6 rfl (by decide) ?_
                  refine x_goto C 38 dX12_laue_71 (by decide) ?_
                  exact ih38 _ (by omega) (j + 1) false rfl (by omega) (by show _ = (x_allb (fun j => !x_same (σ.1 40) i j) j && !x_same (σ.1 40) i j); rw [← hf]; first | (rw [c47]; rfl) | (rw [c47, c58b]; rfl)) _ xl0 xl1 xl2 xl3 xl4 rfl rfl
                · skip
                  refine x_aload_n C (i := 0) dX12_laue_50 rfl xl0 ?_
                  refine x_iload C (i := 4) dX12_laue_51 xl4 ?_
                  refine x_iload C (i := 6) dX12_laue_53 xl6 ?_
                  have hM := c_X12_sameTurn l Y (x_u σ 38 0 (nI 0)) i j (by omega) (by omega)
                  refine x_callV C (as := [.int (nI i), .int (nI j)]) (st := []) (hM) kb_X12_sameTurn kv_X12_201 dX12_laue_55 rfl rfl (Nat.le_of_ble_eq_true rfl) ⟨by decide, by decide⟩ ⟨by decide, by decide⟩ ko_38 ?_
                  clear hM
                  intro r9 τ9 h9
                  obtain ⟨rfl, h8⟩ := h9
                  rw [h8]
                  clear h8 τ9
                  refine x_if_neZ C 65 dX12_laue_58 (by decide) (fun c58 => ?_) (fun c58 => ?_)
                  · skip
                    have c58b : x_same (σ.1 40) i j = true := c58
                    refine x_iconst C (nI 0) dX12_laue_65 rfl ?_
                    refine x_istore C (i := 5) dX12_laue_66 (by decide) ?_
                    refine x_iincN C (i := 6) (b := 1) dX12_laue_68 xl6 rfl (by decide) ?_
                    refine x_goto C 38 dX12_laue_71 (by decide) ?_
                    exact ih38 _ (by omega) (j + 1) false rfl (by omega) (by show _ = (x_allb (fun j => !x_same (σ.1 40) i j) j && !x_same (σ.1 40) i j); rw [← hf]; first | (rw [c47]; rfl) | (rw [c47, c58b]; rfl)) _ xl0 xl1 xl2 xl3 xl4 rfl rfl
                  · skip
                    have c58b : x_same (σ.1 40) i j = false := c58
                    refine x_iconst C (nI 1) dX12_laue_61 rfl ?_
                    refine x_goto C 66 dX12_laue_62 (by decide) ?_
                    refine x_istore C (i := 5) dX12_laue_66 (by decide) ?_
                    refine x_iincN C (i := 6) (b := 1) dX12_laue_68 xl6 rfl (by decide) ?_
                    refine x_goto C 38 dX12_laue_71 (by decide) ?_
                    exact ih38 _ (by omega) (j + 1) true rfl (by omega) (by show _ = (x_allb (fun j => !x_same (σ.1 40) i j) j && !x_same (σ.1 40) i j); rw [← hf]; first | (rw [c47]; rfl) | (rw [c47, c58b]; rfl)) _ xl0 xl1 xl2 xl3 xl4 rfl rfl
          exact lp38 _ 0 true rfl (Nat.zero_le _) rfl _ xl0 xl1 xl2 xl3 xl4 rfl rfl
    exact lp23 _ 0 0 false false rfl (Nat.zero_le _) rfl rfl rfl (Nat.le_refl 0) _ rfl rfl rfl rfl rfl
  · skip
    refine x_iconst C (-1) dX12_laue_12 rfl ?_
    refine x_iret C xr xk dX12_laue_13 ?_
    exact hK _ _ ⟨by rw [if_pos c9], rfl⟩
theorem c_X12_laue (l : Launch) (Y : x_Y) (σ : x_S) (n : Nat) (hn : σ.1 38 4 = nI n) (hn9 : n ≤ 192) : x_M l yX12_laue cX12_laue 7 (some .int) 2 Y [.ref 38] σ (fun r τ => r = some (.int (if n = 0 then -1 else x_lau (x_lcnt (σ.1 40) n) (x_ltr (σ.1 40) 1 n) (x_ltr (σ.1 40) 2 n))) ∧ τ = x_u σ 38 0 (nI 0)) := c_X12_laue_K l Y σ n hn hn9 _ (fun _ _ h => h)
set_option maxRecDepth 100000 in
set_option maxHeartbeats 200000 in
theorem c_X12_plain_K (l : Launch) (Y : x_Y) (σ : x_S) (sg : Int32) (n : Nat) (hn : σ.1 38 4 = nI n) (hn9 : n ≤ 192) (K : Option Value → x_S → Prop) (hK : ∀ (r : Option Value) (τ : x_S), (r = some (.int (if sg = nI 1 ∨ sg = -1 then nI (x_plc (σ.1 40) sg n) else nI 0)) ∧ τ = x_u σ 38 0 (nI 0)) → K r τ) : x_M l yX12_plain cX12_plain 6 (some .int) 0 Y [.ref 38, .int sg] σ K := by
  refine x_start (by decide) (Nat.le_of_ble_eq_true rfl) ?_
  intro xp xe xs xm xg xb xt xc C xr xk
  refine x_aload_n C (i := 0) dX12_plain_0 rfl rfl ?_
  refine x_iconst C (nI 0) dX12_plain_1 rfl ?_
  refine x_putN C fi_38_0 kf_X12_85 rfl rfl dX12_plain_2 ?_
  refine x_iconst C (nI 0) dX12_plain_5 rfl ?_
  refine x_istore_n C (i := 2) dX12_plain_6 rfl (by decide) ?_
  refine x_iconst C (nI 0) dX12_plain_7 rfl ?_
  refine x_istore_n C (i := 3) dX12_plain_8 rfl (by decide) ?_
  have lp9 : ∀ (m9 : Nat) (i : Nat) (c : Nat), (n - i) = m9 → (i ≤ n) → (c = if sg = nI 1 ∨ sg = -1 then x_plc (σ.1 40) sg i else 0) → (c ≤ i) → ∀ L : x_Lo, L.1 0 = some (.ref 38) → L.1 1 = some (.int sg) → L.1 2 = some (.int (nI c)) → L.1 3 = some (.int (nI i)) → x_W xp l xe (x_rm 0) xs xm xg xb xt xc 6 Y 0 0 (MQ xb (x_Q Y K) xg xs 0 0 (x_A Y)) 9 L [] (x_u σ 38 0 (nI 0)) := by
    intro m9
    induction m9 using Nat.strongRecOn with
    | _ m9 ih9 =>
      intro i c hm9 hi hc hci L xl0 xl1 xl2 xl3
      refine x_iload_n C (i := 3) dX12_plain_9 rfl xl3 ?_
      refine x_aload_n C (i := 0) dX12_plain_10 rfl xl0 ?_
      refine x_getI C fi_38_4 kf_X12_183 dX12_plain_11 ?_
      refine x_topI (y := nI n) hn ?_
      refine x_icmp_geN C 104 dX12_plain_14 (by decide) (by omega) (by omega) (fun c14 => ?_) (fun c14 => ?_)
      · skip
        have c14' := Nat.not_lt.mpr c14
        obtain rfl : n = i := by omega
        refine x_iload_n C (i := 2) dX12_plain_104 rfl xl2 ?_
        refine x_iret C xr xk dX12_plain_105 ?_
        exact hK _ _ ⟨by first | (rw [hc, if_neg (fun z => z.elim c19 c24), if_neg (fun z => z.elim c19 c24)]; done) | (rw [hc]; split <;> rfl), rfl⟩
      · skip
        have c14' := Nat.not_le.mpr c14
        refine x_iload_n C (i := 1) dX12_plain_17 rfl xl1 ?_
        refine x_iconst C (nI 1) dX12_plain_18 rfl ?_
        have lp27 : (sg = nI 1 ∨ sg = -1) → ∀ L : x_Lo, L.1 0 = some (.ref 38) → L.1 1 = some (.int sg) → L.1 2 = some (.int (nI c)) → L.1 3 = some (.int (nI i)) → x_W xp l xe (x_rm 0) xs xm xg xb xt xc 6 Y 0 0 (MQ xb (x_Q Y K) xg xs 0 0 (x_A Y)) 27 L [] (x_u σ 38 0 (nI 0)) := by
          intro  hs9 L xl0 xl1 xl2 xl3
          refine x_iconst C (nI 1) dX12_plain_27 rfl ?_
          refine x_istore C (i := 4) dX12_plain_28 (by decide) ?_
          refine x_iconst C (nI 0) dX12_plain_30 rfl ?_
          refine x_istore C (i := 5) dX12_plain_31 (by decide) ?_
          have lp33 : ∀ (m33 : Nat) (k : Nat) (z : Bool), (9 - k) = m33 → (k ≤ 9) → (z = x_allb (fun k => decide (σ.1 40 (9 * i + k) = if k % 4 = 0 then sg else nI 0)) k) → ∀ L : x_Lo, L.1 0 = some (.ref 38) → L.1 1 = some (.int sg) → L.1 2 = some (.int (nI c)) → L.1 3 = some (.int (nI i)) → L.1 4 = some (.int (x_z z)) → L.1 5 = some (.int (nI k)) → x_W xp l xe (x_rm 0) xs xm xg xb xt xc 6 Y 0 0 (MQ xb (x_Q Y K) xg xs 0 0 (x_A Y)) 33 L [] (x_u σ 38 0 (nI 0)) := by
            intro m33
            induction m33 using Nat.strongRecOn with
            | _ m33 ih33 =>
              intro k z hm33 hk hz L xl0 xl1 xl2 xl3 xl4 xl5
              refine x_iload C (i := 5) dX12_plain_33 xl5 ?_
              refine x_bipush C (nI 9) dX12_plain_35 rfl ?_
              refine x_icmp_geN C 85 dX12_plain_37 (by decide) (by omega) (by omega) (fun c37 => ?_) (fun c37 => ?_)
              · skip
                have c37' := Nat.not_lt.mpr c37
                obtain rfl : k = 9 := by omega
                have hpl : x_pl1 (σ.1 40) sg i = z := hz.symm
                refine x_iload C (i := 4) dX12_plain_85 xl4 ?_
                refine x_if_eqZ C 96 dX12_plain_87 (by decide) (fun c87 => ?_) (fun c87 => ?_)
                · skip
                  refine x_iload_n C (i := 2) dX12_plain_96 rfl xl2 ?_
                  refine x_istore_n C (i := 2) dX12_plain_97 rfl (by decide) ?_
                  refine x_iincN C (i := 3) (b := 1) dX12_plain_98 xl3 rfl (by decide) ?_
                  refine x_goto C 9 dX12_plain_101 (by decide) ?_
                  exact ih9 _ (by omega) (i + 1) c rfl (by omega) (by rw [if_pos hs9] at hc ⊢; unfold x_plc; first | rw [if_pos (hpl.trans c87), hc] | rw [if_neg (fun z9 => absurd (c87.symm.trans (hpl.symm.trans z9)) (by decide)), hc]) (by omega) _ xl0 xl1 rfl rfl
                · skip
                  refine x_iload_n C (i := 2) dX12_plain_90 rfl xl2 ?_
                  refine x_iconst C (nI 1) dX12_plain_91 rfl ?_
                  refine x_iaddN C dX12_plain_92 ?_
                  refine x_goto C 97 dX12_plain_93 (by decide) ?_
                  refine x_istore_n C (i := 2) dX12_plain_97 rfl (by decide) ?_
                  refine x_iincN C (i := 3) (b := 1) dX12_plain_98 xl3 rfl (by decide) ?_
                  refine x_goto C 9 dX12_plain_101 (by decide) ?_
                  exact ih9 _ (by omega) (i + 1) (c + 1) rfl (by omega) (by rw [if_pos hs9] at hc ⊢; unfold x_plc; first | rw [if_pos (hpl.trans c87), hc] | rw [if_neg (fun z9 => absurd (c87.symm.trans (hpl.symm.trans z9)) (by decide)), hc]) (by omega) _ xl0 xl1 rfl rfl
              · skip
                have c37' := Nat.not_le.mpr c37
                refine x_iload C (i := 4) dX12_plain_40 xl4 ?_
                refine x_if_eqZ C 76 dX12_plain_42 (by decide) (fun c42 => ?_) (fun c42 => ?_)
                · skip
                  refine x_iconst C (nI 0) dX12_plain_76 rfl ?_
                  refine x_istore C (i := 4) dX12_plain_77 (by decide) ?_
                  refine x_iincN C (i := 5) (b := 1) dX12_plain_79 xl5 rfl (by decide) ?_
                  refine x_goto C 33 dX12_plain_82 (by decide) ?_
                  exact ih33 _ (by omega) (k + 1) false rfl (by omega) (by show _ = (x_allb (fun k => decide (σ.1 40 (9 * i + k) = if k % 4 = 0 then sg else nI 0)) k && decide (σ.1 40 (9 * i + k) = if k % 4 = 0 then sg else nI 0)); rw [← hz, c42]; first | (rw [if_pos c61, decide_eq_true c69]; rfl) | (rw [if_pos c61, decide_eq_false c69]; rfl) | (rw [if_neg c61, decide_eq_true c69]; rfl) | (rw [if_neg c61, decide_eq_false c69]; rfl) | rfl) _ xl0 xl1 xl2 xl3 rfl rfl
                · skip
                  refine x_aload_n C (i := 0) dX12_plain_45 rfl xl0 ?_
                  refine x_getR C fr_38_5 kf_X12_13 dX12_plain_46 ?_
                  refine x_bipush C (nI 9) dX12_plain_49 rfl ?_
                  refine x_iload_n C (i := 3) dX12_plain_51 rfl xl3 ?_
                  refine x_imulN C dX12_plain_52 ?_
                  refine x_iload C (i := 5) dX12_plain_53 xl5 ?_
                  refine x_iaddN C dX12_plain_55 ?_
                  refine x_ialdN C (by decide) rfl (by decide) dX12_plain_56 (by omega) ?_
                  refine x_topI (y := σ.1 40 (9 * i + k)) rfl ?_
                  refine x_iload C (i := 5) dX12_plain_57 xl5 ?_
                  refine x_iconst C (nI 4) dX12_plain_59 rfl ?_
                  refine x_iremN C dX12_plain_60 (by omega) (by omega) (by omega) ?_
                  refine x_if_neN C 68 dX12_plain_61 (by decide) (by omega) (fun c61 => ?_) (fun c61 => ?_)
                  · skip
                    refine x_iconst C (nI 0) dX12_plain_68 rfl ?_
                    refine x_icmp_ne C 76 dX12_plain_69 (by decide) (fun c69 => ?_) (fun c69 => ?_)
                    · skip
                      refine x_iconst C (nI 0) dX12_plain_76 rfl ?_
                      refine x_istore C (i := 4) dX12_plain_77 (by decide) ?_
                      refine x_iincN C (i := 5) (b := 1) dX12_plain_79 xl5 rfl (by decide) ?_
                      refine x_goto C 33 dX12_plain_82 (by decide) ?_
                      exact ih33 _ (by omega) (k + 1) false rfl (by omega) (by show _ = (x_allb (fun k => decide (σ.1 40 (9 * i + k) = if k % 4 = 0 then sg else nI 0)) k && decide (σ.1 40 (9 * i + k) = if k % 4 = 0 then sg else nI 0)); rw [← hz, c42]; first | (rw [if_pos c61, decide_eq_true c69]; rfl) | (rw [if_pos c61, decide_eq_false c69]; rfl) | (rw [if_neg c61, decide_eq_true c69]; rfl) | (rw [if_neg c61, decide_eq_false c69]; rfl) | rfl) _ xl0 xl1 xl2 xl3 rfl rfl
                    · skip
                      refine x_iconst C (nI 1) dX12_plain_72 rfl ?_
                      refine x_goto C 77 dX12_plain_73 (by decide) ?_
                      refine x_istore C (i := 4) dX12_plain_77 (by decide) ?_
                      refine x_iincN C (i := 5) (b := 1) dX12_plain_79 xl5 rfl (by decide) ?_
                      refine x_goto C 33 dX12_plain_82 (by decide) ?_
                      exact ih33 _ (by omega) (k + 1) true rfl (by omega) (by show _ = (x_allb (fun k => decide (σ.1 40 (9 * i + k) = if k % 4 = 0 then sg else nI 0)) k && decide (σ.1 40 (9 * i + k) = if k % 4 = 0 then sg else nI 0)); rw [← hz, c42]; first | (rw [if_pos c61, decide_eq_true c69]; rfl) | (rw [if_pos c61, decide_eq_false c69]; rfl) | (rw [if_neg c61, decide_eq_true c69]; rfl) | (rw [if_neg c61, decide_eq_false c69]; rfl) | rfl) _ xl0 xl1 xl2 xl3 rfl rfl
                  · skip
                    refine x_iload_n C (i := 1) dX12_plain_64 rfl xl1 ?_
                    refine x_goto C 69 dX12_plain_65 (by decide) ?_
                    refine x_icmp_ne C 76 dX12_plain_69 (by decide) (fun c69 => ?_) (fun c69 => ?_)
                    · skip
                      refine x_iconst C (nI 0) dX12_plain_76 rfl ?_
                      refine x_istore C (i := 4) dX12_plain_77 (by decide) ?_
                      refine x_iincN C (i := 5) (b := 1) dX12_plain_79 xl5 rfl (by decide) ?_
                      refine x_goto C 33 dX12_plain_82 (by decide) ?_
                      exact ih33 _ (by omega) (k + 1) false rfl (by omega) (by show _ = (x_allb (fun k => decide (σ.1 40 (9 * i + k) = if k % 4 = 0 then sg else nI 0)) k && decide (σ.1 40 (9 * i + k) = if k % 4 = 0 then sg else nI 0)); rw [← hz, c42]; first | (rw [if_pos c61, decide_eq_true c69]; rfl) | (rw [if_pos c61, decide_eq_false c69]; rfl) | (rw [if_neg c61, decide_eq_true c69]; rfl) | (rw [if_neg c61, decide_eq_false c69]; rfl) | rfl) _ xl0 xl1 xl2 xl3 rfl rfl
                    · skip
                      refine x_iconst C (nI 1) dX12_plain_72 rfl ?_
                      refine x_goto C 77 dX12_plain_73 (by decide) ?_
                      refine x_istore C (i := 4) dX12_plain_77 (by decide) ?_
                      refine x_iincN C (i := 5) (b := 1) dX12_plain_79 xl5 rfl (by decide) ?_
                      refine x_goto C 33 dX12_plain_82 (by decide) ?_
                      exact ih33 _ (by omega) (k + 1) true rfl (by omega) (by show _ = (x_allb (fun k => decide (σ.1 40 (9 * i + k) = if k % 4 = 0 then sg else nI 0)) k && decide (σ.1 40 (9 * i + k) = if k % 4 = 0 then sg else nI 0)); rw [← hz, c42]; first | (rw [if_pos c61, decide_eq_true c69]; rfl) | (rw [if_pos c61, decide_eq_false c69]; rfl) | (rw [if_neg c61, decide_eq_true c69]; rfl) | (rw [if_neg c61, decide_eq_false c69]; rfl) | rfl) _ xl0 xl1 xl2 xl3 rfl rfl
          exact lp33 _ 0 true rfl (by decide) rfl _ xl0 xl1 xl2 xl3 rfl rfl
        refine x_icmp_eq C 27 dX12_plain_19 (by decide) (fun c19 => ?_) (fun c19 => ?_)
        · skip
          exact lp27 (Or.inl c19) _ xl0 xl1 xl2 xl3
        · skip
          refine x_iload_n C (i := 1) dX12_plain_22 rfl xl1 ?_
          refine x_iconst C (-1) dX12_plain_23 rfl ?_
          refine x_icmp_ne C 104 dX12_plain_24 (by decide) (fun c24 => ?_) (fun c24 => ?_)
          · skip
            refine x_iload_n C (i := 2) dX12_plain_104 rfl xl2 ?_
            refine x_iret C xr xk dX12_plain_105 ?_
            exact hK _ _ ⟨by first | (rw [hc, if_neg (fun z => z.elim c19 c24), if_neg (fun z => z.elim c19 c24)]; done) | (rw [hc]; split <;> rfl), rfl⟩
          · skip
            exact lp27 (Or.inr c24) _ xl0 xl1 xl2 xl3
  exact lp9 _ 0 0 rfl (Nat.zero_le _) (by split <;> rfl) (Nat.le_refl 0) _ rfl rfl rfl rfl
theorem c_X12_plain (l : Launch) (Y : x_Y) (σ : x_S) (sg : Int32) (n : Nat) (hn : σ.1 38 4 = nI n) (hn9 : n ≤ 192) : x_M l yX12_plain cX12_plain 6 (some .int) 0 Y [.ref 38, .int sg] σ (fun r τ => r = some (.int (if sg = nI 1 ∨ sg = -1 then nI (x_plc (σ.1 40) sg n) else nI 0)) ∧ τ = x_u σ 38 0 (nI 0)) := c_X12_plain_K l Y σ sg n hn hn9 _ (fun _ _ h => h)
