set_option maxRecDepth 100000 in
set_option maxHeartbeats 1000000 in
theorem c_X12_findR_K (l : Launch) (Y : x_Y) (σ : x_S) (n : Nat) (hn : σ.1 38 29 = nI n) (hn9 : n ≤ 3000) (cn sp : Nat → Nat) (hrow : ∀ a, a < n → σ.1 55 a = nI (cn a) ∧ 0 < cn a ∧ cn a ≤ 3000 ∧ σ.2 59 a = lN (sp a) ∧ sp a < 2 ^ 62) (T N0 : Nat) (hT : 0 < y_tot (y_ct σ cn) (σ.2 58) n → y_tot (y_ct σ cn) (σ.2 58) n = lN T ∧ 0 < T ∧ T < 2 ^ 62) (hN0 : ∀ a, a < n → y_ct σ cn a = true → cn a ∣ N0) (hN1 : 0 < N0) (hN9 : N0 * (y_ssp (y_ct σ cn) sp n + T + 1) * 2 ≤ 65536 ^ 64) (K : Option Value → x_S → Prop) (hK : ∀ (r : Option Value) (τ : x_S), ((¬ 0 < y_tot (y_ct σ cn) (σ.2 58) n ∧ r = some (.int (x_z false)) ∧ τ = σ) ∨ (0 < y_tot (y_ct σ cn) (σ.2 58) n ∧ ∃ g M, (r = some (.int (x_z true)) ∧ τ = x_st σ [] [(61, g)] []) ∧ 0 < M ∧ (∀ a, a < n → y_ct σ cn a = true → cn a ∣ M) ∧ y_is g 0 ((y_abv (y_ct σ cn) cn sp M n) / (Nat.gcd (y_abv (y_ct σ cn) cn sp M n) (M * T))) ∧ y_is g 64 ((M * T) / (Nat.gcd (y_abv (y_ct σ cn) cn sp M n) (M * T))))) → K r τ) : x_M l yX12_findR cX12_findR 9 (some .boolean) 2 Y [.ref 38] σ K := by
  refine x_start (by decide) (Nat.le_of_ble_eq_true rfl) ?_
  intro xp xe xs xm xg xb xt xc C xr xk
  refine x_sig (σ' := x_st σ [] [(61, σ.1 61)] []) (x_st_in trivial (And.intro rfl trivial) trivial) ?_
  refine x_lconst C (0) dX12_findR_0 rfl ?_
  refine x_topL (y := lN 0) rfl ?_
  refine x_topL (y := y_tot (y_ct σ cn) (σ.2 58) 0) rfl ?_
  refine x_lstore_n C (i := 1) dX12_findR_1 rfl (by decide) ?_
  refine x_iconst C (nI 0) dX12_findR_2 rfl ?_
  refine x_istore_n C (i := 3) dX12_findR_3 rfl (by decide) ?_
  have lp4 : ∀ (m4 : Nat) (r : Nat), (n - r) = m4 → (r ≤ n) → ∀ L : x_Lo, L.1 0 = some (.ref 38) → L.2 1 = some (y_tot (y_ct σ cn) (σ.2 58) r) → L.1 3 = some (.int (nI r)) → x_W xp l xe (x_rm 2) xs xm xg xb xt xc 9 Y 0 0 (MQ xb (x_Q Y K) xg xs 0 0 (x_A Y)) 4 L [] (x_st σ [] [(61, σ.1 61)] []) := by
    intro m4
    induction m4 using Nat.strongRecOn with
    | _ m4 ih4 =>
      intro r hm4 hr L xl0 xl1 xl3
      refine x_iload_n C (i := 3) dX12_findR_4 rfl xl3 ?_
      refine x_aload_n C (i := 0) dX12_findR_5 rfl xl0 ?_
      refine x_getI C fi_38_29 kf_X12_195 dX12_findR_6 ?_
      refine x_topI (y := nI n) hn ?_
      refine x_icmp_geN C 39 dX12_findR_9 (by decide) (by omega) (by omega) (fun c9 => ?_) (fun c9 => ?_)
      · skip
        have c9' := Nat.not_lt.mpr c9
        obtain rfl : n = r := by omega
        refine x_lload_n C (i := 1) dX12_findR_39 rfl xl1 ?_
        refine x_lconst C (0) dX12_findR_40 rfl ?_
        refine x_topL (y := lN 0) rfl ?_
        refine x_lcmp C dX12_findR_41 ?_
        refine x_jf_gt C 47 dX12_findR_42 (by decide) (fun c42 => ?_) (fun c42 => ?_)
        · skip
          have c42 := (lg_cmp_gt _ _).mp c42
          have c42' := Int64.not_le.mpr c42
          obtain ⟨hT1, hT0, hT9⟩ := hT c42
          refine x_aload_n C (i := 0) dX12_findR_47 rfl xl0 ?_
          refine x_bipush C (nI 64) dX12_findR_48 rfl ?_
          refine x_iconst C (nI 1) dX12_findR_50 rfl ?_
          have hM := c_X12_clear l Y (x_st σ [] [(61, σ.1 61)] []) 64 1  (σ.1 61) rfl (by decide) (by decide)
          refine x_callV C (as := [.int (nI 64), .int (nI 1)]) (st := []) (hM) kb_X12_clear kv_X12_311 dX12_findR_51 rfl rfl (Nat.le_of_ble_eq_true rfl) ⟨by decide, by decide⟩ ⟨by decide, by decide⟩ ko_38 ?_
          clear hM
          rintro _ _ ⟨g1, ⟨rfl, rfl⟩, hr1, hv1⟩
          refine x_sig (σ' := x_st σ [] [(61, g1)] []) (x_st_st rfl) ?_
          refine x_iconst C (nI 0) dX12_findR_54 rfl ?_
          refine x_istore_n C (i := 3) dX12_findR_55 rfl (by decide) ?_
          refine x_iconst C (nI 0) dX12_findR_56 rfl ?_
          refine x_istore C (i := 4) dX12_findR_57 (by decide) ?_
          have lp59 : ∀ (m59 : Nat) (tp : Nat) (r : Nat), (n - r) = m59 → (r ≤ n) → (tp ≤ 3000) → (∀ q, q < r → y_ct σ cn q = true → cn q ≤ tp) → ∀ L : x_Lo, L.1 0 = some (.ref 38) → L.2 1 = some (y_tot (y_ct σ cn) (σ.2 58) n) → L.1 3 = some (.int (nI tp)) → L.1 4 = some (.int (nI r)) → x_W xp l xe (x_rm 2) xs xm xg xb xt xc 9 Y 0 0 (MQ xb (x_Q Y K) xg xs 0 0 (x_A Y)) 59 L [] (x_st σ [] [(61, g1)] []) := by
            intro m59
            induction m59 using Nat.strongRecOn with
            | _ m59 ih59 =>
              intro tp r hm59 hr htp htt L xl0 xl1 xl3 xl4
              refine x_iload C (i := 4) dX12_findR_59 xl4 ?_
              refine x_aload_n C (i := 0) dX12_findR_61 rfl xl0 ?_
              refine x_getI C fi_38_29 kf_X12_195 dX12_findR_62 ?_
              refine x_topI (y := nI n) hn ?_
              refine x_icmp_geN C 106 dX12_findR_65 (by decide) (by omega) (by omega) (fun c65 => ?_) (fun c65 => ?_)
              · skip
                have c65' := Nat.not_lt.mpr c65
                obtain rfl : n = r := by omega
                refine x_iconst C (nI 2) dX12_findR_106 rfl ?_
                refine x_istore C (i := 4) dX12_findR_107 (by decide) ?_
                have lp109 : ∀ (m109 : Nat) (p : Nat) (M : Nat) (g2 : Nat → Int32), (tp + 1 - p) = m109 → (2 ≤ p) → (p ≤ tp + 1 ∨ p = 2) → (y_is g2 64 M) → (y_mv n (y_ct σ cn) cn p M) → ∀ L : x_Lo, L.1 0 = some (.ref 38) → L.2 1 = some (y_tot (y_ct σ cn) (σ.2 58) n) → L.1 3 = some (.int (nI tp)) → L.1 4 = some (.int (nI p)) → x_W xp l xe (x_rm 2) xs xm xg xb xt xc 9 Y 0 0 (MQ xb (x_Q Y K) xg xs 0 0 (x_A Y)) 109 L [] (x_st σ [] [(61, g2)] []) := by
                  intro m109
                  induction m109 using Nat.strongRecOn with
                  | _ m109 ih109 =>
                    intro p M g2 hm109 hp2 hp9 hM hmv L xl0 xl1 xl3 xl4
                    refine x_iload C (i := 4) dX12_findR_109 xl4 ?_
                    refine x_iload_n C (i := 3) dX12_findR_111 rfl xl3 ?_
                    refine x_icmp_gtN C 217 dX12_findR_112 (by decide) (by omega) (by omega) (fun c112 => ?_) (fun c112 => ?_)
                    · skip
                      have c112' := Nat.not_le.mpr c112
                      have hdv := y_mv_end (fun a ha hc => ⟨(hrow a ha).2.1, Nat.lt_of_le_of_lt (htt a ha hc) c112⟩) hmv
                      have hM0 := hmv.1
                      have hMN := Nat.le_of_dvd hN1 (hmv.2.2.2 N0 hN0)
                      refine x_aload_n C (i := 0) dX12_findR_217 rfl xl0 ?_
                      refine x_iconst C (nI 0) dX12_findR_218 rfl ?_
                      refine x_iconst C (nI 0) dX12_findR_219 rfl ?_
                      have hM := c_X12_clear l Y (x_st σ [] [(61, g2)] []) 0 0  g2 rfl (by decide) (by decide)
                      refine x_callV C (as := [.int (nI 0), .int (nI 0)]) (st := []) (hM) kb_X12_clear kv_X12_311 dX12_findR_220 rfl rfl (Nat.le_of_ble_eq_true rfl) ⟨by decide, by decide⟩ ⟨by decide, by decide⟩ ko_38 ?_
                      clear hM
                      rintro _ _ ⟨g3, ⟨rfl, rfl⟩, hr3, hv3⟩
                      refine x_sig (σ' := x_st σ [] [(61, g3)] []) (x_st_st rfl) ?_
                      refine x_iconst C (nI 0) dX12_findR_223 rfl ?_
                      refine x_istore C (i := 4) dX12_findR_224 (by decide) ?_
                      have lp226 : ∀ (m226 : Nat) (r : Nat) (g4 : Nat → Int32), (n - r) = m226 → (r ≤ n) → (y_is g4 0 (y_abv (y_ct σ cn) cn sp M r)) → (y_is g4 64 M) → ∀ L : x_Lo, L.1 0 = some (.ref 38) → L.2 1 = some (y_tot (y_ct σ cn) (σ.2 58) n) → L.1 4 = some (.int (nI r)) → x_W xp l xe (x_rm 2) xs xm xg xb xt xc 9 Y 0 0 (MQ xb (x_Q Y K) xg xs 0 0 (x_A Y)) 226 L [] (x_st σ [] [(61, g4)] []) := by
                        intro m226
                        induction m226 using Nat.strongRecOn with
                        | _ m226 ih226 =>
                          intro r g4 hm226 hr hA hB L xl0 xl1 xl4
                          refine x_iload C (i := 4) dX12_findR_226 xl4 ?_
                          refine x_aload_n C (i := 0) dX12_findR_228 rfl xl0 ?_
                          refine x_getI C fi_38_29 kf_X12_195 dX12_findR_229 ?_
                          refine x_topI (y := nI n) hn ?_
                          refine x_icmp_geN C 295 dX12_findR_232 (by decide) (by omega) (by omega) (fun c232 => ?_) (fun c232 => ?_)
                          · skip
                            have c232' := Nat.not_lt.mpr c232
                            obtain rfl : n = r := by omega
                            refine x_aload_n C (i := 0) dX12_findR_295 rfl xl0 ?_
                            refine x_bipush C (nI 64) dX12_findR_296 rfl ?_
                            have hMT := (y_nb hMN hN9).2.1
                            refine x_lload_n C (i := 1) dX12_findR_298 rfl xl1 ?_
                            refine x_topL (y := lN T) hT1 ?_
                            have hM := c_X12_multiplyBig l Y (x_st σ [] [(61, g4)] []) 64 T M g4 rfl (by decide) hB hT9 hMT
                            refine x_callV C (as := [.int (nI 64), .long (lN T)]) (st := []) (hM) kb_X12_multiplyBig kv_X12_323 dX12_findR_299 rfl rfl (Nat.le_of_ble_eq_true rfl) ⟨by decide, by decide⟩ ⟨by decide, by decide⟩ ko_38 ?_
                            clear hM
                            rintro _ _ ⟨g9, ⟨rfl, rfl⟩, hr9, hv9⟩
                            refine x_sig (σ' := x_st σ [] [(61, g9)] []) (x_st_st rfl) ?_
                            have hA9 : y_is g9 0 (y_abv (y_ct σ cn) cn sp M n) := y_is_eq (fun j h8 h9 => hr9 j (by omega)) hA
                            have hB0 : 0 < M * T := Nat.mul_pos hM0 hT0
                            refine x_aload_n C (i := 0) dX12_findR_302 rfl xl0 ?_
                            refine x_iconst C (nI 0) dX12_findR_303 rfl ?_
                            have hM := c_X12_isNought l Y (x_st σ [] [(61, g9)] []) 0 (y_abv (y_ct σ cn) cn sp M n) g9 rfl (by decide) hA9
                            refine x_callV C (as := [.int (nI 0)]) (st := []) (hM) kb_X12_isNought kv_X12_296 dX12_findR_304 rfl rfl (Nat.le_of_ble_eq_true rfl) ⟨by decide, by decide⟩ ⟨by decide, by decide⟩ ko_38 ?_
                            clear hM
                            rintro _ _ ⟨rfl, rfl⟩
                            refine x_if_eqZ C 319 dX12_findR_307 (by decide) (fun c307 => ?_) (fun c307 => ?_)
                            · skip
                              have hA0 : 0 < (y_abv (y_ct σ cn) cn sp M n) := Nat.pos_of_ne_zero (of_decide_eq_false c307)
                              have hG1 := Nat.le_of_dvd hA0 (Nat.gcd_dvd_left (y_abv (y_ct σ cn) cn sp M n) (M * T))
                              have hG0 := Nat.gcd_pos_of_pos_left (M * T) hA0
                              have hG9 : 2 * (Nat.gcd (y_abv (y_ct σ cn) cn sp M n) (M * T)) ≤ 65536 ^ 64 := by
                                have h8 := y_abv_le (y_ct σ cn) cn sp M n
                                have h9 := (y_nb hMN hN9).1
                                omega
                              refine x_aload_n C (i := 0) dX12_findR_319 rfl xl0 ?_
                              have hM := c_X12_findCommon l Y (x_st σ [] [(61, g9)] []) (y_abv (y_ct σ cn) cn sp M n) (M * T) g9 rfl hA9 hv9 hA0 hB0
                              refine x_callV C (as := []) (st := []) (hM) kb_X12_findCommon kv_X12_329 dX12_findR_320 rfl rfl (Nat.le_of_ble_eq_true rfl) ⟨by decide, by decide⟩ ⟨by decide, by decide⟩ ko_38 ?_
                              clear hM
                              rintro _ _ ⟨gb, ⟨rfl, rfl⟩, hrb, hvb⟩
                              refine x_sig (σ' := x_st σ [] [(61, gb)] []) (x_st_st rfl) ?_
                              refine x_aload_n C (i := 0) dX12_findR_323 rfl xl0 ?_
                              refine x_iconst C (nI 0) dX12_findR_324 rfl ?_
                              have hM := c_X12_lessen l Y (x_st σ [] [(61, gb)] []) 0 (y_abv (y_ct σ cn) cn sp M n) (Nat.gcd (y_abv (y_ct σ cn) cn sp M n) (M * T)) gb rfl (by decide) (y_is_eq (fun j h8 h9 => hrb j (by omega)) hA9) hvb hG0 hG9
                              refine x_callV C (as := [.int (nI 0)]) (st := []) (hM) kb_X12_lessen kv_X12_332 dX12_findR_325 rfl rfl (Nat.le_of_ble_eq_true rfl) ⟨by decide, by decide⟩ ⟨by decide, by decide⟩ ko_38 ?_
                              clear hM
                              rintro _ _ ⟨gc, ⟨rfl, rfl⟩, hrc, hvc⟩
                              refine x_sig (σ' := x_st σ [] [(61, gc)] []) (x_st_st rfl) ?_
                              refine x_aload_n C (i := 0) dX12_findR_328 rfl xl0 ?_
                              refine x_bipush C (nI 64) dX12_findR_329 rfl ?_
                              have hM := c_X12_lessen l Y (x_st σ [] [(61, gc)] []) 64 (M * T) (Nat.gcd (y_abv (y_ct σ cn) cn sp M n) (M * T)) gc rfl (by decide) (y_is_eq (fun j h8 h9 => (hrc j (by omega)).trans (hrb j (by omega))) hv9) (y_is_eq (fun j h8 h9 => hrc j (by omega)) hvb) hG0 hG9
                              refine x_callV C (as := [.int (nI 64)]) (st := []) (hM) kb_X12_lessen kv_X12_332 dX12_findR_331 rfl rfl (Nat.le_of_ble_eq_true rfl) ⟨by decide, by decide⟩ ⟨by decide, by decide⟩ ko_38 ?_
                              clear hM
                              rintro _ _ ⟨gd, ⟨rfl, rfl⟩, hrd, hvd⟩
                              refine x_sig (σ' := x_st σ [] [(61, gd)] []) (x_st_st rfl) ?_
                              refine x_iconst C (nI 1) dX12_findR_334 rfl ?_
                              refine x_zret C xr xk dX12_findR_335 rfl ?_
                              exact hK _ _ (Or.inr ⟨c42, _, M, ⟨rfl, rfl⟩, hM0, hdv, y_is_eq (fun j h8 h9 => hrd j (by omega)) hvc, hvd⟩)
                            · skip
                              have hA0 := of_decide_eq_true c307
                              refine x_aload_n C (i := 0) dX12_findR_310 rfl xl0 ?_
                              refine x_bipush C (nI 64) dX12_findR_311 rfl ?_
                              refine x_iconst C (nI 1) dX12_findR_313 rfl ?_
                              have hM := c_X12_clear l Y (x_st σ [] [(61, g9)] []) 64 1  g9 rfl (by decide) (by decide)
                              refine x_callV C (as := [.int (nI 64), .int (nI 1)]) (st := []) (hM) kb_X12_clear kv_X12_311 dX12_findR_314 rfl rfl (Nat.le_of_ble_eq_true rfl) ⟨by decide, by decide⟩ ⟨by decide, by decide⟩ ko_38 ?_
                              clear hM
                              rintro _ _ ⟨ga, ⟨rfl, rfl⟩, hra, hva⟩
                              refine x_sig (σ' := x_st σ [] [(61, ga)] []) (x_st_st rfl) ?_
                              refine x_iconst C (nI 1) dX12_findR_317 rfl ?_
                              refine x_zret C xr xk dX12_findR_318 rfl ?_
                              exact hK _ _ (Or.inr ⟨c42, _, M, ⟨rfl, rfl⟩, hM0, hdv, by
                                  rw [show (y_abv (y_ct σ cn) cn sp M n) / (Nat.gcd (y_abv (y_ct σ cn) cn sp M n) (M * T)) = (y_abv (y_ct σ cn) cn sp M n) by rw [hA0, Nat.zero_div]]; exact y_fr_is hra (by decide) hA9, by
                                  rw [hA0, Nat.gcd_zero_left, Nat.div_self hB0]; exact hva⟩)
                          · skip
                            have c232' := Nat.not_le.mpr c232
                            refine x_aload_n C (i := 0) dX12_findR_235 rfl xl0 ?_
                            refine x_iload C (i := 4) dX12_findR_236 xl4 ?_
                            have hM := c_X12_counts l Y (x_st σ [] [(61, g4)] []) r (cn r) (by omega) (hrow r (by omega)).1 (hrow r (by omega)).2.2.1
                            refine x_callV C (as := [.int (nI r)]) (st := []) (hM) kb_X12_counts kv_X12_314 dX12_findR_238 rfl rfl (Nat.le_of_ble_eq_true rfl) ⟨by decide, by decide⟩ ⟨by decide, by decide⟩ ko_38 ?_
                            clear hM
                            rintro _ _ ⟨rfl, rfl⟩
                            refine x_topI (y := x_z (y_ct σ cn r)) rfl ?_
                            refine x_if_eqZ C 289 dX12_findR_241 (by decide) (fun c241 => ?_) (fun c241 => ?_)
                            · skip
                              refine x_iincN C (i := 4) (b := 1) dX12_findR_289 xl4 rfl (by decide) ?_
                              refine x_goto C 226 dX12_findR_292 (by decide) ?_
                              exact ih226 _ (by omega) (r + 1) g4 rfl (by omega) (by rw [y_abv_f c241]; exact hA) hB _ xl0 xl1 rfl
                            · skip
                              obtain ⟨hq1, hq2, hq3, hq4, hq5⟩ := hrow r (by omega)
                              have hW2 := y_abv_b (cn := cn) c232 c241 hMN hN1 hN9
                              have hW1 : M / cn r * sp r < 65536 ^ 64 := Nat.lt_of_le_of_lt (Nat.le_add_left _ _) hW2
                              refine x_aload_n C (i := 0) dX12_findR_244 rfl xl0 ?_
                              refine x_bipush C (nI 64) dX12_findR_245 rfl ?_
                              refine x_sipush C (nI 128) dX12_findR_247 rfl ?_
                              have hM := c_X12_copy l Y (x_st σ [] [(61, g4)] []) 64 128 M g4 rfl (by decide) (by decide) (by decide) hB
                              refine x_callV C (as := [.int (nI 64), .int (nI 128)]) (st := []) (hM) kb_X12_copy kv_X12_290 dX12_findR_250 rfl rfl (Nat.le_of_ble_eq_true rfl) ⟨by decide, by decide⟩ ⟨by decide, by decide⟩ ko_38 ?_
                              clear hM
                              rintro _ _ ⟨g5, ⟨rfl, rfl⟩, hr5, hv5⟩
                              refine x_sig (σ' := x_st σ [] [(61, g5)] []) (x_st_st rfl) ?_
                              refine x_aload_n C (i := 0) dX12_findR_253 rfl xl0 ?_
                              refine x_sipush C (nI 128) dX12_findR_254 rfl ?_
                              refine x_aload_n C (i := 0) dX12_findR_257 rfl xl0 ?_
                              refine x_getR C fr_38_31 kf_X12_60 dX12_findR_258 ?_
                              refine x_iload C (i := 4) dX12_findR_261 xl4 ?_
                              refine x_ialdN C (by decide) rfl (by decide) dX12_findR_263 (by omega) ?_
                              refine x_topI (y := σ.1 55 r) rfl ?_
                              refine x_topI (y := nI (cn r)) (hrow r (by omega)).1 ?_
                              have hM := c_X12_divide l Y (x_st σ [] [(61, g5)] []) 128 (cn r) M g5 rfl (by decide) hv5 (by omega) hq2
                              refine x_callV C (as := [.int (nI 128), .int (nI (cn r))]) (st := []) (hM) kb_X12_divide kv_X12_320 dX12_findR_264 rfl rfl (Nat.le_of_ble_eq_true rfl) ⟨by decide, by decide⟩ ⟨by decide, by decide⟩ ko_38 ?_
                              clear hM
                              rintro _ _ ⟨g6, ⟨rfl, rfl⟩, hr6, hv6⟩
                              refine x_sig (σ' := x_st σ [] [(61, g6)] []) (x_st_st rfl) ?_
                              refine x_aload_n C (i := 0) dX12_findR_267 rfl xl0 ?_
                              refine x_sipush C (nI 128) dX12_findR_268 rfl ?_
                              refine x_aload_n C (i := 0) dX12_findR_271 rfl xl0 ?_
                              refine x_getR C fr_38_35 kf_X12_73 dX12_findR_272 ?_
                              refine x_iload C (i := 4) dX12_findR_275 xl4 ?_
                              refine x_laldN C (by decide) rfl (by decide) dX12_findR_277 (by omega) ?_
                              refine x_topL (y := σ.2 59 r) rfl ?_
                              refine x_topL (y := lN (sp r)) hq4 ?_
                              have hM := c_X12_multiplyBig l Y (x_st σ [] [(61, g6)] []) 128 (sp r) (M / cn r) g6 rfl (by decide) hv6 hq5 hW1
                              refine x_callV C (as := [.int (nI 128), .long (lN (sp r))]) (st := []) (hM) kb_X12_multiplyBig kv_X12_323 dX12_findR_278 rfl rfl (Nat.le_of_ble_eq_true rfl) ⟨by decide, by decide⟩ ⟨by decide, by decide⟩ ko_38 ?_
                              clear hM
                              rintro _ _ ⟨g7, ⟨rfl, rfl⟩, hr7, hv7⟩
                              refine x_sig (σ' := x_st σ [] [(61, g7)] []) (x_st_st rfl) ?_
                              refine x_aload_n C (i := 0) dX12_findR_281 rfl xl0 ?_
                              refine x_iconst C (nI 0) dX12_findR_282 rfl ?_
                              refine x_sipush C (nI 128) dX12_findR_283 rfl ?_
                              have hM := c_X12_add l Y (x_st σ [] [(61, g7)] []) 0 128 (y_abv (y_ct σ cn) cn sp M r) (M / cn r * sp r) g7 rfl (by decide) (by decide) (by decide) (y_is_eq (fun j h8 h9 => (hr7 j (by omega)).trans ((hr6 j (by omega)).trans (hr5 j (by omega)))) hA) hv7 hW2
                              refine x_callV C (as := [.int (nI 0), .int (nI 128)]) (st := []) (hM) kb_X12_add kv_X12_326 dX12_findR_286 rfl rfl (Nat.le_of_ble_eq_true rfl) ⟨by decide, by decide⟩ ⟨by decide, by decide⟩ ko_38 ?_
                              clear hM
                              rintro _ _ ⟨g8, ⟨rfl, rfl⟩, hr8, hv8⟩
                              refine x_sig (σ' := x_st σ [] [(61, g8)] []) (x_st_st rfl) ?_
                              refine x_iincN C (i := 4) (b := 1) dX12_findR_289 xl4 rfl (by decide) ?_
                              refine x_goto C 226 dX12_findR_292 (by decide) ?_
                              exact ih226 _ (by omega) (r + 1) g8 rfl (by omega) (by rw [y_abv_t c241]; exact hv8) (y_is_eq (fun j h8 h9 => (hr8 j (by omega)).trans ((hr7 j (by omega)).trans ((hr6 j (by omega)).trans (hr5 j (by omega))))) hB) _ xl0 xl1 rfl
                      exact lp226 _ 0 g3 rfl (Nat.zero_le _) hv3 (y_fr_is hr3 (by decide) hM) _ xl0 xl1 rfl
                    · skip
                      have c112' := Nat.not_lt.mpr c112
                      refine x_iconst C (nI 1) dX12_findR_115 rfl ?_
                      refine x_istore C (i := 5) dX12_findR_116 (by decide) ?_
                      refine x_iload C (i := 4) dX12_findR_118 xl4 ?_
                      have hM := c_X12_isPrime l Y (x_st σ [] [(61, g2)] []) p hp2 (by omega)
                      refine x_callS C (as := [.int (nI p)]) (st := []) (hM) kb_X12_isPrime ks_X12_317 dX12_findR_120 rfl rfl (Nat.le_of_ble_eq_true rfl) ⟨by decide, by decide⟩ ⟨by decide, by decide⟩ ?_
                      clear hM
                      rintro _ _ ⟨pr, ⟨rfl, rfl⟩, hpr⟩
                      refine x_istore C (i := 6) dX12_findR_123 (by decide) ?_
                      refine x_iconst C (nI 0) dX12_findR_125 rfl ?_
                      refine x_istore C (i := 7) dX12_findR_126 (by decide) ?_
                      have lp128 : ∀ (m128 : Nat) (m : Nat) (r : Nat), (n - r) = m128 → (r ≤ n) → (pr = true → y_po r (y_ct σ cn) cn p m) → (pr = false → m = 1) → (m ≤ 3000) → ∀ L : x_Lo, L.1 0 = some (.ref 38) → L.2 1 = some (y_tot (y_ct σ cn) (σ.2 58) n) → L.1 3 = some (.int (nI tp)) → L.1 4 = some (.int (nI p)) → L.1 5 = some (.int (nI m)) → L.1 6 = some (.int (x_z pr)) → L.1 7 = some (.int (nI r)) → x_W xp l xe (x_rm 2) xs xm xg xb xt xc 9 Y 0 0 (MQ xb (x_Q Y K) xg xs 0 0 (x_A Y)) 128 L [] (x_st σ [] [(61, g2)] []) := by
                        intro m128
                        induction m128 using Nat.strongRecOn with
                        | _ m128 ih128 =>
                          intro m r hm128 hr hm hm0 hm9 L xl0 xl1 xl3 xl4 xl5 xl6 xl7
                          have lp202 : ((pr = true ∧ y_po n (y_ct σ cn) cn p m) ∨ (pr = false ∧ m = 1)) → ∀ L : x_Lo, L.1 0 = some (.ref 38) → L.2 1 = some (y_tot (y_ct σ cn) (σ.2 58) n) → L.1 3 = some (.int (nI tp)) → L.1 4 = some (.int (nI p)) → L.1 5 = some (.int (nI m)) → x_W xp l xe (x_rm 2) xs xm xg xb xt xc 9 Y 0 0 (MQ xb (x_Q Y K) xg xs 0 0 (x_A Y)) 202 L [] (x_st σ [] [(61, g2)] []) := by
                            intro  hj L xl0 xl1 xl3 xl4 xl5
                            have hmv2 : y_mv n (y_ct σ cn) cn (p + 1) (M * m) := by
                              rcases hj with ⟨h8, h9⟩ | ⟨h8, h9⟩
                              · exact y_mv_p hp2 (hpr.mp h8) (fun a ha _ => (hrow a ha).2.1) hmv h9
                              · rw [h9]
                                exact y_mv_c (fun z => by have h7 := hpr.mpr z; rw [h8] at h7; exact absurd h7 (by decide)) hmv
                            have hMm : M * m < 65536 ^ 64 := Nat.lt_of_le_of_lt (Nat.le_of_dvd hN1 (hmv2.2.2.2 N0 hN0)) ((y_nb (Nat.le_refl N0) hN9).2.2 hN1).1
                            refine x_aload_n C (i := 0) dX12_findR_202 rfl xl0 ?_
                            refine x_bipush C (nI 64) dX12_findR_203 rfl ?_
                            refine x_iload C (i := 5) dX12_findR_205 xl5 ?_
                            refine x_i2l C dX12_findR_207 ?_
                            refine x_topL (y := lN m) (nI_l (by omega)) ?_
                            have hM := c_X12_times l Y (x_st σ [] [(61, g2)] []) 64 m M g2 rfl (by decide) hM (by omega) hMm
                            refine x_callV C (as := [.int (nI 64), .long (lN m)]) (st := []) (hM) kb_X12_times kv_X12_307 dX12_findR_208 rfl rfl (Nat.le_of_ble_eq_true rfl) ⟨by decide, by decide⟩ ⟨by decide, by decide⟩ ko_38 ?_
                            clear hM
                            rintro _ _ ⟨g3, ⟨rfl, rfl⟩, hr3, hv3⟩
                            refine x_sig (σ' := x_st σ [] [(61, g3)] []) (x_st_st rfl) ?_
                            refine x_iincN C (i := 4) (b := 1) dX12_findR_211 xl4 rfl (by decide) ?_
                            refine x_goto C 109 dX12_findR_214 (by decide) ?_
                            exact ih109 _ (by omega) (p + 1) (M * m) g3 rfl (by omega) (Or.inl (by omega)) hv3 hmv2 _ xl0 xl1 xl3 rfl
                          refine x_iload C (i := 7) dX12_findR_128 xl7 ?_
                          refine x_aload_n C (i := 0) dX12_findR_130 rfl xl0 ?_
                          refine x_getI C fi_38_29 kf_X12_195 dX12_findR_131 ?_
                          refine x_topI (y := nI n) hn ?_
                          refine x_icmp_geN C 202 dX12_findR_134 (by decide) (by omega) (by omega) (fun c134 => ?_) (fun c134 => ?_)
                          · skip
                            have c134' := Nat.not_lt.mpr c134
                            obtain rfl : n = r := by omega
                            exact lp202 (y_jn hm hm0) _ xl0 xl1 xl3 xl4 xl5
                          · skip
                            have c134' := Nat.not_le.mpr c134
                            refine x_iload C (i := 6) dX12_findR_137 xl6 ?_
                            refine x_if_eqZ C 202 dX12_findR_139 (by decide) (fun c139 => ?_) (fun c139 => ?_)
                            · skip
                              exact lp202 (Or.inr ⟨c139, hm0 c139⟩) _ xl0 xl1 xl3 xl4 xl5
                            · skip
                              refine x_iconst C (nI 1) dX12_findR_142 rfl ?_
                              refine x_topI (y := nI (p ^ 0)) rfl ?_
                              refine x_istore C (i := 8) dX12_findR_143 (by decide) ?_
                              have lp145 : ∀ (m145 : Nat) (k : Nat), (3000 - p ^ k) = m145 → (y_ct σ cn r = true → p ^ k ∣ cn r) → (y_ct σ cn r = false → k = 0) → (p ^ k ≤ 3000) → ∀ L : x_Lo, L.1 0 = some (.ref 38) → L.2 1 = some (y_tot (y_ct σ cn) (σ.2 58) n) → L.1 3 = some (.int (nI tp)) → L.1 4 = some (.int (nI p)) → L.1 5 = some (.int (nI m)) → L.1 6 = some (.int (x_z pr)) → L.1 7 = some (.int (nI r)) → L.1 8 = some (.int (nI (p ^ k))) → x_W xp l xe (x_rm 2) xs xm xg xb xt xc 9 Y 0 0 (MQ xb (x_Q Y K) xg xs 0 0 (x_A Y)) 145 L [] (x_st σ [] [(61, g2)] []) := by
                                intro m145
                                induction m145 using Nat.strongRecOn with
                                | _ m145 ih145 =>
                                  intro k hm145 hk hk0 hk9 L xl0 xl1 xl3 xl4 xl5 xl6 xl7 xl8
                                  have hp0 : 0 < p ^ k := Nat.pow_pos (by omega)
                                  have hpp : p ^ k * p ≤ 3000 * 3001 := Nat.mul_le_mul hk9 (by omega)
                                  have hpp0 : 0 < p ^ k * p := Nat.mul_pos hp0 (by omega)
                                  have hcr := (hrow r (by omega)).2
                                  refine x_aload_n C (i := 0) dX12_findR_145 rfl xl0 ?_
                                  refine x_iload C (i := 7) dX12_findR_146 xl7 ?_
                                  have hM := c_X12_counts l Y (x_st σ [] [(61, g2)] []) r (cn r) (by omega) (hrow r (by omega)).1 (hrow r (by omega)).2.2.1
                                  refine x_callV C (as := [.int (nI r)]) (st := []) (hM) kb_X12_counts kv_X12_314 dX12_findR_148 rfl rfl (Nat.le_of_ble_eq_true rfl) ⟨by decide, by decide⟩ ⟨by decide, by decide⟩ ko_38 ?_
                                  clear hM
                                  rintro _ _ ⟨rfl, rfl⟩
                                  refine x_topI (y := x_z (y_ct σ cn r)) rfl ?_
                                  refine x_if_eqZ C 180 dX12_findR_151 (by decide) (fun c151 => ?_) (fun c151 => ?_)
                                  · skip
                                    have hx : y_ct σ cn r = true → p ^ k ∣ cn r ∧ ¬ p ^ (k + 1) ∣ cn r := fun z => by rw [c151] at z; exact absurd z (by decide)
                                    refine x_iload C (i := 8) dX12_findR_180 xl8 ?_
                                    refine x_iload C (i := 5) dX12_findR_182 xl5 ?_
                                    refine x_icmp_leN C 192 dX12_findR_184 (by decide) (by omega) (by omega) (fun c184 => ?_) (fun c184 => ?_)
                                    · skip
                                      have c184' := Nat.not_lt.mpr c184
                                      refine x_iload C (i := 5) dX12_findR_192 xl5 ?_
                                      refine x_istore C (i := 5) dX12_findR_194 (by decide) ?_
                                      refine x_iincN C (i := 7) (b := 1) dX12_findR_196 xl7 rfl (by decide) ?_
                                      refine x_goto C 128 dX12_findR_199 (by decide) ?_
                                      exact ih128 _ (by omega) m (r + 1) rfl (by omega) (fun z => by
                                            have h9 := y_po_s hp2 (hm z) hx hk0
                                            rw [if_neg c184'] at h9
                                            exact h9) (fun z => by rw [c139] at z; exact absurd z (by decide)) hm9 _ xl0 xl1 xl3 xl4 rfl xl6 rfl
                                    · skip
                                      have c184' := Nat.not_le.mpr c184
                                      refine x_iload C (i := 8) dX12_findR_187 xl8 ?_
                                      refine x_goto C 194 dX12_findR_189 (by decide) ?_
                                      refine x_istore C (i := 5) dX12_findR_194 (by decide) ?_
                                      refine x_iincN C (i := 7) (b := 1) dX12_findR_196 xl7 rfl (by decide) ?_
                                      refine x_goto C 128 dX12_findR_199 (by decide) ?_
                                      exact ih128 _ (by omega) (p ^ k) (r + 1) rfl (by omega) (fun z => by
                                            have h9 := y_po_s hp2 (hm z) hx hk0
                                            rw [if_pos c184] at h9
                                            exact h9) (fun z => by rw [c139] at z; exact absurd z (by decide)) hk9 _ xl0 xl1 xl3 xl4 rfl xl6 rfl
                                  · skip
                                    refine x_aload_n C (i := 0) dX12_findR_154 rfl xl0 ?_
                                    refine x_getR C fr_38_31 kf_X12_60 dX12_findR_155 ?_
                                    refine x_iload C (i := 7) dX12_findR_158 xl7 ?_
                                    refine x_ialdN C (by decide) rfl (by decide) dX12_findR_160 (by omega) ?_
                                    refine x_topI (y := σ.1 55 r) rfl ?_
                                    refine x_topI (y := nI (cn r)) (hrow r (by omega)).1 ?_
                                    refine x_iload C (i := 8) dX12_findR_161 xl8 ?_
                                    refine x_iload C (i := 4) dX12_findR_163 xl4 ?_
                                    refine x_imulN C dX12_findR_165 ?_
                                    refine x_iremN C dX12_findR_166 (by omega) (by omega) (by omega) ?_
                                    have hmd := Nat.mod_lt (cn r) hpp0
                                    refine x_if_neN C 180 dX12_findR_167 (by decide) (by omega) (fun c167 => ?_) (fun c167 => ?_)
                                    · skip
                                      have hx : y_ct σ cn r = true → p ^ k ∣ cn r ∧ ¬ p ^ (k + 1) ∣ cn r := fun z => ⟨hk z, fun w => c167 (Nat.mod_eq_zero_of_dvd (by rw [← Nat.pow_succ]; exact w))⟩
                                      refine x_iload C (i := 8) dX12_findR_180 xl8 ?_
                                      refine x_iload C (i := 5) dX12_findR_182 xl5 ?_
                                      refine x_icmp_leN C 192 dX12_findR_184 (by decide) (by omega) (by omega) (fun c184 => ?_) (fun c184 => ?_)
                                      · skip
                                        have c184' := Nat.not_lt.mpr c184
                                        refine x_iload C (i := 5) dX12_findR_192 xl5 ?_
                                        refine x_istore C (i := 5) dX12_findR_194 (by decide) ?_
                                        refine x_iincN C (i := 7) (b := 1) dX12_findR_196 xl7 rfl (by decide) ?_
                                        refine x_goto C 128 dX12_findR_199 (by decide) ?_
                                        exact ih128 _ (by omega) m (r + 1) rfl (by omega) (fun z => by
                                              have h9 := y_po_s hp2 (hm z) hx hk0
                                              rw [if_neg c184'] at h9
                                              exact h9) (fun z => by rw [c139] at z; exact absurd z (by decide)) hm9 _ xl0 xl1 xl3 xl4 rfl xl6 rfl
                                      · skip
                                        have c184' := Nat.not_le.mpr c184
                                        refine x_iload C (i := 8) dX12_findR_187 xl8 ?_
                                        refine x_goto C 194 dX12_findR_189 (by decide) ?_
                                        refine x_istore C (i := 5) dX12_findR_194 (by decide) ?_
                                        refine x_iincN C (i := 7) (b := 1) dX12_findR_196 xl7 rfl (by decide) ?_
                                        refine x_goto C 128 dX12_findR_199 (by decide) ?_
                                        exact ih128 _ (by omega) (p ^ k) (r + 1) rfl (by omega) (fun z => by
                                              have h9 := y_po_s hp2 (hm z) hx hk0
                                              rw [if_pos c184] at h9
                                              exact h9) (fun z => by rw [c139] at z; exact absurd z (by decide)) hk9 _ xl0 xl1 xl3 xl4 rfl xl6 rfl
                                    · skip
                                      have hdv9 : p ^ (k + 1) ∣ cn r := by rw [Nat.pow_succ]; exact Nat.dvd_of_mod_eq_zero c167
                                      have hpk9 : p ^ (k + 1) ≤ 3000 := Nat.le_trans (Nat.le_of_dvd hcr.1 hdv9) hcr.2.1
                                      refine x_iload C (i := 8) dX12_findR_170 xl8 ?_
                                      refine x_iload C (i := 4) dX12_findR_172 xl4 ?_
                                      refine x_imulN C dX12_findR_174 ?_
                                      refine x_topI (y := nI (p ^ (k + 1))) (by rw [Nat.pow_succ]) ?_
                                      refine x_istore C (i := 8) dX12_findR_175 (by decide) ?_
                                      refine x_goto C 145 dX12_findR_177 (by decide) ?_
                                      exact ih145 _ (by have := y_pw1 hp2 k; omega) (k + 1) rfl (fun _ => hdv9) (fun z => by rw [c151] at z; exact absurd z (by decide)) hpk9 _ xl0 xl1 xl3 xl4 xl5 xl6 xl7 rfl
                              exact lp145 _ 0 rfl (fun _ => by rw [Nat.pow_zero]; exact Nat.one_dvd _) (fun _ => rfl) (by rw [Nat.pow_zero]; decide) _ xl0 xl1 xl3 xl4 xl5 xl6 xl7 rfl
                      exact lp128 _ 1 0 rfl (Nat.zero_le _) (fun _ => y_po_0 (y_ct σ cn) cn p) (fun _ => rfl) (by decide) _ xl0 xl1 xl3 xl4 rfl rfl rfl
                exact lp109 _ 2 1 g1 rfl (Nat.le_refl _) (Or.inr rfl) hv1 (y_mv_2 n (y_ct σ cn) cn) _ xl0 xl1 xl3 rfl
              · skip
                have c65' := Nat.not_le.mpr c65
                refine x_aload_n C (i := 0) dX12_findR_68 rfl xl0 ?_
                refine x_iload C (i := 4) dX12_findR_69 xl4 ?_
                have hM := c_X12_counts l Y (x_st σ [] [(61, g1)] []) r (cn r) (by omega) (hrow r (by omega)).1 (hrow r (by omega)).2.2.1
                refine x_callV C (as := [.int (nI r)]) (st := []) (hM) kb_X12_counts kv_X12_314 dX12_findR_71 rfl rfl (Nat.le_of_ble_eq_true rfl) ⟨by decide, by decide⟩ ⟨by decide, by decide⟩ ko_38 ?_
                clear hM
                rintro _ _ ⟨rfl, rfl⟩
                refine x_topI (y := x_z (y_ct σ cn r)) rfl ?_
                refine x_if_eqZ C 98 dX12_findR_74 (by decide) (fun c74 => ?_) (fun c74 => ?_)
                · skip
                  refine x_iload_n C (i := 3) dX12_findR_98 rfl xl3 ?_
                  refine x_istore_n C (i := 3) dX12_findR_99 rfl (by decide) ?_
                  refine x_iincN C (i := 4) (b := 1) dX12_findR_100 xl4 rfl (by decide) ?_
                  refine x_goto C 59 dX12_findR_103 (by decide) ?_
                  exact ih59 _ (by omega) tp (r + 1) rfl (by omega) htp (fun q hq hc => by
                        rcases Nat.lt_or_ge q r with h | h
                        · have := htt q h hc; omega
                        · have h9 : q = r := by omega
                          subst h9
                          first | omega | (rw [c74] at hc; exact absurd hc (by decide))) _ xl0 xl1 rfl rfl
                · skip
                  refine x_aload_n C (i := 0) dX12_findR_77 rfl xl0 ?_
                  refine x_getR C fr_38_31 kf_X12_60 dX12_findR_78 ?_
                  refine x_iload C (i := 4) dX12_findR_81 xl4 ?_
                  refine x_ialdN C (by decide) rfl (by decide) dX12_findR_83 (by omega) ?_
                  refine x_topI (y := σ.1 55 r) rfl ?_
                  refine x_topI (y := nI (cn r)) (hrow r (by omega)).1 ?_
                  refine x_iload_n C (i := 3) dX12_findR_84 rfl xl3 ?_
                  have hcr := (hrow r (by omega)).2.2.1
                  refine x_icmp_leN C 98 dX12_findR_85 (by decide) (by omega) (by omega) (fun c85 => ?_) (fun c85 => ?_)
                  · skip
                    have c85' := Nat.not_lt.mpr c85
                    refine x_iload_n C (i := 3) dX12_findR_98 rfl xl3 ?_
                    refine x_istore_n C (i := 3) dX12_findR_99 rfl (by decide) ?_
                    refine x_iincN C (i := 4) (b := 1) dX12_findR_100 xl4 rfl (by decide) ?_
                    refine x_goto C 59 dX12_findR_103 (by decide) ?_
                    exact ih59 _ (by omega) tp (r + 1) rfl (by omega) htp (fun q hq hc => by
                          rcases Nat.lt_or_ge q r with h | h
                          · have := htt q h hc; omega
                          · have h9 : q = r := by omega
                            subst h9
                            first | omega | (rw [c74] at hc; exact absurd hc (by decide))) _ xl0 xl1 rfl rfl
                  · skip
                    have c85' := Nat.not_le.mpr c85
                    refine x_aload_n C (i := 0) dX12_findR_88 rfl xl0 ?_
                    refine x_getR C fr_38_31 kf_X12_60 dX12_findR_89 ?_
                    refine x_iload C (i := 4) dX12_findR_92 xl4 ?_
                    refine x_ialdN C (by decide) rfl (by decide) dX12_findR_94 (by omega) ?_
                    refine x_topI (y := σ.1 55 r) rfl ?_
                    refine x_topI (y := nI (cn r)) (hrow r (by omega)).1 ?_
                    refine x_goto C 99 dX12_findR_95 (by decide) ?_
                    refine x_istore_n C (i := 3) dX12_findR_99 rfl (by decide) ?_
                    refine x_iincN C (i := 4) (b := 1) dX12_findR_100 xl4 rfl (by decide) ?_
                    refine x_goto C 59 dX12_findR_103 (by decide) ?_
                    exact ih59 _ (by omega) (cn r) (r + 1) rfl (by omega) (hrow r (by omega)).2.2.1 (fun q hq hc => by
                          rcases Nat.lt_or_ge q r with h | h
                          · have := htt q h hc; omega
                          · have h9 : q = r := by omega
                            subst h9
                            omega) _ xl0 xl1 rfl rfl
          exact lp59 _ 0 0 rfl (Nat.zero_le _) (by decide) (fun q h => absurd h (Nat.not_lt_zero q)) _ xl0 xl1 rfl rfl
        · skip
          have c42 := (lg_cmp_le _ _).mp c42
          have c42' := Int64.not_lt.mpr c42
          refine x_iconst C (nI 0) dX12_findR_45 rfl ?_
          refine x_zret C xr xk dX12_findR_46 rfl ?_
          exact hK _ _ (Or.inl ⟨c42', rfl, (x_st_in (σ := σ) (F := []) (I := [(61, σ.1 61)]) (G := []) trivial (And.intro rfl trivial) trivial).symm⟩)
      · skip
        have c9' := Nat.not_le.mpr c9
        refine x_aload_n C (i := 0) dX12_findR_12 rfl xl0 ?_
        refine x_iload_n C (i := 3) dX12_findR_13 rfl xl3 ?_
        have hM := c_X12_counts l Y (x_st σ [] [(61, σ.1 61)] []) r (cn r) (by omega) (hrow r (by omega)).1 (hrow r (by omega)).2.2.1
        refine x_callV C (as := [.int (nI r)]) (st := []) (hM) kb_X12_counts kv_X12_314 dX12_findR_14 rfl rfl (Nat.le_of_ble_eq_true rfl) ⟨by decide, by decide⟩ ⟨by decide, by decide⟩ ko_38 ?_
        clear hM
        rintro _ _ ⟨rfl, rfl⟩
        refine x_topI (y := x_z (y_ct σ cn r)) rfl ?_
        refine x_if_eqZ C 31 dX12_findR_17 (by decide) (fun c17 => ?_) (fun c17 => ?_)
        · skip
          refine x_lload_n C (i := 1) dX12_findR_31 rfl xl1 ?_
          refine x_topL (y := y_tot (y_ct σ cn) (σ.2 58) (r + 1)) (y_tot_f c17) ?_
          refine x_lstore_n C (i := 1) dX12_findR_32 rfl (by decide) ?_
          refine x_iincN C (i := 3) (b := 1) dX12_findR_33 xl3 rfl (by decide) ?_
          refine x_goto C 4 dX12_findR_36 (by decide) ?_
          exact ih4 _ (by omega) (r + 1) rfl (by omega) _ xl0 rfl rfl
        · skip
          refine x_lload_n C (i := 1) dX12_findR_20 rfl xl1 ?_
          refine x_aload_n C (i := 0) dX12_findR_21 rfl xl0 ?_
          refine x_getR C fr_38_34 kf_X12_70 dX12_findR_22 ?_
          refine x_iload_n C (i := 3) dX12_findR_25 rfl xl3 ?_
          refine x_laldN C (by decide) rfl (by decide) dX12_findR_26 (by omega) ?_
          refine x_topL (y := σ.2 58 r) rfl ?_
          refine x_ladd C dX12_findR_27 ?_
          refine x_topL (y := y_tot (y_ct σ cn) (σ.2 58) (r + 1)) (y_tot_t c17) ?_
          refine x_goto C 32 dX12_findR_28 (by decide) ?_
          refine x_lstore_n C (i := 1) dX12_findR_32 rfl (by decide) ?_
          refine x_iincN C (i := 3) (b := 1) dX12_findR_33 xl3 rfl (by decide) ?_
          refine x_goto C 4 dX12_findR_36 (by decide) ?_
          exact ih4 _ (by omega) (r + 1) rfl (by omega) _ xl0 rfl rfl
  exact lp4 _ 0 rfl (Nat.zero_le _) _ rfl rfl rfl
theorem c_X12_findR (l : Launch) (Y : x_Y) (σ : x_S) (n : Nat) (hn : σ.1 38 29 = nI n) (hn9 : n ≤ 3000) (cn sp : Nat → Nat) (hrow : ∀ a, a < n → σ.1 55 a = nI (cn a) ∧ 0 < cn a ∧ cn a ≤ 3000 ∧ σ.2 59 a = lN (sp a) ∧ sp a < 2 ^ 62) (T N0 : Nat) (hT : 0 < y_tot (y_ct σ cn) (σ.2 58) n → y_tot (y_ct σ cn) (σ.2 58) n = lN T ∧ 0 < T ∧ T < 2 ^ 62) (hN0 : ∀ a, a < n → y_ct σ cn a = true → cn a ∣ N0) (hN1 : 0 < N0) (hN9 : N0 * (y_ssp (y_ct σ cn) sp n + T + 1) * 2 ≤ 65536 ^ 64) : x_M l yX12_findR cX12_findR 9 (some .boolean) 2 Y [.ref 38] σ (fun r τ => (¬ 0 < y_tot (y_ct σ cn) (σ.2 58) n ∧ r = some (.int (x_z false)) ∧ τ = σ) ∨ (0 < y_tot (y_ct σ cn) (σ.2 58) n ∧ ∃ g M, (r = some (.int (x_z true)) ∧ τ = x_st σ [] [(61, g)] []) ∧ 0 < M ∧ (∀ a, a < n → y_ct σ cn a = true → cn a ∣ M) ∧ y_is g 0 ((y_abv (y_ct σ cn) cn sp M n) / (Nat.gcd (y_abv (y_ct σ cn) cn sp M n) (M * T))) ∧ y_is g 64 ((M * T) / (Nat.gcd (y_abv (y_ct σ cn) cn sp M n) (M * T))))) := c_X12_findR_K l Y σ n hn hn9 cn sp hrow T N0 hT hN0 hN1 hN9 _ (fun _ _ h => h)
set_option maxRecDepth 100000 in
set_option maxHeartbeats 200000 in
theorem c_X12_digits_K (l : Launch) (Y : x_Y) (σ : x_S) (w : Int32) (n : Nat) (hn : σ.1 38 29 = nI n) (hn9 : n ≤ 3000) (cn sp : Nat → Nat) (hrow : ∀ a, a < n → σ.1 55 a = nI (cn a) ∧ 0 < cn a ∧ cn a ≤ 3000 ∧ σ.2 59 a = lN (sp a) ∧ sp a < 2 ^ 62) (T N0 : Nat) (hT : 0 < y_tot (y_ct σ cn) (σ.2 58) n → y_tot (y_ct σ cn) (σ.2 58) n = lN T ∧ 0 < T ∧ T < 2 ^ 62) (hN0 : ∀ a, a < n → y_ct σ cn a = true → cn a ∣ N0) (hN1 : 0 < N0) (hN9 : N0 * (y_ssp (y_ct σ cn) sp n + T + 1) * 2 ≤ 65536 ^ 64) (K : Option Value → x_S → Prop) (hK : ∀ (r : Option Value) (τ : x_S), ((¬ x_rng w 2 ∧ r = some (.int (nI 0)) ∧ τ = x_u σ 38 0 (nI 1)) ∨ (∃ wq, wq < 2 ∧ w = nI wq ∧ ((¬ 0 < y_tot (y_ct σ cn) (σ.2 58) n ∧ r = some (.int (-1)) ∧ τ = x_u σ 38 0 (nI 0)) ∨ (0 < y_tot (y_ct σ cn) (σ.2 58) n ∧ ∃ g M k, (r = some (.int (nI k)) ∧ τ = x_st σ [(38, 0, nI 0)] [(61, g)] []) ∧ 0 < M ∧ (∀ a, a < n → y_ct σ cn a = true → cn a ∣ M) ∧ y_is g 0 ((y_abv (y_ct σ cn) cn sp M n) / (Nat.gcd (y_abv (y_ct σ cn) cn sp M n) (M * T))) ∧ y_is g 64 ((M * T) / (Nat.gcd (y_abv (y_ct σ cn) cn sp M n) (M * T))) ∧ y_nd (if wq = 0 then (y_abv (y_ct σ cn) cn sp M n) / (Nat.gcd (y_abv (y_ct σ cn) cn sp M n) (M * T)) else (M * T) / (Nat.gcd (y_abv (y_ct σ cn) cn sp M n) (M * T))) k)))) → K r τ) : x_M l yX12_digits cX12_digits 4 (some .int) 3 Y [.ref 38, .int w] σ K := by
  refine x_start (by decide) (Nat.le_of_ble_eq_true rfl) ?_
  intro xp xe xs xm xg xb xt xc C xr xk
  refine x_sig (σ' := x_st σ [(38, 0, σ.1 38 0)] [(61, σ.1 61)] []) (x_st_in (And.intro rfl trivial) (And.intro rfl trivial) trivial) ?_
  by_cases hz1 : (decide (nI 0 ≤ w) && decide (w ≤ nI 1)) = true
  · skip
    refine x_aload_n C (i := 0) dX12_digits_0 rfl rfl ?_
    refine x_iload_n C (i := 1) dX12_digits_1 rfl rfl ?_
    refine x_iconst C (nI 0) dX12_digits_2 rfl ?_
    refine x_iconst C (nI 1) dX12_digits_3 rfl ?_
    have hM := c_X12_in l Y (x_st σ [(38, 0, σ.1 38 0)] [(61, σ.1 61)] []) w (nI 0) (nI 1)
    refine x_callS C (as := [.int w, .int (nI 0), .int (nI 1)]) (st := [.ref 38]) (hM) kb_X12_in ks_X12_96 dX12_digits_4 rfl rfl (Nat.le_of_ble_eq_true rfl) ⟨by decide, by decide⟩ ⟨by decide, by decide⟩ ?_
    clear hM
    rintro _ _ ⟨rfl, rfl⟩
    refine x_topI (y := x_z true) (by rw [hz1]) ?_
    have hM := c_X12_goes l Y (x_st σ [(38, 0, σ.1 38 0)] [(61, σ.1 61)] []) true
    refine x_callV C (as := [.int (x_z true)]) (st := []) (hM) kb_X12_goes kv_X12_92 dX12_digits_7 rfl rfl (Nat.le_of_ble_eq_true rfl) ⟨by decide, by decide⟩ ⟨by decide, by decide⟩ ko_38 ?_
    clear hM
    rintro _ _ ⟨rfl, rfl⟩
    refine x_sig (σ' := x_st σ [(38, 0, nI 0)] [(61, σ.1 61)] []) (x_st_u rfl) ?_
    refine x_if_neZ C 15 dX12_digits_10 (by decide) (fun c10 => ?_) (fun c10 => absurd c10 (by decide))
    obtain ⟨wq, hw1, rfl⟩ := (x_rng_iff2 (by decide)).mp hz1
    refine x_aload_n C (i := 0) dX12_digits_15 rfl rfl ?_
    have hM := c_X12_findR l Y (x_st σ [(38, 0, nI 0)] [(61, σ.1 61)] []) n hn hn9 cn sp hrow T N0 hT hN0 hN1 hN9
    refine x_callV C (as := []) (st := []) (hM) kb_X12_findR kv_X12_339 dX12_digits_16 rfl rfl (Nat.le_of_ble_eq_true rfl) ⟨by decide, by decide⟩ ⟨by decide, by decide⟩ ko_38 ?_
    clear hM
    rintro _ _ (⟨hz, rfl, rfl⟩ | ⟨hz, g, M, ⟨rfl, rfl⟩, hM0, hdv, hvA, hvB⟩)
    · skip
      refine x_if_neZ C 24 dX12_digits_19 (by decide) (fun c19 => absurd c19 (by decide)) (fun c19 => ?_)
      refine x_iconst C (-1) dX12_digits_22 rfl ?_
      refine x_iret C xr xk dX12_digits_23 ?_
      exact hK _ _ (Or.inr ⟨wq, hw1, rfl, Or.inl ⟨hz, rfl, ((congrArg (fun z => x_u z 38 0 (nI 0)) (x_st_in (σ := σ) (F := [(38, 0, σ.1 38 0)]) (I := [(61, σ.1 61)]) (G := []) (And.intro rfl trivial) (And.intro rfl trivial) trivial)).trans (x_st_u rfl)).symm⟩⟩)
    · skip
      refine x_sig (σ' := x_st σ [(38, 0, nI 0)] [(61, g)] []) (x_st_st rfl) ?_
      refine x_if_neZ C 24 dX12_digits_19 (by decide) (fun c19 => ?_) (fun c19 => absurd c19 (by decide))
      have hvV : y_is g (64 * wq) (if wq = 0 then (y_abv (y_ct σ cn) cn sp M n) / (Nat.gcd (y_abv (y_ct σ cn) cn sp M n) (M * T)) else (M * T) / (Nat.gcd (y_abv (y_ct σ cn) cn sp M n) (M * T))) := by
        rcases (show wq = 0 ∨ wq = 1 by omega) with h9 | h9
        · subst h9; exact hvA
        · subst h9; exact hvB
      refine x_iconst C (nI 0) dX12_digits_24 rfl ?_
      refine x_istore_n C (i := 2) dX12_digits_25 rfl (by decide) ?_
      refine x_iconst C (nI 0) dX12_digits_26 rfl ?_
      refine x_istore_n C (i := 3) dX12_digits_27 rfl (by decide) ?_
      have lp28 : ∀ (m28 : Nat) (k : Nat) (j : Nat), (64 - k) = m28 → (k ≤ 64) → (y_ndp (if wq = 0 then (y_abv (y_ct σ cn) cn sp M n) / (Nat.gcd (y_abv (y_ct σ cn) cn sp M n) (M * T)) else (M * T) / (Nat.gcd (y_abv (y_ct σ cn) cn sp M n) (M * T))) k j) → ∀ L : x_Lo, L.1 0 = some (.ref 38) → L.1 1 = some (.int (nI wq)) → L.1 2 = some (.int (nI j)) → L.1 3 = some (.int (nI k)) → x_W xp l xe (x_rm 3) xs xm xg xb xt xc 4 Y 0 0 (MQ xb (x_Q Y K) xg xs 0 0 (x_A Y)) 28 L [] (x_st σ [(38, 0, nI 0)] [(61, g)] []) := by
        intro m28
        induction m28 using Nat.strongRecOn with
        | _ m28 ih28 =>
          intro k j hm28 hk hj L xl0 xl1 xl2 xl3
          refine x_iload_n C (i := 3) dX12_digits_28 rfl xl3 ?_
          refine x_bipush C (nI 64) dX12_digits_29 rfl ?_
          have hj9 := hj.1
          refine x_icmp_geN C 64 dX12_digits_31 (by decide) (by omega) (by omega) (fun c31 => ?_) (fun c31 => ?_)
          · skip
            have c31' := Nat.not_lt.mpr c31
            obtain rfl : k = 64 := by omega
            refine x_iload_n C (i := 2) dX12_digits_64 rfl xl2 ?_
            refine x_iret C xr xk dX12_digits_65 ?_
            exact hK _ _ (Or.inr ⟨wq, hw1, rfl, Or.inr ⟨hz, g, M, _, ⟨rfl, rfl⟩, hM0, hdv, hvA, hvB, y_ndp_e hvV.1 hj⟩⟩)
          · skip
            have c31' := Nat.not_le.mpr c31
            refine x_aload_n C (i := 0) dX12_digits_34 rfl xl0 ?_
            refine x_getR C fr_38_37 kf_X12_79 dX12_digits_35 ?_
            refine x_bipush C (nI 64) dX12_digits_38 rfl ?_
            refine x_iload_n C (i := 1) dX12_digits_40 rfl xl1 ?_
            refine x_imulN C dX12_digits_41 ?_
            refine x_iload_n C (i := 3) dX12_digits_42 rfl xl3 ?_
            refine x_iaddN C dX12_digits_43 ?_
            refine x_ialdN C (by decide) rfl (by decide) dX12_digits_44 (by omega) ?_
            refine x_topI (y := g ((64 * wq) + k)) rfl ?_
            refine x_topI (y := nI (y_dg (if wq = 0 then (y_abv (y_ct σ cn) cn sp M n) / (Nat.gcd (y_abv (y_ct σ cn) cn sp M n) (M * T)) else (M * T) / (Nat.gcd (y_abv (y_ct σ cn) cn sp M n) (M * T))) k)) (hvV.2 k (by omega)) ?_
            have hd9 := y_dg_lt (if wq = 0 then (y_abv (y_ct σ cn) cn sp M n) / (Nat.gcd (y_abv (y_ct σ cn) cn sp M n) (M * T)) else (M * T) / (Nat.gcd (y_abv (y_ct σ cn) cn sp M n) (M * T))) k
            refine x_if_eqN C 56 dX12_digits_45 (by decide) (by omega) (fun c45 => ?_) (fun c45 => ?_)
            · skip
              refine x_iload_n C (i := 2) dX12_digits_56 rfl xl2 ?_
              refine x_istore_n C (i := 2) dX12_digits_57 rfl (by decide) ?_
              refine x_iincN C (i := 3) (b := 1) dX12_digits_58 xl3 rfl (by decide) ?_
              refine x_goto C 28 dX12_digits_61 (by decide) ?_
              exact ih28 _ (by omega) (k + 1) j rfl (by omega) (y_ndp_z hj c45) _ xl0 xl1 rfl rfl
            · skip
              refine x_iload_n C (i := 3) dX12_digits_48 rfl xl3 ?_
              refine x_iconst C (nI 2) dX12_digits_49 rfl ?_
              refine x_idivN C dX12_digits_50 (by omega) (by omega) (by omega) ?_
              refine x_iconst C (nI 1) dX12_digits_51 rfl ?_
              refine x_iaddN C dX12_digits_52 ?_
              refine x_goto C 57 dX12_digits_53 (by decide) ?_
              refine x_istore_n C (i := 2) dX12_digits_57 rfl (by decide) ?_
              refine x_iincN C (i := 3) (b := 1) dX12_digits_58 xl3 rfl (by decide) ?_
              refine x_goto C 28 dX12_digits_61 (by decide) ?_
              exact ih28 _ (by omega) (k + 1) ((k / 2) + 1) rfl (by omega) (y_ndp_n (by omega) c45 hj) _ xl0 xl1 rfl rfl
      exact lp28 _ 0 0 rfl (Nat.zero_le _) (y_ndp_0 _) _ rfl rfl rfl rfl
  · skip
    refine x_aload_n C (i := 0) dX12_digits_0 rfl rfl ?_
    refine x_iload_n C (i := 1) dX12_digits_1 rfl rfl ?_
    refine x_iconst C (nI 0) dX12_digits_2 rfl ?_
    refine x_iconst C (nI 1) dX12_digits_3 rfl ?_
    have hM := c_X12_in l Y (x_st σ [(38, 0, σ.1 38 0)] [(61, σ.1 61)] []) w (nI 0) (nI 1)
    refine x_callS C (as := [.int w, .int (nI 0), .int (nI 1)]) (st := [.ref 38]) (hM) kb_X12_in ks_X12_96 dX12_digits_4 rfl rfl (Nat.le_of_ble_eq_true rfl) ⟨by decide, by decide⟩ ⟨by decide, by decide⟩ ?_
    clear hM
    rintro _ _ ⟨rfl, rfl⟩
    refine x_topI (y := x_z false) (by rw [Bool.eq_false_iff.mpr hz1]) ?_
    have hM := c_X12_goes l Y (x_st σ [(38, 0, σ.1 38 0)] [(61, σ.1 61)] []) false
    refine x_callV C (as := [.int (x_z false)]) (st := []) (hM) kb_X12_goes kv_X12_92 dX12_digits_7 rfl rfl (Nat.le_of_ble_eq_true rfl) ⟨by decide, by decide⟩ ⟨by decide, by decide⟩ ko_38 ?_
    clear hM
    rintro _ _ ⟨rfl, rfl⟩
    refine x_sig (σ' := x_st σ [(38, 0, nI 1)] [(61, σ.1 61)] []) (x_st_u rfl) ?_
    refine x_if_neZ C 15 dX12_digits_10 (by decide) (fun c10 => absurd c10 (by decide)) (fun c10 => ?_)
    refine x_iconst C (nI 0) dX12_digits_13 rfl ?_
    refine x_iret C xr xk dX12_digits_14 ?_
    exact hK _ _ (Or.inl ⟨fun z => hz1 ((x_rng_iff2 (by decide)).mpr z), rfl, ((congrArg (fun z => x_u z 38 0 (nI 1)) (x_st_in (σ := σ) (F := [(38, 0, σ.1 38 0)]) (I := [(61, σ.1 61)]) (G := []) (And.intro rfl trivial) (And.intro rfl trivial) trivial)).trans (x_st_u rfl)).symm⟩)
theorem c_X12_digits (l : Launch) (Y : x_Y) (σ : x_S) (w : Int32) (n : Nat) (hn : σ.1 38 29 = nI n) (hn9 : n ≤ 3000) (cn sp : Nat → Nat) (hrow : ∀ a, a < n → σ.1 55 a = nI (cn a) ∧ 0 < cn a ∧ cn a ≤ 3000 ∧ σ.2 59 a = lN (sp a) ∧ sp a < 2 ^ 62) (T N0 : Nat) (hT : 0 < y_tot (y_ct σ cn) (σ.2 58) n → y_tot (y_ct σ cn) (σ.2 58) n = lN T ∧ 0 < T ∧ T < 2 ^ 62) (hN0 : ∀ a, a < n → y_ct σ cn a = true → cn a ∣ N0) (hN1 : 0 < N0) (hN9 : N0 * (y_ssp (y_ct σ cn) sp n + T + 1) * 2 ≤ 65536 ^ 64) : x_M l yX12_digits cX12_digits 4 (some .int) 3 Y [.ref 38, .int w] σ (fun r τ => (¬ x_rng w 2 ∧ r = some (.int (nI 0)) ∧ τ = x_u σ 38 0 (nI 1)) ∨ (∃ wq, wq < 2 ∧ w = nI wq ∧ ((¬ 0 < y_tot (y_ct σ cn) (σ.2 58) n ∧ r = some (.int (-1)) ∧ τ = x_u σ 38 0 (nI 0)) ∨ (0 < y_tot (y_ct σ cn) (σ.2 58) n ∧ ∃ g M k, (r = some (.int (nI k)) ∧ τ = x_st σ [(38, 0, nI 0)] [(61, g)] []) ∧ 0 < M ∧ (∀ a, a < n → y_ct σ cn a = true → cn a ∣ M) ∧ y_is g 0 ((y_abv (y_ct σ cn) cn sp M n) / (Nat.gcd (y_abv (y_ct σ cn) cn sp M n) (M * T))) ∧ y_is g 64 ((M * T) / (Nat.gcd (y_abv (y_ct σ cn) cn sp M n) (M * T))) ∧ y_nd (if wq = 0 then (y_abv (y_ct σ cn) cn sp M n) / (Nat.gcd (y_abv (y_ct σ cn) cn sp M n) (M * T)) else (M * T) / (Nat.gcd (y_abv (y_ct σ cn) cn sp M n) (M * T))) k)))) := c_X12_digits_K l Y σ w n hn hn9 cn sp hrow T N0 hT hN0 hN1 hN9 _ (fun _ _ h => h)
set_option maxRecDepth 100000 in
set_option maxHeartbeats 200000 in
theorem c_X12_digit_K (l : Launch) (Y : x_Y) (σ : x_S) (w k : Int32) (n : Nat) (hn : σ.1 38 29 = nI n) (hn9 : n ≤ 3000) (cn sp : Nat → Nat) (hrow : ∀ a, a < n → σ.1 55 a = nI (cn a) ∧ 0 < cn a ∧ cn a ≤ 3000 ∧ σ.2 59 a = lN (sp a) ∧ sp a < 2 ^ 62) (T N0 : Nat) (hT : 0 < y_tot (y_ct σ cn) (σ.2 58) n → y_tot (y_ct σ cn) (σ.2 58) n = lN T ∧ 0 < T ∧ T < 2 ^ 62) (hN0 : ∀ a, a < n → y_ct σ cn a = true → cn a ∣ N0) (hN1 : 0 < N0) (hN9 : N0 * (y_ssp (y_ct σ cn) sp n + T + 1) * 2 ≤ 65536 ^ 64) (K : Option Value → x_S → Prop) (hK : ∀ (r : Option Value) (τ : x_S), ((¬ x_rng w 2 ∧ r = some (.int (nI 0)) ∧ τ = x_u σ 38 0 (nI 1)) ∨ (∃ wq, wq < 2 ∧ w = nI wq ∧ ((¬ x_rng k 32 ∧ r = some (.int (nI 0)) ∧ τ = x_u σ 38 0 (nI 0)) ∨ (∃ kq, kq < 32 ∧ k = nI kq ∧ ((¬ 0 < y_tot (y_ct σ cn) (σ.2 58) n ∧ r = some (.int (nI 0)) ∧ τ = x_u σ 38 0 (nI 0)) ∨ (0 < y_tot (y_ct σ cn) (σ.2 58) n ∧ ∃ g M, (r = some (.int (nI (y_d32 (if wq = 0 then (y_abv (y_ct σ cn) cn sp M n) / (Nat.gcd (y_abv (y_ct σ cn) cn sp M n) (M * T)) else (M * T) / (Nat.gcd (y_abv (y_ct σ cn) cn sp M n) (M * T))) kq))) ∧ τ = x_st σ [(38, 0, nI 0)] [(61, g)] []) ∧ 0 < M ∧ (∀ a, a < n → y_ct σ cn a = true → cn a ∣ M) ∧ y_is g 0 ((y_abv (y_ct σ cn) cn sp M n) / (Nat.gcd (y_abv (y_ct σ cn) cn sp M n) (M * T))) ∧ y_is g 64 ((M * T) / (Nat.gcd (y_abv (y_ct σ cn) cn sp M n) (M * T))))))))) → K r τ) : x_M l yX12_digit cX12_digit 3 (some .int) 3 Y [.ref 38, .int w, .int k] σ K := by
  refine x_start (by decide) (Nat.le_of_ble_eq_true rfl) ?_
  intro xp xe xs xm xg xb xt xc C xr xk
  refine x_sig (σ' := x_st σ [(38, 0, σ.1 38 0)] [(61, σ.1 61)] []) (x_st_in (And.intro rfl trivial) (And.intro rfl trivial) trivial) ?_
  by_cases hz1 : (decide (nI 0 ≤ w) && decide (w ≤ nI 1)) = true
  · skip
    refine x_aload_n C (i := 0) dX12_digit_0 rfl rfl ?_
    refine x_iload_n C (i := 1) dX12_digit_1 rfl rfl ?_
    refine x_iconst C (nI 0) dX12_digit_2 rfl ?_
    refine x_iconst C (nI 1) dX12_digit_3 rfl ?_
    have hM := c_X12_in l Y (x_st σ [(38, 0, σ.1 38 0)] [(61, σ.1 61)] []) w (nI 0) (nI 1)
    refine x_callS C (as := [.int w, .int (nI 0), .int (nI 1)]) (st := [.ref 38]) (hM) kb_X12_in ks_X12_96 dX12_digit_4 rfl rfl (Nat.le_of_ble_eq_true rfl) ⟨by decide, by decide⟩ ⟨by decide, by decide⟩ ?_
    clear hM
    rintro _ _ ⟨rfl, rfl⟩
    refine x_topI (y := x_z true) (by rw [hz1]) ?_
    have hM := c_X12_goes l Y (x_st σ [(38, 0, σ.1 38 0)] [(61, σ.1 61)] []) true
    refine x_callV C (as := [.int (x_z true)]) (st := []) (hM) kb_X12_goes kv_X12_92 dX12_digit_7 rfl rfl (Nat.le_of_ble_eq_true rfl) ⟨by decide, by decide⟩ ⟨by decide, by decide⟩ ko_38 ?_
    clear hM
    rintro _ _ ⟨rfl, rfl⟩
    refine x_sig (σ' := x_st σ [(38, 0, nI 0)] [(61, σ.1 61)] []) (x_st_u rfl) ?_
    refine x_if_neZ C 15 dX12_digit_10 (by decide) (fun c10 => ?_) (fun c10 => absurd c10 (by decide))
    obtain ⟨wq, hw1, rfl⟩ := (x_rng_iff2 (by decide)).mp hz1
    refine x_iload_n C (i := 2) dX12_digit_15 rfl rfl ?_
    refine x_iconst C (nI 0) dX12_digit_16 rfl ?_
    refine x_bipush C (nI 31) dX12_digit_17 rfl ?_
    have hM := c_X12_in l Y (x_st σ [(38, 0, nI 0)] [(61, σ.1 61)] []) k (nI 0) (nI 31)
    refine x_callS C (as := [.int k, .int (nI 0), .int (nI 31)]) (st := []) (hM) kb_X12_in ks_X12_96 dX12_digit_19 rfl rfl (Nat.le_of_ble_eq_true rfl) ⟨by decide, by decide⟩ ⟨by decide, by decide⟩ ?_
    clear hM
    rintro _ _ ⟨rfl, rfl⟩
    refine x_if_eqZ C 32 dX12_digit_22 (by decide) (fun c22 => ?_) (fun c22 => ?_)
    · skip
      have hz2 := x_rng_not2 (by decide) c22
      have hzz : True := trivial
      refine x_iconst C (nI 0) dX12_digit_32 rfl ?_
      refine x_iret C xr xk dX12_digit_33 ?_
      exact hK _ _ (Or.inr ⟨wq, hw1, rfl, by first | exact Or.inl ⟨hz2, rfl, ((congrArg (fun z => x_u z 38 0 (nI 0)) (x_st_in (σ := σ) (F := [(38, 0, σ.1 38 0)]) (I := [(61, σ.1 61)]) (G := []) (And.intro rfl trivial) (And.intro rfl trivial) trivial)).trans (x_st_u rfl)).symm⟩ | exact Or.inr ⟨kq, hk1, rfl, Or.inl ⟨hz, rfl, ((congrArg (fun z => x_u z 38 0 (nI 0)) (x_st_in (σ := σ) (F := [(38, 0, σ.1 38 0)]) (I := [(61, σ.1 61)]) (G := []) (And.intro rfl trivial) (And.intro rfl trivial) trivial)).trans (x_st_u rfl)).symm⟩⟩⟩)
    · skip
      obtain ⟨kq, hk1, rfl⟩ := (x_rng_iff2 (by decide)).mp c22
      refine x_aload_n C (i := 0) dX12_digit_25 rfl rfl ?_
      have hM := c_X12_findR l Y (x_st σ [(38, 0, nI 0)] [(61, σ.1 61)] []) n hn hn9 cn sp hrow T N0 hT hN0 hN1 hN9
      refine x_callV C (as := []) (st := []) (hM) kb_X12_findR kv_X12_339 dX12_digit_26 rfl rfl (Nat.le_of_ble_eq_true rfl) ⟨by decide, by decide⟩ ⟨by decide, by decide⟩ ko_38 ?_
      clear hM
      rintro _ _ (⟨hz, rfl, rfl⟩ | ⟨hz, g, M, ⟨rfl, rfl⟩, hM0, hdv, hvA, hvB⟩)
      · skip
        refine x_if_neZ C 34 dX12_digit_29 (by decide) (fun c29 => absurd c29 (by decide)) (fun c29 => ?_)
        refine x_iconst C (nI 0) dX12_digit_32 rfl ?_
        refine x_iret C xr xk dX12_digit_33 ?_
        exact hK _ _ (Or.inr ⟨wq, hw1, rfl, by first | exact Or.inl ⟨hz2, rfl, ((congrArg (fun z => x_u z 38 0 (nI 0)) (x_st_in (σ := σ) (F := [(38, 0, σ.1 38 0)]) (I := [(61, σ.1 61)]) (G := []) (And.intro rfl trivial) (And.intro rfl trivial) trivial)).trans (x_st_u rfl)).symm⟩ | exact Or.inr ⟨kq, hk1, rfl, Or.inl ⟨hz, rfl, ((congrArg (fun z => x_u z 38 0 (nI 0)) (x_st_in (σ := σ) (F := [(38, 0, σ.1 38 0)]) (I := [(61, σ.1 61)]) (G := []) (And.intro rfl trivial) (And.intro rfl trivial) trivial)).trans (x_st_u rfl)).symm⟩⟩⟩)
      · skip
        refine x_sig (σ' := x_st σ [(38, 0, nI 0)] [(61, g)] []) (x_st_st rfl) ?_
        refine x_if_neZ C 34 dX12_digit_29 (by decide) (fun c29 => ?_) (fun c29 => absurd c29 (by decide))
        have hvV : y_is g (64 * wq) (if wq = 0 then (y_abv (y_ct σ cn) cn sp M n) / (Nat.gcd (y_abv (y_ct σ cn) cn sp M n) (M * T)) else (M * T) / (Nat.gcd (y_abv (y_ct σ cn) cn sp M n) (M * T))) := by
          rcases (show wq = 0 ∨ wq = 1 by omega) with h9 | h9
          · subst h9; exact hvA
          · subst h9; exact hvB
        refine x_aload_n C (i := 0) dX12_digit_34 rfl rfl ?_
        refine x_getR C fr_38_37 kf_X12_79 dX12_digit_35 ?_
        refine x_bipush C (nI 64) dX12_digit_38 rfl ?_
        refine x_iload_n C (i := 1) dX12_digit_40 rfl rfl ?_
        refine x_imulN C dX12_digit_41 ?_
        refine x_iconst C (nI 2) dX12_digit_42 rfl ?_
        refine x_iload_n C (i := 2) dX12_digit_43 rfl rfl ?_
        refine x_imulN C dX12_digit_44 ?_
        refine x_iaddN C dX12_digit_45 ?_
        refine x_iconst C (nI 1) dX12_digit_46 rfl ?_
        refine x_iaddN C dX12_digit_47 ?_
        refine x_ialdN C (by decide) rfl (by decide) dX12_digit_48 (by omega) ?_
        refine x_topI (y := g ((64 * wq) + (2 * kq) + 1)) rfl ?_
        refine x_topI (y := nI (y_dg (if wq = 0 then (y_abv (y_ct σ cn) cn sp M n) / (Nat.gcd (y_abv (y_ct σ cn) cn sp M n) (M * T)) else (M * T) / (Nat.gcd (y_abv (y_ct σ cn) cn sp M n) (M * T))) (2 * kq + 1))) (hvV.2 (2 * kq + 1) (by omega)) ?_
        refine x_bipush C (nI 16) dX12_digit_49 rfl ?_
        refine x_ishl C dX12_digit_51 ?_
        refine x_aload_n C (i := 0) dX12_digit_52 rfl rfl ?_
        refine x_getR C fr_38_37 kf_X12_79 dX12_digit_53 ?_
        refine x_bipush C (nI 64) dX12_digit_56 rfl ?_
        refine x_iload_n C (i := 1) dX12_digit_58 rfl rfl ?_
        refine x_imulN C dX12_digit_59 ?_
        refine x_iconst C (nI 2) dX12_digit_60 rfl ?_
        refine x_iload_n C (i := 2) dX12_digit_61 rfl rfl ?_
        refine x_imulN C dX12_digit_62 ?_
        refine x_iaddN C dX12_digit_63 ?_
        refine x_ialdN C (by decide) rfl (by decide) dX12_digit_64 (by omega) ?_
        refine x_topI (y := g ((64 * wq) + (2 * kq))) rfl ?_
        refine x_topI (y := nI (y_dg (if wq = 0 then (y_abv (y_ct σ cn) cn sp M n) / (Nat.gcd (y_abv (y_ct σ cn) cn sp M n) (M * T)) else (M * T) / (Nat.gcd (y_abv (y_ct σ cn) cn sp M n) (M * T))) (2 * kq))) (hvV.2 (2 * kq) (by omega)) ?_
        refine x_ior C dX12_digit_65 ?_
        refine x_topI (y := nI (y_d32 (if wq = 0 then (y_abv (y_ct σ cn) cn sp M n) / (Nat.gcd (y_abv (y_ct σ cn) cn sp M n) (M * T)) else (M * T) / (Nat.gcd (y_abv (y_ct σ cn) cn sp M n) (M * T))) kq)) (by rw [y_d32_dg]; exact y_d32_o (y_dg_lt _ _) (y_dg_lt _ _)) ?_
        refine x_iret C xr xk dX12_digit_66 ?_
        exact hK _ _ (Or.inr ⟨wq, hw1, rfl, Or.inr ⟨kq, hk1, rfl, Or.inr ⟨hz, g, M, ⟨rfl, rfl⟩, hM0, hdv, hvA, hvB⟩⟩⟩)
  · skip
    refine x_aload_n C (i := 0) dX12_digit_0 rfl rfl ?_
    refine x_iload_n C (i := 1) dX12_digit_1 rfl rfl ?_
    refine x_iconst C (nI 0) dX12_digit_2 rfl ?_
    refine x_iconst C (nI 1) dX12_digit_3 rfl ?_
    have hM := c_X12_in l Y (x_st σ [(38, 0, σ.1 38 0)] [(61, σ.1 61)] []) w (nI 0) (nI 1)
    refine x_callS C (as := [.int w, .int (nI 0), .int (nI 1)]) (st := [.ref 38]) (hM) kb_X12_in ks_X12_96 dX12_digit_4 rfl rfl (Nat.le_of_ble_eq_true rfl) ⟨by decide, by decide⟩ ⟨by decide, by decide⟩ ?_
    clear hM
    rintro _ _ ⟨rfl, rfl⟩
    refine x_topI (y := x_z false) (by rw [Bool.eq_false_iff.mpr hz1]) ?_
    have hM := c_X12_goes l Y (x_st σ [(38, 0, σ.1 38 0)] [(61, σ.1 61)] []) false
    refine x_callV C (as := [.int (x_z false)]) (st := []) (hM) kb_X12_goes kv_X12_92 dX12_digit_7 rfl rfl (Nat.le_of_ble_eq_true rfl) ⟨by decide, by decide⟩ ⟨by decide, by decide⟩ ko_38 ?_
    clear hM
    rintro _ _ ⟨rfl, rfl⟩
    refine x_sig (σ' := x_st σ [(38, 0, nI 1)] [(61, σ.1 61)] []) (x_st_u rfl) ?_
    refine x_if_neZ C 15 dX12_digit_10 (by decide) (fun c10 => absurd c10 (by decide)) (fun c10 => ?_)
    refine x_iconst C (nI 0) dX12_digit_13 rfl ?_
    refine x_iret C xr xk dX12_digit_14 ?_
    exact hK _ _ (Or.inl ⟨fun z => hz1 ((x_rng_iff2 (by decide)).mpr z), rfl, ((congrArg (fun z => x_u z 38 0 (nI 1)) (x_st_in (σ := σ) (F := [(38, 0, σ.1 38 0)]) (I := [(61, σ.1 61)]) (G := []) (And.intro rfl trivial) (And.intro rfl trivial) trivial)).trans (x_st_u rfl)).symm⟩)
theorem c_X12_digit (l : Launch) (Y : x_Y) (σ : x_S) (w k : Int32) (n : Nat) (hn : σ.1 38 29 = nI n) (hn9 : n ≤ 3000) (cn sp : Nat → Nat) (hrow : ∀ a, a < n → σ.1 55 a = nI (cn a) ∧ 0 < cn a ∧ cn a ≤ 3000 ∧ σ.2 59 a = lN (sp a) ∧ sp a < 2 ^ 62) (T N0 : Nat) (hT : 0 < y_tot (y_ct σ cn) (σ.2 58) n → y_tot (y_ct σ cn) (σ.2 58) n = lN T ∧ 0 < T ∧ T < 2 ^ 62) (hN0 : ∀ a, a < n → y_ct σ cn a = true → cn a ∣ N0) (hN1 : 0 < N0) (hN9 : N0 * (y_ssp (y_ct σ cn) sp n + T + 1) * 2 ≤ 65536 ^ 64) : x_M l yX12_digit cX12_digit 3 (some .int) 3 Y [.ref 38, .int w, .int k] σ (fun r τ => (¬ x_rng w 2 ∧ r = some (.int (nI 0)) ∧ τ = x_u σ 38 0 (nI 1)) ∨ (∃ wq, wq < 2 ∧ w = nI wq ∧ ((¬ x_rng k 32 ∧ r = some (.int (nI 0)) ∧ τ = x_u σ 38 0 (nI 0)) ∨ (∃ kq, kq < 32 ∧ k = nI kq ∧ ((¬ 0 < y_tot (y_ct σ cn) (σ.2 58) n ∧ r = some (.int (nI 0)) ∧ τ = x_u σ 38 0 (nI 0)) ∨ (0 < y_tot (y_ct σ cn) (σ.2 58) n ∧ ∃ g M, (r = some (.int (nI (y_d32 (if wq = 0 then (y_abv (y_ct σ cn) cn sp M n) / (Nat.gcd (y_abv (y_ct σ cn) cn sp M n) (M * T)) else (M * T) / (Nat.gcd (y_abv (y_ct σ cn) cn sp M n) (M * T))) kq))) ∧ τ = x_st σ [(38, 0, nI 0)] [(61, g)] []) ∧ 0 < M ∧ (∀ a, a < n → y_ct σ cn a = true → cn a ∣ M) ∧ y_is g 0 ((y_abv (y_ct σ cn) cn sp M n) / (Nat.gcd (y_abv (y_ct σ cn) cn sp M n) (M * T))) ∧ y_is g 64 ((M * T) / (Nat.gcd (y_abv (y_ct σ cn) cn sp M n) (M * T))))))))) := c_X12_digit_K l Y σ w k n hn hn9 cn sp hrow T N0 hT hN0 hN1 hN9 _ (fun _ _ h => h)
