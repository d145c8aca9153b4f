set_option maxRecDepth 100000 in
set_option maxHeartbeats 200000 in
theorem c_X12_findCommon_K (l : Launch) (Y : x_Y) (σ : x_S) (a b : Nat) (f : Nat → Int32) (hf : σ.1 61 = f) (ha : y_is f 0 a) (hb : y_is f 64 b) (ha0 : 0 < a) (hb0 : 0 < b) (K : Option Value → x_S → Prop) (hK : ∀ (r : Option Value) (τ : x_S), (∃ g, (r = none ∧ τ = x_st σ [] [(61, g)] []) ∧ (∀ j, j < 128 → g j = f j) ∧ y_is g 128 (Nat.gcd a b)) → K r τ) : x_M l yX12_findCommon cX12_findCommon 3 none 1 Y [.ref 38] σ K := by
  refine x_start (by decide) (Nat.le_of_ble_eq_true rfl) ?_
  intro xp xe xs xm xg xb xt xc C xr xk
  refine x_sig (σ' := x_st σ [] [(61, f)] []) (x_st_in trivial (And.intro hf trivial) trivial) ?_
  refine x_aload_n C (i := 0) dX12_findCommon_0 rfl rfl ?_
  refine x_iconst C (nI 0) dX12_findCommon_1 rfl ?_
  refine x_sipush C (nI 128) dX12_findCommon_2 rfl ?_
  have hM := c_X12_copy l Y (x_st σ [] [(61, f)] []) 0 128 a f rfl (by decide) (by decide) (by decide) ha
  refine x_callV C (as := [.int (nI 0), .int (nI 128)]) (st := []) (hM) kb_X12_copy kv_X12_290 dX12_findCommon_5 rfl rfl (Nat.le_of_ble_eq_true rfl) ⟨by decide, by decide⟩ ⟨by decide, by decide⟩ ko_38 ?_
  clear hM
  rintro _ _ ⟨g1, ⟨rfl, rfl⟩, hr1, hv1⟩
  refine x_sig (σ' := x_st σ [] [(61, g1)] []) (x_st_st rfl) ?_
  refine x_aload_n C (i := 0) dX12_findCommon_8 rfl rfl ?_
  refine x_bipush C (nI 64) dX12_findCommon_9 rfl ?_
  refine x_sipush C (nI 192) dX12_findCommon_11 rfl ?_
  have hM := c_X12_copy l Y (x_st σ [] [(61, g1)] []) 64 192 b g1 rfl (by decide) (by decide) (by decide) (y_fr_is hr1 (by decide) hb)
  refine x_callV C (as := [.int (nI 64), .int (nI 192)]) (st := []) (hM) kb_X12_copy kv_X12_290 dX12_findCommon_14 rfl rfl (Nat.le_of_ble_eq_true rfl) ⟨by decide, by decide⟩ ⟨by decide, by decide⟩ ko_38 ?_
  clear hM
  rintro _ _ ⟨g2, ⟨rfl, rfl⟩, hr2, hv2⟩
  refine x_sig (σ' := x_st σ [] [(61, g2)] []) (x_st_st rfl) ?_
  refine x_iconst C (nI 0) dX12_findCommon_17 rfl ?_
  refine x_istore_n C (i := 1) dX12_findCommon_18 rfl (by decide) ?_
  have lp19 : ∀ (m19 : Nat) (tw : Nat) (u : Nat) (w : Nat) (g : Nat → Int32), (u) = m19 → (∀ j, j < 128 → g j = f j) → (y_is g 128 u) → (y_is g 192 w) → (0 < u) → (0 < w) → (u * 2 ^ tw = a) → (w * 2 ^ tw = b) → (tw < 1024) → ∀ L : x_Lo, L.1 0 = some (.ref 38) → L.1 1 = some (.int (nI tw)) → x_W xp l xe (x_rm 1) xs xm xg xb xt xc 3 Y 0 0 (MQ xb (x_Q Y K) xg xs 0 0 (x_A Y)) 19 L [] (x_st σ [] [(61, g)] []) := by
    intro m19
    induction m19 using Nat.strongRecOn with
    | _ m19 ih19 =>
      intro tw u w g hm19 hfr hu hw hu0 hw0 he he2 htw L xl0 xl1
      have lp65 : ∀ (m65 : Nat) (p : Nat) (q : Nat) (g : Nat → Int32), (p + q) = m65 → (∀ j, j < 128 → g j = f j) → (y_is g 128 p) → (y_is g 192 q) → (0 < p) → (¬ (p % 2 = 0 ∧ q % 2 = 0)) → (Nat.gcd p q * 2 ^ tw = Nat.gcd a b) → ∀ L : x_Lo, L.1 0 = some (.ref 38) → L.1 1 = some (.int (nI tw)) → x_W xp l xe (x_rm 1) xs xm xg xb xt xc 3 Y 0 0 (MQ xb (x_Q Y K) xg xs 0 0 (x_A Y)) 65 L [] (x_st σ [] [(61, g)] []) := by
        intro m65
        induction m65 using Nat.strongRecOn with
        | _ m65 ih65 =>
          intro p q g hm65 hfr2 hp hq hp0 hpq hgc L xl0 xl1
          refine x_aload_n C (i := 0) dX12_findCommon_65 rfl xl0 ?_
          refine x_sipush C (nI 192) dX12_findCommon_66 rfl ?_
          have hM := c_X12_isNought l Y (x_st σ [] [(61, g)] []) 192 q g rfl (by decide) hq
          refine x_callV C (as := [.int (nI 192)]) (st := []) (hM) kb_X12_isNought kv_X12_296 dX12_findCommon_69 rfl rfl (Nat.le_of_ble_eq_true rfl) ⟨by decide, by decide⟩ ⟨by decide, by decide⟩ ko_38 ?_
          clear hM
          rintro _ _ ⟨rfl, rfl⟩
          refine x_if_neZ C 177 dX12_findCommon_72 (by decide) (fun c72 => ?_) (fun c72 => ?_)
          · skip
            have hq0 := of_decide_eq_true c72
            subst hq0
            refine x_iconst C (nI 0) dX12_findCommon_177 rfl ?_
            refine x_istore_n C (i := 2) dX12_findCommon_178 rfl (by decide) ?_
            have lp179 : ∀ (m179 : Nat) (k : Nat) (gc : Nat → Int32), (tw - k) = m179 → (k ≤ tw) → (∀ j, j < 128 → gc j = f j) → (y_is gc 128 (p * 2 ^ k)) → ∀ L : x_Lo, L.1 0 = some (.ref 38) → L.1 1 = some (.int (nI tw)) → L.1 2 = some (.int (nI k)) → x_W xp l xe (x_rm 1) xs xm xg xb xt xc 3 Y 0 0 (MQ xb (x_Q Y K) xg xs 0 0 (x_A Y)) 179 L [] (x_st σ [] [(61, gc)] []) := by
              intro m179
              induction m179 using Nat.strongRecOn with
              | _ m179 ih179 =>
                intro k gc hm179 hk hfr5 hy L xl0 xl1 xl2
                refine x_iload_n C (i := 2) dX12_findCommon_179 rfl xl2 ?_
                refine x_iload_n C (i := 1) dX12_findCommon_180 rfl xl1 ?_
                refine x_icmp_geN C 200 dX12_findCommon_181 (by decide) (by omega) (by omega) (fun c181 => ?_) (fun c181 => ?_)
                · skip
                  have c181' := Nat.not_lt.mpr c181
                  obtain rfl : tw = k := by omega
                  refine x_vret C xr xk dX12_findCommon_200 ?_
                  exact hK _ _ ⟨_, ⟨rfl, rfl⟩, hfr5, by rw [← hgc, Nat.gcd_zero_right]; exact hy⟩
                · skip
                  have c181' := Nat.not_le.mpr c181
                  have hB := y_hB hgc c181 ha.1 ha0
                  refine x_aload_n C (i := 0) dX12_findCommon_184 rfl xl0 ?_
                  refine x_sipush C (nI 128) dX12_findCommon_185 rfl ?_
                  refine x_ldc2 C (2) kc_X12_305 dX12_findCommon_188 ?_
                  refine x_topL (y := lN 2) rfl ?_
                  have hM := c_X12_times l Y (x_st σ [] [(61, gc)] []) 128 2 (p * 2 ^ k) gc rfl (by decide) hy (by decide) hB
                  refine x_callV C (as := [.int (nI 128), .long (lN 2)]) (st := []) (hM) kb_X12_times kv_X12_307 dX12_findCommon_191 rfl rfl (Nat.le_of_ble_eq_true rfl) ⟨by decide, by decide⟩ ⟨by decide, by decide⟩ ko_38 ?_
                  clear hM
                  rintro _ _ ⟨gf, ⟨rfl, rfl⟩, hrd, hvd⟩
                  refine x_sig (σ' := x_st σ [] [(61, gf)] []) (x_st_st rfl) ?_
                  refine x_iincN C (i := 2) (b := 1) dX12_findCommon_194 xl2 rfl (by decide) ?_
                  refine x_goto C 179 dX12_findCommon_197 (by decide) ?_
                  exact ih179 _ (by omega) (k + 1) gf rfl (by omega) (fun j hj => (hrd j (by omega)).trans (hfr5 j hj)) (by rw [Nat.pow_succ, ← Nat.mul_assoc]; exact hvd) _ xl0 xl1 rfl
            exact lp179 _ 0 g rfl (Nat.zero_le _) hfr2 (by rw [Nat.pow_zero, Nat.mul_one]; exact hp) _ xl0 xl1 rfl
          · skip
            have hq0 := of_decide_eq_false c72
            have lp75 : ∀ (m75 : Nat) (p1 : Nat) (g3 : Nat → Int32), (p1) = m75 → (∀ j, j < 128 → g3 j = f j) → (y_is g3 128 p1) → (y_is g3 192 q) → (0 < p1) → (p1 ≤ p) → (¬ (p1 % 2 = 0 ∧ q % 2 = 0)) → (Nat.gcd p1 q * 2 ^ tw = Nat.gcd a b) → ∀ L : x_Lo, L.1 0 = some (.ref 38) → L.1 1 = some (.int (nI tw)) → x_W xp l xe (x_rm 1) xs xm xg xb xt xc 3 Y 0 0 (MQ xb (x_Q Y K) xg xs 0 0 (x_A Y)) 75 L [] (x_st σ [] [(61, g3)] []) := by
              intro m75
              induction m75 using Nat.strongRecOn with
              | _ m75 ih75 =>
                intro p1 g3 hm75 hfr3 hp1 hq1 hp10 hle1 hpq1 hgc1 L xl0 xl1
                refine x_aload_n C (i := 0) dX12_findCommon_75 rfl xl0 ?_
                refine x_getR C fr_38_37 kf_X12_79 dX12_findCommon_76 ?_
                refine x_sipush C (nI 128) dX12_findCommon_79 rfl ?_
                refine x_ialdN C (by decide) rfl (by decide) dX12_findCommon_82 (by omega) ?_
                refine x_topI (y := g3 128) rfl ?_
                refine x_topI (y := nI (y_dg p1 0)) (hp1.2 0 (by decide)) ?_
                refine x_iconst C (nI 1) dX12_findCommon_83 rfl ?_
                refine x_iand C dX12_findCommon_84 ?_
                refine x_topI (y := nI (p1 % 2)) (y_odd _) ?_
                refine x_if_neN C 98 dX12_findCommon_85 (by decide) (by omega) (fun c85 => ?_) (fun c85 => ?_)
                · skip
                  have lp98 : ∀ (m98 : Nat) (q1 : Nat) (g4 : Nat → Int32), (q1) = m98 → (∀ j, j < 128 → g4 j = f j) → (y_is g4 128 p1) → (y_is g4 192 q1) → (0 < q1) → (q1 ≤ q) → (Nat.gcd p1 q1 * 2 ^ tw = Nat.gcd a b) → ∀ L : x_Lo, L.1 0 = some (.ref 38) → L.1 1 = some (.int (nI tw)) → x_W xp l xe (x_rm 1) xs xm xg xb xt xc 3 Y 0 0 (MQ xb (x_Q Y K) xg xs 0 0 (x_A Y)) 98 L [] (x_st σ [] [(61, g4)] []) := by
                    intro m98
                    induction m98 using Nat.strongRecOn with
                    | _ m98 ih98 =>
                      intro q1 g4 hm98 hfr4 hp2 hq2 hq10 hle2 hgc2 L xl0 xl1
                      refine x_aload_n C (i := 0) dX12_findCommon_98 rfl xl0 ?_
                      refine x_getR C fr_38_37 kf_X12_79 dX12_findCommon_99 ?_
                      refine x_sipush C (nI 192) dX12_findCommon_102 rfl ?_
                      refine x_ialdN C (by decide) rfl (by decide) dX12_findCommon_105 (by omega) ?_
                      refine x_topI (y := g4 192) rfl ?_
                      refine x_topI (y := nI (y_dg q1 0)) (hq2.2 0 (by decide)) ?_
                      refine x_iconst C (nI 1) dX12_findCommon_106 rfl ?_
                      refine x_iand C dX12_findCommon_107 ?_
                      refine x_topI (y := nI (q1 % 2)) (y_odd _) ?_
                      refine x_if_neN C 121 dX12_findCommon_108 (by decide) (by omega) (fun c108 => ?_) (fun c108 => ?_)
                      · skip
                        refine x_aload_n C (i := 0) dX12_findCommon_121 rfl xl0 ?_
                        refine x_sipush C (nI 192) dX12_findCommon_122 rfl ?_
                        refine x_sipush C (nI 128) dX12_findCommon_125 rfl ?_
                        have hM := c_X12_isBelow l Y (x_st σ [] [(61, g4)] []) 192 128 q1 p1 g4 rfl (by decide) (by decide) hq2 hp2
                        refine x_callV C (as := [.int (nI 192), .int (nI 128)]) (st := []) (hM) kb_X12_isBelow kv_X12_299 dX12_findCommon_128 rfl rfl (Nat.le_of_ble_eq_true rfl) ⟨by decide, by decide⟩ ⟨by decide, by decide⟩ ko_38 ?_
                        clear hM
                        rintro _ _ ⟨rfl, rfl⟩
                        refine x_if_eqZ C 164 dX12_findCommon_131 (by decide) (fun c131 => ?_) (fun c131 => ?_)
                        · skip
                          have hb1 := of_decide_eq_false c131
                          refine x_aload_n C (i := 0) dX12_findCommon_164 rfl xl0 ?_
                          refine x_sipush C (nI 192) dX12_findCommon_165 rfl ?_
                          refine x_sipush C (nI 128) dX12_findCommon_168 rfl ?_
                          have hM := c_X12_subtract l Y (x_st σ [] [(61, g4)] []) 192 128 q1 p1 g4 rfl (by decide) (by decide) (by decide) hq2 hp2 (by omega)
                          refine x_callV C (as := [.int (nI 192), .int (nI 128)]) (st := []) (hM) kb_X12_subtract kv_X12_302 dX12_findCommon_171 rfl rfl (Nat.le_of_ble_eq_true rfl) ⟨by decide, by decide⟩ ⟨by decide, by decide⟩ ko_38 ?_
                          clear hM
                          rintro _ _ ⟨g8, ⟨rfl, rfl⟩, hr8, hv8⟩
                          refine x_sig (σ' := x_st σ [] [(61, g8)] []) (x_st_st rfl) ?_
                          refine x_goto C 65 dX12_findCommon_174 (by decide) ?_
                          exact ih65 _ (by omega) p1 (q1 - p1) g8 rfl (fun j hj => (hr8 j (by omega)).trans (hfr4 j hj)) (y_fr_is hr8 (by decide) hp2) hv8 hp10 (fun z => c85 z.1) (by rw [y_gs (by omega)]; exact hgc2) _ xl0 xl1
                        · skip
                          have hb1 := of_decide_eq_true c131
                          refine x_aload_n C (i := 0) dX12_findCommon_134 rfl xl0 ?_
                          refine x_sipush C (nI 128) dX12_findCommon_135 rfl ?_
                          refine x_sipush C (nI 256) dX12_findCommon_138 rfl ?_
                          have hM := c_X12_copy l Y (x_st σ [] [(61, g4)] []) 128 256 p1 g4 rfl (by decide) (by decide) (by decide) hp2
                          refine x_callV C (as := [.int (nI 128), .int (nI 256)]) (st := []) (hM) kb_X12_copy kv_X12_290 dX12_findCommon_141 rfl rfl (Nat.le_of_ble_eq_true rfl) ⟨by decide, by decide⟩ ⟨by decide, by decide⟩ ko_38 ?_
                          clear hM
                          rintro _ _ ⟨g5, ⟨rfl, rfl⟩, hr5, hv5⟩
                          refine x_sig (σ' := x_st σ [] [(61, g5)] []) (x_st_st rfl) ?_
                          refine x_aload_n C (i := 0) dX12_findCommon_144 rfl xl0 ?_
                          refine x_sipush C (nI 192) dX12_findCommon_145 rfl ?_
                          refine x_sipush C (nI 128) dX12_findCommon_148 rfl ?_
                          have hM := c_X12_copy l Y (x_st σ [] [(61, g5)] []) 192 128 q1 g5 rfl (by decide) (by decide) (by decide) (y_fr_is hr5 (by decide) hq2)
                          refine x_callV C (as := [.int (nI 192), .int (nI 128)]) (st := []) (hM) kb_X12_copy kv_X12_290 dX12_findCommon_151 rfl rfl (Nat.le_of_ble_eq_true rfl) ⟨by decide, by decide⟩ ⟨by decide, by decide⟩ ko_38 ?_
                          clear hM
                          rintro _ _ ⟨g6, ⟨rfl, rfl⟩, hr6, hv6⟩
                          refine x_sig (σ' := x_st σ [] [(61, g6)] []) (x_st_st rfl) ?_
                          refine x_aload_n C (i := 0) dX12_findCommon_154 rfl xl0 ?_
                          refine x_sipush C (nI 256) dX12_findCommon_155 rfl ?_
                          refine x_sipush C (nI 192) dX12_findCommon_158 rfl ?_
                          have hM := c_X12_copy l Y (x_st σ [] [(61, g6)] []) 256 192 p1 g6 rfl (by decide) (by decide) (by decide) (y_fr_is hr6 (by decide) hv5)
                          refine x_callV C (as := [.int (nI 256), .int (nI 192)]) (st := []) (hM) kb_X12_copy kv_X12_290 dX12_findCommon_161 rfl rfl (Nat.le_of_ble_eq_true rfl) ⟨by decide, by decide⟩ ⟨by decide, by decide⟩ ko_38 ?_
                          clear hM
                          rintro _ _ ⟨g7, ⟨rfl, rfl⟩, hr7, hv7⟩
                          refine x_sig (σ' := x_st σ [] [(61, g7)] []) (x_st_st rfl) ?_
                          refine x_aload_n C (i := 0) dX12_findCommon_164 rfl xl0 ?_
                          refine x_sipush C (nI 192) dX12_findCommon_165 rfl ?_
                          refine x_sipush C (nI 128) dX12_findCommon_168 rfl ?_
                          have hM := c_X12_subtract l Y (x_st σ [] [(61, g7)] []) 192 128 p1 q1 g7 rfl (by decide) (by decide) (by decide) hv7 (y_fr_is hr7 (by decide) hv6) (by omega)
                          refine x_callV C (as := [.int (nI 192), .int (nI 128)]) (st := []) (hM) kb_X12_subtract kv_X12_302 dX12_findCommon_171 rfl rfl (Nat.le_of_ble_eq_true rfl) ⟨by decide, by decide⟩ ⟨by decide, by decide⟩ ko_38 ?_
                          clear hM
                          rintro _ _ ⟨g9, ⟨rfl, rfl⟩, hr9, hv9⟩
                          refine x_sig (σ' := x_st σ [] [(61, g9)] []) (x_st_st rfl) ?_
                          refine x_goto C 65 dX12_findCommon_174 (by decide) ?_
                          exact ih65 _ (by omega) q1 (p1 - q1) g9 rfl (fun j hj => (hr9 j (by omega)).trans ((hr7 j (by omega)).trans ((hr6 j (by omega)).trans ((hr5 j (by omega)).trans (hfr4 j hj))))) (y_fr_is hr9 (by decide) (y_fr_is hr7 (by decide) hv6)) hv9 hq10 (fun z => c108 z.1) (by rw [y_gs (by omega), Nat.gcd_comm]; exact hgc2) _ xl0 xl1
                      · skip
                        refine x_aload_n C (i := 0) dX12_findCommon_111 rfl xl0 ?_
                        refine x_sipush C (nI 192) dX12_findCommon_112 rfl ?_
                        have hM := c_X12_halve l Y (x_st σ [] [(61, g4)] []) 192 q1 g4 rfl (by decide) hq2
                        refine x_callV C (as := [.int (nI 192)]) (st := []) (hM) kb_X12_halve kv_X12_293 dX12_findCommon_115 rfl rfl (Nat.le_of_ble_eq_true rfl) ⟨by decide, by decide⟩ ⟨by decide, by decide⟩ ko_38 ?_
                        clear hM
                        rintro _ _ ⟨ge, ⟨rfl, rfl⟩, hrb, hvb⟩
                        refine x_sig (σ' := x_st σ [] [(61, ge)] []) (x_st_st rfl) ?_
                        refine x_goto C 98 dX12_findCommon_118 (by decide) ?_
                        exact ih98 _ (by omega) (q1 / 2) ge rfl (fun j hj => (hrb j (by omega)).trans (hfr4 j hj)) (y_fr_is hrb (by decide) hp2) hvb (by omega) (by omega) (by rw [y_g2r (by omega) c108]; exact hgc2) _ xl0 xl1
                  exact lp98 _ q g3 rfl hfr3 hp1 hq1 (Nat.pos_of_ne_zero hq0) (Nat.le_refl _) hgc1 _ xl0 xl1
                · skip
                  refine x_aload_n C (i := 0) dX12_findCommon_88 rfl xl0 ?_
                  refine x_sipush C (nI 128) dX12_findCommon_89 rfl ?_
                  have hM := c_X12_halve l Y (x_st σ [] [(61, g3)] []) 128 p1 g3 rfl (by decide) hp1
                  refine x_callV C (as := [.int (nI 128)]) (st := []) (hM) kb_X12_halve kv_X12_293 dX12_findCommon_92 rfl rfl (Nat.le_of_ble_eq_true rfl) ⟨by decide, by decide⟩ ⟨by decide, by decide⟩ ko_38 ?_
                  clear hM
                  rintro _ _ ⟨gd, ⟨rfl, rfl⟩, hra, hva⟩
                  refine x_sig (σ' := x_st σ [] [(61, gd)] []) (x_st_st rfl) ?_
                  refine x_goto C 75 dX12_findCommon_95 (by decide) ?_
                  exact ih75 _ (by omega) (p1 / 2) gd rfl (fun j hj => (hra j (by omega)).trans (hfr3 j hj)) hva (y_fr_is hra (by decide) hq1) (by omega) (by omega) (fun z => hpq1 ⟨c85, z.2⟩) (by rw [y_g2 (by omega) c85]; exact hgc1) _ xl0 xl1
            exact lp75 _ p g rfl hfr2 hp hq hp0 (Nat.le_refl _) hpq hgc _ xl0 xl1
      refine x_aload_n C (i := 0) dX12_findCommon_19 rfl xl0 ?_
      refine x_getR C fr_38_37 kf_X12_79 dX12_findCommon_20 ?_
      refine x_sipush C (nI 128) dX12_findCommon_23 rfl ?_
      refine x_ialdN C (by decide) rfl (by decide) dX12_findCommon_26 (by omega) ?_
      refine x_topI (y := g 128) rfl ?_
      refine x_topI (y := nI (y_dg u 0)) (hu.2 0 (by decide)) ?_
      refine x_iconst C (nI 1) dX12_findCommon_27 rfl ?_
      refine x_iand C dX12_findCommon_28 ?_
      refine x_topI (y := nI (u % 2)) (y_odd _) ?_
      refine x_if_neN C 65 dX12_findCommon_29 (by decide) (by omega) (fun c29 => ?_) (fun c29 => ?_)
      · skip
        exact lp65 _ u w g rfl hfr hu hw hu0 (fun z => c29 z.1) (y_gp he he2) _ xl0 xl1
      · skip
        refine x_aload_n C (i := 0) dX12_findCommon_32 rfl xl0 ?_
        refine x_getR C fr_38_37 kf_X12_79 dX12_findCommon_33 ?_
        refine x_sipush C (nI 192) dX12_findCommon_36 rfl ?_
        refine x_ialdN C (by decide) rfl (by decide) dX12_findCommon_39 (by omega) ?_
        refine x_topI (y := g 192) rfl ?_
        refine x_topI (y := nI (y_dg w 0)) (hw.2 0 (by decide)) ?_
        refine x_iconst C (nI 1) dX12_findCommon_40 rfl ?_
        refine x_iand C dX12_findCommon_41 ?_
        refine x_topI (y := nI (w % 2)) (y_odd _) ?_
        refine x_if_neN C 65 dX12_findCommon_42 (by decide) (by omega) (fun c42 => ?_) (fun c42 => ?_)
        · skip
          exact lp65 _ u w g rfl hfr hu hw hu0 (fun z => c42 z.2) (y_gp he he2) _ xl0 xl1
        · skip
          refine x_aload_n C (i := 0) dX12_findCommon_45 rfl xl0 ?_
          refine x_sipush C (nI 128) dX12_findCommon_46 rfl ?_
          have hM := c_X12_halve l Y (x_st σ [] [(61, g)] []) 128 u g rfl (by decide) hu
          refine x_callV C (as := [.int (nI 128)]) (st := []) (hM) kb_X12_halve kv_X12_293 dX12_findCommon_49 rfl rfl (Nat.le_of_ble_eq_true rfl) ⟨by decide, by decide⟩ ⟨by decide, by decide⟩ ko_38 ?_
          clear hM
          rintro _ _ ⟨ga, ⟨rfl, rfl⟩, hr3, hv3⟩
          refine x_sig (σ' := x_st σ [] [(61, ga)] []) (x_st_st rfl) ?_
          refine x_aload_n C (i := 0) dX12_findCommon_52 rfl xl0 ?_
          refine x_sipush C (nI 192) dX12_findCommon_53 rfl ?_
          have hM := c_X12_halve l Y (x_st σ [] [(61, ga)] []) 192 w ga rfl (by decide) (y_fr_is hr3 (by decide) hw)
          refine x_callV C (as := [.int (nI 192)]) (st := []) (hM) kb_X12_halve kv_X12_293 dX12_findCommon_56 rfl rfl (Nat.le_of_ble_eq_true rfl) ⟨by decide, by decide⟩ ⟨by decide, by decide⟩ ko_38 ?_
          clear hM
          rintro _ _ ⟨gb, ⟨rfl, rfl⟩, hr4, hv4⟩
          refine x_sig (σ' := x_st σ [] [(61, gb)] []) (x_st_st rfl) ?_
          refine x_iincN C (i := 1) (b := 1) dX12_findCommon_59 xl1 rfl (by decide) ?_
          refine x_goto C 19 dX12_findCommon_62 (by decide) ?_
          exact ih19 _ (by omega) (tw + 1) (u / 2) (w / 2) gb rfl (fun j hj => (hr4 j (by omega)).trans ((hr3 j (by omega)).trans (hfr j hj))) (y_fr_is hr4 (by decide) hv3) hv4 (by omega) (by omega) (y_hh c29 he) (y_hh c42 he2) (y_tw (by omega) (y_hh c29 he) ha.1) _ xl0 rfl
  exact lp19 _ 0 a b g2 rfl (fun j hj => (hr2 j (by omega)).trans (hr1 j (by omega))) (y_fr_is hr2 (by decide) hv1) hv2 ha0 hb0 (by rw [Nat.pow_zero, Nat.mul_one]) (by rw [Nat.pow_zero, Nat.mul_one]) (by decide) _ rfl rfl
theorem c_X12_findCommon (l : Launch) (Y : x_Y) (σ : x_S) (a b : Nat) (f : Nat → Int32) (hf : σ.1 61 = f) (ha : y_is f 0 a) (hb : y_is f 64 b) (ha0 : 0 < a) (hb0 : 0 < b) : x_M l yX12_findCommon cX12_findCommon 3 none 1 Y [.ref 38] σ (fun r τ => ∃ g, (r = none ∧ τ = x_st σ [] [(61, g)] []) ∧ (∀ j, j < 128 → g j = f j) ∧ y_is g 128 (Nat.gcd a b)) := c_X12_findCommon_K l Y σ a b f hf ha hb ha0 hb0 _ (fun _ _ h => h)
set_option maxRecDepth 100000 in
set_option maxHeartbeats 200000 in
theorem c_X12_lessen_K (l : Launch) (Y : x_Y) (σ : x_S) (x v d : Nat) (f : Nat → Int32) (hf : σ.1 61 = f) (hx : x + 64 ≤ 128) (hv : y_is f x v) (hd : y_is f 128 d) (hd0 : 0 < d) (hd9 : 2 * d ≤ 65536 ^ 64) (K : Option Value → x_S → Prop) (hK : ∀ (r : Option Value) (τ : x_S), (∃ g, (r = none ∧ τ = x_st σ [] [(61, g)] []) ∧ (∀ j, j < x ∨ (x + 64 ≤ j ∧ j < 256) → g j = f j) ∧ y_is g x (v / d)) → K r τ) : x_M l yX12_lessen cX12_lessen 4 none 1 Y [.ref 38, .int (nI x)] σ K := by
  refine x_start (by decide) (Nat.le_of_ble_eq_true rfl) ?_
  intro xp xe xs xm xg xb xt xc C xr xk
  refine x_sig (σ' := x_st σ [] [(61, f)] []) (x_st_in trivial (And.intro hf trivial) trivial) ?_
  refine x_aload_n C (i := 0) dX12_lessen_0 rfl rfl ?_
  refine x_sipush C (nI 256) dX12_lessen_1 rfl ?_
  refine x_iconst C (nI 0) dX12_lessen_4 rfl ?_
  have hM := c_X12_clear l Y (x_st σ [] [(61, f)] []) 256 0  f rfl (by decide) (by decide)
  refine x_callV C (as := [.int (nI 256), .int (nI 0)]) (st := []) (hM) kb_X12_clear kv_X12_311 dX12_lessen_5 rfl rfl (Nat.le_of_ble_eq_true rfl) ⟨by decide, by decide⟩ ⟨by decide, by decide⟩ ko_38 ?_
  clear hM
  rintro _ _ ⟨g1, ⟨rfl, rfl⟩, hr1, hv1⟩
  refine x_sig (σ' := x_st σ [] [(61, g1)] []) (x_st_st rfl) ?_
  refine x_sipush C (nI 1023) dX12_lessen_8 rfl ?_
  refine x_topI (y := nI 1024 + (-1)) rfl ?_
  refine x_istore_n C (i := 2) dX12_lessen_11 rfl (by decide) ?_
  have lp12 : ∀ (m12 : Nat) (ii : Nat) (g : Nat → Int32), (ii) = m12 → (ii ≤ 1024) → (∀ j, j < x ∨ (x + 64 ≤ j ∧ j < 256) → g j = f j) → (y_is g x (y_le v d ii)) → (y_is g 256 (v / 2 ^ ii % d)) → ∀ L : x_Lo, L.1 0 = some (.ref 38) → L.1 1 = some (.int (nI x)) → L.1 2 = some (.int (nI ii + (-1))) → x_W xp l xe (x_rm 1) xs xm xg xb xt xc 4 Y 0 0 (MQ xb (x_Q Y K) xg xs 0 0 (x_A Y)) 12 L [] (x_st σ [] [(61, g)] []) := by
    intro m12
    induction m12 using Nat.strongRecOn with
    | _ m12 ih12 =>
      intro ii g hm12 hi hfr hX hl L xl0 xl1 xl2
      refine x_iload_n C (i := 2) dX12_lessen_12 rfl xl2 ?_
      refine x_jf_lt C 146 dX12_lessen_13 (by decide) (fun c13 => ?_) (fun c13 => ?_)
      · skip
        have c13' := Int32.not_le.mpr c13
        have hk0 : ii = 0 := by
          rcases ii with _ | k
          · rfl
          · rw [pk_m1] at c13; exact absurd c13 (y_nneg (by omega))
        subst hk0
        refine x_vret C xr xk dX12_lessen_146 ?_
        exact hK _ _ ⟨_, ⟨rfl, rfl⟩, hfr, by rw [← y_le_0 v d]; exact hX⟩
      · skip
        have c13' := Int32.not_lt.mpr c13
        obtain ⟨i, rfl⟩ : ∃ i, ii = i + 1 := by
          rcases ii with _ | k
          · exact absurd c13 (by decide)
          · exact ⟨k, rfl⟩
        rw [pk_m1] at xl2
        have hR9 := Nat.mod_lt (v / 2 ^ (i + 1)) hd0
        have hB9 : v / 2 ^ i % 2 < 2 := Nat.mod_lt _ (by decide)
        have hdg : y_is g 128 d := y_is_eq (fun j h8 h9 => hfr j (by omega)) hd
        refine x_aload_n C (i := 0) dX12_lessen_16 rfl xl0 ?_
        refine x_sipush C (nI 256) dX12_lessen_17 rfl ?_
        refine x_ldc2 C (2) kc_X12_305 dX12_lessen_20 ?_
        refine x_topL (y := lN 2) rfl ?_
        have hM := c_X12_times l Y (x_st σ [] [(61, g)] []) 256 2 (v / 2 ^ (i + 1) % d) g rfl (by decide) hl (by decide) (by omega)
        refine x_callV C (as := [.int (nI 256), .long (lN 2)]) (st := []) (hM) kb_X12_times kv_X12_307 dX12_lessen_23 rfl rfl (Nat.le_of_ble_eq_true rfl) ⟨by decide, by decide⟩ ⟨by decide, by decide⟩ ko_38 ?_
        clear hM
        rintro _ _ ⟨g2, ⟨rfl, rfl⟩, hr2, hv2⟩
        refine x_sig (σ' := x_st σ [] [(61, g2)] []) (x_st_st rfl) ?_
        refine x_aload_n C (i := 0) dX12_lessen_26 rfl xl0 ?_
        refine x_getR C fr_38_37 kf_X12_79 dX12_lessen_27 ?_
        refine x_sipush C (nI 256) dX12_lessen_30 rfl ?_
        refine x_aload_n C (i := 0) dX12_lessen_33 rfl xl0 ?_
        refine x_getR C fr_38_37 kf_X12_79 dX12_lessen_34 ?_
        refine x_sipush C (nI 256) dX12_lessen_37 rfl ?_
        refine x_ialdN C (by decide) rfl (by decide) dX12_lessen_40 (by omega) ?_
        refine x_topI (y := g2 256) rfl ?_
        refine x_topI (y := nI (y_dg (v / 2 ^ (i + 1) % d * 2) 0)) (hv2.2 0 (by decide)) ?_
        refine x_aload_n C (i := 0) dX12_lessen_41 rfl xl0 ?_
        refine x_getR C fr_38_37 kf_X12_79 dX12_lessen_42 ?_
        refine x_iload_n C (i := 1) dX12_lessen_45 rfl xl1 ?_
        refine x_iload_n C (i := 2) dX12_lessen_46 rfl xl2 ?_
        refine x_bipush C (nI 16) dX12_lessen_47 rfl ?_
        refine x_idivN C dX12_lessen_49 (by omega) (by omega) (by omega) ?_
        refine x_iaddN C dX12_lessen_50 ?_
        refine x_ialdN C (by decide) rfl (by decide) dX12_lessen_51 (by omega) ?_
        refine x_topI (y := g2 (x + (i / 16))) rfl ?_
        refine x_topI (y := nI (y_dg (y_le v d (i + 1)) (i / 16))) ((hr2 _ (by omega)).trans (hX.2 (i / 16) (by omega))) ?_
        refine x_iload_n C (i := 2) dX12_lessen_52 rfl xl2 ?_
        refine x_bipush C (nI 16) dX12_lessen_53 rfl ?_
        refine x_iremN C dX12_lessen_55 (by omega) (by omega) (by omega) ?_
        refine x_ishr C dX12_lessen_56 ?_
        refine x_iconst C (nI 1) dX12_lessen_57 rfl ?_
        refine x_iand C dX12_lessen_58 ?_
        refine x_topI (y := nI (v / 2 ^ i % 2)) (by rw [y_rb (by omega) (y_dg_lt _ _), ← y_bit, (y_le_lo v d i).2]) ?_
        refine x_ior C dX12_lessen_59 ?_
        refine x_topI (y := nI (y_dg (v / 2 ^ (i + 1) % d * 2 + v / 2 ^ i % 2) 0)) (y_ev_o hB9) ?_
        obtain ⟨g3, hg3⟩ : ∃ z, z = upd g2 256 (nI (y_dg (v / 2 ^ (i + 1) % d * 2 + v / 2 ^ i % 2) 0)) := ⟨_, rfl⟩
        have hv3 : y_is g3 256 (v / 2 ^ (i + 1) % d * 2 + v / 2 ^ i % 2) := by rw [hg3]; exact y_is_ev hB9 hv2 (by omega)
        have hr3 : y_fr 256 g g3 := by rw [hg3]; exact y_fr_u (k := 0) hr2 (by decide)
        have hX3 := y_fr_is hr3 (by omega) hX
        have hd3 := y_fr_is hr3 (by decide) hdg
        have hfr3 : ∀ j, j < x ∨ (x + 64 ≤ j ∧ j < 256) → g3 j = f j := fun j hj => (hr3 j (by omega)).trans (hfr j hj)
        refine x_iastN C (by decide) rfl (by decide) dX12_lessen_60 (by omega) ?_
        refine x_sig (σ' := x_st σ [] [(61, upd g2 256 (nI (y_dg (v / 2 ^ (i + 1) % d * 2 + v / 2 ^ i % 2) 0)))] []) (x_st_ua rfl) ?_
        refine x_sig (σ' := x_st σ [] [(61, g3)] []) (congrArg (fun z => x_st σ [] [(61, z)] []) hg3.symm) ?_
        refine x_aload_n C (i := 0) dX12_lessen_61 rfl xl0 ?_
        refine x_sipush C (nI 256) dX12_lessen_62 rfl ?_
        refine x_sipush C (nI 128) dX12_lessen_65 rfl ?_
        have hM := c_X12_isBelow l Y (x_st σ [] [(61, g3)] []) 256 128 (v / 2 ^ (i + 1) % d * 2 + v / 2 ^ i % 2) d g3 rfl (by decide) (by decide) hv3 hd3
        refine x_callV C (as := [.int (nI 256), .int (nI 128)]) (st := []) (hM) kb_X12_isBelow kv_X12_299 dX12_lessen_68 rfl rfl (Nat.le_of_ble_eq_true rfl) ⟨by decide, by decide⟩ ⟨by decide, by decide⟩ ko_38 ?_
        clear hM
        rintro _ _ ⟨rfl, rfl⟩
        refine x_if_neZ C 78 dX12_lessen_71 (by decide) (fun c71 => ?_) (fun c71 => ?_)
        · skip
          have hb1 := of_decide_eq_true c71
          have hq := (y_le_s (v := v) (i := i) hd0).1 hb1
          refine x_iconst C (nI 0) dX12_lessen_78 rfl ?_
          refine x_istore_n C (i := 3) dX12_lessen_79 rfl (by decide) ?_
          refine x_iload_n C (i := 3) dX12_lessen_80 rfl rfl ?_
          refine x_if_eqN C 94 dX12_lessen_81 (by decide) (by omega) (fun c81 => ?_) (fun c81 => absurd c81 (by decide))
          refine x_aload_n C (i := 0) dX12_lessen_94 rfl xl0 ?_
          refine x_getR C fr_38_37 kf_X12_79 dX12_lessen_95 ?_
          refine x_iload_n C (i := 1) dX12_lessen_98 rfl xl1 ?_
          refine x_iload_n C (i := 2) dX12_lessen_99 rfl xl2 ?_
          refine x_bipush C (nI 16) dX12_lessen_100 rfl ?_
          refine x_idivN C dX12_lessen_102 (by omega) (by omega) (by omega) ?_
          refine x_iaddN C dX12_lessen_103 ?_
          refine x_aload_n C (i := 0) dX12_lessen_104 rfl xl0 ?_
          refine x_getR C fr_38_37 kf_X12_79 dX12_lessen_105 ?_
          refine x_iload_n C (i := 1) dX12_lessen_108 rfl xl1 ?_
          refine x_iload_n C (i := 2) dX12_lessen_109 rfl xl2 ?_
          refine x_bipush C (nI 16) dX12_lessen_110 rfl ?_
          refine x_idivN C dX12_lessen_112 (by omega) (by omega) (by omega) ?_
          refine x_iaddN C dX12_lessen_113 ?_
          refine x_ialdN C (by decide) rfl (by decide) dX12_lessen_114 (by omega) ?_
          refine x_topI (y := g3 (x + (i / 16))) rfl ?_
          refine x_topI (y := nI (y_dg (y_le v d (i + 1)) (i / 16))) (hX3.2 (i / 16) (by omega)) ?_
          refine x_iconst C (nI 1) dX12_lessen_115 rfl ?_
          refine x_iload_n C (i := 2) dX12_lessen_116 rfl xl2 ?_
          refine x_bipush C (nI 16) dX12_lessen_117 rfl ?_
          refine x_iremN C dX12_lessen_119 (by omega) (by omega) (by omega) ?_
          refine x_ishl C dX12_lessen_120 ?_
          refine x_iconst C (-1) dX12_lessen_121 rfl ?_
          refine x_ixor C dX12_lessen_122 ?_
          refine x_iand C dX12_lessen_123 ?_
          refine x_topI (y := nI (y_bs (y_dg (y_le v d (i + 1)) (i / 16)) (i % 16) 0)) (y_wb0 (by omega) (y_dg_lt _ _)) ?_
          refine x_iload_n C (i := 3) dX12_lessen_124 rfl rfl ?_
          refine x_if_eqN C 137 dX12_lessen_125 (by decide) (by omega) (fun c125 => ?_) (fun c125 => absurd c125 (by decide))
          refine x_iconst C (nI 0) dX12_lessen_137 rfl ?_
          refine x_ior C dX12_lessen_138 ?_
          refine x_topI (y := nI (y_bs (y_dg (y_le v d (i + 1)) (i / 16)) (i % 16) 0)) (y_wbz (by omega) (y_dg_lt _ _)) ?_
          refine x_iastN C (by decide) rfl (by decide) dX12_lessen_139 (by omega) ?_
          refine x_sig (σ' := x_st σ [] [(61, upd g3 (x + (i / 16)) (nI (y_bs (y_dg (y_le v d (i + 1)) (i / 16)) (i % 16) 0)))] []) (x_st_ua rfl) ?_
          refine x_iinc C (i := 2) (-1) dX12_lessen_140 xl2 rfl (by decide) ?_
          refine x_goto C 12 dX12_lessen_143 (by decide) ?_
          exact ih12 _ (by omega) i (upd g3 (x + (i / 16)) (nI (y_bs (y_dg (y_le v d (i + 1)) (i / 16)) (i % 16) 0))) rfl (by omega) (fun j hj => by rw [pk_un (by omega)]; exact hfr3 j hj) (by
      have h9 := y_is_sb (i := i) (c := 0) (by decide) hX3 (by rw [hq.2]; exact Nat.lt_of_le_of_lt (y_le_le _ _ _) hv.1)
      rw [hq.2] at h9
      exact h9) (by rw [hq.1]; exact y_fr_is (x := x) (fun j hj => pk_un (by omega)) (by omega) hv3) _ xl0 xl1 rfl
        · skip
          have hb1 := of_decide_eq_false c71
          have hq := (y_le_s (v := v) (i := i) hd0).2 hb1
          refine x_iconst C (nI 1) dX12_lessen_74 rfl ?_
          refine x_goto C 79 dX12_lessen_75 (by decide) ?_
          refine x_istore_n C (i := 3) dX12_lessen_79 rfl (by decide) ?_
          refine x_iload_n C (i := 3) dX12_lessen_80 rfl rfl ?_
          refine x_if_eqN C 94 dX12_lessen_81 (by decide) (by omega) (fun c81 => absurd c81 (by decide)) (fun c81 => ?_)
          refine x_aload_n C (i := 0) dX12_lessen_84 rfl xl0 ?_
          refine x_sipush C (nI 256) dX12_lessen_85 rfl ?_
          refine x_sipush C (nI 128) dX12_lessen_88 rfl ?_
          have hM := c_X12_subtract l Y (x_st σ [] [(61, g3)] []) 256 128 (v / 2 ^ (i + 1) % d * 2 + v / 2 ^ i % 2) d g3 rfl (by decide) (by decide) (by decide) hv3 hd3 (by omega)
          refine x_callV C (as := [.int (nI 256), .int (nI 128)]) (st := []) (hM) kb_X12_subtract kv_X12_302 dX12_lessen_91 rfl rfl (Nat.le_of_ble_eq_true rfl) ⟨by decide, by decide⟩ ⟨by decide, by decide⟩ ko_38 ?_
          clear hM
          rintro _ _ ⟨g4, ⟨rfl, rfl⟩, hr4, hv4⟩
          refine x_sig (σ' := x_st σ [] [(61, g4)] []) (x_st_st rfl) ?_
          have hfr4 : ∀ j, j < x ∨ (x + 64 ≤ j ∧ j < 256) → g4 j = f j := fun j hj => (hr4 j (by omega)).trans (hfr3 j hj)
          refine x_aload_n C (i := 0) dX12_lessen_94 rfl xl0 ?_
          refine x_getR C fr_38_37 kf_X12_79 dX12_lessen_95 ?_
          refine x_iload_n C (i := 1) dX12_lessen_98 rfl xl1 ?_
          refine x_iload_n C (i := 2) dX12_lessen_99 rfl xl2 ?_
          refine x_bipush C (nI 16) dX12_lessen_100 rfl ?_
          refine x_idivN C dX12_lessen_102 (by omega) (by omega) (by omega) ?_
          refine x_iaddN C dX12_lessen_103 ?_
          refine x_aload_n C (i := 0) dX12_lessen_104 rfl xl0 ?_
          refine x_getR C fr_38_37 kf_X12_79 dX12_lessen_105 ?_
          refine x_iload_n C (i := 1) dX12_lessen_108 rfl xl1 ?_
          refine x_iload_n C (i := 2) dX12_lessen_109 rfl xl2 ?_
          refine x_bipush C (nI 16) dX12_lessen_110 rfl ?_
          refine x_idivN C dX12_lessen_112 (by omega) (by omega) (by omega) ?_
          refine x_iaddN C dX12_lessen_113 ?_
          refine x_ialdN C (by decide) rfl (by decide) dX12_lessen_114 (by omega) ?_
          refine x_topI (y := g4 (x + (i / 16))) rfl ?_
          refine x_topI (y := nI (y_dg (y_le v d (i + 1)) (i / 16))) ((hr4 _ (by omega)).trans (hX3.2 (i / 16) (by omega))) ?_
          refine x_iconst C (nI 1) dX12_lessen_115 rfl ?_
          refine x_iload_n C (i := 2) dX12_lessen_116 rfl xl2 ?_
          refine x_bipush C (nI 16) dX12_lessen_117 rfl ?_
          refine x_iremN C dX12_lessen_119 (by omega) (by omega) (by omega) ?_
          refine x_ishl C dX12_lessen_120 ?_
          refine x_iconst C (-1) dX12_lessen_121 rfl ?_
          refine x_ixor C dX12_lessen_122 ?_
          refine x_iand C dX12_lessen_123 ?_
          refine x_topI (y := nI (y_bs (y_dg (y_le v d (i + 1)) (i / 16)) (i % 16) 0)) (y_wb0 (by omega) (y_dg_lt _ _)) ?_
          refine x_iload_n C (i := 3) dX12_lessen_124 rfl rfl ?_
          refine x_if_eqN C 137 dX12_lessen_125 (by decide) (by omega) (fun c125 => absurd c125 (by decide)) (fun c125 => ?_)
          refine x_iconst C (nI 1) dX12_lessen_128 rfl ?_
          refine x_iload_n C (i := 2) dX12_lessen_129 rfl xl2 ?_
          refine x_bipush C (nI 16) dX12_lessen_130 rfl ?_
          refine x_iremN C dX12_lessen_132 (by omega) (by omega) (by omega) ?_
          refine x_ishl C dX12_lessen_133 ?_
          refine x_goto C 138 dX12_lessen_134 (by decide) ?_
          refine x_ior C dX12_lessen_138 ?_
          refine x_topI (y := nI (y_bs (y_dg (y_le v d (i + 1)) (i / 16)) (i % 16) 1)) (y_wb1 (by omega) (y_dg_lt _ _)) ?_
          refine x_iastN C (by decide) rfl (by decide) dX12_lessen_139 (by omega) ?_
          refine x_sig (σ' := x_st σ [] [(61, upd g4 (x + (i / 16)) (nI (y_bs (y_dg (y_le v d (i + 1)) (i / 16)) (i % 16) 1)))] []) (x_st_ua rfl) ?_
          refine x_iinc C (i := 2) (-1) dX12_lessen_140 xl2 rfl (by decide) ?_
          refine x_goto C 12 dX12_lessen_143 (by decide) ?_
          exact ih12 _ (by omega) i (upd g4 (x + (i / 16)) (nI (y_bs (y_dg (y_le v d (i + 1)) (i / 16)) (i % 16) 1))) rfl (by omega) (fun j hj => by rw [pk_un (by omega)]; exact hfr4 j hj) (by
      have h9 := y_is_sb (i := i) (c := 1) (by decide) (y_fr_is hr4 (by omega) hX3) (by rw [hq.2]; exact Nat.lt_of_le_of_lt (y_le_le _ _ _) hv.1)
      rw [hq.2] at h9
      exact h9) (by rw [hq.1]; exact y_fr_is (x := x) (fun j hj => pk_un (by omega)) (by omega) hv4) _ xl0 xl1 rfl
  exact lp12 _ 1024 g1 rfl (Nat.le_refl _) (fun j hj => hr1 j (by omega)) (by rw [y_le_t hv.1]; exact y_fr_is hr1 (by omega) hv) (by rw [y_v0 hv.1]; exact hv1) _ rfl rfl rfl
theorem c_X12_lessen (l : Launch) (Y : x_Y) (σ : x_S) (x v d : Nat) (f : Nat → Int32) (hf : σ.1 61 = f) (hx : x + 64 ≤ 128) (hv : y_is f x v) (hd : y_is f 128 d) (hd0 : 0 < d) (hd9 : 2 * d ≤ 65536 ^ 64) : x_M l yX12_lessen cX12_lessen 4 none 1 Y [.ref 38, .int (nI x)] σ (fun r τ => ∃ g, (r = none ∧ τ = x_st σ [] [(61, g)] []) ∧ (∀ j, j < x ∨ (x + 64 ≤ j ∧ j < 256) → g j = f j) ∧ y_is g x (v / d)) := c_X12_lessen_K l Y σ x v d f hf hx hv hd hd0 hd9 _ (fun _ _ h => h)
set_option maxRecDepth 100000 in
set_option maxHeartbeats 200000 in
theorem c_X12_counts_K (l : Launch) (Y : x_Y) (σ : x_S) (q c : Nat) (hq : q < 3000) (hc : σ.1 55 q = nI c) (hc9 : c ≤ 3000) (K : Option Value → x_S → Prop) (hK : ∀ (r : Option Value) (τ : x_S), (r = some (.int (x_z (decide (σ.1 57 q = 0) && decide (1 < c)))) ∧ τ = σ) → K r τ) : x_M l yX12_counts cX12_counts 2 (some .boolean) 0 Y [.ref 38, .int (nI q)] σ K := by
  refine x_start (by decide) (Nat.le_of_ble_eq_true rfl) ?_
  intro xp xe xs xm xg xb xt xc C xr xk
  refine x_aload_n C (i := 0) dX12_counts_0 rfl rfl ?_
  refine x_getR C fr_38_33 kf_X12_66 dX12_counts_1 ?_
  refine x_iload_n C (i := 1) dX12_counts_4 rfl rfl ?_
  refine x_zaldN C (by decide) rfl (by decide) dX12_counts_5 (by omega) ?_
  refine x_if_ne C 23 dX12_counts_6 (by decide) (fun c6 => ?_) (fun c6 => ?_)
  · skip
    refine x_iconst C (nI 0) dX12_counts_23 rfl ?_
    refine x_zret C xr xk dX12_counts_24 rfl ?_
    exact hK _ _ ⟨by first | (rw [decide_eq_true (show σ.1 57 q = 0 from c6), decide_eq_true (show 1 < c from c16)]; rfl) | (rw [decide_eq_true (show σ.1 57 q = 0 from c6), decide_eq_false (show ¬ 1 < c by omega)]; rfl) | (rw [decide_eq_false (show ¬ σ.1 57 q = 0 from c6)]; rfl), rfl⟩
  · skip
    refine x_aload_n C (i := 0) dX12_counts_9 rfl rfl ?_
    refine x_getR C fr_38_31 kf_X12_60 dX12_counts_10 ?_
    refine x_iload_n C (i := 1) dX12_counts_13 rfl rfl ?_
    refine x_ialdN C (by decide) rfl (by decide) dX12_counts_14 (by omega) ?_
    refine x_topI (y := nI c) hc ?_
    refine x_iconst C (nI 1) dX12_counts_15 rfl ?_
    refine x_icmp_leN C 23 dX12_counts_16 (by decide) (by omega) (by omega) (fun c16 => ?_) (fun c16 => ?_)
    · skip
      have c16' := Nat.not_lt.mpr c16
      refine x_iconst C (nI 0) dX12_counts_23 rfl ?_
      refine x_zret C xr xk dX12_counts_24 rfl ?_
      exact hK _ _ ⟨by first | (rw [decide_eq_true (show σ.1 57 q = 0 from c6), decide_eq_true (show 1 < c from c16)]; rfl) | (rw [decide_eq_true (show σ.1 57 q = 0 from c6), decide_eq_false (show ¬ 1 < c by omega)]; rfl) | (rw [decide_eq_false (show ¬ σ.1 57 q = 0 from c6)]; rfl), rfl⟩
    · skip
      have c16' := Nat.not_le.mpr c16
      refine x_iconst C (nI 1) dX12_counts_19 rfl ?_
      refine x_goto C 24 dX12_counts_20 (by decide) ?_
      refine x_zret C xr xk dX12_counts_24 rfl ?_
      exact hK _ _ ⟨by first | (rw [decide_eq_true (show σ.1 57 q = 0 from c6), decide_eq_true (show 1 < c from c16)]; rfl) | (rw [decide_eq_true (show σ.1 57 q = 0 from c6), decide_eq_false (show ¬ 1 < c by omega)]; rfl) | (rw [decide_eq_false (show ¬ σ.1 57 q = 0 from c6)]; rfl), rfl⟩
theorem c_X12_counts (l : Launch) (Y : x_Y) (σ : x_S) (q c : Nat) (hq : q < 3000) (hc : σ.1 55 q = nI c) (hc9 : c ≤ 3000) : x_M l yX12_counts cX12_counts 2 (some .boolean) 0 Y [.ref 38, .int (nI q)] σ (fun r τ => r = some (.int (x_z (decide (σ.1 57 q = 0) && decide (1 < c)))) ∧ τ = σ) := c_X12_counts_K l Y σ q c hq hc hc9 _ (fun _ _ h => h)
set_option maxRecDepth 100000 in
set_option maxHeartbeats 200000 in
theorem c_X12_isPrime_K (l : Launch) (Y : x_Y) (σ : x_S) (p : Nat) (hp2 : 2 ≤ p) (hp9 : p ≤ 3001) (K : Option Value → x_S → Prop) (hK : ∀ (r : Option Value) (τ : x_S), (∃ b : Bool, (r = some (.int (x_z b)) ∧ τ = σ) ∧ (b = true ↔ y_prm p)) → K r τ) : x_M l yX12_isPrime cX12_isPrime 3 (some .boolean) 0 Y [.int (nI p)] σ K := by
  refine x_start (by decide) (Nat.le_of_ble_eq_true rfl) ?_
  intro xp xe xs xm xg xb xt xc C xr xk
  refine x_iconst C (nI 1) dX12_isPrime_0 rfl ?_
  refine x_istore_n C (i := 1) dX12_isPrime_1 rfl (by decide) ?_
  refine x_iconst C (nI 2) dX12_isPrime_2 rfl ?_
  refine x_istore_n C (i := 2) dX12_isPrime_3 rfl (by decide) ?_
  have lp4 : ∀ (m4 : Nat) (d : Nat) (is : Bool), (p - d) = m4 → (2 ≤ d) → (d ≤ p) → (is = true → ∀ e, 2 ≤ e → e < d → ¬ e ∣ p) → (is = false → ∃ e, 2 ≤ e ∧ e * e ≤ p ∧ e ∣ p) → ∀ L : x_Lo, L.1 0 = some (.int (nI p)) → L.1 1 = some (.int (x_z is)) → L.1 2 = some (.int (nI d)) → x_W xp l xe (x_rm 0) xs xm xg xb xt xc 3 Y 0 0 (MQ xb (x_Q Y K) xg xs 0 0 (x_A Y)) 4 L [] σ := by
    intro m4
    induction m4 using Nat.strongRecOn with
    | _ m4 ih4 =>
      intro d is hm4 hd2 hdp h1 h2 L xl0 xl1 xl2
      refine x_iload_n C (i := 2) dX12_isPrime_4 rfl xl2 ?_
      refine x_iload_n C (i := 2) dX12_isPrime_5 rfl xl2 ?_
      have hdd : d * d ≤ 3001 * 3001 := Nat.mul_le_mul (by omega) (by omega)
      refine x_imulN C dX12_isPrime_6 ?_
      refine x_iload_n C (i := 0) dX12_isPrime_7 rfl xl0 ?_
      refine x_icmp_gtN C 33 dX12_isPrime_8 (by decide) (by omega) (by omega) (fun c8 => ?_) (fun c8 => ?_)
      · skip
        have c8' := Nat.not_le.mpr c8
        have hx : p < d * d ∨ is = false := Or.inl c8
        refine x_iload_n C (i := 1) dX12_isPrime_33 rfl xl1 ?_
        refine x_zret C xr xk dX12_isPrime_34 (x_z_n _) ?_
        exact hK _ _ ⟨_, ⟨rfl, rfl⟩, y_ipr h1 h2 hx⟩
      · skip
        have c8' := Nat.not_lt.mpr c8
        have hlt := y_sq hd2 c8
        refine x_iload_n C (i := 1) dX12_isPrime_11 rfl xl1 ?_
        refine x_if_eqZ C 33 dX12_isPrime_12 (by decide) (fun c12 => ?_) (fun c12 => ?_)
        · skip
          have hx : p < d * d ∨ is = false := Or.inr c12
          refine x_iload_n C (i := 1) dX12_isPrime_33 rfl xl1 ?_
          refine x_zret C xr xk dX12_isPrime_34 (x_z_n _) ?_
          exact hK _ _ ⟨_, ⟨rfl, rfl⟩, y_ipr h1 h2 hx⟩
        · skip
          refine x_iload_n C (i := 0) dX12_isPrime_15 rfl xl0 ?_
          refine x_iload_n C (i := 2) dX12_isPrime_16 rfl xl2 ?_
          refine x_iremN C dX12_isPrime_17 (by omega) (by omega) (by omega) ?_
          have hmd := Nat.mod_lt p (show 0 < d by omega)
          refine x_if_eqN C 25 dX12_isPrime_18 (by decide) (by omega) (fun c18 => ?_) (fun c18 => ?_)
          · skip
            refine x_iconst C (nI 0) dX12_isPrime_25 rfl ?_
            refine x_istore_n C (i := 1) dX12_isPrime_26 rfl (by decide) ?_
            refine x_iincN C (i := 2) (b := 1) dX12_isPrime_27 xl2 rfl (by decide) ?_
            refine x_goto C 4 dX12_isPrime_30 (by decide) ?_
            exact ih4 _ (by omega) (d + 1) false rfl (by omega) (by omega) (fun z => by cases z) (fun _ => ⟨d, hd2, c8, Nat.dvd_of_mod_eq_zero c18⟩) _ xl0 rfl rfl
          · skip
            refine x_iconst C (nI 1) dX12_isPrime_21 rfl ?_
            refine x_goto C 26 dX12_isPrime_22 (by decide) ?_
            refine x_istore_n C (i := 1) dX12_isPrime_26 rfl (by decide) ?_
            refine x_iincN C (i := 2) (b := 1) dX12_isPrime_27 xl2 rfl (by decide) ?_
            refine x_goto C 4 dX12_isPrime_30 (by decide) ?_
            exact ih4 _ (by omega) (d + 1) true rfl (by omega) (by omega) (fun _ e h3 h4 => by
      rcases Nat.lt_or_ge e d with h5 | h5
      · exact h1 c12 e h3 h5
      · have h6 : e = d := by omega
        subst h6
        exact fun z => c18 (Nat.mod_eq_zero_of_dvd z)) (fun z => by cases z) _ xl0 rfl rfl
  exact lp4 _ 2 true rfl (Nat.le_refl _) hp2 (fun _ e h3 h4 => absurd h4 (by omega)) (fun z => by cases z) _ rfl rfl rfl
theorem c_X12_isPrime (l : Launch) (Y : x_Y) (σ : x_S) (p : Nat) (hp2 : 2 ≤ p) (hp9 : p ≤ 3001) : x_M l yX12_isPrime cX12_isPrime 3 (some .boolean) 0 Y [.int (nI p)] σ (fun r τ => ∃ b : Bool, (r = some (.int (x_z b)) ∧ τ = σ) ∧ (b = true ↔ y_prm p)) := c_X12_isPrime_K l Y σ p hp2 hp9 _ (fun _ _ h => h)
set_option maxRecDepth 100000 in
set_option maxHeartbeats 200000 in
theorem c_X12_multiplyBig_K (l : Launch) (Y : x_Y) (σ : x_S) (x b v : Nat) (f : Nat → Int32) (hf : σ.1 61 = f) (hx : x + 64 ≤ 192) (hv : y_is f x v) (hb : b < 2 ^ 62) (hw : v * b < 65536 ^ 64) (K : Option Value → x_S → Prop) (hK : ∀ (r : Option Value) (τ : x_S), (∃ g, (r = none ∧ τ = x_st σ [] [(61, g)] []) ∧ (∀ j, j < x ∨ (x + 64 ≤ j ∧ j < 192) → g j = f j) ∧ y_is g x (v * b)) → K r τ) : x_M l yX12_multiplyBig cX12_multiplyBig 4 none 1 Y [.ref 38, .int (nI x), .long (lN b)] σ K := by
  refine x_start (by decide) (Nat.le_of_ble_eq_true rfl) ?_
  intro xp xe xs xm xg xb xt xc C xr xk
  refine x_sig (σ' := x_st σ [] [(61, f)] []) (x_st_in trivial (And.intro hf trivial) trivial) ?_
  obtain ⟨hB1, hB3, hB4, hBe⟩ := y_mb hw
  refine x_aload_n C (i := 0) dX12_multiplyBig_0 rfl rfl ?_
  refine x_iload_n C (i := 1) dX12_multiplyBig_1 rfl rfl ?_
  refine x_sipush C (nI 192) dX12_multiplyBig_2 rfl ?_
  have hM := c_X12_copy l Y (x_st σ [] [(61, f)] []) x 192 v f rfl (by decide) (by omega) (by omega) hv
  refine x_callV C (as := [.int (nI x), .int (nI 192)]) (st := []) (hM) kb_X12_copy kv_X12_290 dX12_multiplyBig_5 rfl rfl (Nat.le_of_ble_eq_true rfl) ⟨by decide, by decide⟩ ⟨by decide, by decide⟩ ko_38 ?_
  clear hM
  rintro _ _ ⟨g1, ⟨rfl, rfl⟩, hr1, hv1⟩
  refine x_sig (σ' := x_st σ [] [(61, g1)] []) (x_st_st rfl) ?_
  refine x_aload_n C (i := 0) dX12_multiplyBig_8 rfl rfl ?_
  refine x_iload_n C (i := 1) dX12_multiplyBig_9 rfl rfl ?_
  refine x_lload_n C (i := 2) dX12_multiplyBig_10 rfl rfl ?_
  refine x_ldc2 C (1073741823) kc_X12_335 dX12_multiplyBig_11 ?_
  refine x_topL (y := lN 1073741823) rfl ?_
  refine x_land C dX12_multiplyBig_14 ?_
  refine x_topL (y := lN (b % 1073741824)) (x_lmask 30 (by decide) (Nat.lt_trans hb (by decide))) ?_
  have hM := c_X12_times l Y (x_st σ [] [(61, g1)] []) x (b % 1073741824) v g1 rfl (by omega) (y_fr_is hr1 (by omega) hv) (by omega) hB1
  refine x_callV C (as := [.int (nI x), .long (lN (b % 1073741824))]) (st := []) (hM) kb_X12_times kv_X12_307 dX12_multiplyBig_15 rfl rfl (Nat.le_of_ble_eq_true rfl) ⟨by decide, by decide⟩ ⟨by decide, by decide⟩ ko_38 ?_
  clear hM
  rintro _ _ ⟨g2, ⟨rfl, rfl⟩, hr2, hv2⟩
  refine x_sig (σ' := x_st σ [] [(61, g2)] []) (x_st_st rfl) ?_
  refine x_aload_n C (i := 0) dX12_multiplyBig_18 rfl rfl ?_
  refine x_sipush C (nI 192) dX12_multiplyBig_19 rfl ?_
  refine x_lload_n C (i := 2) dX12_multiplyBig_22 rfl rfl ?_
  refine x_bipush C (nI 30) dX12_multiplyBig_23 rfl ?_
  refine x_lshr C dX12_multiplyBig_25 ?_
  refine x_topL (y := lN (b / 2 ^ 30)) (x_lshrN 30 (by decide) hb) ?_
  have hM := c_X12_times l Y (x_st σ [] [(61, g2)] []) 192 (b / 2 ^ 30) v g2 rfl (by decide) (y_fr_is hr2 (by omega) hv1) (by omega) hB3
  refine x_callV C (as := [.int (nI 192), .long (lN (b / 2 ^ 30))]) (st := []) (hM) kb_X12_times kv_X12_307 dX12_multiplyBig_26 rfl rfl (Nat.le_of_ble_eq_true rfl) ⟨by decide, by decide⟩ ⟨by decide, by decide⟩ ko_38 ?_
  clear hM
  rintro _ _ ⟨g3, ⟨rfl, rfl⟩, hr3, hv3⟩
  refine x_sig (σ' := x_st σ [] [(61, g3)] []) (x_st_st rfl) ?_
  refine x_aload_n C (i := 0) dX12_multiplyBig_29 rfl rfl ?_
  refine x_sipush C (nI 192) dX12_multiplyBig_30 rfl ?_
  refine x_ldc2 C (1073741824) kc_X12_337 dX12_multiplyBig_33 ?_
  refine x_topL (y := lN 1073741824) rfl ?_
  have hM := c_X12_times l Y (x_st σ [] [(61, g3)] []) 192 1073741824 (v * (b / 2 ^ 30)) g3 rfl (by decide) hv3 (by decide) hB4
  refine x_callV C (as := [.int (nI 192), .long (lN 1073741824)]) (st := []) (hM) kb_X12_times kv_X12_307 dX12_multiplyBig_36 rfl rfl (Nat.le_of_ble_eq_true rfl) ⟨by decide, by decide⟩ ⟨by decide, by decide⟩ ko_38 ?_
  clear hM
  rintro _ _ ⟨g4, ⟨rfl, rfl⟩, hr4, hv4⟩
  refine x_sig (σ' := x_st σ [] [(61, g4)] []) (x_st_st rfl) ?_
  refine x_aload_n C (i := 0) dX12_multiplyBig_39 rfl rfl ?_
  refine x_iload_n C (i := 1) dX12_multiplyBig_40 rfl rfl ?_
  refine x_sipush C (nI 192) dX12_multiplyBig_41 rfl ?_
  have hM := c_X12_add l Y (x_st σ [] [(61, g4)] []) x 192 (v * (b % 1073741824)) (v * (b / 2 ^ 30) * 1073741824) g4 rfl (by omega) (by decide) (by omega) (y_fr_is hr4 (by omega) (y_fr_is hr3 (by omega) hv2)) hv4 (by rw [hBe]; exact hw)
  refine x_callV C (as := [.int (nI x), .int (nI 192)]) (st := []) (hM) kb_X12_add kv_X12_326 dX12_multiplyBig_44 rfl rfl (Nat.le_of_ble_eq_true rfl) ⟨by decide, by decide⟩ ⟨by decide, by decide⟩ ko_38 ?_
  clear hM
  rintro _ _ ⟨g5, ⟨rfl, rfl⟩, hr5, hv5⟩
  refine x_sig (σ' := x_st σ [] [(61, g5)] []) (x_st_st rfl) ?_
  refine x_vret C xr xk dX12_multiplyBig_47 ?_
  exact hK _ _ ⟨_, ⟨rfl, rfl⟩, (fun j hj => (hr5 j (by omega)).trans ((hr4 j (by omega)).trans ((hr3 j (by omega)).trans ((hr2 j (by omega)).trans (hr1 j (by omega)))))), by rw [← hBe]; exact hv5⟩
theorem c_X12_multiplyBig (l : Launch) (Y : x_Y) (σ : x_S) (x b v : Nat) (f : Nat → Int32) (hf : σ.1 61 = f) (hx : x + 64 ≤ 192) (hv : y_is f x v) (hb : b < 2 ^ 62) (hw : v * b < 65536 ^ 64) : x_M l yX12_multiplyBig cX12_multiplyBig 4 none 1 Y [.ref 38, .int (nI x), .long (lN b)] σ (fun r τ => ∃ g, (r = none ∧ τ = x_st σ [] [(61, g)] []) ∧ (∀ j, j < x ∨ (x + 64 ≤ j ∧ j < 192) → g j = f j) ∧ y_is g x (v * b)) := c_X12_multiplyBig_K l Y σ x b v f hf hx hv hb hw _ (fun _ _ h => h)
