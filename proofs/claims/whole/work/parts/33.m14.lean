set_option maxRecDepth 100000 in
set_option maxHeartbeats 200000 in
theorem c_X12_isDigit_K (l : Launch) (Y : x_Y) (σ : x_S) (c : Int32) (K : Option Value → x_S → Prop) (hK : ∀ (r : Option Value) (τ : x_S), (r = some (.int (x_z (x_dig c))) ∧ τ = σ) → K r τ) : x_M l yX12_isDigit cX12_isDigit 1 (some .boolean) 0 Y [.int c] σ K := by
  refine x_start (by decide) (Nat.le_of_ble_eq_true rfl) ?_
  intro xp xe xs xm xg xb xt xc C xr xk
  refine x_iload_n C (i := 0) dX12_isDigit_0 rfl rfl ?_
  refine x_bipush C (nI 48) dX12_isDigit_1 rfl ?_
  refine x_jcmp_lt C 16 dX12_isDigit_3 (by decide) (fun c3 => ?_) (fun c3 => ?_)
  · skip
    have c3' := Int32.not_le.mpr c3
    refine x_iconst C (nI 0) dX12_isDigit_16 rfl ?_
    refine x_zret C xr xk dX12_isDigit_17 rfl ?_
    exact hK _ _ ⟨by unfold x_dig; simp [*, x_z], rfl⟩
  · skip
    have c3' := Int32.not_lt.mpr c3
    refine x_iload_n C (i := 0) dX12_isDigit_6 rfl rfl ?_
    refine x_bipush C (nI 57) dX12_isDigit_7 rfl ?_
    refine x_jcmp_gt C 16 dX12_isDigit_9 (by decide) (fun c9 => ?_) (fun c9 => ?_)
    · skip
      have c9' := Int32.not_le.mpr c9
      refine x_iconst C (nI 0) dX12_isDigit_16 rfl ?_
      refine x_zret C xr xk dX12_isDigit_17 rfl ?_
      exact hK _ _ ⟨by unfold x_dig; simp [*, x_z], rfl⟩
    · skip
      have c9' := Int32.not_lt.mpr c9
      refine x_iconst C (nI 1) dX12_isDigit_12 rfl ?_
      refine x_goto C 17 dX12_isDigit_13 (by decide) ?_
      refine x_zret C xr xk dX12_isDigit_17 rfl ?_
      exact hK _ _ ⟨by unfold x_dig; simp [*, x_z], rfl⟩
theorem c_X12_isDigit (l : Launch) (Y : x_Y) (σ : x_S) (c : Int32) : x_M l yX12_isDigit cX12_isDigit 1 (some .boolean) 0 Y [.int c] σ (fun r τ => r = some (.int (x_z (x_dig c))) ∧ τ = σ) := c_X12_isDigit_K l Y σ c _ (fun _ _ h => h)
set_option maxRecDepth 100000 in
set_option maxHeartbeats 200000 in
theorem c_X12_column_K (l : Launch) (Y : x_Y) (σ : x_S) (a : Nat) (v : Int32) (ng : Bool) (w : Nat) (sg : Bool) (b : Nat → Int32) (t : Nat) (hb : σ.1 39 = b) (ht : σ.1 38 2 = nI t) (ht8 : t ≤ 8000) (hat : a ≤ t) (hw : 1 ≤ w) (hw5 : w ≤ 5) (K : Option Value → x_S → Prop) (hK : ∀ (r : Option Value) (τ : x_S), (((x_colf b t sg w a false false 0).1 = true ∧ r = some (.int (x_z true)) ∧ τ = x_fm σ (x_colf b t sg w a false false 0).2.1 (if (x_colf b t sg w a false false 0).2.2.1 = true then -nI (x_colf b t sg w a false false 0).2.2.2 else nI (x_colf b t sg w a false false 0).2.2.2) (x_colf b t sg w a false false 0).2.2.1 ∧ (x_colf b t sg w a false false 0).2.2.2 < 10 ^ w) ∨ ((x_colf b t sg w a false false 0).1 = false ∧ r = some (.int (x_z false)) ∧ τ = x_fm σ (x_colf b t sg w a false false 0).2.1 (nI (x_colf b t sg w a false false 0).2.2.2) (x_colf b t sg w a false false 0).2.2.1)) → K r τ) : x_M l yX12_column cX12_column 10 (some .boolean) 1 Y [.ref 38, .int (nI w), .int (x_z sg)] (x_fm σ a v ng) K := by
  refine x_start (by decide) (Nat.le_of_ble_eq_true rfl) ?_
  intro xp xe xs xm xg xb xt xc C xr xk
  refine x_aload_n C (i := 0) dX12_column_0 rfl rfl ?_
  refine x_iconst C (nI 0) dX12_column_1 rfl ?_
  refine x_putN C fi_38_26 kf_X12_248 rfl rfl dX12_column_2 ?_
  refine x_sig (σ' := x_fm σ a (nI 0) ng) (x_fm_26 _ _ _ _ _) ?_
  refine x_aload_n C (i := 0) dX12_column_5 rfl rfl ?_
  refine x_iconst C (nI 0) dX12_column_6 rfl ?_
  refine x_congr (st' := .int (x_z false) :: .ref 38 :: []) rfl rfl ?_
  refine x_putZ C fi_38_27 kf_X12_251 rfl rfl dX12_column_7 ?_
  refine x_sig (σ' := x_fm σ a (nI 0) false) (x_fm_27 _ _ _ _ _) ?_
  refine x_iconst C (nI 0) dX12_column_10 rfl ?_
  refine x_istore_n C (i := 3) dX12_column_11 rfl (by decide) ?_
  refine x_iconst C (nI 0) dX12_column_12 rfl ?_
  refine x_istore C (i := 4) dX12_column_13 (by decide) ?_
  have lp15 : ∀ (m15 : Nat) (i : Nat) (ai : Nat) (bg : Bool) (n : Bool) (vi : Nat), (w - i) = m15 → (i ≤ w) → (ai ≤ t) → (vi < 10 ^ i) → (x_colf b t sg (w - i) ai bg n vi = x_colf b t sg w a false false 0) → ∀ L : x_Lo, L.1 0 = some (.ref 38) → L.1 1 = some (.int (nI w)) → L.1 2 = some (.int (x_z sg)) → L.1 3 = some (.int (x_z bg)) → L.1 4 = some (.int (nI i)) → x_W xp l xe (x_rm 1) xs xm xg xb xt xc 10 Y 0 0 (MQ xb (x_Q Y K) xg xs 0 0 (x_A Y)) 15 L [] (x_fm σ ai (nI vi) n) := by
    intro m15
    induction m15 using Nat.strongRecOn with
    | _ m15 ih15 =>
      intro i ai bg n vi hm15 hi hai hvi hR L xl0 xl1 xl2 xl3 xl4
      refine x_iload C (i := 4) dX12_column_15 xl4 ?_
      refine x_iload_n C (i := 1) dX12_column_17 rfl xl1 ?_
      refine x_icmp_geN C 211 dX12_column_18 (by decide) (by omega) (by omega) (fun c18 => ?_) (fun c18 => ?_)
      · skip
        have c18' := Nat.not_lt.mpr c18
        obtain rfl : w = i := by omega
        refine x_aload_n C (i := 0) dX12_column_211 rfl xl0 ?_
        refine x_aload_n C (i := 0) dX12_column_212 rfl xl0 ?_
        refine x_getI C fi_38_27 kf_X12_251 dX12_column_213 ?_
        refine x_topI (y := x_z n) rfl ?_
        refine x_if_eqZ C 227 dX12_column_216 (by decide) (fun c216 => ?_) (fun c216 => ?_)
        · skip
          refine x_aload_n C (i := 0) dX12_column_227 rfl xl0 ?_
          refine x_getI C fi_38_26 kf_X12_248 dX12_column_228 ?_
          refine x_topI (y := nI vi) rfl ?_
          refine x_putN C fi_38_26 kf_X12_248 rfl rfl dX12_column_231 ?_
          refine x_sig (σ' := x_fm σ ai (nI vi) n) (x_fm_26 _ _ _ _ _) ?_
          refine x_iconst C (nI 1) dX12_column_234 rfl ?_
          refine x_zret C xr xk dX12_column_235 rfl ?_
          exact hK _ _ (Or.inl (by rw [← hR, Nat.sub_self]; exact ⟨rfl, rfl, by first | (show _ = x_fm σ ai (if n = true then _ else _) n; rw [if_pos c216]; rfl) | (show _ = x_fm σ ai (if n = true then _ else _) n; rw [if_neg (by rw [c216]; decide)]; rfl), hvi⟩))
        · skip
          refine x_aload_n C (i := 0) dX12_column_219 rfl xl0 ?_
          refine x_getI C fi_38_26 kf_X12_248 dX12_column_220 ?_
          refine x_topI (y := nI vi) rfl ?_
          refine x_ineg C dX12_column_223 ?_
          refine x_goto C 231 dX12_column_224 (by decide) ?_
          refine x_putN C fi_38_26 kf_X12_248 rfl rfl dX12_column_231 ?_
          refine x_sig (σ' := x_fm σ ai (-(nI vi)) n) (x_fm_26 _ _ _ _ _) ?_
          refine x_iconst C (nI 1) dX12_column_234 rfl ?_
          refine x_zret C xr xk dX12_column_235 rfl ?_
          exact hK _ _ (Or.inl (by rw [← hR, Nat.sub_self]; exact ⟨rfl, rfl, by first | (show _ = x_fm σ ai (if n = true then _ else _) n; rw [if_pos c216]; rfl) | (show _ = x_fm σ ai (if n = true then _ else _) n; rw [if_neg (by rw [c216]; decide)]; rfl), hvi⟩))
      · skip
        have c18' := Nat.not_le.mpr c18
        refine x_aload_n C (i := 0) dX12_column_21 rfl xl0 ?_
        have hM := c_X12_look l Y (x_fm σ ai (nI vi) n) b t ai hb ht rfl ht8 (by omega)
        refine x_callV C (as := []) (st := []) (hM) kb_X12_look kv_X12_110 dX12_column_22 rfl rfl (Nat.le_of_ble_eq_true rfl) ⟨by decide, by decide⟩ ⟨by decide, by decide⟩ ko_38 ?_
        clear hM
        intro r9 τ9 h9
        obtain ⟨rfl, h8⟩ := h9
        rw [h8]
        clear h8 τ9
        generalize hcv : x_lookv b t ai = c at *
        refine x_istore C (i := 5) dX12_column_25 (by decide) ?_
        refine x_iload C (i := 5) dX12_column_27 rfl ?_
        have hM := c_X12_isDigit l Y (x_fm σ ai (nI vi) n) c
        refine x_callS C (as := [.int c]) (st := []) (hM) kb_X12_isDigit ks_X12_255 dX12_column_29 rfl rfl (Nat.le_of_ble_eq_true rfl) ⟨by decide, by decide⟩ ⟨by decide, by decide⟩ ?_
        clear hM
        intro r9 τ9 h9
        obtain ⟨rfl, h8⟩ := h9
        rw [h8]
        clear h8 τ9
        obtain ⟨dg, hdg⟩ : ∃ dg, dg = x_dig c := ⟨_, rfl⟩
        refine x_topI (y := x_z dg) (by rw [hdg]) ?_
        refine x_istore C (i := 6) dX12_column_32 (by decide) ?_
        refine x_iload C (i := 4) dX12_column_34 xl4 ?_
        refine x_iload_n C (i := 1) dX12_column_36 rfl xl1 ?_
        refine x_iconst C (nI 1) dX12_column_37 rfl ?_
        refine x_isubN C dX12_column_38 (by omega) ?_
        have lp49 : ∀ (la : Bool), (la = decide (i = w - 1)) → ∀ L : x_Lo, L.1 0 = some (.ref 38) → L.1 1 = some (.int (nI w)) → L.1 2 = some (.int (x_z sg)) → L.1 3 = some (.int (x_z bg)) → L.1 4 = some (.int (nI i)) → L.1 5 = some (.int c) → L.1 6 = some (.int (x_z dg)) → L.1 7 = some (.int (x_z la)) → x_W xp l xe (x_rm 1) xs xm xg xb xt xc 10 Y 0 0 (MQ xb (x_Q Y K) xg xs 0 0 (x_A Y)) 49 L [] (x_fm σ ai (nI vi) n) := by
          intro la hla L xl0 xl1 xl2 xl3 xl4 xl5 xl6 xl7
          refine x_iload C (i := 5) dX12_column_49 xl5 ?_
          refine x_bipush C (nI 32) dX12_column_51 rfl ?_
          have lp79 : ∀ (bl : Bool), (bl = x_cb c bg n la) → ∀ L : x_Lo, L.1 0 = some (.ref 38) → L.1 1 = some (.int (nI w)) → L.1 2 = some (.int (x_z sg)) → L.1 3 = some (.int (x_z bg)) → L.1 4 = some (.int (nI i)) → L.1 5 = some (.int c) → L.1 6 = some (.int (x_z dg)) → L.1 7 = some (.int (x_z la)) → L.1 8 = some (.int (x_z bl)) → x_W xp l xe (x_rm 1) xs xm xg xb xt xc 10 Y 0 0 (MQ xb (x_Q Y K) xg xs 0 0 (x_A Y)) 79 L [] (x_fm σ ai (nI vi) n) := by
            intro bl hbl L xl0 xl1 xl2 xl3 xl4 xl5 xl6 xl7 xl8
            refine x_iload C (i := 5) dX12_column_79 xl5 ?_
            refine x_bipush C (nI 45) dX12_column_81 rfl ?_
            have lp113 : ∀ (mi : Bool), (mi = x_cm c sg bg n la) → ∀ L : x_Lo, L.1 0 = some (.ref 38) → L.1 1 = some (.int (nI w)) → L.1 2 = some (.int (x_z sg)) → L.1 3 = some (.int (x_z bg)) → L.1 4 = some (.int (nI i)) → L.1 5 = some (.int c) → L.1 6 = some (.int (x_z dg)) → L.1 7 = some (.int (x_z la)) → L.1 8 = some (.int (x_z bl)) → L.1 9 = some (.int (x_z mi)) → x_W xp l xe (x_rm 1) xs xm xg xb xt xc 10 Y 0 0 (MQ xb (x_Q Y K) xg xs 0 0 (x_A Y)) 113 L [] (x_fm σ ai (nI vi) n) := by
              intro mi hmi L xl0 xl1 xl2 xl3 xl4 xl5 xl6 xl7 xl8 xl9
              refine x_iload C (i := 6) dX12_column_113 xl6 ?_
              have lp130 : ((dg || (bl || mi)) = true) → ∀ L : x_Lo, L.1 0 = some (.ref 38) → L.1 1 = some (.int (nI w)) → L.1 2 = some (.int (x_z sg)) → L.1 3 = some (.int (x_z bg)) → L.1 4 = some (.int (nI i)) → L.1 5 = some (.int c) → L.1 6 = some (.int (x_z dg)) → L.1 7 = some (.int (x_z la)) → L.1 8 = some (.int (x_z bl)) → L.1 9 = some (.int (x_z mi)) → x_W xp l xe (x_rm 1) xs xm xg xb xt xc 10 Y 0 0 (MQ xb (x_Q Y K) xg xs 0 0 (x_A Y)) 130 L [] (x_fm σ ai (nI vi) n) := by
                intro  hok L xl0 xl1 xl2 xl3 xl4 xl5 xl6 xl7 xl8 xl9
                refine x_iload_n C (i := 3) dX12_column_130 rfl xl3 ?_
                have lp145 : ∀ (bg2 : Bool), (bg2 = (bg || dg)) → ∀ L : x_Lo, L.1 0 = some (.ref 38) → L.1 1 = some (.int (nI w)) → L.1 2 = some (.int (x_z sg)) → L.1 3 = some (.int (x_z bg2)) → L.1 4 = some (.int (nI i)) → L.1 5 = some (.int c) → L.1 6 = some (.int (x_z dg)) → L.1 9 = some (.int (x_z mi)) → x_W xp l xe (x_rm 1) xs xm xg xb xt xc 10 Y 0 0 (MQ xb (x_Q Y K) xg xs 0 0 (x_A Y)) 145 L [] (x_fm σ ai (nI vi) n) := by
                  intro bg2 hbg2 L xl0 xl1 xl2 xl3 xl4 xl5 xl6 xl9
                  refine x_aload_n C (i := 0) dX12_column_145 rfl xl0 ?_
                  refine x_aload_n C (i := 0) dX12_column_146 rfl xl0 ?_
                  refine x_getI C fi_38_27 kf_X12_251 dX12_column_147 ?_
                  refine x_topI (y := x_z n) rfl ?_
                  have lp166 : ∀ (n2 : Bool), (n2 = (n || mi)) → ∀ L : x_Lo, L.1 0 = some (.ref 38) → L.1 1 = some (.int (nI w)) → L.1 2 = some (.int (x_z sg)) → L.1 3 = some (.int (x_z bg2)) → L.1 4 = some (.int (nI i)) → L.1 5 = some (.int c) → L.1 6 = some (.int (x_z dg)) → x_W xp l xe (x_rm 1) xs xm xg xb xt xc 10 Y 0 0 (MQ xb (x_Q Y K) xg xs 0 0 (x_A Y)) 166 L [] (x_fm σ ai (nI vi) n2) := by
                    intro n2 hn2 L xl0 xl1 xl2 xl3 xl4 xl5 xl6
                    refine x_aload_n C (i := 0) dX12_column_166 rfl xl0 ?_
                    refine x_iload C (i := 6) dX12_column_167 xl6 ?_
                    have lp195 : ∀ (v2 : Nat), (v2 = if dg = true then 10 * vi + (c.toNatClampNeg - 48) else vi) → (v2 < 10 ^ (i + 1)) → ∀ L : x_Lo, L.1 0 = some (.ref 38) → L.1 1 = some (.int (nI w)) → L.1 2 = some (.int (x_z sg)) → L.1 3 = some (.int (x_z bg2)) → L.1 4 = some (.int (nI i)) → x_W xp l xe (x_rm 1) xs xm xg xb xt xc 10 Y 0 0 (MQ xb (x_Q Y K) xg xs 0 0 (x_A Y)) 195 L [] (x_fm σ ai (nI v2) n2) := by
                      intro v2 hv2 hv2b L xl0 xl1 xl2 xl3 xl4
                      refine x_aload_n C (i := 0) dX12_column_195 rfl xl0 ?_
                      refine x_dup C dX12_column_196 rfl ?_
                      refine x_getI C fi_38_3 kf_X12_100 dX12_column_197 ?_
                      refine x_topI (y := nI ai) rfl ?_
                      refine x_iconst C (nI 1) dX12_column_200 rfl ?_
                      refine x_iaddN C dX12_column_201 ?_
                      refine x_putN C fi_38_3 kf_X12_100 rfl rfl dX12_column_202 ?_
                      refine x_sig (σ' := x_fm σ (ai + 1) (nI v2) n2) (x_fm_3 _ _ _ _ _) ?_
                      refine x_iincN C (i := 4) (b := 1) dX12_column_205 xl4 rfl (by decide) ?_
                      refine x_goto C 15 dX12_column_208 (by decide) ?_
                      exact ih15 _ (by omega) (i + 1) (ai + 1) bg2 n2 v2 rfl (by omega) (by rw [hdg, hbl, hmi, ← hcv] at hok; exact x_col_lt hok) hv2b (by rw [← hR, show w - i = (w - (i + 1)) + 1 by omega]; conv => rhs; unfold x_colf; rw [hcv, show decide (w - (i + 1) = 0) = la by rw [hla]; congr 1; apply propext; omega, ← hbl, ← hmi, ← hdg, if_pos hok, ← hbg2, ← hn2, ← hv2]) _ xl0 xl1 xl2 xl3 rfl
                    refine x_if_eqZ C 188 dX12_column_169 (by decide) (fun c169 => ?_) (fun c169 => ?_)
                    · skip
                      refine x_aload_n C (i := 0) dX12_column_188 rfl xl0 ?_
                      refine x_getI C fi_38_26 kf_X12_248 dX12_column_189 ?_
                      refine x_topI (y := nI vi) rfl ?_
                      refine x_putN C fi_38_26 kf_X12_248 rfl rfl dX12_column_192 ?_
                      refine x_sig (σ' := x_fm σ ai (nI vi) n2) (x_fm_26 _ _ _ _ _) ?_
                      exact lp195 vi (by rw [if_neg (by rw [c169]; decide)]) (by rw [Nat.pow_succ]; omega) _ xl0 xl1 xl2 xl3 xl4
                    · skip
                      obtain ⟨d, hd9, hdc⟩ := x_dig_nat (hdg.symm.trans c169)
                      refine x_bipush C (nI 10) dX12_column_172 rfl ?_
                      refine x_aload_n C (i := 0) dX12_column_174 rfl xl0 ?_
                      refine x_getI C fi_38_26 kf_X12_248 dX12_column_175 ?_
                      refine x_topI (y := nI vi) rfl ?_
                      refine x_imulN C dX12_column_178 ?_
                      refine x_iload C (i := 5) dX12_column_179 xl5 ?_
                      refine x_topI (y := nI (48 + d)) hdc ?_
                      refine x_iaddN C dX12_column_181 ?_
                      refine x_bipush C (nI 48) dX12_column_182 rfl ?_
                      refine x_isubN C dX12_column_184 (by omega) ?_
                      refine x_topI (y := nI (10 * vi + d)) (by congr 1; omega) ?_
                      refine x_goto C 192 dX12_column_185 (by decide) ?_
                      refine x_putN C fi_38_26 kf_X12_248 rfl rfl dX12_column_192 ?_
                      refine x_sig (σ' := x_fm σ ai (nI (10 * vi + d)) n2) (x_fm_26 _ _ _ _ _) ?_
                      exact lp195 (10 * vi + d) (by rw [if_pos c169, hdc, nI_clamp (by omega), Nat.add_sub_cancel_left]) (by rw [Nat.pow_succ]; omega) _ xl0 xl1 xl2 xl3 xl4
                  refine x_if_neZ C 158 dX12_column_150 (by decide) (fun c150 => ?_) (fun c150 => ?_)
                  · skip
                    refine x_iconst C (nI 1) dX12_column_158 rfl ?_
                    refine x_goto C 163 dX12_column_159 (by decide) ?_
                    refine x_congr (st' := .int (x_z true) :: .ref 38 :: []) rfl rfl ?_
                    refine x_putZ C fi_38_27 kf_X12_251 rfl rfl dX12_column_163 ?_
                    refine x_sig (σ' := x_fm σ ai (nI vi) true) (x_fm_27 _ _ _ _ _) ?_
                    exact lp166 true (by first | (rw [c150]; rfl) | (rw [c150, c155]; rfl)) _ xl0 xl1 xl2 xl3 xl4 xl5 xl6
                  · skip
                    refine x_iload C (i := 9) dX12_column_153 xl9 ?_
                    refine x_if_eqZ C 162 dX12_column_155 (by decide) (fun c155 => ?_) (fun c155 => ?_)
                    · skip
                      refine x_iconst C (nI 0) dX12_column_162 rfl ?_
                      refine x_congr (st' := .int (x_z false) :: .ref 38 :: []) rfl rfl ?_
                      refine x_putZ C fi_38_27 kf_X12_251 rfl rfl dX12_column_163 ?_
                      refine x_sig (σ' := x_fm σ ai (nI vi) false) (x_fm_27 _ _ _ _ _) ?_
                      exact lp166 false (by first | (rw [c150]; rfl) | (rw [c150, c155]; rfl)) _ xl0 xl1 xl2 xl3 xl4 xl5 xl6
                    · skip
                      refine x_iconst C (nI 1) dX12_column_158 rfl ?_
                      refine x_goto C 163 dX12_column_159 (by decide) ?_
                      refine x_congr (st' := .int (x_z true) :: .ref 38 :: []) rfl rfl ?_
                      refine x_putZ C fi_38_27 kf_X12_251 rfl rfl dX12_column_163 ?_
                      refine x_sig (σ' := x_fm σ ai (nI vi) true) (x_fm_27 _ _ _ _ _) ?_
                      exact lp166 true (by first | (rw [c150]; rfl) | (rw [c150, c155]; rfl)) _ xl0 xl1 xl2 xl3 xl4 xl5 xl6
                refine x_if_neZ C 139 dX12_column_131 (by decide) (fun c131 => ?_) (fun c131 => ?_)
                · skip
                  refine x_iconst C (nI 1) dX12_column_139 rfl ?_
                  refine x_goto C 144 dX12_column_140 (by decide) ?_
                  refine x_istore_n C (i := 3) dX12_column_144 rfl (by decide) ?_
                  exact lp145 true (by first | (rw [c131]; rfl) | (rw [c131, c136]; rfl)) _ xl0 xl1 xl2 rfl xl4 xl5 xl6 xl9
                · skip
                  refine x_iload C (i := 6) dX12_column_134 xl6 ?_
                  refine x_if_eqZ C 143 dX12_column_136 (by decide) (fun c136 => ?_) (fun c136 => ?_)
                  · skip
                    refine x_iconst C (nI 0) dX12_column_143 rfl ?_
                    refine x_istore_n C (i := 3) dX12_column_144 rfl (by decide) ?_
                    exact lp145 false (by first | (rw [c131]; rfl) | (rw [c131, c136]; rfl)) _ xl0 xl1 xl2 rfl xl4 xl5 xl6 xl9
                  · skip
                    refine x_iconst C (nI 1) dX12_column_139 rfl ?_
                    refine x_goto C 144 dX12_column_140 (by decide) ?_
                    refine x_istore_n C (i := 3) dX12_column_144 rfl (by decide) ?_
                    exact lp145 true (by first | (rw [c131]; rfl) | (rw [c131, c136]; rfl)) _ xl0 xl1 xl2 rfl xl4 xl5 xl6 xl9
              refine x_if_neZ C 130 dX12_column_115 (by decide) (fun c115 => ?_) (fun c115 => ?_)
              · skip
                exact lp130 (by first | (rw [c115]; rfl) | (rw [c115, c120]; rfl) | (rw [c115, c120, c125]; rfl)) _ xl0 xl1 xl2 xl3 xl4 xl5 xl6 xl7 xl8 xl9
              · skip
                refine x_iload C (i := 8) dX12_column_118 xl8 ?_
                refine x_if_neZ C 130 dX12_column_120 (by decide) (fun c120 => ?_) (fun c120 => ?_)
                · skip
                  exact lp130 (by first | (rw [c115]; rfl) | (rw [c115, c120]; rfl) | (rw [c115, c120, c125]; rfl)) _ xl0 xl1 xl2 xl3 xl4 xl5 xl6 xl7 xl8 xl9
                · skip
                  refine x_iload C (i := 9) dX12_column_123 xl9 ?_
                  refine x_if_neZ C 130 dX12_column_125 (by decide) (fun c125 => ?_) (fun c125 => ?_)
                  · skip
                    exact lp130 (by first | (rw [c115]; rfl) | (rw [c115, c120]; rfl) | (rw [c115, c120, c125]; rfl)) _ xl0 xl1 xl2 xl3 xl4 xl5 xl6 xl7 xl8 xl9
                  · skip
                    refine x_iconst C (nI 0) dX12_column_128 rfl ?_
                    refine x_zret C xr xk dX12_column_129 rfl ?_
                    exact hK _ _ (Or.inr (by rw [← hR, show w - i = (w - (i + 1)) + 1 by omega]; unfold x_colf; rw [hcv, show decide (w - (i + 1) = 0) = la by rw [hla]; congr 1; apply propext; omega, ← hbl, ← hmi, ← hdg, c115, c120, c125]; exact ⟨rfl, rfl, rfl⟩))
            refine x_icmp_ne C 110 dX12_column_83 (by decide) (fun c83 => ?_) (fun c83 => ?_)
            · skip
              refine x_iconst C (nI 0) dX12_column_110 rfl ?_
              refine x_istore C (i := 9) dX12_column_111 (by decide) ?_
              exact lp113 false (by unfold x_cm; first | (rw [decide_eq_false c83]; rfl) | (rw [decide_eq_true c83, c87]; rfl) | (rw [decide_eq_true c83, c87, c91]; rfl) | (rw [decide_eq_true c83, c87, c91, c98]; rfl) | (rw [decide_eq_true c83, c87, c91, c98, c103]; rfl)) _ xl0 xl1 xl2 xl3 xl4 xl5 xl6 xl7 xl8 rfl
            · skip
              refine x_iload_n C (i := 2) dX12_column_86 rfl xl2 ?_
              refine x_if_eqZ C 110 dX12_column_87 (by decide) (fun c87 => ?_) (fun c87 => ?_)
              · skip
                refine x_iconst C (nI 0) dX12_column_110 rfl ?_
                refine x_istore C (i := 9) dX12_column_111 (by decide) ?_
                exact lp113 false (by unfold x_cm; first | (rw [decide_eq_false c83]; rfl) | (rw [decide_eq_true c83, c87]; rfl) | (rw [decide_eq_true c83, c87, c91]; rfl) | (rw [decide_eq_true c83, c87, c91, c98]; rfl) | (rw [decide_eq_true c83, c87, c91, c98, c103]; rfl)) _ xl0 xl1 xl2 xl3 xl4 xl5 xl6 xl7 xl8 rfl
              · skip
                refine x_iload_n C (i := 3) dX12_column_90 rfl xl3 ?_
                refine x_if_neZ C 110 dX12_column_91 (by decide) (fun c91 => ?_) (fun c91 => ?_)
                · skip
                  refine x_iconst C (nI 0) dX12_column_110 rfl ?_
                  refine x_istore C (i := 9) dX12_column_111 (by decide) ?_
                  exact lp113 false (by unfold x_cm; first | (rw [decide_eq_false c83]; rfl) | (rw [decide_eq_true c83, c87]; rfl) | (rw [decide_eq_true c83, c87, c91]; rfl) | (rw [decide_eq_true c83, c87, c91, c98]; rfl) | (rw [decide_eq_true c83, c87, c91, c98, c103]; rfl)) _ xl0 xl1 xl2 xl3 xl4 xl5 xl6 xl7 xl8 rfl
                · skip
                  refine x_aload_n C (i := 0) dX12_column_94 rfl xl0 ?_
                  refine x_getI C fi_38_27 kf_X12_251 dX12_column_95 ?_
                  refine x_topI (y := x_z n) rfl ?_
                  refine x_if_neZ C 110 dX12_column_98 (by decide) (fun c98 => ?_) (fun c98 => ?_)
                  · skip
                    refine x_iconst C (nI 0) dX12_column_110 rfl ?_
                    refine x_istore C (i := 9) dX12_column_111 (by decide) ?_
                    exact lp113 false (by unfold x_cm; first | (rw [decide_eq_false c83]; rfl) | (rw [decide_eq_true c83, c87]; rfl) | (rw [decide_eq_true c83, c87, c91]; rfl) | (rw [decide_eq_true c83, c87, c91, c98]; rfl) | (rw [decide_eq_true c83, c87, c91, c98, c103]; rfl)) _ xl0 xl1 xl2 xl3 xl4 xl5 xl6 xl7 xl8 rfl
                  · skip
                    refine x_iload C (i := 7) dX12_column_101 xl7 ?_
                    refine x_if_neZ C 110 dX12_column_103 (by decide) (fun c103 => ?_) (fun c103 => ?_)
                    · skip
                      refine x_iconst C (nI 0) dX12_column_110 rfl ?_
                      refine x_istore C (i := 9) dX12_column_111 (by decide) ?_
                      exact lp113 false (by unfold x_cm; first | (rw [decide_eq_false c83]; rfl) | (rw [decide_eq_true c83, c87]; rfl) | (rw [decide_eq_true c83, c87, c91]; rfl) | (rw [decide_eq_true c83, c87, c91, c98]; rfl) | (rw [decide_eq_true c83, c87, c91, c98, c103]; rfl)) _ xl0 xl1 xl2 xl3 xl4 xl5 xl6 xl7 xl8 rfl
                    · skip
                      refine x_iconst C (nI 1) dX12_column_106 rfl ?_
                      refine x_goto C 111 dX12_column_107 (by decide) ?_
                      refine x_istore C (i := 9) dX12_column_111 (by decide) ?_
                      exact lp113 true (by unfold x_cm; first | (rw [decide_eq_false c83]; rfl) | (rw [decide_eq_true c83, c87]; rfl) | (rw [decide_eq_true c83, c87, c91]; rfl) | (rw [decide_eq_true c83, c87, c91, c98]; rfl) | (rw [decide_eq_true c83, c87, c91, c98, c103]; rfl)) _ xl0 xl1 xl2 xl3 xl4 xl5 xl6 xl7 xl8 rfl
          refine x_icmp_ne C 76 dX12_column_53 (by decide) (fun c53 => ?_) (fun c53 => ?_)
          · skip
            refine x_iconst C (nI 0) dX12_column_76 rfl ?_
            refine x_istore C (i := 8) dX12_column_77 (by decide) ?_
            exact lp79 false (by unfold x_cb; first | (rw [decide_eq_false c53]; rfl) | (rw [decide_eq_true c53, c57]; rfl) | (rw [decide_eq_true c53, c57, c64]; rfl) | (rw [decide_eq_true c53, c57, c64, c69]; rfl)) _ xl0 xl1 xl2 xl3 xl4 xl5 xl6 xl7 rfl
          · skip
            refine x_iload_n C (i := 3) dX12_column_56 rfl xl3 ?_
            refine x_if_neZ C 76 dX12_column_57 (by decide) (fun c57 => ?_) (fun c57 => ?_)
            · skip
              refine x_iconst C (nI 0) dX12_column_76 rfl ?_
              refine x_istore C (i := 8) dX12_column_77 (by decide) ?_
              exact lp79 false (by unfold x_cb; first | (rw [decide_eq_false c53]; rfl) | (rw [decide_eq_true c53, c57]; rfl) | (rw [decide_eq_true c53, c57, c64]; rfl) | (rw [decide_eq_true c53, c57, c64, c69]; rfl)) _ xl0 xl1 xl2 xl3 xl4 xl5 xl6 xl7 rfl
            · skip
              refine x_aload_n C (i := 0) dX12_column_60 rfl xl0 ?_
              refine x_getI C fi_38_27 kf_X12_251 dX12_column_61 ?_
              refine x_topI (y := x_z n) rfl ?_
              refine x_if_neZ C 76 dX12_column_64 (by decide) (fun c64 => ?_) (fun c64 => ?_)
              · skip
                refine x_iconst C (nI 0) dX12_column_76 rfl ?_
                refine x_istore C (i := 8) dX12_column_77 (by decide) ?_
                exact lp79 false (by unfold x_cb; first | (rw [decide_eq_false c53]; rfl) | (rw [decide_eq_true c53, c57]; rfl) | (rw [decide_eq_true c53, c57, c64]; rfl) | (rw [decide_eq_true c53, c57, c64, c69]; rfl)) _ xl0 xl1 xl2 xl3 xl4 xl5 xl6 xl7 rfl
              · skip
                refine x_iload C (i := 7) dX12_column_67 xl7 ?_
                refine x_if_neZ C 76 dX12_column_69 (by decide) (fun c69 => ?_) (fun c69 => ?_)
                · skip
                  refine x_iconst C (nI 0) dX12_column_76 rfl ?_
                  refine x_istore C (i := 8) dX12_column_77 (by decide) ?_
                  exact lp79 false (by unfold x_cb; first | (rw [decide_eq_false c53]; rfl) | (rw [decide_eq_true c53, c57]; rfl) | (rw [decide_eq_true c53, c57, c64]; rfl) | (rw [decide_eq_true c53, c57, c64, c69]; rfl)) _ xl0 xl1 xl2 xl3 xl4 xl5 xl6 xl7 rfl
                · skip
                  refine x_iconst C (nI 1) dX12_column_72 rfl ?_
                  refine x_goto C 77 dX12_column_73 (by decide) ?_
                  refine x_istore C (i := 8) dX12_column_77 (by decide) ?_
                  exact lp79 true (by unfold x_cb; first | (rw [decide_eq_false c53]; rfl) | (rw [decide_eq_true c53, c57]; rfl) | (rw [decide_eq_true c53, c57, c64]; rfl) | (rw [decide_eq_true c53, c57, c64, c69]; rfl)) _ xl0 xl1 xl2 xl3 xl4 xl5 xl6 xl7 rfl
        refine x_icmp_neN C 46 dX12_column_39 (by decide) (by omega) (by omega) (fun c39 => ?_) (fun c39 => ?_)
        · skip
          refine x_iconst C (nI 0) dX12_column_46 rfl ?_
          refine x_istore C (i := 7) dX12_column_47 (by decide) ?_
          exact lp49 false (by first | rw [decide_eq_true (by omega)] | rw [decide_eq_false (by omega)]) _ xl0 xl1 xl2 xl3 xl4 rfl rfl rfl
        · skip
          refine x_iconst C (nI 1) dX12_column_42 rfl ?_
          refine x_goto C 47 dX12_column_43 (by decide) ?_
          refine x_istore C (i := 7) dX12_column_47 (by decide) ?_
          exact lp49 true (by first | rw [decide_eq_true (by omega)] | rw [decide_eq_false (by omega)]) _ xl0 xl1 xl2 xl3 xl4 rfl rfl rfl
  exact lp15 _ 0 a false false 0 rfl (Nat.zero_le _) hat (by decide) rfl _ rfl rfl rfl rfl rfl
theorem c_X12_column (l : Launch) (Y : x_Y) (σ : x_S) (a : Nat) (v : Int32) (ng : Bool) (w : Nat) (sg : Bool) (b : Nat → Int32) (t : Nat) (hb : σ.1 39 = b) (ht : σ.1 38 2 = nI t) (ht8 : t ≤ 8000) (hat : a ≤ t) (hw : 1 ≤ w) (hw5 : w ≤ 5) : x_M l yX12_column cX12_column 10 (some .boolean) 1 Y [.ref 38, .int (nI w), .int (x_z sg)] (x_fm σ a v ng) (fun r τ => ((x_colf b t sg w a false false 0).1 = true ∧ r = some (.int (x_z true)) ∧ τ = x_fm σ (x_colf b t sg w a false false 0).2.1 (if (x_colf b t sg w a false false 0).2.2.1 = true then -nI (x_colf b t sg w a false false 0).2.2.2 else nI (x_colf b t sg w a false false 0).2.2.2) (x_colf b t sg w a false false 0).2.2.1 ∧ (x_colf b t sg w a false false 0).2.2.2 < 10 ^ w) ∨ ((x_colf b t sg w a false false 0).1 = false ∧ r = some (.int (x_z false)) ∧ τ = x_fm σ (x_colf b t sg w a false false 0).2.1 (nI (x_colf b t sg w a false false 0).2.2.2) (x_colf b t sg w a false false 0).2.2.1)) := c_X12_column_K l Y σ a v ng w sg b t hb ht ht8 hat hw hw5 _ (fun _ _ h => h)
