set_option maxRecDepth 100000 in
set_option maxHeartbeats 200000 in
theorem c_X12_matrix_K (l : Launch) (Y : x_Y) (σ : x_S) (a su fi be : Nat) (Gt Gs : List (List Int32)) (f46 f47 : Nat → Int32) (b : Nat → Int32) (t : Nat) (hb : σ.1 39 = b) (ht : σ.1 38 2 = nI t) (ht8 : t ≤ 8000) (hat : a ≤ t) (hG : Gs.length = Gt.length) (hG8 : Gt.length ≤ 8) (hsu : su ≤ 6) (hfi : fi ≤ 6) (hbe : be < 3) (K : Option Value → x_S → Prop) (hK : ∀ (r : Option Value) (τ : x_S), ((x_mok b t a su fi = true ∧ r = some (.int (x_z true)) ∧ τ = x_pm σ (x_msf b t a su fi).1 (if 1 < x_mn b t a then su + 1 else su) (if 1 < x_mn b t a ∧ su = 0 then x_mn b t a else fi) (if 1 < x_mn b t a ∧ x_man b t a su fi < 3 then x_man b t a su fi else be) (Gt ++ [x_mrot b t a su fi be]) (Gs ++ [[nI (x_msf b t a su fi).2.1, nI (x_msf b t a su fi).2.2.1, nI (x_msf b t a su fi).2.2.2]]) (x_ml (x_mrot b t a su fi be) f46) (x_ml [nI (x_msf b t a su fi).2.1, nI (x_msf b t a su fi).2.2.1, nI (x_msf b t a su fi).2.2.2] f47)) ∨ (x_mok b t a su fi = false ∧ r = some (.int (x_z false)) ∧ τ = x_pm σ (x_mfl b t a) su fi be Gt Gs f46 f47)) → K r τ) : x_M l yX12_matrix cX12_matrix 9 (some .boolean) 3 Y [.ref 38] (x_pm σ a su fi be Gt Gs f46 f47) K := by
  refine x_start (by decide) (Nat.le_of_ble_eq_true rfl) ?_
  intro xp xe xs xm xg xb xt xc C xr xk
  refine x_aload_n C (i := 0) dX12_matrix_0 rfl rfl ?_
  have hM := c_X12_look l Y (x_pm σ a su fi be Gt Gs f46 f47) b t a hb ht rfl ht8 (by omega)
  refine x_callV C (as := []) (st := []) (hM) kb_X12_look kv_X12_110 dX12_matrix_1 rfl rfl (Nat.le_of_ble_eq_true rfl) ⟨by decide, by decide⟩ ⟨by decide, by decide⟩ ko_38 ?_
  clear hM
  intro r9 τ9 h9
  obtain ⟨rfl, h8⟩ := h9
  rw [h8]
  clear h8 τ9
  refine x_bipush C (nI 45) dX12_matrix_4 rfl ?_
  have lp36 : ∀ (a1 : Nat) (mi : Bool), (a1 = x_ma1 b t a) → (mi = decide (x_lookv b t a = nI 45)) → (a1 ≤ t) → ∀ L : x_Lo, L.1 0 = some (.ref 38) → L.1 1 = some (.int (x_z mi)) → x_W xp l xe (x_rm 3) xs xm xg xb xt xc 9 Y 0 0 (MQ xb (x_Q Y K) xg xs 0 0 (x_A Y)) 36 L [] (x_pm σ a1 su fi be Gt Gs f46 f47) := by
    intro a1 mi ha1 hmi hat0 L xl0 xl1
    refine x_aload_n C (i := 0) dX12_matrix_36 rfl xl0 ?_
    have hM := c_X12_look l Y (x_pm σ a1 su fi be Gt Gs f46 f47) b t a1 hb ht rfl ht8 (by omega)
    refine x_callV C (as := []) (st := []) (hM) kb_X12_look kv_X12_110 dX12_matrix_37 rfl rfl (Nat.le_of_ble_eq_true rfl) ⟨by decide, by decide⟩ ⟨by decide, by decide⟩ ko_38 ?_
    clear hM
    intro r9 τ9 h9
    obtain ⟨rfl, h8⟩ := h9
    rw [h8]
    clear h8 τ9
    have hM := c_X12_isOrder l Y (x_pm σ a1 su fi be Gt Gs f46 f47) (x_lookv b t a1)
    refine x_callS C (as := [.int (x_lookv b t a1)]) (st := []) (hM) kb_X12_isOrder ks_X12_134 dX12_matrix_40 rfl rfl (Nat.le_of_ble_eq_true rfl) ⟨by decide, by decide⟩ ⟨by decide, by decide⟩ ?_
    clear hM
    intro r9 τ9 h9
    obtain ⟨rfl, h8⟩ := h9
    rw [h8]
    clear h8 τ9
    refine x_if_neZ C 48 dX12_matrix_43 (by decide) (fun c43 => ?_) (fun c43 => ?_)
    · skip
      have hat1 := x_isOrd_lt c43
      obtain ⟨n, hn⟩ : ∃ n, n = x_mn b t a := ⟨_, rfl⟩
      have hn0 : n = x_ordn (x_lookv b t a1) := by rw [hn]; unfold x_mn; rw [← ha1]
      have hn6 := x_ord_le (x_lookv b t a1)
      rw [← hn0] at hn6
      refine x_aload_n C (i := 0) dX12_matrix_48 rfl xl0 ?_
      have hM := c_X12_look l Y (x_pm σ a1 su fi be Gt Gs f46 f47) b t a1 hb ht rfl ht8 (by omega)
      refine x_callV C (as := []) (st := []) (hM) kb_X12_look kv_X12_110 dX12_matrix_49 rfl rfl (Nat.le_of_ble_eq_true rfl) ⟨by decide, by decide⟩ ⟨by decide, by decide⟩ ko_38 ?_
      clear hM
      intro r9 τ9 h9
      obtain ⟨rfl, h8⟩ := h9
      rw [h8]
      clear h8 τ9
      refine x_bipush C (nI 48) dX12_matrix_52 rfl ?_
      refine x_isub C dX12_matrix_54 ?_
      refine x_topI (y := nI n) (by rw [hn0]; exact x_ord_sub c43) ?_
      refine x_istore_n C (i := 2) dX12_matrix_55 rfl (by decide) ?_
      refine x_aload_n C (i := 0) dX12_matrix_56 rfl xl0 ?_
      refine x_dup C dX12_matrix_57 rfl ?_
      refine x_getI C fi_38_3 kf_X12_100 dX12_matrix_58 ?_
      refine x_topI (y := nI a1) rfl ?_
      refine x_iconst C (nI 1) dX12_matrix_61 rfl ?_
      refine x_iaddN C dX12_matrix_62 ?_
      refine x_putN C fi_38_3 kf_X12_100 rfl rfl dX12_matrix_63 ?_
      refine x_sig (σ' := x_pm σ (a1 + 1) su fi be Gt Gs f46 f47) (x_pm_3 _ _ _ _ _ _ _ _ _ _) ?_
      refine x_aload_n C (i := 0) dX12_matrix_66 rfl xl0 ?_
      refine x_iload_n C (i := 2) dX12_matrix_67 rfl rfl ?_
      have hM := c_X12_axisAt l Y (x_pm σ (a1 + 1) su fi be Gt Gs f46 f47) b t (a1 + 1) hb ht rfl ht8 (by omega) n (by omega)
      refine x_callV C (as := [.int (nI n)]) (st := []) (hM) kb_X12_axisAt kv_X12_138 dX12_matrix_68 rfl rfl (Nat.le_of_ble_eq_true rfl) ⟨by decide, by decide⟩ ⟨by decide, by decide⟩ ko_38 ?_
      clear hM
      intro r9 τ9 h9
      obtain ⟨rfl, h8⟩ := h9
      rw [h8]
      clear h8 τ9
      refine x_istore_n C (i := 3) dX12_matrix_71 rfl (by decide) ?_
      refine x_iload_n C (i := 3) dX12_matrix_72 rfl rfl ?_
      refine x_iconst C (-1) dX12_matrix_73 rfl ?_
      have lp108 : ∀ (ax : Int32) (a3 : Nat), ((n = 1 ∧ ax = -1) ∨ (1 < n ∧ ∃ an, an ≤ 5 ∧ ax = nI an)) → (ax = x_max b t a su fi) → (a3 = x_ma3 b t a) → (a3 ≤ t) → ∀ L : x_Lo, L.1 0 = some (.ref 38) → L.1 1 = some (.int (x_z mi)) → L.1 2 = some (.int (nI n)) → L.1 3 = some (.int ax) → x_W xp l xe (x_rm 3) xs xm xg xb xt xc 9 Y 0 0 (MQ xb (x_Q Y K) xg xs 0 0 (x_A Y)) 108 L [] (x_pm σ a3 su fi be Gt Gs f46 f47) := by
        intro ax a3 hax hax2 ha3 hat3 L xl0 xl1 xl2 xl3
        rcases hax with ⟨hn1, rfl⟩ | ⟨hn1, an, han, rfl⟩
        · skip
          obtain ⟨an, hman⟩ : ∃ an : Nat, an = x_man b t a su fi := ⟨_, rfl⟩
          have hok : x_mok b t a su fi = true := by unfold x_mok; rw [← ha1, ← hn, c43, hn1]; rfl
          refine x_aload_n C (i := 0) dX12_matrix_108 rfl xl0 ?_
          refine x_iload_n C (i := 2) dX12_matrix_109 rfl xl2 ?_
          refine x_iload_n C (i := 3) dX12_matrix_110 rfl xl3 ?_
          obtain ⟨l0, hl0, hl0n⟩ : ∃ l0 : List Int32, l0 = x_one ∧ l0.length = 9 := ⟨_, rfl, rfl⟩
          have hmr : x_mr0 b t a su fi be = l0 := by unfold x_mr0; rw [← hn, if_pos hn1, hl0]
          have hM := c_X12_rotate1_K l Y (x_pm σ a3 su fi be Gt Gs f46 f47) n hn1 (fun r τ => r = none ∧ τ = x_pm σ a3 su fi be Gt Gs (x_ml l0 f46) f47) (by rintro _ _ ⟨rfl, rfl⟩; exact ⟨rfl, (by rw [hl0]; exact x_pm_46 _ _ _ _ _ _ _ _ _ _)⟩)
          refine x_callV C (as := [.int (nI n), .int (-1)]) (st := []) (hM) kb_X12_rotate kv_X12_145 dX12_matrix_111 rfl rfl (Nat.le_of_ble_eq_true rfl) ⟨by decide, by decide⟩ ⟨by decide, by decide⟩ ko_38 ?_
          clear hM
          rintro _ _ ⟨rfl, rfl⟩
          refine x_iload_n C (i := 1) dX12_matrix_114 rfl xl1 ?_
          have lp149 : ∀ (l9 : List Int32), (l9.length = 9) → (l9 = x_mrot b t a su fi be) → ∀ L : x_Lo, L.1 0 = some (.ref 38) → L.1 1 = some (.int (x_z mi)) → L.1 2 = some (.int (nI n)) → L.1 3 = some (.int (-1)) → x_W xp l xe (x_rm 3) xs xm xg xb xt xc 9 Y 0 0 (MQ xb (x_Q Y K) xg xs 0 0 (x_A Y)) 149 L [] (x_pm σ a3 su fi be Gt Gs (x_ml l9 f46) f47) := by
            intro l9 hl9 hlr L xl0 xl1 xl2 xl3
            refine x_aload_n C (i := 0) dX12_matrix_149 rfl xl0 ?_
            refine x_iconst C (nI 0) dX12_matrix_150 rfl ?_
            refine x_iconst C (nI 0) dX12_matrix_151 rfl ?_
            refine x_iconst C (nI 0) dX12_matrix_152 rfl ?_
            have hM := c_X12_setShift_K l Y (x_pm σ a3 su fi be Gt Gs (x_ml l9 f46) f47) (nI 0) (nI 0) (nI 0) (fun r τ => r = none ∧ τ = x_pm σ a3 su fi be Gt Gs (x_ml l9 f46) (x_ml [nI 0, nI 0, nI 0] f47)) (by rintro _ _ ⟨rfl, rfl⟩; exact ⟨rfl, x_pm_47 _ _ _ _ _ _ _ _ _ _⟩)
            refine x_callV C (as := [.int (nI 0), .int (nI 0), .int (nI 0)]) (st := []) (hM) kb_X12_setShift kv_X12_127 dX12_matrix_153 rfl rfl (Nat.le_of_ble_eq_true rfl) ⟨by decide, by decide⟩ ⟨by decide, by decide⟩ ko_38 ?_
            clear hM
            rintro _ _ ⟨rfl, rfl⟩
            refine x_iload_n C (i := 2) dX12_matrix_156 rfl xl2 ?_
            refine x_iconst C (nI 2) dX12_matrix_157 rfl ?_
            have lp171 : ∀ (dg0 : Bool), (dg0 = (decide (2 < n) && decide (an < 3))) → ∀ L : x_Lo, L.1 0 = some (.ref 38) → L.1 1 = some (.int (x_z mi)) → L.1 2 = some (.int (nI n)) → L.1 3 = some (.int (-1)) → x_W xp l xe (x_rm 3) xs xm xg xb xt xc 9 Y 0 0 (MQ xb (x_Q Y K) xg xs 0 0 (x_A Y)) 171 L [.int (x_z dg0)] (x_pm σ a3 su fi be Gt Gs (x_ml l9 f46) (x_ml [nI 0, nI 0, nI 0] f47)) := by
              intro dg0 hdg0 L xl0 xl1 xl2 xl3
              have hms : x_msf b t a su fi = x_sf b t n an 4 dg0 a3 0 0 0 := by unfold x_msf; rw [← hn, ← hman, ← ha3, ← hdg0]
              refine x_istore C (i := 4) dX12_matrix_171 (by decide) ?_
              refine x_iconst C (nI 0) dX12_matrix_173 rfl ?_
              refine x_istore C (i := 5) dX12_matrix_174 (by decide) ?_
              refine x_iconst C (nI 1) dX12_matrix_176 rfl ?_
              refine x_istore C (i := 6) dX12_matrix_177 (by decide) ?_
              have lp179 : ∀ (m179 : Nat) (k : Nat) (dg : Bool) (mo : Bool) (a5 : Nat) (u : Nat) (v : Nat) (w : Nat), (5 - k) = m179 → (k ≤ 4) → (u < 12) → (v < 12) → (w < 12) → (a5 ≤ t) → (dg = true → 2 < n ∧ an < 3) → ((if mo = true then x_sf b t n an (4 - k) dg a5 u v w else (a5, u, v, w)) = x_sf b t n an 4 dg0 a3 0 0 0) → ∀ L : x_Lo, L.1 0 = some (.ref 38) → L.1 1 = some (.int (x_z mi)) → L.1 2 = some (.int (nI n)) → L.1 3 = some (.int (-1)) → L.1 4 = some (.int (x_z dg)) → L.1 5 = some (.int (nI k)) → L.1 6 = some (.int (x_z mo)) → x_W xp l xe (x_rm 3) xs xm xg xb xt xc 9 Y 0 0 (MQ xb (x_Q Y K) xg xs 0 0 (x_A Y)) 179 L [] (x_pm σ a5 su fi be Gt Gs (x_ml l9 f46) (x_ml [nI u, nI v, nI w] f47)) := by
                intro m179
                induction m179 using Nat.strongRecOn with
                | _ m179 ih179 =>
                  intro k dg mo a5 u v w hm179 hk4 hu hv hw ha5 hdg hR L xl0 xl1 xl2 xl3 xl4 xl5 xl6
                  refine x_iload C (i := 6) dX12_matrix_179 xl6 ?_
                  have lp305 : (x_msf b t a su fi = (a5, u, v, w)) → ∀ L : x_Lo, L.1 0 = some (.ref 38) → L.1 1 = some (.int (x_z mi)) → L.1 2 = some (.int (nI n)) → L.1 3 = some (.int (-1)) → x_W xp l xe (x_rm 3) xs xm xg xb xt xc 9 Y 0 0 (MQ xb (x_Q Y K) xg xs 0 0 (x_A Y)) 305 L [] (x_pm σ a5 su fi be Gt Gs (x_ml l9 f46) (x_ml [nI u, nI v, nI w] f47)) := by
                    intro  hE L xl0 xl1 xl2 xl3
                    refine x_aload_n C (i := 0) dX12_matrix_305 rfl xl0 ?_
                    have hM := c_X12_generate_K l Y (x_pm σ a5 su fi be Gt Gs (x_ml l9 f46) (x_ml [nI u, nI v, nI w] f47)) (List.length Gt) rfl (by omega) (fun r τ => r = none ∧ τ = x_pm σ a5 su fi be (Gt ++ [l9]) (Gs ++ [[nI u, nI v, nI w]]) (x_ml l9 f46) (x_ml [nI u, nI v, nI w] f47)) (by rintro _ _ ⟨rfl, rfl⟩; exact ⟨rfl, x_pm_gen σ a5 su fi be Gt Gs l9 [nI u, nI v, nI w] f46 f47 hl9 rfl hG⟩)
                    refine x_callV C (as := []) (st := []) (hM) kb_X12_generate kv_X12_153 dX12_matrix_306 rfl rfl (Nat.le_of_ble_eq_true rfl) ⟨by decide, by decide⟩ ⟨by decide, by decide⟩ ko_38 ?_
                    clear hM
                    rintro _ _ ⟨rfl, rfl⟩
                    refine x_iload_n C (i := 2) dX12_matrix_309 rfl xl2 ?_
                    refine x_iconst C (nI 1) dX12_matrix_310 rfl ?_
                    refine x_icmp_leN C 360 dX12_matrix_311 (by decide) (by omega) (by omega) (fun c311 => ?_) (fun c311 => ?_)
                    · skip
                      have c311' := Nat.not_lt.mpr c311
                      refine x_iconst C (nI 1) dX12_matrix_360 rfl ?_
                      refine x_zret C xr xk dX12_matrix_361 rfl ?_
                      exact hK _ _ (Or.inl ⟨hok, rfl, by simp only [hE, ← hn, ← hman, ← hlr]; first | rw [if_neg (by omega), if_neg (by omega), if_neg (by omega)] | rw [if_pos (by omega), if_pos (by omega), if_pos (by omega)] | rw [if_pos (by omega), if_pos (by omega), if_neg (by omega)] | rw [if_pos (by omega), if_neg (by omega), if_pos (by omega)] | rw [if_pos (by omega), if_neg (by omega), if_neg (by omega)]⟩)
                    · skip
                      have c311' := Nat.not_le.mpr c311
                      exfalso; omega
                  refine x_if_eqZ C 305 dX12_matrix_181 (by decide) (fun c181 => ?_) (fun c181 => ?_)
                  · skip
                    exact lp305 (by rw [hms, ← hR, c181]; rfl) _ xl0 xl1 xl2 xl3
                  · skip
                    subst c181
                    refine x_iload C (i := 5) dX12_matrix_184 xl5 ?_
                    refine x_iconst C (nI 4) dX12_matrix_186 rfl ?_
                    refine x_icmp_geN C 305 dX12_matrix_187 (by decide) (by omega) (by omega) (fun c187 => ?_) (fun c187 => ?_)
                    · skip
                      have c187' := Nat.not_lt.mpr c187
                      exact lp305 (by rw [hms, ← hR, if_pos rfl, show 4 - k = 0 by omega]; rfl) _ xl0 xl1 xl2 xl3
                    · skip
                      have c187' := Nat.not_le.mpr c187
                      refine x_aload_n C (i := 0) dX12_matrix_190 rfl xl0 ?_
                      have hM := c_X12_look l Y (x_pm σ a5 su fi be Gt Gs (x_ml l9 f46) (x_ml [nI u, nI v, nI w] f47)) b t a5 hb ht rfl ht8 (by omega)
                      refine x_callV C (as := []) (st := []) (hM) kb_X12_look kv_X12_110 dX12_matrix_191 rfl rfl (Nat.le_of_ble_eq_true rfl) ⟨by decide, by decide⟩ ⟨by decide, by decide⟩ ko_38 ?_
                      clear hM
                      intro r9 τ9 h9
                      obtain ⟨rfl, h8⟩ := h9
                      rw [h8]
                      clear h8 τ9
                      refine x_istore C (i := 7) dX12_matrix_194 (by decide) ?_
                      refine x_iload C (i := 4) dX12_matrix_196 xl4 ?_
                      refine x_if_eqZ C 271 dX12_matrix_198 (by decide) (fun c198 => ?_) (fun c198 => ?_)
                      · skip
                        refine x_aload_n C (i := 0) dX12_matrix_271 rfl xl0 ?_
                        have hM := c_X12_takesShift_K l Y (x_pm σ a5 su fi be Gt Gs (x_ml l9 f46) (x_ml [nI u, nI v, nI w] f47)) b t a5 hb ht rfl ht8 (by omega) u v w f47 rfl hu hv hw (fun r τ => r = some (.int (x_z ((x_l3 (x_lookv b t a5)).2.2.2))) ∧ τ = x_pm σ a5 su fi be Gt Gs (x_ml l9 f46) (x_ml [nI ((u + (x_l3 (x_lookv b t a5)).1) % 12), nI ((v + (x_l3 (x_lookv b t a5)).2.1) % 12), nI ((w + (x_l3 (x_lookv b t a5)).2.2.1) % 12)] f47)) (by rintro _ _ ⟨rfl, rfl⟩; exact ⟨rfl, x_pm_47 _ _ _ _ _ _ _ _ _ _⟩)
                        refine x_callV C (as := []) (st := []) (hM) kb_X12_takesShift kv_X12_149 dX12_matrix_272 rfl rfl (Nat.le_of_ble_eq_true rfl) ⟨by decide, by decide⟩ ⟨by decide, by decide⟩ ko_38 ?_
                        clear hM
                        rintro _ _ ⟨rfl, rfl⟩
                        refine x_istore C (i := 6) dX12_matrix_275 (by decide) ?_
                        refine x_aload_n C (i := 0) dX12_matrix_277 rfl xl0 ?_
                        refine x_iload C (i := 6) dX12_matrix_278 rfl ?_
                        refine x_if_eqZ C 292 dX12_matrix_280 (by decide) (fun c280 => ?_) (fun c280 => ?_)
                        · skip
                          refine x_aload_n C (i := 0) dX12_matrix_292 rfl xl0 ?_
                          refine x_getI C fi_38_3 kf_X12_100 dX12_matrix_293 ?_
                          refine x_topI (y := nI a5) rfl ?_
                          refine x_putN C fi_38_3 kf_X12_100 rfl rfl dX12_matrix_296 ?_
                          refine x_sig (σ' := x_pm σ a5 su fi be Gt Gs (x_ml l9 f46) (x_ml [nI ((u + (x_l3 (x_lookv b t a5)).1) % 12), nI ((v + (x_l3 (x_lookv b t a5)).2.1) % 12), nI ((w + (x_l3 (x_lookv b t a5)).2.2.1) % 12)] f47)) (x_pm_3 _ _ _ _ _ _ _ _ _ _) ?_
                          refine x_iincN C (i := 5) (b := 1) dX12_matrix_299 xl5 rfl (by decide) ?_
                          refine x_goto C 179 dX12_matrix_302 (by decide) ?_
                          exact ih179 _ (by omega) (k + 1) dg ((x_l3 (x_lookv b t a5)).2.2.2) a5 ((u + (x_l3 (x_lookv b t a5)).1) % 12) ((v + (x_l3 (x_lookv b t a5)).2.1) % 12) ((w + (x_l3 (x_lookv b t a5)).2.2.1) % 12) rfl (by omega) (Nat.mod_lt _ (by decide)) (Nat.mod_lt _ (by decide)) (Nat.mod_lt _ (by decide)) ha5 hdg (by rw [if_pos rfl] at hR; rw [if_neg (by rw [c280]; decide), ← hR, x_sf_end (by omega) (by intro z; first | (rw [c198] at z; exact absurd z.1 (by decide)) | exact c205' z.2.1 | exact c214' z.2.2) c280 hu hv hw]) _ xl0 xl1 xl2 xl3 xl4 rfl rfl
                        · skip
                          refine x_aload_n C (i := 0) dX12_matrix_283 rfl xl0 ?_
                          refine x_getI C fi_38_3 kf_X12_100 dX12_matrix_284 ?_
                          refine x_topI (y := nI a5) rfl ?_
                          refine x_iconst C (nI 1) dX12_matrix_287 rfl ?_
                          refine x_iaddN C dX12_matrix_288 ?_
                          refine x_goto C 296 dX12_matrix_289 (by decide) ?_
                          refine x_putN C fi_38_3 kf_X12_100 rfl rfl dX12_matrix_296 ?_
                          refine x_sig (σ' := x_pm σ (a5 + 1) su fi be Gt Gs (x_ml l9 f46) (x_ml [nI ((u + (x_l3 (x_lookv b t a5)).1) % 12), nI ((v + (x_l3 (x_lookv b t a5)).2.1) % 12), nI ((w + (x_l3 (x_lookv b t a5)).2.2.1) % 12)] f47)) (x_pm_3 _ _ _ _ _ _ _ _ _ _) ?_
                          refine x_iincN C (i := 5) (b := 1) dX12_matrix_299 xl5 rfl (by decide) ?_
                          refine x_goto C 179 dX12_matrix_302 (by decide) ?_
                          exact ih179 _ (by omega) (k + 1) dg ((x_l3 (x_lookv b t a5)).2.2.2) (a5 + 1) ((u + (x_l3 (x_lookv b t a5)).1) % 12) ((v + (x_l3 (x_lookv b t a5)).2.1) % 12) ((w + (x_l3 (x_lookv b t a5)).2.2.1) % 12) rfl (by omega) (Nat.mod_lt _ (by decide)) (Nat.mod_lt _ (by decide)) (Nat.mod_lt _ (by decide)) (x_l3_lt c280) hdg (by rw [if_pos rfl] at hR; rw [if_pos c280, ← hR, x_sf_let (by omega) (by intro z; first | (rw [c198] at z; exact absurd z.1 (by decide)) | exact c205' z.2.1 | exact c214' z.2.2) c280]) _ xl0 xl1 xl2 xl3 xl4 rfl rfl
                      · skip
                        exfalso; have := hdg c198; omega
              exact lp179 _ 0 dg0 true a3 0 0 0 rfl (by omega) (by decide) (by decide) (by decide) hat3 (fun z => by rw [hdg0] at z; simpa using z) (if_pos rfl) _ xl0 xl1 xl2 xl3 rfl rfl rfl
            refine x_icmp_leN C 170 dX12_matrix_158 (by decide) (by omega) (by omega) (fun c158 => ?_) (fun c158 => ?_)
            · skip
              have c158' := Nat.not_lt.mpr c158
              refine x_iconst C (nI 0) dX12_matrix_170 rfl ?_
              exact lp171 false (by simp; omega) _ xl0 xl1 xl2 xl3
            · skip
              have c158' := Nat.not_le.mpr c158
              exfalso; omega
          refine x_if_eqZ C 149 dX12_matrix_115 (by decide) (fun c115 => ?_) (fun c115 => ?_)
          · skip
            exact lp149 l0 hl0n (by unfold x_mrot; rw [hmr, if_neg (of_decide_eq_false (hmi.symm.trans c115))]) _ xl0 xl1 xl2 xl3
          · skip
            refine x_iconst C (nI 0) dX12_matrix_118 rfl ?_
            refine x_istore C (i := 4) dX12_matrix_119 (by decide) ?_
            have lp121 : ∀ (m121 : Nat) (k : Nat), (9 - k) = m121 → (k ≤ 9) → ∀ L : x_Lo, L.1 0 = some (.ref 38) → L.1 1 = some (.int (x_z mi)) → L.1 2 = some (.int (nI n)) → L.1 3 = some (.int (-1)) → L.1 4 = some (.int (nI k)) → x_W xp l xe (x_rm 3) xs xm xg xb xt xc 9 Y 0 0 (MQ xb (x_Q Y K) xg xs 0 0 (x_A Y)) 121 L [] (x_pm σ a3 su fi be Gt Gs (x_ml (x_ng k l0) f46) f47) := by
              intro m121
              induction m121 using Nat.strongRecOn with
              | _ m121 ih121 =>
                intro k hm121 hk9 L xl0 xl1 xl2 xl3 xl4
                refine x_iload C (i := 4) dX12_matrix_121 xl4 ?_
                refine x_bipush C (nI 9) dX12_matrix_123 rfl ?_
                refine x_icmp_geN C 149 dX12_matrix_125 (by decide) (by omega) (by omega) (fun c125 => ?_) (fun c125 => ?_)
                · skip
                  have c125' := Nat.not_lt.mpr c125
                  obtain rfl : k = 9 := by omega
                  exact lp149 (x_ng 9 l0) (by rw [x_ng_len, hl0n]) (by unfold x_mrot; rw [hmr, if_pos (of_decide_eq_true (hmi.symm.trans c115)), x_ng_all hl0n]) _ xl0 xl1 xl2 xl3
                · skip
                  have c125' := Nat.not_le.mpr c125
                  refine x_aload_n C (i := 0) dX12_matrix_128 rfl xl0 ?_
                  refine x_getR C fr_38_13 kf_X12_32 dX12_matrix_129 ?_
                  refine x_iload C (i := 4) dX12_matrix_132 xl4 ?_
                  refine x_aload_n C (i := 0) dX12_matrix_134 rfl xl0 ?_
                  refine x_getR C fr_38_13 kf_X12_32 dX12_matrix_135 ?_
                  refine x_iload C (i := 4) dX12_matrix_138 xl4 ?_
                  refine x_ialdN C (by decide) rfl (by decide) dX12_matrix_140 (by omega) ?_
                  refine x_topI (y := l0.getD k 0) (by show x_ml (x_ng k l0) f46 k = _; rw [x_ml_at _ _ (by rw [x_ng_len]; omega), x_ng_at (by omega)]) ?_
                  refine x_ineg C dX12_matrix_141 ?_
                  refine x_iastN C (by decide) rfl (by decide) dX12_matrix_142 (by omega) ?_
                  refine x_iincN C (i := 4) (b := 1) dX12_matrix_143 xl4 rfl (by decide) ?_
                  refine x_goto C 121 dX12_matrix_146 (by decide) ?_
                  refine x_sig (σ' := x_pm σ a3 su fi be Gt Gs (x_ml (x_ng (k + 1) l0) f46) f47) (by rw [x_u_ui, x_pm_46]; show x_pm _ _ _ _ _ _ _ (upd (x_ml (x_ng k l0) f46) k _) _ = _; rw [x_upd_ml _ _ _ (by rw [x_ng_len]; omega), x_ng_s (by omega)]) ?_
                  exact ih121 _ (by omega) (k + 1) rfl (by omega) _ xl0 xl1 xl2 xl3 rfl
            refine x_sig (σ' := x_pm σ a3 su fi be Gt Gs (x_ml (x_ng 0 l0) f46) f47) (by rw [x_ng_0]) ?_
            exact lp121 _ 0 rfl (by omega) _ xl0 xl1 xl2 xl3 rfl
        · skip
          have hman : an = x_man b t a su fi := by unfold x_man; rw [← hax2, nI_clamp (by omega)]
          have hok : x_mok b t a su fi = true := by unfold x_mok; rw [← ha1, ← hn, ← hax2, c43, decide_eq_false (x_nI_m1 (by omega : an < 2 ^ 31))]; simp
          refine x_aload_n C (i := 0) dX12_matrix_108 rfl xl0 ?_
          refine x_iload_n C (i := 2) dX12_matrix_109 rfl xl2 ?_
          refine x_iload_n C (i := 3) dX12_matrix_110 rfl xl3 ?_
          obtain ⟨l0, hl0, hl0n⟩ : ∃ l0 : List Int32, l0 = x_rotl n an be ∧ l0.length = 9 := ⟨_, rfl, x_rotl_len _ _ _⟩
          have hmr : x_mr0 b t a su fi be = l0 := by unfold x_mr0; rw [← hn, ← hman, if_neg (by omega), hl0]
          have hM := c_X12_rotate_K l Y (x_pm σ a3 su fi be Gt Gs f46 f47) n an be rfl (by omega) (by omega) (by omega) (by omega) (fun r τ => r = none ∧ τ = x_pm σ a3 su fi be Gt Gs (x_ml l0 f46) f47) (by rintro _ _ ⟨rfl, rfl⟩; exact ⟨rfl, (by rw [hl0]; exact x_pm_46 _ _ _ _ _ _ _ _ _ _)⟩)
          refine x_callV C (as := [.int (nI n), .int (nI an)]) (st := []) (hM) kb_X12_rotate kv_X12_145 dX12_matrix_111 rfl rfl (Nat.le_of_ble_eq_true rfl) ⟨by decide, by decide⟩ ⟨by decide, by decide⟩ ko_38 ?_
          clear hM
          rintro _ _ ⟨rfl, rfl⟩
          refine x_iload_n C (i := 1) dX12_matrix_114 rfl xl1 ?_
          have lp149 : ∀ (l9 : List Int32), (l9.length = 9) → (l9 = x_mrot b t a su fi be) → ∀ L : x_Lo, L.1 0 = some (.ref 38) → L.1 1 = some (.int (x_z mi)) → L.1 2 = some (.int (nI n)) → L.1 3 = some (.int (nI an)) → x_W xp l xe (x_rm 3) xs xm xg xb xt xc 9 Y 0 0 (MQ xb (x_Q Y K) xg xs 0 0 (x_A Y)) 149 L [] (x_pm σ a3 su fi be Gt Gs (x_ml l9 f46) f47) := by
            intro l9 hl9 hlr L xl0 xl1 xl2 xl3
            refine x_aload_n C (i := 0) dX12_matrix_149 rfl xl0 ?_
            refine x_iconst C (nI 0) dX12_matrix_150 rfl ?_
            refine x_iconst C (nI 0) dX12_matrix_151 rfl ?_
            refine x_iconst C (nI 0) dX12_matrix_152 rfl ?_
            have hM := c_X12_setShift_K l Y (x_pm σ a3 su fi be Gt Gs (x_ml l9 f46) f47) (nI 0) (nI 0) (nI 0) (fun r τ => r = none ∧ τ = x_pm σ a3 su fi be Gt Gs (x_ml l9 f46) (x_ml [nI 0, nI 0, nI 0] f47)) (by rintro _ _ ⟨rfl, rfl⟩; exact ⟨rfl, x_pm_47 _ _ _ _ _ _ _ _ _ _⟩)
            refine x_callV C (as := [.int (nI 0), .int (nI 0), .int (nI 0)]) (st := []) (hM) kb_X12_setShift kv_X12_127 dX12_matrix_153 rfl rfl (Nat.le_of_ble_eq_true rfl) ⟨by decide, by decide⟩ ⟨by decide, by decide⟩ ko_38 ?_
            clear hM
            rintro _ _ ⟨rfl, rfl⟩
            refine x_iload_n C (i := 2) dX12_matrix_156 rfl xl2 ?_
            refine x_iconst C (nI 2) dX12_matrix_157 rfl ?_
            have lp171 : ∀ (dg0 : Bool), (dg0 = (decide (2 < n) && decide (an < 3))) → ∀ L : x_Lo, L.1 0 = some (.ref 38) → L.1 1 = some (.int (x_z mi)) → L.1 2 = some (.int (nI n)) → L.1 3 = some (.int (nI an)) → x_W xp l xe (x_rm 3) xs xm xg xb xt xc 9 Y 0 0 (MQ xb (x_Q Y K) xg xs 0 0 (x_A Y)) 171 L [.int (x_z dg0)] (x_pm σ a3 su fi be Gt Gs (x_ml l9 f46) (x_ml [nI 0, nI 0, nI 0] f47)) := by
              intro dg0 hdg0 L xl0 xl1 xl2 xl3
              have hms : x_msf b t a su fi = x_sf b t n an 4 dg0 a3 0 0 0 := by unfold x_msf; rw [← hn, ← hman, ← ha3, ← hdg0]
              refine x_istore C (i := 4) dX12_matrix_171 (by decide) ?_
              refine x_iconst C (nI 0) dX12_matrix_173 rfl ?_
              refine x_istore C (i := 5) dX12_matrix_174 (by decide) ?_
              refine x_iconst C (nI 1) dX12_matrix_176 rfl ?_
              refine x_istore C (i := 6) dX12_matrix_177 (by decide) ?_
              have lp179 : ∀ (m179 : Nat) (k : Nat) (dg : Bool) (mo : Bool) (a5 : Nat) (u : Nat) (v : Nat) (w : Nat), (5 - k) = m179 → (k ≤ 4) → (u < 12) → (v < 12) → (w < 12) → (a5 ≤ t) → (dg = true → 2 < n ∧ an < 3) → ((if mo = true then x_sf b t n an (4 - k) dg a5 u v w else (a5, u, v, w)) = x_sf b t n an 4 dg0 a3 0 0 0) → ∀ L : x_Lo, L.1 0 = some (.ref 38) → L.1 1 = some (.int (x_z mi)) → L.1 2 = some (.int (nI n)) → L.1 3 = some (.int (nI an)) → L.1 4 = some (.int (x_z dg)) → L.1 5 = some (.int (nI k)) → L.1 6 = some (.int (x_z mo)) → x_W xp l xe (x_rm 3) xs xm xg xb xt xc 9 Y 0 0 (MQ xb (x_Q Y K) xg xs 0 0 (x_A Y)) 179 L [] (x_pm σ a5 su fi be Gt Gs (x_ml l9 f46) (x_ml [nI u, nI v, nI w] f47)) := by
                intro m179
                induction m179 using Nat.strongRecOn with
                | _ m179 ih179 =>
                  intro k dg mo a5 u v w hm179 hk4 hu hv hw ha5 hdg hR L xl0 xl1 xl2 xl3 xl4 xl5 xl6
                  refine x_iload C (i := 6) dX12_matrix_179 xl6 ?_
                  have lp305 : (x_msf b t a su fi = (a5, u, v, w)) → ∀ L : x_Lo, L.1 0 = some (.ref 38) → L.1 1 = some (.int (x_z mi)) → L.1 2 = some (.int (nI n)) → L.1 3 = some (.int (nI an)) → x_W xp l xe (x_rm 3) xs xm xg xb xt xc 9 Y 0 0 (MQ xb (x_Q Y K) xg xs 0 0 (x_A Y)) 305 L [] (x_pm σ a5 su fi be Gt Gs (x_ml l9 f46) (x_ml [nI u, nI v, nI w] f47)) := by
                    intro  hE L xl0 xl1 xl2 xl3
                    refine x_aload_n C (i := 0) dX12_matrix_305 rfl xl0 ?_
                    have hM := c_X12_generate_K l Y (x_pm σ a5 su fi be Gt Gs (x_ml l9 f46) (x_ml [nI u, nI v, nI w] f47)) (List.length Gt) rfl (by omega) (fun r τ => r = none ∧ τ = x_pm σ a5 su fi be (Gt ++ [l9]) (Gs ++ [[nI u, nI v, nI w]]) (x_ml l9 f46) (x_ml [nI u, nI v, nI w] f47)) (by rintro _ _ ⟨rfl, rfl⟩; exact ⟨rfl, x_pm_gen σ a5 su fi be Gt Gs l9 [nI u, nI v, nI w] f46 f47 hl9 rfl hG⟩)
                    refine x_callV C (as := []) (st := []) (hM) kb_X12_generate kv_X12_153 dX12_matrix_306 rfl rfl (Nat.le_of_ble_eq_true rfl) ⟨by decide, by decide⟩ ⟨by decide, by decide⟩ ko_38 ?_
                    clear hM
                    rintro _ _ ⟨rfl, rfl⟩
                    refine x_iload_n C (i := 2) dX12_matrix_309 rfl xl2 ?_
                    refine x_iconst C (nI 1) dX12_matrix_310 rfl ?_
                    refine x_icmp_leN C 360 dX12_matrix_311 (by decide) (by omega) (by omega) (fun c311 => ?_) (fun c311 => ?_)
                    · skip
                      have c311' := Nat.not_lt.mpr c311
                      exfalso; omega
                    · skip
                      have c311' := Nat.not_le.mpr c311
                      refine x_aload_n C (i := 0) dX12_matrix_314 rfl xl0 ?_
                      refine x_aload_n C (i := 0) dX12_matrix_315 rfl xl0 ?_
                      refine x_getI C fi_38_15 kf_X12_114 dX12_matrix_316 ?_
                      refine x_topI (y := nI su) rfl ?_
                      refine x_if_neN C 326 dX12_matrix_319 (by decide) (by omega) (fun c319 => ?_) (fun c319 => ?_)
                      · skip
                        refine x_aload_n C (i := 0) dX12_matrix_326 rfl xl0 ?_
                        refine x_getI C fi_38_16 kf_X12_117 dX12_matrix_327 ?_
                        refine x_topI (y := nI fi) rfl ?_
                        refine x_putN C fi_38_16 kf_X12_117 rfl rfl dX12_matrix_330 ?_
                        refine x_sig (σ' := x_pm σ a5 su fi be (Gt ++ [l9]) (Gs ++ [[nI u, nI v, nI w]]) (x_ml l9 f46) (x_ml [nI u, nI v, nI w] f47)) (x_pm_16 _ _ _ _ _ _ _ _ _ _) ?_
                        refine x_aload_n C (i := 0) dX12_matrix_333 rfl xl0 ?_
                        refine x_dup C dX12_matrix_334 rfl ?_
                        refine x_getI C fi_38_15 kf_X12_114 dX12_matrix_335 ?_
                        refine x_topI (y := nI su) rfl ?_
                        refine x_iconst C (nI 1) dX12_matrix_338 rfl ?_
                        refine x_iaddN C dX12_matrix_339 ?_
                        refine x_putN C fi_38_15 kf_X12_114 rfl rfl dX12_matrix_340 ?_
                        refine x_sig (σ' := x_pm σ a5 (su + 1) fi be (Gt ++ [l9]) (Gs ++ [[nI u, nI v, nI w]]) (x_ml l9 f46) (x_ml [nI u, nI v, nI w] f47)) (x_pm_15 _ _ _ _ _ _ _ _ _ _) ?_
                        refine x_aload_n C (i := 0) dX12_matrix_343 rfl xl0 ?_
                        refine x_iload_n C (i := 3) dX12_matrix_344 rfl xl3 ?_
                        refine x_iconst C (nI 3) dX12_matrix_345 rfl ?_
                        refine x_icmp_geN C 353 dX12_matrix_346 (by decide) (by omega) (by omega) (fun c346 => ?_) (fun c346 => ?_)
                        · skip
                          have c346' := Nat.not_lt.mpr c346
                          refine x_aload_n C (i := 0) dX12_matrix_353 rfl xl0 ?_
                          refine x_getI C fi_38_17 kf_X12_124 dX12_matrix_354 ?_
                          refine x_topI (y := nI be) rfl ?_
                          refine x_putN C fi_38_17 kf_X12_124 rfl rfl dX12_matrix_357 ?_
                          refine x_sig (σ' := x_pm σ a5 (su + 1) fi be (Gt ++ [l9]) (Gs ++ [[nI u, nI v, nI w]]) (x_ml l9 f46) (x_ml [nI u, nI v, nI w] f47)) (x_pm_17 _ _ _ _ _ _ _ _ _ _) ?_
                          refine x_iconst C (nI 1) dX12_matrix_360 rfl ?_
                          refine x_zret C xr xk dX12_matrix_361 rfl ?_
                          exact hK _ _ (Or.inl ⟨hok, rfl, by simp only [hE, ← hn, ← hman, ← hlr]; first | rw [if_neg (by omega), if_neg (by omega), if_neg (by omega)] | rw [if_pos (by omega), if_pos (by omega), if_pos (by omega)] | rw [if_pos (by omega), if_pos (by omega), if_neg (by omega)] | rw [if_pos (by omega), if_neg (by omega), if_pos (by omega)] | rw [if_pos (by omega), if_neg (by omega), if_neg (by omega)]⟩)
                        · skip
                          have c346' := Nat.not_le.mpr c346
                          refine x_iload_n C (i := 3) dX12_matrix_349 rfl xl3 ?_
                          refine x_goto C 357 dX12_matrix_350 (by decide) ?_
                          refine x_putN C fi_38_17 kf_X12_124 rfl rfl dX12_matrix_357 ?_
                          refine x_sig (σ' := x_pm σ a5 (su + 1) fi an (Gt ++ [l9]) (Gs ++ [[nI u, nI v, nI w]]) (x_ml l9 f46) (x_ml [nI u, nI v, nI w] f47)) (x_pm_17 _ _ _ _ _ _ _ _ _ _) ?_
                          refine x_iconst C (nI 1) dX12_matrix_360 rfl ?_
                          refine x_zret C xr xk dX12_matrix_361 rfl ?_
                          exact hK _ _ (Or.inl ⟨hok, rfl, by simp only [hE, ← hn, ← hman, ← hlr]; first | rw [if_neg (by omega), if_neg (by omega), if_neg (by omega)] | rw [if_pos (by omega), if_pos (by omega), if_pos (by omega)] | rw [if_pos (by omega), if_pos (by omega), if_neg (by omega)] | rw [if_pos (by omega), if_neg (by omega), if_pos (by omega)] | rw [if_pos (by omega), if_neg (by omega), if_neg (by omega)]⟩)
                      · skip
                        refine x_iload_n C (i := 2) dX12_matrix_322 rfl xl2 ?_
                        refine x_goto C 330 dX12_matrix_323 (by decide) ?_
                        refine x_putN C fi_38_16 kf_X12_117 rfl rfl dX12_matrix_330 ?_
                        refine x_sig (σ' := x_pm σ a5 su n be (Gt ++ [l9]) (Gs ++ [[nI u, nI v, nI w]]) (x_ml l9 f46) (x_ml [nI u, nI v, nI w] f47)) (x_pm_16 _ _ _ _ _ _ _ _ _ _) ?_
                        refine x_aload_n C (i := 0) dX12_matrix_333 rfl xl0 ?_
                        refine x_dup C dX12_matrix_334 rfl ?_
                        refine x_getI C fi_38_15 kf_X12_114 dX12_matrix_335 ?_
                        refine x_topI (y := nI su) rfl ?_
                        refine x_iconst C (nI 1) dX12_matrix_338 rfl ?_
                        refine x_iaddN C dX12_matrix_339 ?_
                        refine x_putN C fi_38_15 kf_X12_114 rfl rfl dX12_matrix_340 ?_
                        refine x_sig (σ' := x_pm σ a5 (su + 1) n be (Gt ++ [l9]) (Gs ++ [[nI u, nI v, nI w]]) (x_ml l9 f46) (x_ml [nI u, nI v, nI w] f47)) (x_pm_15 _ _ _ _ _ _ _ _ _ _) ?_
                        refine x_aload_n C (i := 0) dX12_matrix_343 rfl xl0 ?_
                        refine x_iload_n C (i := 3) dX12_matrix_344 rfl xl3 ?_
                        refine x_iconst C (nI 3) dX12_matrix_345 rfl ?_
                        refine x_icmp_geN C 353 dX12_matrix_346 (by decide) (by omega) (by omega) (fun c346 => ?_) (fun c346 => ?_)
                        · skip
                          have c346' := Nat.not_lt.mpr c346
                          refine x_aload_n C (i := 0) dX12_matrix_353 rfl xl0 ?_
                          refine x_getI C fi_38_17 kf_X12_124 dX12_matrix_354 ?_
                          refine x_topI (y := nI be) rfl ?_
                          refine x_putN C fi_38_17 kf_X12_124 rfl rfl dX12_matrix_357 ?_
                          refine x_sig (σ' := x_pm σ a5 (su + 1) n be (Gt ++ [l9]) (Gs ++ [[nI u, nI v, nI w]]) (x_ml l9 f46) (x_ml [nI u, nI v, nI w] f47)) (x_pm_17 _ _ _ _ _ _ _ _ _ _) ?_
                          refine x_iconst C (nI 1) dX12_matrix_360 rfl ?_
                          refine x_zret C xr xk dX12_matrix_361 rfl ?_
                          exact hK _ _ (Or.inl ⟨hok, rfl, by simp only [hE, ← hn, ← hman, ← hlr]; first | rw [if_neg (by omega), if_neg (by omega), if_neg (by omega)] | rw [if_pos (by omega), if_pos (by omega), if_pos (by omega)] | rw [if_pos (by omega), if_pos (by omega), if_neg (by omega)] | rw [if_pos (by omega), if_neg (by omega), if_pos (by omega)] | rw [if_pos (by omega), if_neg (by omega), if_neg (by omega)]⟩)
                        · skip
                          have c346' := Nat.not_le.mpr c346
                          refine x_iload_n C (i := 3) dX12_matrix_349 rfl xl3 ?_
                          refine x_goto C 357 dX12_matrix_350 (by decide) ?_
                          refine x_putN C fi_38_17 kf_X12_124 rfl rfl dX12_matrix_357 ?_
                          refine x_sig (σ' := x_pm σ a5 (su + 1) n an (Gt ++ [l9]) (Gs ++ [[nI u, nI v, nI w]]) (x_ml l9 f46) (x_ml [nI u, nI v, nI w] f47)) (x_pm_17 _ _ _ _ _ _ _ _ _ _) ?_
                          refine x_iconst C (nI 1) dX12_matrix_360 rfl ?_
                          refine x_zret C xr xk dX12_matrix_361 rfl ?_
                          exact hK _ _ (Or.inl ⟨hok, rfl, by simp only [hE, ← hn, ← hman, ← hlr]; first | rw [if_neg (by omega), if_neg (by omega), if_neg (by omega)] | rw [if_pos (by omega), if_pos (by omega), if_pos (by omega)] | rw [if_pos (by omega), if_pos (by omega), if_neg (by omega)] | rw [if_pos (by omega), if_neg (by omega), if_pos (by omega)] | rw [if_pos (by omega), if_neg (by omega), if_neg (by omega)]⟩)
                  refine x_if_eqZ C 305 dX12_matrix_181 (by decide) (fun c181 => ?_) (fun c181 => ?_)
                  · skip
                    exact lp305 (by rw [hms, ← hR, c181]; rfl) _ xl0 xl1 xl2 xl3
                  · skip
                    subst c181
                    refine x_iload C (i := 5) dX12_matrix_184 xl5 ?_
                    refine x_iconst C (nI 4) dX12_matrix_186 rfl ?_
                    refine x_icmp_geN C 305 dX12_matrix_187 (by decide) (by omega) (by omega) (fun c187 => ?_) (fun c187 => ?_)
                    · skip
                      have c187' := Nat.not_lt.mpr c187
                      exact lp305 (by rw [hms, ← hR, if_pos rfl, show 4 - k = 0 by omega]; rfl) _ xl0 xl1 xl2 xl3
                    · skip
                      have c187' := Nat.not_le.mpr c187
                      refine x_aload_n C (i := 0) dX12_matrix_190 rfl xl0 ?_
                      have hM := c_X12_look l Y (x_pm σ a5 su fi be Gt Gs (x_ml l9 f46) (x_ml [nI u, nI v, nI w] f47)) b t a5 hb ht rfl ht8 (by omega)
                      refine x_callV C (as := []) (st := []) (hM) kb_X12_look kv_X12_110 dX12_matrix_191 rfl rfl (Nat.le_of_ble_eq_true rfl) ⟨by decide, by decide⟩ ⟨by decide, by decide⟩ ko_38 ?_
                      clear hM
                      intro r9 τ9 h9
                      obtain ⟨rfl, h8⟩ := h9
                      rw [h8]
                      clear h8 τ9
                      refine x_istore C (i := 7) dX12_matrix_194 (by decide) ?_
                      refine x_iload C (i := 4) dX12_matrix_196 xl4 ?_
                      refine x_if_eqZ C 271 dX12_matrix_198 (by decide) (fun c198 => ?_) (fun c198 => ?_)
                      · skip
                        refine x_aload_n C (i := 0) dX12_matrix_271 rfl xl0 ?_
                        have hM := c_X12_takesShift_K l Y (x_pm σ a5 su fi be Gt Gs (x_ml l9 f46) (x_ml [nI u, nI v, nI w] f47)) b t a5 hb ht rfl ht8 (by omega) u v w f47 rfl hu hv hw (fun r τ => r = some (.int (x_z ((x_l3 (x_lookv b t a5)).2.2.2))) ∧ τ = x_pm σ a5 su fi be Gt Gs (x_ml l9 f46) (x_ml [nI ((u + (x_l3 (x_lookv b t a5)).1) % 12), nI ((v + (x_l3 (x_lookv b t a5)).2.1) % 12), nI ((w + (x_l3 (x_lookv b t a5)).2.2.1) % 12)] f47)) (by rintro _ _ ⟨rfl, rfl⟩; exact ⟨rfl, x_pm_47 _ _ _ _ _ _ _ _ _ _⟩)
                        refine x_callV C (as := []) (st := []) (hM) kb_X12_takesShift kv_X12_149 dX12_matrix_272 rfl rfl (Nat.le_of_ble_eq_true rfl) ⟨by decide, by decide⟩ ⟨by decide, by decide⟩ ko_38 ?_
                        clear hM
                        rintro _ _ ⟨rfl, rfl⟩
                        refine x_istore C (i := 6) dX12_matrix_275 (by decide) ?_
                        refine x_aload_n C (i := 0) dX12_matrix_277 rfl xl0 ?_
                        refine x_iload C (i := 6) dX12_matrix_278 rfl ?_
                        refine x_if_eqZ C 292 dX12_matrix_280 (by decide) (fun c280 => ?_) (fun c280 => ?_)
                        · skip
                          refine x_aload_n C (i := 0) dX12_matrix_292 rfl xl0 ?_
                          refine x_getI C fi_38_3 kf_X12_100 dX12_matrix_293 ?_
                          refine x_topI (y := nI a5) rfl ?_
                          refine x_putN C fi_38_3 kf_X12_100 rfl rfl dX12_matrix_296 ?_
                          refine x_sig (σ' := x_pm σ a5 su fi be Gt Gs (x_ml l9 f46) (x_ml [nI ((u + (x_l3 (x_lookv b t a5)).1) % 12), nI ((v + (x_l3 (x_lookv b t a5)).2.1) % 12), nI ((w + (x_l3 (x_lookv b t a5)).2.2.1) % 12)] f47)) (x_pm_3 _ _ _ _ _ _ _ _ _ _) ?_
                          refine x_iincN C (i := 5) (b := 1) dX12_matrix_299 xl5 rfl (by decide) ?_
                          refine x_goto C 179 dX12_matrix_302 (by decide) ?_
                          exact ih179 _ (by omega) (k + 1) dg ((x_l3 (x_lookv b t a5)).2.2.2) a5 ((u + (x_l3 (x_lookv b t a5)).1) % 12) ((v + (x_l3 (x_lookv b t a5)).2.1) % 12) ((w + (x_l3 (x_lookv b t a5)).2.2.1) % 12) rfl (by omega) (Nat.mod_lt _ (by decide)) (Nat.mod_lt _ (by decide)) (Nat.mod_lt _ (by decide)) ha5 hdg (by rw [if_pos rfl] at hR; rw [if_neg (by rw [c280]; decide), ← hR, x_sf_end (by omega) (by intro z; first | (rw [c198] at z; exact absurd z.1 (by decide)) | exact c205' z.2.1 | exact c214' z.2.2) c280 hu hv hw]) _ xl0 xl1 xl2 xl3 xl4 rfl rfl
                        · skip
                          refine x_aload_n C (i := 0) dX12_matrix_283 rfl xl0 ?_
                          refine x_getI C fi_38_3 kf_X12_100 dX12_matrix_284 ?_
                          refine x_topI (y := nI a5) rfl ?_
                          refine x_iconst C (nI 1) dX12_matrix_287 rfl ?_
                          refine x_iaddN C dX12_matrix_288 ?_
                          refine x_goto C 296 dX12_matrix_289 (by decide) ?_
                          refine x_putN C fi_38_3 kf_X12_100 rfl rfl dX12_matrix_296 ?_
                          refine x_sig (σ' := x_pm σ (a5 + 1) su fi be Gt Gs (x_ml l9 f46) (x_ml [nI ((u + (x_l3 (x_lookv b t a5)).1) % 12), nI ((v + (x_l3 (x_lookv b t a5)).2.1) % 12), nI ((w + (x_l3 (x_lookv b t a5)).2.2.1) % 12)] f47)) (x_pm_3 _ _ _ _ _ _ _ _ _ _) ?_
                          refine x_iincN C (i := 5) (b := 1) dX12_matrix_299 xl5 rfl (by decide) ?_
                          refine x_goto C 179 dX12_matrix_302 (by decide) ?_
                          exact ih179 _ (by omega) (k + 1) dg ((x_l3 (x_lookv b t a5)).2.2.2) (a5 + 1) ((u + (x_l3 (x_lookv b t a5)).1) % 12) ((v + (x_l3 (x_lookv b t a5)).2.1) % 12) ((w + (x_l3 (x_lookv b t a5)).2.2.1) % 12) rfl (by omega) (Nat.mod_lt _ (by decide)) (Nat.mod_lt _ (by decide)) (Nat.mod_lt _ (by decide)) (x_l3_lt c280) hdg (by rw [if_pos rfl] at hR; rw [if_pos c280, ← hR, x_sf_let (by omega) (by intro z; first | (rw [c198] at z; exact absurd z.1 (by decide)) | exact c205' z.2.1 | exact c214' z.2.2) c280]) _ xl0 xl1 xl2 xl3 xl4 rfl rfl
                      · skip
                        refine x_iload C (i := 7) dX12_matrix_201 rfl ?_
                        refine x_bipush C (nI 49) dX12_matrix_203 rfl ?_
                        refine x_jcmp_lt C 271 dX12_matrix_205 (by decide) (fun c205 => ?_) (fun c205 => ?_)
                        · skip
                          have c205' := Int32.not_le.mpr c205
                          refine x_aload_n C (i := 0) dX12_matrix_271 rfl xl0 ?_
                          have hM := c_X12_takesShift_K l Y (x_pm σ a5 su fi be Gt Gs (x_ml l9 f46) (x_ml [nI u, nI v, nI w] f47)) b t a5 hb ht rfl ht8 (by omega) u v w f47 rfl hu hv hw (fun r τ => r = some (.int (x_z ((x_l3 (x_lookv b t a5)).2.2.2))) ∧ τ = x_pm σ a5 su fi be Gt Gs (x_ml l9 f46) (x_ml [nI ((u + (x_l3 (x_lookv b t a5)).1) % 12), nI ((v + (x_l3 (x_lookv b t a5)).2.1) % 12), nI ((w + (x_l3 (x_lookv b t a5)).2.2.1) % 12)] f47)) (by rintro _ _ ⟨rfl, rfl⟩; exact ⟨rfl, x_pm_47 _ _ _ _ _ _ _ _ _ _⟩)
                          refine x_callV C (as := []) (st := []) (hM) kb_X12_takesShift kv_X12_149 dX12_matrix_272 rfl rfl (Nat.le_of_ble_eq_true rfl) ⟨by decide, by decide⟩ ⟨by decide, by decide⟩ ko_38 ?_
                          clear hM
                          rintro _ _ ⟨rfl, rfl⟩
                          refine x_istore C (i := 6) dX12_matrix_275 (by decide) ?_
                          refine x_aload_n C (i := 0) dX12_matrix_277 rfl xl0 ?_
                          refine x_iload C (i := 6) dX12_matrix_278 rfl ?_
                          refine x_if_eqZ C 292 dX12_matrix_280 (by decide) (fun c280 => ?_) (fun c280 => ?_)
                          · skip
                            refine x_aload_n C (i := 0) dX12_matrix_292 rfl xl0 ?_
                            refine x_getI C fi_38_3 kf_X12_100 dX12_matrix_293 ?_
                            refine x_topI (y := nI a5) rfl ?_
                            refine x_putN C fi_38_3 kf_X12_100 rfl rfl dX12_matrix_296 ?_
                            refine x_sig (σ' := x_pm σ a5 su fi be Gt Gs (x_ml l9 f46) (x_ml [nI ((u + (x_l3 (x_lookv b t a5)).1) % 12), nI ((v + (x_l3 (x_lookv b t a5)).2.1) % 12), nI ((w + (x_l3 (x_lookv b t a5)).2.2.1) % 12)] f47)) (x_pm_3 _ _ _ _ _ _ _ _ _ _) ?_
                            refine x_iincN C (i := 5) (b := 1) dX12_matrix_299 xl5 rfl (by decide) ?_
                            refine x_goto C 179 dX12_matrix_302 (by decide) ?_
                            exact ih179 _ (by omega) (k + 1) dg ((x_l3 (x_lookv b t a5)).2.2.2) a5 ((u + (x_l3 (x_lookv b t a5)).1) % 12) ((v + (x_l3 (x_lookv b t a5)).2.1) % 12) ((w + (x_l3 (x_lookv b t a5)).2.2.1) % 12) rfl (by omega) (Nat.mod_lt _ (by decide)) (Nat.mod_lt _ (by decide)) (Nat.mod_lt _ (by decide)) ha5 hdg (by rw [if_pos rfl] at hR; rw [if_neg (by rw [c280]; decide), ← hR, x_sf_end (by omega) (by intro z; first | (rw [c198] at z; exact absurd z.1 (by decide)) | exact c205' z.2.1 | exact c214' z.2.2) c280 hu hv hw]) _ xl0 xl1 xl2 xl3 xl4 rfl rfl
                          · skip
                            refine x_aload_n C (i := 0) dX12_matrix_283 rfl xl0 ?_
                            refine x_getI C fi_38_3 kf_X12_100 dX12_matrix_284 ?_
                            refine x_topI (y := nI a5) rfl ?_
                            refine x_iconst C (nI 1) dX12_matrix_287 rfl ?_
                            refine x_iaddN C dX12_matrix_288 ?_
                            refine x_goto C 296 dX12_matrix_289 (by decide) ?_
                            refine x_putN C fi_38_3 kf_X12_100 rfl rfl dX12_matrix_296 ?_
                            refine x_sig (σ' := x_pm σ (a5 + 1) su fi be Gt Gs (x_ml l9 f46) (x_ml [nI ((u + (x_l3 (x_lookv b t a5)).1) % 12), nI ((v + (x_l3 (x_lookv b t a5)).2.1) % 12), nI ((w + (x_l3 (x_lookv b t a5)).2.2.1) % 12)] f47)) (x_pm_3 _ _ _ _ _ _ _ _ _ _) ?_
                            refine x_iincN C (i := 5) (b := 1) dX12_matrix_299 xl5 rfl (by decide) ?_
                            refine x_goto C 179 dX12_matrix_302 (by decide) ?_
                            exact ih179 _ (by omega) (k + 1) dg ((x_l3 (x_lookv b t a5)).2.2.2) (a5 + 1) ((u + (x_l3 (x_lookv b t a5)).1) % 12) ((v + (x_l3 (x_lookv b t a5)).2.1) % 12) ((w + (x_l3 (x_lookv b t a5)).2.2.1) % 12) rfl (by omega) (Nat.mod_lt _ (by decide)) (Nat.mod_lt _ (by decide)) (Nat.mod_lt _ (by decide)) (x_l3_lt c280) hdg (by rw [if_pos rfl] at hR; rw [if_pos c280, ← hR, x_sf_let (by omega) (by intro z; first | (rw [c198] at z; exact absurd z.1 (by decide)) | exact c205' z.2.1 | exact c214' z.2.2) c280]) _ xl0 xl1 xl2 xl3 xl4 rfl rfl
                        · skip
                          have c205' := Int32.not_lt.mpr c205
                          refine x_iload C (i := 7) dX12_matrix_208 rfl ?_
                          refine x_bipush C (nI 48) dX12_matrix_210 rfl ?_
                          refine x_iload_n C (i := 2) dX12_matrix_212 rfl xl2 ?_
                          refine x_iaddN C dX12_matrix_213 ?_
                          refine x_jcmp_ge C 271 dX12_matrix_214 (by decide) (fun c214 => ?_) (fun c214 => ?_)
                          · skip
                            have c214' := Int32.not_lt.mpr c214
                            refine x_aload_n C (i := 0) dX12_matrix_271 rfl xl0 ?_
                            have hM := c_X12_takesShift_K l Y (x_pm σ a5 su fi be Gt Gs (x_ml l9 f46) (x_ml [nI u, nI v, nI w] f47)) b t a5 hb ht rfl ht8 (by omega) u v w f47 rfl hu hv hw (fun r τ => r = some (.int (x_z ((x_l3 (x_lookv b t a5)).2.2.2))) ∧ τ = x_pm σ a5 su fi be Gt Gs (x_ml l9 f46) (x_ml [nI ((u + (x_l3 (x_lookv b t a5)).1) % 12), nI ((v + (x_l3 (x_lookv b t a5)).2.1) % 12), nI ((w + (x_l3 (x_lookv b t a5)).2.2.1) % 12)] f47)) (by rintro _ _ ⟨rfl, rfl⟩; exact ⟨rfl, x_pm_47 _ _ _ _ _ _ _ _ _ _⟩)
                            refine x_callV C (as := []) (st := []) (hM) kb_X12_takesShift kv_X12_149 dX12_matrix_272 rfl rfl (Nat.le_of_ble_eq_true rfl) ⟨by decide, by decide⟩ ⟨by decide, by decide⟩ ko_38 ?_
                            clear hM
                            rintro _ _ ⟨rfl, rfl⟩
                            refine x_istore C (i := 6) dX12_matrix_275 (by decide) ?_
                            refine x_aload_n C (i := 0) dX12_matrix_277 rfl xl0 ?_
                            refine x_iload C (i := 6) dX12_matrix_278 rfl ?_
                            refine x_if_eqZ C 292 dX12_matrix_280 (by decide) (fun c280 => ?_) (fun c280 => ?_)
                            · skip
                              refine x_aload_n C (i := 0) dX12_matrix_292 rfl xl0 ?_
                              refine x_getI C fi_38_3 kf_X12_100 dX12_matrix_293 ?_
                              refine x_topI (y := nI a5) rfl ?_
                              refine x_putN C fi_38_3 kf_X12_100 rfl rfl dX12_matrix_296 ?_
                              refine x_sig (σ' := x_pm σ a5 su fi be Gt Gs (x_ml l9 f46) (x_ml [nI ((u + (x_l3 (x_lookv b t a5)).1) % 12), nI ((v + (x_l3 (x_lookv b t a5)).2.1) % 12), nI ((w + (x_l3 (x_lookv b t a5)).2.2.1) % 12)] f47)) (x_pm_3 _ _ _ _ _ _ _ _ _ _) ?_
                              refine x_iincN C (i := 5) (b := 1) dX12_matrix_299 xl5 rfl (by decide) ?_
                              refine x_goto C 179 dX12_matrix_302 (by decide) ?_
                              exact ih179 _ (by omega) (k + 1) dg ((x_l3 (x_lookv b t a5)).2.2.2) a5 ((u + (x_l3 (x_lookv b t a5)).1) % 12) ((v + (x_l3 (x_lookv b t a5)).2.1) % 12) ((w + (x_l3 (x_lookv b t a5)).2.2.1) % 12) rfl (by omega) (Nat.mod_lt _ (by decide)) (Nat.mod_lt _ (by decide)) (Nat.mod_lt _ (by decide)) ha5 hdg (by rw [if_pos rfl] at hR; rw [if_neg (by rw [c280]; decide), ← hR, x_sf_end (by omega) (by intro z; first | (rw [c198] at z; exact absurd z.1 (by decide)) | exact c205' z.2.1 | exact c214' z.2.2) c280 hu hv hw]) _ xl0 xl1 xl2 xl3 xl4 rfl rfl
                            · skip
                              refine x_aload_n C (i := 0) dX12_matrix_283 rfl xl0 ?_
                              refine x_getI C fi_38_3 kf_X12_100 dX12_matrix_284 ?_
                              refine x_topI (y := nI a5) rfl ?_
                              refine x_iconst C (nI 1) dX12_matrix_287 rfl ?_
                              refine x_iaddN C dX12_matrix_288 ?_
                              refine x_goto C 296 dX12_matrix_289 (by decide) ?_
                              refine x_putN C fi_38_3 kf_X12_100 rfl rfl dX12_matrix_296 ?_
                              refine x_sig (σ' := x_pm σ (a5 + 1) su fi be Gt Gs (x_ml l9 f46) (x_ml [nI ((u + (x_l3 (x_lookv b t a5)).1) % 12), nI ((v + (x_l3 (x_lookv b t a5)).2.1) % 12), nI ((w + (x_l3 (x_lookv b t a5)).2.2.1) % 12)] f47)) (x_pm_3 _ _ _ _ _ _ _ _ _ _) ?_
                              refine x_iincN C (i := 5) (b := 1) dX12_matrix_299 xl5 rfl (by decide) ?_
                              refine x_goto C 179 dX12_matrix_302 (by decide) ?_
                              exact ih179 _ (by omega) (k + 1) dg ((x_l3 (x_lookv b t a5)).2.2.2) (a5 + 1) ((u + (x_l3 (x_lookv b t a5)).1) % 12) ((v + (x_l3 (x_lookv b t a5)).2.1) % 12) ((w + (x_l3 (x_lookv b t a5)).2.2.1) % 12) rfl (by omega) (Nat.mod_lt _ (by decide)) (Nat.mod_lt _ (by decide)) (Nat.mod_lt _ (by decide)) (x_l3_lt c280) hdg (by rw [if_pos rfl] at hR; rw [if_pos c280, ← hR, x_sf_let (by omega) (by intro z; first | (rw [c198] at z; exact absurd z.1 (by decide)) | exact c205' z.2.1 | exact c214' z.2.2) c280]) _ xl0 xl1 xl2 xl3 xl4 rfl rfl
                          · skip
                            have c214' := Int32.not_le.mpr c214
                            obtain ⟨dgt, hd1, hd2, hcv⟩ := x_digit c205 c214 (by omega)
                            refine x_iload C (i := 7) dX12_matrix_217 rfl ?_
                            refine x_topI (y := nI (48 + dgt)) hcv ?_
                            refine x_bipush C (nI 48) dX12_matrix_219 rfl ?_
                            refine x_isubN C dX12_matrix_221 (by omega) ?_
                            refine x_bipush C (nI 12) dX12_matrix_222 rfl ?_
                            refine x_imulN C dX12_matrix_224 ?_
                            refine x_iload_n C (i := 2) dX12_matrix_225 rfl xl2 ?_
                            refine x_idivN C dX12_matrix_226 (by omega) (by omega) (by omega) ?_
                            refine x_topI (y := nI (dgt * 12 / n)) (by rw [Nat.add_sub_cancel_left]) ?_
                            refine x_istore C (i := 8) dX12_matrix_227 (by decide) ?_
                            refine x_aload_n C (i := 0) dX12_matrix_229 rfl xl0 ?_
                            refine x_iload_n C (i := 3) dX12_matrix_230 rfl xl3 ?_
                            refine x_if_neN C 239 dX12_matrix_231 (by decide) (by omega) (fun c231 => ?_) (fun c231 => ?_)
                            · skip
                              refine x_iconst C (nI 0) dX12_matrix_239 rfl ?_
                              refine x_iload_n C (i := 3) dX12_matrix_240 rfl xl3 ?_
                              refine x_iconst C (nI 1) dX12_matrix_241 rfl ?_
                              refine x_icmp_neN C 250 dX12_matrix_242 (by decide) (by omega) (by omega) (fun c242 => ?_) (fun c242 => ?_)
                              · skip
                                refine x_iconst C (nI 0) dX12_matrix_250 rfl ?_
                                refine x_iload_n C (i := 3) dX12_matrix_251 rfl xl3 ?_
                                refine x_iconst C (nI 2) dX12_matrix_252 rfl ?_
                                refine x_icmp_neN C 261 dX12_matrix_253 (by decide) (by omega) (by omega) (fun c253 => ?_) (fun c253 => ?_)
                                · skip
                                  refine x_iconst C (nI 0) dX12_matrix_261 rfl ?_
                                  have hM := c_X12_addShift_K l Y (x_pm σ a5 su fi be Gt Gs (x_ml l9 f46) (x_ml [nI u, nI v, nI w] f47)) 0 0 0 u v w f47 rfl hu hv hw (by first | exact x_dig_lt hd2 | omega) (by first | exact x_dig_lt hd2 | omega) (by first | exact x_dig_lt hd2 | omega) (fun r τ => r = none ∧ τ = x_pm σ a5 su fi be Gt Gs (x_ml l9 f46) (x_ml [nI ((u + 0) % 12), nI ((v + 0) % 12), nI ((w + 0) % 12)] f47)) (by rintro _ _ ⟨rfl, rfl⟩; exact ⟨rfl, x_pm_47 _ _ _ _ _ _ _ _ _ _⟩)
                                  refine x_callV C (as := [.int (nI 0), .int (nI 0), .int (nI 0)]) (st := []) (hM) kb_X12_addShift kv_X12_131 dX12_matrix_262 rfl rfl (Nat.le_of_ble_eq_true rfl) ⟨by decide, by decide⟩ ⟨by decide, by decide⟩ ko_38 ?_
                                  clear hM
                                  rintro _ _ ⟨rfl, rfl⟩
                                  refine x_iconst C (nI 0) dX12_matrix_265 rfl ?_
                                  refine x_istore C (i := 4) dX12_matrix_266 (by decide) ?_
                                  refine x_goto C 277 dX12_matrix_268 (by decide) ?_
                                  refine x_aload_n C (i := 0) dX12_matrix_277 rfl xl0 ?_
                                  refine x_iload C (i := 6) dX12_matrix_278 xl6 ?_
                                  refine x_if_eqZ C 292 dX12_matrix_280 (by decide) (fun c280 => absurd c280 (by decide)) (fun c280 => ?_)
                                  refine x_aload_n C (i := 0) dX12_matrix_283 rfl xl0 ?_
                                  refine x_getI C fi_38_3 kf_X12_100 dX12_matrix_284 ?_
                                  refine x_topI (y := nI a5) rfl ?_
                                  refine x_iconst C (nI 1) dX12_matrix_287 rfl ?_
                                  refine x_iaddN C dX12_matrix_288 ?_
                                  refine x_goto C 296 dX12_matrix_289 (by decide) ?_
                                  refine x_putN C fi_38_3 kf_X12_100 rfl rfl dX12_matrix_296 ?_
                                  refine x_sig (σ' := x_pm σ (a5 + 1) su fi be Gt Gs (x_ml l9 f46) (x_ml [nI ((u + 0) % 12), nI ((v + 0) % 12), nI ((w + 0) % 12)] f47)) (x_pm_3 _ _ _ _ _ _ _ _ _ _) ?_
                                  refine x_iincN C (i := 5) (b := 1) dX12_matrix_299 xl5 rfl (by decide) ?_
                                  refine x_goto C 179 dX12_matrix_302 (by decide) ?_
                                  exact ih179 _ (by omega) (k + 1) false true (a5 + 1) ((u + 0) % 12) ((v + 0) % 12) ((w + 0) % 12) rfl (by omega) (Nat.mod_lt _ (by decide)) (Nat.mod_lt _ (by decide)) (Nat.mod_lt _ (by decide)) (x_lookv_lt hcv (by omega)) (fun z => absurd z (by decide)) (by rw [if_pos rfl] at hR; rw [if_pos rfl, ← hR, x_sf_dig (by omega) c198 c205 c214 hcv hd2 (by omega)]; (first | rw [if_pos c231] | rw [if_neg c231]); (first | rw [if_pos c242] | rw [if_neg c242]); (first | rw [if_pos c253] | rw [if_neg c253])) _ xl0 xl1 xl2 xl3 rfl rfl xl6
                                · skip
                                  refine x_iload C (i := 8) dX12_matrix_256 rfl ?_
                                  refine x_goto C 262 dX12_matrix_258 (by decide) ?_
                                  have hM := c_X12_addShift_K l Y (x_pm σ a5 su fi be Gt Gs (x_ml l9 f46) (x_ml [nI u, nI v, nI w] f47)) 0 0 (dgt * 12 / n) u v w f47 rfl hu hv hw (by first | exact x_dig_lt hd2 | omega) (by first | exact x_dig_lt hd2 | omega) (by first | exact x_dig_lt hd2 | omega) (fun r τ => r = none ∧ τ = x_pm σ a5 su fi be Gt Gs (x_ml l9 f46) (x_ml [nI ((u + 0) % 12), nI ((v + 0) % 12), nI ((w + dgt * 12 / n) % 12)] f47)) (by rintro _ _ ⟨rfl, rfl⟩; exact ⟨rfl, x_pm_47 _ _ _ _ _ _ _ _ _ _⟩)
                                  refine x_callV C (as := [.int (nI 0), .int (nI 0), .int (nI (dgt * 12 / n))]) (st := []) (hM) kb_X12_addShift kv_X12_131 dX12_matrix_262 rfl rfl (Nat.le_of_ble_eq_true rfl) ⟨by decide, by decide⟩ ⟨by decide, by decide⟩ ko_38 ?_
                                  clear hM
                                  rintro _ _ ⟨rfl, rfl⟩
                                  refine x_iconst C (nI 0) dX12_matrix_265 rfl ?_
                                  refine x_istore C (i := 4) dX12_matrix_266 (by decide) ?_
                                  refine x_goto C 277 dX12_matrix_268 (by decide) ?_
                                  refine x_aload_n C (i := 0) dX12_matrix_277 rfl xl0 ?_
                                  refine x_iload C (i := 6) dX12_matrix_278 xl6 ?_
                                  refine x_if_eqZ C 292 dX12_matrix_280 (by decide) (fun c280 => absurd c280 (by decide)) (fun c280 => ?_)
                                  refine x_aload_n C (i := 0) dX12_matrix_283 rfl xl0 ?_
                                  refine x_getI C fi_38_3 kf_X12_100 dX12_matrix_284 ?_
                                  refine x_topI (y := nI a5) rfl ?_
                                  refine x_iconst C (nI 1) dX12_matrix_287 rfl ?_
                                  refine x_iaddN C dX12_matrix_288 ?_
                                  refine x_goto C 296 dX12_matrix_289 (by decide) ?_
                                  refine x_putN C fi_38_3 kf_X12_100 rfl rfl dX12_matrix_296 ?_
                                  refine x_sig (σ' := x_pm σ (a5 + 1) su fi be Gt Gs (x_ml l9 f46) (x_ml [nI ((u + 0) % 12), nI ((v + 0) % 12), nI ((w + dgt * 12 / n) % 12)] f47)) (x_pm_3 _ _ _ _ _ _ _ _ _ _) ?_
                                  refine x_iincN C (i := 5) (b := 1) dX12_matrix_299 xl5 rfl (by decide) ?_
                                  refine x_goto C 179 dX12_matrix_302 (by decide) ?_
                                  exact ih179 _ (by omega) (k + 1) false true (a5 + 1) ((u + 0) % 12) ((v + 0) % 12) ((w + dgt * 12 / n) % 12) rfl (by omega) (Nat.mod_lt _ (by decide)) (Nat.mod_lt _ (by decide)) (Nat.mod_lt _ (by decide)) (x_lookv_lt hcv (by omega)) (fun z => absurd z (by decide)) (by rw [if_pos rfl] at hR; rw [if_pos rfl, ← hR, x_sf_dig (by omega) c198 c205 c214 hcv hd2 (by omega)]; (first | rw [if_pos c231] | rw [if_neg c231]); (first | rw [if_pos c242] | rw [if_neg c242]); (first | rw [if_pos c253] | rw [if_neg c253])) _ xl0 xl1 xl2 xl3 rfl rfl xl6
                              · skip
                                refine x_iload C (i := 8) dX12_matrix_245 rfl ?_
                                refine x_goto C 251 dX12_matrix_247 (by decide) ?_
                                refine x_iload_n C (i := 3) dX12_matrix_251 rfl xl3 ?_
                                refine x_iconst C (nI 2) dX12_matrix_252 rfl ?_
                                refine x_icmp_neN C 261 dX12_matrix_253 (by decide) (by omega) (by omega) (fun c253 => ?_) (fun c253 => ?_)
                                · skip
                                  refine x_iconst C (nI 0) dX12_matrix_261 rfl ?_
                                  have hM := c_X12_addShift_K l Y (x_pm σ a5 su fi be Gt Gs (x_ml l9 f46) (x_ml [nI u, nI v, nI w] f47)) 0 (dgt * 12 / n) 0 u v w f47 rfl hu hv hw (by first | exact x_dig_lt hd2 | omega) (by first | exact x_dig_lt hd2 | omega) (by first | exact x_dig_lt hd2 | omega) (fun r τ => r = none ∧ τ = x_pm σ a5 su fi be Gt Gs (x_ml l9 f46) (x_ml [nI ((u + 0) % 12), nI ((v + dgt * 12 / n) % 12), nI ((w + 0) % 12)] f47)) (by rintro _ _ ⟨rfl, rfl⟩; exact ⟨rfl, x_pm_47 _ _ _ _ _ _ _ _ _ _⟩)
                                  refine x_callV C (as := [.int (nI 0), .int (nI (dgt * 12 / n)), .int (nI 0)]) (st := []) (hM) kb_X12_addShift kv_X12_131 dX12_matrix_262 rfl rfl (Nat.le_of_ble_eq_true rfl) ⟨by decide, by decide⟩ ⟨by decide, by decide⟩ ko_38 ?_
                                  clear hM
                                  rintro _ _ ⟨rfl, rfl⟩
                                  refine x_iconst C (nI 0) dX12_matrix_265 rfl ?_
                                  refine x_istore C (i := 4) dX12_matrix_266 (by decide) ?_
                                  refine x_goto C 277 dX12_matrix_268 (by decide) ?_
                                  refine x_aload_n C (i := 0) dX12_matrix_277 rfl xl0 ?_
                                  refine x_iload C (i := 6) dX12_matrix_278 xl6 ?_
                                  refine x_if_eqZ C 292 dX12_matrix_280 (by decide) (fun c280 => absurd c280 (by decide)) (fun c280 => ?_)
                                  refine x_aload_n C (i := 0) dX12_matrix_283 rfl xl0 ?_
                                  refine x_getI C fi_38_3 kf_X12_100 dX12_matrix_284 ?_
                                  refine x_topI (y := nI a5) rfl ?_
                                  refine x_iconst C (nI 1) dX12_matrix_287 rfl ?_
                                  refine x_iaddN C dX12_matrix_288 ?_
                                  refine x_goto C 296 dX12_matrix_289 (by decide) ?_
                                  refine x_putN C fi_38_3 kf_X12_100 rfl rfl dX12_matrix_296 ?_
                                  refine x_sig (σ' := x_pm σ (a5 + 1) su fi be Gt Gs (x_ml l9 f46) (x_ml [nI ((u + 0) % 12), nI ((v + dgt * 12 / n) % 12), nI ((w + 0) % 12)] f47)) (x_pm_3 _ _ _ _ _ _ _ _ _ _) ?_
                                  refine x_iincN C (i := 5) (b := 1) dX12_matrix_299 xl5 rfl (by decide) ?_
                                  refine x_goto C 179 dX12_matrix_302 (by decide) ?_
                                  exact ih179 _ (by omega) (k + 1) false true (a5 + 1) ((u + 0) % 12) ((v + dgt * 12 / n) % 12) ((w + 0) % 12) rfl (by omega) (Nat.mod_lt _ (by decide)) (Nat.mod_lt _ (by decide)) (Nat.mod_lt _ (by decide)) (x_lookv_lt hcv (by omega)) (fun z => absurd z (by decide)) (by rw [if_pos rfl] at hR; rw [if_pos rfl, ← hR, x_sf_dig (by omega) c198 c205 c214 hcv hd2 (by omega)]; (first | rw [if_pos c231] | rw [if_neg c231]); (first | rw [if_pos c242] | rw [if_neg c242]); (first | rw [if_pos c253] | rw [if_neg c253])) _ xl0 xl1 xl2 xl3 rfl rfl xl6
                                · skip
                                  refine x_iload C (i := 8) dX12_matrix_256 rfl ?_
                                  refine x_goto C 262 dX12_matrix_258 (by decide) ?_
                                  have hM := c_X12_addShift_K l Y (x_pm σ a5 su fi be Gt Gs (x_ml l9 f46) (x_ml [nI u, nI v, nI w] f47)) 0 (dgt * 12 / n) (dgt * 12 / n) u v w f47 rfl hu hv hw (by first | exact x_dig_lt hd2 | omega) (by first | exact x_dig_lt hd2 | omega) (by first | exact x_dig_lt hd2 | omega) (fun r τ => r = none ∧ τ = x_pm σ a5 su fi be Gt Gs (x_ml l9 f46) (x_ml [nI ((u + 0) % 12), nI ((v + dgt * 12 / n) % 12), nI ((w + dgt * 12 / n) % 12)] f47)) (by rintro _ _ ⟨rfl, rfl⟩; exact ⟨rfl, x_pm_47 _ _ _ _ _ _ _ _ _ _⟩)
                                  refine x_callV C (as := [.int (nI 0), .int (nI (dgt * 12 / n)), .int (nI (dgt * 12 / n))]) (st := []) (hM) kb_X12_addShift kv_X12_131 dX12_matrix_262 rfl rfl (Nat.le_of_ble_eq_true rfl) ⟨by decide, by decide⟩ ⟨by decide, by decide⟩ ko_38 ?_
                                  clear hM
                                  rintro _ _ ⟨rfl, rfl⟩
                                  refine x_iconst C (nI 0) dX12_matrix_265 rfl ?_
                                  refine x_istore C (i := 4) dX12_matrix_266 (by decide) ?_
                                  refine x_goto C 277 dX12_matrix_268 (by decide) ?_
                                  refine x_aload_n C (i := 0) dX12_matrix_277 rfl xl0 ?_
                                  refine x_iload C (i := 6) dX12_matrix_278 xl6 ?_
                                  refine x_if_eqZ C 292 dX12_matrix_280 (by decide) (fun c280 => absurd c280 (by decide)) (fun c280 => ?_)
                                  refine x_aload_n C (i := 0) dX12_matrix_283 rfl xl0 ?_
                                  refine x_getI C fi_38_3 kf_X12_100 dX12_matrix_284 ?_
                                  refine x_topI (y := nI a5) rfl ?_
                                  refine x_iconst C (nI 1) dX12_matrix_287 rfl ?_
                                  refine x_iaddN C dX12_matrix_288 ?_
                                  refine x_goto C 296 dX12_matrix_289 (by decide) ?_
                                  refine x_putN C fi_38_3 kf_X12_100 rfl rfl dX12_matrix_296 ?_
                                  refine x_sig (σ' := x_pm σ (a5 + 1) su fi be Gt Gs (x_ml l9 f46) (x_ml [nI ((u + 0) % 12), nI ((v + dgt * 12 / n) % 12), nI ((w + dgt * 12 / n) % 12)] f47)) (x_pm_3 _ _ _ _ _ _ _ _ _ _) ?_
                                  refine x_iincN C (i := 5) (b := 1) dX12_matrix_299 xl5 rfl (by decide) ?_
                                  refine x_goto C 179 dX12_matrix_302 (by decide) ?_
                                  exact ih179 _ (by omega) (k + 1) false true (a5 + 1) ((u + 0) % 12) ((v + dgt * 12 / n) % 12) ((w + dgt * 12 / n) % 12) rfl (by omega) (Nat.mod_lt _ (by decide)) (Nat.mod_lt _ (by decide)) (Nat.mod_lt _ (by decide)) (x_lookv_lt hcv (by omega)) (fun z => absurd z (by decide)) (by rw [if_pos rfl] at hR; rw [if_pos rfl, ← hR, x_sf_dig (by omega) c198 c205 c214 hcv hd2 (by omega)]; (first | rw [if_pos c231] | rw [if_neg c231]); (first | rw [if_pos c242] | rw [if_neg c242]); (first | rw [if_pos c253] | rw [if_neg c253])) _ xl0 xl1 xl2 xl3 rfl rfl xl6
                            · skip
                              refine x_iload C (i := 8) dX12_matrix_234 rfl ?_
                              refine x_goto C 240 dX12_matrix_236 (by decide) ?_
                              refine x_iload_n C (i := 3) dX12_matrix_240 rfl xl3 ?_
                              refine x_iconst C (nI 1) dX12_matrix_241 rfl ?_
                              refine x_icmp_neN C 250 dX12_matrix_242 (by decide) (by omega) (by omega) (fun c242 => ?_) (fun c242 => ?_)
                              · skip
                                refine x_iconst C (nI 0) dX12_matrix_250 rfl ?_
                                refine x_iload_n C (i := 3) dX12_matrix_251 rfl xl3 ?_
                                refine x_iconst C (nI 2) dX12_matrix_252 rfl ?_
                                refine x_icmp_neN C 261 dX12_matrix_253 (by decide) (by omega) (by omega) (fun c253 => ?_) (fun c253 => ?_)
                                · skip
                                  refine x_iconst C (nI 0) dX12_matrix_261 rfl ?_
                                  have hM := c_X12_addShift_K l Y (x_pm σ a5 su fi be Gt Gs (x_ml l9 f46) (x_ml [nI u, nI v, nI w] f47)) (dgt * 12 / n) 0 0 u v w f47 rfl hu hv hw (by first | exact x_dig_lt hd2 | omega) (by first | exact x_dig_lt hd2 | omega) (by first | exact x_dig_lt hd2 | omega) (fun r τ => r = none ∧ τ = x_pm σ a5 su fi be Gt Gs (x_ml l9 f46) (x_ml [nI ((u + dgt * 12 / n) % 12), nI ((v + 0) % 12), nI ((w + 0) % 12)] f47)) (by rintro _ _ ⟨rfl, rfl⟩; exact ⟨rfl, x_pm_47 _ _ _ _ _ _ _ _ _ _⟩)
                                  refine x_callV C (as := [.int (nI (dgt * 12 / n)), .int (nI 0), .int (nI 0)]) (st := []) (hM) kb_X12_addShift kv_X12_131 dX12_matrix_262 rfl rfl (Nat.le_of_ble_eq_true rfl) ⟨by decide, by decide⟩ ⟨by decide, by decide⟩ ko_38 ?_
                                  clear hM
                                  rintro _ _ ⟨rfl, rfl⟩
                                  refine x_iconst C (nI 0) dX12_matrix_265 rfl ?_
                                  refine x_istore C (i := 4) dX12_matrix_266 (by decide) ?_
                                  refine x_goto C 277 dX12_matrix_268 (by decide) ?_
                                  refine x_aload_n C (i := 0) dX12_matrix_277 rfl xl0 ?_
                                  refine x_iload C (i := 6) dX12_matrix_278 xl6 ?_
                                  refine x_if_eqZ C 292 dX12_matrix_280 (by decide) (fun c280 => absurd c280 (by decide)) (fun c280 => ?_)
                                  refine x_aload_n C (i := 0) dX12_matrix_283 rfl xl0 ?_
                                  refine x_getI C fi_38_3 kf_X12_100 dX12_matrix_284 ?_
                                  refine x_topI (y := nI a5) rfl ?_
                                  refine x_iconst C (nI 1) dX12_matrix_287 rfl ?_
                                  refine x_iaddN C dX12_matrix_288 ?_
                                  refine x_goto C 296 dX12_matrix_289 (by decide) ?_
                                  refine x_putN C fi_38_3 kf_X12_100 rfl rfl dX12_matrix_296 ?_
                                  refine x_sig (σ' := x_pm σ (a5 + 1) su fi be Gt Gs (x_ml l9 f46) (x_ml [nI ((u + dgt * 12 / n) % 12), nI ((v + 0) % 12), nI ((w + 0) % 12)] f47)) (x_pm_3 _ _ _ _ _ _ _ _ _ _) ?_
                                  refine x_iincN C (i := 5) (b := 1) dX12_matrix_299 xl5 rfl (by decide) ?_
                                  refine x_goto C 179 dX12_matrix_302 (by decide) ?_
                                  exact ih179 _ (by omega) (k + 1) false true (a5 + 1) ((u + dgt * 12 / n) % 12) ((v + 0) % 12) ((w + 0) % 12) rfl (by omega) (Nat.mod_lt _ (by decide)) (Nat.mod_lt _ (by decide)) (Nat.mod_lt _ (by decide)) (x_lookv_lt hcv (by omega)) (fun z => absurd z (by decide)) (by rw [if_pos rfl] at hR; rw [if_pos rfl, ← hR, x_sf_dig (by omega) c198 c205 c214 hcv hd2 (by omega)]; (first | rw [if_pos c231] | rw [if_neg c231]); (first | rw [if_pos c242] | rw [if_neg c242]); (first | rw [if_pos c253] | rw [if_neg c253])) _ xl0 xl1 xl2 xl3 rfl rfl xl6
                                · skip
                                  refine x_iload C (i := 8) dX12_matrix_256 rfl ?_
                                  refine x_goto C 262 dX12_matrix_258 (by decide) ?_
                                  have hM := c_X12_addShift_K l Y (x_pm σ a5 su fi be Gt Gs (x_ml l9 f46) (x_ml [nI u, nI v, nI w] f47)) (dgt * 12 / n) 0 (dgt * 12 / n) u v w f47 rfl hu hv hw (by first | exact x_dig_lt hd2 | omega) (by first | exact x_dig_lt hd2 | omega) (by first | exact x_dig_lt hd2 | omega) (fun r τ => r = none ∧ τ = x_pm σ a5 su fi be Gt Gs (x_ml l9 f46) (x_ml [nI ((u + dgt * 12 / n) % 12), nI ((v + 0) % 12), nI ((w + dgt * 12 / n) % 12)] f47)) (by rintro _ _ ⟨rfl, rfl⟩; exact ⟨rfl, x_pm_47 _ _ _ _ _ _ _ _ _ _⟩)
                                  refine x_callV C (as := [.int (nI (dgt * 12 / n)), .int (nI 0), .int (nI (dgt * 12 / n))]) (st := []) (hM) kb_X12_addShift kv_X12_131 dX12_matrix_262 rfl rfl (Nat.le_of_ble_eq_true rfl) ⟨by decide, by decide⟩ ⟨by decide, by decide⟩ ko_38 ?_
                                  clear hM
                                  rintro _ _ ⟨rfl, rfl⟩
                                  refine x_iconst C (nI 0) dX12_matrix_265 rfl ?_
                                  refine x_istore C (i := 4) dX12_matrix_266 (by decide) ?_
                                  refine x_goto C 277 dX12_matrix_268 (by decide) ?_
                                  refine x_aload_n C (i := 0) dX12_matrix_277 rfl xl0 ?_
                                  refine x_iload C (i := 6) dX12_matrix_278 xl6 ?_
                                  refine x_if_eqZ C 292 dX12_matrix_280 (by decide) (fun c280 => absurd c280 (by decide)) (fun c280 => ?_)
                                  refine x_aload_n C (i := 0) dX12_matrix_283 rfl xl0 ?_
                                  refine x_getI C fi_38_3 kf_X12_100 dX12_matrix_284 ?_
                                  refine x_topI (y := nI a5) rfl ?_
                                  refine x_iconst C (nI 1) dX12_matrix_287 rfl ?_
                                  refine x_iaddN C dX12_matrix_288 ?_
                                  refine x_goto C 296 dX12_matrix_289 (by decide) ?_
                                  refine x_putN C fi_38_3 kf_X12_100 rfl rfl dX12_matrix_296 ?_
                                  refine x_sig (σ' := x_pm σ (a5 + 1) su fi be Gt Gs (x_ml l9 f46) (x_ml [nI ((u + dgt * 12 / n) % 12), nI ((v + 0) % 12), nI ((w + dgt * 12 / n) % 12)] f47)) (x_pm_3 _ _ _ _ _ _ _ _ _ _) ?_
                                  refine x_iincN C (i := 5) (b := 1) dX12_matrix_299 xl5 rfl (by decide) ?_
                                  refine x_goto C 179 dX12_matrix_302 (by decide) ?_
                                  exact ih179 _ (by omega) (k + 1) false true (a5 + 1) ((u + dgt * 12 / n) % 12) ((v + 0) % 12) ((w + dgt * 12 / n) % 12) rfl (by omega) (Nat.mod_lt _ (by decide)) (Nat.mod_lt _ (by decide)) (Nat.mod_lt _ (by decide)) (x_lookv_lt hcv (by omega)) (fun z => absurd z (by decide)) (by rw [if_pos rfl] at hR; rw [if_pos rfl, ← hR, x_sf_dig (by omega) c198 c205 c214 hcv hd2 (by omega)]; (first | rw [if_pos c231] | rw [if_neg c231]); (first | rw [if_pos c242] | rw [if_neg c242]); (first | rw [if_pos c253] | rw [if_neg c253])) _ xl0 xl1 xl2 xl3 rfl rfl xl6
                              · skip
                                refine x_iload C (i := 8) dX12_matrix_245 rfl ?_
                                refine x_goto C 251 dX12_matrix_247 (by decide) ?_
                                refine x_iload_n C (i := 3) dX12_matrix_251 rfl xl3 ?_
                                refine x_iconst C (nI 2) dX12_matrix_252 rfl ?_
                                refine x_icmp_neN C 261 dX12_matrix_253 (by decide) (by omega) (by omega) (fun c253 => ?_) (fun c253 => ?_)
                                · skip
                                  refine x_iconst C (nI 0) dX12_matrix_261 rfl ?_
                                  have hM := c_X12_addShift_K l Y (x_pm σ a5 su fi be Gt Gs (x_ml l9 f46) (x_ml [nI u, nI v, nI w] f47)) (dgt * 12 / n) (dgt * 12 / n) 0 u v w f47 rfl hu hv hw (by first | exact x_dig_lt hd2 | omega) (by first | exact x_dig_lt hd2 | omega) (by first | exact x_dig_lt hd2 | omega) (fun r τ => r = none ∧ τ = x_pm σ a5 su fi be Gt Gs (x_ml l9 f46) (x_ml [nI ((u + dgt * 12 / n) % 12), nI ((v + dgt * 12 / n) % 12), nI ((w + 0) % 12)] f47)) (by rintro _ _ ⟨rfl, rfl⟩; exact ⟨rfl, x_pm_47 _ _ _ _ _ _ _ _ _ _⟩)
                                  refine x_callV C (as := [.int (nI (dgt * 12 / n)), .int (nI (dgt * 12 / n)), .int (nI 0)]) (st := []) (hM) kb_X12_addShift kv_X12_131 dX12_matrix_262 rfl rfl (Nat.le_of_ble_eq_true rfl) ⟨by decide, by decide⟩ ⟨by decide, by decide⟩ ko_38 ?_
                                  clear hM
                                  rintro _ _ ⟨rfl, rfl⟩
                                  refine x_iconst C (nI 0) dX12_matrix_265 rfl ?_
                                  refine x_istore C (i := 4) dX12_matrix_266 (by decide) ?_
                                  refine x_goto C 277 dX12_matrix_268 (by decide) ?_
                                  refine x_aload_n C (i := 0) dX12_matrix_277 rfl xl0 ?_
                                  refine x_iload C (i := 6) dX12_matrix_278 xl6 ?_
                                  refine x_if_eqZ C 292 dX12_matrix_280 (by decide) (fun c280 => absurd c280 (by decide)) (fun c280 => ?_)
                                  refine x_aload_n C (i := 0) dX12_matrix_283 rfl xl0 ?_
                                  refine x_getI C fi_38_3 kf_X12_100 dX12_matrix_284 ?_
                                  refine x_topI (y := nI a5) rfl ?_
                                  refine x_iconst C (nI 1) dX12_matrix_287 rfl ?_
                                  refine x_iaddN C dX12_matrix_288 ?_
                                  refine x_goto C 296 dX12_matrix_289 (by decide) ?_
                                  refine x_putN C fi_38_3 kf_X12_100 rfl rfl dX12_matrix_296 ?_
                                  refine x_sig (σ' := x_pm σ (a5 + 1) su fi be Gt Gs (x_ml l9 f46) (x_ml [nI ((u + dgt * 12 / n) % 12), nI ((v + dgt * 12 / n) % 12), nI ((w + 0) % 12)] f47)) (x_pm_3 _ _ _ _ _ _ _ _ _ _) ?_
                                  refine x_iincN C (i := 5) (b := 1) dX12_matrix_299 xl5 rfl (by decide) ?_
                                  refine x_goto C 179 dX12_matrix_302 (by decide) ?_
                                  exact ih179 _ (by omega) (k + 1) false true (a5 + 1) ((u + dgt * 12 / n) % 12) ((v + dgt * 12 / n) % 12) ((w + 0) % 12) rfl (by omega) (Nat.mod_lt _ (by decide)) (Nat.mod_lt _ (by decide)) (Nat.mod_lt _ (by decide)) (x_lookv_lt hcv (by omega)) (fun z => absurd z (by decide)) (by rw [if_pos rfl] at hR; rw [if_pos rfl, ← hR, x_sf_dig (by omega) c198 c205 c214 hcv hd2 (by omega)]; (first | rw [if_pos c231] | rw [if_neg c231]); (first | rw [if_pos c242] | rw [if_neg c242]); (first | rw [if_pos c253] | rw [if_neg c253])) _ xl0 xl1 xl2 xl3 rfl rfl xl6
                                · skip
                                  refine x_iload C (i := 8) dX12_matrix_256 rfl ?_
                                  refine x_goto C 262 dX12_matrix_258 (by decide) ?_
                                  have hM := c_X12_addShift_K l Y (x_pm σ a5 su fi be Gt Gs (x_ml l9 f46) (x_ml [nI u, nI v, nI w] f47)) (dgt * 12 / n) (dgt * 12 / n) (dgt * 12 / n) u v w f47 rfl hu hv hw (by first | exact x_dig_lt hd2 | omega) (by first | exact x_dig_lt hd2 | omega) (by first | exact x_dig_lt hd2 | omega) (fun r τ => r = none ∧ τ = x_pm σ a5 su fi be Gt Gs (x_ml l9 f46) (x_ml [nI ((u + dgt * 12 / n) % 12), nI ((v + dgt * 12 / n) % 12), nI ((w + dgt * 12 / n) % 12)] f47)) (by rintro _ _ ⟨rfl, rfl⟩; exact ⟨rfl, x_pm_47 _ _ _ _ _ _ _ _ _ _⟩)
                                  refine x_callV C (as := [.int (nI (dgt * 12 / n)), .int (nI (dgt * 12 / n)), .int (nI (dgt * 12 / n))]) (st := []) (hM) kb_X12_addShift kv_X12_131 dX12_matrix_262 rfl rfl (Nat.le_of_ble_eq_true rfl) ⟨by decide, by decide⟩ ⟨by decide, by decide⟩ ko_38 ?_
                                  clear hM
                                  rintro _ _ ⟨rfl, rfl⟩
                                  refine x_iconst C (nI 0) dX12_matrix_265 rfl ?_
                                  refine x_istore C (i := 4) dX12_matrix_266 (by decide) ?_
                                  refine x_goto C 277 dX12_matrix_268 (by decide) ?_
                                  refine x_aload_n C (i := 0) dX12_matrix_277 rfl xl0 ?_
                                  refine x_iload C (i := 6) dX12_matrix_278 xl6 ?_
                                  refine x_if_eqZ C 292 dX12_matrix_280 (by decide) (fun c280 => absurd c280 (by decide)) (fun c280 => ?_)
                                  refine x_aload_n C (i := 0) dX12_matrix_283 rfl xl0 ?_
                                  refine x_getI C fi_38_3 kf_X12_100 dX12_matrix_284 ?_
                                  refine x_topI (y := nI a5) rfl ?_
                                  refine x_iconst C (nI 1) dX12_matrix_287 rfl ?_
                                  refine x_iaddN C dX12_matrix_288 ?_
                                  refine x_goto C 296 dX12_matrix_289 (by decide) ?_
                                  refine x_putN C fi_38_3 kf_X12_100 rfl rfl dX12_matrix_296 ?_
                                  refine x_sig (σ' := x_pm σ (a5 + 1) su fi be Gt Gs (x_ml l9 f46) (x_ml [nI ((u + dgt * 12 / n) % 12), nI ((v + dgt * 12 / n) % 12), nI ((w + dgt * 12 / n) % 12)] f47)) (x_pm_3 _ _ _ _ _ _ _ _ _ _) ?_
                                  refine x_iincN C (i := 5) (b := 1) dX12_matrix_299 xl5 rfl (by decide) ?_
                                  refine x_goto C 179 dX12_matrix_302 (by decide) ?_
                                  exact ih179 _ (by omega) (k + 1) false true (a5 + 1) ((u + dgt * 12 / n) % 12) ((v + dgt * 12 / n) % 12) ((w + dgt * 12 / n) % 12) rfl (by omega) (Nat.mod_lt _ (by decide)) (Nat.mod_lt _ (by decide)) (Nat.mod_lt _ (by decide)) (x_lookv_lt hcv (by omega)) (fun z => absurd z (by decide)) (by rw [if_pos rfl] at hR; rw [if_pos rfl, ← hR, x_sf_dig (by omega) c198 c205 c214 hcv hd2 (by omega)]; (first | rw [if_pos c231] | rw [if_neg c231]); (first | rw [if_pos c242] | rw [if_neg c242]); (first | rw [if_pos c253] | rw [if_neg c253])) _ xl0 xl1 xl2 xl3 rfl rfl xl6
              exact lp179 _ 0 dg0 true a3 0 0 0 rfl (by omega) (by decide) (by decide) (by decide) hat3 (fun z => by rw [hdg0] at z; simpa using z) (if_pos rfl) _ xl0 xl1 xl2 xl3 rfl rfl rfl
            refine x_icmp_leN C 170 dX12_matrix_158 (by decide) (by omega) (by omega) (fun c158 => ?_) (fun c158 => ?_)
            · skip
              have c158' := Nat.not_lt.mpr c158
              refine x_iconst C (nI 0) dX12_matrix_170 rfl ?_
              exact lp171 false (by simp; omega) _ xl0 xl1 xl2 xl3
            · skip
              have c158' := Nat.not_le.mpr c158
              refine x_iload_n C (i := 3) dX12_matrix_161 rfl xl3 ?_
              refine x_iconst C (nI 3) dX12_matrix_162 rfl ?_
              refine x_icmp_geN C 170 dX12_matrix_163 (by decide) (by omega) (by omega) (fun c163 => ?_) (fun c163 => ?_)
              · skip
                have c163' := Nat.not_lt.mpr c163
                refine x_iconst C (nI 0) dX12_matrix_170 rfl ?_
                exact lp171 false (by simp; omega) _ xl0 xl1 xl2 xl3
              · skip
                have c163' := Nat.not_le.mpr c163
                refine x_iconst C (nI 1) dX12_matrix_166 rfl ?_
                refine x_goto C 171 dX12_matrix_167 (by decide) ?_
                exact lp171 true (by simp; omega) _ xl0 xl1 xl2 xl3
          refine x_if_eqZ C 149 dX12_matrix_115 (by decide) (fun c115 => ?_) (fun c115 => ?_)
          · skip
            exact lp149 l0 hl0n (by unfold x_mrot; rw [hmr, if_neg (of_decide_eq_false (hmi.symm.trans c115))]) _ xl0 xl1 xl2 xl3
          · skip
            refine x_iconst C (nI 0) dX12_matrix_118 rfl ?_
            refine x_istore C (i := 4) dX12_matrix_119 (by decide) ?_
            have lp121 : ∀ (m121 : Nat) (k : Nat), (9 - k) = m121 → (k ≤ 9) → ∀ L : x_Lo, L.1 0 = some (.ref 38) → L.1 1 = some (.int (x_z mi)) → L.1 2 = some (.int (nI n)) → L.1 3 = some (.int (nI an)) → L.1 4 = some (.int (nI k)) → x_W xp l xe (x_rm 3) xs xm xg xb xt xc 9 Y 0 0 (MQ xb (x_Q Y K) xg xs 0 0 (x_A Y)) 121 L [] (x_pm σ a3 su fi be Gt Gs (x_ml (x_ng k l0) f46) f47) := by
              intro m121
              induction m121 using Nat.strongRecOn with
              | _ m121 ih121 =>
                intro k hm121 hk9 L xl0 xl1 xl2 xl3 xl4
                refine x_iload C (i := 4) dX12_matrix_121 xl4 ?_
                refine x_bipush C (nI 9) dX12_matrix_123 rfl ?_
                refine x_icmp_geN C 149 dX12_matrix_125 (by decide) (by omega) (by omega) (fun c125 => ?_) (fun c125 => ?_)
                · skip
                  have c125' := Nat.not_lt.mpr c125
                  obtain rfl : k = 9 := by omega
                  exact lp149 (x_ng 9 l0) (by rw [x_ng_len, hl0n]) (by unfold x_mrot; rw [hmr, if_pos (of_decide_eq_true (hmi.symm.trans c115)), x_ng_all hl0n]) _ xl0 xl1 xl2 xl3
                · skip
                  have c125' := Nat.not_le.mpr c125
                  refine x_aload_n C (i := 0) dX12_matrix_128 rfl xl0 ?_
                  refine x_getR C fr_38_13 kf_X12_32 dX12_matrix_129 ?_
                  refine x_iload C (i := 4) dX12_matrix_132 xl4 ?_
                  refine x_aload_n C (i := 0) dX12_matrix_134 rfl xl0 ?_
                  refine x_getR C fr_38_13 kf_X12_32 dX12_matrix_135 ?_
                  refine x_iload C (i := 4) dX12_matrix_138 xl4 ?_
                  refine x_ialdN C (by decide) rfl (by decide) dX12_matrix_140 (by omega) ?_
                  refine x_topI (y := l0.getD k 0) (by show x_ml (x_ng k l0) f46 k = _; rw [x_ml_at _ _ (by rw [x_ng_len]; omega), x_ng_at (by omega)]) ?_
                  refine x_ineg C dX12_matrix_141 ?_
                  refine x_iastN C (by decide) rfl (by decide) dX12_matrix_142 (by omega) ?_
                  refine x_iincN C (i := 4) (b := 1) dX12_matrix_143 xl4 rfl (by decide) ?_
                  refine x_goto C 121 dX12_matrix_146 (by decide) ?_
                  refine x_sig (σ' := x_pm σ a3 su fi be Gt Gs (x_ml (x_ng (k + 1) l0) f46) f47) (by rw [x_u_ui, x_pm_46]; show x_pm _ _ _ _ _ _ _ (upd (x_ml (x_ng k l0) f46) k _) _ = _; rw [x_upd_ml _ _ _ (by rw [x_ng_len]; omega), x_ng_s (by omega)]) ?_
                  exact ih121 _ (by omega) (k + 1) rfl (by omega) _ xl0 xl1 xl2 xl3 rfl
            refine x_sig (σ' := x_pm σ a3 su fi be Gt Gs (x_ml (x_ng 0 l0) f46) f47) (by rw [x_ng_0]) ?_
            exact lp121 _ 0 rfl (by omega) _ xl0 xl1 xl2 xl3 rfl
      have hw0 : x_maw b t a = x_axAt n (x_lookv b t (a1 + 1)) := by unfold x_maw; rw [← hn, ← ha1]
      refine x_icmp_eq C 90 dX12_matrix_74 (by decide) (fun c74 => ?_) (fun c74 => ?_)
      · skip
        refine x_iload_n C (i := 2) dX12_matrix_90 rfl rfl ?_
        refine x_iconst C (nI 1) dX12_matrix_91 rfl ?_
        refine x_icmp_leN C 108 dX12_matrix_92 (by decide) (by omega) (by omega) (fun c92 => ?_) (fun c92 => ?_)
        · skip
          have c92' := Nat.not_lt.mpr c92
          exact lp108 (x_axAt n (x_lookv b t (a1 + 1))) (a1 + 1) (Or.inl ⟨by omega, c74⟩) (by unfold x_max; rw [hw0, if_pos c74, ← hn, if_neg (by omega), c74]) (by unfold x_ma3; rw [hw0, if_pos c74, ← ha1]) (by omega) _ xl0 xl1 rfl rfl
        · skip
          have c92' := Nat.not_le.mpr c92
          refine x_aload_n C (i := 0) dX12_matrix_95 rfl xl0 ?_
          refine x_iload_n C (i := 2) dX12_matrix_96 rfl rfl ?_
          have hM := c_X12_axisFor l Y (x_pm σ (a1 + 1) su fi be Gt Gs f46 f47) su fi n rfl rfl (by omega) (by omega) (by omega)
          refine x_callV C (as := [.int (nI n)]) (st := []) (hM) kb_X12_axisFor kv_X12_142 dX12_matrix_97 rfl rfl (Nat.le_of_ble_eq_true rfl) ⟨by decide, by decide⟩ ⟨by decide, by decide⟩ ko_38 ?_
          clear hM
          intro r9 τ9 h9
          obtain ⟨rfl, h8⟩ := h9
          rw [h8]
          clear h8 τ9
          refine x_istore_n C (i := 3) dX12_matrix_100 rfl (by decide) ?_
          refine x_iload_n C (i := 3) dX12_matrix_101 rfl rfl ?_
          refine x_iconst C (-1) dX12_matrix_102 rfl ?_
          refine x_icmp_ne C 108 dX12_matrix_103 (by decide) (fun c103 => ?_) (fun c103 => ?_)
          · skip
            exact lp108 (x_axFor su fi n) (a1 + 1) (Or.inr ⟨by omega, x_axFor_nat c103⟩) (by unfold x_max; rw [hw0, if_pos c74, ← hn, if_pos c92]) (by unfold x_ma3; rw [hw0, if_pos c74, ← ha1]) (by omega) _ xl0 xl1 rfl rfl
          · skip
            refine x_iconst C (nI 0) dX12_matrix_106 rfl ?_
            refine x_zret C xr xk dX12_matrix_107 rfl ?_
            exact hK _ _ (Or.inr ⟨by unfold x_mok x_max; rw [← hn, ← ha1, c43, hw0, if_pos c74, if_pos c92, c103, decide_eq_false (by omega)]; rfl, rfl, by unfold x_mfl; rw [← ha1, if_pos c43]⟩)
      · skip
        have hw1 := x_axAt_lt c74
        have hw2 := x_axAt_nat c74
        refine x_aload_n C (i := 0) dX12_matrix_77 rfl xl0 ?_
        refine x_dup C dX12_matrix_78 rfl ?_
        refine x_getI C fi_38_3 kf_X12_100 dX12_matrix_79 ?_
        refine x_topI (y := nI (a1 + 1)) rfl ?_
        refine x_iconst C (nI 1) dX12_matrix_82 rfl ?_
        refine x_iaddN C dX12_matrix_83 ?_
        refine x_putN C fi_38_3 kf_X12_100 rfl rfl dX12_matrix_84 ?_
        refine x_sig (σ' := x_pm σ (a1 + 1 + 1) su fi be Gt Gs f46 f47) (x_pm_3 _ _ _ _ _ _ _ _ _ _) ?_
        refine x_goto C 108 dX12_matrix_87 (by decide) ?_
        exact lp108 (x_axAt n (x_lookv b t (a1 + 1))) (a1 + 1 + 1) (Or.inr hw2) (by unfold x_max; rw [hw0, if_neg c74]) (by unfold x_ma3; rw [hw0, if_neg c74, ← ha1]) (by omega) _ xl0 xl1 rfl rfl
    · skip
      refine x_iconst C (nI 0) dX12_matrix_46 rfl ?_
      refine x_zret C xr xk dX12_matrix_47 rfl ?_
      exact hK _ _ (Or.inr ⟨by unfold x_mok; rw [← ha1, c43]; rfl, rfl, by unfold x_mfl; rw [← ha1, c43]; rfl⟩)
  refine x_icmp_ne C 13 dX12_matrix_6 (by decide) (fun c6 => ?_) (fun c6 => ?_)
  · skip
    refine x_iconst C (nI 0) dX12_matrix_13 rfl ?_
    refine x_istore_n C (i := 1) dX12_matrix_14 rfl (by decide) ?_
    refine x_aload_n C (i := 0) dX12_matrix_15 rfl rfl ?_
    refine x_iload_n C (i := 1) dX12_matrix_16 rfl rfl ?_
    refine x_if_eqN C 29 dX12_matrix_17 (by decide) (by omega) (fun c17 => ?_) (fun c17 => absurd c17 (by decide))
    refine x_aload_n C (i := 0) dX12_matrix_29 rfl rfl ?_
    refine x_getI C fi_38_3 kf_X12_100 dX12_matrix_30 ?_
    refine x_topI (y := nI a) rfl ?_
    refine x_putN C fi_38_3 kf_X12_100 rfl rfl dX12_matrix_33 ?_
    refine x_sig (σ' := x_pm σ a su fi be Gt Gs f46 f47) (x_pm_3 _ _ _ _ _ _ _ _ _ _) ?_
    exact lp36 a false (by unfold x_ma1; first | rw [if_pos c6] | rw [if_neg c6]) (by first | rw [decide_eq_true c6] | rw [decide_eq_false c6]) (by first | exact hat | exact x_lookv_lt c6 (by decide)) _ rfl rfl
  · skip
    refine x_iconst C (nI 1) dX12_matrix_9 rfl ?_
    refine x_goto C 14 dX12_matrix_10 (by decide) ?_
    refine x_istore_n C (i := 1) dX12_matrix_14 rfl (by decide) ?_
    refine x_aload_n C (i := 0) dX12_matrix_15 rfl rfl ?_
    refine x_iload_n C (i := 1) dX12_matrix_16 rfl rfl ?_
    refine x_if_eqN C 29 dX12_matrix_17 (by decide) (by omega) (fun c17 => absurd c17 (by decide)) (fun c17 => ?_)
    refine x_aload_n C (i := 0) dX12_matrix_20 rfl rfl ?_
    refine x_getI C fi_38_3 kf_X12_100 dX12_matrix_21 ?_
    refine x_topI (y := nI a) rfl ?_
    refine x_iconst C (nI 1) dX12_matrix_24 rfl ?_
    refine x_iaddN C dX12_matrix_25 ?_
    refine x_goto C 33 dX12_matrix_26 (by decide) ?_
    refine x_putN C fi_38_3 kf_X12_100 rfl rfl dX12_matrix_33 ?_
    refine x_sig (σ' := x_pm σ (a + 1) su fi be Gt Gs f46 f47) (x_pm_3 _ _ _ _ _ _ _ _ _ _) ?_
    exact lp36 (a + 1) true (by unfold x_ma1; first | rw [if_pos c6] | rw [if_neg c6]) (by first | rw [decide_eq_true c6] | rw [decide_eq_false c6]) (by first | exact hat | exact x_lookv_lt c6 (by decide)) _ rfl rfl
theorem c_X12_matrix (l : Launch) (Y : x_Y) (σ : x_S) (a su fi be : Nat) (Gt Gs : List (List Int32)) (f46 f47 : Nat → Int32) (b : Nat → Int32) (t : Nat) (hb : σ.1 39 = b) (ht : σ.1 38 2 = nI t) (ht8 : t ≤ 8000) (hat : a ≤ t) (hG : Gs.length = Gt.length) (hG8 : Gt.length ≤ 8) (hsu : su ≤ 6) (hfi : fi ≤ 6) (hbe : be < 3) : x_M l yX12_matrix cX12_matrix 9 (some .boolean) 3 Y [.ref 38] (x_pm σ a su fi be Gt Gs f46 f47) (fun r τ => (x_mok b t a su fi = true ∧ r = some (.int (x_z true)) ∧ τ = x_pm σ (x_msf b t a su fi).1 (if 1 < x_mn b t a then su + 1 else su) (if 1 < x_mn b t a ∧ su = 0 then x_mn b t a else fi) (if 1 < x_mn b t a ∧ x_man b t a su fi < 3 then x_man b t a su fi else be) (Gt ++ [x_mrot b t a su fi be]) (Gs ++ [[nI (x_msf b t a su fi).2.1, nI (x_msf b t a su fi).2.2.1, nI (x_msf b t a su fi).2.2.2]]) (x_ml (x_mrot b t a su fi be) f46) (x_ml [nI (x_msf b t a su fi).2.1, nI (x_msf b t a su fi).2.2.1, nI (x_msf b t a su fi).2.2.2] f47)) ∨ (x_mok b t a su fi = false ∧ r = some (.int (x_z false)) ∧ τ = x_pm σ (x_mfl b t a) su fi be Gt Gs f46 f47)) := c_X12_matrix_K l Y σ a su fi be Gt Gs f46 f47 b t hb ht ht8 hat hG hG8 hsu hfi hbe _ (fun _ _ h => h)
