set_option maxRecDepth 100000 in
set_option maxHeartbeats 200000 in
theorem c_X8_readShifts_K (l : Launch) (Y : x_Y) (σ : x_S) (n ax : Nat) (hn9 : n ≤ 6) (hn5 : n ≠ 5) (hax9 : ax ≤ 6) (b : Nat → Int32) (t : Nat) (ht : σ.1 1 1 = nI t) (hb : σ.1 2 = b) (ht8 : t ≤ 8000) (a : Nat) (ha : σ.1 8 3 = nI a) (hat : a ≤ t) (g9 : Nat → Int32) (h9 : σ.1 9 = g9) (hs : z_hs g9 0 0 0) (K : Option Value → x_S → Prop) (hK : ∀ (r : Option Value) (τ : x_S), (∃ g, (r = none ∧ τ = x_st σ [(8, 3, nI (x_sf b t n ax 4 (decide (2 < n) && decide (ax < 3)) a 0 0 0).1)] [(9, g)] []) ∧ (∀ q, q < 9 → g q = g9 q) ∧ z_hs g (x_sf b t n ax 4 (decide (2 < n) && decide (ax < 3)) a 0 0 0).2.1 (x_sf b t n ax 4 (decide (2 < n) && decide (ax < 3)) a 0 0 0).2.2.1 (x_sf b t n ax 4 (decide (2 < n) && decide (ax < 3)) a 0 0 0).2.2.2) → K r τ) : x_M l yX8_readShifts cX8_readShifts 6 none 3 Y [.ref 8, .int (nI n), .int (nI ax)] σ K := by
  refine x_start (by decide) (Nat.le_of_ble_eq_true rfl) ?_
  intro xp xe xs xm xg xb xt xc C xr xk
  refine x_sig (σ' := x_st σ [(8, 3, nI a)] [(9, g9)] []) (x_st_in (And.intro ha trivial) (And.intro h9 trivial) trivial) ?_
  have lp23 : ∀ (m23 : Nat) (i : Nat) (p : Nat) (u : Nat) (v : Nat) (w : Nat) (mb : Bool) (g : Nat → Int32), (4 - i) = m23 → (i ≤ 4) → (p ≤ t) → (u < 12) → (v < 12) → (w < 12) → (z_hs g u v w) → (∀ q, q < 9 → g q = g9 q) → (mb = true → ax < 3) → (x_sf b t n ax (4 - i) (decide (2 < n) && mb) p u v w = x_sf b t n ax 4 (decide (2 < n) && decide (ax < 3)) a 0 0 0) → ∀ L : x_Lo, L.1 0 = some (.ref 8) → L.1 1 = some (.int (nI n)) → L.1 2 = some (.int (nI ax)) → L.1 3 = some (.int (x_z mb)) → L.1 4 = some (.int (nI i)) → x_W xp l xe (x_rm 3) xs xm xg xb xt xc 6 Y 0 0 (MQ xb (x_Q Y K) xg xs 0 0 (x_A Y)) 23 L [] (x_st σ [(8, 3, nI p)] [(9, g)] []) := by
    intro m23
    induction m23 using Nat.strongRecOn with
    | _ m23 ih23 =>
      intro i p u v w mb g hm23 hi hp hu hv hw hs2 hrot hmb hR L xl0 xl1 xl2 xl3 xl4
      refine x_iload C (i := 4) dX8_readShifts_23 xl4 ?_
      refine x_iconst C (nI 4) dX8_readShifts_25 rfl ?_
      refine x_icmp_geN C 101 dX8_readShifts_26 (by decide) (by omega) (by omega) (fun c26 => ?_) (fun c26 => ?_)
      · skip
        have c26' := Nat.not_lt.mpr c26
        have hE : x_sf b t n ax 4 (decide (2 < n) && decide (ax < 3)) a 0 0 0 = (p, u, v, w) := by rw [← hR, show 4 - i = 0 by omega]; rfl
        refine x_vret C xr xk dX8_readShifts_101 ?_
        exact hK _ _ ⟨_, ⟨rfl, by rw [hE]⟩, hrot, by rw [hE]; exact hs2⟩
      · skip
        have c26' := Nat.not_le.mpr c26
        refine x_aload_n C (i := 0) dX8_readShifts_29 rfl xl0 ?_
        refine x_getR C fr_8_0 kf_X8_17 dX8_readShifts_30 ?_
        refine x_aload_n C (i := 0) dX8_readShifts_33 rfl xl0 ?_
        refine x_getI C fi_8_3 kf_X8_25 dX8_readShifts_34 ?_
        refine x_topI (y := nI p) rfl ?_
        have hM := c_X9_byteAt l Y (x_st σ [(8, 3, nI p)] [(9, g)] []) p t b ht hb ht8 (by omega)
        refine x_callV C (as := [.int (nI p)]) (st := []) (hM) kb_X9_byteAt kv_X8_70 dX8_readShifts_37 rfl rfl (Nat.le_of_ble_eq_true rfl) ⟨by decide, by decide⟩ ⟨by decide, by decide⟩ ko_1 ?_
        clear hM
        rintro _ _ ⟨rfl, rfl⟩
        refine x_istore C (i := 5) dX8_readShifts_40 (by decide) ?_
        refine x_iload_n C (i := 3) dX8_readShifts_42 rfl xl3 ?_
        refine x_if_eqZ C 75 dX8_readShifts_43 (by decide) (fun c43 => ?_) (fun c43 => ?_)
        · skip
          have hnd : ¬ ((decide (2 < n) && mb) = true ∧ nI 49 ≤ x_lookv b t p ∧ x_lookv b t p < nI (48 + n)) := fun z => by
            rw [c43, Bool.and_false] at z; exact absurd z.1 (by decide)
          refine x_aload_n C (i := 0) dX8_readShifts_75 rfl xl0 ?_
          refine x_iload C (i := 5) dX8_readShifts_76 rfl ?_
          have hM := c_X8_shiftByLetter l Y (x_st σ [(8, 3, nI p)] [(9, g)] []) (x_lookv b t p) g rfl u v w hu hv hw hs2
          refine x_callV C (as := [.int (x_lookv b t p)]) (st := []) (hM) kb_X8_shiftByLetter kv_X8_125 dX8_readShifts_78 rfl rfl (Nat.le_of_ble_eq_true rfl) ⟨by decide, by decide⟩ ⟨by decide, by decide⟩ ko_8 ?_
          clear hM
          rintro _ _ (⟨hl3, gb, ⟨rfl, rfl⟩, hb1, hb2⟩ | ⟨hl3, rfl, rfl⟩)
          · skip
            refine x_sig (σ' := x_st σ [(8, 3, nI p)] [(9, gb)] []) (x_st_st rfl) ?_
            refine x_if_neZ C 85 dX8_readShifts_81 (by decide) (fun c81 => ?_) (fun c81 => absurd c81 (by decide))
            refine x_aload_n C (i := 0) dX8_readShifts_85 rfl xl0 ?_
            refine x_dup C dX8_readShifts_86 rfl ?_
            refine x_getI C fi_8_3 kf_X8_25 dX8_readShifts_87 ?_
            refine x_topI (y := nI p) rfl ?_
            refine x_iconst C (nI 1) dX8_readShifts_90 rfl ?_
            refine x_iaddN C dX8_readShifts_91 ?_
            refine x_putN C fi_8_3 kf_X8_25 rfl rfl dX8_readShifts_92 ?_
            refine x_sig (σ' := x_st σ [(8, 3, nI (p + 1))] [(9, gb)] []) (x_st_u rfl) ?_
            refine x_iincN C (i := 4) (b := 1) dX8_readShifts_95 xl4 rfl (by decide) ?_
            refine x_goto C 23 dX8_readShifts_98 (by decide) ?_
            exact ih23 _ (by omega) (i + 1) (p + 1) ((u + (x_l3 (x_lookv b t p)).1) % 12) ((v + (x_l3 (x_lookv b t p)).2.1) % 12) ((w + (x_l3 (x_lookv b t p)).2.2.1) % 12) mb gb rfl (by omega) (x_l3_lt hl3) (Nat.mod_lt _ (by decide)) (Nat.mod_lt _ (by decide)) (Nat.mod_lt _ (by decide)) hb2 (fun q h => (hb1 q h).trans (hrot q h)) hmb (by rw [← hR, x_sf_let (by omega) hnd hl3]) _ xl0 xl1 xl2 xl3 rfl
          · skip
            refine x_if_neZ C 85 dX8_readShifts_81 (by decide) (fun c81 => absurd c81 (by decide)) (fun c81 => ?_)
            have hE : x_sf b t n ax 4 (decide (2 < n) && decide (ax < 3)) a 0 0 0 = (p, u, v, w) := by rw [← hR]; exact z_sf_end (by omega) hnd hl3
            refine x_vret C xr xk dX8_readShifts_84 ?_
            exact hK _ _ ⟨_, ⟨rfl, by rw [hE]⟩, hrot, by rw [hE]; exact hs2⟩
        · skip
          refine x_iload C (i := 5) dX8_readShifts_46 rfl ?_
          refine x_iload_n C (i := 1) dX8_readShifts_48 rfl xl1 ?_
          have hM := c_X8_isScrew l Y (x_st σ [(8, 3, nI p)] [(9, g)] []) (x_lookv b t p) n hn9 hn5
          refine x_callS C (as := [.int (x_lookv b t p), .int (nI n)]) (st := []) (hM) kb_X8_isScrew ks_X8_115 dX8_readShifts_49 rfl rfl (Nat.le_of_ble_eq_true rfl) ⟨by decide, by decide⟩ ⟨by decide, by decide⟩ ?_
          clear hM
          intro r9 τ9 h9
          obtain ⟨sw, ⟨rfl, h8⟩, hsw⟩ := h9
          rw [h8]
          clear h8 τ9
          refine x_if_eqZ C 75 dX8_readShifts_52 (by decide) (fun c52 => ?_) (fun c52 => ?_)
          · skip
            have hnd : ¬ ((decide (2 < n) && mb) = true ∧ nI 49 ≤ x_lookv b t p ∧ x_lookv b t p < nI (48 + n)) := fun z => by
              have h8 := z.1
              rw [Bool.and_eq_true] at h8
              have h9 := hsw.mpr ⟨of_decide_eq_true h8.1, z.2.1, z.2.2⟩
              rw [c52] at h9; exact absurd h9 (by decide)
            refine x_aload_n C (i := 0) dX8_readShifts_75 rfl xl0 ?_
            refine x_iload C (i := 5) dX8_readShifts_76 rfl ?_
            have hM := c_X8_shiftByLetter l Y (x_st σ [(8, 3, nI p)] [(9, g)] []) (x_lookv b t p) g rfl u v w hu hv hw hs2
            refine x_callV C (as := [.int (x_lookv b t p)]) (st := []) (hM) kb_X8_shiftByLetter kv_X8_125 dX8_readShifts_78 rfl rfl (Nat.le_of_ble_eq_true rfl) ⟨by decide, by decide⟩ ⟨by decide, by decide⟩ ko_8 ?_
            clear hM
            rintro _ _ (⟨hl3, gb, ⟨rfl, rfl⟩, hb1, hb2⟩ | ⟨hl3, rfl, rfl⟩)
            · skip
              refine x_sig (σ' := x_st σ [(8, 3, nI p)] [(9, gb)] []) (x_st_st rfl) ?_
              refine x_if_neZ C 85 dX8_readShifts_81 (by decide) (fun c81 => ?_) (fun c81 => absurd c81 (by decide))
              refine x_aload_n C (i := 0) dX8_readShifts_85 rfl xl0 ?_
              refine x_dup C dX8_readShifts_86 rfl ?_
              refine x_getI C fi_8_3 kf_X8_25 dX8_readShifts_87 ?_
              refine x_topI (y := nI p) rfl ?_
              refine x_iconst C (nI 1) dX8_readShifts_90 rfl ?_
              refine x_iaddN C dX8_readShifts_91 ?_
              refine x_putN C fi_8_3 kf_X8_25 rfl rfl dX8_readShifts_92 ?_
              refine x_sig (σ' := x_st σ [(8, 3, nI (p + 1))] [(9, gb)] []) (x_st_u rfl) ?_
              refine x_iincN C (i := 4) (b := 1) dX8_readShifts_95 xl4 rfl (by decide) ?_
              refine x_goto C 23 dX8_readShifts_98 (by decide) ?_
              exact ih23 _ (by omega) (i + 1) (p + 1) ((u + (x_l3 (x_lookv b t p)).1) % 12) ((v + (x_l3 (x_lookv b t p)).2.1) % 12) ((w + (x_l3 (x_lookv b t p)).2.2.1) % 12) mb gb rfl (by omega) (x_l3_lt hl3) (Nat.mod_lt _ (by decide)) (Nat.mod_lt _ (by decide)) (Nat.mod_lt _ (by decide)) hb2 (fun q h => (hb1 q h).trans (hrot q h)) hmb (by rw [← hR, x_sf_let (by omega) hnd hl3]) _ xl0 xl1 xl2 xl3 rfl
            · skip
              refine x_if_neZ C 85 dX8_readShifts_81 (by decide) (fun c81 => absurd c81 (by decide)) (fun c81 => ?_)
              have hE : x_sf b t n ax 4 (decide (2 < n) && decide (ax < 3)) a 0 0 0 = (p, u, v, w) := by rw [← hR]; exact z_sf_end (by omega) hnd hl3
              refine x_vret C xr xk dX8_readShifts_84 ?_
              exact hK _ _ ⟨_, ⟨rfl, by rw [hE]⟩, hrot, by rw [hE]; exact hs2⟩
          · skip
            obtain ⟨h2n, h49, h48⟩ := hsw.mp c52
            obtain ⟨d, hd1, hd2, hcd⟩ := x_digit h49 h48 (by omega)
            have hzd := z_ss_d hn9 hn5 h2n hd2
            have hax3 := hmb c43
            refine x_iconst C (nI 0) dX8_readShifts_55 rfl ?_
            refine x_istore_n C (i := 3) dX8_readShifts_56 rfl (by decide) ?_
            refine x_aload_n C (i := 0) dX8_readShifts_57 rfl xl0 ?_
            refine x_iload_n C (i := 2) dX8_readShifts_58 rfl xl2 ?_
            refine x_iload C (i := 5) dX8_readShifts_59 rfl ?_
            refine x_bipush C (nI 48) dX8_readShifts_61 rfl ?_
            refine x_isub C dX8_readShifts_63 ?_
            refine x_topI (y := nI d) (by rw [hcd, pk_sub (by omega), Nat.add_sub_cancel_left]) ?_
            refine x_iload_n C (i := 1) dX8_readShifts_64 rfl xl1 ?_
            have hM := c_X8_screwStep l Y (x_st σ [(8, 3, nI p)] [(9, g)] []) n (by omega)
            refine x_callS C (as := [.int (nI n)]) (st := [.int (nI d), .int (nI ax), .ref 8]) (hM) kb_X8_screwStep ks_X8_119 dX8_readShifts_65 rfl rfl (Nat.le_of_ble_eq_true rfl) ⟨by decide, by decide⟩ ⟨by decide, by decide⟩ ?_
            clear hM
            rintro _ _ ⟨rfl, rfl⟩
            refine x_imulN C dX8_readShifts_68 ?_
            have hM := c_X8_shiftAlong l Y (x_st σ [(8, 3, nI p)] [(9, g)] []) ax (d * z_ss n) hax3 hzd.2 g rfl u v w hu hv hw hs2
            refine x_callV C (as := [.int (nI ax), .int (nI (d * (z_ss n)))]) (st := []) (hM) kb_X8_shiftAlong kv_X8_122 dX8_readShifts_69 rfl rfl (Nat.le_of_ble_eq_true rfl) ⟨by decide, by decide⟩ ⟨by decide, by decide⟩ ko_8 ?_
            clear hM
            rintro _ _ ⟨ga, ⟨rfl, rfl⟩, ha1, ha2⟩
            refine x_sig (σ' := x_st σ [(8, 3, nI p)] [(9, ga)] []) (x_st_st rfl) ?_
            refine x_goto C 85 dX8_readShifts_72 (by decide) ?_
            refine x_aload_n C (i := 0) dX8_readShifts_85 rfl xl0 ?_
            refine x_dup C dX8_readShifts_86 rfl ?_
            refine x_getI C fi_8_3 kf_X8_25 dX8_readShifts_87 ?_
            refine x_topI (y := nI p) rfl ?_
            refine x_iconst C (nI 1) dX8_readShifts_90 rfl ?_
            refine x_iaddN C dX8_readShifts_91 ?_
            refine x_putN C fi_8_3 kf_X8_25 rfl rfl dX8_readShifts_92 ?_
            refine x_sig (σ' := x_st σ [(8, 3, nI (p + 1))] [(9, ga)] []) (x_st_u rfl) ?_
            refine x_iincN C (i := 4) (b := 1) dX8_readShifts_95 xl4 rfl (by decide) ?_
            refine x_goto C 23 dX8_readShifts_98 (by decide) ?_
            exact ih23 _ (by omega) (i + 1) (p + 1) ((u + (if ax = 0 then d * z_ss n else 0)) % 12) ((v + (if ax = 1 then d * z_ss n else 0)) % 12) ((w + (if ax = 2 then d * z_ss n else 0)) % 12) false ga rfl (by omega) (x_lookv_lt hcd (by omega)) (Nat.mod_lt _ (by decide)) (Nat.mod_lt _ (by decide)) (Nat.mod_lt _ (by decide)) ha2 (fun q h => (ha1 q h).trans (hrot q h)) (fun z => by cases z) (by rw [← hR, x_sf_dig (by omega) (by rw [c43, decide_eq_true h2n]; rfl) h49 h48 hcd hd2 hn9, Bool.and_false, (z_ss_d hn9 hn5 h2n hd2).1]) _ xl0 xl1 xl2 rfl rfl
  refine x_iload_n C (i := 2) dX8_readShifts_0 rfl rfl ?_
  refine x_if_eqN C 14 dX8_readShifts_1 (by decide) (by omega) (fun c1 => ?_) (fun c1 => ?_)
  · skip
    refine x_iconst C (nI 1) dX8_readShifts_14 rfl ?_
    refine x_goto C 19 dX8_readShifts_15 (by decide) ?_
    refine x_istore_n C (i := 3) dX8_readShifts_19 rfl (by decide) ?_
    refine x_iconst C (nI 0) dX8_readShifts_20 rfl ?_
    refine x_istore C (i := 4) dX8_readShifts_21 (by decide) ?_
    exact lp23 _ 0 a 0 0 0 true g9 rfl (Nat.zero_le _) hat (by decide) (by decide) (by decide) hs (fun _ _ => rfl) (fun _ => by omega) (by rw [decide_eq_true (show ax < 3 by omega)]) _ rfl rfl rfl rfl rfl
  · skip
    refine x_iload_n C (i := 2) dX8_readShifts_4 rfl rfl ?_
    refine x_iconst C (nI 1) dX8_readShifts_5 rfl ?_
    refine x_icmp_eqN C 14 dX8_readShifts_6 (by decide) (by omega) (by omega) (fun c6 => ?_) (fun c6 => ?_)
    · skip
      refine x_iconst C (nI 1) dX8_readShifts_14 rfl ?_
      refine x_goto C 19 dX8_readShifts_15 (by decide) ?_
      refine x_istore_n C (i := 3) dX8_readShifts_19 rfl (by decide) ?_
      refine x_iconst C (nI 0) dX8_readShifts_20 rfl ?_
      refine x_istore C (i := 4) dX8_readShifts_21 (by decide) ?_
      exact lp23 _ 0 a 0 0 0 true g9 rfl (Nat.zero_le _) hat (by decide) (by decide) (by decide) hs (fun _ _ => rfl) (fun _ => by omega) (by rw [decide_eq_true (show ax < 3 by omega)]) _ rfl rfl rfl rfl rfl
    · skip
      refine x_iload_n C (i := 2) dX8_readShifts_9 rfl rfl ?_
      refine x_iconst C (nI 2) dX8_readShifts_10 rfl ?_
      refine x_icmp_neN C 18 dX8_readShifts_11 (by decide) (by omega) (by omega) (fun c11 => ?_) (fun c11 => ?_)
      · skip
        refine x_iconst C (nI 0) dX8_readShifts_18 rfl ?_
        refine x_istore_n C (i := 3) dX8_readShifts_19 rfl (by decide) ?_
        refine x_iconst C (nI 0) dX8_readShifts_20 rfl ?_
        refine x_istore C (i := 4) dX8_readShifts_21 (by decide) ?_
        exact lp23 _ 0 a 0 0 0 false g9 rfl (Nat.zero_le _) hat (by decide) (by decide) (by decide) hs (fun _ _ => rfl) (fun z => by cases z) (by rw [decide_eq_false (show ¬ ax < 3 by omega)]) _ rfl rfl rfl rfl rfl
      · skip
        refine x_iconst C (nI 1) dX8_readShifts_14 rfl ?_
        refine x_goto C 19 dX8_readShifts_15 (by decide) ?_
        refine x_istore_n C (i := 3) dX8_readShifts_19 rfl (by decide) ?_
        refine x_iconst C (nI 0) dX8_readShifts_20 rfl ?_
        refine x_istore C (i := 4) dX8_readShifts_21 (by decide) ?_
        exact lp23 _ 0 a 0 0 0 true g9 rfl (Nat.zero_le _) hat (by decide) (by decide) (by decide) hs (fun _ _ => rfl) (fun _ => by omega) (by rw [decide_eq_true (show ax < 3 by omega)]) _ rfl rfl rfl rfl rfl
theorem c_X8_readShifts (l : Launch) (Y : x_Y) (σ : x_S) (n ax : Nat) (hn9 : n ≤ 6) (hn5 : n ≠ 5) (hax9 : ax ≤ 6) (b : Nat → Int32) (t : Nat) (ht : σ.1 1 1 = nI t) (hb : σ.1 2 = b) (ht8 : t ≤ 8000) (a : Nat) (ha : σ.1 8 3 = nI a) (hat : a ≤ t) (g9 : Nat → Int32) (h9 : σ.1 9 = g9) (hs : z_hs g9 0 0 0) : x_M l yX8_readShifts cX8_readShifts 6 none 3 Y [.ref 8, .int (nI n), .int (nI ax)] σ (fun r τ => ∃ g, (r = none ∧ τ = x_st σ [(8, 3, nI (x_sf b t n ax 4 (decide (2 < n) && decide (ax < 3)) a 0 0 0).1)] [(9, g)] []) ∧ (∀ q, q < 9 → g q = g9 q) ∧ z_hs g (x_sf b t n ax 4 (decide (2 < n) && decide (ax < 3)) a 0 0 0).2.1 (x_sf b t n ax 4 (decide (2 < n) && decide (ax < 3)) a 0 0 0).2.2.1 (x_sf b t n ax 4 (decide (2 < n) && decide (ax < 3)) a 0 0 0).2.2.2) := c_X8_readShifts_K l Y σ n ax hn9 hn5 hax9 b t ht hb ht8 a ha hat g9 h9 hs _ (fun _ _ h => h)
set_option maxRecDepth 100000 in
set_option maxHeartbeats 200000 in
theorem c_X8_remember_K (l : Launch) (Y : x_Y) (σ : x_S) (n ax : Nat) (hn9 : n ≤ 6) (hn0 : 0 < n) (hax9 : ax ≤ 6) (su fi : Nat) (hsu : σ.1 8 4 = nI su) (hfi : σ.1 8 5 = nI fi) (hsu9 : su ≤ 6) (be : Nat) (hbe : σ.1 8 6 = nI be) (hbe9 : be < 3) (K : Option Value → x_S → Prop) (hK : ∀ (r : Option Value) (τ : x_S), (r = none ∧ τ = x_st σ [(8, 4, nI (if 1 < n then su + 1 else su)), (8, 5, nI (if 1 < n ∧ su = 0 then n else fi)), (8, 6, nI (if 1 < n ∧ ax < 3 then ax else be))] [] []) → K r τ) : x_M l yX8_remember cX8_remember 3 none 0 Y [.ref 8, .int (nI n), .int (nI ax)] σ K := by
  refine x_start (by decide) (Nat.le_of_ble_eq_true rfl) ?_
  intro xp xe xs xm xg xb xt xc C xr xk
  refine x_sig (σ' := x_st σ [(8, 4, nI su), (8, 5, nI fi), (8, 6, nI be)] [] []) (x_st_in (And.intro hsu (And.intro hfi (And.intro hbe trivial))) trivial trivial) ?_
  refine x_iload_n C (i := 1) dX8_remember_0 rfl rfl ?_
  refine x_iconst C (nI 1) dX8_remember_1 rfl ?_
  refine x_icmp_neN C 6 dX8_remember_2 (by decide) (by omega) (by omega) (fun c2 => ?_) (fun c2 => ?_)
  · skip
    refine x_aload_n C (i := 0) dX8_remember_6 rfl rfl ?_
    refine x_getI C fi_8_4 kf_X8_29 dX8_remember_7 ?_
    refine x_topI (y := nI su) rfl ?_
    refine x_if_neN C 18 dX8_remember_10 (by decide) (by omega) (fun c10 => ?_) (fun c10 => ?_)
    · skip
      refine x_aload_n C (i := 0) dX8_remember_18 rfl rfl ?_
      refine x_dup C dX8_remember_19 rfl ?_
      refine x_getI C fi_8_4 kf_X8_29 dX8_remember_20 ?_
      refine x_topI (y := nI su) rfl ?_
      refine x_iconst C (nI 1) dX8_remember_23 rfl ?_
      refine x_iaddN C dX8_remember_24 ?_
      refine x_putN C fi_8_4 kf_X8_29 rfl rfl dX8_remember_25 ?_
      refine x_sig (σ' := x_st σ [(8, 4, nI (su + 1)), (8, 5, nI fi), (8, 6, nI be)] [] []) (x_st_u rfl) ?_
      refine x_iload_n C (i := 2) dX8_remember_28 rfl rfl ?_
      refine x_iconst C (nI 2) dX8_remember_29 rfl ?_
      refine x_icmp_gtN C 38 dX8_remember_30 (by decide) (by omega) (by omega) (fun c30 => ?_) (fun c30 => ?_)
      · skip
        have c30' := Nat.not_le.mpr c30
        refine x_vret C xr xk dX8_remember_38 ?_
        exact hK _ _ ⟨rfl, by
          rw [if_pos (show 1 < n by omega)]
          first
          | rw [if_pos (show 1 < n ∧ su = 0 by omega), if_pos (show 1 < n ∧ ax < 3 by omega)]
          | rw [if_neg (show ¬ (1 < n ∧ su = 0) by omega), if_pos (show 1 < n ∧ ax < 3 by omega)]
          | rw [if_pos (show 1 < n ∧ su = 0 by omega), if_neg (show ¬ (1 < n ∧ ax < 3) by omega)]
          | rw [if_neg (show ¬ (1 < n ∧ su = 0) by omega), if_neg (show ¬ (1 < n ∧ ax < 3) by omega)]⟩
      · skip
        have c30' := Nat.not_lt.mpr c30
        refine x_aload_n C (i := 0) dX8_remember_33 rfl rfl ?_
        refine x_iload_n C (i := 2) dX8_remember_34 rfl rfl ?_
        refine x_putN C fi_8_6 kf_X8_35 rfl rfl dX8_remember_35 ?_
        refine x_sig (σ' := x_st σ [(8, 4, nI (su + 1)), (8, 5, nI fi), (8, 6, nI ax)] [] []) (x_st_u rfl) ?_
        refine x_vret C xr xk dX8_remember_38 ?_
        exact hK _ _ ⟨rfl, by
          rw [if_pos (show 1 < n by omega)]
          first
          | rw [if_pos (show 1 < n ∧ su = 0 by omega), if_pos (show 1 < n ∧ ax < 3 by omega)]
          | rw [if_neg (show ¬ (1 < n ∧ su = 0) by omega), if_pos (show 1 < n ∧ ax < 3 by omega)]
          | rw [if_pos (show 1 < n ∧ su = 0 by omega), if_neg (show ¬ (1 < n ∧ ax < 3) by omega)]
          | rw [if_neg (show ¬ (1 < n ∧ su = 0) by omega), if_neg (show ¬ (1 < n ∧ ax < 3) by omega)]⟩
    · skip
      refine x_aload_n C (i := 0) dX8_remember_13 rfl rfl ?_
      refine x_iload_n C (i := 1) dX8_remember_14 rfl rfl ?_
      refine x_putN C fi_8_5 kf_X8_32 rfl rfl dX8_remember_15 ?_
      refine x_sig (σ' := x_st σ [(8, 4, nI su), (8, 5, nI n), (8, 6, nI be)] [] []) (x_st_u rfl) ?_
      refine x_aload_n C (i := 0) dX8_remember_18 rfl rfl ?_
      refine x_dup C dX8_remember_19 rfl ?_
      refine x_getI C fi_8_4 kf_X8_29 dX8_remember_20 ?_
      refine x_topI (y := nI su) rfl ?_
      refine x_iconst C (nI 1) dX8_remember_23 rfl ?_
      refine x_iaddN C dX8_remember_24 ?_
      refine x_putN C fi_8_4 kf_X8_29 rfl rfl dX8_remember_25 ?_
      refine x_sig (σ' := x_st σ [(8, 4, nI (su + 1)), (8, 5, nI n), (8, 6, nI be)] [] []) (x_st_u rfl) ?_
      refine x_iload_n C (i := 2) dX8_remember_28 rfl rfl ?_
      refine x_iconst C (nI 2) dX8_remember_29 rfl ?_
      refine x_icmp_gtN C 38 dX8_remember_30 (by decide) (by omega) (by omega) (fun c30 => ?_) (fun c30 => ?_)
      · skip
        have c30' := Nat.not_le.mpr c30
        refine x_vret C xr xk dX8_remember_38 ?_
        exact hK _ _ ⟨rfl, by
          rw [if_pos (show 1 < n by omega)]
          first
          | rw [if_pos (show 1 < n ∧ su = 0 by omega), if_pos (show 1 < n ∧ ax < 3 by omega)]
          | rw [if_neg (show ¬ (1 < n ∧ su = 0) by omega), if_pos (show 1 < n ∧ ax < 3 by omega)]
          | rw [if_pos (show 1 < n ∧ su = 0 by omega), if_neg (show ¬ (1 < n ∧ ax < 3) by omega)]
          | rw [if_neg (show ¬ (1 < n ∧ su = 0) by omega), if_neg (show ¬ (1 < n ∧ ax < 3) by omega)]⟩
      · skip
        have c30' := Nat.not_lt.mpr c30
        refine x_aload_n C (i := 0) dX8_remember_33 rfl rfl ?_
        refine x_iload_n C (i := 2) dX8_remember_34 rfl rfl ?_
        refine x_putN C fi_8_6 kf_X8_35 rfl rfl dX8_remember_35 ?_
        refine x_sig (σ' := x_st σ [(8, 4, nI (su + 1)), (8, 5, nI n), (8, 6, nI ax)] [] []) (x_st_u rfl) ?_
        refine x_vret C xr xk dX8_remember_38 ?_
        exact hK _ _ ⟨rfl, by
          rw [if_pos (show 1 < n by omega)]
          first
          | rw [if_pos (show 1 < n ∧ su = 0 by omega), if_pos (show 1 < n ∧ ax < 3 by omega)]
          | rw [if_neg (show ¬ (1 < n ∧ su = 0) by omega), if_pos (show 1 < n ∧ ax < 3 by omega)]
          | rw [if_pos (show 1 < n ∧ su = 0 by omega), if_neg (show ¬ (1 < n ∧ ax < 3) by omega)]
          | rw [if_neg (show ¬ (1 < n ∧ su = 0) by omega), if_neg (show ¬ (1 < n ∧ ax < 3) by omega)]⟩
  · skip
    refine x_vret C xr xk dX8_remember_5 ?_
    exact hK _ _ ⟨rfl, by rw [if_neg (show ¬ 1 < n by omega), if_neg (show ¬ (1 < n ∧ su = 0) by omega), if_neg (show ¬ (1 < n ∧ ax < 3) by omega)]⟩
theorem c_X8_remember (l : Launch) (Y : x_Y) (σ : x_S) (n ax : Nat) (hn9 : n ≤ 6) (hn0 : 0 < n) (hax9 : ax ≤ 6) (su fi : Nat) (hsu : σ.1 8 4 = nI su) (hfi : σ.1 8 5 = nI fi) (hsu9 : su ≤ 6) (be : Nat) (hbe : σ.1 8 6 = nI be) (hbe9 : be < 3) : x_M l yX8_remember cX8_remember 3 none 0 Y [.ref 8, .int (nI n), .int (nI ax)] σ (fun r τ => r = none ∧ τ = x_st σ [(8, 4, nI (if 1 < n then su + 1 else su)), (8, 5, nI (if 1 < n ∧ su = 0 then n else fi)), (8, 6, nI (if 1 < n ∧ ax < 3 then ax else be))] [] []) := c_X8_remember_K l Y σ n ax hn9 hn0 hax9 su fi hsu hfi hsu9 be hbe hbe9 _ (fun _ _ h => h)
set_option maxRecDepth 100000 in
set_option maxHeartbeats 600000 in
theorem c_X8_readMatrix_K (l : Launch) (Y : x_Y) (σ : x_S) (b : Nat → Int32) (t : Nat) (ht : σ.1 1 1 = nI t) (hb : σ.1 2 = b) (ht8 : t ≤ 8000) (a : Nat) (ha : σ.1 8 3 = nI a) (hat : a ≤ t) (su fi : Nat) (hsu : σ.1 8 4 = nI su) (hfi : σ.1 8 5 = nI fi) (hsu9 : su ≤ 6) (hfi9 : fi ≤ 6) (hsf : 0 < su → fi = 2 ∨ fi = 3 ∨ fi = 4 ∨ fi = 6) (be : Nat) (hbe : σ.1 8 6 = nI be) (hbe9 : be < 3) (Gn : List x_O) (hG : σ.1 3 4 = nI Gn.length) (hG8 : Gn.length < 8) (f4 : Nat → Int32) (h4 : σ.1 4 = f4) (hgh : z_hg f4 Gn) (g9 : Nat → Int32) (h9 : σ.1 9 = g9) (K : Option Value → x_S → Prop) (hK : ∀ (r : Option Value) (τ : x_S), ((x_mok b t a su fi = true ∧ ∃ g f, (r = some (.int (x_z true)) ∧ τ = x_st σ [(8, 3, nI (x_msf b t a su fi).1), (8, 4, nI (if 1 < (x_mn b t a) then su + 1 else su)), (8, 5, nI (if 1 < (x_mn b t a) ∧ su = 0 then (x_mn b t a) else fi)), (8, 6, nI (if 1 < (x_mn b t a) ∧ x_man b t a su fi < 3 then x_man b t a su fi else be)), (3, 4, nI (Gn.length + 1))] [(9, g), (4, f)] []) ∧ z_hg f (Gn ++ [(x_mrot b t a su fi be, [nI (x_msf b t a su fi).2.1, nI (x_msf b t a su fi).2.2.1, nI (x_msf b t a su fi).2.2.2])])) ∨ (x_mok b t a su fi = false ∧ r = some (.int (x_z false)) ∧ τ = x_u σ 8 3 (nI (x_mfl b t a)))) → K r τ) : x_M l yX8_readMatrix cX8_readMatrix 4 (some .boolean) 4 Y [.ref 8] σ K := by
  refine x_start (by decide) (Nat.le_of_ble_eq_true rfl) ?_
  intro xp xe xs xm xg xb xt xc C xr xk
  refine x_sig (σ' := x_st σ [(8, 3, nI a), (8, 4, nI su), (8, 5, nI fi), (8, 6, nI be), (3, 4, nI Gn.length)] [(9, g9), (4, f4)] []) (x_st_in (And.intro ha (And.intro hsu (And.intro hfi (And.intro hbe (And.intro hG trivial))))) (And.intro h9 (And.intro h4 trivial)) trivial) ?_
  refine x_aload_n C (i := 0) dX8_readMatrix_0 rfl rfl ?_
  refine x_bipush C (nI 45) dX8_readMatrix_1 rfl ?_
  have hM := c_X8_takes l Y (x_st σ [(8, 3, nI a), (8, 4, nI su), (8, 5, nI fi), (8, 6, nI be), (3, 4, nI Gn.length)] [(9, g9), (4, f4)] []) (nI 45) b t ht hb ht8 a rfl hat
  refine x_callV C (as := [.int (nI 45)]) (st := []) (hM) kb_X8_takes kv_X8_47 dX8_readMatrix_3 rfl rfl (Nat.le_of_ble_eq_true rfl) ⟨by decide, by decide⟩ ⟨by decide, by decide⟩ ko_8 ?_
  clear hM
  rintro _ _ (⟨htk, rfl, rfl⟩ | ⟨htk, rfl, rfl⟩)
  · skip
    refine x_sig (σ' := x_st σ [(8, 3, nI (a + 1)), (8, 4, nI su), (8, 5, nI fi), (8, 6, nI be), (3, 4, nI Gn.length)] [(9, g9), (4, f4)] []) (x_st_st rfl) ?_
    have hA : x_ma1 b t a = a + 1 := if_pos htk
    have hAt : a + 1 ≤ t := x_lookv_lt htk (by decide)
    refine x_if_eqZ C 13 dX8_readMatrix_6 (by decide) (fun c6 => absurd c6 (by decide)) (fun c6 => ?_)
    refine x_iconst C (-1) dX8_readMatrix_9 rfl ?_
    refine x_goto C 14 dX8_readMatrix_10 (by decide) ?_
    refine x_istore_n C (i := 1) dX8_readMatrix_14 rfl (by decide) ?_
    refine x_aload_n C (i := 0) dX8_readMatrix_15 rfl rfl ?_
    refine x_getR C fr_8_0 kf_X8_17 dX8_readMatrix_16 ?_
    refine x_aload_n C (i := 0) dX8_readMatrix_19 rfl rfl ?_
    refine x_getI C fi_8_3 kf_X8_25 dX8_readMatrix_20 ?_
    refine x_topI (y := nI (a + 1)) rfl ?_
    have hM := c_X9_byteAt l Y (x_st σ [(8, 3, nI (a + 1)), (8, 4, nI su), (8, 5, nI fi), (8, 6, nI be), (3, 4, nI Gn.length)] [(9, g9), (4, f4)] []) (a + 1) t b ht hb ht8 (by omega)
    refine x_callV C (as := [.int (nI (a + 1))]) (st := []) (hM) kb_X9_byteAt kv_X8_70 dX8_readMatrix_23 rfl rfl (Nat.le_of_ble_eq_true rfl) ⟨by decide, by decide⟩ ⟨by decide, by decide⟩ ko_1 ?_
    clear hM
    rintro _ _ ⟨rfl, rfl⟩
    have hM := c_X8_foldOf l Y (x_st σ [(8, 3, nI (a + 1)), (8, 4, nI su), (8, 5, nI fi), (8, 6, nI be), (3, 4, nI Gn.length)] [(9, g9), (4, f4)] []) (x_lookv b t (a + 1))
    refine x_callS C (as := [.int (x_lookv b t (a + 1))]) (st := []) (hM) kb_X8_foldOf ks_X8_86 dX8_readMatrix_26 rfl rfl (Nat.le_of_ble_eq_true rfl) ⟨by decide, by decide⟩ ⟨by decide, by decide⟩ ?_
    clear hM
    rintro _ _ (⟨hord, rfl, rfl⟩ | ⟨hord, rfl, rfl⟩)
    · skip
      obtain ⟨n, hn⟩ : ∃ n, x_ordn (x_lookv b t (a + 1)) = n := ⟨_, rfl⟩
      refine x_topI (y := nI n) (by rw [hn]) ?_
      have hle := x_ord_le (x_lookv b t (a + 1))
      rw [hn] at hle
      have hAl := x_isOrd_lt hord
      refine x_istore_n C (i := 2) dX8_readMatrix_29 rfl (by decide) ?_
      refine x_iload_n C (i := 2) dX8_readMatrix_30 rfl rfl ?_
      refine x_iconst C (-1) dX8_readMatrix_31 rfl ?_
      refine x_icmp_ne C 37 dX8_readMatrix_32 (by decide) (fun c32 => ?_) (fun c32 => ?_)
      · skip
        refine x_aload_n C (i := 0) dX8_readMatrix_37 rfl rfl ?_
        refine x_dup C dX8_readMatrix_38 rfl ?_
        refine x_getI C fi_8_3 kf_X8_25 dX8_readMatrix_39 ?_
        refine x_topI (y := nI (a + 1)) rfl ?_
        refine x_iconst C (nI 1) dX8_readMatrix_42 rfl ?_
        refine x_iaddN C dX8_readMatrix_43 ?_
        refine x_putN C fi_8_3 kf_X8_25 rfl rfl dX8_readMatrix_44 ?_
        refine x_sig (σ' := x_st σ [(8, 3, nI (a + 1 + 1)), (8, 4, nI su), (8, 5, nI fi), (8, 6, nI be), (3, 4, nI Gn.length)] [(9, g9), (4, f4)] []) (x_st_u rfl) ?_
        refine x_aload_n C (i := 0) dX8_readMatrix_47 rfl rfl ?_
        refine x_iload_n C (i := 2) dX8_readMatrix_48 rfl rfl ?_
        have hM := c_X8_readAxis l Y (x_st σ [(8, 3, nI (a + 1 + 1)), (8, 4, nI su), (8, 5, nI fi), (8, 6, nI be), (3, 4, nI Gn.length)] [(9, g9), (4, f4)] []) n (by omega) (by omega) b t ht hb ht8 (a + 1 + 1) rfl (by omega) su fi rfl rfl hsu9 hfi9 hsf
        refine x_callV C (as := [.int (nI n)]) (st := []) (hM) kb_X8_readAxis kv_X8_89 dX8_readMatrix_49 rfl rfl (Nat.le_of_ble_eq_true rfl) ⟨by decide, by decide⟩ ⟨by decide, by decide⟩ ko_8 ?_
        clear hM
        rintro _ _ (⟨hw, rfl, rfl⟩ | ⟨hw, rfl, rfl⟩)
        · skip
          refine x_istore_n C (i := 3) dX8_readMatrix_52 rfl (by decide) ?_
          refine x_iload_n C (i := 3) dX8_readMatrix_53 rfl rfl ?_
          refine x_bipush C (nI 7) dX8_readMatrix_54 rfl ?_
          refine x_icmp_ne C 61 dX8_readMatrix_56 (by decide) (fun c56 => ?_) (fun c56 => ?_)
          · skip
            obtain ⟨ax, haxe, hax9, hrl, hsfx, hok, hrem⟩ := z_rm1 hA hord hn hw c56 hbe9 (Or.inl ⟨htk, rfl⟩)
            rw [haxe]
            have hPt := hAl
            refine x_aload_n C (i := 0) dX8_readMatrix_61 rfl rfl ?_
            refine x_iload_n C (i := 2) dX8_readMatrix_62 rfl rfl ?_
            refine x_iload_n C (i := 3) dX8_readMatrix_63 rfl rfl ?_
            have hM := c_X8_rotationOf l Y (x_st σ [(8, 3, nI (a + 1 + 1)), (8, 4, nI su), (8, 5, nI fi), (8, 6, nI be), (3, 4, nI Gn.length)] [(9, g9), (4, f4)] []) n ax (by omega) (by omega)
            refine x_callS C (as := [.int (nI n), .int (nI ax)]) (st := [.ref 8]) (hM) kb_X8_rotationOf ks_X8_92 dX8_readMatrix_64 rfl rfl (Nat.le_of_ble_eq_true rfl) ⟨by decide, by decide⟩ ⟨by decide, by decide⟩ ?_
            clear hM
            rintro _ _ ⟨rfl, rfl⟩
            refine x_aload_n C (i := 0) dX8_readMatrix_67 rfl rfl ?_
            refine x_iload_n C (i := 3) dX8_readMatrix_68 rfl rfl ?_
            have hM := c_X8_turnOf l Y (x_st σ [(8, 3, nI (a + 1 + 1)), (8, 4, nI su), (8, 5, nI fi), (8, 6, nI be), (3, 4, nI Gn.length)] [(9, g9), (4, f4)] []) ax be (by omega) rfl hbe9
            refine x_callV C (as := [.int (nI ax)]) (st := [.int (nI (z_ro n ax)), .ref 8]) (hM) kb_X8_turnOf kv_X8_96 dX8_readMatrix_69 rfl rfl (Nat.le_of_ble_eq_true rfl) ⟨by decide, by decide⟩ ⟨by decide, by decide⟩ ko_8 ?_
            clear hM
            rintro _ _ ⟨rfl, rfl⟩
            refine x_iload_n C (i := 1) dX8_readMatrix_72 rfl rfl ?_
            have hM := c_X8_setRotation l Y (x_st σ [(8, 3, nI (a + 1 + 1)), (8, 4, nI su), (8, 5, nI fi), (8, 6, nI be), (3, 4, nI Gn.length)] [(9, g9), (4, f4)] []) (z_ro n ax) (z_tf ax be) (-1) (z_ro_le n ax) (z_tf_lt ax be) g9 rfl
            refine x_callV C (as := [.int (nI (z_ro n ax)), .int (nI (z_tf ax be)), .int (-1)]) (st := []) (hM) kb_X8_setRotation kv_X8_74 dX8_readMatrix_73 rfl rfl (Nat.le_of_ble_eq_true rfl) ⟨by decide, by decide⟩ ⟨by decide, by decide⟩ ko_8 ?_
            clear hM
            rintro _ _ ⟨gr, ⟨rfl, rfl⟩, hgr⟩
            refine x_sig (σ' := x_st σ [(8, 3, nI (a + 1 + 1)), (8, 4, nI su), (8, 5, nI fi), (8, 6, nI be), (3, 4, nI Gn.length)] [(9, gr), (4, f4)] []) (x_st_st rfl) ?_
            refine x_aload_n C (i := 0) dX8_readMatrix_76 rfl rfl ?_
            refine x_iload_n C (i := 2) dX8_readMatrix_77 rfl rfl ?_
            refine x_iload_n C (i := 3) dX8_readMatrix_78 rfl rfl ?_
            have hM := c_X8_readShifts l Y (x_st σ [(8, 3, nI (a + 1 + 1)), (8, 4, nI su), (8, 5, nI fi), (8, 6, nI be), (3, 4, nI Gn.length)] [(9, gr), (4, f4)] []) n ax (by omega) (by omega) (by omega) b t ht hb ht8 (a + 1 + 1) rfl hPt gr rfl ⟨hgr.2 0 (by decide), hgr.2 1 (by decide), hgr.2 2 (by decide)⟩
            refine x_callV C (as := [.int (nI n), .int (nI ax)]) (st := []) (hM) kb_X8_readShifts kv_X8_99 dX8_readMatrix_79 rfl rfl (Nat.le_of_ble_eq_true rfl) ⟨by decide, by decide⟩ ⟨by decide, by decide⟩ ko_8 ?_
            clear hM
            rintro _ _ ⟨gs, ⟨rfl, rfl⟩, hgs1, hgs2⟩
            refine x_sig (σ' := x_st σ [(8, 3, nI ((x_sf b t n ax 4 (decide (2 < n) && decide (ax < 3)) (a + 1 + 1) 0 0 0).1)), (8, 4, nI su), (8, 5, nI fi), (8, 6, nI be), (3, 4, nI Gn.length)] [(9, gs), (4, f4)] []) (x_st_st rfl) ?_
            refine x_aload_n C (i := 0) dX8_readMatrix_82 rfl rfl ?_
            refine x_getR C fr_8_1 kf_X8_21 dX8_readMatrix_83 ?_
            refine x_aload_n C (i := 0) dX8_readMatrix_86 rfl rfl ?_
            refine x_getR C fr_8_2 kf_X8_11 dX8_readMatrix_87 ?_
            have hM := c_X2_addGenerator l Y (x_st σ [(8, 3, nI ((x_sf b t n ax 4 (decide (2 < n) && decide (ax < 3)) (a + 1 + 1) 0 0 0).1)), (8, 4, nI su), (8, 5, nI fi), (8, 6, nI be), (3, 4, nI Gn.length)] [(9, gs), (4, f4)] []) Gn.length rfl hG8 gs f4 rfl rfl
            refine x_callV C (as := [.ref 9]) (st := []) (hM) kb_X2_addGenerator kv_X8_82 dX8_readMatrix_90 rfl rfl (Nat.le_of_ble_eq_true rfl) ⟨by decide, by decide⟩ ⟨by decide, by decide⟩ ko_3 ?_
            clear hM
            rintro _ _ ⟨rfl, rfl⟩
            refine x_sig (σ' := x_st σ [(8, 3, nI ((x_sf b t n ax 4 (decide (2 < n) && decide (ax < 3)) (a + 1 + 1) 0 0 0).1)), (8, 4, nI su), (8, 5, nI fi), (8, 6, nI be), (3, 4, nI (Gn.length + 1))] [(9, gs), (4, va_cpy gs f4 0 (Gn.length * 12) 12)] []) (x_st_st rfl) ?_
            refine x_aload_n C (i := 0) dX8_readMatrix_93 rfl rfl ?_
            refine x_iload_n C (i := 2) dX8_readMatrix_94 rfl rfl ?_
            refine x_iload_n C (i := 3) dX8_readMatrix_95 rfl rfl ?_
            have hM := c_X8_remember l Y (x_st σ [(8, 3, nI ((x_sf b t n ax 4 (decide (2 < n) && decide (ax < 3)) (a + 1 + 1) 0 0 0).1)), (8, 4, nI su), (8, 5, nI fi), (8, 6, nI be), (3, 4, nI (Gn.length + 1))] [(9, gs), (4, va_cpy gs f4 0 (Gn.length * 12) 12)] []) n ax (by omega) (by omega) (by omega) su fi rfl rfl hsu9 be rfl hbe9
            refine x_callV C (as := [.int (nI n), .int (nI ax)]) (st := []) (hM) kb_X8_remember kv_X8_103 dX8_readMatrix_96 rfl rfl (Nat.le_of_ble_eq_true rfl) ⟨by decide, by decide⟩ ⟨by decide, by decide⟩ ko_8 ?_
            clear hM
            rintro _ _ ⟨rfl, rfl⟩
            refine x_sig (σ' := x_st σ [(8, 3, nI ((x_sf b t n ax 4 (decide (2 < n) && decide (ax < 3)) (a + 1 + 1) 0 0 0).1)), (8, 4, nI (if 1 < n then su + 1 else su)), (8, 5, nI (if 1 < n ∧ su = 0 then n else fi)), (8, 6, nI (if 1 < n ∧ ax < 3 then ax else be)), (3, 4, nI (Gn.length + 1))] [(9, gs), (4, va_cpy gs f4 0 (Gn.length * 12) 12)] []) (x_st_st rfl) ?_
            refine x_iconst C (nI 1) dX8_readMatrix_99 rfl ?_
            refine x_zret C xr xk dX8_readMatrix_100 rfl ?_
            exact hK _ _ (Or.inl ⟨hok, _, _, ⟨rfl, by
              have hmn : x_mn b t a = n := by unfold x_mn; rw [hA, hn]
              rw [hmn, hsfx, hrem]⟩, z_hg_s hgh ⟨fun q h => by rw [hgs1 q h, hgr.1 q h, hrl], fun j h => by
              rw [← hsfx]
              rcases (show j = 0 ∨ j = 1 ∨ j = 2 by omega) with z | z | z
              · subst z; exact hgs2.1
              · subst z; exact hgs2.2.1
              · subst z; exact hgs2.2.2⟩⟩)
          · skip
            have hbad := z_rf2 (su := su) (fi := fi) hA hord hn hw c56
            refine x_iconst C (nI 0) dX8_readMatrix_59 rfl ?_
            refine x_zret C xr xk dX8_readMatrix_60 rfl ?_
            exact hK _ _ (Or.inr ⟨hbad.1, rfl, by rw [hbad.2]; exact ((congrArg (fun z => x_u z 8 3 (nI (a + 1 + 1))) (x_st_in (σ := σ) (F := [(8, 3, nI a), (8, 4, nI su), (8, 5, nI fi), (8, 6, nI be), (3, 4, nI Gn.length)]) (I := [(9, g9), (4, f4)]) (G := []) (And.intro ha (And.intro hsu (And.intro hfi (And.intro hbe (And.intro hG trivial))))) (And.intro h9 (And.intro h4 trivial)) trivial)).trans (x_st_u rfl)).symm⟩)
        · skip
          refine x_sig (σ' := x_st σ [(8, 3, nI (a + 1 + 1 + 1)), (8, 4, nI su), (8, 5, nI fi), (8, 6, nI be), (3, 4, nI Gn.length)] [(9, g9), (4, f4)] []) (x_st_st rfl) ?_
          refine x_istore_n C (i := 3) dX8_readMatrix_52 rfl (by decide) ?_
          refine x_iload_n C (i := 3) dX8_readMatrix_53 rfl rfl ?_
          refine x_bipush C (nI 7) dX8_readMatrix_54 rfl ?_
          refine x_icmp_ne C 61 dX8_readMatrix_56 (by decide) (fun c56 => ?_) (fun c56 => ?_)
          · skip
            obtain ⟨ax, haxe, hax9, hrl, hsfx, hok, hrem⟩ := z_rm2 (su := su) (fi := fi) hA hord hn hw hbe9 (Or.inl ⟨htk, rfl⟩)
            rw [haxe]
            have hPt := x_axAt_lt hw
            refine x_aload_n C (i := 0) dX8_readMatrix_61 rfl rfl ?_
            refine x_iload_n C (i := 2) dX8_readMatrix_62 rfl rfl ?_
            refine x_iload_n C (i := 3) dX8_readMatrix_63 rfl rfl ?_
            have hM := c_X8_rotationOf l Y (x_st σ [(8, 3, nI (a + 1 + 1 + 1)), (8, 4, nI su), (8, 5, nI fi), (8, 6, nI be), (3, 4, nI Gn.length)] [(9, g9), (4, f4)] []) n ax (by omega) (by omega)
            refine x_callS C (as := [.int (nI n), .int (nI ax)]) (st := [.ref 8]) (hM) kb_X8_rotationOf ks_X8_92 dX8_readMatrix_64 rfl rfl (Nat.le_of_ble_eq_true rfl) ⟨by decide, by decide⟩ ⟨by decide, by decide⟩ ?_
            clear hM
            rintro _ _ ⟨rfl, rfl⟩
            refine x_aload_n C (i := 0) dX8_readMatrix_67 rfl rfl ?_
            refine x_iload_n C (i := 3) dX8_readMatrix_68 rfl rfl ?_
            have hM := c_X8_turnOf l Y (x_st σ [(8, 3, nI (a + 1 + 1 + 1)), (8, 4, nI su), (8, 5, nI fi), (8, 6, nI be), (3, 4, nI Gn.length)] [(9, g9), (4, f4)] []) ax be (by omega) rfl hbe9
            refine x_callV C (as := [.int (nI ax)]) (st := [.int (nI (z_ro n ax)), .ref 8]) (hM) kb_X8_turnOf kv_X8_96 dX8_readMatrix_69 rfl rfl (Nat.le_of_ble_eq_true rfl) ⟨by decide, by decide⟩ ⟨by decide, by decide⟩ ko_8 ?_
            clear hM
            rintro _ _ ⟨rfl, rfl⟩
            refine x_iload_n C (i := 1) dX8_readMatrix_72 rfl rfl ?_
            have hM := c_X8_setRotation l Y (x_st σ [(8, 3, nI (a + 1 + 1 + 1)), (8, 4, nI su), (8, 5, nI fi), (8, 6, nI be), (3, 4, nI Gn.length)] [(9, g9), (4, f4)] []) (z_ro n ax) (z_tf ax be) (-1) (z_ro_le n ax) (z_tf_lt ax be) g9 rfl
            refine x_callV C (as := [.int (nI (z_ro n ax)), .int (nI (z_tf ax be)), .int (-1)]) (st := []) (hM) kb_X8_setRotation kv_X8_74 dX8_readMatrix_73 rfl rfl (Nat.le_of_ble_eq_true rfl) ⟨by decide, by decide⟩ ⟨by decide, by decide⟩ ko_8 ?_
            clear hM
            rintro _ _ ⟨gr, ⟨rfl, rfl⟩, hgr⟩
            refine x_sig (σ' := x_st σ [(8, 3, nI (a + 1 + 1 + 1)), (8, 4, nI su), (8, 5, nI fi), (8, 6, nI be), (3, 4, nI Gn.length)] [(9, gr), (4, f4)] []) (x_st_st rfl) ?_
            refine x_aload_n C (i := 0) dX8_readMatrix_76 rfl rfl ?_
            refine x_iload_n C (i := 2) dX8_readMatrix_77 rfl rfl ?_
            refine x_iload_n C (i := 3) dX8_readMatrix_78 rfl rfl ?_
            have hM := c_X8_readShifts l Y (x_st σ [(8, 3, nI (a + 1 + 1 + 1)), (8, 4, nI su), (8, 5, nI fi), (8, 6, nI be), (3, 4, nI Gn.length)] [(9, gr), (4, f4)] []) n ax (by omega) (by omega) (by omega) b t ht hb ht8 (a + 1 + 1 + 1) rfl hPt gr rfl ⟨hgr.2 0 (by decide), hgr.2 1 (by decide), hgr.2 2 (by decide)⟩
            refine x_callV C (as := [.int (nI n), .int (nI ax)]) (st := []) (hM) kb_X8_readShifts kv_X8_99 dX8_readMatrix_79 rfl rfl (Nat.le_of_ble_eq_true rfl) ⟨by decide, by decide⟩ ⟨by decide, by decide⟩ ko_8 ?_
            clear hM
            rintro _ _ ⟨gs, ⟨rfl, rfl⟩, hgs1, hgs2⟩
            refine x_sig (σ' := x_st σ [(8, 3, nI ((x_sf b t n ax 4 (decide (2 < n) && decide (ax < 3)) (a + 1 + 1 + 1) 0 0 0).1)), (8, 4, nI su), (8, 5, nI fi), (8, 6, nI be), (3, 4, nI Gn.length)] [(9, gs), (4, f4)] []) (x_st_st rfl) ?_
            refine x_aload_n C (i := 0) dX8_readMatrix_82 rfl rfl ?_
            refine x_getR C fr_8_1 kf_X8_21 dX8_readMatrix_83 ?_
            refine x_aload_n C (i := 0) dX8_readMatrix_86 rfl rfl ?_
            refine x_getR C fr_8_2 kf_X8_11 dX8_readMatrix_87 ?_
            have hM := c_X2_addGenerator l Y (x_st σ [(8, 3, nI ((x_sf b t n ax 4 (decide (2 < n) && decide (ax < 3)) (a + 1 + 1 + 1) 0 0 0).1)), (8, 4, nI su), (8, 5, nI fi), (8, 6, nI be), (3, 4, nI Gn.length)] [(9, gs), (4, f4)] []) Gn.length rfl hG8 gs f4 rfl rfl
            refine x_callV C (as := [.ref 9]) (st := []) (hM) kb_X2_addGenerator kv_X8_82 dX8_readMatrix_90 rfl rfl (Nat.le_of_ble_eq_true rfl) ⟨by decide, by decide⟩ ⟨by decide, by decide⟩ ko_3 ?_
            clear hM
            rintro _ _ ⟨rfl, rfl⟩
            refine x_sig (σ' := x_st σ [(8, 3, nI ((x_sf b t n ax 4 (decide (2 < n) && decide (ax < 3)) (a + 1 + 1 + 1) 0 0 0).1)), (8, 4, nI su), (8, 5, nI fi), (8, 6, nI be), (3, 4, nI (Gn.length + 1))] [(9, gs), (4, va_cpy gs f4 0 (Gn.length * 12) 12)] []) (x_st_st rfl) ?_
            refine x_aload_n C (i := 0) dX8_readMatrix_93 rfl rfl ?_
            refine x_iload_n C (i := 2) dX8_readMatrix_94 rfl rfl ?_
            refine x_iload_n C (i := 3) dX8_readMatrix_95 rfl rfl ?_
            have hM := c_X8_remember l Y (x_st σ [(8, 3, nI ((x_sf b t n ax 4 (decide (2 < n) && decide (ax < 3)) (a + 1 + 1 + 1) 0 0 0).1)), (8, 4, nI su), (8, 5, nI fi), (8, 6, nI be), (3, 4, nI (Gn.length + 1))] [(9, gs), (4, va_cpy gs f4 0 (Gn.length * 12) 12)] []) n ax (by omega) (by omega) (by omega) su fi rfl rfl hsu9 be rfl hbe9
            refine x_callV C (as := [.int (nI n), .int (nI ax)]) (st := []) (hM) kb_X8_remember kv_X8_103 dX8_readMatrix_96 rfl rfl (Nat.le_of_ble_eq_true rfl) ⟨by decide, by decide⟩ ⟨by decide, by decide⟩ ko_8 ?_
            clear hM
            rintro _ _ ⟨rfl, rfl⟩
            refine x_sig (σ' := x_st σ [(8, 3, nI ((x_sf b t n ax 4 (decide (2 < n) && decide (ax < 3)) (a + 1 + 1 + 1) 0 0 0).1)), (8, 4, nI (if 1 < n then su + 1 else su)), (8, 5, nI (if 1 < n ∧ su = 0 then n else fi)), (8, 6, nI (if 1 < n ∧ ax < 3 then ax else be)), (3, 4, nI (Gn.length + 1))] [(9, gs), (4, va_cpy gs f4 0 (Gn.length * 12) 12)] []) (x_st_st rfl) ?_
            refine x_iconst C (nI 1) dX8_readMatrix_99 rfl ?_
            refine x_zret C xr xk dX8_readMatrix_100 rfl ?_
            exact hK _ _ (Or.inl ⟨hok, _, _, ⟨rfl, by
              have hmn : x_mn b t a = n := by unfold x_mn; rw [hA, hn]
              rw [hmn, hsfx, hrem]⟩, z_hg_s hgh ⟨fun q h => by rw [hgs1 q h, hgr.1 q h, hrl], fun j h => by
              rw [← hsfx]
              rcases (show j = 0 ∨ j = 1 ∨ j = 2 by omega) with z | z | z
              · subst z; exact hgs2.1
              · subst z; exact hgs2.2.1
              · subst z; exact hgs2.2.2⟩⟩)
          · skip
            exact absurd c56 (z_ne7 hw)
      · skip
        exact absurd c32 (x_nI_m1 (by omega))
    · skip
      have hbad := z_rf1 (su := su) (fi := fi) hA hord
      refine x_istore_n C (i := 2) dX8_readMatrix_29 rfl (by decide) ?_
      refine x_iload_n C (i := 2) dX8_readMatrix_30 rfl rfl ?_
      refine x_iconst C (-1) dX8_readMatrix_31 rfl ?_
      refine x_icmp_ne C 37 dX8_readMatrix_32 (by decide) (fun c32 => ?_) (fun c32 => ?_)
      · skip
        exact absurd rfl c32
      · skip
        refine x_iconst C (nI 0) dX8_readMatrix_35 rfl ?_
        refine x_zret C xr xk dX8_readMatrix_36 rfl ?_
        exact hK _ _ (Or.inr ⟨hbad.1, rfl, by rw [hbad.2]; exact ((congrArg (fun z => x_u z 8 3 (nI (a + 1))) (x_st_in (σ := σ) (F := [(8, 3, nI a), (8, 4, nI su), (8, 5, nI fi), (8, 6, nI be), (3, 4, nI Gn.length)]) (I := [(9, g9), (4, f4)]) (G := []) (And.intro ha (And.intro hsu (And.intro hfi (And.intro hbe (And.intro hG trivial))))) (And.intro h9 (And.intro h4 trivial)) trivial)).trans (x_st_u rfl)).symm⟩)
  · skip
    have hA : x_ma1 b t a = a := if_neg htk
    have hAt := hat
    refine x_if_eqZ C 13 dX8_readMatrix_6 (by decide) (fun c6 => ?_) (fun c6 => absurd c6 (by decide))
    refine x_iconst C (nI 1) dX8_readMatrix_13 rfl ?_
    refine x_istore_n C (i := 1) dX8_readMatrix_14 rfl (by decide) ?_
    refine x_aload_n C (i := 0) dX8_readMatrix_15 rfl rfl ?_
    refine x_getR C fr_8_0 kf_X8_17 dX8_readMatrix_16 ?_
    refine x_aload_n C (i := 0) dX8_readMatrix_19 rfl rfl ?_
    refine x_getI C fi_8_3 kf_X8_25 dX8_readMatrix_20 ?_
    refine x_topI (y := nI a) rfl ?_
    have hM := c_X9_byteAt l Y (x_st σ [(8, 3, nI a), (8, 4, nI su), (8, 5, nI fi), (8, 6, nI be), (3, 4, nI Gn.length)] [(9, g9), (4, f4)] []) a t b ht hb ht8 (by omega)
    refine x_callV C (as := [.int (nI a)]) (st := []) (hM) kb_X9_byteAt kv_X8_70 dX8_readMatrix_23 rfl rfl (Nat.le_of_ble_eq_true rfl) ⟨by decide, by decide⟩ ⟨by decide, by decide⟩ ko_1 ?_
    clear hM
    rintro _ _ ⟨rfl, rfl⟩
    have hM := c_X8_foldOf l Y (x_st σ [(8, 3, nI a), (8, 4, nI su), (8, 5, nI fi), (8, 6, nI be), (3, 4, nI Gn.length)] [(9, g9), (4, f4)] []) (x_lookv b t a)
    refine x_callS C (as := [.int (x_lookv b t a)]) (st := []) (hM) kb_X8_foldOf ks_X8_86 dX8_readMatrix_26 rfl rfl (Nat.le_of_ble_eq_true rfl) ⟨by decide, by decide⟩ ⟨by decide, by decide⟩ ?_
    clear hM
    rintro _ _ (⟨hord, rfl, rfl⟩ | ⟨hord, rfl, rfl⟩)
    · skip
      obtain ⟨n, hn⟩ : ∃ n, x_ordn (x_lookv b t a) = n := ⟨_, rfl⟩
      refine x_topI (y := nI n) (by rw [hn]) ?_
      have hle := x_ord_le (x_lookv b t a)
      rw [hn] at hle
      have hAl := x_isOrd_lt hord
      refine x_istore_n C (i := 2) dX8_readMatrix_29 rfl (by decide) ?_
      refine x_iload_n C (i := 2) dX8_readMatrix_30 rfl rfl ?_
      refine x_iconst C (-1) dX8_readMatrix_31 rfl ?_
      refine x_icmp_ne C 37 dX8_readMatrix_32 (by decide) (fun c32 => ?_) (fun c32 => ?_)
      · skip
        refine x_aload_n C (i := 0) dX8_readMatrix_37 rfl rfl ?_
        refine x_dup C dX8_readMatrix_38 rfl ?_
        refine x_getI C fi_8_3 kf_X8_25 dX8_readMatrix_39 ?_
        refine x_topI (y := nI a) rfl ?_
        refine x_iconst C (nI 1) dX8_readMatrix_42 rfl ?_
        refine x_iaddN C dX8_readMatrix_43 ?_
        refine x_putN C fi_8_3 kf_X8_25 rfl rfl dX8_readMatrix_44 ?_
        refine x_sig (σ' := x_st σ [(8, 3, nI (a + 1)), (8, 4, nI su), (8, 5, nI fi), (8, 6, nI be), (3, 4, nI Gn.length)] [(9, g9), (4, f4)] []) (x_st_u rfl) ?_
        refine x_aload_n C (i := 0) dX8_readMatrix_47 rfl rfl ?_
        refine x_iload_n C (i := 2) dX8_readMatrix_48 rfl rfl ?_
        have hM := c_X8_readAxis l Y (x_st σ [(8, 3, nI (a + 1)), (8, 4, nI su), (8, 5, nI fi), (8, 6, nI be), (3, 4, nI Gn.length)] [(9, g9), (4, f4)] []) n (by omega) (by omega) b t ht hb ht8 (a + 1) rfl (by omega) su fi rfl rfl hsu9 hfi9 hsf
        refine x_callV C (as := [.int (nI n)]) (st := []) (hM) kb_X8_readAxis kv_X8_89 dX8_readMatrix_49 rfl rfl (Nat.le_of_ble_eq_true rfl) ⟨by decide, by decide⟩ ⟨by decide, by decide⟩ ko_8 ?_
        clear hM
        rintro _ _ (⟨hw, rfl, rfl⟩ | ⟨hw, rfl, rfl⟩)
        · skip
          refine x_istore_n C (i := 3) dX8_readMatrix_52 rfl (by decide) ?_
          refine x_iload_n C (i := 3) dX8_readMatrix_53 rfl rfl ?_
          refine x_bipush C (nI 7) dX8_readMatrix_54 rfl ?_
          refine x_icmp_ne C 61 dX8_readMatrix_56 (by decide) (fun c56 => ?_) (fun c56 => ?_)
          · skip
            obtain ⟨ax, haxe, hax9, hrl, hsfx, hok, hrem⟩ := z_rm1 hA hord hn hw c56 hbe9 (Or.inr ⟨htk, rfl⟩)
            rw [haxe]
            have hPt := hAl
            refine x_aload_n C (i := 0) dX8_readMatrix_61 rfl rfl ?_
            refine x_iload_n C (i := 2) dX8_readMatrix_62 rfl rfl ?_
            refine x_iload_n C (i := 3) dX8_readMatrix_63 rfl rfl ?_
            have hM := c_X8_rotationOf l Y (x_st σ [(8, 3, nI (a + 1)), (8, 4, nI su), (8, 5, nI fi), (8, 6, nI be), (3, 4, nI Gn.length)] [(9, g9), (4, f4)] []) n ax (by omega) (by omega)
            refine x_callS C (as := [.int (nI n), .int (nI ax)]) (st := [.ref 8]) (hM) kb_X8_rotationOf ks_X8_92 dX8_readMatrix_64 rfl rfl (Nat.le_of_ble_eq_true rfl) ⟨by decide, by decide⟩ ⟨by decide, by decide⟩ ?_
            clear hM
            rintro _ _ ⟨rfl, rfl⟩
            refine x_aload_n C (i := 0) dX8_readMatrix_67 rfl rfl ?_
            refine x_iload_n C (i := 3) dX8_readMatrix_68 rfl rfl ?_
            have hM := c_X8_turnOf l Y (x_st σ [(8, 3, nI (a + 1)), (8, 4, nI su), (8, 5, nI fi), (8, 6, nI be), (3, 4, nI Gn.length)] [(9, g9), (4, f4)] []) ax be (by omega) rfl hbe9
            refine x_callV C (as := [.int (nI ax)]) (st := [.int (nI (z_ro n ax)), .ref 8]) (hM) kb_X8_turnOf kv_X8_96 dX8_readMatrix_69 rfl rfl (Nat.le_of_ble_eq_true rfl) ⟨by decide, by decide⟩ ⟨by decide, by decide⟩ ko_8 ?_
            clear hM
            rintro _ _ ⟨rfl, rfl⟩
            refine x_iload_n C (i := 1) dX8_readMatrix_72 rfl rfl ?_
            have hM := c_X8_setRotation l Y (x_st σ [(8, 3, nI (a + 1)), (8, 4, nI su), (8, 5, nI fi), (8, 6, nI be), (3, 4, nI Gn.length)] [(9, g9), (4, f4)] []) (z_ro n ax) (z_tf ax be) (nI 1) (z_ro_le n ax) (z_tf_lt ax be) g9 rfl
            refine x_callV C (as := [.int (nI (z_ro n ax)), .int (nI (z_tf ax be)), .int (nI 1)]) (st := []) (hM) kb_X8_setRotation kv_X8_74 dX8_readMatrix_73 rfl rfl (Nat.le_of_ble_eq_true rfl) ⟨by decide, by decide⟩ ⟨by decide, by decide⟩ ko_8 ?_
            clear hM
            rintro _ _ ⟨gr, ⟨rfl, rfl⟩, hgr⟩
            refine x_sig (σ' := x_st σ [(8, 3, nI (a + 1)), (8, 4, nI su), (8, 5, nI fi), (8, 6, nI be), (3, 4, nI Gn.length)] [(9, gr), (4, f4)] []) (x_st_st rfl) ?_
            refine x_aload_n C (i := 0) dX8_readMatrix_76 rfl rfl ?_
            refine x_iload_n C (i := 2) dX8_readMatrix_77 rfl rfl ?_
            refine x_iload_n C (i := 3) dX8_readMatrix_78 rfl rfl ?_
            have hM := c_X8_readShifts l Y (x_st σ [(8, 3, nI (a + 1)), (8, 4, nI su), (8, 5, nI fi), (8, 6, nI be), (3, 4, nI Gn.length)] [(9, gr), (4, f4)] []) n ax (by omega) (by omega) (by omega) b t ht hb ht8 (a + 1) rfl hPt gr rfl ⟨hgr.2 0 (by decide), hgr.2 1 (by decide), hgr.2 2 (by decide)⟩
            refine x_callV C (as := [.int (nI n), .int (nI ax)]) (st := []) (hM) kb_X8_readShifts kv_X8_99 dX8_readMatrix_79 rfl rfl (Nat.le_of_ble_eq_true rfl) ⟨by decide, by decide⟩ ⟨by decide, by decide⟩ ko_8 ?_
            clear hM
            rintro _ _ ⟨gs, ⟨rfl, rfl⟩, hgs1, hgs2⟩
            refine x_sig (σ' := x_st σ [(8, 3, nI ((x_sf b t n ax 4 (decide (2 < n) && decide (ax < 3)) (a + 1) 0 0 0).1)), (8, 4, nI su), (8, 5, nI fi), (8, 6, nI be), (3, 4, nI Gn.length)] [(9, gs), (4, f4)] []) (x_st_st rfl) ?_
            refine x_aload_n C (i := 0) dX8_readMatrix_82 rfl rfl ?_
            refine x_getR C fr_8_1 kf_X8_21 dX8_readMatrix_83 ?_
            refine x_aload_n C (i := 0) dX8_readMatrix_86 rfl rfl ?_
            refine x_getR C fr_8_2 kf_X8_11 dX8_readMatrix_87 ?_
            have hM := c_X2_addGenerator l Y (x_st σ [(8, 3, nI ((x_sf b t n ax 4 (decide (2 < n) && decide (ax < 3)) (a + 1) 0 0 0).1)), (8, 4, nI su), (8, 5, nI fi), (8, 6, nI be), (3, 4, nI Gn.length)] [(9, gs), (4, f4)] []) Gn.length rfl hG8 gs f4 rfl rfl
            refine x_callV C (as := [.ref 9]) (st := []) (hM) kb_X2_addGenerator kv_X8_82 dX8_readMatrix_90 rfl rfl (Nat.le_of_ble_eq_true rfl) ⟨by decide, by decide⟩ ⟨by decide, by decide⟩ ko_3 ?_
            clear hM
            rintro _ _ ⟨rfl, rfl⟩
            refine x_sig (σ' := x_st σ [(8, 3, nI ((x_sf b t n ax 4 (decide (2 < n) && decide (ax < 3)) (a + 1) 0 0 0).1)), (8, 4, nI su), (8, 5, nI fi), (8, 6, nI be), (3, 4, nI (Gn.length + 1))] [(9, gs), (4, va_cpy gs f4 0 (Gn.length * 12) 12)] []) (x_st_st rfl) ?_
            refine x_aload_n C (i := 0) dX8_readMatrix_93 rfl rfl ?_
            refine x_iload_n C (i := 2) dX8_readMatrix_94 rfl rfl ?_
            refine x_iload_n C (i := 3) dX8_readMatrix_95 rfl rfl ?_
            have hM := c_X8_remember l Y (x_st σ [(8, 3, nI ((x_sf b t n ax 4 (decide (2 < n) && decide (ax < 3)) (a + 1) 0 0 0).1)), (8, 4, nI su), (8, 5, nI fi), (8, 6, nI be), (3, 4, nI (Gn.length + 1))] [(9, gs), (4, va_cpy gs f4 0 (Gn.length * 12) 12)] []) n ax (by omega) (by omega) (by omega) su fi rfl rfl hsu9 be rfl hbe9
            refine x_callV C (as := [.int (nI n), .int (nI ax)]) (st := []) (hM) kb_X8_remember kv_X8_103 dX8_readMatrix_96 rfl rfl (Nat.le_of_ble_eq_true rfl) ⟨by decide, by decide⟩ ⟨by decide, by decide⟩ ko_8 ?_
            clear hM
            rintro _ _ ⟨rfl, rfl⟩
            refine x_sig (σ' := x_st σ [(8, 3, nI ((x_sf b t n ax 4 (decide (2 < n) && decide (ax < 3)) (a + 1) 0 0 0).1)), (8, 4, nI (if 1 < n then su + 1 else su)), (8, 5, nI (if 1 < n ∧ su = 0 then n else fi)), (8, 6, nI (if 1 < n ∧ ax < 3 then ax else be)), (3, 4, nI (Gn.length + 1))] [(9, gs), (4, va_cpy gs f4 0 (Gn.length * 12) 12)] []) (x_st_st rfl) ?_
            refine x_iconst C (nI 1) dX8_readMatrix_99 rfl ?_
            refine x_zret C xr xk dX8_readMatrix_100 rfl ?_
            exact hK _ _ (Or.inl ⟨hok, _, _, ⟨rfl, by
              have hmn : x_mn b t a = n := by unfold x_mn; rw [hA, hn]
              rw [hmn, hsfx, hrem]⟩, z_hg_s hgh ⟨fun q h => by rw [hgs1 q h, hgr.1 q h, hrl], fun j h => by
              rw [← hsfx]
              rcases (show j = 0 ∨ j = 1 ∨ j = 2 by omega) with z | z | z
              · subst z; exact hgs2.1
              · subst z; exact hgs2.2.1
              · subst z; exact hgs2.2.2⟩⟩)
          · skip
            have hbad := z_rf2 (su := su) (fi := fi) hA hord hn hw c56
            refine x_iconst C (nI 0) dX8_readMatrix_59 rfl ?_
            refine x_zret C xr xk dX8_readMatrix_60 rfl ?_
            exact hK _ _ (Or.inr ⟨hbad.1, rfl, by rw [hbad.2]; exact ((congrArg (fun z => x_u z 8 3 (nI (a + 1))) (x_st_in (σ := σ) (F := [(8, 3, nI a), (8, 4, nI su), (8, 5, nI fi), (8, 6, nI be), (3, 4, nI Gn.length)]) (I := [(9, g9), (4, f4)]) (G := []) (And.intro ha (And.intro hsu (And.intro hfi (And.intro hbe (And.intro hG trivial))))) (And.intro h9 (And.intro h4 trivial)) trivial)).trans (x_st_u rfl)).symm⟩)
        · skip
          refine x_sig (σ' := x_st σ [(8, 3, nI (a + 1 + 1)), (8, 4, nI su), (8, 5, nI fi), (8, 6, nI be), (3, 4, nI Gn.length)] [(9, g9), (4, f4)] []) (x_st_st rfl) ?_
          refine x_istore_n C (i := 3) dX8_readMatrix_52 rfl (by decide) ?_
          refine x_iload_n C (i := 3) dX8_readMatrix_53 rfl rfl ?_
          refine x_bipush C (nI 7) dX8_readMatrix_54 rfl ?_
          refine x_icmp_ne C 61 dX8_readMatrix_56 (by decide) (fun c56 => ?_) (fun c56 => ?_)
          · skip
            obtain ⟨ax, haxe, hax9, hrl, hsfx, hok, hrem⟩ := z_rm2 (su := su) (fi := fi) hA hord hn hw hbe9 (Or.inr ⟨htk, rfl⟩)
            rw [haxe]
            have hPt := x_axAt_lt hw
            refine x_aload_n C (i := 0) dX8_readMatrix_61 rfl rfl ?_
            refine x_iload_n C (i := 2) dX8_readMatrix_62 rfl rfl ?_
            refine x_iload_n C (i := 3) dX8_readMatrix_63 rfl rfl ?_
            have hM := c_X8_rotationOf l Y (x_st σ [(8, 3, nI (a + 1 + 1)), (8, 4, nI su), (8, 5, nI fi), (8, 6, nI be), (3, 4, nI Gn.length)] [(9, g9), (4, f4)] []) n ax (by omega) (by omega)
            refine x_callS C (as := [.int (nI n), .int (nI ax)]) (st := [.ref 8]) (hM) kb_X8_rotationOf ks_X8_92 dX8_readMatrix_64 rfl rfl (Nat.le_of_ble_eq_true rfl) ⟨by decide, by decide⟩ ⟨by decide, by decide⟩ ?_
            clear hM
            rintro _ _ ⟨rfl, rfl⟩
            refine x_aload_n C (i := 0) dX8_readMatrix_67 rfl rfl ?_
            refine x_iload_n C (i := 3) dX8_readMatrix_68 rfl rfl ?_
            have hM := c_X8_turnOf l Y (x_st σ [(8, 3, nI (a + 1 + 1)), (8, 4, nI su), (8, 5, nI fi), (8, 6, nI be), (3, 4, nI Gn.length)] [(9, g9), (4, f4)] []) ax be (by omega) rfl hbe9
            refine x_callV C (as := [.int (nI ax)]) (st := [.int (nI (z_ro n ax)), .ref 8]) (hM) kb_X8_turnOf kv_X8_96 dX8_readMatrix_69 rfl rfl (Nat.le_of_ble_eq_true rfl) ⟨by decide, by decide⟩ ⟨by decide, by decide⟩ ko_8 ?_
            clear hM
            rintro _ _ ⟨rfl, rfl⟩
            refine x_iload_n C (i := 1) dX8_readMatrix_72 rfl rfl ?_
            have hM := c_X8_setRotation l Y (x_st σ [(8, 3, nI (a + 1 + 1)), (8, 4, nI su), (8, 5, nI fi), (8, 6, nI be), (3, 4, nI Gn.length)] [(9, g9), (4, f4)] []) (z_ro n ax) (z_tf ax be) (nI 1) (z_ro_le n ax) (z_tf_lt ax be) g9 rfl
            refine x_callV C (as := [.int (nI (z_ro n ax)), .int (nI (z_tf ax be)), .int (nI 1)]) (st := []) (hM) kb_X8_setRotation kv_X8_74 dX8_readMatrix_73 rfl rfl (Nat.le_of_ble_eq_true rfl) ⟨by decide, by decide⟩ ⟨by decide, by decide⟩ ko_8 ?_
            clear hM
            rintro _ _ ⟨gr, ⟨rfl, rfl⟩, hgr⟩
            refine x_sig (σ' := x_st σ [(8, 3, nI (a + 1 + 1)), (8, 4, nI su), (8, 5, nI fi), (8, 6, nI be), (3, 4, nI Gn.length)] [(9, gr), (4, f4)] []) (x_st_st rfl) ?_
            refine x_aload_n C (i := 0) dX8_readMatrix_76 rfl rfl ?_
            refine x_iload_n C (i := 2) dX8_readMatrix_77 rfl rfl ?_
            refine x_iload_n C (i := 3) dX8_readMatrix_78 rfl rfl ?_
            have hM := c_X8_readShifts l Y (x_st σ [(8, 3, nI (a + 1 + 1)), (8, 4, nI su), (8, 5, nI fi), (8, 6, nI be), (3, 4, nI Gn.length)] [(9, gr), (4, f4)] []) n ax (by omega) (by omega) (by omega) b t ht hb ht8 (a + 1 + 1) rfl hPt gr rfl ⟨hgr.2 0 (by decide), hgr.2 1 (by decide), hgr.2 2 (by decide)⟩
            refine x_callV C (as := [.int (nI n), .int (nI ax)]) (st := []) (hM) kb_X8_readShifts kv_X8_99 dX8_readMatrix_79 rfl rfl (Nat.le_of_ble_eq_true rfl) ⟨by decide, by decide⟩ ⟨by decide, by decide⟩ ko_8 ?_
            clear hM
            rintro _ _ ⟨gs, ⟨rfl, rfl⟩, hgs1, hgs2⟩
            refine x_sig (σ' := x_st σ [(8, 3, nI ((x_sf b t n ax 4 (decide (2 < n) && decide (ax < 3)) (a + 1 + 1) 0 0 0).1)), (8, 4, nI su), (8, 5, nI fi), (8, 6, nI be), (3, 4, nI Gn.length)] [(9, gs), (4, f4)] []) (x_st_st rfl) ?_
            refine x_aload_n C (i := 0) dX8_readMatrix_82 rfl rfl ?_
            refine x_getR C fr_8_1 kf_X8_21 dX8_readMatrix_83 ?_
            refine x_aload_n C (i := 0) dX8_readMatrix_86 rfl rfl ?_
            refine x_getR C fr_8_2 kf_X8_11 dX8_readMatrix_87 ?_
            have hM := c_X2_addGenerator l Y (x_st σ [(8, 3, nI ((x_sf b t n ax 4 (decide (2 < n) && decide (ax < 3)) (a + 1 + 1) 0 0 0).1)), (8, 4, nI su), (8, 5, nI fi), (8, 6, nI be), (3, 4, nI Gn.length)] [(9, gs), (4, f4)] []) Gn.length rfl hG8 gs f4 rfl rfl
            refine x_callV C (as := [.ref 9]) (st := []) (hM) kb_X2_addGenerator kv_X8_82 dX8_readMatrix_90 rfl rfl (Nat.le_of_ble_eq_true rfl) ⟨by decide, by decide⟩ ⟨by decide, by decide⟩ ko_3 ?_
            clear hM
            rintro _ _ ⟨rfl, rfl⟩
            refine x_sig (σ' := x_st σ [(8, 3, nI ((x_sf b t n ax 4 (decide (2 < n) && decide (ax < 3)) (a + 1 + 1) 0 0 0).1)), (8, 4, nI su), (8, 5, nI fi), (8, 6, nI be), (3, 4, nI (Gn.length + 1))] [(9, gs), (4, va_cpy gs f4 0 (Gn.length * 12) 12)] []) (x_st_st rfl) ?_
            refine x_aload_n C (i := 0) dX8_readMatrix_93 rfl rfl ?_
            refine x_iload_n C (i := 2) dX8_readMatrix_94 rfl rfl ?_
            refine x_iload_n C (i := 3) dX8_readMatrix_95 rfl rfl ?_
            have hM := c_X8_remember l Y (x_st σ [(8, 3, nI ((x_sf b t n ax 4 (decide (2 < n) && decide (ax < 3)) (a + 1 + 1) 0 0 0).1)), (8, 4, nI su), (8, 5, nI fi), (8, 6, nI be), (3, 4, nI (Gn.length + 1))] [(9, gs), (4, va_cpy gs f4 0 (Gn.length * 12) 12)] []) n ax (by omega) (by omega) (by omega) su fi rfl rfl hsu9 be rfl hbe9
            refine x_callV C (as := [.int (nI n), .int (nI ax)]) (st := []) (hM) kb_X8_remember kv_X8_103 dX8_readMatrix_96 rfl rfl (Nat.le_of_ble_eq_true rfl) ⟨by decide, by decide⟩ ⟨by decide, by decide⟩ ko_8 ?_
            clear hM
            rintro _ _ ⟨rfl, rfl⟩
            refine x_sig (σ' := x_st σ [(8, 3, nI ((x_sf b t n ax 4 (decide (2 < n) && decide (ax < 3)) (a + 1 + 1) 0 0 0).1)), (8, 4, nI (if 1 < n then su + 1 else su)), (8, 5, nI (if 1 < n ∧ su = 0 then n else fi)), (8, 6, nI (if 1 < n ∧ ax < 3 then ax else be)), (3, 4, nI (Gn.length + 1))] [(9, gs), (4, va_cpy gs f4 0 (Gn.length * 12) 12)] []) (x_st_st rfl) ?_
            refine x_iconst C (nI 1) dX8_readMatrix_99 rfl ?_
            refine x_zret C xr xk dX8_readMatrix_100 rfl ?_
            exact hK _ _ (Or.inl ⟨hok, _, _, ⟨rfl, by
              have hmn : x_mn b t a = n := by unfold x_mn; rw [hA, hn]
              rw [hmn, hsfx, hrem]⟩, z_hg_s hgh ⟨fun q h => by rw [hgs1 q h, hgr.1 q h, hrl], fun j h => by
              rw [← hsfx]
              rcases (show j = 0 ∨ j = 1 ∨ j = 2 by omega) with z | z | z
              · subst z; exact hgs2.1
              · subst z; exact hgs2.2.1
              · subst z; exact hgs2.2.2⟩⟩)
          · skip
            exact absurd c56 (z_ne7 hw)
      · skip
        exact absurd c32 (x_nI_m1 (by omega))
    · skip
      have hbad := z_rf1 (su := su) (fi := fi) hA hord
      refine x_istore_n C (i := 2) dX8_readMatrix_29 rfl (by decide) ?_
      refine x_iload_n C (i := 2) dX8_readMatrix_30 rfl rfl ?_
      refine x_iconst C (-1) dX8_readMatrix_31 rfl ?_
      refine x_icmp_ne C 37 dX8_readMatrix_32 (by decide) (fun c32 => ?_) (fun c32 => ?_)
      · skip
        exact absurd rfl c32
      · skip
        refine x_iconst C (nI 0) dX8_readMatrix_35 rfl ?_
        refine x_zret C xr xk dX8_readMatrix_36 rfl ?_
        exact hK _ _ (Or.inr ⟨hbad.1, rfl, by rw [hbad.2]; exact ((congrArg (fun z => x_u z 8 3 (nI (a))) (x_st_in (σ := σ) (F := [(8, 3, nI a), (8, 4, nI su), (8, 5, nI fi), (8, 6, nI be), (3, 4, nI Gn.length)]) (I := [(9, g9), (4, f4)]) (G := []) (And.intro ha (And.intro hsu (And.intro hfi (And.intro hbe (And.intro hG trivial))))) (And.intro h9 (And.intro h4 trivial)) trivial)).trans (x_st_u rfl)).symm⟩)
theorem c_X8_readMatrix (l : Launch) (Y : x_Y) (σ : x_S) (b : Nat → Int32) (t : Nat) (ht : σ.1 1 1 = nI t) (hb : σ.1 2 = b) (ht8 : t ≤ 8000) (a : Nat) (ha : σ.1 8 3 = nI a) (hat : a ≤ t) (su fi : Nat) (hsu : σ.1 8 4 = nI su) (hfi : σ.1 8 5 = nI fi) (hsu9 : su ≤ 6) (hfi9 : fi ≤ 6) (hsf : 0 < su → fi = 2 ∨ fi = 3 ∨ fi = 4 ∨ fi = 6) (be : Nat) (hbe : σ.1 8 6 = nI be) (hbe9 : be < 3) (Gn : List x_O) (hG : σ.1 3 4 = nI Gn.length) (hG8 : Gn.length < 8) (f4 : Nat → Int32) (h4 : σ.1 4 = f4) (hgh : z_hg f4 Gn) (g9 : Nat → Int32) (h9 : σ.1 9 = g9) : x_M l yX8_readMatrix cX8_readMatrix 4 (some .boolean) 4 Y [.ref 8] σ (fun r τ => (x_mok b t a su fi = true ∧ ∃ g f, (r = some (.int (x_z true)) ∧ τ = x_st σ [(8, 3, nI (x_msf b t a su fi).1), (8, 4, nI (if 1 < (x_mn b t a) then su + 1 else su)), (8, 5, nI (if 1 < (x_mn b t a) ∧ su = 0 then (x_mn b t a) else fi)), (8, 6, nI (if 1 < (x_mn b t a) ∧ x_man b t a su fi < 3 then x_man b t a su fi else be)), (3, 4, nI (Gn.length + 1))] [(9, g), (4, f)] []) ∧ z_hg f (Gn ++ [(x_mrot b t a su fi be, [nI (x_msf b t a su fi).2.1, nI (x_msf b t a su fi).2.2.1, nI (x_msf b t a su fi).2.2.2])])) ∨ (x_mok b t a su fi = false ∧ r = some (.int (x_z false)) ∧ τ = x_u σ 8 3 (nI (x_mfl b t a)))) := c_X8_readMatrix_K l Y σ b t ht hb ht8 a ha hat su fi hsu hfi hsu9 hfi9 hsf be hbe hbe9 Gn hG hG8 f4 h4 hgh g9 h9 _ (fun _ _ h => h)
