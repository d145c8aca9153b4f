set_option maxRecDepth 100000 in
set_option maxHeartbeats 200000 in
theorem c_X7_clear_K (l : Launch) (Y : x_Y) (σ : x_S) (K : Option Value → x_S → Prop) (hK : ∀ (r : Option Value) (τ : x_S), (∃ g31 g33, (r = none ∧ τ = x_st σ [(21, 8, nI 0), (29, 3, nI 0), (29, 4, x_z false)] [(31, g31), (33, g33)] []) ∧ z_is g31 0 ∧ z_is g33 1) → K r τ) : x_M l yX7_clear cX7_clear 1 none 2 Y [.ref 21] σ K := by
  refine x_start (by decide) (Nat.le_of_ble_eq_true rfl) ?_
  intro xp xe xs xm xg xb xt xc C xr xk
  refine x_sig (σ' := x_st σ [(21, 8, σ.1 21 8), (29, 3, σ.1 29 3), (29, 4, σ.1 29 4)] [(31, σ.1 31), (33, σ.1 33)] []) (x_st_in (And.intro rfl (And.intro rfl (And.intro rfl trivial))) (And.intro rfl (And.intro rfl trivial)) trivial) ?_
  refine x_aload_n C (i := 0) dX7_clear_0 rfl rfl ?_
  refine x_iconst C (nI 0) dX7_clear_1 rfl ?_
  refine x_putN C fi_21_8 kf_X7_42 rfl rfl dX7_clear_2 ?_
  refine x_sig (σ' := x_st σ [(21, 8, nI 0), (29, 3, σ.1 29 3), (29, 4, σ.1 29 4)] [(31, σ.1 31), (33, σ.1 33)] []) (x_st_u rfl) ?_
  refine x_aload_n C (i := 0) dX7_clear_5 rfl rfl ?_
  refine x_getR C fr_21_7 kf_X7_38 dX7_clear_6 ?_
  have hM := c_X5_clear l Y (x_st σ [(21, 8, nI 0), (29, 3, σ.1 29 3), (29, 4, σ.1 29 4)] [(31, σ.1 31), (33, σ.1 33)] [])
  refine x_callV C (as := []) (st := []) (hM) kb_X5_clear kv_X7_46 dX7_clear_9 rfl rfl (Nat.le_of_ble_eq_true rfl) ⟨by decide, by decide⟩ ⟨by decide, by decide⟩ ko_29 ?_
  clear hM
  rintro _ _ ⟨ga, gb, ⟨rfl, rfl⟩, ha, hb⟩
  refine x_sig (σ' := x_st σ [(21, 8, nI 0), (29, 3, nI 0), (29, 4, x_z false)] [(31, ga), (33, gb)] []) (x_st_st rfl) ?_
  refine x_vret C xr xk dX7_clear_12 ?_
  exact hK _ _ ⟨_, _, ⟨rfl, rfl⟩, ha, hb⟩
theorem c_X7_clear (l : Launch) (Y : x_Y) (σ : x_S) : x_M l yX7_clear cX7_clear 1 none 2 Y [.ref 21] σ (fun r τ => ∃ g31 g33, (r = none ∧ τ = x_st σ [(21, 8, nI 0), (29, 3, nI 0), (29, 4, x_z false)] [(31, g31), (33, g33)] []) ∧ z_is g31 0 ∧ z_is g33 1) := c_X7_clear_K l Y σ  _ (fun _ _ h => h)
set_option maxRecDepth 100000 in
set_option maxHeartbeats 200000 in
theorem c_X7_number_K (l : Launch) (Y : x_Y) (σ : x_S) (iq wq : Nat) (n : Nat) (cn sn : Nat → Nat) (hc : ∀ a, a < n → σ.1 24 a = nI (cn a) ∧ cn a ≤ 3000 ∧ x_ab (σ.2 27 a) = lN (sn a) ∧ sn a < 2 ^ 63 ∧ 0 < cn a) (hn9 : n ≤ 3000) (hi : iq < n) (hw : wq < 10) (K : Option Value → x_S → Prop) (hK : ∀ (r : Option Value) (τ : x_S), (r = some (.long (if wq = 3 then lN (cn iq) else if wq = 4 then (σ.1 25 iq).toInt64 else if wq = 5 then (if σ.1 26 iq = 0 then 0 else 1) else if wq = 6 then σ.2 27 iq else if wq = 7 then σ.2 27 iq / lN (Nat.gcd (sn iq) (cn iq)) else if wq = 8 then lN (cn iq / Nat.gcd (sn iq) (cn iq)) else if wq = 9 then σ.2 28 iq else (z_part (σ.1 23 iq) wq).toInt64)) ∧ τ = σ) → K r τ) : x_M l yX7_number cX7_number 3 (some .long) 1 Y [.ref 21, .int (nI iq), .int (nI wq)] σ K := by
  refine x_start (by decide) (Nat.le_of_ble_eq_true rfl) ?_
  intro xp xe xs xm xg xb xt xc C xr xk
  obtain ⟨hc1, hc2, hc3, hc4, hc5⟩ := hc iq hi
  have hg0 : 0 < Nat.gcd (sn iq) (cn iq) := Nat.gcd_pos_of_pos_right _ hc5
  have hg1 : Nat.gcd (sn iq) (cn iq) ≤ cn iq := Nat.le_of_dvd hc5 (Nat.gcd_dvd_right _ _)
  have hgne : ¬ lN (Nat.gcd (sn iq) (cn iq)) = 0 := fun z => by
    have z2 := (pk_lEQ (a := Nat.gcd (sn iq) (cn iq)) (b := 0) (by omega) (by decide)).mp z
    omega
  refine x_iload_n C (i := 2) dX7_number_0 rfl rfl ?_
  by_cases c1_3 : nI wq = nI 3
  · skip
    refine x_topI c1_3 ?_
    refine x_tableIn C 44 dX7_number_1 (by decide) (by decide) rfl (by decide) ?_
    refine x_aload_n C (i := 0) dX7_number_44 rfl rfl ?_
    refine x_getR C fr_21_2 kf_X7_19 dX7_number_45 ?_
    refine x_iload_n C (i := 1) dX7_number_48 rfl rfl ?_
    refine x_ialdN C (by decide) rfl (by decide) dX7_number_49 (by omega) ?_
    refine x_topI (y := nI (cn iq)) hc1 ?_
    refine x_i2l C dX7_number_50 ?_
    refine x_topL (y := lN (cn iq)) (nI_l (by omega)) ?_
    refine x_lret C xr xk dX7_number_51 ?_
    exact hK _ _ ⟨by
          have e9 := (nI_eq (by omega) (by decide)).mp c1_3
          subst e9
          first | rfl | (show _ = some (Value.long (if σ.1 26 iq = 0 then 0 else 1)); rw [if_pos (show σ.1 26 iq = 0 from c66)]; rfl) | (show _ = some (Value.long (if σ.1 26 iq = 0 then 0 else 1)); rw [if_neg (show ¬ σ.1 26 iq = 0 from c66)]; rfl), rfl⟩
  by_cases c1_4 : nI wq = nI 4
  · skip
    refine x_topI c1_4 ?_
    refine x_tableIn C 52 dX7_number_1 (by decide) (by decide) rfl (by decide) ?_
    refine x_aload_n C (i := 0) dX7_number_52 rfl rfl ?_
    refine x_getR C fr_21_3 kf_X7_22 dX7_number_53 ?_
    refine x_iload_n C (i := 1) dX7_number_56 rfl rfl ?_
    refine x_ialdN C (by decide) rfl (by decide) dX7_number_57 (by omega) ?_
    refine x_i2l C dX7_number_58 ?_
    refine x_lret C xr xk dX7_number_59 ?_
    exact hK _ _ ⟨by
          have e9 := (nI_eq (by omega) (by decide)).mp c1_4
          subst e9
          first | rfl | (show _ = some (Value.long (if σ.1 26 iq = 0 then 0 else 1)); rw [if_pos (show σ.1 26 iq = 0 from c66)]; rfl) | (show _ = some (Value.long (if σ.1 26 iq = 0 then 0 else 1)); rw [if_neg (show ¬ σ.1 26 iq = 0 from c66)]; rfl), rfl⟩
  by_cases c1_5 : nI wq = nI 5
  · skip
    refine x_topI c1_5 ?_
    refine x_tableIn C 60 dX7_number_1 (by decide) (by decide) rfl (by decide) ?_
    refine x_aload_n C (i := 0) dX7_number_60 rfl rfl ?_
    refine x_getR C fr_21_4 kf_X7_25 dX7_number_61 ?_
    refine x_iload_n C (i := 1) dX7_number_64 rfl rfl ?_
    refine x_zaldN C (by decide) rfl (by decide) dX7_number_65 (by omega) ?_
    refine x_if_eq C 73 dX7_number_66 (by decide) (fun c66 => ?_) (fun c66 => ?_)
    · skip
      refine x_lconst C (0) dX7_number_73 rfl ?_
      refine x_topL (y := lN 0) rfl ?_
      refine x_lret C xr xk dX7_number_74 ?_
      exact hK _ _ ⟨by
            have e9 := (nI_eq (by omega) (by decide)).mp c1_5
            subst e9
            first | rfl | (show _ = some (Value.long (if σ.1 26 iq = 0 then 0 else 1)); rw [if_pos (show σ.1 26 iq = 0 from c66)]; rfl) | (show _ = some (Value.long (if σ.1 26 iq = 0 then 0 else 1)); rw [if_neg (show ¬ σ.1 26 iq = 0 from c66)]; rfl), rfl⟩
    · skip
      refine x_lconst C (1) dX7_number_69 rfl ?_
      refine x_topL (y := lN 1) rfl ?_
      refine x_goto C 74 dX7_number_70 (by decide) ?_
      refine x_lret C xr xk dX7_number_74 ?_
      exact hK _ _ ⟨by
            have e9 := (nI_eq (by omega) (by decide)).mp c1_5
            subst e9
            first | rfl | (show _ = some (Value.long (if σ.1 26 iq = 0 then 0 else 1)); rw [if_pos (show σ.1 26 iq = 0 from c66)]; rfl) | (show _ = some (Value.long (if σ.1 26 iq = 0 then 0 else 1)); rw [if_neg (show ¬ σ.1 26 iq = 0 from c66)]; rfl), rfl⟩
  by_cases c1_6 : nI wq = nI 6
  · skip
    refine x_topI c1_6 ?_
    refine x_tableIn C 75 dX7_number_1 (by decide) (by decide) rfl (by decide) ?_
    refine x_aload_n C (i := 0) dX7_number_75 rfl rfl ?_
    refine x_getR C fr_21_5 kf_X7_29 dX7_number_76 ?_
    refine x_iload_n C (i := 1) dX7_number_79 rfl rfl ?_
    refine x_laldN C (by decide) rfl (by decide) dX7_number_80 (by omega) ?_
    refine x_lret C xr xk dX7_number_81 ?_
    exact hK _ _ ⟨by
          have e9 := (nI_eq (by omega) (by decide)).mp c1_6
          subst e9
          first | rfl | (show _ = some (Value.long (if σ.1 26 iq = 0 then 0 else 1)); rw [if_pos (show σ.1 26 iq = 0 from c66)]; rfl) | (show _ = some (Value.long (if σ.1 26 iq = 0 then 0 else 1)); rw [if_neg (show ¬ σ.1 26 iq = 0 from c66)]; rfl), rfl⟩
  by_cases c1_7 : nI wq = nI 7
  · skip
    refine x_topI c1_7 ?_
    refine x_tableIn C 82 dX7_number_1 (by decide) (by decide) rfl (by decide) ?_
    refine x_aload_n C (i := 0) dX7_number_82 rfl rfl ?_
    refine x_getR C fr_21_5 kf_X7_29 dX7_number_83 ?_
    refine x_iload_n C (i := 1) dX7_number_86 rfl rfl ?_
    refine x_laldN C (by decide) rfl (by decide) dX7_number_87 (by omega) ?_
    refine x_aload_n C (i := 0) dX7_number_88 rfl rfl ?_
    refine x_getR C fr_21_5 kf_X7_29 dX7_number_89 ?_
    refine x_iload_n C (i := 1) dX7_number_92 rfl rfl ?_
    refine x_laldN C (by decide) rfl (by decide) dX7_number_93 (by omega) ?_
    have hM := c_J9_abs_067f4 l Y σ (σ.2 27 iq)
    refine x_callS C (as := [.long (σ.2 27 iq)]) (st := [.long (σ.2 27 iq)]) (hM) kb_J9_abs_067f4 ks_X7_111 dX7_number_94 rfl rfl (Nat.le_of_ble_eq_true rfl) ⟨by decide, by decide⟩ ⟨by decide, by decide⟩ ?_
    clear hM
    intro r9 τ9 h9
    obtain ⟨rfl, h8⟩ := h9
    rw [h8]
    clear h8 τ9
    refine x_topL (y := lN (sn iq)) hc3 ?_
    refine x_aload_n C (i := 0) dX7_number_97 rfl rfl ?_
    refine x_getR C fr_21_2 kf_X7_19 dX7_number_98 ?_
    refine x_iload_n C (i := 1) dX7_number_101 rfl rfl ?_
    refine x_ialdN C (by decide) rfl (by decide) dX7_number_102 (by omega) ?_
    refine x_topI (y := nI (cn iq)) hc1 ?_
    refine x_i2l C dX7_number_103 ?_
    refine x_topL (y := lN (cn iq)) (nI_l (by omega)) ?_
    have hM := c_X11_commonDivisor l Y σ (sn iq) (cn iq) hc4 (by omega) hc5
    refine x_callSN C (as := [.long (lN (sn iq)), .long (lN (cn iq))]) (st := [.long (σ.2 27 iq)]) (hM) kb_X11_commonDivisor kn_X7_125 dX7_number_104 rfl rfl (Nat.le_of_ble_eq_true rfl) ⟨by decide, by decide⟩ ⟨by decide, by decide⟩ ?_
    clear hM
    intro r9 τ9 h9
    obtain ⟨rfl, h8⟩ := h9
    rw [h8]
    clear h8 τ9
    refine x_ldiv C dX7_number_107 hgne ?_
    refine x_lret C xr xk dX7_number_108 ?_
    exact hK _ _ ⟨by
          have e9 := (nI_eq (by omega) (by decide)).mp c1_7
          subst e9
          first | rfl | (show _ = some (Value.long (if σ.1 26 iq = 0 then 0 else 1)); rw [if_pos (show σ.1 26 iq = 0 from c66)]; rfl) | (show _ = some (Value.long (if σ.1 26 iq = 0 then 0 else 1)); rw [if_neg (show ¬ σ.1 26 iq = 0 from c66)]; rfl), rfl⟩
  by_cases c1_8 : nI wq = nI 8
  · skip
    refine x_topI c1_8 ?_
    refine x_tableIn C 109 dX7_number_1 (by decide) (by decide) rfl (by decide) ?_
    refine x_aload_n C (i := 0) dX7_number_109 rfl rfl ?_
    refine x_getR C fr_21_2 kf_X7_19 dX7_number_110 ?_
    refine x_iload_n C (i := 1) dX7_number_113 rfl rfl ?_
    refine x_ialdN C (by decide) rfl (by decide) dX7_number_114 (by omega) ?_
    refine x_topI (y := nI (cn iq)) hc1 ?_
    refine x_i2l C dX7_number_115 ?_
    refine x_topL (y := lN (cn iq)) (nI_l (by omega)) ?_
    refine x_aload_n C (i := 0) dX7_number_116 rfl rfl ?_
    refine x_getR C fr_21_5 kf_X7_29 dX7_number_117 ?_
    refine x_iload_n C (i := 1) dX7_number_120 rfl rfl ?_
    refine x_laldN C (by decide) rfl (by decide) dX7_number_121 (by omega) ?_
    have hM := c_J9_abs_067f4 l Y σ (σ.2 27 iq)
    refine x_callS C (as := [.long (σ.2 27 iq)]) (st := [.long (lN (cn iq))]) (hM) kb_J9_abs_067f4 ks_X7_111 dX7_number_122 rfl rfl (Nat.le_of_ble_eq_true rfl) ⟨by decide, by decide⟩ ⟨by decide, by decide⟩ ?_
    clear hM
    intro r9 τ9 h9
    obtain ⟨rfl, h8⟩ := h9
    rw [h8]
    clear h8 τ9
    refine x_topL (y := lN (sn iq)) hc3 ?_
    refine x_aload_n C (i := 0) dX7_number_125 rfl rfl ?_
    refine x_getR C fr_21_2 kf_X7_19 dX7_number_126 ?_
    refine x_iload_n C (i := 1) dX7_number_129 rfl rfl ?_
    refine x_ialdN C (by decide) rfl (by decide) dX7_number_130 (by omega) ?_
    refine x_topI (y := nI (cn iq)) hc1 ?_
    refine x_i2l C dX7_number_131 ?_
    refine x_topL (y := lN (cn iq)) (nI_l (by omega)) ?_
    have hM := c_X11_commonDivisor l Y σ (sn iq) (cn iq) hc4 (by omega) hc5
    refine x_callSN C (as := [.long (lN (sn iq)), .long (lN (cn iq))]) (st := [.long (lN (cn iq))]) (hM) kb_X11_commonDivisor kn_X7_125 dX7_number_132 rfl rfl (Nat.le_of_ble_eq_true rfl) ⟨by decide, by decide⟩ ⟨by decide, by decide⟩ ?_
    clear hM
    intro r9 τ9 h9
    obtain ⟨rfl, h8⟩ := h9
    rw [h8]
    clear h8 τ9
    refine x_ldiv C dX7_number_135 hgne ?_
    refine x_topL (y := lN ((cn iq) / (Nat.gcd (sn iq) (cn iq)))) (pk_lDiv (by omega) hg0 (by omega)) ?_
    refine x_lret C xr xk dX7_number_136 ?_
    exact hK _ _ ⟨by
          have e9 := (nI_eq (by omega) (by decide)).mp c1_8
          subst e9
          first | rfl | (show _ = some (Value.long (if σ.1 26 iq = 0 then 0 else 1)); rw [if_pos (show σ.1 26 iq = 0 from c66)]; rfl) | (show _ = some (Value.long (if σ.1 26 iq = 0 then 0 else 1)); rw [if_neg (show ¬ σ.1 26 iq = 0 from c66)]; rfl), rfl⟩
  by_cases c1_9 : nI wq = nI 9
  · skip
    refine x_topI c1_9 ?_
    refine x_tableIn C 137 dX7_number_1 (by decide) (by decide) rfl (by decide) ?_
    refine x_aload_n C (i := 0) dX7_number_137 rfl rfl ?_
    refine x_getR C fr_21_6 kf_X7_32 dX7_number_138 ?_
    refine x_iload_n C (i := 1) dX7_number_141 rfl rfl ?_
    refine x_laldN C (by decide) rfl (by decide) dX7_number_142 (by omega) ?_
    refine x_lret C xr xk dX7_number_143 ?_
    exact hK _ _ ⟨by
          have e9 := (nI_eq (by omega) (by decide)).mp c1_9
          subst e9
          first | rfl | (show _ = some (Value.long (if σ.1 26 iq = 0 then 0 else 1)); rw [if_pos (show σ.1 26 iq = 0 from c66)]; rfl) | (show _ = some (Value.long (if σ.1 26 iq = 0 then 0 else 1)); rw [if_neg (show ¬ σ.1 26 iq = 0 from c66)]; rfl), rfl⟩
  refine x_tdef C 144 dX7_number_1 (fun k9 hk9 hx9 => ?_) (by decide) ?_
  · have hk8 : k9 = 0 ∨ k9 = 1 ∨ k9 = 2 ∨ k9 = 3 ∨ k9 = 4 ∨ k9 = 5 ∨ k9 = 6 := by omega
    rcases hk8 with rfl | rfl | rfl | rfl | rfl | rfl | rfl
    · exact absurd (x_ofInt (n := 3) hx9 (by decide)) c1_3
    · exact absurd (x_ofInt (n := 4) hx9 (by decide)) c1_4
    · exact absurd (x_ofInt (n := 5) hx9 (by decide)) c1_5
    · exact absurd (x_ofInt (n := 6) hx9 (by decide)) c1_6
    · exact absurd (x_ofInt (n := 7) hx9 (by decide)) c1_7
    · exact absurd (x_ofInt (n := 8) hx9 (by decide)) c1_8
    · exact absurd (x_ofInt (n := 9) hx9 (by decide)) c1_9
  refine x_aload_n C (i := 0) dX7_number_144 rfl rfl ?_
  refine x_getR C fr_21_1 kf_X7_15 dX7_number_145 ?_
  refine x_iload_n C (i := 1) dX7_number_148 rfl rfl ?_
  refine x_ialdN C (by decide) rfl (by decide) dX7_number_149 (by omega) ?_
  refine x_iload_n C (i := 2) dX7_number_150 rfl rfl ?_
  have e3 : wq ≠ 3 := fun z => c1_3 (by rw [z])
  have e4 : wq ≠ 4 := fun z => c1_4 (by rw [z])
  have e5 : wq ≠ 5 := fun z => c1_5 (by rw [z])
  have e6 : wq ≠ 6 := fun z => c1_6 (by rw [z])
  have e7 : wq ≠ 7 := fun z => c1_7 (by rw [z])
  have e8 : wq ≠ 8 := fun z => c1_8 (by rw [z])
  have e9 : wq ≠ 9 := fun z => c1_9 (by rw [z])
  have hM := c_X3_part l Y σ (σ.1 23 iq) wq (by omega)
  refine x_callS C (as := [.int (σ.1 23 iq), .int (nI wq)]) (st := []) (hM) kb_X3_part ks_X7_68 dX7_number_151 rfl rfl (Nat.le_of_ble_eq_true rfl) ⟨by decide, by decide⟩ ⟨by decide, by decide⟩ ?_
  clear hM
  intro r9 τ9 h9
  obtain ⟨rfl, h8⟩ := h9
  rw [h8]
  clear h8 τ9
  refine x_i2l C dX7_number_154 ?_
  refine x_lret C xr xk dX7_number_155 ?_
  exact hK _ _ ⟨by rw [if_neg e3, if_neg e4, if_neg e5, if_neg e6, if_neg e7, if_neg e8, if_neg e9], rfl⟩
theorem c_X7_number (l : Launch) (Y : x_Y) (σ : x_S) (iq wq : Nat) (n : Nat) (cn sn : Nat → Nat) (hc : ∀ a, a < n → σ.1 24 a = nI (cn a) ∧ cn a ≤ 3000 ∧ x_ab (σ.2 27 a) = lN (sn a) ∧ sn a < 2 ^ 63 ∧ 0 < cn a) (hn9 : n ≤ 3000) (hi : iq < n) (hw : wq < 10) : x_M l yX7_number cX7_number 3 (some .long) 1 Y [.ref 21, .int (nI iq), .int (nI wq)] σ (fun r τ => r = some (.long (if wq = 3 then lN (cn iq) else if wq = 4 then (σ.1 25 iq).toInt64 else if wq = 5 then (if σ.1 26 iq = 0 then 0 else 1) else if wq = 6 then σ.2 27 iq else if wq = 7 then σ.2 27 iq / lN (Nat.gcd (sn iq) (cn iq)) else if wq = 8 then lN (cn iq / Nat.gcd (sn iq) (cn iq)) else if wq = 9 then σ.2 28 iq else (z_part (σ.1 23 iq) wq).toInt64)) ∧ τ = σ) := c_X7_number_K l Y σ iq wq n cn sn hc hn9 hi hw _ (fun _ _ h => h)
set_option maxRecDepth 100000 in
set_option maxHeartbeats 200000 in
theorem c_X7_countPresentWithin_K (l : Launch) (Y : x_Y) (σ : x_S) (mo : Int32) (n : Nat) (hn : σ.1 21 8 = nI n) (hn9 : n ≤ 3000) (K : Option Value → x_S → Prop) (hK : ∀ (r : Option Value) (τ : x_S), (r = some (.int (nI (y_cnb (fun a => decide (σ.1 26 a = 0) && z_box (z_part (σ.1 23 a) 0) (z_part (σ.1 23 a) 1) (z_part (σ.1 23 a) 2) mo) n))) ∧ τ = σ) → K r τ) : x_M l yX7_countPresentWithin cX7_countPresentWithin 7 (some .int) 1 Y [.ref 21, .int mo] σ K := by
  refine x_start (by decide) (Nat.le_of_ble_eq_true rfl) ?_
  intro xp xe xs xm xg xb xt xc C xr xk
  refine x_iconst C (nI 0) dX7_countPresentWithin_0 rfl ?_
  refine x_istore_n C (i := 2) dX7_countPresentWithin_1 rfl (by decide) ?_
  refine x_iconst C (nI 0) dX7_countPresentWithin_2 rfl ?_
  refine x_istore_n C (i := 3) dX7_countPresentWithin_3 rfl (by decide) ?_
  have lp4 : ∀ (m4 : Nat) (i : Nat) (y : Nat), (n - i) = m4 → (i ≤ n) → (y = y_cnb (fun a => decide (σ.1 26 a = 0) && z_box (z_part (σ.1 23 a) 0) (z_part (σ.1 23 a) 1) (z_part (σ.1 23 a) 2) mo) i) → ∀ L : x_Lo, L.1 0 = some (.ref 21) → L.1 1 = some (.int mo) → L.1 2 = some (.int (nI y)) → L.1 3 = some (.int (nI i)) → x_W xp l xe (x_rm 1) xs xm xg xb xt xc 7 Y 0 0 (MQ xb (x_Q Y K) xg xs 0 0 (x_A Y)) 4 L [] σ := by
    intro m4
    induction m4 using Nat.strongRecOn with
    | _ m4 ih4 =>
      intro i y hm4 hi hy L xl0 xl1 xl2 xl3
      refine x_iload_n C (i := 3) dX7_countPresentWithin_4 rfl xl3 ?_
      refine x_aload_n C (i := 0) dX7_countPresentWithin_5 rfl xl0 ?_
      refine x_getI C fi_21_8 kf_X7_42 dX7_countPresentWithin_6 ?_
      refine x_topI (y := nI n) hn ?_
      refine x_icmp_geN C 79 dX7_countPresentWithin_9 (by decide) (by omega) (by omega) (fun c9 => ?_) (fun c9 => ?_)
      · skip
        have c9' := Nat.not_lt.mpr c9
        obtain rfl : n = i := by omega
        refine x_iload_n C (i := 2) dX7_countPresentWithin_79 rfl xl2 ?_
        refine x_iret C xr xk dX7_countPresentWithin_80 ?_
        exact hK _ _ ⟨by rw [hy], rfl⟩
      · skip
        have c9' := Nat.not_le.mpr c9
        refine x_aload_n C (i := 0) dX7_countPresentWithin_12 rfl xl0 ?_
        refine x_getR C fr_21_1 kf_X7_15 dX7_countPresentWithin_13 ?_
        refine x_iload_n C (i := 3) dX7_countPresentWithin_16 rfl xl3 ?_
        refine x_ialdN C (by decide) rfl (by decide) dX7_countPresentWithin_17 (by omega) ?_
        refine x_iconst C (nI 0) dX7_countPresentWithin_18 rfl ?_
        have hM := c_X3_part l Y σ (σ.1 23 i) 0 (by omega)
        refine x_callS C (as := [.int (σ.1 23 i), .int (nI 0)]) (st := []) (hM) kb_X3_part ks_X7_68 dX7_countPresentWithin_19 rfl rfl (Nat.le_of_ble_eq_true rfl) ⟨by decide, by decide⟩ ⟨by decide, by decide⟩ ?_
        clear hM
        intro r9 τ9 h9
        obtain ⟨rfl, h8⟩ := h9
        rw [h8]
        clear h8 τ9
        refine x_istore C (i := 4) dX7_countPresentWithin_22 (by decide) ?_
        refine x_aload_n C (i := 0) dX7_countPresentWithin_24 rfl xl0 ?_
        refine x_getR C fr_21_1 kf_X7_15 dX7_countPresentWithin_25 ?_
        refine x_iload_n C (i := 3) dX7_countPresentWithin_28 rfl xl3 ?_
        refine x_ialdN C (by decide) rfl (by decide) dX7_countPresentWithin_29 (by omega) ?_
        refine x_iconst C (nI 1) dX7_countPresentWithin_30 rfl ?_
        have hM := c_X3_part l Y σ (σ.1 23 i) 1 (by omega)
        refine x_callS C (as := [.int (σ.1 23 i), .int (nI 1)]) (st := []) (hM) kb_X3_part ks_X7_68 dX7_countPresentWithin_31 rfl rfl (Nat.le_of_ble_eq_true rfl) ⟨by decide, by decide⟩ ⟨by decide, by decide⟩ ?_
        clear hM
        intro r9 τ9 h9
        obtain ⟨rfl, h8⟩ := h9
        rw [h8]
        clear h8 τ9
        refine x_istore C (i := 5) dX7_countPresentWithin_34 (by decide) ?_
        refine x_aload_n C (i := 0) dX7_countPresentWithin_36 rfl xl0 ?_
        refine x_getR C fr_21_1 kf_X7_15 dX7_countPresentWithin_37 ?_
        refine x_iload_n C (i := 3) dX7_countPresentWithin_40 rfl xl3 ?_
        refine x_ialdN C (by decide) rfl (by decide) dX7_countPresentWithin_41 (by omega) ?_
        refine x_iconst C (nI 2) dX7_countPresentWithin_42 rfl ?_
        have hM := c_X3_part l Y σ (σ.1 23 i) 2 (by omega)
        refine x_callS C (as := [.int (σ.1 23 i), .int (nI 2)]) (st := []) (hM) kb_X3_part ks_X7_68 dX7_countPresentWithin_43 rfl rfl (Nat.le_of_ble_eq_true rfl) ⟨by decide, by decide⟩ ⟨by decide, by decide⟩ ?_
        clear hM
        intro r9 τ9 h9
        obtain ⟨rfl, h8⟩ := h9
        rw [h8]
        clear h8 τ9
        refine x_istore C (i := 6) dX7_countPresentWithin_46 (by decide) ?_
        refine x_aload_n C (i := 0) dX7_countPresentWithin_48 rfl xl0 ?_
        refine x_getR C fr_21_4 kf_X7_25 dX7_countPresentWithin_49 ?_
        refine x_iload_n C (i := 3) dX7_countPresentWithin_52 rfl xl3 ?_
        refine x_zaldN C (by decide) rfl (by decide) dX7_countPresentWithin_53 (by omega) ?_
        refine x_if_ne C 73 dX7_countPresentWithin_54 (by decide) (fun c54 => ?_) (fun c54 => ?_)
        · skip
          have hP : (decide (σ.1 26 i = 0) && z_box (z_part (σ.1 23 i) 0) (z_part (σ.1 23 i) 1) (z_part (σ.1 23 i) 2) mo) = false := by rw [decide_eq_false (show ¬ σ.1 26 i = 0 from c54)]; rfl
          refine x_iincN C (i := 3) (b := 1) dX7_countPresentWithin_73 xl3 rfl (by decide) ?_
          refine x_goto C 4 dX7_countPresentWithin_76 (by decide) ?_
          exact ih4 _ (by omega) (i + 1) y rfl (by omega) (by rw [y_cnb_f (P := (fun a => decide (σ.1 26 a = 0) && z_box (z_part (σ.1 23 a) 0) (z_part (σ.1 23 a) 1) (z_part (σ.1 23 a) 2) mo)) hP]; omega) _ xl0 xl1 xl2 rfl
        · skip
          refine x_iload C (i := 4) dX7_countPresentWithin_57 rfl ?_
          refine x_iload C (i := 5) dX7_countPresentWithin_59 rfl ?_
          refine x_iload C (i := 6) dX7_countPresentWithin_61 rfl ?_
          refine x_iload_n C (i := 1) dX7_countPresentWithin_63 rfl xl1 ?_
          have hM := c_X3_isInBox l Y σ (z_part (σ.1 23 i) 0) (z_part (σ.1 23 i) 1) (z_part (σ.1 23 i) 2) mo
          refine x_callS C (as := [.int (z_part (σ.1 23 i) 0), .int (z_part (σ.1 23 i) 1), .int (z_part (σ.1 23 i) 2), .int mo]) (st := []) (hM) kb_X3_isInBox ks_X7_129 dX7_countPresentWithin_64 rfl rfl (Nat.le_of_ble_eq_true rfl) ⟨by decide, by decide⟩ ⟨by decide, by decide⟩ ?_
          clear hM
          intro r9 τ9 h9
          obtain ⟨rfl, h8⟩ := h9
          rw [h8]
          clear h8 τ9
          refine x_if_eqZ C 73 dX7_countPresentWithin_67 (by decide) (fun c67 => ?_) (fun c67 => ?_)
          · skip
            have hP : (decide (σ.1 26 i = 0) && z_box (z_part (σ.1 23 i) 0) (z_part (σ.1 23 i) 1) (z_part (σ.1 23 i) 2) mo) = false := by rw [show z_box (z_part (σ.1 23 i) 0) (z_part (σ.1 23 i) 1) (z_part (σ.1 23 i) 2) mo = false from c67, Bool.and_false]
            refine x_iincN C (i := 3) (b := 1) dX7_countPresentWithin_73 xl3 rfl (by decide) ?_
            refine x_goto C 4 dX7_countPresentWithin_76 (by decide) ?_
            exact ih4 _ (by omega) (i + 1) y rfl (by omega) (by rw [y_cnb_f (P := (fun a => decide (σ.1 26 a = 0) && z_box (z_part (σ.1 23 a) 0) (z_part (σ.1 23 a) 1) (z_part (σ.1 23 a) 2) mo)) hP]; omega) _ xl0 xl1 xl2 rfl
          · skip
            have hP : (decide (σ.1 26 i = 0) && z_box (z_part (σ.1 23 i) 0) (z_part (σ.1 23 i) 1) (z_part (σ.1 23 i) 2) mo) = true := by rw [decide_eq_true (show σ.1 26 i = 0 from c54), show z_box (z_part (σ.1 23 i) 0) (z_part (σ.1 23 i) 1) (z_part (σ.1 23 i) 2) mo = true from c67]; rfl
            refine x_iincN C (i := 2) (b := 1) dX7_countPresentWithin_70 xl2 rfl (by decide) ?_
            refine x_iincN C (i := 3) (b := 1) dX7_countPresentWithin_73 xl3 rfl (by decide) ?_
            refine x_goto C 4 dX7_countPresentWithin_76 (by decide) ?_
            exact ih4 _ (by omega) (i + 1) (y + 1) rfl (by omega) (by rw [y_cnb_t (P := (fun a => decide (σ.1 26 a = 0) && z_box (z_part (σ.1 23 a) 0) (z_part (σ.1 23 a) 1) (z_part (σ.1 23 a) 2) mo)) hP]; omega) _ xl0 xl1 rfl rfl
  exact lp4 _ 0 0 rfl (Nat.zero_le _) rfl _ rfl rfl rfl rfl
theorem c_X7_countPresentWithin (l : Launch) (Y : x_Y) (σ : x_S) (mo : Int32) (n : Nat) (hn : σ.1 21 8 = nI n) (hn9 : n ≤ 3000) : x_M l yX7_countPresentWithin cX7_countPresentWithin 7 (some .int) 1 Y [.ref 21, .int mo] σ (fun r τ => r = some (.int (nI (y_cnb (fun a => decide (σ.1 26 a = 0) && z_box (z_part (σ.1 23 a) 0) (z_part (σ.1 23 a) 1) (z_part (σ.1 23 a) 2) mo) n))) ∧ τ = σ) := c_X7_countPresentWithin_K l Y σ mo n hn hn9 _ (fun _ _ h => h)
set_option maxRecDepth 100000 in
set_option maxHeartbeats 800000 in
theorem c_X7_mergeAll_K (l : Launch) (Y : x_Y) (σ : x_S) (ng : Nat) (hng : σ.1 10 5 = nI ng) (hng9 : ng ≤ 192) (c : Nat) (hc : σ.1 10 4 = nI c) (hc9 : c ≤ 192) (N : Nat) (hN : σ.1 15 3 = nI N) (hN4 : N ≤ 400) (Q : Nat → Nat) (hQ : ∀ i, i < N → z_kd σ c i = nI (Q i) ∧ Q i < 2 ^ 30) (hV : ∀ i, i < N → -10000000 ≤ (σ.1 17 i).toInt ∧ (σ.1 17 i).toInt ≤ 10000000) (K : Option Value → x_S → Prop) (hK : ∀ (r : Option Value) (τ : x_S), (∃ n f23 f24 f25 f26 f27 g28 sp q3 kn g31 g33 g35 g22, (r = none ∧ τ = x_st σ [(21, 8, nI n), (29, 3, q3), (29, 4, x_z kn)] [(31, g31), (33, g33), (23, f23), (24, f24), (25, f25), (26, f26), (35, g35)] [(22, g22), (27, f27), (28, g28)]) ∧ x_ro (z_K1 Q) (z_V1 (σ.1 17)) N n (z_f f23) f24 f27 ∧ (∀ a, a < n → f25 a = z_m1 σ c (f23 a) ∧ f26 a = z_m2 σ ng (f23 a) ∧ g28 a = x_spr (z_K1 Q) (z_V1 (σ.1 17)) (f24 a).toInt64 (f27 a) (z_f f23 a) N ∧ g28 a = lN (sp a) ∧ sp a ≤ 3200000000000 ∧ ∃ j, j < N ∧ f23 a = nI (Q j)) ∧ ((¬ 0 < y_tot (fun a => decide (f26 a = 0) && decide (1 < x_cnt (z_K1 Q) (z_f f23 a) N)) f27 n ∧ kn = false) ∨ (0 < y_tot (fun a => decide (f26 a = 0) && decide (1 < x_cnt (z_K1 Q) (z_f f23 a) N)) f27 n ∧ kn = true ∧ ∀ M, 0 < M → (∀ a, a < n → (fun a => decide (f26 a = 0) && decide (1 < x_cnt (z_K1 Q) (z_f f23 a) N)) a = true → (fun a => x_cnt (z_K1 Q) (z_f f23 a) N) a ∣ M) → z_is g31 (y_abv (fun a => decide (f26 a = 0) && decide (1 < x_cnt (z_K1 Q) (z_f f23 a) N)) (fun a => x_cnt (z_K1 Q) (z_f f23 a) N) sp M n / Nat.gcd (y_abv (fun a => decide (f26 a = 0) && decide (1 < x_cnt (z_K1 Q) (z_f f23 a) N)) (fun a => x_cnt (z_K1 Q) (z_f f23 a) N) sp M n) (M * (y_tot (fun a => decide (f26 a = 0) && decide (1 < x_cnt (z_K1 Q) (z_f f23 a) N)) f27 n).toInt.toNat)) ∧ z_is g33 (M * (y_tot (fun a => decide (f26 a = 0) && decide (1 < x_cnt (z_K1 Q) (z_f f23 a) N)) f27 n).toInt.toNat / Nat.gcd (y_abv (fun a => decide (f26 a = 0) && decide (1 < x_cnt (z_K1 Q) (z_f f23 a) N)) (fun a => x_cnt (z_K1 Q) (z_f f23 a) N) sp M n) (M * (y_tot (fun a => decide (f26 a = 0) && decide (1 < x_cnt (z_K1 Q) (z_f f23 a) N)) f27 n).toInt.toNat))))) → K r τ) : x_M l yX7_mergeAll cX7_mergeAll 3 none 5 Y [.ref 21, .ref 15, .ref 10] σ K := by
  refine x_start (by decide) (Nat.le_of_ble_eq_true rfl) ?_
  intro xp xe xs xm xg xb xt xc C xr xk
  refine x_sig (σ' := x_st σ [(21, 8, σ.1 21 8), (29, 3, σ.1 29 3), (29, 4, σ.1 29 4)] [(31, σ.1 31), (33, σ.1 33), (23, σ.1 23), (24, σ.1 24), (25, σ.1 25), (26, σ.1 26), (35, σ.1 35)] [(22, σ.2 22), (27, σ.2 27), (28, σ.2 28)]) (x_st_in (And.intro rfl (And.intro rfl (And.intro rfl trivial))) (And.intro rfl (And.intro rfl (And.intro rfl (And.intro rfl (And.intro rfl (And.intro rfl (And.intro rfl trivial))))))) (And.intro rfl (And.intro rfl (And.intro rfl trivial)))) ?_
  have hvb : z_vb (z_V1 (σ.1 17)) N := fun i hi => by unfold z_V1; rw [Int32.toInt_toInt64]; exact hV i hi
  refine x_aload_n C (i := 0) dX7_mergeAll_0 rfl rfl ?_
  have hM := c_X7_clear l Y (x_st σ [(21, 8, σ.1 21 8), (29, 3, σ.1 29 3), (29, 4, σ.1 29 4)] [(31, σ.1 31), (33, σ.1 33), (23, σ.1 23), (24, σ.1 24), (25, σ.1 25), (26, σ.1 26), (35, σ.1 35)] [(22, σ.2 22), (27, σ.2 27), (28, σ.2 28)])
  refine x_callV C (as := []) (st := []) (hM) kb_X7_clear kv_X7_49 dX7_mergeAll_1 rfl rfl (Nat.le_of_ble_eq_true rfl) ⟨by decide, by decide⟩ ⟨by decide, by decide⟩ ko_21 ?_
  clear hM
  rintro _ _ ⟨g31, g33, ⟨rfl, rfl⟩, hz31, hz33⟩
  refine x_sig (σ' := x_st σ [(21, 8, nI 0), (29, 3, nI 0), (29, 4, x_z false)] [(31, g31), (33, g33), (23, σ.1 23), (24, σ.1 24), (25, σ.1 25), (26, σ.1 26), (35, σ.1 35)] [(22, σ.2 22), (27, σ.2 27), (28, σ.2 28)]) (x_st_st rfl) ?_
  refine x_aload_n C (i := 0) dX7_mergeAll_4 rfl rfl ?_
  refine x_aload_n C (i := 1) dX7_mergeAll_5 rfl rfl ?_
  refine x_aload_n C (i := 2) dX7_mergeAll_6 rfl rfl ?_
  have hM := c_X7_sortByKind l Y (x_st σ [(21, 8, nI 0), (29, 3, nI 0), (29, 4, x_z false)] [(31, g31), (33, g33), (23, σ.1 23), (24, σ.1 24), (25, σ.1 25), (26, σ.1 26), (35, σ.1 35)] [(22, σ.2 22), (27, σ.2 27), (28, σ.2 28)]) c hc hc9 N hN (by omega) Q hQ
  refine x_callV C (as := [.ref 15, .ref 10]) (st := []) (hM) kb_X7_sortByKind kv_X7_50 dX7_mergeAll_7 rfl rfl (Nat.le_of_ble_eq_true rfl) ⟨by decide, by decide⟩ ⟨by decide, by decide⟩ ko_21 ?_
  clear hM
  rintro _ _ ⟨g0, P, ⟨rfl, rfl⟩, hl, hpm, hs⟩
  refine x_sig (σ' := x_st σ [(21, 8, nI 0), (29, 3, nI 0), (29, 4, x_z false)] [(31, g31), (33, g33), (23, σ.1 23), (24, σ.1 24), (25, σ.1 25), (26, σ.1 26), (35, σ.1 35)] [(22, g0), (27, σ.2 27), (28, σ.2 28)]) (x_st_st rfl) ?_
  refine x_aload_n C (i := 0) dX7_mergeAll_10 rfl rfl ?_
  refine x_aload_n C (i := 1) dX7_mergeAll_11 rfl rfl ?_
  refine x_aload_n C (i := 2) dX7_mergeAll_12 rfl rfl ?_
  have hM := c_X7_gather l Y (x_st σ [(21, 8, nI 0), (29, 3, nI 0), (29, 4, x_z false)] [(31, g31), (33, g33), (23, σ.1 23), (24, σ.1 24), (25, σ.1 25), (26, σ.1 26), (35, σ.1 35)] [(22, g0), (27, σ.2 27), (28, σ.2 28)]) N hN (by omega) P g0 rfl hl hs (fun j hj => (z_pe_in (by omega) hpm j hj).1) ng hng hng9 c hc hc9 rfl
  refine x_callV C (as := [.ref 15, .ref 10]) (st := []) (hM) kb_X7_gather kv_X7_54 dX7_mergeAll_13 rfl rfl (Nat.le_of_ble_eq_true rfl) ⟨by decide, by decide⟩ ⟨by decide, by decide⟩ ko_21 ?_
  clear hM
  rintro _ _ ⟨n, f23, f24, f25, f26, f27, f28, ⟨rfl, rfl⟩, hro, hg2, hrq⟩
  refine x_sig (σ' := x_st σ [(21, 8, nI n), (29, 3, nI 0), (29, 4, x_z false)] [(31, g31), (33, g33), (23, f23), (24, f24), (25, f25), (26, f26), (35, σ.1 35)] [(22, g0), (27, f27), (28, f28)]) (x_st_st rfl) ?_
  refine x_aload_n C (i := 0) dX7_mergeAll_16 rfl rfl ?_
  refine x_aload_n C (i := 1) dX7_mergeAll_17 rfl rfl ?_
  have hM := c_X7_addSpreads l Y (x_st σ [(21, 8, nI n), (29, 3, nI 0), (29, 4, x_z false)] [(31, g31), (33, g33), (23, f23), (24, f24), (25, f25), (26, f26), (35, σ.1 35)] [(22, g0), (27, f27), (28, f28)]) N hN (by omega) P g0 rfl hl hs (fun j hj => (z_pe_in (by omega) hpm j hj).1) n f23 f24 f27 f28 rfl rfl rfl hro hrq (fun r hr => (hg2 r hr).2.2)
  refine x_callV C (as := [.ref 15]) (st := []) (hM) kb_X7_addSpreads kv_X7_57 dX7_mergeAll_18 rfl rfl (Nat.le_of_ble_eq_true rfl) ⟨by decide, by decide⟩ ⟨by decide, by decide⟩ ko_21 ?_
  clear hM
  rintro _ _ ⟨g28, ⟨rfl, rfl⟩, hsp⟩
  refine x_sig (σ' := x_st σ [(21, 8, nI n), (29, 3, nI 0), (29, 4, x_z false)] [(31, g31), (33, g33), (23, f23), (24, f24), (25, f25), (26, f26), (35, σ.1 35)] [(22, g0), (27, f27), (28, g28)]) (x_st_st rfl) ?_
  have hro1 := z_pe_ro (by omega) hpm hro
  obtain ⟨hr1, hr2, hr3, hr4⟩ := z_rows hro1 hN4 hvb
  have hnN := hro1.1
  have hsp1 : ∀ a, a < n → g28 a = x_spr (z_K1 Q) (z_V1 (σ.1 17)) (f24 a).toInt64 (f27 a) (z_f f23 a) N := fun a ha => by rw [← z_pe_spr (by omega) hpm]; exact hsp a ha
  have hspn : ∀ a, a < n → g28 a = lN (g28 a).toInt.toNat ∧ (g28 a).toInt.toNat ≤ 3200000000000 := fun a ha => by
    obtain ⟨m, h1, h2⟩ := hr3 a ha
    have h3 : g28 a = lN m := (hsp1 a ha).trans h1
    have h4 : (g28 a).toInt.toNat = m := by rw [h3, pf_lI (by omega)]; exact Int.toNat_natCast m
    rw [h4]
    exact ⟨h3, h2⟩
  have hrow : ∀ a, a < n → f24 a = nI (x_cnt (z_K1 Q) (z_f f23 a) N) ∧ 0 < x_cnt (z_K1 Q) (z_f f23 a) N ∧ x_cnt (z_K1 Q) (z_f f23 a) N ≤ 3000 ∧ g28 a = lN (g28 a).toInt.toNat ∧ (g28 a).toInt.toNat < 2 ^ 45 := fun a ha => ⟨(hr1 a ha).1, (hr1 a ha).2.1, by have := (hr1 a ha).2.2; omega, (hspn a ha).1, by have := (hspn a ha).2; omega⟩
  have hTT := z_tot_T (ct := (fun a => decide (f26 a = 0) && decide (1 < x_cnt (z_K1 Q) (z_f f23 a) N))) (n := n) (by omega) hr2
  have hTn := z_totn (ct := (fun a => decide (f26 a = 0) && decide (1 < x_cnt (z_K1 Q) (z_f f23 a) N))) (n := n) (by omega) hr2
  have hssp := z_ssp_b (ct := (fun a => decide (f26 a = 0) && decide (1 < x_cnt (z_K1 Q) (z_f f23 a) N))) (sp := (fun a => (g28 a).toInt.toNat)) (fun a ha => (hspn a ha).2)
  have hbig := z_big hr4 (Nat.le_trans hssp (Nat.mul_le_mul_right _ (show n ≤ 400 by omega))) hTn
  refine x_aload_n C (i := 0) dX7_mergeAll_21 rfl rfl ?_
  have hM := c_X7_makeQuotient l Y (x_st σ [(21, 8, nI n), (29, 3, nI 0), (29, 4, x_z false)] [(31, g31), (33, g33), (23, f23), (24, f24), (25, f25), (26, f26), (35, σ.1 35)] [(22, g0), (27, f27), (28, g28)]) n rfl (by omega) (fun a => x_cnt (z_K1 Q) (z_f f23 a) N) (fun a => (g28 a).toInt.toNat) hrow (y_tot (fun a => decide (f26 a = 0) && decide (1 < x_cnt (z_K1 Q) (z_f f23 a) N)) f27 n).toInt.toNat (z_prod (fun a => x_cnt (z_K1 Q) (z_f f23 a) N) n) (fun z => ⟨(hTT z).1, (hTT z).2.1, by have := (hTT z).2.2; omega⟩) (fun a ha _ => z_prod_dv ha) (z_prod_pos (fun a ha => (hrow a ha).2.1)) hbig rfl g31 g33 rfl rfl hz31 hz33
  refine x_callV C (as := []) (st := []) (hM) kb_X7_makeQuotient kv_X7_61 dX7_mergeAll_22 rfl rfl (Nat.le_of_ble_eq_true rfl) ⟨by decide, by decide⟩ ⟨by decide, by decide⟩ ko_21 ?_
  clear hM
  rintro _ _ (⟨hz, gs, q4, e31, e33, e35, ⟨rfl, rfl⟩, hq4⟩ | ⟨hz, gs, e31, e33, e35, ⟨rfl, rfl⟩, hMM⟩)
  · skip
    refine x_sig (σ' := x_st σ [(21, 8, nI n), (29, 3, nI gs), (29, 4, q4)] [(31, e31), (33, e33), (23, f23), (24, f24), (25, f25), (26, f26), (35, e35)] [(22, g0), (27, f27), (28, g28)]) (x_st_st rfl) ?_
    refine x_vret C xr xk dX7_mergeAll_25 ?_
    exact hK _ _ ⟨n, f23, f24, f25, f26, f27, g28, _, _, false, _, _, _, _, ⟨rfl, by rw [hq4]; rfl⟩, hro1, (fun a ha => by
      obtain ⟨j, hj, e⟩ := hrq.1 a ha
      obtain ⟨h7, h8⟩ := z_pe_in (by omega) hpm j hj
      exact ⟨(hg2 a ha).1, (hg2 a ha).2.1, hsp1 a ha, (hspn a ha).1, (hspn a ha).2, P j % 4096, h7, by rw [e]; conv => lhs; rw [h8]; rw [(z_S_d (Q := Q) (by omega : P j % 4096 < 4096)).1]⟩), Or.inl ⟨hz, rfl⟩⟩
  · skip
    refine x_sig (σ' := x_st σ [(21, 8, nI n), (29, 3, nI gs), (29, 4, x_z true)] [(31, e31), (33, e33), (23, f23), (24, f24), (25, f25), (26, f26), (35, e35)] [(22, g0), (27, f27), (28, g28)]) (x_st_st rfl) ?_
    refine x_vret C xr xk dX7_mergeAll_25 ?_
    exact hK _ _ ⟨n, f23, f24, f25, f26, f27, g28, _, _, true, _, _, _, _, ⟨rfl, rfl⟩, hro1, (fun a ha => by
      obtain ⟨j, hj, e⟩ := hrq.1 a ha
      obtain ⟨h7, h8⟩ := z_pe_in (by omega) hpm j hj
      exact ⟨(hg2 a ha).1, (hg2 a ha).2.1, hsp1 a ha, (hspn a ha).1, (hspn a ha).2, P j % 4096, h7, by rw [e]; conv => lhs; rw [h8]; rw [(z_S_d (Q := Q) (by omega : P j % 4096 < 4096)).1]⟩), Or.inr ⟨hz, rfl, hMM⟩⟩
theorem c_X7_mergeAll (l : Launch) (Y : x_Y) (σ : x_S) (ng : Nat) (hng : σ.1 10 5 = nI ng) (hng9 : ng ≤ 192) (c : Nat) (hc : σ.1 10 4 = nI c) (hc9 : c ≤ 192) (N : Nat) (hN : σ.1 15 3 = nI N) (hN4 : N ≤ 400) (Q : Nat → Nat) (hQ : ∀ i, i < N → z_kd σ c i = nI (Q i) ∧ Q i < 2 ^ 30) (hV : ∀ i, i < N → -10000000 ≤ (σ.1 17 i).toInt ∧ (σ.1 17 i).toInt ≤ 10000000) : x_M l yX7_mergeAll cX7_mergeAll 3 none 5 Y [.ref 21, .ref 15, .ref 10] σ (fun r τ => ∃ n f23 f24 f25 f26 f27 g28 sp q3 kn g31 g33 g35 g22, (r = none ∧ τ = x_st σ [(21, 8, nI n), (29, 3, q3), (29, 4, x_z kn)] [(31, g31), (33, g33), (23, f23), (24, f24), (25, f25), (26, f26), (35, g35)] [(22, g22), (27, f27), (28, g28)]) ∧ x_ro (z_K1 Q) (z_V1 (σ.1 17)) N n (z_f f23) f24 f27 ∧ (∀ a, a < n → f25 a = z_m1 σ c (f23 a) ∧ f26 a = z_m2 σ ng (f23 a) ∧ g28 a = x_spr (z_K1 Q) (z_V1 (σ.1 17)) (f24 a).toInt64 (f27 a) (z_f f23 a) N ∧ g28 a = lN (sp a) ∧ sp a ≤ 3200000000000 ∧ ∃ j, j < N ∧ f23 a = nI (Q j)) ∧ ((¬ 0 < y_tot (fun a => decide (f26 a = 0) && decide (1 < x_cnt (z_K1 Q) (z_f f23 a) N)) f27 n ∧ kn = false) ∨ (0 < y_tot (fun a => decide (f26 a = 0) && decide (1 < x_cnt (z_K1 Q) (z_f f23 a) N)) f27 n ∧ kn = true ∧ ∀ M, 0 < M → (∀ a, a < n → (fun a => decide (f26 a = 0) && decide (1 < x_cnt (z_K1 Q) (z_f f23 a) N)) a = true → (fun a => x_cnt (z_K1 Q) (z_f f23 a) N) a ∣ M) → z_is g31 (y_abv (fun a => decide (f26 a = 0) && decide (1 < x_cnt (z_K1 Q) (z_f f23 a) N)) (fun a => x_cnt (z_K1 Q) (z_f f23 a) N) sp M n / Nat.gcd (y_abv (fun a => decide (f26 a = 0) && decide (1 < x_cnt (z_K1 Q) (z_f f23 a) N)) (fun a => x_cnt (z_K1 Q) (z_f f23 a) N) sp M n) (M * (y_tot (fun a => decide (f26 a = 0) && decide (1 < x_cnt (z_K1 Q) (z_f f23 a) N)) f27 n).toInt.toNat)) ∧ z_is g33 (M * (y_tot (fun a => decide (f26 a = 0) && decide (1 < x_cnt (z_K1 Q) (z_f f23 a) N)) f27 n).toInt.toNat / Nat.gcd (y_abv (fun a => decide (f26 a = 0) && decide (1 < x_cnt (z_K1 Q) (z_f f23 a) N)) (fun a => x_cnt (z_K1 Q) (z_f f23 a) N) sp M n) (M * (y_tot (fun a => decide (f26 a = 0) && decide (1 < x_cnt (z_K1 Q) (z_f f23 a) N)) f27 n).toInt.toNat))))) := c_X7_mergeAll_K l Y σ ng hng hng9 c hc hc9 N hN hN4 Q hQ hV _ (fun _ _ h => h)
