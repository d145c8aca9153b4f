set_option maxRecDepth 100000 in
set_option maxHeartbeats 200000 in
theorem c_X12_common_K (l : Launch) (Y : x_Y) (σ : x_S) (a : Int64) (a0 b : Nat) (ha : x_ab a = lN a0) (ha9 : a0 < 2 ^ 63) (hb9 : b < 2 ^ 63) (K : Option Value → x_S → Prop) (hK : ∀ (r : Option Value) (τ : x_S), (r = some (.long (lN (Nat.gcd a0 b))) ∧ τ = σ) → K r τ) : x_M l yX12_common cX12_common 10 (some .long) 0 Y [.long a, .long (lN b)] σ K := by
  refine x_start (by decide) (Nat.le_of_ble_eq_true rfl) ?_
  intro xp xe xs xm xg xb xt xc C xr xk
  refine x_lload_n C (i := 0) dX12_common_0 rfl rfl ?_
  refine x_lconst C (0) dX12_common_1 rfl ?_
  refine x_topL (y := lN 0) rfl ?_
  refine x_lcmp C dX12_common_2 ?_
  refine x_jf_ge C 11 dX12_common_3 (by decide) (fun c3 => ?_) (fun c3 => ?_)
  · skip
    have c3 := (lg_cmp_ge _ _).mp c3
    have c3' := Int64.not_lt.mpr c3
    refine x_lload_n C (i := 0) dX12_common_11 rfl rfl ?_
    refine x_topL (y := lN a0) (by rw [← ha]; exact (if_neg (c := a < 0) c3').symm) ?_
    refine x_lstore C (i := 4) dX12_common_12 (by decide) ?_
    refine x_lload_n C (i := 2) dX12_common_14 rfl rfl ?_
    refine x_lstore C (i := 6) dX12_common_15 (by decide) ?_
    have lp17 : ∀ (m17 : Nat) (u : Nat) (w : Nat), (w) = m17 → (u < 2 ^ 63) → (w < 2 ^ 63) → (Nat.gcd u w = Nat.gcd a0 b) → ∀ L : x_Lo, L.2 4 = some (lN u) → L.2 6 = some (lN w) → x_W xp l xe (x_rm 0) xs xm xg xb xt xc 10 Y 0 0 (MQ xb (x_Q Y K) xg xs 0 0 (x_A Y)) 17 L [] σ := by
      intro m17
      induction m17 using Nat.strongRecOn with
      | _ m17 ih17 =>
        intro u w hm17 hu hw hg L xl4 xl6
        refine x_lload C (i := 6) dX12_common_17 xl6 ?_
        refine x_lconst C (0) dX12_common_19 rfl ?_
        refine x_topL (y := lN 0) rfl ?_
        refine x_lcmp C dX12_common_20 ?_
        refine x_if_eq C 42 dX12_common_21 (by decide) (fun c21 => ?_) (fun c21 => ?_)
        · skip
          have c21 := (lg_cmp_eq _ _).mp c21
          have hw0 := (pk_lEQ hw (by decide)).mp c21
          subst hw0
          rw [Nat.gcd_zero_right] at hg
          refine x_lload C (i := 4) dX12_common_42 xl4 ?_
          refine x_lret C xr xk dX12_common_44 ?_
          exact hK _ _ ⟨by rw [← hg], rfl⟩
        · skip
          have c21 := fun z => c21 ((lg_cmp_eq _ _).mpr z)
          have hw0 : 0 < w := Nat.pos_of_ne_zero (fun z => c21 (by rw [z]))
          refine x_lload C (i := 4) dX12_common_24 xl4 ?_
          refine x_lload C (i := 6) dX12_common_26 xl6 ?_
          refine x_lrem C dX12_common_28 c21 ?_
          refine x_topL (y := lN (u % w)) (pk_lRem hu hw0 hw) ?_
          refine x_lstore C (i := 8) dX12_common_29 (by decide) ?_
          refine x_lload C (i := 6) dX12_common_31 xl6 ?_
          refine x_lstore C (i := 4) dX12_common_33 (by decide) ?_
          refine x_lload C (i := 8) dX12_common_35 rfl ?_
          refine x_lstore C (i := 6) dX12_common_37 (by decide) ?_
          refine x_goto C 17 dX12_common_39 (by decide) ?_
          exact ih17 _ (by have := Nat.mod_lt u hw0; omega) w (u % w) rfl hw (Nat.lt_trans (Nat.mod_lt u hw0) hw) (by rw [← hg, Nat.gcd_comm u w, Nat.gcd_rec w u, Nat.gcd_comm]) _ rfl rfl
    exact lp17 _ a0 b rfl ha9 hb9 rfl _ rfl rfl
  · skip
    have c3 := (lg_cmp_lt _ _).mp c3
    have c3' := Int64.not_le.mpr c3
    refine x_lload_n C (i := 0) dX12_common_6 rfl rfl ?_
    refine x_lneg C dX12_common_7 ?_
    refine x_topL (y := lN a0) (by rw [← ha]; exact (if_pos (c := a < 0) c3).symm) ?_
    refine x_goto C 12 dX12_common_8 (by decide) ?_
    refine x_lstore C (i := 4) dX12_common_12 (by decide) ?_
    refine x_lload_n C (i := 2) dX12_common_14 rfl rfl ?_
    refine x_lstore C (i := 6) dX12_common_15 (by decide) ?_
    have lp17 : ∀ (m17 : Nat) (u : Nat) (w : Nat), (w) = m17 → (u < 2 ^ 63) → (w < 2 ^ 63) → (Nat.gcd u w = Nat.gcd a0 b) → ∀ L : x_Lo, L.2 4 = some (lN u) → L.2 6 = some (lN w) → x_W xp l xe (x_rm 0) xs xm xg xb xt xc 10 Y 0 0 (MQ xb (x_Q Y K) xg xs 0 0 (x_A Y)) 17 L [] σ := by
      intro m17
      induction m17 using Nat.strongRecOn with
      | _ m17 ih17 =>
        intro u w hm17 hu hw hg L xl4 xl6
        refine x_lload C (i := 6) dX12_common_17 xl6 ?_
        refine x_lconst C (0) dX12_common_19 rfl ?_
        refine x_topL (y := lN 0) rfl ?_
        refine x_lcmp C dX12_common_20 ?_
        refine x_if_eq C 42 dX12_common_21 (by decide) (fun c21 => ?_) (fun c21 => ?_)
        · skip
          have c21 := (lg_cmp_eq _ _).mp c21
          have hw0 := (pk_lEQ hw (by decide)).mp c21
          subst hw0
          rw [Nat.gcd_zero_right] at hg
          refine x_lload C (i := 4) dX12_common_42 xl4 ?_
          refine x_lret C xr xk dX12_common_44 ?_
          exact hK _ _ ⟨by rw [← hg], rfl⟩
        · skip
          have c21 := fun z => c21 ((lg_cmp_eq _ _).mpr z)
          have hw0 : 0 < w := Nat.pos_of_ne_zero (fun z => c21 (by rw [z]))
          refine x_lload C (i := 4) dX12_common_24 xl4 ?_
          refine x_lload C (i := 6) dX12_common_26 xl6 ?_
          refine x_lrem C dX12_common_28 c21 ?_
          refine x_topL (y := lN (u % w)) (pk_lRem hu hw0 hw) ?_
          refine x_lstore C (i := 8) dX12_common_29 (by decide) ?_
          refine x_lload C (i := 6) dX12_common_31 xl6 ?_
          refine x_lstore C (i := 4) dX12_common_33 (by decide) ?_
          refine x_lload C (i := 8) dX12_common_35 rfl ?_
          refine x_lstore C (i := 6) dX12_common_37 (by decide) ?_
          refine x_goto C 17 dX12_common_39 (by decide) ?_
          exact ih17 _ (by have := Nat.mod_lt u hw0; omega) w (u % w) rfl hw (Nat.lt_trans (Nat.mod_lt u hw0) hw) (by rw [← hg, Nat.gcd_comm u w, Nat.gcd_rec w u, Nat.gcd_comm]) _ rfl rfl
    exact lp17 _ a0 b rfl ha9 hb9 rfl _ rfl rfl
theorem c_X12_common (l : Launch) (Y : x_Y) (σ : x_S) (a : Int64) (a0 b : Nat) (ha : x_ab a = lN a0) (ha9 : a0 < 2 ^ 63) (hb9 : b < 2 ^ 63) : x_M l yX12_common cX12_common 10 (some .long) 0 Y [.long a, .long (lN b)] σ (fun r τ => r = some (.long (lN (Nat.gcd a0 b))) ∧ τ = σ) := c_X12_common_K l Y σ a a0 b ha ha9 hb9 _ (fun _ _ h => h)
set_option maxRecDepth 100000 in
set_option maxHeartbeats 200000 in
theorem c_X12_row_K (l : Launch) (Y : x_Y) (σ : x_S) (i w : Int32) (n : Nat) (hn : σ.1 38 29 = nI n) (hn9 : n ≤ 3000) (cn sn : Nat → Nat) (hc : ∀ a, a < n → σ.1 55 a = nI (cn a) ∧ cn a ≤ 3000 ∧ x_ab (σ.2 58 a) = lN (sn a) ∧ sn a < 2 ^ 63 ∧ 0 < cn a) (K : Option Value → x_S → Prop) (hK : ∀ (r : Option Value) (τ : x_S), ((∃ iq wq, iq < n ∧ wq < 10 ∧ i = nI iq ∧ w = nI wq ∧ r = some (.long (if wq = 3 then lN (cn iq) else if wq = 4 then (σ.1 56 iq).toInt64 else if wq = 5 then (if σ.1 57 iq = 0 then 0 else 1) else if wq = 6 then σ.2 58 iq else if wq = 7 then σ.2 58 iq / lN (Nat.gcd (sn iq) (cn iq)) else if wq = 8 then lN (cn iq / Nat.gcd (sn iq) (cn iq)) else if wq = 9 then σ.2 59 iq else (x_part (σ.2 54 iq) wq).toInt64)) ∧ τ = x_u σ 38 0 (nI 0)) ∨ (¬ (x_rng i n ∧ x_rng w 10) ∧ r = some (.long 0) ∧ τ = x_u σ 38 0 (nI 1))) → K r τ) : x_M l yX12_row cX12_row 5 (some .long) 1 Y [.ref 38, .int i, .int w] σ K := by
  refine x_start (by decide) (Nat.le_of_ble_eq_true rfl) ?_
  intro xp xe xs xm xg xb xt xc C xr xk
  refine x_aload_n C (i := 0) dX12_row_0 rfl rfl ?_
  refine x_iload_n C (i := 1) dX12_row_1 rfl rfl ?_
  refine x_iconst C (nI 0) dX12_row_2 rfl ?_
  refine x_aload_n C (i := 0) dX12_row_3 rfl rfl ?_
  refine x_getI C fi_38_29 kf_X12_195 dX12_row_4 ?_
  refine x_topI (y := nI n) hn ?_
  refine x_iconst C (nI 1) dX12_row_7 rfl ?_
  refine x_isub C dX12_row_8 ?_
  have hM := c_X12_in l Y σ i (nI 0) ((nI n) - (nI 1))
  refine x_callS C (as := [.int i, .int (nI 0), .int ((nI n) - (nI 1))]) (st := [.ref 38]) (hM) kb_X12_in ks_X12_96 dX12_row_9 rfl rfl (Nat.le_of_ble_eq_true rfl) ⟨by decide, by decide⟩ ⟨by decide, by decide⟩ ?_
  clear hM
  intro r9 τ9 h9
  obtain ⟨rfl, h8⟩ := h9
  rw [h8]
  clear h8 τ9
  refine x_if_eqZ C 29 dX12_row_12 (by decide) (fun c12 => ?_) (fun c12 => ?_)
  · skip
    have hz : ¬ (x_rng i n ∧ x_rng w 10) := fun z => x_rng_not (by omega) c12 z.1
    refine x_iconst C (nI 0) dX12_row_29 rfl ?_
    have hM := c_X12_goes l Y σ false
    refine x_callV C (as := [.int (x_z false)]) (st := []) (hM) kb_X12_goes kv_X12_92 dX12_row_30 rfl rfl (Nat.le_of_ble_eq_true rfl) ⟨by decide, by decide⟩ ⟨by decide, by decide⟩ ko_38 ?_
    clear hM
    rintro _ _ ⟨rfl, rfl⟩
    refine x_if_neZ C 38 dX12_row_33 (by decide) (fun c33 => absurd c33 (by decide)) (fun c33 => ?_)
    refine x_lconst C (0) dX12_row_36 rfl ?_
    refine x_topL (y := lN 0) rfl ?_
    refine x_lret C xr xk dX12_row_37 ?_
    exact hK _ _ (Or.inr ⟨hz, rfl, rfl⟩)
  · skip
    have hz1 := (x_rng_iff (by omega)).mp c12
    refine x_iload_n C (i := 2) dX12_row_15 rfl rfl ?_
    refine x_iconst C (nI 0) dX12_row_16 rfl ?_
    refine x_bipush C (nI 9) dX12_row_17 rfl ?_
    have hM := c_X12_in l Y σ w (nI 0) (nI 9)
    refine x_callS C (as := [.int w, .int (nI 0), .int (nI 9)]) (st := [.ref 38]) (hM) kb_X12_in ks_X12_96 dX12_row_19 rfl rfl (Nat.le_of_ble_eq_true rfl) ⟨by decide, by decide⟩ ⟨by decide, by decide⟩ ?_
    clear hM
    intro r9 τ9 h9
    obtain ⟨rfl, h8⟩ := h9
    rw [h8]
    clear h8 τ9
    refine x_if_eqZ C 29 dX12_row_22 (by decide) (fun c22 => ?_) (fun c22 => ?_)
    · skip
      have hz : ¬ (x_rng i n ∧ x_rng w 10) := fun z => x_rng_not2 (by decide) c22 z.2
      refine x_iconst C (nI 0) dX12_row_29 rfl ?_
      have hM := c_X12_goes l Y σ false
      refine x_callV C (as := [.int (x_z false)]) (st := []) (hM) kb_X12_goes kv_X12_92 dX12_row_30 rfl rfl (Nat.le_of_ble_eq_true rfl) ⟨by decide, by decide⟩ ⟨by decide, by decide⟩ ko_38 ?_
      clear hM
      rintro _ _ ⟨rfl, rfl⟩
      refine x_if_neZ C 38 dX12_row_33 (by decide) (fun c33 => absurd c33 (by decide)) (fun c33 => ?_)
      refine x_lconst C (0) dX12_row_36 rfl ?_
      refine x_topL (y := lN 0) rfl ?_
      refine x_lret C xr xk dX12_row_37 ?_
      exact hK _ _ (Or.inr ⟨hz, rfl, rfl⟩)
    · skip
      have hz2 := (x_rng_iff2 (by decide)).mp c22
      refine x_iconst C (nI 1) dX12_row_25 rfl ?_
      refine x_goto C 30 dX12_row_26 (by decide) ?_
      have hM := c_X12_goes l Y σ true
      refine x_callV C (as := [.int (x_z true)]) (st := []) (hM) kb_X12_goes kv_X12_92 dX12_row_30 rfl rfl (Nat.le_of_ble_eq_true rfl) ⟨by decide, by decide⟩ ⟨by decide, by decide⟩ ko_38 ?_
      clear hM
      rintro _ _ ⟨rfl, rfl⟩
      refine x_if_neZ C 38 dX12_row_33 (by decide) (fun c33 => ?_) (fun c33 => absurd c33 (by decide))
      obtain ⟨iq, hi1, rfl⟩ := hz1
      obtain ⟨wq, hw1, rfl⟩ := hz2
      obtain ⟨hc1, hc2, hc3, hc4, hc5⟩ := hc iq hi1
      have hg0 : 0 < Nat.gcd (sn iq) (cn iq) := Nat.gcd_pos_of_pos_right _ hc5
      have hg1 : Nat.gcd (sn iq) (cn iq) ≤ cn iq := Nat.le_of_dvd hc5 (Nat.gcd_dvd_right _ _)
      have hgne : ¬ lN (Nat.gcd (sn iq) (cn iq)) = 0 := fun z => by
        have z2 := (pk_lEQ (a := Nat.gcd (sn iq) (cn iq)) (b := 0) (by omega) (by decide)).mp z
        omega
      refine x_aload_n C (i := 0) dX12_row_38 rfl rfl ?_
      refine x_getR C fr_38_34 kf_X12_70 dX12_row_39 ?_
      refine x_iload_n C (i := 1) dX12_row_42 rfl rfl ?_
      refine x_laldN C (by decide) rfl (by decide) dX12_row_43 (by omega) ?_
      refine x_aload_n C (i := 0) dX12_row_44 rfl rfl ?_
      refine x_getR C fr_38_31 kf_X12_60 dX12_row_45 ?_
      refine x_iload_n C (i := 1) dX12_row_48 rfl rfl ?_
      refine x_ialdN C (by decide) rfl (by decide) dX12_row_49 (by omega) ?_
      refine x_topI (y := nI (cn iq)) hc1 ?_
      refine x_i2l C dX12_row_50 ?_
      refine x_topL (y := lN (cn iq)) (nI_l (by omega)) ?_
      have hM := c_X12_common l Y (x_u σ 38 0 (x_z !true)) ((x_u σ 38 0 (x_z !true)).2 58 iq) (sn iq) (cn iq) hc3 hc4 (by omega)
      refine x_callS C (as := [.long ((x_u σ 38 0 (x_z !true)).2 58 iq), .long (lN (cn iq))]) (st := []) (hM) kb_X12_common ks_X12_281 dX12_row_51 rfl rfl (Nat.le_of_ble_eq_true rfl) ⟨by decide, by decide⟩ ⟨by decide, by decide⟩ ?_
      clear hM
      rintro _ _ ⟨rfl, rfl⟩
      refine x_lstore_n C (i := 3) dX12_row_54 rfl (by decide) ?_
      refine x_iload_n C (i := 2) dX12_row_55 rfl rfl ?_
      by_cases c56_3 : nI wq = nI 3
      · skip
        refine x_topI c56_3 ?_
        refine x_tableIn C 100 dX12_row_56 (by decide) (by decide) rfl (by decide) ?_
        refine x_aload_n C (i := 0) dX12_row_100 rfl rfl ?_
        refine x_getR C fr_38_31 kf_X12_60 dX12_row_101 ?_
        refine x_iload_n C (i := 1) dX12_row_104 rfl rfl ?_
        refine x_ialdN C (by decide) rfl (by decide) dX12_row_105 (by omega) ?_
        refine x_topI (y := nI (cn iq)) hc1 ?_
        refine x_i2l C dX12_row_106 ?_
        refine x_topL (y := lN (cn iq)) (nI_l (by omega)) ?_
        refine x_lret C xr xk dX12_row_107 ?_
        exact hK _ _ (Or.inl ⟨iq, wq, hi1, hw1, rfl, rfl, by
      have e9 := (nI_eq (by omega) (by decide)).mp c56_3
      subst e9
      first | rfl | (show _ = some (Value.long (if σ.1 57 iq = 0 then 0 else 1)); rw [if_pos (show σ.1 57 iq = 0 from c122)]; rfl) | (show _ = some (Value.long (if σ.1 57 iq = 0 then 0 else 1)); rw [if_neg (show ¬ σ.1 57 iq = 0 from c122)]; rfl), rfl⟩)
      by_cases c56_4 : nI wq = nI 4
      · skip
        refine x_topI c56_4 ?_
        refine x_tableIn C 108 dX12_row_56 (by decide) (by decide) rfl (by decide) ?_
        refine x_aload_n C (i := 0) dX12_row_108 rfl rfl ?_
        refine x_getR C fr_38_32 kf_X12_63 dX12_row_109 ?_
        refine x_iload_n C (i := 1) dX12_row_112 rfl rfl ?_
        refine x_ialdN C (by decide) rfl (by decide) dX12_row_113 (by omega) ?_
        refine x_i2l C dX12_row_114 ?_
        refine x_lret C xr xk dX12_row_115 ?_
        exact hK _ _ (Or.inl ⟨iq, wq, hi1, hw1, rfl, rfl, by
      have e9 := (nI_eq (by omega) (by decide)).mp c56_4
      subst e9
      first | rfl | (show _ = some (Value.long (if σ.1 57 iq = 0 then 0 else 1)); rw [if_pos (show σ.1 57 iq = 0 from c122)]; rfl) | (show _ = some (Value.long (if σ.1 57 iq = 0 then 0 else 1)); rw [if_neg (show ¬ σ.1 57 iq = 0 from c122)]; rfl), rfl⟩)
      by_cases c56_5 : nI wq = nI 5
      · skip
        refine x_topI c56_5 ?_
        refine x_tableIn C 116 dX12_row_56 (by decide) (by decide) rfl (by decide) ?_
        refine x_aload_n C (i := 0) dX12_row_116 rfl rfl ?_
        refine x_getR C fr_38_33 kf_X12_66 dX12_row_117 ?_
        refine x_iload_n C (i := 1) dX12_row_120 rfl rfl ?_
        refine x_zaldN C (by decide) rfl (by decide) dX12_row_121 (by omega) ?_
        refine x_if_eq C 129 dX12_row_122 (by decide) (fun c122 => ?_) (fun c122 => ?_)
        · skip
          refine x_lconst C (0) dX12_row_129 rfl ?_
          refine x_topL (y := lN 0) rfl ?_
          refine x_lret C xr xk dX12_row_130 ?_
          exact hK _ _ (Or.inl ⟨iq, wq, hi1, hw1, rfl, rfl, by
      have e9 := (nI_eq (by omega) (by decide)).mp c56_5
      subst e9
      first | rfl | (show _ = some (Value.long (if σ.1 57 iq = 0 then 0 else 1)); rw [if_pos (show σ.1 57 iq = 0 from c122)]; rfl) | (show _ = some (Value.long (if σ.1 57 iq = 0 then 0 else 1)); rw [if_neg (show ¬ σ.1 57 iq = 0 from c122)]; rfl), rfl⟩)
        · skip
          refine x_lconst C (1) dX12_row_125 rfl ?_
          refine x_topL (y := lN 1) rfl ?_
          refine x_goto C 130 dX12_row_126 (by decide) ?_
          refine x_lret C xr xk dX12_row_130 ?_
          exact hK _ _ (Or.inl ⟨iq, wq, hi1, hw1, rfl, rfl, by
      have e9 := (nI_eq (by omega) (by decide)).mp c56_5
      subst e9
      first | rfl | (show _ = some (Value.long (if σ.1 57 iq = 0 then 0 else 1)); rw [if_pos (show σ.1 57 iq = 0 from c122)]; rfl) | (show _ = some (Value.long (if σ.1 57 iq = 0 then 0 else 1)); rw [if_neg (show ¬ σ.1 57 iq = 0 from c122)]; rfl), rfl⟩)
      by_cases c56_6 : nI wq = nI 6
      · skip
        refine x_topI c56_6 ?_
        refine x_tableIn C 131 dX12_row_56 (by decide) (by decide) rfl (by decide) ?_
        refine x_aload_n C (i := 0) dX12_row_131 rfl rfl ?_
        refine x_getR C fr_38_34 kf_X12_70 dX12_row_132 ?_
        refine x_iload_n C (i := 1) dX12_row_135 rfl rfl ?_
        refine x_laldN C (by decide) rfl (by decide) dX12_row_136 (by omega) ?_
        refine x_lret C xr xk dX12_row_137 ?_
        exact hK _ _ (Or.inl ⟨iq, wq, hi1, hw1, rfl, rfl, by
      have e9 := (nI_eq (by omega) (by decide)).mp c56_6
      subst e9
      first | rfl | (show _ = some (Value.long (if σ.1 57 iq = 0 then 0 else 1)); rw [if_pos (show σ.1 57 iq = 0 from c122)]; rfl) | (show _ = some (Value.long (if σ.1 57 iq = 0 then 0 else 1)); rw [if_neg (show ¬ σ.1 57 iq = 0 from c122)]; rfl), rfl⟩)
      by_cases c56_7 : nI wq = nI 7
      · skip
        refine x_topI c56_7 ?_
        refine x_tableIn C 138 dX12_row_56 (by decide) (by decide) rfl (by decide) ?_
        refine x_aload_n C (i := 0) dX12_row_138 rfl rfl ?_
        refine x_getR C fr_38_34 kf_X12_70 dX12_row_139 ?_
        refine x_iload_n C (i := 1) dX12_row_142 rfl rfl ?_
        refine x_laldN C (by decide) rfl (by decide) dX12_row_143 (by omega) ?_
        refine x_lload_n C (i := 3) dX12_row_144 rfl rfl ?_
        refine x_ldiv C dX12_row_145 hgne ?_
        refine x_lret C xr xk dX12_row_146 ?_
        exact hK _ _ (Or.inl ⟨iq, wq, hi1, hw1, rfl, rfl, by
      have e9 := (nI_eq (by omega) (by decide)).mp c56_7
      subst e9
      first | rfl | (show _ = some (Value.long (if σ.1 57 iq = 0 then 0 else 1)); rw [if_pos (show σ.1 57 iq = 0 from c122)]; rfl) | (show _ = some (Value.long (if σ.1 57 iq = 0 then 0 else 1)); rw [if_neg (show ¬ σ.1 57 iq = 0 from c122)]; rfl), rfl⟩)
      by_cases c56_8 : nI wq = nI 8
      · skip
        refine x_topI c56_8 ?_
        refine x_tableIn C 147 dX12_row_56 (by decide) (by decide) rfl (by decide) ?_
        refine x_aload_n C (i := 0) dX12_row_147 rfl rfl ?_
        refine x_getR C fr_38_31 kf_X12_60 dX12_row_148 ?_
        refine x_iload_n C (i := 1) dX12_row_151 rfl rfl ?_
        refine x_ialdN C (by decide) rfl (by decide) dX12_row_152 (by omega) ?_
        refine x_topI (y := nI (cn iq)) hc1 ?_
        refine x_i2l C dX12_row_153 ?_
        refine x_topL (y := lN (cn iq)) (nI_l (by omega)) ?_
        refine x_lload_n C (i := 3) dX12_row_154 rfl rfl ?_
        refine x_ldiv C dX12_row_155 hgne ?_
        refine x_topL (y := lN ((cn iq) / (Nat.gcd (sn iq) (cn iq)))) (pk_lDiv (by omega) hg0 (by omega)) ?_
        refine x_lret C xr xk dX12_row_156 ?_
        exact hK _ _ (Or.inl ⟨iq, wq, hi1, hw1, rfl, rfl, by
      have e9 := (nI_eq (by omega) (by decide)).mp c56_8
      subst e9
      first | rfl | (show _ = some (Value.long (if σ.1 57 iq = 0 then 0 else 1)); rw [if_pos (show σ.1 57 iq = 0 from c122)]; rfl) | (show _ = some (Value.long (if σ.1 57 iq = 0 then 0 else 1)); rw [if_neg (show ¬ σ.1 57 iq = 0 from c122)]; rfl), rfl⟩)
      by_cases c56_9 : nI wq = nI 9
      · skip
        refine x_topI c56_9 ?_
        refine x_tableIn C 157 dX12_row_56 (by decide) (by decide) rfl (by decide) ?_
        refine x_aload_n C (i := 0) dX12_row_157 rfl rfl ?_
        refine x_getR C fr_38_35 kf_X12_73 dX12_row_158 ?_
        refine x_iload_n C (i := 1) dX12_row_161 rfl rfl ?_
        refine x_laldN C (by decide) rfl (by decide) dX12_row_162 (by omega) ?_
        refine x_lret C xr xk dX12_row_163 ?_
        exact hK _ _ (Or.inl ⟨iq, wq, hi1, hw1, rfl, rfl, by
      have e9 := (nI_eq (by omega) (by decide)).mp c56_9
      subst e9
      first | rfl | (show _ = some (Value.long (if σ.1 57 iq = 0 then 0 else 1)); rw [if_pos (show σ.1 57 iq = 0 from c122)]; rfl) | (show _ = some (Value.long (if σ.1 57 iq = 0 then 0 else 1)); rw [if_neg (show ¬ σ.1 57 iq = 0 from c122)]; rfl), rfl⟩)
      refine x_tdef C 164 dX12_row_56 (fun k9 hk9 hx9 => ?_) (by decide) ?_
      · have hk8 : k9 = 0 ∨ k9 = 1 ∨ k9 = 2 ∨ k9 = 3 ∨ k9 = 4 ∨ k9 = 5 ∨ k9 = 6 := by omega
        rcases hk8 with rfl | rfl | rfl | rfl | rfl | rfl | rfl
        · exact absurd (x_ofInt (n := 3) hx9 (by decide)) c56_3
        · exact absurd (x_ofInt (n := 4) hx9 (by decide)) c56_4
        · exact absurd (x_ofInt (n := 5) hx9 (by decide)) c56_5
        · exact absurd (x_ofInt (n := 6) hx9 (by decide)) c56_6
        · exact absurd (x_ofInt (n := 7) hx9 (by decide)) c56_7
        · exact absurd (x_ofInt (n := 8) hx9 (by decide)) c56_8
        · exact absurd (x_ofInt (n := 9) hx9 (by decide)) c56_9
      refine x_aload_n C (i := 0) dX12_row_164 rfl rfl ?_
      refine x_getR C fr_38_30 kf_X12_57 dX12_row_165 ?_
      refine x_iload_n C (i := 1) dX12_row_168 rfl rfl ?_
      refine x_laldN C (by decide) rfl (by decide) dX12_row_169 (by omega) ?_
      refine x_iload_n C (i := 2) dX12_row_170 rfl rfl ?_
      have hM := c_X12_part l Y (x_u σ 38 0 (x_z !true)) ((x_u σ 38 0 (x_z !true)).2 54 iq) wq (by omega)
      refine x_callS C (as := [.long ((x_u σ 38 0 (x_z !true)).2 54 iq), .int (nI wq)]) (st := []) (hM) kb_X12_part ks_X12_244 dX12_row_171 rfl rfl (Nat.le_of_ble_eq_true rfl) ⟨by decide, by decide⟩ ⟨by decide, by decide⟩ ?_
      clear hM
      intro r9 τ9 h9
      obtain ⟨rfl, h8⟩ := h9
      rw [h8]
      clear h8 τ9
      refine x_i2l C dX12_row_174 ?_
      refine x_lret C xr xk dX12_row_175 ?_
      exact hK _ _ (Or.inl ⟨iq, wq, hi1, hw1, rfl, rfl, by
      have e3 : wq ≠ 3 := fun z => c56_3 (by rw [z])
      have e4 : wq ≠ 4 := fun z => c56_4 (by rw [z])
      have e5 : wq ≠ 5 := fun z => c56_5 (by rw [z])
      have e6 : wq ≠ 6 := fun z => c56_6 (by rw [z])
      have e7 : wq ≠ 7 := fun z => c56_7 (by rw [z])
      have e8 : wq ≠ 8 := fun z => c56_8 (by rw [z])
      have e9 : wq ≠ 9 := fun z => c56_9 (by rw [z])
      rw [if_neg e3, if_neg e4, if_neg e5, if_neg e6, if_neg e7, if_neg e8, if_neg e9]; rfl, rfl⟩)
theorem c_X12_row (l : Launch) (Y : x_Y) (σ : x_S) (i w : Int32) (n : Nat) (hn : σ.1 38 29 = nI n) (hn9 : n ≤ 3000) (cn sn : Nat → Nat) (hc : ∀ a, a < n → σ.1 55 a = nI (cn a) ∧ cn a ≤ 3000 ∧ x_ab (σ.2 58 a) = lN (sn a) ∧ sn a < 2 ^ 63 ∧ 0 < cn a) : x_M l yX12_row cX12_row 5 (some .long) 1 Y [.ref 38, .int i, .int w] σ (fun r τ => (∃ iq wq, iq < n ∧ wq < 10 ∧ i = nI iq ∧ w = nI wq ∧ r = some (.long (if wq = 3 then lN (cn iq) else if wq = 4 then (σ.1 56 iq).toInt64 else if wq = 5 then (if σ.1 57 iq = 0 then 0 else 1) else if wq = 6 then σ.2 58 iq else if wq = 7 then σ.2 58 iq / lN (Nat.gcd (sn iq) (cn iq)) else if wq = 8 then lN (cn iq / Nat.gcd (sn iq) (cn iq)) else if wq = 9 then σ.2 59 iq else (x_part (σ.2 54 iq) wq).toInt64)) ∧ τ = x_u σ 38 0 (nI 0)) ∨ (¬ (x_rng i n ∧ x_rng w 10) ∧ r = some (.long 0) ∧ τ = x_u σ 38 0 (nI 1))) := c_X12_row_K l Y σ i w n hn hn9 cn sn hc _ (fun _ _ h => h)
set_option maxRecDepth 100000 in
set_option maxHeartbeats 200000 in
theorem c_X12_clear_K (l : Launch) (Y : x_Y) (σ : x_S) (x v : Nat) (f : Nat → Int32) (hf : σ.1 61 = f) (hx : x + 64 ≤ 320) (hv : v < 65536) (K : Option Value → x_S → Prop) (hK : ∀ (r : Option Value) (τ : x_S), (∃ g, (r = none ∧ τ = x_st σ [] [(61, g)] []) ∧ y_fr x f g ∧ y_is g x v) → K r τ) : x_M l yX12_clear cX12_clear 4 none 0 Y [.ref 38, .int (nI x), .int (nI v)] σ K := by
  refine x_start (by decide) (Nat.le_of_ble_eq_true rfl) ?_
  intro xp xe xs xm xg xb xt xc C xr xk
  refine x_sig (σ' := x_st σ [] [(61, f)] []) (x_st_in trivial (And.intro hf trivial) trivial) ?_
  refine x_iconst C (nI 0) dX12_clear_0 rfl ?_
  refine x_istore_n C (i := 3) dX12_clear_1 rfl (by decide) ?_
  have lp2 : ∀ (m2 : Nat) (k : Nat) (g : Nat → Int32), (64 - k) = m2 → (k ≤ 64) → (y_fr x f g) → (∀ j, j < k → g (x + j) = nI 0) → ∀ L : x_Lo, L.1 0 = some (.ref 38) → L.1 1 = some (.int (nI x)) → L.1 2 = some (.int (nI v)) → L.1 3 = some (.int (nI k)) → x_W xp l xe (x_rm 0) xs xm xg xb xt xc 4 Y 0 0 (MQ xb (x_Q Y K) xg xs 0 0 (x_A Y)) 2 L [] (x_st σ [] [(61, g)] []) := by
    intro m2
    induction m2 using Nat.strongRecOn with
    | _ m2 ih2 =>
      intro k g hm2 hk hr hp L xl0 xl1 xl2 xl3
      refine x_iload_n C (i := 3) dX12_clear_2 rfl xl3 ?_
      refine x_bipush C (nI 64) dX12_clear_3 rfl ?_
      refine x_icmp_geN C 23 dX12_clear_5 (by decide) (by omega) (by omega) (fun c5 => ?_) (fun c5 => ?_)
      · skip
        have c5' := Nat.not_lt.mpr c5
        refine x_aload_n C (i := 0) dX12_clear_23 rfl xl0 ?_
        refine x_getR C fr_38_37 kf_X12_79 dX12_clear_24 ?_
        refine x_iload_n C (i := 1) dX12_clear_27 rfl xl1 ?_
        refine x_iload_n C (i := 2) dX12_clear_28 rfl xl2 ?_
        refine x_iastN C (by decide) rfl (by decide) dX12_clear_29 (by omega) ?_
        refine x_sig (σ' := x_st σ [] [(61, upd g x (nI v))] []) (x_st_ua rfl) ?_
        refine x_vret C xr xk dX12_clear_30 ?_
        exact hK _ _ ⟨_, ⟨rfl, rfl⟩, (fun j hj => by rw [pk_un (by omega)]; exact hr j hj), Nat.lt_of_lt_of_le hv (Nat.le_self_pow (by decide) 65536), fun j hj => by
    by_cases e : j = 0
    · subst e; rw [Nat.add_zero, pk_us, y_dg_b0 hv]
    · rw [pk_un (by omega), hp j (by omega), y_dg_bs hv (by omega)]⟩
      · skip
        have c5' := Nat.not_le.mpr c5
        refine x_aload_n C (i := 0) dX12_clear_8 rfl xl0 ?_
        refine x_getR C fr_38_37 kf_X12_79 dX12_clear_9 ?_
        refine x_iload_n C (i := 1) dX12_clear_12 rfl xl1 ?_
        refine x_iload_n C (i := 3) dX12_clear_13 rfl xl3 ?_
        refine x_iaddN C dX12_clear_14 ?_
        refine x_iconst C (nI 0) dX12_clear_15 rfl ?_
        refine x_iastN C (by decide) rfl (by decide) dX12_clear_16 (by omega) ?_
        refine x_sig (σ' := x_st σ [] [(61, upd g (x + k) (nI 0))] []) (x_st_ua rfl) ?_
        refine x_iincN C (i := 3) (b := 1) dX12_clear_17 xl3 rfl (by decide) ?_
        refine x_goto C 2 dX12_clear_20 (by decide) ?_
        exact ih2 _ (by omega) (k + 1) (upd g (x + k) (nI 0)) rfl (by omega) (y_fr_u hr (by omega)) (fun j hj => by
      by_cases e : j = k
      · subst e; rw [pk_us]
      · rw [pk_un (by omega)]; exact hp j (by omega)) _ xl0 xl1 xl2 rfl
  exact lp2 _ 0 f rfl (Nat.zero_le _) (y_fr_rf x f) (fun j hj => absurd hj (Nat.not_lt_zero j)) _ rfl rfl rfl rfl
theorem c_X12_clear (l : Launch) (Y : x_Y) (σ : x_S) (x v : Nat) (f : Nat → Int32) (hf : σ.1 61 = f) (hx : x + 64 ≤ 320) (hv : v < 65536) : x_M l yX12_clear cX12_clear 4 none 0 Y [.ref 38, .int (nI x), .int (nI v)] σ (fun r τ => ∃ g, (r = none ∧ τ = x_st σ [] [(61, g)] []) ∧ y_fr x f g ∧ y_is g x v) := c_X12_clear_K l Y σ x v f hf hx hv _ (fun _ _ h => h)
set_option maxRecDepth 100000 in
set_option maxHeartbeats 200000 in
theorem c_X12_copy_K (l : Launch) (Y : x_Y) (σ : x_S) (y x v : Nat) (f : Nat → Int32) (hf : σ.1 61 = f) (hx : x + 64 ≤ 320) (hy : y + 64 ≤ 320) (hxy : y + 64 ≤ x ∨ x + 64 ≤ y) (hv : y_is f y v) (K : Option Value → x_S → Prop) (hK : ∀ (r : Option Value) (τ : x_S), (∃ g, (r = none ∧ τ = x_st σ [] [(61, g)] []) ∧ y_fr x f g ∧ y_is g x v) → K r τ) : x_M l yX12_copy cX12_copy 4 none 0 Y [.ref 38, .int (nI y), .int (nI x)] σ K := by
  refine x_start (by decide) (Nat.le_of_ble_eq_true rfl) ?_
  intro xp xe xs xm xg xb xt xc C xr xk
  refine x_sig (σ' := x_st σ [] [(61, f)] []) (x_st_in trivial (And.intro hf trivial) trivial) ?_
  refine x_iconst C (nI 0) dX12_copy_0 rfl ?_
  refine x_istore_n C (i := 3) dX12_copy_1 rfl (by decide) ?_
  have lp2 : ∀ (m2 : Nat) (k : Nat) (g : Nat → Int32), (64 - k) = m2 → (k ≤ 64) → (y_fr x f g) → (∀ j, j < k → g (x + j) = nI (y_dg v j)) → ∀ L : x_Lo, L.1 0 = some (.ref 38) → L.1 1 = some (.int (nI y)) → L.1 2 = some (.int (nI x)) → L.1 3 = some (.int (nI k)) → x_W xp l xe (x_rm 0) xs xm xg xb xt xc 4 Y 0 0 (MQ xb (x_Q Y K) xg xs 0 0 (x_A Y)) 2 L [] (x_st σ [] [(61, g)] []) := by
    intro m2
    induction m2 using Nat.strongRecOn with
    | _ m2 ih2 =>
      intro k g hm2 hk hr hp L xl0 xl1 xl2 xl3
      refine x_iload_n C (i := 3) dX12_copy_2 rfl xl3 ?_
      refine x_bipush C (nI 64) dX12_copy_3 rfl ?_
      refine x_icmp_geN C 30 dX12_copy_5 (by decide) (by omega) (by omega) (fun c5 => ?_) (fun c5 => ?_)
      · skip
        have c5' := Nat.not_lt.mpr c5
        refine x_vret C xr xk dX12_copy_30 ?_
        exact hK _ _ ⟨_, ⟨rfl, rfl⟩, hr, hv.1, fun j hj => hp j (by omega)⟩
      · skip
        have c5' := Nat.not_le.mpr c5
        refine x_aload_n C (i := 0) dX12_copy_8 rfl xl0 ?_
        refine x_getR C fr_38_37 kf_X12_79 dX12_copy_9 ?_
        refine x_iload_n C (i := 2) dX12_copy_12 rfl xl2 ?_
        refine x_iload_n C (i := 3) dX12_copy_13 rfl xl3 ?_
        refine x_iaddN C dX12_copy_14 ?_
        refine x_aload_n C (i := 0) dX12_copy_15 rfl xl0 ?_
        refine x_getR C fr_38_37 kf_X12_79 dX12_copy_16 ?_
        refine x_iload_n C (i := 1) dX12_copy_19 rfl xl1 ?_
        refine x_iload_n C (i := 3) dX12_copy_20 rfl xl3 ?_
        refine x_iaddN C dX12_copy_21 ?_
        refine x_ialdN C (by decide) rfl (by decide) dX12_copy_22 (by omega) ?_
        refine x_topI (y := g (y + k)) rfl ?_
        refine x_topI (y := nI (y_dg v k)) ((hr _ (by omega)).trans (hv.2 k (by omega))) ?_
        refine x_iastN C (by decide) rfl (by decide) dX12_copy_23 (by omega) ?_
        refine x_sig (σ' := x_st σ [] [(61, upd g (x + k) (nI (y_dg v k)))] []) (x_st_ua rfl) ?_
        refine x_iincN C (i := 3) (b := 1) dX12_copy_24 xl3 rfl (by decide) ?_
        refine x_goto C 2 dX12_copy_27 (by decide) ?_
        exact ih2 _ (by omega) (k + 1) (upd g (x + k) (nI (y_dg v k))) rfl (by omega) (y_fr_u hr (by omega)) (fun j hj => by
      by_cases e : j = k
      · subst e; rw [pk_us]
      · rw [pk_un (by omega)]; exact hp j (by omega)) _ xl0 xl1 xl2 rfl
  exact lp2 _ 0 f rfl (Nat.zero_le _) (y_fr_rf x f) (fun j hj => absurd hj (Nat.not_lt_zero j)) _ rfl rfl rfl rfl
theorem c_X12_copy (l : Launch) (Y : x_Y) (σ : x_S) (y x v : Nat) (f : Nat → Int32) (hf : σ.1 61 = f) (hx : x + 64 ≤ 320) (hy : y + 64 ≤ 320) (hxy : y + 64 ≤ x ∨ x + 64 ≤ y) (hv : y_is f y v) : x_M l yX12_copy cX12_copy 4 none 0 Y [.ref 38, .int (nI y), .int (nI x)] σ (fun r τ => ∃ g, (r = none ∧ τ = x_st σ [] [(61, g)] []) ∧ y_fr x f g ∧ y_is g x v) := c_X12_copy_K l Y σ y x v f hf hx hy hxy hv _ (fun _ _ h => h)
set_option maxRecDepth 100000 in
set_option maxHeartbeats 200000 in
theorem c_X12_times_K (l : Launch) (Y : x_Y) (σ : x_S) (x b v : Nat) (f : Nat → Int32) (hf : σ.1 61 = f) (hx : x + 64 ≤ 320) (hv : y_is f x v) (hb : b < 2 ^ 46) (hw : v * b < 65536 ^ 64) (K : Option Value → x_S → Prop) (hK : ∀ (r : Option Value) (τ : x_S), (∃ g, (r = none ∧ τ = x_st σ [] [(61, g)] []) ∧ y_fr x f g ∧ y_is g x (v * b)) → K r τ) : x_M l yX12_times cX12_times 9 none 0 Y [.ref 38, .int (nI x), .long (lN b)] σ K := by
  refine x_start (by decide) (Nat.le_of_ble_eq_true rfl) ?_
  intro xp xe xs xm xg xb xt xc C xr xk
  refine x_sig (σ' := x_st σ [] [(61, f)] []) (x_st_in trivial (And.intro hf trivial) trivial) ?_
  refine x_lconst C (0) dX12_times_0 rfl ?_
  refine x_topL (y := lN 0) rfl ?_
  refine x_topL (y := lN (y_cy v b 0)) (by rw [y_cy_0]) ?_
  refine x_lstore C (i := 4) dX12_times_1 (by decide) ?_
  refine x_iconst C (nI 0) dX12_times_3 rfl ?_
  refine x_istore C (i := 6) dX12_times_4 (by decide) ?_
  have lp6 : ∀ (m6 : Nat) (k : Nat) (g : Nat → Int32), (64 - k) = m6 → (k ≤ 64) → (y_fr x f g) → (y_pt g x k (v * b) v) → ∀ L : x_Lo, L.1 0 = some (.ref 38) → L.1 1 = some (.int (nI x)) → L.2 2 = some (lN b) → L.2 4 = some (lN (y_cy v b k)) → L.1 6 = some (.int (nI k)) → x_W xp l xe (x_rm 0) xs xm xg xb xt xc 9 Y 0 0 (MQ xb (x_Q Y K) xg xs 0 0 (x_A Y)) 6 L [] (x_st σ [] [(61, g)] []) := by
    intro m6
    induction m6 using Nat.strongRecOn with
    | _ m6 ih6 =>
      intro k g hm6 hk hr hp L xl0 xl1 xl2 xl4 xl6
      refine x_iload C (i := 6) dX12_times_6 xl6 ?_
      refine x_bipush C (nI 64) dX12_times_8 rfl ?_
      refine x_icmp_geN C 59 dX12_times_10 (by decide) (by omega) (by omega) (fun c10 => ?_) (fun c10 => ?_)
      · skip
        have c10' := Nat.not_lt.mpr c10
        obtain rfl : k = 64 := by omega
        refine x_vret C xr xk dX12_times_59 ?_
        exact hK _ _ ⟨_, ⟨rfl, rfl⟩, hr, y_pt_64 hp hw⟩
      · skip
        have c10' := Nat.not_le.mpr c10
        refine x_aload_n C (i := 0) dX12_times_13 rfl xl0 ?_
        refine x_getR C fr_38_37 kf_X12_79 dX12_times_14 ?_
        refine x_iload_n C (i := 1) dX12_times_17 rfl xl1 ?_
        refine x_iload C (i := 6) dX12_times_18 xl6 ?_
        refine x_iaddN C dX12_times_20 ?_
        refine x_ialdN C (by decide) rfl (by decide) dX12_times_21 (by omega) ?_
        refine x_topI (y := g (x + k)) rfl ?_
        refine x_topI (y := nI (y_dg v k)) (y_pt_at hp (by omega)) ?_
        have hd9 := y_dg_lt v k
        have hB := y_tm_b (v := v) (k := k) hb
        refine x_i2l C dX12_times_22 ?_
        refine x_topL (y := lN (y_dg v k)) (nI_l (by omega)) ?_
        refine x_lload_n C (i := 2) dX12_times_23 rfl xl2 ?_
        refine x_lmul C dX12_times_24 ?_
        refine x_topL (y := lN ((y_dg v k) * b)) (lN_mul _ _) ?_
        refine x_lload C (i := 4) dX12_times_25 xl4 ?_
        refine x_ladd C dX12_times_27 ?_
        refine x_topL (y := lN (((y_dg v k) * b) + (y_cy v b k))) (lN_add _ _) ?_
        refine x_lstore C (i := 7) dX12_times_28 (by decide) ?_
        refine x_aload_n C (i := 0) dX12_times_30 rfl xl0 ?_
        refine x_getR C fr_38_37 kf_X12_79 dX12_times_31 ?_
        refine x_iload_n C (i := 1) dX12_times_34 rfl xl1 ?_
        refine x_iload C (i := 6) dX12_times_35 xl6 ?_
        refine x_iaddN C dX12_times_37 ?_
        refine x_lload C (i := 7) dX12_times_38 rfl ?_
        refine x_ldc2 C (65535) kc_X12_285 dX12_times_40 ?_
        refine x_topL (y := lN 65535) rfl ?_
        refine x_land C dX12_times_43 ?_
        refine x_topL (y := lN ((((y_dg v k) * b) + (y_cy v b k)) % 65536)) (x_lmask 16 (by decide) (Nat.lt_trans hB (by decide))) ?_
        refine x_l2i C dX12_times_44 ?_
        refine x_topI (y := nI ((((y_dg v k) * b) + (y_cy v b k)) % 65536)) (lN_i _) ?_
        refine x_topI (y := nI (y_dg (v * b) k)) (by rw [y_tm_d]) ?_
        refine x_iastN C (by decide) rfl (by decide) dX12_times_45 (by omega) ?_
        refine x_sig (σ' := x_st σ [] [(61, upd g (x + k) (nI (y_dg (v * b) k)))] []) (x_st_ua rfl) ?_
        refine x_lload C (i := 7) dX12_times_46 rfl ?_
        refine x_bipush C (nI 16) dX12_times_48 rfl ?_
        refine x_lshr C dX12_times_50 ?_
        refine x_topL (y := lN ((((y_dg v k) * b) + (y_cy v b k)) / 2 ^ 16)) (x_lshrN 16 (by decide) hB) ?_
        refine x_topL (y := lN (y_cy v b (k + 1))) (by rw [y_cy_s]) ?_
        refine x_lstore C (i := 4) dX12_times_51 (by decide) ?_
        refine x_iincN C (i := 6) (b := 1) dX12_times_53 xl6 rfl (by decide) ?_
        refine x_goto C 6 dX12_times_56 (by decide) ?_
        exact ih6 _ (by omega) (k + 1) (upd g (x + k) (nI (y_dg (v * b) k))) rfl (by omega) (y_fr_u hr (by omega)) (y_pt_s hp) _ xl0 xl1 xl2 rfl rfl
  exact lp6 _ 0 f rfl (Nat.zero_le _) (y_fr_rf x f) (y_pt_0 _ hv) _ rfl rfl rfl rfl rfl
theorem c_X12_times (l : Launch) (Y : x_Y) (σ : x_S) (x b v : Nat) (f : Nat → Int32) (hf : σ.1 61 = f) (hx : x + 64 ≤ 320) (hv : y_is f x v) (hb : b < 2 ^ 46) (hw : v * b < 65536 ^ 64) : x_M l yX12_times cX12_times 9 none 0 Y [.ref 38, .int (nI x), .long (lN b)] σ (fun r τ => ∃ g, (r = none ∧ τ = x_st σ [] [(61, g)] []) ∧ y_fr x f g ∧ y_is g x (v * b)) := c_X12_times_K l Y σ x b v f hf hx hv hb hw _ (fun _ _ h => h)
set_option maxRecDepth 100000 in
set_option maxHeartbeats 200000 in
theorem c_X12_divide_K (l : Launch) (Y : x_Y) (σ : x_S) (x b v : Nat) (f : Nat → Int32) (hf : σ.1 61 = f) (hx : x + 64 ≤ 320) (hv : y_is f x v) (hb : b < 2 ^ 31) (hb0 : 0 < b) (K : Option Value → x_S → Prop) (hK : ∀ (r : Option Value) (τ : x_S), (∃ g, (r = none ∧ τ = x_st σ [] [(61, g)] []) ∧ y_fr x f g ∧ y_is g x (v / b)) → K r τ) : x_M l yX12_divide cX12_divide 8 none 0 Y [.ref 38, .int (nI x), .int (nI b)] σ K := by
  refine x_start (by decide) (Nat.le_of_ble_eq_true rfl) ?_
  intro xp xe xs xm xg xb xt xc C xr xk
  refine x_sig (σ' := x_st σ [] [(61, f)] []) (x_st_in trivial (And.intro hf trivial) trivial) ?_
  refine x_lconst C (0) dX12_divide_0 rfl ?_
  refine x_topL (y := lN 0) rfl ?_
  refine x_topL (y := lN (v / 65536 ^ 64 % b)) (by rw [Nat.div_eq_of_lt hv.1, Nat.zero_mod]) ?_
  refine x_lstore_n C (i := 3) dX12_divide_1 rfl (by decide) ?_
  refine x_bipush C (nI 63) dX12_divide_2 rfl ?_
  refine x_topI (y := nI 64 + (-1)) rfl ?_
  refine x_istore C (i := 5) dX12_divide_4 (by decide) ?_
  have lp6 : ∀ (m6 : Nat) (kk : Nat) (g : Nat → Int32), (kk) = m6 → (kk ≤ 64) → (y_fr x f g) → (y_pt g x kk v (v / b)) → ∀ L : x_Lo, L.1 0 = some (.ref 38) → L.1 1 = some (.int (nI x)) → L.1 2 = some (.int (nI b)) → L.2 3 = some (lN (v / 65536 ^ kk % b)) → L.1 5 = some (.int (nI kk + (-1))) → x_W xp l xe (x_rm 0) xs xm xg xb xt xc 8 Y 0 0 (MQ xb (x_Q Y K) xg xs 0 0 (x_A Y)) 6 L [] (x_st σ [] [(61, g)] []) := by
    intro m6
    induction m6 using Nat.strongRecOn with
    | _ m6 ih6 =>
      intro kk g hm6 hk hr hp L xl0 xl1 xl2 xl3 xl5
      refine x_iload C (i := 5) dX12_divide_6 xl5 ?_
      refine x_jf_lt C 56 dX12_divide_8 (by decide) (fun c8 => ?_) (fun c8 => ?_)
      · skip
        have c8' := Int32.not_le.mpr c8
        have hk0 : kk = 0 := by
          rcases kk with _ | k
          · rfl
          · rw [pk_m1] at c8; exact absurd c8 (y_nneg (by omega))
        subst hk0
        refine x_vret C xr xk dX12_divide_56 ?_
        exact hK _ _ ⟨_, ⟨rfl, rfl⟩, hr, y_pt_b hp (Nat.lt_of_le_of_lt (Nat.div_le_self _ _) hv.1)⟩
      · skip
        have c8' := Int32.not_lt.mpr c8
        obtain ⟨k, rfl⟩ : ∃ k, kk = k + 1 := by
          rcases kk with _ | k
          · exact absurd c8 (by decide)
          · exact ⟨k, rfl⟩
        rw [pk_m1] at xl5
        have hB := y_dv_b (v := v) (k := k) hb0 (Nat.lt_trans hb (by decide))
        have hd9 := y_dg_lt v k
        have hdv := y_dv v b k hb0
        have hbne : ¬ lN b = 0 := fun z => by
          have z2 := (pk_lEQ (a := b) (b := 0) (by omega) (by decide)).mp z
          omega
        refine x_lload_n C (i := 3) dX12_divide_11 rfl xl3 ?_
        refine x_ldc2 C (65536) kc_X12_287 dX12_divide_12 ?_
        refine x_topL (y := lN 65536) rfl ?_
        refine x_lmul C dX12_divide_15 ?_
        refine x_topL (y := lN ((v / 65536 ^ (k + 1) % b) * 65536)) (lN_mul _ _) ?_
        refine x_aload_n C (i := 0) dX12_divide_16 rfl xl0 ?_
        refine x_getR C fr_38_37 kf_X12_79 dX12_divide_17 ?_
        refine x_iload_n C (i := 1) dX12_divide_20 rfl xl1 ?_
        refine x_iload C (i := 5) dX12_divide_21 xl5 ?_
        refine x_iaddN C dX12_divide_23 ?_
        refine x_ialdN C (by decide) rfl (by decide) dX12_divide_24 (by omega) ?_
        refine x_topI (y := g (x + k)) rfl ?_
        refine x_topI (y := nI (y_dg v k)) (y_pt_lo hp (by omega) (by omega)) ?_
        refine x_i2l C dX12_divide_25 ?_
        refine x_topL (y := lN (y_dg v k)) (nI_l (by omega)) ?_
        refine x_ladd C dX12_divide_26 ?_
        refine x_topL (y := lN (((v / 65536 ^ (k + 1) % b) * 65536) + (y_dg v k))) (lN_add _ _) ?_
        refine x_lstore C (i := 6) dX12_divide_27 (by decide) ?_
        refine x_aload_n C (i := 0) dX12_divide_29 rfl xl0 ?_
        refine x_getR C fr_38_37 kf_X12_79 dX12_divide_30 ?_
        refine x_iload_n C (i := 1) dX12_divide_33 rfl xl1 ?_
        refine x_iload C (i := 5) dX12_divide_34 xl5 ?_
        refine x_iaddN C dX12_divide_36 ?_
        refine x_lload C (i := 6) dX12_divide_37 rfl ?_
        refine x_iload_n C (i := 2) dX12_divide_39 rfl xl2 ?_
        refine x_i2l C dX12_divide_40 ?_
        refine x_topL (y := lN b) (nI_l (by omega)) ?_
        refine x_ldiv C dX12_divide_41 hbne ?_
        refine x_topL (y := lN ((((v / 65536 ^ (k + 1) % b) * 65536) + (y_dg v k)) / b)) (pk_lDiv (Nat.lt_trans hB (by decide)) hb0 (by omega)) ?_
        refine x_l2i C dX12_divide_42 ?_
        refine x_topI (y := nI ((((v / 65536 ^ (k + 1) % b) * 65536) + (y_dg v k)) / b)) (lN_i _) ?_
        refine x_topI (y := nI (y_dg (v / b) k)) (by rw [hdv.1]) ?_
        refine x_iastN C (by decide) rfl (by decide) dX12_divide_43 (by omega) ?_
        refine x_sig (σ' := x_st σ [] [(61, upd g (x + k) (nI (y_dg (v / b) k)))] []) (x_st_ua rfl) ?_
        refine x_lload C (i := 6) dX12_divide_44 rfl ?_
        refine x_iload_n C (i := 2) dX12_divide_46 rfl xl2 ?_
        refine x_i2l C dX12_divide_47 ?_
        refine x_topL (y := lN b) (nI_l (by omega)) ?_
        refine x_lrem C dX12_divide_48 hbne ?_
        refine x_topL (y := lN ((((v / 65536 ^ (k + 1) % b) * 65536) + (y_dg v k)) % b)) (pk_lRem (Nat.lt_trans hB (by decide)) hb0 (by omega)) ?_
        refine x_topL (y := lN (v / 65536 ^ k % b)) (by rw [hdv.2]) ?_
        refine x_lstore_n C (i := 3) dX12_divide_49 rfl (by decide) ?_
        refine x_iinc C (i := 5) (-1) dX12_divide_50 xl5 rfl (by decide) ?_
        refine x_goto C 6 dX12_divide_53 (by decide) ?_
        exact ih6 _ (by omega) k (upd g (x + k) (nI (y_dg (v / b) k))) rfl (by omega) (y_fr_u hr (by omega)) (y_pt_d hp) _ xl0 xl1 xl2 rfl rfl
  exact lp6 _ 64 f rfl (Nat.le_refl _) (y_fr_rf x f) (y_pt_t _ hv) _ rfl rfl rfl rfl rfl
theorem c_X12_divide (l : Launch) (Y : x_Y) (σ : x_S) (x b v : Nat) (f : Nat → Int32) (hf : σ.1 61 = f) (hx : x + 64 ≤ 320) (hv : y_is f x v) (hb : b < 2 ^ 31) (hb0 : 0 < b) : x_M l yX12_divide cX12_divide 8 none 0 Y [.ref 38, .int (nI x), .int (nI b)] σ (fun r τ => ∃ g, (r = none ∧ τ = x_st σ [] [(61, g)] []) ∧ y_fr x f g ∧ y_is g x (v / b)) := c_X12_divide_K l Y σ x b v f hf hx hv hb hb0 _ (fun _ _ h => h)
set_option maxRecDepth 100000 in
set_option maxHeartbeats 200000 in
theorem c_X12_add_K (l : Launch) (Y : x_Y) (σ : x_S) (x y v w : Nat) (f : Nat → Int32) (hf : σ.1 61 = f) (hx : x + 64 ≤ 320) (hy : y + 64 ≤ 320) (hxy : y + 64 ≤ x ∨ x + 64 ≤ y) (hv : y_is f x v) (hw : y_is f y w) (hu : v + w < 65536 ^ 64) (K : Option Value → x_S → Prop) (hK : ∀ (r : Option Value) (τ : x_S), (∃ g, (r = none ∧ τ = x_st σ [] [(61, g)] []) ∧ y_fr x f g ∧ y_is g x (v + w)) → K r τ) : x_M l yX12_add cX12_add 6 none 0 Y [.ref 38, .int (nI x), .int (nI y)] σ K := by
  refine x_start (by decide) (Nat.le_of_ble_eq_true rfl) ?_
  intro xp xe xs xm xg xb xt xc C xr xk
  refine x_sig (σ' := x_st σ [] [(61, f)] []) (x_st_in trivial (And.intro hf trivial) trivial) ?_
  refine x_iconst C (nI 0) dX12_add_0 rfl ?_
  refine x_topI (y := nI (y_ca v w 0)) (by rw [y_ca_0]) ?_
  refine x_istore_n C (i := 3) dX12_add_1 rfl (by decide) ?_
  refine x_iconst C (nI 0) dX12_add_2 rfl ?_
  refine x_istore C (i := 4) dX12_add_3 (by decide) ?_
  have lp5 : ∀ (m5 : Nat) (k : Nat) (g : Nat → Int32), (64 - k) = m5 → (k ≤ 64) → (y_fr x f g) → (y_pt g x k (v + w) v) → ∀ L : x_Lo, L.1 0 = some (.ref 38) → L.1 1 = some (.int (nI x)) → L.1 2 = some (.int (nI y)) → L.1 3 = some (.int (nI (y_ca v w k))) → L.1 4 = some (.int (nI k)) → x_W xp l xe (x_rm 0) xs xm xg xb xt xc 6 Y 0 0 (MQ xb (x_Q Y K) xg xs 0 0 (x_A Y)) 5 L [] (x_st σ [] [(61, g)] []) := by
    intro m5
    induction m5 using Nat.strongRecOn with
    | _ m5 ih5 =>
      intro k g hm5 hk hr hp L xl0 xl1 xl2 xl3 xl4
      refine x_iload C (i := 4) dX12_add_5 xl4 ?_
      refine x_bipush C (nI 64) dX12_add_7 rfl ?_
      refine x_icmp_geN C 62 dX12_add_9 (by decide) (by omega) (by omega) (fun c9 => ?_) (fun c9 => ?_)
      · skip
        have c9' := Nat.not_lt.mpr c9
        obtain rfl : k = 64 := by omega
        refine x_vret C xr xk dX12_add_62 ?_
        exact hK _ _ ⟨_, ⟨rfl, rfl⟩, hr, y_pt_64 hp hu⟩
      · skip
        have c9' := Nat.not_le.mpr c9
        refine x_aload_n C (i := 0) dX12_add_12 rfl xl0 ?_
        refine x_getR C fr_38_37 kf_X12_79 dX12_add_13 ?_
        refine x_iload_n C (i := 1) dX12_add_16 rfl xl1 ?_
        refine x_iload C (i := 4) dX12_add_17 xl4 ?_
        refine x_iaddN C dX12_add_19 ?_
        refine x_ialdN C (by decide) rfl (by decide) dX12_add_20 (by omega) ?_
        refine x_topI (y := g (x + k)) rfl ?_
        refine x_topI (y := nI (y_dg v k)) (y_pt_at hp (by omega)) ?_
        refine x_aload_n C (i := 0) dX12_add_21 rfl xl0 ?_
        refine x_getR C fr_38_37 kf_X12_79 dX12_add_22 ?_
        refine x_iload_n C (i := 2) dX12_add_25 rfl xl2 ?_
        refine x_iload C (i := 4) dX12_add_26 xl4 ?_
        refine x_iaddN C dX12_add_28 ?_
        refine x_ialdN C (by decide) rfl (by decide) dX12_add_29 (by omega) ?_
        refine x_topI (y := g (y + k)) rfl ?_
        refine x_topI (y := nI (y_dg w k)) ((hr _ (by omega)).trans (hw.2 k (by omega))) ?_
        refine x_iaddN C dX12_add_30 ?_
        refine x_iload_n C (i := 3) dX12_add_31 rfl xl3 ?_
        refine x_iaddN C dX12_add_32 ?_
        refine x_istore C (i := 5) dX12_add_33 (by decide) ?_
        have hd1 := y_dg_lt v k
        have hd2 := y_dg_lt w k
        have hd3 := y_ca_le v w k
        refine x_aload_n C (i := 0) dX12_add_35 rfl xl0 ?_
        refine x_getR C fr_38_37 kf_X12_79 dX12_add_36 ?_
        refine x_iload_n C (i := 1) dX12_add_39 rfl xl1 ?_
        refine x_iload C (i := 4) dX12_add_40 xl4 ?_
        refine x_iaddN C dX12_add_42 ?_
        refine x_iload C (i := 5) dX12_add_43 rfl ?_
        refine x_ldcw C (65535) kc_X12_289 dX12_add_45 (x_topI (y := nI 65535) rfl ?_)
        refine x_iand C dX12_add_48 ?_
        refine x_topI (y := nI (y_dg (v + w) k)) (by rw [y_ad_d]; exact pk_andN (by omega) 16 (by decide)) ?_
        refine x_iastN C (by decide) rfl (by decide) dX12_add_49 (by omega) ?_
        refine x_sig (σ' := x_st σ [] [(61, upd g (x + k) (nI (y_dg (v + w) k)))] []) (x_st_ua rfl) ?_
        refine x_iload C (i := 5) dX12_add_50 rfl ?_
        refine x_bipush C (nI 16) dX12_add_52 rfl ?_
        refine x_ishr C dX12_add_54 ?_
        refine x_topI (y := nI (y_ca v w (k + 1))) (by rw [y_ca_s]; exact pk_shrN (by omega) _ 16 (by decide)) ?_
        refine x_istore_n C (i := 3) dX12_add_55 rfl (by decide) ?_
        refine x_iincN C (i := 4) (b := 1) dX12_add_56 xl4 rfl (by decide) ?_
        refine x_goto C 5 dX12_add_59 (by decide) ?_
        exact ih5 _ (by omega) (k + 1) (upd g (x + k) (nI (y_dg (v + w) k))) rfl (by omega) (y_fr_u hr (by omega)) (y_pt_s hp) _ xl0 xl1 xl2 rfl rfl
  exact lp5 _ 0 f rfl (Nat.zero_le _) (y_fr_rf x f) (y_pt_0 _ hv) _ rfl rfl rfl rfl rfl
theorem c_X12_add (l : Launch) (Y : x_Y) (σ : x_S) (x y v w : Nat) (f : Nat → Int32) (hf : σ.1 61 = f) (hx : x + 64 ≤ 320) (hy : y + 64 ≤ 320) (hxy : y + 64 ≤ x ∨ x + 64 ≤ y) (hv : y_is f x v) (hw : y_is f y w) (hu : v + w < 65536 ^ 64) : x_M l yX12_add cX12_add 6 none 0 Y [.ref 38, .int (nI x), .int (nI y)] σ (fun r τ => ∃ g, (r = none ∧ τ = x_st σ [] [(61, g)] []) ∧ y_fr x f g ∧ y_is g x (v + w)) := c_X12_add_K l Y σ x y v w f hf hx hy hxy hv hw hu _ (fun _ _ h => h)
set_option maxRecDepth 100000 in
set_option maxHeartbeats 200000 in
theorem c_X12_subtract_K (l : Launch) (Y : x_Y) (σ : x_S) (x y v w : Nat) (f : Nat → Int32) (hf : σ.1 61 = f) (hx : x + 64 ≤ 320) (hy : y + 64 ≤ 320) (hxy : y + 64 ≤ x ∨ x + 64 ≤ y) (hv : y_is f x v) (hw : y_is f y w) (hu : w ≤ v) (K : Option Value → x_S → Prop) (hK : ∀ (r : Option Value) (τ : x_S), (∃ g, (r = none ∧ τ = x_st σ [] [(61, g)] []) ∧ y_fr x f g ∧ y_is g x (v - w)) → K r τ) : x_M l yX12_subtract cX12_subtract 6 none 0 Y [.ref 38, .int (nI x), .int (nI y)] σ K := by
  refine x_start (by decide) (Nat.le_of_ble_eq_true rfl) ?_
  intro xp xe xs xm xg xb xt xc C xr xk
  refine x_sig (σ' := x_st σ [] [(61, f)] []) (x_st_in trivial (And.intro hf trivial) trivial) ?_
  refine x_iconst C (nI 0) dX12_subtract_0 rfl ?_
  refine x_topI (y := nI (y_bo v w 0)) (by rw [y_bo_0]) ?_
  refine x_istore_n C (i := 3) dX12_subtract_1 rfl (by decide) ?_
  refine x_iconst C (nI 0) dX12_subtract_2 rfl ?_
  refine x_istore C (i := 4) dX12_subtract_3 (by decide) ?_
  have lp5 : ∀ (m5 : Nat) (k : Nat) (g : Nat → Int32), (64 - k) = m5 → (k ≤ 64) → (y_fr x f g) → (y_pt g x k (v - w) v) → ∀ L : x_Lo, L.1 0 = some (.ref 38) → L.1 1 = some (.int (nI x)) → L.1 2 = some (.int (nI y)) → L.1 3 = some (.int (nI (y_bo v w k))) → L.1 4 = some (.int (nI k)) → x_W xp l xe (x_rm 0) xs xm xg xb xt xc 6 Y 0 0 (MQ xb (x_Q Y K) xg xs 0 0 (x_A Y)) 5 L [] (x_st σ [] [(61, g)] []) := by
    intro m5
    induction m5 using Nat.strongRecOn with
    | _ m5 ih5 =>
      intro k g hm5 hk hr hp L xl0 xl1 xl2 xl3 xl4
      refine x_iload C (i := 4) dX12_subtract_5 xl4 ?_
      refine x_bipush C (nI 64) dX12_subtract_7 rfl ?_
      refine x_icmp_geN C 67 dX12_subtract_9 (by decide) (by omega) (by omega) (fun c9 => ?_) (fun c9 => ?_)
      · skip
        have c9' := Nat.not_lt.mpr c9
        obtain rfl : k = 64 := by omega
        refine x_vret C xr xk dX12_subtract_67 ?_
        exact hK _ _ ⟨_, ⟨rfl, rfl⟩, hr, y_pt_64 hp (Nat.lt_of_le_of_lt (Nat.sub_le _ _) hv.1)⟩
      · skip
        have c9' := Nat.not_le.mpr c9
        refine x_aload_n C (i := 0) dX12_subtract_12 rfl xl0 ?_
        refine x_getR C fr_38_37 kf_X12_79 dX12_subtract_13 ?_
        refine x_iload_n C (i := 1) dX12_subtract_16 rfl xl1 ?_
        refine x_iload C (i := 4) dX12_subtract_17 xl4 ?_
        refine x_iaddN C dX12_subtract_19 ?_
        refine x_ialdN C (by decide) rfl (by decide) dX12_subtract_20 (by omega) ?_
        refine x_topI (y := g (x + k)) rfl ?_
        refine x_topI (y := nI (y_dg v k)) (y_pt_at hp (by omega)) ?_
        refine x_aload_n C (i := 0) dX12_subtract_21 rfl xl0 ?_
        refine x_getR C fr_38_37 kf_X12_79 dX12_subtract_22 ?_
        refine x_iload_n C (i := 2) dX12_subtract_25 rfl xl2 ?_
        refine x_iload C (i := 4) dX12_subtract_26 xl4 ?_
        refine x_iaddN C dX12_subtract_28 ?_
        refine x_ialdN C (by decide) rfl (by decide) dX12_subtract_29 (by omega) ?_
        refine x_topI (y := g (y + k)) rfl ?_
        refine x_topI (y := nI (y_dg w k)) ((hr _ (by omega)).trans (hw.2 k (by omega))) ?_
        refine x_isub C dX12_subtract_30 ?_
        refine x_iload_n C (i := 3) dX12_subtract_31 rfl xl3 ?_
        refine x_isub C dX12_subtract_32 ?_
        refine x_istore C (i := 5) dX12_subtract_33 (by decide) ?_
        have hd1 := y_dg_lt v k
        have hd2 := y_dg_lt w k
        have hd3 := y_bo_le v w k
        have hsu := y_su v w k hu
        refine x_aload_n C (i := 0) dX12_subtract_35 rfl xl0 ?_
        refine x_getR C fr_38_37 kf_X12_79 dX12_subtract_36 ?_
        refine x_iload_n C (i := 1) dX12_subtract_39 rfl xl1 ?_
        refine x_iload C (i := 4) dX12_subtract_40 xl4 ?_
        refine x_iaddN C dX12_subtract_42 ?_
        refine x_iload C (i := 5) dX12_subtract_43 rfl ?_
        refine x_ldcw C (65535) kc_X12_289 dX12_subtract_45 (x_topI (y := nI 65535) rfl ?_)
        refine x_iand C dX12_subtract_48 ?_
        refine x_topI (y := nI (y_dg (v - w) k)) (by rw [hsu.1]; exact y_sb hd1 hd2 hd3) ?_
        refine x_iastN C (by decide) rfl (by decide) dX12_subtract_49 (by omega) ?_
        refine x_sig (σ' := x_st σ [] [(61, upd g (x + k) (nI (y_dg (v - w) k)))] []) (x_st_ua rfl) ?_
        refine x_iload C (i := 5) dX12_subtract_50 rfl ?_
        refine x_jf_ge C 59 dX12_subtract_52 (by decide) (fun c52 => ?_) (fun c52 => ?_)
        · skip
          have c52' := Int32.not_lt.mpr c52
          refine x_iconst C (nI 0) dX12_subtract_59 rfl ?_
          refine x_topI (y := nI (y_bo v w (k + 1))) (by rw [hsu.2, if_neg (fun z => c52' ((y_sbn hd1 hd2 hd3).mpr z))]) ?_
          refine x_istore_n C (i := 3) dX12_subtract_60 rfl (by decide) ?_
          refine x_iincN C (i := 4) (b := 1) dX12_subtract_61 xl4 rfl (by decide) ?_
          refine x_goto C 5 dX12_subtract_64 (by decide) ?_
          exact ih5 _ (by omega) (k + 1) (upd g (x + k) (nI (y_dg (v - w) k))) rfl (by omega) (y_fr_u hr (by omega)) (y_pt_s hp) _ xl0 xl1 xl2 rfl rfl
        · skip
          have c52' := Int32.not_le.mpr c52
          refine x_iconst C (nI 1) dX12_subtract_55 rfl ?_
          refine x_topI (y := nI (y_bo v w (k + 1))) (by rw [hsu.2, if_pos ((y_sbn hd1 hd2 hd3).mp c52)]) ?_
          refine x_goto C 60 dX12_subtract_56 (by decide) ?_
          refine x_istore_n C (i := 3) dX12_subtract_60 rfl (by decide) ?_
          refine x_iincN C (i := 4) (b := 1) dX12_subtract_61 xl4 rfl (by decide) ?_
          refine x_goto C 5 dX12_subtract_64 (by decide) ?_
          exact ih5 _ (by omega) (k + 1) (upd g (x + k) (nI (y_dg (v - w) k))) rfl (by omega) (y_fr_u hr (by omega)) (y_pt_s hp) _ xl0 xl1 xl2 rfl rfl
  exact lp5 _ 0 f rfl (Nat.zero_le _) (y_fr_rf x f) (y_pt_0 _ hv) _ rfl rfl rfl rfl rfl
theorem c_X12_subtract (l : Launch) (Y : x_Y) (σ : x_S) (x y v w : Nat) (f : Nat → Int32) (hf : σ.1 61 = f) (hx : x + 64 ≤ 320) (hy : y + 64 ≤ 320) (hxy : y + 64 ≤ x ∨ x + 64 ≤ y) (hv : y_is f x v) (hw : y_is f y w) (hu : w ≤ v) : x_M l yX12_subtract cX12_subtract 6 none 0 Y [.ref 38, .int (nI x), .int (nI y)] σ (fun r τ => ∃ g, (r = none ∧ τ = x_st σ [] [(61, g)] []) ∧ y_fr x f g ∧ y_is g x (v - w)) := c_X12_subtract_K l Y σ x y v w f hf hx hy hxy hv hw hu _ (fun _ _ h => h)
set_option maxRecDepth 100000 in
set_option maxHeartbeats 200000 in
theorem c_X12_isBelow_K (l : Launch) (Y : x_Y) (σ : x_S) (x y v w : Nat) (f : Nat → Int32) (hf : σ.1 61 = f) (hx : x + 64 ≤ 320) (hy : y + 64 ≤ 320) (hv : y_is f x v) (hw : y_is f y w) (K : Option Value → x_S → Prop) (hK : ∀ (r : Option Value) (τ : x_S), (r = some (.int (x_z (decide (v < w)))) ∧ τ = σ) → K r τ) : x_M l yX12_isBelow cX12_isBelow 4 (some .boolean) 0 Y [.ref 38, .int (nI x), .int (nI y)] σ K := by
  refine x_start (by decide) (Nat.le_of_ble_eq_true rfl) ?_
  intro xp xe xs xm xg xb xt xc C xr xk
  refine x_bipush C (nI 63) dX12_isBelow_0 rfl ?_
  refine x_istore_n C (i := 3) dX12_isBelow_2 rfl (by decide) ?_
  have lp3 : ∀ (m3 : Nat) (k : Nat), (k) = m3 → (k < 64) → (v / 65536 ^ (k + 1) = w / 65536 ^ (k + 1)) → ∀ L : x_Lo, L.1 0 = some (.ref 38) → L.1 1 = some (.int (nI x)) → L.1 2 = some (.int (nI y)) → L.1 3 = some (.int (nI k)) → x_W xp l xe (x_rm 0) xs xm xg xb xt xc 4 Y 0 0 (MQ xb (x_Q Y K) xg xs 0 0 (x_A Y)) 3 L [] σ := by
    intro m3
    induction m3 using Nat.strongRecOn with
    | _ m3 ih3 =>
      intro k hm3 hk he L xl0 xl1 xl2 xl3
      have lp32 : (k = 0 ∨ y_dg v k ≠ y_dg w k) → ∀ L : x_Lo, L.1 0 = some (.ref 38) → L.1 1 = some (.int (nI x)) → L.1 2 = some (.int (nI y)) → L.1 3 = some (.int (nI k)) → x_W xp l xe (x_rm 0) xs xm xg xb xt xc 4 Y 0 0 (MQ xb (x_Q Y K) xg xs 0 0 (x_A Y)) 32 L [] σ := by
        intro  hne L xl0 xl1 xl2 xl3
        refine x_aload_n C (i := 0) dX12_isBelow_32 rfl xl0 ?_
        refine x_getR C fr_38_37 kf_X12_79 dX12_isBelow_33 ?_
        refine x_iload_n C (i := 1) dX12_isBelow_36 rfl xl1 ?_
        refine x_iload_n C (i := 3) dX12_isBelow_37 rfl xl3 ?_
        refine x_iaddN C dX12_isBelow_38 ?_
        refine x_ialdN C (by decide) rfl (by decide) dX12_isBelow_39 (by omega) ?_
        refine x_topI (y := nI (y_dg v k)) ((congrFun hf _).trans (hv.2 k (by omega))) ?_
        refine x_aload_n C (i := 0) dX12_isBelow_40 rfl xl0 ?_
        refine x_getR C fr_38_37 kf_X12_79 dX12_isBelow_41 ?_
        refine x_iload_n C (i := 2) dX12_isBelow_44 rfl xl2 ?_
        refine x_iload_n C (i := 3) dX12_isBelow_45 rfl xl3 ?_
        refine x_iaddN C dX12_isBelow_46 ?_
        refine x_ialdN C (by decide) rfl (by decide) dX12_isBelow_47 (by omega) ?_
        refine x_topI (y := nI (y_dg w k)) ((congrFun hf _).trans (hw.2 k (by omega))) ?_
        have hd1 := y_dg_lt v k
        have hd2 := y_dg_lt w k
        have hbl := y_bl he hne
        refine x_icmp_geN C 55 dX12_isBelow_48 (by decide) (by omega) (by omega) (fun c48 => ?_) (fun c48 => ?_)
        · skip
          have c48' := Nat.not_lt.mpr c48
          refine x_iconst C (nI 0) dX12_isBelow_55 rfl ?_
          refine x_zret C xr xk dX12_isBelow_56 rfl ?_
          exact hK _ _ ⟨by rw [decide_eq_false (fun z => absurd (hbl.mpr z) (by omega))]; rfl, rfl⟩
        · skip
          have c48' := Nat.not_le.mpr c48
          refine x_iconst C (nI 1) dX12_isBelow_51 rfl ?_
          refine x_goto C 56 dX12_isBelow_52 (by decide) ?_
          refine x_zret C xr xk dX12_isBelow_56 rfl ?_
          exact hK _ _ ⟨by rw [decide_eq_true (hbl.mp c48)]; rfl, rfl⟩
      refine x_iload_n C (i := 3) dX12_isBelow_3 rfl xl3 ?_
      refine x_if_leN C 32 dX12_isBelow_4 (by decide) (by omega) (fun c4 => ?_) (fun c4 => ?_)
      · skip
        exact lp32 (Or.inl c4) _ xl0 xl1 xl2 xl3
      · skip
        refine x_aload_n C (i := 0) dX12_isBelow_7 rfl xl0 ?_
        refine x_getR C fr_38_37 kf_X12_79 dX12_isBelow_8 ?_
        refine x_iload_n C (i := 1) dX12_isBelow_11 rfl xl1 ?_
        refine x_iload_n C (i := 3) dX12_isBelow_12 rfl xl3 ?_
        refine x_iaddN C dX12_isBelow_13 ?_
        refine x_ialdN C (by decide) rfl (by decide) dX12_isBelow_14 (by omega) ?_
        refine x_topI (y := nI (y_dg v k)) ((congrFun hf _).trans (hv.2 k (by omega))) ?_
        refine x_aload_n C (i := 0) dX12_isBelow_15 rfl xl0 ?_
        refine x_getR C fr_38_37 kf_X12_79 dX12_isBelow_16 ?_
        refine x_iload_n C (i := 2) dX12_isBelow_19 rfl xl2 ?_
        refine x_iload_n C (i := 3) dX12_isBelow_20 rfl xl3 ?_
        refine x_iaddN C dX12_isBelow_21 ?_
        refine x_ialdN C (by decide) rfl (by decide) dX12_isBelow_22 (by omega) ?_
        refine x_topI (y := nI (y_dg w k)) ((congrFun hf _).trans (hw.2 k (by omega))) ?_
        have hd1 := y_dg_lt v k
        have hd2 := y_dg_lt w k
        refine x_icmp_neN C 32 dX12_isBelow_23 (by decide) (by omega) (by omega) (fun c23 => ?_) (fun c23 => ?_)
        · skip
          exact lp32 (Or.inr c23) _ xl0 xl1 xl2 xl3
        · skip
          refine x_idecN C (i := 3) (a := (k - 1)) dX12_isBelow_26 (by rw [show (k - 1) + 1 = k by omega]; exact xl3) (by decide) ?_
          refine x_goto C 3 dX12_isBelow_29 (by decide) ?_
          exact ih3 _ (by omega) (k - 1) rfl (by omega) (by rw [show k - 1 + 1 = k by omega, y_dg_s v k, y_dg_s w k, he]; omega) _ xl0 xl1 xl2 rfl
  exact lp3 _ 63 rfl (by decide) (by rw [Nat.div_eq_of_lt hv.1, Nat.div_eq_of_lt hw.1]) _ rfl rfl rfl rfl
theorem c_X12_isBelow (l : Launch) (Y : x_Y) (σ : x_S) (x y v w : Nat) (f : Nat → Int32) (hf : σ.1 61 = f) (hx : x + 64 ≤ 320) (hy : y + 64 ≤ 320) (hv : y_is f x v) (hw : y_is f y w) : x_M l yX12_isBelow cX12_isBelow 4 (some .boolean) 0 Y [.ref 38, .int (nI x), .int (nI y)] σ (fun r τ => r = some (.int (x_z (decide (v < w)))) ∧ τ = σ) := c_X12_isBelow_K l Y σ x y v w f hf hx hy hv hw _ (fun _ _ h => h)
set_option maxRecDepth 100000 in
set_option maxHeartbeats 200000 in
theorem c_X12_isNought_K (l : Launch) (Y : x_Y) (σ : x_S) (x v : Nat) (f : Nat → Int32) (hf : σ.1 61 = f) (hx : x + 64 ≤ 320) (hv : y_is f x v) (K : Option Value → x_S → Prop) (hK : ∀ (r : Option Value) (τ : x_S), (r = some (.int (x_z (decide (v = 0)))) ∧ τ = σ) → K r τ) : x_M l yX12_isNought cX12_isNought 4 (some .boolean) 0 Y [.ref 38, .int (nI x)] σ K := by
  refine x_start (by decide) (Nat.le_of_ble_eq_true rfl) ?_
  intro xp xe xs xm xg xb xt xc C xr xk
  refine x_iconst C (nI 1) dX12_isNought_0 rfl ?_
  refine x_istore_n C (i := 2) dX12_isNought_1 rfl (by decide) ?_
  refine x_iconst C (nI 0) dX12_isNought_2 rfl ?_
  refine x_istore_n C (i := 3) dX12_isNought_3 rfl (by decide) ?_
  have lp4 : ∀ (m4 : Nat) (k : Nat) (is : Bool), (64 - k) = m4 → (k ≤ 64) → (is = decide (v % 65536 ^ k = 0)) → ∀ L : x_Lo, L.1 0 = some (.ref 38) → L.1 1 = some (.int (nI x)) → L.1 2 = some (.int (x_z is)) → L.1 3 = some (.int (nI k)) → x_W xp l xe (x_rm 0) xs xm xg xb xt xc 4 Y 0 0 (MQ xb (x_Q Y K) xg xs 0 0 (x_A Y)) 4 L [] σ := by
    intro m4
    induction m4 using Nat.strongRecOn with
    | _ m4 ih4 =>
      intro k is hm4 hk hs L xl0 xl1 xl2 xl3
      refine x_iload_n C (i := 3) dX12_isNought_4 rfl xl3 ?_
      refine x_bipush C (nI 64) dX12_isNought_5 rfl ?_
      refine x_icmp_geN C 37 dX12_isNought_7 (by decide) (by omega) (by omega) (fun c7 => ?_) (fun c7 => ?_)
      · skip
        have c7' := Nat.not_lt.mpr c7
        obtain rfl : k = 64 := by omega
        refine x_iload_n C (i := 2) dX12_isNought_37 rfl xl2 ?_
        refine x_zret C xr xk dX12_isNought_38 (x_z_n _) ?_
        exact hK _ _ ⟨by rw [hs, Nat.mod_eq_of_lt hv.1], rfl⟩
      · skip
        have c7' := Nat.not_le.mpr c7
        refine x_iload_n C (i := 2) dX12_isNought_10 rfl xl2 ?_
        refine x_if_eqZ C 29 dX12_isNought_11 (by decide) (fun c11 => ?_) (fun c11 => ?_)
        · skip
          refine x_iconst C (nI 0) dX12_isNought_29 rfl ?_
          refine x_istore_n C (i := 2) dX12_isNought_30 rfl (by decide) ?_
          refine x_iincN C (i := 3) (b := 1) dX12_isNought_31 xl3 rfl (by decide) ?_
          refine x_goto C 4 dX12_isNought_34 (by decide) ?_
          exact ih4 _ (by omega) (k + 1) false rfl (by omega) (by rw [y_no, ← hs, c11]; first | rfl | (rw [decide_eq_true c22]; rfl) | (rw [decide_eq_false c22]; rfl)) _ xl0 xl1 rfl rfl
        · skip
          refine x_aload_n C (i := 0) dX12_isNought_14 rfl xl0 ?_
          refine x_getR C fr_38_37 kf_X12_79 dX12_isNought_15 ?_
          refine x_iload_n C (i := 1) dX12_isNought_18 rfl xl1 ?_
          refine x_iload_n C (i := 3) dX12_isNought_19 rfl xl3 ?_
          refine x_iaddN C dX12_isNought_20 ?_
          refine x_ialdN C (by decide) rfl (by decide) dX12_isNought_21 (by omega) ?_
          refine x_topI (y := nI (y_dg v k)) ((congrFun hf _).trans (hv.2 k (by omega))) ?_
          have hd1 := y_dg_lt v k
          refine x_if_neN C 29 dX12_isNought_22 (by decide) (by omega) (fun c22 => ?_) (fun c22 => ?_)
          · skip
            refine x_iconst C (nI 0) dX12_isNought_29 rfl ?_
            refine x_istore_n C (i := 2) dX12_isNought_30 rfl (by decide) ?_
            refine x_iincN C (i := 3) (b := 1) dX12_isNought_31 xl3 rfl (by decide) ?_
            refine x_goto C 4 dX12_isNought_34 (by decide) ?_
            exact ih4 _ (by omega) (k + 1) false rfl (by omega) (by rw [y_no, ← hs, c11]; first | rfl | (rw [decide_eq_true c22]; rfl) | (rw [decide_eq_false c22]; rfl)) _ xl0 xl1 rfl rfl
          · skip
            refine x_iconst C (nI 1) dX12_isNought_25 rfl ?_
            refine x_goto C 30 dX12_isNought_26 (by decide) ?_
            refine x_istore_n C (i := 2) dX12_isNought_30 rfl (by decide) ?_
            refine x_iincN C (i := 3) (b := 1) dX12_isNought_31 xl3 rfl (by decide) ?_
            refine x_goto C 4 dX12_isNought_34 (by decide) ?_
            exact ih4 _ (by omega) (k + 1) true rfl (by omega) (by rw [y_no, ← hs, c11]; first | rfl | (rw [decide_eq_true c22]; rfl) | (rw [decide_eq_false c22]; rfl)) _ xl0 xl1 rfl rfl
  exact lp4 _ 0 true rfl (Nat.zero_le _) (by rw [Nat.pow_zero, Nat.mod_one]; rfl) _ rfl rfl rfl rfl
theorem c_X12_isNought (l : Launch) (Y : x_Y) (σ : x_S) (x v : Nat) (f : Nat → Int32) (hf : σ.1 61 = f) (hx : x + 64 ≤ 320) (hv : y_is f x v) : x_M l yX12_isNought cX12_isNought 4 (some .boolean) 0 Y [.ref 38, .int (nI x)] σ (fun r τ => r = some (.int (x_z (decide (v = 0)))) ∧ τ = σ) := c_X12_isNought_K l Y σ x v f hf hx hv _ (fun _ _ h => h)
set_option maxRecDepth 100000 in
set_option maxHeartbeats 200000 in
theorem c_X12_halve_K (l : Launch) (Y : x_Y) (σ : x_S) (x v : Nat) (f : Nat → Int32) (hf : σ.1 61 = f) (hx : x + 64 ≤ 320) (hv : y_is f x v) (K : Option Value → x_S → Prop) (hK : ∀ (r : Option Value) (τ : x_S), (∃ g, (r = none ∧ τ = x_st σ [] [(61, g)] []) ∧ y_fr x f g ∧ y_is g x (v / 2)) → K r τ) : x_M l yX12_halve cX12_halve 3 none 0 Y [.ref 38, .int (nI x)] σ K := by
  refine x_start (by decide) (Nat.le_of_ble_eq_true rfl) ?_
  intro xp xe xs xm xg xb xt xc C xr xk
  refine x_sig (σ' := x_st σ [] [(61, f)] []) (x_st_in trivial (And.intro hf trivial) trivial) ?_
  refine x_iconst C (nI 0) dX12_halve_0 rfl ?_
  refine x_istore_n C (i := 2) dX12_halve_1 rfl (by decide) ?_
  have lp2 : ∀ (m2 : Nat) (k : Nat) (g : Nat → Int32), (64 - k) = m2 → (k ≤ 64) → (y_fr x f g) → (y_pt g x k (v / 2) v) → ∀ L : x_Lo, L.1 0 = some (.ref 38) → L.1 1 = some (.int (nI x)) → L.1 2 = some (.int (nI k)) → x_W xp l xe (x_rm 0) xs xm xg xb xt xc 3 Y 0 0 (MQ xb (x_Q Y K) xg xs 0 0 (x_A Y)) 2 L [] (x_st σ [] [(61, g)] []) := by
    intro m2
    induction m2 using Nat.strongRecOn with
    | _ m2 ih2 =>
      intro k g hm2 hk hr hp L xl0 xl1 xl2
      refine x_iload_n C (i := 2) dX12_halve_2 rfl xl2 ?_
      refine x_bipush C (nI 64) dX12_halve_3 rfl ?_
      refine x_icmp_geN C 60 dX12_halve_5 (by decide) (by omega) (by omega) (fun c5 => ?_) (fun c5 => ?_)
      · skip
        have c5' := Nat.not_lt.mpr c5
        obtain rfl : k = 64 := by omega
        refine x_vret C xr xk dX12_halve_60 ?_
        exact hK _ _ ⟨_, ⟨rfl, rfl⟩, hr, y_pt_64 hp (Nat.lt_of_le_of_lt (Nat.div_le_self _ _) hv.1)⟩
      · skip
        have c5' := Nat.not_le.mpr c5
        refine x_aload_n C (i := 0) dX12_halve_8 rfl xl0 ?_
        refine x_getR C fr_38_37 kf_X12_79 dX12_halve_9 ?_
        refine x_iload_n C (i := 1) dX12_halve_12 rfl xl1 ?_
        refine x_iload_n C (i := 2) dX12_halve_13 rfl xl2 ?_
        refine x_iaddN C dX12_halve_14 ?_
        refine x_aload_n C (i := 0) dX12_halve_15 rfl xl0 ?_
        refine x_getR C fr_38_37 kf_X12_79 dX12_halve_16 ?_
        refine x_iload_n C (i := 1) dX12_halve_19 rfl xl1 ?_
        refine x_iload_n C (i := 2) dX12_halve_20 rfl xl2 ?_
        refine x_iaddN C dX12_halve_21 ?_
        refine x_ialdN C (by decide) rfl (by decide) dX12_halve_22 (by omega) ?_
        refine x_topI (y := g (x + k)) rfl ?_
        refine x_topI (y := nI (y_dg v k)) (y_pt_at hp (by omega)) ?_
        have hd1 := y_dg_lt v k
        have hd2 := y_dg_lt v (k + 1)
        refine x_iconst C (nI 1) dX12_halve_23 rfl ?_
        refine x_ishr C dX12_halve_24 ?_
        refine x_topI (y := nI (y_dg v k / 2)) (pk_shrN (by omega) _ 1 (by decide)) ?_
        refine x_iload_n C (i := 2) dX12_halve_25 rfl xl2 ?_
        refine x_iconst C (nI 1) dX12_halve_26 rfl ?_
        refine x_iaddN C dX12_halve_27 ?_
        refine x_bipush C (nI 64) dX12_halve_28 rfl ?_
        refine x_icmp_geN C 51 dX12_halve_30 (by decide) (by omega) (by omega) (fun c30 => ?_) (fun c30 => ?_)
        · skip
          have c30' := Nat.not_lt.mpr c30
          refine x_iconst C (nI 0) dX12_halve_51 rfl ?_
          refine x_topI (y := nI (y_dg v (k + 1) % 2 * 32768)) (by rw [show k + 1 = 64 by omega, y_dg_64 hv.1]) ?_
          refine x_ior C dX12_halve_52 ?_
          refine x_topI (y := nI (y_dg (v / 2) k)) (by rw [y_ha]; exact y_or (by omega) (by omega)) ?_
          refine x_iastN C (by decide) rfl (by decide) dX12_halve_53 (by omega) ?_
          refine x_sig (σ' := x_st σ [] [(61, upd g (x + k) (nI (y_dg (v / 2) k)))] []) (x_st_ua rfl) ?_
          refine x_iincN C (i := 2) (b := 1) dX12_halve_54 xl2 rfl (by decide) ?_
          refine x_goto C 2 dX12_halve_57 (by decide) ?_
          exact ih2 _ (by omega) (k + 1) (upd g (x + k) (nI (y_dg (v / 2) k))) rfl (by omega) (y_fr_u hr (by omega)) (y_pt_s hp) _ xl0 xl1 rfl
        · skip
          have c30' := Nat.not_le.mpr c30
          refine x_aload_n C (i := 0) dX12_halve_33 rfl xl0 ?_
          refine x_getR C fr_38_37 kf_X12_79 dX12_halve_34 ?_
          refine x_iload_n C (i := 1) dX12_halve_37 rfl xl1 ?_
          refine x_iload_n C (i := 2) dX12_halve_38 rfl xl2 ?_
          refine x_iaddN C dX12_halve_39 ?_
          refine x_iconst C (nI 1) dX12_halve_40 rfl ?_
          refine x_iaddN C dX12_halve_41 ?_
          refine x_ialdN C (by decide) rfl (by decide) dX12_halve_42 (by omega) ?_
          refine x_topI (y := g (x + k + 1)) rfl ?_
          refine x_topI (y := nI (y_dg v (k + 1))) (y_pt_hi (j := k + 1) hp (by omega) (by omega)) ?_
          refine x_iconst C (nI 1) dX12_halve_43 rfl ?_
          refine x_iand C dX12_halve_44 ?_
          refine x_topI (y := nI (y_dg v (k + 1) % 2)) (pk_andN (by omega) 1 (by decide)) ?_
          refine x_bipush C (nI 15) dX12_halve_45 rfl ?_
          refine x_ishl C dX12_halve_47 ?_
          refine x_topI (y := nI (y_dg v (k + 1) % 2 * 32768)) (pk_shlN _ 15 (by decide) (by omega)) ?_
          refine x_goto C 52 dX12_halve_48 (by decide) ?_
          refine x_ior C dX12_halve_52 ?_
          refine x_topI (y := nI (y_dg (v / 2) k)) (by rw [y_ha]; exact y_or (by omega) (by omega)) ?_
          refine x_iastN C (by decide) rfl (by decide) dX12_halve_53 (by omega) ?_
          refine x_sig (σ' := x_st σ [] [(61, upd g (x + k) (nI (y_dg (v / 2) k)))] []) (x_st_ua rfl) ?_
          refine x_iincN C (i := 2) (b := 1) dX12_halve_54 xl2 rfl (by decide) ?_
          refine x_goto C 2 dX12_halve_57 (by decide) ?_
          exact ih2 _ (by omega) (k + 1) (upd g (x + k) (nI (y_dg (v / 2) k))) rfl (by omega) (y_fr_u hr (by omega)) (y_pt_s hp) _ xl0 xl1 rfl
  exact lp2 _ 0 f rfl (Nat.zero_le _) (y_fr_rf x f) (y_pt_0 _ hv) _ rfl rfl rfl
theorem c_X12_halve (l : Launch) (Y : x_Y) (σ : x_S) (x v : Nat) (f : Nat → Int32) (hf : σ.1 61 = f) (hx : x + 64 ≤ 320) (hv : y_is f x v) : x_M l yX12_halve cX12_halve 3 none 0 Y [.ref 38, .int (nI x)] σ (fun r τ => ∃ g, (r = none ∧ τ = x_st σ [] [(61, g)] []) ∧ y_fr x f g ∧ y_is g x (v / 2)) := c_X12_halve_K l Y σ x v f hf hx hv _ (fun _ _ h => h)
