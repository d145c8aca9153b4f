set_option maxRecDepth 100000 in
set_option maxHeartbeats 200000 in
theorem c_X0_readIndex_K (l : Launch) (Y : x_Y) (σ : x_S) (fr : Nat) (hf : fr ≤ 9000) (b : Nat → Int32) (t : Nat) (ht : σ.1 1 1 = nI t) (hb : σ.1 2 = b) (ht8 : t ≤ 8000)  (K : Option Value → x_S → Prop) (hK : ∀ (r : Option Value) (τ : x_S), (((x_idx b t fr).1 = true ∧ r = some (.int (x_z true)) ∧ (x_idx b t fr).2.2.2 ≤ 127 ∧ ∃ q, τ = x_st σ [(19, 5, nI (x_idx b t fr).2.2.2), (19, 6, x_z (x_idx b t fr).2.2.1), (19, 7, q)] [] []) ∨ ((x_idx b t fr).1 = false ∧ r = some (.int (x_z false)) ∧ ∃ q1 q2, τ = x_st σ [(19, 5, q1), (19, 6, q2), (19, 7, nI (x_idx b t fr).2.1)] [] [])) → K r τ) : x_M l yX0_readIndex cX0_readIndex 2 (some .boolean) 3 Y [.ref 19, .int (nI fr)] σ K := by
  refine x_start (by decide) (Nat.le_of_ble_eq_true rfl) ?_
  intro xp xe xs xm xg xb xt xc C xr xk
  refine x_sig (σ' := x_st σ [(19, 5, σ.1 19 5), (19, 6, σ.1 19 6), (19, 7, σ.1 19 7)] [] []) (x_st_in (And.intro rfl (And.intro rfl (And.intro rfl trivial))) trivial trivial) ?_
  refine x_aload_n C (i := 0) dX0_readIndex_0 rfl rfl ?_
  refine x_iload_n C (i := 1) dX0_readIndex_1 rfl rfl ?_
  refine x_iconst C (nI 4) dX0_readIndex_2 rfl ?_
  refine x_iconst C (nI 1) dX0_readIndex_3 rfl ?_
  have hM := c_X0_readWhole l Y (x_st σ [(19, 5, σ.1 19 5), (19, 6, σ.1 19 6), (19, 7, σ.1 19 7)] [] []) fr 4 true (by omega) (by decide) (by decide) b t ht hb ht8
  refine x_callV C (as := [.int (nI fr), .int (nI 4), .int (x_z true)]) (st := []) (hM) kb_X0_readWhole kv_X0_79 dX0_readIndex_4 rfl rfl (Nat.le_of_ble_eq_true rfl) ⟨by decide, by decide⟩ ⟨by decide, by decide⟩ ko_19 ?_
  clear hM
  rintro _ _ (⟨hx, rfl, hv, q, rfl⟩ | ⟨hx, rfl, q1, q2, rfl⟩)
  · skip
    refine x_sig (σ' := x_st σ [(19, 5, nI ((x_colf b t true 4 fr false false 0).2.2.2)), (19, 6, x_z ((x_colf b t true 4 fr false false 0).2.2.1)), (19, 7, q)] [] []) (x_st_st rfl) ?_
    refine x_if_neZ C 12 dX0_readIndex_7 (by decide) (fun c7 => ?_) (fun c7 => absurd c7 (by decide))
    refine x_aload_n C (i := 0) dX0_readIndex_12 rfl rfl ?_
    refine x_getI C fi_19_5 kf_X0_76 dX0_readIndex_13 ?_
    refine x_topI (y := nI ((x_colf b t true 4 fr false false 0).2.2.2)) rfl ?_
    refine x_bipush C (nI 127) dX0_readIndex_16 rfl ?_
    refine x_icmp_leN C 33 dX0_readIndex_18 (by decide) (by omega) (by omega) (fun c18 => ?_) (fun c18 => ?_)
    · skip
      have c18' := Nat.not_lt.mpr c18
      have hE : (x_idx b t fr) = (true, fr + 4, (x_colf b t true 4 fr false false 0).2.2.1, (x_colf b t true 4 fr false false 0).2.2.2) := by unfold x_idx; rw [if_pos hx, if_pos c18]
      refine x_iconst C (nI 1) dX0_readIndex_33 rfl ?_
      refine x_goto C 38 dX0_readIndex_34 (by decide) ?_
      refine x_zret C xr xk dX0_readIndex_38 rfl ?_
      exact hK _ _ (by
        rw [hE]
        exact Or.inl ⟨rfl, rfl, c18, _, rfl⟩)
    · skip
      have c18' := Nat.not_le.mpr c18
      have hE : (x_idx b t fr) = (false, fr + 4 - 1, false, 0) := by unfold x_idx; rw [if_pos hx, if_neg c18', show fr + 4 - 1 = fr + 3 by omega]
      refine x_aload_n C (i := 0) dX0_readIndex_21 rfl rfl ?_
      refine x_iload_n C (i := 1) dX0_readIndex_22 rfl rfl ?_
      refine x_iconst C (nI 4) dX0_readIndex_23 rfl ?_
      refine x_iaddN C dX0_readIndex_24 ?_
      refine x_iconst C (nI 1) dX0_readIndex_25 rfl ?_
      refine x_isubN C dX0_readIndex_26 (by omega) ?_
      have hM := c_X0_failAt l Y (x_st σ [(19, 5, nI ((x_colf b t true 4 fr false false 0).2.2.2)), (19, 6, x_z ((x_colf b t true 4 fr false false 0).2.2.1)), (19, 7, q)] [] []) ((fr + 4) - 1)
      refine x_callV C (as := [.int (nI ((fr + 4) - 1))]) (st := []) (hM) kb_X0_failAt kv_X0_83 dX0_readIndex_27 rfl rfl (Nat.le_of_ble_eq_true rfl) ⟨by decide, by decide⟩ ⟨by decide, by decide⟩ ko_19 ?_
      clear hM
      rintro _ _ ⟨rfl, rfl⟩
      refine x_sig (σ' := x_st σ [(19, 5, nI ((x_colf b t true 4 fr false false 0).2.2.2)), (19, 6, x_z ((x_colf b t true 4 fr false false 0).2.2.1)), (19, 7, nI ((fr + 4) - 1))] [] []) (x_st_u rfl) ?_
      refine x_if_eqZ C 37 dX0_readIndex_30 (by decide) (fun c30 => ?_) (fun c30 => absurd c30 (by decide))
      refine x_iconst C (nI 0) dX0_readIndex_37 rfl ?_
      refine x_zret C xr xk dX0_readIndex_38 rfl ?_
      exact hK _ _ (by
        rw [hE]
        exact Or.inr ⟨rfl, rfl, _, _, rfl⟩)
  · skip
    refine x_sig (σ' := x_st σ [(19, 5, q1), (19, 6, q2), (19, 7, nI ((x_colf b t true 4 fr false false 0).2.1))] [] []) (x_st_st rfl) ?_
    refine x_if_neZ C 12 dX0_readIndex_7 (by decide) (fun c7 => absurd c7 (by decide)) (fun c7 => ?_)
    refine x_iconst C (nI 0) dX0_readIndex_10 rfl ?_
    have hE : (x_idx b t fr) = (false, (x_colf b t true 4 fr false false 0).2.1, false, 0) := by unfold x_idx; rw [if_neg (by rw [hx]; decide)]
    refine x_zret C xr xk dX0_readIndex_11 rfl ?_
    exact hK _ _ (by
      rw [hE]
      exact Or.inr ⟨rfl, rfl, _, _, rfl⟩)
theorem c_X0_readIndex (l : Launch) (Y : x_Y) (σ : x_S) (fr : Nat) (hf : fr ≤ 9000) (b : Nat → Int32) (t : Nat) (ht : σ.1 1 1 = nI t) (hb : σ.1 2 = b) (ht8 : t ≤ 8000)  : x_M l yX0_readIndex cX0_readIndex 2 (some .boolean) 3 Y [.ref 19, .int (nI fr)] σ (fun r τ => ((x_idx b t fr).1 = true ∧ r = some (.int (x_z true)) ∧ (x_idx b t fr).2.2.2 ≤ 127 ∧ ∃ q, τ = x_st σ [(19, 5, nI (x_idx b t fr).2.2.2), (19, 6, x_z (x_idx b t fr).2.2.1), (19, 7, q)] [] []) ∨ ((x_idx b t fr).1 = false ∧ r = some (.int (x_z false)) ∧ ∃ q1 q2, τ = x_st σ [(19, 5, q1), (19, 6, q2), (19, 7, nI (x_idx b t fr).2.1)] [] [])) := c_X0_readIndex_K l Y σ fr hf b t ht hb ht8 _ (fun _ _ h => h)
set_option maxRecDepth 100000 in
set_option maxHeartbeats 200000 in
theorem c_X0_readHundredths_K (l : Launch) (Y : x_Y) (σ : x_S) (fr : Nat) (sg : Bool) (hf : fr ≤ 9000) (b : Nat → Int32) (t : Nat) (ht : σ.1 1 1 = nI t) (hb : σ.1 2 = b) (ht8 : t ≤ 8000)  (K : Option Value → x_S → Prop) (hK : ∀ (r : Option Value) (τ : x_S), (((x_hun b t sg fr).1 = true ∧ r = some (.int (x_z true)) ∧ (x_hun b t sg fr).2.2.2 < 10 ^ 7 ∧ ∃ q, τ = x_st σ [(19, 5, nI (x_hun b t sg fr).2.2.2), (19, 6, x_z (x_hun b t sg fr).2.2.1), (19, 7, q)] [] []) ∨ ((x_hun b t sg fr).1 = false ∧ r = some (.int (x_z false)) ∧ ∃ q1 q2, τ = x_st σ [(19, 5, q1), (19, 6, q2), (19, 7, nI (x_hun b t sg fr).2.1)] [] [])) → K r τ) : x_M l yX0_readHundredths cX0_readHundredths 4 (some .boolean) 3 Y [.ref 19, .int (nI fr), .int (x_z sg)] σ K := by
  refine x_start (by decide) (Nat.le_of_ble_eq_true rfl) ?_
  intro xp xe xs xm xg xb xt xc C xr xk
  refine x_sig (σ' := x_st σ [(19, 5, σ.1 19 5), (19, 6, σ.1 19 6), (19, 7, σ.1 19 7)] [] []) (x_st_in (And.intro rfl (And.intro rfl (And.intro rfl trivial))) trivial trivial) ?_
  refine x_aload_n C (i := 0) dX0_readHundredths_0 rfl rfl ?_
  refine x_iload_n C (i := 1) dX0_readHundredths_1 rfl rfl ?_
  refine x_iconst C (nI 5) dX0_readHundredths_2 rfl ?_
  refine x_iload_n C (i := 2) dX0_readHundredths_3 rfl rfl ?_
  have hM := c_X0_readWhole l Y (x_st σ [(19, 5, σ.1 19 5), (19, 6, σ.1 19 6), (19, 7, σ.1 19 7)] [] []) fr 5 sg (by omega) (by decide) (by decide) b t ht hb ht8
  refine x_callV C (as := [.int (nI fr), .int (nI 5), .int (x_z sg)]) (st := []) (hM) kb_X0_readWhole kv_X0_79 dX0_readHundredths_4 rfl rfl (Nat.le_of_ble_eq_true rfl) ⟨by decide, by decide⟩ ⟨by decide, by decide⟩ ko_19 ?_
  clear hM
  rintro _ _ (⟨hx, rfl, hv, q, rfl⟩ | ⟨hx, rfl, q1, q2, rfl⟩)
  · skip
    refine x_sig (σ' := x_st σ [(19, 5, nI ((x_colf b t sg 5 fr false false 0).2.2.2)), (19, 6, x_z ((x_colf b t sg 5 fr false false 0).2.2.1)), (19, 7, q)] [] []) (x_st_st rfl) ?_
    refine x_if_neZ C 12 dX0_readHundredths_7 (by decide) (fun c7 => ?_) (fun c7 => absurd c7 (by decide))
    refine x_iload_n C (i := 1) dX0_readHundredths_12 rfl rfl ?_
    refine x_iconst C (nI 5) dX0_readHundredths_13 rfl ?_
    refine x_iaddN C dX0_readHundredths_14 ?_
    refine x_istore_n C (i := 3) dX0_readHundredths_15 rfl (by decide) ?_
    refine x_aload_n C (i := 0) dX0_readHundredths_16 rfl rfl ?_
    refine x_getR C fr_19_0 kf_X0_15 dX0_readHundredths_17 ?_
    refine x_iload_n C (i := 3) dX0_readHundredths_20 rfl rfl ?_
    have hM := c_X9_byteAt l Y (x_st σ [(19, 5, nI ((x_colf b t sg 5 fr false false 0).2.2.2)), (19, 6, x_z ((x_colf b t sg 5 fr false false 0).2.2.1)), (19, 7, q)] [] []) (fr + 5) t b ht hb ht8 (by omega)
    refine x_callV C (as := [.int (nI (fr + 5))]) (st := []) (hM) kb_X9_byteAt kv_X0_54 dX0_readHundredths_21 rfl rfl (Nat.le_of_ble_eq_true rfl) ⟨by decide, by decide⟩ ⟨by decide, by decide⟩ ko_1 ?_
    clear hM
    rintro _ _ ⟨rfl, rfl⟩
    refine x_bipush C (nI 46) dX0_readHundredths_24 rfl ?_
    refine x_icmp_eq C 35 dX0_readHundredths_26 (by decide) (fun c26 => ?_) (fun c26 => ?_)
    · skip
      refine x_aload_n C (i := 0) dX0_readHundredths_35 rfl rfl ?_
      refine x_iload_n C (i := 3) dX0_readHundredths_36 rfl rfl ?_
      refine x_iconst C (nI 1) dX0_readHundredths_37 rfl ?_
      refine x_iaddN C dX0_readHundredths_38 ?_
      have hM := c_X0_addDigit l Y (x_st σ [(19, 5, nI ((x_colf b t sg 5 fr false false 0).2.2.2)), (19, 6, x_z ((x_colf b t sg 5 fr false false 0).2.2.1)), (19, 7, q)] [] []) (fr + 6) (by omega) ((x_colf b t sg 5 fr false false 0).2.2.2) rfl b t ht hb ht8
      refine x_callV C (as := [.int (nI (fr + 5 + 1))]) (st := []) (hM) kb_X0_addDigit kv_X0_86 dX0_readHundredths_39 rfl rfl (Nat.le_of_ble_eq_true rfl) ⟨by decide, by decide⟩ ⟨by decide, by decide⟩ ko_19 ?_
      clear hM
      rintro _ _ (⟨hd6, rfl, rfl⟩ | ⟨hd6, rfl, rfl⟩)
      · skip
        refine x_sig (σ' := x_st σ [(19, 5, nI (10 * (x_colf b t sg 5 fr false false 0).2.2.2 + ((x_lookv b t (fr + 6)).toNatClampNeg - 48))), (19, 6, x_z ((x_colf b t sg 5 fr false false 0).2.2.1)), (19, 7, q)] [] []) (x_st_u rfl) ?_
        refine x_if_eqZ C 59 dX0_readHundredths_42 (by decide) (fun c42 => absurd c42 (by decide)) (fun c42 => ?_)
        refine x_aload_n C (i := 0) dX0_readHundredths_45 rfl rfl ?_
        refine x_iload_n C (i := 3) dX0_readHundredths_46 rfl rfl ?_
        refine x_iconst C (nI 2) dX0_readHundredths_47 rfl ?_
        refine x_iaddN C dX0_readHundredths_48 ?_
        have hM := c_X0_addDigit l Y (x_st σ [(19, 5, nI (10 * (x_colf b t sg 5 fr false false 0).2.2.2 + ((x_lookv b t (fr + 6)).toNatClampNeg - 48))), (19, 6, x_z ((x_colf b t sg 5 fr false false 0).2.2.1)), (19, 7, q)] [] []) (fr + 7) (by omega) (10 * (x_colf b t sg 5 fr false false 0).2.2.2 + ((x_lookv b t (fr + 6)).toNatClampNeg - 48)) rfl b t ht hb ht8
        refine x_callV C (as := [.int (nI (fr + 5 + 2))]) (st := []) (hM) kb_X0_addDigit kv_X0_86 dX0_readHundredths_49 rfl rfl (Nat.le_of_ble_eq_true rfl) ⟨by decide, by decide⟩ ⟨by decide, by decide⟩ ko_19 ?_
        clear hM
        rintro _ _ (⟨hd7, rfl, rfl⟩ | ⟨hd7, rfl, rfl⟩)
        · skip
          refine x_sig (σ' := x_st σ [(19, 5, nI (10 * (10 * (x_colf b t sg 5 fr false false 0).2.2.2 + ((x_lookv b t (fr + 6)).toNatClampNeg - 48)) + ((x_lookv b t (fr + 7)).toNatClampNeg - 48))), (19, 6, x_z ((x_colf b t sg 5 fr false false 0).2.2.1)), (19, 7, q)] [] []) (x_st_u rfl) ?_
          have hE : (x_hun b t sg fr) = (true, fr + 8, (x_colf b t sg 5 fr false false 0).2.2.1, 10 * (10 * (x_colf b t sg 5 fr false false 0).2.2.2 + ((x_lookv b t (fr + 6)).toNatClampNeg - 48)) + ((x_lookv b t (fr + 7)).toNatClampNeg - 48)) := by unfold x_hun; rw [if_pos hx, if_pos c26, if_pos hd6, if_pos hd7]
          refine x_if_eqZ C 59 dX0_readHundredths_52 (by decide) (fun c52 => absurd c52 (by decide)) (fun c52 => ?_)
          refine x_iconst C (nI 1) dX0_readHundredths_55 rfl ?_
          refine x_goto C 60 dX0_readHundredths_56 (by decide) ?_
          refine x_zret C xr xk dX0_readHundredths_60 rfl ?_
          exact hK _ _ (by
            rw [hE]
            obtain ⟨d6, h61, h62⟩ := x_dig_nat hd6
            obtain ⟨d7, h71, h72⟩ := x_dig_nat hd7
            exact Or.inl ⟨rfl, rfl, by dsimp only; rw [h62, h72, z_cl (by omega), z_cl (by omega)]; omega, _, rfl⟩)
        · skip
          refine x_sig (σ' := x_st σ [(19, 5, nI (10 * (x_colf b t sg 5 fr false false 0).2.2.2 + ((x_lookv b t (fr + 6)).toNatClampNeg - 48))), (19, 6, x_z ((x_colf b t sg 5 fr false false 0).2.2.1)), (19, 7, nI (fr + 7))] [] []) (x_st_u rfl) ?_
          have hE : (x_hun b t sg fr) = (false, fr + 7, false, 0) := by unfold x_hun; rw [if_pos hx, if_pos c26, if_pos hd6, if_neg (by rw [hd7]; decide)]
          refine x_if_eqZ C 59 dX0_readHundredths_52 (by decide) (fun c52 => ?_) (fun c52 => absurd c52 (by decide))
          refine x_iconst C (nI 0) dX0_readHundredths_59 rfl ?_
          refine x_zret C xr xk dX0_readHundredths_60 rfl ?_
          exact hK _ _ (by
            rw [hE]
            exact Or.inr ⟨rfl, rfl, _, _, rfl⟩)
      · skip
        refine x_sig (σ' := x_st σ [(19, 5, nI ((x_colf b t sg 5 fr false false 0).2.2.2)), (19, 6, x_z ((x_colf b t sg 5 fr false false 0).2.2.1)), (19, 7, nI (fr + 6))] [] []) (x_st_u rfl) ?_
        have hE : (x_hun b t sg fr) = (false, fr + 6, false, 0) := by unfold x_hun; rw [if_pos hx, if_pos c26, if_neg (by rw [hd6]; decide)]
        refine x_if_eqZ C 59 dX0_readHundredths_42 (by decide) (fun c42 => ?_) (fun c42 => absurd c42 (by decide))
        refine x_iconst C (nI 0) dX0_readHundredths_59 rfl ?_
        refine x_zret C xr xk dX0_readHundredths_60 rfl ?_
        exact hK _ _ (by
          rw [hE]
          exact Or.inr ⟨rfl, rfl, _, _, rfl⟩)
    · skip
      refine x_aload_n C (i := 0) dX0_readHundredths_29 rfl rfl ?_
      refine x_iload_n C (i := 3) dX0_readHundredths_30 rfl rfl ?_
      have hM := c_X0_failAt l Y (x_st σ [(19, 5, nI ((x_colf b t sg 5 fr false false 0).2.2.2)), (19, 6, x_z ((x_colf b t sg 5 fr false false 0).2.2.1)), (19, 7, q)] [] []) (fr + 5)
      refine x_callV C (as := [.int (nI (fr + 5))]) (st := []) (hM) kb_X0_failAt kv_X0_83 dX0_readHundredths_31 rfl rfl (Nat.le_of_ble_eq_true rfl) ⟨by decide, by decide⟩ ⟨by decide, by decide⟩ ko_19 ?_
      clear hM
      rintro _ _ ⟨rfl, rfl⟩
      refine x_sig (σ' := x_st σ [(19, 5, nI ((x_colf b t sg 5 fr false false 0).2.2.2)), (19, 6, x_z ((x_colf b t sg 5 fr false false 0).2.2.1)), (19, 7, nI (fr + 5))] [] []) (x_st_u rfl) ?_
      have hE : (x_hun b t sg fr) = (false, fr + 5, false, 0) := by unfold x_hun; rw [if_pos hx, if_neg c26]
      refine x_zret C xr xk dX0_readHundredths_34 (x_z_n _) ?_
      exact hK _ _ (by
        rw [hE]
        exact Or.inr ⟨rfl, rfl, _, _, rfl⟩)
  · skip
    refine x_sig (σ' := x_st σ [(19, 5, q1), (19, 6, q2), (19, 7, nI ((x_colf b t sg 5 fr false false 0).2.1))] [] []) (x_st_st rfl) ?_
    refine x_if_neZ C 12 dX0_readHundredths_7 (by decide) (fun c7 => absurd c7 (by decide)) (fun c7 => ?_)
    refine x_iconst C (nI 0) dX0_readHundredths_10 rfl ?_
    have hE : (x_hun b t sg fr) = (false, (x_colf b t sg 5 fr false false 0).2.1, false, 0) := by unfold x_hun; rw [if_neg (by rw [hx]; decide)]
    refine x_zret C xr xk dX0_readHundredths_11 rfl ?_
    exact hK _ _ (by
      rw [hE]
      exact Or.inr ⟨rfl, rfl, _, _, rfl⟩)
theorem c_X0_readHundredths (l : Launch) (Y : x_Y) (σ : x_S) (fr : Nat) (sg : Bool) (hf : fr ≤ 9000) (b : Nat → Int32) (t : Nat) (ht : σ.1 1 1 = nI t) (hb : σ.1 2 = b) (ht8 : t ≤ 8000)  : x_M l yX0_readHundredths cX0_readHundredths 4 (some .boolean) 3 Y [.ref 19, .int (nI fr), .int (x_z sg)] σ (fun r τ => ((x_hun b t sg fr).1 = true ∧ r = some (.int (x_z true)) ∧ (x_hun b t sg fr).2.2.2 < 10 ^ 7 ∧ ∃ q, τ = x_st σ [(19, 5, nI (x_hun b t sg fr).2.2.2), (19, 6, x_z (x_hun b t sg fr).2.2.1), (19, 7, q)] [] []) ∨ ((x_hun b t sg fr).1 = false ∧ r = some (.int (x_z false)) ∧ ∃ q1 q2, τ = x_st σ [(19, 5, q1), (19, 6, q2), (19, 7, nI (x_hun b t sg fr).2.1)] [] [])) := c_X0_readHundredths_K l Y σ fr sg hf b t ht hb ht8 _ (fun _ _ h => h)
set_option maxRecDepth 100000 in
set_option maxHeartbeats 200000 in
theorem c_X0_readRow_K (l : Launch) (Y : x_Y) (σ : x_S) (a : Nat) (ha : a ≤ 8100) (b : Nat → Int32) (t : Nat) (ht : σ.1 1 1 = nI t) (hb : σ.1 2 = b) (ht8 : t ≤ 8000)  (K : Option Value → x_S → Prop) (hK : ∀ (r : Option Value) (τ : x_S), (((x_row b t a).1 = true ∧ r = some (.int (x_z true)) ∧ ∃ g q5 q6 q7, τ = x_st σ [(19, 3, x_hv b t true (a + 12)), (19, 4, x_hv b t false (a + 20)), (19, 5, q5), (19, 6, q6), (19, 7, q7)] [(20, g)] [] ∧ g 0 = x_iv b t a ∧ g 1 = x_iv b t (a + 4) ∧ g 2 = x_iv b t (a + 8)) ∨ ((x_row b t a).1 = false ∧ r = some (.int (x_z false)) ∧ ∃ q3 q4 q5 q6 g, τ = x_st σ [(19, 3, q3), (19, 4, q4), (19, 5, q5), (19, 6, q6), (19, 7, nI (x_row b t a).2)] [(20, g)] [])) → K r τ) : x_M l yX0_readRow cX0_readRow 3 (some .boolean) 4 Y [.ref 19, .int (nI a)] σ K := by
  refine x_start (by decide) (Nat.le_of_ble_eq_true rfl) ?_
  intro xp xe xs xm xg xb xt xc C xr xk
  refine x_sig (σ' := x_st σ [(19, 3, σ.1 19 3), (19, 4, σ.1 19 4), (19, 5, σ.1 19 5), (19, 6, σ.1 19 6), (19, 7, σ.1 19 7)] [(20, σ.1 20)] []) (x_st_in (And.intro rfl (And.intro rfl (And.intro rfl (And.intro rfl (And.intro rfl trivial))))) (And.intro rfl trivial) trivial) ?_
  refine x_iconst C (nI 0) dX0_readRow_0 rfl ?_
  refine x_istore_n C (i := 2) dX0_readRow_1 rfl (by decide) ?_
  have lp2 : ∀ (m2 : Nat) (j : Nat) (g : Nat → Int32) (q5 : Int32) (q6 : Int32) (q7 : Int32), (3 - j) = m2 → (j ≤ 3) → (∀ i, i < j → (x_idx b t (a + i * 4)).1 = true) → (∀ i, i < j → g i = x_iv b t (a + i * 4)) → ∀ L : x_Lo, L.1 0 = some (.ref 19) → L.1 1 = some (.int (nI a)) → L.1 2 = some (.int (nI j)) → x_W xp l xe (x_rm 4) xs xm xg xb xt xc 3 Y 0 0 (MQ xb (x_Q Y K) xg xs 0 0 (x_A Y)) 2 L [] (x_st σ [(19, 3, σ.1 19 3), (19, 4, σ.1 19 4), (19, 5, q5), (19, 6, q6), (19, 7, q7)] [(20, g)] []) := by
    intro m2
    induction m2 using Nat.strongRecOn with
    | _ m2 ih2 =>
      intro j g q5 q6 q7 hm2 hj hok hg L xl0 xl1 xl2
      refine x_iload_n C (i := 2) dX0_readRow_2 rfl xl2 ?_
      refine x_iconst C (nI 3) dX0_readRow_3 rfl ?_
      refine x_icmp_geN C 37 dX0_readRow_4 (by decide) (by omega) (by omega) (fun c4 => ?_) (fun c4 => ?_)
      · skip
        have c4' := Nat.not_lt.mpr c4
        obtain rfl : j = 3 := by omega
        have h3 := z_row_3 hok
        refine x_aload_n C (i := 0) dX0_readRow_37 rfl xl0 ?_
        refine x_iload_n C (i := 1) dX0_readRow_38 rfl xl1 ?_
        refine x_bipush C (nI 12) dX0_readRow_39 rfl ?_
        refine x_iaddN C dX0_readRow_41 ?_
        refine x_iconst C (nI 1) dX0_readRow_42 rfl ?_
        have hM := c_X0_readHundredths l Y (x_st σ [(19, 3, σ.1 19 3), (19, 4, σ.1 19 4), (19, 5, q5), (19, 6, q6), (19, 7, q7)] [(20, g)] []) (a + 12) true (by omega) b t ht hb ht8
        refine x_callV C (as := [.int (nI (a + 12)), .int (x_z true)]) (st := []) (hM) kb_X0_readHundredths kv_X0_68 dX0_readRow_43 rfl rfl (Nat.le_of_ble_eq_true rfl) ⟨by decide, by decide⟩ ⟨by decide, by decide⟩ ko_19 ?_
        clear hM
        rintro _ _ (⟨hx12, rfl, hx12v, r7, rfl⟩ | ⟨hx12, rfl, r5, r6, rfl⟩)
        · skip
          refine x_sig (σ' := x_st σ [(19, 3, σ.1 19 3), (19, 4, σ.1 19 4), (19, 5, nI ((x_hun b t true (a + 12)).2.2.2)), (19, 6, x_z ((x_hun b t true (a + 12)).2.2.1)), (19, 7, r7)] [(20, g)] []) (x_st_st rfl) ?_
          refine x_if_neZ C 51 dX0_readRow_46 (by decide) (fun c46 => ?_) (fun c46 => absurd c46 (by decide))
          refine x_aload_n C (i := 0) dX0_readRow_51 rfl xl0 ?_
          refine x_aload_n C (i := 0) dX0_readRow_52 rfl xl0 ?_
          have hM := c_X0_signed l Y (x_st σ [(19, 3, σ.1 19 3), (19, 4, σ.1 19 4), (19, 5, nI ((x_hun b t true (a + 12)).2.2.2)), (19, 6, x_z ((x_hun b t true (a + 12)).2.2.1)), (19, 7, r7)] [(20, g)] []) ((x_hun b t true (a + 12)).2.2.1) ((x_hun b t true (a + 12)).2.2.2) rfl rfl
          refine x_callV C (as := []) (st := [.ref 19]) (hM) kb_X0_signed kv_X0_64 dX0_readRow_53 rfl rfl (Nat.le_of_ble_eq_true rfl) ⟨by decide, by decide⟩ ⟨by decide, by decide⟩ ko_19 ?_
          clear hM
          rintro _ _ ⟨rfl, rfl⟩
          refine x_topI (y := x_hv b t true (a + 12)) rfl ?_
          refine x_putN C fi_19_3 kf_X0_42 rfl rfl dX0_readRow_56 ?_
          refine x_sig (σ' := x_st σ [(19, 3, x_hv b t true (a + 12)), (19, 4, σ.1 19 4), (19, 5, nI ((x_hun b t true (a + 12)).2.2.2)), (19, 6, x_z ((x_hun b t true (a + 12)).2.2.1)), (19, 7, r7)] [(20, g)] []) (x_st_u rfl) ?_
          refine x_aload_n C (i := 0) dX0_readRow_59 rfl xl0 ?_
          refine x_iload_n C (i := 1) dX0_readRow_60 rfl xl1 ?_
          refine x_bipush C (nI 20) dX0_readRow_61 rfl ?_
          refine x_iaddN C dX0_readRow_63 ?_
          refine x_iconst C (nI 0) dX0_readRow_64 rfl ?_
          have hM := c_X0_readHundredths l Y (x_st σ [(19, 3, x_hv b t true (a + 12)), (19, 4, σ.1 19 4), (19, 5, nI ((x_hun b t true (a + 12)).2.2.2)), (19, 6, x_z ((x_hun b t true (a + 12)).2.2.1)), (19, 7, r7)] [(20, g)] []) (a + 20) false (by omega) b t ht hb ht8
          refine x_callV C (as := [.int (nI (a + 20)), .int (x_z false)]) (st := []) (hM) kb_X0_readHundredths kv_X0_68 dX0_readRow_65 rfl rfl (Nat.le_of_ble_eq_true rfl) ⟨by decide, by decide⟩ ⟨by decide, by decide⟩ ko_19 ?_
          clear hM
          rintro _ _ (⟨hx20, rfl, hx20v, s7, rfl⟩ | ⟨hx20, rfl, s5, s6, rfl⟩)
          · skip
            refine x_sig (σ' := x_st σ [(19, 3, x_hv b t true (a + 12)), (19, 4, σ.1 19 4), (19, 5, nI ((x_hun b t false (a + 20)).2.2.2)), (19, 6, x_z ((x_hun b t false (a + 20)).2.2.1)), (19, 7, s7)] [(20, g)] []) (x_st_st rfl) ?_
            refine x_if_neZ C 73 dX0_readRow_68 (by decide) (fun c68 => ?_) (fun c68 => absurd c68 (by decide))
            refine x_aload_n C (i := 0) dX0_readRow_73 rfl xl0 ?_
            refine x_aload_n C (i := 0) dX0_readRow_74 rfl xl0 ?_
            have hM := c_X0_signed l Y (x_st σ [(19, 3, x_hv b t true (a + 12)), (19, 4, σ.1 19 4), (19, 5, nI ((x_hun b t false (a + 20)).2.2.2)), (19, 6, x_z ((x_hun b t false (a + 20)).2.2.1)), (19, 7, s7)] [(20, g)] []) ((x_hun b t false (a + 20)).2.2.1) ((x_hun b t false (a + 20)).2.2.2) rfl rfl
            refine x_callV C (as := []) (st := [.ref 19]) (hM) kb_X0_signed kv_X0_64 dX0_readRow_75 rfl rfl (Nat.le_of_ble_eq_true rfl) ⟨by decide, by decide⟩ ⟨by decide, by decide⟩ ko_19 ?_
            clear hM
            rintro _ _ ⟨rfl, rfl⟩
            refine x_topI (y := x_hv b t false (a + 20)) rfl ?_
            refine x_putN C fi_19_4 kf_X0_45 rfl rfl dX0_readRow_78 ?_
            refine x_sig (σ' := x_st σ [(19, 3, x_hv b t true (a + 12)), (19, 4, x_hv b t false (a + 20)), (19, 5, nI ((x_hun b t false (a + 20)).2.2.2)), (19, 6, x_z ((x_hun b t false (a + 20)).2.2.1)), (19, 7, s7)] [(20, g)] []) (x_st_u rfl) ?_
            refine x_iconst C (nI 1) dX0_readRow_81 rfl ?_
            refine x_zret C xr xk dX0_readRow_82 rfl ?_
            exact hK _ _ (by
              have hE : (x_row b t a) = (true, a + 28) := by rw [h3, if_pos hx12, if_pos hx20]
              rw [hE]
              exact Or.inl ⟨rfl, rfl, _, _, _, _, rfl, z_g3 hg⟩)
          · skip
            refine x_sig (σ' := x_st σ [(19, 3, x_hv b t true (a + 12)), (19, 4, σ.1 19 4), (19, 5, s5), (19, 6, s6), (19, 7, nI ((x_hun b t false (a + 20)).2.1))] [(20, g)] []) (x_st_st rfl) ?_
            refine x_if_neZ C 73 dX0_readRow_68 (by decide) (fun c68 => absurd c68 (by decide)) (fun c68 => ?_)
            refine x_iconst C (nI 0) dX0_readRow_71 rfl ?_
            have hE : (x_row b t a) = (false, (x_hun b t false (a + 20)).2.1) := by rw [h3, if_pos hx12, if_neg (by rw [hx20]; decide)]
            refine x_zret C xr xk dX0_readRow_72 rfl ?_
            exact hK _ _ (by
              rw [hE]
              exact Or.inr ⟨rfl, rfl, _, _, _, _, _, rfl⟩)
        · skip
          refine x_sig (σ' := x_st σ [(19, 3, σ.1 19 3), (19, 4, σ.1 19 4), (19, 5, r5), (19, 6, r6), (19, 7, nI ((x_hun b t true (a + 12)).2.1))] [(20, g)] []) (x_st_st rfl) ?_
          refine x_if_neZ C 51 dX0_readRow_46 (by decide) (fun c46 => absurd c46 (by decide)) (fun c46 => ?_)
          refine x_iconst C (nI 0) dX0_readRow_49 rfl ?_
          have hE : (x_row b t a) = (false, (x_hun b t true (a + 12)).2.1) := by rw [h3, if_neg (by rw [hx12]; decide)]
          refine x_zret C xr xk dX0_readRow_50 rfl ?_
          exact hK _ _ (by
            rw [hE]
            exact Or.inr ⟨rfl, rfl, _, _, _, _, _, rfl⟩)
      · skip
        have c4' := Nat.not_le.mpr c4
        refine x_aload_n C (i := 0) dX0_readRow_7 rfl xl0 ?_
        refine x_iload_n C (i := 1) dX0_readRow_8 rfl xl1 ?_
        refine x_iload_n C (i := 2) dX0_readRow_9 rfl xl2 ?_
        refine x_iconst C (nI 4) dX0_readRow_10 rfl ?_
        refine x_imulN C dX0_readRow_11 ?_
        refine x_iaddN C dX0_readRow_12 ?_
        have hM := c_X0_readIndex l Y (x_st σ [(19, 3, σ.1 19 3), (19, 4, σ.1 19 4), (19, 5, q5), (19, 6, q6), (19, 7, q7)] [(20, g)] []) (a + j * 4) (by omega) b t ht hb ht8
        refine x_callV C (as := [.int (nI (a + (j * 4)))]) (st := []) (hM) kb_X0_readIndex kv_X0_61 dX0_readRow_13 rfl rfl (Nat.le_of_ble_eq_true rfl) ⟨by decide, by decide⟩ ⟨by decide, by decide⟩ ko_19 ?_
        clear hM
        rintro _ _ (⟨hx, rfl, hv, p7, rfl⟩ | ⟨hx, rfl, p5, p6, rfl⟩)
        · skip
          refine x_sig (σ' := x_st σ [(19, 3, σ.1 19 3), (19, 4, σ.1 19 4), (19, 5, nI ((x_idx b t (a + j * 4)).2.2.2)), (19, 6, x_z ((x_idx b t (a + j * 4)).2.2.1)), (19, 7, p7)] [(20, g)] []) (x_st_st rfl) ?_
          refine x_if_neZ C 21 dX0_readRow_16 (by decide) (fun c16 => ?_) (fun c16 => absurd c16 (by decide))
          refine x_aload_n C (i := 0) dX0_readRow_21 rfl xl0 ?_
          refine x_getR C fr_19_2 kf_X0_9 dX0_readRow_22 ?_
          refine x_iload_n C (i := 2) dX0_readRow_25 rfl xl2 ?_
          refine x_aload_n C (i := 0) dX0_readRow_26 rfl xl0 ?_
          have hM := c_X0_signed l Y (x_st σ [(19, 3, σ.1 19 3), (19, 4, σ.1 19 4), (19, 5, nI ((x_idx b t (a + j * 4)).2.2.2)), (19, 6, x_z ((x_idx b t (a + j * 4)).2.2.1)), (19, 7, p7)] [(20, g)] []) ((x_idx b t (a + j * 4)).2.2.1) ((x_idx b t (a + j * 4)).2.2.2) rfl rfl
          refine x_callV C (as := []) (st := [.int (nI j), .ref 20]) (hM) kb_X0_signed kv_X0_64 dX0_readRow_27 rfl rfl (Nat.le_of_ble_eq_true rfl) ⟨by decide, by decide⟩ ⟨by decide, by decide⟩ ko_19 ?_
          clear hM
          rintro _ _ ⟨rfl, rfl⟩
          refine x_iastN C (by decide) rfl (by decide) dX0_readRow_30 (by omega) ?_
          refine x_sig (σ' := x_st σ [(19, 3, σ.1 19 3), (19, 4, σ.1 19 4), (19, 5, nI ((x_idx b t (a + j * 4)).2.2.2)), (19, 6, x_z ((x_idx b t (a + j * 4)).2.2.1)), (19, 7, p7)] [(20, upd g j (x_val ((x_idx b t (a + j * 4)).2.2.1) ((x_idx b t (a + j * 4)).2.2.2)))] []) (x_st_ua rfl) ?_
          refine x_iincN C (i := 2) (b := 1) dX0_readRow_31 xl2 rfl (by decide) ?_
          refine x_goto C 2 dX0_readRow_34 (by decide) ?_
          exact ih2 _ (by omega) (j + 1) (upd g j (x_val ((x_idx b t (a + j * 4)).2.2.1) ((x_idx b t (a + j * 4)).2.2.2))) (nI ((x_idx b t (a + j * 4)).2.2.2)) (x_z ((x_idx b t (a + j * 4)).2.2.1)) p7 rfl (by omega) (fun i h => by
                rcases Nat.lt_or_ge i j with h1 | h1
                · exact hok i h1
                · have e9 : i = j := by omega
                  subst e9; exact hx) (fun i h => by
                by_cases e9 : i = j
                · subst e9; rw [pk_us]; rfl
                · rw [pk_un e9]; exact hg i (by omega)) _ xl0 xl1 rfl
        · skip
          refine x_sig (σ' := x_st σ [(19, 3, σ.1 19 3), (19, 4, σ.1 19 4), (19, 5, p5), (19, 6, p6), (19, 7, nI ((x_idx b t (a + j * 4)).2.1))] [(20, g)] []) (x_st_st rfl) ?_
          refine x_if_neZ C 21 dX0_readRow_16 (by decide) (fun c16 => absurd c16 (by decide)) (fun c16 => ?_)
          refine x_iconst C (nI 0) dX0_readRow_19 rfl ?_
          have hE := z_row_f (by omega) hok hx
          refine x_zret C xr xk dX0_readRow_20 rfl ?_
          exact hK _ _ (by
            rw [hE]
            exact Or.inr ⟨rfl, rfl, _, _, _, _, _, rfl⟩)
  exact lp2 _ 0 (σ.1 20) (σ.1 19 5) (σ.1 19 6) (σ.1 19 7) rfl (Nat.zero_le _) (fun i h => absurd h (Nat.not_lt_zero i)) (fun i h => absurd h (Nat.not_lt_zero i)) _ rfl rfl rfl
theorem c_X0_readRow (l : Launch) (Y : x_Y) (σ : x_S) (a : Nat) (ha : a ≤ 8100) (b : Nat → Int32) (t : Nat) (ht : σ.1 1 1 = nI t) (hb : σ.1 2 = b) (ht8 : t ≤ 8000)  : x_M l yX0_readRow cX0_readRow 3 (some .boolean) 4 Y [.ref 19, .int (nI a)] σ (fun r τ => ((x_row b t a).1 = true ∧ r = some (.int (x_z true)) ∧ ∃ g q5 q6 q7, τ = x_st σ [(19, 3, x_hv b t true (a + 12)), (19, 4, x_hv b t false (a + 20)), (19, 5, q5), (19, 6, q6), (19, 7, q7)] [(20, g)] [] ∧ g 0 = x_iv b t a ∧ g 1 = x_iv b t (a + 4) ∧ g 2 = x_iv b t (a + 8)) ∨ ((x_row b t a).1 = false ∧ r = some (.int (x_z false)) ∧ ∃ q3 q4 q5 q6 g, τ = x_st σ [(19, 3, q3), (19, 4, q4), (19, 5, q5), (19, 6, q6), (19, 7, nI (x_row b t a).2)] [(20, g)] [])) := c_X0_readRow_K l Y σ a ha b t ht hb ht8 _ (fun _ _ h => h)
set_option maxRecDepth 100000 in
set_option maxHeartbeats 200000 in
theorem c_X6_write_K (l : Launch) (Y : x_Y) (σ : x_S) (m : Nat) (x y z : Int32) (n : Nat) (hn : σ.1 15 3 = nI n) (hm9 : n + m ≤ 3000) (f16 f17 f18 : Nat → Int32) (h16 : σ.1 16 = f16) (h17 : σ.1 17 = f17) (h18 : σ.1 18 = f18) (K : Option Value → x_S → Prop) (hK : ∀ (r : Option Value) (τ : x_S), ((n + m < 3000 ∧ r = some (.int (x_z true)) ∧ τ = x_st σ [] [(16, upd f16 (n + m) x), (17, upd f17 (n + m) y), (18, upd f18 (n + m) z)] []) ∨ (n + m = 3000 ∧ r = some (.int (x_z false)) ∧ τ = σ)) → K r τ) : x_M l yX6_write cX6_write 6 (some .boolean) 0 Y [.ref 15, .int (nI m), .int x, .int y, .int z] σ K := by
  refine x_start (by decide) (Nat.le_of_ble_eq_true rfl) ?_
  intro xp xe xs xm xg xb xt xc C xr xk
  refine x_sig (σ' := x_st σ [] [(16, f16), (17, f17), (18, f18)] []) (x_st_in trivial (And.intro h16 (And.intro h17 (And.intro h18 trivial))) trivial) ?_
  refine x_aload_n C (i := 0) dX6_write_0 rfl rfl ?_
  refine x_getI C fi_15_3 kf_X6_21 dX6_write_1 ?_
  refine x_topI (y := nI n) hn ?_
  refine x_iload_n C (i := 1) dX6_write_4 rfl rfl ?_
  refine x_iaddN C dX6_write_5 ?_
  refine x_istore C (i := 5) dX6_write_6 (by decide) ?_
  refine x_iload C (i := 5) dX6_write_8 rfl ?_
  refine x_if_ltN C 21 dX6_write_10 (by decide) (by omega) ?_
  refine x_iload C (i := 5) dX6_write_13 rfl ?_
  refine x_sipush C (nI 3000) dX6_write_15 rfl ?_
  refine x_icmp_ltN C 23 dX6_write_18 (by decide) (by omega) (by omega) (fun c18 => ?_) (fun c18 => ?_)
  · skip
    have c18' := Nat.not_le.mpr c18
    refine x_aload_n C (i := 0) dX6_write_23 rfl rfl ?_
    refine x_getR C fr_15_0 kf_X6_9 dX6_write_24 ?_
    refine x_iload C (i := 5) dX6_write_27 rfl ?_
    refine x_iload_n C (i := 2) dX6_write_29 rfl rfl ?_
    refine x_iastN C (by decide) rfl (by decide) dX6_write_30 (by omega) ?_
    refine x_sig (σ' := x_st σ [] [(16, upd f16 (n + m) x), (17, f17), (18, f18)] []) (x_st_ua rfl) ?_
    refine x_aload_n C (i := 0) dX6_write_31 rfl rfl ?_
    refine x_getR C fr_15_1 kf_X6_15 dX6_write_32 ?_
    refine x_iload C (i := 5) dX6_write_35 rfl ?_
    refine x_iload_n C (i := 3) dX6_write_37 rfl rfl ?_
    refine x_iastN C (by decide) rfl (by decide) dX6_write_38 (by omega) ?_
    refine x_sig (σ' := x_st σ [] [(16, upd f16 (n + m) x), (17, upd f17 (n + m) y), (18, f18)] []) (x_st_ua rfl) ?_
    refine x_aload_n C (i := 0) dX6_write_39 rfl rfl ?_
    refine x_getR C fr_15_2 kf_X6_18 dX6_write_40 ?_
    refine x_iload C (i := 5) dX6_write_43 rfl ?_
    refine x_iload C (i := 4) dX6_write_45 rfl ?_
    refine x_iastN C (by decide) rfl (by decide) dX6_write_47 (by omega) ?_
    refine x_sig (σ' := x_st σ [] [(16, upd f16 (n + m) x), (17, upd f17 (n + m) y), (18, upd f18 (n + m) z)] []) (x_st_ua rfl) ?_
    refine x_iconst C (nI 1) dX6_write_48 rfl ?_
    refine x_zret C xr xk dX6_write_49 rfl ?_
    exact hK _ _ (Or.inl ⟨c18, rfl, rfl⟩)
  · skip
    have c18' := Nat.not_lt.mpr c18
    refine x_iconst C (nI 0) dX6_write_21 rfl ?_
    refine x_zret C xr xk dX6_write_22 rfl ?_
    exact hK _ _ (Or.inr ⟨by omega, rfl, (x_st_in (σ := σ) (F := []) (I := [(16, f16), (17, f17), (18, f18)]) (G := []) trivial (And.intro h16 (And.intro h17 (And.intro h18 trivial))) trivial).symm⟩)
theorem c_X6_write (l : Launch) (Y : x_Y) (σ : x_S) (m : Nat) (x y z : Int32) (n : Nat) (hn : σ.1 15 3 = nI n) (hm9 : n + m ≤ 3000) (f16 f17 f18 : Nat → Int32) (h16 : σ.1 16 = f16) (h17 : σ.1 17 = f17) (h18 : σ.1 18 = f18) : x_M l yX6_write cX6_write 6 (some .boolean) 0 Y [.ref 15, .int (nI m), .int x, .int y, .int z] σ (fun r τ => (n + m < 3000 ∧ r = some (.int (x_z true)) ∧ τ = x_st σ [] [(16, upd f16 (n + m) x), (17, upd f17 (n + m) y), (18, upd f18 (n + m) z)] []) ∨ (n + m = 3000 ∧ r = some (.int (x_z false)) ∧ τ = σ)) := c_X6_write_K l Y σ m x y z n hn hm9 f16 f17 f18 h16 h17 h18 _ (fun _ _ h => h)
set_option maxRecDepth 100000 in
set_option maxHeartbeats 200000 in
theorem c_X6_number_K (l : Launch) (Y : x_Y) (σ : x_S) (i w : Nat) (hi : i < 3000) (hw : w < 5) (K : Option Value → x_S → Prop) (hK : ∀ (r : Option Value) (τ : x_S), (r = some (.int (if w = 3 then σ.1 17 i else if w = 4 then σ.1 18 i else z_part (σ.1 16 i) w)) ∧ τ = σ) → K r τ) : x_M l yX6_number cX6_number 3 (some .int) 1 Y [.ref 15, .int (nI i), .int (nI w)] σ K := by
  refine x_start (by decide) (Nat.le_of_ble_eq_true rfl) ?_
  intro xp xe xs xm xg xb xt xc C xr xk
  refine x_iload_n C (i := 2) dX6_number_0 rfl rfl ?_
  refine x_iconst C (nI 3) dX6_number_1 rfl ?_
  refine x_icmp_neN C 12 dX6_number_2 (by decide) (by omega) (by omega) (fun c2 => ?_) (fun c2 => ?_)
  · skip
    refine x_iload_n C (i := 2) dX6_number_12 rfl rfl ?_
    refine x_iconst C (nI 4) dX6_number_13 rfl ?_
    refine x_icmp_neN C 26 dX6_number_14 (by decide) (by omega) (by omega) (fun c14 => ?_) (fun c14 => ?_)
    · skip
      refine x_aload_n C (i := 0) dX6_number_26 rfl rfl ?_
      refine x_getR C fr_15_0 kf_X6_9 dX6_number_27 ?_
      refine x_iload_n C (i := 1) dX6_number_30 rfl rfl ?_
      refine x_ialdN C (by decide) rfl (by decide) dX6_number_31 (by omega) ?_
      refine x_iload_n C (i := 2) dX6_number_32 rfl rfl ?_
      have hM := c_X3_part l Y σ (σ.1 16 i) w (by omega)
      refine x_callS C (as := [.int (σ.1 16 i), .int (nI w)]) (st := []) (hM) kb_X3_part ks_X6_25 dX6_number_33 rfl rfl (Nat.le_of_ble_eq_true rfl) ⟨by decide, by decide⟩ ⟨by decide, by decide⟩ ?_
      clear hM
      intro r9 τ9 h9
      obtain ⟨rfl, h8⟩ := h9
      rw [h8]
      clear h8 τ9
      refine x_iret C xr xk dX6_number_36 ?_
      exact hK _ _ ⟨by first | rw [if_neg c2, if_pos c14] | rw [if_neg c2, if_neg c14], rfl⟩
    · skip
      refine x_aload_n C (i := 0) dX6_number_17 rfl rfl ?_
      refine x_getR C fr_15_2 kf_X6_18 dX6_number_18 ?_
      refine x_iload_n C (i := 1) dX6_number_21 rfl rfl ?_
      refine x_ialdN C (by decide) rfl (by decide) dX6_number_22 (by omega) ?_
      refine x_goto C 36 dX6_number_23 (by decide) ?_
      refine x_iret C xr xk dX6_number_36 ?_
      exact hK _ _ ⟨by first | rw [if_neg c2, if_pos c14] | rw [if_neg c2, if_neg c14], rfl⟩
  · skip
    refine x_aload_n C (i := 0) dX6_number_5 rfl rfl ?_
    refine x_getR C fr_15_1 kf_X6_15 dX6_number_6 ?_
    refine x_iload_n C (i := 1) dX6_number_9 rfl rfl ?_
    refine x_ialdN C (by decide) rfl (by decide) dX6_number_10 (by omega) ?_
    refine x_iret C xr xk dX6_number_11 ?_
    exact hK _ _ ⟨by rw [if_pos c2], rfl⟩
theorem c_X6_number (l : Launch) (Y : x_Y) (σ : x_S) (i w : Nat) (hi : i < 3000) (hw : w < 5) : x_M l yX6_number cX6_number 3 (some .int) 1 Y [.ref 15, .int (nI i), .int (nI w)] σ (fun r τ => r = some (.int (if w = 3 then σ.1 17 i else if w = 4 then σ.1 18 i else z_part (σ.1 16 i) w)) ∧ τ = σ) := c_X6_number_K l Y σ i w hi hw _ (fun _ _ h => h)
