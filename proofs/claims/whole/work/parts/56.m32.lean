set_option maxRecDepth 100000 in
set_option maxHeartbeats 200000 in
theorem c_X2_addGenerator_K (l : Launch) (Y : x_Y) (σ : x_S) (cg : Nat) (hc : σ.1 3 4 = nI cg) (hc8 : cg < 8) (f9 f4 : Nat → Int32) (h9 : σ.1 9 = f9) (h4 : σ.1 4 = f4) (K : Option Value → x_S → Prop) (hK : ∀ (r : Option Value) (τ : x_S), (r = none ∧ τ = x_st σ [(3, 4, nI (cg + 1))] [(4, va_cpy f9 f4 0 (cg * 12) 12)] []) → K r τ) : x_M l yX2_addGenerator cX2_addGenerator 2 none 1 Y [.ref 3, .ref 9] σ K := by
  refine x_start (by decide) (Nat.le_of_ble_eq_true rfl) ?_
  intro xp xe xs xm xg xb xt xc C xr xk
  refine x_sig (σ' := x_st σ [(3, 4, nI cg)] [(4, f4)] []) (x_st_in (And.intro hc trivial) (And.intro h4 trivial) trivial) ?_
  refine x_aload_n C (i := 0) dX2_addGenerator_0 rfl rfl ?_
  refine x_getI C fi_3_4 kf_X2_26 dX2_addGenerator_1 ?_
  refine x_topI (y := nI cg) rfl ?_
  refine x_bipush C (nI 8) dX2_addGenerator_4 rfl ?_
  refine x_icmp_geN C 48 dX2_addGenerator_6 (by decide) (by omega) (by omega) (fun c6 => ?_) (fun c6 => ?_)
  · skip
    have c6' := Nat.not_lt.mpr c6
    omega
  · skip
    have c6' := Nat.not_le.mpr c6
    refine x_aload_n C (i := 1) dX2_addGenerator_9 rfl rfl ?_
    refine x_ifnull C dX2_addGenerator_10 ?_
    refine x_aload_n C (i := 1) dX2_addGenerator_13 rfl rfl ?_
    refine x_alen C (nI 12) (by decide) rfl (by decide) rfl dX2_addGenerator_14 ?_
    refine x_bipush C (nI 12) dX2_addGenerator_15 rfl ?_
    refine x_icmp_neN C 48 dX2_addGenerator_17 (by decide) (by omega) (by omega) (fun c17 => absurd c17 (by decide)) (fun c17 => ?_)
    refine x_aload_n C (i := 1) dX2_addGenerator_20 rfl rfl ?_
    refine x_iconst C (nI 0) dX2_addGenerator_21 rfl ?_
    refine x_aload_n C (i := 0) dX2_addGenerator_22 rfl rfl ?_
    refine x_getR C fr_3_0 kf_X2_13 dX2_addGenerator_23 ?_
    refine x_aload_n C (i := 0) dX2_addGenerator_26 rfl rfl ?_
    refine x_getI C fi_3_4 kf_X2_26 dX2_addGenerator_27 ?_
    refine x_topI (y := nI cg) rfl ?_
    refine x_bipush C (nI 12) dX2_addGenerator_30 rfl ?_
    refine x_imulN C dX2_addGenerator_32 ?_
    refine x_bipush C (nI 12) dX2_addGenerator_33 rfl ?_
    refine x_acopy C ka_X2_30 (by decide) rfl (by decide) rfl ⟨by decide, by decide⟩ dX2_addGenerator_35 (by omega) (by omega) ⟨by decide, by decide⟩ ?_
    refine x_sig (σ' := x_st σ [(3, 4, nI cg)] [(4, va_cpy (σ.1 9) f4 0 (cg * 12) 12)] []) x_st_i ?_
    refine x_aload_n C (i := 0) dX2_addGenerator_38 rfl rfl ?_
    refine x_dup C dX2_addGenerator_39 rfl ?_
    refine x_getI C fi_3_4 kf_X2_26 dX2_addGenerator_40 ?_
    refine x_topI (y := nI cg) rfl ?_
    refine x_iconst C (nI 1) dX2_addGenerator_43 rfl ?_
    refine x_iaddN C dX2_addGenerator_44 ?_
    refine x_putN C fi_3_4 kf_X2_26 rfl rfl dX2_addGenerator_45 ?_
    refine x_sig (σ' := x_st σ [(3, 4, nI (cg + 1))] [(4, va_cpy (σ.1 9) f4 0 (cg * 12) 12)] []) (x_st_u rfl) ?_
    refine x_vret C xr xk dX2_addGenerator_48 ?_
    exact hK _ _ ⟨rfl, by rw [← h9]⟩
theorem c_X2_addGenerator (l : Launch) (Y : x_Y) (σ : x_S) (cg : Nat) (hc : σ.1 3 4 = nI cg) (hc8 : cg < 8) (f9 f4 : Nat → Int32) (h9 : σ.1 9 = f9) (h4 : σ.1 4 = f4) : x_M l yX2_addGenerator cX2_addGenerator 2 none 1 Y [.ref 3, .ref 9] σ (fun r τ => r = none ∧ τ = x_st σ [(3, 4, nI (cg + 1))] [(4, va_cpy f9 f4 0 (cg * 12) 12)] []) := c_X2_addGenerator_K l Y σ cg hc hc8 f9 f4 h9 h4 _ (fun _ _ h => h)
set_option maxRecDepth 100000 in
set_option maxHeartbeats 200000 in
theorem c_X8_isAtEnd_K (l : Launch) (Y : x_Y) (σ : x_S) (b : Nat → Int32) (t : Nat) (ht : σ.1 1 1 = nI t) (hb : σ.1 2 = b) (ht8 : t ≤ 8000) (a : Nat) (ha : σ.1 8 3 = nI a) (hat : a ≤ t) (K : Option Value → x_S → Prop) (hK : ∀ (r : Option Value) (τ : x_S), (r = some (.int (x_z (decide (t ≤ a)))) ∧ τ = σ) → K r τ) : x_M l yX8_isAtEnd cX8_isAtEnd 1 (some .boolean) 0 Y [.ref 8] σ K := by
  refine x_start (by decide) (Nat.le_of_ble_eq_true rfl) ?_
  intro xp xe xs xm xg xb xt xc C xr xk
  refine x_aload_n C (i := 0) dX8_isAtEnd_0 rfl rfl ?_
  refine x_getI C fi_8_3 kf_X8_25 dX8_isAtEnd_1 ?_
  refine x_topI (y := nI a) ha ?_
  refine x_aload_n C (i := 0) dX8_isAtEnd_4 rfl rfl ?_
  refine x_getR C fr_8_0 kf_X8_17 dX8_isAtEnd_5 ?_
  refine x_getI C fi_1_1 kf_X8_65 dX8_isAtEnd_8 ?_
  refine x_topI (y := nI t) ht ?_
  refine x_icmp_ltN C 18 dX8_isAtEnd_11 (by decide) (by omega) (by omega) (fun c11 => ?_) (fun c11 => ?_)
  · skip
    have c11' := Nat.not_le.mpr c11
    refine x_iconst C (nI 0) dX8_isAtEnd_18 rfl ?_
    refine x_zret C xr xk dX8_isAtEnd_19 rfl ?_
    exact hK _ _ ⟨by rw [decide_eq_false (by omega)]; rfl, rfl⟩
  · skip
    have c11' := Nat.not_lt.mpr c11
    refine x_iconst C (nI 1) dX8_isAtEnd_14 rfl ?_
    refine x_goto C 19 dX8_isAtEnd_15 (by decide) ?_
    refine x_zret C xr xk dX8_isAtEnd_19 rfl ?_
    exact hK _ _ ⟨by rw [decide_eq_true (by omega)]; rfl, rfl⟩
theorem c_X8_isAtEnd (l : Launch) (Y : x_Y) (σ : x_S) (b : Nat → Int32) (t : Nat) (ht : σ.1 1 1 = nI t) (hb : σ.1 2 = b) (ht8 : t ≤ 8000) (a : Nat) (ha : σ.1 8 3 = nI a) (hat : a ≤ t) : x_M l yX8_isAtEnd cX8_isAtEnd 1 (some .boolean) 0 Y [.ref 8] σ (fun r τ => r = some (.int (x_z (decide (t ≤ a)))) ∧ τ = σ) := c_X8_isAtEnd_K l Y σ b t ht hb ht8 a ha hat _ (fun _ _ h => h)
set_option maxRecDepth 100000 in
set_option maxHeartbeats 200000 in
theorem c_X8_skipBlanks_K (l : Launch) (Y : x_Y) (σ : x_S) (b : Nat → Int32) (t : Nat) (ht : σ.1 1 1 = nI t) (hb : σ.1 2 = b) (ht8 : t ≤ 8000) (a : Nat) (ha : σ.1 8 3 = nI a) (hat : a ≤ t) (K : Option Value → x_S → Prop) (hK : ∀ (r : Option Value) (τ : x_S), (r = some (.int (nI (x_blank b t a - a))) ∧ τ = x_st σ [(8, 3, nI (x_blank b t a))] [] []) → K r τ) : x_M l yX8_skipBlanks cX8_skipBlanks 2 (some .int) 1 Y [.ref 8] σ K := by
  refine x_start (by decide) (Nat.le_of_ble_eq_true rfl) ?_
  intro xp xe xs xm xg xb xt xc C xr xk
  refine x_sig (σ' := x_st σ [(8, 3, nI a)] [] []) (x_st_in (And.intro ha trivial) trivial trivial) ?_
  refine x_aload_n C (i := 0) dX8_skipBlanks_0 rfl rfl ?_
  refine x_getI C fi_8_3 kf_X8_25 dX8_skipBlanks_1 ?_
  refine x_topI (y := nI a) rfl ?_
  refine x_istore_n C (i := 1) dX8_skipBlanks_4 rfl (by decide) ?_
  have lp5 : ∀ (m5 : Nat) (p : Nat), (t - p) = m5 → (a ≤ p) → (p ≤ t) → (x_blank b t p = x_blank b t a) → ∀ L : x_Lo, L.1 0 = some (.ref 8) → L.1 1 = some (.int (nI a)) → x_W xp l xe (x_rm 1) xs xm xg xb xt xc 2 Y 0 0 (MQ xb (x_Q Y K) xg xs 0 0 (x_A Y)) 5 L [] (x_st σ [(8, 3, nI p)] [] []) := by
    intro m5
    induction m5 using Nat.strongRecOn with
    | _ m5 ih5 =>
      intro p hm5 hp1 hp2 hR L xl0 xl1
      refine x_aload_n C (i := 0) dX8_skipBlanks_5 rfl xl0 ?_
      refine x_getI C fi_8_3 kf_X8_25 dX8_skipBlanks_6 ?_
      refine x_topI (y := nI p) rfl ?_
      refine x_aload_n C (i := 0) dX8_skipBlanks_9 rfl xl0 ?_
      refine x_getR C fr_8_0 kf_X8_17 dX8_skipBlanks_10 ?_
      refine x_getI C fi_1_1 kf_X8_65 dX8_skipBlanks_13 ?_
      refine x_topI (y := nI t) ht ?_
      refine x_icmp_geN C 48 dX8_skipBlanks_16 (by decide) (by omega) (by omega) (fun c16 => ?_) (fun c16 => ?_)
      · skip
        have c16' := Nat.not_lt.mpr c16
        have hE : x_blank b t a = p := by rw [← hR]; exact x_blank_e (by rw [x_lookv_m1 (by omega)]; decide)
        refine x_aload_n C (i := 0) dX8_skipBlanks_48 rfl xl0 ?_
        refine x_getI C fi_8_3 kf_X8_25 dX8_skipBlanks_49 ?_
        refine x_topI (y := nI p) rfl ?_
        refine x_iload_n C (i := 1) dX8_skipBlanks_52 rfl xl1 ?_
        refine x_isubN C dX8_skipBlanks_53 (by omega) ?_
        refine x_iret C xr xk dX8_skipBlanks_54 ?_
        exact hK _ _ ⟨by rw [hE], by rw [hE]⟩
      · skip
        have c16' := Nat.not_le.mpr c16
        refine x_aload_n C (i := 0) dX8_skipBlanks_19 rfl xl0 ?_
        refine x_getR C fr_8_0 kf_X8_17 dX8_skipBlanks_20 ?_
        refine x_aload_n C (i := 0) dX8_skipBlanks_23 rfl xl0 ?_
        refine x_getI C fi_8_3 kf_X8_25 dX8_skipBlanks_24 ?_
        refine x_topI (y := nI p) rfl ?_
        have hM := c_X9_byteAt l Y (x_st σ [(8, 3, nI p)] [] []) p t b ht hb ht8 (by omega)
        refine x_callV C (as := [.int (nI p)]) (st := []) (hM) kb_X9_byteAt kv_X8_70 dX8_skipBlanks_27 rfl rfl (Nat.le_of_ble_eq_true rfl) ⟨by decide, by decide⟩ ⟨by decide, by decide⟩ ko_1 ?_
        clear hM
        rintro _ _ ⟨rfl, rfl⟩
        refine x_bipush C (nI 32) dX8_skipBlanks_30 rfl ?_
        refine x_icmp_ne C 48 dX8_skipBlanks_32 (by decide) (fun c32 => ?_) (fun c32 => ?_)
        · skip
          have hE : x_blank b t a = p := by rw [← hR]; exact x_blank_e c32
          refine x_aload_n C (i := 0) dX8_skipBlanks_48 rfl xl0 ?_
          refine x_getI C fi_8_3 kf_X8_25 dX8_skipBlanks_49 ?_
          refine x_topI (y := nI p) rfl ?_
          refine x_iload_n C (i := 1) dX8_skipBlanks_52 rfl xl1 ?_
          refine x_isubN C dX8_skipBlanks_53 (by omega) ?_
          refine x_iret C xr xk dX8_skipBlanks_54 ?_
          exact hK _ _ ⟨by rw [hE], by rw [hE]⟩
        · skip
          refine x_aload_n C (i := 0) dX8_skipBlanks_35 rfl xl0 ?_
          refine x_dup C dX8_skipBlanks_36 rfl ?_
          refine x_getI C fi_8_3 kf_X8_25 dX8_skipBlanks_37 ?_
          refine x_topI (y := nI p) rfl ?_
          refine x_iconst C (nI 1) dX8_skipBlanks_40 rfl ?_
          refine x_iaddN C dX8_skipBlanks_41 ?_
          refine x_putN C fi_8_3 kf_X8_25 rfl rfl dX8_skipBlanks_42 ?_
          refine x_sig (σ' := x_st σ [(8, 3, nI (p + 1))] [] []) (x_st_u rfl) ?_
          refine x_goto C 5 dX8_skipBlanks_45 (by decide) ?_
          exact ih5 _ (by omega) (p + 1) rfl (by omega) (by omega) (by rw [← hR]; exact (x_blank_s c32).symm) _ xl0 xl1
  exact lp5 _ a rfl (Nat.le_refl _) hat rfl _ rfl rfl
theorem c_X8_skipBlanks (l : Launch) (Y : x_Y) (σ : x_S) (b : Nat → Int32) (t : Nat) (ht : σ.1 1 1 = nI t) (hb : σ.1 2 = b) (ht8 : t ≤ 8000) (a : Nat) (ha : σ.1 8 3 = nI a) (hat : a ≤ t) : x_M l yX8_skipBlanks cX8_skipBlanks 2 (some .int) 1 Y [.ref 8] σ (fun r τ => r = some (.int (nI (x_blank b t a - a))) ∧ τ = x_st σ [(8, 3, nI (x_blank b t a))] [] []) := c_X8_skipBlanks_K l Y σ b t ht hb ht8 a ha hat _ (fun _ _ h => h)
set_option maxRecDepth 100000 in
set_option maxHeartbeats 200000 in
theorem c_X8_takes_K (l : Launch) (Y : x_Y) (σ : x_S) (c : Int32) (b : Nat → Int32) (t : Nat) (ht : σ.1 1 1 = nI t) (hb : σ.1 2 = b) (ht8 : t ≤ 8000) (a : Nat) (ha : σ.1 8 3 = nI a) (hat : a ≤ t) (K : Option Value → x_S → Prop) (hK : ∀ (r : Option Value) (τ : x_S), ((x_lookv b t a = c ∧ r = some (.int (x_z true)) ∧ τ = x_st σ [(8, 3, nI (a + 1))] [] []) ∨ (¬ x_lookv b t a = c ∧ r = some (.int (x_z false)) ∧ τ = σ)) → K r τ) : x_M l yX8_takes cX8_takes 2 (some .boolean) 1 Y [.ref 8, .int c] σ K := by
  refine x_start (by decide) (Nat.le_of_ble_eq_true rfl) ?_
  intro xp xe xs xm xg xb xt xc C xr xk
  refine x_sig (σ' := x_st σ [(8, 3, nI a)] [] []) (x_st_in (And.intro ha trivial) trivial trivial) ?_
  refine x_aload_n C (i := 0) dX8_takes_0 rfl rfl ?_
  refine x_getR C fr_8_0 kf_X8_17 dX8_takes_1 ?_
  refine x_aload_n C (i := 0) dX8_takes_4 rfl rfl ?_
  refine x_getI C fi_8_3 kf_X8_25 dX8_takes_5 ?_
  refine x_topI (y := nI a) rfl ?_
  have hM := c_X9_byteAt l Y (x_st σ [(8, 3, nI a)] [] []) a t b ht hb ht8 (by omega)
  refine x_callV C (as := [.int (nI a)]) (st := []) (hM) kb_X9_byteAt kv_X8_70 dX8_takes_8 rfl rfl (Nat.le_of_ble_eq_true rfl) ⟨by decide, by decide⟩ ⟨by decide, by decide⟩ ko_1 ?_
  clear hM
  rintro _ _ ⟨rfl, rfl⟩
  refine x_iload_n C (i := 1) dX8_takes_11 rfl rfl ?_
  refine x_icmp_eq C 17 dX8_takes_12 (by decide) (fun c12 => ?_) (fun c12 => ?_)
  · skip
    refine x_aload_n C (i := 0) dX8_takes_17 rfl rfl ?_
    refine x_dup C dX8_takes_18 rfl ?_
    refine x_getI C fi_8_3 kf_X8_25 dX8_takes_19 ?_
    refine x_topI (y := nI a) rfl ?_
    refine x_iconst C (nI 1) dX8_takes_22 rfl ?_
    refine x_iaddN C dX8_takes_23 ?_
    refine x_putN C fi_8_3 kf_X8_25 rfl rfl dX8_takes_24 ?_
    refine x_sig (σ' := x_st σ [(8, 3, nI (a + 1))] [] []) (x_st_u rfl) ?_
    refine x_iconst C (nI 1) dX8_takes_27 rfl ?_
    refine x_zret C xr xk dX8_takes_28 rfl ?_
    exact hK _ _ (Or.inl ⟨c12, rfl, rfl⟩)
  · skip
    refine x_iconst C (nI 0) dX8_takes_15 rfl ?_
    refine x_zret C xr xk dX8_takes_16 rfl ?_
    exact hK _ _ (Or.inr ⟨c12, rfl, (x_st_in (σ := σ) (F := [(8, 3, nI a)]) (I := []) (G := []) (And.intro ha trivial) trivial trivial).symm⟩)
theorem c_X8_takes (l : Launch) (Y : x_Y) (σ : x_S) (c : Int32) (b : Nat → Int32) (t : Nat) (ht : σ.1 1 1 = nI t) (hb : σ.1 2 = b) (ht8 : t ≤ 8000) (a : Nat) (ha : σ.1 8 3 = nI a) (hat : a ≤ t) : x_M l yX8_takes cX8_takes 2 (some .boolean) 1 Y [.ref 8, .int c] σ (fun r τ => (x_lookv b t a = c ∧ r = some (.int (x_z true)) ∧ τ = x_st σ [(8, 3, nI (a + 1))] [] []) ∨ (¬ x_lookv b t a = c ∧ r = some (.int (x_z false)) ∧ τ = σ)) := c_X8_takes_K l Y σ c b t ht hb ht8 a ha hat _ (fun _ _ h => h)
set_option maxRecDepth 100000 in
set_option maxHeartbeats 200000 in
theorem c_X8_foldOf_K (l : Launch) (Y : x_Y) (σ : x_S) (c : Int32) (K : Option Value → x_S → Prop) (hK : ∀ (r : Option Value) (τ : x_S), ((x_isOrd c = true ∧ r = some (.int (nI (x_ordn c))) ∧ τ = σ) ∨ (x_isOrd c = false ∧ r = some (.int (-1)) ∧ τ = σ)) → K r τ) : x_M l yX8_foldOf cX8_foldOf 1 (some .int) 0 Y [.int c] σ K := by
  refine x_start (by decide) (Nat.le_of_ble_eq_true rfl) ?_
  intro xp xe xs xm xg xb xt xc C xr xk
  refine x_iload_n C (i := 0) dX8_foldOf_0 rfl rfl ?_
  by_cases c1_49 : c = nI 49
  · skip
    refine x_topI c1_49 ?_
    refine x_tableIn C 40 dX8_foldOf_1 (by decide) (by decide) rfl (by decide) ?_
    refine x_iload_n C (i := 0) dX8_foldOf_40 rfl rfl ?_
    refine x_bipush C (nI 48) dX8_foldOf_41 rfl ?_
    refine x_isub C dX8_foldOf_43 ?_
    refine x_iret C xr xk dX8_foldOf_44 ?_
    exact hK _ _ (Or.inl ⟨by rw [c1_49]; decide, by rw [c1_49]; rfl, rfl⟩)
  by_cases c1_50 : c = nI 50
  · skip
    refine x_topI c1_50 ?_
    refine x_tableIn C 40 dX8_foldOf_1 (by decide) (by decide) rfl (by decide) ?_
    refine x_iload_n C (i := 0) dX8_foldOf_40 rfl rfl ?_
    refine x_bipush C (nI 48) dX8_foldOf_41 rfl ?_
    refine x_isub C dX8_foldOf_43 ?_
    refine x_iret C xr xk dX8_foldOf_44 ?_
    exact hK _ _ (Or.inl ⟨by rw [c1_50]; decide, by rw [c1_50]; rfl, rfl⟩)
  by_cases c1_51 : c = nI 51
  · skip
    refine x_topI c1_51 ?_
    refine x_tableIn C 40 dX8_foldOf_1 (by decide) (by decide) rfl (by decide) ?_
    refine x_iload_n C (i := 0) dX8_foldOf_40 rfl rfl ?_
    refine x_bipush C (nI 48) dX8_foldOf_41 rfl ?_
    refine x_isub C dX8_foldOf_43 ?_
    refine x_iret C xr xk dX8_foldOf_44 ?_
    exact hK _ _ (Or.inl ⟨by rw [c1_51]; decide, by rw [c1_51]; rfl, rfl⟩)
  by_cases c1_52 : c = nI 52
  · skip
    refine x_topI c1_52 ?_
    refine x_tableIn C 40 dX8_foldOf_1 (by decide) (by decide) rfl (by decide) ?_
    refine x_iload_n C (i := 0) dX8_foldOf_40 rfl rfl ?_
    refine x_bipush C (nI 48) dX8_foldOf_41 rfl ?_
    refine x_isub C dX8_foldOf_43 ?_
    refine x_iret C xr xk dX8_foldOf_44 ?_
    exact hK _ _ (Or.inl ⟨by rw [c1_52]; decide, by rw [c1_52]; rfl, rfl⟩)
  by_cases c1_54 : c = nI 54
  · skip
    refine x_topI c1_54 ?_
    refine x_tableIn C 40 dX8_foldOf_1 (by decide) (by decide) rfl (by decide) ?_
    refine x_iload_n C (i := 0) dX8_foldOf_40 rfl rfl ?_
    refine x_bipush C (nI 48) dX8_foldOf_41 rfl ?_
    refine x_isub C dX8_foldOf_43 ?_
    refine x_iret C xr xk dX8_foldOf_44 ?_
    exact hK _ _ (Or.inl ⟨by rw [c1_54]; decide, by rw [c1_54]; rfl, rfl⟩)
  refine x_tdef C 45 dX8_foldOf_1 (fun k9 hk9 hx9 => ?_) (by decide) ?_
  · have hk8 : k9 = 0 ∨ k9 = 1 ∨ k9 = 2 ∨ k9 = 3 ∨ k9 = 4 ∨ k9 = 5 := by omega
    rcases hk8 with rfl | rfl | rfl | rfl | rfl | rfl
    · exact absurd (x_ofInt (n := 49) hx9 (by decide)) c1_49
    · exact absurd (x_ofInt (n := 50) hx9 (by decide)) c1_50
    · exact absurd (x_ofInt (n := 51) hx9 (by decide)) c1_51
    · exact absurd (x_ofInt (n := 52) hx9 (by decide)) c1_52
    · rfl
    · exact absurd (x_ofInt (n := 54) hx9 (by decide)) c1_54
  refine x_iconst C (-1) dX8_foldOf_45 rfl ?_
  refine x_iret C xr xk dX8_foldOf_46 ?_
  exact hK _ _ (Or.inr ⟨by
    cases h9 : x_isOrd c with
    | false => rfl
    | true =>
      rcases x_isOrd_cases h9 with z | z | z | z | z
      · exact absurd z c1_49
      · exact absurd z c1_50
      · exact absurd z c1_51
      · exact absurd z c1_52
      · exact absurd z c1_54, rfl, rfl⟩)
theorem c_X8_foldOf (l : Launch) (Y : x_Y) (σ : x_S) (c : Int32) : x_M l yX8_foldOf cX8_foldOf 1 (some .int) 0 Y [.int c] σ (fun r τ => (x_isOrd c = true ∧ r = some (.int (nI (x_ordn c))) ∧ τ = σ) ∨ (x_isOrd c = false ∧ r = some (.int (-1)) ∧ τ = σ)) := c_X8_foldOf_K l Y σ c _ (fun _ _ h => h)
set_option maxRecDepth 100000 in
set_option maxHeartbeats 200000 in
theorem c_X8_writtenAxis_K (l : Launch) (Y : x_Y) (σ : x_S) (n : Nat) (c : Int32) (hn0 : 0 < n) (hn9 : n ≤ 6) (K : Option Value → x_S → Prop) (hK : ∀ (r : Option Value) (τ : x_S), (r = some (.int (z_wax n c)) ∧ τ = σ) → K r τ) : x_M l yX8_writtenAxis cX8_writtenAxis 2 (some .int) 0 Y [.int (nI n), .int c] σ K := by
  refine x_start (by decide) (Nat.le_of_ble_eq_true rfl) ?_
  intro xp xe xs xm xg xb xt xc C xr xk
  refine x_iload_n C (i := 0) dX8_writtenAxis_0 rfl rfl ?_
  refine x_iconst C (nI 1) dX8_writtenAxis_1 rfl ?_
  refine x_icmp_neN C 8 dX8_writtenAxis_2 (by decide) (by omega) (by omega) (fun c2 => ?_) (fun c2 => ?_)
  · skip
    refine x_iload_n C (i := 1) dX8_writtenAxis_8 rfl rfl ?_
    by_cases c9_34 : c = nI 34
    · skip
      refine x_topI c9_34 ?_
      refine x_lookup C 86 dX8_writtenAxis_9 (by decide) (off := 77) (by decide) (by decide) ?_
      refine x_iload_n C (i := 0) dX8_writtenAxis_86 rfl rfl ?_
      refine x_iconst C (nI 2) dX8_writtenAxis_87 rfl ?_
      refine x_icmp_neN C 95 dX8_writtenAxis_88 (by decide) (by omega) (by omega) (fun c88 => ?_) (fun c88 => ?_)
      · skip
        refine x_bipush C (nI 6) dX8_writtenAxis_95 rfl ?_
        refine x_iret C xr xk dX8_writtenAxis_97 ?_
        exact hK _ _ ⟨by rw [c9_34, z_wax_34]; first | rw [if_pos c88] | rw [if_neg c88], rfl⟩
      · skip
        refine x_iconst C (nI 4) dX8_writtenAxis_91 rfl ?_
        refine x_goto C 97 dX8_writtenAxis_92 (by decide) ?_
        refine x_iret C xr xk dX8_writtenAxis_97 ?_
        exact hK _ _ ⟨by rw [c9_34, z_wax_34]; first | rw [if_pos c88] | rw [if_neg c88], rfl⟩
    by_cases c9_39 : c = nI 39
    · skip
      refine x_topI c9_39 ?_
      refine x_lookup C 74 dX8_writtenAxis_9 (by decide) (off := 65) (by decide) (by decide) ?_
      refine x_iload_n C (i := 0) dX8_writtenAxis_74 rfl rfl ?_
      refine x_iconst C (nI 2) dX8_writtenAxis_75 rfl ?_
      refine x_icmp_neN C 83 dX8_writtenAxis_76 (by decide) (by omega) (by omega) (fun c76 => ?_) (fun c76 => ?_)
      · skip
        refine x_bipush C (nI 6) dX8_writtenAxis_83 rfl ?_
        refine x_iret C xr xk dX8_writtenAxis_85 ?_
        exact hK _ _ ⟨by rw [c9_39, z_wax_39]; first | rw [if_pos c76] | rw [if_neg c76], rfl⟩
      · skip
        refine x_iconst C (nI 3) dX8_writtenAxis_79 rfl ?_
        refine x_goto C 85 dX8_writtenAxis_80 (by decide) ?_
        refine x_iret C xr xk dX8_writtenAxis_85 ?_
        exact hK _ _ ⟨by rw [c9_39, z_wax_39]; first | rw [if_pos c76] | rw [if_neg c76], rfl⟩
    by_cases c9_42 : c = nI 42
    · skip
      refine x_topI c9_42 ?_
      refine x_lookup C 98 dX8_writtenAxis_9 (by decide) (off := 89) (by decide) (by decide) ?_
      refine x_iload_n C (i := 0) dX8_writtenAxis_98 rfl rfl ?_
      refine x_iconst C (nI 3) dX8_writtenAxis_99 rfl ?_
      refine x_icmp_neN C 107 dX8_writtenAxis_100 (by decide) (by omega) (by omega) (fun c100 => ?_) (fun c100 => ?_)
      · skip
        refine x_bipush C (nI 6) dX8_writtenAxis_107 rfl ?_
        refine x_iret C xr xk dX8_writtenAxis_109 ?_
        exact hK _ _ ⟨by rw [c9_42, z_wax_42]; first | rw [if_pos c100] | rw [if_neg c100], rfl⟩
      · skip
        refine x_iconst C (nI 5) dX8_writtenAxis_103 rfl ?_
        refine x_goto C 109 dX8_writtenAxis_104 (by decide) ?_
        refine x_iret C xr xk dX8_writtenAxis_109 ?_
        exact hK _ _ ⟨by rw [c9_42, z_wax_42]; first | rw [if_pos c100] | rw [if_neg c100], rfl⟩
    by_cases c9_120 : c = nI 120
    · skip
      refine x_topI c9_120 ?_
      refine x_lookup C 68 dX8_writtenAxis_9 (by decide) (off := 59) (by decide) (by decide) ?_
      refine x_iconst C (nI 0) dX8_writtenAxis_68 rfl ?_
      refine x_iret C xr xk dX8_writtenAxis_69 ?_
      exact hK _ _ ⟨by rw [c9_120, z_wax_x (by omega) (by decide) (by decide)], rfl⟩
    by_cases c9_121 : c = nI 121
    · skip
      refine x_topI c9_121 ?_
      refine x_lookup C 70 dX8_writtenAxis_9 (by decide) (off := 61) (by decide) (by decide) ?_
      refine x_iconst C (nI 1) dX8_writtenAxis_70 rfl ?_
      refine x_iret C xr xk dX8_writtenAxis_71 ?_
      exact hK _ _ ⟨by rw [c9_121, z_wax_x (by omega) (by decide) (by decide)], rfl⟩
    by_cases c9_122 : c = nI 122
    · skip
      refine x_topI c9_122 ?_
      refine x_lookup C 72 dX8_writtenAxis_9 (by decide) (off := 63) (by decide) (by decide) ?_
      refine x_iconst C (nI 2) dX8_writtenAxis_72 rfl ?_
      refine x_iret C xr xk dX8_writtenAxis_73 ?_
      exact hK _ _ ⟨by rw [c9_122, z_wax_x (by omega) (by decide) (by decide)], rfl⟩
    refine x_lookup C 110 dX8_writtenAxis_9 (by decide) (off := 101) (by show Op.lookupswitch.offset [(34, 77), (39, 65), (42, 89), (120, 59), (121, 61), (122, 63)] 101 _ = 101; rw [Op.lookupswitch.offset_cons, if_neg (fun z => c9_34 (x_ofInt (n := 34) z.symm (by decide))), Op.lookupswitch.offset_cons, if_neg (fun z => c9_39 (x_ofInt (n := 39) z.symm (by decide))), Op.lookupswitch.offset_cons, if_neg (fun z => c9_42 (x_ofInt (n := 42) z.symm (by decide))), Op.lookupswitch.offset_cons, if_neg (fun z => c9_120 (x_ofInt (n := 120) z.symm (by decide))), Op.lookupswitch.offset_cons, if_neg (fun z => c9_121 (x_ofInt (n := 121) z.symm (by decide))), Op.lookupswitch.offset_cons, if_neg (fun z => c9_122 (x_ofInt (n := 122) z.symm (by decide))), Op.lookupswitch.offset_nil]) (by decide) ?_
    refine x_bipush C (nI 6) dX8_writtenAxis_110 rfl ?_
    refine x_iret C xr xk dX8_writtenAxis_112 ?_
    exact hK _ _ ⟨by rw [z_wax_o c9_34 c9_39 c9_42 c9_120 c9_121 c9_122], rfl⟩
  · skip
    refine x_bipush C (nI 6) dX8_writtenAxis_5 rfl ?_
    refine x_iret C xr xk dX8_writtenAxis_7 ?_
    exact hK _ _ ⟨by rw [c2, z_wax_1], rfl⟩
theorem c_X8_writtenAxis (l : Launch) (Y : x_Y) (σ : x_S) (n : Nat) (c : Int32) (hn0 : 0 < n) (hn9 : n ≤ 6) : x_M l yX8_writtenAxis cX8_writtenAxis 2 (some .int) 0 Y [.int (nI n), .int c] σ (fun r τ => r = some (.int (z_wax n c)) ∧ τ = σ) := c_X8_writtenAxis_K l Y σ n c hn0 hn9 _ (fun _ _ h => h)
set_option maxRecDepth 100000 in
set_option maxHeartbeats 200000 in
theorem c_X8_axisByDefault_K (l : Launch) (Y : x_Y) (σ : x_S) (n : Nat) (hn0 : 0 < n) (hn9 : n ≤ 6) (su fi : Nat) (hsu : σ.1 8 4 = nI su) (hfi : σ.1 8 5 = nI fi) (hsu9 : su ≤ 6) (hfi9 : fi ≤ 6) (hsf : 0 < su → fi = 2 ∨ fi = 3 ∨ fi = 4 ∨ fi = 6) (K : Option Value → x_S → Prop) (hK : ∀ (r : Option Value) (τ : x_S), (r = some (.int (z_dax su fi n)) ∧ τ = σ) → K r τ) : x_M l yX8_axisByDefault cX8_axisByDefault 2 (some .int) 0 Y [.ref 8, .int (nI n)] σ K := by
  refine x_start (by decide) (Nat.le_of_ble_eq_true rfl) ?_
  intro xp xe xs xm xg xb xt xc C xr xk
  refine x_iload_n C (i := 1) dX8_axisByDefault_0 rfl rfl ?_
  refine x_iconst C (nI 1) dX8_axisByDefault_1 rfl ?_
  refine x_icmp_neN C 8 dX8_axisByDefault_2 (by decide) (by omega) (by omega) (fun c2 => ?_) (fun c2 => ?_)
  · skip
    refine x_aload_n C (i := 0) dX8_axisByDefault_8 rfl rfl ?_
    refine x_getI C fi_8_4 kf_X8_29 dX8_axisByDefault_9 ?_
    refine x_topI (y := nI su) hsu ?_
    refine x_if_neN C 17 dX8_axisByDefault_12 (by decide) (by omega) (fun c12 => ?_) (fun c12 => ?_)
    · skip
      refine x_aload_n C (i := 0) dX8_axisByDefault_17 rfl rfl ?_
      refine x_getI C fi_8_4 kf_X8_29 dX8_axisByDefault_18 ?_
      refine x_topI (y := nI su) hsu ?_
      refine x_iconst C (nI 1) dX8_axisByDefault_21 rfl ?_
      refine x_icmp_neN C 52 dX8_axisByDefault_22 (by decide) (by omega) (by omega) (fun c22 => ?_) (fun c22 => ?_)
      · skip
        refine x_iload_n C (i := 1) dX8_axisByDefault_52 rfl rfl ?_
        refine x_iconst C (nI 3) dX8_axisByDefault_53 rfl ?_
        refine x_icmp_neN C 61 dX8_axisByDefault_54 (by decide) (by omega) (by omega) (fun c54 => ?_) (fun c54 => ?_)
        · skip
          refine x_bipush C (nI 7) dX8_axisByDefault_61 rfl ?_
          refine x_iret C xr xk dX8_axisByDefault_63 ?_
          exact hK _ _ ⟨by first | rw [z_dax_3 (by omega) (by omega) (by omega)] | rw [z_dax_m (by omega) (by omega) (by omega) (by omega)], rfl⟩
        · skip
          refine x_iconst C (nI 5) dX8_axisByDefault_57 rfl ?_
          refine x_goto C 63 dX8_axisByDefault_58 (by decide) ?_
          refine x_iret C xr xk dX8_axisByDefault_63 ?_
          exact hK _ _ ⟨by first | rw [z_dax_3 (by omega) (by omega) (by omega)] | rw [z_dax_m (by omega) (by omega) (by omega) (by omega)], rfl⟩
      · skip
        refine x_iload_n C (i := 1) dX8_axisByDefault_25 rfl rfl ?_
        refine x_iconst C (nI 2) dX8_axisByDefault_26 rfl ?_
        refine x_icmp_neN C 52 dX8_axisByDefault_27 (by decide) (by omega) (by omega) (fun c27 => ?_) (fun c27 => ?_)
        · skip
          refine x_iload_n C (i := 1) dX8_axisByDefault_52 rfl rfl ?_
          refine x_iconst C (nI 3) dX8_axisByDefault_53 rfl ?_
          refine x_icmp_neN C 61 dX8_axisByDefault_54 (by decide) (by omega) (by omega) (fun c54 => ?_) (fun c54 => ?_)
          · skip
            refine x_bipush C (nI 7) dX8_axisByDefault_61 rfl ?_
            refine x_iret C xr xk dX8_axisByDefault_63 ?_
            exact hK _ _ ⟨by first | rw [z_dax_3 (by omega) (by omega) (by omega)] | rw [z_dax_m (by omega) (by omega) (by omega) (by omega)], rfl⟩
          · skip
            refine x_iconst C (nI 5) dX8_axisByDefault_57 rfl ?_
            refine x_goto C 63 dX8_axisByDefault_58 (by decide) ?_
            refine x_iret C xr xk dX8_axisByDefault_63 ?_
            exact hK _ _ ⟨by first | rw [z_dax_3 (by omega) (by omega) (by omega)] | rw [z_dax_m (by omega) (by omega) (by omega) (by omega)], rfl⟩
        · skip
          refine x_aload_n C (i := 0) dX8_axisByDefault_30 rfl rfl ?_
          refine x_getI C fi_8_5 kf_X8_32 dX8_axisByDefault_31 ?_
          refine x_topI (y := nI fi) hfi ?_
          refine x_iconst C (nI 2) dX8_axisByDefault_34 rfl ?_
          refine x_icmp_eqN C 46 dX8_axisByDefault_35 (by decide) (by omega) (by omega) (fun c35 => ?_) (fun c35 => ?_)
          · skip
            refine x_iconst C (nI 0) dX8_axisByDefault_46 rfl ?_
            refine x_goto C 51 dX8_axisByDefault_47 (by decide) ?_
            refine x_iret C xr xk dX8_axisByDefault_51 ?_
            exact hK _ _ ⟨by first | rw [z_dax_x c22 c27 (Or.inl c35)] | rw [z_dax_x c22 c27 (Or.inr c43)] | rw [z_dax_p c22 c27 (fun z => z.elim c35 c43) (hsf (by omega))], rfl⟩
          · skip
            refine x_aload_n C (i := 0) dX8_axisByDefault_38 rfl rfl ?_
            refine x_getI C fi_8_5 kf_X8_32 dX8_axisByDefault_39 ?_
            refine x_topI (y := nI fi) hfi ?_
            refine x_iconst C (nI 4) dX8_axisByDefault_42 rfl ?_
            refine x_icmp_neN C 50 dX8_axisByDefault_43 (by decide) (by omega) (by omega) (fun c43 => ?_) (fun c43 => ?_)
            · skip
              refine x_iconst C (nI 3) dX8_axisByDefault_50 rfl ?_
              refine x_iret C xr xk dX8_axisByDefault_51 ?_
              exact hK _ _ ⟨by first | rw [z_dax_x c22 c27 (Or.inl c35)] | rw [z_dax_x c22 c27 (Or.inr c43)] | rw [z_dax_p c22 c27 (fun z => z.elim c35 c43) (hsf (by omega))], rfl⟩
            · skip
              refine x_iconst C (nI 0) dX8_axisByDefault_46 rfl ?_
              refine x_goto C 51 dX8_axisByDefault_47 (by decide) ?_
              refine x_iret C xr xk dX8_axisByDefault_51 ?_
              exact hK _ _ ⟨by first | rw [z_dax_x c22 c27 (Or.inl c35)] | rw [z_dax_x c22 c27 (Or.inr c43)] | rw [z_dax_p c22 c27 (fun z => z.elim c35 c43) (hsf (by omega))], rfl⟩
    · skip
      refine x_iconst C (nI 2) dX8_axisByDefault_15 rfl ?_
      refine x_iret C xr xk dX8_axisByDefault_16 ?_
      exact hK _ _ ⟨by rw [z_dax_0 c2 c12], rfl⟩
  · skip
    refine x_bipush C (nI 6) dX8_axisByDefault_5 rfl ?_
    refine x_iret C xr xk dX8_axisByDefault_7 ?_
    exact hK _ _ ⟨by unfold z_dax; rw [if_pos c2], rfl⟩
theorem c_X8_axisByDefault (l : Launch) (Y : x_Y) (σ : x_S) (n : Nat) (hn0 : 0 < n) (hn9 : n ≤ 6) (su fi : Nat) (hsu : σ.1 8 4 = nI su) (hfi : σ.1 8 5 = nI fi) (hsu9 : su ≤ 6) (hfi9 : fi ≤ 6) (hsf : 0 < su → fi = 2 ∨ fi = 3 ∨ fi = 4 ∨ fi = 6) : x_M l yX8_axisByDefault cX8_axisByDefault 2 (some .int) 0 Y [.ref 8, .int (nI n)] σ (fun r τ => r = some (.int (z_dax su fi n)) ∧ τ = σ) := c_X8_axisByDefault_K l Y σ n hn0 hn9 su fi hsu hfi hsu9 hfi9 hsf _ (fun _ _ h => h)
set_option maxRecDepth 100000 in
set_option maxHeartbeats 200000 in
theorem c_X8_readAxis_K (l : Launch) (Y : x_Y) (σ : x_S) (n : Nat) (hn0 : 0 < n) (hn9 : n ≤ 6) (b : Nat → Int32) (t : Nat) (ht : σ.1 1 1 = nI t) (hb : σ.1 2 = b) (ht8 : t ≤ 8000) (a : Nat) (ha : σ.1 8 3 = nI a) (hat : a ≤ t) (su fi : Nat) (hsu : σ.1 8 4 = nI su) (hfi : σ.1 8 5 = nI fi) (hsu9 : su ≤ 6) (hfi9 : fi ≤ 6) (hsf : 0 < su → fi = 2 ∨ fi = 3 ∨ fi = 4 ∨ fi = 6) (K : Option Value → x_S → Prop) (hK : ∀ (r : Option Value) (τ : x_S), ((x_axAt n (x_lookv b t a) = -1 ∧ r = some (.int (z_dax su fi n)) ∧ τ = σ) ∨ (¬ x_axAt n (x_lookv b t a) = -1 ∧ r = some (.int (x_axAt n (x_lookv b t a))) ∧ τ = x_st σ [(8, 3, nI (a + 1))] [] [])) → K r τ) : x_M l yX8_readAxis cX8_readAxis 3 (some .int) 1 Y [.ref 8, .int (nI n)] σ K := by
  refine x_start (by decide) (Nat.le_of_ble_eq_true rfl) ?_
  intro xp xe xs xm xg xb xt xc C xr xk
  refine x_sig (σ' := x_st σ [(8, 3, nI a)] [] []) (x_st_in (And.intro ha trivial) trivial trivial) ?_
  refine x_iload_n C (i := 1) dX8_readAxis_0 rfl rfl ?_
  refine x_aload_n C (i := 0) dX8_readAxis_1 rfl rfl ?_
  refine x_getR C fr_8_0 kf_X8_17 dX8_readAxis_2 ?_
  refine x_aload_n C (i := 0) dX8_readAxis_5 rfl rfl ?_
  refine x_getI C fi_8_3 kf_X8_25 dX8_readAxis_6 ?_
  refine x_topI (y := nI a) rfl ?_
  have hM := c_X9_byteAt l Y (x_st σ [(8, 3, nI a)] [] []) a t b ht hb ht8 (by omega)
  refine x_callV C (as := [.int (nI a)]) (st := [.int (nI n)]) (hM) kb_X9_byteAt kv_X8_70 dX8_readAxis_9 rfl rfl (Nat.le_of_ble_eq_true rfl) ⟨by decide, by decide⟩ ⟨by decide, by decide⟩ ko_1 ?_
  clear hM
  rintro _ _ ⟨rfl, rfl⟩
  have hM := c_X8_writtenAxis l Y (x_st σ [(8, 3, nI a)] [] []) n (x_lookv b t a) (by omega) (by omega)
  refine x_callS C (as := [.int (nI n), .int (x_lookv b t a)]) (st := []) (hM) kb_X8_writtenAxis ks_X8_106 dX8_readAxis_12 rfl rfl (Nat.le_of_ble_eq_true rfl) ⟨by decide, by decide⟩ ⟨by decide, by decide⟩ ?_
  clear hM
  rintro _ _ ⟨rfl, rfl⟩
  refine x_istore_n C (i := 2) dX8_readAxis_15 rfl (by decide) ?_
  refine x_iload_n C (i := 2) dX8_readAxis_16 rfl rfl ?_
  refine x_bipush C (nI 6) dX8_readAxis_17 rfl ?_
  refine x_icmp_ne C 28 dX8_readAxis_19 (by decide) (fun c19 => ?_) (fun c19 => ?_)
  · skip
    have hax := z_waxn c19
    refine x_aload_n C (i := 0) dX8_readAxis_28 rfl rfl ?_
    refine x_dup C dX8_readAxis_29 rfl ?_
    refine x_getI C fi_8_3 kf_X8_25 dX8_readAxis_30 ?_
    refine x_topI (y := nI a) rfl ?_
    refine x_iconst C (nI 1) dX8_readAxis_33 rfl ?_
    refine x_iaddN C dX8_readAxis_34 ?_
    refine x_putN C fi_8_3 kf_X8_25 rfl rfl dX8_readAxis_35 ?_
    refine x_sig (σ' := x_st σ [(8, 3, nI (a + 1))] [] []) (x_st_u rfl) ?_
    refine x_iload_n C (i := 2) dX8_readAxis_38 rfl rfl ?_
    refine x_iret C xr xk dX8_readAxis_39 ?_
    exact hK _ _ (Or.inr ⟨hax.1, by rw [hax.2], rfl⟩)
  · skip
    have hax : x_axAt n (x_lookv b t a) = -1 := z_waxe c19
    refine x_aload_n C (i := 0) dX8_readAxis_22 rfl rfl ?_
    refine x_iload_n C (i := 1) dX8_readAxis_23 rfl rfl ?_
    have hM := c_X8_axisByDefault l Y (x_st σ [(8, 3, nI a)] [] []) n hn0 hn9 su fi hsu hfi hsu9 hfi9 hsf
    refine x_callV C (as := [.int (nI n)]) (st := []) (hM) kb_X8_axisByDefault kv_X8_109 dX8_readAxis_24 rfl rfl (Nat.le_of_ble_eq_true rfl) ⟨by decide, by decide⟩ ⟨by decide, by decide⟩ ko_8 ?_
    clear hM
    rintro _ _ ⟨rfl, rfl⟩
    refine x_iret C xr xk dX8_readAxis_27 ?_
    exact hK _ _ (Or.inl ⟨hax, rfl, (x_st_in (σ := σ) (F := [(8, 3, nI a)]) (I := []) (G := []) (And.intro ha trivial) trivial trivial).symm⟩)
theorem c_X8_readAxis (l : Launch) (Y : x_Y) (σ : x_S) (n : Nat) (hn0 : 0 < n) (hn9 : n ≤ 6) (b : Nat → Int32) (t : Nat) (ht : σ.1 1 1 = nI t) (hb : σ.1 2 = b) (ht8 : t ≤ 8000) (a : Nat) (ha : σ.1 8 3 = nI a) (hat : a ≤ t) (su fi : Nat) (hsu : σ.1 8 4 = nI su) (hfi : σ.1 8 5 = nI fi) (hsu9 : su ≤ 6) (hfi9 : fi ≤ 6) (hsf : 0 < su → fi = 2 ∨ fi = 3 ∨ fi = 4 ∨ fi = 6) : x_M l yX8_readAxis cX8_readAxis 3 (some .int) 1 Y [.ref 8, .int (nI n)] σ (fun r τ => (x_axAt n (x_lookv b t a) = -1 ∧ r = some (.int (z_dax su fi n)) ∧ τ = σ) ∨ (¬ x_axAt n (x_lookv b t a) = -1 ∧ r = some (.int (x_axAt n (x_lookv b t a))) ∧ τ = x_st σ [(8, 3, nI (a + 1))] [] [])) := c_X8_readAxis_K l Y σ n hn0 hn9 b t ht hb ht8 a ha hat su fi hsu hfi hsu9 hfi9 hsf _ (fun _ _ h => h)
set_option maxRecDepth 100000 in
set_option maxHeartbeats 200000 in
theorem c_X8_rotationOf_K (l : Launch) (Y : x_Y) (σ : x_S) (n ax : Nat) (hn9 : n ≤ 6) (hax9 : ax ≤ 6) (K : Option Value → x_S → Prop) (hK : ∀ (r : Option Value) (τ : x_S), (r = some (.int (nI (z_ro n ax))) ∧ τ = σ) → K r τ) : x_M l yX8_rotationOf cX8_rotationOf 2 (some .int) 0 Y [.int (nI n), .int (nI ax)] σ K := by
  refine x_start (by decide) (Nat.le_of_ble_eq_true rfl) ?_
  intro xp xe xs xm xg xb xt xc C xr xk
  refine x_iload_n C (i := 1) dX8_rotationOf_0 rfl rfl ?_
  by_cases c1_3 : nI ax = nI 3
  · skip
    refine x_topI c1_3 ?_
    refine x_tableIn C 28 dX8_rotationOf_1 (by decide) (by decide) rfl (by decide) ?_
    refine x_bipush C (nI 45) dX8_rotationOf_28 rfl ?_
    refine x_iret C xr xk dX8_rotationOf_30 ?_
    exact hK _ _ ⟨by
      have e3 : ax = 3 ↔ nI ax = nI 3 := (nI_eq (by omega) (by decide)).symm
      have e4 : ax = 4 ↔ nI ax = nI 4 := (nI_eq (by omega) (by decide)).symm
      have e5 : ax = 5 ↔ nI ax = nI 5 := (nI_eq (by omega) (by decide)).symm
      have f2 : n = 2 ↔ nI n = nI 2 := (nI_eq (by omega) (by decide)).symm
      have f3 : n = 3 ↔ nI n = nI 3 := (nI_eq (by omega) (by decide)).symm
      have f4 : n = 4 ↔ nI n = nI 4 := (nI_eq (by omega) (by decide)).symm
      have f6 : n = 6 ↔ nI n = nI 6 := (nI_eq (by omega) (by decide)).symm
      unfold z_ro
      simp only [e3, e4, e5, f2, f3, f4, f6, *]
      rfl, rfl⟩
  by_cases c1_4 : nI ax = nI 4
  · skip
    refine x_topI c1_4 ?_
    refine x_tableIn C 31 dX8_rotationOf_1 (by decide) (by decide) rfl (by decide) ?_
    refine x_bipush C (nI 54) dX8_rotationOf_31 rfl ?_
    refine x_iret C xr xk dX8_rotationOf_33 ?_
    exact hK _ _ ⟨by
      have e3 : ax = 3 ↔ nI ax = nI 3 := (nI_eq (by omega) (by decide)).symm
      have e4 : ax = 4 ↔ nI ax = nI 4 := (nI_eq (by omega) (by decide)).symm
      have e5 : ax = 5 ↔ nI ax = nI 5 := (nI_eq (by omega) (by decide)).symm
      have f2 : n = 2 ↔ nI n = nI 2 := (nI_eq (by omega) (by decide)).symm
      have f3 : n = 3 ↔ nI n = nI 3 := (nI_eq (by omega) (by decide)).symm
      have f4 : n = 4 ↔ nI n = nI 4 := (nI_eq (by omega) (by decide)).symm
      have f6 : n = 6 ↔ nI n = nI 6 := (nI_eq (by omega) (by decide)).symm
      unfold z_ro
      simp only [e3, e4, e5, f2, f3, f4, f6, *]
      rfl, rfl⟩
  by_cases c1_5 : nI ax = nI 5
  · skip
    refine x_topI c1_5 ?_
    refine x_tableIn C 34 dX8_rotationOf_1 (by decide) (by decide) rfl (by decide) ?_
    refine x_bipush C (nI 63) dX8_rotationOf_34 rfl ?_
    refine x_iret C xr xk dX8_rotationOf_36 ?_
    exact hK _ _ ⟨by
      have e3 : ax = 3 ↔ nI ax = nI 3 := (nI_eq (by omega) (by decide)).symm
      have e4 : ax = 4 ↔ nI ax = nI 4 := (nI_eq (by omega) (by decide)).symm
      have e5 : ax = 5 ↔ nI ax = nI 5 := (nI_eq (by omega) (by decide)).symm
      have f2 : n = 2 ↔ nI n = nI 2 := (nI_eq (by omega) (by decide)).symm
      have f3 : n = 3 ↔ nI n = nI 3 := (nI_eq (by omega) (by decide)).symm
      have f4 : n = 4 ↔ nI n = nI 4 := (nI_eq (by omega) (by decide)).symm
      have f6 : n = 6 ↔ nI n = nI 6 := (nI_eq (by omega) (by decide)).symm
      unfold z_ro
      simp only [e3, e4, e5, f2, f3, f4, f6, *]
      rfl, rfl⟩
  refine x_tdef C 37 dX8_rotationOf_1 (fun k9 hk9 hx9 => ?_) (by decide) ?_
  · have hk8 : k9 = 0 ∨ k9 = 1 ∨ k9 = 2 := by omega
    rcases hk8 with rfl | rfl | rfl
    · exact absurd (x_ofInt (n := 3) hx9 (by decide)) c1_3
    · exact absurd (x_ofInt (n := 4) hx9 (by decide)) c1_4
    · exact absurd (x_ofInt (n := 5) hx9 (by decide)) c1_5
  refine x_iload_n C (i := 0) dX8_rotationOf_37 rfl rfl ?_
  by_cases c38_2 : nI n = nI 2
  · skip
    refine x_topI c38_2 ?_
    refine x_tableIn C 72 dX8_rotationOf_38 (by decide) (by decide) rfl (by decide) ?_
    refine x_bipush C (nI 9) dX8_rotationOf_72 rfl ?_
    refine x_iret C xr xk dX8_rotationOf_74 ?_
    exact hK _ _ ⟨by
      have e3 : ax = 3 ↔ nI ax = nI 3 := (nI_eq (by omega) (by decide)).symm
      have e4 : ax = 4 ↔ nI ax = nI 4 := (nI_eq (by omega) (by decide)).symm
      have e5 : ax = 5 ↔ nI ax = nI 5 := (nI_eq (by omega) (by decide)).symm
      have f2 : n = 2 ↔ nI n = nI 2 := (nI_eq (by omega) (by decide)).symm
      have f3 : n = 3 ↔ nI n = nI 3 := (nI_eq (by omega) (by decide)).symm
      have f4 : n = 4 ↔ nI n = nI 4 := (nI_eq (by omega) (by decide)).symm
      have f6 : n = 6 ↔ nI n = nI 6 := (nI_eq (by omega) (by decide)).symm
      unfold z_ro
      simp only [e3, e4, e5, f2, f3, f4, f6, *]
      rfl, rfl⟩
  by_cases c38_3 : nI n = nI 3
  · skip
    refine x_topI c38_3 ?_
    refine x_tableIn C 75 dX8_rotationOf_38 (by decide) (by decide) rfl (by decide) ?_
    refine x_bipush C (nI 18) dX8_rotationOf_75 rfl ?_
    refine x_iret C xr xk dX8_rotationOf_77 ?_
    exact hK _ _ ⟨by
      have e3 : ax = 3 ↔ nI ax = nI 3 := (nI_eq (by omega) (by decide)).symm
      have e4 : ax = 4 ↔ nI ax = nI 4 := (nI_eq (by omega) (by decide)).symm
      have e5 : ax = 5 ↔ nI ax = nI 5 := (nI_eq (by omega) (by decide)).symm
      have f2 : n = 2 ↔ nI n = nI 2 := (nI_eq (by omega) (by decide)).symm
      have f3 : n = 3 ↔ nI n = nI 3 := (nI_eq (by omega) (by decide)).symm
      have f4 : n = 4 ↔ nI n = nI 4 := (nI_eq (by omega) (by decide)).symm
      have f6 : n = 6 ↔ nI n = nI 6 := (nI_eq (by omega) (by decide)).symm
      unfold z_ro
      simp only [e3, e4, e5, f2, f3, f4, f6, *]
      rfl, rfl⟩
  by_cases c38_4 : nI n = nI 4
  · skip
    refine x_topI c38_4 ?_
    refine x_tableIn C 78 dX8_rotationOf_38 (by decide) (by decide) rfl (by decide) ?_
    refine x_bipush C (nI 27) dX8_rotationOf_78 rfl ?_
    refine x_iret C xr xk dX8_rotationOf_80 ?_
    exact hK _ _ ⟨by
      have e3 : ax = 3 ↔ nI ax = nI 3 := (nI_eq (by omega) (by decide)).symm
      have e4 : ax = 4 ↔ nI ax = nI 4 := (nI_eq (by omega) (by decide)).symm
      have e5 : ax = 5 ↔ nI ax = nI 5 := (nI_eq (by omega) (by decide)).symm
      have f2 : n = 2 ↔ nI n = nI 2 := (nI_eq (by omega) (by decide)).symm
      have f3 : n = 3 ↔ nI n = nI 3 := (nI_eq (by omega) (by decide)).symm
      have f4 : n = 4 ↔ nI n = nI 4 := (nI_eq (by omega) (by decide)).symm
      have f6 : n = 6 ↔ nI n = nI 6 := (nI_eq (by omega) (by decide)).symm
      unfold z_ro
      simp only [e3, e4, e5, f2, f3, f4, f6, *]
      rfl, rfl⟩
  by_cases c38_6 : nI n = nI 6
  · skip
    refine x_topI c38_6 ?_
    refine x_tableIn C 81 dX8_rotationOf_38 (by decide) (by decide) rfl (by decide) ?_
    refine x_bipush C (nI 36) dX8_rotationOf_81 rfl ?_
    refine x_iret C xr xk dX8_rotationOf_83 ?_
    exact hK _ _ ⟨by
      have e3 : ax = 3 ↔ nI ax = nI 3 := (nI_eq (by omega) (by decide)).symm
      have e4 : ax = 4 ↔ nI ax = nI 4 := (nI_eq (by omega) (by decide)).symm
      have e5 : ax = 5 ↔ nI ax = nI 5 := (nI_eq (by omega) (by decide)).symm
      have f2 : n = 2 ↔ nI n = nI 2 := (nI_eq (by omega) (by decide)).symm
      have f3 : n = 3 ↔ nI n = nI 3 := (nI_eq (by omega) (by decide)).symm
      have f4 : n = 4 ↔ nI n = nI 4 := (nI_eq (by omega) (by decide)).symm
      have f6 : n = 6 ↔ nI n = nI 6 := (nI_eq (by omega) (by decide)).symm
      unfold z_ro
      simp only [e3, e4, e5, f2, f3, f4, f6, *]
      rfl, rfl⟩
  refine x_tdef C 84 dX8_rotationOf_38 (fun k9 hk9 hx9 => ?_) (by decide) ?_
  · have hk8 : k9 = 0 ∨ k9 = 1 ∨ k9 = 2 ∨ k9 = 3 ∨ k9 = 4 := by omega
    rcases hk8 with rfl | rfl | rfl | rfl | rfl
    · exact absurd (x_ofInt (n := 2) hx9 (by decide)) c38_2
    · exact absurd (x_ofInt (n := 3) hx9 (by decide)) c38_3
    · exact absurd (x_ofInt (n := 4) hx9 (by decide)) c38_4
    · rfl
    · exact absurd (x_ofInt (n := 6) hx9 (by decide)) c38_6
  refine x_iconst C (nI 0) dX8_rotationOf_84 rfl ?_
  refine x_iret C xr xk dX8_rotationOf_85 ?_
  exact hK _ _ ⟨by
    have e3 : ax = 3 ↔ nI ax = nI 3 := (nI_eq (by omega) (by decide)).symm
    have e4 : ax = 4 ↔ nI ax = nI 4 := (nI_eq (by omega) (by decide)).symm
    have e5 : ax = 5 ↔ nI ax = nI 5 := (nI_eq (by omega) (by decide)).symm
    have f2 : n = 2 ↔ nI n = nI 2 := (nI_eq (by omega) (by decide)).symm
    have f3 : n = 3 ↔ nI n = nI 3 := (nI_eq (by omega) (by decide)).symm
    have f4 : n = 4 ↔ nI n = nI 4 := (nI_eq (by omega) (by decide)).symm
    have f6 : n = 6 ↔ nI n = nI 6 := (nI_eq (by omega) (by decide)).symm
    unfold z_ro
    simp only [e3, e4, e5, f2, f3, f4, f6, *]
    rfl, rfl⟩
theorem c_X8_rotationOf (l : Launch) (Y : x_Y) (σ : x_S) (n ax : Nat) (hn9 : n ≤ 6) (hax9 : ax ≤ 6) : x_M l yX8_rotationOf cX8_rotationOf 2 (some .int) 0 Y [.int (nI n), .int (nI ax)] σ (fun r τ => r = some (.int (nI (z_ro n ax))) ∧ τ = σ) := c_X8_rotationOf_K l Y σ n ax hn9 hax9 _ (fun _ _ h => h)
set_option maxRecDepth 100000 in
set_option maxHeartbeats 200000 in
theorem c_X8_turnOf_K (l : Launch) (Y : x_Y) (σ : x_S) (ax be : Nat) (hax9 : ax ≤ 6) (hbe : σ.1 8 6 = nI be) (hbe9 : be < 3) (K : Option Value → x_S → Prop) (hK : ∀ (r : Option Value) (τ : x_S), (r = some (.int (nI (z_tf ax be))) ∧ τ = σ) → K r τ) : x_M l yX8_turnOf cX8_turnOf 3 (some .int) 0 Y [.ref 8, .int (nI ax)] σ K := by
  refine x_start (by decide) (Nat.le_of_ble_eq_true rfl) ?_
  intro xp xe xs xm xg xb xt xc C xr xk
  refine x_iload_n C (i := 1) dX8_turnOf_0 rfl rfl ?_
  refine x_iconst C (nI 3) dX8_turnOf_1 rfl ?_
  refine x_icmp_eqN C 10 dX8_turnOf_2 (by decide) (by omega) (by omega) (fun c2 => ?_) (fun c2 => ?_)
  · skip
    refine x_aload_n C (i := 0) dX8_turnOf_10 rfl rfl ?_
    refine x_getI C fi_8_6 kf_X8_35 dX8_turnOf_11 ?_
    refine x_topI (y := nI be) hbe ?_
    refine x_goto C 18 dX8_turnOf_14 (by decide) ?_
    refine x_istore_n C (i := 2) dX8_turnOf_18 rfl (by decide) ?_
    refine x_iload_n C (i := 2) dX8_turnOf_19 rfl rfl ?_
    refine x_if_neN C 25 dX8_turnOf_20 (by decide) (by omega) (fun c20 => ?_) (fun c20 => ?_)
    · skip
      refine x_iload_n C (i := 2) dX8_turnOf_25 rfl rfl ?_
      refine x_iconst C (nI 1) dX8_turnOf_26 rfl ?_
      refine x_icmp_neN C 34 dX8_turnOf_27 (by decide) (by omega) (by omega) (fun c27 => ?_) (fun c27 => ?_)
      · skip
        refine x_iconst C (nI 0) dX8_turnOf_34 rfl ?_
        refine x_iret C xr xk dX8_turnOf_35 ?_
        exact hK _ _ ⟨by unfold z_tf; first | (rw [if_pos (show ax = 3 ∨ ax = 4 from Or.inl c2)]; first | rw [if_pos c20] | rw [if_neg c20, if_pos c27] | rw [if_neg c20, if_neg c27]) | (rw [if_pos (show ax = 3 ∨ ax = 4 from Or.inr c7)]; first | rw [if_pos c20] | rw [if_neg c20, if_pos c27] | rw [if_neg c20, if_neg c27]) | (rw [if_neg (show ¬ (ax = 3 ∨ ax = 4) from fun z => z.elim c2 c7)]; first | rw [if_pos c20] | rw [if_neg c20, if_pos c27] | rw [if_neg c20, if_neg c27]), rfl⟩
      · skip
        refine x_iconst C (nI 2) dX8_turnOf_30 rfl ?_
        refine x_goto C 35 dX8_turnOf_31 (by decide) ?_
        refine x_iret C xr xk dX8_turnOf_35 ?_
        exact hK _ _ ⟨by unfold z_tf; first | (rw [if_pos (show ax = 3 ∨ ax = 4 from Or.inl c2)]; first | rw [if_pos c20] | rw [if_neg c20, if_pos c27] | rw [if_neg c20, if_neg c27]) | (rw [if_pos (show ax = 3 ∨ ax = 4 from Or.inr c7)]; first | rw [if_pos c20] | rw [if_neg c20, if_pos c27] | rw [if_neg c20, if_neg c27]) | (rw [if_neg (show ¬ (ax = 3 ∨ ax = 4) from fun z => z.elim c2 c7)]; first | rw [if_pos c20] | rw [if_neg c20, if_pos c27] | rw [if_neg c20, if_neg c27]), rfl⟩
    · skip
      refine x_iconst C (nI 1) dX8_turnOf_23 rfl ?_
      refine x_iret C xr xk dX8_turnOf_24 ?_
      exact hK _ _ ⟨by unfold z_tf; first | (rw [if_pos (show ax = 3 ∨ ax = 4 from Or.inl c2)]; first | rw [if_pos c20] | rw [if_neg c20, if_pos c27] | rw [if_neg c20, if_neg c27]) | (rw [if_pos (show ax = 3 ∨ ax = 4 from Or.inr c7)]; first | rw [if_pos c20] | rw [if_neg c20, if_pos c27] | rw [if_neg c20, if_neg c27]) | (rw [if_neg (show ¬ (ax = 3 ∨ ax = 4) from fun z => z.elim c2 c7)]; first | rw [if_pos c20] | rw [if_neg c20, if_pos c27] | rw [if_neg c20, if_neg c27]), rfl⟩
  · skip
    refine x_iload_n C (i := 1) dX8_turnOf_5 rfl rfl ?_
    refine x_iconst C (nI 4) dX8_turnOf_6 rfl ?_
    refine x_icmp_neN C 17 dX8_turnOf_7 (by decide) (by omega) (by omega) (fun c7 => ?_) (fun c7 => ?_)
    · skip
      refine x_iload_n C (i := 1) dX8_turnOf_17 rfl rfl ?_
      refine x_istore_n C (i := 2) dX8_turnOf_18 rfl (by decide) ?_
      refine x_iload_n C (i := 2) dX8_turnOf_19 rfl rfl ?_
      refine x_if_neN C 25 dX8_turnOf_20 (by decide) (by omega) (fun c20 => ?_) (fun c20 => ?_)
      · skip
        refine x_iload_n C (i := 2) dX8_turnOf_25 rfl rfl ?_
        refine x_iconst C (nI 1) dX8_turnOf_26 rfl ?_
        refine x_icmp_neN C 34 dX8_turnOf_27 (by decide) (by omega) (by omega) (fun c27 => ?_) (fun c27 => ?_)
        · skip
          refine x_iconst C (nI 0) dX8_turnOf_34 rfl ?_
          refine x_iret C xr xk dX8_turnOf_35 ?_
          exact hK _ _ ⟨by unfold z_tf; first | (rw [if_pos (show ax = 3 ∨ ax = 4 from Or.inl c2)]; first | rw [if_pos c20] | rw [if_neg c20, if_pos c27] | rw [if_neg c20, if_neg c27]) | (rw [if_pos (show ax = 3 ∨ ax = 4 from Or.inr c7)]; first | rw [if_pos c20] | rw [if_neg c20, if_pos c27] | rw [if_neg c20, if_neg c27]) | (rw [if_neg (show ¬ (ax = 3 ∨ ax = 4) from fun z => z.elim c2 c7)]; first | rw [if_pos c20] | rw [if_neg c20, if_pos c27] | rw [if_neg c20, if_neg c27]), rfl⟩
        · skip
          refine x_iconst C (nI 2) dX8_turnOf_30 rfl ?_
          refine x_goto C 35 dX8_turnOf_31 (by decide) ?_
          refine x_iret C xr xk dX8_turnOf_35 ?_
          exact hK _ _ ⟨by unfold z_tf; first | (rw [if_pos (show ax = 3 ∨ ax = 4 from Or.inl c2)]; first | rw [if_pos c20] | rw [if_neg c20, if_pos c27] | rw [if_neg c20, if_neg c27]) | (rw [if_pos (show ax = 3 ∨ ax = 4 from Or.inr c7)]; first | rw [if_pos c20] | rw [if_neg c20, if_pos c27] | rw [if_neg c20, if_neg c27]) | (rw [if_neg (show ¬ (ax = 3 ∨ ax = 4) from fun z => z.elim c2 c7)]; first | rw [if_pos c20] | rw [if_neg c20, if_pos c27] | rw [if_neg c20, if_neg c27]), rfl⟩
      · skip
        refine x_iconst C (nI 1) dX8_turnOf_23 rfl ?_
        refine x_iret C xr xk dX8_turnOf_24 ?_
        exact hK _ _ ⟨by unfold z_tf; first | (rw [if_pos (show ax = 3 ∨ ax = 4 from Or.inl c2)]; first | rw [if_pos c20] | rw [if_neg c20, if_pos c27] | rw [if_neg c20, if_neg c27]) | (rw [if_pos (show ax = 3 ∨ ax = 4 from Or.inr c7)]; first | rw [if_pos c20] | rw [if_neg c20, if_pos c27] | rw [if_neg c20, if_neg c27]) | (rw [if_neg (show ¬ (ax = 3 ∨ ax = 4) from fun z => z.elim c2 c7)]; first | rw [if_pos c20] | rw [if_neg c20, if_pos c27] | rw [if_neg c20, if_neg c27]), rfl⟩
    · skip
      refine x_aload_n C (i := 0) dX8_turnOf_10 rfl rfl ?_
      refine x_getI C fi_8_6 kf_X8_35 dX8_turnOf_11 ?_
      refine x_topI (y := nI be) hbe ?_
      refine x_goto C 18 dX8_turnOf_14 (by decide) ?_
      refine x_istore_n C (i := 2) dX8_turnOf_18 rfl (by decide) ?_
      refine x_iload_n C (i := 2) dX8_turnOf_19 rfl rfl ?_
      refine x_if_neN C 25 dX8_turnOf_20 (by decide) (by omega) (fun c20 => ?_) (fun c20 => ?_)
      · skip
        refine x_iload_n C (i := 2) dX8_turnOf_25 rfl rfl ?_
        refine x_iconst C (nI 1) dX8_turnOf_26 rfl ?_
        refine x_icmp_neN C 34 dX8_turnOf_27 (by decide) (by omega) (by omega) (fun c27 => ?_) (fun c27 => ?_)
        · skip
          refine x_iconst C (nI 0) dX8_turnOf_34 rfl ?_
          refine x_iret C xr xk dX8_turnOf_35 ?_
          exact hK _ _ ⟨by unfold z_tf; first | (rw [if_pos (show ax = 3 ∨ ax = 4 from Or.inl c2)]; first | rw [if_pos c20] | rw [if_neg c20, if_pos c27] | rw [if_neg c20, if_neg c27]) | (rw [if_pos (show ax = 3 ∨ ax = 4 from Or.inr c7)]; first | rw [if_pos c20] | rw [if_neg c20, if_pos c27] | rw [if_neg c20, if_neg c27]) | (rw [if_neg (show ¬ (ax = 3 ∨ ax = 4) from fun z => z.elim c2 c7)]; first | rw [if_pos c20] | rw [if_neg c20, if_pos c27] | rw [if_neg c20, if_neg c27]), rfl⟩
        · skip
          refine x_iconst C (nI 2) dX8_turnOf_30 rfl ?_
          refine x_goto C 35 dX8_turnOf_31 (by decide) ?_
          refine x_iret C xr xk dX8_turnOf_35 ?_
          exact hK _ _ ⟨by unfold z_tf; first | (rw [if_pos (show ax = 3 ∨ ax = 4 from Or.inl c2)]; first | rw [if_pos c20] | rw [if_neg c20, if_pos c27] | rw [if_neg c20, if_neg c27]) | (rw [if_pos (show ax = 3 ∨ ax = 4 from Or.inr c7)]; first | rw [if_pos c20] | rw [if_neg c20, if_pos c27] | rw [if_neg c20, if_neg c27]) | (rw [if_neg (show ¬ (ax = 3 ∨ ax = 4) from fun z => z.elim c2 c7)]; first | rw [if_pos c20] | rw [if_neg c20, if_pos c27] | rw [if_neg c20, if_neg c27]), rfl⟩
      · skip
        refine x_iconst C (nI 1) dX8_turnOf_23 rfl ?_
        refine x_iret C xr xk dX8_turnOf_24 ?_
        exact hK _ _ ⟨by unfold z_tf; first | (rw [if_pos (show ax = 3 ∨ ax = 4 from Or.inl c2)]; first | rw [if_pos c20] | rw [if_neg c20, if_pos c27] | rw [if_neg c20, if_neg c27]) | (rw [if_pos (show ax = 3 ∨ ax = 4 from Or.inr c7)]; first | rw [if_pos c20] | rw [if_neg c20, if_pos c27] | rw [if_neg c20, if_neg c27]) | (rw [if_neg (show ¬ (ax = 3 ∨ ax = 4) from fun z => z.elim c2 c7)]; first | rw [if_pos c20] | rw [if_neg c20, if_pos c27] | rw [if_neg c20, if_neg c27]), rfl⟩
theorem c_X8_turnOf (l : Launch) (Y : x_Y) (σ : x_S) (ax be : Nat) (hax9 : ax ≤ 6) (hbe : σ.1 8 6 = nI be) (hbe9 : be < 3) : x_M l yX8_turnOf cX8_turnOf 3 (some .int) 0 Y [.ref 8, .int (nI ax)] σ (fun r τ => r = some (.int (nI (z_tf ax be))) ∧ τ = σ) := c_X8_turnOf_K l Y σ ax be hax9 hbe hbe9 _ (fun _ _ h => h)
set_option maxRecDepth 100000 in
set_option maxHeartbeats 200000 in
theorem c_X8_setRotation_K (l : Launch) (Y : x_Y) (σ : x_S) (fr tn : Nat) (s : Int32) (hfr : fr ≤ 63) (htn : tn < 3) (g9 : Nat → Int32) (h9 : σ.1 9 = g9) (K : Option Value → x_S → Prop) (hK : ∀ (r : Option Value) (τ : x_S), (∃ g, (r = none ∧ τ = x_st σ [] [(9, g)] []) ∧ z_h9 g (z_rl fr tn s) [nI 0, nI 0, nI 0]) → K r τ) : x_M l yX8_setRotation cX8_setRotation 7 none 0 Y [.ref 8, .int (nI fr), .int (nI tn), .int s] σ K := by
  refine x_start (by decide) (Nat.le_of_ble_eq_true rfl) ?_
  intro xp xe xs xm xg xb xt xc C xr xk
  refine x_sig (σ' := x_st σ [] [(9, g9)] []) (x_st_in trivial (And.intro h9 trivial) trivial) ?_
  refine x_iconst C (nI 0) dX8_setRotation_0 rfl ?_
  refine x_istore C (i := 4) dX8_setRotation_1 (by decide) ?_
  have lp3 : ∀ (m3 : Nat) (a : Nat) (g : Nat → Int32), (3 - a) = m3 → (a ≤ 3) → (z_rp g fr tn s a 0) → ∀ L : x_Lo, L.1 0 = some (.ref 8) → L.1 1 = some (.int (nI fr)) → L.1 2 = some (.int (nI tn)) → L.1 3 = some (.int s) → L.1 4 = some (.int (nI a)) → x_W xp l xe (x_rm 0) xs xm xg xb xt xc 7 Y 0 0 (MQ xb (x_Q Y K) xg xs 0 0 (x_A Y)) 3 L [] (x_st σ [] [(9, g)] []) := by
    intro m3
    induction m3 using Nat.strongRecOn with
    | _ m3 ih3 =>
      intro a g hm3 ha hr L xl0 xl1 xl2 xl3 xl4
      refine x_iload C (i := 4) dX8_setRotation_3 xl4 ?_
      refine x_iconst C (nI 3) dX8_setRotation_5 rfl ?_
      refine x_icmp_geN C 69 dX8_setRotation_6 (by decide) (by omega) (by omega) (fun c6 => ?_) (fun c6 => ?_)
      · skip
        have c6' := Nat.not_lt.mpr c6
        obtain rfl : a = 3 := by omega
        refine x_bipush C (nI 9) dX8_setRotation_69 rfl ?_
        refine x_istore C (i := 4) dX8_setRotation_71 (by decide) ?_
        have lp73 : ∀ (m73 : Nat) (i : Nat) (gz : Nat → Int32), (12 - i) = m73 → (i ≤ 12) → (9 ≤ i) → (∀ t, t < 9 → gz t = g t) → (∀ j, 9 ≤ j → j < i → gz j = nI 0) → ∀ L : x_Lo, L.1 0 = some (.ref 8) → L.1 4 = some (.int (nI i)) → x_W xp l xe (x_rm 0) xs xm xg xb xt xc 7 Y 0 0 (MQ xb (x_Q Y K) xg xs 0 0 (x_A Y)) 73 L [] (x_st σ [] [(9, gz)] []) := by
          intro m73
          induction m73 using Nat.strongRecOn with
          | _ m73 ih73 =>
            intro i gz hm73 hi hi9 hz1 hz2 L xl0 xl4
            refine x_iload C (i := 4) dX8_setRotation_73 xl4 ?_
            refine x_bipush C (nI 12) dX8_setRotation_75 rfl ?_
            refine x_icmp_geN C 94 dX8_setRotation_77 (by decide) (by omega) (by omega) (fun c77 => ?_) (fun c77 => ?_)
            · skip
              have c77' := Nat.not_lt.mpr c77
              obtain rfl : i = 12 := by omega
              refine x_vret C xr xk dX8_setRotation_94 ?_
              exact hK _ _ ⟨_, ⟨rfl, rfl⟩, fun t h => (hz1 t h).trans (z_rp_e htn hr t h), fun j h => by
                rw [hz2 (9 + j) (by omega) (by omega)]
                rcases (show j = 0 ∨ j = 1 ∨ j = 2 by omega) with z | z | z <;> subst z <;> rfl⟩
            · skip
              have c77' := Nat.not_le.mpr c77
              refine x_aload_n C (i := 0) dX8_setRotation_80 rfl xl0 ?_
              refine x_getR C fr_8_2 kf_X8_11 dX8_setRotation_81 ?_
              refine x_iload C (i := 4) dX8_setRotation_84 xl4 ?_
              refine x_iconst C (nI 0) dX8_setRotation_86 rfl ?_
              refine x_iastN C (by decide) rfl (by decide) dX8_setRotation_87 (by omega) ?_
              refine x_sig (σ' := x_st σ [] [(9, upd gz i (nI 0))] []) (x_st_ua rfl) ?_
              refine x_iincN C (i := 4) (b := 1) dX8_setRotation_88 xl4 rfl (by decide) ?_
              refine x_goto C 73 dX8_setRotation_91 (by decide) ?_
              exact ih73 _ (by omega) (i + 1) (upd gz i (nI 0)) rfl (by omega) (by omega) (fun t h => by rw [pk_un (by omega)]; exact hz1 t h) (fun j h h2 => by
                    by_cases e9 : j = i
                    · subst e9; rw [pk_us]
                    · rw [pk_un e9]; exact hz2 j h (by omega)) _ xl0 rfl
        exact lp73 _ 9 g rfl (by decide) (by decide) (fun _ _ => rfl) (fun j h h2 => absurd h2 (by omega)) _ xl0 rfl
      · skip
        have c6' := Nat.not_le.mpr c6
        refine x_iconst C (nI 0) dX8_setRotation_9 rfl ?_
        refine x_istore C (i := 5) dX8_setRotation_10 (by decide) ?_
        have lp12 : ∀ (m12 : Nat) (e : Nat) (gg : Nat → Int32), (3 - e) = m12 → (e ≤ 3) → (z_rp gg fr tn s a e) → ∀ L : x_Lo, L.1 0 = some (.ref 8) → L.1 1 = some (.int (nI fr)) → L.1 2 = some (.int (nI tn)) → L.1 3 = some (.int s) → L.1 4 = some (.int (nI a)) → L.1 5 = some (.int (nI e)) → x_W xp l xe (x_rm 0) xs xm xg xb xt xc 7 Y 0 0 (MQ xb (x_Q Y K) xg xs 0 0 (x_A Y)) 12 L [] (x_st σ [] [(9, gg)] []) := by
          intro m12
          induction m12 using Nat.strongRecOn with
          | _ m12 ih12 =>
            intro e gg hm12 he hr2 L xl0 xl1 xl2 xl3 xl4 xl5
            refine x_iload C (i := 5) dX8_setRotation_12 xl5 ?_
            refine x_iconst C (nI 3) dX8_setRotation_14 rfl ?_
            refine x_icmp_geN C 63 dX8_setRotation_15 (by decide) (by omega) (by omega) (fun c15 => ?_) (fun c15 => ?_)
            · skip
              have c15' := Nat.not_lt.mpr c15
              obtain rfl : e = 3 := by omega
              refine x_iincN C (i := 4) (b := 1) dX8_setRotation_63 xl4 rfl (by decide) ?_
              refine x_goto C 3 dX8_setRotation_66 (by decide) ?_
              exact ih3 _ (by omega) (a + 1) gg rfl (by omega) (z_rp_n hr2) _ xl0 xl1 xl2 xl3 rfl
            · skip
              have c15' := Nat.not_le.mpr c15
              refine x_iload C (i := 4) dX8_setRotation_18 xl4 ?_
              refine x_iload_n C (i := 2) dX8_setRotation_20 rfl xl2 ?_
              refine x_iaddN C dX8_setRotation_21 ?_
              refine x_iconst C (nI 3) dX8_setRotation_22 rfl ?_
              refine x_iremN C dX8_setRotation_23 (by omega) (by omega) (by omega) ?_
              refine x_iconst C (nI 3) dX8_setRotation_24 rfl ?_
              refine x_imulN C dX8_setRotation_25 ?_
              refine x_iload C (i := 5) dX8_setRotation_26 xl5 ?_
              refine x_iload_n C (i := 2) dX8_setRotation_28 rfl xl2 ?_
              refine x_iaddN C dX8_setRotation_29 ?_
              refine x_iconst C (nI 3) dX8_setRotation_30 rfl ?_
              refine x_iremN C dX8_setRotation_31 (by omega) (by omega) (by omega) ?_
              have hta := z_ta_lt tn a e
              refine x_iaddN C dX8_setRotation_32 ?_
              refine x_topI (y := nI (z_ta tn a e)) rfl ?_
              refine x_istore C (i := 6) dX8_setRotation_33 (by decide) ?_
              refine x_aload_n C (i := 0) dX8_setRotation_35 rfl xl0 ?_
              refine x_getR C fr_8_2 kf_X8_11 dX8_setRotation_36 ?_
              refine x_iload C (i := 6) dX8_setRotation_39 rfl ?_
              refine x_iload_n C (i := 3) dX8_setRotation_41 rfl xl3 ?_
              refine x_gets64 C kw_X8_112 dX8_setRotation_42 ?_
              refine x_iload_n C (i := 1) dX8_setRotation_45 rfl xl1 ?_
              refine x_iload C (i := 4) dX8_setRotation_46 xl4 ?_
              refine x_iconst C (nI 3) dX8_setRotation_48 rfl ?_
              refine x_imulN C dX8_setRotation_49 ?_
              refine x_iaddN C dX8_setRotation_50 ?_
              refine x_iload C (i := 5) dX8_setRotation_51 xl5 ?_
              refine x_iaddN C dX8_setRotation_53 ?_
              refine x_tld64N C dX8_setRotation_54 (by omega) ?_
              refine x_imul C dX8_setRotation_55 ?_
              refine x_iastN C (by decide) rfl (by decide) dX8_setRotation_56 (by omega) ?_
              refine x_sig (σ' := x_st σ [] [(9, upd gg (z_ta tn a e) (s * (x_rots.getD (fr + (a * 3) + e) 0)))] []) (x_st_ua rfl) ?_
              refine x_iincN C (i := 5) (b := 1) dX8_setRotation_57 xl5 rfl (by decide) ?_
              refine x_goto C 12 dX8_setRotation_60 (by decide) ?_
              exact ih12 _ (by omega) (e + 1) (upd gg (z_ta tn a e) (s * (x_rots.getD (fr + (a * 3) + e) 0))) rfl (by omega) (z_rp_s htn (by omega) (by omega) hr2) _ xl0 xl1 xl2 xl3 xl4 rfl
        exact lp12 _ 0 g rfl (Nat.zero_le _) hr _ xl0 xl1 xl2 xl3 xl4 rfl
  exact lp3 _ 0 g9 rfl (Nat.zero_le _) (fun c d _ _ h => absurd h (by omega)) _ rfl rfl rfl rfl rfl
theorem c_X8_setRotation (l : Launch) (Y : x_Y) (σ : x_S) (fr tn : Nat) (s : Int32) (hfr : fr ≤ 63) (htn : tn < 3) (g9 : Nat → Int32) (h9 : σ.1 9 = g9) : x_M l yX8_setRotation cX8_setRotation 7 none 0 Y [.ref 8, .int (nI fr), .int (nI tn), .int s] σ (fun r τ => ∃ g, (r = none ∧ τ = x_st σ [] [(9, g)] []) ∧ z_h9 g (z_rl fr tn s) [nI 0, nI 0, nI 0]) := c_X8_setRotation_K l Y σ fr tn s hfr htn g9 h9 _ (fun _ _ h => h)
set_option maxRecDepth 100000 in
set_option maxHeartbeats 200000 in
theorem c_X8_shiftAlong_K (l : Launch) (Y : x_Y) (σ : x_S) (ax e : Nat) (hax : ax < 3) (he : e < 12) (g9 : Nat → Int32) (h9 : σ.1 9 = g9) (u v w : Nat) (hu : u < 12) (hv : v < 12) (hw : w < 12) (hs : z_hs g9 u v w) (K : Option Value → x_S → Prop) (hK : ∀ (r : Option Value) (τ : x_S), (∃ g, (r = none ∧ τ = x_st σ [] [(9, g)] []) ∧ (∀ t, t < 9 → g t = g9 t) ∧ z_hs g ((u + (if ax = 0 then e else 0)) % 12) ((v + (if ax = 1 then e else 0)) % 12) ((w + (if ax = 2 then e else 0)) % 12)) → K r τ) : x_M l yX8_shiftAlong cX8_shiftAlong 3 none 0 Y [.ref 8, .int (nI ax), .int (nI e)] σ K := by
  refine x_start (by decide) (Nat.le_of_ble_eq_true rfl) ?_
  intro xp xe xs xm xg xb xt xc C xr xk
  refine x_sig (σ' := x_st σ [] [(9, g9)] []) (x_st_in trivial (And.intro h9 trivial) trivial) ?_
  rcases (show ax = 0 ∨ ax = 1 ∨ ax = 2 by omega) with hx | hx | hx
  · skip
    subst hx
    refine x_iload_n C (i := 1) dX8_shiftAlong_0 rfl rfl ?_
    refine x_if_ltN C 32 dX8_shiftAlong_1 (by decide) (by omega) ?_
    refine x_iload_n C (i := 1) dX8_shiftAlong_4 rfl rfl ?_
    refine x_iconst C (nI 2) dX8_shiftAlong_5 rfl ?_
    refine x_icmp_gtN C 32 dX8_shiftAlong_6 (by decide) (by omega) (by omega) (fun c6 => absurd c6 (by decide)) (fun c6 => ?_)
    refine x_aload_n C (i := 0) dX8_shiftAlong_9 rfl rfl ?_
    refine x_getR C fr_8_2 kf_X8_11 dX8_shiftAlong_10 ?_
    refine x_bipush C (nI 9) dX8_shiftAlong_13 rfl ?_
    refine x_iload_n C (i := 1) dX8_shiftAlong_15 rfl rfl ?_
    refine x_iaddN C dX8_shiftAlong_16 ?_
    refine x_aload_n C (i := 0) dX8_shiftAlong_17 rfl rfl ?_
    refine x_getR C fr_8_2 kf_X8_11 dX8_shiftAlong_18 ?_
    refine x_bipush C (nI 9) dX8_shiftAlong_21 rfl ?_
    refine x_iload_n C (i := 1) dX8_shiftAlong_23 rfl rfl ?_
    refine x_iaddN C dX8_shiftAlong_24 ?_
    refine x_ialdN C (by decide) rfl (by decide) dX8_shiftAlong_25 (by omega) ?_
    refine x_topI (y := g9 9) rfl ?_
    refine x_topI (y := nI u) hs.1 ?_
    refine x_iload_n C (i := 2) dX8_shiftAlong_26 rfl rfl ?_
    refine x_iaddN C dX8_shiftAlong_27 ?_
    refine x_bipush C (nI 12) dX8_shiftAlong_28 rfl ?_
    refine x_irem C dX8_shiftAlong_30 (by decide) ?_
    refine x_topI (y := nI ((u + e) % 12)) (z_rem_n (by omega)) ?_
    refine x_iastN C (by decide) rfl (by decide) dX8_shiftAlong_31 (by omega) ?_
    refine x_sig (σ' := x_st σ [] [(9, upd g9 9 (nI ((u + e) % 12)))] []) (x_st_ua rfl) ?_
    refine x_vret C xr xk dX8_shiftAlong_32 ?_
    exact hK _ _ ⟨_, ⟨rfl, rfl⟩, fun t h => pk_un (by omega), pk_us, (pk_un (by decide)).trans (by rw [hs.2.1, if_neg (by decide), Nat.add_zero, Nat.mod_eq_of_lt hv]), (pk_un (by decide)).trans (by rw [hs.2.2, if_neg (by decide), Nat.add_zero, Nat.mod_eq_of_lt hw])⟩
  · skip
    subst hx
    refine x_iload_n C (i := 1) dX8_shiftAlong_0 rfl rfl ?_
    refine x_if_ltN C 32 dX8_shiftAlong_1 (by decide) (by omega) ?_
    refine x_iload_n C (i := 1) dX8_shiftAlong_4 rfl rfl ?_
    refine x_iconst C (nI 2) dX8_shiftAlong_5 rfl ?_
    refine x_icmp_gtN C 32 dX8_shiftAlong_6 (by decide) (by omega) (by omega) (fun c6 => absurd c6 (by decide)) (fun c6 => ?_)
    refine x_aload_n C (i := 0) dX8_shiftAlong_9 rfl rfl ?_
    refine x_getR C fr_8_2 kf_X8_11 dX8_shiftAlong_10 ?_
    refine x_bipush C (nI 9) dX8_shiftAlong_13 rfl ?_
    refine x_iload_n C (i := 1) dX8_shiftAlong_15 rfl rfl ?_
    refine x_iaddN C dX8_shiftAlong_16 ?_
    refine x_aload_n C (i := 0) dX8_shiftAlong_17 rfl rfl ?_
    refine x_getR C fr_8_2 kf_X8_11 dX8_shiftAlong_18 ?_
    refine x_bipush C (nI 9) dX8_shiftAlong_21 rfl ?_
    refine x_iload_n C (i := 1) dX8_shiftAlong_23 rfl rfl ?_
    refine x_iaddN C dX8_shiftAlong_24 ?_
    refine x_ialdN C (by decide) rfl (by decide) dX8_shiftAlong_25 (by omega) ?_
    refine x_topI (y := g9 10) rfl ?_
    refine x_topI (y := nI v) hs.2.1 ?_
    refine x_iload_n C (i := 2) dX8_shiftAlong_26 rfl rfl ?_
    refine x_iaddN C dX8_shiftAlong_27 ?_
    refine x_bipush C (nI 12) dX8_shiftAlong_28 rfl ?_
    refine x_irem C dX8_shiftAlong_30 (by decide) ?_
    refine x_topI (y := nI ((v + e) % 12)) (z_rem_n (by omega)) ?_
    refine x_iastN C (by decide) rfl (by decide) dX8_shiftAlong_31 (by omega) ?_
    refine x_sig (σ' := x_st σ [] [(9, upd g9 10 (nI ((v + e) % 12)))] []) (x_st_ua rfl) ?_
    refine x_vret C xr xk dX8_shiftAlong_32 ?_
    exact hK _ _ ⟨_, ⟨rfl, rfl⟩, fun t h => pk_un (by omega), (pk_un (by decide)).trans (by rw [hs.1, if_neg (by decide), Nat.add_zero, Nat.mod_eq_of_lt hu]), pk_us, (pk_un (by decide)).trans (by rw [hs.2.2, if_neg (by decide), Nat.add_zero, Nat.mod_eq_of_lt hw])⟩
  · skip
    subst hx
    refine x_iload_n C (i := 1) dX8_shiftAlong_0 rfl rfl ?_
    refine x_if_ltN C 32 dX8_shiftAlong_1 (by decide) (by omega) ?_
    refine x_iload_n C (i := 1) dX8_shiftAlong_4 rfl rfl ?_
    refine x_iconst C (nI 2) dX8_shiftAlong_5 rfl ?_
    refine x_icmp_gtN C 32 dX8_shiftAlong_6 (by decide) (by omega) (by omega) (fun c6 => absurd c6 (by decide)) (fun c6 => ?_)
    refine x_aload_n C (i := 0) dX8_shiftAlong_9 rfl rfl ?_
    refine x_getR C fr_8_2 kf_X8_11 dX8_shiftAlong_10 ?_
    refine x_bipush C (nI 9) dX8_shiftAlong_13 rfl ?_
    refine x_iload_n C (i := 1) dX8_shiftAlong_15 rfl rfl ?_
    refine x_iaddN C dX8_shiftAlong_16 ?_
    refine x_aload_n C (i := 0) dX8_shiftAlong_17 rfl rfl ?_
    refine x_getR C fr_8_2 kf_X8_11 dX8_shiftAlong_18 ?_
    refine x_bipush C (nI 9) dX8_shiftAlong_21 rfl ?_
    refine x_iload_n C (i := 1) dX8_shiftAlong_23 rfl rfl ?_
    refine x_iaddN C dX8_shiftAlong_24 ?_
    refine x_ialdN C (by decide) rfl (by decide) dX8_shiftAlong_25 (by omega) ?_
    refine x_topI (y := g9 11) rfl ?_
    refine x_topI (y := nI w) hs.2.2 ?_
    refine x_iload_n C (i := 2) dX8_shiftAlong_26 rfl rfl ?_
    refine x_iaddN C dX8_shiftAlong_27 ?_
    refine x_bipush C (nI 12) dX8_shiftAlong_28 rfl ?_
    refine x_irem C dX8_shiftAlong_30 (by decide) ?_
    refine x_topI (y := nI ((w + e) % 12)) (z_rem_n (by omega)) ?_
    refine x_iastN C (by decide) rfl (by decide) dX8_shiftAlong_31 (by omega) ?_
    refine x_sig (σ' := x_st σ [] [(9, upd g9 11 (nI ((w + e) % 12)))] []) (x_st_ua rfl) ?_
    refine x_vret C xr xk dX8_shiftAlong_32 ?_
    exact hK _ _ ⟨_, ⟨rfl, rfl⟩, fun t h => pk_un (by omega), (pk_un (by decide)).trans (by rw [hs.1, if_neg (by decide), Nat.add_zero, Nat.mod_eq_of_lt hu]), (pk_un (by decide)).trans (by rw [hs.2.1, if_neg (by decide), Nat.add_zero, Nat.mod_eq_of_lt hv]), pk_us⟩
theorem c_X8_shiftAlong (l : Launch) (Y : x_Y) (σ : x_S) (ax e : Nat) (hax : ax < 3) (he : e < 12) (g9 : Nat → Int32) (h9 : σ.1 9 = g9) (u v w : Nat) (hu : u < 12) (hv : v < 12) (hw : w < 12) (hs : z_hs g9 u v w) : x_M l yX8_shiftAlong cX8_shiftAlong 3 none 0 Y [.ref 8, .int (nI ax), .int (nI e)] σ (fun r τ => ∃ g, (r = none ∧ τ = x_st σ [] [(9, g)] []) ∧ (∀ t, t < 9 → g t = g9 t) ∧ z_hs g ((u + (if ax = 0 then e else 0)) % 12) ((v + (if ax = 1 then e else 0)) % 12) ((w + (if ax = 2 then e else 0)) % 12)) := c_X8_shiftAlong_K l Y σ ax e hax he g9 h9 u v w hu hv hw hs _ (fun _ _ h => h)
set_option maxRecDepth 100000 in
set_option maxHeartbeats 200000 in
theorem c_X8_shift_K (l : Launch) (Y : x_Y) (σ : x_S) (x y z : Nat) (hx : x < 12) (hy : y < 12) (hz : z < 12) (g9 : Nat → Int32) (h9 : σ.1 9 = g9) (u v w : Nat) (hu : u < 12) (hv : v < 12) (hw : w < 12) (hs : z_hs g9 u v w) (K : Option Value → x_S → Prop) (hK : ∀ (r : Option Value) (τ : x_S), (∃ g, (r = some (.int (x_z true)) ∧ τ = x_st σ [] [(9, g)] []) ∧ (∀ t, t < 9 → g t = g9 t) ∧ z_hs g ((u + x) % 12) ((v + y) % 12) ((w + z) % 12)) → K r τ) : x_M l yX8_shift cX8_shift 4 (some .boolean) 1 Y [.ref 8, .int (nI x), .int (nI y), .int (nI z)] σ K := by
  refine x_start (by decide) (Nat.le_of_ble_eq_true rfl) ?_
  intro xp xe xs xm xg xb xt xc C xr xk
  refine x_sig (σ' := x_st σ [] [(9, g9)] []) (x_st_in trivial (And.intro h9 trivial) trivial) ?_
  refine x_aload_n C (i := 0) dX8_shift_0 rfl rfl ?_
  refine x_iconst C (nI 0) dX8_shift_1 rfl ?_
  refine x_iload_n C (i := 1) dX8_shift_2 rfl rfl ?_
  have hM := c_X8_shiftAlong l Y (x_st σ [] [(9, g9)] []) 0 x (by omega) (by omega) g9 rfl u v w hu hv hw hs
  refine x_callV C (as := [.int (nI 0), .int (nI x)]) (st := []) (hM) kb_X8_shiftAlong kv_X8_122 dX8_shift_3 rfl rfl (Nat.le_of_ble_eq_true rfl) ⟨by decide, by decide⟩ ⟨by decide, by decide⟩ ko_8 ?_
  clear hM
  rintro _ _ ⟨ga, ⟨rfl, rfl⟩, ha1, ha2⟩
  refine x_sig (σ' := x_st σ [] [(9, ga)] []) (x_st_st rfl) ?_
  refine x_aload_n C (i := 0) dX8_shift_6 rfl rfl ?_
  refine x_iconst C (nI 1) dX8_shift_7 rfl ?_
  refine x_iload_n C (i := 2) dX8_shift_8 rfl rfl ?_
  have hM := c_X8_shiftAlong l Y (x_st σ [] [(9, ga)] []) 1 y (by omega) (by omega) ga rfl ((u + (if 0 = 0 then x else 0)) % 12) ((v + (if 0 = 1 then x else 0)) % 12) ((w + (if 0 = 2 then x else 0)) % 12) (Nat.mod_lt _ (by decide)) (Nat.mod_lt _ (by decide)) (Nat.mod_lt _ (by decide)) ha2
  refine x_callV C (as := [.int (nI 1), .int (nI y)]) (st := []) (hM) kb_X8_shiftAlong kv_X8_122 dX8_shift_9 rfl rfl (Nat.le_of_ble_eq_true rfl) ⟨by decide, by decide⟩ ⟨by decide, by decide⟩ ko_8 ?_
  clear hM
  rintro _ _ ⟨gb, ⟨rfl, rfl⟩, hb1, hb2⟩
  refine x_sig (σ' := x_st σ [] [(9, gb)] []) (x_st_st rfl) ?_
  refine x_aload_n C (i := 0) dX8_shift_12 rfl rfl ?_
  refine x_iconst C (nI 2) dX8_shift_13 rfl ?_
  refine x_iload_n C (i := 3) dX8_shift_14 rfl rfl ?_
  have hM := c_X8_shiftAlong l Y (x_st σ [] [(9, gb)] []) 2 z (by omega) (by omega) gb rfl ((((u + (if 0 = 0 then x else 0)) % 12) + (if 1 = 0 then y else 0)) % 12) ((((v + (if 0 = 1 then x else 0)) % 12) + (if 1 = 1 then y else 0)) % 12) ((((w + (if 0 = 2 then x else 0)) % 12) + (if 1 = 2 then y else 0)) % 12) (Nat.mod_lt _ (by decide)) (Nat.mod_lt _ (by decide)) (Nat.mod_lt _ (by decide)) hb2
  refine x_callV C (as := [.int (nI 2), .int (nI z)]) (st := []) (hM) kb_X8_shiftAlong kv_X8_122 dX8_shift_15 rfl rfl (Nat.le_of_ble_eq_true rfl) ⟨by decide, by decide⟩ ⟨by decide, by decide⟩ ko_8 ?_
  clear hM
  rintro _ _ ⟨gc, ⟨rfl, rfl⟩, hc1, hc2⟩
  refine x_sig (σ' := x_st σ [] [(9, gc)] []) (x_st_st rfl) ?_
  refine x_iconst C (nI 1) dX8_shift_18 rfl ?_
  refine x_zret C xr xk dX8_shift_19 rfl ?_
  exact hK _ _ ⟨_, ⟨rfl, rfl⟩, fun t h => (hc1 t h).trans ((hb1 t h).trans (ha1 t h)), z_hs_eq hc2 (by simp) (by simp) (by simp)⟩
theorem c_X8_shift (l : Launch) (Y : x_Y) (σ : x_S) (x y z : Nat) (hx : x < 12) (hy : y < 12) (hz : z < 12) (g9 : Nat → Int32) (h9 : σ.1 9 = g9) (u v w : Nat) (hu : u < 12) (hv : v < 12) (hw : w < 12) (hs : z_hs g9 u v w) : x_M l yX8_shift cX8_shift 4 (some .boolean) 1 Y [.ref 8, .int (nI x), .int (nI y), .int (nI z)] σ (fun r τ => ∃ g, (r = some (.int (x_z true)) ∧ τ = x_st σ [] [(9, g)] []) ∧ (∀ t, t < 9 → g t = g9 t) ∧ z_hs g ((u + x) % 12) ((v + y) % 12) ((w + z) % 12)) := c_X8_shift_K l Y σ x y z hx hy hz g9 h9 u v w hu hv hw hs _ (fun _ _ h => h)
set_option maxRecDepth 100000 in
set_option maxHeartbeats 200000 in
theorem c_X8_shiftByLetter_K (l : Launch) (Y : x_Y) (σ : x_S) (c : Int32) (g9 : Nat → Int32) (h9 : σ.1 9 = g9) (u v w : Nat) (hu : u < 12) (hv : v < 12) (hw : w < 12) (hs : z_hs g9 u v w) (K : Option Value → x_S → Prop) (hK : ∀ (r : Option Value) (τ : x_S), (((x_l3 c).2.2.2 = true ∧ ∃ g, (r = some (.int (x_z true)) ∧ τ = x_st σ [] [(9, g)] []) ∧ (∀ t, t < 9 → g t = g9 t) ∧ z_hs g ((u + (x_l3 c).1) % 12) ((v + (x_l3 c).2.1) % 12) ((w + (x_l3 c).2.2.1) % 12)) ∨ ((x_l3 c).2.2.2 = false ∧ r = some (.int (x_z false)) ∧ τ = σ)) → K r τ) : x_M l yX8_shiftByLetter cX8_shiftByLetter 2 (some .boolean) 2 Y [.ref 8, .int c] σ K := by
  refine x_start (by decide) (Nat.le_of_ble_eq_true rfl) ?_
  intro xp xe xs xm xg xb xt xc C xr xk
  refine x_sig (σ' := x_st σ [] [(9, g9)] []) (x_st_in trivial (And.intro h9 trivial) trivial) ?_
  refine x_iload_n C (i := 1) dX8_shiftByLetter_0 rfl rfl ?_
  by_cases c1_97 : c = nI 97
  · skip
    refine x_topI c1_97 ?_
    refine x_tableIn C 108 dX8_shiftByLetter_1 (by decide) (by decide) rfl (by decide) ?_
    refine x_aload_n C (i := 0) dX8_shiftByLetter_108 rfl rfl ?_
    refine x_bipush C (nI 6) dX8_shiftByLetter_109 rfl ?_
    refine x_iconst C (nI 0) dX8_shiftByLetter_111 rfl ?_
    refine x_iconst C (nI 0) dX8_shiftByLetter_112 rfl ?_
    have hM := c_X8_shift l Y (x_st σ [] [(9, g9)] []) 6 0 0 (by decide) (by decide) (by decide) g9 rfl u v w hu hv hw hs
    refine x_callV C (as := [.int (nI 6), .int (nI 0), .int (nI 0)]) (st := []) (hM) kb_X8_shift kv_X8_78 dX8_shiftByLetter_113 rfl rfl (Nat.le_of_ble_eq_true rfl) ⟨by decide, by decide⟩ ⟨by decide, by decide⟩ ko_8 ?_
    clear hM
    rintro _ _ ⟨ga, ⟨rfl, rfl⟩, ha1, ha2⟩
    refine x_sig (σ' := x_st σ [] [(9, ga)] []) (x_st_st rfl) ?_
    refine x_zret C xr xk dX8_shiftByLetter_116 (x_z_n _) ?_
    exact hK _ _ (Or.inl ⟨by rw [c1_97]; decide, _, ⟨rfl, rfl⟩, ha1, by rw [c1_97]; exact ha2⟩)
  by_cases c1_98 : c = nI 98
  · skip
    refine x_topI c1_98 ?_
    refine x_tableIn C 117 dX8_shiftByLetter_1 (by decide) (by decide) rfl (by decide) ?_
    refine x_aload_n C (i := 0) dX8_shiftByLetter_117 rfl rfl ?_
    refine x_iconst C (nI 0) dX8_shiftByLetter_118 rfl ?_
    refine x_bipush C (nI 6) dX8_shiftByLetter_119 rfl ?_
    refine x_iconst C (nI 0) dX8_shiftByLetter_121 rfl ?_
    have hM := c_X8_shift l Y (x_st σ [] [(9, g9)] []) 0 6 0 (by decide) (by decide) (by decide) g9 rfl u v w hu hv hw hs
    refine x_callV C (as := [.int (nI 0), .int (nI 6), .int (nI 0)]) (st := []) (hM) kb_X8_shift kv_X8_78 dX8_shiftByLetter_122 rfl rfl (Nat.le_of_ble_eq_true rfl) ⟨by decide, by decide⟩ ⟨by decide, by decide⟩ ko_8 ?_
    clear hM
    rintro _ _ ⟨ga, ⟨rfl, rfl⟩, ha1, ha2⟩
    refine x_sig (σ' := x_st σ [] [(9, ga)] []) (x_st_st rfl) ?_
    refine x_zret C xr xk dX8_shiftByLetter_125 (x_z_n _) ?_
    exact hK _ _ (Or.inl ⟨by rw [c1_98]; decide, _, ⟨rfl, rfl⟩, ha1, by rw [c1_98]; exact ha2⟩)
  by_cases c1_99 : c = nI 99
  · skip
    refine x_topI c1_99 ?_
    refine x_tableIn C 126 dX8_shiftByLetter_1 (by decide) (by decide) rfl (by decide) ?_
    refine x_aload_n C (i := 0) dX8_shiftByLetter_126 rfl rfl ?_
    refine x_iconst C (nI 0) dX8_shiftByLetter_127 rfl ?_
    refine x_iconst C (nI 0) dX8_shiftByLetter_128 rfl ?_
    refine x_bipush C (nI 6) dX8_shiftByLetter_129 rfl ?_
    have hM := c_X8_shift l Y (x_st σ [] [(9, g9)] []) 0 0 6 (by decide) (by decide) (by decide) g9 rfl u v w hu hv hw hs
    refine x_callV C (as := [.int (nI 0), .int (nI 0), .int (nI 6)]) (st := []) (hM) kb_X8_shift kv_X8_78 dX8_shiftByLetter_131 rfl rfl (Nat.le_of_ble_eq_true rfl) ⟨by decide, by decide⟩ ⟨by decide, by decide⟩ ko_8 ?_
    clear hM
    rintro _ _ ⟨ga, ⟨rfl, rfl⟩, ha1, ha2⟩
    refine x_sig (σ' := x_st σ [] [(9, ga)] []) (x_st_st rfl) ?_
    refine x_zret C xr xk dX8_shiftByLetter_134 (x_z_n _) ?_
    exact hK _ _ (Or.inl ⟨by rw [c1_99]; decide, _, ⟨rfl, rfl⟩, ha1, by rw [c1_99]; exact ha2⟩)
  by_cases c1_100 : c = nI 100
  · skip
    refine x_topI c1_100 ?_
    refine x_tableIn C 170 dX8_shiftByLetter_1 (by decide) (by decide) rfl (by decide) ?_
    refine x_aload_n C (i := 0) dX8_shiftByLetter_170 rfl rfl ?_
    refine x_iconst C (nI 3) dX8_shiftByLetter_171 rfl ?_
    refine x_iconst C (nI 3) dX8_shiftByLetter_172 rfl ?_
    refine x_iconst C (nI 3) dX8_shiftByLetter_173 rfl ?_
    have hM := c_X8_shift l Y (x_st σ [] [(9, g9)] []) 3 3 3 (by decide) (by decide) (by decide) g9 rfl u v w hu hv hw hs
    refine x_callV C (as := [.int (nI 3), .int (nI 3), .int (nI 3)]) (st := []) (hM) kb_X8_shift kv_X8_78 dX8_shiftByLetter_174 rfl rfl (Nat.le_of_ble_eq_true rfl) ⟨by decide, by decide⟩ ⟨by decide, by decide⟩ ko_8 ?_
    clear hM
    rintro _ _ ⟨ga, ⟨rfl, rfl⟩, ha1, ha2⟩
    refine x_sig (σ' := x_st σ [] [(9, ga)] []) (x_st_st rfl) ?_
    refine x_zret C xr xk dX8_shiftByLetter_177 (x_z_n _) ?_
    exact hK _ _ (Or.inl ⟨by rw [c1_100]; decide, _, ⟨rfl, rfl⟩, ha1, by rw [c1_100]; exact ha2⟩)
  by_cases c1_110 : c = nI 110
  · skip
    refine x_topI c1_110 ?_
    refine x_tableIn C 135 dX8_shiftByLetter_1 (by decide) (by decide) rfl (by decide) ?_
    refine x_aload_n C (i := 0) dX8_shiftByLetter_135 rfl rfl ?_
    refine x_bipush C (nI 6) dX8_shiftByLetter_136 rfl ?_
    refine x_bipush C (nI 6) dX8_shiftByLetter_138 rfl ?_
    refine x_bipush C (nI 6) dX8_shiftByLetter_140 rfl ?_
    have hM := c_X8_shift l Y (x_st σ [] [(9, g9)] []) 6 6 6 (by decide) (by decide) (by decide) g9 rfl u v w hu hv hw hs
    refine x_callV C (as := [.int (nI 6), .int (nI 6), .int (nI 6)]) (st := []) (hM) kb_X8_shift kv_X8_78 dX8_shiftByLetter_142 rfl rfl (Nat.le_of_ble_eq_true rfl) ⟨by decide, by decide⟩ ⟨by decide, by decide⟩ ko_8 ?_
    clear hM
    rintro _ _ ⟨ga, ⟨rfl, rfl⟩, ha1, ha2⟩
    refine x_sig (σ' := x_st σ [] [(9, ga)] []) (x_st_st rfl) ?_
    refine x_zret C xr xk dX8_shiftByLetter_145 (x_z_n _) ?_
    exact hK _ _ (Or.inl ⟨by rw [c1_110]; decide, _, ⟨rfl, rfl⟩, ha1, by rw [c1_110]; exact ha2⟩)
  by_cases c1_117 : c = nI 117
  · skip
    refine x_topI c1_117 ?_
    refine x_tableIn C 146 dX8_shiftByLetter_1 (by decide) (by decide) rfl (by decide) ?_
    refine x_aload_n C (i := 0) dX8_shiftByLetter_146 rfl rfl ?_
    refine x_iconst C (nI 3) dX8_shiftByLetter_147 rfl ?_
    refine x_iconst C (nI 0) dX8_shiftByLetter_148 rfl ?_
    refine x_iconst C (nI 0) dX8_shiftByLetter_149 rfl ?_
    have hM := c_X8_shift l Y (x_st σ [] [(9, g9)] []) 3 0 0 (by decide) (by decide) (by decide) g9 rfl u v w hu hv hw hs
    refine x_callV C (as := [.int (nI 3), .int (nI 0), .int (nI 0)]) (st := []) (hM) kb_X8_shift kv_X8_78 dX8_shiftByLetter_150 rfl rfl (Nat.le_of_ble_eq_true rfl) ⟨by decide, by decide⟩ ⟨by decide, by decide⟩ ko_8 ?_
    clear hM
    rintro _ _ ⟨ga, ⟨rfl, rfl⟩, ha1, ha2⟩
    refine x_sig (σ' := x_st σ [] [(9, ga)] []) (x_st_st rfl) ?_
    refine x_zret C xr xk dX8_shiftByLetter_153 (x_z_n _) ?_
    exact hK _ _ (Or.inl ⟨by rw [c1_117]; decide, _, ⟨rfl, rfl⟩, ha1, by rw [c1_117]; exact ha2⟩)
  by_cases c1_118 : c = nI 118
  · skip
    refine x_topI c1_118 ?_
    refine x_tableIn C 154 dX8_shiftByLetter_1 (by decide) (by decide) rfl (by decide) ?_
    refine x_aload_n C (i := 0) dX8_shiftByLetter_154 rfl rfl ?_
    refine x_iconst C (nI 0) dX8_shiftByLetter_155 rfl ?_
    refine x_iconst C (nI 3) dX8_shiftByLetter_156 rfl ?_
    refine x_iconst C (nI 0) dX8_shiftByLetter_157 rfl ?_
    have hM := c_X8_shift l Y (x_st σ [] [(9, g9)] []) 0 3 0 (by decide) (by decide) (by decide) g9 rfl u v w hu hv hw hs
    refine x_callV C (as := [.int (nI 0), .int (nI 3), .int (nI 0)]) (st := []) (hM) kb_X8_shift kv_X8_78 dX8_shiftByLetter_158 rfl rfl (Nat.le_of_ble_eq_true rfl) ⟨by decide, by decide⟩ ⟨by decide, by decide⟩ ko_8 ?_
    clear hM
    rintro _ _ ⟨ga, ⟨rfl, rfl⟩, ha1, ha2⟩
    refine x_sig (σ' := x_st σ [] [(9, ga)] []) (x_st_st rfl) ?_
    refine x_zret C xr xk dX8_shiftByLetter_161 (x_z_n _) ?_
    exact hK _ _ (Or.inl ⟨by rw [c1_118]; decide, _, ⟨rfl, rfl⟩, ha1, by rw [c1_118]; exact ha2⟩)
  by_cases c1_119 : c = nI 119
  · skip
    refine x_topI c1_119 ?_
    refine x_tableIn C 162 dX8_shiftByLetter_1 (by decide) (by decide) rfl (by decide) ?_
    refine x_aload_n C (i := 0) dX8_shiftByLetter_162 rfl rfl ?_
    refine x_iconst C (nI 0) dX8_shiftByLetter_163 rfl ?_
    refine x_iconst C (nI 0) dX8_shiftByLetter_164 rfl ?_
    refine x_iconst C (nI 3) dX8_shiftByLetter_165 rfl ?_
    have hM := c_X8_shift l Y (x_st σ [] [(9, g9)] []) 0 0 3 (by decide) (by decide) (by decide) g9 rfl u v w hu hv hw hs
    refine x_callV C (as := [.int (nI 0), .int (nI 0), .int (nI 3)]) (st := []) (hM) kb_X8_shift kv_X8_78 dX8_shiftByLetter_166 rfl rfl (Nat.le_of_ble_eq_true rfl) ⟨by decide, by decide⟩ ⟨by decide, by decide⟩ ko_8 ?_
    clear hM
    rintro _ _ ⟨ga, ⟨rfl, rfl⟩, ha1, ha2⟩
    refine x_sig (σ' := x_st σ [] [(9, ga)] []) (x_st_st rfl) ?_
    refine x_zret C xr xk dX8_shiftByLetter_169 (x_z_n _) ?_
    exact hK _ _ (Or.inl ⟨by rw [c1_119]; decide, _, ⟨rfl, rfl⟩, ha1, by rw [c1_119]; exact ha2⟩)
  refine x_tdef C 178 dX8_shiftByLetter_1 (fun k9 hk9 hx9 => ?_) (by decide) ?_
  · have hk8 : k9 = 0 ∨ k9 = 1 ∨ k9 = 2 ∨ k9 = 3 ∨ k9 = 4 ∨ k9 = 5 ∨ k9 = 6 ∨ k9 = 7 ∨ k9 = 8 ∨ k9 = 9 ∨ k9 = 10 ∨ k9 = 11 ∨ k9 = 12 ∨ k9 = 13 ∨ k9 = 14 ∨ k9 = 15 ∨ k9 = 16 ∨ k9 = 17 ∨ k9 = 18 ∨ k9 = 19 ∨ k9 = 20 ∨ k9 = 21 ∨ k9 = 22 := by omega
    rcases hk8 with rfl | rfl | rfl | rfl | rfl | rfl | rfl | rfl | rfl | rfl | rfl | rfl | rfl | rfl | rfl | rfl | rfl | rfl | rfl | rfl | rfl | rfl | rfl
    · exact absurd (x_ofInt (n := 97) hx9 (by decide)) c1_97
    · exact absurd (x_ofInt (n := 98) hx9 (by decide)) c1_98
    · exact absurd (x_ofInt (n := 99) hx9 (by decide)) c1_99
    · exact absurd (x_ofInt (n := 100) hx9 (by decide)) c1_100
    · rfl
    · rfl
    · rfl
    · rfl
    · rfl
    · rfl
    · rfl
    · rfl
    · rfl
    · exact absurd (x_ofInt (n := 110) hx9 (by decide)) c1_110
    · rfl
    · rfl
    · rfl
    · rfl
    · rfl
    · rfl
    · exact absurd (x_ofInt (n := 117) hx9 (by decide)) c1_117
    · exact absurd (x_ofInt (n := 118) hx9 (by decide)) c1_118
    · exact absurd (x_ofInt (n := 119) hx9 (by decide)) c1_119
  refine x_iconst C (nI 0) dX8_shiftByLetter_178 rfl ?_
  refine x_zret C xr xk dX8_shiftByLetter_179 rfl ?_
  exact hK _ _ (Or.inr ⟨z_l3n c1_97 c1_98 c1_99 c1_100 c1_110 c1_117 c1_118 c1_119, rfl, (x_st_in (σ := σ) (F := []) (I := [(9, g9)]) (G := []) trivial (And.intro h9 trivial) trivial).symm⟩)
theorem c_X8_shiftByLetter (l : Launch) (Y : x_Y) (σ : x_S) (c : Int32) (g9 : Nat → Int32) (h9 : σ.1 9 = g9) (u v w : Nat) (hu : u < 12) (hv : v < 12) (hw : w < 12) (hs : z_hs g9 u v w) : x_M l yX8_shiftByLetter cX8_shiftByLetter 2 (some .boolean) 2 Y [.ref 8, .int c] σ (fun r τ => ((x_l3 c).2.2.2 = true ∧ ∃ g, (r = some (.int (x_z true)) ∧ τ = x_st σ [] [(9, g)] []) ∧ (∀ t, t < 9 → g t = g9 t) ∧ z_hs g ((u + (x_l3 c).1) % 12) ((v + (x_l3 c).2.1) % 12) ((w + (x_l3 c).2.2.1) % 12)) ∨ ((x_l3 c).2.2.2 = false ∧ r = some (.int (x_z false)) ∧ τ = σ)) := c_X8_shiftByLetter_K l Y σ c g9 h9 u v w hu hv hw hs _ (fun _ _ h => h)
set_option maxRecDepth 100000 in
set_option maxHeartbeats 200000 in
theorem c_X8_screwStep_K (l : Launch) (Y : x_Y) (σ : x_S) (n : Nat) (hn9 : n ≤ 6) (K : Option Value → x_S → Prop) (hK : ∀ (r : Option Value) (τ : x_S), (r = some (.int (nI (z_ss n))) ∧ τ = σ) → K r τ) : x_M l yX8_screwStep cX8_screwStep 1 (some .int) 0 Y [.int (nI n)] σ K := by
  refine x_start (by decide) (Nat.le_of_ble_eq_true rfl) ?_
  intro xp xe xs xm xg xb xt xc C xr xk
  refine x_iload_n C (i := 0) dX8_screwStep_0 rfl rfl ?_
  by_cases c1_3 : nI n = nI 3
  · skip
    refine x_topI c1_3 ?_
    refine x_tableIn C 32 dX8_screwStep_1 (by decide) (by decide) rfl (by decide) ?_
    refine x_iconst C (nI 4) dX8_screwStep_32 rfl ?_
    refine x_iret C xr xk dX8_screwStep_33 ?_
    exact hK _ _ ⟨by
      have f3 : n = 3 ↔ nI n = nI 3 := (nI_eq (by omega) (by decide)).symm
      have f4 : n = 4 ↔ nI n = nI 4 := (nI_eq (by omega) (by decide)).symm
      have f6 : n = 6 ↔ nI n = nI 6 := (nI_eq (by omega) (by decide)).symm
      unfold z_ss
      simp only [f3, f4, f6, *]
      rfl, rfl⟩
  by_cases c1_4 : nI n = nI 4
  · skip
    refine x_topI c1_4 ?_
    refine x_tableIn C 34 dX8_screwStep_1 (by decide) (by decide) rfl (by decide) ?_
    refine x_iconst C (nI 3) dX8_screwStep_34 rfl ?_
    refine x_iret C xr xk dX8_screwStep_35 ?_
    exact hK _ _ ⟨by
      have f3 : n = 3 ↔ nI n = nI 3 := (nI_eq (by omega) (by decide)).symm
      have f4 : n = 4 ↔ nI n = nI 4 := (nI_eq (by omega) (by decide)).symm
      have f6 : n = 6 ↔ nI n = nI 6 := (nI_eq (by omega) (by decide)).symm
      unfold z_ss
      simp only [f3, f4, f6, *]
      rfl, rfl⟩
  by_cases c1_6 : nI n = nI 6
  · skip
    refine x_topI c1_6 ?_
    refine x_tableIn C 36 dX8_screwStep_1 (by decide) (by decide) rfl (by decide) ?_
    refine x_iconst C (nI 2) dX8_screwStep_36 rfl ?_
    refine x_iret C xr xk dX8_screwStep_37 ?_
    exact hK _ _ ⟨by
      have f3 : n = 3 ↔ nI n = nI 3 := (nI_eq (by omega) (by decide)).symm
      have f4 : n = 4 ↔ nI n = nI 4 := (nI_eq (by omega) (by decide)).symm
      have f6 : n = 6 ↔ nI n = nI 6 := (nI_eq (by omega) (by decide)).symm
      unfold z_ss
      simp only [f3, f4, f6, *]
      rfl, rfl⟩
  refine x_tdef C 38 dX8_screwStep_1 (fun k9 hk9 hx9 => ?_) (by decide) ?_
  · have hk8 : k9 = 0 ∨ k9 = 1 ∨ k9 = 2 ∨ k9 = 3 := by omega
    rcases hk8 with rfl | rfl | rfl | rfl
    · exact absurd (x_ofInt (n := 3) hx9 (by decide)) c1_3
    · exact absurd (x_ofInt (n := 4) hx9 (by decide)) c1_4
    · rfl
    · exact absurd (x_ofInt (n := 6) hx9 (by decide)) c1_6
  refine x_iconst C (nI 0) dX8_screwStep_38 rfl ?_
  refine x_iret C xr xk dX8_screwStep_39 ?_
  exact hK _ _ ⟨by
    have f3 : n = 3 ↔ nI n = nI 3 := (nI_eq (by omega) (by decide)).symm
    have f4 : n = 4 ↔ nI n = nI 4 := (nI_eq (by omega) (by decide)).symm
    have f6 : n = 6 ↔ nI n = nI 6 := (nI_eq (by omega) (by decide)).symm
    unfold z_ss
    simp only [f3, f4, f6, *]
    rfl, rfl⟩
theorem c_X8_screwStep (l : Launch) (Y : x_Y) (σ : x_S) (n : Nat) (hn9 : n ≤ 6) : x_M l yX8_screwStep cX8_screwStep 1 (some .int) 0 Y [.int (nI n)] σ (fun r τ => r = some (.int (nI (z_ss n))) ∧ τ = σ) := c_X8_screwStep_K l Y σ n hn9 _ (fun _ _ h => h)
set_option maxRecDepth 100000 in
set_option maxHeartbeats 200000 in
theorem c_X8_isScrew_K (l : Launch) (Y : x_Y) (σ : x_S) (c : Int32) (n : Nat) (hn9 : n ≤ 6) (hn5 : n ≠ 5) (K : Option Value → x_S → Prop) (hK : ∀ (r : Option Value) (τ : x_S), (∃ q : Bool, (r = some (.int (x_z q)) ∧ τ = σ) ∧ (q = true ↔ 2 < n ∧ nI 49 ≤ c ∧ c < nI (48 + n))) → K r τ) : x_M l yX8_isScrew cX8_isScrew 2 (some .boolean) 1 Y [.int c, .int (nI n)] σ K := by
  refine x_start (by decide) (Nat.le_of_ble_eq_true rfl) ?_
  intro xp xe xs xm xg xb xt xc C xr xk
  refine x_iload_n C (i := 1) dX8_isScrew_0 rfl rfl ?_
  have hM := c_X8_screwStep l Y σ n (by omega)
  refine x_callS C (as := [.int (nI n)]) (st := []) (hM) kb_X8_screwStep ks_X8_119 dX8_isScrew_1 rfl rfl (Nat.le_of_ble_eq_true rfl) ⟨by decide, by decide⟩ ⟨by decide, by decide⟩ ?_
  clear hM
  intro r9 τ9 h9
  obtain ⟨rfl, h8⟩ := h9
  rw [h8]
  clear h8 τ9
  have hss := z_ss_p hn9 hn5
  have hss8 := z_ss_le n
  refine x_if_leN C 25 dX8_isScrew_4 (by decide) (by omega) (fun c4 => ?_) (fun c4 => ?_)
  · skip
    refine x_iconst C (nI 0) dX8_isScrew_25 rfl ?_
    refine x_zret C xr xk dX8_isScrew_26 rfl ?_
    exact hK _ _ ⟨false, ⟨rfl, rfl⟩, ⟨fun z => absurd z (by decide), fun z => by
      first
      | (have h9 := hss.mpr z.1; omega)
      | exact absurd z.2.1 c10'
      | exact absurd z.2.2 c18'⟩⟩
  · skip
    refine x_iload_n C (i := 0) dX8_isScrew_7 rfl rfl ?_
    refine x_bipush C (nI 49) dX8_isScrew_8 rfl ?_
    refine x_jcmp_lt C 25 dX8_isScrew_10 (by decide) (fun c10 => ?_) (fun c10 => ?_)
    · skip
      have c10' := Int32.not_le.mpr c10
      refine x_iconst C (nI 0) dX8_isScrew_25 rfl ?_
      refine x_zret C xr xk dX8_isScrew_26 rfl ?_
      exact hK _ _ ⟨false, ⟨rfl, rfl⟩, ⟨fun z => absurd z (by decide), fun z => by
        first
        | (have h9 := hss.mpr z.1; omega)
        | exact absurd z.2.1 c10'
        | exact absurd z.2.2 c18'⟩⟩
    · skip
      have c10' := Int32.not_lt.mpr c10
      refine x_iload_n C (i := 0) dX8_isScrew_13 rfl rfl ?_
      refine x_bipush C (nI 48) dX8_isScrew_14 rfl ?_
      refine x_iload_n C (i := 1) dX8_isScrew_16 rfl rfl ?_
      refine x_iaddN C dX8_isScrew_17 ?_
      refine x_jcmp_ge C 25 dX8_isScrew_18 (by decide) (fun c18 => ?_) (fun c18 => ?_)
      · skip
        have c18' := Int32.not_lt.mpr c18
        refine x_iconst C (nI 0) dX8_isScrew_25 rfl ?_
        refine x_zret C xr xk dX8_isScrew_26 rfl ?_
        exact hK _ _ ⟨false, ⟨rfl, rfl⟩, ⟨fun z => absurd z (by decide), fun z => by
          first
          | (have h9 := hss.mpr z.1; omega)
          | exact absurd z.2.1 c10'
          | exact absurd z.2.2 c18'⟩⟩
      · skip
        have c18' := Int32.not_le.mpr c18
        refine x_iconst C (nI 1) dX8_isScrew_21 rfl ?_
        refine x_goto C 26 dX8_isScrew_22 (by decide) ?_
        refine x_zret C xr xk dX8_isScrew_26 rfl ?_
        exact hK _ _ ⟨true, ⟨rfl, rfl⟩, ⟨fun _ => ⟨hss.mp (by omega), c10, c18⟩, fun _ => rfl⟩⟩
theorem c_X8_isScrew (l : Launch) (Y : x_Y) (σ : x_S) (c : Int32) (n : Nat) (hn9 : n ≤ 6) (hn5 : n ≠ 5) : x_M l yX8_isScrew cX8_isScrew 2 (some .boolean) 1 Y [.int c, .int (nI n)] σ (fun r τ => ∃ q : Bool, (r = some (.int (x_z q)) ∧ τ = σ) ∧ (q = true ↔ 2 < n ∧ nI 49 ≤ c ∧ c < nI (48 + n))) := c_X8_isScrew_K l Y σ c n hn9 hn5 _ (fun _ _ h => h)
