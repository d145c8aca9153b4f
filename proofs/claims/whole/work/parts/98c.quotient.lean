/-! ===== the quotient asked, known or not ===== -/
set_option maxRecDepth 100000 in
set_option maxHeartbeats 200000 in
theorem c_X11_digitsQ_K (l : Launch) (hl : l.stackTraces = false) (Y : x_Y) (σ : x_S) (w : Int32) (kn : Bool) (hkn : σ.1 29 4 = x_z kn) (v0 v1 : Nat) (hv0 : kn = true → z_is (σ.1 31) v0) (hv1 : kn = true → z_is (σ.1 33) v1) (K : Option Value → x_S → Prop) (X : String → x_S → Prop) (hK : ∀ (r : Option Value) (τ : x_S), (∃ wq, wq < 2 ∧ w = nI wq ∧ ((kn = false ∧ r = some (.int (-1)) ∧ τ = σ) ∨ (kn = true ∧ ∃ kd, (r = some (.int (nI kd)) ∧ τ = σ) ∧ y_nd (if wq = 0 then v0 else v1) kd))) → K r τ) (hX : ∀ (E : String) (τ : x_S), (¬ x_rng w 2 ∧ E = x_eIOB ∧ τ = σ) → X E τ) : x_MX l yX11_digits cX11_digits 2 (some .int) 7 1 Y [.ref 0, .int w] σ K X := by
  refine x_startX (by decide) (Nat.le_of_ble_eq_true rfl) ?_
  intro xp xe xs xm xg xb xt xc C xr xk xX
  refine x_iload_n C (i := 1) dX11_digits_0 rfl rfl ?_
  have hM := c_X11_requirePartOfQuotient l hl Y σ w
  refine x_callSX C xX xk (as := [.int w]) (st := []) (hM) kb_X11_requirePartOfQuotient ks_X11_183 dX11_digits_1 rfl rfl (Nat.le_of_ble_eq_true rfl) ⟨by decide, by decide⟩ ⟨by decide, by decide⟩ (fun _ _ h9 => hX _ _ h9) (by decide) (by decide) ?_
  clear hM
  intro r9 τ9 h9
  obtain ⟨hw, rfl, h8⟩ := h9
  rw [h8]
  clear h8 τ9
  obtain ⟨wq, hwq, rfl⟩ := hw
  refine x_aload_n C (i := 0) dX11_digits_4 rfl rfl ?_
  refine x_getR C fr_0_6 kf_X11_58 dX11_digits_5 ?_
  refine x_getR C fr_21_7 kf_X11_186 dX11_digits_8 ?_
  refine x_getI C fi_29_4 kf_X11_190 dX11_digits_11 ?_
  refine x_topI (y := x_z kn) hkn ?_
  refine x_if_neZ C 19 dX11_digits_14 (by decide) (fun c14 => ?_) (fun c14 => ?_)
  · skip
    refine x_aload_n C (i := 0) dX11_digits_19 rfl rfl ?_
    refine x_getR C fr_0_6 kf_X11_58 dX11_digits_20 ?_
    refine x_getR C fr_21_7 kf_X11_186 dX11_digits_23 ?_
    refine x_iload_n C (i := 1) dX11_digits_26 rfl rfl ?_
    have hM := c_X5_part l Y σ wq hwq
    refine x_callV C (as := [.int (nI wq)]) (st := []) (hM) kb_X5_part kv_X11_196 dX11_digits_27 rfl rfl (Nat.le_of_ble_eq_true rfl) ⟨by decide, by decide⟩ ⟨by decide, by decide⟩ ko_29 ?_
    clear hM
    intro r9 τ9 h9
    rcases h9 with ⟨hw0, rfl, h8⟩ | ⟨hw0, rfl, h8⟩ <;> rw [h8] <;> clear h8 τ9
    · skip
      have hM := c_X4_countDigits_30 l Y σ v0 _ rfl (hv0 c14)
      refine x_callV C (as := []) (st := []) (hM) kb_X4_countDigits kv_X11_199 dX11_digits_30 rfl rfl (Nat.le_of_ble_eq_true rfl) ⟨by decide, by decide⟩ ⟨by decide, by decide⟩ ko_30 ?_
      clear hM
      intro r9 τ9 h9
      obtain ⟨kd, ⟨rfl, h8⟩, hnd⟩ := h9
      rw [h8]
      clear h8 τ9
      refine x_retX (by decide) (by decide) ?_
      refine x_iret C xr xk dX11_digits_33 ?_
      exact hK _ _ ⟨wq, hwq, rfl, Or.inr ⟨c14, kd, ⟨rfl, rfl⟩, by first | (rw [if_pos hw0]; exact hnd) | (rw [if_neg (by omega)]; exact hnd)⟩⟩
    · skip
      have hM := c_X4_countDigits_32 l Y σ v1 _ rfl (hv1 c14)
      refine x_callV C (as := []) (st := []) (hM) kb_X4_countDigits kv_X11_199 dX11_digits_30 rfl rfl (Nat.le_of_ble_eq_true rfl) ⟨by decide, by decide⟩ ⟨by decide, by decide⟩ ko_32 ?_
      clear hM
      intro r9 τ9 h9
      obtain ⟨kd, ⟨rfl, h8⟩, hnd⟩ := h9
      rw [h8]
      clear h8 τ9
      refine x_retX (by decide) (by decide) ?_
      refine x_iret C xr xk dX11_digits_33 ?_
      exact hK _ _ ⟨wq, hwq, rfl, Or.inr ⟨c14, kd, ⟨rfl, rfl⟩, by first | (rw [if_pos hw0]; exact hnd) | (rw [if_neg (by omega)]; exact hnd)⟩⟩
  · skip
    refine x_iconst C (-1) dX11_digits_17 rfl ?_
    refine x_retX (by decide) (by decide) ?_
    refine x_iret C xr xk dX11_digits_18 ?_
    exact hK _ _ ⟨wq, hwq, rfl, Or.inl ⟨c14, rfl, rfl⟩⟩
theorem c_X11_digitsQ (l : Launch) (hl : l.stackTraces = false) (Y : x_Y) (σ : x_S) (w : Int32) (kn : Bool) (hkn : σ.1 29 4 = x_z kn) (v0 v1 : Nat) (hv0 : kn = true → z_is (σ.1 31) v0) (hv1 : kn = true → z_is (σ.1 33) v1) : x_MX l yX11_digits cX11_digits 2 (some .int) 7 1 Y [.ref 0, .int w] σ (fun r τ => ∃ wq, wq < 2 ∧ w = nI wq ∧ ((kn = false ∧ r = some (.int (-1)) ∧ τ = σ) ∨ (kn = true ∧ ∃ kd, (r = some (.int (nI kd)) ∧ τ = σ) ∧ y_nd (if wq = 0 then v0 else v1) kd))) (fun E τ => ¬ x_rng w 2 ∧ E = x_eIOB ∧ τ = σ) := c_X11_digitsQ_K l hl Y σ w kn hkn v0 v1 hv0 hv1 _ _ (fun _ _ h => h) (fun _ _ h => h)
set_option maxRecDepth 100000 in
set_option maxHeartbeats 200000 in
theorem c_X11_digitQ_K (l : Launch) (hl : l.stackTraces = false) (Y : x_Y) (σ : x_S) (w k : Int32) (kn : Bool) (hkn : σ.1 29 4 = x_z kn) (v0 v1 : Nat) (hv0 : kn = true → z_is (σ.1 31) v0) (hv1 : kn = true → z_is (σ.1 33) v1) (K : Option Value → x_S → Prop) (X : String → x_S → Prop) (hK : ∀ (r : Option Value) (τ : x_S), (∃ wq, wq < 2 ∧ w = nI wq ∧ ((kn = false ∧ r = some (.int (nI 0)) ∧ τ = σ) ∨ (kn = true ∧ ((∃ j, j < 10 ∧ k = nI j ∧ r = some (.int (nI (y_d32 (if wq = 0 then v0 else v1) j))) ∧ τ = σ) ∨ (¬ x_rng k 10 ∧ r = some (.int (nI 0)) ∧ τ = σ))))) → K r τ) (hX : ∀ (E : String) (τ : x_S), (¬ x_rng w 2 ∧ E = x_eIOB ∧ τ = σ) → X E τ) : x_MX l yX11_digit cX11_digit 3 (some .int) 7 1 Y [.ref 0, .int w, .int k] σ K X := by
  refine x_startX (by decide) (Nat.le_of_ble_eq_true rfl) ?_
  intro xp xe xs xm xg xb xt xc C xr xk xX
  refine x_iload_n C (i := 1) dX11_digit_0 rfl rfl ?_
  have hM := c_X11_requirePartOfQuotient l hl Y σ w
  refine x_callSX C xX xk (as := [.int w]) (st := []) (hM) kb_X11_requirePartOfQuotient ks_X11_183 dX11_digit_1 rfl rfl (Nat.le_of_ble_eq_true rfl) ⟨by decide, by decide⟩ ⟨by decide, by decide⟩ (fun _ _ h9 => hX _ _ h9) (by decide) (by decide) ?_
  clear hM
  intro r9 τ9 h9
  obtain ⟨hw, rfl, h8⟩ := h9
  rw [h8]
  clear h8 τ9
  obtain ⟨wq, hwq, rfl⟩ := hw
  refine x_aload_n C (i := 0) dX11_digit_4 rfl rfl ?_
  refine x_getR C fr_0_6 kf_X11_58 dX11_digit_5 ?_
  refine x_getR C fr_21_7 kf_X11_186 dX11_digit_8 ?_
  refine x_getI C fi_29_4 kf_X11_190 dX11_digit_11 ?_
  refine x_topI (y := x_z kn) hkn ?_
  refine x_if_neZ C 19 dX11_digit_14 (by decide) (fun c14 => ?_) (fun c14 => ?_)
  · skip
    refine x_aload_n C (i := 0) dX11_digit_19 rfl rfl ?_
    refine x_getR C fr_0_6 kf_X11_58 dX11_digit_20 ?_
    refine x_getR C fr_21_7 kf_X11_186 dX11_digit_23 ?_
    refine x_iload_n C (i := 1) dX11_digit_26 rfl rfl ?_
    have hM := c_X5_part l Y σ wq hwq
    refine x_callV C (as := [.int (nI wq)]) (st := []) (hM) kb_X5_part kv_X11_196 dX11_digit_27 rfl rfl (Nat.le_of_ble_eq_true rfl) ⟨by decide, by decide⟩ ⟨by decide, by decide⟩ ko_29 ?_
    clear hM
    intro r9 τ9 h9
    rcases h9 with ⟨hw0, rfl, h8⟩ | ⟨hw0, rfl, h8⟩ <;> rw [h8] <;> clear h8 τ9
    · skip
      refine x_iload_n C (i := 2) dX11_digit_30 rfl rfl ?_
      have hM := c_X4_digitAt_30 l Y σ k v0 _ rfl (hv0 c14)
      refine x_callV C (as := [.int k]) (st := []) (hM) kb_X4_digitAt kv_X11_204 dX11_digit_31 rfl rfl (Nat.le_of_ble_eq_true rfl) ⟨by decide, by decide⟩ ⟨by decide, by decide⟩ ko_30 ?_
      clear hM
      intro r9 τ9 h9
      rcases h9 with ⟨j, hj, hkj, rfl, h8⟩ | ⟨hkj, rfl, h8⟩ <;> rw [h8] <;> clear h8 τ9
      · skip
        refine x_retX (by decide) (by decide) ?_
        refine x_iret C xr xk dX11_digit_34 ?_
        exact hK _ _ ⟨wq, hwq, rfl, Or.inr ⟨c14, Or.inl ⟨j, hj, hkj, by first | rw [if_pos hw0] | rw [if_neg (by omega)], rfl⟩⟩⟩
      · skip
        refine x_retX (by decide) (by decide) ?_
        refine x_iret C xr xk dX11_digit_34 ?_
        exact hK _ _ ⟨wq, hwq, rfl, Or.inr ⟨c14, Or.inr ⟨hkj, rfl, rfl⟩⟩⟩
    · skip
      refine x_iload_n C (i := 2) dX11_digit_30 rfl rfl ?_
      have hM := c_X4_digitAt_32 l Y σ k v1 _ rfl (hv1 c14)
      refine x_callV C (as := [.int k]) (st := []) (hM) kb_X4_digitAt kv_X11_204 dX11_digit_31 rfl rfl (Nat.le_of_ble_eq_true rfl) ⟨by decide, by decide⟩ ⟨by decide, by decide⟩ ko_32 ?_
      clear hM
      intro r9 τ9 h9
      rcases h9 with ⟨j, hj, hkj, rfl, h8⟩ | ⟨hkj, rfl, h8⟩ <;> rw [h8] <;> clear h8 τ9
      · skip
        refine x_retX (by decide) (by decide) ?_
        refine x_iret C xr xk dX11_digit_34 ?_
        exact hK _ _ ⟨wq, hwq, rfl, Or.inr ⟨c14, Or.inl ⟨j, hj, hkj, by first | rw [if_pos hw0] | rw [if_neg (by omega)], rfl⟩⟩⟩
      · skip
        refine x_retX (by decide) (by decide) ?_
        refine x_iret C xr xk dX11_digit_34 ?_
        exact hK _ _ ⟨wq, hwq, rfl, Or.inr ⟨c14, Or.inr ⟨hkj, rfl, rfl⟩⟩⟩
  · skip
    refine x_iconst C (nI 0) dX11_digit_17 rfl ?_
    refine x_retX (by decide) (by decide) ?_
    refine x_iret C xr xk dX11_digit_18 ?_
    exact hK _ _ ⟨wq, hwq, rfl, Or.inl ⟨c14, rfl, rfl⟩⟩
theorem c_X11_digitQ (l : Launch) (hl : l.stackTraces = false) (Y : x_Y) (σ : x_S) (w k : Int32) (kn : Bool) (hkn : σ.1 29 4 = x_z kn) (v0 v1 : Nat) (hv0 : kn = true → z_is (σ.1 31) v0) (hv1 : kn = true → z_is (σ.1 33) v1) : x_MX l yX11_digit cX11_digit 3 (some .int) 7 1 Y [.ref 0, .int w, .int k] σ (fun r τ => ∃ wq, wq < 2 ∧ w = nI wq ∧ ((kn = false ∧ r = some (.int (nI 0)) ∧ τ = σ) ∨ (kn = true ∧ ((∃ j, j < 10 ∧ k = nI j ∧ r = some (.int (nI (y_d32 (if wq = 0 then v0 else v1) j))) ∧ τ = σ) ∨ (¬ x_rng k 10 ∧ r = some (.int (nI 0)) ∧ τ = σ))))) (fun E τ => ¬ x_rng w 2 ∧ E = x_eIOB ∧ τ = σ) := c_X11_digitQ_K l hl Y σ w k kn hkn v0 v1 hv0 hv1 _ _ (fun _ _ h => h) (fun _ _ h => h)
