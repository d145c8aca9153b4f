set_option maxRecDepth 100000 in
set_option maxHeartbeats 200000 in
theorem c_X12_index_K (l : Launch) (Y : x_Y) (σ : x_S) (a : Nat) (v : Int32) (ng : Bool) (b : Nat → Int32) (t : Nat) (hb : σ.1 39 = b) (ht : σ.1 38 2 = nI t) (ht8 : t ≤ 8000) (hat : a ≤ t) (K : Option Value → x_S → Prop) (hK : ∀ (r : Option Value) (τ : x_S), (((x_idx b t a).1 = true ∧ r = some (.int (x_z true)) ∧ τ = x_fm σ (x_idx b t a).2.1 (x_val (x_idx b t a).2.2.1 (x_idx b t a).2.2.2) (x_idx b t a).2.2.1) ∨ ((x_idx b t a).1 = false ∧ r = some (.int (x_z false)) ∧ ∃ v9 n9, τ = x_fm σ (x_idx b t a).2.1 v9 n9)) → K r τ) : x_M l yX12_index cX12_index 1 (some .boolean) 2 Y [.ref 38] (x_fm σ a v ng) K := by
  refine x_start (by decide) (Nat.le_of_ble_eq_true rfl) ?_
  intro xp xe xs xm xg xb xt xc C xr xk
  refine x_aload_n C (i := 0) dX12_index_0 rfl rfl ?_
  refine x_iconst C (nI 4) dX12_index_1 rfl ?_
  refine x_iconst C (nI 1) dX12_index_2 rfl ?_
  obtain ⟨⟨ok, ac, nc, vc⟩, hC⟩ : ∃ z, z = x_colf b t true 4 a false false 0 := ⟨_, rfl⟩
  have hM := c_X12_column l Y σ a v ng 4 true b t hb ht ht8 hat (by decide) (by decide)
  refine x_callV C (as := [.int (nI 4), .int (x_z true)]) (st := []) (hM) kb_X12_column kv_X12_258 dX12_index_3 rfl rfl (Nat.le_of_ble_eq_true rfl) ⟨by decide, by decide⟩ ⟨by decide, by decide⟩ ko_38 ?_
  clear hM
  rw [← hC]
  dsimp only
  rintro _ _ (⟨hc1, rfl, rfl, hcv⟩ | ⟨hc1, rfl, rfl⟩)
  · skip
    subst hc1
    have hac : ac = a + 4 := by have h9 := x_colf_a (b := b) (t := t) (sg := true) 4 a false false 0 (by rw [← hC]); rw [← hC] at h9; exact h9
    have hact : ac ≤ t := by have h9 := x_colf_le (b := b) (t := t) (sg := true) 4 a false false 0 hat; rw [← hC] at h9; exact h9
    refine x_if_neZ C 11 dX12_index_6 (by decide) (fun c6 => ?_) (fun c6 => absurd c6 (by decide))
    refine x_aload_n C (i := 0) dX12_index_11 rfl rfl ?_
    refine x_getI C fi_38_26 kf_X12_248 dX12_index_12 ?_
    refine x_topI (y := x_val nc vc) rfl ?_
    refine x_bipush C (-127) dX12_index_15 rfl ?_
    refine x_bipush C (nI 127) dX12_index_17 rfl ?_
    have hM := c_X12_in l Y (x_fm σ ac (x_val nc vc) nc) (x_val nc vc) (-127) (nI 127)
    refine x_callS C (as := [.int (x_val nc vc), .int (-127), .int (nI 127)]) (st := []) (hM) kb_X12_in ks_X12_96 dX12_index_19 rfl rfl (Nat.le_of_ble_eq_true rfl) ⟨by decide, by decide⟩ ⟨by decide, by decide⟩ ?_
    clear hM
    intro r9 τ9 h9
    obtain ⟨rfl, h8⟩ := h9
    rw [h8]
    clear h8 τ9
    refine x_if_neZ C 37 dX12_index_22 (by decide) (fun c22 => ?_) (fun c22 => ?_)
    · skip
      have c22 := (x_ix_val (ng := nc) (v := vc) (by omega)).symm.trans c22
      have h127 := of_decide_eq_true c22
      refine x_iconst C (nI 1) dX12_index_37 rfl ?_
      refine x_zret C xr xk dX12_index_38 rfl ?_
      exact hK _ _ (Or.inl (by unfold x_idx; rw [← hC]; dsimp only; rw [if_pos rfl, if_pos h127]; exact ⟨rfl, rfl, by rw [hac]⟩))
    · skip
      have c22 := (x_ix_val (ng := nc) (v := vc) (by omega)).symm.trans c22
      have h127 := of_decide_eq_false c22
      refine x_aload_n C (i := 0) dX12_index_25 rfl rfl ?_
      refine x_dup C dX12_index_26 rfl ?_
      refine x_getI C fi_38_3 kf_X12_100 dX12_index_27 ?_
      refine x_topI (y := nI ac) rfl ?_
      refine x_iconst C (nI 1) dX12_index_30 rfl ?_
      refine x_isubN C dX12_index_31 (by omega) ?_
      refine x_putN C fi_38_3 kf_X12_100 rfl rfl dX12_index_32 ?_
      refine x_sig (σ' := x_fm σ (ac - 1) (x_val nc vc) nc) (x_fm_3 _ _ _ _ _) ?_
      refine x_iconst C (nI 0) dX12_index_35 rfl ?_
      refine x_zret C xr xk dX12_index_36 rfl ?_
      exact hK _ _ (Or.inr (by unfold x_idx; rw [← hC]; dsimp only; rw [if_pos rfl, if_neg h127]; exact ⟨rfl, rfl, _, _, by rw [show ac - 1 = a + 3 by omega]⟩))
  · skip
    subst hc1
    refine x_if_neZ C 11 dX12_index_6 (by decide) (fun c6 => absurd c6 (by decide)) (fun c6 => ?_)
    refine x_iconst C (nI 0) dX12_index_9 rfl ?_
    refine x_zret C xr xk dX12_index_10 rfl ?_
    exact hK _ _ (Or.inr (by unfold x_idx; rw [← hC]; exact ⟨rfl, rfl, _, _, rfl⟩))
theorem c_X12_index (l : Launch) (Y : x_Y) (σ : x_S) (a : Nat) (v : Int32) (ng : Bool) (b : Nat → Int32) (t : Nat) (hb : σ.1 39 = b) (ht : σ.1 38 2 = nI t) (ht8 : t ≤ 8000) (hat : a ≤ t) : x_M l yX12_index cX12_index 1 (some .boolean) 2 Y [.ref 38] (x_fm σ a v ng) (fun r τ => ((x_idx b t a).1 = true ∧ r = some (.int (x_z true)) ∧ τ = x_fm σ (x_idx b t a).2.1 (x_val (x_idx b t a).2.2.1 (x_idx b t a).2.2.2) (x_idx b t a).2.2.1) ∨ ((x_idx b t a).1 = false ∧ r = some (.int (x_z false)) ∧ ∃ v9 n9, τ = x_fm σ (x_idx b t a).2.1 v9 n9)) := c_X12_index_K l Y σ a v ng b t hb ht ht8 hat _ (fun _ _ h => h)
