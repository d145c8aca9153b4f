set_option maxRecDepth 100000 in
set_option maxHeartbeats 200000 in
theorem c_X12_symbol_K (l : Launch) (Y : x_Y) (σ : x_S) (b : Nat → Int32) (t : Nat) (hb : σ.1 39 = b) (ht : σ.1 38 2 = nI t) (ht8 : t ≤ 8000) (K : Option Value → x_S → Prop) (hK : ∀ (r : Option Value) (τ : x_S), (x_fr [40, 41, 42, 43, 44, 45, 46, 47] [0, 2, 3, 4, 7, 10, 15, 16, 17, 29] σ τ ∧ τ.1 38 0 = nI 0 ∧ τ.1 38 2 = nI 0 ∧ (((x_sym b t).1 = false ∧ r = some (.int (-1 - nI (x_sym b t).2.1)) ∧ τ.1 40 = σ.1 40 ∧ τ.1 41 = σ.1 41 ∧ τ.1 38 4 = σ.1 38 4 ∧ τ.1 38 29 = σ.1 38 29) ∨ ((x_sym b t).1 = true ∧ x_close (x_symG b t) = none ∧ r = some (.int (-9001)) ∧ τ.1 40 = σ.1 40 ∧ τ.1 41 = σ.1 41 ∧ τ.1 38 4 = σ.1 38 4 ∧ τ.1 38 29 = σ.1 38 29) ∨ ∃ Os, (x_sym b t).1 = true ∧ x_close (x_symG b t) = some Os ∧ r = some (.int (nI 0)) ∧ x_ok Os ∧ Os.length ≤ 192 ∧ τ.1 40 = x_kt Os Os.length (σ.1 40) ∧ τ.1 41 = x_ks Os Os.length (σ.1 41) ∧ τ.1 38 4 = nI Os.length ∧ τ.1 38 29 = nI 0)) → K r τ) : x_M l yX12_symbol cX12_symbol 3 (some .int) 5 Y [.ref 38] σ K := by
  refine x_start (by decide) (Nat.le_of_ble_eq_true rfl) ?_
  intro xp xe xs xm xg xb xt xc C xr xk
  refine x_aload_n C (i := 0) dX12_symbol_0 rfl rfl ?_
  refine x_iconst C (nI 0) dX12_symbol_1 rfl ?_
  refine x_putN C fi_38_0 kf_X12_85 rfl rfl dX12_symbol_2 ?_
  refine x_aload_n C (i := 0) dX12_symbol_5 rfl rfl ?_
  have hM := c_X12_isSymbol l Y (x_u σ 38 0 (nI 0)) b t hb ht ht8
  refine x_callV C (as := []) (st := []) (hM) kb_X12_isSymbol kv_X12_186 dX12_symbol_6 rfl rfl (Nat.le_of_ble_eq_true rfl) ⟨by decide, by decide⟩ ⟨by decide, by decide⟩ ko_38 ?_
  clear hM
  rintro _ _ ⟨su, fi, be, f46, f47, rfl, rfl⟩
  refine x_istore_n C (i := 1) dX12_symbol_9 rfl (by decide) ?_
  refine x_aload_n C (i := 0) dX12_symbol_10 rfl rfl ?_
  refine x_getI C fi_38_3 kf_X12_100 dX12_symbol_11 ?_
  refine x_topI (y := nI ((x_sym b t).2.1)) rfl ?_
  refine x_istore_n C (i := 2) dX12_symbol_14 rfl (by decide) ?_
  refine x_aload_n C (i := 0) dX12_symbol_15 rfl rfl ?_
  refine x_iconst C (nI 0) dX12_symbol_16 rfl ?_
  refine x_putN C fi_38_2 kf_X12_89 rfl rfl dX12_symbol_17 ?_
  refine x_iload_n C (i := 1) dX12_symbol_20 rfl rfl ?_
  refine x_if_neZ C 28 dX12_symbol_21 (by decide) (fun c21 => ?_) (fun c21 => ?_)
  · skip
    refine x_aload_n C (i := 0) dX12_symbol_28 rfl rfl ?_
    have hL := x_sym_len b t
    have hGl : (x_symG b t).length = (x_sym b t).2.2.1.length := by unfold x_symG; rw [List.length_zip, hL.1, Nat.min_self]
    have hGn : x_holdG (x_u (x_pm (x_u σ 38 0 (nI 0)) (x_sym b t).2.1 su fi be (x_sym b t).2.2.1 (x_sym b t).2.2.2 f46 f47) 38 2 (nI 0)) (x_symG b t) := x_holdG_of (x_holdG_pm (x_u σ 38 0 (nI 0)) (x_sym b t).2.1 su fi be (x_sym b t).2.2.1 (x_sym b t).2.2.2 f46 f47) rfl rfl
    have hM := c_X12_close l Y (x_u (x_pm (x_u σ 38 0 (nI 0)) (x_sym b t).2.1 su fi be (x_sym b t).2.2.1 (x_sym b t).2.2.2 f46 f47) 38 2 (nI 0)) (x_symG b t) (by rw [hGl]; rfl) (by omega) hGn
    refine x_callV C (as := []) (st := []) (hM) kb_X12_close kv_X12_189 dX12_symbol_29 rfl rfl (Nat.le_of_ble_eq_true rfl) ⟨by decide, by decide⟩ ⟨by decide, by decide⟩ ko_38 ?_
    clear hM
    rintro _ _ ⟨md, Ts, Ss, g46, g47, rfl, (⟨hc, rfl⟩ | ⟨Os, hc, rfl, rfl, rfl, rfl, hO, hO9⟩)⟩
    · skip
      refine x_if_neZ C 39 dX12_symbol_32 (by decide) (fun c32 => absurd c32 (by decide)) (fun c32 => ?_)
      refine x_sipush C (-9001) dX12_symbol_35 rfl ?_
      refine x_iret C xr xk dX12_symbol_38 ?_
      exact hK _ _ ⟨(((x_fr_u σ (nI 0) (by decide)).trans ((x_fr_pm (x_u σ 38 0 (nI 0)) _ _ _ _ _ _ _ _ (by decide) (by decide)).trans (x_fr_u _ (nI 0) (by decide)))).trans (x_fr_cl (x_u (x_pm (x_u σ 38 0 (nI 0)) (x_sym b t).2.1 su fi be (x_sym b t).2.2.1 (x_sym b t).2.2.2 f46 f47) 38 2 (nI 0)) _ _ _ _ _ (by decide) (by decide))), rfl, rfl, Or.inr (Or.inl ⟨c21, hc, rfl, rfl, rfl, rfl, rfl⟩)⟩
    · skip
      refine x_if_neZ C 39 dX12_symbol_32 (by decide) (fun c32 => ?_) (fun c32 => absurd c32 (by decide))
      refine x_aload_n C (i := 0) dX12_symbol_39 rfl rfl ?_
      have hM := c_X12_keep l Y (x_cl (x_u (x_pm (x_u σ 38 0 (nI 0)) (x_sym b t).2.1 su fi be (x_sym b t).2.2.1 (x_sym b t).2.2.2 f46 f47) 38 2 (nI 0)) Os.length (Os.map (fun q => q.1)) (Os.map (fun q => q.2)) g46 g47) Os hO hO9 (x_hold_cl _ _ _ _ _) rfl
      refine x_callV C (as := []) (st := []) (hM) kb_X12_keep kv_X12_192 dX12_symbol_40 rfl rfl (Nat.le_of_ble_eq_true rfl) ⟨by decide, by decide⟩ ⟨by decide, by decide⟩ ko_38 ?_
      clear hM
      rintro _ _ ⟨k46, k47, rfl, rfl⟩
      refine x_aload_n C (i := 0) dX12_symbol_43 rfl rfl ?_
      refine x_iconst C (nI 0) dX12_symbol_44 rfl ?_
      refine x_putN C fi_38_29 kf_X12_195 rfl rfl dX12_symbol_45 ?_
      refine x_iconst C (nI 0) dX12_symbol_48 rfl ?_
      refine x_iret C xr xk dX12_symbol_49 ?_
      exact hK _ _ ⟨((((x_fr_u σ (nI 0) (by decide)).trans ((x_fr_pm (x_u σ 38 0 (nI 0)) _ _ _ _ _ _ _ _ (by decide) (by decide)).trans (x_fr_u _ (nI 0) (by decide)))).trans (x_fr_cl (x_u (x_pm (x_u σ 38 0 (nI 0)) (x_sym b t).2.1 su fi be (x_sym b t).2.2.1 (x_sym b t).2.2.2 f46 f47) 38 2 (nI 0)) _ _ _ _ _ (by decide) (by decide))).trans ((x_fr_kp _ _ _ _ _ (by decide)).trans ((x_fr_u _ _ (by decide)).trans (x_fr_u _ _ (by decide))))), rfl, rfl, Or.inr (Or.inr ⟨Os, c21, hc, rfl, hO, hO9, rfl, rfl, rfl, rfl⟩)⟩
  · skip
    refine x_iconst C (-1) dX12_symbol_24 rfl ?_
    refine x_iload_n C (i := 2) dX12_symbol_25 rfl rfl ?_
    refine x_isub C dX12_symbol_26 ?_
    refine x_iret C xr xk dX12_symbol_27 ?_
    exact hK _ _ ⟨((x_fr_u σ (nI 0) (by decide)).trans ((x_fr_pm (x_u σ 38 0 (nI 0)) _ _ _ _ _ _ _ _ (by decide) (by decide)).trans (x_fr_u _ (nI 0) (by decide)))), rfl, rfl, Or.inl ⟨c21, rfl, rfl, rfl, rfl, rfl⟩⟩
theorem c_X12_symbol (l : Launch) (Y : x_Y) (σ : x_S) (b : Nat → Int32) (t : Nat) (hb : σ.1 39 = b) (ht : σ.1 38 2 = nI t) (ht8 : t ≤ 8000) : x_M l yX12_symbol cX12_symbol 3 (some .int) 5 Y [.ref 38] σ (fun r τ => x_fr [40, 41, 42, 43, 44, 45, 46, 47] [0, 2, 3, 4, 7, 10, 15, 16, 17, 29] σ τ ∧ τ.1 38 0 = nI 0 ∧ τ.1 38 2 = nI 0 ∧ (((x_sym b t).1 = false ∧ r = some (.int (-1 - nI (x_sym b t).2.1)) ∧ τ.1 40 = σ.1 40 ∧ τ.1 41 = σ.1 41 ∧ τ.1 38 4 = σ.1 38 4 ∧ τ.1 38 29 = σ.1 38 29) ∨ ((x_sym b t).1 = true ∧ x_close (x_symG b t) = none ∧ r = some (.int (-9001)) ∧ τ.1 40 = σ.1 40 ∧ τ.1 41 = σ.1 41 ∧ τ.1 38 4 = σ.1 38 4 ∧ τ.1 38 29 = σ.1 38 29) ∨ ∃ Os, (x_sym b t).1 = true ∧ x_close (x_symG b t) = some Os ∧ r = some (.int (nI 0)) ∧ x_ok Os ∧ Os.length ≤ 192 ∧ τ.1 40 = x_kt Os Os.length (σ.1 40) ∧ τ.1 41 = x_ks Os Os.length (σ.1 41) ∧ τ.1 38 4 = nI Os.length ∧ τ.1 38 29 = nI 0)) := c_X12_symbol_K l Y σ b t hb ht ht8 _ (fun _ _ h => h)
