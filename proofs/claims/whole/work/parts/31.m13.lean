set_option maxRecDepth 100000 in
set_option maxHeartbeats 200000 in
theorem c_X12_absent_K (l : Launch) (Y : x_Y) (σ : x_S) (h k q : Int32) (n : Nat) (hn : σ.1 38 4 = nI n) (hn9 : n ≤ 192) (K : Option Value → x_S → Prop) (hK : ∀ (r : Option Value) (τ : x_S), ((n = 0 ∧ r = some (.int (nI 0)) ∧ τ = x_u σ 38 0 (nI 1)) ∨ (n ≠ 0 ∧ x_ixs h k q = false ∧ r = some (.int (nI 0)) ∧ τ = x_u σ 38 0 (nI 2)) ∨ (n ≠ 0 ∧ x_ixs h k q = true ∧ r = some (.int (x_z (x_absent (σ.1 40) (σ.1 41) n h k q))) ∧ τ = x_u σ 38 0 (nI 0))) → K r τ) : x_M l yX12_absent cX12_absent 4 (some .int) 2 Y [.ref 38, .int h, .int k, .int q] σ K := by
  refine x_start (by decide) (Nat.le_of_ble_eq_true rfl) ?_
  intro xp xe xs xm xg xb xt xc C xr xk
  refine x_aload_n C (i := 0) dX12_absent_0 rfl rfl ?_
  refine x_aload_n C (i := 0) dX12_absent_1 rfl rfl ?_
  refine x_getI C fi_38_4 kf_X12_183 dX12_absent_2 ?_
  refine x_topI (y := nI n) hn ?_
  refine x_if_neN C 12 dX12_absent_5 (by decide) (by omega) (fun c5 => ?_) (fun c5 => ?_)
  · skip
    refine x_iload_n C (i := 1) dX12_absent_12 rfl rfl ?_
    refine x_iload_n C (i := 2) dX12_absent_13 rfl rfl ?_
    refine x_iload_n C (i := 3) dX12_absent_14 rfl rfl ?_
    have hM := c_X12_isIndex l Y σ h k q
    refine x_callS C (as := [.int h, .int k, .int q]) (st := [.ref 38]) (hM) kb_X12_isIndex ks_X12_205 dX12_absent_15 rfl rfl (Nat.le_of_ble_eq_true rfl) ⟨by decide, by decide⟩ ⟨by decide, by decide⟩ ?_
    clear hM
    intro r9 τ9 h9
    obtain ⟨rfl, h8⟩ := h9
    rw [h8]
    clear h8 τ9
    refine x_if_neZ C 25 dX12_absent_18 (by decide) (fun c18 => ?_) (fun c18 => ?_)
    · skip
      refine x_iconst C (nI 0) dX12_absent_25 rfl ?_
      refine x_putN C fi_38_0 kf_X12_85 rfl rfl dX12_absent_26 ?_
      refine x_aload_n C (i := 0) dX12_absent_29 rfl rfl ?_
      refine x_getI C fi_38_0 kf_X12_85 dX12_absent_30 ?_
      refine x_topI (y := nI 0) rfl ?_
      refine x_if_neN C 50 dX12_absent_33 (by decide) (by omega) (fun c33 => absurd c33 (by decide)) (fun c33 => ?_)
      refine x_aload_n C (i := 0) dX12_absent_36 rfl rfl ?_
      refine x_iload_n C (i := 1) dX12_absent_37 rfl rfl ?_
      refine x_iload_n C (i := 2) dX12_absent_38 rfl rfl ?_
      refine x_iload_n C (i := 3) dX12_absent_39 rfl rfl ?_
      have hM := c_X12_isAbsent l Y (x_u σ 38 0 (nI 0)) h k q n hn hn9
      refine x_callV C (as := [.int h, .int k, .int q]) (st := []) (hM) kb_X12_isAbsent kv_X12_216 dX12_absent_40 rfl rfl (Nat.le_of_ble_eq_true rfl) ⟨by decide, by decide⟩ ⟨by decide, by decide⟩ ko_38 ?_
      clear hM
      intro r9 τ9 h9
      obtain ⟨rfl, h8⟩ := h9
      rw [h8]
      clear h8 τ9
      refine x_if_eqZ C 50 dX12_absent_43 (by decide) (fun c43 => ?_) (fun c43 => ?_)
      · skip
        refine x_iconst C (nI 0) dX12_absent_50 rfl ?_
        refine x_iret C xr xk dX12_absent_51 ?_
        exact hK _ _ (Or.inr (Or.inr ⟨c5, c18, by rw [show x_absent (σ.1 40) (σ.1 41) n h k q = _ from c43]; rfl, rfl⟩))
      · skip
        refine x_iconst C (nI 1) dX12_absent_46 rfl ?_
        refine x_goto C 51 dX12_absent_47 (by decide) ?_
        refine x_iret C xr xk dX12_absent_51 ?_
        exact hK _ _ (Or.inr (Or.inr ⟨c5, c18, by rw [show x_absent (σ.1 40) (σ.1 41) n h k q = _ from c43]; rfl, rfl⟩))
    · skip
      refine x_iconst C (nI 2) dX12_absent_21 rfl ?_
      refine x_goto C 26 dX12_absent_22 (by decide) ?_
      refine x_putN C fi_38_0 kf_X12_85 rfl rfl dX12_absent_26 ?_
      refine x_aload_n C (i := 0) dX12_absent_29 rfl rfl ?_
      refine x_getI C fi_38_0 kf_X12_85 dX12_absent_30 ?_
      refine x_topI (y := nI 2) rfl ?_
      refine x_if_neN C 50 dX12_absent_33 (by decide) (by omega) (fun c33 => ?_) (fun c33 => absurd c33 (by decide))
      refine x_iconst C (nI 0) dX12_absent_50 rfl ?_
      refine x_iret C xr xk dX12_absent_51 ?_
      exact hK _ _ (Or.inr (Or.inl ⟨c5, c18, rfl, rfl⟩))
  · skip
    refine x_iconst C (nI 1) dX12_absent_8 rfl ?_
    refine x_goto C 26 dX12_absent_9 (by decide) ?_
    refine x_putN C fi_38_0 kf_X12_85 rfl rfl dX12_absent_26 ?_
    refine x_aload_n C (i := 0) dX12_absent_29 rfl rfl ?_
    refine x_getI C fi_38_0 kf_X12_85 dX12_absent_30 ?_
    refine x_topI (y := nI 1) rfl ?_
    refine x_if_neN C 50 dX12_absent_33 (by decide) (by omega) (fun c33 => ?_) (fun c33 => absurd c33 (by decide))
    refine x_iconst C (nI 0) dX12_absent_50 rfl ?_
    refine x_iret C xr xk dX12_absent_51 ?_
    exact hK _ _ (Or.inl ⟨c5, rfl, rfl⟩)
theorem c_X12_absent (l : Launch) (Y : x_Y) (σ : x_S) (h k q : Int32) (n : Nat) (hn : σ.1 38 4 = nI n) (hn9 : n ≤ 192) : x_M l yX12_absent cX12_absent 4 (some .int) 2 Y [.ref 38, .int h, .int k, .int q] σ (fun r τ => (n = 0 ∧ r = some (.int (nI 0)) ∧ τ = x_u σ 38 0 (nI 1)) ∨ (n ≠ 0 ∧ x_ixs h k q = false ∧ r = some (.int (nI 0)) ∧ τ = x_u σ 38 0 (nI 2)) ∨ (n ≠ 0 ∧ x_ixs h k q = true ∧ r = some (.int (x_z (x_absent (σ.1 40) (σ.1 41) n h k q))) ∧ τ = x_u σ 38 0 (nI 0))) := c_X12_absent_K l Y σ h k q n hn hn9 _ (fun _ _ h => h)
set_option maxRecDepth 100000 in
set_option maxHeartbeats 200000 in
theorem c_X12_sent_K (l : Launch) (Y : x_Y) (σ : x_S) (i h k q w : Int32) (n : Nat) (hn : σ.1 38 4 = nI n) (hn9 : n ≤ 192) (K : Option Value → x_S → Prop) (hK : ∀ (r : Option Value) (τ : x_S), ((¬ (x_rng i n ∧ x_rng w 4) ∧ r = some (.int (nI 0)) ∧ τ = x_u σ 38 0 (nI 1)) ∨ ((x_rng i n ∧ x_rng w 4) ∧ x_ixs h k q = false ∧ r = some (.int (nI 0)) ∧ τ = x_u σ 38 0 (nI 2)) ∨ (∃ iq wq, iq < n ∧ wq < 4 ∧ i = nI iq ∧ w = nI wq ∧ x_ixs h k q = true ∧ r = some (.int (if wq = 3 then x_phs (σ.1 41) iq h k q else x_snt (σ.1 40) iq wq h k q)) ∧ τ = x_u σ 38 0 (nI 0))) → K r τ) : x_M l yX12_sent cX12_sent 6 (some .int) 2 Y [.ref 38, .int i, .int h, .int k, .int q, .int w] σ K := by
  refine x_start (by decide) (Nat.le_of_ble_eq_true rfl) ?_
  intro xp xe xs xm xg xb xt xc C xr xk
  refine x_aload_n C (i := 0) dX12_sent_0 rfl rfl ?_
  refine x_iload_n C (i := 1) dX12_sent_1 rfl rfl ?_
  refine x_iconst C (nI 0) dX12_sent_2 rfl ?_
  refine x_aload_n C (i := 0) dX12_sent_3 rfl rfl ?_
  refine x_getI C fi_38_4 kf_X12_183 dX12_sent_4 ?_
  refine x_topI (y := nI n) hn ?_
  refine x_iconst C (nI 1) dX12_sent_7 rfl ?_
  refine x_isub C dX12_sent_8 ?_
  have hM := c_X12_in l Y σ i (nI 0) ((nI n) - (nI 1))
  refine x_callS C (as := [.int i, .int (nI 0), .int ((nI n) - (nI 1))]) (st := [.ref 38]) (hM) kb_X12_in ks_X12_96 dX12_sent_9 rfl rfl (Nat.le_of_ble_eq_true rfl) ⟨by decide, by decide⟩ ⟨by decide, by decide⟩ ?_
  clear hM
  intro r9 τ9 h9
  obtain ⟨rfl, h8⟩ := h9
  rw [h8]
  clear h8 τ9
  refine x_if_eqZ C 25 dX12_sent_12 (by decide) (fun c12 => ?_) (fun c12 => ?_)
  · skip
    have hz : ¬ (x_rng i n ∧ x_rng w 4) := fun z => x_rng_not (by omega) c12 z.1
    refine x_iconst C (nI 1) dX12_sent_25 rfl ?_
    refine x_goto C 44 dX12_sent_26 (by decide) ?_
    refine x_putN C fi_38_0 kf_X12_85 rfl rfl dX12_sent_44 ?_
    refine x_aload_n C (i := 0) dX12_sent_47 rfl rfl ?_
    refine x_getI C fi_38_0 kf_X12_85 dX12_sent_48 ?_
    refine x_topI (y := nI 1) rfl ?_
    refine x_if_leN C 58 dX12_sent_51 (by decide) (by omega) (fun c51 => absurd c51 (by decide)) (fun c51 => ?_)
    refine x_iconst C (nI 0) dX12_sent_54 rfl ?_
    refine x_goto C 87 dX12_sent_55 (by decide) ?_
    refine x_iret C xr xk dX12_sent_87 ?_
    exact hK _ _ (Or.inl ⟨hz, rfl, rfl⟩)
  · skip
    have hz1 := (x_rng_iff (by omega)).mp c12
    refine x_iload C (i := 5) dX12_sent_15 rfl ?_
    refine x_iconst C (nI 0) dX12_sent_17 rfl ?_
    refine x_iconst C (nI 3) dX12_sent_18 rfl ?_
    have hM := c_X12_in l Y σ w (nI 0) (nI 3)
    refine x_callS C (as := [.int w, .int (nI 0), .int (nI 3)]) (st := [.ref 38]) (hM) kb_X12_in ks_X12_96 dX12_sent_19 rfl rfl (Nat.le_of_ble_eq_true rfl) ⟨by decide, by decide⟩ ⟨by decide, by decide⟩ ?_
    clear hM
    intro r9 τ9 h9
    obtain ⟨rfl, h8⟩ := h9
    rw [h8]
    clear h8 τ9
    refine x_if_neZ C 29 dX12_sent_22 (by decide) (fun c22 => ?_) (fun c22 => ?_)
    · skip
      have hz2 := (x_rng_iff2 (by decide)).mp c22
      refine x_iload_n C (i := 2) dX12_sent_29 rfl rfl ?_
      refine x_iload_n C (i := 3) dX12_sent_30 rfl rfl ?_
      refine x_iload C (i := 4) dX12_sent_31 rfl ?_
      have hM := c_X12_isIndex l Y σ h k q
      refine x_callS C (as := [.int h, .int k, .int q]) (st := [.ref 38]) (hM) kb_X12_isIndex ks_X12_205 dX12_sent_33 rfl rfl (Nat.le_of_ble_eq_true rfl) ⟨by decide, by decide⟩ ⟨by decide, by decide⟩ ?_
      clear hM
      intro r9 τ9 h9
      obtain ⟨rfl, h8⟩ := h9
      rw [h8]
      clear h8 τ9
      refine x_if_neZ C 43 dX12_sent_36 (by decide) (fun c36 => ?_) (fun c36 => ?_)
      · skip
        refine x_iconst C (nI 0) dX12_sent_43 rfl ?_
        refine x_putN C fi_38_0 kf_X12_85 rfl rfl dX12_sent_44 ?_
        refine x_aload_n C (i := 0) dX12_sent_47 rfl rfl ?_
        refine x_getI C fi_38_0 kf_X12_85 dX12_sent_48 ?_
        refine x_topI (y := nI 0) rfl ?_
        refine x_if_leN C 58 dX12_sent_51 (by decide) (by omega) (fun c51 => ?_) (fun c51 => absurd c51 (by decide))
        obtain ⟨iq, hi1, rfl⟩ := hz1
        obtain ⟨wq, hk1, rfl⟩ := hz2
        refine x_iload C (i := 5) dX12_sent_58 rfl ?_
        refine x_iconst C (nI 3) dX12_sent_60 rfl ?_
        refine x_icmp_neN C 76 dX12_sent_61 (by decide) (by omega) (by omega) (fun c61 => ?_) (fun c61 => ?_)
        · skip
          refine x_aload_n C (i := 0) dX12_sent_76 rfl rfl ?_
          refine x_iload_n C (i := 1) dX12_sent_77 rfl rfl ?_
          refine x_iload_n C (i := 2) dX12_sent_78 rfl rfl ?_
          refine x_iload_n C (i := 3) dX12_sent_79 rfl rfl ?_
          refine x_iload C (i := 4) dX12_sent_80 rfl ?_
          refine x_iload C (i := 5) dX12_sent_82 rfl ?_
          have hM := c_X12_sentTo l Y (x_u σ 38 0 (nI 0)) iq h k q wq (by omega) (by omega)
          refine x_callV C (as := [.int (nI iq), .int h, .int k, .int q, .int (nI wq)]) (st := []) (hM) kb_X12_sentTo kv_X12_212 dX12_sent_84 rfl rfl (Nat.le_of_ble_eq_true rfl) ⟨by decide, by decide⟩ ⟨by decide, by decide⟩ ko_38 ?_
          clear hM
          intro r9 τ9 h9
          obtain ⟨rfl, h8⟩ := h9
          rw [h8]
          clear h8 τ9
          refine x_iret C xr xk dX12_sent_87 ?_
          exact hK _ _ (Or.inr (Or.inr ⟨iq, wq, hi1, hk1, rfl, rfl, c36, by first | (rw [if_pos c61]; rfl) | (rw [if_neg c61]; rfl), rfl⟩))
        · skip
          refine x_aload_n C (i := 0) dX12_sent_64 rfl rfl ?_
          refine x_iload_n C (i := 1) dX12_sent_65 rfl rfl ?_
          refine x_iload_n C (i := 2) dX12_sent_66 rfl rfl ?_
          refine x_iload_n C (i := 3) dX12_sent_67 rfl rfl ?_
          refine x_iload C (i := 4) dX12_sent_68 rfl ?_
          have hM := c_X12_phase l Y (x_u σ 38 0 (nI 0)) iq h k q (by omega)
          refine x_callV C (as := [.int (nI iq), .int h, .int k, .int q]) (st := []) (hM) kb_X12_phase kv_X12_208 dX12_sent_70 rfl rfl (Nat.le_of_ble_eq_true rfl) ⟨by decide, by decide⟩ ⟨by decide, by decide⟩ ko_38 ?_
          clear hM
          intro r9 τ9 h9
          obtain ⟨rfl, h8⟩ := h9
          rw [h8]
          clear h8 τ9
          refine x_goto C 87 dX12_sent_73 (by decide) ?_
          refine x_iret C xr xk dX12_sent_87 ?_
          exact hK _ _ (Or.inr (Or.inr ⟨iq, wq, hi1, hk1, rfl, rfl, c36, by first | (rw [if_pos c61]; rfl) | (rw [if_neg c61]; rfl), rfl⟩))
      · skip
        refine x_iconst C (nI 2) dX12_sent_39 rfl ?_
        refine x_goto C 44 dX12_sent_40 (by decide) ?_
        refine x_putN C fi_38_0 kf_X12_85 rfl rfl dX12_sent_44 ?_
        refine x_aload_n C (i := 0) dX12_sent_47 rfl rfl ?_
        refine x_getI C fi_38_0 kf_X12_85 dX12_sent_48 ?_
        refine x_topI (y := nI 2) rfl ?_
        refine x_if_leN C 58 dX12_sent_51 (by decide) (by omega) (fun c51 => absurd c51 (by decide)) (fun c51 => ?_)
        refine x_iconst C (nI 0) dX12_sent_54 rfl ?_
        refine x_goto C 87 dX12_sent_55 (by decide) ?_
        refine x_iret C xr xk dX12_sent_87 ?_
        exact hK _ _ (Or.inr (Or.inl ⟨⟨hz1, hz2⟩, c36, rfl, rfl⟩))
    · skip
      have hz : ¬ (x_rng i n ∧ x_rng w 4) := fun z => x_rng_not2 (by decide) c22 z.2
      refine x_iconst C (nI 1) dX12_sent_25 rfl ?_
      refine x_goto C 44 dX12_sent_26 (by decide) ?_
      refine x_putN C fi_38_0 kf_X12_85 rfl rfl dX12_sent_44 ?_
      refine x_aload_n C (i := 0) dX12_sent_47 rfl rfl ?_
      refine x_getI C fi_38_0 kf_X12_85 dX12_sent_48 ?_
      refine x_topI (y := nI 1) rfl ?_
      refine x_if_leN C 58 dX12_sent_51 (by decide) (by omega) (fun c51 => absurd c51 (by decide)) (fun c51 => ?_)
      refine x_iconst C (nI 0) dX12_sent_54 rfl ?_
      refine x_goto C 87 dX12_sent_55 (by decide) ?_
      refine x_iret C xr xk dX12_sent_87 ?_
      exact hK _ _ (Or.inl ⟨hz, rfl, rfl⟩)
theorem c_X12_sent (l : Launch) (Y : x_Y) (σ : x_S) (i h k q w : Int32) (n : Nat) (hn : σ.1 38 4 = nI n) (hn9 : n ≤ 192) : x_M l yX12_sent cX12_sent 6 (some .int) 2 Y [.ref 38, .int i, .int h, .int k, .int q, .int w] σ (fun r τ => (¬ (x_rng i n ∧ x_rng w 4) ∧ r = some (.int (nI 0)) ∧ τ = x_u σ 38 0 (nI 1)) ∨ ((x_rng i n ∧ x_rng w 4) ∧ x_ixs h k q = false ∧ r = some (.int (nI 0)) ∧ τ = x_u σ 38 0 (nI 2)) ∨ (∃ iq wq, iq < n ∧ wq < 4 ∧ i = nI iq ∧ w = nI wq ∧ x_ixs h k q = true ∧ r = some (.int (if wq = 3 then x_phs (σ.1 41) iq h k q else x_snt (σ.1 40) iq wq h k q)) ∧ τ = x_u σ 38 0 (nI 0))) := c_X12_sent_K l Y σ i h k q w n hn hn9 _ (fun _ _ h => h)
set_option maxRecDepth 100000 in
set_option maxHeartbeats 200000 in
theorem c_X12_greatest_K (l : Launch) (Y : x_Y) (σ : x_S) (h k q w : Int32) (n : Nat) (hn : σ.1 38 4 = nI n) (hn9 : n ≤ 192) (K : Option Value → x_S → Prop) (hK : ∀ (r : Option Value) (τ : x_S), ((n = 0 ∧ r = some (.int (nI 0)) ∧ τ = x_u σ 38 0 (nI 1)) ∨ (n ≠ 0 ∧ x_ixs h k q = false ∧ r = some (.int (nI 0)) ∧ τ = x_u σ 38 0 (nI 2)) ∨ (n ≠ 0 ∧ x_ixs h k q = true ∧ ¬ x_rng w 4 ∧ r = some (.int (nI 0)) ∧ τ = x_u σ 38 0 (nI 3)) ∨ (∃ wq, n ≠ 0 ∧ x_ixs h k q = true ∧ wq < 3 ∧ w = nI wq ∧ r = some (.int (x_part (x_gof (σ.1 40) h k q n) wq)) ∧ τ = x_u σ 38 0 (nI 0)) ∨ (n ≠ 0 ∧ x_ixs h k q = true ∧ w = nI 3 ∧ r = some (.int (nI (x_eqf (σ.1 40) h k q n).length)) ∧ τ = x_eq (x_u σ 38 0 (nI 0)) (x_eqf (σ.1 40) h k q n))) → K r τ) : x_M l yX12_greatest cX12_greatest 5 (some .int) 2 Y [.ref 38, .int h, .int k, .int q, .int w] σ K := by
  refine x_start (by decide) (Nat.le_of_ble_eq_true rfl) ?_
  intro xp xe xs xm xg xb xt xc C xr xk
  refine x_aload_n C (i := 0) dX12_greatest_0 rfl rfl ?_
  refine x_aload_n C (i := 0) dX12_greatest_1 rfl rfl ?_
  refine x_getI C fi_38_4 kf_X12_183 dX12_greatest_2 ?_
  refine x_topI (y := nI n) hn ?_
  refine x_if_neN C 12 dX12_greatest_5 (by decide) (by omega) (fun c5 => ?_) (fun c5 => ?_)
  · skip
    refine x_iload_n C (i := 1) dX12_greatest_12 rfl rfl ?_
    refine x_iload_n C (i := 2) dX12_greatest_13 rfl rfl ?_
    refine x_iload_n C (i := 3) dX12_greatest_14 rfl rfl ?_
    have hM := c_X12_isIndex l Y σ h k q
    refine x_callS C (as := [.int h, .int k, .int q]) (st := [.ref 38]) (hM) kb_X12_isIndex ks_X12_205 dX12_greatest_15 rfl rfl (Nat.le_of_ble_eq_true rfl) ⟨by decide, by decide⟩ ⟨by decide, by decide⟩ ?_
    clear hM
    intro r9 τ9 h9
    obtain ⟨rfl, h8⟩ := h9
    rw [h8]
    clear h8 τ9
    refine x_if_neZ C 25 dX12_greatest_18 (by decide) (fun c18 => ?_) (fun c18 => ?_)
    · skip
      refine x_iload C (i := 4) dX12_greatest_25 rfl ?_
      refine x_iconst C (nI 0) dX12_greatest_27 rfl ?_
      refine x_iconst C (nI 3) dX12_greatest_28 rfl ?_
      have hM := c_X12_in l Y σ w (nI 0) (nI 3)
      refine x_callS C (as := [.int w, .int (nI 0), .int (nI 3)]) (st := [.ref 38]) (hM) kb_X12_in ks_X12_96 dX12_greatest_29 rfl rfl (Nat.le_of_ble_eq_true rfl) ⟨by decide, by decide⟩ ⟨by decide, by decide⟩ ?_
      clear hM
      intro r9 τ9 h9
      obtain ⟨rfl, h8⟩ := h9
      rw [h8]
      clear h8 τ9
      refine x_if_neZ C 39 dX12_greatest_32 (by decide) (fun c32 => ?_) (fun c32 => ?_)
      · skip
        have hz2 := (x_rng_iff2 (by decide)).mp c32
        refine x_iconst C (nI 0) dX12_greatest_39 rfl ?_
        refine x_putN C fi_38_0 kf_X12_85 rfl rfl dX12_greatest_40 ?_
        refine x_aload_n C (i := 0) dX12_greatest_43 rfl rfl ?_
        refine x_getI C fi_38_0 kf_X12_85 dX12_greatest_44 ?_
        refine x_topI (y := nI 0) rfl ?_
        refine x_if_leN C 54 dX12_greatest_47 (by decide) (by omega) (fun c47 => ?_) (fun c47 => absurd c47 (by decide))
        obtain ⟨wq, hk1, rfl⟩ := hz2
        refine x_iload C (i := 4) dX12_greatest_54 rfl ?_
        refine x_iconst C (nI 3) dX12_greatest_56 rfl ?_
        refine x_icmp_neN C 70 dX12_greatest_57 (by decide) (by omega) (by omega) (fun c57 => ?_) (fun c57 => ?_)
        · skip
          refine x_aload_n C (i := 0) dX12_greatest_70 rfl rfl ?_
          refine x_iload_n C (i := 1) dX12_greatest_71 rfl rfl ?_
          refine x_iload_n C (i := 2) dX12_greatest_72 rfl rfl ?_
          refine x_iload_n C (i := 3) dX12_greatest_73 rfl rfl ?_
          have hM := c_X12_greatestOf l Y (x_u σ 38 0 (nI 0)) h k q n hn hn9
          refine x_callV C (as := [.int h, .int k, .int q]) (st := []) (hM) kb_X12_greatestOf kv_X12_241 dX12_greatest_74 rfl rfl (Nat.le_of_ble_eq_true rfl) ⟨by decide, by decide⟩ ⟨by decide, by decide⟩ ko_38 ?_
          clear hM
          intro r9 τ9 h9
          obtain ⟨rfl, h8⟩ := h9
          rw [h8]
          clear h8 τ9
          refine x_iload C (i := 4) dX12_greatest_77 rfl ?_
          have hM := c_X12_part l Y (x_u σ 38 0 (nI 0)) (x_gof ((x_u σ 38 0 (nI 0)).1 40) h k q n) wq (by omega)
          refine x_callS C (as := [.long (x_gof ((x_u σ 38 0 (nI 0)).1 40) h k q n), .int (nI wq)]) (st := []) (hM) kb_X12_part ks_X12_244 dX12_greatest_79 rfl rfl (Nat.le_of_ble_eq_true rfl) ⟨by decide, by decide⟩ ⟨by decide, by decide⟩ ?_
          clear hM
          intro r9 τ9 h9
          obtain ⟨rfl, h8⟩ := h9
          rw [h8]
          clear h8 τ9
          refine x_iret C xr xk dX12_greatest_82 ?_
          exact hK _ _ (Or.inr (Or.inr (Or.inr (Or.inl ⟨wq, c5, c18, by omega, rfl, rfl, rfl⟩))))
        · skip
          refine x_aload_n C (i := 0) dX12_greatest_60 rfl rfl ?_
          refine x_iload_n C (i := 1) dX12_greatest_61 rfl rfl ?_
          refine x_iload_n C (i := 2) dX12_greatest_62 rfl rfl ?_
          refine x_iload_n C (i := 3) dX12_greatest_63 rfl rfl ?_
          have hM := c_X12_multiplicity l Y (x_u σ 38 0 (nI 0)) h k q n hn hn9
          refine x_callV C (as := [.int h, .int k, .int q]) (st := []) (hM) kb_X12_multiplicity kv_X12_237 dX12_greatest_64 rfl rfl (Nat.le_of_ble_eq_true rfl) ⟨by decide, by decide⟩ ⟨by decide, by decide⟩ ko_38 ?_
          clear hM
          rintro _ _ ⟨rfl, rfl⟩
          refine x_goto C 82 dX12_greatest_67 (by decide) ?_
          refine x_iret C xr xk dX12_greatest_82 ?_
          exact hK _ _ (Or.inr (Or.inr (Or.inr (Or.inr ⟨c5, c18, by rw [c57], rfl, rfl⟩))))
      · skip
        have hz2 := x_rng_not2 (by decide) c32
        refine x_iconst C (nI 3) dX12_greatest_35 rfl ?_
        refine x_goto C 40 dX12_greatest_36 (by decide) ?_
        refine x_putN C fi_38_0 kf_X12_85 rfl rfl dX12_greatest_40 ?_
        refine x_aload_n C (i := 0) dX12_greatest_43 rfl rfl ?_
        refine x_getI C fi_38_0 kf_X12_85 dX12_greatest_44 ?_
        refine x_topI (y := nI 3) rfl ?_
        refine x_if_leN C 54 dX12_greatest_47 (by decide) (by omega) (fun c47 => absurd c47 (by decide)) (fun c47 => ?_)
        refine x_iconst C (nI 0) dX12_greatest_50 rfl ?_
        refine x_goto C 82 dX12_greatest_51 (by decide) ?_
        refine x_iret C xr xk dX12_greatest_82 ?_
        exact hK _ _ (Or.inr (Or.inr (Or.inl ⟨c5, c18, hz2, rfl, rfl⟩)))
    · skip
      refine x_iconst C (nI 2) dX12_greatest_21 rfl ?_
      refine x_goto C 40 dX12_greatest_22 (by decide) ?_
      refine x_putN C fi_38_0 kf_X12_85 rfl rfl dX12_greatest_40 ?_
      refine x_aload_n C (i := 0) dX12_greatest_43 rfl rfl ?_
      refine x_getI C fi_38_0 kf_X12_85 dX12_greatest_44 ?_
      refine x_topI (y := nI 2) rfl ?_
      refine x_if_leN C 54 dX12_greatest_47 (by decide) (by omega) (fun c47 => absurd c47 (by decide)) (fun c47 => ?_)
      refine x_iconst C (nI 0) dX12_greatest_50 rfl ?_
      refine x_goto C 82 dX12_greatest_51 (by decide) ?_
      refine x_iret C xr xk dX12_greatest_82 ?_
      exact hK _ _ (Or.inr (Or.inl ⟨c5, c18, rfl, rfl⟩))
  · skip
    refine x_iconst C (nI 1) dX12_greatest_8 rfl ?_
    refine x_goto C 40 dX12_greatest_9 (by decide) ?_
    refine x_putN C fi_38_0 kf_X12_85 rfl rfl dX12_greatest_40 ?_
    refine x_aload_n C (i := 0) dX12_greatest_43 rfl rfl ?_
    refine x_getI C fi_38_0 kf_X12_85 dX12_greatest_44 ?_
    refine x_topI (y := nI 1) rfl ?_
    refine x_if_leN C 54 dX12_greatest_47 (by decide) (by omega) (fun c47 => absurd c47 (by decide)) (fun c47 => ?_)
    refine x_iconst C (nI 0) dX12_greatest_50 rfl ?_
    refine x_goto C 82 dX12_greatest_51 (by decide) ?_
    refine x_iret C xr xk dX12_greatest_82 ?_
    exact hK _ _ (Or.inl ⟨c5, rfl, rfl⟩)
theorem c_X12_greatest (l : Launch) (Y : x_Y) (σ : x_S) (h k q w : Int32) (n : Nat) (hn : σ.1 38 4 = nI n) (hn9 : n ≤ 192) : x_M l yX12_greatest cX12_greatest 5 (some .int) 2 Y [.ref 38, .int h, .int k, .int q, .int w] σ (fun r τ => (n = 0 ∧ r = some (.int (nI 0)) ∧ τ = x_u σ 38 0 (nI 1)) ∨ (n ≠ 0 ∧ x_ixs h k q = false ∧ r = some (.int (nI 0)) ∧ τ = x_u σ 38 0 (nI 2)) ∨ (n ≠ 0 ∧ x_ixs h k q = true ∧ ¬ x_rng w 4 ∧ r = some (.int (nI 0)) ∧ τ = x_u σ 38 0 (nI 3)) ∨ (∃ wq, n ≠ 0 ∧ x_ixs h k q = true ∧ wq < 3 ∧ w = nI wq ∧ r = some (.int (x_part (x_gof (σ.1 40) h k q n) wq)) ∧ τ = x_u σ 38 0 (nI 0)) ∨ (n ≠ 0 ∧ x_ixs h k q = true ∧ w = nI 3 ∧ r = some (.int (nI (x_eqf (σ.1 40) h k q n).length)) ∧ τ = x_eq (x_u σ 38 0 (nI 0)) (x_eqf (σ.1 40) h k q n))) := c_X12_greatest_K l Y σ h k q w n hn hn9 _ (fun _ _ h => h)
set_option maxRecDepth 100000 in
set_option maxHeartbeats 200000 in
theorem c_X12_drop_K (l : Launch) (Y : x_Y) (σ : x_S) (K : Option Value → x_S → Prop) (hK : ∀ (r : Option Value) (τ : x_S), (r = some (.int (σ.1 38 20)) ∧ τ = x_u (x_u (x_u σ 38 0 (nI 0)) 38 20 (nI 0)) 38 29 (nI 0)) → K r τ) : x_M l yX12_drop cX12_drop 2 (some .int) 0 Y [.ref 38] σ K := by
  refine x_start (by decide) (Nat.le_of_ble_eq_true rfl) ?_
  intro xp xe xs xm xg xb xt xc C xr xk
  refine x_aload_n C (i := 0) dX12_drop_0 rfl rfl ?_
  refine x_iconst C (nI 0) dX12_drop_1 rfl ?_
  refine x_putN C fi_38_0 kf_X12_85 rfl rfl dX12_drop_2 ?_
  refine x_aload_n C (i := 0) dX12_drop_5 rfl rfl ?_
  refine x_getI C fi_38_20 kf_X12_271 dX12_drop_6 ?_
  refine x_istore_n C (i := 1) dX12_drop_9 rfl (by decide) ?_
  refine x_aload_n C (i := 0) dX12_drop_10 rfl rfl ?_
  refine x_iconst C (nI 0) dX12_drop_11 rfl ?_
  refine x_putN C fi_38_20 kf_X12_271 rfl rfl dX12_drop_12 ?_
  refine x_aload_n C (i := 0) dX12_drop_15 rfl rfl ?_
  refine x_iconst C (nI 0) dX12_drop_16 rfl ?_
  refine x_putN C fi_38_29 kf_X12_195 rfl rfl dX12_drop_17 ?_
  refine x_iload_n C (i := 1) dX12_drop_20 rfl rfl ?_
  refine x_iret C xr xk dX12_drop_21 ?_
  exact hK _ _ ⟨rfl, rfl⟩
theorem c_X12_drop (l : Launch) (Y : x_Y) (σ : x_S) : x_M l yX12_drop cX12_drop 2 (some .int) 0 Y [.ref 38] σ (fun r τ => r = some (.int (σ.1 38 20)) ∧ τ = x_u (x_u (x_u σ 38 0 (nI 0)) 38 20 (nI 0)) 38 29 (nI 0)) := c_X12_drop_K l Y σ  _ (fun _ _ h => h)
set_option maxRecDepth 100000 in
set_option maxHeartbeats 200000 in
theorem c_X12_reflections_K (l : Launch) (Y : x_Y) (σ : x_S) (K : Option Value → x_S → Prop) (hK : ∀ (r : Option Value) (τ : x_S), (r = some (.int (σ.1 38 20)) ∧ τ = x_u σ 38 0 (nI 0)) → K r τ) : x_M l yX12_reflections cX12_reflections 1 (some .int) 0 Y [.ref 38] σ K := by
  refine x_start (by decide) (Nat.le_of_ble_eq_true rfl) ?_
  intro xp xe xs xm xg xb xt xc C xr xk
  refine x_aload_n C (i := 0) dX12_reflections_0 rfl rfl ?_
  refine x_iconst C (nI 0) dX12_reflections_1 rfl ?_
  refine x_putN C fi_38_0 kf_X12_85 rfl rfl dX12_reflections_2 ?_
  refine x_aload_n C (i := 0) dX12_reflections_5 rfl rfl ?_
  refine x_getI C fi_38_20 kf_X12_271 dX12_reflections_6 ?_
  refine x_iret C xr xk dX12_reflections_9 ?_
  exact hK _ _ ⟨rfl, rfl⟩
theorem c_X12_reflections (l : Launch) (Y : x_Y) (σ : x_S) : x_M l yX12_reflections cX12_reflections 1 (some .int) 0 Y [.ref 38] σ (fun r τ => r = some (.int (σ.1 38 20)) ∧ τ = x_u σ 38 0 (nI 0)) := c_X12_reflections_K l Y σ  _ (fun _ _ h => h)
set_option maxRecDepth 100000 in
set_option maxHeartbeats 200000 in
theorem c_X12_rows_K (l : Launch) (Y : x_Y) (σ : x_S) (K : Option Value → x_S → Prop) (hK : ∀ (r : Option Value) (τ : x_S), (r = some (.int (σ.1 38 29)) ∧ τ = x_u σ 38 0 (nI 0)) → K r τ) : x_M l yX12_rows cX12_rows 1 (some .int) 0 Y [.ref 38] σ K := by
  refine x_start (by decide) (Nat.le_of_ble_eq_true rfl) ?_
  intro xp xe xs xm xg xb xt xc C xr xk
  refine x_aload_n C (i := 0) dX12_rows_0 rfl rfl ?_
  refine x_iconst C (nI 0) dX12_rows_1 rfl ?_
  refine x_putN C fi_38_0 kf_X12_85 rfl rfl dX12_rows_2 ?_
  refine x_aload_n C (i := 0) dX12_rows_5 rfl rfl ?_
  refine x_getI C fi_38_29 kf_X12_195 dX12_rows_6 ?_
  refine x_iret C xr xk dX12_rows_9 ?_
  exact hK _ _ ⟨rfl, rfl⟩
theorem c_X12_rows (l : Launch) (Y : x_Y) (σ : x_S) : x_M l yX12_rows cX12_rows 1 (some .int) 0 Y [.ref 38] σ (fun r τ => r = some (.int (σ.1 38 29)) ∧ τ = x_u σ 38 0 (nI 0)) := c_X12_rows_K l Y σ  _ (fun _ _ h => h)
