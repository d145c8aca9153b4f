set_option maxRecDepth 100000 in
set_option maxHeartbeats 200000 in
theorem c_X12_violations_K (l : Launch) (Y : x_Y) (σ : x_S) (m : Int32) (o : Nat) (hn : σ.1 38 4 = nI o) (hn9 : o ≤ 192) (N : Nat) (hN : σ.1 38 20 = nI N) (hN9 : N ≤ 3000) (K : Option Value → x_S → Prop) (hK : ∀ (r : Option Value) (τ : x_S), ((o = 0 ∧ r = some (.int (nI 0)) ∧ τ = x_u σ 38 0 (nI 1)) ∨ (o ≠ 0 ∧ ¬ x_rng m 101 ∧ r = some (.int (nI 0)) ∧ τ = x_u σ 38 0 (nI 2)) ∨ (o ≠ 0 ∧ x_rng m 101 ∧ ∃ f62, (r = some (.int (nI (y_cnb (y_vio σ o m) N))) ∧ τ = x_st σ [(38, 0, nI 0), (38, 38, nI (y_cnb (y_vio σ o m) N))] [(62, f62)] []) ∧ y_fnd (y_vio σ o m) N f62)) → K r τ) : x_M l yX12_violations cX12_violations 3 (some .int) 2 Y [.ref 38, .int m] σ K := by
  refine x_start (by decide) (Nat.le_of_ble_eq_true rfl) ?_
  intro xp xe xs xm xg xb xt xc C xr xk
  refine x_sig (σ' := x_st σ [(38, 0, σ.1 38 0), (38, 38, σ.1 38 38)] [(62, σ.1 62)] []) (x_st_in (And.intro rfl (And.intro rfl trivial)) (And.intro rfl trivial) trivial) ?_
  refine x_aload_n C (i := 0) dX12_violations_0 rfl rfl ?_
  refine x_aload_n C (i := 0) dX12_violations_1 rfl rfl ?_
  refine x_getI C fi_38_4 kf_X12_183 dX12_violations_2 ?_
  refine x_topI (y := nI o) hn ?_
  refine x_if_neN C 12 dX12_violations_5 (by decide) (by omega) (fun c5 => ?_) (fun c5 => ?_)
  · skip
    refine x_iload_n C (i := 1) dX12_violations_12 rfl rfl ?_
    refine x_iconst C (nI 0) dX12_violations_13 rfl ?_
    refine x_bipush C (nI 100) dX12_violations_14 rfl ?_
    have hM := c_X12_in l Y (x_st σ [(38, 0, σ.1 38 0), (38, 38, σ.1 38 38)] [(62, σ.1 62)] []) m (nI 0) (nI 100)
    refine x_callS C (as := [.int m, .int (nI 0), .int (nI 100)]) (st := [.ref 38]) (hM) kb_X12_in ks_X12_96 dX12_violations_16 rfl rfl (Nat.le_of_ble_eq_true rfl) ⟨by decide, by decide⟩ ⟨by decide, by decide⟩ ?_
    clear hM
    intro r9 τ9 h9
    obtain ⟨rfl, h8⟩ := h9
    rw [h8]
    clear h8 τ9
    refine x_if_neZ C 26 dX12_violations_19 (by decide) (fun c19 => ?_) (fun c19 => ?_)
    · skip
      have hz := (x_rng_iff2 (by decide)).mp c19
      refine x_iconst C (nI 0) dX12_violations_26 rfl ?_
      refine x_putN C fi_38_0 kf_X12_85 rfl rfl dX12_violations_27 ?_
      refine x_sig (σ' := x_st σ [(38, 0, nI 0), (38, 38, σ.1 38 38)] [(62, σ.1 62)] []) (x_st_u rfl) ?_
      refine x_aload_n C (i := 0) dX12_violations_30 rfl rfl ?_
      refine x_getI C fi_38_0 kf_X12_85 dX12_violations_31 ?_
      refine x_topI (y := nI 0) rfl ?_
      refine x_if_leN C 39 dX12_violations_34 (by decide) (by omega) (fun c34 => ?_) (fun c34 => absurd c34 (by decide))
      refine x_aload_n C (i := 0) dX12_violations_39 rfl rfl ?_
      refine x_iconst C (nI 0) dX12_violations_40 rfl ?_
      refine x_putN C fi_38_38 kf_X12_342 rfl rfl dX12_violations_41 ?_
      refine x_sig (σ' := x_st σ [(38, 0, nI 0), (38, 38, nI 0)] [(62, σ.1 62)] []) (x_st_u rfl) ?_
      refine x_iconst C (nI 0) dX12_violations_44 rfl ?_
      refine x_istore_n C (i := 2) dX12_violations_45 rfl (by decide) ?_
      have lp46 : ∀ (m46 : Nat) (i : Nat) (c : Nat) (f62 : Nat → Int32), (N - i) = m46 → (i ≤ N) → (c = y_cnb (y_vio σ o m) i) → (y_fnd (y_vio σ o m) i f62) → ∀ L : x_Lo, L.1 0 = some (.ref 38) → L.1 1 = some (.int m) → L.1 2 = some (.int (nI i)) → x_W xp l xe (x_rm 2) xs xm xg xb xt xc 3 Y 0 0 (MQ xb (x_Q Y K) xg xs 0 0 (x_A Y)) 46 L [] (x_st σ [(38, 0, nI 0), (38, 38, nI c)] [(62, f62)] []) := by
        intro m46
        induction m46 using Nat.strongRecOn with
        | _ m46 ih46 =>
          intro i c f62 hm46 hi hc hfd L xl0 xl1 xl2
          have hc9 := y_cnb_le (y_vio σ o m) i
          refine x_iload_n C (i := 2) dX12_violations_46 rfl xl2 ?_
          refine x_aload_n C (i := 0) dX12_violations_47 rfl xl0 ?_
          refine x_getI C fi_38_20 kf_X12_271 dX12_violations_48 ?_
          refine x_topI (y := nI N) hN ?_
          refine x_icmp_geN C 126 dX12_violations_51 (by decide) (by omega) (by omega) (fun c51 => ?_) (fun c51 => ?_)
          · skip
            have c51' := Nat.not_lt.mpr c51
            obtain rfl : N = i := by omega
            refine x_aload_n C (i := 0) dX12_violations_126 rfl xl0 ?_
            refine x_getI C fi_38_38 kf_X12_342 dX12_violations_127 ?_
            refine x_topI (y := nI c) rfl ?_
            refine x_iret C xr xk dX12_violations_130 ?_
            exact hK _ _ (Or.inr (Or.inr ⟨c5, hz, f62, ⟨by rw [hc], by rw [hc]⟩, hfd⟩))
          · skip
            have c51' := Nat.not_le.mpr c51
            refine x_aload_n C (i := 0) dX12_violations_54 rfl xl0 ?_
            refine x_getR C fr_38_24 kf_X12_51 dX12_violations_55 ?_
            refine x_iload_n C (i := 2) dX12_violations_58 rfl xl2 ?_
            refine x_ialdN C (by decide) rfl (by decide) dX12_violations_59 (by omega) ?_
            refine x_topI (y := σ.1 52 i) rfl ?_
            refine x_i2l C dX12_violations_60 ?_
            refine x_iload_n C (i := 1) dX12_violations_61 rfl xl1 ?_
            refine x_i2l C dX12_violations_62 ?_
            refine x_aload_n C (i := 0) dX12_violations_63 rfl xl0 ?_
            refine x_getR C fr_38_25 kf_X12_54 dX12_violations_64 ?_
            refine x_iload_n C (i := 2) dX12_violations_67 rfl xl2 ?_
            refine x_ialdN C (by decide) rfl (by decide) dX12_violations_68 (by omega) ?_
            refine x_topI (y := σ.1 53 i) rfl ?_
            refine x_i2l C dX12_violations_69 ?_
            refine x_lmul C dX12_violations_70 ?_
            refine x_lcmp C dX12_violations_71 ?_
            refine x_jf_le C 120 dX12_violations_72 (by decide) (fun c72 => ?_) (fun c72 => ?_)
            · skip
              have c72 := (lg_cmp_le _ _).mp c72
              have c72' := Int64.not_lt.mpr c72
              have hP : y_vio σ o m i = false := by
                unfold y_vio
                rw [decide_eq_false (show ¬ m.toInt64 * (σ.1 53 i).toInt64 < (σ.1 52 i).toInt64 from c72')]; rfl
              refine x_iincN C (i := 2) (b := 1) dX12_violations_120 xl2 rfl (by decide) ?_
              refine x_goto C 46 dX12_violations_123 (by decide) ?_
              exact ih46 _ (by omega) (i + 1) c f62 rfl (by omega) (by rw [y_cnb_f hP]; exact hc) (y_fnd_f hfd hP) _ xl0 xl1 rfl
            · skip
              have c72 := (lg_cmp_gt _ _).mp c72
              have c72' := Int64.not_le.mpr c72
              refine x_aload_n C (i := 0) dX12_violations_75 rfl xl0 ?_
              refine x_aload_n C (i := 0) dX12_violations_76 rfl xl0 ?_
              refine x_getR C fr_38_21 kf_X12_42 dX12_violations_77 ?_
              refine x_iload_n C (i := 2) dX12_violations_80 rfl xl2 ?_
              refine x_ialdN C (by decide) rfl (by decide) dX12_violations_81 (by omega) ?_
              refine x_topI (y := σ.1 49 i) rfl ?_
              refine x_aload_n C (i := 0) dX12_violations_82 rfl xl0 ?_
              refine x_getR C fr_38_22 kf_X12_45 dX12_violations_83 ?_
              refine x_iload_n C (i := 2) dX12_violations_86 rfl xl2 ?_
              refine x_ialdN C (by decide) rfl (by decide) dX12_violations_87 (by omega) ?_
              refine x_topI (y := σ.1 50 i) rfl ?_
              refine x_aload_n C (i := 0) dX12_violations_88 rfl xl0 ?_
              refine x_getR C fr_38_23 kf_X12_48 dX12_violations_89 ?_
              refine x_iload_n C (i := 2) dX12_violations_92 rfl xl2 ?_
              refine x_ialdN C (by decide) rfl (by decide) dX12_violations_93 (by omega) ?_
              refine x_topI (y := σ.1 51 i) rfl ?_
              have hM := c_X12_isAbsent l Y (x_st σ [(38, 0, nI 0), (38, 38, nI c)] [(62, f62)] []) (σ.1 49 i) (σ.1 50 i) (σ.1 51 i) o hn hn9
              refine x_callV C (as := [.int (σ.1 49 i), .int (σ.1 50 i), .int (σ.1 51 i)]) (st := []) (hM) kb_X12_isAbsent kv_X12_216 dX12_violations_94 rfl rfl (Nat.le_of_ble_eq_true rfl) ⟨by decide, by decide⟩ ⟨by decide, by decide⟩ ko_38 ?_
              clear hM
              rintro _ _ ⟨rfl, rfl⟩
              refine x_if_eqZ C 120 dX12_violations_97 (by decide) (fun c97 => ?_) (fun c97 => ?_)
              · skip
                have hP : y_vio σ o m i = false := by
                  unfold y_vio
                  rw [show x_absent (σ.1 40) (σ.1 41) o (σ.1 49 i) (σ.1 50 i) (σ.1 51 i) = false from c97, Bool.and_false]
                refine x_iincN C (i := 2) (b := 1) dX12_violations_120 xl2 rfl (by decide) ?_
                refine x_goto C 46 dX12_violations_123 (by decide) ?_
                exact ih46 _ (by omega) (i + 1) c f62 rfl (by omega) (by rw [y_cnb_f hP]; exact hc) (y_fnd_f hfd hP) _ xl0 xl1 rfl
              · skip
                have hP : y_vio σ o m i = true := by
                  unfold y_vio
                  rw [decide_eq_true (show m.toInt64 * (σ.1 53 i).toInt64 < (σ.1 52 i).toInt64 from c72), show x_absent (σ.1 40) (σ.1 41) o (σ.1 49 i) (σ.1 50 i) (σ.1 51 i) = true from c97]
                  rfl
                refine x_aload_n C (i := 0) dX12_violations_100 rfl xl0 ?_
                refine x_getR C fr_38_39 kf_X12_82 dX12_violations_101 ?_
                refine x_aload_n C (i := 0) dX12_violations_104 rfl xl0 ?_
                refine x_getI C fi_38_38 kf_X12_342 dX12_violations_105 ?_
                refine x_topI (y := nI c) rfl ?_
                refine x_iload_n C (i := 2) dX12_violations_108 rfl xl2 ?_
                refine x_iastN C (by decide) rfl (by decide) dX12_violations_109 (by omega) ?_
                refine x_sig (σ' := x_st σ [(38, 0, nI 0), (38, 38, nI c)] [(62, upd f62 c (nI i))] []) (x_st_ua rfl) ?_
                refine x_aload_n C (i := 0) dX12_violations_110 rfl xl0 ?_
                refine x_dup C dX12_violations_111 rfl ?_
                refine x_getI C fi_38_38 kf_X12_342 dX12_violations_112 ?_
                refine x_topI (y := nI c) rfl ?_
                refine x_iconst C (nI 1) dX12_violations_115 rfl ?_
                refine x_iaddN C dX12_violations_116 ?_
                refine x_putN C fi_38_38 kf_X12_342 rfl rfl dX12_violations_117 ?_
                refine x_sig (σ' := x_st σ [(38, 0, nI 0), (38, 38, nI (c + 1))] [(62, upd f62 c (nI i))] []) (x_st_u rfl) ?_
                refine x_iincN C (i := 2) (b := 1) dX12_violations_120 xl2 rfl (by decide) ?_
                refine x_goto C 46 dX12_violations_123 (by decide) ?_
                exact ih46 _ (by omega) (i + 1) (c + 1) (upd f62 c (nI i)) rfl (by omega) (by rw [y_cnb_t hP, hc]) (by rw [hc]; exact y_fnd_t hfd hP) _ xl0 xl1 rfl
      exact lp46 _ 0 0 (σ.1 62) rfl (Nat.zero_le _) rfl (fun j h => absurd h (Nat.not_lt_zero j)) _ rfl rfl rfl
    · skip
      have hz := x_rng_not2 (by decide) c19
      refine x_iconst C (nI 2) dX12_violations_22 rfl ?_
      refine x_goto C 27 dX12_violations_23 (by decide) ?_
      refine x_putN C fi_38_0 kf_X12_85 rfl rfl dX12_violations_27 ?_
      refine x_sig (σ' := x_st σ [(38, 0, nI 2), (38, 38, σ.1 38 38)] [(62, σ.1 62)] []) (x_st_u rfl) ?_
      refine x_aload_n C (i := 0) dX12_violations_30 rfl rfl ?_
      refine x_getI C fi_38_0 kf_X12_85 dX12_violations_31 ?_
      refine x_topI (y := nI 2) rfl ?_
      refine x_if_leN C 39 dX12_violations_34 (by decide) (by omega) (fun c34 => absurd c34 (by decide)) (fun c34 => ?_)
      refine x_iconst C (nI 0) dX12_violations_37 rfl ?_
      refine x_iret C xr xk dX12_violations_38 ?_
      exact hK _ _ (Or.inr (Or.inl ⟨c5, hz, rfl, ((congrArg (fun z => x_u z 38 0 (nI 2)) (x_st_in (σ := σ) (F := [(38, 0, σ.1 38 0), (38, 38, σ.1 38 38)]) (I := [(62, σ.1 62)]) (G := []) (And.intro rfl (And.intro rfl trivial)) (And.intro rfl trivial) trivial)).trans (x_st_u rfl)).symm⟩))
  · skip
    refine x_iconst C (nI 1) dX12_violations_8 rfl ?_
    refine x_goto C 27 dX12_violations_9 (by decide) ?_
    refine x_putN C fi_38_0 kf_X12_85 rfl rfl dX12_violations_27 ?_
    refine x_sig (σ' := x_st σ [(38, 0, nI 1), (38, 38, σ.1 38 38)] [(62, σ.1 62)] []) (x_st_u rfl) ?_
    refine x_aload_n C (i := 0) dX12_violations_30 rfl rfl ?_
    refine x_getI C fi_38_0 kf_X12_85 dX12_violations_31 ?_
    refine x_topI (y := nI 1) rfl ?_
    refine x_if_leN C 39 dX12_violations_34 (by decide) (by omega) (fun c34 => absurd c34 (by decide)) (fun c34 => ?_)
    refine x_iconst C (nI 0) dX12_violations_37 rfl ?_
    refine x_iret C xr xk dX12_violations_38 ?_
    exact hK _ _ (Or.inl ⟨c5, rfl, ((congrArg (fun z => x_u z 38 0 (nI 1)) (x_st_in (σ := σ) (F := [(38, 0, σ.1 38 0), (38, 38, σ.1 38 38)]) (I := [(62, σ.1 62)]) (G := []) (And.intro rfl (And.intro rfl trivial)) (And.intro rfl trivial) trivial)).trans (x_st_u rfl)).symm⟩)
theorem c_X12_violations (l : Launch) (Y : x_Y) (σ : x_S) (m : Int32) (o : Nat) (hn : σ.1 38 4 = nI o) (hn9 : o ≤ 192) (N : Nat) (hN : σ.1 38 20 = nI N) (hN9 : N ≤ 3000) : x_M l yX12_violations cX12_violations 3 (some .int) 2 Y [.ref 38, .int m] σ (fun r τ => (o = 0 ∧ r = some (.int (nI 0)) ∧ τ = x_u σ 38 0 (nI 1)) ∨ (o ≠ 0 ∧ ¬ x_rng m 101 ∧ r = some (.int (nI 0)) ∧ τ = x_u σ 38 0 (nI 2)) ∨ (o ≠ 0 ∧ x_rng m 101 ∧ ∃ f62, (r = some (.int (nI (y_cnb (y_vio σ o m) N))) ∧ τ = x_st σ [(38, 0, nI 0), (38, 38, nI (y_cnb (y_vio σ o m) N))] [(62, f62)] []) ∧ y_fnd (y_vio σ o m) N f62)) := c_X12_violations_K l Y σ m o hn hn9 N hN hN9 _ (fun _ _ h => h)
set_option maxRecDepth 100000 in
set_option maxHeartbeats 200000 in
theorem c_X12_violation_K (l : Launch) (Y : x_Y) (σ : x_S) (i : Int32) (c : Nat) (hc : σ.1 38 38 = nI c) (hc9 : c ≤ 3000) (K : Option Value → x_S → Prop) (hK : ∀ (r : Option Value) (τ : x_S), ((∃ iq, iq < c ∧ i = nI iq ∧ r = some (.int (σ.1 62 iq)) ∧ τ = x_u σ 38 0 (nI 0)) ∨ (¬ x_rng i c ∧ r = some (.int (-1)) ∧ τ = x_u σ 38 0 (nI 0))) → K r τ) : x_M l yX12_violation cX12_violation 2 (some .int) 1 Y [.ref 38, .int i] σ K := by
  refine x_start (by decide) (Nat.le_of_ble_eq_true rfl) ?_
  intro xp xe xs xm xg xb xt xc C xr xk
  refine x_aload_n C (i := 0) dX12_violation_0 rfl rfl ?_
  refine x_iconst C (nI 0) dX12_violation_1 rfl ?_
  refine x_putN C fi_38_0 kf_X12_85 rfl rfl dX12_violation_2 ?_
  refine x_iload_n C (i := 1) dX12_violation_5 rfl rfl ?_
  refine x_iconst C (nI 0) dX12_violation_6 rfl ?_
  refine x_aload_n C (i := 0) dX12_violation_7 rfl rfl ?_
  refine x_getI C fi_38_38 kf_X12_342 dX12_violation_8 ?_
  refine x_topI (y := nI c) hc ?_
  refine x_iconst C (nI 1) dX12_violation_11 rfl ?_
  refine x_isub C dX12_violation_12 ?_
  have hM := c_X12_in l Y (x_u σ 38 0 (nI 0)) i (nI 0) ((nI c) - (nI 1))
  refine x_callS C (as := [.int i, .int (nI 0), .int ((nI c) - (nI 1))]) (st := []) (hM) kb_X12_in ks_X12_96 dX12_violation_13 rfl rfl (Nat.le_of_ble_eq_true rfl) ⟨by decide, by decide⟩ ⟨by decide, by decide⟩ ?_
  clear hM
  intro r9 τ9 h9
  obtain ⟨rfl, h8⟩ := h9
  rw [h8]
  clear h8 τ9
  refine x_if_eqZ C 28 dX12_violation_16 (by decide) (fun c16 => ?_) (fun c16 => ?_)
  · skip
    have hz := x_rng_not (by omega) c16
    refine x_iconst C (-1) dX12_violation_28 rfl ?_
    refine x_iret C xr xk dX12_violation_29 ?_
    exact hK _ _ (Or.inr ⟨hz, rfl, rfl⟩)
  · skip
    obtain ⟨iq, hi1, rfl⟩ := (x_rng_iff (by omega)).mp c16
    refine x_aload_n C (i := 0) dX12_violation_19 rfl rfl ?_
    refine x_getR C fr_38_39 kf_X12_82 dX12_violation_20 ?_
    refine x_iload_n C (i := 1) dX12_violation_23 rfl rfl ?_
    refine x_ialdN C (by decide) rfl (by decide) dX12_violation_24 (by omega) ?_
    refine x_goto C 29 dX12_violation_25 (by decide) ?_
    refine x_iret C xr xk dX12_violation_29 ?_
    exact hK _ _ (Or.inl ⟨iq, hi1, rfl, rfl, rfl⟩)
theorem c_X12_violation (l : Launch) (Y : x_Y) (σ : x_S) (i : Int32) (c : Nat) (hc : σ.1 38 38 = nI c) (hc9 : c ≤ 3000) : x_M l yX12_violation cX12_violation 2 (some .int) 1 Y [.ref 38, .int i] σ (fun r τ => (∃ iq, iq < c ∧ i = nI iq ∧ r = some (.int (σ.1 62 iq)) ∧ τ = x_u σ 38 0 (nI 0)) ∨ (¬ x_rng i c ∧ r = some (.int (-1)) ∧ τ = x_u σ 38 0 (nI 0))) := c_X12_violation_K l Y σ i c hc hc9 _ (fun _ _ h => h)
set_option maxRecDepth 100000 in
set_option maxHeartbeats 200000 in
theorem c_X12_isWithin_K (l : Launch) (Y : x_Y) (σ : x_S) (q : Nat) (mo : Int32) (hq : q < 3000) (K : Option Value → x_S → Prop) (hK : ∀ (r : Option Value) (τ : x_S), (r = some (.int (x_z (y_wp (σ.1 57 q) (σ.2 54 q) mo 3))) ∧ τ = σ) → K r τ) : x_M l yX12_isWithin cX12_isWithin 5 (some .boolean) 1 Y [.ref 38, .int (nI q), .int mo] σ K := by
  refine x_start (by decide) (Nat.le_of_ble_eq_true rfl) ?_
  intro xp xe xs xm xg xb xt xc C xr xk
  refine x_aload_n C (i := 0) dX12_isWithin_0 rfl rfl ?_
  refine x_getR C fr_38_33 kf_X12_66 dX12_isWithin_1 ?_
  refine x_iload_n C (i := 1) dX12_isWithin_4 rfl rfl ?_
  refine x_zaldN C (by decide) rfl (by decide) dX12_isWithin_5 (by omega) ?_
  refine x_if_ne C 29 dX12_isWithin_6 (by decide) (fun c6 => ?_) (fun c6 => ?_)
  · skip
    refine x_iconst C (nI 0) dX12_isWithin_29 rfl ?_
    refine x_istore_n C (i := 3) dX12_isWithin_30 rfl (by decide) ?_
    refine x_iconst C (nI 0) dX12_isWithin_31 rfl ?_
    refine x_istore C (i := 4) dX12_isWithin_32 (by decide) ?_
    have lp34 : ∀ (m34 : Nat) (k : Nat) (is : Bool), (3 - k) = m34 → (k ≤ 3) → (is = y_wp (σ.1 57 q) (σ.2 54 q) mo k) → ∀ L : x_Lo, L.1 0 = some (.ref 38) → L.1 1 = some (.int (nI q)) → L.1 2 = some (.int mo) → L.1 3 = some (.int (x_z is)) → L.1 4 = some (.int (nI k)) → x_W xp l xe (x_rm 1) xs xm xg xb xt xc 5 Y 0 0 (MQ xb (x_Q Y K) xg xs 0 0 (x_A Y)) 34 L [] σ := by
      intro m34
      induction m34 using Nat.strongRecOn with
      | _ m34 ih34 =>
        intro k is hm34 hk hs L xl0 xl1 xl2 xl3 xl4
        refine x_iload C (i := 4) dX12_isWithin_34 xl4 ?_
        refine x_iconst C (nI 3) dX12_isWithin_36 rfl ?_
        refine x_icmp_geN C 76 dX12_isWithin_37 (by decide) (by omega) (by omega) (fun c37 => ?_) (fun c37 => ?_)
        · skip
          have c37' := Nat.not_lt.mpr c37
          obtain rfl : k = 3 := by omega
          refine x_iload_n C (i := 3) dX12_isWithin_76 rfl xl3 ?_
          refine x_zret C xr xk dX12_isWithin_77 (x_z_n _) ?_
          exact hK _ _ ⟨by rw [hs], rfl⟩
        · skip
          have c37' := Nat.not_le.mpr c37
          refine x_iload_n C (i := 3) dX12_isWithin_40 rfl xl3 ?_
          refine x_if_eqZ C 68 dX12_isWithin_41 (by decide) (fun c41 => ?_) (fun c41 => ?_)
          · skip
            refine x_iconst C (nI 0) dX12_isWithin_68 rfl ?_
            refine x_istore_n C (i := 3) dX12_isWithin_69 rfl (by decide) ?_
            refine x_iincN C (i := 4) (b := 1) dX12_isWithin_70 xl4 rfl (by decide) ?_
            refine x_goto C 34 dX12_isWithin_73 (by decide) ?_
            exact ih34 _ (by omega) (k + 1) false rfl (by omega) (by show _ = (y_wp (σ.1 57 q) (σ.2 54 q) mo k && y_w3 (σ.2 54 q) mo k); rw [← hs, c41]; first | rfl | (rw [show y_w3 (σ.2 54 q) mo k = _ from c61]; rfl)) _ xl0 xl1 xl2 rfl rfl
          · skip
            refine x_aload_n C (i := 0) dX12_isWithin_44 rfl xl0 ?_
            refine x_getR C fr_38_30 kf_X12_57 dX12_isWithin_45 ?_
            refine x_iload_n C (i := 1) dX12_isWithin_48 rfl xl1 ?_
            refine x_laldN C (by decide) rfl (by decide) dX12_isWithin_49 (by omega) ?_
            refine x_iload C (i := 4) dX12_isWithin_50 xl4 ?_
            have hM := c_X12_part l Y σ (σ.2 54 q) k (by omega)
            refine x_callS C (as := [.long (σ.2 54 q), .int (nI k)]) (st := []) (hM) kb_X12_part ks_X12_244 dX12_isWithin_52 rfl rfl (Nat.le_of_ble_eq_true rfl) ⟨by decide, by decide⟩ ⟨by decide, by decide⟩ ?_
            clear hM
            intro r9 τ9 h9
            obtain ⟨rfl, h8⟩ := h9
            rw [h8]
            clear h8 τ9
            refine x_iload_n C (i := 2) dX12_isWithin_55 rfl xl2 ?_
            refine x_ineg C dX12_isWithin_56 ?_
            refine x_iload_n C (i := 2) dX12_isWithin_57 rfl xl2 ?_
            have hM := c_X12_in l Y σ (x_part (σ.2 54 q) k) (-mo) mo
            refine x_callS C (as := [.int (x_part (σ.2 54 q) k), .int (-mo), .int mo]) (st := []) (hM) kb_X12_in ks_X12_96 dX12_isWithin_58 rfl rfl (Nat.le_of_ble_eq_true rfl) ⟨by decide, by decide⟩ ⟨by decide, by decide⟩ ?_
            clear hM
            intro r9 τ9 h9
            obtain ⟨rfl, h8⟩ := h9
            rw [h8]
            clear h8 τ9
            refine x_if_eqZ C 68 dX12_isWithin_61 (by decide) (fun c61 => ?_) (fun c61 => ?_)
            · skip
              refine x_iconst C (nI 0) dX12_isWithin_68 rfl ?_
              refine x_istore_n C (i := 3) dX12_isWithin_69 rfl (by decide) ?_
              refine x_iincN C (i := 4) (b := 1) dX12_isWithin_70 xl4 rfl (by decide) ?_
              refine x_goto C 34 dX12_isWithin_73 (by decide) ?_
              exact ih34 _ (by omega) (k + 1) false rfl (by omega) (by show _ = (y_wp (σ.1 57 q) (σ.2 54 q) mo k && y_w3 (σ.2 54 q) mo k); rw [← hs, c41]; first | rfl | (rw [show y_w3 (σ.2 54 q) mo k = _ from c61]; rfl)) _ xl0 xl1 xl2 rfl rfl
            · skip
              refine x_iconst C (nI 1) dX12_isWithin_64 rfl ?_
              refine x_goto C 69 dX12_isWithin_65 (by decide) ?_
              refine x_istore_n C (i := 3) dX12_isWithin_69 rfl (by decide) ?_
              refine x_iincN C (i := 4) (b := 1) dX12_isWithin_70 xl4 rfl (by decide) ?_
              refine x_goto C 34 dX12_isWithin_73 (by decide) ?_
              exact ih34 _ (by omega) (k + 1) true rfl (by omega) (by show _ = (y_wp (σ.1 57 q) (σ.2 54 q) mo k && y_w3 (σ.2 54 q) mo k); rw [← hs, c41]; first | rfl | (rw [show y_w3 (σ.2 54 q) mo k = _ from c61]; rfl)) _ xl0 xl1 xl2 rfl rfl
    exact lp34 _ 0 false rfl (by decide) (by unfold y_wp; first | (rw [decide_eq_false (show ¬ σ.1 57 q = 0 from c6)]; rfl) | (rw [decide_eq_true (show σ.1 57 q = 0 from c6), decide_eq_true (show σ.2 54 q = x_key (nI 0) (nI 0) (nI 0) from c22)]; rfl) | (rw [decide_eq_true (show σ.1 57 q = 0 from c6), decide_eq_false (show ¬ σ.2 54 q = x_key (nI 0) (nI 0) (nI 0) from c22)]; rfl)) _ rfl rfl rfl rfl rfl
  · skip
    refine x_aload_n C (i := 0) dX12_isWithin_9 rfl rfl ?_
    refine x_getR C fr_38_30 kf_X12_57 dX12_isWithin_10 ?_
    refine x_iload_n C (i := 1) dX12_isWithin_13 rfl rfl ?_
    refine x_laldN C (by decide) rfl (by decide) dX12_isWithin_14 (by omega) ?_
    refine x_iconst C (nI 0) dX12_isWithin_15 rfl ?_
    refine x_iconst C (nI 0) dX12_isWithin_16 rfl ?_
    refine x_iconst C (nI 0) dX12_isWithin_17 rfl ?_
    have hM := c_X12_key l Y σ (nI 0) (nI 0) (nI 0)
    refine x_callS C (as := [.int (nI 0), .int (nI 0), .int (nI 0)]) (st := [.long (σ.2 54 q)]) (hM) kb_X12_key ks_X12_229 dX12_isWithin_18 rfl rfl (Nat.le_of_ble_eq_true rfl) ⟨by decide, by decide⟩ ⟨by decide, by decide⟩ ?_
    clear hM
    intro r9 τ9 h9
    obtain ⟨rfl, h8⟩ := h9
    rw [h8]
    clear h8 τ9
    refine x_lcmp C dX12_isWithin_21 ?_
    refine x_if_eq C 29 dX12_isWithin_22 (by decide) (fun c22 => ?_) (fun c22 => ?_)
    · skip
      have c22 := (lg_cmp_eq _ _).mp c22
      refine x_iconst C (nI 0) dX12_isWithin_29 rfl ?_
      refine x_istore_n C (i := 3) dX12_isWithin_30 rfl (by decide) ?_
      refine x_iconst C (nI 0) dX12_isWithin_31 rfl ?_
      refine x_istore C (i := 4) dX12_isWithin_32 (by decide) ?_
      have lp34 : ∀ (m34 : Nat) (k : Nat) (is : Bool), (3 - k) = m34 → (k ≤ 3) → (is = y_wp (σ.1 57 q) (σ.2 54 q) mo k) → ∀ L : x_Lo, L.1 0 = some (.ref 38) → L.1 1 = some (.int (nI q)) → L.1 2 = some (.int mo) → L.1 3 = some (.int (x_z is)) → L.1 4 = some (.int (nI k)) → x_W xp l xe (x_rm 1) xs xm xg xb xt xc 5 Y 0 0 (MQ xb (x_Q Y K) xg xs 0 0 (x_A Y)) 34 L [] σ := by
        intro m34
        induction m34 using Nat.strongRecOn with
        | _ m34 ih34 =>
          intro k is hm34 hk hs L xl0 xl1 xl2 xl3 xl4
          refine x_iload C (i := 4) dX12_isWithin_34 xl4 ?_
          refine x_iconst C (nI 3) dX12_isWithin_36 rfl ?_
          refine x_icmp_geN C 76 dX12_isWithin_37 (by decide) (by omega) (by omega) (fun c37 => ?_) (fun c37 => ?_)
          · skip
            have c37' := Nat.not_lt.mpr c37
            obtain rfl : k = 3 := by omega
            refine x_iload_n C (i := 3) dX12_isWithin_76 rfl xl3 ?_
            refine x_zret C xr xk dX12_isWithin_77 (x_z_n _) ?_
            exact hK _ _ ⟨by rw [hs], rfl⟩
          · skip
            have c37' := Nat.not_le.mpr c37
            refine x_iload_n C (i := 3) dX12_isWithin_40 rfl xl3 ?_
            refine x_if_eqZ C 68 dX12_isWithin_41 (by decide) (fun c41 => ?_) (fun c41 => ?_)
            · skip
              refine x_iconst C (nI 0) dX12_isWithin_68 rfl ?_
              refine x_istore_n C (i := 3) dX12_isWithin_69 rfl (by decide) ?_
              refine x_iincN C (i := 4) (b := 1) dX12_isWithin_70 xl4 rfl (by decide) ?_
              refine x_goto C 34 dX12_isWithin_73 (by decide) ?_
              exact ih34 _ (by omega) (k + 1) false rfl (by omega) (by show _ = (y_wp (σ.1 57 q) (σ.2 54 q) mo k && y_w3 (σ.2 54 q) mo k); rw [← hs, c41]; first | rfl | (rw [show y_w3 (σ.2 54 q) mo k = _ from c61]; rfl)) _ xl0 xl1 xl2 rfl rfl
            · skip
              refine x_aload_n C (i := 0) dX12_isWithin_44 rfl xl0 ?_
              refine x_getR C fr_38_30 kf_X12_57 dX12_isWithin_45 ?_
              refine x_iload_n C (i := 1) dX12_isWithin_48 rfl xl1 ?_
              refine x_laldN C (by decide) rfl (by decide) dX12_isWithin_49 (by omega) ?_
              refine x_iload C (i := 4) dX12_isWithin_50 xl4 ?_
              have hM := c_X12_part l Y σ (σ.2 54 q) k (by omega)
              refine x_callS C (as := [.long (σ.2 54 q), .int (nI k)]) (st := []) (hM) kb_X12_part ks_X12_244 dX12_isWithin_52 rfl rfl (Nat.le_of_ble_eq_true rfl) ⟨by decide, by decide⟩ ⟨by decide, by decide⟩ ?_
              clear hM
              intro r9 τ9 h9
              obtain ⟨rfl, h8⟩ := h9
              rw [h8]
              clear h8 τ9
              refine x_iload_n C (i := 2) dX12_isWithin_55 rfl xl2 ?_
              refine x_ineg C dX12_isWithin_56 ?_
              refine x_iload_n C (i := 2) dX12_isWithin_57 rfl xl2 ?_
              have hM := c_X12_in l Y σ (x_part (σ.2 54 q) k) (-mo) mo
              refine x_callS C (as := [.int (x_part (σ.2 54 q) k), .int (-mo), .int mo]) (st := []) (hM) kb_X12_in ks_X12_96 dX12_isWithin_58 rfl rfl (Nat.le_of_ble_eq_true rfl) ⟨by decide, by decide⟩ ⟨by decide, by decide⟩ ?_
              clear hM
              intro r9 τ9 h9
              obtain ⟨rfl, h8⟩ := h9
              rw [h8]
              clear h8 τ9
              refine x_if_eqZ C 68 dX12_isWithin_61 (by decide) (fun c61 => ?_) (fun c61 => ?_)
              · skip
                refine x_iconst C (nI 0) dX12_isWithin_68 rfl ?_
                refine x_istore_n C (i := 3) dX12_isWithin_69 rfl (by decide) ?_
                refine x_iincN C (i := 4) (b := 1) dX12_isWithin_70 xl4 rfl (by decide) ?_
                refine x_goto C 34 dX12_isWithin_73 (by decide) ?_
                exact ih34 _ (by omega) (k + 1) false rfl (by omega) (by show _ = (y_wp (σ.1 57 q) (σ.2 54 q) mo k && y_w3 (σ.2 54 q) mo k); rw [← hs, c41]; first | rfl | (rw [show y_w3 (σ.2 54 q) mo k = _ from c61]; rfl)) _ xl0 xl1 xl2 rfl rfl
              · skip
                refine x_iconst C (nI 1) dX12_isWithin_64 rfl ?_
                refine x_goto C 69 dX12_isWithin_65 (by decide) ?_
                refine x_istore_n C (i := 3) dX12_isWithin_69 rfl (by decide) ?_
                refine x_iincN C (i := 4) (b := 1) dX12_isWithin_70 xl4 rfl (by decide) ?_
                refine x_goto C 34 dX12_isWithin_73 (by decide) ?_
                exact ih34 _ (by omega) (k + 1) true rfl (by omega) (by show _ = (y_wp (σ.1 57 q) (σ.2 54 q) mo k && y_w3 (σ.2 54 q) mo k); rw [← hs, c41]; first | rfl | (rw [show y_w3 (σ.2 54 q) mo k = _ from c61]; rfl)) _ xl0 xl1 xl2 rfl rfl
      exact lp34 _ 0 false rfl (by decide) (by unfold y_wp; first | (rw [decide_eq_false (show ¬ σ.1 57 q = 0 from c6)]; rfl) | (rw [decide_eq_true (show σ.1 57 q = 0 from c6), decide_eq_true (show σ.2 54 q = x_key (nI 0) (nI 0) (nI 0) from c22)]; rfl) | (rw [decide_eq_true (show σ.1 57 q = 0 from c6), decide_eq_false (show ¬ σ.2 54 q = x_key (nI 0) (nI 0) (nI 0) from c22)]; rfl)) _ rfl rfl rfl rfl rfl
    · skip
      have c22 := fun z => c22 ((lg_cmp_eq _ _).mpr z)
      refine x_iconst C (nI 1) dX12_isWithin_25 rfl ?_
      refine x_goto C 30 dX12_isWithin_26 (by decide) ?_
      refine x_istore_n C (i := 3) dX12_isWithin_30 rfl (by decide) ?_
      refine x_iconst C (nI 0) dX12_isWithin_31 rfl ?_
      refine x_istore C (i := 4) dX12_isWithin_32 (by decide) ?_
      have lp34 : ∀ (m34 : Nat) (k : Nat) (is : Bool), (3 - k) = m34 → (k ≤ 3) → (is = y_wp (σ.1 57 q) (σ.2 54 q) mo k) → ∀ L : x_Lo, L.1 0 = some (.ref 38) → L.1 1 = some (.int (nI q)) → L.1 2 = some (.int mo) → L.1 3 = some (.int (x_z is)) → L.1 4 = some (.int (nI k)) → x_W xp l xe (x_rm 1) xs xm xg xb xt xc 5 Y 0 0 (MQ xb (x_Q Y K) xg xs 0 0 (x_A Y)) 34 L [] σ := by
        intro m34
        induction m34 using Nat.strongRecOn with
        | _ m34 ih34 =>
          intro k is hm34 hk hs L xl0 xl1 xl2 xl3 xl4
          refine x_iload C (i := 4) dX12_isWithin_34 xl4 ?_
          refine x_iconst C (nI 3) dX12_isWithin_36 rfl ?_
          refine x_icmp_geN C 76 dX12_isWithin_37 (by decide) (by omega) (by omega) (fun c37 => ?_) (fun c37 => ?_)
          · skip
            have c37' := Nat.not_lt.mpr c37
            obtain rfl : k = 3 := by omega
            refine x_iload_n C (i := 3) dX12_isWithin_76 rfl xl3 ?_
            refine x_zret C xr xk dX12_isWithin_77 (x_z_n _) ?_
            exact hK _ _ ⟨by rw [hs], rfl⟩
          · skip
            have c37' := Nat.not_le.mpr c37
            refine x_iload_n C (i := 3) dX12_isWithin_40 rfl xl3 ?_
            refine x_if_eqZ C 68 dX12_isWithin_41 (by decide) (fun c41 => ?_) (fun c41 => ?_)
            · skip
              refine x_iconst C (nI 0) dX12_isWithin_68 rfl ?_
              refine x_istore_n C (i := 3) dX12_isWithin_69 rfl (by decide) ?_
              refine x_iincN C (i := 4) (b := 1) dX12_isWithin_70 xl4 rfl (by decide) ?_
              refine x_goto C 34 dX12_isWithin_73 (by decide) ?_
              exact ih34 _ (by omega) (k + 1) false rfl (by omega) (by show _ = (y_wp (σ.1 57 q) (σ.2 54 q) mo k && y_w3 (σ.2 54 q) mo k); rw [← hs, c41]; first | rfl | (rw [show y_w3 (σ.2 54 q) mo k = _ from c61]; rfl)) _ xl0 xl1 xl2 rfl rfl
            · skip
              refine x_aload_n C (i := 0) dX12_isWithin_44 rfl xl0 ?_
              refine x_getR C fr_38_30 kf_X12_57 dX12_isWithin_45 ?_
              refine x_iload_n C (i := 1) dX12_isWithin_48 rfl xl1 ?_
              refine x_laldN C (by decide) rfl (by decide) dX12_isWithin_49 (by omega) ?_
              refine x_iload C (i := 4) dX12_isWithin_50 xl4 ?_
              have hM := c_X12_part l Y σ (σ.2 54 q) k (by omega)
              refine x_callS C (as := [.long (σ.2 54 q), .int (nI k)]) (st := []) (hM) kb_X12_part ks_X12_244 dX12_isWithin_52 rfl rfl (Nat.le_of_ble_eq_true rfl) ⟨by decide, by decide⟩ ⟨by decide, by decide⟩ ?_
              clear hM
              intro r9 τ9 h9
              obtain ⟨rfl, h8⟩ := h9
              rw [h8]
              clear h8 τ9
              refine x_iload_n C (i := 2) dX12_isWithin_55 rfl xl2 ?_
              refine x_ineg C dX12_isWithin_56 ?_
              refine x_iload_n C (i := 2) dX12_isWithin_57 rfl xl2 ?_
              have hM := c_X12_in l Y σ (x_part (σ.2 54 q) k) (-mo) mo
              refine x_callS C (as := [.int (x_part (σ.2 54 q) k), .int (-mo), .int mo]) (st := []) (hM) kb_X12_in ks_X12_96 dX12_isWithin_58 rfl rfl (Nat.le_of_ble_eq_true rfl) ⟨by decide, by decide⟩ ⟨by decide, by decide⟩ ?_
              clear hM
              intro r9 τ9 h9
              obtain ⟨rfl, h8⟩ := h9
              rw [h8]
              clear h8 τ9
              refine x_if_eqZ C 68 dX12_isWithin_61 (by decide) (fun c61 => ?_) (fun c61 => ?_)
              · skip
                refine x_iconst C (nI 0) dX12_isWithin_68 rfl ?_
                refine x_istore_n C (i := 3) dX12_isWithin_69 rfl (by decide) ?_
                refine x_iincN C (i := 4) (b := 1) dX12_isWithin_70 xl4 rfl (by decide) ?_
                refine x_goto C 34 dX12_isWithin_73 (by decide) ?_
                exact ih34 _ (by omega) (k + 1) false rfl (by omega) (by show _ = (y_wp (σ.1 57 q) (σ.2 54 q) mo k && y_w3 (σ.2 54 q) mo k); rw [← hs, c41]; first | rfl | (rw [show y_w3 (σ.2 54 q) mo k = _ from c61]; rfl)) _ xl0 xl1 xl2 rfl rfl
              · skip
                refine x_iconst C (nI 1) dX12_isWithin_64 rfl ?_
                refine x_goto C 69 dX12_isWithin_65 (by decide) ?_
                refine x_istore_n C (i := 3) dX12_isWithin_69 rfl (by decide) ?_
                refine x_iincN C (i := 4) (b := 1) dX12_isWithin_70 xl4 rfl (by decide) ?_
                refine x_goto C 34 dX12_isWithin_73 (by decide) ?_
                exact ih34 _ (by omega) (k + 1) true rfl (by omega) (by show _ = (y_wp (σ.1 57 q) (σ.2 54 q) mo k && y_w3 (σ.2 54 q) mo k); rw [← hs, c41]; first | rfl | (rw [show y_w3 (σ.2 54 q) mo k = _ from c61]; rfl)) _ xl0 xl1 xl2 rfl rfl
      exact lp34 _ 0 true rfl (by decide) (by unfold y_wp; first | (rw [decide_eq_false (show ¬ σ.1 57 q = 0 from c6)]; rfl) | (rw [decide_eq_true (show σ.1 57 q = 0 from c6), decide_eq_true (show σ.2 54 q = x_key (nI 0) (nI 0) (nI 0) from c22)]; rfl) | (rw [decide_eq_true (show σ.1 57 q = 0 from c6), decide_eq_false (show ¬ σ.2 54 q = x_key (nI 0) (nI 0) (nI 0) from c22)]; rfl)) _ rfl rfl rfl rfl rfl
theorem c_X12_isWithin (l : Launch) (Y : x_Y) (σ : x_S) (q : Nat) (mo : Int32) (hq : q < 3000) : x_M l yX12_isWithin cX12_isWithin 5 (some .boolean) 1 Y [.ref 38, .int (nI q), .int mo] σ (fun r τ => r = some (.int (x_z (y_wp (σ.1 57 q) (σ.2 54 q) mo 3))) ∧ τ = σ) := c_X12_isWithin_K l Y σ q mo hq _ (fun _ _ h => h)
set_option maxRecDepth 100000 in
set_option maxHeartbeats 1000000 in
theorem c_X12_complete_K (l : Launch) (Y : x_Y) (σ : x_S) (mo w : Int32) (o : Nat) (hn : σ.1 38 4 = nI o) (hn9 : o ≤ 192) (n : Nat) (hN : σ.1 38 29 = nI n) (hN9 : n ≤ 3000) (K : Option Value → x_S → Prop) (hK : ∀ (r : Option Value) (τ : x_S), ((o = 0 ∧ r = some (.int (nI 0)) ∧ τ = x_u σ 38 0 (nI 1)) ∨ (o ≠ 0 ∧ ¬ y_mo mo ∧ r = some (.int (nI 0)) ∧ τ = x_u σ 38 0 (nI 2)) ∨ (o ≠ 0 ∧ y_mo mo ∧ ¬ x_rng w 2 ∧ r = some (.int (nI 0)) ∧ τ = x_u σ 38 0 (nI 3)) ∨ (∃ mq, o ≠ 0 ∧ 0 < mq ∧ mq < 13 ∧ mo = nI mq ∧ ((w = nI 0 ∧ r = some (.int (nI (y_cnb (fun q => y_wp (σ.1 57 q) (σ.2 54 q) (nI mq) 3) n)))) ∨ (w = nI 1 ∧ r = some (.int (nI (y_c3 σ o mq))))) ∧ τ = x_u σ 38 0 (nI 0))) → K r τ) : x_M l yX12_complete cX12_complete 8 (some .int) 2 Y [.ref 38, .int mo, .int w] σ K := by
  refine x_start (by decide) (Nat.le_of_ble_eq_true rfl) ?_
  intro xp xe xs xm xg xb xt xc C xr xk
  refine x_aload_n C (i := 0) dX12_complete_0 rfl rfl ?_
  refine x_aload_n C (i := 0) dX12_complete_1 rfl rfl ?_
  refine x_getI C fi_38_4 kf_X12_183 dX12_complete_2 ?_
  refine x_topI (y := nI o) hn ?_
  refine x_if_neN C 12 dX12_complete_5 (by decide) (by omega) (fun c5 => ?_) (fun c5 => ?_)
  · skip
    refine x_iload_n C (i := 1) dX12_complete_12 rfl rfl ?_
    refine x_iconst C (nI 1) dX12_complete_13 rfl ?_
    refine x_bipush C (nI 12) dX12_complete_14 rfl ?_
    have hM := c_X12_in l Y σ mo (nI 1) (nI 12)
    refine x_callS C (as := [.int mo, .int (nI 1), .int (nI 12)]) (st := [.ref 38]) (hM) kb_X12_in ks_X12_96 dX12_complete_16 rfl rfl (Nat.le_of_ble_eq_true rfl) ⟨by decide, by decide⟩ ⟨by decide, by decide⟩ ?_
    clear hM
    intro r9 τ9 h9
    obtain ⟨rfl, h8⟩ := h9
    rw [h8]
    clear h8 τ9
    refine x_if_neZ C 26 dX12_complete_19 (by decide) (fun c19 => ?_) (fun c19 => ?_)
    · skip
      obtain ⟨mq, hm0, hm9, rfl⟩ := y_in12.mp c19
      refine x_iload_n C (i := 2) dX12_complete_26 rfl rfl ?_
      refine x_iconst C (nI 0) dX12_complete_27 rfl ?_
      refine x_iconst C (nI 1) dX12_complete_28 rfl ?_
      have hM := c_X12_in l Y σ w (nI 0) (nI 1)
      refine x_callS C (as := [.int w, .int (nI 0), .int (nI 1)]) (st := [.ref 38]) (hM) kb_X12_in ks_X12_96 dX12_complete_29 rfl rfl (Nat.le_of_ble_eq_true rfl) ⟨by decide, by decide⟩ ⟨by decide, by decide⟩ ?_
      clear hM
      intro r9 τ9 h9
      obtain ⟨rfl, h8⟩ := h9
      rw [h8]
      clear h8 τ9
      refine x_if_neZ C 39 dX12_complete_32 (by decide) (fun c32 => ?_) (fun c32 => ?_)
      · skip
        obtain ⟨wq, hw9, rfl⟩ := (x_rng_iff2 (by decide)).mp c32
        refine x_iconst C (nI 0) dX12_complete_39 rfl ?_
        refine x_putN C fi_38_0 kf_X12_85 rfl rfl dX12_complete_40 ?_
        refine x_aload_n C (i := 0) dX12_complete_43 rfl rfl ?_
        refine x_getI C fi_38_0 kf_X12_85 dX12_complete_44 ?_
        refine x_topI (y := nI 0) rfl ?_
        refine x_if_leN C 52 dX12_complete_47 (by decide) (by omega) (fun c47 => ?_) (fun c47 => absurd c47 (by decide))
        refine x_iconst C (nI 0) dX12_complete_52 rfl ?_
        refine x_istore_n C (i := 3) dX12_complete_53 rfl (by decide) ?_
        refine x_iconst C (nI 0) dX12_complete_54 rfl ?_
        refine x_istore C (i := 4) dX12_complete_55 (by decide) ?_
        have lp57 : ∀ (m57 : Nat) (x : Nat) (c : Nat), (n - x) = m57 → (x ≤ n) → ((wq = 0 ∧ c = y_cnb (fun q => y_wp (σ.1 57 q) (σ.2 54 q) (nI mq) 3) x) ∨ (wq = 1 ∧ c = 0)) → ∀ L : x_Lo, L.1 0 = some (.ref 38) → L.1 1 = some (.int (nI mq)) → L.1 2 = some (.int (nI wq)) → L.1 3 = some (.int (nI c)) → L.1 4 = some (.int (nI x)) → x_W xp l xe (x_rm 2) xs xm xg xb xt xc 8 Y 0 0 (MQ xb (x_Q Y K) xg xs 0 0 (x_A Y)) 57 L [] (x_u σ 38 0 (nI 0)) := by
          intro m57
          induction m57 using Nat.strongRecOn with
          | _ m57 ih57 =>
            intro x c hm57 hx hc L xl0 xl1 xl2 xl3 xl4
            have lp94 : ∀ (c2 : Nat), ((wq = 0 ∧ c2 = y_cnb (fun q => y_wp (σ.1 57 q) (σ.2 54 q) (nI mq) 3) n) ∨ (wq = 1 ∧ c2 = 0)) → ∀ L : x_Lo, L.1 0 = some (.ref 38) → L.1 1 = some (.int (nI mq)) → L.1 2 = some (.int (nI wq)) → L.1 3 = some (.int (nI c2)) → x_W xp l xe (x_rm 2) xs xm xg xb xt xc 8 Y 0 0 (MQ xb (x_Q Y K) xg xs 0 0 (x_A Y)) 94 L [] (x_u σ 38 0 (nI 0)) := by
              intro c2 hc2 L xl0 xl1 xl2 xl3
              refine x_iconst C (nI 0) dX12_complete_94 rfl ?_
              refine x_istore C (i := 4) dX12_complete_95 (by decide) ?_
              have lp97 : ∀ (m97 : Nat) (h : Nat) (y : Nat), (mq + 1 - h) = m97 → (h ≤ mq + 1) → ((wq = 0 ∧ y = y_cnb (fun q => y_wp (σ.1 57 q) (σ.2 54 q) (nI mq) 3) n ∧ h = 0) ∨ (wq = 1 ∧ y = y_sum (fun h => y_c2 σ o mq (nI h)) h)) → ∀ L : x_Lo, L.1 0 = some (.ref 38) → L.1 1 = some (.int (nI mq)) → L.1 2 = some (.int (nI wq)) → L.1 3 = some (.int (nI y)) → L.1 4 = some (.int (nI h)) → x_W xp l xe (x_rm 2) xs xm xg xb xt xc 8 Y 0 0 (MQ xb (x_Q Y K) xg xs 0 0 (x_A Y)) 97 L [] (x_u σ 38 0 (nI 0)) := by
                intro m97
                induction m97 using Nat.strongRecOn with
                | _ m97 ih97 =>
                  intro h y hm97 hh hy L xl0 xl1 xl2 xl3 xl4
                  refine x_iload C (i := 4) dX12_complete_97 xl4 ?_
                  refine x_iload_n C (i := 1) dX12_complete_99 rfl xl1 ?_
                  refine x_icmp_gtN C 217 dX12_complete_100 (by decide) (by omega) (by omega) (fun c100 => ?_) (fun c100 => ?_)
                  · skip
                    have c100' := Nat.not_le.mpr c100
                    have hfin : (nI wq = nI 0 ∧ y = y_cnb (fun q => y_wp (σ.1 57 q) (σ.2 54 q) (nI mq) 3) n) ∨ (nI wq = nI 1 ∧ y = y_c3 σ o mq) := by
                      rcases hy with h9 | h9
                      · omega
                      · refine Or.inr ⟨by rw [h9.1], ?_⟩
                        rw [h9.2, show h = mq + 1 by omega]
                        rfl
                    refine x_iload_n C (i := 3) dX12_complete_217 rfl xl3 ?_
                    refine x_iret C xr xk dX12_complete_218 ?_
                    exact hK _ _ (Or.inr (Or.inr (Or.inr ⟨mq, c5, hm0, hm9, rfl, by
                        rcases hfin with h9 | h9
                        · exact Or.inl ⟨h9.1, by rw [h9.2]⟩
                        · exact Or.inr ⟨h9.1, by rw [h9.2]⟩, rfl⟩)))
                  · skip
                    have c100' := Nat.not_lt.mpr c100
                    refine x_iload_n C (i := 2) dX12_complete_103 rfl xl2 ?_
                    refine x_iconst C (nI 1) dX12_complete_104 rfl ?_
                    refine x_icmp_neN C 217 dX12_complete_105 (by decide) (by omega) (by omega) (fun c105 => ?_) (fun c105 => ?_)
                    · skip
                      have hfin : (nI wq = nI 0 ∧ y = y_cnb (fun q => y_wp (σ.1 57 q) (σ.2 54 q) (nI mq) 3) n) ∨ (nI wq = nI 1 ∧ y = y_c3 σ o mq) := by
                        rcases hy with h9 | h9
                        · exact Or.inl ⟨by rw [h9.1], h9.2.1⟩
                        · exact absurd h9.1 c105
                      refine x_iload_n C (i := 3) dX12_complete_217 rfl xl3 ?_
                      refine x_iret C xr xk dX12_complete_218 ?_
                      exact hK _ _ (Or.inr (Or.inr (Or.inr ⟨mq, c5, hm0, hm9, rfl, by
                          rcases hfin with h9 | h9
                          · exact Or.inl ⟨h9.1, by rw [h9.2]⟩
                          · exact Or.inr ⟨h9.1, by rw [h9.2]⟩, rfl⟩)))
                    · skip
                      refine x_iload_n C (i := 1) dX12_complete_108 rfl xl1 ?_
                      refine x_ineg C dX12_complete_109 ?_
                      refine x_istore C (i := 5) dX12_complete_110 (by decide) ?_
                      have lp112 : ∀ (m112 : Nat) (k : Nat) (kv : Int32) (y2 : Nat), (2 * mq + 1 - k) = m112 → (kv = y_fm mq k) → (k ≤ 2 * mq + 1) → (y2 = y + y_sum (fun k => y_c1 σ o mq (nI h) (y_fm mq k)) k) → ∀ L : x_Lo, L.1 0 = some (.ref 38) → L.1 1 = some (.int (nI mq)) → L.1 2 = some (.int (nI wq)) → L.1 3 = some (.int (nI y2)) → L.1 4 = some (.int (nI h)) → L.1 5 = some (.int kv) → x_W xp l xe (x_rm 2) xs xm xg xb xt xc 8 Y 0 0 (MQ xb (x_Q Y K) xg xs 0 0 (x_A Y)) 112 L [] (x_u σ 38 0 (nI 0)) := by
                        intro m112
                        induction m112 using Nat.strongRecOn with
                        | _ m112 ih112 =>
                          intro k kv y2 hm112 hkv hk hy2 L xl0 xl1 xl2 xl3 xl4 xl5
                          refine x_iload C (i := 5) dX12_complete_112 xl5 ?_
                          refine x_iload_n C (i := 1) dX12_complete_114 rfl xl1 ?_
                          refine x_jcmp_gt C 211 dX12_complete_115 (by decide) (fun c115 => ?_) (fun c115 => ?_)
                          · skip
                            have c115' := Int32.not_le.mpr c115
                            have hkk : k = 2 * mq + 1 := by
                              rw [hkv] at c115'
                              have h9 := mt (y_fm_le mq hm9 k (by omega)).mpr c115'
                              omega
                            have hz5 : y2 = y_sum (fun h => y_c2 σ o mq (nI h)) (h + 1) := by
                              rcases hy with h9 | h9
                              · omega
                              · show _ = y_sum (fun h => y_c2 σ o mq (nI h)) h + y_c2 σ o mq (nI h)
                                rw [hy2, hkk, h9.2]
                                rfl
                            refine x_iincN C (i := 4) (b := 1) dX12_complete_211 xl4 rfl (by decide) ?_
                            refine x_goto C 97 dX12_complete_214 (by decide) ?_
                            exact ih97 _ (by omega) (h + 1) y2 rfl (by omega) (Or.inr ⟨c105, hz5⟩) _ xl0 xl1 xl2 xl3 rfl
                          · skip
                            have c115' := Int32.not_lt.mpr c115
                            have hkk : k ≤ 2 * mq := (y_fm_le mq hm9 k (by omega)).mp (by rw [← hkv]; exact c115)
                            refine x_iload_n C (i := 1) dX12_complete_118 rfl xl1 ?_
                            refine x_ineg C dX12_complete_119 ?_
                            refine x_istore C (i := 6) dX12_complete_120 (by decide) ?_
                            have lp122 : ∀ (m122 : Nat) (j : Nat) (lv : Int32) (y3 : Nat), (2 * mq + 1 - j) = m122 → (lv = y_fm mq j) → (j ≤ 2 * mq + 1) → (y3 = y2 + y_cnb (fun j => y_own σ o (nI h) (y_fm mq k) (y_fm mq j)) j) → ∀ L : x_Lo, L.1 0 = some (.ref 38) → L.1 1 = some (.int (nI mq)) → L.1 2 = some (.int (nI wq)) → L.1 3 = some (.int (nI y3)) → L.1 4 = some (.int (nI h)) → L.1 5 = some (.int kv) → L.1 6 = some (.int lv) → x_W xp l xe (x_rm 2) xs xm xg xb xt xc 8 Y 0 0 (MQ xb (x_Q Y K) xg xs 0 0 (x_A Y)) 122 L [] (x_u σ 38 0 (nI 0)) := by
                              intro m122
                              induction m122 using Nat.strongRecOn with
                              | _ m122 ih122 =>
                                intro j lv y3 hm122 hlv hj hy3 L xl0 xl1 xl2 xl3 xl4 xl5 xl6
                                refine x_iload C (i := 6) dX12_complete_122 xl6 ?_
                                refine x_iload_n C (i := 1) dX12_complete_124 rfl xl1 ?_
                                refine x_jcmp_gt C 205 dX12_complete_125 (by decide) (fun c125 => ?_) (fun c125 => ?_)
                                · skip
                                  have c125' := Int32.not_le.mpr c125
                                  have hjj : j = 2 * mq + 1 := by
                                    rw [hlv] at c125'
                                    have h9 := mt (y_fm_le mq hm9 j (by omega)).mpr c125'
                                    omega
                                  have hz6 : y3 = y + y_sum (fun k => y_c1 σ o mq (nI h) (y_fm mq k)) (k + 1) := by
                                    show _ = y + (y_sum (fun k => y_c1 σ o mq (nI h) (y_fm mq k)) k + y_c1 σ o mq (nI h) (y_fm mq k))
                                    rw [hy3, hy2, hjj, Nat.add_assoc]
                                    rfl
                                  refine x_iinc C (i := 5) (1) dX12_complete_205 xl5 rfl (by decide) ?_
                                  refine x_goto C 112 dX12_complete_208 (by decide) ?_
                                  exact ih112 _ (by omega) (k + 1) (kv + (1)) y3 rfl (by rw [hkv]; exact y_fm_s mq k) (by omega) hz6 _ xl0 xl1 xl2 xl3 xl4 rfl
                                · skip
                                  have c125' := Int32.not_lt.mpr c125
                                  have hjj : j ≤ 2 * mq := (y_fm_le mq hm9 j (by omega)).mp (by rw [← hlv]; exact c125)
                                  subst hkv
                                  subst hlv
                                  refine x_iload C (i := 4) dX12_complete_128 xl4 ?_
                                  have lp143 : ((decide (nI h = 0) && decide (y_fm mq k = 0) && decide (y_fm mq j = 0)) = false) → ∀ L : x_Lo, L.1 0 = some (.ref 38) → L.1 1 = some (.int (nI mq)) → L.1 2 = some (.int (nI wq)) → L.1 3 = some (.int (nI y3)) → L.1 4 = some (.int (nI h)) → L.1 5 = some (.int (y_fm mq k)) → L.1 6 = some (.int (y_fm mq j)) → x_W xp l xe (x_rm 2) xs xm xg xb xt xc 8 Y 0 0 (MQ xb (x_Q Y K) xg xs 0 0 (x_A Y)) 143 L [] (x_u σ 38 0 (nI 0)) := by
                                    intro  hnz L xl0 xl1 xl2 xl3 xl4 xl5 xl6
                                    refine x_aload_n C (i := 0) dX12_complete_143 rfl xl0 ?_
                                    refine x_iload C (i := 4) dX12_complete_144 xl4 ?_
                                    refine x_iload C (i := 5) dX12_complete_146 xl5 ?_
                                    refine x_iload C (i := 6) dX12_complete_148 xl6 ?_
                                    have hM := c_X12_greatestOf l Y (x_u σ 38 0 (nI 0)) (nI h) (y_fm mq k) (y_fm mq j) o hn hn9
                                    refine x_callV C (as := [.int (nI h), .int (y_fm mq k), .int (y_fm mq j)]) (st := []) (hM) kb_X12_greatestOf kv_X12_241 dX12_complete_150 rfl rfl (Nat.le_of_ble_eq_true rfl) ⟨by decide, by decide⟩ ⟨by decide, by decide⟩ ko_38 ?_
                                    clear hM
                                    rintro _ _ ⟨rfl, rfl⟩
                                    refine x_iload C (i := 4) dX12_complete_153 xl4 ?_
                                    refine x_iload C (i := 5) dX12_complete_155 xl5 ?_
                                    refine x_iload C (i := 6) dX12_complete_157 xl6 ?_
                                    have hM := c_X12_key l Y (x_u σ 38 0 (nI 0)) (nI h) (y_fm mq k) (y_fm mq j)
                                    refine x_callS C (as := [.int (nI h), .int (y_fm mq k), .int (y_fm mq j)]) (st := [.long (x_gof (σ.1 40) (nI h) (y_fm mq k) (y_fm mq j) o)]) (hM) kb_X12_key ks_X12_229 dX12_complete_159 rfl rfl (Nat.le_of_ble_eq_true rfl) ⟨by decide, by decide⟩ ⟨by decide, by decide⟩ ?_
                                    clear hM
                                    intro r9 τ9 h9
                                    obtain ⟨rfl, h8⟩ := h9
                                    rw [h8]
                                    clear h8 τ9
                                    refine x_lcmp C dX12_complete_162 ?_
                                    refine x_if_ne C 170 dX12_complete_163 (by decide) (fun c163 => ?_) (fun c163 => ?_)
                                    · skip
                                      have c163 := fun z => c163 ((lg_cmp_eq _ _).mpr z)
                                      have hP : y_own σ o (nI h) (y_fm mq k) (y_fm mq j) = false := by
                                        unfold y_own
                                        rw [decide_eq_false (show ¬ x_gof (σ.1 40) (nI h) (y_fm mq k) (y_fm mq j) o = x_key (nI h) (y_fm mq k) (y_fm mq j) from c163), Bool.and_false]
                                        rfl
                                      refine x_iconst C (nI 0) dX12_complete_170 rfl ?_
                                      refine x_istore C (i := 7) dX12_complete_171 (by decide) ?_
                                      refine x_iload C (i := 7) dX12_complete_173 rfl ?_
                                      refine x_if_eqN C 197 dX12_complete_175 (by decide) (by omega) (fun c175 => ?_) (fun c175 => absurd c175 (by decide))
                                      refine x_iload_n C (i := 3) dX12_complete_197 rfl xl3 ?_
                                      refine x_istore_n C (i := 3) dX12_complete_198 rfl (by decide) ?_
                                      refine x_iinc C (i := 6) (1) dX12_complete_199 xl6 rfl (by decide) ?_
                                      refine x_goto C 122 dX12_complete_202 (by decide) ?_
                                      exact ih122 _ (by omega) (j + 1) ((y_fm mq j) + (1)) y3 rfl (y_fm_s mq j) (by omega) (by rw [y_cnb_f (P := fun j => y_own σ o (nI h) (y_fm mq k) (y_fm mq j)) hP]; omega) _ xl0 xl1 xl2 rfl xl4 xl5 rfl
                                    · skip
                                      have c163 := (lg_cmp_eq _ _).mp c163
                                      refine x_iconst C (nI 1) dX12_complete_166 rfl ?_
                                      refine x_goto C 171 dX12_complete_167 (by decide) ?_
                                      refine x_istore C (i := 7) dX12_complete_171 (by decide) ?_
                                      refine x_iload C (i := 7) dX12_complete_173 rfl ?_
                                      refine x_if_eqN C 197 dX12_complete_175 (by decide) (by omega) (fun c175 => absurd c175 (by decide)) (fun c175 => ?_)
                                      refine x_aload_n C (i := 0) dX12_complete_178 rfl xl0 ?_
                                      refine x_iload C (i := 4) dX12_complete_179 xl4 ?_
                                      refine x_iload C (i := 5) dX12_complete_181 xl5 ?_
                                      refine x_iload C (i := 6) dX12_complete_183 xl6 ?_
                                      have hM := c_X12_isAbsent l Y (x_u σ 38 0 (nI 0)) (nI h) (y_fm mq k) (y_fm mq j) o hn hn9
                                      refine x_callV C (as := [.int (nI h), .int (y_fm mq k), .int (y_fm mq j)]) (st := []) (hM) kb_X12_isAbsent kv_X12_216 dX12_complete_185 rfl rfl (Nat.le_of_ble_eq_true rfl) ⟨by decide, by decide⟩ ⟨by decide, by decide⟩ ko_38 ?_
                                      clear hM
                                      rintro _ _ ⟨rfl, rfl⟩
                                      refine x_if_neZ C 197 dX12_complete_188 (by decide) (fun c188 => ?_) (fun c188 => ?_)
                                      · skip
                                        have hP : y_own σ o (nI h) (y_fm mq k) (y_fm mq j) = false := by
                                          unfold y_own
                                          rw [show x_absent (σ.1 40) (σ.1 41) o (nI h) (y_fm mq k) (y_fm mq j) = true from c188, Bool.not_true, Bool.and_false]
                                        refine x_iload_n C (i := 3) dX12_complete_197 rfl xl3 ?_
                                        refine x_istore_n C (i := 3) dX12_complete_198 rfl (by decide) ?_
                                        refine x_iinc C (i := 6) (1) dX12_complete_199 xl6 rfl (by decide) ?_
                                        refine x_goto C 122 dX12_complete_202 (by decide) ?_
                                        exact ih122 _ (by omega) (j + 1) ((y_fm mq j) + (1)) y3 rfl (y_fm_s mq j) (by omega) (by rw [y_cnb_f (P := fun j => y_own σ o (nI h) (y_fm mq k) (y_fm mq j)) hP]; omega) _ xl0 xl1 xl2 rfl xl4 xl5 rfl
                                      · skip
                                        have hP : y_own σ o (nI h) (y_fm mq k) (y_fm mq j) = true := by
                                          unfold y_own
                                          rw [hnz, decide_eq_true (show x_gof (σ.1 40) (nI h) (y_fm mq k) (y_fm mq j) o = x_key (nI h) (y_fm mq k) (y_fm mq j) from c163), show x_absent (σ.1 40) (σ.1 41) o (nI h) (y_fm mq k) (y_fm mq j) = false from c188]
                                          rfl
                                        refine x_iload_n C (i := 3) dX12_complete_191 rfl xl3 ?_
                                        refine x_iconst C (nI 1) dX12_complete_192 rfl ?_
                                        refine x_iaddN C dX12_complete_193 ?_
                                        refine x_goto C 198 dX12_complete_194 (by decide) ?_
                                        refine x_istore_n C (i := 3) dX12_complete_198 rfl (by decide) ?_
                                        refine x_iinc C (i := 6) (1) dX12_complete_199 xl6 rfl (by decide) ?_
                                        refine x_goto C 122 dX12_complete_202 (by decide) ?_
                                        exact ih122 _ (by omega) (j + 1) ((y_fm mq j) + (1)) (y3 + 1) rfl (y_fm_s mq j) (by omega) (by rw [y_cnb_t (P := fun j => y_own σ o (nI h) (y_fm mq k) (y_fm mq j)) hP]; omega) _ xl0 xl1 xl2 rfl xl4 xl5 rfl
                                  refine x_if_neN C 143 dX12_complete_130 (by decide) (by omega) (fun c130 => ?_) (fun c130 => ?_)
                                  · skip
                                    exact lp143 (by rw [decide_eq_false (show ¬ nI h = 0 from fun z => c130 ((nI_eq (by omega) (by decide)).mp z))]; rfl) _ xl0 xl1 xl2 xl3 xl4 xl5 xl6
                                  · skip
                                    refine x_iload C (i := 5) dX12_complete_133 xl5 ?_
                                    refine x_if_ne C 143 dX12_complete_135 (by decide) (fun c135 => ?_) (fun c135 => ?_)
                                    · skip
                                      exact lp143 (by rw [decide_eq_false (show ¬ y_fm mq k = 0 from c135), Bool.and_false]; rfl) _ xl0 xl1 xl2 xl3 xl4 xl5 xl6
                                    · skip
                                      refine x_iload C (i := 6) dX12_complete_138 xl6 ?_
                                      refine x_if_eq C 170 dX12_complete_140 (by decide) (fun c140 => ?_) (fun c140 => ?_)
                                      · skip
                                        have hP : y_own σ o (nI h) (y_fm mq k) (y_fm mq j) = false := by
                                          unfold y_own
                                          rw [decide_eq_true (show nI h = 0 by rw [c130]; rfl), decide_eq_true (show y_fm mq k = 0 from c135), decide_eq_true (show y_fm mq j = 0 from c140)]
                                          rfl
                                        refine x_iconst C (nI 0) dX12_complete_170 rfl ?_
                                        refine x_istore C (i := 7) dX12_complete_171 (by decide) ?_
                                        refine x_iload C (i := 7) dX12_complete_173 rfl ?_
                                        refine x_if_eqN C 197 dX12_complete_175 (by decide) (by omega) (fun c175 => ?_) (fun c175 => absurd c175 (by decide))
                                        refine x_iload_n C (i := 3) dX12_complete_197 rfl xl3 ?_
                                        refine x_istore_n C (i := 3) dX12_complete_198 rfl (by decide) ?_
                                        refine x_iinc C (i := 6) (1) dX12_complete_199 xl6 rfl (by decide) ?_
                                        refine x_goto C 122 dX12_complete_202 (by decide) ?_
                                        exact ih122 _ (by omega) (j + 1) ((y_fm mq j) + (1)) y3 rfl (y_fm_s mq j) (by omega) (by rw [y_cnb_f (P := fun j => y_own σ o (nI h) (y_fm mq k) (y_fm mq j)) hP]; omega) _ xl0 xl1 xl2 rfl xl4 xl5 rfl
                                      · skip
                                        exact lp143 (by rw [decide_eq_false (show ¬ y_fm mq j = 0 from c140), Bool.and_false]) _ xl0 xl1 xl2 xl3 xl4 xl5 xl6
                            exact lp122 _ 0 (-(nI mq)) y2 rfl (y_fm_0 mq).symm (Nat.zero_le _) rfl _ xl0 xl1 xl2 xl3 xl4 xl5 rfl
                      exact lp112 _ 0 (-(nI mq)) y rfl (y_fm_0 mq).symm (Nat.zero_le _) rfl _ xl0 xl1 xl2 xl3 xl4 rfl
              exact lp97 _ 0 c2 rfl (Nat.zero_le _) (by
                    rcases hc2 with h9 | h9
                    · exact Or.inl ⟨h9.1, h9.2, rfl⟩
                    · exact Or.inr h9) _ xl0 xl1 xl2 xl3 rfl
            refine x_iload C (i := 4) dX12_complete_57 xl4 ?_
            refine x_aload_n C (i := 0) dX12_complete_59 rfl xl0 ?_
            refine x_getI C fi_38_29 kf_X12_195 dX12_complete_60 ?_
            refine x_topI (y := nI n) hN ?_
            refine x_icmp_geN C 94 dX12_complete_63 (by decide) (by omega) (by omega) (fun c63 => ?_) (fun c63 => ?_)
            · skip
              have c63' := Nat.not_lt.mpr c63
              obtain rfl : n = x := by omega
              exact lp94 c hc _ xl0 xl1 xl2 xl3
            · skip
              have c63' := Nat.not_le.mpr c63
              refine x_iload_n C (i := 2) dX12_complete_66 rfl xl2 ?_
              refine x_if_neN C 94 dX12_complete_67 (by decide) (by omega) (fun c67 => ?_) (fun c67 => ?_)
              · skip
                exact lp94 c (by
                      rcases hc with h9 | h9
                      · exact absurd h9.1 c67
                      · exact Or.inr h9) _ xl0 xl1 xl2 xl3
              · skip
                refine x_aload_n C (i := 0) dX12_complete_70 rfl xl0 ?_
                refine x_iload C (i := 4) dX12_complete_71 xl4 ?_
                refine x_iload_n C (i := 1) dX12_complete_73 rfl xl1 ?_
                have hM := c_X12_isWithin l Y (x_u σ 38 0 (nI 0)) x (nI mq) (by omega)
                refine x_callV C (as := [.int (nI x), .int (nI mq)]) (st := []) (hM) kb_X12_isWithin kv_X12_345 dX12_complete_74 rfl rfl (Nat.le_of_ble_eq_true rfl) ⟨by decide, by decide⟩ ⟨by decide, by decide⟩ ko_38 ?_
                clear hM
                intro r9 τ9 h9
                obtain ⟨rfl, h8⟩ := h9
                rw [h8]
                clear h8 τ9
                refine x_if_eqZ C 86 dX12_complete_77 (by decide) (fun c77 => ?_) (fun c77 => ?_)
                · skip
                  refine x_iload_n C (i := 3) dX12_complete_86 rfl xl3 ?_
                  refine x_istore_n C (i := 3) dX12_complete_87 rfl (by decide) ?_
                  refine x_iincN C (i := 4) (b := 1) dX12_complete_88 xl4 rfl (by decide) ?_
                  refine x_goto C 57 dX12_complete_91 (by decide) ?_
                  exact ih57 _ (by omega) (x + 1) c rfl (by omega) (Or.inl ⟨c67, by rw [y_cnb_f (P := (fun q => y_wp (σ.1 57 q) (σ.2 54 q) (nI mq) 3)) c77]; have := hc.resolve_right (fun z => by omega); omega⟩) _ xl0 xl1 xl2 rfl rfl
                · skip
                  refine x_iload_n C (i := 3) dX12_complete_80 rfl xl3 ?_
                  refine x_iconst C (nI 1) dX12_complete_81 rfl ?_
                  refine x_iaddN C dX12_complete_82 ?_
                  refine x_goto C 87 dX12_complete_83 (by decide) ?_
                  refine x_istore_n C (i := 3) dX12_complete_87 rfl (by decide) ?_
                  refine x_iincN C (i := 4) (b := 1) dX12_complete_88 xl4 rfl (by decide) ?_
                  refine x_goto C 57 dX12_complete_91 (by decide) ?_
                  exact ih57 _ (by omega) (x + 1) (c + 1) rfl (by omega) (Or.inl ⟨c67, by rw [y_cnb_t (P := (fun q => y_wp (σ.1 57 q) (σ.2 54 q) (nI mq) 3)) c77]; have := hc.resolve_right (fun z => by omega); omega⟩) _ xl0 xl1 xl2 rfl rfl
        exact lp57 _ 0 0 rfl (Nat.zero_le _) (by
              rcases (show wq = 0 ∨ wq = 1 by omega) with h9 | h9
              · exact Or.inl ⟨h9, rfl⟩
              · exact Or.inr ⟨h9, rfl⟩) _ rfl rfl rfl rfl rfl
      · skip
        have hz2 := x_rng_not2 (by decide) c32
        refine x_iconst C (nI 3) dX12_complete_35 rfl ?_
        refine x_goto C 40 dX12_complete_36 (by decide) ?_
        refine x_putN C fi_38_0 kf_X12_85 rfl rfl dX12_complete_40 ?_
        refine x_aload_n C (i := 0) dX12_complete_43 rfl rfl ?_
        refine x_getI C fi_38_0 kf_X12_85 dX12_complete_44 ?_
        refine x_topI (y := nI 3) rfl ?_
        refine x_if_leN C 52 dX12_complete_47 (by decide) (by omega) (fun c47 => absurd c47 (by decide)) (fun c47 => ?_)
        refine x_iconst C (nI 0) dX12_complete_50 rfl ?_
        refine x_iret C xr xk dX12_complete_51 ?_
        exact hK _ _ (Or.inr (Or.inr (Or.inl ⟨c5, ⟨mq, hm0, hm9, rfl⟩, hz2, rfl, rfl⟩)))
    · skip
      have hz : ¬ y_mo mo := fun z => by rw [y_in12.mpr z] at c19; cases c19
      refine x_iconst C (nI 2) dX12_complete_22 rfl ?_
      refine x_goto C 40 dX12_complete_23 (by decide) ?_
      refine x_putN C fi_38_0 kf_X12_85 rfl rfl dX12_complete_40 ?_
      refine x_aload_n C (i := 0) dX12_complete_43 rfl rfl ?_
      refine x_getI C fi_38_0 kf_X12_85 dX12_complete_44 ?_
      refine x_topI (y := nI 2) rfl ?_
      refine x_if_leN C 52 dX12_complete_47 (by decide) (by omega) (fun c47 => absurd c47 (by decide)) (fun c47 => ?_)
      refine x_iconst C (nI 0) dX12_complete_50 rfl ?_
      refine x_iret C xr xk dX12_complete_51 ?_
      exact hK _ _ (Or.inr (Or.inl ⟨c5, hz, rfl, rfl⟩))
  · skip
    refine x_iconst C (nI 1) dX12_complete_8 rfl ?_
    refine x_goto C 40 dX12_complete_9 (by decide) ?_
    refine x_putN C fi_38_0 kf_X12_85 rfl rfl dX12_complete_40 ?_
    refine x_aload_n C (i := 0) dX12_complete_43 rfl rfl ?_
    refine x_getI C fi_38_0 kf_X12_85 dX12_complete_44 ?_
    refine x_topI (y := nI 1) rfl ?_
    refine x_if_leN C 52 dX12_complete_47 (by decide) (by omega) (fun c47 => absurd c47 (by decide)) (fun c47 => ?_)
    refine x_iconst C (nI 0) dX12_complete_50 rfl ?_
    refine x_iret C xr xk dX12_complete_51 ?_
    exact hK _ _ (Or.inl ⟨c5, rfl, rfl⟩)
theorem c_X12_complete (l : Launch) (Y : x_Y) (σ : x_S) (mo w : Int32) (o : Nat) (hn : σ.1 38 4 = nI o) (hn9 : o ≤ 192) (n : Nat) (hN : σ.1 38 29 = nI n) (hN9 : n ≤ 3000) : x_M l yX12_complete cX12_complete 8 (some .int) 2 Y [.ref 38, .int mo, .int w] σ (fun r τ => (o = 0 ∧ r = some (.int (nI 0)) ∧ τ = x_u σ 38 0 (nI 1)) ∨ (o ≠ 0 ∧ ¬ y_mo mo ∧ r = some (.int (nI 0)) ∧ τ = x_u σ 38 0 (nI 2)) ∨ (o ≠ 0 ∧ y_mo mo ∧ ¬ x_rng w 2 ∧ r = some (.int (nI 0)) ∧ τ = x_u σ 38 0 (nI 3)) ∨ (∃ mq, o ≠ 0 ∧ 0 < mq ∧ mq < 13 ∧ mo = nI mq ∧ ((w = nI 0 ∧ r = some (.int (nI (y_cnb (fun q => y_wp (σ.1 57 q) (σ.2 54 q) (nI mq) 3) n)))) ∨ (w = nI 1 ∧ r = some (.int (nI (y_c3 σ o mq))))) ∧ τ = x_u σ 38 0 (nI 0))) := c_X12_complete_K l Y σ mo w o hn hn9 n hN hN9 _ (fun _ _ h => h)
