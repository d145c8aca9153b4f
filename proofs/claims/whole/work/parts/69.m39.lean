set_option maxRecDepth 100000 in
set_option maxHeartbeats 200000 in
theorem c_X5_clear_K (l : Launch) (Y : x_Y) (σ : x_S) (K : Option Value → x_S → Prop) (hK : ∀ (r : Option Value) (τ : x_S), (∃ g31 g33, (r = none ∧ τ = x_st σ [(29, 3, nI 0), (29, 4, x_z false)] [(31, g31), (33, g33)] []) ∧ z_is g31 0 ∧ z_is g33 1) → K r τ) : x_M l yX5_clear cX5_clear 1 none 1 Y [.ref 29] σ K := by
  refine x_start (by decide) (Nat.le_of_ble_eq_true rfl) ?_
  intro xp xe xs xm xg xb xt xc C xr xk
  refine x_sig (σ' := x_st σ [(29, 3, σ.1 29 3), (29, 4, σ.1 29 4)] [(31, σ.1 31), (33, σ.1 33)] []) (x_st_in (And.intro rfl (And.intro rfl trivial)) (And.intro rfl (And.intro rfl trivial)) trivial) ?_
  refine x_aload_n C (i := 0) dX5_clear_0 rfl rfl ?_
  refine x_getR C fr_29_0 kf_X5_10 dX5_clear_1 ?_
  refine x_iconst C (nI 0) dX5_clear_4 rfl ?_
  have hM := c_X4_set_30 l Y (x_st σ [(29, 3, σ.1 29 3), (29, 4, σ.1 29 4)] [(31, σ.1 31), (33, σ.1 33)] []) 0  (σ.1 31) rfl (by decide)
  refine x_callV C (as := [.int (nI 0)]) (st := []) (hM) kb_X4_set kv_X5_22 dX5_clear_5 rfl rfl (Nat.le_of_ble_eq_true rfl) ⟨by decide, by decide⟩ ⟨by decide, by decide⟩ ko_30 ?_
  clear hM
  rintro _ _ ⟨ga, ⟨rfl, rfl⟩, ha⟩
  refine x_sig (σ' := x_st σ [(29, 3, σ.1 29 3), (29, 4, σ.1 29 4)] [(31, ga), (33, σ.1 33)] []) (x_st_st rfl) ?_
  refine x_aload_n C (i := 0) dX5_clear_8 rfl rfl ?_
  refine x_getR C fr_29_1 kf_X5_16 dX5_clear_9 ?_
  refine x_iconst C (nI 1) dX5_clear_12 rfl ?_
  have hM := c_X4_set_32 l Y (x_st σ [(29, 3, σ.1 29 3), (29, 4, σ.1 29 4)] [(31, ga), (33, σ.1 33)] []) 1  (σ.1 33) rfl (by decide)
  refine x_callV C (as := [.int (nI 1)]) (st := []) (hM) kb_X4_set kv_X5_22 dX5_clear_13 rfl rfl (Nat.le_of_ble_eq_true rfl) ⟨by decide, by decide⟩ ⟨by decide, by decide⟩ ko_32 ?_
  clear hM
  rintro _ _ ⟨gb, ⟨rfl, rfl⟩, hb⟩
  refine x_sig (σ' := x_st σ [(29, 3, σ.1 29 3), (29, 4, σ.1 29 4)] [(31, ga), (33, gb)] []) (x_st_st rfl) ?_
  refine x_aload_n C (i := 0) dX5_clear_16 rfl rfl ?_
  refine x_iconst C (nI 0) dX5_clear_17 rfl ?_
  refine x_putN C fi_29_3 kf_X5_26 rfl rfl dX5_clear_18 ?_
  refine x_sig (σ' := x_st σ [(29, 3, nI 0), (29, 4, σ.1 29 4)] [(31, ga), (33, gb)] []) (x_st_u rfl) ?_
  refine x_aload_n C (i := 0) dX5_clear_21 rfl rfl ?_
  refine x_iconst C (nI 0) dX5_clear_22 rfl ?_
  refine x_congr (st' := .int (x_z false) :: .ref 29 :: []) rfl rfl ?_
  refine x_putZ C fi_29_4 kf_X5_30 rfl rfl dX5_clear_23 ?_
  refine x_sig (σ' := x_st σ [(29, 3, nI 0), (29, 4, x_z false)] [(31, ga), (33, gb)] []) (x_st_u rfl) ?_
  refine x_vret C xr xk dX5_clear_26 ?_
  exact hK _ _ ⟨_, _, ⟨rfl, rfl⟩, ha, hb⟩
theorem c_X5_clear (l : Launch) (Y : x_Y) (σ : x_S) : x_M l yX5_clear cX5_clear 1 none 1 Y [.ref 29] σ (fun r τ => ∃ g31 g33, (r = none ∧ τ = x_st σ [(29, 3, nI 0), (29, 4, x_z false)] [(31, g31), (33, g33)] []) ∧ z_is g31 0 ∧ z_is g33 1) := c_X5_clear_K l Y σ  _ (fun _ _ h => h)
set_option maxRecDepth 100000 in
set_option maxHeartbeats 200000 in
theorem c_X5_part_K (l : Launch) (Y : x_Y) (σ : x_S) (w : Nat) (hw : w < 2) (K : Option Value → x_S → Prop) (hK : ∀ (r : Option Value) (τ : x_S), ((w = 0 ∧ r = some (.ref 30) ∧ τ = σ) ∨ (w = 1 ∧ r = some (.ref 32) ∧ τ = σ)) → K r τ) : x_M l yX5_part cX5_part 2 (some (.object "ReflectionReducer$Natural")) 0 Y [.ref 29, .int (nI w)] σ K := by
  refine x_start (by decide) (Nat.le_of_ble_eq_true rfl) ?_
  intro xp xe xs xm xg xb xt xc C xr xk
  refine x_iload_n C (i := 1) dX5_part_0 rfl rfl ?_
  refine x_if_neN C 11 dX5_part_1 (by decide) (by omega) (fun c1 => ?_) (fun c1 => ?_)
  · skip
    refine x_aload_n C (i := 0) dX5_part_11 rfl rfl ?_
    refine x_getR C fr_29_1 kf_X5_16 dX5_part_12 ?_
    refine x_aret C xr xk dX5_part_15 ?_
    exact hK _ _ (Or.inr ⟨by omega, rfl, rfl⟩)
  · skip
    refine x_aload_n C (i := 0) dX5_part_4 rfl rfl ?_
    refine x_getR C fr_29_0 kf_X5_10 dX5_part_5 ?_
    refine x_goto C 15 dX5_part_8 (by decide) ?_
    refine x_aret C xr xk dX5_part_15 ?_
    exact hK _ _ (Or.inl ⟨c1, rfl, rfl⟩)
theorem c_X5_part (l : Launch) (Y : x_Y) (σ : x_S) (w : Nat) (hw : w < 2) : x_M l yX5_part cX5_part 2 (some (.object "ReflectionReducer$Natural")) 0 Y [.ref 29, .int (nI w)] σ (fun r τ => (w = 0 ∧ r = some (.ref 30) ∧ τ = σ) ∨ (w = 1 ∧ r = some (.ref 32) ∧ τ = σ)) := c_X5_part_K l Y σ w hw _ (fun _ _ h => h)
set_option maxRecDepth 100000 in
set_option maxHeartbeats 200000 in
theorem c_X5_cancels_K (l : Launch) (Y : x_Y) (σ : x_S) (f : Nat) (hf2 : 2 ≤ f) (hf9 : f ≤ 3000) (N D : Nat) (f31 f33 : Nat → Int32) (h31 : σ.1 31 = f31) (h33 : σ.1 33 = f33) (hN : z_is f31 N) (hD : z_is f33 D) (hD0 : 0 < D)  (K : Option Value → x_S → Prop) (hK : ∀ (r : Option Value) (τ : x_S), (r = some (.int (x_z (decide (D % f = 0) && decide (N % f = 0)))) ∧ τ = σ) → K r τ) : x_M l yX5_cancels cX5_cancels 2 (some .boolean) 1 Y [.ref 29, .int (nI f)] σ K := by
  refine x_start (by decide) (Nat.le_of_ble_eq_true rfl) ?_
  intro xp xe xs xm xg xb xt xc C xr xk
  refine x_sig (σ' := x_st σ [] [(31, f31), (33, f33)] []) (x_st_in trivial (And.intro h31 (And.intro h33 trivial)) trivial) ?_
  refine x_aload_n C (i := 0) dX5_cancels_0 rfl rfl ?_
  refine x_getR C fr_29_1 kf_X5_16 dX5_cancels_1 ?_
  refine x_iload_n C (i := 1) dX5_cancels_4 rfl rfl ?_
  refine x_i2l C dX5_cancels_5 ?_
  refine x_topL (y := lN f) (nI_l (by omega)) ?_
  have hM := c_X4_remainder_32 l Y (x_st σ [] [(31, f31), (33, f33)] []) f D f33 rfl hD (by omega) (by omega)
  refine x_callV C (as := [.long (lN f)]) (st := []) (hM) kb_X4_remainder kv_X5_46 dX5_cancels_6 rfl rfl (Nat.le_of_ble_eq_true rfl) ⟨by decide, by decide⟩ ⟨by decide, by decide⟩ ko_32 ?_
  clear hM
  rintro _ _ ⟨rfl, rfl⟩
  have hm1 : D % f < 2 ^ 63 := Nat.lt_trans (Nat.mod_lt D (by omega)) (by omega)
  refine x_lconst C (0) dX5_cancels_9 rfl ?_
  refine x_topL (y := lN 0) rfl ?_
  refine x_lcmp C dX5_cancels_10 ?_
  refine x_if_ne C 32 dX5_cancels_11 (by decide) (fun c11 => ?_) (fun c11 => ?_)
  · skip
    have c11 := fun z => c11 ((lg_cmp_eq _ _).mpr z)
    have hnz : ¬ D % f = 0 := fun z => c11 (by rw [z])
    refine x_iconst C (nI 0) dX5_cancels_32 rfl ?_
    refine x_zret C xr xk dX5_cancels_33 rfl ?_
    exact hK _ _ ⟨by first | (rw [decide_eq_false hnz]; rfl) | (rw [decide_eq_false hnz2, Bool.and_false]; rfl), (x_st_in (σ := σ) (F := []) (I := [(31, f31), (33, f33)]) (G := []) trivial (And.intro h31 (And.intro h33 trivial)) trivial).symm⟩
  · skip
    have c11 := (lg_cmp_eq _ _).mp c11
    have hz1 : D % f = 0 := (pk_lEQ hm1 (by decide)).mp c11
    refine x_aload_n C (i := 0) dX5_cancels_14 rfl rfl ?_
    refine x_getR C fr_29_0 kf_X5_10 dX5_cancels_15 ?_
    refine x_iload_n C (i := 1) dX5_cancels_18 rfl rfl ?_
    refine x_i2l C dX5_cancels_19 ?_
    refine x_topL (y := lN f) (nI_l (by omega)) ?_
    have hM := c_X4_remainder_30 l Y (x_st σ [] [(31, f31), (33, f33)] []) f N f31 rfl hN (by omega) (by omega)
    refine x_callV C (as := [.long (lN f)]) (st := []) (hM) kb_X4_remainder kv_X5_46 dX5_cancels_20 rfl rfl (Nat.le_of_ble_eq_true rfl) ⟨by decide, by decide⟩ ⟨by decide, by decide⟩ ko_30 ?_
    clear hM
    rintro _ _ ⟨rfl, rfl⟩
    have hm2 : N % f < 2 ^ 63 := Nat.lt_trans (Nat.mod_lt N (by omega)) (by omega)
    refine x_lconst C (0) dX5_cancels_23 rfl ?_
    refine x_topL (y := lN 0) rfl ?_
    refine x_lcmp C dX5_cancels_24 ?_
    refine x_if_ne C 32 dX5_cancels_25 (by decide) (fun c25 => ?_) (fun c25 => ?_)
    · skip
      have c25 := fun z => c25 ((lg_cmp_eq _ _).mpr z)
      have hnz2 : ¬ N % f = 0 := fun z => c25 (by rw [z])
      refine x_iconst C (nI 0) dX5_cancels_32 rfl ?_
      refine x_zret C xr xk dX5_cancels_33 rfl ?_
      exact hK _ _ ⟨by first | (rw [decide_eq_false hnz]; rfl) | (rw [decide_eq_false hnz2, Bool.and_false]; rfl), (x_st_in (σ := σ) (F := []) (I := [(31, f31), (33, f33)]) (G := []) trivial (And.intro h31 (And.intro h33 trivial)) trivial).symm⟩
    · skip
      have c25 := (lg_cmp_eq _ _).mp c25
      have hz2 : N % f = 0 := (pk_lEQ hm2 (by decide)).mp c25
      refine x_iconst C (nI 1) dX5_cancels_28 rfl ?_
      refine x_goto C 33 dX5_cancels_29 (by decide) ?_
      refine x_zret C xr xk dX5_cancels_33 rfl ?_
      exact hK _ _ ⟨by rw [decide_eq_true hz1, decide_eq_true hz2]; rfl, (x_st_in (σ := σ) (F := []) (I := [(31, f31), (33, f33)]) (G := []) trivial (And.intro h31 (And.intro h33 trivial)) trivial).symm⟩
theorem c_X5_cancels (l : Launch) (Y : x_Y) (σ : x_S) (f : Nat) (hf2 : 2 ≤ f) (hf9 : f ≤ 3000) (N D : Nat) (f31 f33 : Nat → Int32) (h31 : σ.1 31 = f31) (h33 : σ.1 33 = f33) (hN : z_is f31 N) (hD : z_is f33 D) (hD0 : 0 < D)  : x_M l yX5_cancels cX5_cancels 2 (some .boolean) 1 Y [.ref 29, .int (nI f)] σ (fun r τ => r = some (.int (x_z (decide (D % f = 0) && decide (N % f = 0)))) ∧ τ = σ) := c_X5_cancels_K l Y σ f hf2 hf9 N D f31 f33 h31 h33 hN hD hD0 _ (fun _ _ h => h)
set_option maxRecDepth 100000 in
set_option maxHeartbeats 200000 in
theorem c_X5_cancelSmallFactors_K (l : Launch) (Y : x_Y) (σ : x_S) (gs : Nat) (hgs : σ.1 29 3 = nI gs) (hgs9 : gs ≤ 3000) (N D : Nat) (f31 f33 : Nat → Int32) (h31 : σ.1 31 = f31) (h33 : σ.1 33 = f33) (hN : z_is f31 N) (hD : z_is f33 D) (hD0 : 0 < D) (hpb : z_pb D) (K : Option Value → x_S → Prop) (hK : ∀ (r : Option Value) (τ : x_S), (∃ N9 D9 e g31 g33, (r = none ∧ τ = x_st σ [] [(31, g31), (33, g33)] []) ∧ z_is g31 N9 ∧ z_is g33 D9 ∧ 0 < D9 ∧ N = N9 * e ∧ D = D9 * e ∧ ∀ d, 2 ≤ d → d < (gs + 1) → ¬ (d ∣ N9 ∧ d ∣ D9)) → K r τ) : x_M l yX5_cancelSmallFactors cX5_cancelSmallFactors 3 none 2 Y [.ref 29] σ K := by
  refine x_start (by decide) (Nat.le_of_ble_eq_true rfl) ?_
  intro xp xe xs xm xg xb xt xc C xr xk
  refine x_sig (σ' := x_st σ [] [(31, f31), (33, f33)] []) (x_st_in trivial (And.intro h31 (And.intro h33 trivial)) trivial) ?_
  refine x_iconst C (nI 2) dX5_cancelSmallFactors_0 rfl ?_
  refine x_istore_n C (i := 1) dX5_cancelSmallFactors_1 rfl (by decide) ?_
  have lp2 : ∀ (m2 : Nat) (f : Nat) (N1 : Nat) (D1 : Nat) (e : Nat) (g1 : Nat → Int32) (g2 : Nat → Int32), (3001 - f) = m2 → (2 ≤ f) → (f ≤ 3001) → (z_is g1 N1) → (z_is g2 D1) → (0 < D1) → (N = N1 * e) → (D = D1 * e) → (∀ d, 2 ≤ d → d < f → ¬ (d ∣ N1 ∧ d ∣ D1)) → ∀ L : x_Lo, L.1 0 = some (.ref 29) → L.1 1 = some (.int (nI f)) → x_W xp l xe (x_rm 2) xs xm xg xb xt xc 3 Y 0 0 (MQ xb (x_Q Y K) xg xs 0 0 (x_A Y)) 2 L [] (x_st σ [] [(31, g1), (33, g2)] []) := by
    intro m2
    induction m2 using Nat.strongRecOn with
    | _ m2 ih2 =>
      intro f N1 D1 e g1 g2 hm2 hf2 hf9 hN1 hD1 hD10 hNe hDe hno L xl0 xl1
      refine x_iload_n C (i := 1) dX5_cancelSmallFactors_2 rfl xl1 ?_
      refine x_aload_n C (i := 0) dX5_cancelSmallFactors_3 rfl xl0 ?_
      refine x_getI C fi_29_3 kf_X5_26 dX5_cancelSmallFactors_4 ?_
      refine x_topI (y := nI gs) hgs ?_
      refine x_icmp_gtN C 56 dX5_cancelSmallFactors_7 (by decide) (by omega) (by omega) (fun c7 => ?_) (fun c7 => ?_)
      · skip
        have c7' := Nat.not_le.mpr c7
        refine x_vret C xr xk dX5_cancelSmallFactors_56 ?_
        exact hK _ _ ⟨N1, D1, e, _, _, ⟨rfl, rfl⟩, hN1, hD1, hD10, hNe, hDe, fun d h1 h2 => hno d h1 (by omega)⟩
      · skip
        have c7' := Nat.not_lt.mpr c7
        refine x_iconst C (nI 0) dX5_cancelSmallFactors_10 rfl ?_
        refine x_istore_n C (i := 2) dX5_cancelSmallFactors_11 rfl (by decide) ?_
        have lp12 : ∀ (m12 : Nat) (k : Nat) (N2 : Nat) (D2 : Nat) (g3 : Nat → Int32) (g4 : Nat → Int32), (32 - k) = m12 → (k ≤ 32) → (z_is g3 N2) → (z_is g4 D2) → (0 < D2) → (N1 = N2 * f ^ k) → (D1 = D2 * f ^ k) → (0 < k → y_prm f) → ∀ L : x_Lo, L.1 0 = some (.ref 29) → L.1 1 = some (.int (nI f)) → L.1 2 = some (.int (nI k)) → x_W xp l xe (x_rm 2) xs xm xg xb xt xc 3 Y 0 0 (MQ xb (x_Q Y K) xg xs 0 0 (x_A Y)) 12 L [] (x_st σ [] [(31, g3), (33, g4)] []) := by
          intro m12
          induction m12 using Nat.strongRecOn with
          | _ m12 ih12 =>
            intro k N2 D2 g3 g4 hm12 hk hN2 hD2 hD20 hN2e hD2e hkp L xl0 xl1 xl2
            have lp50 : (∀ d, 2 ≤ d → d < f + 1 → ¬ (d ∣ N2 ∧ d ∣ D2)) → ∀ L : x_Lo, L.1 0 = some (.ref 29) → L.1 1 = some (.int (nI f)) → x_W xp l xe (x_rm 2) xs xm xg xb xt xc 3 Y 0 0 (MQ xb (x_Q Y K) xg xs 0 0 (x_A Y)) 50 L [] (x_st σ [] [(31, g3), (33, g4)] []) := by
              intro  hno3 L xl0 xl1
              refine x_iincN C (i := 1) (b := 1) dX5_cancelSmallFactors_50 xl1 rfl (by decide) ?_
              refine x_goto C 2 dX5_cancelSmallFactors_53 (by decide) ?_
              exact ih2 _ (by omega) (f + 1) N2 D2 (f ^ k * e) g3 g4 rfl (by omega) (by omega) hN2 hD2 hD20 (by rw [hNe, hN2e, Nat.mul_assoc]) (by rw [hDe, hD2e, Nat.mul_assoc]) hno3 _ xl0 rfl
            refine x_iload_n C (i := 2) dX5_cancelSmallFactors_12 rfl xl2 ?_
            refine x_bipush C (nI 32) dX5_cancelSmallFactors_13 rfl ?_
            refine x_icmp_geN C 50 dX5_cancelSmallFactors_15 (by decide) (by omega) (by omega) (fun c15 => ?_) (fun c15 => ?_)
            · skip
              have c15' := Nat.not_lt.mpr c15
              exact lp50 (absurd (z_32 hf2 (hkp (by omega)) (z_pb_dv hpb ⟨e, hDe⟩) (by rw [show 32 = k by omega]; exact ⟨D2, by rw [Nat.mul_comm]; exact hD2e⟩)) (fun z => z)) _ xl0 xl1
            · skip
              have c15' := Nat.not_le.mpr c15
              refine x_aload_n C (i := 0) dX5_cancelSmallFactors_18 rfl xl0 ?_
              refine x_iload_n C (i := 1) dX5_cancelSmallFactors_19 rfl xl1 ?_
              have hM := c_X5_cancels l Y (x_st σ [] [(31, g3), (33, g4)] []) f hf2 (by omega) N2 D2 g3 g4 rfl rfl hN2 hD2 hD20
              refine x_callV C (as := [.int (nI f)]) (st := []) (hM) kb_X5_cancels kv_X5_68 dX5_cancelSmallFactors_20 rfl rfl (Nat.le_of_ble_eq_true rfl) ⟨by decide, by decide⟩ ⟨by decide, by decide⟩ ko_29 ?_
              clear hM
              rintro _ _ ⟨rfl, rfl⟩
              refine x_if_eqZ C 50 dX5_cancelSmallFactors_23 (by decide) (fun c23 => ?_) (fun c23 => ?_)
              · skip
                exact lp50 (fun d h1 h2 z => by
                      rcases Nat.lt_or_ge d f with h3 | h3
                      · exact z_nocm hno ⟨f ^ k, hN2e⟩ ⟨f ^ k, hD2e⟩ d h1 h3 z
                      · have e9 : d = f := by omega
                        subst e9
                        rw [decide_eq_true (Nat.mod_eq_zero_of_dvd z.1), decide_eq_true (Nat.mod_eq_zero_of_dvd z.2)] at c23
                        exact absurd c23 (by decide)) _ xl0 xl1
              · skip
                rw [Bool.and_eq_true] at c23
                have hd1 := of_decide_eq_true c23.1
                have hd2 := of_decide_eq_true c23.2
                have hprm := z_cm_pr hf2 (z_nocm hno ⟨f ^ k, hN2e⟩ ⟨f ^ k, hD2e⟩) (Nat.dvd_of_mod_eq_zero hd2) (Nat.dvd_of_mod_eq_zero hd1)
                refine x_aload_n C (i := 0) dX5_cancelSmallFactors_26 rfl xl0 ?_
                refine x_getR C fr_29_0 kf_X5_10 dX5_cancelSmallFactors_27 ?_
                refine x_iload_n C (i := 1) dX5_cancelSmallFactors_30 rfl xl1 ?_
                refine x_i2l C dX5_cancelSmallFactors_31 ?_
                refine x_topL (y := lN f) (nI_l (by omega)) ?_
                have hM := c_X4_divide_30 l Y (x_st σ [] [(31, g3), (33, g4)] []) f N2 g3 rfl hN2 (by omega) (by omega)
                refine x_callV C (as := [.long (lN f)]) (st := []) (hM) kb_X4_divide kv_X5_54 dX5_cancelSmallFactors_32 rfl rfl (Nat.le_of_ble_eq_true rfl) ⟨by decide, by decide⟩ ⟨by decide, by decide⟩ ko_30 ?_
                clear hM
                rintro _ _ ⟨gq, ⟨rfl, rfl⟩, hq1⟩
                refine x_sig (σ' := x_st σ [] [(31, gq), (33, g4)] []) (x_st_st rfl) ?_
                refine x_aload_n C (i := 0) dX5_cancelSmallFactors_35 rfl xl0 ?_
                refine x_getR C fr_29_1 kf_X5_16 dX5_cancelSmallFactors_36 ?_
                refine x_iload_n C (i := 1) dX5_cancelSmallFactors_39 rfl xl1 ?_
                refine x_i2l C dX5_cancelSmallFactors_40 ?_
                refine x_topL (y := lN f) (nI_l (by omega)) ?_
                have hM := c_X4_divide_32 l Y (x_st σ [] [(31, gq), (33, g4)] []) f D2 g4 rfl hD2 (by omega) (by omega)
                refine x_callV C (as := [.long (lN f)]) (st := []) (hM) kb_X4_divide kv_X5_54 dX5_cancelSmallFactors_41 rfl rfl (Nat.le_of_ble_eq_true rfl) ⟨by decide, by decide⟩ ⟨by decide, by decide⟩ ko_32 ?_
                clear hM
                rintro _ _ ⟨gr, ⟨rfl, rfl⟩, hq2⟩
                refine x_sig (σ' := x_st σ [] [(31, gq), (33, gr)] []) (x_st_st rfl) ?_
                refine x_iincN C (i := 2) (b := 1) dX5_cancelSmallFactors_44 xl2 rfl (by decide) ?_
                refine x_goto C 12 dX5_cancelSmallFactors_47 (by decide) ?_
                exact ih12 _ (by omega) (k + 1) (N2 / f) (D2 / f) gq gr rfl (by omega) hq1 hq2 (Nat.div_pos (Nat.le_of_dvd hD20 (Nat.dvd_of_mod_eq_zero hd1)) (by omega)) (by rw [Nat.pow_succ, Nat.mul_comm (f ^ k), ← Nat.mul_assoc, z_dv0 hd2]; exact hN2e) (by rw [Nat.pow_succ, Nat.mul_comm (f ^ k), ← Nat.mul_assoc, z_dv0 hd1]; exact hD2e) (fun _ => hprm) _ xl0 xl1 rfl
        exact lp12 _ 0 N1 D1 g1 g2 rfl (Nat.zero_le _) hN1 hD1 hD10 (by rw [Nat.pow_zero, Nat.mul_one]) (by rw [Nat.pow_zero, Nat.mul_one]) (fun z => absurd z (by decide)) _ xl0 xl1 rfl
  exact lp2 _ 2 N D 1 f31 f33 rfl (Nat.le_refl _) (by decide) hN hD hD0 (Nat.mul_one _).symm (Nat.mul_one _).symm (fun d h1 h2 => absurd h2 (by omega)) _ rfl rfl
theorem c_X5_cancelSmallFactors (l : Launch) (Y : x_Y) (σ : x_S) (gs : Nat) (hgs : σ.1 29 3 = nI gs) (hgs9 : gs ≤ 3000) (N D : Nat) (f31 f33 : Nat → Int32) (h31 : σ.1 31 = f31) (h33 : σ.1 33 = f33) (hN : z_is f31 N) (hD : z_is f33 D) (hD0 : 0 < D) (hpb : z_pb D) : x_M l yX5_cancelSmallFactors cX5_cancelSmallFactors 3 none 2 Y [.ref 29] σ (fun r τ => ∃ N9 D9 e g31 g33, (r = none ∧ τ = x_st σ [] [(31, g31), (33, g33)] []) ∧ z_is g31 N9 ∧ z_is g33 D9 ∧ 0 < D9 ∧ N = N9 * e ∧ D = D9 * e ∧ ∀ d, 2 ≤ d → d < (gs + 1) → ¬ (d ∣ N9 ∧ d ∣ D9)) := c_X5_cancelSmallFactors_K l Y σ gs hgs hgs9 N D f31 f33 h31 h33 hN hD hD0 hpb _ (fun _ _ h => h)
set_option maxRecDepth 100000 in
set_option maxHeartbeats 200000 in
theorem c_X5_divideBy_K (l : Launch) (Y : x_Y) (σ : x_S) (t : Int64) (T : Nat) (hT : 0 < t → t = lN T ∧ 0 < T ∧ T < 2 ^ 46) (gs : Nat) (hgs : σ.1 29 3 = nI gs) (hgs9 : gs ≤ 3000) (N D : Nat) (f31 f33 : Nat → Int32) (h31 : σ.1 31 = f31) (h33 : σ.1 33 = f33) (hN : z_is f31 N) (hD : z_is f33 D) (hD0 : 0 < D) (hpb : z_pb D) (hDT : D * T < 65536 ^ 20) (K : Option Value → x_S → Prop) (hK : ∀ (r : Option Value) (τ : x_S), ((¬ 0 < t ∧ r = none ∧ τ = σ) ∨ (0 < t ∧ ∃ N9 D9 e g31 g33, (r = none ∧ τ = x_st σ [(29, 4, x_z true)] [(31, g31), (33, g33)] []) ∧ z_is g31 (N9 / Nat.gcd N9 T) ∧ z_is g33 (D9 * (T / Nat.gcd N9 T)) ∧ 0 < D9 ∧ N = N9 * e ∧ D = D9 * e ∧ ∀ d, 2 ≤ d → d < (gs + 1) → ¬ (d ∣ N9 ∧ d ∣ D9))) → K r τ) : x_M l yX5_divideBy cX5_divideBy 5 none 3 Y [.ref 29, .long t] σ K := by
  refine x_start (by decide) (Nat.le_of_ble_eq_true rfl) ?_
  intro xp xe xs xm xg xb xt xc C xr xk
  refine x_sig (σ' := x_st σ [(29, 4, σ.1 29 4)] [(31, f31), (33, f33)] []) (x_st_in (And.intro rfl trivial) (And.intro h31 (And.intro h33 trivial)) trivial) ?_
  refine x_lload_n C (i := 1) dX5_divideBy_0 rfl rfl ?_
  refine x_lconst C (0) dX5_divideBy_1 rfl ?_
  refine x_topL (y := lN 0) rfl ?_
  refine x_lcmp C dX5_divideBy_2 ?_
  refine x_jf_gt C 7 dX5_divideBy_3 (by decide) (fun c3 => ?_) (fun c3 => ?_)
  · skip
    have c3 := (lg_cmp_gt _ _).mp c3
    have c3' := Int64.not_le.mpr c3
    obtain ⟨hT1, hT0, hT9⟩ := hT c3
    subst hT1
    refine x_aload_n C (i := 0) dX5_divideBy_7 rfl rfl ?_
    have hM := c_X5_cancelSmallFactors l Y (x_st σ [(29, 4, σ.1 29 4)] [(31, f31), (33, f33)] []) gs hgs hgs9 N D f31 f33 rfl rfl hN hD hD0 hpb
    refine x_callV C (as := []) (st := []) (hM) kb_X5_cancelSmallFactors kv_X5_65 dX5_divideBy_8 rfl rfl (Nat.le_of_ble_eq_true rfl) ⟨by decide, by decide⟩ ⟨by decide, by decide⟩ ko_29 ?_
    clear hM
    rintro _ _ ⟨N9, D9, e, ga, gb, ⟨rfl, rfl⟩, hN9, hD9, hD90, hNe, hDe, hno⟩
    refine x_sig (σ' := x_st σ [(29, 4, σ.1 29 4)] [(31, ga), (33, gb)] []) (x_st_st rfl) ?_
    have hgp : 0 < Nat.gcd N9 T := Nat.gcd_pos_of_pos_right N9 hT0
    have hgl : Nat.gcd N9 T ≤ T := Nat.le_of_dvd hT0 (Nat.gcd_dvd_right N9 T)
    have hdl : T / Nat.gcd N9 T ≤ T := Nat.div_le_self _ _
    have hgne : ¬ lN (Nat.gcd N9 T) = 0 := fun z => by
      have z2 := (pk_lEQ (a := Nat.gcd N9 T) (b := 0) (by omega) (by decide)).mp z
      omega
    have hm9 : N9 % T < 2 ^ 63 := Nat.lt_trans (Nat.mod_lt N9 hT0) (by omega)
    have he0 : 0 < e := Nat.pos_of_ne_zero (fun z => by rw [z] at hDe; omega)
    have hB : D9 * (T / Nat.gcd N9 T) < 65536 ^ 20 := Nat.lt_of_le_of_lt (Nat.mul_le_mul (by rw [hDe]; exact Nat.le_mul_of_pos_right D9 he0) hdl) hDT
    refine x_aload_n C (i := 0) dX5_divideBy_11 rfl rfl ?_
    refine x_getR C fr_29_0 kf_X5_10 dX5_divideBy_12 ?_
    refine x_lload_n C (i := 1) dX5_divideBy_15 rfl rfl ?_
    have hM := c_X4_remainder_30 l Y (x_st σ [(29, 4, σ.1 29 4)] [(31, ga), (33, gb)] []) T N9 ga rfl hN9 hT9 hT0
    refine x_callV C (as := [.long (lN T)]) (st := []) (hM) kb_X4_remainder kv_X5_46 dX5_divideBy_16 rfl rfl (Nat.le_of_ble_eq_true rfl) ⟨by decide, by decide⟩ ⟨by decide, by decide⟩ ko_30 ?_
    clear hM
    rintro _ _ ⟨rfl, rfl⟩
    refine x_lload_n C (i := 1) dX5_divideBy_19 rfl rfl ?_
    have hM := c_X11_commonDivisor l Y (x_st σ [(29, 4, σ.1 29 4)] [(31, ga), (33, gb)] []) (N9 % T) T hm9 (by omega) hT0
    refine x_callSN C (as := [.long (lN (N9 % T)), .long (lN T)]) (st := []) (hM) kb_X11_commonDivisor kn_X5_40 dX5_divideBy_20 rfl rfl (Nat.le_of_ble_eq_true rfl) ⟨by decide, by decide⟩ ⟨by decide, by decide⟩ ?_
    clear hM
    rintro _ _ ⟨rfl, rfl⟩
    refine x_topL (y := lN (Nat.gcd N9 T)) (by rw [z_gcm]) ?_
    refine x_lstore_n C (i := 3) dX5_divideBy_23 rfl (by decide) ?_
    refine x_aload_n C (i := 0) dX5_divideBy_24 rfl rfl ?_
    refine x_getR C fr_29_0 kf_X5_10 dX5_divideBy_25 ?_
    refine x_lload_n C (i := 3) dX5_divideBy_28 rfl rfl ?_
    have hM := c_X4_divide_30 l Y (x_st σ [(29, 4, σ.1 29 4)] [(31, ga), (33, gb)] []) (Nat.gcd N9 T) N9 ga rfl hN9 (by omega) hgp
    refine x_callV C (as := [.long (lN (Nat.gcd N9 T))]) (st := []) (hM) kb_X4_divide kv_X5_54 dX5_divideBy_29 rfl rfl (Nat.le_of_ble_eq_true rfl) ⟨by decide, by decide⟩ ⟨by decide, by decide⟩ ko_30 ?_
    clear hM
    rintro _ _ ⟨gc, ⟨rfl, rfl⟩, hc⟩
    refine x_sig (σ' := x_st σ [(29, 4, σ.1 29 4)] [(31, gc), (33, gb)] []) (x_st_st rfl) ?_
    refine x_aload_n C (i := 0) dX5_divideBy_32 rfl rfl ?_
    refine x_getR C fr_29_1 kf_X5_16 dX5_divideBy_33 ?_
    refine x_lload_n C (i := 1) dX5_divideBy_36 rfl rfl ?_
    refine x_lload_n C (i := 3) dX5_divideBy_37 rfl rfl ?_
    refine x_ldiv C dX5_divideBy_38 hgne ?_
    refine x_topL (y := lN (T / (Nat.gcd N9 T))) (pk_lDiv (by omega) hgp (by omega)) ?_
    have hM := c_X4_multiply_32 l Y (x_st σ [(29, 4, σ.1 29 4)] [(31, gc), (33, gb)] []) (T / (Nat.gcd N9 T)) D9 gb rfl hD9 (by omega) hB
    refine x_callV C (as := [.long (lN (T / (Nat.gcd N9 T)))]) (st := []) (hM) kb_X4_multiply kv_X5_58 dX5_divideBy_39 rfl rfl (Nat.le_of_ble_eq_true rfl) ⟨by decide, by decide⟩ ⟨by decide, by decide⟩ ko_32 ?_
    clear hM
    rintro _ _ ⟨gd, ⟨rfl, rfl⟩, hd⟩
    refine x_sig (σ' := x_st σ [(29, 4, σ.1 29 4)] [(31, gc), (33, gd)] []) (x_st_st rfl) ?_
    refine x_aload_n C (i := 0) dX5_divideBy_42 rfl rfl ?_
    refine x_iconst C (nI 1) dX5_divideBy_43 rfl ?_
    refine x_congr (st' := .int (x_z true) :: .ref 29 :: []) rfl rfl ?_
    refine x_putZ C fi_29_4 kf_X5_30 rfl rfl dX5_divideBy_44 ?_
    refine x_sig (σ' := x_st σ [(29, 4, x_z true)] [(31, gc), (33, gd)] []) (x_st_u rfl) ?_
    refine x_vret C xr xk dX5_divideBy_47 ?_
    exact hK _ _ (Or.inr ⟨c3, N9, D9, e, _, _, ⟨rfl, rfl⟩, hc, hd, hD90, hNe, hDe, hno⟩)
  · skip
    have c3 := (lg_cmp_le _ _).mp c3
    have c3' := Int64.not_lt.mpr c3
    refine x_vret C xr xk dX5_divideBy_6 ?_
    exact hK _ _ (Or.inl ⟨c3', rfl, (x_st_in (σ := σ) (F := [(29, 4, σ.1 29 4)]) (I := [(31, f31), (33, f33)]) (G := []) (And.intro rfl trivial) (And.intro h31 (And.intro h33 trivial)) trivial).symm⟩)
theorem c_X5_divideBy (l : Launch) (Y : x_Y) (σ : x_S) (t : Int64) (T : Nat) (hT : 0 < t → t = lN T ∧ 0 < T ∧ T < 2 ^ 46) (gs : Nat) (hgs : σ.1 29 3 = nI gs) (hgs9 : gs ≤ 3000) (N D : Nat) (f31 f33 : Nat → Int32) (h31 : σ.1 31 = f31) (h33 : σ.1 33 = f33) (hN : z_is f31 N) (hD : z_is f33 D) (hD0 : 0 < D) (hpb : z_pb D) (hDT : D * T < 65536 ^ 20) : x_M l yX5_divideBy cX5_divideBy 5 none 3 Y [.ref 29, .long t] σ (fun r τ => (¬ 0 < t ∧ r = none ∧ τ = σ) ∨ (0 < t ∧ ∃ N9 D9 e g31 g33, (r = none ∧ τ = x_st σ [(29, 4, x_z true)] [(31, g31), (33, g33)] []) ∧ z_is g31 (N9 / Nat.gcd N9 T) ∧ z_is g33 (D9 * (T / Nat.gcd N9 T)) ∧ 0 < D9 ∧ N = N9 * e ∧ D = D9 * e ∧ ∀ d, 2 ≤ d → d < (gs + 1) → ¬ (d ∣ N9 ∧ d ∣ D9))) := c_X5_divideBy_K l Y σ t T hT gs hgs hgs9 N D f31 f33 h31 h33 hN hD hD0 hpb hDT _ (fun _ _ h => h)
set_option maxRecDepth 100000 in
set_option maxHeartbeats 200000 in
theorem c_X5_add_K (l : Launch) (Y : x_Y) (σ : x_S) (s c : Nat) (hs9 : s < 2 ^ 45) (hc0 : 0 < c) (hc9 : c ≤ 3000) (gs : Nat) (hgs : σ.1 29 3 = nI gs) (hgs9 : gs ≤ 3000) (N D : Nat) (f31 f33 : Nat → Int32) (h31 : σ.1 31 = f31) (h33 : σ.1 33 = f33) (hN : z_is f31 N) (hD : z_is f33 D) (hD0 : 0 < D) (f35 : Nat → Int32) (h35 : σ.1 35 = f35) (q tm ll sh : Nat) (hq : Nat.gcd s c = q) (htm : s / q = tm) (hll : c / q = ll) (hsh : Nat.gcd D ll = sh) (hN9 : (N * (ll / sh) + D / sh * tm) < 65536 ^ 20) (hD9 : (D * (ll / sh)) < 65536 ^ 20) (K : Option Value → x_S → Prop) (hK : ∀ (r : Option Value) (τ : x_S), (∃ g31 g33 g35, (r = none ∧ τ = x_st σ [(29, 3, nI (max gs c))] [(31, g31), (33, g33), (35, g35)] []) ∧ z_is g31 (N * (ll / sh) + D / sh * tm) ∧ z_is g33 (D * (ll / sh))) → K r τ) : x_M l yX5_add cX5_add 12 none 2 Y [.ref 29, .long (lN s), .int (nI c)] σ K := by
  refine x_start (by decide) (Nat.le_of_ble_eq_true rfl) ?_
  intro xp xe xs xm xg xb xt xc C xr xk
  refine x_sig (σ' := x_st σ [(29, 3, nI gs)] [(31, f31), (33, f33), (35, f35)] []) (x_st_in (And.intro hgs trivial) (And.intro h31 (And.intro h33 (And.intro h35 trivial))) trivial) ?_
  refine x_iload_n C (i := 3) dX5_add_0 rfl rfl ?_
  refine x_iconst C (nI 1) dX5_add_1 rfl ?_
  refine x_icmp_geN C 6 dX5_add_2 (by decide) (by omega) (by omega) (fun c2 => ?_) (fun c2 => ?_)
  · skip
    have c2' := Nat.not_lt.mpr c2
    refine x_aload_n C (i := 0) dX5_add_6 rfl rfl ?_
    refine x_aload_n C (i := 0) dX5_add_7 rfl rfl ?_
    refine x_getI C fi_29_3 kf_X5_26 dX5_add_8 ?_
    refine x_topI (y := nI gs) rfl ?_
    refine x_iload_n C (i := 3) dX5_add_11 rfl rfl ?_
    have hM := c_J9_max_7cf53 l Y (x_st σ [(29, 3, nI gs)] [(31, f31), (33, f33), (35, f35)] []) (nI gs) (nI c)
    refine x_callS C (as := [.int (nI gs), .int (nI c)]) (st := [.ref 29]) (hM) kb_J9_max_7cf53 ks_X5_34 dX5_add_12 rfl rfl (Nat.le_of_ble_eq_true rfl) ⟨by decide, by decide⟩ ⟨by decide, by decide⟩ ?_
    clear hM
    rintro _ _ ⟨rfl, rfl⟩
    refine x_topI (y := nI (max gs c)) (z_mxn (by omega) (by omega)) ?_
    refine x_putN C fi_29_3 kf_X5_26 rfl rfl dX5_add_15 ?_
    refine x_sig (σ' := x_st σ [(29, 3, nI (max gs c))] [(31, f31), (33, f33), (35, f35)] []) (x_st_u rfl) ?_
    have hq0 : 0 < q := by rw [← hq]; exact Nat.gcd_pos_of_pos_right s hc0
    have hq1 : q ≤ c := by rw [← hq]; exact Nat.le_of_dvd hc0 (Nat.gcd_dvd_right s c)
    have hl0 : 0 < ll := by rw [← hll]; exact Nat.div_pos hq1 hq0
    have hl1 : ll ≤ c := by rw [← hll]; exact Nat.div_le_self _ _
    have ht1 : tm ≤ s := by rw [← htm]; exact Nat.div_le_self _ _
    have hs0 : 0 < sh := by rw [← hsh]; exact Nat.gcd_pos_of_pos_left ll hD0
    have hs1 : sh ≤ ll := by rw [← hsh]; exact Nat.le_of_dvd hl0 (Nat.gcd_dvd_right D ll)
    have hls : ll / sh ≤ ll := Nat.div_le_self _ _
    have hqne : ¬ lN q = 0 := fun z => by
      have z2 := (pk_lEQ (a := q) (b := 0) (by omega) (by decide)).mp z
      omega
    have hsne : ¬ lN sh = 0 := fun z => by
      have z2 := (pk_lEQ (a := sh) (b := 0) (by omega) (by decide)).mp z
      omega
    have hm9 : D % ll < 2 ^ 63 := Nat.lt_trans (Nat.mod_lt D hl0) (by omega)
    refine x_lload_n C (i := 1) dX5_add_18 rfl rfl ?_
    refine x_iload_n C (i := 3) dX5_add_19 rfl rfl ?_
    refine x_i2l C dX5_add_20 ?_
    refine x_topL (y := lN c) (nI_l (by omega)) ?_
    have hM := c_X11_commonDivisor l Y (x_st σ [(29, 3, nI (max gs c))] [(31, f31), (33, f33), (35, f35)] []) s c (by omega) (by omega) hc0
    refine x_callSN C (as := [.long (lN s), .long (lN c)]) (st := []) (hM) kb_X11_commonDivisor kn_X5_40 dX5_add_21 rfl rfl (Nat.le_of_ble_eq_true rfl) ⟨by decide, by decide⟩ ⟨by decide, by decide⟩ ?_
    clear hM
    rintro _ _ ⟨rfl, rfl⟩
    refine x_topL (y := lN q) (by rw [hq]) ?_
    refine x_lstore C (i := 4) dX5_add_24 (by decide) ?_
    refine x_lload_n C (i := 1) dX5_add_26 rfl rfl ?_
    refine x_lload C (i := 4) dX5_add_27 rfl ?_
    refine x_ldiv C dX5_add_29 hqne ?_
    refine x_topL (y := lN (s / q)) (pk_lDiv (by omega) hq0 (by omega)) ?_
    refine x_topL (y := lN tm) (by rw [htm]) ?_
    refine x_lstore C (i := 6) dX5_add_30 (by decide) ?_
    refine x_iload_n C (i := 3) dX5_add_32 rfl rfl ?_
    refine x_i2l C dX5_add_33 ?_
    refine x_topL (y := lN c) (nI_l (by omega)) ?_
    refine x_lload C (i := 4) dX5_add_34 rfl ?_
    refine x_ldiv C dX5_add_36 hqne ?_
    refine x_topL (y := lN (c / q)) (pk_lDiv (by omega) hq0 (by omega)) ?_
    refine x_topL (y := lN ll) (by rw [hll]) ?_
    refine x_lstore C (i := 8) dX5_add_37 (by decide) ?_
    refine x_aload_n C (i := 0) dX5_add_39 rfl rfl ?_
    refine x_getR C fr_29_1 kf_X5_16 dX5_add_40 ?_
    refine x_lload C (i := 8) dX5_add_43 rfl ?_
    have hM := c_X4_remainder_32 l Y (x_st σ [(29, 3, nI (max gs c))] [(31, f31), (33, f33), (35, f35)] []) ll D f33 rfl hD (by omega) hl0
    refine x_callV C (as := [.long (lN ll)]) (st := []) (hM) kb_X4_remainder kv_X5_46 dX5_add_45 rfl rfl (Nat.le_of_ble_eq_true rfl) ⟨by decide, by decide⟩ ⟨by decide, by decide⟩ ko_32 ?_
    clear hM
    rintro _ _ ⟨rfl, rfl⟩
    refine x_lload C (i := 8) dX5_add_48 rfl ?_
    have hM := c_X11_commonDivisor l Y (x_st σ [(29, 3, nI (max gs c))] [(31, f31), (33, f33), (35, f35)] []) (D % ll) ll hm9 (by omega) hl0
    refine x_callSN C (as := [.long (lN (D % ll)), .long (lN ll)]) (st := []) (hM) kb_X11_commonDivisor kn_X5_40 dX5_add_50 rfl rfl (Nat.le_of_ble_eq_true rfl) ⟨by decide, by decide⟩ ⟨by decide, by decide⟩ ?_
    clear hM
    rintro _ _ ⟨rfl, rfl⟩
    refine x_topL (y := lN sh) (by rw [z_gcm, hsh]) ?_
    refine x_lstore C (i := 10) dX5_add_53 (by decide) ?_
    refine x_aload_n C (i := 0) dX5_add_55 rfl rfl ?_
    refine x_getR C fr_29_2 kf_X5_19 dX5_add_56 ?_
    refine x_aload_n C (i := 0) dX5_add_59 rfl rfl ?_
    refine x_getR C fr_29_1 kf_X5_16 dX5_add_60 ?_
    have hM := c_X4_copy_34 l Y (x_st σ [(29, 3, nI (max gs c))] [(31, f31), (33, f33), (35, f35)] []) D f33 f35 rfl rfl hD
    refine x_callV C (as := [.ref 32]) (st := []) (hM) kb_X4_copy kv_X5_50 dX5_add_63 rfl rfl (Nat.le_of_ble_eq_true rfl) ⟨by decide, by decide⟩ ⟨by decide, by decide⟩ ko_34 ?_
    clear hM
    rintro _ _ ⟨rfl, rfl⟩
    refine x_sig (σ' := x_st σ [(29, 3, nI (max gs c))] [(31, f31), (33, f33), (35, va_cpy f33 f35 0 0 20)] []) (x_st_st rfl) ?_
    refine x_aload_n C (i := 0) dX5_add_66 rfl rfl ?_
    refine x_getR C fr_29_2 kf_X5_19 dX5_add_67 ?_
    refine x_lload C (i := 10) dX5_add_70 rfl ?_
    have hM := c_X4_divide_34 l Y (x_st σ [(29, 3, nI (max gs c))] [(31, f31), (33, f33), (35, va_cpy f33 f35 0 0 20)] []) sh D (va_cpy f33 f35 0 0 20) rfl (z_cpy20 f33 f35 hD) (by omega) hs0
    refine x_callV C (as := [.long (lN sh)]) (st := []) (hM) kb_X4_divide kv_X5_54 dX5_add_72 rfl rfl (Nat.le_of_ble_eq_true rfl) ⟨by decide, by decide⟩ ⟨by decide, by decide⟩ ko_34 ?_
    clear hM
    rintro _ _ ⟨gs5, ⟨rfl, rfl⟩, hgs5⟩
    refine x_sig (σ' := x_st σ [(29, 3, nI (max gs c))] [(31, f31), (33, f33), (35, gs5)] []) (x_st_st rfl) ?_
    refine x_aload_n C (i := 0) dX5_add_75 rfl rfl ?_
    refine x_getR C fr_29_0 kf_X5_10 dX5_add_76 ?_
    refine x_lload C (i := 8) dX5_add_79 rfl ?_
    refine x_lload C (i := 10) dX5_add_81 rfl ?_
    refine x_ldiv C dX5_add_83 hsne ?_
    refine x_topL (y := lN (ll / sh)) (pk_lDiv (by omega) hs0 (by omega)) ?_
    have hM := c_X4_multiply_30 l Y (x_st σ [(29, 3, nI (max gs c))] [(31, f31), (33, f33), (35, gs5)] []) (ll / sh) N f31 rfl hN (by omega) (Nat.lt_of_le_of_lt (Nat.le_add_right _ _) hN9)
    refine x_callV C (as := [.long (lN (ll / sh))]) (st := []) (hM) kb_X4_multiply kv_X5_58 dX5_add_84 rfl rfl (Nat.le_of_ble_eq_true rfl) ⟨by decide, by decide⟩ ⟨by decide, by decide⟩ ko_30 ?_
    clear hM
    rintro _ _ ⟨gt, ⟨rfl, rfl⟩, hgt⟩
    refine x_sig (σ' := x_st σ [(29, 3, nI (max gs c))] [(31, gt), (33, f33), (35, gs5)] []) (x_st_st rfl) ?_
    refine x_aload_n C (i := 0) dX5_add_87 rfl rfl ?_
    refine x_getR C fr_29_0 kf_X5_10 dX5_add_88 ?_
    refine x_aload_n C (i := 0) dX5_add_91 rfl rfl ?_
    refine x_getR C fr_29_2 kf_X5_19 dX5_add_92 ?_
    refine x_lload C (i := 6) dX5_add_95 rfl ?_
    have hM := c_X4_addProduct_30 l Y (x_st σ [(29, 3, nI (max gs c))] [(31, gt), (33, f33), (35, gs5)] []) tm (N * (ll / sh)) (D / sh) gt gs5 rfl rfl hgt hgs5 (by omega) hN9
    refine x_callV C (as := [.ref 34, .long (lN tm)]) (st := []) (hM) kb_X4_addProduct kv_X5_61 dX5_add_97 rfl rfl (Nat.le_of_ble_eq_true rfl) ⟨by decide, by decide⟩ ⟨by decide, by decide⟩ ko_30 ?_
    clear hM
    rintro _ _ ⟨gu, ⟨rfl, rfl⟩, hgu⟩
    refine x_sig (σ' := x_st σ [(29, 3, nI (max gs c))] [(31, gu), (33, f33), (35, gs5)] []) (x_st_st rfl) ?_
    refine x_aload_n C (i := 0) dX5_add_100 rfl rfl ?_
    refine x_getR C fr_29_1 kf_X5_16 dX5_add_101 ?_
    refine x_lload C (i := 8) dX5_add_104 rfl ?_
    refine x_lload C (i := 10) dX5_add_106 rfl ?_
    refine x_ldiv C dX5_add_108 hsne ?_
    refine x_topL (y := lN (ll / sh)) (pk_lDiv (by omega) hs0 (by omega)) ?_
    have hM := c_X4_multiply_32 l Y (x_st σ [(29, 3, nI (max gs c))] [(31, gu), (33, f33), (35, gs5)] []) (ll / sh) D f33 rfl hD (by omega) hD9
    refine x_callV C (as := [.long (lN (ll / sh))]) (st := []) (hM) kb_X4_multiply kv_X5_58 dX5_add_109 rfl rfl (Nat.le_of_ble_eq_true rfl) ⟨by decide, by decide⟩ ⟨by decide, by decide⟩ ko_32 ?_
    clear hM
    rintro _ _ ⟨gv, ⟨rfl, rfl⟩, hgv⟩
    refine x_sig (σ' := x_st σ [(29, 3, nI (max gs c))] [(31, gu), (33, gv), (35, gs5)] []) (x_st_st rfl) ?_
    refine x_vret C xr xk dX5_add_112 ?_
    exact hK _ _ ⟨_, _, _, ⟨rfl, rfl⟩, hgu, hgv⟩
  · skip
    have c2' := Nat.not_le.mpr c2
    omega
theorem c_X5_add (l : Launch) (Y : x_Y) (σ : x_S) (s c : Nat) (hs9 : s < 2 ^ 45) (hc0 : 0 < c) (hc9 : c ≤ 3000) (gs : Nat) (hgs : σ.1 29 3 = nI gs) (hgs9 : gs ≤ 3000) (N D : Nat) (f31 f33 : Nat → Int32) (h31 : σ.1 31 = f31) (h33 : σ.1 33 = f33) (hN : z_is f31 N) (hD : z_is f33 D) (hD0 : 0 < D) (f35 : Nat → Int32) (h35 : σ.1 35 = f35) (q tm ll sh : Nat) (hq : Nat.gcd s c = q) (htm : s / q = tm) (hll : c / q = ll) (hsh : Nat.gcd D ll = sh) (hN9 : (N * (ll / sh) + D / sh * tm) < 65536 ^ 20) (hD9 : (D * (ll / sh)) < 65536 ^ 20) : x_M l yX5_add cX5_add 12 none 2 Y [.ref 29, .long (lN s), .int (nI c)] σ (fun r τ => ∃ g31 g33 g35, (r = none ∧ τ = x_st σ [(29, 3, nI (max gs c))] [(31, g31), (33, g33), (35, g35)] []) ∧ z_is g31 (N * (ll / sh) + D / sh * tm) ∧ z_is g33 (D * (ll / sh))) := c_X5_add_K l Y σ s c hs9 hc0 hc9 gs hgs hgs9 N D f31 f33 h31 h33 hN hD hD0 f35 h35 q tm ll sh hq htm hll hsh hN9 hD9 _ (fun _ _ h => h)
