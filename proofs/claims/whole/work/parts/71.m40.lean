set_option maxRecDepth 100000 in
set_option maxHeartbeats 200000 in
theorem c_X10_findAbove_K (l : Launch) (Y : x_Y) (σ : x_S) (m : Int32) (n : Nat) (hn : σ.1 10 5 = nI n) (hn9 : n ≤ 192) (N : Nat) (hN : σ.1 15 3 = nI N) (hN9 : N ≤ 3000) (K : Option Value → x_S → Prop) (hK : ∀ (r : Option Value) (τ : x_S), (∃ f37, (r = none ∧ τ = x_st σ [(36, 1, nI (y_cnb (z_vio σ n m) N))] [(37, f37)] []) ∧ y_fnd (z_vio σ n m) N f37) → K r τ) : x_M l yX10_findAbove cX10_findAbove 6 none 3 Y [.ref 36, .int m, .ref 15, .ref 10] σ K := by
  refine x_start (by decide) (Nat.le_of_ble_eq_true rfl) ?_
  intro xp xe xs xm xg xb xt xc C xr xk
  refine x_sig (σ' := x_st σ [(36, 1, σ.1 36 1)] [(37, σ.1 37)] []) (x_st_in (And.intro rfl trivial) (And.intro rfl trivial) trivial) ?_
  refine x_aload_n C (i := 0) dX10_findAbove_0 rfl rfl ?_
  refine x_iconst C (nI 0) dX10_findAbove_1 rfl ?_
  refine x_putN C fi_36_1 kf_X10_15 rfl rfl dX10_findAbove_2 ?_
  refine x_sig (σ' := x_st σ [(36, 1, nI 0)] [(37, σ.1 37)] []) (x_st_u rfl) ?_
  refine x_iconst C (nI 0) dX10_findAbove_5 rfl ?_
  refine x_istore C (i := 4) dX10_findAbove_6 (by decide) ?_
  have lp8 : ∀ (m8 : Nat) (i : Nat) (c : Nat) (f37 : Nat → Int32), (N - i) = m8 → (i ≤ N) → (c = y_cnb (z_vio σ n m) i) → (y_fnd (z_vio σ n m) i f37) → ∀ L : x_Lo, L.1 0 = some (.ref 36) → L.1 1 = some (.int m) → L.1 2 = some (.ref 15) → L.1 3 = some (.ref 10) → L.1 4 = some (.int (nI i)) → x_W xp l xe (x_rm 3) xs xm xg xb xt xc 6 Y 0 0 (MQ xb (x_Q Y K) xg xs 0 0 (x_A Y)) 8 L [] (x_st σ [(36, 1, nI c)] [(37, f37)] []) := by
    intro m8
    induction m8 using Nat.strongRecOn with
    | _ m8 ih8 =>
      intro i c f37 hm8 hi hc hfd L xl0 xl1 xl2 xl3 xl4
      have hc9 := y_cnb_le (z_vio σ n m) i
      refine x_iload C (i := 4) dX10_findAbove_8 xl4 ?_
      refine x_aload_n C (i := 2) dX10_findAbove_10 rfl xl2 ?_
      refine x_getI C fi_15_3 kf_X10_19 dX10_findAbove_11 ?_
      refine x_topI (y := nI N) hN ?_
      refine x_icmp_geN C 101 dX10_findAbove_14 (by decide) (by omega) (by omega) (fun c14 => ?_) (fun c14 => ?_)
      · skip
        have c14' := Nat.not_lt.mpr c14
        obtain rfl : N = i := by omega
        refine x_vret C xr xk dX10_findAbove_101 ?_
        exact hK _ _ ⟨_, ⟨rfl, by rw [hc]⟩, hfd⟩
      · skip
        have c14' := Nat.not_le.mpr c14
        refine x_aload_n C (i := 2) dX10_findAbove_17 rfl xl2 ?_
        refine x_getR C fr_15_0 kf_X10_22 dX10_findAbove_18 ?_
        refine x_iload C (i := 4) dX10_findAbove_21 xl4 ?_
        refine x_ialdN C (by decide) rfl (by decide) dX10_findAbove_23 (by omega) ?_
        refine x_topI (y := σ.1 16 i) rfl ?_
        refine x_istore C (i := 5) dX10_findAbove_24 (by decide) ?_
        refine x_aload_n C (i := 2) dX10_findAbove_26 rfl xl2 ?_
        refine x_getR C fr_15_1 kf_X10_25 dX10_findAbove_27 ?_
        refine x_iload C (i := 4) dX10_findAbove_30 xl4 ?_
        refine x_ialdN C (by decide) rfl (by decide) dX10_findAbove_32 (by omega) ?_
        refine x_topI (y := σ.1 17 i) rfl ?_
        refine x_i2l C dX10_findAbove_33 ?_
        refine x_iload_n C (i := 1) dX10_findAbove_34 rfl xl1 ?_
        refine x_i2l C dX10_findAbove_35 ?_
        refine x_aload_n C (i := 2) dX10_findAbove_36 rfl xl2 ?_
        refine x_getR C fr_15_2 kf_X10_28 dX10_findAbove_37 ?_
        refine x_iload C (i := 4) dX10_findAbove_40 xl4 ?_
        refine x_ialdN C (by decide) rfl (by decide) dX10_findAbove_42 (by omega) ?_
        refine x_topI (y := σ.1 18 i) rfl ?_
        refine x_i2l C dX10_findAbove_43 ?_
        refine x_lmul C dX10_findAbove_44 ?_
        refine x_lcmp C dX10_findAbove_45 ?_
        refine x_jf_le C 95 dX10_findAbove_46 (by decide) (fun c46 => ?_) (fun c46 => ?_)
        · skip
          have c46 := (lg_cmp_le _ _).mp c46
          have c46' := Int64.not_lt.mpr c46
          have hP : z_vio σ n m i = false := by
            unfold z_vio
            rw [decide_eq_false (show ¬ m.toInt64 * (σ.1 18 i).toInt64 < (σ.1 17 i).toInt64 from c46')]; rfl
          refine x_iincN C (i := 4) (b := 1) dX10_findAbove_95 xl4 rfl (by decide) ?_
          refine x_goto C 8 dX10_findAbove_98 (by decide) ?_
          exact ih8 _ (by omega) (i + 1) c f37 rfl (by omega) (by rw [y_cnb_f hP]; exact hc) (y_fnd_f hfd hP) _ xl0 xl1 xl2 xl3 rfl
        · skip
          have c46 := (lg_cmp_gt _ _).mp c46
          have c46' := Int64.not_le.mpr c46
          refine x_aload_n C (i := 3) dX10_findAbove_49 rfl xl3 ?_
          refine x_iload C (i := 5) dX10_findAbove_50 rfl ?_
          refine x_iconst C (nI 0) dX10_findAbove_52 rfl ?_
          have hM := c_X3_part l Y (x_st σ [(36, 1, nI c)] [(37, f37)] []) (σ.1 16 i) 0 (by omega)
          refine x_callS C (as := [.int (σ.1 16 i), .int (nI 0)]) (st := [.ref 10]) (hM) kb_X3_part ks_X10_31 dX10_findAbove_53 rfl rfl (Nat.le_of_ble_eq_true rfl) ⟨by decide, by decide⟩ ⟨by decide, by decide⟩ ?_
          clear hM
          rintro _ _ ⟨rfl, rfl⟩
          refine x_iload C (i := 5) dX10_findAbove_56 rfl ?_
          refine x_iconst C (nI 1) dX10_findAbove_58 rfl ?_
          have hM := c_X3_part l Y (x_st σ [(36, 1, nI c)] [(37, f37)] []) (σ.1 16 i) 1 (by omega)
          refine x_callS C (as := [.int (σ.1 16 i), .int (nI 1)]) (st := [.int (z_part (σ.1 16 i) 0), .ref 10]) (hM) kb_X3_part ks_X10_31 dX10_findAbove_59 rfl rfl (Nat.le_of_ble_eq_true rfl) ⟨by decide, by decide⟩ ⟨by decide, by decide⟩ ?_
          clear hM
          rintro _ _ ⟨rfl, rfl⟩
          refine x_iload C (i := 5) dX10_findAbove_62 rfl ?_
          refine x_iconst C (nI 2) dX10_findAbove_64 rfl ?_
          have hM := c_X3_part l Y (x_st σ [(36, 1, nI c)] [(37, f37)] []) (σ.1 16 i) 2 (by omega)
          refine x_callS C (as := [.int (σ.1 16 i), .int (nI 2)]) (st := [.int (z_part (σ.1 16 i) 1), .int (z_part (σ.1 16 i) 0), .ref 10]) (hM) kb_X3_part ks_X10_31 dX10_findAbove_65 rfl rfl (Nat.le_of_ble_eq_true rfl) ⟨by decide, by decide⟩ ⟨by decide, by decide⟩ ?_
          clear hM
          rintro _ _ ⟨rfl, rfl⟩
          have hM := c_X1_isAbsent l Y (x_st σ [(36, 1, nI c)] [(37, f37)] []) (z_part (σ.1 16 i) 0) (z_part (σ.1 16 i) 1) (z_part (σ.1 16 i) 2) n hn hn9
          refine x_callV C (as := [.int (z_part (σ.1 16 i) 0), .int (z_part (σ.1 16 i) 1), .int (z_part (σ.1 16 i) 2)]) (st := []) (hM) kb_X1_isAbsent kv_X10_37 dX10_findAbove_68 rfl rfl (Nat.le_of_ble_eq_true rfl) ⟨by decide, by decide⟩ ⟨by decide, by decide⟩ ko_10 ?_
          clear hM
          rintro _ _ ⟨rfl, rfl⟩
          refine x_if_eqZ C 95 dX10_findAbove_71 (by decide) (fun c71 => ?_) (fun c71 => ?_)
          · skip
            have hP : z_vio σ n m i = false := by
              unfold z_vio
              rw [show z_abs (σ.1 12) n (z_part (σ.1 16 i) 0) (z_part (σ.1 16 i) 1) (z_part (σ.1 16 i) 2) = false from c71, Bool.and_false]
            refine x_iincN C (i := 4) (b := 1) dX10_findAbove_95 xl4 rfl (by decide) ?_
            refine x_goto C 8 dX10_findAbove_98 (by decide) ?_
            exact ih8 _ (by omega) (i + 1) c f37 rfl (by omega) (by rw [y_cnb_f hP]; exact hc) (y_fnd_f hfd hP) _ xl0 xl1 xl2 xl3 rfl
          · skip
            have hP : z_vio σ n m i = true := by
              unfold z_vio
              rw [decide_eq_true (show m.toInt64 * (σ.1 18 i).toInt64 < (σ.1 17 i).toInt64 from c46), show z_abs (σ.1 12) n (z_part (σ.1 16 i) 0) (z_part (σ.1 16 i) 1) (z_part (σ.1 16 i) 2) = true from c71]
              rfl
            refine x_aload_n C (i := 0) dX10_findAbove_74 rfl xl0 ?_
            refine x_getR C fr_36_0 kf_X10_9 dX10_findAbove_75 ?_
            refine x_aload_n C (i := 0) dX10_findAbove_78 rfl xl0 ?_
            refine x_getI C fi_36_1 kf_X10_15 dX10_findAbove_79 ?_
            refine x_topI (y := nI c) rfl ?_
            refine x_iload C (i := 4) dX10_findAbove_82 xl4 ?_
            refine x_iastN C (by decide) rfl (by decide) dX10_findAbove_84 (by omega) ?_
            refine x_sig (σ' := x_st σ [(36, 1, nI c)] [(37, upd f37 c (nI i))] []) (x_st_ua rfl) ?_
            refine x_aload_n C (i := 0) dX10_findAbove_85 rfl xl0 ?_
            refine x_dup C dX10_findAbove_86 rfl ?_
            refine x_getI C fi_36_1 kf_X10_15 dX10_findAbove_87 ?_
            refine x_topI (y := nI c) rfl ?_
            refine x_iconst C (nI 1) dX10_findAbove_90 rfl ?_
            refine x_iaddN C dX10_findAbove_91 ?_
            refine x_putN C fi_36_1 kf_X10_15 rfl rfl dX10_findAbove_92 ?_
            refine x_sig (σ' := x_st σ [(36, 1, nI (c + 1))] [(37, upd f37 c (nI i))] []) (x_st_u rfl) ?_
            refine x_iincN C (i := 4) (b := 1) dX10_findAbove_95 xl4 rfl (by decide) ?_
            refine x_goto C 8 dX10_findAbove_98 (by decide) ?_
            exact ih8 _ (by omega) (i + 1) (c + 1) (upd f37 c (nI i)) rfl (by omega) (by rw [y_cnb_t hP, hc]) (by rw [hc]; exact y_fnd_t hfd hP) _ xl0 xl1 xl2 xl3 rfl
  exact lp8 _ 0 0 (σ.1 37) rfl (Nat.zero_le _) rfl (fun j h => absurd h (Nat.not_lt_zero j)) _ rfl rfl rfl rfl rfl
theorem c_X10_findAbove (l : Launch) (Y : x_Y) (σ : x_S) (m : Int32) (n : Nat) (hn : σ.1 10 5 = nI n) (hn9 : n ≤ 192) (N : Nat) (hN : σ.1 15 3 = nI N) (hN9 : N ≤ 3000) : x_M l yX10_findAbove cX10_findAbove 6 none 3 Y [.ref 36, .int m, .ref 15, .ref 10] σ (fun r τ => ∃ f37, (r = none ∧ τ = x_st σ [(36, 1, nI (y_cnb (z_vio σ n m) N))] [(37, f37)] []) ∧ y_fnd (z_vio σ n m) N f37) := c_X10_findAbove_K l Y σ m n hn hn9 N hN hN9 _ (fun _ _ h => h)
set_option maxRecDepth 100000 in
set_option maxHeartbeats 200000 in
theorem c_X10_numberOf_K (l : Launch) (Y : x_Y) (σ : x_S) (i : Int32) (c : Nat) (hc : σ.1 36 1 = nI c) (hc9 : c ≤ 3000) (K : Option Value → x_S → Prop) (hK : ∀ (r : Option Value) (τ : x_S), ((∃ iq, iq < c ∧ i = nI iq ∧ r = some (.int (σ.1 37 iq)) ∧ τ = σ) ∨ (¬ x_rng i c ∧ r = some (.int (-1)) ∧ τ = σ)) → K r τ) : x_M l yX10_numberOf cX10_numberOf 2 (some .int) 0 Y [.ref 36, .int i] σ K := by
  refine x_start (by decide) (Nat.le_of_ble_eq_true rfl) ?_
  intro xp xe xs xm xg xb xt xc C xr xk
  refine x_iload_n C (i := 1) dX10_numberOf_0 rfl rfl ?_
  refine x_jf_lt C 21 dX10_numberOf_1 (by decide) (fun c1 => ?_) (fun c1 => ?_)
  · skip
    have c1' := Int32.not_le.mpr c1
    have hz : ¬ x_rng i c := z_rngn1 (by omega) c1
    refine x_iconst C (-1) dX10_numberOf_21 rfl ?_
    refine x_iret C xr xk dX10_numberOf_22 ?_
    exact hK _ _ (Or.inr ⟨hz, rfl, rfl⟩)
  · skip
    have c1' := Int32.not_lt.mpr c1
    refine x_iload_n C (i := 1) dX10_numberOf_4 rfl rfl ?_
    refine x_aload_n C (i := 0) dX10_numberOf_5 rfl rfl ?_
    refine x_getI C fi_36_1 kf_X10_15 dX10_numberOf_6 ?_
    refine x_topI (y := nI c) hc ?_
    refine x_jcmp_ge C 21 dX10_numberOf_9 (by decide) (fun c9 => ?_) (fun c9 => ?_)
    · skip
      have c9' := Int32.not_lt.mpr c9
      have hz : ¬ x_rng i c := z_rngn2 (by omega) c9
      refine x_iconst C (-1) dX10_numberOf_21 rfl ?_
      refine x_iret C xr xk dX10_numberOf_22 ?_
      exact hK _ _ (Or.inr ⟨hz, rfl, rfl⟩)
    · skip
      have c9' := Int32.not_le.mpr c9
      obtain ⟨iq, hi1, rfl⟩ := z_rng (by omega) c1' c9
      refine x_aload_n C (i := 0) dX10_numberOf_12 rfl rfl ?_
      refine x_getR C fr_36_0 kf_X10_9 dX10_numberOf_13 ?_
      refine x_iload_n C (i := 1) dX10_numberOf_16 rfl rfl ?_
      refine x_ialdN C (by decide) rfl (by decide) dX10_numberOf_17 (by omega) ?_
      refine x_goto C 22 dX10_numberOf_18 (by decide) ?_
      refine x_iret C xr xk dX10_numberOf_22 ?_
      exact hK _ _ (Or.inl ⟨iq, hi1, rfl, rfl, rfl⟩)
theorem c_X10_numberOf (l : Launch) (Y : x_Y) (σ : x_S) (i : Int32) (c : Nat) (hc : σ.1 36 1 = nI c) (hc9 : c ≤ 3000) : x_M l yX10_numberOf cX10_numberOf 2 (some .int) 0 Y [.ref 36, .int i] σ (fun r τ => (∃ iq, iq < c ∧ i = nI iq ∧ r = some (.int (σ.1 37 iq)) ∧ τ = σ) ∨ (¬ x_rng i c ∧ r = some (.int (-1)) ∧ τ = σ)) := c_X10_numberOf_K l Y σ i c hc hc9 _ (fun _ _ h => h)
set_option maxRecDepth 100000 in
set_option maxHeartbeats 200000 in
theorem c_X1_keepTurn_K (l : Launch) (Y : x_Y) (σ : x_S) (q : Int32) (Ts : List Int32) (hc : σ.1 10 4 = nI Ts.length) (f13 f14 : Nat → Int32) (h13 : σ.1 13 = f13) (h14 : σ.1 14 = f14) (hth : z_th f13 f14 Ts) (hc9 : Ts.length < 192) (K : Option Value → x_S → Prop) (hK : ∀ (r : Option Value) (τ : x_S), ((q ∈ Ts ∧ r = none ∧ τ = σ) ∨ (q ∉ Ts ∧ ∃ g13 g14, (r = none ∧ τ = x_st σ [(10, 4, nI (Ts.length + 1))] [(13, g13), (14, g14)] []) ∧ z_th g13 g14 (Ts ++ [q]))) → K r τ) : x_M l yX1_keepTurn cX1_keepTurn 3 none 1 Y [.ref 10, .int q] σ K := by
  refine x_start (by decide) (Nat.le_of_ble_eq_true rfl) ?_
  intro xp xe xs xm xg xb xt xc C xr xk
  refine x_sig (σ' := x_st σ [(10, 4, nI Ts.length)] [(13, f13), (14, f14)] []) (x_st_in (And.intro hc trivial) (And.intro h13 (And.intro h14 trivial)) trivial) ?_
  refine x_iconst C (nI 0) dX1_keepTurn_0 rfl ?_
  refine x_istore_n C (i := 2) dX1_keepTurn_1 rfl (by decide) ?_
  have lp2 : ∀ (m2 : Nat) (i : Nat), (Ts.length - i) = m2 → (i ≤ Ts.length) → (∀ (j : Nat) (x : Int32), j < i → Ts[j]? = some x → ¬ x = q) → ∀ L : x_Lo, L.1 0 = some (.ref 10) → L.1 1 = some (.int q) → L.1 2 = some (.int (nI i)) → x_W xp l xe (x_rm 1) xs xm xg xb xt xc 3 Y 0 0 (MQ xb (x_Q Y K) xg xs 0 0 (x_A Y)) 2 L [] (x_st σ [(10, 4, nI Ts.length)] [(13, f13), (14, f14)] []) := by
    intro m2
    induction m2 using Nat.strongRecOn with
    | _ m2 ih2 =>
      intro i hm2 hi hno L xl0 xl1 xl2
      refine x_iload_n C (i := 2) dX1_keepTurn_2 rfl xl2 ?_
      refine x_aload_n C (i := 0) dX1_keepTurn_3 rfl xl0 ?_
      refine x_getI C fi_10_4 kf_X1_33 dX1_keepTurn_4 ?_
      refine x_topI (y := nI Ts.length) rfl ?_
      refine x_icmp_geN C 27 dX1_keepTurn_7 (by decide) (by omega) (by omega) (fun c7 => ?_) (fun c7 => ?_)
      · skip
        have c7' := Nat.not_lt.mpr c7
        have hnm : q ∉ Ts := z_mem_at (fun j x h => by
          rcases Nat.lt_or_ge j i with h1 | h1
          · exact hno j x h1 h
          · rw [List.getElem?_eq_none (by omega)] at h; cases h)
        refine x_aload_n C (i := 0) dX1_keepTurn_27 rfl xl0 ?_
        refine x_getI C fi_10_4 kf_X1_33 dX1_keepTurn_28 ?_
        refine x_topI (y := nI Ts.length) rfl ?_
        refine x_sipush C (nI 192) dX1_keepTurn_31 rfl ?_
        refine x_icmp_geN C 75 dX1_keepTurn_34 (by decide) (by omega) (by omega) (fun c34 => ?_) (fun c34 => ?_)
        · skip
          have c34' := Nat.not_lt.mpr c34
          omega
        · skip
          have c34' := Nat.not_le.mpr c34
          refine x_aload_n C (i := 0) dX1_keepTurn_37 rfl xl0 ?_
          refine x_getR C fr_10_3 kf_X1_21 dX1_keepTurn_38 ?_
          refine x_aload_n C (i := 0) dX1_keepTurn_41 rfl xl0 ?_
          refine x_getI C fi_10_4 kf_X1_33 dX1_keepTurn_42 ?_
          refine x_topI (y := nI Ts.length) rfl ?_
          refine x_iload_n C (i := 1) dX1_keepTurn_45 rfl xl1 ?_
          refine x_iastN C (by decide) rfl (by decide) dX1_keepTurn_46 (by omega) ?_
          refine x_sig (σ' := x_st σ [(10, 4, nI Ts.length)] [(13, f13), (14, upd f14 Ts.length q)] []) (x_st_ua rfl) ?_
          refine x_iload_n C (i := 1) dX1_keepTurn_47 rfl xl1 ?_
          refine x_bipush C (nI 12) dX1_keepTurn_48 rfl ?_
          refine x_ishl C dX1_keepTurn_50 ?_
          refine x_aload_n C (i := 0) dX1_keepTurn_51 rfl xl0 ?_
          refine x_getR C fr_10_2 kf_X1_18 dX1_keepTurn_52 ?_
          refine x_aload_n C (i := 0) dX1_keepTurn_55 rfl xl0 ?_
          refine x_getI C fi_10_4 kf_X1_33 dX1_keepTurn_56 ?_
          refine x_topI (y := nI Ts.length) rfl ?_
          refine x_bipush C (nI 12) dX1_keepTurn_59 rfl ?_
          refine x_imulN C dX1_keepTurn_61 ?_
          have hM := c_X1_unpack_13 l Y (x_st σ [(10, 4, nI Ts.length)] [(13, f13), (14, upd f14 Ts.length q)] []) (q <<< ((nI 12) &&& 31)) (Ts.length * 12) f13 rfl (by omega)
          refine x_callS C (as := [.int (q <<< ((nI 12) &&& 31)), .ref 13, .int (nI (Ts.length * 12))]) (st := []) (hM) kb_X1_unpack ks_X1_39 dX1_keepTurn_62 rfl rfl (Nat.le_of_ble_eq_true rfl) ⟨by decide, by decide⟩ ⟨by decide, by decide⟩ ?_
          clear hM
          rintro _ _ ⟨rfl, rfl⟩
          refine x_sig (σ' := x_st σ [(10, 4, nI Ts.length)] [(13, va_cpy (z_ub (q <<< ((nI 12) &&& 31))) f13 0 (Ts.length * 12) 12), (14, upd f14 Ts.length q)] []) (x_st_st rfl) ?_
          refine x_aload_n C (i := 0) dX1_keepTurn_65 rfl xl0 ?_
          refine x_dup C dX1_keepTurn_66 rfl ?_
          refine x_getI C fi_10_4 kf_X1_33 dX1_keepTurn_67 ?_
          refine x_topI (y := nI Ts.length) rfl ?_
          refine x_iconst C (nI 1) dX1_keepTurn_70 rfl ?_
          refine x_iaddN C dX1_keepTurn_71 ?_
          refine x_putN C fi_10_4 kf_X1_33 rfl rfl dX1_keepTurn_72 ?_
          refine x_sig (σ' := x_st σ [(10, 4, nI (Ts.length + 1))] [(13, va_cpy (z_ub (q <<< ((nI 12) &&& 31))) f13 0 (Ts.length * 12) 12), (14, upd f14 Ts.length q)] []) (x_st_u rfl) ?_
          refine x_vret C xr xk dX1_keepTurn_75 ?_
          exact hK _ _ (Or.inr ⟨hnm, _, _, ⟨rfl, rfl⟩, z_th_s hth hnm⟩)
      · skip
        have c7' := Nat.not_le.mpr c7
        obtain ⟨x0, hx⟩ : ∃ x, Ts[i]? = some x := ⟨_, List.getElem?_eq_getElem c7⟩
        refine x_aload_n C (i := 0) dX1_keepTurn_10 rfl xl0 ?_
        refine x_getR C fr_10_3 kf_X1_21 dX1_keepTurn_11 ?_
        refine x_iload_n C (i := 2) dX1_keepTurn_14 rfl xl2 ?_
        refine x_ialdN C (by decide) rfl (by decide) dX1_keepTurn_15 (by omega) ?_
        refine x_topI (y := f14 i) rfl ?_
        refine x_topI (y := x0) (hth.1 i x0 hx).1 ?_
        refine x_iload_n C (i := 1) dX1_keepTurn_16 rfl xl1 ?_
        refine x_icmp_ne C 21 dX1_keepTurn_17 (by decide) (fun c17 => ?_) (fun c17 => ?_)
        · skip
          refine x_iincN C (i := 2) (b := 1) dX1_keepTurn_21 xl2 rfl (by decide) ?_
          refine x_goto C 2 dX1_keepTurn_24 (by decide) ?_
          exact ih2 _ (by omega) (i + 1) rfl (by omega) (fun j x h1 h2 => by
                by_cases e : j = i
                · subst e; rw [hx] at h2; rw [← Option.some.inj h2]; exact c17
                · exact hno j x (by omega) h2) _ xl0 xl1 rfl
        · skip
          refine x_vret C xr xk dX1_keepTurn_20 ?_
          exact hK _ _ (Or.inl ⟨by rw [← c17]; exact List.mem_of_getElem? hx, rfl, (x_st_in (σ := σ) (F := [(10, 4, nI Ts.length)]) (I := [(13, f13), (14, f14)]) (G := []) (And.intro hc trivial) (And.intro h13 (And.intro h14 trivial)) trivial).symm⟩)
  exact lp2 _ 0 rfl (Nat.zero_le _) (fun j x h => absurd h (Nat.not_lt_zero j)) _ rfl rfl rfl
theorem c_X1_keepTurn (l : Launch) (Y : x_Y) (σ : x_S) (q : Int32) (Ts : List Int32) (hc : σ.1 10 4 = nI Ts.length) (f13 f14 : Nat → Int32) (h13 : σ.1 13 = f13) (h14 : σ.1 14 = f14) (hth : z_th f13 f14 Ts) (hc9 : Ts.length < 192) : x_M l yX1_keepTurn cX1_keepTurn 3 none 1 Y [.ref 10, .int q] σ (fun r τ => (q ∈ Ts ∧ r = none ∧ τ = σ) ∨ (q ∉ Ts ∧ ∃ g13 g14, (r = none ∧ τ = x_st σ [(10, 4, nI (Ts.length + 1))] [(13, g13), (14, g14)] []) ∧ z_th g13 g14 (Ts ++ [q]))) := c_X1_keepTurn_K l Y σ q Ts hc f13 f14 h13 h14 hth hc9 _ (fun _ _ h => h)
set_option maxRecDepth 100000 in
set_option maxHeartbeats 200000 in
theorem c_X1_become_K (l : Launch) (Y : x_Y) (σ : x_S) (n : Nat) (hn : σ.1 3 5 = nI n) (hn9 : n ≤ 192) (k : Nat → Int32) (hk : σ.1 6 = k) (K : Option Value → x_S → Prop) (hK : ∀ (r : Option Value) (τ : x_S), (∃ f11 f12 f13 f14 Ts, (r = none ∧ τ = x_st σ [(10, 4, nI Ts.length), (10, 5, nI n)] [(11, f11), (12, f12), (13, f13), (14, f14)] []) ∧ z_bc k f11 f12 Ts n ∧ z_th f13 f14 Ts ∧ Ts.length ≤ n) → K r τ) : x_M l yX1_become cX1_become 3 none 2 Y [.ref 10, .ref 3] σ K := by
  refine x_start (by decide) (Nat.le_of_ble_eq_true rfl) ?_
  intro xp xe xs xm xg xb xt xc C xr xk
  refine x_sig (σ' := x_st σ [(10, 4, σ.1 10 4), (10, 5, σ.1 10 5)] [(11, σ.1 11), (12, σ.1 12), (13, σ.1 13), (14, σ.1 14)] []) (x_st_in (And.intro rfl (And.intro rfl trivial)) (And.intro rfl (And.intro rfl (And.intro rfl (And.intro rfl trivial)))) trivial) ?_
  refine x_aload_n C (i := 0) dX1_become_0 rfl rfl ?_
  refine x_aload_n C (i := 1) dX1_become_1 rfl rfl ?_
  refine x_getI C fi_3_5 kf_X1_24 dX1_become_2 ?_
  refine x_topI (y := nI n) hn ?_
  refine x_putN C fi_10_5 kf_X1_30 rfl rfl dX1_become_5 ?_
  refine x_sig (σ' := x_st σ [(10, 4, σ.1 10 4), (10, 5, nI n)] [(11, σ.1 11), (12, σ.1 12), (13, σ.1 13), (14, σ.1 14)] []) (x_st_u rfl) ?_
  refine x_aload_n C (i := 0) dX1_become_8 rfl rfl ?_
  refine x_iconst C (nI 0) dX1_become_9 rfl ?_
  refine x_putN C fi_10_4 kf_X1_33 rfl rfl dX1_become_10 ?_
  refine x_sig (σ' := x_st σ [(10, 4, nI 0), (10, 5, nI n)] [(11, σ.1 11), (12, σ.1 12), (13, σ.1 13), (14, σ.1 14)] []) (x_st_u rfl) ?_
  refine x_iconst C (nI 0) dX1_become_13 rfl ?_
  refine x_istore_n C (i := 2) dX1_become_14 rfl (by decide) ?_
  have lp15 : ∀ (m15 : Nat) (i : Nat) (Ts : List Int32) (f11 : Nat → Int32) (f12 : Nat → Int32) (f13 : Nat → Int32) (f14 : Nat → Int32), (n - i) = m15 → (i ≤ n) → (z_bc k f11 f12 Ts i) → (z_th f13 f14 Ts) → (Ts.length ≤ i) → ∀ L : x_Lo, L.1 0 = some (.ref 10) → L.1 1 = some (.ref 3) → L.1 2 = some (.int (nI i)) → x_W xp l xe (x_rm 2) xs xm xg xb xt xc 3 Y 0 0 (MQ xb (x_Q Y K) xg xs 0 0 (x_A Y)) 15 L [] (x_st σ [(10, 4, nI Ts.length), (10, 5, nI n)] [(11, f11), (12, f12), (13, f13), (14, f14)] []) := by
    intro m15
    induction m15 using Nat.strongRecOn with
    | _ m15 ih15 =>
      intro i Ts f11 f12 f13 f14 hm15 hi hbc hth hTl L xl0 xl1 xl2
      refine x_iload_n C (i := 2) dX1_become_15 rfl xl2 ?_
      refine x_aload_n C (i := 0) dX1_become_16 rfl xl0 ?_
      refine x_getI C fi_10_5 kf_X1_30 dX1_become_17 ?_
      refine x_topI (y := nI n) rfl ?_
      refine x_icmp_geN C 108 dX1_become_20 (by decide) (by omega) (by omega) (fun c20 => ?_) (fun c20 => ?_)
      · skip
        have c20' := Nat.not_lt.mpr c20
        obtain rfl : n = i := by omega
        refine x_vret C xr xk dX1_become_108 ?_
        exact hK _ _ ⟨_, _, _, _, Ts, ⟨rfl, rfl⟩, hbc, hth, hTl⟩
      · skip
        have c20' := Nat.not_le.mpr c20
        refine x_aload_n C (i := 0) dX1_become_23 rfl xl0 ?_
        refine x_getR C fr_10_0 kf_X1_11 dX1_become_24 ?_
        refine x_iload_n C (i := 2) dX1_become_27 rfl xl2 ?_
        refine x_aload_n C (i := 1) dX1_become_28 rfl xl1 ?_
        refine x_getR C fr_3_2 kf_X1_36 dX1_become_29 ?_
        refine x_iload_n C (i := 2) dX1_become_32 rfl xl2 ?_
        refine x_ialdN C (by decide) rfl (by decide) dX1_become_33 (by omega) ?_
        refine x_topI (y := σ.1 6 i) rfl ?_
        refine x_topI (y := k i) (congrFun hk _) ?_
        refine x_iastN C (by decide) rfl (by decide) dX1_become_34 (by omega) ?_
        refine x_sig (σ' := x_st σ [(10, 4, nI Ts.length), (10, 5, nI n)] [(11, upd f11 i (k i)), (12, f12), (13, f13), (14, f14)] []) (x_st_ua rfl) ?_
        refine x_aload_n C (i := 0) dX1_become_35 rfl xl0 ?_
        refine x_getR C fr_10_0 kf_X1_11 dX1_become_36 ?_
        refine x_iload_n C (i := 2) dX1_become_39 rfl xl2 ?_
        refine x_ialdN C (by decide) rfl (by decide) dX1_become_40 (by omega) ?_
        refine x_topI (y := (upd f11 i (k i)) i) rfl ?_
        refine x_topI (y := k i) pk_us ?_
        refine x_aload_n C (i := 0) dX1_become_41 rfl xl0 ?_
        refine x_getR C fr_10_1 kf_X1_15 dX1_become_42 ?_
        refine x_iload_n C (i := 2) dX1_become_45 rfl xl2 ?_
        refine x_bipush C (nI 12) dX1_become_46 rfl ?_
        refine x_imulN C dX1_become_48 ?_
        have hM := c_X1_unpack_12 l Y (x_st σ [(10, 4, nI Ts.length), (10, 5, nI n)] [(11, upd f11 i (k i)), (12, f12), (13, f13), (14, f14)] []) (k i) (i * 12) f12 rfl (by omega)
        refine x_callS C (as := [.int (k i), .ref 12, .int (nI (i * 12))]) (st := []) (hM) kb_X1_unpack ks_X1_39 dX1_become_49 rfl rfl (Nat.le_of_ble_eq_true rfl) ⟨by decide, by decide⟩ ⟨by decide, by decide⟩ ?_
        clear hM
        rintro _ _ ⟨rfl, rfl⟩
        refine x_sig (σ' := x_st σ [(10, 4, nI Ts.length), (10, 5, nI n)] [(11, upd f11 i (k i)), (12, va_cpy (z_ub (k i)) f12 0 (i * 12) 12), (13, f13), (14, f14)] []) (x_st_st rfl) ?_
        refine x_iload_n C (i := 2) dX1_become_52 rfl xl2 ?_
        refine x_if_eqN C 71 dX1_become_53 (by decide) (by omega) (fun c53 => ?_) (fun c53 => ?_)
        · skip
          refine x_aload_n C (i := 0) dX1_become_71 rfl xl0 ?_
          refine x_aload_n C (i := 0) dX1_become_72 rfl xl0 ?_
          refine x_iload_n C (i := 2) dX1_become_73 rfl xl2 ?_
          refine x_bipush C (nI 12) dX1_become_74 rfl ?_
          refine x_imulN C dX1_become_76 ?_
          have hM := c_X1_determinant l Y (x_st σ [(10, 4, nI Ts.length), (10, 5, nI n)] [(11, upd f11 i (k i)), (12, va_cpy (z_ub (k i)) f12 0 (i * 12) 12), (13, f13), (14, f14)] []) (i * 12) (by omega)
          refine x_callV C (as := [.int (nI (i * 12))]) (st := [.ref 10]) (hM) kb_X1_determinant kv_X1_47 dX1_become_77 rfl rfl (Nat.le_of_ble_eq_true rfl) ⟨by decide, by decide⟩ ⟨by decide, by decide⟩ ko_10 ?_
          clear hM
          rintro _ _ ⟨rfl, rfl⟩
          refine x_jf_ge C 94 dX1_become_80 (by decide) (fun c80 => ?_) (fun c80 => ?_)
          · skip
            have c80' := Int32.not_lt.mpr c80
            refine x_aload_n C (i := 0) dX1_become_94 rfl xl0 ?_
            refine x_iload_n C (i := 2) dX1_become_95 rfl xl2 ?_
            have hM := c_X1_rotationKey l Y (x_st σ [(10, 4, nI Ts.length), (10, 5, nI n)] [(11, upd f11 i (k i)), (12, va_cpy (z_ub (k i)) f12 0 (i * 12) 12), (13, f13), (14, f14)] []) i (by omega)
            refine x_callV C (as := [.int (nI i)]) (st := [.ref 10]) (hM) kb_X1_rotationKey kv_X1_43 dX1_become_96 rfl rfl (Nat.le_of_ble_eq_true rfl) ⟨by decide, by decide⟩ ⟨by decide, by decide⟩ ko_10 ?_
            clear hM
            rintro _ _ ⟨rfl, rfl⟩
            refine x_topI (y := z_tk (upd f11 i (k i)) (va_cpy (z_ub (k i)) f12 0 (i * 12) 12) i) (by unfold z_tk; rw [if_neg (show ¬ z_det (va_cpy (z_ub (k i)) f12 0 (i * 12) 12) (i * 12) < 0 from c80')]; rfl) ?_
            have hM := c_X1_keepTurn l Y (x_st σ [(10, 4, nI Ts.length), (10, 5, nI n)] [(11, upd f11 i (k i)), (12, va_cpy (z_ub (k i)) f12 0 (i * 12) 12), (13, f13), (14, f14)] []) (z_tk (upd f11 i (k i)) (va_cpy (z_ub (k i)) f12 0 (i * 12) 12) i) Ts rfl f13 f14 rfl rfl hth (by omega)
            refine x_callV C (as := [.int (z_tk (upd f11 i (k i)) (va_cpy (z_ub (k i)) f12 0 (i * 12) 12) i)]) (st := []) (hM) kb_X1_keepTurn kv_X1_51 dX1_become_99 rfl rfl (Nat.le_of_ble_eq_true rfl) ⟨by decide, by decide⟩ ⟨by decide, by decide⟩ ko_10 ?_
            clear hM
            rintro _ _ (⟨hmem, rfl, rfl⟩ | ⟨hnm, e13, e14, ⟨rfl, rfl⟩, hth2⟩)
            · skip
              refine x_iincN C (i := 2) (b := 1) dX1_become_102 xl2 rfl (by decide) ?_
              refine x_goto C 15 dX1_become_105 (by decide) ?_
              exact ih15 _ (by omega) (i + 1) Ts (upd f11 i (k i)) (va_cpy (z_ub (k i)) f12 0 (i * 12) 12) f13 f14 rfl (by omega) (z_bc_s hbc (Or.inl ⟨rfl, Or.inr hmem⟩)) hth (by omega) _ xl0 xl1 rfl
            · skip
              refine x_sig (σ' := x_st σ [(10, 4, nI (Ts.length + 1)), (10, 5, nI n)] [(11, upd f11 i (k i)), (12, va_cpy (z_ub (k i)) f12 0 (i * 12) 12), (13, e13), (14, e14)] []) (x_st_st rfl) ?_
              refine x_iincN C (i := 2) (b := 1) dX1_become_102 xl2 rfl (by decide) ?_
              refine x_goto C 15 dX1_become_105 (by decide) ?_
              refine x_sig (σ' := x_st σ [(10, 4, nI (Ts ++ [z_tk (upd f11 i (k i)) (va_cpy (z_ub (k i)) f12 0 (i * 12) 12) i]).length), (10, 5, nI n)] [(11, (upd f11 i (k i))), (12, (va_cpy (z_ub (k i)) f12 0 (i * 12) 12)), (13, e13), (14, e14)] []) (by rw [List.length_append]; rfl) ?_
              exact ih15 _ (by omega) (i + 1) (Ts ++ [z_tk (upd f11 i (k i)) (va_cpy (z_ub (k i)) f12 0 (i * 12) 12) i]) (upd f11 i (k i)) (va_cpy (z_ub (k i)) f12 0 (i * 12) 12) e13 e14 rfl (by omega) (z_bc_s hbc (Or.inr rfl)) hth2 (by rw [List.length_append]; show Ts.length + 1 ≤ i + 1; omega) _ xl0 xl1 rfl
          · skip
            have c80' := Int32.not_le.mpr c80
            refine x_ldc C (174762) kc_X1_50 dX1_become_83 (x_topI (y := nI 174762) rfl ?_)
            refine x_aload_n C (i := 0) dX1_become_85 rfl xl0 ?_
            refine x_iload_n C (i := 2) dX1_become_86 rfl xl2 ?_
            have hM := c_X1_rotationKey l Y (x_st σ [(10, 4, nI Ts.length), (10, 5, nI n)] [(11, upd f11 i (k i)), (12, va_cpy (z_ub (k i)) f12 0 (i * 12) 12), (13, f13), (14, f14)] []) i (by omega)
            refine x_callV C (as := [.int (nI i)]) (st := [.int (nI 174762), .ref 10]) (hM) kb_X1_rotationKey kv_X1_43 dX1_become_87 rfl rfl (Nat.le_of_ble_eq_true rfl) ⟨by decide, by decide⟩ ⟨by decide, by decide⟩ ko_10 ?_
            clear hM
            rintro _ _ ⟨rfl, rfl⟩
            refine x_isub C dX1_become_90 ?_
            refine x_topI (y := z_tk (upd f11 i (k i)) (va_cpy (z_ub (k i)) f12 0 (i * 12) 12) i) (by unfold z_tk; rw [if_pos (show z_det (va_cpy (z_ub (k i)) f12 0 (i * 12) 12) (i * 12) < 0 from c80)]; rfl) ?_
            refine x_goto C 99 dX1_become_91 (by decide) ?_
            have hM := c_X1_keepTurn l Y (x_st σ [(10, 4, nI Ts.length), (10, 5, nI n)] [(11, upd f11 i (k i)), (12, va_cpy (z_ub (k i)) f12 0 (i * 12) 12), (13, f13), (14, f14)] []) (z_tk (upd f11 i (k i)) (va_cpy (z_ub (k i)) f12 0 (i * 12) 12) i) Ts rfl f13 f14 rfl rfl hth (by omega)
            refine x_callV C (as := [.int (z_tk (upd f11 i (k i)) (va_cpy (z_ub (k i)) f12 0 (i * 12) 12) i)]) (st := []) (hM) kb_X1_keepTurn kv_X1_51 dX1_become_99 rfl rfl (Nat.le_of_ble_eq_true rfl) ⟨by decide, by decide⟩ ⟨by decide, by decide⟩ ko_10 ?_
            clear hM
            rintro _ _ (⟨hmem, rfl, rfl⟩ | ⟨hnm, e13, e14, ⟨rfl, rfl⟩, hth2⟩)
            · skip
              refine x_iincN C (i := 2) (b := 1) dX1_become_102 xl2 rfl (by decide) ?_
              refine x_goto C 15 dX1_become_105 (by decide) ?_
              exact ih15 _ (by omega) (i + 1) Ts (upd f11 i (k i)) (va_cpy (z_ub (k i)) f12 0 (i * 12) 12) f13 f14 rfl (by omega) (z_bc_s hbc (Or.inl ⟨rfl, Or.inr hmem⟩)) hth (by omega) _ xl0 xl1 rfl
            · skip
              refine x_sig (σ' := x_st σ [(10, 4, nI (Ts.length + 1)), (10, 5, nI n)] [(11, upd f11 i (k i)), (12, va_cpy (z_ub (k i)) f12 0 (i * 12) 12), (13, e13), (14, e14)] []) (x_st_st rfl) ?_
              refine x_iincN C (i := 2) (b := 1) dX1_become_102 xl2 rfl (by decide) ?_
              refine x_goto C 15 dX1_become_105 (by decide) ?_
              refine x_sig (σ' := x_st σ [(10, 4, nI (Ts ++ [z_tk (upd f11 i (k i)) (va_cpy (z_ub (k i)) f12 0 (i * 12) 12) i]).length), (10, 5, nI n)] [(11, (upd f11 i (k i))), (12, (va_cpy (z_ub (k i)) f12 0 (i * 12) 12)), (13, e13), (14, e14)] []) (by rw [List.length_append]; rfl) ?_
              exact ih15 _ (by omega) (i + 1) (Ts ++ [z_tk (upd f11 i (k i)) (va_cpy (z_ub (k i)) f12 0 (i * 12) 12) i]) (upd f11 i (k i)) (va_cpy (z_ub (k i)) f12 0 (i * 12) 12) e13 e14 rfl (by omega) (z_bc_s hbc (Or.inr rfl)) hth2 (by rw [List.length_append]; show Ts.length + 1 ≤ i + 1; omega) _ xl0 xl1 rfl
        · skip
          refine x_aload_n C (i := 0) dX1_become_56 rfl xl0 ?_
          refine x_iload_n C (i := 2) dX1_become_57 rfl xl2 ?_
          have hM := c_X1_rotationKey l Y (x_st σ [(10, 4, nI Ts.length), (10, 5, nI n)] [(11, upd f11 i (k i)), (12, va_cpy (z_ub (k i)) f12 0 (i * 12) 12), (13, f13), (14, f14)] []) i (by omega)
          refine x_callV C (as := [.int (nI i)]) (st := []) (hM) kb_X1_rotationKey kv_X1_43 dX1_become_58 rfl rfl (Nat.le_of_ble_eq_true rfl) ⟨by decide, by decide⟩ ⟨by decide, by decide⟩ ko_10 ?_
          clear hM
          rintro _ _ ⟨rfl, rfl⟩
          refine x_aload_n C (i := 0) dX1_become_61 rfl xl0 ?_
          refine x_iload_n C (i := 2) dX1_become_62 rfl xl2 ?_
          refine x_iconst C (nI 1) dX1_become_63 rfl ?_
          refine x_isubN C dX1_become_64 (by omega) ?_
          have hM := c_X1_rotationKey l Y (x_st σ [(10, 4, nI Ts.length), (10, 5, nI n)] [(11, upd f11 i (k i)), (12, va_cpy (z_ub (k i)) f12 0 (i * 12) 12), (13, f13), (14, f14)] []) (i - 1) (by omega)
          refine x_callV C (as := [.int (nI (i - 1))]) (st := [.int (z_rk (upd f11 i (k i)) i)]) (hM) kb_X1_rotationKey kv_X1_43 dX1_become_65 rfl rfl (Nat.le_of_ble_eq_true rfl) ⟨by decide, by decide⟩ ⟨by decide, by decide⟩ ko_10 ?_
          clear hM
          rintro _ _ ⟨rfl, rfl⟩
          refine x_icmp_eq C 102 dX1_become_68 (by decide) (fun c68 => ?_) (fun c68 => ?_)
          · skip
            have hnw : ¬ z_nw (upd f11 i (k i)) i := fun z => z.elim c53 (fun w => w c68)
            refine x_iincN C (i := 2) (b := 1) dX1_become_102 xl2 rfl (by decide) ?_
            refine x_goto C 15 dX1_become_105 (by decide) ?_
            exact ih15 _ (by omega) (i + 1) Ts (upd f11 i (k i)) (va_cpy (z_ub (k i)) f12 0 (i * 12) 12) f13 f14 rfl (by omega) (z_bc_s hbc (Or.inl ⟨rfl, Or.inl hnw⟩)) hth (by omega) _ xl0 xl1 rfl
          · skip
            refine x_aload_n C (i := 0) dX1_become_71 rfl xl0 ?_
            refine x_aload_n C (i := 0) dX1_become_72 rfl xl0 ?_
            refine x_iload_n C (i := 2) dX1_become_73 rfl xl2 ?_
            refine x_bipush C (nI 12) dX1_become_74 rfl ?_
            refine x_imulN C dX1_become_76 ?_
            have hM := c_X1_determinant l Y (x_st σ [(10, 4, nI Ts.length), (10, 5, nI n)] [(11, upd f11 i (k i)), (12, va_cpy (z_ub (k i)) f12 0 (i * 12) 12), (13, f13), (14, f14)] []) (i * 12) (by omega)
            refine x_callV C (as := [.int (nI (i * 12))]) (st := [.ref 10]) (hM) kb_X1_determinant kv_X1_47 dX1_become_77 rfl rfl (Nat.le_of_ble_eq_true rfl) ⟨by decide, by decide⟩ ⟨by decide, by decide⟩ ko_10 ?_
            clear hM
            rintro _ _ ⟨rfl, rfl⟩
            refine x_jf_ge C 94 dX1_become_80 (by decide) (fun c80 => ?_) (fun c80 => ?_)
            · skip
              have c80' := Int32.not_lt.mpr c80
              refine x_aload_n C (i := 0) dX1_become_94 rfl xl0 ?_
              refine x_iload_n C (i := 2) dX1_become_95 rfl xl2 ?_
              have hM := c_X1_rotationKey l Y (x_st σ [(10, 4, nI Ts.length), (10, 5, nI n)] [(11, upd f11 i (k i)), (12, va_cpy (z_ub (k i)) f12 0 (i * 12) 12), (13, f13), (14, f14)] []) i (by omega)
              refine x_callV C (as := [.int (nI i)]) (st := [.ref 10]) (hM) kb_X1_rotationKey kv_X1_43 dX1_become_96 rfl rfl (Nat.le_of_ble_eq_true rfl) ⟨by decide, by decide⟩ ⟨by decide, by decide⟩ ko_10 ?_
              clear hM
              rintro _ _ ⟨rfl, rfl⟩
              refine x_topI (y := z_tk (upd f11 i (k i)) (va_cpy (z_ub (k i)) f12 0 (i * 12) 12) i) (by unfold z_tk; rw [if_neg (show ¬ z_det (va_cpy (z_ub (k i)) f12 0 (i * 12) 12) (i * 12) < 0 from c80')]; rfl) ?_
              have hM := c_X1_keepTurn l Y (x_st σ [(10, 4, nI Ts.length), (10, 5, nI n)] [(11, upd f11 i (k i)), (12, va_cpy (z_ub (k i)) f12 0 (i * 12) 12), (13, f13), (14, f14)] []) (z_tk (upd f11 i (k i)) (va_cpy (z_ub (k i)) f12 0 (i * 12) 12) i) Ts rfl f13 f14 rfl rfl hth (by omega)
              refine x_callV C (as := [.int (z_tk (upd f11 i (k i)) (va_cpy (z_ub (k i)) f12 0 (i * 12) 12) i)]) (st := []) (hM) kb_X1_keepTurn kv_X1_51 dX1_become_99 rfl rfl (Nat.le_of_ble_eq_true rfl) ⟨by decide, by decide⟩ ⟨by decide, by decide⟩ ko_10 ?_
              clear hM
              rintro _ _ (⟨hmem, rfl, rfl⟩ | ⟨hnm, e13, e14, ⟨rfl, rfl⟩, hth2⟩)
              · skip
                refine x_iincN C (i := 2) (b := 1) dX1_become_102 xl2 rfl (by decide) ?_
                refine x_goto C 15 dX1_become_105 (by decide) ?_
                exact ih15 _ (by omega) (i + 1) Ts (upd f11 i (k i)) (va_cpy (z_ub (k i)) f12 0 (i * 12) 12) f13 f14 rfl (by omega) (z_bc_s hbc (Or.inl ⟨rfl, Or.inr hmem⟩)) hth (by omega) _ xl0 xl1 rfl
              · skip
                refine x_sig (σ' := x_st σ [(10, 4, nI (Ts.length + 1)), (10, 5, nI n)] [(11, upd f11 i (k i)), (12, va_cpy (z_ub (k i)) f12 0 (i * 12) 12), (13, e13), (14, e14)] []) (x_st_st rfl) ?_
                refine x_iincN C (i := 2) (b := 1) dX1_become_102 xl2 rfl (by decide) ?_
                refine x_goto C 15 dX1_become_105 (by decide) ?_
                refine x_sig (σ' := x_st σ [(10, 4, nI (Ts ++ [z_tk (upd f11 i (k i)) (va_cpy (z_ub (k i)) f12 0 (i * 12) 12) i]).length), (10, 5, nI n)] [(11, (upd f11 i (k i))), (12, (va_cpy (z_ub (k i)) f12 0 (i * 12) 12)), (13, e13), (14, e14)] []) (by rw [List.length_append]; rfl) ?_
                exact ih15 _ (by omega) (i + 1) (Ts ++ [z_tk (upd f11 i (k i)) (va_cpy (z_ub (k i)) f12 0 (i * 12) 12) i]) (upd f11 i (k i)) (va_cpy (z_ub (k i)) f12 0 (i * 12) 12) e13 e14 rfl (by omega) (z_bc_s hbc (Or.inr rfl)) hth2 (by rw [List.length_append]; show Ts.length + 1 ≤ i + 1; omega) _ xl0 xl1 rfl
            · skip
              have c80' := Int32.not_le.mpr c80
              refine x_ldc C (174762) kc_X1_50 dX1_become_83 (x_topI (y := nI 174762) rfl ?_)
              refine x_aload_n C (i := 0) dX1_become_85 rfl xl0 ?_
              refine x_iload_n C (i := 2) dX1_become_86 rfl xl2 ?_
              have hM := c_X1_rotationKey l Y (x_st σ [(10, 4, nI Ts.length), (10, 5, nI n)] [(11, upd f11 i (k i)), (12, va_cpy (z_ub (k i)) f12 0 (i * 12) 12), (13, f13), (14, f14)] []) i (by omega)
              refine x_callV C (as := [.int (nI i)]) (st := [.int (nI 174762), .ref 10]) (hM) kb_X1_rotationKey kv_X1_43 dX1_become_87 rfl rfl (Nat.le_of_ble_eq_true rfl) ⟨by decide, by decide⟩ ⟨by decide, by decide⟩ ko_10 ?_
              clear hM
              rintro _ _ ⟨rfl, rfl⟩
              refine x_isub C dX1_become_90 ?_
              refine x_topI (y := z_tk (upd f11 i (k i)) (va_cpy (z_ub (k i)) f12 0 (i * 12) 12) i) (by unfold z_tk; rw [if_pos (show z_det (va_cpy (z_ub (k i)) f12 0 (i * 12) 12) (i * 12) < 0 from c80)]; rfl) ?_
              refine x_goto C 99 dX1_become_91 (by decide) ?_
              have hM := c_X1_keepTurn l Y (x_st σ [(10, 4, nI Ts.length), (10, 5, nI n)] [(11, upd f11 i (k i)), (12, va_cpy (z_ub (k i)) f12 0 (i * 12) 12), (13, f13), (14, f14)] []) (z_tk (upd f11 i (k i)) (va_cpy (z_ub (k i)) f12 0 (i * 12) 12) i) Ts rfl f13 f14 rfl rfl hth (by omega)
              refine x_callV C (as := [.int (z_tk (upd f11 i (k i)) (va_cpy (z_ub (k i)) f12 0 (i * 12) 12) i)]) (st := []) (hM) kb_X1_keepTurn kv_X1_51 dX1_become_99 rfl rfl (Nat.le_of_ble_eq_true rfl) ⟨by decide, by decide⟩ ⟨by decide, by decide⟩ ko_10 ?_
              clear hM
              rintro _ _ (⟨hmem, rfl, rfl⟩ | ⟨hnm, e13, e14, ⟨rfl, rfl⟩, hth2⟩)
              · skip
                refine x_iincN C (i := 2) (b := 1) dX1_become_102 xl2 rfl (by decide) ?_
                refine x_goto C 15 dX1_become_105 (by decide) ?_
                exact ih15 _ (by omega) (i + 1) Ts (upd f11 i (k i)) (va_cpy (z_ub (k i)) f12 0 (i * 12) 12) f13 f14 rfl (by omega) (z_bc_s hbc (Or.inl ⟨rfl, Or.inr hmem⟩)) hth (by omega) _ xl0 xl1 rfl
              · skip
                refine x_sig (σ' := x_st σ [(10, 4, nI (Ts.length + 1)), (10, 5, nI n)] [(11, upd f11 i (k i)), (12, va_cpy (z_ub (k i)) f12 0 (i * 12) 12), (13, e13), (14, e14)] []) (x_st_st rfl) ?_
                refine x_iincN C (i := 2) (b := 1) dX1_become_102 xl2 rfl (by decide) ?_
                refine x_goto C 15 dX1_become_105 (by decide) ?_
                refine x_sig (σ' := x_st σ [(10, 4, nI (Ts ++ [z_tk (upd f11 i (k i)) (va_cpy (z_ub (k i)) f12 0 (i * 12) 12) i]).length), (10, 5, nI n)] [(11, (upd f11 i (k i))), (12, (va_cpy (z_ub (k i)) f12 0 (i * 12) 12)), (13, e13), (14, e14)] []) (by rw [List.length_append]; rfl) ?_
                exact ih15 _ (by omega) (i + 1) (Ts ++ [z_tk (upd f11 i (k i)) (va_cpy (z_ub (k i)) f12 0 (i * 12) 12) i]) (upd f11 i (k i)) (va_cpy (z_ub (k i)) f12 0 (i * 12) 12) e13 e14 rfl (by omega) (z_bc_s hbc (Or.inr rfl)) hth2 (by rw [List.length_append]; show Ts.length + 1 ≤ i + 1; omega) _ xl0 xl1 rfl
  exact lp15 _ 0 ([]) (σ.1 11) (σ.1 12) (σ.1 13) (σ.1 14) rfl (Nat.zero_le _) (z_bc_0 _ _ _) (z_th_0 _ _) (Nat.le_refl _) _ rfl rfl rfl
theorem c_X1_become (l : Launch) (Y : x_Y) (σ : x_S) (n : Nat) (hn : σ.1 3 5 = nI n) (hn9 : n ≤ 192) (k : Nat → Int32) (hk : σ.1 6 = k) : x_M l yX1_become cX1_become 3 none 2 Y [.ref 10, .ref 3] σ (fun r τ => ∃ f11 f12 f13 f14 Ts, (r = none ∧ τ = x_st σ [(10, 4, nI Ts.length), (10, 5, nI n)] [(11, f11), (12, f12), (13, f13), (14, f14)] []) ∧ z_bc k f11 f12 Ts n ∧ z_th f13 f14 Ts ∧ Ts.length ≤ n) := c_X1_become_K l Y σ n hn hn9 k hk _ (fun _ _ h => h)
set_option maxRecDepth 100000 in
set_option maxHeartbeats 600000 in
theorem c_X1_countPresentKindsWithin_K (l : Launch) (Y : x_Y) (σ : x_S) (mq : Nat) (hm9 : mq < 13) (n : Nat) (hn : σ.1 10 5 = nI n) (hn9 : n ≤ 192) (c : Nat) (hc : σ.1 10 4 = nI c) (hc9 : c ≤ 192) (K : Option Value → x_S → Prop) (hK : ∀ (r : Option Value) (τ : x_S), (r = some (.int (nI (z_c3 (σ.1 12) (σ.1 13) n c mq))) ∧ τ = σ) → K r τ) : x_M l yX1_countPresentKindsWithin cX1_countPresentKindsWithin 7 (some .int) 3 Y [.ref 10, .int (nI mq)] σ K := by
  refine x_start (by decide) (Nat.le_of_ble_eq_true rfl) ?_
  intro xp xe xs xm xg xb xt xc C xr xk
  refine x_iconst C (nI 0) dX1_countPresentKindsWithin_0 rfl ?_
  refine x_istore_n C (i := 2) dX1_countPresentKindsWithin_1 rfl (by decide) ?_
  refine x_iconst C (nI 0) dX1_countPresentKindsWithin_2 rfl ?_
  refine x_istore_n C (i := 3) dX1_countPresentKindsWithin_3 rfl (by decide) ?_
  have lp4 : ∀ (m4 : Nat) (h : Nat) (y : Nat), (mq + 1 - h) = m4 → (h ≤ mq + 1) → (y = y_sum (fun h => z_c2 (σ.1 12) (σ.1 13) n c mq (nI h)) h) → ∀ L : x_Lo, L.1 0 = some (.ref 10) → L.1 1 = some (.int (nI mq)) → L.1 2 = some (.int (nI y)) → L.1 3 = some (.int (nI h)) → x_W xp l xe (x_rm 3) xs xm xg xb xt xc 7 Y 0 0 (MQ xb (x_Q Y K) xg xs 0 0 (x_A Y)) 4 L [] σ := by
    intro m4
    induction m4 using Nat.strongRecOn with
    | _ m4 ih4 =>
      intro h y hm4 hh hy L xl0 xl1 xl2 xl3
      refine x_iload_n C (i := 3) dX1_countPresentKindsWithin_4 rfl xl3 ?_
      refine x_iload_n C (i := 1) dX1_countPresentKindsWithin_5 rfl xl1 ?_
      refine x_icmp_gtN C 100 dX1_countPresentKindsWithin_6 (by decide) (by omega) (by omega) (fun c6 => ?_) (fun c6 => ?_)
      · skip
        have c6' := Nat.not_le.mpr c6
        have hE : y = z_c3 (σ.1 12) (σ.1 13) n c mq := by rw [hy, show h = mq + 1 by omega]; rfl
        refine x_iload_n C (i := 2) dX1_countPresentKindsWithin_100 rfl xl2 ?_
        refine x_iret C xr xk dX1_countPresentKindsWithin_101 ?_
        exact hK _ _ ⟨by rw [hE], rfl⟩
      · skip
        have c6' := Nat.not_lt.mpr c6
        refine x_iload_n C (i := 1) dX1_countPresentKindsWithin_9 rfl xl1 ?_
        refine x_ineg C dX1_countPresentKindsWithin_10 ?_
        refine x_istore C (i := 4) dX1_countPresentKindsWithin_11 (by decide) ?_
        have lp13 : ∀ (m13 : Nat) (k : Nat) (kv : Int32) (y2 : Nat), (2 * mq + 1 - k) = m13 → (kv = y_fm mq k) → (k ≤ 2 * mq + 1) → (y2 = y + y_sum (fun k => z_c1 (σ.1 12) (σ.1 13) n c mq (nI h) (y_fm mq k)) k) → ∀ L : x_Lo, L.1 0 = some (.ref 10) → L.1 1 = some (.int (nI mq)) → L.1 2 = some (.int (nI y2)) → L.1 3 = some (.int (nI h)) → L.1 4 = some (.int kv) → x_W xp l xe (x_rm 3) xs xm xg xb xt xc 7 Y 0 0 (MQ xb (x_Q Y K) xg xs 0 0 (x_A Y)) 13 L [] σ := by
          intro m13
          induction m13 using Nat.strongRecOn with
          | _ m13 ih13 =>
            intro k kv y2 hm13 hkv hk hy2 L xl0 xl1 xl2 xl3 xl4
            refine x_iload C (i := 4) dX1_countPresentKindsWithin_13 xl4 ?_
            refine x_iload_n C (i := 1) dX1_countPresentKindsWithin_15 rfl xl1 ?_
            refine x_jcmp_gt C 94 dX1_countPresentKindsWithin_16 (by decide) (fun c16 => ?_) (fun c16 => ?_)
            · skip
              have c16' := Int32.not_le.mpr c16
              have hkk : k = 2 * mq + 1 := by
                rw [hkv] at c16'
                have h9 := mt (y_fm_le mq hm9 k (by omega)).mpr c16'
                omega
              have hz5 : y2 = y_sum (fun h => z_c2 (σ.1 12) (σ.1 13) n c mq (nI h)) (h + 1) := by
                show _ = y_sum (fun h => z_c2 (σ.1 12) (σ.1 13) n c mq (nI h)) h + z_c2 (σ.1 12) (σ.1 13) n c mq (nI h)
                rw [hy2, hkk, hy]
                rfl
              refine x_iincN C (i := 3) (b := 1) dX1_countPresentKindsWithin_94 xl3 rfl (by decide) ?_
              refine x_goto C 4 dX1_countPresentKindsWithin_97 (by decide) ?_
              exact ih4 _ (by omega) (h + 1) y2 rfl (by omega) hz5 _ xl0 xl1 xl2 rfl
            · skip
              have c16' := Int32.not_lt.mpr c16
              have hkk : k ≤ 2 * mq := (y_fm_le mq hm9 k (by omega)).mp (by rw [← hkv]; exact c16)
              refine x_iload_n C (i := 1) dX1_countPresentKindsWithin_19 rfl xl1 ?_
              refine x_ineg C dX1_countPresentKindsWithin_20 ?_
              refine x_istore C (i := 5) dX1_countPresentKindsWithin_21 (by decide) ?_
              have lp23 : ∀ (m23 : Nat) (j : Nat) (lv : Int32) (y3 : Nat), (2 * mq + 1 - j) = m23 → (lv = y_fm mq j) → (j ≤ 2 * mq + 1) → (y3 = y2 + y_cnb (fun j => z_own (σ.1 12) (σ.1 13) n c (nI h) (y_fm mq k) (y_fm mq j)) j) → ∀ L : x_Lo, L.1 0 = some (.ref 10) → L.1 1 = some (.int (nI mq)) → L.1 2 = some (.int (nI y3)) → L.1 3 = some (.int (nI h)) → L.1 4 = some (.int kv) → L.1 5 = some (.int lv) → x_W xp l xe (x_rm 3) xs xm xg xb xt xc 7 Y 0 0 (MQ xb (x_Q Y K) xg xs 0 0 (x_A Y)) 23 L [] σ := by
                intro m23
                induction m23 using Nat.strongRecOn with
                | _ m23 ih23 =>
                  intro j lv y3 hm23 hlv hj hy3 L xl0 xl1 xl2 xl3 xl4 xl5
                  refine x_iload C (i := 5) dX1_countPresentKindsWithin_23 xl5 ?_
                  refine x_iload_n C (i := 1) dX1_countPresentKindsWithin_25 rfl xl1 ?_
                  refine x_jcmp_gt C 88 dX1_countPresentKindsWithin_26 (by decide) (fun c26 => ?_) (fun c26 => ?_)
                  · skip
                    have c26' := Int32.not_le.mpr c26
                    have hjj : j = 2 * mq + 1 := by
                      rw [hlv] at c26'
                      have h9 := mt (y_fm_le mq hm9 j (by omega)).mpr c26'
                      omega
                    have hz6 : y3 = y + y_sum (fun k => z_c1 (σ.1 12) (σ.1 13) n c mq (nI h) (y_fm mq k)) (k + 1) := by
                      show _ = y + (y_sum (fun k => z_c1 (σ.1 12) (σ.1 13) n c mq (nI h) (y_fm mq k)) k + z_c1 (σ.1 12) (σ.1 13) n c mq (nI h) (y_fm mq k))
                      rw [hy3, hy2, hjj, Nat.add_assoc]
                      rfl
                    refine x_iinc C (i := 4) (1) dX1_countPresentKindsWithin_88 xl4 rfl (by decide) ?_
                    refine x_goto C 13 dX1_countPresentKindsWithin_91 (by decide) ?_
                    exact ih13 _ (by omega) (k + 1) (kv + (1)) y3 rfl (by rw [hkv]; exact y_fm_s mq k) (by omega) hz6 _ xl0 xl1 xl2 xl3 rfl
                  · skip
                    have c26' := Int32.not_lt.mpr c26
                    have hjj : j ≤ 2 * mq := (y_fm_le mq hm9 j (by omega)).mp (by rw [← hlv]; exact c26)
                    subst hkv
                    subst hlv
                    refine x_iload_n C (i := 3) dX1_countPresentKindsWithin_29 rfl xl3 ?_
                    have lp47 : ((decide (nI h = 0) && decide (y_fm mq k = 0) && decide (y_fm mq j = 0)) = false) → ∀ L : x_Lo, L.1 0 = some (.ref 10) → L.1 1 = some (.int (nI mq)) → L.1 2 = some (.int (nI y3)) → L.1 3 = some (.int (nI h)) → L.1 4 = some (.int (y_fm mq k)) → L.1 5 = some (.int (y_fm mq j)) → x_W xp l xe (x_rm 3) xs xm xg xb xt xc 7 Y 0 0 (MQ xb (x_Q Y K) xg xs 0 0 (x_A Y)) 47 L [] σ := by
                      intro  hnz L xl0 xl1 xl2 xl3 xl4 xl5
                      refine x_iconst C (nI 0) dX1_countPresentKindsWithin_47 rfl ?_
                      refine x_istore C (i := 6) dX1_countPresentKindsWithin_48 (by decide) ?_
                      refine x_iload C (i := 6) dX1_countPresentKindsWithin_50 rfl ?_
                      refine x_if_neN C 82 dX1_countPresentKindsWithin_52 (by decide) (by omega) (fun c52 => absurd c52 (by decide)) (fun c52 => ?_)
                      refine x_aload_n C (i := 0) dX1_countPresentKindsWithin_55 rfl xl0 ?_
                      refine x_iload_n C (i := 3) dX1_countPresentKindsWithin_56 rfl xl3 ?_
                      refine x_iload C (i := 4) dX1_countPresentKindsWithin_57 xl4 ?_
                      refine x_iload C (i := 5) dX1_countPresentKindsWithin_59 xl5 ?_
                      have hM := c_X1_isGreatest l Y σ (nI h) (y_fm mq k) (y_fm mq j) c hc hc9
                      refine x_callV C (as := [.int (nI h), .int (y_fm mq k), .int (y_fm mq j)]) (st := []) (hM) kb_X1_isGreatest kv_X1_89 dX1_countPresentKindsWithin_61 rfl rfl (Nat.le_of_ble_eq_true rfl) ⟨by decide, by decide⟩ ⟨by decide, by decide⟩ ko_10 ?_
                      clear hM
                      intro r9 τ9 h9
                      obtain ⟨rfl, h8⟩ := h9
                      rw [h8]
                      clear h8 τ9
                      refine x_if_eqZ C 82 dX1_countPresentKindsWithin_64 (by decide) (fun c64 => ?_) (fun c64 => ?_)
                      · skip
                        have hP : z_own (σ.1 12) (σ.1 13) n c (nI h) (y_fm mq k) (y_fm mq j) = false := by
                          unfold z_own
                          rw [show z_isg (σ.1 13) c (nI h) (y_fm mq k) (y_fm mq j) = false from c64, Bool.and_false]
                          rfl
                        refine x_iinc C (i := 5) (1) dX1_countPresentKindsWithin_82 xl5 rfl (by decide) ?_
                        refine x_goto C 23 dX1_countPresentKindsWithin_85 (by decide) ?_
                        exact ih23 _ (by omega) (j + 1) ((y_fm mq j) + (1)) y3 rfl (y_fm_s mq j) (by omega) (by rw [y_cnb_f (P := fun j => z_own (σ.1 12) (σ.1 13) n c (nI h) (y_fm mq k) (y_fm mq j)) hP]; omega) _ xl0 xl1 xl2 xl3 xl4 rfl
                      · skip
                        refine x_aload_n C (i := 0) dX1_countPresentKindsWithin_67 rfl xl0 ?_
                        refine x_iload_n C (i := 3) dX1_countPresentKindsWithin_68 rfl xl3 ?_
                        refine x_iload C (i := 4) dX1_countPresentKindsWithin_69 xl4 ?_
                        refine x_iload C (i := 5) dX1_countPresentKindsWithin_71 xl5 ?_
                        have hM := c_X1_isAbsent l Y σ (nI h) (y_fm mq k) (y_fm mq j) n hn hn9
                        refine x_callV C (as := [.int (nI h), .int (y_fm mq k), .int (y_fm mq j)]) (st := []) (hM) kb_X1_isAbsent kv_X1_93 dX1_countPresentKindsWithin_73 rfl rfl (Nat.le_of_ble_eq_true rfl) ⟨by decide, by decide⟩ ⟨by decide, by decide⟩ ko_10 ?_
                        clear hM
                        intro r9 τ9 h9
                        obtain ⟨rfl, h8⟩ := h9
                        rw [h8]
                        clear h8 τ9
                        refine x_if_neZ C 82 dX1_countPresentKindsWithin_76 (by decide) (fun c76 => ?_) (fun c76 => ?_)
                        · skip
                          have hP : z_own (σ.1 12) (σ.1 13) n c (nI h) (y_fm mq k) (y_fm mq j) = false := by
                            unfold z_own
                            rw [show z_abs (σ.1 12) n (nI h) (y_fm mq k) (y_fm mq j) = true from c76, Bool.not_true, Bool.and_false]
                          refine x_iinc C (i := 5) (1) dX1_countPresentKindsWithin_82 xl5 rfl (by decide) ?_
                          refine x_goto C 23 dX1_countPresentKindsWithin_85 (by decide) ?_
                          exact ih23 _ (by omega) (j + 1) ((y_fm mq j) + (1)) y3 rfl (y_fm_s mq j) (by omega) (by rw [y_cnb_f (P := fun j => z_own (σ.1 12) (σ.1 13) n c (nI h) (y_fm mq k) (y_fm mq j)) hP]; omega) _ xl0 xl1 xl2 xl3 xl4 rfl
                        · skip
                          have hP : z_own (σ.1 12) (σ.1 13) n c (nI h) (y_fm mq k) (y_fm mq j) = true := by
                            unfold z_own
                            rw [hnz, show z_isg (σ.1 13) c (nI h) (y_fm mq k) (y_fm mq j) = true from c64, show z_abs (σ.1 12) n (nI h) (y_fm mq k) (y_fm mq j) = false from c76]
                            rfl
                          refine x_iincN C (i := 2) (b := 1) dX1_countPresentKindsWithin_79 xl2 rfl (by decide) ?_
                          refine x_iinc C (i := 5) (1) dX1_countPresentKindsWithin_82 xl5 rfl (by decide) ?_
                          refine x_goto C 23 dX1_countPresentKindsWithin_85 (by decide) ?_
                          exact ih23 _ (by omega) (j + 1) ((y_fm mq j) + (1)) (y3 + 1) rfl (y_fm_s mq j) (by omega) (by rw [y_cnb_t (P := fun j => z_own (σ.1 12) (σ.1 13) n c (nI h) (y_fm mq k) (y_fm mq j)) hP]; omega) _ xl0 xl1 rfl xl3 xl4 rfl
                    refine x_if_neN C 47 dX1_countPresentKindsWithin_30 (by decide) (by omega) (fun c30 => ?_) (fun c30 => ?_)
                    · skip
                      exact lp47 (by rw [decide_eq_false (show ¬ nI h = 0 from fun z => c30 ((nI_eq (by omega) (by decide)).mp z))]; rfl) _ xl0 xl1 xl2 xl3 xl4 xl5
                    · skip
                      refine x_iload C (i := 4) dX1_countPresentKindsWithin_33 xl4 ?_
                      refine x_if_ne C 47 dX1_countPresentKindsWithin_35 (by decide) (fun c35 => ?_) (fun c35 => ?_)
                      · skip
                        exact lp47 (by rw [decide_eq_false (show ¬ y_fm mq k = 0 from c35), Bool.and_false]; rfl) _ xl0 xl1 xl2 xl3 xl4 xl5
                      · skip
                        refine x_iload C (i := 5) dX1_countPresentKindsWithin_38 xl5 ?_
                        refine x_if_ne C 47 dX1_countPresentKindsWithin_40 (by decide) (fun c40 => ?_) (fun c40 => ?_)
                        · skip
                          exact lp47 (by rw [decide_eq_false (show ¬ y_fm mq j = 0 from c40), Bool.and_false]) _ xl0 xl1 xl2 xl3 xl4 xl5
                        · skip
                          have hP : z_own (σ.1 12) (σ.1 13) n c (nI h) (y_fm mq k) (y_fm mq j) = false := by
                            unfold z_own
                            rw [decide_eq_true (show nI h = 0 by rw [c30]; rfl), decide_eq_true (show y_fm mq k = 0 from c35), decide_eq_true (show y_fm mq j = 0 from c40)]
                            rfl
                          refine x_iconst C (nI 1) dX1_countPresentKindsWithin_43 rfl ?_
                          refine x_goto C 48 dX1_countPresentKindsWithin_44 (by decide) ?_
                          refine x_istore C (i := 6) dX1_countPresentKindsWithin_48 (by decide) ?_
                          refine x_iload C (i := 6) dX1_countPresentKindsWithin_50 rfl ?_
                          refine x_if_neN C 82 dX1_countPresentKindsWithin_52 (by decide) (by omega) (fun c52 => ?_) (fun c52 => absurd c52 (by decide))
                          refine x_iinc C (i := 5) (1) dX1_countPresentKindsWithin_82 xl5 rfl (by decide) ?_
                          refine x_goto C 23 dX1_countPresentKindsWithin_85 (by decide) ?_
                          exact ih23 _ (by omega) (j + 1) ((y_fm mq j) + (1)) y3 rfl (y_fm_s mq j) (by omega) (by rw [y_cnb_f (P := fun j => z_own (σ.1 12) (σ.1 13) n c (nI h) (y_fm mq k) (y_fm mq j)) hP]; omega) _ xl0 xl1 xl2 xl3 xl4 rfl
              exact lp23 _ 0 (-(nI mq)) y2 rfl (y_fm_0 mq).symm (Nat.zero_le _) rfl _ xl0 xl1 xl2 xl3 xl4 rfl
        exact lp13 _ 0 (-(nI mq)) y rfl (y_fm_0 mq).symm (Nat.zero_le _) rfl _ xl0 xl1 xl2 xl3 rfl
  exact lp4 _ 0 0 rfl (Nat.zero_le _) rfl _ rfl rfl rfl rfl
theorem c_X1_countPresentKindsWithin (l : Launch) (Y : x_Y) (σ : x_S) (mq : Nat) (hm9 : mq < 13) (n : Nat) (hn : σ.1 10 5 = nI n) (hn9 : n ≤ 192) (c : Nat) (hc : σ.1 10 4 = nI c) (hc9 : c ≤ 192) : x_M l yX1_countPresentKindsWithin cX1_countPresentKindsWithin 7 (some .int) 3 Y [.ref 10, .int (nI mq)] σ (fun r τ => r = some (.int (nI (z_c3 (σ.1 12) (σ.1 13) n c mq))) ∧ τ = σ) := c_X1_countPresentKindsWithin_K l Y σ mq hm9 n hn hn9 c hc hc9 _ (fun _ _ h => h)
