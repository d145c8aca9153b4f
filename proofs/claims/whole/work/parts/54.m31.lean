set_option maxRecDepth 100000 in
set_option maxHeartbeats 200000 in
theorem c_X1_unpack_7_K (l : Launch) (Y : x_Y) (σ : x_S) (q : Int32) (fr : Nat) (f : Nat → Int32) (hf : σ.1 7 = f) (hfr : fr + 12 ≤ 12) (K : Option Value → x_S → Prop) (hK : ∀ (r : Option Value) (τ : x_S), (r = none ∧ τ = x_st σ [] [(7, va_cpy (z_ub q) f 0 fr 12)] []) → K r τ) : x_M l yX1_unpack cX1_unpack 4 none 0 Y [.int q, .ref 7, .int (nI fr)] σ K := by
  refine x_start (by decide) (Nat.le_of_ble_eq_true rfl) ?_
  intro xp xe xs xm xg xb xt xc C xr xk
  refine x_sig (σ' := x_st σ [] [(7, f)] []) (x_st_in trivial (And.intro hf trivial) trivial) ?_
  refine x_aload_n C (i := 1) dX1_unpack_0 rfl rfl ?_
  refine x_ifnull C dX1_unpack_1 ?_
  refine x_iload_n C (i := 2) dX1_unpack_4 rfl rfl ?_
  refine x_if_ltN C 17 dX1_unpack_5 (by decide) (by omega) ?_
  refine x_iload_n C (i := 2) dX1_unpack_8 rfl rfl ?_
  refine x_aload_n C (i := 1) dX1_unpack_9 rfl rfl ?_
  refine x_alen C (nI 12) (by decide) rfl (by decide) rfl dX1_unpack_10 ?_
  refine x_bipush C (nI 12) dX1_unpack_11 rfl ?_
  refine x_isubN C dX1_unpack_13 (by omega) ?_
  refine x_icmp_leN C 18 dX1_unpack_14 (by decide) (by omega) (by omega) (fun c14 => ?_) (fun c14 => ?_)
  · skip
    have c14' := Nat.not_lt.mpr c14
    refine x_iconst C (nI 0) dX1_unpack_18 rfl ?_
    refine x_istore_n C (i := 3) dX1_unpack_19 rfl (by decide) ?_
    have lp20 : ∀ (m20 : Nat) (j : Nat), (9 - j) = m20 → (j ≤ 9) → ∀ L : x_Lo, L.1 0 = some (.int q) → L.1 1 = some (.ref 7) → L.1 2 = some (.int (nI fr)) → L.1 3 = some (.int (nI j)) → x_W xp l xe (x_rm 0) xs xm xg xb xt xc 4 Y 0 0 (MQ xb (x_Q Y K) xg xs 0 0 (x_A Y)) 20 L [] (x_st σ [] [(7, va_cpy (z_ub q) f 0 fr j)] []) := by
      intro m20
      induction m20 using Nat.strongRecOn with
      | _ m20 ih20 =>
        intro j hm20 hj L xl0 xl1 xl2 xl3
        refine x_iload_n C (i := 3) dX1_unpack_20 rfl xl3 ?_
        refine x_bipush C (nI 9) dX1_unpack_21 rfl ?_
        refine x_icmp_geN C 52 dX1_unpack_23 (by decide) (by omega) (by omega) (fun c23 => ?_) (fun c23 => ?_)
        · skip
          have c23' := Nat.not_lt.mpr c23
          obtain rfl : j = 9 := by omega
          refine x_iconst C (nI 0) dX1_unpack_52 rfl ?_
          refine x_istore_n C (i := 3) dX1_unpack_53 rfl (by decide) ?_
          have lp54 : ∀ (m54 : Nat) (i : Nat), (3 - i) = m54 → (i ≤ 3) → ∀ L : x_Lo, L.1 0 = some (.int q) → L.1 1 = some (.ref 7) → L.1 2 = some (.int (nI fr)) → L.1 3 = some (.int (nI i)) → x_W xp l xe (x_rm 0) xs xm xg xb xt xc 4 Y 0 0 (MQ xb (x_Q Y K) xg xs 0 0 (x_A Y)) 54 L [] (x_st σ [] [(7, va_cpy (z_ub q) f 0 fr (9 + i))] []) := by
            intro m54
            induction m54 using Nat.strongRecOn with
            | _ m54 ih54 =>
              intro i hm54 hi L xl0 xl1 xl2 xl3
              refine x_iload_n C (i := 3) dX1_unpack_54 rfl xl3 ?_
              refine x_iconst C (nI 3) dX1_unpack_55 rfl ?_
              refine x_icmp_geN C 83 dX1_unpack_56 (by decide) (by omega) (by omega) (fun c56 => ?_) (fun c56 => ?_)
              · skip
                have c56' := Nat.not_lt.mpr c56
                obtain rfl : i = 3 := by omega
                refine x_vret C xr xk dX1_unpack_83 ?_
                exact hK _ _ ⟨rfl, rfl⟩
              · skip
                have c56' := Nat.not_le.mpr c56
                refine x_aload_n C (i := 1) dX1_unpack_59 rfl xl1 ?_
                refine x_iload_n C (i := 2) dX1_unpack_60 rfl xl2 ?_
                refine x_bipush C (nI 9) dX1_unpack_61 rfl ?_
                refine x_iaddN C dX1_unpack_63 ?_
                refine x_iload_n C (i := 3) dX1_unpack_64 rfl xl3 ?_
                refine x_iaddN C dX1_unpack_65 ?_
                refine x_iload_n C (i := 0) dX1_unpack_66 rfl xl0 ?_
                refine x_iconst C (nI 4) dX1_unpack_67 rfl ?_
                refine x_iconst C (nI 2) dX1_unpack_68 rfl ?_
                refine x_iload_n C (i := 3) dX1_unpack_69 rfl xl3 ?_
                refine x_isubN C dX1_unpack_70 (by omega) ?_
                refine x_imulN C dX1_unpack_71 ?_
                refine x_ishr C dX1_unpack_72 ?_
                refine x_bipush C (nI 15) dX1_unpack_73 rfl ?_
                refine x_iand C dX1_unpack_75 ?_
                refine x_topI (y := z_ub q (9 + i)) (by unfold z_ub; rw [if_neg (by omega), show 9 + i - 9 = i by omega]) ?_
                refine x_iastN C (by decide) rfl (by decide) dX1_unpack_76 (by omega) ?_
                refine x_sig (σ' := x_st σ [] [(7, upd (va_cpy (z_ub q) f 0 fr (9 + i)) (fr + 9 + i) (z_ub q (9 + i)))] []) (x_st_ua rfl) ?_
                refine x_sig (σ' := x_st σ [] [(7, va_cpy (z_ub q) f 0 fr (9 + i + 1))] []) (congrArg (fun z => x_st σ [] [(7, z)] []) (by rw [Nat.add_assoc fr]; exact z_cpy_s _ _ _ _)) ?_
                refine x_iincN C (i := 3) (b := 1) dX1_unpack_77 xl3 rfl (by decide) ?_
                refine x_goto C 54 dX1_unpack_80 (by decide) ?_
                exact ih54 _ (by omega) (i + 1) rfl (by omega) _ xl0 xl1 xl2 rfl
          exact lp54 _ 0 rfl (Nat.zero_le _) _ xl0 xl1 xl2 rfl
        · skip
          have c23' := Nat.not_le.mpr c23
          refine x_aload_n C (i := 1) dX1_unpack_26 rfl xl1 ?_
          refine x_iload_n C (i := 2) dX1_unpack_27 rfl xl2 ?_
          refine x_iload_n C (i := 3) dX1_unpack_28 rfl xl3 ?_
          refine x_iaddN C dX1_unpack_29 ?_
          refine x_iload_n C (i := 0) dX1_unpack_30 rfl xl0 ?_
          refine x_bipush C (nI 12) dX1_unpack_31 rfl ?_
          refine x_iconst C (nI 2) dX1_unpack_33 rfl ?_
          refine x_bipush C (nI 8) dX1_unpack_34 rfl ?_
          refine x_iload_n C (i := 3) dX1_unpack_36 rfl xl3 ?_
          refine x_isubN C dX1_unpack_37 (by omega) ?_
          refine x_imulN C dX1_unpack_38 ?_
          refine x_iaddN C dX1_unpack_39 ?_
          refine x_ishr C dX1_unpack_40 ?_
          refine x_iconst C (nI 3) dX1_unpack_41 rfl ?_
          refine x_iand C dX1_unpack_42 ?_
          refine x_iconst C (nI 1) dX1_unpack_43 rfl ?_
          refine x_isub C dX1_unpack_44 ?_
          refine x_topI (y := z_ub q j) (by unfold z_ub; rw [if_pos (by omega)]) ?_
          refine x_iastN C (by decide) rfl (by decide) dX1_unpack_45 (by omega) ?_
          refine x_sig (σ' := x_st σ [] [(7, upd (va_cpy (z_ub q) f 0 fr j) (fr + j) (z_ub q j))] []) (x_st_ua rfl) ?_
          refine x_sig (σ' := x_st σ [] [(7, va_cpy (z_ub q) f 0 fr (j + 1))] []) (congrArg (fun z => x_st σ [] [(7, z)] []) (z_cpy_s _ _ _ _)) ?_
          refine x_iincN C (i := 3) (b := 1) dX1_unpack_46 xl3 rfl (by decide) ?_
          refine x_goto C 20 dX1_unpack_49 (by decide) ?_
          exact ih20 _ (by omega) (j + 1) rfl (by omega) _ xl0 xl1 xl2 rfl
    refine x_sig (σ' := x_st σ [] [(7, va_cpy (z_ub q) f 0 fr 0)] []) (by rw [z_cpy_0]) ?_
    exact lp20 _ 0 rfl (Nat.zero_le _) _ rfl rfl rfl rfl
  · skip
    have c14' := Nat.not_le.mpr c14
    omega
theorem c_X1_unpack_7 (l : Launch) (Y : x_Y) (σ : x_S) (q : Int32) (fr : Nat) (f : Nat → Int32) (hf : σ.1 7 = f) (hfr : fr + 12 ≤ 12) : x_M l yX1_unpack cX1_unpack 4 none 0 Y [.int q, .ref 7, .int (nI fr)] σ (fun r τ => r = none ∧ τ = x_st σ [] [(7, va_cpy (z_ub q) f 0 fr 12)] []) := c_X1_unpack_7_K l Y σ q fr f hf hfr _ (fun _ _ h => h)
set_option maxRecDepth 100000 in
set_option maxHeartbeats 200000 in
theorem c_X1_unpack_12_K (l : Launch) (Y : x_Y) (σ : x_S) (q : Int32) (fr : Nat) (f : Nat → Int32) (hf : σ.1 12 = f) (hfr : fr + 12 ≤ 2304) (K : Option Value → x_S → Prop) (hK : ∀ (r : Option Value) (τ : x_S), (r = none ∧ τ = x_st σ [] [(12, va_cpy (z_ub q) f 0 fr 12)] []) → K r τ) : x_M l yX1_unpack cX1_unpack 4 none 0 Y [.int q, .ref 12, .int (nI fr)] σ K := by
  refine x_start (by decide) (Nat.le_of_ble_eq_true rfl) ?_
  intro xp xe xs xm xg xb xt xc C xr xk
  refine x_sig (σ' := x_st σ [] [(12, f)] []) (x_st_in trivial (And.intro hf trivial) trivial) ?_
  refine x_aload_n C (i := 1) dX1_unpack_0 rfl rfl ?_
  refine x_ifnull C dX1_unpack_1 ?_
  refine x_iload_n C (i := 2) dX1_unpack_4 rfl rfl ?_
  refine x_if_ltN C 17 dX1_unpack_5 (by decide) (by omega) ?_
  refine x_iload_n C (i := 2) dX1_unpack_8 rfl rfl ?_
  refine x_aload_n C (i := 1) dX1_unpack_9 rfl rfl ?_
  refine x_alen C (nI 2304) (by decide) rfl (by decide) rfl dX1_unpack_10 ?_
  refine x_bipush C (nI 12) dX1_unpack_11 rfl ?_
  refine x_isubN C dX1_unpack_13 (by omega) ?_
  refine x_icmp_leN C 18 dX1_unpack_14 (by decide) (by omega) (by omega) (fun c14 => ?_) (fun c14 => ?_)
  · skip
    have c14' := Nat.not_lt.mpr c14
    refine x_iconst C (nI 0) dX1_unpack_18 rfl ?_
    refine x_istore_n C (i := 3) dX1_unpack_19 rfl (by decide) ?_
    have lp20 : ∀ (m20 : Nat) (j : Nat), (9 - j) = m20 → (j ≤ 9) → ∀ L : x_Lo, L.1 0 = some (.int q) → L.1 1 = some (.ref 12) → L.1 2 = some (.int (nI fr)) → L.1 3 = some (.int (nI j)) → x_W xp l xe (x_rm 0) xs xm xg xb xt xc 4 Y 0 0 (MQ xb (x_Q Y K) xg xs 0 0 (x_A Y)) 20 L [] (x_st σ [] [(12, va_cpy (z_ub q) f 0 fr j)] []) := by
      intro m20
      induction m20 using Nat.strongRecOn with
      | _ m20 ih20 =>
        intro j hm20 hj L xl0 xl1 xl2 xl3
        refine x_iload_n C (i := 3) dX1_unpack_20 rfl xl3 ?_
        refine x_bipush C (nI 9) dX1_unpack_21 rfl ?_
        refine x_icmp_geN C 52 dX1_unpack_23 (by decide) (by omega) (by omega) (fun c23 => ?_) (fun c23 => ?_)
        · skip
          have c23' := Nat.not_lt.mpr c23
          obtain rfl : j = 9 := by omega
          refine x_iconst C (nI 0) dX1_unpack_52 rfl ?_
          refine x_istore_n C (i := 3) dX1_unpack_53 rfl (by decide) ?_
          have lp54 : ∀ (m54 : Nat) (i : Nat), (3 - i) = m54 → (i ≤ 3) → ∀ L : x_Lo, L.1 0 = some (.int q) → L.1 1 = some (.ref 12) → L.1 2 = some (.int (nI fr)) → L.1 3 = some (.int (nI i)) → x_W xp l xe (x_rm 0) xs xm xg xb xt xc 4 Y 0 0 (MQ xb (x_Q Y K) xg xs 0 0 (x_A Y)) 54 L [] (x_st σ [] [(12, va_cpy (z_ub q) f 0 fr (9 + i))] []) := by
            intro m54
            induction m54 using Nat.strongRecOn with
            | _ m54 ih54 =>
              intro i hm54 hi L xl0 xl1 xl2 xl3
              refine x_iload_n C (i := 3) dX1_unpack_54 rfl xl3 ?_
              refine x_iconst C (nI 3) dX1_unpack_55 rfl ?_
              refine x_icmp_geN C 83 dX1_unpack_56 (by decide) (by omega) (by omega) (fun c56 => ?_) (fun c56 => ?_)
              · skip
                have c56' := Nat.not_lt.mpr c56
                obtain rfl : i = 3 := by omega
                refine x_vret C xr xk dX1_unpack_83 ?_
                exact hK _ _ ⟨rfl, rfl⟩
              · skip
                have c56' := Nat.not_le.mpr c56
                refine x_aload_n C (i := 1) dX1_unpack_59 rfl xl1 ?_
                refine x_iload_n C (i := 2) dX1_unpack_60 rfl xl2 ?_
                refine x_bipush C (nI 9) dX1_unpack_61 rfl ?_
                refine x_iaddN C dX1_unpack_63 ?_
                refine x_iload_n C (i := 3) dX1_unpack_64 rfl xl3 ?_
                refine x_iaddN C dX1_unpack_65 ?_
                refine x_iload_n C (i := 0) dX1_unpack_66 rfl xl0 ?_
                refine x_iconst C (nI 4) dX1_unpack_67 rfl ?_
                refine x_iconst C (nI 2) dX1_unpack_68 rfl ?_
                refine x_iload_n C (i := 3) dX1_unpack_69 rfl xl3 ?_
                refine x_isubN C dX1_unpack_70 (by omega) ?_
                refine x_imulN C dX1_unpack_71 ?_
                refine x_ishr C dX1_unpack_72 ?_
                refine x_bipush C (nI 15) dX1_unpack_73 rfl ?_
                refine x_iand C dX1_unpack_75 ?_
                refine x_topI (y := z_ub q (9 + i)) (by unfold z_ub; rw [if_neg (by omega), show 9 + i - 9 = i by omega]) ?_
                refine x_iastN C (by decide) rfl (by decide) dX1_unpack_76 (by omega) ?_
                refine x_sig (σ' := x_st σ [] [(12, upd (va_cpy (z_ub q) f 0 fr (9 + i)) (fr + 9 + i) (z_ub q (9 + i)))] []) (x_st_ua rfl) ?_
                refine x_sig (σ' := x_st σ [] [(12, va_cpy (z_ub q) f 0 fr (9 + i + 1))] []) (congrArg (fun z => x_st σ [] [(12, z)] []) (by rw [Nat.add_assoc fr]; exact z_cpy_s _ _ _ _)) ?_
                refine x_iincN C (i := 3) (b := 1) dX1_unpack_77 xl3 rfl (by decide) ?_
                refine x_goto C 54 dX1_unpack_80 (by decide) ?_
                exact ih54 _ (by omega) (i + 1) rfl (by omega) _ xl0 xl1 xl2 rfl
          exact lp54 _ 0 rfl (Nat.zero_le _) _ xl0 xl1 xl2 rfl
        · skip
          have c23' := Nat.not_le.mpr c23
          refine x_aload_n C (i := 1) dX1_unpack_26 rfl xl1 ?_
          refine x_iload_n C (i := 2) dX1_unpack_27 rfl xl2 ?_
          refine x_iload_n C (i := 3) dX1_unpack_28 rfl xl3 ?_
          refine x_iaddN C dX1_unpack_29 ?_
          refine x_iload_n C (i := 0) dX1_unpack_30 rfl xl0 ?_
          refine x_bipush C (nI 12) dX1_unpack_31 rfl ?_
          refine x_iconst C (nI 2) dX1_unpack_33 rfl ?_
          refine x_bipush C (nI 8) dX1_unpack_34 rfl ?_
          refine x_iload_n C (i := 3) dX1_unpack_36 rfl xl3 ?_
          refine x_isubN C dX1_unpack_37 (by omega) ?_
          refine x_imulN C dX1_unpack_38 ?_
          refine x_iaddN C dX1_unpack_39 ?_
          refine x_ishr C dX1_unpack_40 ?_
          refine x_iconst C (nI 3) dX1_unpack_41 rfl ?_
          refine x_iand C dX1_unpack_42 ?_
          refine x_iconst C (nI 1) dX1_unpack_43 rfl ?_
          refine x_isub C dX1_unpack_44 ?_
          refine x_topI (y := z_ub q j) (by unfold z_ub; rw [if_pos (by omega)]) ?_
          refine x_iastN C (by decide) rfl (by decide) dX1_unpack_45 (by omega) ?_
          refine x_sig (σ' := x_st σ [] [(12, upd (va_cpy (z_ub q) f 0 fr j) (fr + j) (z_ub q j))] []) (x_st_ua rfl) ?_
          refine x_sig (σ' := x_st σ [] [(12, va_cpy (z_ub q) f 0 fr (j + 1))] []) (congrArg (fun z => x_st σ [] [(12, z)] []) (z_cpy_s _ _ _ _)) ?_
          refine x_iincN C (i := 3) (b := 1) dX1_unpack_46 xl3 rfl (by decide) ?_
          refine x_goto C 20 dX1_unpack_49 (by decide) ?_
          exact ih20 _ (by omega) (j + 1) rfl (by omega) _ xl0 xl1 xl2 rfl
    refine x_sig (σ' := x_st σ [] [(12, va_cpy (z_ub q) f 0 fr 0)] []) (by rw [z_cpy_0]) ?_
    exact lp20 _ 0 rfl (Nat.zero_le _) _ rfl rfl rfl rfl
  · skip
    have c14' := Nat.not_le.mpr c14
    omega
theorem c_X1_unpack_12 (l : Launch) (Y : x_Y) (σ : x_S) (q : Int32) (fr : Nat) (f : Nat → Int32) (hf : σ.1 12 = f) (hfr : fr + 12 ≤ 2304) : x_M l yX1_unpack cX1_unpack 4 none 0 Y [.int q, .ref 12, .int (nI fr)] σ (fun r τ => r = none ∧ τ = x_st σ [] [(12, va_cpy (z_ub q) f 0 fr 12)] []) := c_X1_unpack_12_K l Y σ q fr f hf hfr _ (fun _ _ h => h)
set_option maxRecDepth 100000 in
set_option maxHeartbeats 200000 in
theorem c_X1_unpack_13_K (l : Launch) (Y : x_Y) (σ : x_S) (q : Int32) (fr : Nat) (f : Nat → Int32) (hf : σ.1 13 = f) (hfr : fr + 12 ≤ 2304) (K : Option Value → x_S → Prop) (hK : ∀ (r : Option Value) (τ : x_S), (r = none ∧ τ = x_st σ [] [(13, va_cpy (z_ub q) f 0 fr 12)] []) → K r τ) : x_M l yX1_unpack cX1_unpack 4 none 0 Y [.int q, .ref 13, .int (nI fr)] σ K := by
  refine x_start (by decide) (Nat.le_of_ble_eq_true rfl) ?_
  intro xp xe xs xm xg xb xt xc C xr xk
  refine x_sig (σ' := x_st σ [] [(13, f)] []) (x_st_in trivial (And.intro hf trivial) trivial) ?_
  refine x_aload_n C (i := 1) dX1_unpack_0 rfl rfl ?_
  refine x_ifnull C dX1_unpack_1 ?_
  refine x_iload_n C (i := 2) dX1_unpack_4 rfl rfl ?_
  refine x_if_ltN C 17 dX1_unpack_5 (by decide) (by omega) ?_
  refine x_iload_n C (i := 2) dX1_unpack_8 rfl rfl ?_
  refine x_aload_n C (i := 1) dX1_unpack_9 rfl rfl ?_
  refine x_alen C (nI 2304) (by decide) rfl (by decide) rfl dX1_unpack_10 ?_
  refine x_bipush C (nI 12) dX1_unpack_11 rfl ?_
  refine x_isubN C dX1_unpack_13 (by omega) ?_
  refine x_icmp_leN C 18 dX1_unpack_14 (by decide) (by omega) (by omega) (fun c14 => ?_) (fun c14 => ?_)
  · skip
    have c14' := Nat.not_lt.mpr c14
    refine x_iconst C (nI 0) dX1_unpack_18 rfl ?_
    refine x_istore_n C (i := 3) dX1_unpack_19 rfl (by decide) ?_
    have lp20 : ∀ (m20 : Nat) (j : Nat), (9 - j) = m20 → (j ≤ 9) → ∀ L : x_Lo, L.1 0 = some (.int q) → L.1 1 = some (.ref 13) → L.1 2 = some (.int (nI fr)) → L.1 3 = some (.int (nI j)) → x_W xp l xe (x_rm 0) xs xm xg xb xt xc 4 Y 0 0 (MQ xb (x_Q Y K) xg xs 0 0 (x_A Y)) 20 L [] (x_st σ [] [(13, va_cpy (z_ub q) f 0 fr j)] []) := by
      intro m20
      induction m20 using Nat.strongRecOn with
      | _ m20 ih20 =>
        intro j hm20 hj L xl0 xl1 xl2 xl3
        refine x_iload_n C (i := 3) dX1_unpack_20 rfl xl3 ?_
        refine x_bipush C (nI 9) dX1_unpack_21 rfl ?_
        refine x_icmp_geN C 52 dX1_unpack_23 (by decide) (by omega) (by omega) (fun c23 => ?_) (fun c23 => ?_)
        · skip
          have c23' := Nat.not_lt.mpr c23
          obtain rfl : j = 9 := by omega
          refine x_iconst C (nI 0) dX1_unpack_52 rfl ?_
          refine x_istore_n C (i := 3) dX1_unpack_53 rfl (by decide) ?_
          have lp54 : ∀ (m54 : Nat) (i : Nat), (3 - i) = m54 → (i ≤ 3) → ∀ L : x_Lo, L.1 0 = some (.int q) → L.1 1 = some (.ref 13) → L.1 2 = some (.int (nI fr)) → L.1 3 = some (.int (nI i)) → x_W xp l xe (x_rm 0) xs xm xg xb xt xc 4 Y 0 0 (MQ xb (x_Q Y K) xg xs 0 0 (x_A Y)) 54 L [] (x_st σ [] [(13, va_cpy (z_ub q) f 0 fr (9 + i))] []) := by
            intro m54
            induction m54 using Nat.strongRecOn with
            | _ m54 ih54 =>
              intro i hm54 hi L xl0 xl1 xl2 xl3
              refine x_iload_n C (i := 3) dX1_unpack_54 rfl xl3 ?_
              refine x_iconst C (nI 3) dX1_unpack_55 rfl ?_
              refine x_icmp_geN C 83 dX1_unpack_56 (by decide) (by omega) (by omega) (fun c56 => ?_) (fun c56 => ?_)
              · skip
                have c56' := Nat.not_lt.mpr c56
                obtain rfl : i = 3 := by omega
                refine x_vret C xr xk dX1_unpack_83 ?_
                exact hK _ _ ⟨rfl, rfl⟩
              · skip
                have c56' := Nat.not_le.mpr c56
                refine x_aload_n C (i := 1) dX1_unpack_59 rfl xl1 ?_
                refine x_iload_n C (i := 2) dX1_unpack_60 rfl xl2 ?_
                refine x_bipush C (nI 9) dX1_unpack_61 rfl ?_
                refine x_iaddN C dX1_unpack_63 ?_
                refine x_iload_n C (i := 3) dX1_unpack_64 rfl xl3 ?_
                refine x_iaddN C dX1_unpack_65 ?_
                refine x_iload_n C (i := 0) dX1_unpack_66 rfl xl0 ?_
                refine x_iconst C (nI 4) dX1_unpack_67 rfl ?_
                refine x_iconst C (nI 2) dX1_unpack_68 rfl ?_
                refine x_iload_n C (i := 3) dX1_unpack_69 rfl xl3 ?_
                refine x_isubN C dX1_unpack_70 (by omega) ?_
                refine x_imulN C dX1_unpack_71 ?_
                refine x_ishr C dX1_unpack_72 ?_
                refine x_bipush C (nI 15) dX1_unpack_73 rfl ?_
                refine x_iand C dX1_unpack_75 ?_
                refine x_topI (y := z_ub q (9 + i)) (by unfold z_ub; rw [if_neg (by omega), show 9 + i - 9 = i by omega]) ?_
                refine x_iastN C (by decide) rfl (by decide) dX1_unpack_76 (by omega) ?_
                refine x_sig (σ' := x_st σ [] [(13, upd (va_cpy (z_ub q) f 0 fr (9 + i)) (fr + 9 + i) (z_ub q (9 + i)))] []) (x_st_ua rfl) ?_
                refine x_sig (σ' := x_st σ [] [(13, va_cpy (z_ub q) f 0 fr (9 + i + 1))] []) (congrArg (fun z => x_st σ [] [(13, z)] []) (by rw [Nat.add_assoc fr]; exact z_cpy_s _ _ _ _)) ?_
                refine x_iincN C (i := 3) (b := 1) dX1_unpack_77 xl3 rfl (by decide) ?_
                refine x_goto C 54 dX1_unpack_80 (by decide) ?_
                exact ih54 _ (by omega) (i + 1) rfl (by omega) _ xl0 xl1 xl2 rfl
          exact lp54 _ 0 rfl (Nat.zero_le _) _ xl0 xl1 xl2 rfl
        · skip
          have c23' := Nat.not_le.mpr c23
          refine x_aload_n C (i := 1) dX1_unpack_26 rfl xl1 ?_
          refine x_iload_n C (i := 2) dX1_unpack_27 rfl xl2 ?_
          refine x_iload_n C (i := 3) dX1_unpack_28 rfl xl3 ?_
          refine x_iaddN C dX1_unpack_29 ?_
          refine x_iload_n C (i := 0) dX1_unpack_30 rfl xl0 ?_
          refine x_bipush C (nI 12) dX1_unpack_31 rfl ?_
          refine x_iconst C (nI 2) dX1_unpack_33 rfl ?_
          refine x_bipush C (nI 8) dX1_unpack_34 rfl ?_
          refine x_iload_n C (i := 3) dX1_unpack_36 rfl xl3 ?_
          refine x_isubN C dX1_unpack_37 (by omega) ?_
          refine x_imulN C dX1_unpack_38 ?_
          refine x_iaddN C dX1_unpack_39 ?_
          refine x_ishr C dX1_unpack_40 ?_
          refine x_iconst C (nI 3) dX1_unpack_41 rfl ?_
          refine x_iand C dX1_unpack_42 ?_
          refine x_iconst C (nI 1) dX1_unpack_43 rfl ?_
          refine x_isub C dX1_unpack_44 ?_
          refine x_topI (y := z_ub q j) (by unfold z_ub; rw [if_pos (by omega)]) ?_
          refine x_iastN C (by decide) rfl (by decide) dX1_unpack_45 (by omega) ?_
          refine x_sig (σ' := x_st σ [] [(13, upd (va_cpy (z_ub q) f 0 fr j) (fr + j) (z_ub q j))] []) (x_st_ua rfl) ?_
          refine x_sig (σ' := x_st σ [] [(13, va_cpy (z_ub q) f 0 fr (j + 1))] []) (congrArg (fun z => x_st σ [] [(13, z)] []) (z_cpy_s _ _ _ _)) ?_
          refine x_iincN C (i := 3) (b := 1) dX1_unpack_46 xl3 rfl (by decide) ?_
          refine x_goto C 20 dX1_unpack_49 (by decide) ?_
          exact ih20 _ (by omega) (j + 1) rfl (by omega) _ xl0 xl1 xl2 rfl
    refine x_sig (σ' := x_st σ [] [(13, va_cpy (z_ub q) f 0 fr 0)] []) (by rw [z_cpy_0]) ?_
    exact lp20 _ 0 rfl (Nat.zero_le _) _ rfl rfl rfl rfl
  · skip
    have c14' := Nat.not_le.mpr c14
    omega
theorem c_X1_unpack_13 (l : Launch) (Y : x_Y) (σ : x_S) (q : Int32) (fr : Nat) (f : Nat → Int32) (hf : σ.1 13 = f) (hfr : fr + 12 ≤ 2304) : x_M l yX1_unpack cX1_unpack 4 none 0 Y [.int q, .ref 13, .int (nI fr)] σ (fun r τ => r = none ∧ τ = x_st σ [] [(13, va_cpy (z_ub q) f 0 fr 12)] []) := c_X1_unpack_13_K l Y σ q fr f hf hfr _ (fun _ _ h => h)
set_option maxRecDepth 100000 in
set_option maxHeartbeats 200000 in
theorem c_X2_clear_K (l : Launch) (Y : x_Y) (σ : x_S) (K : Option Value → x_S → Prop) (hK : ∀ (r : Option Value) (τ : x_S), (r = none ∧ τ = x_u σ 3 4 (nI 0)) → K r τ) : x_M l yX2_clear cX2_clear 1 none 0 Y [.ref 3] σ K := by
  refine x_start (by decide) (Nat.le_of_ble_eq_true rfl) ?_
  intro xp xe xs xm xg xb xt xc C xr xk
  refine x_aload_n C (i := 0) dX2_clear_0 rfl rfl ?_
  refine x_iconst C (nI 0) dX2_clear_1 rfl ?_
  refine x_putN C fi_3_4 kf_X2_26 rfl rfl dX2_clear_2 ?_
  refine x_vret C xr xk dX2_clear_5 ?_
  exact hK _ _ ⟨rfl, rfl⟩
theorem c_X2_clear (l : Launch) (Y : x_Y) (σ : x_S) : x_M l yX2_clear cX2_clear 1 none 0 Y [.ref 3] σ (fun r τ => r = none ∧ τ = x_u σ 3 4 (nI 0)) := c_X2_clear_K l Y σ  _ (fun _ _ h => h)
set_option maxRecDepth 100000 in
set_option maxHeartbeats 200000 in
theorem c_X2_timesColumn_K (l : Launch) (Y : x_Y) (σ : x_S) (w fr s : Nat) (hw : w + 2 < 12) (hf : fr + 2 * s < 96) (K : Option Value → x_S → Prop) (hK : ∀ (r : Option Value) (τ : x_S), (r = some (.int (z_tc (σ.1 7) (σ.1 4) w fr s)) ∧ τ = σ) → K r τ) : x_M l yX2_timesColumn cX2_timesColumn 4 (some .int) 0 Y [.ref 3, .int (nI w), .int (nI fr), .int (nI s)] σ K := by
  refine x_start (by decide) (Nat.le_of_ble_eq_true rfl) ?_
  intro xp xe xs xm xg xb xt xc C xr xk
  refine x_aload_n C (i := 0) dX2_timesColumn_0 rfl rfl ?_
  refine x_getR C fr_3_3 kf_X2_23 dX2_timesColumn_1 ?_
  refine x_iload_n C (i := 1) dX2_timesColumn_4 rfl rfl ?_
  refine x_ialdN C (by decide) rfl (by decide) dX2_timesColumn_5 (by omega) ?_
  refine x_aload_n C (i := 0) dX2_timesColumn_6 rfl rfl ?_
  refine x_getR C fr_3_0 kf_X2_13 dX2_timesColumn_7 ?_
  refine x_iload_n C (i := 2) dX2_timesColumn_10 rfl rfl ?_
  refine x_ialdN C (by decide) rfl (by decide) dX2_timesColumn_11 (by omega) ?_
  refine x_imul C dX2_timesColumn_12 ?_
  refine x_aload_n C (i := 0) dX2_timesColumn_13 rfl rfl ?_
  refine x_getR C fr_3_3 kf_X2_23 dX2_timesColumn_14 ?_
  refine x_iload_n C (i := 1) dX2_timesColumn_17 rfl rfl ?_
  refine x_iconst C (nI 1) dX2_timesColumn_18 rfl ?_
  refine x_iaddN C dX2_timesColumn_19 ?_
  refine x_ialdN C (by decide) rfl (by decide) dX2_timesColumn_20 (by omega) ?_
  refine x_aload_n C (i := 0) dX2_timesColumn_21 rfl rfl ?_
  refine x_getR C fr_3_0 kf_X2_13 dX2_timesColumn_22 ?_
  refine x_iload_n C (i := 2) dX2_timesColumn_25 rfl rfl ?_
  refine x_iload_n C (i := 3) dX2_timesColumn_26 rfl rfl ?_
  refine x_iaddN C dX2_timesColumn_27 ?_
  refine x_ialdN C (by decide) rfl (by decide) dX2_timesColumn_28 (by omega) ?_
  refine x_imul C dX2_timesColumn_29 ?_
  refine x_iadd C dX2_timesColumn_30 ?_
  refine x_aload_n C (i := 0) dX2_timesColumn_31 rfl rfl ?_
  refine x_getR C fr_3_3 kf_X2_23 dX2_timesColumn_32 ?_
  refine x_iload_n C (i := 1) dX2_timesColumn_35 rfl rfl ?_
  refine x_iconst C (nI 2) dX2_timesColumn_36 rfl ?_
  refine x_iaddN C dX2_timesColumn_37 ?_
  refine x_ialdN C (by decide) rfl (by decide) dX2_timesColumn_38 (by omega) ?_
  refine x_aload_n C (i := 0) dX2_timesColumn_39 rfl rfl ?_
  refine x_getR C fr_3_0 kf_X2_13 dX2_timesColumn_40 ?_
  refine x_iload_n C (i := 2) dX2_timesColumn_43 rfl rfl ?_
  refine x_iconst C (nI 2) dX2_timesColumn_44 rfl ?_
  refine x_iload_n C (i := 3) dX2_timesColumn_45 rfl rfl ?_
  refine x_imulN C dX2_timesColumn_46 ?_
  refine x_iaddN C dX2_timesColumn_47 ?_
  refine x_ialdN C (by decide) rfl (by decide) dX2_timesColumn_48 (by omega) ?_
  refine x_imul C dX2_timesColumn_49 ?_
  refine x_iadd C dX2_timesColumn_50 ?_
  refine x_iret C xr xk dX2_timesColumn_51 ?_
  exact hK _ _ ⟨rfl, rfl⟩
theorem c_X2_timesColumn (l : Launch) (Y : x_Y) (σ : x_S) (w fr s : Nat) (hw : w + 2 < 12) (hf : fr + 2 * s < 96) : x_M l yX2_timesColumn cX2_timesColumn 4 (some .int) 0 Y [.ref 3, .int (nI w), .int (nI fr), .int (nI s)] σ (fun r τ => r = some (.int (z_tc (σ.1 7) (σ.1 4) w fr s)) ∧ τ = σ) := c_X2_timesColumn_K l Y σ w fr s hw hf _ (fun _ _ h => h)
set_option maxRecDepth 100000 in
set_option maxHeartbeats 200000 in
theorem c_X2_keyOfLeftBehind_K (l : Launch) (Y : x_Y) (σ : x_S) (fr : Nat) (hf : fr + 12 ≤ 96) (K : Option Value → x_S → Prop) (hK : ∀ (r : Option Value) (τ : x_S), ((¬ (∀ m, m < 9 → z_inr (z_nu (σ.1 7) (σ.1 4) fr m)) ∧ r = some (.int (-1)) ∧ τ = σ) ∨ ((∀ m, m < 9 → z_inr (z_nu (σ.1 7) (σ.1 4) fr m)) ∧ r = some (.int (z_ks (σ.1 7) (σ.1 4) fr 3)) ∧ τ = σ)) → K r τ) : x_M l yX2_keyOfLeftBehind cX2_keyOfLeftBehind 6 (some .int) 1 Y [.ref 3, .int (nI fr)] σ K := by
  refine x_start (by decide) (Nat.le_of_ble_eq_true rfl) ?_
  intro xp xe xs xm xg xb xt xc C xr xk
  refine x_iconst C (nI 0) dX2_keyOfLeftBehind_0 rfl ?_
  refine x_topI (y := z_kr (σ.1 7) (σ.1 4) fr (3 * 0)) rfl ?_
  refine x_istore_n C (i := 2) dX2_keyOfLeftBehind_1 rfl (by decide) ?_
  refine x_iconst C (nI 0) dX2_keyOfLeftBehind_2 rfl ?_
  refine x_topI (y := nI (3 * 0)) rfl ?_
  refine x_istore_n C (i := 3) dX2_keyOfLeftBehind_3 rfl (by decide) ?_
  have lp4 : ∀ (m4 : Nat) (a : Nat), (3 - a) = m4 → (a ≤ 3) → (∀ m, m < 3 * a → z_inr (z_nu (σ.1 7) (σ.1 4) fr m)) → ∀ L : x_Lo, L.1 0 = some (.ref 3) → L.1 1 = some (.int (nI fr)) → L.1 2 = some (.int (z_kr (σ.1 7) (σ.1 4) fr (3 * a))) → L.1 3 = some (.int (nI (3 * a))) → x_W xp l xe (x_rm 1) xs xm xg xb xt xc 6 Y 0 0 (MQ xb (x_Q Y K) xg xs 0 0 (x_A Y)) 4 L [] σ := by
    intro m4
    induction m4 using Nat.strongRecOn with
    | _ m4 ih4 =>
      intro a hm4 ha hin L xl0 xl1 xl2 xl3
      refine x_iload_n C (i := 3) dX2_keyOfLeftBehind_4 rfl xl3 ?_
      refine x_bipush C (nI 9) dX2_keyOfLeftBehind_5 rfl ?_
      refine x_icmp_geN C 66 dX2_keyOfLeftBehind_7 (by decide) (by omega) (by omega) (fun c7 => ?_) (fun c7 => ?_)
      · skip
        have c7' := Nat.not_lt.mpr c7
        obtain rfl : a = 3 := by omega
        refine x_iconst C (nI 0) dX2_keyOfLeftBehind_66 rfl ?_
        refine x_istore_n C (i := 3) dX2_keyOfLeftBehind_67 rfl (by decide) ?_
        have lp68 : ∀ (m68 : Nat) (m : Nat), (3 - m) = m68 → (m ≤ 3) → ∀ L : x_Lo, L.1 0 = some (.ref 3) → L.1 1 = some (.int (nI fr)) → L.1 2 = some (.int (z_ks (σ.1 7) (σ.1 4) fr m)) → L.1 3 = some (.int (nI m)) → x_W xp l xe (x_rm 1) xs xm xg xb xt xc 6 Y 0 0 (MQ xb (x_Q Y K) xg xs 0 0 (x_A Y)) 68 L [] σ := by
          intro m68
          induction m68 using Nat.strongRecOn with
          | _ m68 ih68 =>
            intro m hm68 hm L xl0 xl1 xl2 xl3
            refine x_iload_n C (i := 3) dX2_keyOfLeftBehind_68 rfl xl3 ?_
            refine x_iconst C (nI 3) dX2_keyOfLeftBehind_69 rfl ?_
            refine x_icmp_geN C 115 dX2_keyOfLeftBehind_70 (by decide) (by omega) (by omega) (fun c70 => ?_) (fun c70 => ?_)
            · skip
              have c70' := Nat.not_lt.mpr c70
              obtain rfl : m = 3 := by omega
              refine x_iload_n C (i := 2) dX2_keyOfLeftBehind_115 rfl xl2 ?_
              refine x_iret C xr xk dX2_keyOfLeftBehind_116 ?_
              exact hK _ _ (Or.inr ⟨hin, rfl, rfl⟩)
            · skip
              have c70' := Nat.not_le.mpr c70
              refine x_aload_n C (i := 0) dX2_keyOfLeftBehind_73 rfl xl0 ?_
              refine x_iload_n C (i := 3) dX2_keyOfLeftBehind_74 rfl xl3 ?_
              refine x_iconst C (nI 3) dX2_keyOfLeftBehind_75 rfl ?_
              refine x_imulN C dX2_keyOfLeftBehind_76 ?_
              refine x_iload_n C (i := 1) dX2_keyOfLeftBehind_77 rfl xl1 ?_
              refine x_bipush C (nI 9) dX2_keyOfLeftBehind_78 rfl ?_
              refine x_iaddN C dX2_keyOfLeftBehind_80 ?_
              refine x_iconst C (nI 1) dX2_keyOfLeftBehind_81 rfl ?_
              have hM := c_X2_timesColumn l Y σ (m * 3) (fr + 9) 1 (by omega) (by omega)
              refine x_callV C (as := [.int (nI (m * 3)), .int (nI (fr + 9)), .int (nI 1)]) (st := []) (hM) kb_X2_timesColumn kv_X2_52 dX2_keyOfLeftBehind_82 rfl rfl (Nat.le_of_ble_eq_true rfl) ⟨by decide, by decide⟩ ⟨by decide, by decide⟩ ko_3 ?_
              clear hM
              intro r9 τ9 h9
              obtain ⟨rfl, h8⟩ := h9
              rw [h8]
              clear h8 τ9
              refine x_aload_n C (i := 0) dX2_keyOfLeftBehind_85 rfl xl0 ?_
              refine x_getR C fr_3_3 kf_X2_23 dX2_keyOfLeftBehind_86 ?_
              refine x_bipush C (nI 9) dX2_keyOfLeftBehind_89 rfl ?_
              refine x_iload_n C (i := 3) dX2_keyOfLeftBehind_91 rfl xl3 ?_
              refine x_iaddN C dX2_keyOfLeftBehind_92 ?_
              refine x_ialdN C (by decide) rfl (by decide) dX2_keyOfLeftBehind_93 (by omega) ?_
              refine x_iadd C dX2_keyOfLeftBehind_94 ?_
              refine x_istore C (i := 4) dX2_keyOfLeftBehind_95 (by decide) ?_
              refine x_iload_n C (i := 2) dX2_keyOfLeftBehind_97 rfl xl2 ?_
              refine x_iconst C (nI 4) dX2_keyOfLeftBehind_98 rfl ?_
              refine x_ishl C dX2_keyOfLeftBehind_99 ?_
              refine x_iload C (i := 4) dX2_keyOfLeftBehind_100 rfl ?_
              refine x_bipush C (nI 12) dX2_keyOfLeftBehind_102 rfl ?_
              have hM := c_J9_floorMod_7cf53 l Y σ ((z_tc (σ.1 7) (σ.1 4) (m * 3) (fr + 9) 1) + (σ.1 7 (9 + m)))
              refine x_callS C (as := [.int ((z_tc (σ.1 7) (σ.1 4) (m * 3) (fr + 9) 1) + (σ.1 7 (9 + m))), .int (nI 12)]) (st := [.int ((z_ks (σ.1 7) (σ.1 4) fr m) <<< ((nI 4) &&& 31))]) (hM) kb_J9_floorMod_7cf53 ks_X2_56 dX2_keyOfLeftBehind_104 rfl rfl (Nat.le_of_ble_eq_true rfl) ⟨by decide, by decide⟩ ⟨by decide, by decide⟩ ?_
              clear hM
              intro r9 τ9 h9
              obtain ⟨rfl, h8⟩ := h9
              rw [h8]
              clear h8 τ9
              refine x_iadd C dX2_keyOfLeftBehind_107 ?_
              refine x_topI (y := z_ks (σ.1 7) (σ.1 4) fr (m + 1)) rfl ?_
              refine x_istore_n C (i := 2) dX2_keyOfLeftBehind_108 rfl (by decide) ?_
              refine x_iincN C (i := 3) (b := 1) dX2_keyOfLeftBehind_109 xl3 rfl (by decide) ?_
              refine x_goto C 68 dX2_keyOfLeftBehind_112 (by decide) ?_
              exact ih68 _ (by omega) (m + 1) rfl (by omega) _ xl0 xl1 rfl rfl
        exact lp68 _ 0 rfl (by decide) _ xl0 xl1 xl2 rfl
      · skip
        have c7' := Nat.not_le.mpr c7
        refine x_iconst C (nI 0) dX2_keyOfLeftBehind_10 rfl ?_
        refine x_istore C (i := 4) dX2_keyOfLeftBehind_11 (by decide) ?_
        have lp13 : ∀ (m13 : Nat) (j : Nat), (3 - j) = m13 → (j ≤ 3) → (∀ m, m < 3 * a + j → z_inr (z_nu (σ.1 7) (σ.1 4) fr m)) → ∀ L : x_Lo, L.1 0 = some (.ref 3) → L.1 1 = some (.int (nI fr)) → L.1 2 = some (.int (z_kr (σ.1 7) (σ.1 4) fr (3 * a + j))) → L.1 3 = some (.int (nI (3 * a))) → L.1 4 = some (.int (nI j)) → x_W xp l xe (x_rm 1) xs xm xg xb xt xc 6 Y 0 0 (MQ xb (x_Q Y K) xg xs 0 0 (x_A Y)) 13 L [] σ := by
          intro m13
          induction m13 using Nat.strongRecOn with
          | _ m13 ih13 =>
            intro j hm13 hj hin2 L xl0 xl1 xl2 xl3 xl4
            refine x_iload C (i := 4) dX2_keyOfLeftBehind_13 xl4 ?_
            refine x_iconst C (nI 3) dX2_keyOfLeftBehind_15 rfl ?_
            refine x_icmp_geN C 60 dX2_keyOfLeftBehind_16 (by decide) (by omega) (by omega) (fun c16 => ?_) (fun c16 => ?_)
            · skip
              have c16' := Nat.not_lt.mpr c16
              obtain rfl : j = 3 := by omega
              refine x_iincN C (i := 3) (b := 3) dX2_keyOfLeftBehind_60 xl3 rfl (by decide) ?_
              refine x_goto C 4 dX2_keyOfLeftBehind_63 (by decide) ?_
              exact ih4 _ (by omega) (a + 1) rfl (by omega) (fun m h => hin2 m (by omega)) _ xl0 xl1 xl2 rfl
            · skip
              have c16' := Nat.not_le.mpr c16
              refine x_aload_n C (i := 0) dX2_keyOfLeftBehind_19 rfl xl0 ?_
              refine x_iload_n C (i := 3) dX2_keyOfLeftBehind_20 rfl xl3 ?_
              refine x_iload_n C (i := 1) dX2_keyOfLeftBehind_21 rfl xl1 ?_
              refine x_iload C (i := 4) dX2_keyOfLeftBehind_22 xl4 ?_
              refine x_iaddN C dX2_keyOfLeftBehind_24 ?_
              refine x_iconst C (nI 3) dX2_keyOfLeftBehind_25 rfl ?_
              have hM := c_X2_timesColumn l Y σ (3 * a) (fr + j) 3 (by omega) (by omega)
              refine x_callV C (as := [.int (nI (3 * a)), .int (nI (fr + j)), .int (nI 3)]) (st := []) (hM) kb_X2_timesColumn kv_X2_52 dX2_keyOfLeftBehind_26 rfl rfl (Nat.le_of_ble_eq_true rfl) ⟨by decide, by decide⟩ ⟨by decide, by decide⟩ ko_3 ?_
              clear hM
              intro r9 τ9 h9
              obtain ⟨rfl, h8⟩ := h9
              rw [h8]
              clear h8 τ9
              refine x_topI (y := z_nu (σ.1 7) (σ.1 4) fr (3 * a + j)) (z_nu_aj _ _ _ _ _ (by omega)) ?_
              refine x_istore C (i := 5) dX2_keyOfLeftBehind_29 (by decide) ?_
              refine x_iload C (i := 5) dX2_keyOfLeftBehind_31 rfl ?_
              refine x_iconst C (-1) dX2_keyOfLeftBehind_33 rfl ?_
              refine x_jcmp_lt C 43 dX2_keyOfLeftBehind_34 (by decide) (fun c34 => ?_) (fun c34 => ?_)
              · skip
                have c34' := Int32.not_le.mpr c34
                refine x_iconst C (-1) dX2_keyOfLeftBehind_43 rfl ?_
                refine x_iret C xr xk dX2_keyOfLeftBehind_44 ?_
                exact hK _ _ (Or.inl ⟨fun z => by have h9 := z (3 * a + j) (by omega); first | exact h9.1 c34 | exact h9.2 c40, rfl, rfl⟩)
              · skip
                have c34' := Int32.not_lt.mpr c34
                refine x_iload C (i := 5) dX2_keyOfLeftBehind_37 rfl ?_
                refine x_iconst C (nI 1) dX2_keyOfLeftBehind_39 rfl ?_
                refine x_jcmp_le C 45 dX2_keyOfLeftBehind_40 (by decide) (fun c40 => ?_) (fun c40 => ?_)
                · skip
                  have c40' := Int32.not_lt.mpr c40
                  refine x_iload_n C (i := 2) dX2_keyOfLeftBehind_45 rfl xl2 ?_
                  refine x_iconst C (nI 2) dX2_keyOfLeftBehind_46 rfl ?_
                  refine x_ishl C dX2_keyOfLeftBehind_47 ?_
                  refine x_iload C (i := 5) dX2_keyOfLeftBehind_48 rfl ?_
                  refine x_iadd C dX2_keyOfLeftBehind_50 ?_
                  refine x_iconst C (nI 1) dX2_keyOfLeftBehind_51 rfl ?_
                  refine x_iadd C dX2_keyOfLeftBehind_52 ?_
                  refine x_topI (y := z_kr (σ.1 7) (σ.1 4) fr (3 * a + (j + 1))) rfl ?_
                  refine x_istore_n C (i := 2) dX2_keyOfLeftBehind_53 rfl (by decide) ?_
                  refine x_iincN C (i := 4) (b := 1) dX2_keyOfLeftBehind_54 xl4 rfl (by decide) ?_
                  refine x_goto C 13 dX2_keyOfLeftBehind_57 (by decide) ?_
                  exact ih13 _ (by omega) (j + 1) rfl (by omega) (fun m h => by
                        rcases Nat.lt_or_ge m (3 * a + j) with h1 | h1
                        · exact hin2 m h1
                        · have e9 : m = 3 * a + j := by omega
                          subst e9
                          exact ⟨c34', c40'⟩) _ xl0 xl1 rfl xl3 rfl
                · skip
                  have c40' := Int32.not_le.mpr c40
                  refine x_iconst C (-1) dX2_keyOfLeftBehind_43 rfl ?_
                  refine x_iret C xr xk dX2_keyOfLeftBehind_44 ?_
                  exact hK _ _ (Or.inl ⟨fun z => by have h9 := z (3 * a + j) (by omega); first | exact h9.1 c34 | exact h9.2 c40, rfl, rfl⟩)
        exact lp13 _ 0 rfl (by decide) hin _ xl0 xl1 xl2 xl3 rfl
  exact lp4 _ 0 rfl (by decide) (fun m h => absurd h (by omega)) _ rfl rfl rfl rfl
theorem c_X2_keyOfLeftBehind (l : Launch) (Y : x_Y) (σ : x_S) (fr : Nat) (hf : fr + 12 ≤ 96) : x_M l yX2_keyOfLeftBehind cX2_keyOfLeftBehind 6 (some .int) 1 Y [.ref 3, .int (nI fr)] σ (fun r τ => (¬ (∀ m, m < 9 → z_inr (z_nu (σ.1 7) (σ.1 4) fr m)) ∧ r = some (.int (-1)) ∧ τ = σ) ∨ ((∀ m, m < 9 → z_inr (z_nu (σ.1 7) (σ.1 4) fr m)) ∧ r = some (.int (z_ks (σ.1 7) (σ.1 4) fr 3)) ∧ τ = σ)) := c_X2_keyOfLeftBehind_K l Y σ fr hf _ (fun _ _ h => h)
set_option maxRecDepth 100000 in
set_option maxHeartbeats 200000 in
theorem c_X2_placeOf_K (l : Launch) (Y : x_Y) (σ : x_S) (q : Int32) (n : Nat) (hn : σ.1 3 5 = nI n) (hn9 : n ≤ 192) (f : Nat → Int32) (hf : σ.1 6 = f) (hs : z_so f n) (K : Option Value → x_S → Prop) (hK : ∀ (r : Option Value) (τ : x_S), (∃ a, (r = some (.int (nI a)) ∧ τ = σ) ∧ a ≤ n ∧ (∀ j, j < a → f j < q) ∧ ∀ j, a ≤ j → j < n → ¬ f j < q) → K r τ) : x_M l yX2_placeOf cX2_placeOf 6 (some .int) 0 Y [.ref 3, .int q] σ K := by
  refine x_start (by decide) (Nat.le_of_ble_eq_true rfl) ?_
  intro xp xe xs xm xg xb xt xc C xr xk
  refine x_iconst C (nI 0) dX2_placeOf_0 rfl ?_
  refine x_istore_n C (i := 2) dX2_placeOf_1 rfl (by decide) ?_
  refine x_aload_n C (i := 0) dX2_placeOf_2 rfl rfl ?_
  refine x_getI C fi_3_5 kf_X2_36 dX2_placeOf_3 ?_
  refine x_topI (y := nI n) hn ?_
  refine x_istore_n C (i := 3) dX2_placeOf_6 rfl (by decide) ?_
  refine x_iconst C (nI 0) dX2_placeOf_7 rfl ?_
  refine x_istore C (i := 4) dX2_placeOf_8 (by decide) ?_
  have lp10 : ∀ (m10 : Nat) (lo : Nat) (hi : Nat) (k : Nat), (32 - k) = m10 → (lo ≤ hi) → (hi ≤ n) → (∀ j, j < lo → f j < q) → (∀ j, hi ≤ j → j < n → ¬ f j < q) → ((hi - lo) * 2 ^ k ≤ 192) → (k ≤ 32) → ∀ L : x_Lo, L.1 0 = some (.ref 3) → L.1 1 = some (.int q) → L.1 2 = some (.int (nI lo)) → L.1 3 = some (.int (nI hi)) → L.1 4 = some (.int (nI k)) → x_W xp l xe (x_rm 0) xs xm xg xb xt xc 6 Y 0 0 (MQ xb (x_Q Y K) xg xs 0 0 (x_A Y)) 10 L [] σ := by
    intro m10
    induction m10 using Nat.strongRecOn with
    | _ m10 ih10 =>
      intro lo hi k hm10 hl hh h1 h2 hw hk L xl0 xl1 xl2 xl3 xl4
      refine x_iload C (i := 4) dX2_placeOf_10 xl4 ?_
      refine x_bipush C (nI 32) dX2_placeOf_12 rfl ?_
      refine x_icmp_geN C 57 dX2_placeOf_14 (by decide) (by omega) (by omega) (fun c14 => ?_) (fun c14 => ?_)
      · skip
        have c14' := Nat.not_lt.mpr c14
        have hE : lo = hi := z_bs0 hl hw (by omega)
        refine x_iload_n C (i := 2) dX2_placeOf_57 rfl xl2 ?_
        refine x_iret C xr xk dX2_placeOf_58 ?_
        exact hK _ _ ⟨_, ⟨rfl, rfl⟩, by omega, h1, by rw [hE]; exact h2⟩
      · skip
        have c14' := Nat.not_le.mpr c14
        refine x_iload_n C (i := 2) dX2_placeOf_17 rfl xl2 ?_
        refine x_iload_n C (i := 3) dX2_placeOf_18 rfl xl3 ?_
        refine x_icmp_geN C 57 dX2_placeOf_19 (by decide) (by omega) (by omega) (fun c19 => ?_) (fun c19 => ?_)
        · skip
          have c19' := Nat.not_lt.mpr c19
          have hE : lo = hi := by omega
          refine x_iload_n C (i := 2) dX2_placeOf_57 rfl xl2 ?_
          refine x_iret C xr xk dX2_placeOf_58 ?_
          exact hK _ _ ⟨_, ⟨rfl, rfl⟩, by omega, h1, by rw [hE]; exact h2⟩
        · skip
          have c19' := Nat.not_le.mpr c19
          refine x_iload_n C (i := 2) dX2_placeOf_22 rfl xl2 ?_
          refine x_iload_n C (i := 3) dX2_placeOf_23 rfl xl3 ?_
          refine x_iaddN C dX2_placeOf_24 ?_
          refine x_iconst C (nI 2) dX2_placeOf_25 rfl ?_
          refine x_idivN C dX2_placeOf_26 (by omega) (by omega) (by omega) ?_
          refine x_istore C (i := 5) dX2_placeOf_27 (by decide) ?_
          refine x_aload_n C (i := 0) dX2_placeOf_29 rfl xl0 ?_
          refine x_getR C fr_3_2 kf_X2_20 dX2_placeOf_30 ?_
          refine x_iload C (i := 5) dX2_placeOf_33 rfl ?_
          refine x_ialdN C (by decide) rfl (by decide) dX2_placeOf_35 (by omega) ?_
          refine x_topI (y := f ((lo + hi) / 2)) (congrFun hf _) ?_
          refine x_iload_n C (i := 1) dX2_placeOf_36 rfl xl1 ?_
          refine x_jcmp_ge C 48 dX2_placeOf_37 (by decide) (fun c37 => ?_) (fun c37 => ?_)
          · skip
            have c37' := Int32.not_lt.mpr c37
            refine x_iload C (i := 5) dX2_placeOf_48 rfl ?_
            refine x_istore_n C (i := 3) dX2_placeOf_50 rfl (by decide) ?_
            refine x_iincN C (i := 4) (b := 1) dX2_placeOf_51 xl4 rfl (by decide) ?_
            refine x_goto C 10 dX2_placeOf_54 (by decide) ?_
            exact ih10 _ (by omega) lo ((lo + hi) / 2) (k + 1) rfl (by omega) (by omega) h1 (z_pl_hi hs c37') (z_bs1 hw (by omega)) (by omega) _ xl0 xl1 xl2 rfl rfl
          · skip
            have c37' := Int32.not_le.mpr c37
            refine x_iload C (i := 5) dX2_placeOf_40 rfl ?_
            refine x_iconst C (nI 1) dX2_placeOf_42 rfl ?_
            refine x_iaddN C dX2_placeOf_43 ?_
            refine x_istore_n C (i := 2) dX2_placeOf_44 rfl (by decide) ?_
            refine x_goto C 51 dX2_placeOf_45 (by decide) ?_
            refine x_iincN C (i := 4) (b := 1) dX2_placeOf_51 xl4 rfl (by decide) ?_
            refine x_goto C 10 dX2_placeOf_54 (by decide) ?_
            exact ih10 _ (by omega) ((lo + hi) / 2 + 1) hi (k + 1) rfl (by omega) (by omega) (z_pl_lo hs (by omega) c37) h2 (z_bs1 hw (by omega)) (by omega) _ xl0 xl1 rfl xl3 rfl
  exact lp10 _ 0 n 0 rfl (Nat.zero_le _) (Nat.le_refl _) (fun j h => absurd h (Nat.not_lt_zero j)) (fun j h3 h4 => absurd h4 (by omega)) (by rw [Nat.pow_zero, Nat.mul_one]; omega) (by decide) _ rfl rfl rfl rfl rfl
theorem c_X2_placeOf (l : Launch) (Y : x_Y) (σ : x_S) (q : Int32) (n : Nat) (hn : σ.1 3 5 = nI n) (hn9 : n ≤ 192) (f : Nat → Int32) (hf : σ.1 6 = f) (hs : z_so f n) : x_M l yX2_placeOf cX2_placeOf 6 (some .int) 0 Y [.ref 3, .int q] σ (fun r τ => ∃ a, (r = some (.int (nI a)) ∧ τ = σ) ∧ a ≤ n ∧ (∀ j, j < a → f j < q) ∧ ∀ j, a ≤ j → j < n → ¬ f j < q) := c_X2_placeOf_K l Y σ q n hn hn9 f hf hs _ (fun _ _ h => h)
set_option maxRecDepth 100000 in
set_option maxHeartbeats 200000 in
theorem c_X2_keep_K (l : Launch) (Y : x_Y) (σ : x_S) (q : Int32) (Ks : List Int32) (hn : σ.1 3 5 = nI Ks.length) (hn9 : Ks.length ≤ 192) (f5 f6 : Nat → Int32) (h5 : σ.1 5 = f5) (h6 : σ.1 6 = f6) (hkh : z_kh f5 f6 Ks) (K : Option Value → x_S → Prop) (hK : ∀ (r : Option Value) (τ : x_S), ((q ∈ Ks ∧ r = some (.int (x_z true)) ∧ τ = σ) ∨ (q ∉ Ks ∧ Ks.length = 192 ∧ r = some (.int (x_z false)) ∧ τ = σ) ∨ (q ∉ Ks ∧ Ks.length < 192 ∧ ∃ g5 g6, (r = some (.int (x_z true)) ∧ τ = x_st σ [(3, 5, nI (Ks.length + 1))] [(5, g5), (6, g6)] []) ∧ z_kh g5 g6 (Ks ++ [q]))) → K r τ) : x_M l yX2_keep cX2_keep 3 (some .boolean) 1 Y [.ref 3, .int q] σ K := by
  refine x_start (by decide) (Nat.le_of_ble_eq_true rfl) ?_
  intro xp xe xs xm xg xb xt xc C xr xk
  refine x_sig (σ' := x_st σ [(3, 5, nI Ks.length)] [(5, f5), (6, f6)] []) (x_st_in (And.intro hn trivial) (And.intro h5 (And.intro h6 trivial)) trivial) ?_
  refine x_aload_n C (i := 0) dX2_keep_0 rfl rfl ?_
  refine x_iload_n C (i := 1) dX2_keep_1 rfl rfl ?_
  have hM := c_X2_placeOf l Y (x_st σ [(3, 5, nI Ks.length)] [(5, f5), (6, f6)] []) q Ks.length rfl hn9 f6 rfl hkh.2.1
  refine x_callV C (as := [.int q]) (st := []) (hM) kb_X2_placeOf kv_X2_62 dX2_keep_2 rfl rfl (Nat.le_of_ble_eq_true rfl) ⟨by decide, by decide⟩ ⟨by decide, by decide⟩ ko_3 ?_
  clear hM
  intro r9 τ9 h9
  obtain ⟨a, ⟨rfl, h8⟩, ha, hp1, hp2⟩ := h9
  rw [h8]
  clear h8 τ9
  refine x_istore_n C (i := 2) dX2_keep_5 rfl (by decide) ?_
  refine x_iload_n C (i := 2) dX2_keep_6 rfl rfl ?_
  refine x_aload_n C (i := 0) dX2_keep_7 rfl rfl ?_
  refine x_getI C fi_3_5 kf_X2_36 dX2_keep_8 ?_
  refine x_topI (y := nI Ks.length) rfl ?_
  refine x_icmp_geN C 26 dX2_keep_11 (by decide) (by omega) (by omega) (fun c11 => ?_) (fun c11 => ?_)
  · skip
    have c11' := Nat.not_lt.mpr c11
    have hno := z_kh_no hkh hp1 hp2 (fun z => absurd z.1 (by omega))
    refine x_aload_n C (i := 0) dX2_keep_26 rfl rfl ?_
    refine x_getI C fi_3_5 kf_X2_36 dX2_keep_27 ?_
    refine x_topI (y := nI Ks.length) rfl ?_
    refine x_sipush C (nI 192) dX2_keep_30 rfl ?_
    refine x_icmp_ltN C 38 dX2_keep_33 (by decide) (by omega) (by omega) (fun c33 => ?_) (fun c33 => ?_)
    · skip
      have c33' := Nat.not_le.mpr c33
      refine x_aload_n C (i := 0) dX2_keep_38 rfl rfl ?_
      refine x_getR C fr_3_2 kf_X2_20 dX2_keep_39 ?_
      refine x_iload_n C (i := 2) dX2_keep_42 rfl rfl ?_
      refine x_aload_n C (i := 0) dX2_keep_43 rfl rfl ?_
      refine x_getR C fr_3_2 kf_X2_20 dX2_keep_44 ?_
      refine x_iload_n C (i := 2) dX2_keep_47 rfl rfl ?_
      refine x_iconst C (nI 1) dX2_keep_48 rfl ?_
      refine x_iaddN C dX2_keep_49 ?_
      refine x_aload_n C (i := 0) dX2_keep_50 rfl rfl ?_
      refine x_getI C fi_3_5 kf_X2_36 dX2_keep_51 ?_
      refine x_topI (y := nI Ks.length) rfl ?_
      refine x_iload_n C (i := 2) dX2_keep_54 rfl rfl ?_
      refine x_isubN C dX2_keep_55 (by omega) ?_
      refine x_acopy C ka_X2_30 (by decide) rfl (by decide) rfl ⟨by decide, by decide⟩ dX2_keep_56 (by omega) (by omega) ⟨by decide, by decide⟩ ?_
      refine x_sig (σ' := x_st σ [(3, 5, nI Ks.length)] [(5, f5), (6, va_cpy f6 f6 a (a + 1) (Ks.length - a))] []) x_st_i ?_
      refine x_aload_n C (i := 0) dX2_keep_59 rfl rfl ?_
      refine x_getR C fr_3_2 kf_X2_20 dX2_keep_60 ?_
      refine x_iload_n C (i := 2) dX2_keep_63 rfl rfl ?_
      refine x_iload_n C (i := 1) dX2_keep_64 rfl rfl ?_
      refine x_iastN C (by decide) rfl (by decide) dX2_keep_65 (by omega) ?_
      refine x_sig (σ' := x_st σ [(3, 5, nI Ks.length)] [(5, f5), (6, upd (va_cpy f6 f6 a (a + 1) (Ks.length - a)) a q)] []) (x_st_ua rfl) ?_
      refine x_aload_n C (i := 0) dX2_keep_66 rfl rfl ?_
      refine x_getR C fr_3_1 kf_X2_17 dX2_keep_67 ?_
      refine x_aload_n C (i := 0) dX2_keep_70 rfl rfl ?_
      refine x_getI C fi_3_5 kf_X2_36 dX2_keep_71 ?_
      refine x_topI (y := nI Ks.length) rfl ?_
      refine x_iload_n C (i := 1) dX2_keep_74 rfl rfl ?_
      refine x_iastN C (by decide) rfl (by decide) dX2_keep_75 (by omega) ?_
      refine x_sig (σ' := x_st σ [(3, 5, nI Ks.length)] [(5, upd f5 Ks.length q), (6, upd (va_cpy f6 f6 a (a + 1) (Ks.length - a)) a q)] []) (x_st_ua rfl) ?_
      refine x_aload_n C (i := 0) dX2_keep_76 rfl rfl ?_
      refine x_dup C dX2_keep_77 rfl ?_
      refine x_getI C fi_3_5 kf_X2_36 dX2_keep_78 ?_
      refine x_topI (y := nI Ks.length) rfl ?_
      refine x_iconst C (nI 1) dX2_keep_81 rfl ?_
      refine x_iaddN C dX2_keep_82 ?_
      refine x_putN C fi_3_5 kf_X2_36 rfl rfl dX2_keep_83 ?_
      refine x_sig (σ' := x_st σ [(3, 5, nI (Ks.length + 1))] [(5, upd f5 Ks.length q), (6, upd (va_cpy f6 f6 a (a + 1) (Ks.length - a)) a q)] []) (x_st_u rfl) ?_
      refine x_iconst C (nI 1) dX2_keep_86 rfl ?_
      refine x_zret C xr xk dX2_keep_87 rfl ?_
      exact hK _ _ (Or.inr (Or.inr ⟨hno, by omega, _, _, ⟨rfl, rfl⟩, z_kh_in hkh ha hp1 hp2 hno⟩))
    · skip
      have c33' := Nat.not_lt.mpr c33
      refine x_iconst C (nI 0) dX2_keep_36 rfl ?_
      refine x_zret C xr xk dX2_keep_37 rfl ?_
      exact hK _ _ (Or.inr (Or.inl ⟨hno, by omega, rfl, (x_st_in (σ := σ) (F := [(3, 5, nI Ks.length)]) (I := [(5, f5), (6, f6)]) (G := []) (And.intro hn trivial) (And.intro h5 (And.intro h6 trivial)) trivial).symm⟩))
  · skip
    have c11' := Nat.not_le.mpr c11
    refine x_aload_n C (i := 0) dX2_keep_14 rfl rfl ?_
    refine x_getR C fr_3_2 kf_X2_20 dX2_keep_15 ?_
    refine x_iload_n C (i := 2) dX2_keep_18 rfl rfl ?_
    refine x_ialdN C (by decide) rfl (by decide) dX2_keep_19 (by omega) ?_
    refine x_topI (y := f6 a) rfl ?_
    refine x_iload_n C (i := 1) dX2_keep_20 rfl rfl ?_
    refine x_icmp_ne C 26 dX2_keep_21 (by decide) (fun c21 => ?_) (fun c21 => ?_)
    · skip
      have hno := z_kh_no hkh hp1 hp2 (fun z => c21 z.2)
      refine x_aload_n C (i := 0) dX2_keep_26 rfl rfl ?_
      refine x_getI C fi_3_5 kf_X2_36 dX2_keep_27 ?_
      refine x_topI (y := nI Ks.length) rfl ?_
      refine x_sipush C (nI 192) dX2_keep_30 rfl ?_
      refine x_icmp_ltN C 38 dX2_keep_33 (by decide) (by omega) (by omega) (fun c33 => ?_) (fun c33 => ?_)
      · skip
        have c33' := Nat.not_le.mpr c33
        refine x_aload_n C (i := 0) dX2_keep_38 rfl rfl ?_
        refine x_getR C fr_3_2 kf_X2_20 dX2_keep_39 ?_
        refine x_iload_n C (i := 2) dX2_keep_42 rfl rfl ?_
        refine x_aload_n C (i := 0) dX2_keep_43 rfl rfl ?_
        refine x_getR C fr_3_2 kf_X2_20 dX2_keep_44 ?_
        refine x_iload_n C (i := 2) dX2_keep_47 rfl rfl ?_
        refine x_iconst C (nI 1) dX2_keep_48 rfl ?_
        refine x_iaddN C dX2_keep_49 ?_
        refine x_aload_n C (i := 0) dX2_keep_50 rfl rfl ?_
        refine x_getI C fi_3_5 kf_X2_36 dX2_keep_51 ?_
        refine x_topI (y := nI Ks.length) rfl ?_
        refine x_iload_n C (i := 2) dX2_keep_54 rfl rfl ?_
        refine x_isubN C dX2_keep_55 (by omega) ?_
        refine x_acopy C ka_X2_30 (by decide) rfl (by decide) rfl ⟨by decide, by decide⟩ dX2_keep_56 (by omega) (by omega) ⟨by decide, by decide⟩ ?_
        refine x_sig (σ' := x_st σ [(3, 5, nI Ks.length)] [(5, f5), (6, va_cpy f6 f6 a (a + 1) (Ks.length - a))] []) x_st_i ?_
        refine x_aload_n C (i := 0) dX2_keep_59 rfl rfl ?_
        refine x_getR C fr_3_2 kf_X2_20 dX2_keep_60 ?_
        refine x_iload_n C (i := 2) dX2_keep_63 rfl rfl ?_
        refine x_iload_n C (i := 1) dX2_keep_64 rfl rfl ?_
        refine x_iastN C (by decide) rfl (by decide) dX2_keep_65 (by omega) ?_
        refine x_sig (σ' := x_st σ [(3, 5, nI Ks.length)] [(5, f5), (6, upd (va_cpy f6 f6 a (a + 1) (Ks.length - a)) a q)] []) (x_st_ua rfl) ?_
        refine x_aload_n C (i := 0) dX2_keep_66 rfl rfl ?_
        refine x_getR C fr_3_1 kf_X2_17 dX2_keep_67 ?_
        refine x_aload_n C (i := 0) dX2_keep_70 rfl rfl ?_
        refine x_getI C fi_3_5 kf_X2_36 dX2_keep_71 ?_
        refine x_topI (y := nI Ks.length) rfl ?_
        refine x_iload_n C (i := 1) dX2_keep_74 rfl rfl ?_
        refine x_iastN C (by decide) rfl (by decide) dX2_keep_75 (by omega) ?_
        refine x_sig (σ' := x_st σ [(3, 5, nI Ks.length)] [(5, upd f5 Ks.length q), (6, upd (va_cpy f6 f6 a (a + 1) (Ks.length - a)) a q)] []) (x_st_ua rfl) ?_
        refine x_aload_n C (i := 0) dX2_keep_76 rfl rfl ?_
        refine x_dup C dX2_keep_77 rfl ?_
        refine x_getI C fi_3_5 kf_X2_36 dX2_keep_78 ?_
        refine x_topI (y := nI Ks.length) rfl ?_
        refine x_iconst C (nI 1) dX2_keep_81 rfl ?_
        refine x_iaddN C dX2_keep_82 ?_
        refine x_putN C fi_3_5 kf_X2_36 rfl rfl dX2_keep_83 ?_
        refine x_sig (σ' := x_st σ [(3, 5, nI (Ks.length + 1))] [(5, upd f5 Ks.length q), (6, upd (va_cpy f6 f6 a (a + 1) (Ks.length - a)) a q)] []) (x_st_u rfl) ?_
        refine x_iconst C (nI 1) dX2_keep_86 rfl ?_
        refine x_zret C xr xk dX2_keep_87 rfl ?_
        exact hK _ _ (Or.inr (Or.inr ⟨hno, by omega, _, _, ⟨rfl, rfl⟩, z_kh_in hkh ha hp1 hp2 hno⟩))
      · skip
        have c33' := Nat.not_lt.mpr c33
        refine x_iconst C (nI 0) dX2_keep_36 rfl ?_
        refine x_zret C xr xk dX2_keep_37 rfl ?_
        exact hK _ _ (Or.inr (Or.inl ⟨hno, by omega, rfl, (x_st_in (σ := σ) (F := [(3, 5, nI Ks.length)]) (I := [(5, f5), (6, f6)]) (G := []) (And.intro hn trivial) (And.intro h5 (And.intro h6 trivial)) trivial).symm⟩))
    · skip
      refine x_iconst C (nI 1) dX2_keep_24 rfl ?_
      refine x_zret C xr xk dX2_keep_25 rfl ?_
      exact hK _ _ (Or.inl ⟨by rw [← c21]; exact hkh.2.2.1 a c11, rfl, (x_st_in (σ := σ) (F := [(3, 5, nI Ks.length)]) (I := [(5, f5), (6, f6)]) (G := []) (And.intro hn trivial) (And.intro h5 (And.intro h6 trivial)) trivial).symm⟩)
theorem c_X2_keep (l : Launch) (Y : x_Y) (σ : x_S) (q : Int32) (Ks : List Int32) (hn : σ.1 3 5 = nI Ks.length) (hn9 : Ks.length ≤ 192) (f5 f6 : Nat → Int32) (h5 : σ.1 5 = f5) (h6 : σ.1 6 = f6) (hkh : z_kh f5 f6 Ks) : x_M l yX2_keep cX2_keep 3 (some .boolean) 1 Y [.ref 3, .int q] σ (fun r τ => (q ∈ Ks ∧ r = some (.int (x_z true)) ∧ τ = σ) ∨ (q ∉ Ks ∧ Ks.length = 192 ∧ r = some (.int (x_z false)) ∧ τ = σ) ∨ (q ∉ Ks ∧ Ks.length < 192 ∧ ∃ g5 g6, (r = some (.int (x_z true)) ∧ τ = x_st σ [(3, 5, nI (Ks.length + 1))] [(5, g5), (6, g6)] []) ∧ z_kh g5 g6 (Ks ++ [q]))) := c_X2_keep_K l Y σ q Ks hn hn9 f5 f6 h5 h6 hkh _ (fun _ _ h => h)
set_option maxRecDepth 100000 in
set_option maxHeartbeats 400000 in
theorem c_X2_makesGroup_K (l : Launch) (Y : x_Y) (σ : x_S) (ng : Nat) (hg : σ.1 3 4 = nI ng) (hg8 : ng ≤ 8) (G : Nat → Int32) (hG : σ.1 4 = G) (K : Option Value → x_S → Prop) (hK : ∀ (r : Option Value) (τ : x_S), (∃ Ks g5 g6 g7, τ = x_st σ [(3, 5, nI Ks.length)] [(5, g5), (6, g6), (7, g7)] [] ∧ z_kh g5 g6 Ks ∧ Ks.length ≤ 192 ∧ ((z_close G ng none ∧ r = some (.int (x_z false))) ∨ (z_close G ng (some Ks) ∧ r = some (.int (x_z true))))) → K r τ) : x_M l yX2_makesGroup cX2_makesGroup 4 (some .boolean) 2 Y [.ref 3] σ K := by
  refine x_start (by decide) (Nat.le_of_ble_eq_true rfl) ?_
  intro xp xe xs xm xg xb xt xc C xr xk
  refine x_sig (σ' := x_st σ [(3, 5, σ.1 3 5)] [(5, σ.1 5), (6, σ.1 6), (7, σ.1 7)] []) (x_st_in (And.intro rfl trivial) (And.intro rfl (And.intro rfl (And.intro rfl trivial))) trivial) ?_
  refine x_aload_n C (i := 0) dX2_makesGroup_0 rfl rfl ?_
  refine x_iconst C (nI 0) dX2_makesGroup_1 rfl ?_
  refine x_putN C fi_3_5 kf_X2_36 rfl rfl dX2_makesGroup_2 ?_
  refine x_sig (σ' := x_st σ [(3, 5, nI 0)] [(5, σ.1 5), (6, σ.1 6), (7, σ.1 7)] []) (x_st_u rfl) ?_
  refine x_aload_n C (i := 0) dX2_makesGroup_5 rfl rfl ?_
  refine x_ldc C (627400704) kc_X2_39 dX2_makesGroup_6 (x_topI (y := nI 627400704) rfl ?_)
  have hM := c_X2_keep l Y (x_st σ [(3, 5, nI 0)] [(5, σ.1 5), (6, σ.1 6), (7, σ.1 7)] []) (nI 627400704) [] rfl (by decide) (σ.1 5) (σ.1 6) rfl rfl z_kh_0
  refine x_callV C (as := [.int (nI 627400704)]) (st := []) (hM) kb_X2_keep kv_X2_40 dX2_makesGroup_8 rfl rfl (Nat.le_of_ble_eq_true rfl) ⟨by decide, by decide⟩ ⟨by decide, by decide⟩ ko_3 ?_
  clear hM
  rintro _ _ (⟨h9, -⟩ | ⟨-, h9, -⟩ | ⟨-, -, e5, e6, ⟨rfl, rfl⟩, hk0⟩)
  · skip
    exact absurd h9 List.not_mem_nil
  · skip
    exact absurd h9 (by decide)
  · skip
    refine x_sig (σ' := x_st σ [(3, 5, nI 1)] [(5, e5), (6, e6), (7, σ.1 7)] []) (x_st_st rfl) ?_
    refine x_pop C dX2_makesGroup_11 rfl ?_
    refine x_iconst C (nI 0) dX2_makesGroup_12 rfl ?_
    refine x_istore_n C (i := 1) dX2_makesGroup_13 rfl (by decide) ?_
    have lp14 : ∀ (m14 : Nat) (i : Nat) (f : Nat) (Ks : List Int32) (g5 : Nat → Int32) (g6 : Nat → Int32) (g7 : Nat → Int32), (f) = m14 → (i ≤ Ks.length) → (1940 ≤ f + 10 * i) → (z_kh g5 g6 Ks) → (Ks.length ≤ 192) → (∀ o, z_clo G ng f i 0 Ks o → z_close G ng o) → ∀ L : x_Lo, L.1 0 = some (.ref 3) → L.1 1 = some (.int (nI i)) → x_W xp l xe (x_rm 2) xs xm xg xb xt xc 4 Y 0 0 (MQ xb (x_Q Y K) xg xs 0 0 (x_A Y)) 14 L [] (x_st σ [(3, 5, nI Ks.length)] [(5, g5), (6, g6), (7, g7)] []) := by
      intro m14
      induction m14 using Nat.strongRecOn with
      | _ m14 ih14 =>
        intro i f Ks g5 g6 g7 hm14 hi hfl hkh hlen hR L xl0 xl1
        refine x_iload_n C (i := 1) dX2_makesGroup_14 rfl xl1 ?_
        refine x_sipush C (nI 192) dX2_makesGroup_15 rfl ?_
        obtain ⟨f9, hf9⟩ : ∃ f9, f = f9 + 1 := ⟨f - 1, by omega⟩
        refine x_icmp_geN C 89 dX2_makesGroup_18 (by decide) (by omega) (by omega) (fun c18 => ?_) (fun c18 => ?_)
        · skip
          have c18' := Nat.not_lt.mpr c18
          refine x_iconst C (nI 1) dX2_makesGroup_89 rfl ?_
          refine x_zret C xr xk dX2_makesGroup_90 rfl ?_
          exact hK _ _ ⟨_, _, _, _, rfl, hkh, hlen, Or.inr ⟨hR _ (by rw [hf9]; exact z_clo_end (by omega)), rfl⟩⟩
        · skip
          have c18' := Nat.not_le.mpr c18
          refine x_iload_n C (i := 1) dX2_makesGroup_21 rfl xl1 ?_
          refine x_aload_n C (i := 0) dX2_makesGroup_22 rfl xl0 ?_
          refine x_getI C fi_3_5 kf_X2_36 dX2_makesGroup_23 ?_
          refine x_topI (y := nI Ks.length) rfl ?_
          refine x_icmp_geN C 89 dX2_makesGroup_26 (by decide) (by omega) (by omega) (fun c26 => ?_) (fun c26 => ?_)
          · skip
            have c26' := Nat.not_lt.mpr c26
            refine x_iconst C (nI 1) dX2_makesGroup_89 rfl ?_
            refine x_zret C xr xk dX2_makesGroup_90 rfl ?_
            exact hK _ _ ⟨_, _, _, _, rfl, hkh, hlen, Or.inr ⟨hR _ (by rw [hf9]; exact z_clo_end (by omega)), rfl⟩⟩
          · skip
            have c26' := Nat.not_le.mpr c26
            obtain ⟨q, hq⟩ : ∃ q, Ks[i]? = some q := ⟨_, List.getElem?_eq_getElem c26⟩
            refine x_aload_n C (i := 0) dX2_makesGroup_29 rfl xl0 ?_
            refine x_getR C fr_3_1 kf_X2_17 dX2_makesGroup_30 ?_
            refine x_iload_n C (i := 1) dX2_makesGroup_33 rfl xl1 ?_
            refine x_ialdN C (by decide) rfl (by decide) dX2_makesGroup_34 (by omega) ?_
            refine x_topI (y := g5 i) rfl ?_
            refine x_topI (y := q) (hkh.1 i q hq) ?_
            refine x_aload_n C (i := 0) dX2_makesGroup_35 rfl xl0 ?_
            refine x_getR C fr_3_3 kf_X2_23 dX2_makesGroup_36 ?_
            refine x_iconst C (nI 0) dX2_makesGroup_39 rfl ?_
            have hM := c_X1_unpack_7 l Y (x_st σ [(3, 5, nI Ks.length)] [(5, g5), (6, g6), (7, g7)] []) q 0 g7 rfl (by omega)
            refine x_callS C (as := [.int q, .ref 7, .int (nI 0)]) (st := []) (hM) kb_X1_unpack ks_X2_44 dX2_makesGroup_40 rfl rfl (Nat.le_of_ble_eq_true rfl) ⟨by decide, by decide⟩ ⟨by decide, by decide⟩ ?_
            clear hM
            rintro _ _ ⟨rfl, rfl⟩
            refine x_sig (σ' := x_st σ [(3, 5, nI Ks.length)] [(5, g5), (6, g6), (7, va_cpy (z_ub q) g7 0 0 12)] []) (x_st_st rfl) ?_
            refine x_iconst C (nI 0) dX2_makesGroup_43 rfl ?_
            refine x_istore_n C (i := 2) dX2_makesGroup_44 rfl (by decide) ?_
            have lp45 : ∀ (m45 : Nat) (g : Nat) (f : Nat) (Ks : List Int32) (g5 : Nat → Int32) (g6 : Nat → Int32), (f) = m45 → (f ≤ m14) → (i < Ks.length) → (Ks[i]? = some q) → (g ≤ ng) → (1940 ≤ f + 10 * i + g) → (z_kh g5 g6 Ks) → (Ks.length ≤ 192) → (∀ o, z_clo G ng f i g Ks o → z_close G ng o) → ∀ L : x_Lo, L.1 0 = some (.ref 3) → L.1 1 = some (.int (nI i)) → L.1 2 = some (.int (nI g)) → x_W xp l xe (x_rm 2) xs xm xg xb xt xc 4 Y 0 0 (MQ xb (x_Q Y K) xg xs 0 0 (x_A Y)) 45 L [] (x_st σ [(3, 5, nI Ks.length)] [(5, g5), (6, g6), (7, va_cpy (z_ub q) g7 0 0 12)] []) := by
              intro m45
              induction m45 using Nat.strongRecOn with
              | _ m45 ih45 =>
                intro g f Ks g5 g6 hm45 hff hi hq hgg hfl hkh hlen hR L xl0 xl1 xl2
                refine x_iload_n C (i := 2) dX2_makesGroup_45 rfl xl2 ?_
                refine x_aload_n C (i := 0) dX2_makesGroup_46 rfl xl0 ?_
                refine x_getI C fi_3_4 kf_X2_26 dX2_makesGroup_47 ?_
                refine x_topI (y := nI ng) hg ?_
                obtain ⟨f9, hf9⟩ : ∃ f9, f = f9 + 1 := ⟨f - 1, by omega⟩
                refine x_icmp_geN C 83 dX2_makesGroup_50 (by decide) (by omega) (by omega) (fun c50 => ?_) (fun c50 => ?_)
                · skip
                  have c50' := Nat.not_lt.mpr c50
                  refine x_iincN C (i := 1) (b := 1) dX2_makesGroup_83 xl1 rfl (by decide) ?_
                  refine x_goto C 14 dX2_makesGroup_86 (by decide) ?_
                  exact ih14 _ (by omega) (i + 1) f9 Ks g5 g6 (va_cpy (z_ub q) g7 0 0 12) rfl (by omega) (by omega) hkh hlen (fun o ho => hR o (by rw [hf9]; exact z_clo_row hq c50 ho)) _ xl0 rfl
                · skip
                  have c50' := Nat.not_le.mpr c50
                  refine x_aload_n C (i := 0) dX2_makesGroup_53 rfl xl0 ?_
                  refine x_iload_n C (i := 2) dX2_makesGroup_54 rfl xl2 ?_
                  refine x_bipush C (nI 12) dX2_makesGroup_55 rfl ?_
                  refine x_imulN C dX2_makesGroup_57 ?_
                  have hM := c_X2_keyOfLeftBehind l Y (x_st σ [(3, 5, nI Ks.length)] [(5, g5), (6, g6), (7, va_cpy (z_ub q) g7 0 0 12)] []) (g * 12) (by omega)
                  refine x_callV C (as := [.int (nI (g * 12))]) (st := []) (hM) kb_X2_keyOfLeftBehind kv_X2_48 dX2_makesGroup_58 rfl rfl (Nat.le_of_ble_eq_true rfl) ⟨by decide, by decide⟩ ⟨by decide, by decide⟩ ko_3 ?_
                  clear hM
                  rintro _ _ (⟨hb, rfl, rfl⟩ | ⟨hb, rfl, rfl⟩)
                  · skip
                    have hbad : ¬ z_okb G q g := fun z => hb (fun m hm => by have h9 := z m hm; rw [← z_nu_c (fun j hj => z_un_at q g7 hj) (g * 12) hm] at h9; rw [← hG] at h9; exact h9)
                    refine x_istore_n C (i := 3) dX2_makesGroup_61 rfl (by decide) ?_
                    refine x_iload_n C (i := 3) dX2_makesGroup_62 rfl rfl ?_
                    refine x_iconst C (-1) dX2_makesGroup_63 rfl ?_
                    refine x_icmp_eq C 75 dX2_makesGroup_64 (by decide) (fun c64 => ?_) (fun c64 => ?_)
                    · skip
                      refine x_iconst C (nI 0) dX2_makesGroup_75 rfl ?_
                      refine x_zret C xr xk dX2_makesGroup_76 rfl ?_
                      exact hK _ _ ⟨_, _, _, _, rfl, hkh, hlen, Or.inl ⟨hR none (by rw [hf9]; first | exact z_clo_bad hq c50 hbad | exact z_clo_full hq c50 hgood hnm hful), rfl⟩⟩
                    · skip
                      exact absurd rfl c64
                  · skip
                    have hgood : z_okb G q g := fun m hm => by
                      have h9 := hb m hm
                      rw [← hG, ← z_nu_c (fun j hj => z_un_at q g7 hj) (g * 12) hm]
                      exact h9
                    refine x_topI (y := z_stp G q g) (by unfold z_stp; rw [← hG, ← z_ks_c (fun j hj => z_un_at q g7 hj) (g * 12) (Nat.le_refl 3)]; rfl) ?_
                    refine x_istore_n C (i := 3) dX2_makesGroup_61 rfl (by decide) ?_
                    refine x_iload_n C (i := 3) dX2_makesGroup_62 rfl rfl ?_
                    refine x_iconst C (-1) dX2_makesGroup_63 rfl ?_
                    refine x_icmp_eq C 75 dX2_makesGroup_64 (by decide) (fun c64 => ?_) (fun c64 => ?_)
                    · skip
                      exact absurd c64 (z_stp_ne hgood)
                    · skip
                      refine x_aload_n C (i := 0) dX2_makesGroup_67 rfl xl0 ?_
                      refine x_iload_n C (i := 3) dX2_makesGroup_68 rfl rfl ?_
                      have hM := c_X2_keep l Y (x_st σ [(3, 5, nI Ks.length)] [(5, g5), (6, g6), (7, va_cpy (z_ub q) g7 0 0 12)] []) (z_stp G q g) Ks rfl hlen g5 g6 rfl rfl hkh
                      refine x_callV C (as := [.int (z_stp G q g)]) (st := []) (hM) kb_X2_keep kv_X2_40 dX2_makesGroup_69 rfl rfl (Nat.le_of_ble_eq_true rfl) ⟨by decide, by decide⟩ ⟨by decide, by decide⟩ ko_3 ?_
                      clear hM
                      rintro _ _ (⟨hmem, rfl, rfl⟩ | ⟨hnm, hful, rfl, rfl⟩ | ⟨hnm, hlt, e5, e6, ⟨rfl, rfl⟩, hk2⟩)
                      · skip
                        refine x_if_neZ C 77 dX2_makesGroup_72 (by decide) (fun c72 => ?_) (fun c72 => absurd c72 (by decide))
                        refine x_iincN C (i := 2) (b := 1) dX2_makesGroup_77 xl2 rfl (by decide) ?_
                        refine x_goto C 45 dX2_makesGroup_80 (by decide) ?_
                        exact ih45 _ (by omega) (g + 1) f9 Ks g5 g6 rfl (by omega) hi hq (by omega) (by omega) hkh hlen (fun o ho => hR o (by rw [hf9]; exact z_clo_old hq c50 hgood hmem ho)) _ xl0 xl1 rfl
                      · skip
                        refine x_if_neZ C 77 dX2_makesGroup_72 (by decide) (fun c72 => absurd c72 (by decide)) (fun c72 => ?_)
                        refine x_iconst C (nI 0) dX2_makesGroup_75 rfl ?_
                        refine x_zret C xr xk dX2_makesGroup_76 rfl ?_
                        exact hK _ _ ⟨_, _, _, _, rfl, hkh, hlen, Or.inl ⟨hR none (by rw [hf9]; first | exact z_clo_bad hq c50 hbad | exact z_clo_full hq c50 hgood hnm hful), rfl⟩⟩
                      · skip
                        refine x_sig (σ' := x_st σ [(3, 5, nI (Ks.length + 1))] [(5, e5), (6, e6), (7, va_cpy (z_ub q) g7 0 0 12)] []) (x_st_st rfl) ?_
                        refine x_if_neZ C 77 dX2_makesGroup_72 (by decide) (fun c72 => ?_) (fun c72 => absurd c72 (by decide))
                        refine x_iincN C (i := 2) (b := 1) dX2_makesGroup_77 xl2 rfl (by decide) ?_
                        refine x_goto C 45 dX2_makesGroup_80 (by decide) ?_
                        refine x_sig (σ' := x_st σ [(3, 5, nI (Ks ++ [z_stp G q g]).length)] [(5, e5), (6, e6), (7, va_cpy (z_ub q) g7 0 0 12)] []) (by rw [List.length_append]; rfl) ?_
                        exact ih45 _ (by omega) (g + 1) f9 (Ks ++ [z_stp G q g]) e5 e6 rfl (by omega) (by rw [List.length_append]; omega) (by rw [List.getElem?_append_left (by omega)]; exact hq) (by omega) (by omega) hk2 (by rw [List.length_append]; show Ks.length + 1 ≤ 192; omega) (fun o ho => hR o (by rw [hf9]; exact z_clo_new hq c50 hgood hnm hlt ho)) _ xl0 xl1 rfl
            exact lp45 _ 0 f Ks g5 g6 rfl (by omega) (by omega) hq (Nat.zero_le _) (by omega) hkh hlen hR _ xl0 xl1 rfl
    exact lp14 _ 0 1940 ([nI 627400704]) e5 e6 (σ.1 7) rfl (by decide) (by decide) hk0 (by decide) (fun o h => h) _ rfl rfl
theorem c_X2_makesGroup (l : Launch) (Y : x_Y) (σ : x_S) (ng : Nat) (hg : σ.1 3 4 = nI ng) (hg8 : ng ≤ 8) (G : Nat → Int32) (hG : σ.1 4 = G) : x_M l yX2_makesGroup cX2_makesGroup 4 (some .boolean) 2 Y [.ref 3] σ (fun r τ => ∃ Ks g5 g6 g7, τ = x_st σ [(3, 5, nI Ks.length)] [(5, g5), (6, g6), (7, g7)] [] ∧ z_kh g5 g6 Ks ∧ Ks.length ≤ 192 ∧ ((z_close G ng none ∧ r = some (.int (x_z false))) ∨ (z_close G ng (some Ks) ∧ r = some (.int (x_z true))))) := c_X2_makesGroup_K l Y σ ng hg hg8 G hG _ (fun _ _ h => h)
