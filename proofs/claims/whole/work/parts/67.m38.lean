set_option maxRecDepth 100000 in
set_option maxHeartbeats 200000 in
theorem c_X4_set_30_K (l : Launch) (Y : x_Y) (σ : x_S) (v : Nat) (f : Nat → Int32) (hf : σ.1 31 = f) (hv : v < 65536) (K : Option Value → x_S → Prop) (hK : ∀ (r : Option Value) (τ : x_S), (∃ g, (r = none ∧ τ = x_st σ [] [(31, g)] []) ∧ z_is g v) → K r τ) : x_M l yX4_set cX4_set 3 none 0 Y [.ref 30, .int (nI v)] σ K := by
  refine x_start (by decide) (Nat.le_of_ble_eq_true rfl) ?_
  intro xp xe xs xm xg xb xt xc C xr xk
  refine x_sig (σ' := x_st σ [] [(31, f)] []) (x_st_in trivial (And.intro hf trivial) trivial) ?_
  refine x_iconst C (nI 0) dX4_set_0 rfl ?_
  refine x_istore_n C (i := 2) dX4_set_1 rfl (by decide) ?_
  have lp2 : ∀ (m2 : Nat) (i : Nat) (g : Nat → Int32), (20 - i) = m2 → (i ≤ 20) → (∀ j, j < i → g j = nI 0) → ∀ L : x_Lo, L.1 0 = some (.ref 30) → L.1 1 = some (.int (nI v)) → L.1 2 = some (.int (nI i)) → x_W xp l xe (x_rm 0) xs xm xg xb xt xc 3 Y 0 0 (MQ xb (x_Q Y K) xg xs 0 0 (x_A Y)) 2 L [] (x_st σ [] [(31, g)] []) := by
    intro m2
    induction m2 using Nat.strongRecOn with
    | _ m2 ih2 =>
      intro i g hm2 hi hp L xl0 xl1 xl2
      refine x_iload_n C (i := 2) dX4_set_2 rfl xl2 ?_
      refine x_bipush C (nI 20) dX4_set_3 rfl ?_
      refine x_icmp_geN C 21 dX4_set_5 (by decide) (by omega) (by omega) (fun c5 => ?_) (fun c5 => ?_)
      · skip
        have c5' := Nat.not_lt.mpr c5
        refine x_aload_n C (i := 0) dX4_set_21 rfl xl0 ?_
        refine x_getR C fr_30_0 kf_X4_9 dX4_set_22 ?_
        refine x_iconst C (nI 0) dX4_set_25 rfl ?_
        refine x_iload_n C (i := 1) dX4_set_26 rfl xl1 ?_
        refine x_ldc C (65535) kc_X4_13 dX4_set_27 (x_topI (y := nI 65535) rfl ?_)
        refine x_iand C dX4_set_29 ?_
        refine x_topI (y := nI v) ((pk_andN (by omega) 16 (by decide)).trans (by rw [Nat.mod_eq_of_lt hv])) ?_
        refine x_iastN C (by decide) rfl (by decide) dX4_set_30 (by omega) ?_
        refine x_sig (σ' := x_st σ [] [(31, upd g 0 (nI v))] []) (x_st_ua rfl) ?_
        refine x_vret C xr xk dX4_set_31 ?_
        exact hK _ _ ⟨_, ⟨rfl, rfl⟩, Nat.lt_of_lt_of_le hv (Nat.le_self_pow (by decide) 65536), fun j hj => by
            by_cases e : j = 0
            · subst e; rw [pk_us, y_dg_b0 hv]
            · rw [pk_un e, hp j (by omega), y_dg_bs hv (by omega)]⟩
      · skip
        have c5' := Nat.not_le.mpr c5
        refine x_aload_n C (i := 0) dX4_set_8 rfl xl0 ?_
        refine x_getR C fr_30_0 kf_X4_9 dX4_set_9 ?_
        refine x_iload_n C (i := 2) dX4_set_12 rfl xl2 ?_
        refine x_iconst C (nI 0) dX4_set_13 rfl ?_
        refine x_iastN C (by decide) rfl (by decide) dX4_set_14 (by omega) ?_
        refine x_sig (σ' := x_st σ [] [(31, upd g i (nI 0))] []) (x_st_ua rfl) ?_
        refine x_iincN C (i := 2) (b := 1) dX4_set_15 xl2 rfl (by decide) ?_
        refine x_goto C 2 dX4_set_18 (by decide) ?_
        exact ih2 _ (by omega) (i + 1) (upd g i (nI 0)) rfl (by omega) (fun j h => by
              by_cases e : j = i
              · subst e; rw [pk_us]
              · rw [pk_un e]; exact hp j (by omega)) _ xl0 xl1 rfl
  exact lp2 _ 0 f rfl (Nat.zero_le _) (fun j h => absurd h (Nat.not_lt_zero j)) _ rfl rfl rfl
theorem c_X4_set_30 (l : Launch) (Y : x_Y) (σ : x_S) (v : Nat) (f : Nat → Int32) (hf : σ.1 31 = f) (hv : v < 65536) : x_M l yX4_set cX4_set 3 none 0 Y [.ref 30, .int (nI v)] σ (fun r τ => ∃ g, (r = none ∧ τ = x_st σ [] [(31, g)] []) ∧ z_is g v) := c_X4_set_30_K l Y σ v f hf hv _ (fun _ _ h => h)
set_option maxRecDepth 100000 in
set_option maxHeartbeats 200000 in
theorem c_X4_set_32_K (l : Launch) (Y : x_Y) (σ : x_S) (v : Nat) (f : Nat → Int32) (hf : σ.1 33 = f) (hv : v < 65536) (K : Option Value → x_S → Prop) (hK : ∀ (r : Option Value) (τ : x_S), (∃ g, (r = none ∧ τ = x_st σ [] [(33, g)] []) ∧ z_is g v) → K r τ) : x_M l yX4_set cX4_set 3 none 0 Y [.ref 32, .int (nI v)] σ K := by
  refine x_start (by decide) (Nat.le_of_ble_eq_true rfl) ?_
  intro xp xe xs xm xg xb xt xc C xr xk
  refine x_sig (σ' := x_st σ [] [(33, f)] []) (x_st_in trivial (And.intro hf trivial) trivial) ?_
  refine x_iconst C (nI 0) dX4_set_0 rfl ?_
  refine x_istore_n C (i := 2) dX4_set_1 rfl (by decide) ?_
  have lp2 : ∀ (m2 : Nat) (i : Nat) (g : Nat → Int32), (20 - i) = m2 → (i ≤ 20) → (∀ j, j < i → g j = nI 0) → ∀ L : x_Lo, L.1 0 = some (.ref 32) → L.1 1 = some (.int (nI v)) → L.1 2 = some (.int (nI i)) → x_W xp l xe (x_rm 0) xs xm xg xb xt xc 3 Y 0 0 (MQ xb (x_Q Y K) xg xs 0 0 (x_A Y)) 2 L [] (x_st σ [] [(33, g)] []) := by
    intro m2
    induction m2 using Nat.strongRecOn with
    | _ m2 ih2 =>
      intro i g hm2 hi hp L xl0 xl1 xl2
      refine x_iload_n C (i := 2) dX4_set_2 rfl xl2 ?_
      refine x_bipush C (nI 20) dX4_set_3 rfl ?_
      refine x_icmp_geN C 21 dX4_set_5 (by decide) (by omega) (by omega) (fun c5 => ?_) (fun c5 => ?_)
      · skip
        have c5' := Nat.not_lt.mpr c5
        refine x_aload_n C (i := 0) dX4_set_21 rfl xl0 ?_
        refine x_getR C fr_32_0 kf_X4_9 dX4_set_22 ?_
        refine x_iconst C (nI 0) dX4_set_25 rfl ?_
        refine x_iload_n C (i := 1) dX4_set_26 rfl xl1 ?_
        refine x_ldc C (65535) kc_X4_13 dX4_set_27 (x_topI (y := nI 65535) rfl ?_)
        refine x_iand C dX4_set_29 ?_
        refine x_topI (y := nI v) ((pk_andN (by omega) 16 (by decide)).trans (by rw [Nat.mod_eq_of_lt hv])) ?_
        refine x_iastN C (by decide) rfl (by decide) dX4_set_30 (by omega) ?_
        refine x_sig (σ' := x_st σ [] [(33, upd g 0 (nI v))] []) (x_st_ua rfl) ?_
        refine x_vret C xr xk dX4_set_31 ?_
        exact hK _ _ ⟨_, ⟨rfl, rfl⟩, Nat.lt_of_lt_of_le hv (Nat.le_self_pow (by decide) 65536), fun j hj => by
            by_cases e : j = 0
            · subst e; rw [pk_us, y_dg_b0 hv]
            · rw [pk_un e, hp j (by omega), y_dg_bs hv (by omega)]⟩
      · skip
        have c5' := Nat.not_le.mpr c5
        refine x_aload_n C (i := 0) dX4_set_8 rfl xl0 ?_
        refine x_getR C fr_32_0 kf_X4_9 dX4_set_9 ?_
        refine x_iload_n C (i := 2) dX4_set_12 rfl xl2 ?_
        refine x_iconst C (nI 0) dX4_set_13 rfl ?_
        refine x_iastN C (by decide) rfl (by decide) dX4_set_14 (by omega) ?_
        refine x_sig (σ' := x_st σ [] [(33, upd g i (nI 0))] []) (x_st_ua rfl) ?_
        refine x_iincN C (i := 2) (b := 1) dX4_set_15 xl2 rfl (by decide) ?_
        refine x_goto C 2 dX4_set_18 (by decide) ?_
        exact ih2 _ (by omega) (i + 1) (upd g i (nI 0)) rfl (by omega) (fun j h => by
              by_cases e : j = i
              · subst e; rw [pk_us]
              · rw [pk_un e]; exact hp j (by omega)) _ xl0 xl1 rfl
  exact lp2 _ 0 f rfl (Nat.zero_le _) (fun j h => absurd h (Nat.not_lt_zero j)) _ rfl rfl rfl
theorem c_X4_set_32 (l : Launch) (Y : x_Y) (σ : x_S) (v : Nat) (f : Nat → Int32) (hf : σ.1 33 = f) (hv : v < 65536) : x_M l yX4_set cX4_set 3 none 0 Y [.ref 32, .int (nI v)] σ (fun r τ => ∃ g, (r = none ∧ τ = x_st σ [] [(33, g)] []) ∧ z_is g v) := c_X4_set_32_K l Y σ v f hf hv _ (fun _ _ h => h)
set_option maxRecDepth 100000 in
set_option maxHeartbeats 200000 in
theorem c_X4_copy_34_K (l : Launch) (Y : x_Y) (σ : x_S) (v : Nat) (f g : Nat → Int32) (hf : σ.1 33 = f) (hg : σ.1 35 = g) (hv : z_is f v) (K : Option Value → x_S → Prop) (hK : ∀ (r : Option Value) (τ : x_S), (r = none ∧ τ = x_st σ [] [(35, va_cpy f g 0 0 20)] []) → K r τ) : x_M l yX4_copy cX4_copy 2 none 1 Y [.ref 34, .ref 32] σ K := by
  refine x_start (by decide) (Nat.le_of_ble_eq_true rfl) ?_
  intro xp xe xs xm xg xb xt xc C xr xk
  refine x_sig (σ' := x_st σ [] [(35, g)] []) (x_st_in trivial (And.intro hg trivial) trivial) ?_
  refine x_aload_n C (i := 1) dX4_copy_0 rfl rfl ?_
  refine x_getR C fr_32_0 kf_X4_9 dX4_copy_1 ?_
  refine x_iconst C (nI 0) dX4_copy_4 rfl ?_
  refine x_aload_n C (i := 0) dX4_copy_5 rfl rfl ?_
  refine x_getR C fr_34_0 kf_X4_9 dX4_copy_6 ?_
  refine x_iconst C (nI 0) dX4_copy_9 rfl ?_
  refine x_bipush C (nI 20) dX4_copy_10 rfl ?_
  refine x_acopy C ka_X4_14 (by decide) rfl (by decide) rfl ⟨by decide, by decide⟩ dX4_copy_12 (by omega) (by omega) ⟨by decide, by decide⟩ ?_
  refine x_sig (σ' := x_st σ [] [(35, va_cpy (σ.1 33) g 0 0 20)] []) x_st_i ?_
  refine x_vret C xr xk dX4_copy_15 ?_
  exact hK _ _ ⟨rfl, by rw [← hf]⟩
theorem c_X4_copy_34 (l : Launch) (Y : x_Y) (σ : x_S) (v : Nat) (f g : Nat → Int32) (hf : σ.1 33 = f) (hg : σ.1 35 = g) (hv : z_is f v) : x_M l yX4_copy cX4_copy 2 none 1 Y [.ref 34, .ref 32] σ (fun r τ => r = none ∧ τ = x_st σ [] [(35, va_cpy f g 0 0 20)] []) := c_X4_copy_34_K l Y σ v f g hf hg hv _ (fun _ _ h => h)
set_option maxRecDepth 100000 in
set_option maxHeartbeats 200000 in
theorem c_X4_multiply_30_K (l : Launch) (Y : x_Y) (σ : x_S) (b v : Nat) (f : Nat → Int32) (hf : σ.1 31 = f) (hv : z_is f v) (hb : b < 2 ^ 46) (hw : v * b < 65536 ^ 20) (K : Option Value → x_S → Prop) (hK : ∀ (r : Option Value) (τ : x_S), (∃ g, (r = none ∧ τ = x_st σ [] [(31, g)] []) ∧ z_is g (v * b)) → K r τ) : x_M l yX4_multiply cX4_multiply 6 none 0 Y [.ref 30, .long (lN b)] σ K := by
  refine x_start (by decide) (Nat.le_of_ble_eq_true rfl) ?_
  intro xp xe xs xm xg xb xt xc C xr xk
  refine x_sig (σ' := x_st σ [] [(31, f)] []) (x_st_in trivial (And.intro hf trivial) trivial) ?_
  refine x_lconst C (0) dX4_multiply_0 rfl ?_
  refine x_topL (y := lN 0) rfl ?_
  refine x_topL (y := lN (y_cy v b 0)) (by rw [y_cy_0]) ?_
  refine x_lstore_n C (i := 3) dX4_multiply_1 rfl (by decide) ?_
  refine x_iconst C (nI 0) dX4_multiply_2 rfl ?_
  refine x_istore C (i := 5) dX4_multiply_3 (by decide) ?_
  have lp5 : ∀ (m5 : Nat) (i : Nat) (g : Nat → Int32), (20 - i) = m5 → (i ≤ 20) → (z_pt g i (v * b) v) → ∀ L : x_Lo, L.1 0 = some (.ref 30) → L.2 1 = some (lN b) → L.2 3 = some (lN (y_cy v b i)) → L.1 5 = some (.int (nI i)) → x_W xp l xe (x_rm 0) xs xm xg xb xt xc 6 Y 0 0 (MQ xb (x_Q Y K) xg xs 0 0 (x_A Y)) 5 L [] (x_st σ [] [(31, g)] []) := by
    intro m5
    induction m5 using Nat.strongRecOn with
    | _ m5 ih5 =>
      intro i g hm5 hi hp L xl0 xl1 xl3 xl5
      refine x_iload C (i := 5) dX4_multiply_5 xl5 ?_
      refine x_bipush C (nI 20) dX4_multiply_7 rfl ?_
      refine x_icmp_geN C 49 dX4_multiply_9 (by decide) (by omega) (by omega) (fun c9 => ?_) (fun c9 => ?_)
      · skip
        have c9' := Nat.not_lt.mpr c9
        obtain rfl : i = 20 := by omega
        refine x_vret C xr xk dX4_multiply_49 ?_
        exact hK _ _ ⟨_, ⟨rfl, rfl⟩, z_pt_20 hp hw⟩
      · skip
        have c9' := Nat.not_le.mpr c9
        refine x_lload_n C (i := 3) dX4_multiply_12 rfl xl3 ?_
        refine x_aload_n C (i := 0) dX4_multiply_13 rfl xl0 ?_
        refine x_getR C fr_30_0 kf_X4_9 dX4_multiply_14 ?_
        refine x_iload C (i := 5) dX4_multiply_17 xl5 ?_
        refine x_ialdN C (by decide) rfl (by decide) dX4_multiply_19 (by omega) ?_
        refine x_topI (y := g i) rfl ?_
        refine x_topI (y := nI (y_dg v i)) (z_pt_at hp (by omega)) ?_
        have hd9 := y_dg_lt v i
        have hB := y_tm_b (v := v) (k := i) hb
        rw [Nat.add_comm] at hB
        obtain ⟨hc1, hc2⟩ := z_tm_c v b i
        refine x_i2l C dX4_multiply_20 ?_
        refine x_topL (y := lN (y_dg v i)) (nI_l (by omega)) ?_
        refine x_lload_n C (i := 1) dX4_multiply_21 rfl xl1 ?_
        refine x_lmul C dX4_multiply_22 ?_
        refine x_topL (y := lN ((y_dg v i) * b)) (lN_mul _ _) ?_
        refine x_ladd C dX4_multiply_23 ?_
        refine x_topL (y := lN ((y_cy v b i) + ((y_dg v i) * b))) (lN_add _ _) ?_
        refine x_lstore_n C (i := 3) dX4_multiply_24 rfl (by decide) ?_
        refine x_aload_n C (i := 0) dX4_multiply_25 rfl xl0 ?_
        refine x_getR C fr_30_0 kf_X4_9 dX4_multiply_26 ?_
        refine x_iload C (i := 5) dX4_multiply_29 xl5 ?_
        refine x_lload_n C (i := 3) dX4_multiply_31 rfl rfl ?_
        refine x_ldc2 C (65535) kc_X4_20 dX4_multiply_32 ?_
        refine x_topL (y := lN 65535) rfl ?_
        refine x_land C dX4_multiply_35 ?_
        refine x_topL (y := lN (((y_cy v b i) + ((y_dg v i) * b)) % 65536)) (x_lmask 16 (by decide) (Nat.lt_trans hB (by decide))) ?_
        refine x_l2i C dX4_multiply_36 ?_
        refine x_topI (y := nI (((y_cy v b i) + ((y_dg v i) * b)) % 65536)) (lN_i _) ?_
        refine x_topI (y := nI (y_dg (v * b) i)) (by rw [hc2]) ?_
        refine x_iastN C (by decide) rfl (by decide) dX4_multiply_37 (by omega) ?_
        refine x_sig (σ' := x_st σ [] [(31, upd g i (nI (y_dg (v * b) i)))] []) (x_st_ua rfl) ?_
        refine x_lload_n C (i := 3) dX4_multiply_38 rfl rfl ?_
        refine x_bipush C (nI 16) dX4_multiply_39 rfl ?_
        refine x_lshr C dX4_multiply_41 ?_
        refine x_topL (y := lN (((y_cy v b i) + ((y_dg v i) * b)) / 2 ^ 16)) (x_lshrN 16 (by decide) hB) ?_
        refine x_topL (y := lN (y_cy v b (i + 1))) (by rw [hc1]) ?_
        refine x_lstore_n C (i := 3) dX4_multiply_42 rfl (by decide) ?_
        refine x_iincN C (i := 5) (b := 1) dX4_multiply_43 xl5 rfl (by decide) ?_
        refine x_goto C 5 dX4_multiply_46 (by decide) ?_
        exact ih5 _ (by omega) (i + 1) (upd g i (nI (y_dg (v * b) i))) rfl (by omega) (z_pt_s hp) _ xl0 xl1 rfl rfl
  exact lp5 _ 0 f rfl (Nat.zero_le _) (z_pt_0 _ hv) _ rfl rfl rfl rfl
theorem c_X4_multiply_30 (l : Launch) (Y : x_Y) (σ : x_S) (b v : Nat) (f : Nat → Int32) (hf : σ.1 31 = f) (hv : z_is f v) (hb : b < 2 ^ 46) (hw : v * b < 65536 ^ 20) : x_M l yX4_multiply cX4_multiply 6 none 0 Y [.ref 30, .long (lN b)] σ (fun r τ => ∃ g, (r = none ∧ τ = x_st σ [] [(31, g)] []) ∧ z_is g (v * b)) := c_X4_multiply_30_K l Y σ b v f hf hv hb hw _ (fun _ _ h => h)
set_option maxRecDepth 100000 in
set_option maxHeartbeats 200000 in
theorem c_X4_multiply_32_K (l : Launch) (Y : x_Y) (σ : x_S) (b v : Nat) (f : Nat → Int32) (hf : σ.1 33 = f) (hv : z_is f v) (hb : b < 2 ^ 46) (hw : v * b < 65536 ^ 20) (K : Option Value → x_S → Prop) (hK : ∀ (r : Option Value) (τ : x_S), (∃ g, (r = none ∧ τ = x_st σ [] [(33, g)] []) ∧ z_is g (v * b)) → K r τ) : x_M l yX4_multiply cX4_multiply 6 none 0 Y [.ref 32, .long (lN b)] σ K := by
  refine x_start (by decide) (Nat.le_of_ble_eq_true rfl) ?_
  intro xp xe xs xm xg xb xt xc C xr xk
  refine x_sig (σ' := x_st σ [] [(33, f)] []) (x_st_in trivial (And.intro hf trivial) trivial) ?_
  refine x_lconst C (0) dX4_multiply_0 rfl ?_
  refine x_topL (y := lN 0) rfl ?_
  refine x_topL (y := lN (y_cy v b 0)) (by rw [y_cy_0]) ?_
  refine x_lstore_n C (i := 3) dX4_multiply_1 rfl (by decide) ?_
  refine x_iconst C (nI 0) dX4_multiply_2 rfl ?_
  refine x_istore C (i := 5) dX4_multiply_3 (by decide) ?_
  have lp5 : ∀ (m5 : Nat) (i : Nat) (g : Nat → Int32), (20 - i) = m5 → (i ≤ 20) → (z_pt g i (v * b) v) → ∀ L : x_Lo, L.1 0 = some (.ref 32) → L.2 1 = some (lN b) → L.2 3 = some (lN (y_cy v b i)) → L.1 5 = some (.int (nI i)) → x_W xp l xe (x_rm 0) xs xm xg xb xt xc 6 Y 0 0 (MQ xb (x_Q Y K) xg xs 0 0 (x_A Y)) 5 L [] (x_st σ [] [(33, g)] []) := by
    intro m5
    induction m5 using Nat.strongRecOn with
    | _ m5 ih5 =>
      intro i g hm5 hi hp L xl0 xl1 xl3 xl5
      refine x_iload C (i := 5) dX4_multiply_5 xl5 ?_
      refine x_bipush C (nI 20) dX4_multiply_7 rfl ?_
      refine x_icmp_geN C 49 dX4_multiply_9 (by decide) (by omega) (by omega) (fun c9 => ?_) (fun c9 => ?_)
      · skip
        have c9' := Nat.not_lt.mpr c9
        obtain rfl : i = 20 := by omega
        refine x_vret C xr xk dX4_multiply_49 ?_
        exact hK _ _ ⟨_, ⟨rfl, rfl⟩, z_pt_20 hp hw⟩
      · skip
        have c9' := Nat.not_le.mpr c9
        refine x_lload_n C (i := 3) dX4_multiply_12 rfl xl3 ?_
        refine x_aload_n C (i := 0) dX4_multiply_13 rfl xl0 ?_
        refine x_getR C fr_32_0 kf_X4_9 dX4_multiply_14 ?_
        refine x_iload C (i := 5) dX4_multiply_17 xl5 ?_
        refine x_ialdN C (by decide) rfl (by decide) dX4_multiply_19 (by omega) ?_
        refine x_topI (y := g i) rfl ?_
        refine x_topI (y := nI (y_dg v i)) (z_pt_at hp (by omega)) ?_
        have hd9 := y_dg_lt v i
        have hB := y_tm_b (v := v) (k := i) hb
        rw [Nat.add_comm] at hB
        obtain ⟨hc1, hc2⟩ := z_tm_c v b i
        refine x_i2l C dX4_multiply_20 ?_
        refine x_topL (y := lN (y_dg v i)) (nI_l (by omega)) ?_
        refine x_lload_n C (i := 1) dX4_multiply_21 rfl xl1 ?_
        refine x_lmul C dX4_multiply_22 ?_
        refine x_topL (y := lN ((y_dg v i) * b)) (lN_mul _ _) ?_
        refine x_ladd C dX4_multiply_23 ?_
        refine x_topL (y := lN ((y_cy v b i) + ((y_dg v i) * b))) (lN_add _ _) ?_
        refine x_lstore_n C (i := 3) dX4_multiply_24 rfl (by decide) ?_
        refine x_aload_n C (i := 0) dX4_multiply_25 rfl xl0 ?_
        refine x_getR C fr_32_0 kf_X4_9 dX4_multiply_26 ?_
        refine x_iload C (i := 5) dX4_multiply_29 xl5 ?_
        refine x_lload_n C (i := 3) dX4_multiply_31 rfl rfl ?_
        refine x_ldc2 C (65535) kc_X4_20 dX4_multiply_32 ?_
        refine x_topL (y := lN 65535) rfl ?_
        refine x_land C dX4_multiply_35 ?_
        refine x_topL (y := lN (((y_cy v b i) + ((y_dg v i) * b)) % 65536)) (x_lmask 16 (by decide) (Nat.lt_trans hB (by decide))) ?_
        refine x_l2i C dX4_multiply_36 ?_
        refine x_topI (y := nI (((y_cy v b i) + ((y_dg v i) * b)) % 65536)) (lN_i _) ?_
        refine x_topI (y := nI (y_dg (v * b) i)) (by rw [hc2]) ?_
        refine x_iastN C (by decide) rfl (by decide) dX4_multiply_37 (by omega) ?_
        refine x_sig (σ' := x_st σ [] [(33, upd g i (nI (y_dg (v * b) i)))] []) (x_st_ua rfl) ?_
        refine x_lload_n C (i := 3) dX4_multiply_38 rfl rfl ?_
        refine x_bipush C (nI 16) dX4_multiply_39 rfl ?_
        refine x_lshr C dX4_multiply_41 ?_
        refine x_topL (y := lN (((y_cy v b i) + ((y_dg v i) * b)) / 2 ^ 16)) (x_lshrN 16 (by decide) hB) ?_
        refine x_topL (y := lN (y_cy v b (i + 1))) (by rw [hc1]) ?_
        refine x_lstore_n C (i := 3) dX4_multiply_42 rfl (by decide) ?_
        refine x_iincN C (i := 5) (b := 1) dX4_multiply_43 xl5 rfl (by decide) ?_
        refine x_goto C 5 dX4_multiply_46 (by decide) ?_
        exact ih5 _ (by omega) (i + 1) (upd g i (nI (y_dg (v * b) i))) rfl (by omega) (z_pt_s hp) _ xl0 xl1 rfl rfl
  exact lp5 _ 0 f rfl (Nat.zero_le _) (z_pt_0 _ hv) _ rfl rfl rfl rfl
theorem c_X4_multiply_32 (l : Launch) (Y : x_Y) (σ : x_S) (b v : Nat) (f : Nat → Int32) (hf : σ.1 33 = f) (hv : z_is f v) (hb : b < 2 ^ 46) (hw : v * b < 65536 ^ 20) : x_M l yX4_multiply cX4_multiply 6 none 0 Y [.ref 32, .long (lN b)] σ (fun r τ => ∃ g, (r = none ∧ τ = x_st σ [] [(33, g)] []) ∧ z_is g (v * b)) := c_X4_multiply_32_K l Y σ b v f hf hv hb hw _ (fun _ _ h => h)
set_option maxRecDepth 100000 in
set_option maxHeartbeats 200000 in
theorem c_X4_addProduct_30_K (l : Launch) (Y : x_Y) (σ : x_S) (b v w : Nat) (f g : Nat → Int32) (hf : σ.1 31 = f) (hg : σ.1 35 = g) (hv : z_is f v) (hw : z_is g w) (hb : b < 2 ^ 45) (hu : v + w * b < 65536 ^ 20) (K : Option Value → x_S → Prop) (hK : ∀ (r : Option Value) (τ : x_S), (∃ h, (r = none ∧ τ = x_st σ [] [(31, h)] []) ∧ z_is h (v + w * b)) → K r τ) : x_M l yX4_addProduct cX4_addProduct 7 none 0 Y [.ref 30, .ref 34, .long (lN b)] σ K := by
  refine x_start (by decide) (Nat.le_of_ble_eq_true rfl) ?_
  intro xp xe xs xm xg xb xt xc C xr xk
  refine x_sig (σ' := x_st σ [] [(31, f)] []) (x_st_in trivial (And.intro hf trivial) trivial) ?_
  refine x_lconst C (0) dX4_addProduct_0 rfl ?_
  refine x_topL (y := lN 0) rfl ?_
  refine x_topL (y := lN (z_cp v w b 0)) (by rw [z_cp_0]) ?_
  refine x_lstore C (i := 4) dX4_addProduct_1 (by decide) ?_
  refine x_iconst C (nI 0) dX4_addProduct_3 rfl ?_
  refine x_istore C (i := 6) dX4_addProduct_4 (by decide) ?_
  have lp6 : ∀ (m6 : Nat) (i : Nat) (h : Nat → Int32), (20 - i) = m6 → (i ≤ 20) → (z_pt h i (v + w * b) v) → ∀ L : x_Lo, L.1 0 = some (.ref 30) → L.1 1 = some (.ref 34) → L.2 2 = some (lN b) → L.2 4 = some (lN (z_cp v w b i)) → L.1 6 = some (.int (nI i)) → x_W xp l xe (x_rm 0) xs xm xg xb xt xc 7 Y 0 0 (MQ xb (x_Q Y K) xg xs 0 0 (x_A Y)) 6 L [] (x_st σ [] [(31, h)] []) := by
    intro m6
    induction m6 using Nat.strongRecOn with
    | _ m6 ih6 =>
      intro i h hm6 hi hp L xl0 xl1 xl2 xl4 xl6
      refine x_iload C (i := 6) dX4_addProduct_6 xl6 ?_
      refine x_bipush C (nI 20) dX4_addProduct_8 rfl ?_
      refine x_icmp_geN C 64 dX4_addProduct_10 (by decide) (by omega) (by omega) (fun c10 => ?_) (fun c10 => ?_)
      · skip
        have c10' := Nat.not_lt.mpr c10
        obtain rfl : i = 20 := by omega
        refine x_vret C xr xk dX4_addProduct_64 ?_
        exact hK _ _ ⟨_, ⟨rfl, rfl⟩, z_pt_20 hp hu⟩
      · skip
        have c10' := Nat.not_le.mpr c10
        refine x_lload C (i := 4) dX4_addProduct_13 xl4 ?_
        refine x_aload_n C (i := 0) dX4_addProduct_15 rfl xl0 ?_
        refine x_getR C fr_30_0 kf_X4_9 dX4_addProduct_16 ?_
        refine x_iload C (i := 6) dX4_addProduct_19 xl6 ?_
        refine x_ialdN C (by decide) rfl (by decide) dX4_addProduct_21 (by omega) ?_
        refine x_topI (y := h i) rfl ?_
        refine x_topI (y := nI (y_dg v i)) (z_pt_at hp (by omega)) ?_
        have hd9 := y_dg_lt v i
        have hd8 := y_dg_lt w i
        have hB := z_ap_b2 (v := v) (w := w) (k := i) hb
        have hc1 := z_cp_s v w b i
        have hc2 := z_ap_d v w b i
        refine x_i2l C dX4_addProduct_22 ?_
        refine x_topL (y := lN (y_dg v i)) (nI_l (by omega)) ?_
        refine x_aload_n C (i := 1) dX4_addProduct_23 rfl xl1 ?_
        refine x_getR C fr_34_0 kf_X4_9 dX4_addProduct_24 ?_
        refine x_iload C (i := 6) dX4_addProduct_27 xl6 ?_
        refine x_ialdN C (by decide) rfl (by decide) dX4_addProduct_29 (by omega) ?_
        refine x_topI (y := σ.1 35 i) rfl ?_
        refine x_topI (y := nI (y_dg w i)) ((congrFun hg _).trans (hw.2 i (by omega))) ?_
        refine x_i2l C dX4_addProduct_30 ?_
        refine x_topL (y := lN (y_dg w i)) (nI_l (by omega)) ?_
        refine x_lload_n C (i := 2) dX4_addProduct_31 rfl xl2 ?_
        refine x_lmul C dX4_addProduct_32 ?_
        refine x_topL (y := lN ((y_dg w i) * b)) (lN_mul _ _) ?_
        refine x_ladd C dX4_addProduct_33 ?_
        refine x_topL (y := lN ((y_dg v i) + ((y_dg w i) * b))) (lN_add _ _) ?_
        refine x_ladd C dX4_addProduct_34 ?_
        refine x_topL (y := lN ((z_cp v w b i) + ((y_dg v i) + ((y_dg w i) * b)))) (lN_add _ _) ?_
        refine x_lstore C (i := 4) dX4_addProduct_35 (by decide) ?_
        refine x_aload_n C (i := 0) dX4_addProduct_37 rfl xl0 ?_
        refine x_getR C fr_30_0 kf_X4_9 dX4_addProduct_38 ?_
        refine x_iload C (i := 6) dX4_addProduct_41 xl6 ?_
        refine x_lload C (i := 4) dX4_addProduct_43 rfl ?_
        refine x_ldc2 C (65535) kc_X4_20 dX4_addProduct_45 ?_
        refine x_topL (y := lN 65535) rfl ?_
        refine x_land C dX4_addProduct_48 ?_
        refine x_topL (y := lN (((z_cp v w b i) + ((y_dg v i) + ((y_dg w i) * b))) % 65536)) (x_lmask 16 (by decide) (Nat.lt_trans hB (by decide))) ?_
        refine x_l2i C dX4_addProduct_49 ?_
        refine x_topI (y := nI (((z_cp v w b i) + ((y_dg v i) + ((y_dg w i) * b))) % 65536)) (lN_i _) ?_
        refine x_topI (y := nI (y_dg (v + w * b) i)) (by rw [hc2]) ?_
        refine x_iastN C (by decide) rfl (by decide) dX4_addProduct_50 (by omega) ?_
        refine x_sig (σ' := x_st σ [] [(31, upd h i (nI (y_dg (v + w * b) i)))] []) (x_st_ua rfl) ?_
        refine x_lload C (i := 4) dX4_addProduct_51 rfl ?_
        refine x_bipush C (nI 16) dX4_addProduct_53 rfl ?_
        refine x_lshr C dX4_addProduct_55 ?_
        refine x_topL (y := lN (((z_cp v w b i) + ((y_dg v i) + ((y_dg w i) * b))) / 2 ^ 16)) (x_lshrN 16 (by decide) hB) ?_
        refine x_topL (y := lN (z_cp v w b (i + 1))) (by rw [hc1]) ?_
        refine x_lstore C (i := 4) dX4_addProduct_56 (by decide) ?_
        refine x_iincN C (i := 6) (b := 1) dX4_addProduct_58 xl6 rfl (by decide) ?_
        refine x_goto C 6 dX4_addProduct_61 (by decide) ?_
        exact ih6 _ (by omega) (i + 1) (upd h i (nI (y_dg (v + w * b) i))) rfl (by omega) (z_pt_s hp) _ xl0 xl1 xl2 rfl rfl
  exact lp6 _ 0 f rfl (Nat.zero_le _) (z_pt_0 _ hv) _ rfl rfl rfl rfl rfl
theorem c_X4_addProduct_30 (l : Launch) (Y : x_Y) (σ : x_S) (b v w : Nat) (f g : Nat → Int32) (hf : σ.1 31 = f) (hg : σ.1 35 = g) (hv : z_is f v) (hw : z_is g w) (hb : b < 2 ^ 45) (hu : v + w * b < 65536 ^ 20) : x_M l yX4_addProduct cX4_addProduct 7 none 0 Y [.ref 30, .ref 34, .long (lN b)] σ (fun r τ => ∃ h, (r = none ∧ τ = x_st σ [] [(31, h)] []) ∧ z_is h (v + w * b)) := c_X4_addProduct_30_K l Y σ b v w f g hf hg hv hw hb hu _ (fun _ _ h => h)
set_option maxRecDepth 100000 in
set_option maxHeartbeats 200000 in
theorem c_X4_divide_30_K (l : Launch) (Y : x_Y) (σ : x_S) (b v : Nat) (f : Nat → Int32) (hf : σ.1 31 = f) (hv : z_is f v) (hb : b < 2 ^ 46) (hb0 : 0 < b) (K : Option Value → x_S → Prop) (hK : ∀ (r : Option Value) (τ : x_S), (∃ g, (r = none ∧ τ = x_st σ [] [(31, g)] []) ∧ z_is g (v / b)) → K r τ) : x_M l yX4_divide cX4_divide 6 none 0 Y [.ref 30, .long (lN b)] σ K := by
  refine x_start (by decide) (Nat.le_of_ble_eq_true rfl) ?_
  intro xp xe xs xm xg xb xt xc C xr xk
  refine x_sig (σ' := x_st σ [] [(31, f)] []) (x_st_in trivial (And.intro hf trivial) trivial) ?_
  refine x_lload_n C (i := 1) dX4_divide_0 rfl rfl ?_
  refine x_lconst C (1) dX4_divide_1 rfl ?_
  refine x_topL (y := lN 1) rfl ?_
  refine x_lcmp C dX4_divide_2 ?_
  refine x_jf_ge C 7 dX4_divide_3 (by decide) (fun c3 => ?_) (fun c3 => ?_)
  · skip
    have c3 := (lg_cmp_ge _ _).mp c3
    have c3' := Int64.not_lt.mpr c3
    refine x_lconst C (0) dX4_divide_7 rfl ?_
    refine x_topL (y := lN 0) rfl ?_
    refine x_topL (y := lN (v / 65536 ^ 20 % b)) (by rw [Nat.div_eq_of_lt hv.1, Nat.zero_mod]) ?_
    refine x_lstore_n C (i := 3) dX4_divide_8 rfl (by decide) ?_
    refine x_bipush C (nI 19) dX4_divide_9 rfl ?_
    refine x_topI (y := nI 20 + (-1)) rfl ?_
    refine x_istore C (i := 5) dX4_divide_11 (by decide) ?_
    have lp13 : ∀ (m13 : Nat) (kk : Nat) (g : Nat → Int32), (kk) = m13 → (kk ≤ 20) → (z_pt g kk v (v / b)) → ∀ L : x_Lo, L.1 0 = some (.ref 30) → L.2 1 = some (lN b) → L.2 3 = some (lN (v / 65536 ^ kk % b)) → L.1 5 = some (.int (nI kk + (-1))) → x_W xp l xe (x_rm 0) xs xm xg xb xt xc 6 Y 0 0 (MQ xb (x_Q Y K) xg xs 0 0 (x_A Y)) 13 L [] (x_st σ [] [(31, g)] []) := by
      intro m13
      induction m13 using Nat.strongRecOn with
      | _ m13 ih13 =>
        intro kk g hm13 hk hp L xl0 xl1 xl3 xl5
        refine x_iload C (i := 5) dX4_divide_13 xl5 ?_
        refine x_jf_lt C 53 dX4_divide_15 (by decide) (fun c15 => ?_) (fun c15 => ?_)
        · skip
          have c15' := Int32.not_le.mpr c15
          have hk0 : kk = 0 := by
            rcases kk with _ | k
            · rfl
            · rw [pk_m1] at c15; exact absurd c15 (y_nneg (by omega))
          subst hk0
          refine x_vret C xr xk dX4_divide_53 ?_
          exact hK _ _ ⟨_, ⟨rfl, rfl⟩, z_pt_b hp (Nat.lt_of_le_of_lt (Nat.div_le_self _ _) hv.1)⟩
        · skip
          have c15' := Int32.not_lt.mpr c15
          obtain ⟨k, rfl⟩ : ∃ k, kk = k + 1 := by
            rcases kk with _ | k
            · exact absurd c15 (by decide)
            · exact ⟨k, rfl⟩
          rw [pk_m1] at xl5
          have hB := y_dv_b (v := v) (k := k) hb0 hb
          have hd9 := y_dg_lt v k
          have hdv := y_dv v b k hb0
          have hbne : ¬ lN b = 0 := fun z => by
            have z2 := (pk_lEQ (a := b) (b := 0) (by omega) (by decide)).mp z
            omega
          refine x_lload_n C (i := 3) dX4_divide_18 rfl xl3 ?_
          refine x_bipush C (nI 16) dX4_divide_19 rfl ?_
          refine x_lshl C dX4_divide_21 ?_
          refine x_topL (y := lN ((v / 65536 ^ (k + 1) % b) * 2 ^ 16)) (wb_shl _ (by decide)) ?_
          refine x_aload_n C (i := 0) dX4_divide_22 rfl xl0 ?_
          refine x_getR C fr_30_0 kf_X4_9 dX4_divide_23 ?_
          refine x_iload C (i := 5) dX4_divide_26 xl5 ?_
          refine x_ialdN C (by decide) rfl (by decide) dX4_divide_28 (by omega) ?_
          refine x_topI (y := g k) rfl ?_
          refine x_topI (y := nI (y_dg v k)) (z_pt_lo hp (by omega) (by omega)) ?_
          refine x_i2l C dX4_divide_29 ?_
          refine x_topL (y := lN (y_dg v k)) (nI_l (by omega)) ?_
          refine x_ladd C dX4_divide_30 ?_
          refine x_topL (y := lN (((v / 65536 ^ (k + 1) % b) * 2 ^ 16) + (y_dg v k))) (lN_add _ _) ?_
          refine x_lstore_n C (i := 3) dX4_divide_31 rfl (by decide) ?_
          refine x_aload_n C (i := 0) dX4_divide_32 rfl xl0 ?_
          refine x_getR C fr_30_0 kf_X4_9 dX4_divide_33 ?_
          refine x_iload C (i := 5) dX4_divide_36 xl5 ?_
          refine x_lload_n C (i := 3) dX4_divide_38 rfl rfl ?_
          refine x_lload_n C (i := 1) dX4_divide_39 rfl xl1 ?_
          refine x_ldiv C dX4_divide_40 hbne ?_
          refine x_topL (y := lN ((((v / 65536 ^ (k + 1) % b) * 2 ^ 16) + (y_dg v k)) / b)) (pk_lDiv (Nat.lt_trans hB (by decide)) hb0 (by omega)) ?_
          refine x_l2i C dX4_divide_41 ?_
          refine x_topI (y := nI ((((v / 65536 ^ (k + 1) % b) * 2 ^ 16) + (y_dg v k)) / b)) (lN_i _) ?_
          refine x_topI (y := nI (y_dg (v / b) k)) (by rw [hdv.1]) ?_
          refine x_iastN C (by decide) rfl (by decide) dX4_divide_42 (by omega) ?_
          refine x_sig (σ' := x_st σ [] [(31, upd g k (nI (y_dg (v / b) k)))] []) (x_st_ua rfl) ?_
          refine x_lload_n C (i := 3) dX4_divide_43 rfl rfl ?_
          refine x_lload_n C (i := 1) dX4_divide_44 rfl xl1 ?_
          refine x_lrem C dX4_divide_45 hbne ?_
          refine x_topL (y := lN ((((v / 65536 ^ (k + 1) % b) * 2 ^ 16) + (y_dg v k)) % b)) (pk_lRem (Nat.lt_trans hB (by decide)) hb0 (by omega)) ?_
          refine x_topL (y := lN (v / 65536 ^ k % b)) (by rw [hdv.2]) ?_
          refine x_lstore_n C (i := 3) dX4_divide_46 rfl (by decide) ?_
          refine x_iinc C (i := 5) (-1) dX4_divide_47 xl5 rfl (by decide) ?_
          refine x_goto C 13 dX4_divide_50 (by decide) ?_
          exact ih13 _ (by omega) k (upd g k (nI (y_dg (v / b) k))) rfl (by omega) (z_pt_d hp) _ xl0 xl1 rfl rfl
    exact lp13 _ 20 f rfl (Nat.le_refl _) (z_pt_t _ hv) _ rfl rfl rfl rfl
  · skip
    have c3 := (lg_cmp_lt _ _).mp c3
    have c3' := Int64.not_le.mpr c3
    exact absurd (z_l1 (by omega) hb0) c3'
theorem c_X4_divide_30 (l : Launch) (Y : x_Y) (σ : x_S) (b v : Nat) (f : Nat → Int32) (hf : σ.1 31 = f) (hv : z_is f v) (hb : b < 2 ^ 46) (hb0 : 0 < b) : x_M l yX4_divide cX4_divide 6 none 0 Y [.ref 30, .long (lN b)] σ (fun r τ => ∃ g, (r = none ∧ τ = x_st σ [] [(31, g)] []) ∧ z_is g (v / b)) := c_X4_divide_30_K l Y σ b v f hf hv hb hb0 _ (fun _ _ h => h)
set_option maxRecDepth 100000 in
set_option maxHeartbeats 200000 in
theorem c_X4_divide_32_K (l : Launch) (Y : x_Y) (σ : x_S) (b v : Nat) (f : Nat → Int32) (hf : σ.1 33 = f) (hv : z_is f v) (hb : b < 2 ^ 46) (hb0 : 0 < b) (K : Option Value → x_S → Prop) (hK : ∀ (r : Option Value) (τ : x_S), (∃ g, (r = none ∧ τ = x_st σ [] [(33, g)] []) ∧ z_is g (v / b)) → K r τ) : x_M l yX4_divide cX4_divide 6 none 0 Y [.ref 32, .long (lN b)] σ K := by
  refine x_start (by decide) (Nat.le_of_ble_eq_true rfl) ?_
  intro xp xe xs xm xg xb xt xc C xr xk
  refine x_sig (σ' := x_st σ [] [(33, f)] []) (x_st_in trivial (And.intro hf trivial) trivial) ?_
  refine x_lload_n C (i := 1) dX4_divide_0 rfl rfl ?_
  refine x_lconst C (1) dX4_divide_1 rfl ?_
  refine x_topL (y := lN 1) rfl ?_
  refine x_lcmp C dX4_divide_2 ?_
  refine x_jf_ge C 7 dX4_divide_3 (by decide) (fun c3 => ?_) (fun c3 => ?_)
  · skip
    have c3 := (lg_cmp_ge _ _).mp c3
    have c3' := Int64.not_lt.mpr c3
    refine x_lconst C (0) dX4_divide_7 rfl ?_
    refine x_topL (y := lN 0) rfl ?_
    refine x_topL (y := lN (v / 65536 ^ 20 % b)) (by rw [Nat.div_eq_of_lt hv.1, Nat.zero_mod]) ?_
    refine x_lstore_n C (i := 3) dX4_divide_8 rfl (by decide) ?_
    refine x_bipush C (nI 19) dX4_divide_9 rfl ?_
    refine x_topI (y := nI 20 + (-1)) rfl ?_
    refine x_istore C (i := 5) dX4_divide_11 (by decide) ?_
    have lp13 : ∀ (m13 : Nat) (kk : Nat) (g : Nat → Int32), (kk) = m13 → (kk ≤ 20) → (z_pt g kk v (v / b)) → ∀ L : x_Lo, L.1 0 = some (.ref 32) → L.2 1 = some (lN b) → L.2 3 = some (lN (v / 65536 ^ kk % b)) → L.1 5 = some (.int (nI kk + (-1))) → x_W xp l xe (x_rm 0) xs xm xg xb xt xc 6 Y 0 0 (MQ xb (x_Q Y K) xg xs 0 0 (x_A Y)) 13 L [] (x_st σ [] [(33, g)] []) := by
      intro m13
      induction m13 using Nat.strongRecOn with
      | _ m13 ih13 =>
        intro kk g hm13 hk hp L xl0 xl1 xl3 xl5
        refine x_iload C (i := 5) dX4_divide_13 xl5 ?_
        refine x_jf_lt C 53 dX4_divide_15 (by decide) (fun c15 => ?_) (fun c15 => ?_)
        · skip
          have c15' := Int32.not_le.mpr c15
          have hk0 : kk = 0 := by
            rcases kk with _ | k
            · rfl
            · rw [pk_m1] at c15; exact absurd c15 (y_nneg (by omega))
          subst hk0
          refine x_vret C xr xk dX4_divide_53 ?_
          exact hK _ _ ⟨_, ⟨rfl, rfl⟩, z_pt_b hp (Nat.lt_of_le_of_lt (Nat.div_le_self _ _) hv.1)⟩
        · skip
          have c15' := Int32.not_lt.mpr c15
          obtain ⟨k, rfl⟩ : ∃ k, kk = k + 1 := by
            rcases kk with _ | k
            · exact absurd c15 (by decide)
            · exact ⟨k, rfl⟩
          rw [pk_m1] at xl5
          have hB := y_dv_b (v := v) (k := k) hb0 hb
          have hd9 := y_dg_lt v k
          have hdv := y_dv v b k hb0
          have hbne : ¬ lN b = 0 := fun z => by
            have z2 := (pk_lEQ (a := b) (b := 0) (by omega) (by decide)).mp z
            omega
          refine x_lload_n C (i := 3) dX4_divide_18 rfl xl3 ?_
          refine x_bipush C (nI 16) dX4_divide_19 rfl ?_
          refine x_lshl C dX4_divide_21 ?_
          refine x_topL (y := lN ((v / 65536 ^ (k + 1) % b) * 2 ^ 16)) (wb_shl _ (by decide)) ?_
          refine x_aload_n C (i := 0) dX4_divide_22 rfl xl0 ?_
          refine x_getR C fr_32_0 kf_X4_9 dX4_divide_23 ?_
          refine x_iload C (i := 5) dX4_divide_26 xl5 ?_
          refine x_ialdN C (by decide) rfl (by decide) dX4_divide_28 (by omega) ?_
          refine x_topI (y := g k) rfl ?_
          refine x_topI (y := nI (y_dg v k)) (z_pt_lo hp (by omega) (by omega)) ?_
          refine x_i2l C dX4_divide_29 ?_
          refine x_topL (y := lN (y_dg v k)) (nI_l (by omega)) ?_
          refine x_ladd C dX4_divide_30 ?_
          refine x_topL (y := lN (((v / 65536 ^ (k + 1) % b) * 2 ^ 16) + (y_dg v k))) (lN_add _ _) ?_
          refine x_lstore_n C (i := 3) dX4_divide_31 rfl (by decide) ?_
          refine x_aload_n C (i := 0) dX4_divide_32 rfl xl0 ?_
          refine x_getR C fr_32_0 kf_X4_9 dX4_divide_33 ?_
          refine x_iload C (i := 5) dX4_divide_36 xl5 ?_
          refine x_lload_n C (i := 3) dX4_divide_38 rfl rfl ?_
          refine x_lload_n C (i := 1) dX4_divide_39 rfl xl1 ?_
          refine x_ldiv C dX4_divide_40 hbne ?_
          refine x_topL (y := lN ((((v / 65536 ^ (k + 1) % b) * 2 ^ 16) + (y_dg v k)) / b)) (pk_lDiv (Nat.lt_trans hB (by decide)) hb0 (by omega)) ?_
          refine x_l2i C dX4_divide_41 ?_
          refine x_topI (y := nI ((((v / 65536 ^ (k + 1) % b) * 2 ^ 16) + (y_dg v k)) / b)) (lN_i _) ?_
          refine x_topI (y := nI (y_dg (v / b) k)) (by rw [hdv.1]) ?_
          refine x_iastN C (by decide) rfl (by decide) dX4_divide_42 (by omega) ?_
          refine x_sig (σ' := x_st σ [] [(33, upd g k (nI (y_dg (v / b) k)))] []) (x_st_ua rfl) ?_
          refine x_lload_n C (i := 3) dX4_divide_43 rfl rfl ?_
          refine x_lload_n C (i := 1) dX4_divide_44 rfl xl1 ?_
          refine x_lrem C dX4_divide_45 hbne ?_
          refine x_topL (y := lN ((((v / 65536 ^ (k + 1) % b) * 2 ^ 16) + (y_dg v k)) % b)) (pk_lRem (Nat.lt_trans hB (by decide)) hb0 (by omega)) ?_
          refine x_topL (y := lN (v / 65536 ^ k % b)) (by rw [hdv.2]) ?_
          refine x_lstore_n C (i := 3) dX4_divide_46 rfl (by decide) ?_
          refine x_iinc C (i := 5) (-1) dX4_divide_47 xl5 rfl (by decide) ?_
          refine x_goto C 13 dX4_divide_50 (by decide) ?_
          exact ih13 _ (by omega) k (upd g k (nI (y_dg (v / b) k))) rfl (by omega) (z_pt_d hp) _ xl0 xl1 rfl rfl
    exact lp13 _ 20 f rfl (Nat.le_refl _) (z_pt_t _ hv) _ rfl rfl rfl rfl
  · skip
    have c3 := (lg_cmp_lt _ _).mp c3
    have c3' := Int64.not_le.mpr c3
    exact absurd (z_l1 (by omega) hb0) c3'
theorem c_X4_divide_32 (l : Launch) (Y : x_Y) (σ : x_S) (b v : Nat) (f : Nat → Int32) (hf : σ.1 33 = f) (hv : z_is f v) (hb : b < 2 ^ 46) (hb0 : 0 < b) : x_M l yX4_divide cX4_divide 6 none 0 Y [.ref 32, .long (lN b)] σ (fun r τ => ∃ g, (r = none ∧ τ = x_st σ [] [(33, g)] []) ∧ z_is g (v / b)) := c_X4_divide_32_K l Y σ b v f hf hv hb hb0 _ (fun _ _ h => h)
set_option maxRecDepth 100000 in
set_option maxHeartbeats 200000 in
theorem c_X4_divide_34_K (l : Launch) (Y : x_Y) (σ : x_S) (b v : Nat) (f : Nat → Int32) (hf : σ.1 35 = f) (hv : z_is f v) (hb : b < 2 ^ 46) (hb0 : 0 < b) (K : Option Value → x_S → Prop) (hK : ∀ (r : Option Value) (τ : x_S), (∃ g, (r = none ∧ τ = x_st σ [] [(35, g)] []) ∧ z_is g (v / b)) → K r τ) : x_M l yX4_divide cX4_divide 6 none 0 Y [.ref 34, .long (lN b)] σ K := by
  refine x_start (by decide) (Nat.le_of_ble_eq_true rfl) ?_
  intro xp xe xs xm xg xb xt xc C xr xk
  refine x_sig (σ' := x_st σ [] [(35, f)] []) (x_st_in trivial (And.intro hf trivial) trivial) ?_
  refine x_lload_n C (i := 1) dX4_divide_0 rfl rfl ?_
  refine x_lconst C (1) dX4_divide_1 rfl ?_
  refine x_topL (y := lN 1) rfl ?_
  refine x_lcmp C dX4_divide_2 ?_
  refine x_jf_ge C 7 dX4_divide_3 (by decide) (fun c3 => ?_) (fun c3 => ?_)
  · skip
    have c3 := (lg_cmp_ge _ _).mp c3
    have c3' := Int64.not_lt.mpr c3
    refine x_lconst C (0) dX4_divide_7 rfl ?_
    refine x_topL (y := lN 0) rfl ?_
    refine x_topL (y := lN (v / 65536 ^ 20 % b)) (by rw [Nat.div_eq_of_lt hv.1, Nat.zero_mod]) ?_
    refine x_lstore_n C (i := 3) dX4_divide_8 rfl (by decide) ?_
    refine x_bipush C (nI 19) dX4_divide_9 rfl ?_
    refine x_topI (y := nI 20 + (-1)) rfl ?_
    refine x_istore C (i := 5) dX4_divide_11 (by decide) ?_
    have lp13 : ∀ (m13 : Nat) (kk : Nat) (g : Nat → Int32), (kk) = m13 → (kk ≤ 20) → (z_pt g kk v (v / b)) → ∀ L : x_Lo, L.1 0 = some (.ref 34) → L.2 1 = some (lN b) → L.2 3 = some (lN (v / 65536 ^ kk % b)) → L.1 5 = some (.int (nI kk + (-1))) → x_W xp l xe (x_rm 0) xs xm xg xb xt xc 6 Y 0 0 (MQ xb (x_Q Y K) xg xs 0 0 (x_A Y)) 13 L [] (x_st σ [] [(35, g)] []) := by
      intro m13
      induction m13 using Nat.strongRecOn with
      | _ m13 ih13 =>
        intro kk g hm13 hk hp L xl0 xl1 xl3 xl5
        refine x_iload C (i := 5) dX4_divide_13 xl5 ?_
        refine x_jf_lt C 53 dX4_divide_15 (by decide) (fun c15 => ?_) (fun c15 => ?_)
        · skip
          have c15' := Int32.not_le.mpr c15
          have hk0 : kk = 0 := by
            rcases kk with _ | k
            · rfl
            · rw [pk_m1] at c15; exact absurd c15 (y_nneg (by omega))
          subst hk0
          refine x_vret C xr xk dX4_divide_53 ?_
          exact hK _ _ ⟨_, ⟨rfl, rfl⟩, z_pt_b hp (Nat.lt_of_le_of_lt (Nat.div_le_self _ _) hv.1)⟩
        · skip
          have c15' := Int32.not_lt.mpr c15
          obtain ⟨k, rfl⟩ : ∃ k, kk = k + 1 := by
            rcases kk with _ | k
            · exact absurd c15 (by decide)
            · exact ⟨k, rfl⟩
          rw [pk_m1] at xl5
          have hB := y_dv_b (v := v) (k := k) hb0 hb
          have hd9 := y_dg_lt v k
          have hdv := y_dv v b k hb0
          have hbne : ¬ lN b = 0 := fun z => by
            have z2 := (pk_lEQ (a := b) (b := 0) (by omega) (by decide)).mp z
            omega
          refine x_lload_n C (i := 3) dX4_divide_18 rfl xl3 ?_
          refine x_bipush C (nI 16) dX4_divide_19 rfl ?_
          refine x_lshl C dX4_divide_21 ?_
          refine x_topL (y := lN ((v / 65536 ^ (k + 1) % b) * 2 ^ 16)) (wb_shl _ (by decide)) ?_
          refine x_aload_n C (i := 0) dX4_divide_22 rfl xl0 ?_
          refine x_getR C fr_34_0 kf_X4_9 dX4_divide_23 ?_
          refine x_iload C (i := 5) dX4_divide_26 xl5 ?_
          refine x_ialdN C (by decide) rfl (by decide) dX4_divide_28 (by omega) ?_
          refine x_topI (y := g k) rfl ?_
          refine x_topI (y := nI (y_dg v k)) (z_pt_lo hp (by omega) (by omega)) ?_
          refine x_i2l C dX4_divide_29 ?_
          refine x_topL (y := lN (y_dg v k)) (nI_l (by omega)) ?_
          refine x_ladd C dX4_divide_30 ?_
          refine x_topL (y := lN (((v / 65536 ^ (k + 1) % b) * 2 ^ 16) + (y_dg v k))) (lN_add _ _) ?_
          refine x_lstore_n C (i := 3) dX4_divide_31 rfl (by decide) ?_
          refine x_aload_n C (i := 0) dX4_divide_32 rfl xl0 ?_
          refine x_getR C fr_34_0 kf_X4_9 dX4_divide_33 ?_
          refine x_iload C (i := 5) dX4_divide_36 xl5 ?_
          refine x_lload_n C (i := 3) dX4_divide_38 rfl rfl ?_
          refine x_lload_n C (i := 1) dX4_divide_39 rfl xl1 ?_
          refine x_ldiv C dX4_divide_40 hbne ?_
          refine x_topL (y := lN ((((v / 65536 ^ (k + 1) % b) * 2 ^ 16) + (y_dg v k)) / b)) (pk_lDiv (Nat.lt_trans hB (by decide)) hb0 (by omega)) ?_
          refine x_l2i C dX4_divide_41 ?_
          refine x_topI (y := nI ((((v / 65536 ^ (k + 1) % b) * 2 ^ 16) + (y_dg v k)) / b)) (lN_i _) ?_
          refine x_topI (y := nI (y_dg (v / b) k)) (by rw [hdv.1]) ?_
          refine x_iastN C (by decide) rfl (by decide) dX4_divide_42 (by omega) ?_
          refine x_sig (σ' := x_st σ [] [(35, upd g k (nI (y_dg (v / b) k)))] []) (x_st_ua rfl) ?_
          refine x_lload_n C (i := 3) dX4_divide_43 rfl rfl ?_
          refine x_lload_n C (i := 1) dX4_divide_44 rfl xl1 ?_
          refine x_lrem C dX4_divide_45 hbne ?_
          refine x_topL (y := lN ((((v / 65536 ^ (k + 1) % b) * 2 ^ 16) + (y_dg v k)) % b)) (pk_lRem (Nat.lt_trans hB (by decide)) hb0 (by omega)) ?_
          refine x_topL (y := lN (v / 65536 ^ k % b)) (by rw [hdv.2]) ?_
          refine x_lstore_n C (i := 3) dX4_divide_46 rfl (by decide) ?_
          refine x_iinc C (i := 5) (-1) dX4_divide_47 xl5 rfl (by decide) ?_
          refine x_goto C 13 dX4_divide_50 (by decide) ?_
          exact ih13 _ (by omega) k (upd g k (nI (y_dg (v / b) k))) rfl (by omega) (z_pt_d hp) _ xl0 xl1 rfl rfl
    exact lp13 _ 20 f rfl (Nat.le_refl _) (z_pt_t _ hv) _ rfl rfl rfl rfl
  · skip
    have c3 := (lg_cmp_lt _ _).mp c3
    have c3' := Int64.not_le.mpr c3
    exact absurd (z_l1 (by omega) hb0) c3'
theorem c_X4_divide_34 (l : Launch) (Y : x_Y) (σ : x_S) (b v : Nat) (f : Nat → Int32) (hf : σ.1 35 = f) (hv : z_is f v) (hb : b < 2 ^ 46) (hb0 : 0 < b) : x_M l yX4_divide cX4_divide 6 none 0 Y [.ref 34, .long (lN b)] σ (fun r τ => ∃ g, (r = none ∧ τ = x_st σ [] [(35, g)] []) ∧ z_is g (v / b)) := c_X4_divide_34_K l Y σ b v f hf hv hb hb0 _ (fun _ _ h => h)
set_option maxRecDepth 100000 in
set_option maxHeartbeats 200000 in
theorem c_X4_remainder_30_K (l : Launch) (Y : x_Y) (σ : x_S) (b v : Nat) (f : Nat → Int32) (hf : σ.1 31 = f) (hv : z_is f v) (hb : b < 2 ^ 46) (hb0 : 0 < b) (K : Option Value → x_S → Prop) (hK : ∀ (r : Option Value) (τ : x_S), (r = some (.long (lN (v % b))) ∧ τ = σ) → K r τ) : x_M l yX4_remainder cX4_remainder 6 (some .long) 0 Y [.ref 30, .long (lN b)] σ K := by
  refine x_start (by decide) (Nat.le_of_ble_eq_true rfl) ?_
  intro xp xe xs xm xg xb xt xc C xr xk
  refine x_lload_n C (i := 1) dX4_remainder_0 rfl rfl ?_
  refine x_lconst C (1) dX4_remainder_1 rfl ?_
  refine x_topL (y := lN 1) rfl ?_
  refine x_lcmp C dX4_remainder_2 ?_
  refine x_jf_ge C 8 dX4_remainder_3 (by decide) (fun c3 => ?_) (fun c3 => ?_)
  · skip
    have c3 := (lg_cmp_ge _ _).mp c3
    have c3' := Int64.not_lt.mpr c3
    refine x_lconst C (0) dX4_remainder_8 rfl ?_
    refine x_topL (y := lN 0) rfl ?_
    refine x_topL (y := lN (v / 65536 ^ 20 % b)) (by rw [Nat.div_eq_of_lt hv.1, Nat.zero_mod]) ?_
    refine x_lstore_n C (i := 3) dX4_remainder_9 rfl (by decide) ?_
    refine x_bipush C (nI 19) dX4_remainder_10 rfl ?_
    refine x_topI (y := nI 20 + (-1)) rfl ?_
    refine x_istore C (i := 5) dX4_remainder_12 (by decide) ?_
    have lp14 : ∀ (m14 : Nat) (kk : Nat), (kk) = m14 → (kk ≤ 20) → ∀ L : x_Lo, L.1 0 = some (.ref 30) → L.2 1 = some (lN b) → L.2 3 = some (lN (v / 65536 ^ kk % b)) → L.1 5 = some (.int (nI kk + (-1))) → x_W xp l xe (x_rm 0) xs xm xg xb xt xc 6 Y 0 0 (MQ xb (x_Q Y K) xg xs 0 0 (x_A Y)) 14 L [] σ := by
      intro m14
      induction m14 using Nat.strongRecOn with
      | _ m14 ih14 =>
        intro kk hm14 hk L xl0 xl1 xl3 xl5
        refine x_iload C (i := 5) dX4_remainder_14 xl5 ?_
        refine x_jf_lt C 41 dX4_remainder_16 (by decide) (fun c16 => ?_) (fun c16 => ?_)
        · skip
          have c16' := Int32.not_le.mpr c16
          have hk0 : kk = 0 := by
            rcases kk with _ | k
            · rfl
            · rw [pk_m1] at c16; exact absurd c16 (y_nneg (by omega))
          subst hk0
          refine x_lload_n C (i := 3) dX4_remainder_41 rfl xl3 ?_
          refine x_lret C xr xk dX4_remainder_42 ?_
          exact hK _ _ ⟨by rw [Nat.pow_zero, Nat.div_one], rfl⟩
        · skip
          have c16' := Int32.not_lt.mpr c16
          obtain ⟨k, rfl⟩ : ∃ k, kk = k + 1 := by
            rcases kk with _ | k
            · exact absurd c16 (by decide)
            · exact ⟨k, rfl⟩
          rw [pk_m1] at xl5
          have hB := y_dv_b (v := v) (k := k) hb0 hb
          have hd9 := y_dg_lt v k
          have hdv := y_dv v b k hb0
          have hbne : ¬ lN b = 0 := fun z => by
            have z2 := (pk_lEQ (a := b) (b := 0) (by omega) (by decide)).mp z
            omega
          refine x_lload_n C (i := 3) dX4_remainder_19 rfl xl3 ?_
          refine x_bipush C (nI 16) dX4_remainder_20 rfl ?_
          refine x_lshl C dX4_remainder_22 ?_
          refine x_topL (y := lN ((v / 65536 ^ (k + 1) % b) * 2 ^ 16)) (wb_shl _ (by decide)) ?_
          refine x_aload_n C (i := 0) dX4_remainder_23 rfl xl0 ?_
          refine x_getR C fr_30_0 kf_X4_9 dX4_remainder_24 ?_
          refine x_iload C (i := 5) dX4_remainder_27 xl5 ?_
          refine x_ialdN C (by decide) rfl (by decide) dX4_remainder_29 (by omega) ?_
          refine x_topI (y := nI (y_dg v k)) ((congrFun hf _).trans (hv.2 k (by omega))) ?_
          refine x_i2l C dX4_remainder_30 ?_
          refine x_topL (y := lN (y_dg v k)) (nI_l (by omega)) ?_
          refine x_ladd C dX4_remainder_31 ?_
          refine x_topL (y := lN (((v / 65536 ^ (k + 1) % b) * 2 ^ 16) + (y_dg v k))) (lN_add _ _) ?_
          refine x_lload_n C (i := 1) dX4_remainder_32 rfl xl1 ?_
          refine x_lrem C dX4_remainder_33 hbne ?_
          refine x_topL (y := lN ((((v / 65536 ^ (k + 1) % b) * 2 ^ 16) + (y_dg v k)) % b)) (pk_lRem (Nat.lt_trans hB (by decide)) hb0 (by omega)) ?_
          refine x_topL (y := lN (v / 65536 ^ k % b)) (by rw [hdv.2]) ?_
          refine x_lstore_n C (i := 3) dX4_remainder_34 rfl (by decide) ?_
          refine x_iinc C (i := 5) (-1) dX4_remainder_35 xl5 rfl (by decide) ?_
          refine x_goto C 14 dX4_remainder_38 (by decide) ?_
          exact ih14 _ (by omega) k rfl (by omega) _ xl0 xl1 rfl rfl
    exact lp14 _ 20 rfl (Nat.le_refl _) _ rfl rfl rfl rfl
  · skip
    have c3 := (lg_cmp_lt _ _).mp c3
    have c3' := Int64.not_le.mpr c3
    exact absurd (z_l1 (by omega) hb0) c3'
theorem c_X4_remainder_30 (l : Launch) (Y : x_Y) (σ : x_S) (b v : Nat) (f : Nat → Int32) (hf : σ.1 31 = f) (hv : z_is f v) (hb : b < 2 ^ 46) (hb0 : 0 < b) : x_M l yX4_remainder cX4_remainder 6 (some .long) 0 Y [.ref 30, .long (lN b)] σ (fun r τ => r = some (.long (lN (v % b))) ∧ τ = σ) := c_X4_remainder_30_K l Y σ b v f hf hv hb hb0 _ (fun _ _ h => h)
set_option maxRecDepth 100000 in
set_option maxHeartbeats 200000 in
theorem c_X4_remainder_32_K (l : Launch) (Y : x_Y) (σ : x_S) (b v : Nat) (f : Nat → Int32) (hf : σ.1 33 = f) (hv : z_is f v) (hb : b < 2 ^ 46) (hb0 : 0 < b) (K : Option Value → x_S → Prop) (hK : ∀ (r : Option Value) (τ : x_S), (r = some (.long (lN (v % b))) ∧ τ = σ) → K r τ) : x_M l yX4_remainder cX4_remainder 6 (some .long) 0 Y [.ref 32, .long (lN b)] σ K := by
  refine x_start (by decide) (Nat.le_of_ble_eq_true rfl) ?_
  intro xp xe xs xm xg xb xt xc C xr xk
  refine x_lload_n C (i := 1) dX4_remainder_0 rfl rfl ?_
  refine x_lconst C (1) dX4_remainder_1 rfl ?_
  refine x_topL (y := lN 1) rfl ?_
  refine x_lcmp C dX4_remainder_2 ?_
  refine x_jf_ge C 8 dX4_remainder_3 (by decide) (fun c3 => ?_) (fun c3 => ?_)
  · skip
    have c3 := (lg_cmp_ge _ _).mp c3
    have c3' := Int64.not_lt.mpr c3
    refine x_lconst C (0) dX4_remainder_8 rfl ?_
    refine x_topL (y := lN 0) rfl ?_
    refine x_topL (y := lN (v / 65536 ^ 20 % b)) (by rw [Nat.div_eq_of_lt hv.1, Nat.zero_mod]) ?_
    refine x_lstore_n C (i := 3) dX4_remainder_9 rfl (by decide) ?_
    refine x_bipush C (nI 19) dX4_remainder_10 rfl ?_
    refine x_topI (y := nI 20 + (-1)) rfl ?_
    refine x_istore C (i := 5) dX4_remainder_12 (by decide) ?_
    have lp14 : ∀ (m14 : Nat) (kk : Nat), (kk) = m14 → (kk ≤ 20) → ∀ L : x_Lo, L.1 0 = some (.ref 32) → L.2 1 = some (lN b) → L.2 3 = some (lN (v / 65536 ^ kk % b)) → L.1 5 = some (.int (nI kk + (-1))) → x_W xp l xe (x_rm 0) xs xm xg xb xt xc 6 Y 0 0 (MQ xb (x_Q Y K) xg xs 0 0 (x_A Y)) 14 L [] σ := by
      intro m14
      induction m14 using Nat.strongRecOn with
      | _ m14 ih14 =>
        intro kk hm14 hk L xl0 xl1 xl3 xl5
        refine x_iload C (i := 5) dX4_remainder_14 xl5 ?_
        refine x_jf_lt C 41 dX4_remainder_16 (by decide) (fun c16 => ?_) (fun c16 => ?_)
        · skip
          have c16' := Int32.not_le.mpr c16
          have hk0 : kk = 0 := by
            rcases kk with _ | k
            · rfl
            · rw [pk_m1] at c16; exact absurd c16 (y_nneg (by omega))
          subst hk0
          refine x_lload_n C (i := 3) dX4_remainder_41 rfl xl3 ?_
          refine x_lret C xr xk dX4_remainder_42 ?_
          exact hK _ _ ⟨by rw [Nat.pow_zero, Nat.div_one], rfl⟩
        · skip
          have c16' := Int32.not_lt.mpr c16
          obtain ⟨k, rfl⟩ : ∃ k, kk = k + 1 := by
            rcases kk with _ | k
            · exact absurd c16 (by decide)
            · exact ⟨k, rfl⟩
          rw [pk_m1] at xl5
          have hB := y_dv_b (v := v) (k := k) hb0 hb
          have hd9 := y_dg_lt v k
          have hdv := y_dv v b k hb0
          have hbne : ¬ lN b = 0 := fun z => by
            have z2 := (pk_lEQ (a := b) (b := 0) (by omega) (by decide)).mp z
            omega
          refine x_lload_n C (i := 3) dX4_remainder_19 rfl xl3 ?_
          refine x_bipush C (nI 16) dX4_remainder_20 rfl ?_
          refine x_lshl C dX4_remainder_22 ?_
          refine x_topL (y := lN ((v / 65536 ^ (k + 1) % b) * 2 ^ 16)) (wb_shl _ (by decide)) ?_
          refine x_aload_n C (i := 0) dX4_remainder_23 rfl xl0 ?_
          refine x_getR C fr_32_0 kf_X4_9 dX4_remainder_24 ?_
          refine x_iload C (i := 5) dX4_remainder_27 xl5 ?_
          refine x_ialdN C (by decide) rfl (by decide) dX4_remainder_29 (by omega) ?_
          refine x_topI (y := nI (y_dg v k)) ((congrFun hf _).trans (hv.2 k (by omega))) ?_
          refine x_i2l C dX4_remainder_30 ?_
          refine x_topL (y := lN (y_dg v k)) (nI_l (by omega)) ?_
          refine x_ladd C dX4_remainder_31 ?_
          refine x_topL (y := lN (((v / 65536 ^ (k + 1) % b) * 2 ^ 16) + (y_dg v k))) (lN_add _ _) ?_
          refine x_lload_n C (i := 1) dX4_remainder_32 rfl xl1 ?_
          refine x_lrem C dX4_remainder_33 hbne ?_
          refine x_topL (y := lN ((((v / 65536 ^ (k + 1) % b) * 2 ^ 16) + (y_dg v k)) % b)) (pk_lRem (Nat.lt_trans hB (by decide)) hb0 (by omega)) ?_
          refine x_topL (y := lN (v / 65536 ^ k % b)) (by rw [hdv.2]) ?_
          refine x_lstore_n C (i := 3) dX4_remainder_34 rfl (by decide) ?_
          refine x_iinc C (i := 5) (-1) dX4_remainder_35 xl5 rfl (by decide) ?_
          refine x_goto C 14 dX4_remainder_38 (by decide) ?_
          exact ih14 _ (by omega) k rfl (by omega) _ xl0 xl1 rfl rfl
    exact lp14 _ 20 rfl (Nat.le_refl _) _ rfl rfl rfl rfl
  · skip
    have c3 := (lg_cmp_lt _ _).mp c3
    have c3' := Int64.not_le.mpr c3
    exact absurd (z_l1 (by omega) hb0) c3'
theorem c_X4_remainder_32 (l : Launch) (Y : x_Y) (σ : x_S) (b v : Nat) (f : Nat → Int32) (hf : σ.1 33 = f) (hv : z_is f v) (hb : b < 2 ^ 46) (hb0 : 0 < b) : x_M l yX4_remainder cX4_remainder 6 (some .long) 0 Y [.ref 32, .long (lN b)] σ (fun r τ => r = some (.long (lN (v % b))) ∧ τ = σ) := c_X4_remainder_32_K l Y σ b v f hf hv hb hb0 _ (fun _ _ h => h)
set_option maxRecDepth 100000 in
set_option maxHeartbeats 200000 in
theorem c_X4_digitAt_30_K (l : Launch) (Y : x_Y) (σ : x_S) (q : Int32) (v : Nat) (f : Nat → Int32) (hf : σ.1 31 = f) (hv : z_is f v) (K : Option Value → x_S → Prop) (hK : ∀ (r : Option Value) (τ : x_S), ((∃ j, j < 10 ∧ q = nI j ∧ r = some (.int (nI (y_d32 v j))) ∧ τ = σ) ∨ (¬ x_rng q 10 ∧ r = some (.int (nI 0)) ∧ τ = σ)) → K r τ) : x_M l yX4_digitAt cX4_digitAt 2 (some .int) 0 Y [.ref 30, .int q] σ K := by
  refine x_start (by decide) (Nat.le_of_ble_eq_true rfl) ?_
  intro xp xe xs xm xg xb xt xc C xr xk
  refine x_iload_n C (i := 1) dX4_digitAt_0 rfl rfl ?_
  refine x_jf_lt C 10 dX4_digitAt_1 (by decide) (fun c1 => ?_) (fun c1 => ?_)
  · skip
    have c1' := Int32.not_le.mpr c1
    have hz : ¬ x_rng q 10 := z_rngn1 (by decide) c1
    refine x_iconst C (nI 0) dX4_digitAt_10 rfl ?_
    refine x_iret C xr xk dX4_digitAt_11 ?_
    exact hK _ _ (Or.inr ⟨hz, rfl, rfl⟩)
  · skip
    have c1' := Int32.not_lt.mpr c1
    refine x_iload_n C (i := 1) dX4_digitAt_4 rfl rfl ?_
    refine x_bipush C (nI 10) dX4_digitAt_5 rfl ?_
    refine x_jcmp_lt C 12 dX4_digitAt_7 (by decide) (fun c7 => ?_) (fun c7 => ?_)
    · skip
      have c7' := Int32.not_le.mpr c7
      obtain ⟨j, hj, rfl⟩ := z_rng (by decide) c1' c7
      refine x_aload_n C (i := 0) dX4_digitAt_12 rfl rfl ?_
      refine x_getR C fr_30_0 kf_X4_9 dX4_digitAt_13 ?_
      refine x_iconst C (nI 2) dX4_digitAt_16 rfl ?_
      refine x_iload_n C (i := 1) dX4_digitAt_17 rfl rfl ?_
      refine x_imulN C dX4_digitAt_18 ?_
      refine x_iconst C (nI 1) dX4_digitAt_19 rfl ?_
      refine x_iaddN C dX4_digitAt_20 ?_
      refine x_ialdN C (by decide) rfl (by decide) dX4_digitAt_21 (by omega) ?_
      refine x_topI (y := nI (y_dg v (2 * j + 1))) ((congrFun hf _).trans (hv.2 (2 * j + 1) (by omega))) ?_
      refine x_bipush C (nI 16) dX4_digitAt_22 rfl ?_
      refine x_ishl C dX4_digitAt_24 ?_
      refine x_aload_n C (i := 0) dX4_digitAt_25 rfl rfl ?_
      refine x_getR C fr_30_0 kf_X4_9 dX4_digitAt_26 ?_
      refine x_iconst C (nI 2) dX4_digitAt_29 rfl ?_
      refine x_iload_n C (i := 1) dX4_digitAt_30 rfl rfl ?_
      refine x_imulN C dX4_digitAt_31 ?_
      refine x_ialdN C (by decide) rfl (by decide) dX4_digitAt_32 (by omega) ?_
      refine x_topI (y := nI (y_dg v (2 * j))) ((congrFun hf _).trans (hv.2 (2 * j) (by omega))) ?_
      refine x_iadd C dX4_digitAt_33 ?_
      refine x_topI (y := nI (y_d32 v j)) (by rw [y_d32_dg]; exact z_d32_o (y_dg_lt _ _) (y_dg_lt _ _)) ?_
      refine x_iret C xr xk dX4_digitAt_34 ?_
      exact hK _ _ (Or.inl ⟨j, hj, rfl, rfl, rfl⟩)
    · skip
      have c7' := Int32.not_lt.mpr c7
      have hz : ¬ x_rng q 10 := z_rngn2 (by decide) c7
      refine x_iconst C (nI 0) dX4_digitAt_10 rfl ?_
      refine x_iret C xr xk dX4_digitAt_11 ?_
      exact hK _ _ (Or.inr ⟨hz, rfl, rfl⟩)
theorem c_X4_digitAt_30 (l : Launch) (Y : x_Y) (σ : x_S) (q : Int32) (v : Nat) (f : Nat → Int32) (hf : σ.1 31 = f) (hv : z_is f v) : x_M l yX4_digitAt cX4_digitAt 2 (some .int) 0 Y [.ref 30, .int q] σ (fun r τ => (∃ j, j < 10 ∧ q = nI j ∧ r = some (.int (nI (y_d32 v j))) ∧ τ = σ) ∨ (¬ x_rng q 10 ∧ r = some (.int (nI 0)) ∧ τ = σ)) := c_X4_digitAt_30_K l Y σ q v f hf hv _ (fun _ _ h => h)
set_option maxRecDepth 100000 in
set_option maxHeartbeats 200000 in
theorem c_X4_countDigits_30_K (l : Launch) (Y : x_Y) (σ : x_S) (v : Nat) (f : Nat → Int32) (hf : σ.1 31 = f) (hv : z_is f v) (K : Option Value → x_S → Prop) (hK : ∀ (r : Option Value) (τ : x_S), (∃ n, (r = some (.int (nI n)) ∧ τ = σ) ∧ y_nd v n) → K r τ) : x_M l yX4_countDigits cX4_countDigits 2 (some .int) 1 Y [.ref 30] σ K := by
  refine x_start (by decide) (Nat.le_of_ble_eq_true rfl) ?_
  intro xp xe xs xm xg xb xt xc C xr xk
  refine x_bipush C (nI 10) dX4_countDigits_0 rfl ?_
  refine x_istore_n C (i := 1) dX4_countDigits_2 rfl (by decide) ?_
  have lp3 : ∀ (m3 : Nat) (i : Nat), (i) = m3 → (i ≤ 10) → (v < 4294967296 ^ i) → ∀ L : x_Lo, L.1 0 = some (.ref 30) → L.1 1 = some (.int (nI i)) → x_W xp l xe (x_rm 1) xs xm xg xb xt xc 2 Y 0 0 (MQ xb (x_Q Y K) xg xs 0 0 (x_A Y)) 3 L [] σ := by
    intro m3
    induction m3 using Nat.strongRecOn with
    | _ m3 ih3 =>
      intro i hm3 hi hl L xl0 xl1
      refine x_iload_n C (i := 1) dX4_countDigits_3 rfl xl1 ?_
      refine x_if_leN C 25 dX4_countDigits_4 (by decide) (by omega) (fun c4 => ?_) (fun c4 => ?_)
      · skip
        obtain rfl : i = 0 := by omega
        refine x_iconst C (nI 0) dX4_countDigits_25 rfl ?_
        refine x_iret C xr xk dX4_countDigits_26 ?_
        exact hK _ _ ⟨0, ⟨rfl, rfl⟩, hl, Or.inl rfl⟩
      · skip
        refine x_aload_n C (i := 0) dX4_countDigits_7 rfl xl0 ?_
        refine x_iload_n C (i := 1) dX4_countDigits_8 rfl xl1 ?_
        refine x_iconst C (nI 1) dX4_countDigits_9 rfl ?_
        refine x_isubN C dX4_countDigits_10 (by omega) ?_
        have hM := c_X4_digitAt_30 l Y σ (nI (i - 1)) v f hf hv
        refine x_callV C (as := [.int (nI (i - 1))]) (st := []) (hM) kb_X4_digitAt kv_X4_22 dX4_countDigits_11 rfl rfl (Nat.le_of_ble_eq_true rfl) ⟨by decide, by decide⟩ ⟨by decide, by decide⟩ ko_30 ?_
        clear hM
        intro r9 τ9 h9
        have h8 : r9 = some (.int (nI (y_d32 v (i - 1)))) ∧ τ9 = σ := by
          rcases h9 with ⟨j, hj, e1, e2, e3⟩ | ⟨e1, -, -⟩
          · have e4 := (nI_eq (by omega) (by omega)).mp e1
            rw [e4]
            exact ⟨e2, e3⟩
          · exact absurd ⟨i - 1, by omega, rfl⟩ e1
        clear h9
        obtain ⟨rfl, h7⟩ := h8
        rw [h7]
        clear h7 τ9
        refine x_if_eq C 19 dX4_countDigits_14 (by decide) (fun c14 => ?_) (fun c14 => ?_)
        · skip
          refine x_idecN C (i := 1) (a := (i - 1)) dX4_countDigits_19 (by rw [show (i - 1) + 1 = i by omega]; exact xl1) (by decide) ?_
          refine x_goto C 3 dX4_countDigits_22 (by decide) ?_
          exact ih3 _ (by omega) (i - 1) rfl (by omega) (z_nd_d (by rw [show i - 1 + 1 = i by omega]; exact hl) (z_d32_n0.mp c14)) _ xl0 rfl
        · skip
          refine x_iload_n C (i := 1) dX4_countDigits_17 rfl xl1 ?_
          refine x_iret C xr xk dX4_countDigits_18 ?_
          exact hK _ _ ⟨_, ⟨rfl, rfl⟩, by
            have h9 := z_nd_i (k := i - 1) (by rw [show i - 1 + 1 = i by omega]; exact hl) (fun z => c14 (z_d32_n0.mpr z))
            rw [show i - 1 + 1 = i by omega] at h9
            exact h9⟩
  exact lp3 _ 10 rfl (Nat.le_refl _) (by rw [y_pq]; exact hv.1) _ rfl rfl
theorem c_X4_countDigits_30 (l : Launch) (Y : x_Y) (σ : x_S) (v : Nat) (f : Nat → Int32) (hf : σ.1 31 = f) (hv : z_is f v) : x_M l yX4_countDigits cX4_countDigits 2 (some .int) 1 Y [.ref 30] σ (fun r τ => ∃ n, (r = some (.int (nI n)) ∧ τ = σ) ∧ y_nd v n) := c_X4_countDigits_30_K l Y σ v f hf hv _ (fun _ _ h => h)
set_option maxRecDepth 100000 in
set_option maxHeartbeats 200000 in
theorem c_X4_digitAt_32_K (l : Launch) (Y : x_Y) (σ : x_S) (q : Int32) (v : Nat) (f : Nat → Int32) (hf : σ.1 33 = f) (hv : z_is f v) (K : Option Value → x_S → Prop) (hK : ∀ (r : Option Value) (τ : x_S), ((∃ j, j < 10 ∧ q = nI j ∧ r = some (.int (nI (y_d32 v j))) ∧ τ = σ) ∨ (¬ x_rng q 10 ∧ r = some (.int (nI 0)) ∧ τ = σ)) → K r τ) : x_M l yX4_digitAt cX4_digitAt 2 (some .int) 0 Y [.ref 32, .int q] σ K := by
  refine x_start (by decide) (Nat.le_of_ble_eq_true rfl) ?_
  intro xp xe xs xm xg xb xt xc C xr xk
  refine x_iload_n C (i := 1) dX4_digitAt_0 rfl rfl ?_
  refine x_jf_lt C 10 dX4_digitAt_1 (by decide) (fun c1 => ?_) (fun c1 => ?_)
  · skip
    have c1' := Int32.not_le.mpr c1
    have hz : ¬ x_rng q 10 := z_rngn1 (by decide) c1
    refine x_iconst C (nI 0) dX4_digitAt_10 rfl ?_
    refine x_iret C xr xk dX4_digitAt_11 ?_
    exact hK _ _ (Or.inr ⟨hz, rfl, rfl⟩)
  · skip
    have c1' := Int32.not_lt.mpr c1
    refine x_iload_n C (i := 1) dX4_digitAt_4 rfl rfl ?_
    refine x_bipush C (nI 10) dX4_digitAt_5 rfl ?_
    refine x_jcmp_lt C 12 dX4_digitAt_7 (by decide) (fun c7 => ?_) (fun c7 => ?_)
    · skip
      have c7' := Int32.not_le.mpr c7
      obtain ⟨j, hj, rfl⟩ := z_rng (by decide) c1' c7
      refine x_aload_n C (i := 0) dX4_digitAt_12 rfl rfl ?_
      refine x_getR C fr_32_0 kf_X4_9 dX4_digitAt_13 ?_
      refine x_iconst C (nI 2) dX4_digitAt_16 rfl ?_
      refine x_iload_n C (i := 1) dX4_digitAt_17 rfl rfl ?_
      refine x_imulN C dX4_digitAt_18 ?_
      refine x_iconst C (nI 1) dX4_digitAt_19 rfl ?_
      refine x_iaddN C dX4_digitAt_20 ?_
      refine x_ialdN C (by decide) rfl (by decide) dX4_digitAt_21 (by omega) ?_
      refine x_topI (y := nI (y_dg v (2 * j + 1))) ((congrFun hf _).trans (hv.2 (2 * j + 1) (by omega))) ?_
      refine x_bipush C (nI 16) dX4_digitAt_22 rfl ?_
      refine x_ishl C dX4_digitAt_24 ?_
      refine x_aload_n C (i := 0) dX4_digitAt_25 rfl rfl ?_
      refine x_getR C fr_32_0 kf_X4_9 dX4_digitAt_26 ?_
      refine x_iconst C (nI 2) dX4_digitAt_29 rfl ?_
      refine x_iload_n C (i := 1) dX4_digitAt_30 rfl rfl ?_
      refine x_imulN C dX4_digitAt_31 ?_
      refine x_ialdN C (by decide) rfl (by decide) dX4_digitAt_32 (by omega) ?_
      refine x_topI (y := nI (y_dg v (2 * j))) ((congrFun hf _).trans (hv.2 (2 * j) (by omega))) ?_
      refine x_iadd C dX4_digitAt_33 ?_
      refine x_topI (y := nI (y_d32 v j)) (by rw [y_d32_dg]; exact z_d32_o (y_dg_lt _ _) (y_dg_lt _ _)) ?_
      refine x_iret C xr xk dX4_digitAt_34 ?_
      exact hK _ _ (Or.inl ⟨j, hj, rfl, rfl, rfl⟩)
    · skip
      have c7' := Int32.not_lt.mpr c7
      have hz : ¬ x_rng q 10 := z_rngn2 (by decide) c7
      refine x_iconst C (nI 0) dX4_digitAt_10 rfl ?_
      refine x_iret C xr xk dX4_digitAt_11 ?_
      exact hK _ _ (Or.inr ⟨hz, rfl, rfl⟩)
theorem c_X4_digitAt_32 (l : Launch) (Y : x_Y) (σ : x_S) (q : Int32) (v : Nat) (f : Nat → Int32) (hf : σ.1 33 = f) (hv : z_is f v) : x_M l yX4_digitAt cX4_digitAt 2 (some .int) 0 Y [.ref 32, .int q] σ (fun r τ => (∃ j, j < 10 ∧ q = nI j ∧ r = some (.int (nI (y_d32 v j))) ∧ τ = σ) ∨ (¬ x_rng q 10 ∧ r = some (.int (nI 0)) ∧ τ = σ)) := c_X4_digitAt_32_K l Y σ q v f hf hv _ (fun _ _ h => h)
set_option maxRecDepth 100000 in
set_option maxHeartbeats 200000 in
theorem c_X4_countDigits_32_K (l : Launch) (Y : x_Y) (σ : x_S) (v : Nat) (f : Nat → Int32) (hf : σ.1 33 = f) (hv : z_is f v) (K : Option Value → x_S → Prop) (hK : ∀ (r : Option Value) (τ : x_S), (∃ n, (r = some (.int (nI n)) ∧ τ = σ) ∧ y_nd v n) → K r τ) : x_M l yX4_countDigits cX4_countDigits 2 (some .int) 1 Y [.ref 32] σ K := by
  refine x_start (by decide) (Nat.le_of_ble_eq_true rfl) ?_
  intro xp xe xs xm xg xb xt xc C xr xk
  refine x_bipush C (nI 10) dX4_countDigits_0 rfl ?_
  refine x_istore_n C (i := 1) dX4_countDigits_2 rfl (by decide) ?_
  have lp3 : ∀ (m3 : Nat) (i : Nat), (i) = m3 → (i ≤ 10) → (v < 4294967296 ^ i) → ∀ L : x_Lo, L.1 0 = some (.ref 32) → L.1 1 = some (.int (nI i)) → x_W xp l xe (x_rm 1) xs xm xg xb xt xc 2 Y 0 0 (MQ xb (x_Q Y K) xg xs 0 0 (x_A Y)) 3 L [] σ := by
    intro m3
    induction m3 using Nat.strongRecOn with
    | _ m3 ih3 =>
      intro i hm3 hi hl L xl0 xl1
      refine x_iload_n C (i := 1) dX4_countDigits_3 rfl xl1 ?_
      refine x_if_leN C 25 dX4_countDigits_4 (by decide) (by omega) (fun c4 => ?_) (fun c4 => ?_)
      · skip
        obtain rfl : i = 0 := by omega
        refine x_iconst C (nI 0) dX4_countDigits_25 rfl ?_
        refine x_iret C xr xk dX4_countDigits_26 ?_
        exact hK _ _ ⟨0, ⟨rfl, rfl⟩, hl, Or.inl rfl⟩
      · skip
        refine x_aload_n C (i := 0) dX4_countDigits_7 rfl xl0 ?_
        refine x_iload_n C (i := 1) dX4_countDigits_8 rfl xl1 ?_
        refine x_iconst C (nI 1) dX4_countDigits_9 rfl ?_
        refine x_isubN C dX4_countDigits_10 (by omega) ?_
        have hM := c_X4_digitAt_32 l Y σ (nI (i - 1)) v f hf hv
        refine x_callV C (as := [.int (nI (i - 1))]) (st := []) (hM) kb_X4_digitAt kv_X4_22 dX4_countDigits_11 rfl rfl (Nat.le_of_ble_eq_true rfl) ⟨by decide, by decide⟩ ⟨by decide, by decide⟩ ko_32 ?_
        clear hM
        intro r9 τ9 h9
        have h8 : r9 = some (.int (nI (y_d32 v (i - 1)))) ∧ τ9 = σ := by
          rcases h9 with ⟨j, hj, e1, e2, e3⟩ | ⟨e1, -, -⟩
          · have e4 := (nI_eq (by omega) (by omega)).mp e1
            rw [e4]
            exact ⟨e2, e3⟩
          · exact absurd ⟨i - 1, by omega, rfl⟩ e1
        clear h9
        obtain ⟨rfl, h7⟩ := h8
        rw [h7]
        clear h7 τ9
        refine x_if_eq C 19 dX4_countDigits_14 (by decide) (fun c14 => ?_) (fun c14 => ?_)
        · skip
          refine x_idecN C (i := 1) (a := (i - 1)) dX4_countDigits_19 (by rw [show (i - 1) + 1 = i by omega]; exact xl1) (by decide) ?_
          refine x_goto C 3 dX4_countDigits_22 (by decide) ?_
          exact ih3 _ (by omega) (i - 1) rfl (by omega) (z_nd_d (by rw [show i - 1 + 1 = i by omega]; exact hl) (z_d32_n0.mp c14)) _ xl0 rfl
        · skip
          refine x_iload_n C (i := 1) dX4_countDigits_17 rfl xl1 ?_
          refine x_iret C xr xk dX4_countDigits_18 ?_
          exact hK _ _ ⟨_, ⟨rfl, rfl⟩, by
            have h9 := z_nd_i (k := i - 1) (by rw [show i - 1 + 1 = i by omega]; exact hl) (fun z => c14 (z_d32_n0.mpr z))
            rw [show i - 1 + 1 = i by omega] at h9
            exact h9⟩
  exact lp3 _ 10 rfl (Nat.le_refl _) (by rw [y_pq]; exact hv.1) _ rfl rfl
theorem c_X4_countDigits_32 (l : Launch) (Y : x_Y) (σ : x_S) (v : Nat) (f : Nat → Int32) (hf : σ.1 33 = f) (hv : z_is f v) : x_M l yX4_countDigits cX4_countDigits 2 (some .int) 1 Y [.ref 32] σ (fun r τ => ∃ n, (r = some (.int (nI n)) ∧ τ = σ) ∧ y_nd v n) := c_X4_countDigits_32_K l Y σ v f hf hv _ (fun _ _ h => h)
set_option maxRecDepth 100000 in
set_option maxHeartbeats 200000 in
theorem c_X11_commonDivisor_K (l : Launch) (Y : x_Y) (σ : x_S) (a b : Nat) (ha9 : a < 2 ^ 63) (hb9 : b < 2 ^ 63) (hb0 : 0 < b) (K : Option Value → x_S → Prop) (hK : ∀ (r : Option Value) (τ : x_S), (r = some (.long (lN (Nat.gcd a b))) ∧ τ = σ) → K r τ) : x_M l yX11_commonDivisor cX11_commonDivisor 11 (some .long) 0 Y [.long (lN a), .long (lN b)] σ K := by
  refine x_start (by decide) (Nat.le_of_ble_eq_true rfl) ?_
  intro xp xe xs xm xg xb xt xc C xr xk
  refine x_lload_n C (i := 0) dX11_commonDivisor_0 rfl rfl ?_
  refine x_lstore C (i := 4) dX11_commonDivisor_1 (by decide) ?_
  refine x_lload_n C (i := 2) dX11_commonDivisor_3 rfl rfl ?_
  refine x_lstore C (i := 6) dX11_commonDivisor_4 (by decide) ?_
  refine x_iconst C (nI 0) dX11_commonDivisor_6 rfl ?_
  refine x_istore C (i := 8) dX11_commonDivisor_7 (by decide) ?_
  have lp9 : ∀ (m9 : Nat) (u : Nat) (w : Nat) (s : Nat), (128 - s) = m9 → (u < 2 ^ 63) → (w < 2 ^ 63) → (s ≤ 128) → (s = 0 ∨ (w < u ∧ u * w < 2 ^ (127 - s))) → (Nat.gcd u w = Nat.gcd a b) → ∀ L : x_Lo, L.2 4 = some (lN u) → L.2 6 = some (lN w) → L.1 8 = some (.int (nI s)) → x_W xp l xe (x_rm 0) xs xm xg xb xt xc 11 Y 0 0 (MQ xb (x_Q Y K) xg xs 0 0 (x_A Y)) 9 L [] σ := by
    intro m9
    induction m9 using Nat.strongRecOn with
    | _ m9 ih9 =>
      intro u w s hm9 hu hw hs hh hg L xl4 xl6 xl8
      have lp45 : (w = 0) → ∀ L : x_Lo, L.2 4 = some (lN u) → x_W xp l xe (x_rm 0) xs xm xg xb xt xc 11 Y 0 0 (MQ xb (x_Q Y K) xg xs 0 0 (x_A Y)) 45 L [] σ := by
        intro  hw00 L xl4
        have hE : u = Nat.gcd a b := by rw [← hg, hw00, Nat.gcd_zero_right]
        have hgp : 0 < Nat.gcd a b := Nat.gcd_pos_of_pos_right a hb0
        refine x_lload C (i := 4) dX11_commonDivisor_45 xl4 ?_
        refine x_lconst C (1) dX11_commonDivisor_47 rfl ?_
        refine x_topL (y := lN 1) rfl ?_
        refine x_lcmp C dX11_commonDivisor_48 ?_
        refine x_jf_ge C 56 dX11_commonDivisor_49 (by decide) (fun c49 => ?_) (fun c49 => ?_)
        · skip
          have c49 := (lg_cmp_ge _ _).mp c49
          have c49' := Int64.not_lt.mpr c49
          refine x_lload C (i := 4) dX11_commonDivisor_56 xl4 ?_
          refine x_lret C xr xk dX11_commonDivisor_58 ?_
          exact hK _ _ ⟨by rw [hE], rfl⟩
        · skip
          have c49 := (lg_cmp_lt _ _).mp c49
          have c49' := Int64.not_le.mpr c49
          exact absurd (z_l1 hu (by omega)) c49'
      refine x_iload C (i := 8) dX11_commonDivisor_9 xl8 ?_
      refine x_sipush C (nI 128) dX11_commonDivisor_11 rfl ?_
      refine x_icmp_geN C 45 dX11_commonDivisor_14 (by decide) (by omega) (by omega) (fun c14 => ?_) (fun c14 => ?_)
      · skip
        have c14' := Nat.not_lt.mpr c14
        exact lp45 (z_eu0 hh (by omega)) _ xl4
      · skip
        have c14' := Nat.not_le.mpr c14
        refine x_lload C (i := 6) dX11_commonDivisor_17 xl6 ?_
        refine x_lconst C (0) dX11_commonDivisor_19 rfl ?_
        refine x_topL (y := lN 0) rfl ?_
        refine x_lcmp C dX11_commonDivisor_20 ?_
        refine x_jf_le C 45 dX11_commonDivisor_21 (by decide) (fun c21 => ?_) (fun c21 => ?_)
        · skip
          have c21 := (lg_cmp_le _ _).mp c21
          have c21' := Int64.not_lt.mpr c21
          exact lp45 (z_l0 hw c21) _ xl4
        · skip
          have c21 := (lg_cmp_gt _ _).mp c21
          have c21' := Int64.not_le.mpr c21
          have hw0 : 0 < w := z_l0p hw c21
          have hwne : ¬ lN w = 0 := fun z => by
            have z2 := (pk_lEQ (a := w) (b := 0) hw (by decide)).mp z
            omega
          refine x_lload C (i := 4) dX11_commonDivisor_24 xl4 ?_
          refine x_lload C (i := 6) dX11_commonDivisor_26 xl6 ?_
          refine x_lrem C dX11_commonDivisor_28 hwne ?_
          refine x_topL (y := lN (u % w)) (pk_lRem hu hw0 hw) ?_
          refine x_lstore C (i := 9) dX11_commonDivisor_29 (by decide) ?_
          refine x_lload C (i := 6) dX11_commonDivisor_31 xl6 ?_
          refine x_lstore C (i := 4) dX11_commonDivisor_33 (by decide) ?_
          refine x_lload C (i := 9) dX11_commonDivisor_35 rfl ?_
          refine x_lstore C (i := 6) dX11_commonDivisor_37 (by decide) ?_
          refine x_iincN C (i := 8) (b := 1) dX11_commonDivisor_39 xl8 rfl (by decide) ?_
          refine x_goto C 9 dX11_commonDivisor_42 (by decide) ?_
          exact ih9 _ (by omega) w (u % w) (s + 1) rfl hw (Nat.lt_trans (Nat.mod_lt u hw0) hw) (by omega) (Or.inr (z_eu hw0 hh hw (by omega))) (by rw [← hg, Nat.gcd_comm u w, Nat.gcd_rec w u, Nat.gcd_comm]) _ rfl rfl rfl
  exact lp9 _ a b 0 rfl ha9 hb9 (by decide) (Or.inl rfl) rfl _ rfl rfl rfl
theorem c_X11_commonDivisor (l : Launch) (Y : x_Y) (σ : x_S) (a b : Nat) (ha9 : a < 2 ^ 63) (hb9 : b < 2 ^ 63) (hb0 : 0 < b) : x_M l yX11_commonDivisor cX11_commonDivisor 11 (some .long) 0 Y [.long (lN a), .long (lN b)] σ (fun r τ => r = some (.long (lN (Nat.gcd a b))) ∧ τ = σ) := c_X11_commonDivisor_K l Y σ a b ha9 hb9 hb0 _ (fun _ _ h => h)
