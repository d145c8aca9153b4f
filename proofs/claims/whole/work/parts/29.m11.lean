set_option maxRecDepth 100000 in
set_option maxHeartbeats 200000 in
theorem c_X12_op_K (l : Launch) (Y : x_Y) (σ : x_S) (i k : Int32) (n : Nat) (hn : σ.1 38 4 = nI n) (hn9 : n ≤ 192) (K : Option Value → x_S → Prop) (hK : ∀ (r : Option Value) (τ : x_S), ((∃ iq kq, iq < n ∧ kq < 12 ∧ i = nI iq ∧ k = nI kq ∧ r = some (.int (if kq < 9 then σ.1 40 (9 * iq + kq) else σ.1 41 (3 * iq + (kq - 9)))) ∧ τ = x_u σ 38 0 (nI 0)) ∨ (¬ (x_rng i n ∧ x_rng k 12) ∧ r = some (.int (nI 0)) ∧ τ = x_u σ 38 0 (nI 1))) → K r τ) : x_M l yX12_op cX12_op 3 (some .int) 1 Y [.ref 38, .int i, .int k] σ K := by
  refine x_start (by decide) (Nat.le_of_ble_eq_true rfl) ?_
  intro xp xe xs xm xg xb xt xc C xr xk
  refine x_aload_n C (i := 0) dX12_op_0 rfl rfl ?_
  refine x_iload_n C (i := 1) dX12_op_1 rfl rfl ?_
  refine x_iconst C (nI 0) dX12_op_2 rfl ?_
  refine x_aload_n C (i := 0) dX12_op_3 rfl rfl ?_
  refine x_getI C fi_38_4 kf_X12_183 dX12_op_4 ?_
  refine x_topI (y := nI n) hn ?_
  refine x_iconst C (nI 1) dX12_op_7 rfl ?_
  refine x_isub C dX12_op_8 ?_
  have hM := c_X12_in l Y σ i (nI 0) ((nI n) - (nI 1))
  refine x_callS C (as := [.int i, .int (nI 0), .int ((nI n) - (nI 1))]) (st := [.ref 38]) (hM) kb_X12_in ks_X12_96 dX12_op_9 rfl rfl (Nat.le_of_ble_eq_true rfl) ⟨by decide, by decide⟩ ⟨by decide, by decide⟩ ?_
  clear hM
  intro r9 τ9 h9
  obtain ⟨rfl, h8⟩ := h9
  rw [h8]
  clear h8 τ9
  refine x_if_eqZ C 29 dX12_op_12 (by decide) (fun c12 => ?_) (fun c12 => ?_)
  · skip
    have hz : ¬ (x_rng i n ∧ x_rng k 12) := fun z => x_rng_not (by omega) c12 z.1
    refine x_iconst C (nI 0) dX12_op_29 rfl ?_
    have hM := c_X12_goes l Y σ false
    refine x_callV C (as := [.int (x_z false)]) (st := []) (hM) kb_X12_goes kv_X12_92 dX12_op_30 rfl rfl (Nat.le_of_ble_eq_true rfl) ⟨by decide, by decide⟩ ⟨by decide, by decide⟩ ko_38 ?_
    clear hM
    rintro _ _ ⟨rfl, rfl⟩
    refine x_if_neZ C 38 dX12_op_33 (by decide) (fun c33 => absurd c33 (by decide)) (fun c33 => ?_)
    refine x_iconst C (nI 0) dX12_op_36 rfl ?_
    refine x_iret C xr xk dX12_op_37 ?_
    exact hK _ _ (Or.inr ⟨hz, rfl, rfl⟩)
  · skip
    have hz1 := (x_rng_iff (by omega)).mp c12
    refine x_iload_n C (i := 2) dX12_op_15 rfl rfl ?_
    refine x_iconst C (nI 0) dX12_op_16 rfl ?_
    refine x_bipush C (nI 11) dX12_op_17 rfl ?_
    have hM := c_X12_in l Y σ k (nI 0) (nI 11)
    refine x_callS C (as := [.int k, .int (nI 0), .int (nI 11)]) (st := [.ref 38]) (hM) kb_X12_in ks_X12_96 dX12_op_19 rfl rfl (Nat.le_of_ble_eq_true rfl) ⟨by decide, by decide⟩ ⟨by decide, by decide⟩ ?_
    clear hM
    intro r9 τ9 h9
    obtain ⟨rfl, h8⟩ := h9
    rw [h8]
    clear h8 τ9
    refine x_if_eqZ C 29 dX12_op_22 (by decide) (fun c22 => ?_) (fun c22 => ?_)
    · skip
      have hz : ¬ (x_rng i n ∧ x_rng k 12) := fun z => x_rng_not2 (by decide) c22 z.2
      refine x_iconst C (nI 0) dX12_op_29 rfl ?_
      have hM := c_X12_goes l Y σ false
      refine x_callV C (as := [.int (x_z false)]) (st := []) (hM) kb_X12_goes kv_X12_92 dX12_op_30 rfl rfl (Nat.le_of_ble_eq_true rfl) ⟨by decide, by decide⟩ ⟨by decide, by decide⟩ ko_38 ?_
      clear hM
      rintro _ _ ⟨rfl, rfl⟩
      refine x_if_neZ C 38 dX12_op_33 (by decide) (fun c33 => absurd c33 (by decide)) (fun c33 => ?_)
      refine x_iconst C (nI 0) dX12_op_36 rfl ?_
      refine x_iret C xr xk dX12_op_37 ?_
      exact hK _ _ (Or.inr ⟨hz, rfl, rfl⟩)
    · skip
      have hz2 := (x_rng_iff2 (by decide)).mp c22
      refine x_iconst C (nI 1) dX12_op_25 rfl ?_
      refine x_goto C 30 dX12_op_26 (by decide) ?_
      have hM := c_X12_goes l Y σ true
      refine x_callV C (as := [.int (x_z true)]) (st := []) (hM) kb_X12_goes kv_X12_92 dX12_op_30 rfl rfl (Nat.le_of_ble_eq_true rfl) ⟨by decide, by decide⟩ ⟨by decide, by decide⟩ ko_38 ?_
      clear hM
      rintro _ _ ⟨rfl, rfl⟩
      refine x_if_neZ C 38 dX12_op_33 (by decide) (fun c33 => ?_) (fun c33 => absurd c33 (by decide))
      obtain ⟨iq, hi1, rfl⟩ := hz1
      obtain ⟨kq, hk1, rfl⟩ := hz2
      refine x_iload_n C (i := 2) dX12_op_38 rfl rfl ?_
      refine x_bipush C (nI 9) dX12_op_39 rfl ?_
      refine x_icmp_geN C 58 dX12_op_41 (by decide) (by omega) (by omega) (fun c41 => ?_) (fun c41 => ?_)
      · skip
        have c41' := Nat.not_lt.mpr c41
        refine x_aload_n C (i := 0) dX12_op_58 rfl rfl ?_
        refine x_getR C fr_38_6 kf_X12_17 dX12_op_59 ?_
        refine x_iconst C (nI 3) dX12_op_62 rfl ?_
        refine x_iload_n C (i := 1) dX12_op_63 rfl rfl ?_
        refine x_imulN C dX12_op_64 ?_
        refine x_iload_n C (i := 2) dX12_op_65 rfl rfl ?_
        refine x_iaddN C dX12_op_66 ?_
        refine x_bipush C (nI 9) dX12_op_67 rfl ?_
        refine x_isubN C dX12_op_69 (by omega) ?_
        refine x_ialdN C (by decide) rfl (by decide) dX12_op_70 (by omega) ?_
        refine x_iret C xr xk dX12_op_71 ?_
        exact hK _ _ (Or.inl ⟨iq, kq, hi1, hk1, rfl, rfl, by first | (rw [if_pos c41]; rfl) | (rw [if_neg c41', show 3 * iq + kq - 9 = 3 * iq + (kq - 9) by omega]; rfl), rfl⟩)
      · skip
        have c41' := Nat.not_le.mpr c41
        refine x_aload_n C (i := 0) dX12_op_44 rfl rfl ?_
        refine x_getR C fr_38_5 kf_X12_13 dX12_op_45 ?_
        refine x_bipush C (nI 9) dX12_op_48 rfl ?_
        refine x_iload_n C (i := 1) dX12_op_50 rfl rfl ?_
        refine x_imulN C dX12_op_51 ?_
        refine x_iload_n C (i := 2) dX12_op_52 rfl rfl ?_
        refine x_iaddN C dX12_op_53 ?_
        refine x_ialdN C (by decide) rfl (by decide) dX12_op_54 (by omega) ?_
        refine x_goto C 71 dX12_op_55 (by decide) ?_
        refine x_iret C xr xk dX12_op_71 ?_
        exact hK _ _ (Or.inl ⟨iq, kq, hi1, hk1, rfl, rfl, by first | (rw [if_pos c41]; rfl) | (rw [if_neg c41', show 3 * iq + kq - 9 = 3 * iq + (kq - 9) by omega]; rfl), rfl⟩)
theorem c_X12_op (l : Launch) (Y : x_Y) (σ : x_S) (i k : Int32) (n : Nat) (hn : σ.1 38 4 = nI n) (hn9 : n ≤ 192) : x_M l yX12_op cX12_op 3 (some .int) 1 Y [.ref 38, .int i, .int k] σ (fun r τ => (∃ iq kq, iq < n ∧ kq < 12 ∧ i = nI iq ∧ k = nI kq ∧ r = some (.int (if kq < 9 then σ.1 40 (9 * iq + kq) else σ.1 41 (3 * iq + (kq - 9)))) ∧ τ = x_u σ 38 0 (nI 0)) ∨ (¬ (x_rng i n ∧ x_rng k 12) ∧ r = some (.int (nI 0)) ∧ τ = x_u σ 38 0 (nI 1))) := c_X12_op_K l Y σ i k n hn hn9 _ (fun _ _ h => h)
set_option maxRecDepth 100000 in
set_option maxHeartbeats 200000 in
theorem c_X12_key_K (l : Launch) (Y : x_Y) (σ : x_S) (h k q : Int32) (K : Option Value → x_S → Prop) (hK : ∀ (r : Option Value) (τ : x_S), (r = some (.long (x_key h k q)) ∧ τ = σ) → K r τ) : x_M l yX12_key cX12_key 3 (some .long) 0 Y [.int h, .int k, .int q] σ K := by
  refine x_start (by decide) (Nat.le_of_ble_eq_true rfl) ?_
  intro xp xe xs xm xg xb xt xc C xr xk
  refine x_iload_n C (i := 0) dX12_key_0 rfl rfl ?_
  refine x_i2l C dX12_key_1 ?_
  refine x_ldc2 C (524288) kc_X12_219 dX12_key_2 ?_
  refine x_ladd C dX12_key_5 ?_
  refine x_ldc2 C (1048576) kc_X12_221 dX12_key_6 ?_
  refine x_lmul C dX12_key_9 ?_
  refine x_iload_n C (i := 1) dX12_key_10 rfl rfl ?_
  refine x_i2l C dX12_key_11 ?_
  refine x_ladd C dX12_key_12 ?_
  refine x_ldc2 C (524288) kc_X12_219 dX12_key_13 ?_
  refine x_ladd C dX12_key_16 ?_
  refine x_ldc2 C (1048576) kc_X12_221 dX12_key_17 ?_
  refine x_lmul C dX12_key_20 ?_
  refine x_iload_n C (i := 2) dX12_key_21 rfl rfl ?_
  refine x_i2l C dX12_key_22 ?_
  refine x_ladd C dX12_key_23 ?_
  refine x_ldc2 C (524288) kc_X12_219 dX12_key_24 ?_
  refine x_ladd C dX12_key_27 ?_
  refine x_lret C xr xk dX12_key_28 ?_
  exact hK _ _ ⟨rfl, rfl⟩
theorem c_X12_key (l : Launch) (Y : x_Y) (σ : x_S) (h k q : Int32) : x_M l yX12_key cX12_key 3 (some .long) 0 Y [.int h, .int k, .int q] σ (fun r τ => r = some (.long (x_key h k q)) ∧ τ = σ) := c_X12_key_K l Y σ h k q _ (fun _ _ h => h)
set_option maxRecDepth 100000 in
set_option maxHeartbeats 200000 in
theorem c_X12_part_K (l : Launch) (Y : x_Y) (σ : x_S) (q : Int64) (w : Nat) (hw : w < 2 ^ 31) (K : Option Value → x_S → Prop) (hK : ∀ (r : Option Value) (τ : x_S), (r = some (.int (x_part q w)) ∧ τ = σ) → K r τ) : x_M l yX12_part cX12_part 5 (some .int) 0 Y [.long q, .int (nI w)] σ K := by
  refine x_start (by decide) (Nat.le_of_ble_eq_true rfl) ?_
  intro xp xe xs xm xg xb xt xc C xr xk
  refine x_iload_n C (i := 2) dX12_part_0 rfl rfl ?_
  refine x_if_neN C 11 dX12_part_1 (by decide) (by omega) (fun c1 => ?_) (fun c1 => ?_)
  · skip
    refine x_iload_n C (i := 2) dX12_part_11 rfl rfl ?_
    refine x_iconst C (nI 1) dX12_part_12 rfl ?_
    refine x_icmp_neN C 23 dX12_part_13 (by decide) (by omega) (by omega) (fun c13 => ?_) (fun c13 => ?_)
    · skip
      refine x_lload_n C (i := 0) dX12_part_23 rfl rfl ?_
      refine x_lstore_n C (i := 3) dX12_part_24 rfl (by decide) ?_
      refine x_lload_n C (i := 3) dX12_part_25 rfl rfl ?_
      refine x_ldc2 C (1048575) kc_X12_223 dX12_part_26 ?_
      refine x_land C dX12_part_29 ?_
      refine x_l2i C dX12_part_30 ?_
      refine x_ldc C (524288) kc_X12_225 dX12_part_31 (x_topI (y := nI 524288) rfl ?_)
      refine x_isub C dX12_part_33 ?_
      refine x_iret C xr xk dX12_part_34 ?_
      exact hK _ _ ⟨by unfold x_part; first | rw [if_pos c1] | rw [if_neg c1, if_pos c13] | rw [if_neg c1, if_neg c13], rfl⟩
    · skip
      refine x_lload_n C (i := 0) dX12_part_16 rfl rfl ?_
      refine x_bipush C (nI 20) dX12_part_17 rfl ?_
      refine x_lshr C dX12_part_19 ?_
      refine x_goto C 24 dX12_part_20 (by decide) ?_
      refine x_lstore_n C (i := 3) dX12_part_24 rfl (by decide) ?_
      refine x_lload_n C (i := 3) dX12_part_25 rfl rfl ?_
      refine x_ldc2 C (1048575) kc_X12_223 dX12_part_26 ?_
      refine x_land C dX12_part_29 ?_
      refine x_l2i C dX12_part_30 ?_
      refine x_ldc C (524288) kc_X12_225 dX12_part_31 (x_topI (y := nI 524288) rfl ?_)
      refine x_isub C dX12_part_33 ?_
      refine x_iret C xr xk dX12_part_34 ?_
      exact hK _ _ ⟨by unfold x_part; first | rw [if_pos c1] | rw [if_neg c1, if_pos c13] | rw [if_neg c1, if_neg c13], rfl⟩
  · skip
    refine x_lload_n C (i := 0) dX12_part_4 rfl rfl ?_
    refine x_bipush C (nI 40) dX12_part_5 rfl ?_
    refine x_lshr C dX12_part_7 ?_
    refine x_goto C 24 dX12_part_8 (by decide) ?_
    refine x_lstore_n C (i := 3) dX12_part_24 rfl (by decide) ?_
    refine x_lload_n C (i := 3) dX12_part_25 rfl rfl ?_
    refine x_ldc2 C (1048575) kc_X12_223 dX12_part_26 ?_
    refine x_land C dX12_part_29 ?_
    refine x_l2i C dX12_part_30 ?_
    refine x_ldc C (524288) kc_X12_225 dX12_part_31 (x_topI (y := nI 524288) rfl ?_)
    refine x_isub C dX12_part_33 ?_
    refine x_iret C xr xk dX12_part_34 ?_
    exact hK _ _ ⟨by unfold x_part; first | rw [if_pos c1] | rw [if_neg c1, if_pos c13] | rw [if_neg c1, if_neg c13], rfl⟩
theorem c_X12_part (l : Launch) (Y : x_Y) (σ : x_S) (q : Int64) (w : Nat) (hw : w < 2 ^ 31) : x_M l yX12_part cX12_part 5 (some .int) 0 Y [.long q, .int (nI w)] σ (fun r τ => r = some (.int (x_part q w)) ∧ τ = σ) := c_X12_part_K l Y σ q w hw _ (fun _ _ h => h)
set_option maxRecDepth 100000 in
set_option maxHeartbeats 200000 in
theorem c_X12_addEqual_K (l : Launch) (Y : x_Y) (σ : x_S) (q : Int64) (Es : List Int64) (hE : Es.length < 384) (K : Option Value → x_S → Prop) (hK : ∀ (r : Option Value) (τ : x_S), (r = none ∧ τ = x_eq σ (x_addu Es q)) → K r τ) : x_M l yX12_addEqual cX12_addEqual 5 none 0 Y [.ref 38, .long q] (x_eq σ Es) K := by
  refine x_start (by decide) (Nat.le_of_ble_eq_true rfl) ?_
  intro xp xe xs xm xg xb xt xc C xr xk
  refine x_iconst C (nI 0) dX12_addEqual_0 rfl ?_
  refine x_istore_n C (i := 3) dX12_addEqual_1 rfl (by decide) ?_
  refine x_iconst C (nI 0) dX12_addEqual_2 rfl ?_
  refine x_istore C (i := 4) dX12_addEqual_3 (by decide) ?_
  have lp5 : ∀ (m5 : Nat) (e : Nat) (is : Bool), (Es.length - e) = m5 → (e ≤ Es.length) → ((is || decide (q ∈ Es.drop e)) = decide (q ∈ Es)) → ∀ L : x_Lo, L.1 0 = some (.ref 38) → L.2 1 = some q → L.1 3 = some (.int (x_z is)) → L.1 4 = some (.int (nI e)) → x_W xp l xe (x_rm 0) xs xm xg xb xt xc 5 Y 0 0 (MQ xb (x_Q Y K) xg xs 0 0 (x_A Y)) 5 L [] (x_eq σ Es) := by
    intro m5
    induction m5 using Nat.strongRecOn with
    | _ m5 ih5 =>
      intro e is hm5 he hR L xl0 xl1 xl3 xl4
      refine x_iload C (i := 4) dX12_addEqual_5 xl4 ?_
      refine x_aload_n C (i := 0) dX12_addEqual_7 rfl xl0 ?_
      refine x_getI C fi_38_18 kf_X12_226 dX12_addEqual_8 ?_
      refine x_topI (y := nI Es.length) rfl ?_
      have lp42 : ∀ (iz : Bool), (iz = decide (q ∈ Es)) → ∀ L : x_Lo, L.1 0 = some (.ref 38) → L.2 1 = some q → L.1 3 = some (.int (x_z iz)) → x_W xp l xe (x_rm 0) xs xm xg xb xt xc 5 Y 0 0 (MQ xb (x_Q Y K) xg xs 0 0 (x_A Y)) 42 L [] (x_eq σ Es) := by
        intro iz hZ L xl0 xl1 xl3
        refine x_iload_n C (i := 3) dX12_addEqual_42 rfl xl3 ?_
        refine x_if_neZ C 66 dX12_addEqual_43 (by decide) (fun c43 => ?_) (fun c43 => ?_)
        · skip
          refine x_vret C xr xk dX12_addEqual_66 ?_
          exact hK _ _ ⟨rfl, by unfold x_addu; rw [if_pos (of_decide_eq_true (hZ.symm.trans c43))]⟩
        · skip
          refine x_aload_n C (i := 0) dX12_addEqual_46 rfl xl0 ?_
          refine x_getR C fr_38_19 kf_X12_38 dX12_addEqual_47 ?_
          refine x_aload_n C (i := 0) dX12_addEqual_50 rfl xl0 ?_
          refine x_getI C fi_38_18 kf_X12_226 dX12_addEqual_51 ?_
          refine x_topI (y := nI Es.length) rfl ?_
          refine x_lload_n C (i := 1) dX12_addEqual_54 rfl xl1 ?_
          refine x_lastN C (by decide) rfl (by decide) dX12_addEqual_55 (by omega) ?_
          refine x_aload_n C (i := 0) dX12_addEqual_56 rfl xl0 ?_
          refine x_dup C dX12_addEqual_57 rfl ?_
          refine x_getI C fi_38_18 kf_X12_226 dX12_addEqual_58 ?_
          refine x_topI (y := nI Es.length) rfl ?_
          refine x_iconst C (nI 1) dX12_addEqual_61 rfl ?_
          refine x_iaddN C dX12_addEqual_62 ?_
          refine x_putN C fi_38_18 kf_X12_226 rfl rfl dX12_addEqual_63 ?_
          refine x_vret C xr xk dX12_addEqual_66 ?_
          exact hK _ _ ⟨rfl, by unfold x_addu; rw [if_neg (of_decide_eq_false (hZ.symm.trans c43))]; exact x_eq_push σ Es q⟩
      refine x_icmp_geN C 42 dX12_addEqual_11 (by decide) (by omega) (by omega) (fun c11 => ?_) (fun c11 => ?_)
      · skip
        have c11' := Nat.not_lt.mpr c11
        exact lp42 is (by rw [← hR, List.drop_eq_nil_of_le (by omega)]; simp) _ xl0 xl1 xl3
      · skip
        have c11' := Nat.not_le.mpr c11
        refine x_iload_n C (i := 3) dX12_addEqual_14 rfl xl3 ?_
        refine x_if_neZ C 42 dX12_addEqual_15 (by decide) (fun c15 => ?_) (fun c15 => ?_)
        · skip
          exact lp42 is (by rw [← hR, c15]; rfl) _ xl0 xl1 xl3
        · skip
          refine x_aload_n C (i := 0) dX12_addEqual_18 rfl xl0 ?_
          refine x_getR C fr_38_19 kf_X12_38 dX12_addEqual_19 ?_
          refine x_iload C (i := 4) dX12_addEqual_22 xl4 ?_
          refine x_laldN C (by decide) rfl (by decide) dX12_addEqual_24 (by omega) ?_
          refine x_topL (y := Es.getD e 0) (by show x_mj Es (σ.2 48) e = _; rw [x_mj_at _ _ (by omega)]) ?_
          refine x_lload_n C (i := 1) dX12_addEqual_25 rfl xl1 ?_
          refine x_lcmp C dX12_addEqual_26 ?_
          refine x_if_ne C 34 dX12_addEqual_27 (by decide) (fun c27 => ?_) (fun c27 => ?_)
          · skip
            have c27 := fun z => c27 ((lg_cmp_eq _ _).mpr z)
            refine x_iconst C (nI 0) dX12_addEqual_34 rfl ?_
            refine x_istore_n C (i := 3) dX12_addEqual_35 rfl (by decide) ?_
            refine x_iincN C (i := 4) (b := 1) dX12_addEqual_36 xl4 rfl (by decide) ?_
            refine x_goto C 5 dX12_addEqual_39 (by decide) ?_
            exact ih5 _ (by omega) (e + 1) false rfl (by omega) (by rw [← hR, x_mem_drop (by omega : e < Es.length), c15, decide_eq_false c27]; rfl) _ xl0 xl1 rfl rfl
          · skip
            have c27 := (lg_cmp_eq _ _).mp c27
            refine x_iconst C (nI 1) dX12_addEqual_30 rfl ?_
            refine x_goto C 35 dX12_addEqual_31 (by decide) ?_
            refine x_istore_n C (i := 3) dX12_addEqual_35 rfl (by decide) ?_
            refine x_iincN C (i := 4) (b := 1) dX12_addEqual_36 xl4 rfl (by decide) ?_
            refine x_goto C 5 dX12_addEqual_39 (by decide) ?_
            exact ih5 _ (by omega) (e + 1) true rfl (by omega) (by rw [← hR, x_mem_drop (by omega : e < Es.length), c15, decide_eq_true c27]; rfl) _ xl0 xl1 rfl rfl
  exact lp5 _ 0 false rfl (Nat.zero_le _) rfl _ rfl rfl rfl rfl
theorem c_X12_addEqual (l : Launch) (Y : x_Y) (σ : x_S) (q : Int64) (Es : List Int64) (hE : Es.length < 384) : x_M l yX12_addEqual cX12_addEqual 5 none 0 Y [.ref 38, .long q] (x_eq σ Es) (fun r τ => r = none ∧ τ = x_eq σ (x_addu Es q)) := c_X12_addEqual_K l Y σ q Es hE _ (fun _ _ h => h)
set_option maxRecDepth 100000 in
set_option maxHeartbeats 200000 in
theorem c_X12_multiplicity_K (l : Launch) (Y : x_Y) (σ : x_S) (h k q : Int32) (n : Nat) (hn : σ.1 38 4 = nI n) (hn9 : n ≤ 192) (K : Option Value → x_S → Prop) (hK : ∀ (r : Option Value) (τ : x_S), (r = some (.int (nI (x_eqf (σ.1 40) h k q n).length)) ∧ τ = x_eq σ (x_eqf (σ.1 40) h k q n)) → K r τ) : x_M l yX12_multiplicity cX12_multiplicity 8 (some .int) 1 Y [.ref 38, .int h, .int k, .int q] σ K := by
  refine x_start (by decide) (Nat.le_of_ble_eq_true rfl) ?_
  intro xp xe xs xm xg xb xt xc C xr xk
  refine x_aload_n C (i := 0) dX12_multiplicity_0 rfl rfl ?_
  refine x_iconst C (nI 0) dX12_multiplicity_1 rfl ?_
  refine x_putN C fi_38_18 kf_X12_226 rfl rfl dX12_multiplicity_2 ?_
  refine x_sig (σ' := x_eq σ ([])) (x_eq_start σ) ?_
  refine x_iconst C (nI 0) dX12_multiplicity_5 rfl ?_
  refine x_istore C (i := 4) dX12_multiplicity_6 (by decide) ?_
  have lp8 : ∀ (m8 : Nat) (i : Nat), (n - i) = m8 → (i ≤ n) → ∀ L : x_Lo, L.1 0 = some (.ref 38) → L.1 1 = some (.int h) → L.1 2 = some (.int k) → L.1 3 = some (.int q) → L.1 4 = some (.int (nI i)) → x_W xp l xe (x_rm 1) xs xm xg xb xt xc 8 Y 0 0 (MQ xb (x_Q Y K) xg xs 0 0 (x_A Y)) 8 L [] (x_eq σ (x_eqf (σ.1 40) h k q i)) := by
    intro m8
    induction m8 using Nat.strongRecOn with
    | _ m8 ih8 =>
      intro i hm8 hi L xl0 xl1 xl2 xl3 xl4
      refine x_iload C (i := 4) dX12_multiplicity_8 xl4 ?_
      refine x_aload_n C (i := 0) dX12_multiplicity_10 rfl xl0 ?_
      refine x_getI C fi_38_4 kf_X12_183 dX12_multiplicity_11 ?_
      refine x_topI (y := nI n) hn ?_
      refine x_icmp_geN C 88 dX12_multiplicity_14 (by decide) (by omega) (by omega) (fun c14 => ?_) (fun c14 => ?_)
      · skip
        have c14' := Nat.not_lt.mpr c14
        obtain rfl : n = i := by omega
        refine x_aload_n C (i := 0) dX12_multiplicity_88 rfl xl0 ?_
        refine x_getI C fi_38_18 kf_X12_226 dX12_multiplicity_89 ?_
        refine x_topI (y := nI (List.length (x_eqf (σ.1 40) h k q n))) rfl ?_
        refine x_iret C xr xk dX12_multiplicity_92 ?_
        exact hK _ _ ⟨rfl, rfl⟩
      · skip
        have c14' := Nat.not_le.mpr c14
        refine x_aload_n C (i := 0) dX12_multiplicity_17 rfl xl0 ?_
        refine x_iload C (i := 4) dX12_multiplicity_18 xl4 ?_
        refine x_iload_n C (i := 1) dX12_multiplicity_20 rfl xl1 ?_
        refine x_iload_n C (i := 2) dX12_multiplicity_21 rfl xl2 ?_
        refine x_iload_n C (i := 3) dX12_multiplicity_22 rfl xl3 ?_
        refine x_iconst C (nI 0) dX12_multiplicity_23 rfl ?_
        have hM := c_X12_sentTo l Y (x_eq σ (x_eqf (σ.1 40) h k q i)) i h k q 0 (by omega) (by omega)
        refine x_callV C (as := [.int (nI i), .int h, .int k, .int q, .int (nI 0)]) (st := []) (hM) kb_X12_sentTo kv_X12_212 dX12_multiplicity_24 rfl rfl (Nat.le_of_ble_eq_true rfl) ⟨by decide, by decide⟩ ⟨by decide, by decide⟩ ko_38 ?_
        clear hM
        intro r9 τ9 h9
        obtain ⟨rfl, h8⟩ := h9
        rw [h8]
        clear h8 τ9
        refine x_istore C (i := 5) dX12_multiplicity_27 (by decide) ?_
        refine x_aload_n C (i := 0) dX12_multiplicity_29 rfl xl0 ?_
        refine x_iload C (i := 4) dX12_multiplicity_30 xl4 ?_
        refine x_iload_n C (i := 1) dX12_multiplicity_32 rfl xl1 ?_
        refine x_iload_n C (i := 2) dX12_multiplicity_33 rfl xl2 ?_
        refine x_iload_n C (i := 3) dX12_multiplicity_34 rfl xl3 ?_
        refine x_iconst C (nI 1) dX12_multiplicity_35 rfl ?_
        have hM := c_X12_sentTo l Y (x_eq σ (x_eqf (σ.1 40) h k q i)) i h k q 1 (by omega) (by omega)
        refine x_callV C (as := [.int (nI i), .int h, .int k, .int q, .int (nI 1)]) (st := []) (hM) kb_X12_sentTo kv_X12_212 dX12_multiplicity_36 rfl rfl (Nat.le_of_ble_eq_true rfl) ⟨by decide, by decide⟩ ⟨by decide, by decide⟩ ko_38 ?_
        clear hM
        intro r9 τ9 h9
        obtain ⟨rfl, h8⟩ := h9
        rw [h8]
        clear h8 τ9
        refine x_istore C (i := 6) dX12_multiplicity_39 (by decide) ?_
        refine x_aload_n C (i := 0) dX12_multiplicity_41 rfl xl0 ?_
        refine x_iload C (i := 4) dX12_multiplicity_42 xl4 ?_
        refine x_iload_n C (i := 1) dX12_multiplicity_44 rfl xl1 ?_
        refine x_iload_n C (i := 2) dX12_multiplicity_45 rfl xl2 ?_
        refine x_iload_n C (i := 3) dX12_multiplicity_46 rfl xl3 ?_
        refine x_iconst C (nI 2) dX12_multiplicity_47 rfl ?_
        have hM := c_X12_sentTo l Y (x_eq σ (x_eqf (σ.1 40) h k q i)) i h k q 2 (by omega) (by omega)
        refine x_callV C (as := [.int (nI i), .int h, .int k, .int q, .int (nI 2)]) (st := []) (hM) kb_X12_sentTo kv_X12_212 dX12_multiplicity_48 rfl rfl (Nat.le_of_ble_eq_true rfl) ⟨by decide, by decide⟩ ⟨by decide, by decide⟩ ko_38 ?_
        clear hM
        intro r9 τ9 h9
        obtain ⟨rfl, h8⟩ := h9
        rw [h8]
        clear h8 τ9
        refine x_istore C (i := 7) dX12_multiplicity_51 (by decide) ?_
        refine x_aload_n C (i := 0) dX12_multiplicity_53 rfl xl0 ?_
        refine x_iload C (i := 5) dX12_multiplicity_54 rfl ?_
        refine x_iload C (i := 6) dX12_multiplicity_56 rfl ?_
        refine x_iload C (i := 7) dX12_multiplicity_58 rfl ?_
        have hM := c_X12_key l Y (x_eq σ (x_eqf (σ.1 40) h k q i)) (x_snt ((x_eq σ (x_eqf (σ.1 40) h k q i)).1 40) i 0 h k q) (x_snt ((x_eq σ (x_eqf (σ.1 40) h k q i)).1 40) i 1 h k q) (x_snt ((x_eq σ (x_eqf (σ.1 40) h k q i)).1 40) i 2 h k q)
        refine x_callS C (as := [.int (x_snt ((x_eq σ (x_eqf (σ.1 40) h k q i)).1 40) i 0 h k q), .int (x_snt ((x_eq σ (x_eqf (σ.1 40) h k q i)).1 40) i 1 h k q), .int (x_snt ((x_eq σ (x_eqf (σ.1 40) h k q i)).1 40) i 2 h k q)]) (st := [.ref 38]) (hM) kb_X12_key ks_X12_229 dX12_multiplicity_60 rfl rfl (Nat.le_of_ble_eq_true rfl) ⟨by decide, by decide⟩ ⟨by decide, by decide⟩ ?_
        clear hM
        intro r9 τ9 h9
        obtain ⟨rfl, h8⟩ := h9
        rw [h8]
        clear h8 τ9
        have hM := c_X12_addEqual l Y σ (x_key (x_snt ((x_eq σ (x_eqf (σ.1 40) h k q i)).1 40) i 0 h k q) (x_snt ((x_eq σ (x_eqf (σ.1 40) h k q i)).1 40) i 1 h k q) (x_snt ((x_eq σ (x_eqf (σ.1 40) h k q i)).1 40) i 2 h k q)) (x_eqf (σ.1 40) h k q i) (by have := x_eqf_len (σ.1 40) h k q i; omega)
        refine x_callV C (as := [.long (x_key (x_snt ((x_eq σ (x_eqf (σ.1 40) h k q i)).1 40) i 0 h k q) (x_snt ((x_eq σ (x_eqf (σ.1 40) h k q i)).1 40) i 1 h k q) (x_snt ((x_eq σ (x_eqf (σ.1 40) h k q i)).1 40) i 2 h k q))]) (st := []) (hM) kb_X12_addEqual kv_X12_233 dX12_multiplicity_63 rfl rfl (Nat.le_of_ble_eq_true rfl) ⟨by decide, by decide⟩ ⟨by decide, by decide⟩ ko_38 ?_
        clear hM
        rintro _ _ ⟨rfl, rfl⟩
        refine x_aload_n C (i := 0) dX12_multiplicity_66 rfl xl0 ?_
        refine x_iload C (i := 5) dX12_multiplicity_67 rfl ?_
        refine x_ineg C dX12_multiplicity_69 ?_
        refine x_iload C (i := 6) dX12_multiplicity_70 rfl ?_
        refine x_ineg C dX12_multiplicity_72 ?_
        refine x_iload C (i := 7) dX12_multiplicity_73 rfl ?_
        refine x_ineg C dX12_multiplicity_75 ?_
        have hM := c_X12_key l Y (x_eq σ (x_addu (x_eqf (σ.1 40) h k q i) (x_key (x_snt ((x_eq σ (x_eqf (σ.1 40) h k q i)).1 40) i 0 h k q) (x_snt ((x_eq σ (x_eqf (σ.1 40) h k q i)).1 40) i 1 h k q) (x_snt ((x_eq σ (x_eqf (σ.1 40) h k q i)).1 40) i 2 h k q)))) (-(x_snt ((x_eq σ (x_eqf (σ.1 40) h k q i)).1 40) i 0 h k q)) (-(x_snt ((x_eq σ (x_eqf (σ.1 40) h k q i)).1 40) i 1 h k q)) (-(x_snt ((x_eq σ (x_eqf (σ.1 40) h k q i)).1 40) i 2 h k q))
        refine x_callS C (as := [.int (-(x_snt ((x_eq σ (x_eqf (σ.1 40) h k q i)).1 40) i 0 h k q)), .int (-(x_snt ((x_eq σ (x_eqf (σ.1 40) h k q i)).1 40) i 1 h k q)), .int (-(x_snt ((x_eq σ (x_eqf (σ.1 40) h k q i)).1 40) i 2 h k q))]) (st := [.ref 38]) (hM) kb_X12_key ks_X12_229 dX12_multiplicity_76 rfl rfl (Nat.le_of_ble_eq_true rfl) ⟨by decide, by decide⟩ ⟨by decide, by decide⟩ ?_
        clear hM
        intro r9 τ9 h9
        obtain ⟨rfl, h8⟩ := h9
        rw [h8]
        clear h8 τ9
        have hM := c_X12_addEqual l Y σ (x_key (-(x_snt ((x_eq σ (x_eqf (σ.1 40) h k q i)).1 40) i 0 h k q)) (-(x_snt ((x_eq σ (x_eqf (σ.1 40) h k q i)).1 40) i 1 h k q)) (-(x_snt ((x_eq σ (x_eqf (σ.1 40) h k q i)).1 40) i 2 h k q))) (x_addu (x_eqf (σ.1 40) h k q i) (x_key (x_snt ((x_eq σ (x_eqf (σ.1 40) h k q i)).1 40) i 0 h k q) (x_snt ((x_eq σ (x_eqf (σ.1 40) h k q i)).1 40) i 1 h k q) (x_snt ((x_eq σ (x_eqf (σ.1 40) h k q i)).1 40) i 2 h k q))) (by have := x_eqf_len (σ.1 40) h k q i; have h9 := x_addu_len (x_eqf (σ.1 40) h k q i) (x_k1 (σ.1 40) h k q i); show (x_addu (x_eqf (σ.1 40) h k q i) (x_k1 (σ.1 40) h k q i)).length < 384; omega)
        refine x_callV C (as := [.long (x_key (-(x_snt ((x_eq σ (x_eqf (σ.1 40) h k q i)).1 40) i 0 h k q)) (-(x_snt ((x_eq σ (x_eqf (σ.1 40) h k q i)).1 40) i 1 h k q)) (-(x_snt ((x_eq σ (x_eqf (σ.1 40) h k q i)).1 40) i 2 h k q)))]) (st := []) (hM) kb_X12_addEqual kv_X12_233 dX12_multiplicity_79 rfl rfl (Nat.le_of_ble_eq_true rfl) ⟨by decide, by decide⟩ ⟨by decide, by decide⟩ ko_38 ?_
        clear hM
        rintro _ _ ⟨rfl, rfl⟩
        refine x_iincN C (i := 4) (b := 1) dX12_multiplicity_82 xl4 rfl (by decide) ?_
        refine x_goto C 8 dX12_multiplicity_85 (by decide) ?_
        exact ih8 _ (by omega) (i + 1) rfl (by omega) _ xl0 xl1 xl2 xl3 rfl
  exact lp8 _ 0 rfl (Nat.zero_le _) _ rfl rfl rfl rfl rfl
theorem c_X12_multiplicity (l : Launch) (Y : x_Y) (σ : x_S) (h k q : Int32) (n : Nat) (hn : σ.1 38 4 = nI n) (hn9 : n ≤ 192) : x_M l yX12_multiplicity cX12_multiplicity 8 (some .int) 1 Y [.ref 38, .int h, .int k, .int q] σ (fun r τ => r = some (.int (nI (x_eqf (σ.1 40) h k q n).length)) ∧ τ = x_eq σ (x_eqf (σ.1 40) h k q n)) := c_X12_multiplicity_K l Y σ h k q n hn hn9 _ (fun _ _ h => h)
set_option maxRecDepth 100000 in
set_option maxHeartbeats 200000 in
theorem c_X12_greatestOf_K (l : Launch) (Y : x_Y) (σ : x_S) (h k q : Int32) (n : Nat) (hn : σ.1 38 4 = nI n) (hn9 : n ≤ 192) (K : Option Value → x_S → Prop) (hK : ∀ (r : Option Value) (τ : x_S), (r = some (.long (x_gof (σ.1 40) h k q n)) ∧ τ = σ) → K r τ) : x_M l yX12_greatestOf cX12_greatestOf 14 (some .long) 1 Y [.ref 38, .int h, .int k, .int q] σ K := by
  refine x_start (by decide) (Nat.le_of_ble_eq_true rfl) ?_
  intro xp xe xs xm xg xb xt xc C xr xk
  refine x_iload_n C (i := 1) dX12_greatestOf_0 rfl rfl ?_
  refine x_iload_n C (i := 2) dX12_greatestOf_1 rfl rfl ?_
  refine x_iload_n C (i := 3) dX12_greatestOf_2 rfl rfl ?_
  have hM := c_X12_key l Y σ h k q
  refine x_callS C (as := [.int h, .int k, .int q]) (st := []) (hM) kb_X12_key ks_X12_229 dX12_greatestOf_3 rfl rfl (Nat.le_of_ble_eq_true rfl) ⟨by decide, by decide⟩ ⟨by decide, by decide⟩ ?_
  clear hM
  intro r9 τ9 h9
  obtain ⟨rfl, h8⟩ := h9
  rw [h8]
  clear h8 τ9
  refine x_lstore C (i := 4) dX12_greatestOf_6 (by decide) ?_
  refine x_iconst C (nI 0) dX12_greatestOf_8 rfl ?_
  refine x_istore C (i := 6) dX12_greatestOf_9 (by decide) ?_
  have lp11 : ∀ (m11 : Nat) (i : Nat), (n - i) = m11 → (i ≤ n) → ∀ L : x_Lo, L.1 0 = some (.ref 38) → L.1 1 = some (.int h) → L.1 2 = some (.int k) → L.1 3 = some (.int q) → L.2 4 = some (x_gof (σ.1 40) h k q i) → L.1 6 = some (.int (nI i)) → x_W xp l xe (x_rm 1) xs xm xg xb xt xc 14 Y 0 0 (MQ xb (x_Q Y K) xg xs 0 0 (x_A Y)) 11 L [] σ := by
    intro m11
    induction m11 using Nat.strongRecOn with
    | _ m11 ih11 =>
      intro i hm11 hi L xl0 xl1 xl2 xl3 xl4 xl6
      refine x_iload C (i := 6) dX12_greatestOf_11 xl6 ?_
      refine x_aload_n C (i := 0) dX12_greatestOf_13 rfl xl0 ?_
      refine x_getI C fi_38_4 kf_X12_183 dX12_greatestOf_14 ?_
      refine x_topI (y := nI n) hn ?_
      refine x_icmp_geN C 121 dX12_greatestOf_17 (by decide) (by omega) (by omega) (fun c17 => ?_) (fun c17 => ?_)
      · skip
        have c17' := Nat.not_lt.mpr c17
        obtain rfl : n = i := by omega
        refine x_lload C (i := 4) dX12_greatestOf_121 xl4 ?_
        refine x_lret C xr xk dX12_greatestOf_123 ?_
        exact hK _ _ ⟨rfl, rfl⟩
      · skip
        have c17' := Nat.not_le.mpr c17
        refine x_aload_n C (i := 0) dX12_greatestOf_20 rfl xl0 ?_
        refine x_iload C (i := 6) dX12_greatestOf_21 xl6 ?_
        refine x_iload_n C (i := 1) dX12_greatestOf_23 rfl xl1 ?_
        refine x_iload_n C (i := 2) dX12_greatestOf_24 rfl xl2 ?_
        refine x_iload_n C (i := 3) dX12_greatestOf_25 rfl xl3 ?_
        refine x_iconst C (nI 0) dX12_greatestOf_26 rfl ?_
        have hM := c_X12_sentTo l Y σ i h k q 0 (by omega) (by omega)
        refine x_callV C (as := [.int (nI i), .int h, .int k, .int q, .int (nI 0)]) (st := []) (hM) kb_X12_sentTo kv_X12_212 dX12_greatestOf_27 rfl rfl (Nat.le_of_ble_eq_true rfl) ⟨by decide, by decide⟩ ⟨by decide, by decide⟩ ko_38 ?_
        clear hM
        intro r9 τ9 h9
        obtain ⟨rfl, h8⟩ := h9
        rw [h8]
        clear h8 τ9
        refine x_istore C (i := 7) dX12_greatestOf_30 (by decide) ?_
        refine x_aload_n C (i := 0) dX12_greatestOf_32 rfl xl0 ?_
        refine x_iload C (i := 6) dX12_greatestOf_33 xl6 ?_
        refine x_iload_n C (i := 1) dX12_greatestOf_35 rfl xl1 ?_
        refine x_iload_n C (i := 2) dX12_greatestOf_36 rfl xl2 ?_
        refine x_iload_n C (i := 3) dX12_greatestOf_37 rfl xl3 ?_
        refine x_iconst C (nI 1) dX12_greatestOf_38 rfl ?_
        have hM := c_X12_sentTo l Y σ i h k q 1 (by omega) (by omega)
        refine x_callV C (as := [.int (nI i), .int h, .int k, .int q, .int (nI 1)]) (st := []) (hM) kb_X12_sentTo kv_X12_212 dX12_greatestOf_39 rfl rfl (Nat.le_of_ble_eq_true rfl) ⟨by decide, by decide⟩ ⟨by decide, by decide⟩ ko_38 ?_
        clear hM
        intro r9 τ9 h9
        obtain ⟨rfl, h8⟩ := h9
        rw [h8]
        clear h8 τ9
        refine x_istore C (i := 8) dX12_greatestOf_42 (by decide) ?_
        refine x_aload_n C (i := 0) dX12_greatestOf_44 rfl xl0 ?_
        refine x_iload C (i := 6) dX12_greatestOf_45 xl6 ?_
        refine x_iload_n C (i := 1) dX12_greatestOf_47 rfl xl1 ?_
        refine x_iload_n C (i := 2) dX12_greatestOf_48 rfl xl2 ?_
        refine x_iload_n C (i := 3) dX12_greatestOf_49 rfl xl3 ?_
        refine x_iconst C (nI 2) dX12_greatestOf_50 rfl ?_
        have hM := c_X12_sentTo l Y σ i h k q 2 (by omega) (by omega)
        refine x_callV C (as := [.int (nI i), .int h, .int k, .int q, .int (nI 2)]) (st := []) (hM) kb_X12_sentTo kv_X12_212 dX12_greatestOf_51 rfl rfl (Nat.le_of_ble_eq_true rfl) ⟨by decide, by decide⟩ ⟨by decide, by decide⟩ ko_38 ?_
        clear hM
        intro r9 τ9 h9
        obtain ⟨rfl, h8⟩ := h9
        rw [h8]
        clear h8 τ9
        refine x_istore C (i := 9) dX12_greatestOf_54 (by decide) ?_
        refine x_iload C (i := 7) dX12_greatestOf_56 rfl ?_
        refine x_iload C (i := 8) dX12_greatestOf_58 rfl ?_
        refine x_iload C (i := 9) dX12_greatestOf_60 rfl ?_
        have hM := c_X12_key l Y σ (x_snt (σ.1 40) i 0 h k q) (x_snt (σ.1 40) i 1 h k q) (x_snt (σ.1 40) i 2 h k q)
        refine x_callS C (as := [.int (x_snt (σ.1 40) i 0 h k q), .int (x_snt (σ.1 40) i 1 h k q), .int (x_snt (σ.1 40) i 2 h k q)]) (st := []) (hM) kb_X12_key ks_X12_229 dX12_greatestOf_62 rfl rfl (Nat.le_of_ble_eq_true rfl) ⟨by decide, by decide⟩ ⟨by decide, by decide⟩ ?_
        clear hM
        intro r9 τ9 h9
        obtain ⟨rfl, h8⟩ := h9
        rw [h8]
        clear h8 τ9
        refine x_lstore C (i := 10) dX12_greatestOf_65 (by decide) ?_
        refine x_iload C (i := 7) dX12_greatestOf_67 rfl ?_
        refine x_ineg C dX12_greatestOf_69 ?_
        refine x_iload C (i := 8) dX12_greatestOf_70 rfl ?_
        refine x_ineg C dX12_greatestOf_72 ?_
        refine x_iload C (i := 9) dX12_greatestOf_73 rfl ?_
        refine x_ineg C dX12_greatestOf_75 ?_
        have hM := c_X12_key l Y σ (-(x_snt (σ.1 40) i 0 h k q)) (-(x_snt (σ.1 40) i 1 h k q)) (-(x_snt (σ.1 40) i 2 h k q))
        refine x_callS C (as := [.int (-(x_snt (σ.1 40) i 0 h k q)), .int (-(x_snt (σ.1 40) i 1 h k q)), .int (-(x_snt (σ.1 40) i 2 h k q))]) (st := []) (hM) kb_X12_key ks_X12_229 dX12_greatestOf_76 rfl rfl (Nat.le_of_ble_eq_true rfl) ⟨by decide, by decide⟩ ⟨by decide, by decide⟩ ?_
        clear hM
        intro r9 τ9 h9
        obtain ⟨rfl, h8⟩ := h9
        rw [h8]
        clear h8 τ9
        refine x_lstore C (i := 12) dX12_greatestOf_79 (by decide) ?_
        refine x_lload C (i := 10) dX12_greatestOf_81 rfl ?_
        refine x_lload C (i := 4) dX12_greatestOf_83 xl4 ?_
        refine x_lcmp C dX12_greatestOf_85 ?_
        refine x_jf_le C 94 dX12_greatestOf_86 (by decide) (fun c86 => ?_) (fun c86 => ?_)
        · skip
          have c86 := (lg_cmp_le _ _).mp c86
          have c86' := Int64.not_lt.mpr c86
          refine x_lload C (i := 4) dX12_greatestOf_94 xl4 ?_
          refine x_topL (y := x_mx (x_k1 (σ.1 40) h k q i) (x_gof (σ.1 40) h k q i)) (x_mx_le c86).symm ?_
          refine x_lstore C (i := 4) dX12_greatestOf_96 (by decide) ?_
          refine x_lload C (i := 12) dX12_greatestOf_98 rfl ?_
          refine x_lload C (i := 4) dX12_greatestOf_100 rfl ?_
          refine x_lcmp C dX12_greatestOf_102 ?_
          refine x_jf_le C 111 dX12_greatestOf_103 (by decide) (fun c103 => ?_) (fun c103 => ?_)
          · skip
            have c103 := (lg_cmp_le _ _).mp c103
            have c103' := Int64.not_lt.mpr c103
            refine x_lload C (i := 4) dX12_greatestOf_111 rfl ?_
            refine x_topL (y := x_gof (σ.1 40) h k q (i + 1)) (x_mx_le c103).symm ?_
            refine x_lstore C (i := 4) dX12_greatestOf_113 (by decide) ?_
            refine x_iincN C (i := 6) (b := 1) dX12_greatestOf_115 xl6 rfl (by decide) ?_
            refine x_goto C 11 dX12_greatestOf_118 (by decide) ?_
            exact ih11 _ (by omega) (i + 1) rfl (by omega) _ xl0 xl1 xl2 xl3 rfl rfl
          · skip
            have c103 := (lg_cmp_gt _ _).mp c103
            have c103' := Int64.not_le.mpr c103
            refine x_lload C (i := 12) dX12_greatestOf_106 rfl ?_
            refine x_topL (y := x_gof (σ.1 40) h k q (i + 1)) (x_mx_gt c103).symm ?_
            refine x_goto C 113 dX12_greatestOf_108 (by decide) ?_
            refine x_lstore C (i := 4) dX12_greatestOf_113 (by decide) ?_
            refine x_iincN C (i := 6) (b := 1) dX12_greatestOf_115 xl6 rfl (by decide) ?_
            refine x_goto C 11 dX12_greatestOf_118 (by decide) ?_
            exact ih11 _ (by omega) (i + 1) rfl (by omega) _ xl0 xl1 xl2 xl3 rfl rfl
        · skip
          have c86 := (lg_cmp_gt _ _).mp c86
          have c86' := Int64.not_le.mpr c86
          refine x_lload C (i := 10) dX12_greatestOf_89 rfl ?_
          refine x_topL (y := x_mx (x_k1 (σ.1 40) h k q i) (x_gof (σ.1 40) h k q i)) (x_mx_gt c86).symm ?_
          refine x_goto C 96 dX12_greatestOf_91 (by decide) ?_
          refine x_lstore C (i := 4) dX12_greatestOf_96 (by decide) ?_
          refine x_lload C (i := 12) dX12_greatestOf_98 rfl ?_
          refine x_lload C (i := 4) dX12_greatestOf_100 rfl ?_
          refine x_lcmp C dX12_greatestOf_102 ?_
          refine x_jf_le C 111 dX12_greatestOf_103 (by decide) (fun c103 => ?_) (fun c103 => ?_)
          · skip
            have c103 := (lg_cmp_le _ _).mp c103
            have c103' := Int64.not_lt.mpr c103
            refine x_lload C (i := 4) dX12_greatestOf_111 rfl ?_
            refine x_topL (y := x_gof (σ.1 40) h k q (i + 1)) (x_mx_le c103).symm ?_
            refine x_lstore C (i := 4) dX12_greatestOf_113 (by decide) ?_
            refine x_iincN C (i := 6) (b := 1) dX12_greatestOf_115 xl6 rfl (by decide) ?_
            refine x_goto C 11 dX12_greatestOf_118 (by decide) ?_
            exact ih11 _ (by omega) (i + 1) rfl (by omega) _ xl0 xl1 xl2 xl3 rfl rfl
          · skip
            have c103 := (lg_cmp_gt _ _).mp c103
            have c103' := Int64.not_le.mpr c103
            refine x_lload C (i := 12) dX12_greatestOf_106 rfl ?_
            refine x_topL (y := x_gof (σ.1 40) h k q (i + 1)) (x_mx_gt c103).symm ?_
            refine x_goto C 113 dX12_greatestOf_108 (by decide) ?_
            refine x_lstore C (i := 4) dX12_greatestOf_113 (by decide) ?_
            refine x_iincN C (i := 6) (b := 1) dX12_greatestOf_115 xl6 rfl (by decide) ?_
            refine x_goto C 11 dX12_greatestOf_118 (by decide) ?_
            exact ih11 _ (by omega) (i + 1) rfl (by omega) _ xl0 xl1 xl2 xl3 rfl rfl
  exact lp11 _ 0 rfl (Nat.zero_le _) _ rfl rfl rfl rfl rfl rfl
theorem c_X12_greatestOf (l : Launch) (Y : x_Y) (σ : x_S) (h k q : Int32) (n : Nat) (hn : σ.1 38 4 = nI n) (hn9 : n ≤ 192) : x_M l yX12_greatestOf cX12_greatestOf 14 (some .long) 1 Y [.ref 38, .int h, .int k, .int q] σ (fun r τ => r = some (.long (x_gof (σ.1 40) h k q n)) ∧ τ = σ) := c_X12_greatestOf_K l Y σ h k q n hn hn9 _ (fun _ _ h => h)
set_option maxRecDepth 100000 in
set_option maxHeartbeats 200000 in
theorem c_X12_sameTurn_K (l : Launch) (Y : x_Y) (σ : x_S) (i j : Nat) (hi : i < 192) (hj : j < 192) (K : Option Value → x_S → Prop) (hK : ∀ (r : Option Value) (τ : x_S), (r = some (.int (x_z (x_same (σ.1 40) i j))) ∧ τ = σ) → K r τ) : x_M l yX12_sameTurn cX12_sameTurn 6 (some .boolean) 1 Y [.ref 38, .int (nI i), .int (nI j)] σ K := by
  refine x_start (by decide) (Nat.le_of_ble_eq_true rfl) ?_
  intro xp xe xs xm xg xb xt xc C xr xk
  refine x_aload_n C (i := 0) dX12_sameTurn_0 rfl rfl ?_
  refine x_iload_n C (i := 1) dX12_sameTurn_1 rfl rfl ?_
  have hM := c_X12_determinant l Y σ i (by omega)
  refine x_callV C (as := [.int (nI i)]) (st := []) (hM) kb_X12_determinant kv_X12_198 dX12_sameTurn_2 rfl rfl (Nat.le_of_ble_eq_true rfl) ⟨by decide, by decide⟩ ⟨by decide, by decide⟩ ko_38 ?_
  clear hM
  intro r9 τ9 h9
  obtain ⟨rfl, h8⟩ := h9
  rw [h8]
  clear h8 τ9
  refine x_aload_n C (i := 0) dX12_sameTurn_5 rfl rfl ?_
  refine x_iload_n C (i := 2) dX12_sameTurn_6 rfl rfl ?_
  have hM := c_X12_determinant l Y σ j (by omega)
  refine x_callV C (as := [.int (nI j)]) (st := [.int (x_det (σ.1 40) i)]) (hM) kb_X12_determinant kv_X12_198 dX12_sameTurn_7 rfl rfl (Nat.le_of_ble_eq_true rfl) ⟨by decide, by decide⟩ ⟨by decide, by decide⟩ ko_38 ?_
  clear hM
  intro r9 τ9 h9
  obtain ⟨rfl, h8⟩ := h9
  rw [h8]
  clear h8 τ9
  refine x_imul C dX12_sameTurn_10 ?_
  refine x_istore_n C (i := 3) dX12_sameTurn_11 rfl (by decide) ?_
  refine x_iconst C (nI 1) dX12_sameTurn_12 rfl ?_
  refine x_istore C (i := 4) dX12_sameTurn_13 (by decide) ?_
  refine x_iconst C (nI 0) dX12_sameTurn_15 rfl ?_
  refine x_istore C (i := 5) dX12_sameTurn_16 (by decide) ?_
  have lp18 : ∀ (m18 : Nat) (k : Nat) (s : Bool), (9 - k) = m18 → (k ≤ 9) → (s = x_allb (fun k => decide (σ.1 40 (9 * i + k) = x_det (σ.1 40) i * x_det (σ.1 40) j * σ.1 40 (9 * j + k))) k) → ∀ L : x_Lo, L.1 0 = some (.ref 38) → L.1 1 = some (.int (nI i)) → L.1 2 = some (.int (nI j)) → L.1 3 = some (.int ((x_det (σ.1 40) i) * (x_det (σ.1 40) j))) → L.1 4 = some (.int (x_z s)) → L.1 5 = some (.int (nI k)) → x_W xp l xe (x_rm 1) xs xm xg xb xt xc 6 Y 0 0 (MQ xb (x_Q Y K) xg xs 0 0 (x_A Y)) 18 L [] σ := by
    intro m18
    induction m18 using Nat.strongRecOn with
    | _ m18 ih18 =>
      intro k s hm18 hk9 hs L xl0 xl1 xl2 xl3 xl4 xl5
      refine x_iload C (i := 5) dX12_sameTurn_18 xl5 ?_
      refine x_bipush C (nI 9) dX12_sameTurn_20 rfl ?_
      refine x_icmp_geN C 72 dX12_sameTurn_22 (by decide) (by omega) (by omega) (fun c22 => ?_) (fun c22 => ?_)
      · skip
        have c22' := Nat.not_lt.mpr c22
        obtain rfl : k = 9 := by omega
        refine x_iload C (i := 4) dX12_sameTurn_72 xl4 ?_
        refine x_zret C xr xk dX12_sameTurn_74 (x_z_n _) ?_
        exact hK _ _ ⟨by rw [hs]; rfl, rfl⟩
      · skip
        have c22' := Nat.not_le.mpr c22
        refine x_iload C (i := 4) dX12_sameTurn_25 xl4 ?_
        refine x_if_eqZ C 63 dX12_sameTurn_27 (by decide) (fun c27 => ?_) (fun c27 => ?_)
        · skip
          refine x_iconst C (nI 0) dX12_sameTurn_63 rfl ?_
          refine x_istore C (i := 4) dX12_sameTurn_64 (by decide) ?_
          refine x_iincN C (i := 5) (b := 1) dX12_sameTurn_66 xl5 rfl (by decide) ?_
          refine x_goto C 18 dX12_sameTurn_69 (by decide) ?_
          exact ih18 _ (by omega) (k + 1) false rfl (by omega) (by show _ = (x_allb (fun k => decide (σ.1 40 (9 * i + k) = x_det (σ.1 40) i * x_det (σ.1 40) j * σ.1 40 (9 * j + k))) k && decide (σ.1 40 (9 * i + k) = x_det (σ.1 40) i * x_det (σ.1 40) j * σ.1 40 (9 * j + k))); rw [← hs, c27]; first | rw [decide_eq_true c56]; rfl | rw [decide_eq_false c56]; rfl | rfl) _ xl0 xl1 xl2 xl3 rfl rfl
        · skip
          refine x_aload_n C (i := 0) dX12_sameTurn_30 rfl xl0 ?_
          refine x_getR C fr_38_5 kf_X12_13 dX12_sameTurn_31 ?_
          refine x_bipush C (nI 9) dX12_sameTurn_34 rfl ?_
          refine x_iload_n C (i := 1) dX12_sameTurn_36 rfl xl1 ?_
          refine x_imulN C dX12_sameTurn_37 ?_
          refine x_iload C (i := 5) dX12_sameTurn_38 xl5 ?_
          refine x_iaddN C dX12_sameTurn_40 ?_
          refine x_ialdN C (by decide) rfl (by decide) dX12_sameTurn_41 (by omega) ?_
          refine x_iload_n C (i := 3) dX12_sameTurn_42 rfl xl3 ?_
          refine x_aload_n C (i := 0) dX12_sameTurn_43 rfl xl0 ?_
          refine x_getR C fr_38_5 kf_X12_13 dX12_sameTurn_44 ?_
          refine x_bipush C (nI 9) dX12_sameTurn_47 rfl ?_
          refine x_iload_n C (i := 2) dX12_sameTurn_49 rfl xl2 ?_
          refine x_imulN C dX12_sameTurn_50 ?_
          refine x_iload C (i := 5) dX12_sameTurn_51 xl5 ?_
          refine x_iaddN C dX12_sameTurn_53 ?_
          refine x_ialdN C (by decide) rfl (by decide) dX12_sameTurn_54 (by omega) ?_
          refine x_imul C dX12_sameTurn_55 ?_
          refine x_icmp_ne C 63 dX12_sameTurn_56 (by decide) (fun c56 => ?_) (fun c56 => ?_)
          · skip
            refine x_iconst C (nI 0) dX12_sameTurn_63 rfl ?_
            refine x_istore C (i := 4) dX12_sameTurn_64 (by decide) ?_
            refine x_iincN C (i := 5) (b := 1) dX12_sameTurn_66 xl5 rfl (by decide) ?_
            refine x_goto C 18 dX12_sameTurn_69 (by decide) ?_
            exact ih18 _ (by omega) (k + 1) false rfl (by omega) (by show _ = (x_allb (fun k => decide (σ.1 40 (9 * i + k) = x_det (σ.1 40) i * x_det (σ.1 40) j * σ.1 40 (9 * j + k))) k && decide (σ.1 40 (9 * i + k) = x_det (σ.1 40) i * x_det (σ.1 40) j * σ.1 40 (9 * j + k))); rw [← hs, c27]; first | rw [decide_eq_true c56]; rfl | rw [decide_eq_false c56]; rfl | rfl) _ xl0 xl1 xl2 xl3 rfl rfl
          · skip
            refine x_iconst C (nI 1) dX12_sameTurn_59 rfl ?_
            refine x_goto C 64 dX12_sameTurn_60 (by decide) ?_
            refine x_istore C (i := 4) dX12_sameTurn_64 (by decide) ?_
            refine x_iincN C (i := 5) (b := 1) dX12_sameTurn_66 xl5 rfl (by decide) ?_
            refine x_goto C 18 dX12_sameTurn_69 (by decide) ?_
            exact ih18 _ (by omega) (k + 1) true rfl (by omega) (by show _ = (x_allb (fun k => decide (σ.1 40 (9 * i + k) = x_det (σ.1 40) i * x_det (σ.1 40) j * σ.1 40 (9 * j + k))) k && decide (σ.1 40 (9 * i + k) = x_det (σ.1 40) i * x_det (σ.1 40) j * σ.1 40 (9 * j + k))); rw [← hs, c27]; first | rw [decide_eq_true c56]; rfl | rw [decide_eq_false c56]; rfl | rfl) _ xl0 xl1 xl2 xl3 rfl rfl
  exact lp18 _ 0 true rfl (by decide) rfl _ rfl rfl rfl rfl rfl rfl
theorem c_X12_sameTurn (l : Launch) (Y : x_Y) (σ : x_S) (i j : Nat) (hi : i < 192) (hj : j < 192) : x_M l yX12_sameTurn cX12_sameTurn 6 (some .boolean) 1 Y [.ref 38, .int (nI i), .int (nI j)] σ (fun r τ => r = some (.int (x_z (x_same (σ.1 40) i j))) ∧ τ = σ) := c_X12_sameTurn_K l Y σ i j hi hj _ (fun _ _ h => h)
