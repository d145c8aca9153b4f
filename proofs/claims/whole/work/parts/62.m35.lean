set_option maxRecDepth 100000 in
set_option maxHeartbeats 200000 in
theorem c_X0_isDigit_K (l : Launch) (Y : x_Y) (σ : x_S) (c : Int32) (K : Option Value → x_S → Prop) (hK : ∀ (r : Option Value) (τ : x_S), (r = some (.int (x_z (x_dig c))) ∧ τ = σ) → K r τ) : x_M l yX0_isDigit cX0_isDigit 1 (some .boolean) 0 Y [.int c] σ K := by
  refine x_start (by decide) (Nat.le_of_ble_eq_true rfl) ?_
  intro xp xe xs xm xg xb xt xc C xr xk
  refine x_iload_n C (i := 0) dX0_isDigit_0 rfl rfl ?_
  refine x_bipush C (nI 48) dX0_isDigit_1 rfl ?_
  refine x_jcmp_lt C 16 dX0_isDigit_3 (by decide) (fun c3 => ?_) (fun c3 => ?_)
  · skip
    have c3' := Int32.not_le.mpr c3
    refine x_iconst C (nI 0) dX0_isDigit_16 rfl ?_
    refine x_zret C xr xk dX0_isDigit_17 rfl ?_
    exact hK _ _ ⟨by unfold x_dig; first | (rw [decide_eq_false c3']; rfl) | (rw [decide_eq_false c9', Bool.and_false]; rfl), rfl⟩
  · skip
    have c3' := Int32.not_lt.mpr c3
    refine x_iload_n C (i := 0) dX0_isDigit_6 rfl rfl ?_
    refine x_bipush C (nI 57) dX0_isDigit_7 rfl ?_
    refine x_jcmp_gt C 16 dX0_isDigit_9 (by decide) (fun c9 => ?_) (fun c9 => ?_)
    · skip
      have c9' := Int32.not_le.mpr c9
      refine x_iconst C (nI 0) dX0_isDigit_16 rfl ?_
      refine x_zret C xr xk dX0_isDigit_17 rfl ?_
      exact hK _ _ ⟨by unfold x_dig; first | (rw [decide_eq_false c3']; rfl) | (rw [decide_eq_false c9', Bool.and_false]; rfl), rfl⟩
    · skip
      have c9' := Int32.not_lt.mpr c9
      refine x_iconst C (nI 1) dX0_isDigit_12 rfl ?_
      refine x_goto C 17 dX0_isDigit_13 (by decide) ?_
      refine x_zret C xr xk dX0_isDigit_17 rfl ?_
      exact hK _ _ ⟨by unfold x_dig; rw [decide_eq_true c3, decide_eq_true c9]; rfl, rfl⟩
theorem c_X0_isDigit (l : Launch) (Y : x_Y) (σ : x_S) (c : Int32) : x_M l yX0_isDigit cX0_isDigit 1 (some .boolean) 0 Y [.int c] σ (fun r τ => r = some (.int (x_z (x_dig c))) ∧ τ = σ) := c_X0_isDigit_K l Y σ c _ (fun _ _ h => h)
set_option maxRecDepth 100000 in
set_option maxHeartbeats 200000 in
theorem c_X0_failAt_K (l : Launch) (Y : x_Y) (σ : x_S) (p : Nat) (K : Option Value → x_S → Prop) (hK : ∀ (r : Option Value) (τ : x_S), (r = some (.int (x_z false)) ∧ τ = x_u σ 19 7 (nI p)) → K r τ) : x_M l yX0_failAt cX0_failAt 2 (some .boolean) 0 Y [.ref 19, .int (nI p)] σ K := by
  refine x_start (by decide) (Nat.le_of_ble_eq_true rfl) ?_
  intro xp xe xs xm xg xb xt xc C xr xk
  refine x_aload_n C (i := 0) dX0_failAt_0 rfl rfl ?_
  refine x_iload_n C (i := 1) dX0_failAt_1 rfl rfl ?_
  refine x_putN C fi_19_7 kf_X0_33 rfl rfl dX0_failAt_2 ?_
  refine x_iconst C (nI 0) dX0_failAt_5 rfl ?_
  refine x_zret C xr xk dX0_failAt_6 rfl ?_
  exact hK _ _ ⟨rfl, rfl⟩
theorem c_X0_failAt (l : Launch) (Y : x_Y) (σ : x_S) (p : Nat) : x_M l yX0_failAt cX0_failAt 2 (some .boolean) 0 Y [.ref 19, .int (nI p)] σ (fun r τ => r = some (.int (x_z false)) ∧ τ = x_u σ 19 7 (nI p)) := c_X0_failAt_K l Y σ p _ (fun _ _ h => h)
set_option maxRecDepth 100000 in
set_option maxHeartbeats 200000 in
theorem c_X0_signed_K (l : Launch) (Y : x_Y) (σ : x_S) (ng : Bool) (v : Nat) (hg : σ.1 19 6 = x_z ng) (hv : σ.1 19 5 = nI v) (K : Option Value → x_S → Prop) (hK : ∀ (r : Option Value) (τ : x_S), (r = some (.int (x_val ng v)) ∧ τ = σ) → K r τ) : x_M l yX0_signed cX0_signed 1 (some .int) 0 Y [.ref 19] σ K := by
  refine x_start (by decide) (Nat.le_of_ble_eq_true rfl) ?_
  intro xp xe xs xm xg xb xt xc C xr xk
  refine x_aload_n C (i := 0) dX0_signed_0 rfl rfl ?_
  refine x_getI C fi_19_6 kf_X0_72 dX0_signed_1 ?_
  refine x_topI (y := x_z ng) hg ?_
  refine x_if_eqZ C 15 dX0_signed_4 (by decide) (fun c4 => ?_) (fun c4 => ?_)
  · skip
    refine x_aload_n C (i := 0) dX0_signed_15 rfl rfl ?_
    refine x_getI C fi_19_5 kf_X0_76 dX0_signed_16 ?_
    refine x_topI (y := nI v) hv ?_
    refine x_iret C xr xk dX0_signed_19 ?_
    exact hK _ _ ⟨by unfold x_val; rw [c4]; rfl, rfl⟩
  · skip
    refine x_aload_n C (i := 0) dX0_signed_7 rfl rfl ?_
    refine x_getI C fi_19_5 kf_X0_76 dX0_signed_8 ?_
    refine x_topI (y := nI v) hv ?_
    refine x_ineg C dX0_signed_11 ?_
    refine x_goto C 19 dX0_signed_12 (by decide) ?_
    refine x_iret C xr xk dX0_signed_19 ?_
    exact hK _ _ ⟨by unfold x_val; rw [c4]; rfl, rfl⟩
theorem c_X0_signed (l : Launch) (Y : x_Y) (σ : x_S) (ng : Bool) (v : Nat) (hg : σ.1 19 6 = x_z ng) (hv : σ.1 19 5 = nI v) : x_M l yX0_signed cX0_signed 1 (some .int) 0 Y [.ref 19] σ (fun r τ => r = some (.int (x_val ng v)) ∧ τ = σ) := c_X0_signed_K l Y σ ng v hg hv _ (fun _ _ h => h)
set_option maxRecDepth 100000 in
set_option maxHeartbeats 200000 in
theorem c_X0_addDigit_K (l : Launch) (Y : x_Y) (σ : x_S) (p : Nat) (hp : p < 2 ^ 30) (v : Nat) (hv : σ.1 19 5 = nI v) (b : Nat → Int32) (t : Nat) (ht : σ.1 1 1 = nI t) (hb : σ.1 2 = b) (ht8 : t ≤ 8000)  (K : Option Value → x_S → Prop) (hK : ∀ (r : Option Value) (τ : x_S), ((x_dig (x_lookv b t p) = true ∧ r = some (.int (x_z true)) ∧ τ = x_u σ 19 5 (nI (10 * v + ((x_lookv b t p).toNatClampNeg - 48)))) ∨ (x_dig (x_lookv b t p) = false ∧ r = some (.int (x_z false)) ∧ τ = x_u σ 19 7 (nI p))) → K r τ) : x_M l yX0_addDigit cX0_addDigit 3 (some .boolean) 1 Y [.ref 19, .int (nI p)] σ K := by
  refine x_start (by decide) (Nat.le_of_ble_eq_true rfl) ?_
  intro xp xe xs xm xg xb xt xc C xr xk
  refine x_sig (σ' := x_st σ [(19, 5, nI v), (19, 7, σ.1 19 7)] [] []) (x_st_in (And.intro hv (And.intro rfl trivial)) trivial trivial) ?_
  refine x_aload_n C (i := 0) dX0_addDigit_0 rfl rfl ?_
  refine x_getR C fr_19_0 kf_X0_15 dX0_addDigit_1 ?_
  refine x_iload_n C (i := 1) dX0_addDigit_4 rfl rfl ?_
  have hM := c_X9_byteAt l Y (x_st σ [(19, 5, nI v), (19, 7, σ.1 19 7)] [] []) p t b ht hb ht8 (by omega)
  refine x_callV C (as := [.int (nI p)]) (st := []) (hM) kb_X9_byteAt kv_X0_54 dX0_addDigit_5 rfl rfl (Nat.le_of_ble_eq_true rfl) ⟨by decide, by decide⟩ ⟨by decide, by decide⟩ ko_1 ?_
  clear hM
  rintro _ _ ⟨rfl, rfl⟩
  refine x_istore_n C (i := 2) dX0_addDigit_8 rfl (by decide) ?_
  refine x_iload_n C (i := 2) dX0_addDigit_9 rfl rfl ?_
  have hM := c_X0_isDigit l Y (x_st σ [(19, 5, nI v), (19, 7, σ.1 19 7)] [] []) (x_lookv b t p)
  refine x_callS C (as := [.int (x_lookv b t p)]) (st := []) (hM) kb_X0_isDigit ks_X0_89 dX0_addDigit_10 rfl rfl (Nat.le_of_ble_eq_true rfl) ⟨by decide, by decide⟩ ⟨by decide, by decide⟩ ?_
  clear hM
  rintro _ _ ⟨rfl, rfl⟩
  refine x_if_neZ C 22 dX0_addDigit_13 (by decide) (fun c13 => ?_) (fun c13 => ?_)
  · skip
    refine x_aload_n C (i := 0) dX0_addDigit_22 rfl rfl ?_
    refine x_aload_n C (i := 0) dX0_addDigit_23 rfl rfl ?_
    refine x_getI C fi_19_5 kf_X0_76 dX0_addDigit_24 ?_
    refine x_topI (y := nI v) rfl ?_
    refine x_bipush C (nI 10) dX0_addDigit_27 rfl ?_
    refine x_imulN C dX0_addDigit_29 ?_
    refine x_iload_n C (i := 2) dX0_addDigit_30 rfl rfl ?_
    refine x_iadd C dX0_addDigit_31 ?_
    refine x_bipush C (nI 48) dX0_addDigit_32 rfl ?_
    refine x_isub C dX0_addDigit_34 ?_
    refine x_topI (y := nI (10 * v + ((x_lookv b t p).toNatClampNeg - 48))) (z_dg_v c13) ?_
    refine x_putN C fi_19_5 kf_X0_76 rfl rfl dX0_addDigit_35 ?_
    refine x_sig (σ' := x_st σ [(19, 5, nI (10 * v + ((x_lookv b t p).toNatClampNeg - 48))), (19, 7, σ.1 19 7)] [] []) (x_st_u rfl) ?_
    refine x_iconst C (nI 1) dX0_addDigit_38 rfl ?_
    refine x_zret C xr xk dX0_addDigit_39 rfl ?_
    exact hK _ _ (Or.inl ⟨c13, rfl, ((congrArg (fun z => x_u z 19 5 (nI (10 * v + ((x_lookv b t p).toNatClampNeg - 48)))) (x_st_in (σ := σ) (F := [(19, 5, nI v), (19, 7, σ.1 19 7)]) (I := []) (G := []) (And.intro hv (And.intro rfl trivial)) trivial trivial)).trans (x_st_u rfl)).symm⟩)
  · skip
    refine x_aload_n C (i := 0) dX0_addDigit_16 rfl rfl ?_
    refine x_iload_n C (i := 1) dX0_addDigit_17 rfl rfl ?_
    have hM := c_X0_failAt l Y (x_st σ [(19, 5, nI v), (19, 7, σ.1 19 7)] [] []) p
    refine x_callV C (as := [.int (nI p)]) (st := []) (hM) kb_X0_failAt kv_X0_83 dX0_addDigit_18 rfl rfl (Nat.le_of_ble_eq_true rfl) ⟨by decide, by decide⟩ ⟨by decide, by decide⟩ ko_19 ?_
    clear hM
    rintro _ _ ⟨rfl, rfl⟩
    refine x_sig (σ' := x_st σ [(19, 5, nI v), (19, 7, nI p)] [] []) (x_st_u rfl) ?_
    refine x_zret C xr xk dX0_addDigit_21 (x_z_n _) ?_
    exact hK _ _ (Or.inr ⟨c13, rfl, ((congrArg (fun z => x_u z 19 7 (nI p)) (x_st_in (σ := σ) (F := [(19, 5, nI v), (19, 7, σ.1 19 7)]) (I := []) (G := []) (And.intro hv (And.intro rfl trivial)) trivial trivial)).trans (x_st_u rfl)).symm⟩)
theorem c_X0_addDigit (l : Launch) (Y : x_Y) (σ : x_S) (p : Nat) (hp : p < 2 ^ 30) (v : Nat) (hv : σ.1 19 5 = nI v) (b : Nat → Int32) (t : Nat) (ht : σ.1 1 1 = nI t) (hb : σ.1 2 = b) (ht8 : t ≤ 8000)  : x_M l yX0_addDigit cX0_addDigit 3 (some .boolean) 1 Y [.ref 19, .int (nI p)] σ (fun r τ => (x_dig (x_lookv b t p) = true ∧ r = some (.int (x_z true)) ∧ τ = x_u σ 19 5 (nI (10 * v + ((x_lookv b t p).toNatClampNeg - 48)))) ∨ (x_dig (x_lookv b t p) = false ∧ r = some (.int (x_z false)) ∧ τ = x_u σ 19 7 (nI p))) := c_X0_addDigit_K l Y σ p hp v hv b t ht hb ht8 _ (fun _ _ h => h)
set_option maxRecDepth 100000 in
set_option maxHeartbeats 400000 in
theorem c_X0_readWhole_K (l : Launch) (Y : x_Y) (σ : x_S) (fr w : Nat) (sg : Bool) (hf : fr ≤ 9000) (hw0 : 1 ≤ w) (hw9 : w ≤ 5) (b : Nat → Int32) (t : Nat) (ht : σ.1 1 1 = nI t) (hb : σ.1 2 = b) (ht8 : t ≤ 8000)  (K : Option Value → x_S → Prop) (hK : ∀ (r : Option Value) (τ : x_S), (((x_colf b t sg w fr false false 0).1 = true ∧ r = some (.int (x_z true)) ∧ (x_colf b t sg w fr false false 0).2.2.2 < 10 ^ w ∧ ∃ q, τ = x_st σ [(19, 5, nI (x_colf b t sg w fr false false 0).2.2.2), (19, 6, x_z (x_colf b t sg w fr false false 0).2.2.1), (19, 7, q)] [] []) ∨ ((x_colf b t sg w fr false false 0).1 = false ∧ r = some (.int (x_z false)) ∧ ∃ q1 q2, τ = x_st σ [(19, 5, q1), (19, 6, q2), (19, 7, nI (x_colf b t sg w fr false false 0).2.1)] [] [])) → K r τ) : x_M l yX0_readWhole cX0_readWhole 8 (some .boolean) 2 Y [.ref 19, .int (nI fr), .int (nI w), .int (x_z sg)] σ K := by
  refine x_start (by decide) (Nat.le_of_ble_eq_true rfl) ?_
  intro xp xe xs xm xg xb xt xc C xr xk
  refine x_sig (σ' := x_st σ [(19, 5, σ.1 19 5), (19, 6, σ.1 19 6), (19, 7, σ.1 19 7)] [] []) (x_st_in (And.intro rfl (And.intro rfl (And.intro rfl trivial))) trivial trivial) ?_
  refine x_iconst C (nI 0) dX0_readWhole_0 rfl ?_
  refine x_istore C (i := 4) dX0_readWhole_1 (by decide) ?_
  refine x_aload_n C (i := 0) dX0_readWhole_3 rfl rfl ?_
  refine x_iconst C (nI 0) dX0_readWhole_4 rfl ?_
  refine x_putN C fi_19_5 kf_X0_76 rfl rfl dX0_readWhole_5 ?_
  refine x_sig (σ' := x_st σ [(19, 5, nI 0), (19, 6, σ.1 19 6), (19, 7, σ.1 19 7)] [] []) (x_st_u rfl) ?_
  refine x_aload_n C (i := 0) dX0_readWhole_8 rfl rfl ?_
  refine x_iconst C (nI 0) dX0_readWhole_9 rfl ?_
  refine x_congr (st' := .int (x_z false) :: .ref 19 :: []) rfl rfl ?_
  refine x_putZ C fi_19_6 kf_X0_72 rfl rfl dX0_readWhole_10 ?_
  refine x_sig (σ' := x_st σ [(19, 5, nI 0), (19, 6, x_z false), (19, 7, σ.1 19 7)] [] []) (x_st_u rfl) ?_
  refine x_iload_n C (i := 1) dX0_readWhole_13 rfl rfl ?_
  refine x_istore C (i := 5) dX0_readWhole_14 (by decide) ?_
  have lp16 : ∀ (m16 : Nat) (p : Nat) (bg : Bool) (ng : Bool) (v : Nat) (bgn : Bool), (fr + w - p) = m16 → (fr ≤ p) → (p ≤ fr + w) → (bgn = (bg || ng)) → (v < 10 ^ (p - fr)) → (x_colf b t sg (fr + w - p) p bg ng v = x_colf b t sg w fr false false 0) → ∀ L : x_Lo, L.1 0 = some (.ref 19) → L.1 1 = some (.int (nI fr)) → L.1 2 = some (.int (nI w)) → L.1 3 = some (.int (x_z sg)) → L.1 4 = some (.int (x_z bgn)) → L.1 5 = some (.int (nI p)) → x_W xp l xe (x_rm 2) xs xm xg xb xt xc 8 Y 0 0 (MQ xb (x_Q Y K) xg xs 0 0 (x_A Y)) 16 L [] (x_st σ [(19, 5, nI v), (19, 6, x_z ng), (19, 7, σ.1 19 7)] [] []) := by
    intro m16
    induction m16 using Nat.strongRecOn with
    | _ m16 ih16 =>
      intro p bg ng v bgn hm16 hp1 hp2 hb2 hv9 hR L xl0 xl1 xl2 xl3 xl4 xl5
      refine x_iload C (i := 5) dX0_readWhole_16 xl5 ?_
      refine x_iload_n C (i := 1) dX0_readWhole_18 rfl xl1 ?_
      refine x_iload_n C (i := 2) dX0_readWhole_19 rfl xl2 ?_
      refine x_iaddN C dX0_readWhole_20 ?_
      refine x_icmp_geN C 116 dX0_readWhole_21 (by decide) (by omega) (by omega) (fun c21 => ?_) (fun c21 => ?_)
      · skip
        have c21' := Nat.not_lt.mpr c21
        have hE : x_colf b t sg w fr false false 0 = (true, p, ng, v) := by rw [← hR, show fr + w - p = 0 by omega]; rfl
        refine x_iconst C (nI 1) dX0_readWhole_116 rfl ?_
        refine x_zret C xr xk dX0_readWhole_117 rfl ?_
        exact hK _ _ (by
          rw [hE]
          exact Or.inl ⟨rfl, rfl, by rw [show w = p - fr by omega]; exact hv9, _, rfl⟩)
      · skip
        have c21' := Nat.not_le.mpr c21
        obtain ⟨k, hk⟩ : ∃ k, fr + w - p = k + 1 := ⟨fr + w - p - 1, by omega⟩
        refine x_aload_n C (i := 0) dX0_readWhole_24 rfl xl0 ?_
        refine x_getR C fr_19_0 kf_X0_15 dX0_readWhole_25 ?_
        refine x_iload C (i := 5) dX0_readWhole_28 xl5 ?_
        have hM := c_X9_byteAt l Y (x_st σ [(19, 5, nI v), (19, 6, x_z ng), (19, 7, σ.1 19 7)] [] []) p t b ht hb ht8 (by omega)
        refine x_callV C (as := [.int (nI p)]) (st := []) (hM) kb_X9_byteAt kv_X0_54 dX0_readWhole_30 rfl rfl (Nat.le_of_ble_eq_true rfl) ⟨by decide, by decide⟩ ⟨by decide, by decide⟩ ko_1 ?_
        clear hM
        rintro _ _ ⟨rfl, rfl⟩
        refine x_istore C (i := 6) dX0_readWhole_33 (by decide) ?_
        refine x_iload C (i := 4) dX0_readWhole_35 xl4 ?_
        refine x_if_neZ C 54 dX0_readWhole_37 (by decide) (fun c37 => ?_) (fun c37 => ?_)
        · skip
          have hno : x_cb (x_lookv b t p) bg ng (decide (k = 0)) = false ∧ x_cm (x_lookv b t p) sg bg ng (decide (k = 0)) = false := z_cfA (by rw [← hb2]; exact c37)
          refine x_iconst C (nI 0) dX0_readWhole_54 rfl ?_
          refine x_istore C (i := 7) dX0_readWhole_55 (by decide) ?_
          refine x_iload C (i := 6) dX0_readWhole_57 rfl ?_
          refine x_bipush C (nI 32) dX0_readWhole_59 rfl ?_
          refine x_icmp_ne C 72 dX0_readWhole_61 (by decide) (fun c61 => ?_) (fun c61 => ?_)
          · skip
            refine x_iconst C (nI 1) dX0_readWhole_72 rfl ?_
            refine x_istore C (i := 4) dX0_readWhole_73 (by decide) ?_
            refine x_iload C (i := 6) dX0_readWhole_75 rfl ?_
            refine x_bipush C (nI 45) dX0_readWhole_77 rfl ?_
            refine x_icmp_ne C 99 dX0_readWhole_79 (by decide) (fun c79 => ?_) (fun c79 => ?_)
            · skip
              refine x_aload_n C (i := 0) dX0_readWhole_99 rfl xl0 ?_
              refine x_iload C (i := 5) dX0_readWhole_100 xl5 ?_
              have hM := c_X0_addDigit l Y (x_st σ [(19, 5, nI v), (19, 6, x_z ng), (19, 7, σ.1 19 7)] [] []) p (by omega) v rfl b t ht hb ht8
              refine x_callV C (as := [.int (nI p)]) (st := []) (hM) kb_X0_addDigit kv_X0_86 dX0_readWhole_102 rfl rfl (Nat.le_of_ble_eq_true rfl) ⟨by decide, by decide⟩ ⟨by decide, by decide⟩ ko_19 ?_
              clear hM
              rintro _ _ (⟨hdg, rfl, rfl⟩ | ⟨hdg, rfl, rfl⟩)
              · skip
                refine x_sig (σ' := x_st σ [(19, 5, nI (10 * v + ((x_lookv b t p).toNatClampNeg - 48))), (19, 6, x_z ng), (19, 7, σ.1 19 7)] [] []) (x_st_u rfl) ?_
                refine x_if_neZ C 110 dX0_readWhole_105 (by decide) (fun c105 => ?_) (fun c105 => absurd c105 (by decide))
                refine x_iincN C (i := 5) (b := 1) dX0_readWhole_110 xl5 rfl (by decide) ?_
                refine x_goto C 16 dX0_readWhole_113 (by decide) ?_
                exact ih16 _ (by omega) (p + 1) true ng (10 * v + ((x_lookv b t p).toNatClampNeg - 48)) true rfl (by omega) (by omega) rfl (z_v10 hv9 hp1 hdg) (by rw [← hR, hk, z_cf_d hdg, show fr + w - (p + 1) = k by omega]) _ xl0 xl1 xl2 xl3 rfl rfl
              · skip
                refine x_sig (σ' := x_st σ [(19, 5, nI v), (19, 6, x_z ng), (19, 7, nI p)] [] []) (x_st_u rfl) ?_
                refine x_if_neZ C 110 dX0_readWhole_105 (by decide) (fun c105 => absurd c105 (by decide)) (fun c105 => ?_)
                refine x_iconst C (nI 0) dX0_readWhole_108 rfl ?_
                refine x_zret C xr xk dX0_readWhole_109 rfl ?_
                exact hK _ _ (by
                  have hE : x_colf b t sg w fr false false 0 = (false, p, ng, v) := by rw [← hR, hk]; exact z_cf_f hdg hno
                  rw [hE]
                  exact Or.inr ⟨rfl, rfl, _, _, rfl⟩)
            · skip
              refine x_iload C (i := 7) dX0_readWhole_82 rfl ?_
              refine x_if_eqN C 99 dX0_readWhole_84 (by decide) (by omega) (fun c84 => ?_) (fun c84 => absurd c84 (by decide))
              refine x_aload_n C (i := 0) dX0_readWhole_99 rfl xl0 ?_
              refine x_iload C (i := 5) dX0_readWhole_100 xl5 ?_
              have hM := c_X0_addDigit l Y (x_st σ [(19, 5, nI v), (19, 6, x_z ng), (19, 7, σ.1 19 7)] [] []) p (by omega) v rfl b t ht hb ht8
              refine x_callV C (as := [.int (nI p)]) (st := []) (hM) kb_X0_addDigit kv_X0_86 dX0_readWhole_102 rfl rfl (Nat.le_of_ble_eq_true rfl) ⟨by decide, by decide⟩ ⟨by decide, by decide⟩ ko_19 ?_
              clear hM
              rintro _ _ (⟨hdg, rfl, rfl⟩ | ⟨hdg, rfl, rfl⟩)
              · skip
                refine x_sig (σ' := x_st σ [(19, 5, nI (10 * v + ((x_lookv b t p).toNatClampNeg - 48))), (19, 6, x_z ng), (19, 7, σ.1 19 7)] [] []) (x_st_u rfl) ?_
                refine x_if_neZ C 110 dX0_readWhole_105 (by decide) (fun c105 => ?_) (fun c105 => absurd c105 (by decide))
                refine x_iincN C (i := 5) (b := 1) dX0_readWhole_110 xl5 rfl (by decide) ?_
                refine x_goto C 16 dX0_readWhole_113 (by decide) ?_
                exact ih16 _ (by omega) (p + 1) true ng (10 * v + ((x_lookv b t p).toNatClampNeg - 48)) true rfl (by omega) (by omega) rfl (z_v10 hv9 hp1 hdg) (by rw [← hR, hk, z_cf_d hdg, show fr + w - (p + 1) = k by omega]) _ xl0 xl1 xl2 xl3 rfl rfl
              · skip
                refine x_sig (σ' := x_st σ [(19, 5, nI v), (19, 6, x_z ng), (19, 7, nI p)] [] []) (x_st_u rfl) ?_
                refine x_if_neZ C 110 dX0_readWhole_105 (by decide) (fun c105 => absurd c105 (by decide)) (fun c105 => ?_)
                refine x_iconst C (nI 0) dX0_readWhole_108 rfl ?_
                refine x_zret C xr xk dX0_readWhole_109 rfl ?_
                exact hK _ _ (by
                  have hE : x_colf b t sg w fr false false 0 = (false, p, ng, v) := by rw [← hR, hk]; exact z_cf_f hdg hno
                  rw [hE]
                  exact Or.inr ⟨rfl, rfl, _, _, rfl⟩)
          · skip
            refine x_iload C (i := 7) dX0_readWhole_64 rfl ?_
            refine x_if_eqN C 72 dX0_readWhole_66 (by decide) (by omega) (fun c66 => ?_) (fun c66 => absurd c66 (by decide))
            refine x_iconst C (nI 1) dX0_readWhole_72 rfl ?_
            refine x_istore C (i := 4) dX0_readWhole_73 (by decide) ?_
            refine x_iload C (i := 6) dX0_readWhole_75 rfl ?_
            refine x_bipush C (nI 45) dX0_readWhole_77 rfl ?_
            refine x_icmp_ne C 99 dX0_readWhole_79 (by decide) (fun c79 => ?_) (fun c79 => ?_)
            · skip
              refine x_aload_n C (i := 0) dX0_readWhole_99 rfl xl0 ?_
              refine x_iload C (i := 5) dX0_readWhole_100 xl5 ?_
              have hM := c_X0_addDigit l Y (x_st σ [(19, 5, nI v), (19, 6, x_z ng), (19, 7, σ.1 19 7)] [] []) p (by omega) v rfl b t ht hb ht8
              refine x_callV C (as := [.int (nI p)]) (st := []) (hM) kb_X0_addDigit kv_X0_86 dX0_readWhole_102 rfl rfl (Nat.le_of_ble_eq_true rfl) ⟨by decide, by decide⟩ ⟨by decide, by decide⟩ ko_19 ?_
              clear hM
              rintro _ _ (⟨hdg, rfl, rfl⟩ | ⟨hdg, rfl, rfl⟩)
              · skip
                refine x_sig (σ' := x_st σ [(19, 5, nI (10 * v + ((x_lookv b t p).toNatClampNeg - 48))), (19, 6, x_z ng), (19, 7, σ.1 19 7)] [] []) (x_st_u rfl) ?_
                refine x_if_neZ C 110 dX0_readWhole_105 (by decide) (fun c105 => ?_) (fun c105 => absurd c105 (by decide))
                refine x_iincN C (i := 5) (b := 1) dX0_readWhole_110 xl5 rfl (by decide) ?_
                refine x_goto C 16 dX0_readWhole_113 (by decide) ?_
                exact ih16 _ (by omega) (p + 1) true ng (10 * v + ((x_lookv b t p).toNatClampNeg - 48)) true rfl (by omega) (by omega) rfl (z_v10 hv9 hp1 hdg) (by rw [← hR, hk, z_cf_d hdg, show fr + w - (p + 1) = k by omega]) _ xl0 xl1 xl2 xl3 rfl rfl
              · skip
                refine x_sig (σ' := x_st σ [(19, 5, nI v), (19, 6, x_z ng), (19, 7, nI p)] [] []) (x_st_u rfl) ?_
                refine x_if_neZ C 110 dX0_readWhole_105 (by decide) (fun c105 => absurd c105 (by decide)) (fun c105 => ?_)
                refine x_iconst C (nI 0) dX0_readWhole_108 rfl ?_
                refine x_zret C xr xk dX0_readWhole_109 rfl ?_
                exact hK _ _ (by
                  have hE : x_colf b t sg w fr false false 0 = (false, p, ng, v) := by rw [← hR, hk]; exact z_cf_f hdg hno
                  rw [hE]
                  exact Or.inr ⟨rfl, rfl, _, _, rfl⟩)
            · skip
              refine x_iload C (i := 7) dX0_readWhole_82 rfl ?_
              refine x_if_eqN C 99 dX0_readWhole_84 (by decide) (by omega) (fun c84 => ?_) (fun c84 => absurd c84 (by decide))
              refine x_aload_n C (i := 0) dX0_readWhole_99 rfl xl0 ?_
              refine x_iload C (i := 5) dX0_readWhole_100 xl5 ?_
              have hM := c_X0_addDigit l Y (x_st σ [(19, 5, nI v), (19, 6, x_z ng), (19, 7, σ.1 19 7)] [] []) p (by omega) v rfl b t ht hb ht8
              refine x_callV C (as := [.int (nI p)]) (st := []) (hM) kb_X0_addDigit kv_X0_86 dX0_readWhole_102 rfl rfl (Nat.le_of_ble_eq_true rfl) ⟨by decide, by decide⟩ ⟨by decide, by decide⟩ ko_19 ?_
              clear hM
              rintro _ _ (⟨hdg, rfl, rfl⟩ | ⟨hdg, rfl, rfl⟩)
              · skip
                refine x_sig (σ' := x_st σ [(19, 5, nI (10 * v + ((x_lookv b t p).toNatClampNeg - 48))), (19, 6, x_z ng), (19, 7, σ.1 19 7)] [] []) (x_st_u rfl) ?_
                refine x_if_neZ C 110 dX0_readWhole_105 (by decide) (fun c105 => ?_) (fun c105 => absurd c105 (by decide))
                refine x_iincN C (i := 5) (b := 1) dX0_readWhole_110 xl5 rfl (by decide) ?_
                refine x_goto C 16 dX0_readWhole_113 (by decide) ?_
                exact ih16 _ (by omega) (p + 1) true ng (10 * v + ((x_lookv b t p).toNatClampNeg - 48)) true rfl (by omega) (by omega) rfl (z_v10 hv9 hp1 hdg) (by rw [← hR, hk, z_cf_d hdg, show fr + w - (p + 1) = k by omega]) _ xl0 xl1 xl2 xl3 rfl rfl
              · skip
                refine x_sig (σ' := x_st σ [(19, 5, nI v), (19, 6, x_z ng), (19, 7, nI p)] [] []) (x_st_u rfl) ?_
                refine x_if_neZ C 110 dX0_readWhole_105 (by decide) (fun c105 => absurd c105 (by decide)) (fun c105 => ?_)
                refine x_iconst C (nI 0) dX0_readWhole_108 rfl ?_
                refine x_zret C xr xk dX0_readWhole_109 rfl ?_
                exact hK _ _ (by
                  have hE : x_colf b t sg w fr false false 0 = (false, p, ng, v) := by rw [← hR, hk]; exact z_cf_f hdg hno
                  rw [hE]
                  exact Or.inr ⟨rfl, rfl, _, _, rfl⟩)
        · skip
          refine x_iload C (i := 5) dX0_readWhole_40 xl5 ?_
          refine x_iload_n C (i := 1) dX0_readWhole_42 rfl xl1 ?_
          refine x_iload_n C (i := 2) dX0_readWhole_43 rfl xl2 ?_
          refine x_iaddN C dX0_readWhole_44 ?_
          refine x_iconst C (nI 1) dX0_readWhole_45 rfl ?_
          refine x_isubN C dX0_readWhole_46 (by omega) ?_
          refine x_icmp_geN C 54 dX0_readWhole_47 (by decide) (by omega) (by omega) (fun c47 => ?_) (fun c47 => ?_)
          · skip
            have c47' := Nat.not_lt.mpr c47
            have hno : x_cb (x_lookv b t p) bg ng (decide (k = 0)) = false ∧ x_cm (x_lookv b t p) sg bg ng (decide (k = 0)) = false := z_cfB (decide_eq_true (by omega))
            refine x_iconst C (nI 0) dX0_readWhole_54 rfl ?_
            refine x_istore C (i := 7) dX0_readWhole_55 (by decide) ?_
            refine x_iload C (i := 6) dX0_readWhole_57 rfl ?_
            refine x_bipush C (nI 32) dX0_readWhole_59 rfl ?_
            refine x_icmp_ne C 72 dX0_readWhole_61 (by decide) (fun c61 => ?_) (fun c61 => ?_)
            · skip
              refine x_iconst C (nI 1) dX0_readWhole_72 rfl ?_
              refine x_istore C (i := 4) dX0_readWhole_73 (by decide) ?_
              refine x_iload C (i := 6) dX0_readWhole_75 rfl ?_
              refine x_bipush C (nI 45) dX0_readWhole_77 rfl ?_
              refine x_icmp_ne C 99 dX0_readWhole_79 (by decide) (fun c79 => ?_) (fun c79 => ?_)
              · skip
                refine x_aload_n C (i := 0) dX0_readWhole_99 rfl xl0 ?_
                refine x_iload C (i := 5) dX0_readWhole_100 xl5 ?_
                have hM := c_X0_addDigit l Y (x_st σ [(19, 5, nI v), (19, 6, x_z ng), (19, 7, σ.1 19 7)] [] []) p (by omega) v rfl b t ht hb ht8
                refine x_callV C (as := [.int (nI p)]) (st := []) (hM) kb_X0_addDigit kv_X0_86 dX0_readWhole_102 rfl rfl (Nat.le_of_ble_eq_true rfl) ⟨by decide, by decide⟩ ⟨by decide, by decide⟩ ko_19 ?_
                clear hM
                rintro _ _ (⟨hdg, rfl, rfl⟩ | ⟨hdg, rfl, rfl⟩)
                · skip
                  refine x_sig (σ' := x_st σ [(19, 5, nI (10 * v + ((x_lookv b t p).toNatClampNeg - 48))), (19, 6, x_z ng), (19, 7, σ.1 19 7)] [] []) (x_st_u rfl) ?_
                  refine x_if_neZ C 110 dX0_readWhole_105 (by decide) (fun c105 => ?_) (fun c105 => absurd c105 (by decide))
                  refine x_iincN C (i := 5) (b := 1) dX0_readWhole_110 xl5 rfl (by decide) ?_
                  refine x_goto C 16 dX0_readWhole_113 (by decide) ?_
                  exact ih16 _ (by omega) (p + 1) true ng (10 * v + ((x_lookv b t p).toNatClampNeg - 48)) true rfl (by omega) (by omega) rfl (z_v10 hv9 hp1 hdg) (by rw [← hR, hk, z_cf_d hdg, show fr + w - (p + 1) = k by omega]) _ xl0 xl1 xl2 xl3 rfl rfl
                · skip
                  refine x_sig (σ' := x_st σ [(19, 5, nI v), (19, 6, x_z ng), (19, 7, nI p)] [] []) (x_st_u rfl) ?_
                  refine x_if_neZ C 110 dX0_readWhole_105 (by decide) (fun c105 => absurd c105 (by decide)) (fun c105 => ?_)
                  refine x_iconst C (nI 0) dX0_readWhole_108 rfl ?_
                  refine x_zret C xr xk dX0_readWhole_109 rfl ?_
                  exact hK _ _ (by
                    have hE : x_colf b t sg w fr false false 0 = (false, p, ng, v) := by rw [← hR, hk]; exact z_cf_f hdg hno
                    rw [hE]
                    exact Or.inr ⟨rfl, rfl, _, _, rfl⟩)
              · skip
                refine x_iload C (i := 7) dX0_readWhole_82 rfl ?_
                refine x_if_eqN C 99 dX0_readWhole_84 (by decide) (by omega) (fun c84 => ?_) (fun c84 => absurd c84 (by decide))
                refine x_aload_n C (i := 0) dX0_readWhole_99 rfl xl0 ?_
                refine x_iload C (i := 5) dX0_readWhole_100 xl5 ?_
                have hM := c_X0_addDigit l Y (x_st σ [(19, 5, nI v), (19, 6, x_z ng), (19, 7, σ.1 19 7)] [] []) p (by omega) v rfl b t ht hb ht8
                refine x_callV C (as := [.int (nI p)]) (st := []) (hM) kb_X0_addDigit kv_X0_86 dX0_readWhole_102 rfl rfl (Nat.le_of_ble_eq_true rfl) ⟨by decide, by decide⟩ ⟨by decide, by decide⟩ ko_19 ?_
                clear hM
                rintro _ _ (⟨hdg, rfl, rfl⟩ | ⟨hdg, rfl, rfl⟩)
                · skip
                  refine x_sig (σ' := x_st σ [(19, 5, nI (10 * v + ((x_lookv b t p).toNatClampNeg - 48))), (19, 6, x_z ng), (19, 7, σ.1 19 7)] [] []) (x_st_u rfl) ?_
                  refine x_if_neZ C 110 dX0_readWhole_105 (by decide) (fun c105 => ?_) (fun c105 => absurd c105 (by decide))
                  refine x_iincN C (i := 5) (b := 1) dX0_readWhole_110 xl5 rfl (by decide) ?_
                  refine x_goto C 16 dX0_readWhole_113 (by decide) ?_
                  exact ih16 _ (by omega) (p + 1) true ng (10 * v + ((x_lookv b t p).toNatClampNeg - 48)) true rfl (by omega) (by omega) rfl (z_v10 hv9 hp1 hdg) (by rw [← hR, hk, z_cf_d hdg, show fr + w - (p + 1) = k by omega]) _ xl0 xl1 xl2 xl3 rfl rfl
                · skip
                  refine x_sig (σ' := x_st σ [(19, 5, nI v), (19, 6, x_z ng), (19, 7, nI p)] [] []) (x_st_u rfl) ?_
                  refine x_if_neZ C 110 dX0_readWhole_105 (by decide) (fun c105 => absurd c105 (by decide)) (fun c105 => ?_)
                  refine x_iconst C (nI 0) dX0_readWhole_108 rfl ?_
                  refine x_zret C xr xk dX0_readWhole_109 rfl ?_
                  exact hK _ _ (by
                    have hE : x_colf b t sg w fr false false 0 = (false, p, ng, v) := by rw [← hR, hk]; exact z_cf_f hdg hno
                    rw [hE]
                    exact Or.inr ⟨rfl, rfl, _, _, rfl⟩)
            · skip
              refine x_iload C (i := 7) dX0_readWhole_64 rfl ?_
              refine x_if_eqN C 72 dX0_readWhole_66 (by decide) (by omega) (fun c66 => ?_) (fun c66 => absurd c66 (by decide))
              refine x_iconst C (nI 1) dX0_readWhole_72 rfl ?_
              refine x_istore C (i := 4) dX0_readWhole_73 (by decide) ?_
              refine x_iload C (i := 6) dX0_readWhole_75 rfl ?_
              refine x_bipush C (nI 45) dX0_readWhole_77 rfl ?_
              refine x_icmp_ne C 99 dX0_readWhole_79 (by decide) (fun c79 => ?_) (fun c79 => ?_)
              · skip
                refine x_aload_n C (i := 0) dX0_readWhole_99 rfl xl0 ?_
                refine x_iload C (i := 5) dX0_readWhole_100 xl5 ?_
                have hM := c_X0_addDigit l Y (x_st σ [(19, 5, nI v), (19, 6, x_z ng), (19, 7, σ.1 19 7)] [] []) p (by omega) v rfl b t ht hb ht8
                refine x_callV C (as := [.int (nI p)]) (st := []) (hM) kb_X0_addDigit kv_X0_86 dX0_readWhole_102 rfl rfl (Nat.le_of_ble_eq_true rfl) ⟨by decide, by decide⟩ ⟨by decide, by decide⟩ ko_19 ?_
                clear hM
                rintro _ _ (⟨hdg, rfl, rfl⟩ | ⟨hdg, rfl, rfl⟩)
                · skip
                  refine x_sig (σ' := x_st σ [(19, 5, nI (10 * v + ((x_lookv b t p).toNatClampNeg - 48))), (19, 6, x_z ng), (19, 7, σ.1 19 7)] [] []) (x_st_u rfl) ?_
                  refine x_if_neZ C 110 dX0_readWhole_105 (by decide) (fun c105 => ?_) (fun c105 => absurd c105 (by decide))
                  refine x_iincN C (i := 5) (b := 1) dX0_readWhole_110 xl5 rfl (by decide) ?_
                  refine x_goto C 16 dX0_readWhole_113 (by decide) ?_
                  exact ih16 _ (by omega) (p + 1) true ng (10 * v + ((x_lookv b t p).toNatClampNeg - 48)) true rfl (by omega) (by omega) rfl (z_v10 hv9 hp1 hdg) (by rw [← hR, hk, z_cf_d hdg, show fr + w - (p + 1) = k by omega]) _ xl0 xl1 xl2 xl3 rfl rfl
                · skip
                  refine x_sig (σ' := x_st σ [(19, 5, nI v), (19, 6, x_z ng), (19, 7, nI p)] [] []) (x_st_u rfl) ?_
                  refine x_if_neZ C 110 dX0_readWhole_105 (by decide) (fun c105 => absurd c105 (by decide)) (fun c105 => ?_)
                  refine x_iconst C (nI 0) dX0_readWhole_108 rfl ?_
                  refine x_zret C xr xk dX0_readWhole_109 rfl ?_
                  exact hK _ _ (by
                    have hE : x_colf b t sg w fr false false 0 = (false, p, ng, v) := by rw [← hR, hk]; exact z_cf_f hdg hno
                    rw [hE]
                    exact Or.inr ⟨rfl, rfl, _, _, rfl⟩)
              · skip
                refine x_iload C (i := 7) dX0_readWhole_82 rfl ?_
                refine x_if_eqN C 99 dX0_readWhole_84 (by decide) (by omega) (fun c84 => ?_) (fun c84 => absurd c84 (by decide))
                refine x_aload_n C (i := 0) dX0_readWhole_99 rfl xl0 ?_
                refine x_iload C (i := 5) dX0_readWhole_100 xl5 ?_
                have hM := c_X0_addDigit l Y (x_st σ [(19, 5, nI v), (19, 6, x_z ng), (19, 7, σ.1 19 7)] [] []) p (by omega) v rfl b t ht hb ht8
                refine x_callV C (as := [.int (nI p)]) (st := []) (hM) kb_X0_addDigit kv_X0_86 dX0_readWhole_102 rfl rfl (Nat.le_of_ble_eq_true rfl) ⟨by decide, by decide⟩ ⟨by decide, by decide⟩ ko_19 ?_
                clear hM
                rintro _ _ (⟨hdg, rfl, rfl⟩ | ⟨hdg, rfl, rfl⟩)
                · skip
                  refine x_sig (σ' := x_st σ [(19, 5, nI (10 * v + ((x_lookv b t p).toNatClampNeg - 48))), (19, 6, x_z ng), (19, 7, σ.1 19 7)] [] []) (x_st_u rfl) ?_
                  refine x_if_neZ C 110 dX0_readWhole_105 (by decide) (fun c105 => ?_) (fun c105 => absurd c105 (by decide))
                  refine x_iincN C (i := 5) (b := 1) dX0_readWhole_110 xl5 rfl (by decide) ?_
                  refine x_goto C 16 dX0_readWhole_113 (by decide) ?_
                  exact ih16 _ (by omega) (p + 1) true ng (10 * v + ((x_lookv b t p).toNatClampNeg - 48)) true rfl (by omega) (by omega) rfl (z_v10 hv9 hp1 hdg) (by rw [← hR, hk, z_cf_d hdg, show fr + w - (p + 1) = k by omega]) _ xl0 xl1 xl2 xl3 rfl rfl
                · skip
                  refine x_sig (σ' := x_st σ [(19, 5, nI v), (19, 6, x_z ng), (19, 7, nI p)] [] []) (x_st_u rfl) ?_
                  refine x_if_neZ C 110 dX0_readWhole_105 (by decide) (fun c105 => absurd c105 (by decide)) (fun c105 => ?_)
                  refine x_iconst C (nI 0) dX0_readWhole_108 rfl ?_
                  refine x_zret C xr xk dX0_readWhole_109 rfl ?_
                  exact hK _ _ (by
                    have hE : x_colf b t sg w fr false false 0 = (false, p, ng, v) := by rw [← hR, hk]; exact z_cf_f hdg hno
                    rw [hE]
                    exact Or.inr ⟨rfl, rfl, _, _, rfl⟩)
          · skip
            have c47' := Nat.not_le.mpr c47
            have hyes : bg = false ∧ ng = false ∧ k ≠ 0 := ⟨z_orf1 (hb2.symm.trans c37), z_orf2 (hb2.symm.trans c37), by omega⟩
            refine x_iconst C (nI 1) dX0_readWhole_50 rfl ?_
            refine x_goto C 55 dX0_readWhole_51 (by decide) ?_
            refine x_istore C (i := 7) dX0_readWhole_55 (by decide) ?_
            refine x_iload C (i := 6) dX0_readWhole_57 rfl ?_
            refine x_bipush C (nI 32) dX0_readWhole_59 rfl ?_
            refine x_icmp_ne C 72 dX0_readWhole_61 (by decide) (fun c61 => ?_) (fun c61 => ?_)
            · skip
              refine x_iconst C (nI 1) dX0_readWhole_72 rfl ?_
              refine x_istore C (i := 4) dX0_readWhole_73 (by decide) ?_
              refine x_iload C (i := 6) dX0_readWhole_75 rfl ?_
              refine x_bipush C (nI 45) dX0_readWhole_77 rfl ?_
              refine x_icmp_ne C 99 dX0_readWhole_79 (by decide) (fun c79 => ?_) (fun c79 => ?_)
              · skip
                have hno : x_cb (x_lookv b t p) bg ng (decide (k = 0)) = false ∧ x_cm (x_lookv b t p) sg bg ng (decide (k = 0)) = false := z_cfC1 c61 c79
                refine x_aload_n C (i := 0) dX0_readWhole_99 rfl xl0 ?_
                refine x_iload C (i := 5) dX0_readWhole_100 xl5 ?_
                have hM := c_X0_addDigit l Y (x_st σ [(19, 5, nI v), (19, 6, x_z ng), (19, 7, σ.1 19 7)] [] []) p (by omega) v rfl b t ht hb ht8
                refine x_callV C (as := [.int (nI p)]) (st := []) (hM) kb_X0_addDigit kv_X0_86 dX0_readWhole_102 rfl rfl (Nat.le_of_ble_eq_true rfl) ⟨by decide, by decide⟩ ⟨by decide, by decide⟩ ko_19 ?_
                clear hM
                rintro _ _ (⟨hdg, rfl, rfl⟩ | ⟨hdg, rfl, rfl⟩)
                · skip
                  refine x_sig (σ' := x_st σ [(19, 5, nI (10 * v + ((x_lookv b t p).toNatClampNeg - 48))), (19, 6, x_z ng), (19, 7, σ.1 19 7)] [] []) (x_st_u rfl) ?_
                  refine x_if_neZ C 110 dX0_readWhole_105 (by decide) (fun c105 => ?_) (fun c105 => absurd c105 (by decide))
                  refine x_iincN C (i := 5) (b := 1) dX0_readWhole_110 xl5 rfl (by decide) ?_
                  refine x_goto C 16 dX0_readWhole_113 (by decide) ?_
                  exact ih16 _ (by omega) (p + 1) true ng (10 * v + ((x_lookv b t p).toNatClampNeg - 48)) true rfl (by omega) (by omega) rfl (z_v10 hv9 hp1 hdg) (by rw [← hR, hk, z_cf_d hdg, show fr + w - (p + 1) = k by omega]) _ xl0 xl1 xl2 xl3 rfl rfl
                · skip
                  refine x_sig (σ' := x_st σ [(19, 5, nI v), (19, 6, x_z ng), (19, 7, nI p)] [] []) (x_st_u rfl) ?_
                  refine x_if_neZ C 110 dX0_readWhole_105 (by decide) (fun c105 => absurd c105 (by decide)) (fun c105 => ?_)
                  refine x_iconst C (nI 0) dX0_readWhole_108 rfl ?_
                  refine x_zret C xr xk dX0_readWhole_109 rfl ?_
                  exact hK _ _ (by
                    have hE : x_colf b t sg w fr false false 0 = (false, p, ng, v) := by rw [← hR, hk]; exact z_cf_f hdg hno
                    rw [hE]
                    exact Or.inr ⟨rfl, rfl, _, _, rfl⟩)
              · skip
                refine x_iload C (i := 7) dX0_readWhole_82 rfl ?_
                refine x_if_eqN C 99 dX0_readWhole_84 (by decide) (by omega) (fun c84 => absurd c84 (by decide)) (fun c84 => ?_)
                refine x_iload_n C (i := 3) dX0_readWhole_87 rfl xl3 ?_
                refine x_if_eqZ C 99 dX0_readWhole_88 (by decide) (fun c88 => ?_) (fun c88 => ?_)
                · skip
                  have hno : x_cb (x_lookv b t p) bg ng (decide (k = 0)) = false ∧ x_cm (x_lookv b t p) sg bg ng (decide (k = 0)) = false := z_cfC2 c61 c88
                  refine x_aload_n C (i := 0) dX0_readWhole_99 rfl xl0 ?_
                  refine x_iload C (i := 5) dX0_readWhole_100 xl5 ?_
                  have hM := c_X0_addDigit l Y (x_st σ [(19, 5, nI v), (19, 6, x_z ng), (19, 7, σ.1 19 7)] [] []) p (by omega) v rfl b t ht hb ht8
                  refine x_callV C (as := [.int (nI p)]) (st := []) (hM) kb_X0_addDigit kv_X0_86 dX0_readWhole_102 rfl rfl (Nat.le_of_ble_eq_true rfl) ⟨by decide, by decide⟩ ⟨by decide, by decide⟩ ko_19 ?_
                  clear hM
                  rintro _ _ (⟨hdg, rfl, rfl⟩ | ⟨hdg, rfl, rfl⟩)
                  · skip
                    refine x_sig (σ' := x_st σ [(19, 5, nI (10 * v + ((x_lookv b t p).toNatClampNeg - 48))), (19, 6, x_z ng), (19, 7, σ.1 19 7)] [] []) (x_st_u rfl) ?_
                    refine x_if_neZ C 110 dX0_readWhole_105 (by decide) (fun c105 => ?_) (fun c105 => absurd c105 (by decide))
                    refine x_iincN C (i := 5) (b := 1) dX0_readWhole_110 xl5 rfl (by decide) ?_
                    refine x_goto C 16 dX0_readWhole_113 (by decide) ?_
                    exact ih16 _ (by omega) (p + 1) true ng (10 * v + ((x_lookv b t p).toNatClampNeg - 48)) true rfl (by omega) (by omega) rfl (z_v10 hv9 hp1 hdg) (by rw [← hR, hk, z_cf_d hdg, show fr + w - (p + 1) = k by omega]) _ xl0 xl1 xl2 xl3 rfl rfl
                  · skip
                    refine x_sig (σ' := x_st σ [(19, 5, nI v), (19, 6, x_z ng), (19, 7, nI p)] [] []) (x_st_u rfl) ?_
                    refine x_if_neZ C 110 dX0_readWhole_105 (by decide) (fun c105 => absurd c105 (by decide)) (fun c105 => ?_)
                    refine x_iconst C (nI 0) dX0_readWhole_108 rfl ?_
                    refine x_zret C xr xk dX0_readWhole_109 rfl ?_
                    exact hK _ _ (by
                      have hE : x_colf b t sg w fr false false 0 = (false, p, ng, v) := by rw [← hR, hk]; exact z_cf_f hdg hno
                      rw [hE]
                      exact Or.inr ⟨rfl, rfl, _, _, rfl⟩)
                · skip
                  refine x_aload_n C (i := 0) dX0_readWhole_91 rfl xl0 ?_
                  refine x_iconst C (nI 1) dX0_readWhole_92 rfl ?_
                  refine x_congr (st' := .int (x_z true) :: .ref 19 :: []) rfl rfl ?_
                  refine x_putZ C fi_19_6 kf_X0_72 rfl rfl dX0_readWhole_93 ?_
                  refine x_sig (σ' := x_st σ [(19, 5, nI v), (19, 6, x_z true), (19, 7, σ.1 19 7)] [] []) (x_st_u rfl) ?_
                  refine x_goto C 110 dX0_readWhole_96 (by decide) ?_
                  refine x_iincN C (i := 5) (b := 1) dX0_readWhole_110 xl5 rfl (by decide) ?_
                  refine x_goto C 16 dX0_readWhole_113 (by decide) ?_
                  exact ih16 _ (by omega) (p + 1) false true v true rfl (by omega) (by omega) rfl (z_v10b hv9) (by rw [← hR, hk, z_cf_m c79 c88 hyes.1 hyes.2.1 hyes.2.2, show fr + w - (p + 1) = k by omega]) _ xl0 xl1 xl2 xl3 rfl rfl
            · skip
              refine x_iload C (i := 7) dX0_readWhole_64 rfl ?_
              refine x_if_eqN C 72 dX0_readWhole_66 (by decide) (by omega) (fun c66 => absurd c66 (by decide)) (fun c66 => ?_)
              refine x_goto C 110 dX0_readWhole_69 (by decide) ?_
              refine x_iincN C (i := 5) (b := 1) dX0_readWhole_110 xl5 rfl (by decide) ?_
              refine x_goto C 16 dX0_readWhole_113 (by decide) ?_
              exact ih16 _ (by omega) (p + 1) bg ng v bgn rfl (by omega) (by omega) hb2 (z_v10b hv9) (by rw [← hR, hk, z_cf_b c61 hyes.1 hyes.2.1 hyes.2.2, show fr + w - (p + 1) = k by omega]) _ xl0 xl1 xl2 xl3 xl4 rfl
  exact lp16 _ fr false false 0 false rfl (Nat.le_refl _) (by omega) rfl (by rw [Nat.sub_self]; decide) (by rw [Nat.add_sub_cancel_left]) _ rfl rfl rfl rfl rfl rfl
theorem c_X0_readWhole (l : Launch) (Y : x_Y) (σ : x_S) (fr w : Nat) (sg : Bool) (hf : fr ≤ 9000) (hw0 : 1 ≤ w) (hw9 : w ≤ 5) (b : Nat → Int32) (t : Nat) (ht : σ.1 1 1 = nI t) (hb : σ.1 2 = b) (ht8 : t ≤ 8000)  : x_M l yX0_readWhole cX0_readWhole 8 (some .boolean) 2 Y [.ref 19, .int (nI fr), .int (nI w), .int (x_z sg)] σ (fun r τ => ((x_colf b t sg w fr false false 0).1 = true ∧ r = some (.int (x_z true)) ∧ (x_colf b t sg w fr false false 0).2.2.2 < 10 ^ w ∧ ∃ q, τ = x_st σ [(19, 5, nI (x_colf b t sg w fr false false 0).2.2.2), (19, 6, x_z (x_colf b t sg w fr false false 0).2.2.1), (19, 7, q)] [] []) ∨ ((x_colf b t sg w fr false false 0).1 = false ∧ r = some (.int (x_z false)) ∧ ∃ q1 q2, τ = x_st σ [(19, 5, q1), (19, 6, q2), (19, 7, nI (x_colf b t sg w fr false false 0).2.1)] [] [])) := c_X0_readWhole_K l Y σ fr w sg hf hw0 hw9 b t ht hb ht8 _ (fun _ _ h => h)
