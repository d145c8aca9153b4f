/-! ===== the class's own methods ===== -/
theorem z_rngle {i : Int32} {n : Nat} (hn : n + 1 < 2 ^ 30) (h1 : ¬ i < 0) (h2 : i ≤ nI n) : x_rng i (n + 1) := by
  refine z_rng hn h1 ?_
  have g := Int32.le_iff_toInt_le.mp h2
  rw [nI_toInt (by omega)] at g
  refine Int32.lt_iff_toInt_lt.mpr ?_
  rw [nI_toInt (by omega)]
  omega
theorem z_rngle2 {i : Int32} {n : Nat} (hn : n + 1 < 2 ^ 30) (h1 : nI n < i) : ¬ x_rng i (n + 1) := by
  rintro ⟨j, hj, rfl⟩
  have g := Int32.lt_iff_toInt_lt.mp h1
  rw [nI_toInt (by omega), nI_toInt (by omega)] at g
  omega
theorem z_mo1 {i : Int32} (h1 : ¬ i < nI 1) (h2 : i ≤ nI 12) : y_mo i := by
  have g1 := Int32.le_iff_toInt_le.mp (Int32.not_lt.mp h1)
  rw [nI_toInt (by decide)] at g1
  obtain ⟨j, hj, rfl⟩ := z_rngle (n := 12) (by decide) (fun z => by have := Int32.lt_iff_toInt_lt.mp z; rw [show (0 : Int32).toInt = 0 from rfl] at this; omega) h2
  rw [nI_toInt (by omega)] at g1
  exact ⟨j, by omega, by omega, rfl⟩
theorem z_mo2 {i : Int32} (h1 : i < nI 1) : ¬ y_mo i := by
  rintro ⟨j, h2, h3, rfl⟩
  have g := Int32.lt_iff_toInt_lt.mp h1
  rw [nI_toInt (by omega), nI_toInt (by omega)] at g
  omega
theorem z_mo3 {i : Int32} (h1 : nI 12 < i) : ¬ y_mo i := by
  rintro ⟨j, h2, h3, rfl⟩
  have g := Int32.lt_iff_toInt_lt.mp h1
  rw [nI_toInt (by omega), nI_toInt (by omega)] at g
  omega
set_option maxRecDepth 100000 in
set_option maxHeartbeats 200000 in
theorem c_X11_requireGroup_K (l : Launch) (hl : l.stackTraces = false) (Y : x_Y) (σ : x_S) (n : Nat) (hn : σ.1 10 5 = nI n) (hn9 : n ≤ 192) (K : Option Value → x_S → Prop) (X : String → x_S → Prop) (hK : ∀ (r : Option Value) (τ : x_S), (n ≠ 0 ∧ r = none ∧ τ = σ) → K r τ) (hX : ∀ (E : String) (τ : x_S), (n = 0 ∧ E = x_eISE ∧ τ = σ) → X E τ) : x_MX l yX11_requireGroup cX11_requireGroup 1 none 6 1 Y [.ref 0] σ K X := by
  refine x_startX (by decide) (Nat.le_of_ble_eq_true rfl) ?_
  intro xp xe xs xm xg xb xt xc C xr xk xX
  refine x_aload_n C (i := 0) dX11_requireGroup_0 rfl rfl ?_
  refine x_getR C fr_0_3 kf_X11_35 dX11_requireGroup_1 ?_
  refine x_getI C fi_10_5 kf_X11_106 dX11_requireGroup_4 ?_
  refine x_topI (y := nI n) hn ?_
  refine x_if_neN C 20 dX11_requireGroup_7 (by decide) (by omega) (fun c7 => ?_) (fun c7 => ?_)
  · skip
    refine x_retX (by decide) (by decide) ?_
    refine x_vret C xr xk dX11_requireGroup_20 ?_
    exact hK _ _ ⟨c7, rfl, rfl⟩
  · skip
    refine x_throw C xX xk hl (x_kt_ISE (is := 227) (text := "there is no group") (by decide)) dX11_requireGroup_10 dX11_requireGroup_13 dX11_requireGroup_14 dX11_requireGroup_16 dX11_requireGroup_19 ⟨by decide, by decide, by decide, by decide⟩ (by decide) (by decide) ?_
    exact hX _ _ ⟨by first | exact c7 | omega, rfl, rfl⟩
theorem c_X11_requireGroup (l : Launch) (hl : l.stackTraces = false) (Y : x_Y) (σ : x_S) (n : Nat) (hn : σ.1 10 5 = nI n) (hn9 : n ≤ 192) : x_MX l yX11_requireGroup cX11_requireGroup 1 none 6 1 Y [.ref 0] σ (fun r τ => n ≠ 0 ∧ r = none ∧ τ = σ) (fun E τ => n = 0 ∧ E = x_eISE ∧ τ = σ) := c_X11_requireGroup_K l hl Y σ n hn hn9 _ _ (fun _ _ h => h) (fun _ _ h => h)
set_option maxRecDepth 100000 in
set_option maxHeartbeats 200000 in
theorem c_X11_requireGroupN_K (l : Launch) (Y : x_Y) (σ : x_S) (n : Nat) (hn : σ.1 10 5 = nI n) (hn9 : n ≤ 192) (hn0 : n ≠ 0) (K : Option Value → x_S → Prop) (hK : ∀ (r : Option Value) (τ : x_S), (r = none ∧ τ = σ) → K r τ) : x_M l yX11_requireGroup cX11_requireGroup 1 none 0 Y [.ref 0] σ K := by
  refine x_start (by decide) (Nat.le_of_ble_eq_true rfl) ?_
  intro xp xe xs xm xg xb xt xc C xr xk
  refine x_aload_n C (i := 0) dX11_requireGroup_0 rfl rfl ?_
  refine x_getR C fr_0_3 kf_X11_35 dX11_requireGroup_1 ?_
  refine x_getI C fi_10_5 kf_X11_106 dX11_requireGroup_4 ?_
  refine x_topI (y := nI n) hn ?_
  refine x_if_neN C 20 dX11_requireGroup_7 (by decide) (by omega) (fun c7 => ?_) (fun c7 => ?_)
  · skip
    refine x_vret C xr xk dX11_requireGroup_20 ?_
    exact hK _ _ ⟨rfl, rfl⟩
  · skip
    exact absurd (by first | exact c7 | omega) hn0
theorem c_X11_requireGroupN (l : Launch) (Y : x_Y) (σ : x_S) (n : Nat) (hn : σ.1 10 5 = nI n) (hn9 : n ≤ 192) (hn0 : n ≠ 0) : x_M l yX11_requireGroup cX11_requireGroup 1 none 0 Y [.ref 0] σ (fun r τ => r = none ∧ τ = σ) := c_X11_requireGroupN_K l Y σ n hn hn9 hn0 _ (fun _ _ h => h)
set_option maxRecDepth 100000 in
set_option maxHeartbeats 200000 in
theorem c_X11_requireIndex_K (l : Launch) (hl : l.stackTraces = false) (Y : x_Y) (σ : x_S) (h k q : Int32) (K : Option Value → x_S → Prop) (X : String → x_S → Prop) (hK : ∀ (r : Option Value) (τ : x_S), (z_box h k q (nI 127) = true ∧ r = none ∧ τ = σ) → K r τ) (hX : ∀ (E : String) (τ : x_S), (z_box h k q (nI 127) = false ∧ E = x_eIAE ∧ τ = σ) → X E τ) : x_MX l yX11_requireIndex cX11_requireIndex 3 none 6 1 Y [.int h, .int k, .int q] σ K X := by
  refine x_startX (by decide) (Nat.le_of_ble_eq_true rfl) ?_
  intro xp xe xs xm xg xb xt xc C xr xk xX
  refine x_iload_n C (i := 0) dX11_requireIndex_0 rfl rfl ?_
  refine x_iload_n C (i := 1) dX11_requireIndex_1 rfl rfl ?_
  refine x_iload_n C (i := 2) dX11_requireIndex_2 rfl rfl ?_
  refine x_bipush C (nI 127) dX11_requireIndex_3 rfl ?_
  have hM := c_X3_isInBox l Y σ h k q (nI 127)
  refine x_callS C (as := [.int h, .int k, .int q, .int (nI 127)]) (st := []) (hM) kb_X3_isInBox ks_X11_229 dX11_requireIndex_5 rfl rfl (Nat.le_of_ble_eq_true rfl) ⟨by decide, by decide⟩ ⟨by decide, by decide⟩ ?_
  clear hM
  intro r9 τ9 h9
  obtain ⟨rfl, h8⟩ := h9
  rw [h8]
  clear h8 τ9
  refine x_if_neZ C 21 dX11_requireIndex_8 (by decide) (fun c8 => ?_) (fun c8 => ?_)
  · skip
    refine x_retX (by decide) (by decide) ?_
    refine x_vret C xr xk dX11_requireIndex_21 ?_
    exact hK _ _ ⟨c8, rfl, rfl⟩
  · skip
    refine x_throw C xX xk hl (x_kt_IAE (is := 233) (text := "a number is not -127 .. 127") (by decide)) dX11_requireIndex_11 dX11_requireIndex_14 dX11_requireIndex_15 dX11_requireIndex_17 dX11_requireIndex_20 ⟨by decide, by decide, by decide, by decide⟩ (by decide) (by decide) ?_
    exact hX _ _ ⟨c8, rfl, rfl⟩
theorem c_X11_requireIndex (l : Launch) (hl : l.stackTraces = false) (Y : x_Y) (σ : x_S) (h k q : Int32) : x_MX l yX11_requireIndex cX11_requireIndex 3 none 6 1 Y [.int h, .int k, .int q] σ (fun r τ => z_box h k q (nI 127) = true ∧ r = none ∧ τ = σ) (fun E τ => z_box h k q (nI 127) = false ∧ E = x_eIAE ∧ τ = σ) := c_X11_requireIndex_K l hl Y σ h k q _ _ (fun _ _ h => h) (fun _ _ h => h)
set_option maxRecDepth 100000 in
set_option maxHeartbeats 200000 in
theorem c_X11_requirePartOfQuotient_K (l : Launch) (hl : l.stackTraces = false) (Y : x_Y) (σ : x_S) (w : Int32) (K : Option Value → x_S → Prop) (X : String → x_S → Prop) (hK : ∀ (r : Option Value) (τ : x_S), (x_rng w 2 ∧ r = none ∧ τ = σ) → K r τ) (hX : ∀ (E : String) (τ : x_S), (¬ x_rng w 2 ∧ E = x_eIOB ∧ τ = σ) → X E τ) : x_MX l yX11_requirePartOfQuotient cX11_requirePartOfQuotient 1 none 6 1 Y [.int w] σ K X := by
  refine x_startX (by decide) (Nat.le_of_ble_eq_true rfl) ?_
  intro xp xe xs xm xg xb xt xc C xr xk xX
  refine x_iload_n C (i := 0) dX11_requirePartOfQuotient_0 rfl rfl ?_
  refine x_if_eq C 19 dX11_requirePartOfQuotient_1 (by decide) (fun c1 => ?_) (fun c1 => ?_)
  · skip
    refine x_retX (by decide) (by decide) ?_
    refine x_vret C xr xk dX11_requirePartOfQuotient_19 ?_
    exact hK _ _ ⟨by first | exact ⟨0, by decide, c1⟩ | exact ⟨1, by decide, c6⟩, rfl, rfl⟩
  · skip
    refine x_iload_n C (i := 0) dX11_requirePartOfQuotient_4 rfl rfl ?_
    refine x_iconst C (nI 1) dX11_requirePartOfQuotient_5 rfl ?_
    refine x_icmp_eq C 19 dX11_requirePartOfQuotient_6 (by decide) (fun c6 => ?_) (fun c6 => ?_)
    · skip
      refine x_retX (by decide) (by decide) ?_
      refine x_vret C xr xk dX11_requirePartOfQuotient_19 ?_
      exact hK _ _ ⟨by first | exact ⟨0, by decide, c1⟩ | exact ⟨1, by decide, c6⟩, rfl, rfl⟩
    · skip
      refine x_throw C xX xk hl (x_kt_IOB (is := 235) (text := "neither numerator nor denominator") (by decide)) dX11_requirePartOfQuotient_9 dX11_requirePartOfQuotient_12 dX11_requirePartOfQuotient_13 dX11_requirePartOfQuotient_15 dX11_requirePartOfQuotient_18 ⟨by decide, by decide, by decide, by decide⟩ (by decide) (by decide) ?_
      exact hX _ _ ⟨by
        rintro ⟨j, hj, rfl⟩
        have h9 : j = 0 ∨ j = 1 := by omega
        rcases h9 with rfl | rfl
        · exact c1 rfl
        · exact c6 rfl, rfl, rfl⟩
theorem c_X11_requirePartOfQuotient (l : Launch) (hl : l.stackTraces = false) (Y : x_Y) (σ : x_S) (w : Int32) : x_MX l yX11_requirePartOfQuotient cX11_requirePartOfQuotient 1 none 6 1 Y [.int w] σ (fun r τ => x_rng w 2 ∧ r = none ∧ τ = σ) (fun E τ => ¬ x_rng w 2 ∧ E = x_eIOB ∧ τ = σ) := c_X11_requirePartOfQuotient_K l hl Y σ w _ _ (fun _ _ h => h) (fun _ _ h => h)
set_option maxRecDepth 100000 in
set_option maxHeartbeats 200000 in
theorem c_X11_feed_K (l : Launch) (hl : l.stackTraces = false) (Y : x_Y) (σ : x_S) (p1 p2 p3 p4 p5 : Int32) (t : Nat) (f : Nat → Int32) (ht : σ.1 1 1 = nI t) (hf : σ.1 2 = f) (ht8 : t ≤ 8000) (K : Option Value → x_S → Prop) (X : String → x_S → Prop) (hK : ∀ (r : Option Value) (τ : x_S), (t + 20 ≤ 8000 ∧ r = some (.int (nI (t + 20))) ∧ τ = x_st σ [(1, 1, nI (t + 20))] [(2, va_cpy (z_b4 p5) (va_cpy (z_b4 p4) (va_cpy (z_b4 p3) (va_cpy (z_b4 p2) (va_cpy (z_b4 p1) f 0 t 4) 0 (t + 4) 4) 0 (t + 8) 4) 0 (t + 12) 4) 0 (t + 16) 4)] []) → K r τ) (hX : ∀ (E : String) (τ : x_S), (8000 < t + 20 ∧ E = x_eISE ∧ τ = σ) → X E τ) : x_MX l yX11_feed cX11_feed 6 (some .int) 6 1 Y [.ref 0, .int p1, .int p2, .int p3, .int p4, .int p5] σ K X := by
  refine x_startX (by decide) (Nat.le_of_ble_eq_true rfl) ?_
  intro xp xe xs xm xg xb xt xc C xr xk xX
  refine x_sig (σ' := x_st σ [(1, 1, nI t)] [(2, f)] []) (x_st_in (And.intro ht trivial) (And.intro hf trivial) trivial) ?_
  refine x_aload_n C (i := 0) dX11_feed_0 rfl rfl ?_
  refine x_getR C fr_0_0 kf_X11_10 dX11_feed_1 ?_
  refine x_getI C fi_1_1 kf_X11_69 dX11_feed_4 ?_
  refine x_topI (y := nI t) rfl ?_
  refine x_sipush C (nI 7980) dX11_feed_7 rfl ?_
  refine x_icmp_leN C 23 dX11_feed_10 (by decide) (by omega) (by omega) (fun c10 => ?_) (fun c10 => ?_)
  · skip
    have c10' := Nat.not_lt.mpr c10
    refine x_aload_n C (i := 0) dX11_feed_23 rfl rfl ?_
    refine x_getR C fr_0_0 kf_X11_10 dX11_feed_24 ?_
    refine x_iload_n C (i := 1) dX11_feed_27 rfl rfl ?_
    have hM := c_X9_append l Y (x_st σ [(1, 1, nI t)] [(2, f)] []) p1 (t) (f) rfl rfl (by omega)
    refine x_callV C (as := [.int p1]) (st := []) (hM) kb_X9_append kv_X11_80 dX11_feed_28 rfl rfl (Nat.le_of_ble_eq_true rfl) ⟨by decide, by decide⟩ ⟨by decide, by decide⟩ ko_1 ?_
    clear hM
    rintro _ _ ⟨rfl, rfl⟩
    refine x_sig (σ' := x_st σ [(1, 1, nI (t + 4))] [(2, va_cpy (z_b4 p1) f 0 t 4)] []) (x_st_st rfl) ?_
    refine x_aload_n C (i := 0) dX11_feed_31 rfl rfl ?_
    refine x_getR C fr_0_0 kf_X11_10 dX11_feed_32 ?_
    refine x_iload_n C (i := 2) dX11_feed_35 rfl rfl ?_
    have hM := c_X9_append l Y (x_st σ [(1, 1, nI (t + 4))] [(2, va_cpy (z_b4 p1) f 0 t 4)] []) p2 (t + 4) (va_cpy (z_b4 p1) f 0 t 4) rfl rfl (by omega)
    refine x_callV C (as := [.int p2]) (st := []) (hM) kb_X9_append kv_X11_80 dX11_feed_36 rfl rfl (Nat.le_of_ble_eq_true rfl) ⟨by decide, by decide⟩ ⟨by decide, by decide⟩ ko_1 ?_
    clear hM
    rintro _ _ ⟨rfl, rfl⟩
    refine x_sig (σ' := x_st σ [(1, 1, nI (t + 8))] [(2, va_cpy (z_b4 p2) (va_cpy (z_b4 p1) f 0 t 4) 0 (t + 4) 4)] []) (x_st_st rfl) ?_
    refine x_aload_n C (i := 0) dX11_feed_39 rfl rfl ?_
    refine x_getR C fr_0_0 kf_X11_10 dX11_feed_40 ?_
    refine x_iload_n C (i := 3) dX11_feed_43 rfl rfl ?_
    have hM := c_X9_append l Y (x_st σ [(1, 1, nI (t + 8))] [(2, va_cpy (z_b4 p2) (va_cpy (z_b4 p1) f 0 t 4) 0 (t + 4) 4)] []) p3 (t + 8) (va_cpy (z_b4 p2) (va_cpy (z_b4 p1) f 0 t 4) 0 (t + 4) 4) rfl rfl (by omega)
    refine x_callV C (as := [.int p3]) (st := []) (hM) kb_X9_append kv_X11_80 dX11_feed_44 rfl rfl (Nat.le_of_ble_eq_true rfl) ⟨by decide, by decide⟩ ⟨by decide, by decide⟩ ko_1 ?_
    clear hM
    rintro _ _ ⟨rfl, rfl⟩
    refine x_sig (σ' := x_st σ [(1, 1, nI (t + 12))] [(2, va_cpy (z_b4 p3) (va_cpy (z_b4 p2) (va_cpy (z_b4 p1) f 0 t 4) 0 (t + 4) 4) 0 (t + 8) 4)] []) (x_st_st rfl) ?_
    refine x_aload_n C (i := 0) dX11_feed_47 rfl rfl ?_
    refine x_getR C fr_0_0 kf_X11_10 dX11_feed_48 ?_
    refine x_iload C (i := 4) dX11_feed_51 rfl ?_
    have hM := c_X9_append l Y (x_st σ [(1, 1, nI (t + 12))] [(2, va_cpy (z_b4 p3) (va_cpy (z_b4 p2) (va_cpy (z_b4 p1) f 0 t 4) 0 (t + 4) 4) 0 (t + 8) 4)] []) p4 (t + 12) (va_cpy (z_b4 p3) (va_cpy (z_b4 p2) (va_cpy (z_b4 p1) f 0 t 4) 0 (t + 4) 4) 0 (t + 8) 4) rfl rfl (by omega)
    refine x_callV C (as := [.int p4]) (st := []) (hM) kb_X9_append kv_X11_80 dX11_feed_53 rfl rfl (Nat.le_of_ble_eq_true rfl) ⟨by decide, by decide⟩ ⟨by decide, by decide⟩ ko_1 ?_
    clear hM
    rintro _ _ ⟨rfl, rfl⟩
    refine x_sig (σ' := x_st σ [(1, 1, nI (t + 16))] [(2, va_cpy (z_b4 p4) (va_cpy (z_b4 p3) (va_cpy (z_b4 p2) (va_cpy (z_b4 p1) f 0 t 4) 0 (t + 4) 4) 0 (t + 8) 4) 0 (t + 12) 4)] []) (x_st_st rfl) ?_
    refine x_aload_n C (i := 0) dX11_feed_56 rfl rfl ?_
    refine x_getR C fr_0_0 kf_X11_10 dX11_feed_57 ?_
    refine x_iload C (i := 5) dX11_feed_60 rfl ?_
    have hM := c_X9_append l Y (x_st σ [(1, 1, nI (t + 16))] [(2, va_cpy (z_b4 p4) (va_cpy (z_b4 p3) (va_cpy (z_b4 p2) (va_cpy (z_b4 p1) f 0 t 4) 0 (t + 4) 4) 0 (t + 8) 4) 0 (t + 12) 4)] []) p5 (t + 16) (va_cpy (z_b4 p4) (va_cpy (z_b4 p3) (va_cpy (z_b4 p2) (va_cpy (z_b4 p1) f 0 t 4) 0 (t + 4) 4) 0 (t + 8) 4) 0 (t + 12) 4) rfl rfl (by omega)
    refine x_callV C (as := [.int p5]) (st := []) (hM) kb_X9_append kv_X11_80 dX11_feed_62 rfl rfl (Nat.le_of_ble_eq_true rfl) ⟨by decide, by decide⟩ ⟨by decide, by decide⟩ ko_1 ?_
    clear hM
    rintro _ _ ⟨rfl, rfl⟩
    refine x_sig (σ' := x_st σ [(1, 1, nI (t + 20))] [(2, va_cpy (z_b4 p5) (va_cpy (z_b4 p4) (va_cpy (z_b4 p3) (va_cpy (z_b4 p2) (va_cpy (z_b4 p1) f 0 t 4) 0 (t + 4) 4) 0 (t + 8) 4) 0 (t + 12) 4) 0 (t + 16) 4)] []) (x_st_st rfl) ?_
    refine x_aload_n C (i := 0) dX11_feed_65 rfl rfl ?_
    refine x_getR C fr_0_0 kf_X11_10 dX11_feed_66 ?_
    refine x_getI C fi_1_1 kf_X11_69 dX11_feed_69 ?_
    refine x_topI (y := nI (t + 20)) rfl ?_
    refine x_retX (by decide) (by decide) ?_
    refine x_iret C xr xk dX11_feed_72 ?_
    exact hK _ _ ⟨by omega, rfl, rfl⟩
  · skip
    have c10' := Nat.not_le.mpr c10
    refine x_throw C xX xk hl (x_kt_ISE (is := 75) (text := "the tape has no room for twenty bytes more") (by decide)) dX11_feed_13 dX11_feed_16 dX11_feed_17 dX11_feed_19 dX11_feed_22 ⟨by decide, by decide, by decide, by decide⟩ (by decide) (by decide) ?_
    exact hX _ _ ⟨by omega, rfl, (x_st_in (σ := σ) (F := [(1, 1, nI t)]) (I := [(2, f)]) (G := []) (And.intro ht trivial) (And.intro hf trivial) trivial).symm⟩
theorem c_X11_feed (l : Launch) (hl : l.stackTraces = false) (Y : x_Y) (σ : x_S) (p1 p2 p3 p4 p5 : Int32) (t : Nat) (f : Nat → Int32) (ht : σ.1 1 1 = nI t) (hf : σ.1 2 = f) (ht8 : t ≤ 8000) : x_MX l yX11_feed cX11_feed 6 (some .int) 6 1 Y [.ref 0, .int p1, .int p2, .int p3, .int p4, .int p5] σ (fun r τ => t + 20 ≤ 8000 ∧ r = some (.int (nI (t + 20))) ∧ τ = x_st σ [(1, 1, nI (t + 20))] [(2, va_cpy (z_b4 p5) (va_cpy (z_b4 p4) (va_cpy (z_b4 p3) (va_cpy (z_b4 p2) (va_cpy (z_b4 p1) f 0 t 4) 0 (t + 4) 4) 0 (t + 8) 4) 0 (t + 12) 4) 0 (t + 16) 4)] []) (fun E τ => 8000 < t + 20 ∧ E = x_eISE ∧ τ = σ) := c_X11_feed_K l hl Y σ p1 p2 p3 p4 p5 t f ht hf ht8 _ _ (fun _ _ h => h) (fun _ _ h => h)
set_option maxRecDepth 100000 in
set_option maxHeartbeats 200000 in
theorem c_X11_end_K (l : Launch) (hl : l.stackTraces = false) (Y : x_Y) (σ : x_S) (q : Int32) (t : Nat) (ht : σ.1 1 1 = nI t) (ht8 : t ≤ 8000) (K : Option Value → x_S → Prop) (X : String → x_S → Prop) (hK : ∀ (r : Option Value) (τ : x_S), (x_rng q (t + 1) ∧ r = none ∧ τ = x_st σ [(1, 1, q)] [] []) → K r τ) (hX : ∀ (E : String) (τ : x_S), (¬ x_rng q (t + 1) ∧ E = x_eIAE ∧ τ = σ) → X E τ) : x_MX l yX11_end cX11_end 2 none 6 1 Y [.ref 0, .int q] σ K X := by
  refine x_startX (by decide) (Nat.le_of_ble_eq_true rfl) ?_
  intro xp xe xs xm xg xb xt xc C xr xk xX
  refine x_sig (σ' := x_st σ [(1, 1, nI t)] [] []) (x_st_in (And.intro ht trivial) trivial trivial) ?_
  refine x_iload_n C (i := 1) dX11_end_0 rfl rfl ?_
  refine x_jf_lt C 15 dX11_end_1 (by decide) (fun c1 => ?_) (fun c1 => ?_)
  · skip
    have c1' := Int32.not_le.mpr c1
    refine x_throw C xX xk hl (x_kt_IAE (is := 86) (text := "the tape has not that many bytes") (by decide)) dX11_end_15 dX11_end_18 dX11_end_19 dX11_end_21 dX11_end_24 ⟨by decide, by decide, by decide, by decide⟩ (by decide) (by decide) ?_
    exact hX _ _ ⟨by first | exact z_rngn1 (by omega) c1 | exact z_rngle2 (by omega) c12, rfl, (x_st_in (σ := σ) (F := [(1, 1, nI t)]) (I := []) (G := []) (And.intro ht trivial) trivial trivial).symm⟩
  · skip
    have c1' := Int32.not_lt.mpr c1
    refine x_iload_n C (i := 1) dX11_end_4 rfl rfl ?_
    refine x_aload_n C (i := 0) dX11_end_5 rfl rfl ?_
    refine x_getR C fr_0_0 kf_X11_10 dX11_end_6 ?_
    refine x_getI C fi_1_1 kf_X11_69 dX11_end_9 ?_
    refine x_topI (y := nI t) rfl ?_
    refine x_jcmp_le C 25 dX11_end_12 (by decide) (fun c12 => ?_) (fun c12 => ?_)
    · skip
      have c12' := Int32.not_lt.mpr c12
      refine x_aload_n C (i := 0) dX11_end_25 rfl rfl ?_
      refine x_getR C fr_0_0 kf_X11_10 dX11_end_26 ?_
      refine x_iload_n C (i := 1) dX11_end_29 rfl rfl ?_
      refine x_putN C fi_1_1 kf_X11_69 rfl rfl dX11_end_30 ?_
      refine x_sig (σ' := x_st σ [(1, 1, q)] [] []) (x_st_u rfl) ?_
      refine x_retX (by decide) (by decide) ?_
      refine x_vret C xr xk dX11_end_33 ?_
      exact hK _ _ ⟨z_rngle (by omega) c1' c12, rfl, rfl⟩
    · skip
      have c12' := Int32.not_le.mpr c12
      refine x_throw C xX xk hl (x_kt_IAE (is := 86) (text := "the tape has not that many bytes") (by decide)) dX11_end_15 dX11_end_18 dX11_end_19 dX11_end_21 dX11_end_24 ⟨by decide, by decide, by decide, by decide⟩ (by decide) (by decide) ?_
      exact hX _ _ ⟨by first | exact z_rngn1 (by omega) c1 | exact z_rngle2 (by omega) c12, rfl, (x_st_in (σ := σ) (F := [(1, 1, nI t)]) (I := []) (G := []) (And.intro ht trivial) trivial trivial).symm⟩
theorem c_X11_end (l : Launch) (hl : l.stackTraces = false) (Y : x_Y) (σ : x_S) (q : Int32) (t : Nat) (ht : σ.1 1 1 = nI t) (ht8 : t ≤ 8000) : x_MX l yX11_end cX11_end 2 none 6 1 Y [.ref 0, .int q] σ (fun r τ => x_rng q (t + 1) ∧ r = none ∧ τ = x_st σ [(1, 1, q)] [] []) (fun E τ => ¬ x_rng q (t + 1) ∧ E = x_eIAE ∧ τ = σ) := c_X11_end_K l hl Y σ q t ht ht8 _ _ (fun _ _ h => h) (fun _ _ h => h)
set_option maxRecDepth 100000 in
set_option maxHeartbeats 200000 in
theorem c_X11_order_K (l : Launch) (Y : x_Y) (σ : x_S) (K : Option Value → x_S → Prop) (hK : ∀ (r : Option Value) (τ : x_S), (r = some (.int (σ.1 10 5)) ∧ τ = σ) → K r τ) : x_M l yX11_order cX11_order 1 (some .int) 0 Y [.ref 0] σ K := by
  refine x_start (by decide) (Nat.le_of_ble_eq_true rfl) ?_
  intro xp xe xs xm xg xb xt xc C xr xk
  refine x_aload_n C (i := 0) dX11_order_0 rfl rfl ?_
  refine x_getR C fr_0_3 kf_X11_35 dX11_order_1 ?_
  refine x_getI C fi_10_5 kf_X11_106 dX11_order_4 ?_
  refine x_iret C xr xk dX11_order_7 ?_
  exact hK _ _ ⟨rfl, rfl⟩
theorem c_X11_order (l : Launch) (Y : x_Y) (σ : x_S) : x_M l yX11_order cX11_order 1 (some .int) 0 Y [.ref 0] σ (fun r τ => r = some (.int (σ.1 10 5)) ∧ τ = σ) := c_X11_order_K l Y σ  _ (fun _ _ h => h)
set_option maxRecDepth 100000 in
set_option maxHeartbeats 200000 in
theorem c_X11_laue_K (l : Launch) (Y : x_Y) (σ : x_S) (c : Nat) (hc : σ.1 10 4 = nI c) (hc9 : c ≤ 192) (K : Option Value → x_S → Prop) (hK : ∀ (r : Option Value) (τ : x_S), (r = some (.int (z_laue (σ.1 13) c)) ∧ τ = σ) → K r τ) : x_M l yX11_laue cX11_laue 1 (some .int) 2 Y [.ref 0] σ K := by
  refine x_start (by decide) (Nat.le_of_ble_eq_true rfl) ?_
  intro xp xe xs xm xg xb xt xc C xr xk
  refine x_aload_n C (i := 0) dX11_laue_0 rfl rfl ?_
  refine x_getR C fr_0_3 kf_X11_35 dX11_laue_1 ?_
  have hM := c_X1_laueClass l Y σ c hc hc9
  refine x_callV C (as := []) (st := []) (hM) kb_X1_laueClass kv_X11_122 dX11_laue_4 rfl rfl (Nat.le_of_ble_eq_true rfl) ⟨by decide, by decide⟩ ⟨by decide, by decide⟩ ko_10 ?_
  clear hM
  intro r9 τ9 h9
  obtain ⟨rfl, h8⟩ := h9
  rw [h8]
  clear h8 τ9
  refine x_iret C xr xk dX11_laue_7 ?_
  exact hK _ _ ⟨rfl, rfl⟩
theorem c_X11_laue (l : Launch) (Y : x_Y) (σ : x_S) (c : Nat) (hc : σ.1 10 4 = nI c) (hc9 : c ≤ 192) : x_M l yX11_laue cX11_laue 1 (some .int) 2 Y [.ref 0] σ (fun r τ => r = some (.int (z_laue (σ.1 13) c)) ∧ τ = σ) := c_X11_laue_K l Y σ c hc hc9 _ (fun _ _ h => h)
set_option maxRecDepth 100000 in
set_option maxHeartbeats 200000 in
theorem c_X11_plain_K (l : Launch) (Y : x_Y) (σ : x_S) (q : Int32) (n : Nat) (hn : σ.1 10 5 = nI n) (hn9 : n ≤ 192) (K : Option Value → x_S → Prop) (hK : ∀ (r : Option Value) (τ : x_S), (r = some (.int (if q = nI 1 ∨ q = -1 then nI (y_cnb (z_pln (σ.1 11) (if q < 0 then nI 21588 else nI 153174)) n) else nI 0)) ∧ τ = σ) → K r τ) : x_M l yX11_plain cX11_plain 2 (some .int) 2 Y [.ref 0, .int q] σ K := by
  refine x_start (by decide) (Nat.le_of_ble_eq_true rfl) ?_
  intro xp xe xs xm xg xb xt xc C xr xk
  refine x_iload_n C (i := 1) dX11_plain_0 rfl rfl ?_
  refine x_iconst C (nI 1) dX11_plain_1 rfl ?_
  refine x_icmp_eq C 12 dX11_plain_2 (by decide) (fun c2 => ?_) (fun c2 => ?_)
  · skip
    refine x_aload_n C (i := 0) dX11_plain_12 rfl rfl ?_
    refine x_getR C fr_0_3 kf_X11_35 dX11_plain_13 ?_
    refine x_iload_n C (i := 1) dX11_plain_16 rfl rfl ?_
    have hM := c_X1_countPlain l Y σ q n hn hn9
    refine x_callV C (as := [.int q]) (st := []) (hM) kb_X1_countPlain kv_X11_126 dX11_plain_17 rfl rfl (Nat.le_of_ble_eq_true rfl) ⟨by decide, by decide⟩ ⟨by decide, by decide⟩ ko_10 ?_
    clear hM
    intro r9 τ9 h9
    obtain ⟨rfl, h8⟩ := h9
    rw [h8]
    clear h8 τ9
    refine x_iret C xr xk dX11_plain_20 ?_
    exact hK _ _ ⟨by first | rw [if_pos (Or.inl c2)] | rw [if_pos (Or.inr c7)], rfl⟩
  · skip
    refine x_iload_n C (i := 1) dX11_plain_5 rfl rfl ?_
    refine x_iconst C (-1) dX11_plain_6 rfl ?_
    refine x_icmp_eq C 12 dX11_plain_7 (by decide) (fun c7 => ?_) (fun c7 => ?_)
    · skip
      refine x_aload_n C (i := 0) dX11_plain_12 rfl rfl ?_
      refine x_getR C fr_0_3 kf_X11_35 dX11_plain_13 ?_
      refine x_iload_n C (i := 1) dX11_plain_16 rfl rfl ?_
      have hM := c_X1_countPlain l Y σ q n hn hn9
      refine x_callV C (as := [.int q]) (st := []) (hM) kb_X1_countPlain kv_X11_126 dX11_plain_17 rfl rfl (Nat.le_of_ble_eq_true rfl) ⟨by decide, by decide⟩ ⟨by decide, by decide⟩ ko_10 ?_
      clear hM
      intro r9 τ9 h9
      obtain ⟨rfl, h8⟩ := h9
      rw [h8]
      clear h8 τ9
      refine x_iret C xr xk dX11_plain_20 ?_
      exact hK _ _ ⟨by first | rw [if_pos (Or.inl c2)] | rw [if_pos (Or.inr c7)], rfl⟩
    · skip
      refine x_iconst C (nI 0) dX11_plain_10 rfl ?_
      refine x_iret C xr xk dX11_plain_11 ?_
      exact hK _ _ ⟨by rw [if_neg (fun z => z.elim c2 c7)], rfl⟩
theorem c_X11_plain (l : Launch) (Y : x_Y) (σ : x_S) (q : Int32) (n : Nat) (hn : σ.1 10 5 = nI n) (hn9 : n ≤ 192) : x_M l yX11_plain cX11_plain 2 (some .int) 2 Y [.ref 0, .int q] σ (fun r τ => r = some (.int (if q = nI 1 ∨ q = -1 then nI (y_cnb (z_pln (σ.1 11) (if q < 0 then nI 21588 else nI 153174)) n) else nI 0)) ∧ τ = σ) := c_X11_plain_K l Y σ q n hn hn9 _ (fun _ _ h => h)
set_option maxRecDepth 100000 in
set_option maxHeartbeats 200000 in
theorem c_X11_reflections_K (l : Launch) (Y : x_Y) (σ : x_S) (K : Option Value → x_S → Prop) (hK : ∀ (r : Option Value) (τ : x_S), (r = some (.int (σ.1 15 3)) ∧ τ = σ) → K r τ) : x_M l yX11_reflections cX11_reflections 1 (some .int) 0 Y [.ref 0] σ K := by
  refine x_start (by decide) (Nat.le_of_ble_eq_true rfl) ?_
  intro xp xe xs xm xg xb xt xc C xr xk
  refine x_aload_n C (i := 0) dX11_reflections_0 rfl rfl ?_
  refine x_getR C fr_0_4 kf_X11_42 dX11_reflections_1 ?_
  refine x_getI C fi_15_3 kf_X11_167 dX11_reflections_4 ?_
  refine x_iret C xr xk dX11_reflections_7 ?_
  exact hK _ _ ⟨rfl, rfl⟩
theorem c_X11_reflections (l : Launch) (Y : x_Y) (σ : x_S) : x_M l yX11_reflections cX11_reflections 1 (some .int) 0 Y [.ref 0] σ (fun r τ => r = some (.int (σ.1 15 3)) ∧ τ = σ) := c_X11_reflections_K l Y σ  _ (fun _ _ h => h)
set_option maxRecDepth 100000 in
set_option maxHeartbeats 200000 in
theorem c_X11_rows_K (l : Launch) (Y : x_Y) (σ : x_S) (K : Option Value → x_S → Prop) (hK : ∀ (r : Option Value) (τ : x_S), (r = some (.int (σ.1 21 8)) ∧ τ = σ) → K r τ) : x_M l yX11_rows cX11_rows 1 (some .int) 0 Y [.ref 0] σ K := by
  refine x_start (by decide) (Nat.le_of_ble_eq_true rfl) ?_
  intro xp xe xs xm xg xb xt xc C xr xk
  refine x_aload_n C (i := 0) dX11_rows_0 rfl rfl ?_
  refine x_getR C fr_0_6 kf_X11_58 dX11_rows_1 ?_
  refine x_getI C fi_21_8 kf_X11_177 dX11_rows_4 ?_
  refine x_iret C xr xk dX11_rows_7 ?_
  exact hK _ _ ⟨rfl, rfl⟩
theorem c_X11_rows (l : Launch) (Y : x_Y) (σ : x_S) : x_M l yX11_rows cX11_rows 1 (some .int) 0 Y [.ref 0] σ (fun r τ => r = some (.int (σ.1 21 8)) ∧ τ = σ) := c_X11_rows_K l Y σ  _ (fun _ _ h => h)
set_option maxRecDepth 100000 in
set_option maxHeartbeats 200000 in
theorem c_X11_violation_K (l : Launch) (Y : x_Y) (σ : x_S) (i : Int32) (c : Nat) (hc : σ.1 36 1 = nI c) (hc9 : c ≤ 3000) (K : Option Value → x_S → Prop) (hK : ∀ (r : Option Value) (τ : x_S), ((∃ iq, iq < c ∧ i = nI iq ∧ r = some (.int (σ.1 37 iq)) ∧ τ = σ) ∨ (¬ x_rng i c ∧ r = some (.int (-1)) ∧ τ = σ)) → K r τ) : x_M l yX11_violation cX11_violation 2 (some .int) 1 Y [.ref 0, .int i] σ K := by
  refine x_start (by decide) (Nat.le_of_ble_eq_true rfl) ?_
  intro xp xe xs xm xg xb xt xc C xr xk
  refine x_aload_n C (i := 0) dX11_violation_0 rfl rfl ?_
  refine x_getR C fr_0_7 kf_X11_65 dX11_violation_1 ?_
  refine x_iload_n C (i := 1) dX11_violation_4 rfl rfl ?_
  have hM := c_X10_numberOf l Y σ i c hc hc9
  refine x_callV C (as := [.int i]) (st := []) (hM) kb_X10_numberOf kv_X11_214 dX11_violation_5 rfl rfl (Nat.le_of_ble_eq_true rfl) ⟨by decide, by decide⟩ ⟨by decide, by decide⟩ ko_36 ?_
  clear hM
  intro r9 τ9 h9
  rcases h9 with ⟨iq, hi1, hi2, rfl, h8⟩ | ⟨hz, rfl, h8⟩ <;> rw [h8] <;> clear h8 τ9
  · skip
    refine x_iret C xr xk dX11_violation_8 ?_
    exact hK _ _ (Or.inl ⟨iq, hi1, hi2, rfl, rfl⟩)
  · skip
    refine x_iret C xr xk dX11_violation_8 ?_
    exact hK _ _ (Or.inr ⟨hz, rfl, rfl⟩)
theorem c_X11_violation (l : Launch) (Y : x_Y) (σ : x_S) (i : Int32) (c : Nat) (hc : σ.1 36 1 = nI c) (hc9 : c ≤ 3000) : x_M l yX11_violation cX11_violation 2 (some .int) 1 Y [.ref 0, .int i] σ (fun r τ => (∃ iq, iq < c ∧ i = nI iq ∧ r = some (.int (σ.1 37 iq)) ∧ τ = σ) ∨ (¬ x_rng i c ∧ r = some (.int (-1)) ∧ τ = σ)) := c_X11_violation_K l Y σ i c hc hc9 _ (fun _ _ h => h)
set_option maxRecDepth 100000 in
set_option maxHeartbeats 200000 in
theorem c_X11_op_K (l : Launch) (hl : l.stackTraces = false) (Y : x_Y) (σ : x_S) (i k : Int32) (n : Nat) (hn : σ.1 10 5 = nI n) (hn9 : n ≤ 192) (K : Option Value → x_S → Prop) (X : String → x_S → Prop) (hK : ∀ (r : Option Value) (τ : x_S), (∃ iq kq, iq < n ∧ kq < 12 ∧ i = nI iq ∧ k = nI kq ∧ r = some (.int (σ.1 12 (iq * 12 + kq))) ∧ τ = σ) → K r τ) (hX : ∀ (E : String) (τ : x_S), (¬ (x_rng i n ∧ x_rng k 12) ∧ E = x_eIOB ∧ τ = σ) → X E τ) : x_MX l yX11_op cX11_op 3 (some .int) 6 1 Y [.ref 0, .int i, .int k] σ K X := by
  refine x_startX (by decide) (Nat.le_of_ble_eq_true rfl) ?_
  intro xp xe xs xm xg xb xt xc C xr xk xX
  refine x_aload_n C (i := 0) dX11_op_0 rfl rfl ?_
  refine x_getR C fr_0_3 kf_X11_35 dX11_op_1 ?_
  refine x_iload_n C (i := 1) dX11_op_4 rfl rfl ?_
  have hM := c_X1_has l Y σ i n hn hn9
  refine x_callV C (as := [.int i]) (st := []) (hM) kb_X1_has kv_X11_109 dX11_op_5 rfl rfl (Nat.le_of_ble_eq_true rfl) ⟨by decide, by decide⟩ ⟨by decide, by decide⟩ ko_10 ?_
  clear hM
  intro r9 τ9 h9
  obtain ⟨bh, ⟨rfl, h8⟩, hbh⟩ := h9
  rw [h8]
  clear h8 τ9
  refine x_if_eqZ C 21 dX11_op_8 (by decide) (fun c8 => ?_) (fun c8 => ?_)
  · skip
    have hz : ¬ x_rng i n := fun z => absurd (hbh.mpr z) (by rw [c8]; decide)
    refine x_throw C xX xk hl (x_kt_IOB (is := 115) (text := "no such operator, or number of it") (by decide)) dX11_op_21 dX11_op_24 dX11_op_25 dX11_op_27 dX11_op_30 ⟨by decide, by decide, by decide, by decide⟩ (by decide) (by decide) ?_
    exact hX _ _ ⟨by first | exact fun z => hz z.1 | exact fun z => z_rngn1 (by decide) c12 z.2 | exact fun z => z_rngn2 (by decide) c18 z.2, rfl, rfl⟩
  · skip
    have hr1 := hbh.mp c8
    refine x_iload_n C (i := 2) dX11_op_11 rfl rfl ?_
    refine x_jf_lt C 21 dX11_op_12 (by decide) (fun c12 => ?_) (fun c12 => ?_)
    · skip
      have c12' := Int32.not_le.mpr c12
      refine x_throw C xX xk hl (x_kt_IOB (is := 115) (text := "no such operator, or number of it") (by decide)) dX11_op_21 dX11_op_24 dX11_op_25 dX11_op_27 dX11_op_30 ⟨by decide, by decide, by decide, by decide⟩ (by decide) (by decide) ?_
      exact hX _ _ ⟨by first | exact fun z => hz z.1 | exact fun z => z_rngn1 (by decide) c12 z.2 | exact fun z => z_rngn2 (by decide) c18 z.2, rfl, rfl⟩
    · skip
      have c12' := Int32.not_lt.mpr c12
      refine x_iload_n C (i := 2) dX11_op_15 rfl rfl ?_
      refine x_bipush C (nI 12) dX11_op_16 rfl ?_
      refine x_jcmp_lt C 31 dX11_op_18 (by decide) (fun c18 => ?_) (fun c18 => ?_)
      · skip
        have c18' := Int32.not_le.mpr c18
        obtain ⟨iq, hiq, rfl⟩ := hr1
        obtain ⟨kq, hkq, rfl⟩ := z_rng (n := 12) (by decide) c12' c18
        refine x_aload_n C (i := 0) dX11_op_31 rfl rfl ?_
        refine x_getR C fr_0_3 kf_X11_35 dX11_op_32 ?_
        refine x_iload_n C (i := 1) dX11_op_35 rfl rfl ?_
        refine x_iload_n C (i := 2) dX11_op_36 rfl rfl ?_
        have hM := c_X1_number l Y σ iq kq (by omega) (by omega)
        refine x_callV C (as := [.int (nI iq), .int (nI kq)]) (st := []) (hM) kb_X1_number kv_X11_118 dX11_op_37 rfl rfl (Nat.le_of_ble_eq_true rfl) ⟨by decide, by decide⟩ ⟨by decide, by decide⟩ ko_10 ?_
        clear hM
        intro r9 τ9 h9
        obtain ⟨rfl, h8⟩ := h9
        rw [h8]
        clear h8 τ9
        refine x_retX (by decide) (by decide) ?_
        refine x_iret C xr xk dX11_op_40 ?_
        exact hK _ _ ⟨iq, kq, hiq, hkq, rfl, rfl, rfl, rfl⟩
      · skip
        have c18' := Int32.not_lt.mpr c18
        refine x_throw C xX xk hl (x_kt_IOB (is := 115) (text := "no such operator, or number of it") (by decide)) dX11_op_21 dX11_op_24 dX11_op_25 dX11_op_27 dX11_op_30 ⟨by decide, by decide, by decide, by decide⟩ (by decide) (by decide) ?_
        exact hX _ _ ⟨by first | exact fun z => hz z.1 | exact fun z => z_rngn1 (by decide) c12 z.2 | exact fun z => z_rngn2 (by decide) c18 z.2, rfl, rfl⟩
theorem c_X11_op (l : Launch) (hl : l.stackTraces = false) (Y : x_Y) (σ : x_S) (i k : Int32) (n : Nat) (hn : σ.1 10 5 = nI n) (hn9 : n ≤ 192) : x_MX l yX11_op cX11_op 3 (some .int) 6 1 Y [.ref 0, .int i, .int k] σ (fun r τ => ∃ iq kq, iq < n ∧ kq < 12 ∧ i = nI iq ∧ k = nI kq ∧ r = some (.int (σ.1 12 (iq * 12 + kq))) ∧ τ = σ) (fun E τ => ¬ (x_rng i n ∧ x_rng k 12) ∧ E = x_eIOB ∧ τ = σ) := c_X11_op_K l hl Y σ i k n hn hn9 _ _ (fun _ _ h => h) (fun _ _ h => h)
set_option maxRecDepth 100000 in
set_option maxHeartbeats 200000 in
theorem c_X11_sent_K (l : Launch) (hl : l.stackTraces = false) (Y : x_Y) (σ : x_S) (i h k q w : Int32) (n : Nat) (hn : σ.1 10 5 = nI n) (hn9 : n ≤ 192) (K : Option Value → x_S → Prop) (X : String → x_S → Prop) (hK : ∀ (r : Option Value) (τ : x_S), (∃ iq wq, iq < n ∧ wq < 4 ∧ i = nI iq ∧ w = nI wq ∧ z_box h k q (nI 127) = true ∧ r = some (.int (if wq = 3 then z_ph (σ.1 12) iq h k q else z_sn (σ.1 12) iq wq h k q)) ∧ τ = σ) → K r τ) (hX : ∀ (E : String) (τ : x_S), ((¬ (x_rng i n ∧ x_rng w 4) ∧ E = x_eIOB ∧ τ = σ) ∨ ((x_rng i n ∧ x_rng w 4) ∧ z_box h k q (nI 127) = false ∧ E = x_eIAE ∧ τ = σ)) → X E τ) : x_MX l yX11_sent cX11_sent 6 (some .int) 7 1 Y [.ref 0, .int i, .int h, .int k, .int q, .int w] σ K X := by
  refine x_startX (by decide) (Nat.le_of_ble_eq_true rfl) ?_
  intro xp xe xs xm xg xb xt xc C xr xk xX
  refine x_aload_n C (i := 0) dX11_sent_0 rfl rfl ?_
  refine x_getR C fr_0_3 kf_X11_35 dX11_sent_1 ?_
  refine x_iload_n C (i := 1) dX11_sent_4 rfl rfl ?_
  have hM := c_X1_has l Y σ i n hn hn9
  refine x_callV C (as := [.int i]) (st := []) (hM) kb_X1_has kv_X11_109 dX11_sent_5 rfl rfl (Nat.le_of_ble_eq_true rfl) ⟨by decide, by decide⟩ ⟨by decide, by decide⟩ ko_10 ?_
  clear hM
  intro r9 τ9 h9
  obtain ⟨bh, ⟨rfl, h8⟩, hbh⟩ := h9
  rw [h8]
  clear h8 τ9
  refine x_if_eqZ C 22 dX11_sent_8 (by decide) (fun c8 => ?_) (fun c8 => ?_)
  · skip
    have hz : ¬ x_rng i n := fun z => absurd (hbh.mpr z) (by rw [c8]; decide)
    refine x_throw C xX xk hl (x_kt_IOB (is := 130) (text := "no such operator, or number of an index") (by decide)) dX11_sent_22 dX11_sent_25 dX11_sent_26 dX11_sent_28 dX11_sent_31 ⟨by decide, by decide, by decide, by decide⟩ (by decide) (by decide) ?_
    exact hX _ _ (Or.inl ⟨by first | exact fun z => hz z.1 | exact fun z => z_rngn1 (by decide) c13 z.2 | exact fun z => z_rngle2 (n := 3) (by decide) c19 z.2, rfl, rfl⟩)
  · skip
    have hr1 := hbh.mp c8
    refine x_iload C (i := 5) dX11_sent_11 rfl ?_
    refine x_jf_lt C 22 dX11_sent_13 (by decide) (fun c13 => ?_) (fun c13 => ?_)
    · skip
      have c13' := Int32.not_le.mpr c13
      refine x_throw C xX xk hl (x_kt_IOB (is := 130) (text := "no such operator, or number of an index") (by decide)) dX11_sent_22 dX11_sent_25 dX11_sent_26 dX11_sent_28 dX11_sent_31 ⟨by decide, by decide, by decide, by decide⟩ (by decide) (by decide) ?_
      exact hX _ _ (Or.inl ⟨by first | exact fun z => hz z.1 | exact fun z => z_rngn1 (by decide) c13 z.2 | exact fun z => z_rngle2 (n := 3) (by decide) c19 z.2, rfl, rfl⟩)
    · skip
      have c13' := Int32.not_lt.mpr c13
      refine x_iload C (i := 5) dX11_sent_16 rfl ?_
      refine x_iconst C (nI 3) dX11_sent_18 rfl ?_
      refine x_jcmp_le C 32 dX11_sent_19 (by decide) (fun c19 => ?_) (fun c19 => ?_)
      · skip
        have c19' := Int32.not_lt.mpr c19
        obtain ⟨iq, hiq, rfl⟩ := hr1
        obtain ⟨wq, hwq, rfl⟩ := z_rngle (n := 3) (by decide) c13' c19
        refine x_iload_n C (i := 2) dX11_sent_32 rfl rfl ?_
        refine x_iload_n C (i := 3) dX11_sent_33 rfl rfl ?_
        refine x_iload C (i := 4) dX11_sent_34 rfl ?_
        have hM := c_X11_requireIndex l hl Y σ h k q
        refine x_callSX C xX xk (as := [.int h, .int k, .int q]) (st := []) (hM) kb_X11_requireIndex ks_X11_132 dX11_sent_36 rfl rfl (Nat.le_of_ble_eq_true rfl) ⟨by decide, by decide⟩ ⟨by decide, by decide⟩ (fun _ _ h9 => hX _ _ (Or.inr ⟨⟨⟨iq, hiq, rfl⟩, ⟨wq, hwq, rfl⟩⟩, h9⟩)) (by decide) (by decide) ?_
        clear hM
        intro r9 τ9 h9
        obtain ⟨hbx, rfl, h8⟩ := h9
        rw [h8]
        clear h8 τ9
        refine x_iload C (i := 5) dX11_sent_39 rfl ?_
        refine x_iconst C (nI 3) dX11_sent_41 rfl ?_
        refine x_icmp_neN C 58 dX11_sent_42 (by decide) (by omega) (by omega) (fun c42 => ?_) (fun c42 => ?_)
        · skip
          refine x_aload_n C (i := 0) dX11_sent_58 rfl rfl ?_
          refine x_getR C fr_0_3 kf_X11_35 dX11_sent_59 ?_
          refine x_iload_n C (i := 1) dX11_sent_62 rfl rfl ?_
          refine x_iload C (i := 5) dX11_sent_63 rfl ?_
          refine x_iload_n C (i := 2) dX11_sent_65 rfl rfl ?_
          refine x_iload_n C (i := 3) dX11_sent_66 rfl rfl ?_
          refine x_iload C (i := 4) dX11_sent_67 rfl ?_
          have hM := c_X1_sentNumber l Y σ iq wq h k q (by omega) (by omega)
          refine x_callV C (as := [.int (nI iq), .int (nI wq), .int h, .int k, .int q]) (st := []) (hM) kb_X1_sentNumber kv_X11_140 dX11_sent_69 rfl rfl (Nat.le_of_ble_eq_true rfl) ⟨by decide, by decide⟩ ⟨by decide, by decide⟩ ko_10 ?_
          clear hM
          intro r9 τ9 h9
          obtain ⟨rfl, h8⟩ := h9
          rw [h8]
          clear h8 τ9
          refine x_retX (by decide) (by decide) ?_
          refine x_iret C xr xk dX11_sent_72 ?_
          exact hK _ _ ⟨iq, wq, hiq, hwq, rfl, rfl, hbx, by rw [if_neg (by first | exact c42 | omega)], rfl⟩
        · skip
          refine x_aload_n C (i := 0) dX11_sent_45 rfl rfl ?_
          refine x_getR C fr_0_3 kf_X11_35 dX11_sent_46 ?_
          refine x_iload_n C (i := 1) dX11_sent_49 rfl rfl ?_
          refine x_iload_n C (i := 2) dX11_sent_50 rfl rfl ?_
          refine x_iload_n C (i := 3) dX11_sent_51 rfl rfl ?_
          refine x_iload C (i := 4) dX11_sent_52 rfl ?_
          have hM := c_X1_phase l Y σ iq h k q (by omega)
          refine x_callV C (as := [.int (nI iq), .int h, .int k, .int q]) (st := []) (hM) kb_X1_phase kv_X11_136 dX11_sent_54 rfl rfl (Nat.le_of_ble_eq_true rfl) ⟨by decide, by decide⟩ ⟨by decide, by decide⟩ ko_10 ?_
          clear hM
          intro r9 τ9 h9
          obtain ⟨rfl, h8⟩ := h9
          rw [h8]
          clear h8 τ9
          refine x_retX (by decide) (by decide) ?_
          refine x_iret C xr xk dX11_sent_57 ?_
          exact hK _ _ ⟨iq, wq, hiq, hwq, rfl, rfl, hbx, by rw [if_pos (by first | exact c42 | omega)], rfl⟩
      · skip
        have c19' := Int32.not_le.mpr c19
        refine x_throw C xX xk hl (x_kt_IOB (is := 130) (text := "no such operator, or number of an index") (by decide)) dX11_sent_22 dX11_sent_25 dX11_sent_26 dX11_sent_28 dX11_sent_31 ⟨by decide, by decide, by decide, by decide⟩ (by decide) (by decide) ?_
        exact hX _ _ (Or.inl ⟨by first | exact fun z => hz z.1 | exact fun z => z_rngn1 (by decide) c13 z.2 | exact fun z => z_rngle2 (n := 3) (by decide) c19 z.2, rfl, rfl⟩)
theorem c_X11_sent (l : Launch) (hl : l.stackTraces = false) (Y : x_Y) (σ : x_S) (i h k q w : Int32) (n : Nat) (hn : σ.1 10 5 = nI n) (hn9 : n ≤ 192) : x_MX l yX11_sent cX11_sent 6 (some .int) 7 1 Y [.ref 0, .int i, .int h, .int k, .int q, .int w] σ (fun r τ => ∃ iq wq, iq < n ∧ wq < 4 ∧ i = nI iq ∧ w = nI wq ∧ z_box h k q (nI 127) = true ∧ r = some (.int (if wq = 3 then z_ph (σ.1 12) iq h k q else z_sn (σ.1 12) iq wq h k q)) ∧ τ = σ) (fun E τ => (¬ (x_rng i n ∧ x_rng w 4) ∧ E = x_eIOB ∧ τ = σ) ∨ ((x_rng i n ∧ x_rng w 4) ∧ z_box h k q (nI 127) = false ∧ E = x_eIAE ∧ τ = σ)) := c_X11_sent_K l hl Y σ i h k q w n hn hn9 _ _ (fun _ _ h => h) (fun _ _ h => h)
set_option maxRecDepth 100000 in
set_option maxHeartbeats 200000 in
theorem c_X11_absent_K (l : Launch) (hl : l.stackTraces = false) (Y : x_Y) (σ : x_S) (h k q : Int32) (n : Nat) (hn : σ.1 10 5 = nI n) (hn9 : n ≤ 192) (K : Option Value → x_S → Prop) (X : String → x_S → Prop) (hK : ∀ (r : Option Value) (τ : x_S), (n ≠ 0 ∧ z_box h k q (nI 127) = true ∧ r = some (.int (x_z (z_abs (σ.1 12) n h k q))) ∧ τ = σ) → K r τ) (hX : ∀ (E : String) (τ : x_S), ((n = 0 ∧ E = x_eISE ∧ τ = σ) ∨ (n ≠ 0 ∧ z_box h k q (nI 127) = false ∧ E = x_eIAE ∧ τ = σ)) → X E τ) : x_MX l yX11_absent cX11_absent 4 (some .int) 7 2 Y [.ref 0, .int h, .int k, .int q] σ K X := by
  refine x_startX (by decide) (Nat.le_of_ble_eq_true rfl) ?_
  intro xp xe xs xm xg xb xt xc C xr xk xX
  refine x_aload_n C (i := 0) dX11_absent_0 rfl rfl ?_
  have hM := c_X11_requireGroup l hl Y σ n hn hn9
  refine x_callVX C xX xk (as := []) (st := []) (hM) kb_X11_requireGroup kv_X11_144 dX11_absent_1 rfl rfl (Nat.le_of_ble_eq_true rfl) ⟨by decide, by decide⟩ ⟨by decide, by decide⟩ ko_0 (fun _ _ h9 => hX _ _ (Or.inl h9)) (by decide) (by decide) ?_
  clear hM
  intro r9 τ9 h9
  obtain ⟨hg, rfl, h8⟩ := h9
  rw [h8]
  clear h8 τ9
  refine x_iload_n C (i := 1) dX11_absent_4 rfl rfl ?_
  refine x_iload_n C (i := 2) dX11_absent_5 rfl rfl ?_
  refine x_iload_n C (i := 3) dX11_absent_6 rfl rfl ?_
  have hM := c_X11_requireIndex l hl Y σ h k q
  refine x_callSX C xX xk (as := [.int h, .int k, .int q]) (st := []) (hM) kb_X11_requireIndex ks_X11_132 dX11_absent_7 rfl rfl (Nat.le_of_ble_eq_true rfl) ⟨by decide, by decide⟩ ⟨by decide, by decide⟩ (fun _ _ h9 => hX _ _ (Or.inr ⟨hg, h9⟩)) (by decide) (by decide) ?_
  clear hM
  intro r9 τ9 h9
  obtain ⟨hbx, rfl, h8⟩ := h9
  rw [h8]
  clear h8 τ9
  refine x_aload_n C (i := 0) dX11_absent_10 rfl rfl ?_
  refine x_getR C fr_0_3 kf_X11_35 dX11_absent_11 ?_
  refine x_iload_n C (i := 1) dX11_absent_14 rfl rfl ?_
  refine x_iload_n C (i := 2) dX11_absent_15 rfl rfl ?_
  refine x_iload_n C (i := 3) dX11_absent_16 rfl rfl ?_
  have hM := c_X1_isAbsent l Y σ h k q n hn hn9
  refine x_callV C (as := [.int h, .int k, .int q]) (st := []) (hM) kb_X1_isAbsent kv_X11_147 dX11_absent_17 rfl rfl (Nat.le_of_ble_eq_true rfl) ⟨by decide, by decide⟩ ⟨by decide, by decide⟩ ko_10 ?_
  clear hM
  intro r9 τ9 h9
  obtain ⟨rfl, h8⟩ := h9
  rw [h8]
  clear h8 τ9
  refine x_if_eqZ C 27 dX11_absent_20 (by decide) (fun c20 => ?_) (fun c20 => ?_)
  · skip
    refine x_iconst C (nI 0) dX11_absent_27 rfl ?_
    refine x_retX (by decide) (by decide) ?_
    refine x_iret C xr xk dX11_absent_28 ?_
    exact hK _ _ ⟨hg, hbx, by first | (rw [show z_abs (σ.1 12) n h k q = true from c20]; rfl) | (rw [show z_abs (σ.1 12) n h k q = false from c20]; rfl), rfl⟩
  · skip
    refine x_iconst C (nI 1) dX11_absent_23 rfl ?_
    refine x_goto C 28 dX11_absent_24 (by decide) ?_
    refine x_retX (by decide) (by decide) ?_
    refine x_iret C xr xk dX11_absent_28 ?_
    exact hK _ _ ⟨hg, hbx, by first | (rw [show z_abs (σ.1 12) n h k q = true from c20]; rfl) | (rw [show z_abs (σ.1 12) n h k q = false from c20]; rfl), rfl⟩
theorem c_X11_absent (l : Launch) (hl : l.stackTraces = false) (Y : x_Y) (σ : x_S) (h k q : Int32) (n : Nat) (hn : σ.1 10 5 = nI n) (hn9 : n ≤ 192) : x_MX l yX11_absent cX11_absent 4 (some .int) 7 2 Y [.ref 0, .int h, .int k, .int q] σ (fun r τ => n ≠ 0 ∧ z_box h k q (nI 127) = true ∧ r = some (.int (x_z (z_abs (σ.1 12) n h k q))) ∧ τ = σ) (fun E τ => (n = 0 ∧ E = x_eISE ∧ τ = σ) ∨ (n ≠ 0 ∧ z_box h k q (nI 127) = false ∧ E = x_eIAE ∧ τ = σ)) := c_X11_absent_K l hl Y σ h k q n hn hn9 _ _ (fun _ _ h => h) (fun _ _ h => h)
set_option maxRecDepth 100000 in
set_option maxHeartbeats 200000 in
theorem c_X11_greatest_K (l : Launch) (hl : l.stackTraces = false) (Y : x_Y) (σ : x_S) (h k q w : Int32) (n : Nat) (hn : σ.1 10 5 = nI n) (hn9 : n ≤ 192) (c : Nat) (hc : σ.1 10 4 = nI c) (hc9 : c ≤ 192) (K : Option Value → x_S → Prop) (X : String → x_S → Prop) (hK : ∀ (r : Option Value) (τ : x_S), (∃ wq, n ≠ 0 ∧ z_box h k q (nI 127) = true ∧ wq < 4 ∧ w = nI wq ∧ r = some (.int (if wq = 3 then nI (z_mul (σ.1 13) c h k q) else z_part (z_gof (σ.1 13) h k q c) wq)) ∧ τ = σ) → K r τ) (hX : ∀ (E : String) (τ : x_S), ((n = 0 ∧ E = x_eISE ∧ τ = σ) ∨ (n ≠ 0 ∧ z_box h k q (nI 127) = false ∧ E = x_eIAE ∧ τ = σ) ∨ (n ≠ 0 ∧ z_box h k q (nI 127) = true ∧ ¬ x_rng w 4 ∧ E = x_eIOB ∧ τ = σ)) → X E τ) : x_MX l yX11_greatest cX11_greatest 5 (some .int) 7 2 Y [.ref 0, .int h, .int k, .int q, .int w] σ K X := by
  refine x_startX (by decide) (Nat.le_of_ble_eq_true rfl) ?_
  intro xp xe xs xm xg xb xt xc C xr xk xX
  refine x_aload_n C (i := 0) dX11_greatest_0 rfl rfl ?_
  by_cases hn0 : n = 0
  · skip
    have hM := c_X11_requireGroup l hl Y σ n hn hn9
    refine x_callVX C xX xk (as := []) (st := []) (hM) kb_X11_requireGroup kv_X11_144 dX11_greatest_1 rfl rfl (Nat.le_of_ble_eq_true rfl) ⟨by decide, by decide⟩ ⟨by decide, by decide⟩ ko_0 (fun _ _ h9 => hX _ _ (Or.inl h9)) (by decide) (by decide) ?_
    clear hM
    intro r9 τ9 h9
    obtain ⟨hg, rfl, h8⟩ := h9
    · skip
      exact absurd hn0 hg
  · skip
    have hg : n ≠ 0 := hn0
    have hM := c_X11_requireGroupN l Y σ n hn hn9 hg
    refine x_callV C (as := []) (st := []) (hM) kb_X11_requireGroup kv_X11_144 dX11_greatest_1 rfl rfl (Nat.le_of_ble_eq_true rfl) ⟨by decide, by decide⟩ ⟨by decide, by decide⟩ ko_0 ?_
    clear hM
    intro r9 τ9 h9
    obtain ⟨rfl, h8⟩ := h9
    rw [h8]
    clear h8 τ9
    refine x_iload_n C (i := 1) dX11_greatest_4 rfl rfl ?_
    refine x_iload_n C (i := 2) dX11_greatest_5 rfl rfl ?_
    refine x_iload_n C (i := 3) dX11_greatest_6 rfl rfl ?_
    have hM := c_X11_requireIndex l hl Y σ h k q
    refine x_callSX C xX xk (as := [.int h, .int k, .int q]) (st := []) (hM) kb_X11_requireIndex ks_X11_132 dX11_greatest_7 rfl rfl (Nat.le_of_ble_eq_true rfl) ⟨by decide, by decide⟩ ⟨by decide, by decide⟩ (fun _ _ h9 => hX _ _ (Or.inr (Or.inl ⟨hg, h9⟩))) (by decide) (by decide) ?_
    clear hM
    intro r9 τ9 h9
    obtain ⟨hbx, rfl, h8⟩ := h9
    rw [h8]
    clear h8 τ9
    refine x_iload C (i := 4) dX11_greatest_10 rfl ?_
    refine x_jf_lt C 21 dX11_greatest_12 (by decide) (fun c12 => ?_) (fun c12 => ?_)
    · skip
      have c12' := Int32.not_le.mpr c12
      refine x_throw C xX xk hl (x_kt_IOB (is := 151) (text := "no such number of a kind") (by decide)) dX11_greatest_21 dX11_greatest_24 dX11_greatest_25 dX11_greatest_27 dX11_greatest_30 ⟨by decide, by decide, by decide, by decide⟩ (by decide) (by decide) ?_
      exact hX _ _ (Or.inr (Or.inr ⟨hg, hbx, by first | exact z_rngn1 (by decide) c12 | exact z_rngle2 (n := 3) (by decide) c18, rfl, rfl⟩))
    · skip
      have c12' := Int32.not_lt.mpr c12
      refine x_iload C (i := 4) dX11_greatest_15 rfl ?_
      refine x_iconst C (nI 3) dX11_greatest_17 rfl ?_
      refine x_jcmp_le C 31 dX11_greatest_18 (by decide) (fun c18 => ?_) (fun c18 => ?_)
      · skip
        have c18' := Int32.not_lt.mpr c18
        obtain ⟨wq, hwq, rfl⟩ := z_rngle (n := 3) (by decide) c12' c18
        refine x_iload C (i := 4) dX11_greatest_31 rfl ?_
        refine x_iconst C (nI 3) dX11_greatest_33 rfl ?_
        refine x_icmp_neN C 48 dX11_greatest_34 (by decide) (by omega) (by omega) (fun c34 => ?_) (fun c34 => ?_)
        · skip
          refine x_aload_n C (i := 0) dX11_greatest_48 rfl rfl ?_
          refine x_getR C fr_0_3 kf_X11_35 dX11_greatest_49 ?_
          refine x_iload_n C (i := 1) dX11_greatest_52 rfl rfl ?_
          refine x_iload_n C (i := 2) dX11_greatest_53 rfl rfl ?_
          refine x_iload_n C (i := 3) dX11_greatest_54 rfl rfl ?_
          have hM := c_X1_greatestOf l Y σ h k q c hc hc9
          refine x_callV C (as := [.int h, .int k, .int q]) (st := []) (hM) kb_X1_greatestOf kv_X11_157 dX11_greatest_55 rfl rfl (Nat.le_of_ble_eq_true rfl) ⟨by decide, by decide⟩ ⟨by decide, by decide⟩ ko_10 ?_
          clear hM
          intro r9 τ9 h9
          obtain ⟨rfl, h8⟩ := h9
          rw [h8]
          clear h8 τ9
          refine x_iload C (i := 4) dX11_greatest_58 rfl ?_
          have hM := c_X3_part l Y σ (z_gof (σ.1 13) h k q c) wq (by omega)
          refine x_callS C (as := [.int (z_gof (σ.1 13) h k q c), .int (nI wq)]) (st := []) (hM) kb_X3_part ks_X11_160 dX11_greatest_60 rfl rfl (Nat.le_of_ble_eq_true rfl) ⟨by decide, by decide⟩ ⟨by decide, by decide⟩ ?_
          clear hM
          intro r9 τ9 h9
          obtain ⟨rfl, h8⟩ := h9
          rw [h8]
          clear h8 τ9
          refine x_retX (by decide) (by decide) ?_
          refine x_iret C xr xk dX11_greatest_63 ?_
          exact hK _ _ ⟨wq, hg, hbx, hwq, rfl, by rw [if_neg (by first | exact c34 | omega)], rfl⟩
        · skip
          refine x_aload_n C (i := 0) dX11_greatest_37 rfl rfl ?_
          refine x_getR C fr_0_3 kf_X11_35 dX11_greatest_38 ?_
          refine x_iload_n C (i := 1) dX11_greatest_41 rfl rfl ?_
          refine x_iload_n C (i := 2) dX11_greatest_42 rfl rfl ?_
          refine x_iload_n C (i := 3) dX11_greatest_43 rfl rfl ?_
          have hM := c_X1_multiplicity l Y σ h k q c hc hc9
          refine x_callV C (as := [.int h, .int k, .int q]) (st := []) (hM) kb_X1_multiplicity kv_X11_153 dX11_greatest_44 rfl rfl (Nat.le_of_ble_eq_true rfl) ⟨by decide, by decide⟩ ⟨by decide, by decide⟩ ko_10 ?_
          clear hM
          intro r9 τ9 h9
          obtain ⟨rfl, h8⟩ := h9
          rw [h8]
          clear h8 τ9
          refine x_retX (by decide) (by decide) ?_
          refine x_iret C xr xk dX11_greatest_47 ?_
          exact hK _ _ ⟨wq, hg, hbx, hwq, rfl, by rw [if_pos (by first | exact c34 | omega)], rfl⟩
      · skip
        have c18' := Int32.not_le.mpr c18
        refine x_throw C xX xk hl (x_kt_IOB (is := 151) (text := "no such number of a kind") (by decide)) dX11_greatest_21 dX11_greatest_24 dX11_greatest_25 dX11_greatest_27 dX11_greatest_30 ⟨by decide, by decide, by decide, by decide⟩ (by decide) (by decide) ?_
        exact hX _ _ (Or.inr (Or.inr ⟨hg, hbx, by first | exact z_rngn1 (by decide) c12 | exact z_rngle2 (n := 3) (by decide) c18, rfl, rfl⟩))
theorem c_X11_greatest (l : Launch) (hl : l.stackTraces = false) (Y : x_Y) (σ : x_S) (h k q w : Int32) (n : Nat) (hn : σ.1 10 5 = nI n) (hn9 : n ≤ 192) (c : Nat) (hc : σ.1 10 4 = nI c) (hc9 : c ≤ 192) : x_MX l yX11_greatest cX11_greatest 5 (some .int) 7 2 Y [.ref 0, .int h, .int k, .int q, .int w] σ (fun r τ => ∃ wq, n ≠ 0 ∧ z_box h k q (nI 127) = true ∧ wq < 4 ∧ w = nI wq ∧ r = some (.int (if wq = 3 then nI (z_mul (σ.1 13) c h k q) else z_part (z_gof (σ.1 13) h k q c) wq)) ∧ τ = σ) (fun E τ => (n = 0 ∧ E = x_eISE ∧ τ = σ) ∨ (n ≠ 0 ∧ z_box h k q (nI 127) = false ∧ E = x_eIAE ∧ τ = σ) ∨ (n ≠ 0 ∧ z_box h k q (nI 127) = true ∧ ¬ x_rng w 4 ∧ E = x_eIOB ∧ τ = σ)) := c_X11_greatest_K l hl Y σ h k q w n hn hn9 c hc hc9 _ _ (fun _ _ h => h) (fun _ _ h => h)
set_option maxRecDepth 100000 in
set_option maxHeartbeats 200000 in
theorem c_X11_reflection_K (l : Launch) (hl : l.stackTraces = false) (Y : x_Y) (σ : x_S) (i w : Int32) (N : Nat) (hN : σ.1 15 3 = nI N) (hN9 : N ≤ 3000) (K : Option Value → x_S → Prop) (X : String → x_S → Prop) (hK : ∀ (r : Option Value) (τ : x_S), (∃ iq wq, iq < N ∧ wq < 5 ∧ i = nI iq ∧ w = nI wq ∧ r = some (.int (if wq = 3 then σ.1 17 iq else if wq = 4 then σ.1 18 iq else z_part (σ.1 16 iq) wq)) ∧ τ = σ) → K r τ) (hX : ∀ (E : String) (τ : x_S), (¬ (x_rng i N ∧ x_rng w 5) ∧ E = x_eIOB ∧ τ = σ) → X E τ) : x_MX l yX11_reflection cX11_reflection 3 (some .int) 6 1 Y [.ref 0, .int i, .int w] σ K X := by
  refine x_startX (by decide) (Nat.le_of_ble_eq_true rfl) ?_
  intro xp xe xs xm xg xb xt xc C xr xk xX
  refine x_iload_n C (i := 1) dX11_reflection_0 rfl rfl ?_
  refine x_jf_lt C 24 dX11_reflection_1 (by decide) (fun c1 => ?_) (fun c1 => ?_)
  · skip
    have c1' := Int32.not_le.mpr c1
    refine x_throw C xX xk hl (x_kt_IOB (is := 170) (text := "no such reflection, or number of it") (by decide)) dX11_reflection_24 dX11_reflection_27 dX11_reflection_28 dX11_reflection_30 dX11_reflection_33 ⟨by decide, by decide, by decide, by decide⟩ (by decide) (by decide) ?_
    exact hX _ _ ⟨by first | exact fun z => z_rngn1 (by omega) c1 z.1 | exact fun z => z_rngn2 (by omega) c12 z.1 | exact fun z => z_rngn1 (by decide) c16 z.2 | exact fun z => z_rngle2 (n := 4) (by decide) c21 z.2, rfl, rfl⟩
  · skip
    have c1' := Int32.not_lt.mpr c1
    refine x_iload_n C (i := 1) dX11_reflection_4 rfl rfl ?_
    refine x_aload_n C (i := 0) dX11_reflection_5 rfl rfl ?_
    refine x_getR C fr_0_4 kf_X11_42 dX11_reflection_6 ?_
    refine x_getI C fi_15_3 kf_X11_167 dX11_reflection_9 ?_
    refine x_topI (y := nI N) hN ?_
    refine x_jcmp_ge C 24 dX11_reflection_12 (by decide) (fun c12 => ?_) (fun c12 => ?_)
    · skip
      have c12' := Int32.not_lt.mpr c12
      refine x_throw C xX xk hl (x_kt_IOB (is := 170) (text := "no such reflection, or number of it") (by decide)) dX11_reflection_24 dX11_reflection_27 dX11_reflection_28 dX11_reflection_30 dX11_reflection_33 ⟨by decide, by decide, by decide, by decide⟩ (by decide) (by decide) ?_
      exact hX _ _ ⟨by first | exact fun z => z_rngn1 (by omega) c1 z.1 | exact fun z => z_rngn2 (by omega) c12 z.1 | exact fun z => z_rngn1 (by decide) c16 z.2 | exact fun z => z_rngle2 (n := 4) (by decide) c21 z.2, rfl, rfl⟩
    · skip
      have c12' := Int32.not_le.mpr c12
      refine x_iload_n C (i := 2) dX11_reflection_15 rfl rfl ?_
      refine x_jf_lt C 24 dX11_reflection_16 (by decide) (fun c16 => ?_) (fun c16 => ?_)
      · skip
        have c16' := Int32.not_le.mpr c16
        refine x_throw C xX xk hl (x_kt_IOB (is := 170) (text := "no such reflection, or number of it") (by decide)) dX11_reflection_24 dX11_reflection_27 dX11_reflection_28 dX11_reflection_30 dX11_reflection_33 ⟨by decide, by decide, by decide, by decide⟩ (by decide) (by decide) ?_
        exact hX _ _ ⟨by first | exact fun z => z_rngn1 (by omega) c1 z.1 | exact fun z => z_rngn2 (by omega) c12 z.1 | exact fun z => z_rngn1 (by decide) c16 z.2 | exact fun z => z_rngle2 (n := 4) (by decide) c21 z.2, rfl, rfl⟩
      · skip
        have c16' := Int32.not_lt.mpr c16
        refine x_iload_n C (i := 2) dX11_reflection_19 rfl rfl ?_
        refine x_iconst C (nI 4) dX11_reflection_20 rfl ?_
        refine x_jcmp_le C 34 dX11_reflection_21 (by decide) (fun c21 => ?_) (fun c21 => ?_)
        · skip
          have c21' := Int32.not_lt.mpr c21
          obtain ⟨iq, hiq, rfl⟩ := z_rng (by omega) c1' c12
          obtain ⟨wq, hwq, rfl⟩ := z_rngle (n := 4) (by decide) c16' c21
          refine x_aload_n C (i := 0) dX11_reflection_34 rfl rfl ?_
          refine x_getR C fr_0_4 kf_X11_42 dX11_reflection_35 ?_
          refine x_iload_n C (i := 1) dX11_reflection_38 rfl rfl ?_
          refine x_iload_n C (i := 2) dX11_reflection_39 rfl rfl ?_
          have hM := c_X6_number l Y σ iq wq (by omega) hwq
          refine x_callV C (as := [.int (nI iq), .int (nI wq)]) (st := []) (hM) kb_X6_number kv_X11_172 dX11_reflection_40 rfl rfl (Nat.le_of_ble_eq_true rfl) ⟨by decide, by decide⟩ ⟨by decide, by decide⟩ ko_15 ?_
          clear hM
          intro r9 τ9 h9
          obtain ⟨rfl, h8⟩ := h9
          rw [h8]
          clear h8 τ9
          refine x_retX (by decide) (by decide) ?_
          refine x_iret C xr xk dX11_reflection_43 ?_
          exact hK _ _ ⟨iq, wq, hiq, hwq, rfl, rfl, rfl, rfl⟩
        · skip
          have c21' := Int32.not_le.mpr c21
          refine x_throw C xX xk hl (x_kt_IOB (is := 170) (text := "no such reflection, or number of it") (by decide)) dX11_reflection_24 dX11_reflection_27 dX11_reflection_28 dX11_reflection_30 dX11_reflection_33 ⟨by decide, by decide, by decide, by decide⟩ (by decide) (by decide) ?_
          exact hX _ _ ⟨by first | exact fun z => z_rngn1 (by omega) c1 z.1 | exact fun z => z_rngn2 (by omega) c12 z.1 | exact fun z => z_rngn1 (by decide) c16 z.2 | exact fun z => z_rngle2 (n := 4) (by decide) c21 z.2, rfl, rfl⟩
theorem c_X11_reflection (l : Launch) (hl : l.stackTraces = false) (Y : x_Y) (σ : x_S) (i w : Int32) (N : Nat) (hN : σ.1 15 3 = nI N) (hN9 : N ≤ 3000) : x_MX l yX11_reflection cX11_reflection 3 (some .int) 6 1 Y [.ref 0, .int i, .int w] σ (fun r τ => ∃ iq wq, iq < N ∧ wq < 5 ∧ i = nI iq ∧ w = nI wq ∧ r = some (.int (if wq = 3 then σ.1 17 iq else if wq = 4 then σ.1 18 iq else z_part (σ.1 16 iq) wq)) ∧ τ = σ) (fun E τ => ¬ (x_rng i N ∧ x_rng w 5) ∧ E = x_eIOB ∧ τ = σ) := c_X11_reflection_K l hl Y σ i w N hN hN9 _ _ (fun _ _ h => h) (fun _ _ h => h)
set_option maxRecDepth 100000 in
set_option maxHeartbeats 200000 in
theorem c_X11_row_K (l : Launch) (hl : l.stackTraces = false) (Y : x_Y) (σ : x_S) (i w : Int32) (n : Nat) (cn sn : Nat → Nat) (hc : ∀ a, a < n → σ.1 24 a = nI (cn a) ∧ cn a ≤ 3000 ∧ x_ab (σ.2 27 a) = lN (sn a) ∧ sn a < 2 ^ 63 ∧ 0 < cn a) (hn9 : n ≤ 3000) (hn : σ.1 21 8 = nI n) (K : Option Value → x_S → Prop) (X : String → x_S → Prop) (hK : ∀ (r : Option Value) (τ : x_S), (∃ iq wq, iq < n ∧ wq < 10 ∧ i = nI iq ∧ w = nI wq ∧ r = some (.long (if wq = 3 then lN (cn iq) else if wq = 4 then (σ.1 25 iq).toInt64 else if wq = 5 then (if σ.1 26 iq = 0 then 0 else 1) else if wq = 6 then σ.2 27 iq else if wq = 7 then σ.2 27 iq / lN (Nat.gcd (sn iq) (cn iq)) else if wq = 8 then lN (cn iq / Nat.gcd (sn iq) (cn iq)) else if wq = 9 then σ.2 28 iq else (z_part (σ.1 23 iq) wq).toInt64)) ∧ τ = σ) → K r τ) (hX : ∀ (E : String) (τ : x_S), (¬ (x_rng i n ∧ x_rng w 10) ∧ E = x_eIOB ∧ τ = σ) → X E τ) : x_MX l yX11_row cX11_row 3 (some .long) 6 1 Y [.ref 0, .int i, .int w] σ K X := by
  refine x_startX (by decide) (Nat.le_of_ble_eq_true rfl) ?_
  intro xp xe xs xm xg xb xt xc C xr xk xX
  refine x_iload_n C (i := 1) dX11_row_0 rfl rfl ?_
  refine x_jf_lt C 25 dX11_row_1 (by decide) (fun c1 => ?_) (fun c1 => ?_)
  · skip
    have c1' := Int32.not_le.mpr c1
    refine x_throw C xX xk hl (x_kt_IOB (is := 178) (text := "no such row, or number of it") (by decide)) dX11_row_25 dX11_row_28 dX11_row_29 dX11_row_31 dX11_row_34 ⟨by decide, by decide, by decide, by decide⟩ (by decide) (by decide) ?_
    exact hX _ _ ⟨by first | exact fun z => z_rngn1 (by omega) c1 z.1 | exact fun z => z_rngn2 (by omega) c12 z.1 | exact fun z => z_rngn1 (by decide) c16 z.2 | exact fun z => z_rngle2 (n := 9) (by decide) c22 z.2, rfl, rfl⟩
  · skip
    have c1' := Int32.not_lt.mpr c1
    refine x_iload_n C (i := 1) dX11_row_4 rfl rfl ?_
    refine x_aload_n C (i := 0) dX11_row_5 rfl rfl ?_
    refine x_getR C fr_0_6 kf_X11_58 dX11_row_6 ?_
    refine x_getI C fi_21_8 kf_X11_177 dX11_row_9 ?_
    refine x_topI (y := nI n) hn ?_
    refine x_jcmp_ge C 25 dX11_row_12 (by decide) (fun c12 => ?_) (fun c12 => ?_)
    · skip
      have c12' := Int32.not_lt.mpr c12
      refine x_throw C xX xk hl (x_kt_IOB (is := 178) (text := "no such row, or number of it") (by decide)) dX11_row_25 dX11_row_28 dX11_row_29 dX11_row_31 dX11_row_34 ⟨by decide, by decide, by decide, by decide⟩ (by decide) (by decide) ?_
      exact hX _ _ ⟨by first | exact fun z => z_rngn1 (by omega) c1 z.1 | exact fun z => z_rngn2 (by omega) c12 z.1 | exact fun z => z_rngn1 (by decide) c16 z.2 | exact fun z => z_rngle2 (n := 9) (by decide) c22 z.2, rfl, rfl⟩
    · skip
      have c12' := Int32.not_le.mpr c12
      refine x_iload_n C (i := 2) dX11_row_15 rfl rfl ?_
      refine x_jf_lt C 25 dX11_row_16 (by decide) (fun c16 => ?_) (fun c16 => ?_)
      · skip
        have c16' := Int32.not_le.mpr c16
        refine x_throw C xX xk hl (x_kt_IOB (is := 178) (text := "no such row, or number of it") (by decide)) dX11_row_25 dX11_row_28 dX11_row_29 dX11_row_31 dX11_row_34 ⟨by decide, by decide, by decide, by decide⟩ (by decide) (by decide) ?_
        exact hX _ _ ⟨by first | exact fun z => z_rngn1 (by omega) c1 z.1 | exact fun z => z_rngn2 (by omega) c12 z.1 | exact fun z => z_rngn1 (by decide) c16 z.2 | exact fun z => z_rngle2 (n := 9) (by decide) c22 z.2, rfl, rfl⟩
      · skip
        have c16' := Int32.not_lt.mpr c16
        refine x_iload_n C (i := 2) dX11_row_19 rfl rfl ?_
        refine x_bipush C (nI 9) dX11_row_20 rfl ?_
        refine x_jcmp_le C 35 dX11_row_22 (by decide) (fun c22 => ?_) (fun c22 => ?_)
        · skip
          have c22' := Int32.not_lt.mpr c22
          obtain ⟨iq, hiq, rfl⟩ := z_rng (by omega) c1' c12
          obtain ⟨wq, hwq, rfl⟩ := z_rngle (n := 9) (by decide) c16' c22
          refine x_aload_n C (i := 0) dX11_row_35 rfl rfl ?_
          refine x_getR C fr_0_6 kf_X11_58 dX11_row_36 ?_
          refine x_iload_n C (i := 1) dX11_row_39 rfl rfl ?_
          refine x_iload_n C (i := 2) dX11_row_40 rfl rfl ?_
          have hM := c_X7_number l Y σ iq wq n cn sn hc hn9 hiq hwq
          refine x_callV C (as := [.int (nI iq), .int (nI wq)]) (st := []) (hM) kb_X7_number kv_X11_180 dX11_row_41 rfl rfl (Nat.le_of_ble_eq_true rfl) ⟨by decide, by decide⟩ ⟨by decide, by decide⟩ ko_21 ?_
          clear hM
          intro r9 τ9 h9
          obtain ⟨rfl, h8⟩ := h9
          rw [h8]
          clear h8 τ9
          refine x_retX (by decide) (by decide) ?_
          refine x_lret C xr xk dX11_row_44 ?_
          exact hK _ _ ⟨iq, wq, hiq, hwq, rfl, rfl, rfl, rfl⟩
        · skip
          have c22' := Int32.not_le.mpr c22
          refine x_throw C xX xk hl (x_kt_IOB (is := 178) (text := "no such row, or number of it") (by decide)) dX11_row_25 dX11_row_28 dX11_row_29 dX11_row_31 dX11_row_34 ⟨by decide, by decide, by decide, by decide⟩ (by decide) (by decide) ?_
          exact hX _ _ ⟨by first | exact fun z => z_rngn1 (by omega) c1 z.1 | exact fun z => z_rngn2 (by omega) c12 z.1 | exact fun z => z_rngn1 (by decide) c16 z.2 | exact fun z => z_rngle2 (n := 9) (by decide) c22 z.2, rfl, rfl⟩
theorem c_X11_row (l : Launch) (hl : l.stackTraces = false) (Y : x_Y) (σ : x_S) (i w : Int32) (n : Nat) (cn sn : Nat → Nat) (hc : ∀ a, a < n → σ.1 24 a = nI (cn a) ∧ cn a ≤ 3000 ∧ x_ab (σ.2 27 a) = lN (sn a) ∧ sn a < 2 ^ 63 ∧ 0 < cn a) (hn9 : n ≤ 3000) (hn : σ.1 21 8 = nI n) : x_MX l yX11_row cX11_row 3 (some .long) 6 1 Y [.ref 0, .int i, .int w] σ (fun r τ => ∃ iq wq, iq < n ∧ wq < 10 ∧ i = nI iq ∧ w = nI wq ∧ r = some (.long (if wq = 3 then lN (cn iq) else if wq = 4 then (σ.1 25 iq).toInt64 else if wq = 5 then (if σ.1 26 iq = 0 then 0 else 1) else if wq = 6 then σ.2 27 iq else if wq = 7 then σ.2 27 iq / lN (Nat.gcd (sn iq) (cn iq)) else if wq = 8 then lN (cn iq / Nat.gcd (sn iq) (cn iq)) else if wq = 9 then σ.2 28 iq else (z_part (σ.1 23 iq) wq).toInt64)) ∧ τ = σ) (fun E τ => ¬ (x_rng i n ∧ x_rng w 10) ∧ E = x_eIOB ∧ τ = σ) := c_X11_row_K l hl Y σ i w n cn sn hc hn9 hn _ _ (fun _ _ h => h) (fun _ _ h => h)
set_option maxRecDepth 100000 in
set_option maxHeartbeats 200000 in
theorem c_X11_digits_K (l : Launch) (hl : l.stackTraces = false) (Y : x_Y) (σ : x_S) (w : Int32) (kn : Bool) (hkn : σ.1 29 4 = x_z kn) (v0 v1 : Nat) (hv0 : z_is (σ.1 31) v0) (hv1 : z_is (σ.1 33) v1) (K : Option Value → x_S → Prop) (X : String → x_S → Prop) (hK : ∀ (r : Option Value) (τ : x_S), (∃ wq, wq < 2 ∧ w = nI wq ∧ ((kn = false ∧ r = some (.int (-1)) ∧ τ = σ) ∨ (kn = true ∧ ∃ kd, (r = some (.int (nI kd)) ∧ τ = σ) ∧ y_nd (if wq = 0 then v0 else v1) kd))) → K r τ) (hX : ∀ (E : String) (τ : x_S), (¬ x_rng w 2 ∧ E = x_eIOB ∧ τ = σ) → X E τ) : x_MX l yX11_digits cX11_digits 2 (some .int) 7 1 Y [.ref 0, .int w] σ K X := by
  refine x_startX (by decide) (Nat.le_of_ble_eq_true rfl) ?_
  intro xp xe xs xm xg xb xt xc C xr xk xX
  refine x_iload_n C (i := 1) dX11_digits_0 rfl rfl ?_
  have hM := c_X11_requirePartOfQuotient l hl Y σ w
  refine x_callSX C xX xk (as := [.int w]) (st := []) (hM) kb_X11_requirePartOfQuotient ks_X11_183 dX11_digits_1 rfl rfl (Nat.le_of_ble_eq_true rfl) ⟨by decide, by decide⟩ ⟨by decide, by decide⟩ (fun _ _ h9 => hX _ _ h9) (by decide) (by decide) ?_
  clear hM
  intro r9 τ9 h9
  obtain ⟨hw, rfl, h8⟩ := h9
  rw [h8]
  clear h8 τ9
  obtain ⟨wq, hwq, rfl⟩ := hw
  refine x_aload_n C (i := 0) dX11_digits_4 rfl rfl ?_
  refine x_getR C fr_0_6 kf_X11_58 dX11_digits_5 ?_
  refine x_getR C fr_21_7 kf_X11_186 dX11_digits_8 ?_
  refine x_getI C fi_29_4 kf_X11_190 dX11_digits_11 ?_
  refine x_topI (y := x_z kn) hkn ?_
  refine x_if_neZ C 19 dX11_digits_14 (by decide) (fun c14 => ?_) (fun c14 => ?_)
  · skip
    refine x_aload_n C (i := 0) dX11_digits_19 rfl rfl ?_
    refine x_getR C fr_0_6 kf_X11_58 dX11_digits_20 ?_
    refine x_getR C fr_21_7 kf_X11_186 dX11_digits_23 ?_
    refine x_iload_n C (i := 1) dX11_digits_26 rfl rfl ?_
    have hM := c_X5_part l Y σ wq hwq
    refine x_callV C (as := [.int (nI wq)]) (st := []) (hM) kb_X5_part kv_X11_196 dX11_digits_27 rfl rfl (Nat.le_of_ble_eq_true rfl) ⟨by decide, by decide⟩ ⟨by decide, by decide⟩ ko_29 ?_
    clear hM
    intro r9 τ9 h9
    rcases h9 with ⟨hw0, rfl, h8⟩ | ⟨hw0, rfl, h8⟩ <;> rw [h8] <;> clear h8 τ9
    · skip
      have hM := c_X4_countDigits_30 l Y σ v0 _ rfl hv0
      refine x_callV C (as := []) (st := []) (hM) kb_X4_countDigits kv_X11_199 dX11_digits_30 rfl rfl (Nat.le_of_ble_eq_true rfl) ⟨by decide, by decide⟩ ⟨by decide, by decide⟩ ko_30 ?_
      clear hM
      intro r9 τ9 h9
      obtain ⟨kd, ⟨rfl, h8⟩, hnd⟩ := h9
      rw [h8]
      clear h8 τ9
      refine x_retX (by decide) (by decide) ?_
      refine x_iret C xr xk dX11_digits_33 ?_
      exact hK _ _ ⟨wq, hwq, rfl, Or.inr ⟨c14, kd, ⟨rfl, rfl⟩, by first | (rw [if_pos hw0]; exact hnd) | (rw [if_neg (by omega)]; exact hnd)⟩⟩
    · skip
      have hM := c_X4_countDigits_32 l Y σ v1 _ rfl hv1
      refine x_callV C (as := []) (st := []) (hM) kb_X4_countDigits kv_X11_199 dX11_digits_30 rfl rfl (Nat.le_of_ble_eq_true rfl) ⟨by decide, by decide⟩ ⟨by decide, by decide⟩ ko_32 ?_
      clear hM
      intro r9 τ9 h9
      obtain ⟨kd, ⟨rfl, h8⟩, hnd⟩ := h9
      rw [h8]
      clear h8 τ9
      refine x_retX (by decide) (by decide) ?_
      refine x_iret C xr xk dX11_digits_33 ?_
      exact hK _ _ ⟨wq, hwq, rfl, Or.inr ⟨c14, kd, ⟨rfl, rfl⟩, by first | (rw [if_pos hw0]; exact hnd) | (rw [if_neg (by omega)]; exact hnd)⟩⟩
  · skip
    refine x_iconst C (-1) dX11_digits_17 rfl ?_
    refine x_retX (by decide) (by decide) ?_
    refine x_iret C xr xk dX11_digits_18 ?_
    exact hK _ _ ⟨wq, hwq, rfl, Or.inl ⟨c14, rfl, rfl⟩⟩
theorem c_X11_digits (l : Launch) (hl : l.stackTraces = false) (Y : x_Y) (σ : x_S) (w : Int32) (kn : Bool) (hkn : σ.1 29 4 = x_z kn) (v0 v1 : Nat) (hv0 : z_is (σ.1 31) v0) (hv1 : z_is (σ.1 33) v1) : x_MX l yX11_digits cX11_digits 2 (some .int) 7 1 Y [.ref 0, .int w] σ (fun r τ => ∃ wq, wq < 2 ∧ w = nI wq ∧ ((kn = false ∧ r = some (.int (-1)) ∧ τ = σ) ∨ (kn = true ∧ ∃ kd, (r = some (.int (nI kd)) ∧ τ = σ) ∧ y_nd (if wq = 0 then v0 else v1) kd))) (fun E τ => ¬ x_rng w 2 ∧ E = x_eIOB ∧ τ = σ) := c_X11_digits_K l hl Y σ w kn hkn v0 v1 hv0 hv1 _ _ (fun _ _ h => h) (fun _ _ h => h)
set_option maxRecDepth 100000 in
set_option maxHeartbeats 200000 in
theorem c_X11_digit_K (l : Launch) (hl : l.stackTraces = false) (Y : x_Y) (σ : x_S) (w k : Int32) (kn : Bool) (hkn : σ.1 29 4 = x_z kn) (v0 v1 : Nat) (hv0 : z_is (σ.1 31) v0) (hv1 : z_is (σ.1 33) v1) (K : Option Value → x_S → Prop) (X : String → x_S → Prop) (hK : ∀ (r : Option Value) (τ : x_S), (∃ wq, wq < 2 ∧ w = nI wq ∧ ((kn = false ∧ r = some (.int (nI 0)) ∧ τ = σ) ∨ (kn = true ∧ ((∃ j, j < 10 ∧ k = nI j ∧ r = some (.int (nI (y_d32 (if wq = 0 then v0 else v1) j))) ∧ τ = σ) ∨ (¬ x_rng k 10 ∧ r = some (.int (nI 0)) ∧ τ = σ))))) → K r τ) (hX : ∀ (E : String) (τ : x_S), (¬ x_rng w 2 ∧ E = x_eIOB ∧ τ = σ) → X E τ) : x_MX l yX11_digit cX11_digit 3 (some .int) 7 1 Y [.ref 0, .int w, .int k] σ K X := by
  refine x_startX (by decide) (Nat.le_of_ble_eq_true rfl) ?_
  intro xp xe xs xm xg xb xt xc C xr xk xX
  refine x_iload_n C (i := 1) dX11_digit_0 rfl rfl ?_
  have hM := c_X11_requirePartOfQuotient l hl Y σ w
  refine x_callSX C xX xk (as := [.int w]) (st := []) (hM) kb_X11_requirePartOfQuotient ks_X11_183 dX11_digit_1 rfl rfl (Nat.le_of_ble_eq_true rfl) ⟨by decide, by decide⟩ ⟨by decide, by decide⟩ (fun _ _ h9 => hX _ _ h9) (by decide) (by decide) ?_
  clear hM
  intro r9 τ9 h9
  obtain ⟨hw, rfl, h8⟩ := h9
  rw [h8]
  clear h8 τ9
  obtain ⟨wq, hwq, rfl⟩ := hw
  refine x_aload_n C (i := 0) dX11_digit_4 rfl rfl ?_
  refine x_getR C fr_0_6 kf_X11_58 dX11_digit_5 ?_
  refine x_getR C fr_21_7 kf_X11_186 dX11_digit_8 ?_
  refine x_getI C fi_29_4 kf_X11_190 dX11_digit_11 ?_
  refine x_topI (y := x_z kn) hkn ?_
  refine x_if_neZ C 19 dX11_digit_14 (by decide) (fun c14 => ?_) (fun c14 => ?_)
  · skip
    refine x_aload_n C (i := 0) dX11_digit_19 rfl rfl ?_
    refine x_getR C fr_0_6 kf_X11_58 dX11_digit_20 ?_
    refine x_getR C fr_21_7 kf_X11_186 dX11_digit_23 ?_
    refine x_iload_n C (i := 1) dX11_digit_26 rfl rfl ?_
    have hM := c_X5_part l Y σ wq hwq
    refine x_callV C (as := [.int (nI wq)]) (st := []) (hM) kb_X5_part kv_X11_196 dX11_digit_27 rfl rfl (Nat.le_of_ble_eq_true rfl) ⟨by decide, by decide⟩ ⟨by decide, by decide⟩ ko_29 ?_
    clear hM
    intro r9 τ9 h9
    rcases h9 with ⟨hw0, rfl, h8⟩ | ⟨hw0, rfl, h8⟩ <;> rw [h8] <;> clear h8 τ9
    · skip
      refine x_iload_n C (i := 2) dX11_digit_30 rfl rfl ?_
      have hM := c_X4_digitAt_30 l Y σ k v0 _ rfl hv0
      refine x_callV C (as := [.int k]) (st := []) (hM) kb_X4_digitAt kv_X11_204 dX11_digit_31 rfl rfl (Nat.le_of_ble_eq_true rfl) ⟨by decide, by decide⟩ ⟨by decide, by decide⟩ ko_30 ?_
      clear hM
      intro r9 τ9 h9
      rcases h9 with ⟨j, hj, hkj, rfl, h8⟩ | ⟨hkj, rfl, h8⟩ <;> rw [h8] <;> clear h8 τ9
      · skip
        refine x_retX (by decide) (by decide) ?_
        refine x_iret C xr xk dX11_digit_34 ?_
        exact hK _ _ ⟨wq, hwq, rfl, Or.inr ⟨c14, Or.inl ⟨j, hj, hkj, by first | rw [if_pos hw0] | rw [if_neg (by omega)], rfl⟩⟩⟩
      · skip
        refine x_retX (by decide) (by decide) ?_
        refine x_iret C xr xk dX11_digit_34 ?_
        exact hK _ _ ⟨wq, hwq, rfl, Or.inr ⟨c14, Or.inr ⟨hkj, rfl, rfl⟩⟩⟩
    · skip
      refine x_iload_n C (i := 2) dX11_digit_30 rfl rfl ?_
      have hM := c_X4_digitAt_32 l Y σ k v1 _ rfl hv1
      refine x_callV C (as := [.int k]) (st := []) (hM) kb_X4_digitAt kv_X11_204 dX11_digit_31 rfl rfl (Nat.le_of_ble_eq_true rfl) ⟨by decide, by decide⟩ ⟨by decide, by decide⟩ ko_32 ?_
      clear hM
      intro r9 τ9 h9
      rcases h9 with ⟨j, hj, hkj, rfl, h8⟩ | ⟨hkj, rfl, h8⟩ <;> rw [h8] <;> clear h8 τ9
      · skip
        refine x_retX (by decide) (by decide) ?_
        refine x_iret C xr xk dX11_digit_34 ?_
        exact hK _ _ ⟨wq, hwq, rfl, Or.inr ⟨c14, Or.inl ⟨j, hj, hkj, by first | rw [if_pos hw0] | rw [if_neg (by omega)], rfl⟩⟩⟩
      · skip
        refine x_retX (by decide) (by decide) ?_
        refine x_iret C xr xk dX11_digit_34 ?_
        exact hK _ _ ⟨wq, hwq, rfl, Or.inr ⟨c14, Or.inr ⟨hkj, rfl, rfl⟩⟩⟩
  · skip
    refine x_iconst C (nI 0) dX11_digit_17 rfl ?_
    refine x_retX (by decide) (by decide) ?_
    refine x_iret C xr xk dX11_digit_18 ?_
    exact hK _ _ ⟨wq, hwq, rfl, Or.inl ⟨c14, rfl, rfl⟩⟩
theorem c_X11_digit (l : Launch) (hl : l.stackTraces = false) (Y : x_Y) (σ : x_S) (w k : Int32) (kn : Bool) (hkn : σ.1 29 4 = x_z kn) (v0 v1 : Nat) (hv0 : z_is (σ.1 31) v0) (hv1 : z_is (σ.1 33) v1) : x_MX l yX11_digit cX11_digit 3 (some .int) 7 1 Y [.ref 0, .int w, .int k] σ (fun r τ => ∃ wq, wq < 2 ∧ w = nI wq ∧ ((kn = false ∧ r = some (.int (nI 0)) ∧ τ = σ) ∨ (kn = true ∧ ((∃ j, j < 10 ∧ k = nI j ∧ r = some (.int (nI (y_d32 (if wq = 0 then v0 else v1) j))) ∧ τ = σ) ∨ (¬ x_rng k 10 ∧ r = some (.int (nI 0)) ∧ τ = σ))))) (fun E τ => ¬ x_rng w 2 ∧ E = x_eIOB ∧ τ = σ) := c_X11_digit_K l hl Y σ w k kn hkn v0 v1 hv0 hv1 _ _ (fun _ _ h => h) (fun _ _ h => h)
set_option maxRecDepth 100000 in
set_option maxHeartbeats 200000 in
theorem c_X11_violations_K (l : Launch) (hl : l.stackTraces = false) (Y : x_Y) (σ : x_S) (m : Int32) (n : Nat) (hn : σ.1 10 5 = nI n) (hn9 : n ≤ 192) (N : Nat) (hN : σ.1 15 3 = nI N) (hN9 : N ≤ 3000) (K : Option Value → x_S → Prop) (X : String → x_S → Prop) (hK : ∀ (r : Option Value) (τ : x_S), (n ≠ 0 ∧ x_rng m 101 ∧ ∃ f37, (r = some (.int (nI (y_cnb (z_vio σ n m) N))) ∧ τ = x_st σ [(36, 1, nI (y_cnb (z_vio σ n m) N))] [(37, f37)] []) ∧ y_fnd (z_vio σ n m) N f37) → K r τ) (hX : ∀ (E : String) (τ : x_S), ((n = 0 ∧ E = x_eISE ∧ τ = σ) ∨ (n ≠ 0 ∧ ¬ x_rng m 101 ∧ E = x_eIAE ∧ τ = σ)) → X E τ) : x_MX l yX11_violations cX11_violations 2 (some .int) 7 2 Y [.ref 0, .int m] σ K X := by
  refine x_startX (by decide) (Nat.le_of_ble_eq_true rfl) ?_
  intro xp xe xs xm xg xb xt xc C xr xk xX
  refine x_aload_n C (i := 0) dX11_violations_0 rfl rfl ?_
  have hM := c_X11_requireGroup l hl Y σ n hn hn9
  refine x_callVX C xX xk (as := []) (st := []) (hM) kb_X11_requireGroup kv_X11_144 dX11_violations_1 rfl rfl (Nat.le_of_ble_eq_true rfl) ⟨by decide, by decide⟩ ⟨by decide, by decide⟩ ko_0 (fun _ _ h9 => hX _ _ (Or.inl h9)) (by decide) (by decide) ?_
  clear hM
  intro r9 τ9 h9
  obtain ⟨hg, rfl, h8⟩ := h9
  rw [h8]
  clear h8 τ9
  refine x_iload_n C (i := 1) dX11_violations_4 rfl rfl ?_
  refine x_jf_lt C 14 dX11_violations_5 (by decide) (fun c5 => ?_) (fun c5 => ?_)
  · skip
    have c5' := Int32.not_le.mpr c5
    refine x_throw C xX xk hl (x_kt_IAE (is := 207) (text := "m is not 0 .. 100") (by decide)) dX11_violations_14 dX11_violations_17 dX11_violations_18 dX11_violations_20 dX11_violations_23 ⟨by decide, by decide, by decide, by decide⟩ (by decide) (by decide) ?_
    exact hX _ _ (Or.inr ⟨hg, by first | exact z_rngn1 (by decide) c5 | exact z_rngle2 (n := 100) (by decide) c11, rfl, rfl⟩)
  · skip
    have c5' := Int32.not_lt.mpr c5
    refine x_iload_n C (i := 1) dX11_violations_8 rfl rfl ?_
    refine x_bipush C (nI 100) dX11_violations_9 rfl ?_
    refine x_jcmp_le C 24 dX11_violations_11 (by decide) (fun c11 => ?_) (fun c11 => ?_)
    · skip
      have c11' := Int32.not_lt.mpr c11
      have hm := z_rngle (n := 100) (by decide) c5' c11
      refine x_aload_n C (i := 0) dX11_violations_24 rfl rfl ?_
      refine x_getR C fr_0_7 kf_X11_65 dX11_violations_25 ?_
      refine x_iload_n C (i := 1) dX11_violations_28 rfl rfl ?_
      refine x_aload_n C (i := 0) dX11_violations_29 rfl rfl ?_
      refine x_getR C fr_0_4 kf_X11_42 dX11_violations_30 ?_
      refine x_aload_n C (i := 0) dX11_violations_33 rfl rfl ?_
      refine x_getR C fr_0_3 kf_X11_35 dX11_violations_34 ?_
      have hM := c_X10_findAbove l Y σ m n hn hn9 N hN hN9
      refine x_callV C (as := [.int m, .ref 15, .ref 10]) (st := []) (hM) kb_X10_findAbove kv_X11_209 dX11_violations_37 rfl rfl (Nat.le_of_ble_eq_true rfl) ⟨by decide, by decide⟩ ⟨by decide, by decide⟩ ko_36 ?_
      clear hM
      rintro _ _ ⟨f37, ⟨rfl, rfl⟩, hfd⟩
      refine x_aload_n C (i := 0) dX11_violations_40 rfl rfl ?_
      refine x_getR C fr_0_7 kf_X11_65 dX11_violations_41 ?_
      refine x_getI C fi_36_1 kf_X11_213 dX11_violations_44 ?_
      refine x_topI (y := nI (y_cnb (z_vio σ n m) N)) rfl ?_
      refine x_retX (by decide) (by decide) ?_
      refine x_iret C xr xk dX11_violations_47 ?_
      exact hK _ _ ⟨hg, hm, _, ⟨rfl, rfl⟩, hfd⟩
    · skip
      have c11' := Int32.not_le.mpr c11
      refine x_throw C xX xk hl (x_kt_IAE (is := 207) (text := "m is not 0 .. 100") (by decide)) dX11_violations_14 dX11_violations_17 dX11_violations_18 dX11_violations_20 dX11_violations_23 ⟨by decide, by decide, by decide, by decide⟩ (by decide) (by decide) ?_
      exact hX _ _ (Or.inr ⟨hg, by first | exact z_rngn1 (by decide) c5 | exact z_rngle2 (n := 100) (by decide) c11, rfl, rfl⟩)
theorem c_X11_violations (l : Launch) (hl : l.stackTraces = false) (Y : x_Y) (σ : x_S) (m : Int32) (n : Nat) (hn : σ.1 10 5 = nI n) (hn9 : n ≤ 192) (N : Nat) (hN : σ.1 15 3 = nI N) (hN9 : N ≤ 3000) : x_MX l yX11_violations cX11_violations 2 (some .int) 7 2 Y [.ref 0, .int m] σ (fun r τ => n ≠ 0 ∧ x_rng m 101 ∧ ∃ f37, (r = some (.int (nI (y_cnb (z_vio σ n m) N))) ∧ τ = x_st σ [(36, 1, nI (y_cnb (z_vio σ n m) N))] [(37, f37)] []) ∧ y_fnd (z_vio σ n m) N f37) (fun E τ => (n = 0 ∧ E = x_eISE ∧ τ = σ) ∨ (n ≠ 0 ∧ ¬ x_rng m 101 ∧ E = x_eIAE ∧ τ = σ)) := c_X11_violations_K l hl Y σ m n hn hn9 N hN hN9 _ _ (fun _ _ h => h) (fun _ _ h => h)
set_option maxRecDepth 100000 in
set_option maxHeartbeats 200000 in
theorem c_X11_complete_K (l : Launch) (hl : l.stackTraces = false) (Y : x_Y) (σ : x_S) (mo w : Int32) (n : Nat) (hn : σ.1 10 5 = nI n) (hn9 : n ≤ 192) (c : Nat) (hc : σ.1 10 4 = nI c) (hc9 : c ≤ 192) (nr : Nat) (hnr : σ.1 21 8 = nI nr) (hnr9 : nr ≤ 3000) (K : Option Value → x_S → Prop) (X : String → x_S → Prop) (hK : ∀ (r : Option Value) (τ : x_S), (∃ mq, n ≠ 0 ∧ 0 < mq ∧ mq < 13 ∧ mo = nI mq ∧ ((w = nI 0 ∧ r = some (.int (nI (y_cnb (fun a => decide (σ.1 26 a = 0) && z_box (z_part (σ.1 23 a) 0) (z_part (σ.1 23 a) 1) (z_part (σ.1 23 a) 2) (nI mq)) nr)))) ∨ (w = nI 1 ∧ r = some (.int (nI (z_c3 (σ.1 12) (σ.1 13) n c mq))))) ∧ τ = σ) → K r τ) (hX : ∀ (E : String) (τ : x_S), ((n = 0 ∧ E = x_eISE ∧ τ = σ) ∨ (n ≠ 0 ∧ ¬ y_mo mo ∧ E = x_eIAE ∧ τ = σ) ∨ (n ≠ 0 ∧ y_mo mo ∧ ¬ x_rng w 2 ∧ E = x_eIOB ∧ τ = σ)) → X E τ) : x_MX l yX11_complete cX11_complete 3 (some .int) 7 2 Y [.ref 0, .int mo, .int w] σ K X := by
  refine x_startX (by decide) (Nat.le_of_ble_eq_true rfl) ?_
  intro xp xe xs xm xg xb xt xc C xr xk xX
  refine x_aload_n C (i := 0) dX11_complete_0 rfl rfl ?_
  have hM := c_X11_requireGroup l hl Y σ n hn hn9
  refine x_callVX C xX xk (as := []) (st := []) (hM) kb_X11_requireGroup kv_X11_144 dX11_complete_1 rfl rfl (Nat.le_of_ble_eq_true rfl) ⟨by decide, by decide⟩ ⟨by decide, by decide⟩ ko_0 (fun _ _ h9 => hX _ _ (Or.inl h9)) (by decide) (by decide) ?_
  clear hM
  intro r9 τ9 h9
  obtain ⟨hg, rfl, h8⟩ := h9
  rw [h8]
  clear h8 τ9
  refine x_iload_n C (i := 1) dX11_complete_4 rfl rfl ?_
  refine x_iconst C (nI 1) dX11_complete_5 rfl ?_
  refine x_jcmp_lt C 15 dX11_complete_6 (by decide) (fun c6 => ?_) (fun c6 => ?_)
  · skip
    have c6' := Int32.not_le.mpr c6
    refine x_throw C xX xk hl (x_kt_IAE (is := 217) (text := "H is not 1 .. 12") (by decide)) dX11_complete_15 dX11_complete_18 dX11_complete_19 dX11_complete_21 dX11_complete_24 ⟨by decide, by decide, by decide, by decide⟩ (by decide) (by decide) ?_
    exact hX _ _ (Or.inr (Or.inl ⟨hg, by first | exact z_mo2 c6 | exact z_mo3 c12, rfl, rfl⟩))
  · skip
    have c6' := Int32.not_lt.mpr c6
    refine x_iload_n C (i := 1) dX11_complete_9 rfl rfl ?_
    refine x_bipush C (nI 12) dX11_complete_10 rfl ?_
    refine x_jcmp_le C 25 dX11_complete_12 (by decide) (fun c12 => ?_) (fun c12 => ?_)
    · skip
      have c12' := Int32.not_lt.mpr c12
      obtain ⟨mq, hmq1, hmq2, rfl⟩ := z_mo1 c6' c12
      refine x_iload_n C (i := 2) dX11_complete_25 rfl rfl ?_
      refine x_if_eq C 44 dX11_complete_26 (by decide) (fun c26 => ?_) (fun c26 => ?_)
      · skip
        have hw0 : w = nI 0 := c26
        subst hw0
        refine x_iload_n C (i := 2) dX11_complete_44 rfl rfl ?_
        refine x_if_neN C 59 dX11_complete_45 (by decide) (by omega) (fun c45 => absurd c45 (by decide)) (fun c45 => ?_)
        refine x_aload_n C (i := 0) dX11_complete_48 rfl rfl ?_
        refine x_getR C fr_0_6 kf_X11_58 dX11_complete_49 ?_
        refine x_iload_n C (i := 1) dX11_complete_52 rfl rfl ?_
        have hM := c_X7_countPresentWithin l Y σ (nI mq) nr hnr hnr9
        refine x_callV C (as := [.int (nI mq)]) (st := []) (hM) kb_X7_countPresentWithin kv_X11_221 dX11_complete_53 rfl rfl (Nat.le_of_ble_eq_true rfl) ⟨by decide, by decide⟩ ⟨by decide, by decide⟩ ko_21 ?_
        clear hM
        intro r9 τ9 h9
        obtain ⟨rfl, h8⟩ := h9
        rw [h8]
        clear h8 τ9
        refine x_goto C 67 dX11_complete_56 (by decide) ?_
        refine x_retX (by decide) (by decide) ?_
        refine x_iret C xr xk dX11_complete_67 ?_
        exact hK _ _ ⟨mq, hg, hmq1, hmq2, rfl, Or.inl ⟨rfl, rfl⟩, rfl⟩
      · skip
        refine x_iload_n C (i := 2) dX11_complete_29 rfl rfl ?_
        refine x_iconst C (nI 1) dX11_complete_30 rfl ?_
        refine x_icmp_eq C 44 dX11_complete_31 (by decide) (fun c31 => ?_) (fun c31 => ?_)
        · skip
          have hw0 : w = nI 1 := c31
          subst hw0
          refine x_iload_n C (i := 2) dX11_complete_44 rfl rfl ?_
          refine x_if_neN C 59 dX11_complete_45 (by decide) (by omega) (fun c45 => ?_) (fun c45 => absurd c45 (by decide))
          refine x_aload_n C (i := 0) dX11_complete_59 rfl rfl ?_
          refine x_getR C fr_0_3 kf_X11_35 dX11_complete_60 ?_
          refine x_iload_n C (i := 1) dX11_complete_63 rfl rfl ?_
          have hM := c_X1_countPresentKindsWithin l Y σ mq hmq2 n hn hn9 c hc hc9
          refine x_callV C (as := [.int (nI mq)]) (st := []) (hM) kb_X1_countPresentKindsWithin kv_X11_224 dX11_complete_64 rfl rfl (Nat.le_of_ble_eq_true rfl) ⟨by decide, by decide⟩ ⟨by decide, by decide⟩ ko_10 ?_
          clear hM
          intro r9 τ9 h9
          obtain ⟨rfl, h8⟩ := h9
          rw [h8]
          clear h8 τ9
          refine x_retX (by decide) (by decide) ?_
          refine x_iret C xr xk dX11_complete_67 ?_
          exact hK _ _ ⟨mq, hg, hmq1, hmq2, rfl, Or.inr ⟨rfl, rfl⟩, rfl⟩
        · skip
          refine x_throw C xX xk hl (x_kt_IOB (is := 219) (text := "neither kinds with a row nor all kinds") (by decide)) dX11_complete_34 dX11_complete_37 dX11_complete_38 dX11_complete_40 dX11_complete_43 ⟨by decide, by decide, by decide, by decide⟩ (by decide) (by decide) ?_
          exact hX _ _ (Or.inr (Or.inr ⟨hg, ⟨mq, hmq1, hmq2, rfl⟩, by
            rintro ⟨j, hj, rfl⟩
            have h9 : j = 0 ∨ j = 1 := by omega
            rcases h9 with rfl | rfl
            · exact c26 rfl
            · exact c31 rfl, rfl, rfl⟩))
    · skip
      have c12' := Int32.not_le.mpr c12
      refine x_throw C xX xk hl (x_kt_IAE (is := 217) (text := "H is not 1 .. 12") (by decide)) dX11_complete_15 dX11_complete_18 dX11_complete_19 dX11_complete_21 dX11_complete_24 ⟨by decide, by decide, by decide, by decide⟩ (by decide) (by decide) ?_
      exact hX _ _ (Or.inr (Or.inl ⟨hg, by first | exact z_mo2 c6 | exact z_mo3 c12, rfl, rfl⟩))
theorem c_X11_complete (l : Launch) (hl : l.stackTraces = false) (Y : x_Y) (σ : x_S) (mo w : Int32) (n : Nat) (hn : σ.1 10 5 = nI n) (hn9 : n ≤ 192) (c : Nat) (hc : σ.1 10 4 = nI c) (hc9 : c ≤ 192) (nr : Nat) (hnr : σ.1 21 8 = nI nr) (hnr9 : nr ≤ 3000) : x_MX l yX11_complete cX11_complete 3 (some .int) 7 2 Y [.ref 0, .int mo, .int w] σ (fun r τ => ∃ mq, n ≠ 0 ∧ 0 < mq ∧ mq < 13 ∧ mo = nI mq ∧ ((w = nI 0 ∧ r = some (.int (nI (y_cnb (fun a => decide (σ.1 26 a = 0) && z_box (z_part (σ.1 23 a) 0) (z_part (σ.1 23 a) 1) (z_part (σ.1 23 a) 2) (nI mq)) nr)))) ∨ (w = nI 1 ∧ r = some (.int (nI (z_c3 (σ.1 12) (σ.1 13) n c mq))))) ∧ τ = σ) (fun E τ => (n = 0 ∧ E = x_eISE ∧ τ = σ) ∨ (n ≠ 0 ∧ ¬ y_mo mo ∧ E = x_eIAE ∧ τ = σ) ∨ (n ≠ 0 ∧ y_mo mo ∧ ¬ x_rng w 2 ∧ E = x_eIOB ∧ τ = σ)) := c_X11_complete_K l hl Y σ mo w n hn hn9 c hc hc9 nr hnr hnr9 _ _ (fun _ _ h => h) (fun _ _ h => h)
