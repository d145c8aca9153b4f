set_option maxRecDepth 100000 in
set_option maxHeartbeats 400000 in
theorem c_X7_makeQuotient_K (l : Launch) (Y : x_Y) (σ : x_S) (n : Nat) (hn : σ.1 21 8 = nI n) (hn9 : n ≤ 3000) (cn sp : Nat → Nat) (hrow : ∀ a, a < n → σ.1 24 a = nI (cn a) ∧ 0 < cn a ∧ cn a ≤ 3000 ∧ σ.2 28 a = lN (sp a) ∧ sp a < 2 ^ 45) (T N0 : Nat) (hT : 0 < y_tot (z_ct σ cn) (σ.2 27) n → y_tot (z_ct σ cn) (σ.2 27) n = lN T ∧ 0 < T ∧ T < 2 ^ 46) (hN0 : ∀ a, a < n → z_ct σ cn a = true → cn a ∣ N0) (hN1 : 0 < N0) (hN9 : N0 * (y_ssp (z_ct σ cn) sp n + T + 1) * 2 ≤ 65536 ^ 20) (hgs : σ.1 29 3 = nI 0) (f31 f33 : Nat → Int32) (h31 : σ.1 31 = f31) (h33 : σ.1 33 = f33) (hz31 : z_is f31 0) (hz33 : z_is f33 1) (K : Option Value → x_S → Prop) (hK : ∀ (r : Option Value) (τ : x_S), ((¬ 0 < y_tot (z_ct σ cn) (σ.2 27) n ∧ ∃ gs q4 g31 g33 g35, (r = none ∧ τ = x_st σ [(29, 3, nI gs), (29, 4, q4)] [(31, g31), (33, g33), (35, g35)] []) ∧ q4 = σ.1 29 4) ∨ (0 < y_tot (z_ct σ cn) (σ.2 27) n ∧ ∃ gs g31 g33 g35, (r = none ∧ τ = x_st σ [(29, 3, nI gs), (29, 4, x_z true)] [(31, g31), (33, g33), (35, g35)] []) ∧ ∀ M, 0 < M → (∀ a, a < n → z_ct σ cn a = true → cn a ∣ M) → z_is g31 (y_abv (z_ct σ cn) cn sp M n / Nat.gcd (y_abv (z_ct σ cn) cn sp M n) (M * T)) ∧ z_is g33 (M * T / Nat.gcd (y_abv (z_ct σ cn) cn sp M n) (M * T)))) → K r τ) : x_M l yX7_makeQuotient cX7_makeQuotient 4 none 4 Y [.ref 21] σ K := by
  refine x_start (by decide) (Nat.le_of_ble_eq_true rfl) ?_
  intro xp xe xs xm xg xb xt xc C xr xk
  refine x_sig (σ' := x_st σ [(29, 3, nI 0), (29, 4, σ.1 29 4)] [(31, f31), (33, f33), (35, σ.1 35)] []) (x_st_in (And.intro hgs (And.intro rfl trivial)) (And.intro h31 (And.intro h33 (And.intro rfl trivial))) trivial) ?_
  refine x_lconst C (0) dX7_makeQuotient_0 rfl ?_
  refine x_topL (y := lN 0) rfl ?_
  refine x_topL (y := y_tot (z_ct σ cn) (σ.2 27) 0) rfl ?_
  refine x_lstore_n C (i := 1) dX7_makeQuotient_1 rfl (by decide) ?_
  refine x_iconst C (nI 0) dX7_makeQuotient_2 rfl ?_
  refine x_istore_n C (i := 3) dX7_makeQuotient_3 rfl (by decide) ?_
  have lp4 : ∀ (m4 : Nat) (i : Nat) (N : Nat) (D : Nat) (gs : Nat) (g31 : Nat → Int32) (g33 : Nat → Int32) (g35 : Nat → Int32), (n - i) = m4 → (i ≤ n) → (z_is g31 N) → (z_is g33 D) → (z_mq (z_ct σ cn) cn sp N0 i N D gs) → ∀ L : x_Lo, L.1 0 = some (.ref 21) → L.2 1 = some (y_tot (z_ct σ cn) (σ.2 27) i) → L.1 3 = some (.int (nI i)) → x_W xp l xe (x_rm 4) xs xm xg xb xt xc 4 Y 0 0 (MQ xb (x_Q Y K) xg xs 0 0 (x_A Y)) 4 L [] (x_st σ [(29, 3, nI gs), (29, 4, σ.1 29 4)] [(31, g31), (33, g33), (35, g35)] []) := by
    intro m4
    induction m4 using Nat.strongRecOn with
    | _ m4 ih4 =>
      intro i N D gs g31 g33 g35 hm4 hi hN hD hmq L xl0 xl1 xl3
      refine x_iload_n C (i := 3) dX7_makeQuotient_4 rfl xl3 ?_
      refine x_aload_n C (i := 0) dX7_makeQuotient_5 rfl xl0 ?_
      refine x_getI C fi_21_8 kf_X7_42 dX7_makeQuotient_6 ?_
      refine x_topI (y := nI n) hn ?_
      refine x_icmp_geN C 65 dX7_makeQuotient_9 (by decide) (by omega) (by omega) (fun c9 => ?_) (fun c9 => ?_)
      · skip
        have c9' := Nat.not_lt.mpr c9
        obtain rfl : n = i := by omega
        have hDT : D * T < 65536 ^ 20 := Nat.lt_of_le_of_lt (Nat.mul_le_mul_right T (z_mq_b hmq hN1 hN0).1) (z_nb20 hN1 hN9).2.2
        refine x_aload_n C (i := 0) dX7_makeQuotient_65 rfl xl0 ?_
        refine x_getR C fr_21_7 kf_X7_38 dX7_makeQuotient_66 ?_
        refine x_lload_n C (i := 1) dX7_makeQuotient_69 rfl xl1 ?_
        have hM := c_X5_divideBy l Y (x_st σ [(29, 3, nI gs), (29, 4, σ.1 29 4)] [(31, g31), (33, g33), (35, g35)] []) (y_tot (z_ct σ cn) (σ.2 27) n) T hT gs rfl hmq.2.2.2.1 N D g31 g33 rfl rfl hN hD hmq.1 hmq.2.1 hDT
        refine x_callV C (as := [.long (y_tot (z_ct σ cn) (σ.2 27) n)]) (st := []) (hM) kb_X5_divideBy kv_X7_121 dX7_makeQuotient_70 rfl rfl (Nat.le_of_ble_eq_true rfl) ⟨by decide, by decide⟩ ⟨by decide, by decide⟩ ko_29 ?_
        clear hM
        rintro _ _ (⟨hz, rfl, rfl⟩ | ⟨hz, N9, D9, e, e31, e33, ⟨rfl, rfl⟩, hq1, hq2, hD90, hNe, hDe, hno⟩)
        · skip
          refine x_vret C xr xk dX7_makeQuotient_73 ?_
          exact hK _ _ (Or.inl ⟨hz, _, _, _, _, _, ⟨rfl, rfl⟩, rfl⟩)
        · skip
          refine x_sig (σ' := x_st σ [(29, 3, nI gs), (29, 4, x_z true)] [(31, e31), (33, e33), (35, g35)] []) (x_st_st rfl) ?_
          refine x_vret C xr xk dX7_makeQuotient_73 ?_
          exact hK _ _ (Or.inr ⟨hz, _, _, _, _, ⟨rfl, rfl⟩, fun M hM hMc => by
            have h9 := z_final hmq hNe hDe hD90 hno (hT hz).2.1 hM hMc
            rw [← h9.1, ← h9.2]
            exact ⟨hq1, hq2⟩⟩)
      · skip
        have c9' := Nat.not_le.mpr c9
        obtain ⟨hr1, hr2, hr3, hr4, hr5⟩ := hrow i (by omega)
        refine x_aload_n C (i := 0) dX7_makeQuotient_12 rfl xl0 ?_
        refine x_getR C fr_21_4 kf_X7_25 dX7_makeQuotient_13 ?_
        refine x_iload_n C (i := 3) dX7_makeQuotient_16 rfl xl3 ?_
        refine x_zaldN C (by decide) rfl (by decide) dX7_makeQuotient_17 (by omega) ?_
        refine x_topI (y := σ.1 26 i) rfl ?_
        refine x_if_ne C 59 dX7_makeQuotient_18 (by decide) (fun c18 => ?_) (fun c18 => ?_)
        · skip
          have hct : z_ct σ cn i = false := by
            unfold z_ct
            rw [decide_eq_false (show ¬ σ.1 26 i = 0 from c18)]; rfl
          rw [y_tot_f hct] at xl1
          refine x_iincN C (i := 3) (b := 1) dX7_makeQuotient_59 xl3 rfl (by decide) ?_
          refine x_goto C 4 dX7_makeQuotient_62 (by decide) ?_
          exact ih4 _ (by omega) (i + 1) N D gs g31 g33 g35 rfl (by omega) hN hD (z_mq_f hmq hct) _ xl0 xl1 rfl
        · skip
          refine x_aload_n C (i := 0) dX7_makeQuotient_21 rfl xl0 ?_
          refine x_getR C fr_21_2 kf_X7_19 dX7_makeQuotient_22 ?_
          refine x_iload_n C (i := 3) dX7_makeQuotient_25 rfl xl3 ?_
          refine x_ialdN C (by decide) rfl (by decide) dX7_makeQuotient_26 (by omega) ?_
          refine x_topI (y := σ.1 24 i) rfl ?_
          refine x_topI (y := nI (cn i)) hr1 ?_
          refine x_iconst C (nI 2) dX7_makeQuotient_27 rfl ?_
          refine x_icmp_ltN C 59 dX7_makeQuotient_28 (by decide) (by omega) (by omega) (fun c28 => ?_) (fun c28 => ?_)
          · skip
            have c28' := Nat.not_le.mpr c28
            have hct : z_ct σ cn i = false := by
              unfold z_ct
              rw [decide_eq_false (show ¬ 1 < cn i by omega), Bool.and_false]
            rw [y_tot_f hct] at xl1
            refine x_iincN C (i := 3) (b := 1) dX7_makeQuotient_59 xl3 rfl (by decide) ?_
            refine x_goto C 4 dX7_makeQuotient_62 (by decide) ?_
            exact ih4 _ (by omega) (i + 1) N D gs g31 g33 g35 rfl (by omega) hN hD (z_mq_f hmq hct) _ xl0 xl1 rfl
          · skip
            have c28' := Nat.not_lt.mpr c28
            have hct : z_ct σ cn i = true := by
              unfold z_ct
              rw [decide_eq_true (show σ.1 26 i = 0 from c18), decide_eq_true (show 1 < cn i by omega)]
              rfl
            obtain ⟨q, hq⟩ : ∃ q, Nat.gcd (sp i) (cn i) = q := ⟨_, rfl⟩
            obtain ⟨tm, htm⟩ : ∃ z, sp i / q = z := ⟨_, rfl⟩
            obtain ⟨ll, hll⟩ : ∃ z, cn i / q = z := ⟨_, rfl⟩
            obtain ⟨sh, hsh⟩ : ∃ z, Nat.gcd D ll = z := ⟨_, rfl⟩
            have hmq2 := z_mq_s hmq hct hr2 hr3 (hN0 i (by omega) hct) hq htm hll hsh
            obtain ⟨hb1, -, hb2⟩ := z_mq_b hmq2 hN1 (fun r h => hN0 r (by omega))
            have hsm := y_ssp_mono (z_ct σ cn) sp (show i + 1 ≤ n by omega)
            have hnb := z_nb20 hN1 hN9
            have hDb : D * (ll / sh) < 65536 ^ 20 := Nat.lt_of_le_of_lt hb1 hnb.1
            have hNb : N * (ll / sh) + D / sh * tm < 65536 ^ 20 := Nat.lt_of_le_of_lt (Nat.le_trans hb2 (Nat.mul_le_mul_left N0 hsm)) hnb.2.1
            refine x_aload_n C (i := 0) dX7_makeQuotient_31 rfl xl0 ?_
            refine x_getR C fr_21_7 kf_X7_38 dX7_makeQuotient_32 ?_
            refine x_aload_n C (i := 0) dX7_makeQuotient_35 rfl xl0 ?_
            refine x_getR C fr_21_6 kf_X7_32 dX7_makeQuotient_36 ?_
            refine x_iload_n C (i := 3) dX7_makeQuotient_39 rfl xl3 ?_
            refine x_laldN C (by decide) rfl (by decide) dX7_makeQuotient_40 (by omega) ?_
            refine x_topL (y := σ.2 28 i) rfl ?_
            refine x_topL (y := lN (sp i)) hr4 ?_
            refine x_aload_n C (i := 0) dX7_makeQuotient_41 rfl xl0 ?_
            refine x_getR C fr_21_2 kf_X7_19 dX7_makeQuotient_42 ?_
            refine x_iload_n C (i := 3) dX7_makeQuotient_45 rfl xl3 ?_
            refine x_ialdN C (by decide) rfl (by decide) dX7_makeQuotient_46 (by omega) ?_
            refine x_topI (y := σ.1 24 i) rfl ?_
            refine x_topI (y := nI (cn i)) hr1 ?_
            have hM := c_X5_add l Y (x_st σ [(29, 3, nI gs), (29, 4, σ.1 29 4)] [(31, g31), (33, g33), (35, g35)] []) (sp i) (cn i) hr5 hr2 hr3 gs rfl hmq.2.2.2.1 N D g31 g33 rfl rfl hN hD hmq.1 g35 rfl q tm ll sh hq htm hll hsh hNb hDb
            refine x_callV C (as := [.long (lN (sp i)), .int (nI (cn i))]) (st := []) (hM) kb_X5_add kv_X7_117 dX7_makeQuotient_47 rfl rfl (Nat.le_of_ble_eq_true rfl) ⟨by decide, by decide⟩ ⟨by decide, by decide⟩ ko_29 ?_
            clear hM
            rintro _ _ ⟨e31, e33, e35, ⟨rfl, rfl⟩, hN2, hD2⟩
            refine x_sig (σ' := x_st σ [(29, 3, nI (max gs (cn i))), (29, 4, σ.1 29 4)] [(31, e31), (33, e33), (35, e35)] []) (x_st_st rfl) ?_
            refine x_lload_n C (i := 1) dX7_makeQuotient_50 rfl xl1 ?_
            refine x_aload_n C (i := 0) dX7_makeQuotient_51 rfl xl0 ?_
            refine x_getR C fr_21_5 kf_X7_29 dX7_makeQuotient_52 ?_
            refine x_iload_n C (i := 3) dX7_makeQuotient_55 rfl xl3 ?_
            refine x_laldN C (by decide) rfl (by decide) dX7_makeQuotient_56 (by omega) ?_
            refine x_topL (y := σ.2 27 i) rfl ?_
            refine x_ladd C dX7_makeQuotient_57 ?_
            refine x_topL (y := y_tot (z_ct σ cn) (σ.2 27) (i + 1)) (y_tot_t hct) ?_
            refine x_lstore_n C (i := 1) dX7_makeQuotient_58 rfl (by decide) ?_
            refine x_iincN C (i := 3) (b := 1) dX7_makeQuotient_59 xl3 rfl (by decide) ?_
            refine x_goto C 4 dX7_makeQuotient_62 (by decide) ?_
            exact ih4 _ (by omega) (i + 1) (N * (ll / sh) + D / sh * tm) (D * (ll / sh)) (max gs (cn i)) e31 e33 e35 rfl (by omega) hN2 hD2 hmq2 _ xl0 rfl rfl
  exact lp4 _ 0 0 1 0 f31 f33 (σ.1 35) rfl (Nat.zero_le _) hz31 hz33 (z_mq_0 _ _ _ _) _ rfl rfl rfl
theorem c_X7_makeQuotient (l : Launch) (Y : x_Y) (σ : x_S) (n : Nat) (hn : σ.1 21 8 = nI n) (hn9 : n ≤ 3000) (cn sp : Nat → Nat) (hrow : ∀ a, a < n → σ.1 24 a = nI (cn a) ∧ 0 < cn a ∧ cn a ≤ 3000 ∧ σ.2 28 a = lN (sp a) ∧ sp a < 2 ^ 45) (T N0 : Nat) (hT : 0 < y_tot (z_ct σ cn) (σ.2 27) n → y_tot (z_ct σ cn) (σ.2 27) n = lN T ∧ 0 < T ∧ T < 2 ^ 46) (hN0 : ∀ a, a < n → z_ct σ cn a = true → cn a ∣ N0) (hN1 : 0 < N0) (hN9 : N0 * (y_ssp (z_ct σ cn) sp n + T + 1) * 2 ≤ 65536 ^ 20) (hgs : σ.1 29 3 = nI 0) (f31 f33 : Nat → Int32) (h31 : σ.1 31 = f31) (h33 : σ.1 33 = f33) (hz31 : z_is f31 0) (hz33 : z_is f33 1) : x_M l yX7_makeQuotient cX7_makeQuotient 4 none 4 Y [.ref 21] σ (fun r τ => (¬ 0 < y_tot (z_ct σ cn) (σ.2 27) n ∧ ∃ gs q4 g31 g33 g35, (r = none ∧ τ = x_st σ [(29, 3, nI gs), (29, 4, q4)] [(31, g31), (33, g33), (35, g35)] []) ∧ q4 = σ.1 29 4) ∨ (0 < y_tot (z_ct σ cn) (σ.2 27) n ∧ ∃ gs g31 g33 g35, (r = none ∧ τ = x_st σ [(29, 3, nI gs), (29, 4, x_z true)] [(31, g31), (33, g33), (35, g35)] []) ∧ ∀ M, 0 < M → (∀ a, a < n → z_ct σ cn a = true → cn a ∣ M) → z_is g31 (y_abv (z_ct σ cn) cn sp M n / Nat.gcd (y_abv (z_ct σ cn) cn sp M n) (M * T)) ∧ z_is g33 (M * T / Nat.gcd (y_abv (z_ct σ cn) cn sp M n) (M * T)))) := c_X7_makeQuotient_K l Y σ n hn hn9 cn sp hrow T N0 hT hN0 hN1 hN9 hgs f31 f33 h31 h33 hz31 hz33 _ (fun _ _ h => h)
