set_option maxRecDepth 100000 in
set_option maxHeartbeats 200000 in
theorem c_X7_begin_K (l : Launch) (Y : x_Y) (σ : x_S) (q : Int32) (n : Nat) (hn : σ.1 21 8 = nI n) (hn9 : n < 3000) (ng : Nat) (hng : σ.1 10 5 = nI ng) (hng9 : ng ≤ 192) (c : Nat) (hc : σ.1 10 4 = nI c) (hc9 : c ≤ 192) (f23 f24 f25 f26 : Nat → Int32) (f27 f28 : Nat → Int64) (h23 : σ.1 23 = f23) (h24 : σ.1 24 = f24) (h25 : σ.1 25 = f25) (h26 : σ.1 26 = f26) (h27 : σ.2 27 = f27) (h28 : σ.2 28 = f28)  (K : Option Value → x_S → Prop) (hK : ∀ (r : Option Value) (τ : x_S), (r = none ∧ τ = x_st σ [(21, 8, nI (n + 1))] [(23, upd f23 n q), (24, upd f24 n (nI 0)), (25, upd f25 n (z_m1 σ c q)), (26, upd f26 n (z_m2 σ ng q))] [(27, vp_updL f27 n 0), (28, vp_updL f28 n 0)]) → K r τ) : x_M l yX7_begin cX7_begin 6 none 3 Y [.ref 21, .int q, .ref 10] σ K := by
  refine x_start (by decide) (Nat.le_of_ble_eq_true rfl) ?_
  intro xp xe xs xm xg xb xt xc C xr xk
  refine x_sig (σ' := x_st σ [(21, 8, nI n)] [(23, f23), (24, f24), (25, f25), (26, f26)] [(27, f27), (28, f28)]) (x_st_in (And.intro hn trivial) (And.intro h23 (And.intro h24 (And.intro h25 (And.intro h26 trivial)))) (And.intro h27 (And.intro h28 trivial))) ?_
  refine x_iload_n C (i := 1) dX7_begin_0 rfl rfl ?_
  refine x_iconst C (nI 0) dX7_begin_1 rfl ?_
  have hM := c_X3_part l Y (x_st σ [(21, 8, nI n)] [(23, f23), (24, f24), (25, f25), (26, f26)] [(27, f27), (28, f28)]) q 0 (by omega)
  refine x_callS C (as := [.int q, .int (nI 0)]) (st := []) (hM) kb_X3_part ks_X7_68 dX7_begin_2 rfl rfl (Nat.le_of_ble_eq_true rfl) ⟨by decide, by decide⟩ ⟨by decide, by decide⟩ ?_
  clear hM
  rintro _ _ ⟨rfl, rfl⟩
  refine x_istore_n C (i := 3) dX7_begin_5 rfl (by decide) ?_
  refine x_iload_n C (i := 1) dX7_begin_6 rfl rfl ?_
  refine x_iconst C (nI 1) dX7_begin_7 rfl ?_
  have hM := c_X3_part l Y (x_st σ [(21, 8, nI n)] [(23, f23), (24, f24), (25, f25), (26, f26)] [(27, f27), (28, f28)]) q 1 (by omega)
  refine x_callS C (as := [.int q, .int (nI 1)]) (st := []) (hM) kb_X3_part ks_X7_68 dX7_begin_8 rfl rfl (Nat.le_of_ble_eq_true rfl) ⟨by decide, by decide⟩ ⟨by decide, by decide⟩ ?_
  clear hM
  rintro _ _ ⟨rfl, rfl⟩
  refine x_istore C (i := 4) dX7_begin_11 (by decide) ?_
  refine x_iload_n C (i := 1) dX7_begin_13 rfl rfl ?_
  refine x_iconst C (nI 2) dX7_begin_14 rfl ?_
  have hM := c_X3_part l Y (x_st σ [(21, 8, nI n)] [(23, f23), (24, f24), (25, f25), (26, f26)] [(27, f27), (28, f28)]) q 2 (by omega)
  refine x_callS C (as := [.int q, .int (nI 2)]) (st := []) (hM) kb_X3_part ks_X7_68 dX7_begin_15 rfl rfl (Nat.le_of_ble_eq_true rfl) ⟨by decide, by decide⟩ ⟨by decide, by decide⟩ ?_
  clear hM
  rintro _ _ ⟨rfl, rfl⟩
  refine x_istore C (i := 5) dX7_begin_18 (by decide) ?_
  refine x_aload_n C (i := 0) dX7_begin_20 rfl rfl ?_
  refine x_getR C fr_21_1 kf_X7_15 dX7_begin_21 ?_
  refine x_aload_n C (i := 0) dX7_begin_24 rfl rfl ?_
  refine x_getI C fi_21_8 kf_X7_42 dX7_begin_25 ?_
  refine x_topI (y := nI n) rfl ?_
  refine x_iload_n C (i := 1) dX7_begin_28 rfl rfl ?_
  refine x_iastN C (by decide) rfl (by decide) dX7_begin_29 (by omega) ?_
  refine x_sig (σ' := x_st σ [(21, 8, nI n)] [(23, upd f23 n q), (24, f24), (25, f25), (26, f26)] [(27, f27), (28, f28)]) (x_st_ua rfl) ?_
  refine x_aload_n C (i := 0) dX7_begin_30 rfl rfl ?_
  refine x_getR C fr_21_2 kf_X7_19 dX7_begin_31 ?_
  refine x_aload_n C (i := 0) dX7_begin_34 rfl rfl ?_
  refine x_getI C fi_21_8 kf_X7_42 dX7_begin_35 ?_
  refine x_topI (y := nI n) rfl ?_
  refine x_iconst C (nI 0) dX7_begin_38 rfl ?_
  refine x_iastN C (by decide) rfl (by decide) dX7_begin_39 (by omega) ?_
  refine x_sig (σ' := x_st σ [(21, 8, nI n)] [(23, upd f23 n q), (24, upd f24 n (nI 0)), (25, f25), (26, f26)] [(27, f27), (28, f28)]) (x_st_ua rfl) ?_
  refine x_aload_n C (i := 0) dX7_begin_40 rfl rfl ?_
  refine x_getR C fr_21_3 kf_X7_22 dX7_begin_41 ?_
  refine x_aload_n C (i := 0) dX7_begin_44 rfl rfl ?_
  refine x_getI C fi_21_8 kf_X7_42 dX7_begin_45 ?_
  refine x_topI (y := nI n) rfl ?_
  refine x_aload_n C (i := 2) dX7_begin_48 rfl rfl ?_
  refine x_iload_n C (i := 3) dX7_begin_49 rfl rfl ?_
  refine x_iload C (i := 4) dX7_begin_50 rfl ?_
  refine x_iload C (i := 5) dX7_begin_52 rfl ?_
  have hM := c_X1_multiplicity l Y (x_st σ [(21, 8, nI n)] [(23, upd f23 n q), (24, upd f24 n (nI 0)), (25, f25), (26, f26)] [(27, f27), (28, f28)]) (z_part q 0) (z_part q 1) (z_part q 2) c hc hc9
  refine x_callV C (as := [.int (z_part q 0), .int (z_part q 1), .int (z_part q 2)]) (st := [.int (nI n), .ref 25]) (hM) kb_X1_multiplicity kv_X7_104 dX7_begin_54 rfl rfl (Nat.le_of_ble_eq_true rfl) ⟨by decide, by decide⟩ ⟨by decide, by decide⟩ ko_10 ?_
  clear hM
  rintro _ _ ⟨rfl, rfl⟩
  refine x_iastN C (by decide) rfl (by decide) dX7_begin_57 (by omega) ?_
  refine x_sig (σ' := x_st σ [(21, 8, nI n)] [(23, upd f23 n q), (24, upd f24 n (nI 0)), (25, upd f25 n (z_m1 σ c q)), (26, f26)] [(27, f27), (28, f28)]) (x_st_ua rfl) ?_
  refine x_aload_n C (i := 0) dX7_begin_58 rfl rfl ?_
  refine x_getR C fr_21_4 kf_X7_25 dX7_begin_59 ?_
  refine x_aload_n C (i := 0) dX7_begin_62 rfl rfl ?_
  refine x_getI C fi_21_8 kf_X7_42 dX7_begin_63 ?_
  refine x_topI (y := nI n) rfl ?_
  refine x_aload_n C (i := 2) dX7_begin_66 rfl rfl ?_
  refine x_iload_n C (i := 3) dX7_begin_67 rfl rfl ?_
  refine x_iload C (i := 4) dX7_begin_68 rfl ?_
  refine x_iload C (i := 5) dX7_begin_70 rfl ?_
  have hM := c_X1_isAbsent l Y (x_st σ [(21, 8, nI n)] [(23, upd f23 n q), (24, upd f24 n (nI 0)), (25, upd f25 n (z_m1 σ c q)), (26, f26)] [(27, f27), (28, f28)]) (z_part q 0) (z_part q 1) (z_part q 2) ng hng hng9
  refine x_callV C (as := [.int (z_part q 0), .int (z_part q 1), .int (z_part q 2)]) (st := [.int (nI n), .ref 26]) (hM) kb_X1_isAbsent kv_X7_107 dX7_begin_72 rfl rfl (Nat.le_of_ble_eq_true rfl) ⟨by decide, by decide⟩ ⟨by decide, by decide⟩ ko_10 ?_
  clear hM
  rintro _ _ ⟨rfl, rfl⟩
  refine x_zastN C (by decide) rfl (by decide) dX7_begin_75 (by omega) ?_
  rw [x_z_nar]
  refine x_sig (σ' := x_st σ [(21, 8, nI n)] [(23, upd f23 n q), (24, upd f24 n (nI 0)), (25, upd f25 n (z_m1 σ c q)), (26, upd f26 n (x_z (z_abs (σ.1 12) ng (z_part q 0) (z_part q 1) (z_part q 2))))] [(27, f27), (28, f28)]) (x_st_ua rfl) ?_
  refine x_aload_n C (i := 0) dX7_begin_76 rfl rfl ?_
  refine x_getR C fr_21_5 kf_X7_29 dX7_begin_77 ?_
  refine x_aload_n C (i := 0) dX7_begin_80 rfl rfl ?_
  refine x_getI C fi_21_8 kf_X7_42 dX7_begin_81 ?_
  refine x_topI (y := nI n) rfl ?_
  refine x_lconst C (0) dX7_begin_84 rfl ?_
  refine x_lastN C (by decide) rfl (by decide) dX7_begin_85 (by omega) ?_
  refine x_sig (σ' := x_st σ [(21, 8, nI n)] [(23, upd f23 n q), (24, upd f24 n (nI 0)), (25, upd f25 n (z_m1 σ c q)), (26, upd f26 n (x_z (z_abs (σ.1 12) ng (z_part q 0) (z_part q 1) (z_part q 2))))] [(27, vp_updL f27 n 0), (28, f28)]) (x_st_wa rfl) ?_
  refine x_aload_n C (i := 0) dX7_begin_86 rfl rfl ?_
  refine x_getR C fr_21_6 kf_X7_32 dX7_begin_87 ?_
  refine x_aload_n C (i := 0) dX7_begin_90 rfl rfl ?_
  refine x_getI C fi_21_8 kf_X7_42 dX7_begin_91 ?_
  refine x_topI (y := nI n) rfl ?_
  refine x_lconst C (0) dX7_begin_94 rfl ?_
  refine x_lastN C (by decide) rfl (by decide) dX7_begin_95 (by omega) ?_
  refine x_sig (σ' := x_st σ [(21, 8, nI n)] [(23, upd f23 n q), (24, upd f24 n (nI 0)), (25, upd f25 n (z_m1 σ c q)), (26, upd f26 n (x_z (z_abs (σ.1 12) ng (z_part q 0) (z_part q 1) (z_part q 2))))] [(27, vp_updL f27 n 0), (28, vp_updL f28 n 0)]) (x_st_wa rfl) ?_
  refine x_aload_n C (i := 0) dX7_begin_96 rfl rfl ?_
  refine x_dup C dX7_begin_97 rfl ?_
  refine x_getI C fi_21_8 kf_X7_42 dX7_begin_98 ?_
  refine x_topI (y := nI n) rfl ?_
  refine x_iconst C (nI 1) dX7_begin_101 rfl ?_
  refine x_iaddN C dX7_begin_102 ?_
  refine x_putN C fi_21_8 kf_X7_42 rfl rfl dX7_begin_103 ?_
  refine x_sig (σ' := x_st σ [(21, 8, nI (n + 1))] [(23, upd f23 n q), (24, upd f24 n (nI 0)), (25, upd f25 n (z_m1 σ c q)), (26, upd f26 n (x_z (z_abs (σ.1 12) ng (z_part q 0) (z_part q 1) (z_part q 2))))] [(27, vp_updL f27 n 0), (28, vp_updL f28 n 0)]) (x_st_u rfl) ?_
  refine x_vret C xr xk dX7_begin_106 ?_
  exact hK _ _ ⟨rfl, rfl⟩
theorem c_X7_begin (l : Launch) (Y : x_Y) (σ : x_S) (q : Int32) (n : Nat) (hn : σ.1 21 8 = nI n) (hn9 : n < 3000) (ng : Nat) (hng : σ.1 10 5 = nI ng) (hng9 : ng ≤ 192) (c : Nat) (hc : σ.1 10 4 = nI c) (hc9 : c ≤ 192) (f23 f24 f25 f26 : Nat → Int32) (f27 f28 : Nat → Int64) (h23 : σ.1 23 = f23) (h24 : σ.1 24 = f24) (h25 : σ.1 25 = f25) (h26 : σ.1 26 = f26) (h27 : σ.2 27 = f27) (h28 : σ.2 28 = f28)  : x_M l yX7_begin cX7_begin 6 none 3 Y [.ref 21, .int q, .ref 10] σ (fun r τ => r = none ∧ τ = x_st σ [(21, 8, nI (n + 1))] [(23, upd f23 n q), (24, upd f24 n (nI 0)), (25, upd f25 n (z_m1 σ c q)), (26, upd f26 n (z_m2 σ ng q))] [(27, vp_updL f27 n 0), (28, vp_updL f28 n 0)]) := c_X7_begin_K l Y σ q n hn hn9 ng hng hng9 c hc hc9 f23 f24 f25 f26 f27 f28 h23 h24 h25 h26 h27 h28 _ (fun _ _ h => h)
set_option maxRecDepth 100000 in
set_option maxHeartbeats 400000 in
theorem c_X7_gather_K (l : Launch) (Y : x_Y) (σ : x_S) (N : Nat) (hN : σ.1 15 3 = nI N) (hN9 : N ≤ 3000) (P : Nat → Nat) (g0 : Nat → Int64) (hg : σ.2 22 = g0) (hl : z_lh g0 P N) (hs : z_sl P N) (hix : ∀ j, j < N → P j % 4096 < N) (ng : Nat) (hng : σ.1 10 5 = nI ng) (hng9 : ng ≤ 192) (c : Nat) (hc : σ.1 10 4 = nI c) (hc9 : c ≤ 192) (hn0 : σ.1 21 8 = nI 0) (K : Option Value → x_S → Prop) (hK : ∀ (r : Option Value) (τ : x_S), (∃ n f23 f24 f25 f26 f27 f28, (r = none ∧ τ = x_st σ [(21, 8, nI n)] [(23, f23), (24, f24), (25, f25), (26, f26)] [(27, f27), (28, f28)]) ∧ x_ro (z_K P) (z_V (σ.1 17) P) N n (z_f f23) f24 f27 ∧ z_g2 σ c ng n f23 f25 f26 f28 ∧ z_rq P N n f23) → K r τ) : x_M l yX7_gather cX7_gather 4 none 4 Y [.ref 21, .ref 15, .ref 10] σ K := by
  refine x_start (by decide) (Nat.le_of_ble_eq_true rfl) ?_
  intro xp xe xs xm xg xb xt xc C xr xk
  refine x_sig (σ' := x_st σ [(21, 8, nI 0)] [(23, σ.1 23), (24, σ.1 24), (25, σ.1 25), (26, σ.1 26)] [(27, σ.2 27), (28, σ.2 28)]) (x_st_in (And.intro hn0 trivial) (And.intro rfl (And.intro rfl (And.intro rfl (And.intro rfl trivial)))) (And.intro rfl (And.intro rfl trivial))) ?_
  refine x_iconst C (nI 0) dX7_gather_0 rfl ?_
  refine x_istore_n C (i := 3) dX7_gather_1 rfl (by decide) ?_
  have lp2 : ∀ (m2 : Nat) (i : Nat) (n : Nat) (f23 : Nat → Int32) (f24 : Nat → Int32) (f25 : Nat → Int32) (f26 : Nat → Int32) (f27 : Nat → Int64) (f28 : Nat → Int64), (N - i) = m2 → (i ≤ N) → (x_ro (z_K P) (z_V (σ.1 17) P) i n (z_f f23) f24 f27) → (z_g2 σ c ng n f23 f25 f26 f28) → (z_rq P i n f23) → ∀ L : x_Lo, L.1 0 = some (.ref 21) → L.1 1 = some (.ref 15) → L.1 2 = some (.ref 10) → L.1 3 = some (.int (nI i)) → x_W xp l xe (x_rm 4) xs xm xg xb xt xc 4 Y 0 0 (MQ xb (x_Q Y K) xg xs 0 0 (x_A Y)) 2 L [] (x_st σ [(21, 8, nI n)] [(23, f23), (24, f24), (25, f25), (26, f26)] [(27, f27), (28, f28)]) := by
    intro m2
    induction m2 using Nat.strongRecOn with
    | _ m2 ih2 =>
      intro i n f23 f24 f25 f26 f27 f28 hm2 hi hro hg2 hrq L xl0 xl1 xl2 xl3
      have hni := hro.1
      have hq9 : ∀ j, j < N → P j / 4096 < 2 ^ 31 := fun j hj => by have := (hl j hj).2; omega
      refine x_iload_n C (i := 3) dX7_gather_2 rfl xl3 ?_
      refine x_aload_n C (i := 1) dX7_gather_3 rfl xl1 ?_
      refine x_getI C fi_15_3 kf_X7_64 dX7_gather_4 ?_
      refine x_topI (y := nI N) hN ?_
      refine x_icmp_geN C 81 dX7_gather_7 (by decide) (by omega) (by omega) (fun c7 => ?_) (fun c7 => ?_)
      · skip
        have c7' := Nat.not_lt.mpr c7
        obtain rfl : N = i := by omega
        refine x_vret C xr xk dX7_gather_81 ?_
        exact hK _ _ ⟨_, _, _, _, _, _, _, ⟨rfl, rfl⟩, hro, hg2, hrq⟩
      · skip
        have c7' := Nat.not_le.mpr c7
        have lp39 : ∀ (n1 : Nat) (e23 : Nat → Int32) (e24 : Nat → Int32) (e25 : Nat → Int32) (e26 : Nat → Int32) (e27 : Nat → Int64) (e28 : Nat → Int64), (x_rj (z_K P) (z_V (σ.1 17) P) i n1 (z_f e23) e24 e27 (n1 - 1)) → (z_g2 σ c ng n1 e23 e25 e26 e28) → (z_rq P (i + 1) n1 e23) → ∀ L : x_Lo, L.1 0 = some (.ref 21) → L.1 1 = some (.ref 15) → L.1 2 = some (.ref 10) → L.1 3 = some (.int (nI i)) → x_W xp l xe (x_rm 4) xs xm xg xb xt xc 4 Y 0 0 (MQ xb (x_Q Y K) xg xs 0 0 (x_A Y)) 39 L [] (x_st σ [(21, 8, nI n1)] [(23, e23), (24, e24), (25, e25), (26, e26)] [(27, e27), (28, e28)]) := by
          intro n1 e23 e24 e25 e26 e27 e28 hj hg3 hrq2 L xl0 xl1 xl2 xl3
          have hn1 := hj.1
          have hn2 := hj.2.1
          refine x_aload_n C (i := 0) dX7_gather_39 rfl xl0 ?_
          refine x_getR C fr_21_2 kf_X7_19 dX7_gather_40 ?_
          refine x_aload_n C (i := 0) dX7_gather_43 rfl xl0 ?_
          refine x_getI C fi_21_8 kf_X7_42 dX7_gather_44 ?_
          refine x_topI (y := nI n1) rfl ?_
          refine x_iconst C (nI 1) dX7_gather_47 rfl ?_
          refine x_isubN C dX7_gather_48 (by omega) ?_
          refine x_dup2 C dX7_gather_49 rfl rfl ?_
          refine x_ialdN C (by decide) rfl (by decide) dX7_gather_50 (by omega) ?_
          refine x_topI (y := e24 (n1 - 1)) rfl ?_
          refine x_iconst C (nI 1) dX7_gather_51 rfl ?_
          refine x_iadd C dX7_gather_52 ?_
          refine x_iastN C (by decide) rfl (by decide) dX7_gather_53 (by omega) ?_
          refine x_sig (σ' := x_st σ [(21, 8, nI n1)] [(23, e23), (24, upd e24 (n1 - 1) ((e24 (n1 - 1)) + (nI 1))), (25, e25), (26, e26)] [(27, e27), (28, e28)]) (x_st_ua rfl) ?_
          refine x_aload_n C (i := 0) dX7_gather_54 rfl xl0 ?_
          refine x_getR C fr_21_5 kf_X7_29 dX7_gather_55 ?_
          refine x_aload_n C (i := 0) dX7_gather_58 rfl xl0 ?_
          refine x_getI C fi_21_8 kf_X7_42 dX7_gather_59 ?_
          refine x_topI (y := nI n1) rfl ?_
          refine x_iconst C (nI 1) dX7_gather_62 rfl ?_
          refine x_isubN C dX7_gather_63 (by omega) ?_
          refine x_dup2 C dX7_gather_64 rfl rfl ?_
          refine x_laldN C (by decide) rfl (by decide) dX7_gather_65 (by omega) ?_
          refine x_topL (y := e27 (n1 - 1)) rfl ?_
          refine x_aload_n C (i := 0) dX7_gather_66 rfl xl0 ?_
          refine x_iload_n C (i := 3) dX7_gather_67 rfl xl3 ?_
          refine x_aload_n C (i := 1) dX7_gather_68 rfl xl1 ?_
          have hM := c_X7_intensityAt l Y (x_st σ [(21, 8, nI n1)] [(23, e23), (24, upd e24 (n1 - 1) ((e24 (n1 - 1)) + (nI 1))), (25, e25), (26, e26)] [(27, e27), (28, e28)]) i N P g0 hg hl hN9 (by omega) (by have := hix i (by omega); omega)
          refine x_callV C (as := [.int (nI i), .ref 15]) (st := [.long (e27 (n1 - 1)), .int (nI (n1 - 1)), .ref 27]) (hM) kb_X7_intensityAt kv_X7_100 dX7_gather_69 rfl rfl (Nat.le_of_ble_eq_true rfl) ⟨by decide, by decide⟩ ⟨by decide, by decide⟩ ko_21 ?_
          clear hM
          rintro _ _ ⟨rfl, rfl⟩
          refine x_i2l C dX7_gather_72 ?_
          refine x_ladd C dX7_gather_73 ?_
          refine x_lastN C (by decide) rfl (by decide) dX7_gather_74 (by omega) ?_
          refine x_sig (σ' := x_st σ [(21, 8, nI n1)] [(23, e23), (24, upd e24 (n1 - 1) ((e24 (n1 - 1)) + (nI 1))), (25, e25), (26, e26)] [(27, vp_updL e27 (n1 - 1) ((e27 (n1 - 1)) + ((σ.1 17 (P i % 4096)).toInt64))), (28, e28)]) (x_st_wa rfl) ?_
          refine x_iincN C (i := 3) (b := 1) dX7_gather_75 xl3 rfl (by decide) ?_
          refine x_goto C 2 dX7_gather_78 (by decide) ?_
          exact ih2 _ (by omega) (i + 1) n1 e23 (upd e24 (n1 - 1) ((e24 (n1 - 1)) + (nI 1))) e25 e26 (vp_updL e27 (n1 - 1) ((e27 (n1 - 1)) + ((σ.1 17 (P i % 4096)).toInt64))) e28 rfl (by omega) hj.2 hg3 hrq2 _ xl0 xl1 xl2 rfl
        refine x_iload_n C (i := 3) dX7_gather_10 rfl xl3 ?_
        refine x_if_eqN C 29 dX7_gather_11 (by decide) (by omega) (fun c11 => ?_) (fun c11 => ?_)
        · skip
          have hlo := z_gt hl hs (by omega) hrq (Or.inl c11)
          refine x_aload_n C (i := 0) dX7_gather_29 rfl xl0 ?_
          refine x_aload_n C (i := 0) dX7_gather_30 rfl xl0 ?_
          refine x_iload_n C (i := 3) dX7_gather_31 rfl xl3 ?_
          have hM := c_X7_kindAt l Y (x_st σ [(21, 8, nI n)] [(23, f23), (24, f24), (25, f25), (26, f26)] [(27, f27), (28, f28)]) i N P g0 hg hl hN9 (by omega)
          refine x_callV C (as := [.int (nI i)]) (st := [.ref 21]) (hM) kb_X7_kindAt kv_X7_92 dX7_gather_32 rfl rfl (Nat.le_of_ble_eq_true rfl) ⟨by decide, by decide⟩ ⟨by decide, by decide⟩ ko_21 ?_
          clear hM
          rintro _ _ ⟨rfl, rfl⟩
          refine x_aload_n C (i := 2) dX7_gather_35 rfl xl2 ?_
          have hM := c_X7_begin l Y (x_st σ [(21, 8, nI n)] [(23, f23), (24, f24), (25, f25), (26, f26)] [(27, f27), (28, f28)]) (nI (P i / 4096)) n rfl (by omega) ng hng hng9 c hc hc9 f23 f24 f25 f26 f27 f28 rfl rfl rfl rfl rfl rfl
          refine x_callV C (as := [.int (nI (P i / 4096)), .ref 10]) (st := []) (hM) kb_X7_begin kv_X7_96 dX7_gather_36 rfl rfl (Nat.le_of_ble_eq_true rfl) ⟨by decide, by decide⟩ ⟨by decide, by decide⟩ ko_21 ?_
          clear hM
          rintro _ _ ⟨rfl, rfl⟩
          refine x_sig (σ' := x_st σ [(21, 8, nI (n + 1))] [(23, upd f23 n (nI (P i / 4096))), (24, upd f24 n (nI 0)), (25, upd f25 n (z_m1 σ c (nI (P i / 4096)))), (26, upd f26 n (z_m2 σ ng (nI (P i / 4096))))] [(27, vp_updL f27 n 0), (28, vp_updL f28 n 0)]) (x_st_st rfl) ?_
          exact lp39 (n + 1) (upd f23 n (nI (P i / 4096))) (upd f24 n (nI 0)) (upd f25 n (z_m1 σ c (nI (P i / 4096)))) (upd f26 n (z_m2 σ ng (nI (P i / 4096)))) (vp_updL f27 n 0) (vp_updL f28 n 0) (z_rj_new hro rfl (hq9 i (by omega)) hlo) (z_g2_s hg2) (z_rq_new hrq rfl) _ xl0 xl1 xl2 xl3
        · skip
          refine x_aload_n C (i := 0) dX7_gather_14 rfl xl0 ?_
          refine x_iload_n C (i := 3) dX7_gather_15 rfl xl3 ?_
          have hM := c_X7_kindAt l Y (x_st σ [(21, 8, nI n)] [(23, f23), (24, f24), (25, f25), (26, f26)] [(27, f27), (28, f28)]) i N P g0 hg hl hN9 (by omega)
          refine x_callV C (as := [.int (nI i)]) (st := []) (hM) kb_X7_kindAt kv_X7_92 dX7_gather_16 rfl rfl (Nat.le_of_ble_eq_true rfl) ⟨by decide, by decide⟩ ⟨by decide, by decide⟩ ko_21 ?_
          clear hM
          rintro _ _ ⟨rfl, rfl⟩
          refine x_aload_n C (i := 0) dX7_gather_19 rfl xl0 ?_
          refine x_iload_n C (i := 3) dX7_gather_20 rfl xl3 ?_
          refine x_iconst C (nI 1) dX7_gather_21 rfl ?_
          refine x_isubN C dX7_gather_22 (by omega) ?_
          have hM := c_X7_kindAt l Y (x_st σ [(21, 8, nI n)] [(23, f23), (24, f24), (25, f25), (26, f26)] [(27, f27), (28, f28)]) (i - 1) N P g0 hg hl hN9 (by omega)
          refine x_callV C (as := [.int (nI (i - 1))]) (st := [.int (nI (P i / 4096))]) (hM) kb_X7_kindAt kv_X7_92 dX7_gather_23 rfl rfl (Nat.le_of_ble_eq_true rfl) ⟨by decide, by decide⟩ ⟨by decide, by decide⟩ ko_21 ?_
          clear hM
          rintro _ _ ⟨rfl, rfl⟩
          refine x_icmp_eqN C 39 dX7_gather_26 (by decide) (hq9 i (by omega)) (hq9 (i - 1) (by omega)) (fun c26 => ?_) (fun c26 => ?_)
          · skip
            exact lp39 n f23 f24 f25 f26 f27 f28 (x_ro_old hro (by have := (hrq.2.2 (by omega)).1; omega) ((z_f_is (hrq.2.2 (by omega)).2 (hq9 (i - 1) (by omega))).trans (by unfold z_K; rw [c26]))) hg2 (z_rq_old hrq (by omega) c26) _ xl0 xl1 xl2 xl3
          · skip
            have hlo := z_gt hl hs (by omega) hrq (Or.inr c26)
            refine x_aload_n C (i := 0) dX7_gather_29 rfl xl0 ?_
            refine x_aload_n C (i := 0) dX7_gather_30 rfl xl0 ?_
            refine x_iload_n C (i := 3) dX7_gather_31 rfl xl3 ?_
            have hM := c_X7_kindAt l Y (x_st σ [(21, 8, nI n)] [(23, f23), (24, f24), (25, f25), (26, f26)] [(27, f27), (28, f28)]) i N P g0 hg hl hN9 (by omega)
            refine x_callV C (as := [.int (nI i)]) (st := [.ref 21]) (hM) kb_X7_kindAt kv_X7_92 dX7_gather_32 rfl rfl (Nat.le_of_ble_eq_true rfl) ⟨by decide, by decide⟩ ⟨by decide, by decide⟩ ko_21 ?_
            clear hM
            rintro _ _ ⟨rfl, rfl⟩
            refine x_aload_n C (i := 2) dX7_gather_35 rfl xl2 ?_
            have hM := c_X7_begin l Y (x_st σ [(21, 8, nI n)] [(23, f23), (24, f24), (25, f25), (26, f26)] [(27, f27), (28, f28)]) (nI (P i / 4096)) n rfl (by omega) ng hng hng9 c hc hc9 f23 f24 f25 f26 f27 f28 rfl rfl rfl rfl rfl rfl
            refine x_callV C (as := [.int (nI (P i / 4096)), .ref 10]) (st := []) (hM) kb_X7_begin kv_X7_96 dX7_gather_36 rfl rfl (Nat.le_of_ble_eq_true rfl) ⟨by decide, by decide⟩ ⟨by decide, by decide⟩ ko_21 ?_
            clear hM
            rintro _ _ ⟨rfl, rfl⟩
            refine x_sig (σ' := x_st σ [(21, 8, nI (n + 1))] [(23, upd f23 n (nI (P i / 4096))), (24, upd f24 n (nI 0)), (25, upd f25 n (z_m1 σ c (nI (P i / 4096)))), (26, upd f26 n (z_m2 σ ng (nI (P i / 4096))))] [(27, vp_updL f27 n 0), (28, vp_updL f28 n 0)]) (x_st_st rfl) ?_
            exact lp39 (n + 1) (upd f23 n (nI (P i / 4096))) (upd f24 n (nI 0)) (upd f25 n (z_m1 σ c (nI (P i / 4096)))) (upd f26 n (z_m2 σ ng (nI (P i / 4096)))) (vp_updL f27 n 0) (vp_updL f28 n 0) (z_rj_new hro rfl (hq9 i (by omega)) hlo) (z_g2_s hg2) (z_rq_new hrq rfl) _ xl0 xl1 xl2 xl3
  exact lp2 _ 0 0 (σ.1 23) (σ.1 24) (σ.1 25) (σ.1 26) (σ.2 27) (σ.2 28) rfl (Nat.zero_le _) ⟨Nat.le_refl 0, fun a b _ h => absurd h (Nat.not_lt_zero b), fun j h => absurd h (Nat.not_lt_zero j), fun a h => absurd h (Nat.not_lt_zero a)⟩ (fun r h => absurd h (Nat.not_lt_zero r)) ⟨fun r h => absurd h (Nat.not_lt_zero r), fun _ => rfl, fun h => absurd h (by decide)⟩ _ rfl rfl rfl rfl
theorem c_X7_gather (l : Launch) (Y : x_Y) (σ : x_S) (N : Nat) (hN : σ.1 15 3 = nI N) (hN9 : N ≤ 3000) (P : Nat → Nat) (g0 : Nat → Int64) (hg : σ.2 22 = g0) (hl : z_lh g0 P N) (hs : z_sl P N) (hix : ∀ j, j < N → P j % 4096 < N) (ng : Nat) (hng : σ.1 10 5 = nI ng) (hng9 : ng ≤ 192) (c : Nat) (hc : σ.1 10 4 = nI c) (hc9 : c ≤ 192) (hn0 : σ.1 21 8 = nI 0) : x_M l yX7_gather cX7_gather 4 none 4 Y [.ref 21, .ref 15, .ref 10] σ (fun r τ => ∃ n f23 f24 f25 f26 f27 f28, (r = none ∧ τ = x_st σ [(21, 8, nI n)] [(23, f23), (24, f24), (25, f25), (26, f26)] [(27, f27), (28, f28)]) ∧ x_ro (z_K P) (z_V (σ.1 17) P) N n (z_f f23) f24 f27 ∧ z_g2 σ c ng n f23 f25 f26 f28 ∧ z_rq P N n f23) := c_X7_gather_K l Y σ N hN hN9 P g0 hg hl hs hix ng hng hng9 c hc hc9 hn0 _ (fun _ _ h => h)
set_option maxRecDepth 100000 in
set_option maxHeartbeats 200000 in
theorem c_X7_addSpreads_K (l : Launch) (Y : x_Y) (σ : x_S) (N : Nat) (hN : σ.1 15 3 = nI N) (hN9 : N ≤ 3000) (P : Nat → Nat) (g0 : Nat → Int64) (hg : σ.2 22 = g0) (hl : z_lh g0 P N) (hs : z_sl P N) (hix : ∀ j, j < N → P j % 4096 < N) (n : Nat) (f23 f24 : Nat → Int32) (f27 f28 : Nat → Int64) (h24 : σ.1 24 = f24) (h27 : σ.2 27 = f27) (h28 : σ.2 28 = f28) (hro : x_ro (z_K P) (z_V (σ.1 17) P) N n (z_f f23) f24 f27) (hrq : z_rq P N n f23) (hz : ∀ r, r < n → f28 r = 0) (K : Option Value → x_S → Prop) (hK : ∀ (r : Option Value) (τ : x_S), (∃ g28, (r = none ∧ τ = x_st σ [] [] [(28, g28)]) ∧ z_sp P (σ.1 17) N n f23 f24 f27 g28) → K r τ) : x_M l yX7_addSpreads cX7_addSpreads 4 none 2 Y [.ref 21, .ref 15] σ K := by
  refine x_start (by decide) (Nat.le_of_ble_eq_true rfl) ?_
  intro xp xe xs xm xg xb xt xc C xr xk
  refine x_sig (σ' := x_st σ [] [] [(28, f28)]) (x_st_in trivial trivial (And.intro h28 trivial)) ?_
  refine x_iconst C (-1) dX7_addSpreads_0 rfl ?_
  refine x_topI (y := nI 0 + (-1)) rfl ?_
  refine x_istore_n C (i := 2) dX7_addSpreads_1 rfl (by decide) ?_
  refine x_iconst C (nI 0) dX7_addSpreads_2 rfl ?_
  refine x_istore_n C (i := 3) dX7_addSpreads_3 rfl (by decide) ?_
  have lp4 : ∀ (m4 : Nat) (i : Nat) (rr : Nat) (g28 : Nat → Int64), (N - i) = m4 → (i ≤ N) → (z_rr P i n rr f23) → (z_sp P (σ.1 17) i n f23 f24 f27 g28) → ∀ L : x_Lo, L.1 0 = some (.ref 21) → L.1 1 = some (.ref 15) → L.1 2 = some (.int (nI rr + (-1))) → L.1 3 = some (.int (nI i)) → x_W xp l xe (x_rm 2) xs xm xg xb xt xc 4 Y 0 0 (MQ xb (x_Q Y K) xg xs 0 0 (x_A Y)) 4 L [] (x_st σ [] [] [(28, g28)]) := by
    intro m4
    induction m4 using Nat.strongRecOn with
    | _ m4 ih4 =>
      intro i rr g28 hm4 hi hrr hsp L xl0 xl1 xl2 xl3
      have hni := hro.1
      have hq9 : ∀ j, j < N → P j / 4096 < 2 ^ 31 := fun j hj => by have := (hl j hj).2; omega
      refine x_iload_n C (i := 3) dX7_addSpreads_4 rfl xl3 ?_
      refine x_aload_n C (i := 1) dX7_addSpreads_5 rfl xl1 ?_
      refine x_getI C fi_15_3 kf_X7_64 dX7_addSpreads_6 ?_
      refine x_topI (y := nI N) hN ?_
      refine x_icmp_geN C 74 dX7_addSpreads_9 (by decide) (by omega) (by omega) (fun c9 => ?_) (fun c9 => ?_)
      · skip
        have c9' := Nat.not_lt.mpr c9
        obtain rfl : N = i := by omega
        refine x_vret C xr xk dX7_addSpreads_74 ?_
        exact hK _ _ ⟨_, ⟨rfl, rfl⟩, hsp⟩
      · skip
        have c9' := Nat.not_le.mpr c9
        have lp34 : ∀ (rr1 : Nat), (z_rr P (i + 1) n rr1 f23) → ∀ L : x_Lo, L.1 0 = some (.ref 21) → L.1 1 = some (.ref 15) → L.1 2 = some (.int (nI rr1 + (-1))) → L.1 3 = some (.int (nI i)) → x_W xp l xe (x_rm 2) xs xm xg xb xt xc 4 Y 0 0 (MQ xb (x_Q Y K) xg xs 0 0 (x_A Y)) 34 L [] (x_st σ [] [] [(28, g28)]) := by
          intro rr1 hr1 L xl0 xl1 xl2 xl3
          obtain ⟨hr2, -, hr3⟩ := hr1
          obtain ⟨hr4, hr5⟩ := hr3 (by omega)
          rw [Nat.add_sub_cancel] at hr5
          have hr1 : z_rr P (i + 1) n rr1 f23 := ⟨hr2, fun z => absurd z (by omega), fun _ => ⟨hr4, by rw [Nat.add_sub_cancel]; exact hr5⟩⟩
          have hfr : z_f f23 (rr1 - 1) = z_K P i := z_f_is hr5 (hq9 i (by omega))
          refine x_aload_n C (i := 0) dX7_addSpreads_34 rfl xl0 ?_
          refine x_getR C fr_21_6 kf_X7_32 dX7_addSpreads_35 ?_
          refine x_iload_n C (i := 2) dX7_addSpreads_38 rfl xl2 ?_
          refine x_topI (y := nI (rr1 - 1)) (z_nm1 hr4) ?_
          refine x_dup2 C dX7_addSpreads_39 rfl rfl ?_
          refine x_laldN C (by decide) rfl (by decide) dX7_addSpreads_40 (by omega) ?_
          refine x_topL (y := g28 (rr1 - 1)) rfl ?_
          refine x_aload_n C (i := 0) dX7_addSpreads_41 rfl xl0 ?_
          refine x_getR C fr_21_2 kf_X7_19 dX7_addSpreads_42 ?_
          refine x_iload_n C (i := 2) dX7_addSpreads_45 rfl xl2 ?_
          refine x_topI (y := nI (rr1 - 1)) (z_nm1 hr4) ?_
          refine x_ialdN C (by decide) rfl (by decide) dX7_addSpreads_46 (by omega) ?_
          refine x_topI (y := σ.1 24 (rr1 - 1)) rfl ?_
          refine x_topI (y := f24 (rr1 - 1)) (congrFun h24 _) ?_
          refine x_i2l C dX7_addSpreads_47 ?_
          refine x_aload_n C (i := 0) dX7_addSpreads_48 rfl xl0 ?_
          refine x_iload_n C (i := 3) dX7_addSpreads_49 rfl xl3 ?_
          refine x_aload_n C (i := 1) dX7_addSpreads_50 rfl xl1 ?_
          have hM := c_X7_intensityAt l Y (x_st σ [] [] [(28, g28)]) i N P g0 hg hl hN9 (by omega) (by have := hix i (by omega); omega)
          refine x_callV C (as := [.int (nI i), .ref 15]) (st := [.long ((f24 (rr1 - 1)).toInt64), .long (g28 (rr1 - 1)), .int (nI (rr1 - 1)), .ref 28]) (hM) kb_X7_intensityAt kv_X7_100 dX7_addSpreads_51 rfl rfl (Nat.le_of_ble_eq_true rfl) ⟨by decide, by decide⟩ ⟨by decide, by decide⟩ ko_21 ?_
          clear hM
          rintro _ _ ⟨rfl, rfl⟩
          refine x_i2l C dX7_addSpreads_54 ?_
          refine x_topL (y := z_V (σ.1 17) P i) rfl ?_
          refine x_lmul C dX7_addSpreads_55 ?_
          refine x_aload_n C (i := 0) dX7_addSpreads_56 rfl xl0 ?_
          refine x_getR C fr_21_5 kf_X7_29 dX7_addSpreads_57 ?_
          refine x_iload_n C (i := 2) dX7_addSpreads_60 rfl xl2 ?_
          refine x_topI (y := nI (rr1 - 1)) (z_nm1 hr4) ?_
          refine x_laldN C (by decide) rfl (by decide) dX7_addSpreads_61 (by omega) ?_
          refine x_topL (y := σ.2 27 (rr1 - 1)) rfl ?_
          refine x_topL (y := f27 (rr1 - 1)) (congrFun h27 _) ?_
          refine x_lsub C dX7_addSpreads_62 ?_
          have hM := c_J9_abs_067f4 l Y (x_st σ [] [] [(28, g28)]) ((((f24 (rr1 - 1)).toInt64) * (z_V (σ.1 17) P i)) - (f27 (rr1 - 1)))
          refine x_callS C (as := [.long ((((f24 (rr1 - 1)).toInt64) * (z_V (σ.1 17) P i)) - (f27 (rr1 - 1)))]) (st := [.long (g28 (rr1 - 1)), .int (nI (rr1 - 1)), .ref 28]) (hM) kb_J9_abs_067f4 ks_X7_111 dX7_addSpreads_63 rfl rfl (Nat.le_of_ble_eq_true rfl) ⟨by decide, by decide⟩ ⟨by decide, by decide⟩ ?_
          clear hM
          rintro _ _ ⟨rfl, rfl⟩
          refine x_ladd C dX7_addSpreads_66 ?_
          refine x_lastN C (by decide) rfl (by decide) dX7_addSpreads_67 (by omega) ?_
          refine x_sig (σ' := x_st σ [] [] [(28, vp_updL g28 (rr1 - 1) ((g28 (rr1 - 1)) + (x_ab ((((f24 (rr1 - 1)).toInt64) * (z_V (σ.1 17) P i)) - (f27 (rr1 - 1))))))]) (x_st_wa rfl) ?_
          refine x_iincN C (i := 3) (b := 1) dX7_addSpreads_68 xl3 rfl (by decide) ?_
          refine x_goto C 4 dX7_addSpreads_71 (by decide) ?_
          exact ih4 _ (by omega) (i + 1) rr1 (vp_updL g28 (rr1 - 1) ((g28 (rr1 - 1)) + (x_ab ((((f24 (rr1 - 1)).toInt64) * (z_V (σ.1 17) P i)) - (f27 (rr1 - 1)))))) rfl (by omega) hr1 (z_sp_s hsp (by omega) hfr hro.2.1) _ xl0 xl1 xl2 rfl
        refine x_iload_n C (i := 3) dX7_addSpreads_12 rfl xl3 ?_
        refine x_if_eqN C 31 dX7_addSpreads_13 (by decide) (by omega) (fun c13 => ?_) (fun c13 => ?_)
        · skip
          have hne : i = 0 ∨ ¬ P i / 4096 = P (i - 1) / 4096 := Or.inl c13
          refine x_iinc C (i := 2) (1) dX7_addSpreads_31 xl2 rfl (by decide) ?_
          rw [z_np1]
          exact lp34 (rr + 1) (z_rr_new hl hs (by omega) hrq hro hrr hne) _ xl0 xl1 rfl xl3
        · skip
          refine x_aload_n C (i := 0) dX7_addSpreads_16 rfl xl0 ?_
          refine x_iload_n C (i := 3) dX7_addSpreads_17 rfl xl3 ?_
          have hM := c_X7_kindAt l Y (x_st σ [] [] [(28, g28)]) i N P g0 hg hl hN9 (by omega)
          refine x_callV C (as := [.int (nI i)]) (st := []) (hM) kb_X7_kindAt kv_X7_92 dX7_addSpreads_18 rfl rfl (Nat.le_of_ble_eq_true rfl) ⟨by decide, by decide⟩ ⟨by decide, by decide⟩ ko_21 ?_
          clear hM
          rintro _ _ ⟨rfl, rfl⟩
          refine x_aload_n C (i := 0) dX7_addSpreads_21 rfl xl0 ?_
          refine x_iload_n C (i := 3) dX7_addSpreads_22 rfl xl3 ?_
          refine x_iconst C (nI 1) dX7_addSpreads_23 rfl ?_
          refine x_isubN C dX7_addSpreads_24 (by omega) ?_
          have hM := c_X7_kindAt l Y (x_st σ [] [] [(28, g28)]) (i - 1) N P g0 hg hl hN9 (by omega)
          refine x_callV C (as := [.int (nI (i - 1))]) (st := [.int (nI (P i / 4096))]) (hM) kb_X7_kindAt kv_X7_92 dX7_addSpreads_25 rfl rfl (Nat.le_of_ble_eq_true rfl) ⟨by decide, by decide⟩ ⟨by decide, by decide⟩ ko_21 ?_
          clear hM
          rintro _ _ ⟨rfl, rfl⟩
          refine x_icmp_eqN C 34 dX7_addSpreads_28 (by decide) (hq9 i (by omega)) (hq9 (i - 1) (by omega)) (fun c28 => ?_) (fun c28 => ?_)
          · skip
            exact lp34 rr (z_rr_old hrr (by omega) c28) _ xl0 xl1 xl2 xl3
          · skip
            have hne : i = 0 ∨ ¬ P i / 4096 = P (i - 1) / 4096 := Or.inr c28
            refine x_iinc C (i := 2) (1) dX7_addSpreads_31 xl2 rfl (by decide) ?_
            rw [z_np1]
            exact lp34 (rr + 1) (z_rr_new hl hs (by omega) hrq hro hrr hne) _ xl0 xl1 rfl xl3
  exact lp4 _ 0 0 f28 rfl (Nat.zero_le _) ⟨Nat.zero_le _, fun _ => rfl, fun h => absurd h (by decide)⟩ (fun r h => (hz r h)) _ rfl rfl rfl rfl
theorem c_X7_addSpreads (l : Launch) (Y : x_Y) (σ : x_S) (N : Nat) (hN : σ.1 15 3 = nI N) (hN9 : N ≤ 3000) (P : Nat → Nat) (g0 : Nat → Int64) (hg : σ.2 22 = g0) (hl : z_lh g0 P N) (hs : z_sl P N) (hix : ∀ j, j < N → P j % 4096 < N) (n : Nat) (f23 f24 : Nat → Int32) (f27 f28 : Nat → Int64) (h24 : σ.1 24 = f24) (h27 : σ.2 27 = f27) (h28 : σ.2 28 = f28) (hro : x_ro (z_K P) (z_V (σ.1 17) P) N n (z_f f23) f24 f27) (hrq : z_rq P N n f23) (hz : ∀ r, r < n → f28 r = 0) : x_M l yX7_addSpreads cX7_addSpreads 4 none 2 Y [.ref 21, .ref 15] σ (fun r τ => ∃ g28, (r = none ∧ τ = x_st σ [] [] [(28, g28)]) ∧ z_sp P (σ.1 17) N n f23 f24 f27 g28) := c_X7_addSpreads_K l Y σ N hN hN9 P g0 hg hl hs hix n f23 f24 f27 f28 h24 h27 h28 hro hrq hz _ (fun _ _ h => h)
