set_option maxRecDepth 100000 in
set_option maxHeartbeats 400000 in
theorem c_X11_symbol_K (l : Launch) (Y : x_Y) (σ : x_S) (b : Nat → Int32) (t : Nat) (ht : σ.1 1 1 = nI t) (hb : σ.1 2 = b) (ht8 : t ≤ 8000) (K : Option Value → x_S → Prop) (hK : ∀ (r : Option Value) (τ : x_S), (((x_sym b t).1 = false ∧ r = some (.int (-1 - nI (x_sym b t).2.1)) ∧ ∃ a3 a4 a5 a6 a7 g9 g4, τ = x_st σ [(8, 3, a3), (8, 4, a4), (8, 5, a5), (8, 6, a6), (3, 4, a7), (1, 1, nI 0), (3, 5, σ.1 3 5), (10, 4, σ.1 10 4), (10, 5, σ.1 10 5), (21, 8, σ.1 21 8), (29, 3, σ.1 29 3), (29, 4, σ.1 29 4)] [(9, g9), (4, g4), (5, σ.1 5), (6, σ.1 6), (7, σ.1 7), (11, σ.1 11), (12, σ.1 12), (13, σ.1 13), (14, σ.1 14), (31, σ.1 31), (33, σ.1 33)] []) ∨ ((x_sym b t).1 = true ∧ r = some (.int (-9001)) ∧ ∃ a3 a4 a5 a6 a7 a8 g9 g4 g5 g6 g7, (τ = x_st σ [(8, 3, a3), (8, 4, a4), (8, 5, a5), (8, 6, a6), (3, 4, a7), (1, 1, nI 0), (3, 5, a8), (10, 4, σ.1 10 4), (10, 5, σ.1 10 5), (21, 8, σ.1 21 8), (29, 3, σ.1 29 3), (29, 4, σ.1 29 4)] [(9, g9), (4, g4), (5, g5), (6, g6), (7, g7), (11, σ.1 11), (12, σ.1 12), (13, σ.1 13), (14, σ.1 14), (31, σ.1 31), (33, σ.1 33)] []) ∧ z_hg g4 (x_symG b t) ∧ z_close g4 (x_symG b t).length none) ∨ ((x_sym b t).1 = true ∧ r = some (.int (nI 0)) ∧ ∃ a3 a4 a5 a6 a7 a8 g9 g4 g5 g6 g7 f11 f12 f13 f14 Ks Ts g31 g33, (τ = x_st σ [(8, 3, a3), (8, 4, a4), (8, 5, a5), (8, 6, a6), (3, 4, a7), (1, 1, nI 0), (3, 5, a8), (10, 4, nI Ts.length), (10, 5, nI Ks.length), (21, 8, nI 0), (29, 3, nI 0), (29, 4, x_z false)] [(9, g9), (4, g4), (5, g5), (6, g6), (7, g7), (11, f11), (12, f12), (13, f13), (14, f14), (31, g31), (33, g33)] []) ∧ z_hg g4 (x_symG b t) ∧ z_close g4 (x_symG b t).length (some Ks) ∧ z_kh g5 g6 Ks ∧ Ks.length ≤ 192 ∧ z_bc g6 f11 f12 Ts Ks.length ∧ z_th f13 f14 Ts ∧ Ts.length ≤ Ks.length ∧ z_is g31 0 ∧ z_is g33 1)) → K r τ) : x_M l yX11_symbol cX11_symbol 2 (some .int) 6 Y [.ref 0] σ K := by
  refine x_start (by decide) (Nat.le_of_ble_eq_true rfl) ?_
  intro xp xe xs xm xg xb xt xc C xr xk
  refine x_sig (σ' := x_st σ [(8, 3, σ.1 8 3), (8, 4, σ.1 8 4), (8, 5, σ.1 8 5), (8, 6, σ.1 8 6), (3, 4, σ.1 3 4), (1, 1, nI t), (3, 5, σ.1 3 5), (10, 4, σ.1 10 4), (10, 5, σ.1 10 5), (21, 8, σ.1 21 8), (29, 3, σ.1 29 3), (29, 4, σ.1 29 4)] [(9, σ.1 9), (4, σ.1 4), (5, σ.1 5), (6, σ.1 6), (7, σ.1 7), (11, σ.1 11), (12, σ.1 12), (13, σ.1 13), (14, σ.1 14), (31, σ.1 31), (33, σ.1 33)] []) (x_st_in (And.intro rfl (And.intro rfl (And.intro rfl (And.intro rfl (And.intro rfl (And.intro ht (And.intro rfl (And.intro rfl (And.intro rfl (And.intro rfl (And.intro rfl (And.intro rfl trivial)))))))))))) (And.intro rfl (And.intro rfl (And.intro rfl (And.intro rfl (And.intro rfl (And.intro rfl (And.intro rfl (And.intro rfl (And.intro rfl (And.intro rfl (And.intro rfl trivial))))))))))) trivial) ?_
  refine x_aload_n C (i := 0) dX11_symbol_0 rfl rfl ?_
  refine x_getR C fr_0_2 kf_X11_28 dX11_symbol_1 ?_
  have hM := c_X8_readTape l Y (x_st σ [(8, 3, σ.1 8 3), (8, 4, σ.1 8 4), (8, 5, σ.1 8 5), (8, 6, σ.1 8 6), (3, 4, σ.1 3 4), (1, 1, nI t), (3, 5, σ.1 3 5), (10, 4, σ.1 10 4), (10, 5, σ.1 10 5), (21, 8, σ.1 21 8), (29, 3, σ.1 29 3), (29, 4, σ.1 29 4)] [(9, σ.1 9), (4, σ.1 4), (5, σ.1 5), (6, σ.1 6), (7, σ.1 7), (11, σ.1 11), (12, σ.1 12), (13, σ.1 13), (14, σ.1 14), (31, σ.1 31), (33, σ.1 33)] []) b t rfl hb ht8
  refine x_callV C (as := []) (st := []) (hM) kb_X8_readTape kv_X11_89 dX11_symbol_4 rfl rfl (Nat.le_of_ble_eq_true rfl) ⟨by decide, by decide⟩ ⟨by decide, by decide⟩ ko_8 ?_
  clear hM
  rintro _ _ ⟨su, fi, be, Gn, g9, g4, ⟨rfl, rfl⟩, hzg, hG8, hGe⟩
  refine x_sig (σ' := x_st σ [(8, 3, nI ((x_sym b t).2.1)), (8, 4, nI su), (8, 5, nI fi), (8, 6, nI be), (3, 4, nI Gn.length), (1, 1, nI t), (3, 5, σ.1 3 5), (10, 4, σ.1 10 4), (10, 5, σ.1 10 5), (21, 8, σ.1 21 8), (29, 3, σ.1 29 3), (29, 4, σ.1 29 4)] [(9, g9), (4, g4), (5, σ.1 5), (6, σ.1 6), (7, σ.1 7), (11, σ.1 11), (12, σ.1 12), (13, σ.1 13), (14, σ.1 14), (31, σ.1 31), (33, σ.1 33)] []) (x_st_st rfl) ?_
  subst hGe
  refine x_istore_n C (i := 1) dX11_symbol_7 rfl (by decide) ?_
  refine x_aload_n C (i := 0) dX11_symbol_8 rfl rfl ?_
  refine x_getR C fr_0_0 kf_X11_10 dX11_symbol_9 ?_
  refine x_iconst C (nI 0) dX11_symbol_12 rfl ?_
  refine x_putN C fi_1_1 kf_X11_69 rfl rfl dX11_symbol_13 ?_
  refine x_sig (σ' := x_st σ [(8, 3, nI ((x_sym b t).2.1)), (8, 4, nI su), (8, 5, nI fi), (8, 6, nI be), (3, 4, nI ((x_symG b t).length)), (1, 1, nI 0), (3, 5, σ.1 3 5), (10, 4, σ.1 10 4), (10, 5, σ.1 10 5), (21, 8, σ.1 21 8), (29, 3, σ.1 29 3), (29, 4, σ.1 29 4)] [(9, g9), (4, g4), (5, σ.1 5), (6, σ.1 6), (7, σ.1 7), (11, σ.1 11), (12, σ.1 12), (13, σ.1 13), (14, σ.1 14), (31, σ.1 31), (33, σ.1 33)] []) (x_st_u rfl) ?_
  refine x_iload_n C (i := 1) dX11_symbol_16 rfl rfl ?_
  refine x_if_neZ C 30 dX11_symbol_17 (by decide) (fun c17 => ?_) (fun c17 => ?_)
  · skip
    refine x_aload_n C (i := 0) dX11_symbol_30 rfl rfl ?_
    refine x_getR C fr_0_1 kf_X11_19 dX11_symbol_31 ?_
    have hM := c_X2_makesGroup l Y (x_st σ [(8, 3, nI ((x_sym b t).2.1)), (8, 4, nI su), (8, 5, nI fi), (8, 6, nI be), (3, 4, nI ((x_symG b t).length)), (1, 1, nI 0), (3, 5, σ.1 3 5), (10, 4, σ.1 10 4), (10, 5, σ.1 10 5), (21, 8, σ.1 21 8), (29, 3, σ.1 29 3), (29, 4, σ.1 29 4)] [(9, g9), (4, g4), (5, σ.1 5), (6, σ.1 6), (7, σ.1 7), (11, σ.1 11), (12, σ.1 12), (13, σ.1 13), (14, σ.1 14), (31, σ.1 31), (33, σ.1 33)] []) (x_symG b t).length rfl hG8 g4 rfl
    refine x_callV C (as := []) (st := []) (hM) kb_X2_makesGroup kv_X11_96 dX11_symbol_34 rfl rfl (Nat.le_of_ble_eq_true rfl) ⟨by decide, by decide⟩ ⟨by decide, by decide⟩ ko_3 ?_
    clear hM
    rintro _ _ ⟨Ks, g5, g6, g7, rfl, hkh, hKl, ⟨hcl, rfl⟩ | ⟨hcl, rfl⟩⟩
    · skip
      refine x_sig (σ' := x_st σ [(8, 3, nI ((x_sym b t).2.1)), (8, 4, nI su), (8, 5, nI fi), (8, 6, nI be), (3, 4, nI ((x_symG b t).length)), (1, 1, nI 0), (3, 5, nI Ks.length), (10, 4, σ.1 10 4), (10, 5, σ.1 10 5), (21, 8, σ.1 21 8), (29, 3, σ.1 29 3), (29, 4, σ.1 29 4)] [(9, g9), (4, g4), (5, g5), (6, g6), (7, g7), (11, σ.1 11), (12, σ.1 12), (13, σ.1 13), (14, σ.1 14), (31, σ.1 31), (33, σ.1 33)] []) (x_st_st rfl) ?_
      refine x_if_neZ C 44 dX11_symbol_37 (by decide) (fun c37 => absurd c37 (by decide)) (fun c37 => ?_)
      refine x_sipush C (-9001) dX11_symbol_40 rfl ?_
      refine x_iret C xr xk dX11_symbol_43 ?_
      exact hK _ _ (Or.inr (Or.inl ⟨c17, rfl, _, _, _, _, _, _, _, _, _, _, _, rfl, hzg, hcl⟩))
    · skip
      refine x_sig (σ' := x_st σ [(8, 3, nI ((x_sym b t).2.1)), (8, 4, nI su), (8, 5, nI fi), (8, 6, nI be), (3, 4, nI ((x_symG b t).length)), (1, 1, nI 0), (3, 5, nI Ks.length), (10, 4, σ.1 10 4), (10, 5, σ.1 10 5), (21, 8, σ.1 21 8), (29, 3, σ.1 29 3), (29, 4, σ.1 29 4)] [(9, g9), (4, g4), (5, g5), (6, g6), (7, g7), (11, σ.1 11), (12, σ.1 12), (13, σ.1 13), (14, σ.1 14), (31, σ.1 31), (33, σ.1 33)] []) (x_st_st rfl) ?_
      refine x_if_neZ C 44 dX11_symbol_37 (by decide) (fun c37 => ?_) (fun c37 => absurd c37 (by decide))
      refine x_aload_n C (i := 0) dX11_symbol_44 rfl rfl ?_
      refine x_getR C fr_0_3 kf_X11_35 dX11_symbol_45 ?_
      refine x_aload_n C (i := 0) dX11_symbol_48 rfl rfl ?_
      refine x_getR C fr_0_1 kf_X11_19 dX11_symbol_49 ?_
      have hM := c_X1_become l Y (x_st σ [(8, 3, nI ((x_sym b t).2.1)), (8, 4, nI su), (8, 5, nI fi), (8, 6, nI be), (3, 4, nI ((x_symG b t).length)), (1, 1, nI 0), (3, 5, nI Ks.length), (10, 4, σ.1 10 4), (10, 5, σ.1 10 5), (21, 8, σ.1 21 8), (29, 3, σ.1 29 3), (29, 4, σ.1 29 4)] [(9, g9), (4, g4), (5, g5), (6, g6), (7, g7), (11, σ.1 11), (12, σ.1 12), (13, σ.1 13), (14, σ.1 14), (31, σ.1 31), (33, σ.1 33)] []) Ks.length rfl hKl g6 rfl
      refine x_callV C (as := [.ref 3]) (st := []) (hM) kb_X1_become kv_X11_99 dX11_symbol_52 rfl rfl (Nat.le_of_ble_eq_true rfl) ⟨by decide, by decide⟩ ⟨by decide, by decide⟩ ko_10 ?_
      clear hM
      rintro _ _ ⟨f11, f12, f13, f14, Ts, ⟨rfl, rfl⟩, hbc, hth, hTl⟩
      refine x_sig (σ' := x_st σ [(8, 3, nI ((x_sym b t).2.1)), (8, 4, nI su), (8, 5, nI fi), (8, 6, nI be), (3, 4, nI ((x_symG b t).length)), (1, 1, nI 0), (3, 5, nI Ks.length), (10, 4, nI Ts.length), (10, 5, nI Ks.length), (21, 8, σ.1 21 8), (29, 3, σ.1 29 3), (29, 4, σ.1 29 4)] [(9, g9), (4, g4), (5, g5), (6, g6), (7, g7), (11, f11), (12, f12), (13, f13), (14, f14), (31, σ.1 31), (33, σ.1 33)] []) (x_st_st rfl) ?_
      refine x_aload_n C (i := 0) dX11_symbol_55 rfl rfl ?_
      refine x_getR C fr_0_6 kf_X11_58 dX11_symbol_56 ?_
      have hM := c_X7_clear l Y (x_st σ [(8, 3, nI ((x_sym b t).2.1)), (8, 4, nI su), (8, 5, nI fi), (8, 6, nI be), (3, 4, nI ((x_symG b t).length)), (1, 1, nI 0), (3, 5, nI Ks.length), (10, 4, nI Ts.length), (10, 5, nI Ks.length), (21, 8, σ.1 21 8), (29, 3, σ.1 29 3), (29, 4, σ.1 29 4)] [(9, g9), (4, g4), (5, g5), (6, g6), (7, g7), (11, f11), (12, f12), (13, f13), (14, f14), (31, σ.1 31), (33, σ.1 33)] [])
      refine x_callV C (as := []) (st := []) (hM) kb_X7_clear kv_X11_103 dX11_symbol_59 rfl rfl (Nat.le_of_ble_eq_true rfl) ⟨by decide, by decide⟩ ⟨by decide, by decide⟩ ko_21 ?_
      clear hM
      rintro _ _ ⟨g31, g33, ⟨rfl, rfl⟩, hz31, hz33⟩
      refine x_sig (σ' := x_st σ [(8, 3, nI ((x_sym b t).2.1)), (8, 4, nI su), (8, 5, nI fi), (8, 6, nI be), (3, 4, nI ((x_symG b t).length)), (1, 1, nI 0), (3, 5, nI Ks.length), (10, 4, nI Ts.length), (10, 5, nI Ks.length), (21, 8, nI 0), (29, 3, nI 0), (29, 4, x_z false)] [(9, g9), (4, g4), (5, g5), (6, g6), (7, g7), (11, f11), (12, f12), (13, f13), (14, f14), (31, g31), (33, g33)] []) (x_st_st rfl) ?_
      refine x_iconst C (nI 0) dX11_symbol_62 rfl ?_
      refine x_iret C xr xk dX11_symbol_63 ?_
      exact hK _ _ (Or.inr (Or.inr ⟨c17, rfl, _, _, _, _, _, _, _, _, _, _, _, _, _, _, _, _, _, _, _, rfl, hzg, hcl, hkh, hKl, hbc, hth, hTl, hz31, hz33⟩))
  · skip
    refine x_iconst C (-1) dX11_symbol_20 rfl ?_
    refine x_aload_n C (i := 0) dX11_symbol_21 rfl rfl ?_
    refine x_getR C fr_0_2 kf_X11_28 dX11_symbol_22 ?_
    refine x_getI C fi_8_3 kf_X11_93 dX11_symbol_25 ?_
    refine x_topI (y := nI ((x_sym b t).2.1)) rfl ?_
    refine x_isub C dX11_symbol_28 ?_
    refine x_iret C xr xk dX11_symbol_29 ?_
    exact hK _ _ (Or.inl ⟨c17, rfl, _, _, _, _, _, _, _, rfl⟩)
theorem c_X11_symbol (l : Launch) (Y : x_Y) (σ : x_S) (b : Nat → Int32) (t : Nat) (ht : σ.1 1 1 = nI t) (hb : σ.1 2 = b) (ht8 : t ≤ 8000) : x_M l yX11_symbol cX11_symbol 2 (some .int) 6 Y [.ref 0] σ (fun r τ => ((x_sym b t).1 = false ∧ r = some (.int (-1 - nI (x_sym b t).2.1)) ∧ ∃ a3 a4 a5 a6 a7 g9 g4, τ = x_st σ [(8, 3, a3), (8, 4, a4), (8, 5, a5), (8, 6, a6), (3, 4, a7), (1, 1, nI 0), (3, 5, σ.1 3 5), (10, 4, σ.1 10 4), (10, 5, σ.1 10 5), (21, 8, σ.1 21 8), (29, 3, σ.1 29 3), (29, 4, σ.1 29 4)] [(9, g9), (4, g4), (5, σ.1 5), (6, σ.1 6), (7, σ.1 7), (11, σ.1 11), (12, σ.1 12), (13, σ.1 13), (14, σ.1 14), (31, σ.1 31), (33, σ.1 33)] []) ∨ ((x_sym b t).1 = true ∧ r = some (.int (-9001)) ∧ ∃ a3 a4 a5 a6 a7 a8 g9 g4 g5 g6 g7, (τ = x_st σ [(8, 3, a3), (8, 4, a4), (8, 5, a5), (8, 6, a6), (3, 4, a7), (1, 1, nI 0), (3, 5, a8), (10, 4, σ.1 10 4), (10, 5, σ.1 10 5), (21, 8, σ.1 21 8), (29, 3, σ.1 29 3), (29, 4, σ.1 29 4)] [(9, g9), (4, g4), (5, g5), (6, g6), (7, g7), (11, σ.1 11), (12, σ.1 12), (13, σ.1 13), (14, σ.1 14), (31, σ.1 31), (33, σ.1 33)] []) ∧ z_hg g4 (x_symG b t) ∧ z_close g4 (x_symG b t).length none) ∨ ((x_sym b t).1 = true ∧ r = some (.int (nI 0)) ∧ ∃ a3 a4 a5 a6 a7 a8 g9 g4 g5 g6 g7 f11 f12 f13 f14 Ks Ts g31 g33, (τ = x_st σ [(8, 3, a3), (8, 4, a4), (8, 5, a5), (8, 6, a6), (3, 4, a7), (1, 1, nI 0), (3, 5, a8), (10, 4, nI Ts.length), (10, 5, nI Ks.length), (21, 8, nI 0), (29, 3, nI 0), (29, 4, x_z false)] [(9, g9), (4, g4), (5, g5), (6, g6), (7, g7), (11, f11), (12, f12), (13, f13), (14, f14), (31, g31), (33, g33)] []) ∧ z_hg g4 (x_symG b t) ∧ z_close g4 (x_symG b t).length (some Ks) ∧ z_kh g5 g6 Ks ∧ Ks.length ≤ 192 ∧ z_bc g6 f11 f12 Ts Ks.length ∧ z_th f13 f14 Ts ∧ Ts.length ≤ Ks.length ∧ z_is g31 0 ∧ z_is g33 1)) := c_X11_symbol_K l Y σ b t ht hb ht8 _ (fun _ _ h => h)
set_option maxRecDepth 100000 in
set_option maxHeartbeats 200000 in
theorem c_X11_file_K (l : Launch) (Y : x_Y) (σ : x_S) (n0 : Nat) (hn : σ.1 15 3 = nI n0) (hn9 : n0 ≤ 3000) (A0 : x_A5) (hk0 : z_kp (σ.1 16) (σ.1 17) (σ.1 18) A0 n0) (b : Nat → Int32) (t : Nat) (ht : σ.1 1 1 = nI t) (hb : σ.1 2 = b) (ht8 : t ≤ 8000) (K : Option Value → x_S → Prop) (hK : ∀ (r : Option Value) (τ : x_S), (((x_fil b t n0 A0).1 = false ∧ r = some (.int (-1 - nI (x_fil b t n0 A0).2.1)) ∧ ∃ q3 q4 q5 q6 q7 g f16 f17 f18, τ = x_st σ [(15, 3, nI n0), (19, 3, q3), (19, 4, q4), (19, 5, q5), (19, 6, q6), (19, 7, q7), (1, 1, nI 0)] [(16, f16), (17, f17), (18, f18), (20, g)] [] ∧ z_kp f16 f17 f18 (x_fil b t n0 A0).2.2.2 n0) ∨ ((x_fil b t n0 A0).1 = true ∧ n0 ≤ (x_fil b t n0 A0).2.2.1 ∧ (x_fil b t n0 A0).2.2.1 ≤ 3000 ∧ r = some (.int (nI ((x_fil b t n0 A0).2.2.1 - n0))) ∧ ∃ q3 q4 q5 q6 q7 g f16 f17 f18, τ = x_st σ [(15, 3, nI (x_fil b t n0 A0).2.2.1), (19, 3, q3), (19, 4, q4), (19, 5, q5), (19, 6, q6), (19, 7, q7), (1, 1, nI 0)] [(16, f16), (17, f17), (18, f18), (20, g)] [] ∧ z_kp f16 f17 f18 (x_fil b t n0 A0).2.2.2 (x_fil b t n0 A0).2.2.1)) → K r τ) : x_M l yX11_file cX11_file 2 (some .int) 6 Y [.ref 0] σ K := by
  refine x_start (by decide) (Nat.le_of_ble_eq_true rfl) ?_
  intro xp xe xs xm xg xb xt xc C xr xk
  refine x_sig (σ' := x_st σ [(15, 3, nI n0), (19, 3, σ.1 19 3), (19, 4, σ.1 19 4), (19, 5, σ.1 19 5), (19, 6, σ.1 19 6), (19, 7, σ.1 19 7), (1, 1, nI t)] [(16, σ.1 16), (17, σ.1 17), (18, σ.1 18), (20, σ.1 20)] []) (x_st_in (And.intro hn (And.intro rfl (And.intro rfl (And.intro rfl (And.intro rfl (And.intro rfl (And.intro ht trivial))))))) (And.intro rfl (And.intro rfl (And.intro rfl (And.intro rfl trivial)))) trivial) ?_
  refine x_aload_n C (i := 0) dX11_file_0 rfl rfl ?_
  refine x_getR C fr_0_5 kf_X11_51 dX11_file_1 ?_
  have hM := c_X0_readTape l Y (x_st σ [(15, 3, nI n0), (19, 3, σ.1 19 3), (19, 4, σ.1 19 4), (19, 5, σ.1 19 5), (19, 6, σ.1 19 6), (19, 7, σ.1 19 7), (1, 1, nI t)] [(16, σ.1 16), (17, σ.1 17), (18, σ.1 18), (20, σ.1 20)] []) n0 rfl hn9 A0 hk0 b t rfl hb ht8
  refine x_callV C (as := []) (st := []) (hM) kb_X0_readTape kv_X11_165 dX11_file_4 rfl rfl (Nat.le_of_ble_eq_true rfl) ⟨by decide, by decide⟩ ⟨by decide, by decide⟩ ko_19 ?_
  clear hM
  rintro _ _ (⟨hf1, rfl, q3, q4, q5, q6, q7, g, f16, f17, f18, rfl, hkp⟩ | ⟨hf1, hf2, hf3, rfl, q3, q4, q5, q6, q7, g, f16, f17, f18, rfl, hkp⟩)
  · skip
    refine x_sig (σ' := x_st σ [(15, 3, nI n0), (19, 3, q3), (19, 4, q4), (19, 5, q5), (19, 6, q6), (19, 7, q7), (1, 1, nI t)] [(16, f16), (17, f17), (18, f18), (20, g)] []) (x_st_st rfl) ?_
    refine x_istore_n C (i := 1) dX11_file_7 rfl (by decide) ?_
    refine x_aload_n C (i := 0) dX11_file_8 rfl rfl ?_
    refine x_getR C fr_0_0 kf_X11_10 dX11_file_9 ?_
    refine x_iconst C (nI 0) dX11_file_12 rfl ?_
    refine x_putN C fi_1_1 kf_X11_69 rfl rfl dX11_file_13 ?_
    refine x_sig (σ' := x_st σ [(15, 3, nI n0), (19, 3, q3), (19, 4, q4), (19, 5, q5), (19, 6, q6), (19, 7, q7), (1, 1, nI 0)] [(16, f16), (17, f17), (18, f18), (20, g)] []) (x_st_u rfl) ?_
    refine x_iload_n C (i := 1) dX11_file_16 rfl rfl ?_
    refine x_iret C xr xk dX11_file_17 ?_
    exact hK _ _ (Or.inl ⟨hf1, rfl, _, _, _, _, _, _, _, _, _, rfl, hkp⟩)
  · skip
    refine x_sig (σ' := x_st σ [(15, 3, nI ((x_fil b t n0 A0).2.2.1)), (19, 3, q3), (19, 4, q4), (19, 5, q5), (19, 6, q6), (19, 7, q7), (1, 1, nI t)] [(16, f16), (17, f17), (18, f18), (20, g)] []) (x_st_st rfl) ?_
    refine x_istore_n C (i := 1) dX11_file_7 rfl (by decide) ?_
    refine x_aload_n C (i := 0) dX11_file_8 rfl rfl ?_
    refine x_getR C fr_0_0 kf_X11_10 dX11_file_9 ?_
    refine x_iconst C (nI 0) dX11_file_12 rfl ?_
    refine x_putN C fi_1_1 kf_X11_69 rfl rfl dX11_file_13 ?_
    refine x_sig (σ' := x_st σ [(15, 3, nI ((x_fil b t n0 A0).2.2.1)), (19, 3, q3), (19, 4, q4), (19, 5, q5), (19, 6, q6), (19, 7, q7), (1, 1, nI 0)] [(16, f16), (17, f17), (18, f18), (20, g)] []) (x_st_u rfl) ?_
    refine x_iload_n C (i := 1) dX11_file_16 rfl rfl ?_
    refine x_iret C xr xk dX11_file_17 ?_
    exact hK _ _ (Or.inr ⟨hf1, hf2, hf3, rfl, _, _, _, _, _, _, _, _, _, rfl, hkp⟩)
theorem c_X11_file (l : Launch) (Y : x_Y) (σ : x_S) (n0 : Nat) (hn : σ.1 15 3 = nI n0) (hn9 : n0 ≤ 3000) (A0 : x_A5) (hk0 : z_kp (σ.1 16) (σ.1 17) (σ.1 18) A0 n0) (b : Nat → Int32) (t : Nat) (ht : σ.1 1 1 = nI t) (hb : σ.1 2 = b) (ht8 : t ≤ 8000) : x_M l yX11_file cX11_file 2 (some .int) 6 Y [.ref 0] σ (fun r τ => ((x_fil b t n0 A0).1 = false ∧ r = some (.int (-1 - nI (x_fil b t n0 A0).2.1)) ∧ ∃ q3 q4 q5 q6 q7 g f16 f17 f18, τ = x_st σ [(15, 3, nI n0), (19, 3, q3), (19, 4, q4), (19, 5, q5), (19, 6, q6), (19, 7, q7), (1, 1, nI 0)] [(16, f16), (17, f17), (18, f18), (20, g)] [] ∧ z_kp f16 f17 f18 (x_fil b t n0 A0).2.2.2 n0) ∨ ((x_fil b t n0 A0).1 = true ∧ n0 ≤ (x_fil b t n0 A0).2.2.1 ∧ (x_fil b t n0 A0).2.2.1 ≤ 3000 ∧ r = some (.int (nI ((x_fil b t n0 A0).2.2.1 - n0))) ∧ ∃ q3 q4 q5 q6 q7 g f16 f17 f18, τ = x_st σ [(15, 3, nI (x_fil b t n0 A0).2.2.1), (19, 3, q3), (19, 4, q4), (19, 5, q5), (19, 6, q6), (19, 7, q7), (1, 1, nI 0)] [(16, f16), (17, f17), (18, f18), (20, g)] [] ∧ z_kp f16 f17 f18 (x_fil b t n0 A0).2.2.2 (x_fil b t n0 A0).2.2.1)) := c_X11_file_K l Y σ n0 hn hn9 A0 hk0 b t ht hb ht8 _ (fun _ _ h => h)
set_option maxRecDepth 100000 in
set_option maxHeartbeats 200000 in
theorem c_X11_drop_K (l : Launch) (Y : x_Y) (σ : x_S) (N : Nat) (hN : σ.1 15 3 = nI N) (K : Option Value → x_S → Prop) (hK : ∀ (r : Option Value) (τ : x_S), (r = some (.int (nI N)) ∧ ∃ g31 g33, τ = x_st σ [(15, 3, nI 0), (21, 8, nI 0), (29, 3, nI 0), (29, 4, x_z false)] [(31, g31), (33, g33)] [] ∧ z_is g31 0 ∧ z_is g33 1) → K r τ) : x_M l yX11_drop cX11_drop 2 (some .int) 3 Y [.ref 0] σ K := by
  refine x_start (by decide) (Nat.le_of_ble_eq_true rfl) ?_
  intro xp xe xs xm xg xb xt xc C xr xk
  refine x_sig (σ' := x_st σ [(15, 3, nI N), (21, 8, σ.1 21 8), (29, 3, σ.1 29 3), (29, 4, σ.1 29 4)] [(31, σ.1 31), (33, σ.1 33)] []) (x_st_in (And.intro hN (And.intro rfl (And.intro rfl (And.intro rfl trivial)))) (And.intro rfl (And.intro rfl trivial)) trivial) ?_
  refine x_aload_n C (i := 0) dX11_drop_0 rfl rfl ?_
  refine x_getR C fr_0_4 kf_X11_42 dX11_drop_1 ?_
  refine x_getI C fi_15_3 kf_X11_167 dX11_drop_4 ?_
  refine x_topI (y := nI N) rfl ?_
  refine x_istore_n C (i := 1) dX11_drop_7 rfl (by decide) ?_
  refine x_aload_n C (i := 0) dX11_drop_8 rfl rfl ?_
  refine x_getR C fr_0_4 kf_X11_42 dX11_drop_9 ?_
  refine x_iconst C (nI 0) dX11_drop_12 rfl ?_
  refine x_putN C fi_15_3 kf_X11_167 rfl rfl dX11_drop_13 ?_
  refine x_sig (σ' := x_st σ [(15, 3, nI 0), (21, 8, σ.1 21 8), (29, 3, σ.1 29 3), (29, 4, σ.1 29 4)] [(31, σ.1 31), (33, σ.1 33)] []) (x_st_u rfl) ?_
  refine x_aload_n C (i := 0) dX11_drop_16 rfl rfl ?_
  refine x_getR C fr_0_6 kf_X11_58 dX11_drop_17 ?_
  have hM := c_X7_clear l Y (x_st σ [(15, 3, nI 0), (21, 8, σ.1 21 8), (29, 3, σ.1 29 3), (29, 4, σ.1 29 4)] [(31, σ.1 31), (33, σ.1 33)] [])
  refine x_callV C (as := []) (st := []) (hM) kb_X7_clear kv_X11_103 dX11_drop_20 rfl rfl (Nat.le_of_ble_eq_true rfl) ⟨by decide, by decide⟩ ⟨by decide, by decide⟩ ko_21 ?_
  clear hM
  rintro _ _ ⟨g31, g33, ⟨rfl, rfl⟩, hz31, hz33⟩
  refine x_sig (σ' := x_st σ [(15, 3, nI 0), (21, 8, nI 0), (29, 3, nI 0), (29, 4, x_z false)] [(31, g31), (33, g33)] []) (x_st_st rfl) ?_
  refine x_iload_n C (i := 1) dX11_drop_23 rfl rfl ?_
  refine x_iret C xr xk dX11_drop_24 ?_
  exact hK _ _ ⟨rfl, _, _, rfl, hz31, hz33⟩
theorem c_X11_drop (l : Launch) (Y : x_Y) (σ : x_S) (N : Nat) (hN : σ.1 15 3 = nI N) : x_M l yX11_drop cX11_drop 2 (some .int) 3 Y [.ref 0] σ (fun r τ => r = some (.int (nI N)) ∧ ∃ g31 g33, τ = x_st σ [(15, 3, nI 0), (21, 8, nI 0), (29, 3, nI 0), (29, 4, x_z false)] [(31, g31), (33, g33)] [] ∧ z_is g31 0 ∧ z_is g33 1) := c_X11_drop_K l Y σ N hN _ (fun _ _ h => h)
set_option maxRecDepth 100000 in
set_option maxHeartbeats 200000 in
theorem c_X11_merge_K (l : Launch) (hl : l.stackTraces = false) (Y : x_Y) (σ : x_S) (ng : Nat) (hng : σ.1 10 5 = nI ng) (hng9 : ng ≤ 192) (c : Nat) (hc : σ.1 10 4 = nI c) (hc9 : c ≤ 192) (N : Nat) (hN : σ.1 15 3 = nI N) (hN4 : N ≤ 400) (Q : Nat → Nat) (hQ : ∀ i, i < N → z_kd σ c i = nI (Q i) ∧ Q i < 2 ^ 30) (hV : ∀ i, i < N → -10000000 ≤ (σ.1 17 i).toInt ∧ (σ.1 17 i).toInt ≤ 10000000) (K : Option Value → x_S → Prop) (X : String → x_S → Prop) (hK : ∀ (r : Option Value) (τ : x_S), (ng ≠ 0 ∧ ∃ n f23 f24 f25 f26 f27 g28 sp q3 kn g31 g33 g35 g22, (r = some (.int (nI n)) ∧ τ = x_st σ [(21, 8, nI n), (29, 3, q3), (29, 4, x_z kn)] [(31, g31), (33, g33), (23, f23), (24, f24), (25, f25), (26, f26), (35, g35)] [(22, g22), (27, f27), (28, g28)]) ∧ x_ro (z_K1 Q) (z_V1 (σ.1 17)) N n (z_f f23) f24 f27 ∧ (∀ a, a < n → f25 a = z_m1 σ c (f23 a) ∧ f26 a = z_m2 σ ng (f23 a) ∧ g28 a = x_spr (z_K1 Q) (z_V1 (σ.1 17)) (f24 a).toInt64 (f27 a) (z_f f23 a) N ∧ g28 a = lN (sp a) ∧ sp a ≤ 3200000000000 ∧ ∃ j, j < N ∧ f23 a = nI (Q j)) ∧ ((¬ 0 < y_tot (fun a => decide (f26 a = 0) && decide (1 < x_cnt (z_K1 Q) (z_f f23 a) N)) f27 n ∧ kn = false) ∨ (0 < y_tot (fun a => decide (f26 a = 0) && decide (1 < x_cnt (z_K1 Q) (z_f f23 a) N)) f27 n ∧ kn = true ∧ ∀ M, 0 < M → (∀ a, a < n → (fun a => decide (f26 a = 0) && decide (1 < x_cnt (z_K1 Q) (z_f f23 a) N)) a = true → (fun a => x_cnt (z_K1 Q) (z_f f23 a) N) a ∣ M) → z_is g31 (y_abv (fun a => decide (f26 a = 0) && decide (1 < x_cnt (z_K1 Q) (z_f f23 a) N)) (fun a => x_cnt (z_K1 Q) (z_f f23 a) N) sp M n / Nat.gcd (y_abv (fun a => decide (f26 a = 0) && decide (1 < x_cnt (z_K1 Q) (z_f f23 a) N)) (fun a => x_cnt (z_K1 Q) (z_f f23 a) N) sp M n) (M * (y_tot (fun a => decide (f26 a = 0) && decide (1 < x_cnt (z_K1 Q) (z_f f23 a) N)) f27 n).toInt.toNat)) ∧ z_is g33 (M * (y_tot (fun a => decide (f26 a = 0) && decide (1 < x_cnt (z_K1 Q) (z_f f23 a) N)) f27 n).toInt.toNat / Nat.gcd (y_abv (fun a => decide (f26 a = 0) && decide (1 < x_cnt (z_K1 Q) (z_f f23 a) N)) (fun a => x_cnt (z_K1 Q) (z_f f23 a) N) sp M n) (M * (y_tot (fun a => decide (f26 a = 0) && decide (1 < x_cnt (z_K1 Q) (z_f f23 a) N)) f27 n).toInt.toNat))))) → K r τ) (hX : ∀ (E : String) (τ : x_S), (ng = 0 ∧ E = x_eISE ∧ τ = σ) → X E τ) : x_MX l yX11_merge cX11_merge 1 (some .int) 7 1 Y [.ref 0] σ K X := by
  refine x_startX (by decide) (Nat.le_of_ble_eq_true rfl) ?_
  intro xp xe xs xm xg xb xt xc C xr xk xX
  refine x_aload_n C (i := 0) dX11_merge_0 rfl rfl ?_
  have hM := c_X11_requireGroup l hl Y σ ng hng hng9
  refine x_callVX C xX xk (as := []) (st := []) (hM) kb_X11_requireGroup kv_X11_144 dX11_merge_1 rfl rfl (Nat.le_of_ble_eq_true rfl) ⟨by decide, by decide⟩ ⟨by decide, by decide⟩ ko_0 (fun _ _ h9 => hX _ _ h9) (by decide) (by decide) ?_
  clear hM
  intro r9 τ9 h9
  obtain ⟨hg, rfl, h8⟩ := h9
  rw [h8]
  clear h8 τ9
  refine x_aload_n C (i := 0) dX11_merge_4 rfl rfl ?_
  refine x_getR C fr_0_6 kf_X11_58 dX11_merge_5 ?_
  refine x_aload_n C (i := 0) dX11_merge_8 rfl rfl ?_
  refine x_getR C fr_0_4 kf_X11_42 dX11_merge_9 ?_
  refine x_aload_n C (i := 0) dX11_merge_12 rfl rfl ?_
  refine x_getR C fr_0_3 kf_X11_35 dX11_merge_13 ?_
  have hM := c_X7_mergeAll l Y σ ng hng hng9 c hc hc9 N hN hN4 Q hQ hV
  refine x_callV C (as := [.ref 15, .ref 10]) (st := []) (hM) kb_X7_mergeAll kv_X11_173 dX11_merge_16 rfl rfl (Nat.le_of_ble_eq_true rfl) ⟨by decide, by decide⟩ ⟨by decide, by decide⟩ ko_21 ?_
  clear hM
  rintro _ _ ⟨n, f23, f24, f25, f26, f27, g28, sp, q3, kn, g31, g33, g35, g22, ⟨rfl, rfl⟩, hro, hrest, hkn⟩
  refine x_aload_n C (i := 0) dX11_merge_19 rfl rfl ?_
  refine x_getR C fr_0_6 kf_X11_58 dX11_merge_20 ?_
  refine x_getI C fi_21_8 kf_X11_177 dX11_merge_23 ?_
  refine x_topI (y := nI n) rfl ?_
  refine x_retX (by decide) (by decide) ?_
  refine x_iret C xr xk dX11_merge_26 ?_
  exact hK _ _ ⟨hg, n, f23, f24, f25, f26, f27, g28, sp, q3, kn, g31, g33, g35, g22, ⟨rfl, rfl⟩, hro, hrest, hkn⟩
theorem c_X11_merge (l : Launch) (hl : l.stackTraces = false) (Y : x_Y) (σ : x_S) (ng : Nat) (hng : σ.1 10 5 = nI ng) (hng9 : ng ≤ 192) (c : Nat) (hc : σ.1 10 4 = nI c) (hc9 : c ≤ 192) (N : Nat) (hN : σ.1 15 3 = nI N) (hN4 : N ≤ 400) (Q : Nat → Nat) (hQ : ∀ i, i < N → z_kd σ c i = nI (Q i) ∧ Q i < 2 ^ 30) (hV : ∀ i, i < N → -10000000 ≤ (σ.1 17 i).toInt ∧ (σ.1 17 i).toInt ≤ 10000000) : x_MX l yX11_merge cX11_merge 1 (some .int) 7 1 Y [.ref 0] σ (fun r τ => ng ≠ 0 ∧ ∃ n f23 f24 f25 f26 f27 g28 sp q3 kn g31 g33 g35 g22, (r = some (.int (nI n)) ∧ τ = x_st σ [(21, 8, nI n), (29, 3, q3), (29, 4, x_z kn)] [(31, g31), (33, g33), (23, f23), (24, f24), (25, f25), (26, f26), (35, g35)] [(22, g22), (27, f27), (28, g28)]) ∧ x_ro (z_K1 Q) (z_V1 (σ.1 17)) N n (z_f f23) f24 f27 ∧ (∀ a, a < n → f25 a = z_m1 σ c (f23 a) ∧ f26 a = z_m2 σ ng (f23 a) ∧ g28 a = x_spr (z_K1 Q) (z_V1 (σ.1 17)) (f24 a).toInt64 (f27 a) (z_f f23 a) N ∧ g28 a = lN (sp a) ∧ sp a ≤ 3200000000000 ∧ ∃ j, j < N ∧ f23 a = nI (Q j)) ∧ ((¬ 0 < y_tot (fun a => decide (f26 a = 0) && decide (1 < x_cnt (z_K1 Q) (z_f f23 a) N)) f27 n ∧ kn = false) ∨ (0 < y_tot (fun a => decide (f26 a = 0) && decide (1 < x_cnt (z_K1 Q) (z_f f23 a) N)) f27 n ∧ kn = true ∧ ∀ M, 0 < M → (∀ a, a < n → (fun a => decide (f26 a = 0) && decide (1 < x_cnt (z_K1 Q) (z_f f23 a) N)) a = true → (fun a => x_cnt (z_K1 Q) (z_f f23 a) N) a ∣ M) → z_is g31 (y_abv (fun a => decide (f26 a = 0) && decide (1 < x_cnt (z_K1 Q) (z_f f23 a) N)) (fun a => x_cnt (z_K1 Q) (z_f f23 a) N) sp M n / Nat.gcd (y_abv (fun a => decide (f26 a = 0) && decide (1 < x_cnt (z_K1 Q) (z_f f23 a) N)) (fun a => x_cnt (z_K1 Q) (z_f f23 a) N) sp M n) (M * (y_tot (fun a => decide (f26 a = 0) && decide (1 < x_cnt (z_K1 Q) (z_f f23 a) N)) f27 n).toInt.toNat)) ∧ z_is g33 (M * (y_tot (fun a => decide (f26 a = 0) && decide (1 < x_cnt (z_K1 Q) (z_f f23 a) N)) f27 n).toInt.toNat / Nat.gcd (y_abv (fun a => decide (f26 a = 0) && decide (1 < x_cnt (z_K1 Q) (z_f f23 a) N)) (fun a => x_cnt (z_K1 Q) (z_f f23 a) N) sp M n) (M * (y_tot (fun a => decide (f26 a = 0) && decide (1 < x_cnt (z_K1 Q) (z_f f23 a) N)) f27 n).toInt.toNat))))) (fun E τ => ng = 0 ∧ E = x_eISE ∧ τ = σ) := c_X11_merge_K l hl Y σ ng hng hng9 c hc hc9 N hN hN4 Q hQ hV _ _ (fun _ _ h => h) (fun _ _ h => h)
