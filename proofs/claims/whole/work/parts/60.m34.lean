set_option maxRecDepth 100000 in
set_option maxHeartbeats 200000 in
theorem c_X8_addPlain_K (l : Launch) (Y : x_Y) (σ : x_S) (s : Int32) (x y z : Nat) (hx : x < 12) (hy : y < 12) (hz : z < 12) (Gn : List x_O) (hG : σ.1 3 4 = nI Gn.length) (hG8 : Gn.length < 8) (f4 : Nat → Int32) (h4 : σ.1 4 = f4) (hgh : z_hg f4 Gn) (g9 : Nat → Int32) (h9 : σ.1 9 = g9) (K : Option Value → x_S → Prop) (hK : ∀ (r : Option Value) (τ : x_S), (∃ g f, (r = none ∧ τ = x_st σ [(3, 4, nI (Gn.length + 1))] [(9, g), (4, f)] []) ∧ z_hg f (Gn ++ [(z_rl 0 0 s, [nI x, nI y, nI z])])) → K r τ) : x_M l yX8_addPlain cX8_addPlain 5 none 2 Y [.ref 8, .int s, .int (nI x), .int (nI y), .int (nI z)] σ K := by
  refine x_start (by decide) (Nat.le_of_ble_eq_true rfl) ?_
  intro xp xe xs xm xg xb xt xc C xr xk
  refine x_sig (σ' := x_st σ [(3, 4, nI Gn.length)] [(9, g9), (4, f4)] []) (x_st_in (And.intro hG trivial) (And.intro h9 (And.intro h4 trivial)) trivial) ?_
  refine x_aload_n C (i := 0) dX8_addPlain_0 rfl rfl ?_
  refine x_iconst C (nI 0) dX8_addPlain_1 rfl ?_
  refine x_iconst C (nI 0) dX8_addPlain_2 rfl ?_
  refine x_iload_n C (i := 1) dX8_addPlain_3 rfl rfl ?_
  have hM := c_X8_setRotation l Y (x_st σ [(3, 4, nI Gn.length)] [(9, g9), (4, f4)] []) 0 0 s (by decide) (by decide) g9 rfl
  refine x_callV C (as := [.int (nI 0), .int (nI 0), .int s]) (st := []) (hM) kb_X8_setRotation kv_X8_74 dX8_addPlain_4 rfl rfl (Nat.le_of_ble_eq_true rfl) ⟨by decide, by decide⟩ ⟨by decide, by decide⟩ ko_8 ?_
  clear hM
  rintro _ _ ⟨gr, ⟨rfl, rfl⟩, hgr⟩
  refine x_sig (σ' := x_st σ [(3, 4, nI Gn.length)] [(9, gr), (4, f4)] []) (x_st_st rfl) ?_
  refine x_aload_n C (i := 0) dX8_addPlain_7 rfl rfl ?_
  refine x_iload_n C (i := 2) dX8_addPlain_8 rfl rfl ?_
  refine x_iload_n C (i := 3) dX8_addPlain_9 rfl rfl ?_
  refine x_iload C (i := 4) dX8_addPlain_10 rfl ?_
  have hM := c_X8_shift l Y (x_st σ [(3, 4, nI Gn.length)] [(9, gr), (4, f4)] []) x y z hx hy hz gr rfl 0 0 0 (by decide) (by decide) (by decide) ⟨hgr.2 0 (by decide), hgr.2 1 (by decide), hgr.2 2 (by decide)⟩
  refine x_callV C (as := [.int (nI x), .int (nI y), .int (nI z)]) (st := []) (hM) kb_X8_shift kv_X8_78 dX8_addPlain_12 rfl rfl (Nat.le_of_ble_eq_true rfl) ⟨by decide, by decide⟩ ⟨by decide, by decide⟩ ko_8 ?_
  clear hM
  rintro _ _ ⟨gs, ⟨rfl, rfl⟩, hgs1, hgs2⟩
  refine x_sig (σ' := x_st σ [(3, 4, nI Gn.length)] [(9, gs), (4, f4)] []) (x_st_st rfl) ?_
  refine x_pop C dX8_addPlain_15 rfl ?_
  refine x_aload_n C (i := 0) dX8_addPlain_16 rfl rfl ?_
  refine x_getR C fr_8_1 kf_X8_21 dX8_addPlain_17 ?_
  refine x_aload_n C (i := 0) dX8_addPlain_20 rfl rfl ?_
  refine x_getR C fr_8_2 kf_X8_11 dX8_addPlain_21 ?_
  have hM := c_X2_addGenerator l Y (x_st σ [(3, 4, nI Gn.length)] [(9, gs), (4, f4)] []) Gn.length rfl hG8 gs f4 rfl rfl
  refine x_callV C (as := [.ref 9]) (st := []) (hM) kb_X2_addGenerator kv_X8_82 dX8_addPlain_24 rfl rfl (Nat.le_of_ble_eq_true rfl) ⟨by decide, by decide⟩ ⟨by decide, by decide⟩ ko_3 ?_
  clear hM
  rintro _ _ ⟨rfl, rfl⟩
  refine x_sig (σ' := x_st σ [(3, 4, nI (Gn.length + 1))] [(9, gs), (4, va_cpy gs f4 0 (Gn.length * 12) 12)] []) (x_st_st rfl) ?_
  refine x_vret C xr xk dX8_addPlain_27 ?_
  exact hK _ _ ⟨_, _, ⟨rfl, rfl⟩, z_hg_s hgh ⟨fun q h => (hgs1 q h).trans (hgr.1 q h), fun j h => by
    rcases (show j = 0 ∨ j = 1 ∨ j = 2 by omega) with e | e | e
    · subst e; exact hgs2.1.trans (by rw [Nat.zero_add, Nat.mod_eq_of_lt hx]; rfl)
    · subst e; exact hgs2.2.1.trans (by rw [Nat.zero_add, Nat.mod_eq_of_lt hy]; rfl)
    · subst e; exact hgs2.2.2.trans (by rw [Nat.zero_add, Nat.mod_eq_of_lt hz]; rfl)⟩⟩
theorem c_X8_addPlain (l : Launch) (Y : x_Y) (σ : x_S) (s : Int32) (x y z : Nat) (hx : x < 12) (hy : y < 12) (hz : z < 12) (Gn : List x_O) (hG : σ.1 3 4 = nI Gn.length) (hG8 : Gn.length < 8) (f4 : Nat → Int32) (h4 : σ.1 4 = f4) (hgh : z_hg f4 Gn) (g9 : Nat → Int32) (h9 : σ.1 9 = g9) : x_M l yX8_addPlain cX8_addPlain 5 none 2 Y [.ref 8, .int s, .int (nI x), .int (nI y), .int (nI z)] σ (fun r τ => ∃ g f, (r = none ∧ τ = x_st σ [(3, 4, nI (Gn.length + 1))] [(9, g), (4, f)] []) ∧ z_hg f (Gn ++ [(z_rl 0 0 s, [nI x, nI y, nI z])])) := c_X8_addPlain_K l Y σ s x y z hx hy hz Gn hG hG8 f4 h4 hgh g9 h9 _ (fun _ _ h => h)
set_option maxRecDepth 100000 in
set_option maxHeartbeats 200000 in
theorem c_X8_readLattice_K (l : Launch) (Y : x_Y) (σ : x_S) (b : Nat → Int32) (t : Nat) (ht : σ.1 1 1 = nI t) (hb : σ.1 2 = b) (ht8 : t ≤ 8000) (a : Nat) (ha : σ.1 8 3 = nI a) (hat : a ≤ t) (Gn : List x_O) (hG : σ.1 3 4 = nI Gn.length) (hG5 : Gn.length ≤ 1) (f4 : Nat → Int32) (h4 : σ.1 4 = f4) (hgh : z_hg f4 Gn) (g9 : Nat → Int32) (h9 : σ.1 9 = g9) (K : Option Value → x_S → Prop) (hK : ∀ (r : Option Value) (τ : x_S), ((∃ Cs, x_cen (x_lookv b t a) = some Cs ∧ ∃ g f, (r = some (.int (x_z true)) ∧ τ = x_st σ [(8, 3, nI (a + 1)), (3, 4, nI (Gn.length + Cs.length))] [(9, g), (4, f)] []) ∧ z_hg f (Gn ++ Cs.map (fun s => (x_one, s)))) ∨ (x_cen (x_lookv b t a) = none ∧ r = some (.int (x_z false)) ∧ τ = σ)) → K r τ) : x_M l yX8_readLattice cX8_readLattice 1 (some .boolean) 3 Y [.ref 8] σ K := by
  refine x_start (by decide) (Nat.le_of_ble_eq_true rfl) ?_
  intro xp xe xs xm xg xb xt xc C xr xk
  refine x_sig (σ' := x_st σ [(8, 3, nI a), (3, 4, nI Gn.length)] [(9, g9), (4, f4)] []) (x_st_in (And.intro ha (And.intro hG trivial)) (And.intro h9 (And.intro h4 trivial)) trivial) ?_
  refine x_aload_n C (i := 0) dX8_readLattice_0 rfl rfl ?_
  refine x_getR C fr_8_0 kf_X8_17 dX8_readLattice_1 ?_
  refine x_aload_n C (i := 0) dX8_readLattice_4 rfl rfl ?_
  refine x_getI C fi_8_3 kf_X8_25 dX8_readLattice_5 ?_
  refine x_topI (y := nI a) rfl ?_
  have hM := c_X9_byteAt l Y (x_st σ [(8, 3, nI a), (3, 4, nI Gn.length)] [(9, g9), (4, f4)] []) a t b ht hb ht8 (by omega)
  refine x_callV C (as := [.int (nI a)]) (st := []) (hM) kb_X9_byteAt kv_X8_70 dX8_readLattice_8 rfl rfl (Nat.le_of_ble_eq_true rfl) ⟨by decide, by decide⟩ ⟨by decide, by decide⟩ ko_1 ?_
  clear hM
  rintro _ _ ⟨rfl, rfl⟩
  by_cases c11_65 : x_lookv b t a = nI 65
  · skip
    refine x_topI c11_65 ?_
    refine x_tableIn C 99 dX8_readLattice_11 (by decide) (by decide) rfl (by decide) ?_
    refine x_aload_n C (i := 0) dX8_readLattice_99 rfl rfl ?_
    refine x_iconst C (nI 1) dX8_readLattice_100 rfl ?_
    refine x_iconst C (nI 0) dX8_readLattice_101 rfl ?_
    refine x_bipush C (nI 6) dX8_readLattice_102 rfl ?_
    refine x_bipush C (nI 6) dX8_readLattice_104 rfl ?_
    have hM := c_X8_addPlain l Y (x_st σ [(8, 3, nI a), (3, 4, nI Gn.length)] [(9, g9), (4, f4)] []) (nI 1) 0 6 6 (by decide) (by decide) (by decide) (Gn) rfl (by omega) f4 rfl hgh g9 rfl
    refine x_callV C (as := [.int (nI 1), .int (nI 0), .int (nI 6), .int (nI 6)]) (st := []) (hM) kb_X8_addPlain kv_X8_51 dX8_readLattice_106 rfl rfl (Nat.le_of_ble_eq_true rfl) ⟨by decide, by decide⟩ ⟨by decide, by decide⟩ ko_8 ?_
    clear hM
    rintro _ _ ⟨ge1, fe1, ⟨rfl, rfl⟩, hgh1⟩
    refine x_sig (σ' := x_st σ [(8, 3, nI a), (3, 4, nI ((Gn).length + 1))] [(9, ge1), (4, fe1)] []) (x_st_st rfl) ?_
    refine x_sig (σ' := x_st σ [(8, 3, nI a), (3, 4, nI (Gn.length + 1))] [(9, ge1), (4, fe1)] []) (by simp) ?_
    refine x_goto C 209 dX8_readLattice_109 (by decide) ?_
    refine x_aload_n C (i := 0) dX8_readLattice_209 rfl rfl ?_
    refine x_dup C dX8_readLattice_210 rfl ?_
    refine x_getI C fi_8_3 kf_X8_25 dX8_readLattice_211 ?_
    refine x_topI (y := nI a) rfl ?_
    refine x_iconst C (nI 1) dX8_readLattice_214 rfl ?_
    refine x_iaddN C dX8_readLattice_215 ?_
    refine x_putN C fi_8_3 kf_X8_25 rfl rfl dX8_readLattice_216 ?_
    refine x_sig (σ' := x_st σ [(8, 3, nI (a + 1)), (3, 4, nI (Gn.length + 1))] [(9, ge1), (4, fe1)] []) (x_st_u rfl) ?_
    refine x_iconst C (nI 1) dX8_readLattice_219 rfl ?_
    refine x_zret C xr xk dX8_readLattice_220 rfl ?_
    exact hK _ _ (Or.inl ⟨[[nI 0, nI 6, nI 6]], by rw [c11_65]; rfl, _, _, ⟨rfl, rfl⟩, by
      rw [z_rl_1.1] at hgh1
      simpa using hgh1⟩)
  by_cases c11_66 : x_lookv b t a = nI 66
  · skip
    refine x_topI c11_66 ?_
    refine x_tableIn C 112 dX8_readLattice_11 (by decide) (by decide) rfl (by decide) ?_
    refine x_aload_n C (i := 0) dX8_readLattice_112 rfl rfl ?_
    refine x_iconst C (nI 1) dX8_readLattice_113 rfl ?_
    refine x_bipush C (nI 6) dX8_readLattice_114 rfl ?_
    refine x_iconst C (nI 0) dX8_readLattice_116 rfl ?_
    refine x_bipush C (nI 6) dX8_readLattice_117 rfl ?_
    have hM := c_X8_addPlain l Y (x_st σ [(8, 3, nI a), (3, 4, nI Gn.length)] [(9, g9), (4, f4)] []) (nI 1) 6 0 6 (by decide) (by decide) (by decide) (Gn) rfl (by omega) f4 rfl hgh g9 rfl
    refine x_callV C (as := [.int (nI 1), .int (nI 6), .int (nI 0), .int (nI 6)]) (st := []) (hM) kb_X8_addPlain kv_X8_51 dX8_readLattice_119 rfl rfl (Nat.le_of_ble_eq_true rfl) ⟨by decide, by decide⟩ ⟨by decide, by decide⟩ ko_8 ?_
    clear hM
    rintro _ _ ⟨ge1, fe1, ⟨rfl, rfl⟩, hgh1⟩
    refine x_sig (σ' := x_st σ [(8, 3, nI a), (3, 4, nI ((Gn).length + 1))] [(9, ge1), (4, fe1)] []) (x_st_st rfl) ?_
    refine x_sig (σ' := x_st σ [(8, 3, nI a), (3, 4, nI (Gn.length + 1))] [(9, ge1), (4, fe1)] []) (by simp) ?_
    refine x_goto C 209 dX8_readLattice_122 (by decide) ?_
    refine x_aload_n C (i := 0) dX8_readLattice_209 rfl rfl ?_
    refine x_dup C dX8_readLattice_210 rfl ?_
    refine x_getI C fi_8_3 kf_X8_25 dX8_readLattice_211 ?_
    refine x_topI (y := nI a) rfl ?_
    refine x_iconst C (nI 1) dX8_readLattice_214 rfl ?_
    refine x_iaddN C dX8_readLattice_215 ?_
    refine x_putN C fi_8_3 kf_X8_25 rfl rfl dX8_readLattice_216 ?_
    refine x_sig (σ' := x_st σ [(8, 3, nI (a + 1)), (3, 4, nI (Gn.length + 1))] [(9, ge1), (4, fe1)] []) (x_st_u rfl) ?_
    refine x_iconst C (nI 1) dX8_readLattice_219 rfl ?_
    refine x_zret C xr xk dX8_readLattice_220 rfl ?_
    exact hK _ _ (Or.inl ⟨[[nI 6, nI 0, nI 6]], by rw [c11_66]; rfl, _, _, ⟨rfl, rfl⟩, by
      rw [z_rl_1.1] at hgh1
      simpa using hgh1⟩)
  by_cases c11_67 : x_lookv b t a = nI 67
  · skip
    refine x_topI c11_67 ?_
    refine x_tableIn C 125 dX8_readLattice_11 (by decide) (by decide) rfl (by decide) ?_
    refine x_aload_n C (i := 0) dX8_readLattice_125 rfl rfl ?_
    refine x_iconst C (nI 1) dX8_readLattice_126 rfl ?_
    refine x_bipush C (nI 6) dX8_readLattice_127 rfl ?_
    refine x_bipush C (nI 6) dX8_readLattice_129 rfl ?_
    refine x_iconst C (nI 0) dX8_readLattice_131 rfl ?_
    have hM := c_X8_addPlain l Y (x_st σ [(8, 3, nI a), (3, 4, nI Gn.length)] [(9, g9), (4, f4)] []) (nI 1) 6 6 0 (by decide) (by decide) (by decide) (Gn) rfl (by omega) f4 rfl hgh g9 rfl
    refine x_callV C (as := [.int (nI 1), .int (nI 6), .int (nI 6), .int (nI 0)]) (st := []) (hM) kb_X8_addPlain kv_X8_51 dX8_readLattice_132 rfl rfl (Nat.le_of_ble_eq_true rfl) ⟨by decide, by decide⟩ ⟨by decide, by decide⟩ ko_8 ?_
    clear hM
    rintro _ _ ⟨ge1, fe1, ⟨rfl, rfl⟩, hgh1⟩
    refine x_sig (σ' := x_st σ [(8, 3, nI a), (3, 4, nI ((Gn).length + 1))] [(9, ge1), (4, fe1)] []) (x_st_st rfl) ?_
    refine x_sig (σ' := x_st σ [(8, 3, nI a), (3, 4, nI (Gn.length + 1))] [(9, ge1), (4, fe1)] []) (by simp) ?_
    refine x_goto C 209 dX8_readLattice_135 (by decide) ?_
    refine x_aload_n C (i := 0) dX8_readLattice_209 rfl rfl ?_
    refine x_dup C dX8_readLattice_210 rfl ?_
    refine x_getI C fi_8_3 kf_X8_25 dX8_readLattice_211 ?_
    refine x_topI (y := nI a) rfl ?_
    refine x_iconst C (nI 1) dX8_readLattice_214 rfl ?_
    refine x_iaddN C dX8_readLattice_215 ?_
    refine x_putN C fi_8_3 kf_X8_25 rfl rfl dX8_readLattice_216 ?_
    refine x_sig (σ' := x_st σ [(8, 3, nI (a + 1)), (3, 4, nI (Gn.length + 1))] [(9, ge1), (4, fe1)] []) (x_st_u rfl) ?_
    refine x_iconst C (nI 1) dX8_readLattice_219 rfl ?_
    refine x_zret C xr xk dX8_readLattice_220 rfl ?_
    exact hK _ _ (Or.inl ⟨[[nI 6, nI 6, nI 0]], by rw [c11_67]; rfl, _, _, ⟨rfl, rfl⟩, by
      rw [z_rl_1.1] at hgh1
      simpa using hgh1⟩)
  by_cases c11_70 : x_lookv b t a = nI 70
  · skip
    refine x_topI c11_70 ?_
    refine x_tableIn C 174 dX8_readLattice_11 (by decide) (by decide) rfl (by decide) ?_
    refine x_aload_n C (i := 0) dX8_readLattice_174 rfl rfl ?_
    refine x_iconst C (nI 1) dX8_readLattice_175 rfl ?_
    refine x_iconst C (nI 0) dX8_readLattice_176 rfl ?_
    refine x_bipush C (nI 6) dX8_readLattice_177 rfl ?_
    refine x_bipush C (nI 6) dX8_readLattice_179 rfl ?_
    have hM := c_X8_addPlain l Y (x_st σ [(8, 3, nI a), (3, 4, nI Gn.length)] [(9, g9), (4, f4)] []) (nI 1) 0 6 6 (by decide) (by decide) (by decide) (Gn) rfl (by omega) f4 rfl hgh g9 rfl
    refine x_callV C (as := [.int (nI 1), .int (nI 0), .int (nI 6), .int (nI 6)]) (st := []) (hM) kb_X8_addPlain kv_X8_51 dX8_readLattice_181 rfl rfl (Nat.le_of_ble_eq_true rfl) ⟨by decide, by decide⟩ ⟨by decide, by decide⟩ ko_8 ?_
    clear hM
    rintro _ _ ⟨ge1, fe1, ⟨rfl, rfl⟩, hgh1⟩
    refine x_sig (σ' := x_st σ [(8, 3, nI a), (3, 4, nI ((Gn).length + 1))] [(9, ge1), (4, fe1)] []) (x_st_st rfl) ?_
    refine x_sig (σ' := x_st σ [(8, 3, nI a), (3, 4, nI (Gn.length + 1))] [(9, ge1), (4, fe1)] []) (by simp) ?_
    refine x_aload_n C (i := 0) dX8_readLattice_184 rfl rfl ?_
    refine x_iconst C (nI 1) dX8_readLattice_185 rfl ?_
    refine x_bipush C (nI 6) dX8_readLattice_186 rfl ?_
    refine x_iconst C (nI 0) dX8_readLattice_188 rfl ?_
    refine x_bipush C (nI 6) dX8_readLattice_189 rfl ?_
    have hM := c_X8_addPlain l Y (x_st σ [(8, 3, nI a), (3, 4, nI (Gn.length + 1))] [(9, ge1), (4, fe1)] []) (nI 1) 6 0 6 (by decide) (by decide) (by decide) (Gn ++ [(z_rl 0 0 (nI 1), [nI 0, nI 6, nI 6])]) (by simp; rfl) (by simp; omega) fe1 rfl hgh1 ge1 rfl
    refine x_callV C (as := [.int (nI 1), .int (nI 6), .int (nI 0), .int (nI 6)]) (st := []) (hM) kb_X8_addPlain kv_X8_51 dX8_readLattice_191 rfl rfl (Nat.le_of_ble_eq_true rfl) ⟨by decide, by decide⟩ ⟨by decide, by decide⟩ ko_8 ?_
    clear hM
    rintro _ _ ⟨ge2, fe2, ⟨rfl, rfl⟩, hgh2⟩
    refine x_sig (σ' := x_st σ [(8, 3, nI a), (3, 4, nI ((Gn ++ [(z_rl 0 0 (nI 1), [nI 0, nI 6, nI 6])]).length + 1))] [(9, ge2), (4, fe2)] []) (x_st_st rfl) ?_
    refine x_sig (σ' := x_st σ [(8, 3, nI a), (3, 4, nI (Gn.length + 2))] [(9, ge2), (4, fe2)] []) (by simp) ?_
    refine x_aload_n C (i := 0) dX8_readLattice_194 rfl rfl ?_
    refine x_iconst C (nI 1) dX8_readLattice_195 rfl ?_
    refine x_bipush C (nI 6) dX8_readLattice_196 rfl ?_
    refine x_bipush C (nI 6) dX8_readLattice_198 rfl ?_
    refine x_iconst C (nI 0) dX8_readLattice_200 rfl ?_
    have hM := c_X8_addPlain l Y (x_st σ [(8, 3, nI a), (3, 4, nI (Gn.length + 2))] [(9, ge2), (4, fe2)] []) (nI 1) 6 6 0 (by decide) (by decide) (by decide) (Gn ++ [(z_rl 0 0 (nI 1), [nI 0, nI 6, nI 6])] ++ [(z_rl 0 0 (nI 1), [nI 6, nI 0, nI 6])]) (by simp; rfl) (by simp; omega) fe2 rfl hgh2 ge2 rfl
    refine x_callV C (as := [.int (nI 1), .int (nI 6), .int (nI 6), .int (nI 0)]) (st := []) (hM) kb_X8_addPlain kv_X8_51 dX8_readLattice_201 rfl rfl (Nat.le_of_ble_eq_true rfl) ⟨by decide, by decide⟩ ⟨by decide, by decide⟩ ko_8 ?_
    clear hM
    rintro _ _ ⟨ge3, fe3, ⟨rfl, rfl⟩, hgh3⟩
    refine x_sig (σ' := x_st σ [(8, 3, nI a), (3, 4, nI ((Gn ++ [(z_rl 0 0 (nI 1), [nI 0, nI 6, nI 6])] ++ [(z_rl 0 0 (nI 1), [nI 6, nI 0, nI 6])]).length + 1))] [(9, ge3), (4, fe3)] []) (x_st_st rfl) ?_
    refine x_sig (σ' := x_st σ [(8, 3, nI a), (3, 4, nI (Gn.length + 3))] [(9, ge3), (4, fe3)] []) (by simp) ?_
    refine x_goto C 209 dX8_readLattice_204 (by decide) ?_
    refine x_aload_n C (i := 0) dX8_readLattice_209 rfl rfl ?_
    refine x_dup C dX8_readLattice_210 rfl ?_
    refine x_getI C fi_8_3 kf_X8_25 dX8_readLattice_211 ?_
    refine x_topI (y := nI a) rfl ?_
    refine x_iconst C (nI 1) dX8_readLattice_214 rfl ?_
    refine x_iaddN C dX8_readLattice_215 ?_
    refine x_putN C fi_8_3 kf_X8_25 rfl rfl dX8_readLattice_216 ?_
    refine x_sig (σ' := x_st σ [(8, 3, nI (a + 1)), (3, 4, nI (Gn.length + 3))] [(9, ge3), (4, fe3)] []) (x_st_u rfl) ?_
    refine x_iconst C (nI 1) dX8_readLattice_219 rfl ?_
    refine x_zret C xr xk dX8_readLattice_220 rfl ?_
    exact hK _ _ (Or.inl ⟨[[nI 0, nI 6, nI 6], [nI 6, nI 0, nI 6], [nI 6, nI 6, nI 0]], by rw [c11_70]; rfl, _, _, ⟨rfl, rfl⟩, by
      rw [z_rl_1.1] at hgh3
      simpa using hgh3⟩)
  by_cases c11_73 : x_lookv b t a = nI 73
  · skip
    refine x_topI c11_73 ?_
    refine x_tableIn C 138 dX8_readLattice_11 (by decide) (by decide) rfl (by decide) ?_
    refine x_aload_n C (i := 0) dX8_readLattice_138 rfl rfl ?_
    refine x_iconst C (nI 1) dX8_readLattice_139 rfl ?_
    refine x_bipush C (nI 6) dX8_readLattice_140 rfl ?_
    refine x_bipush C (nI 6) dX8_readLattice_142 rfl ?_
    refine x_bipush C (nI 6) dX8_readLattice_144 rfl ?_
    have hM := c_X8_addPlain l Y (x_st σ [(8, 3, nI a), (3, 4, nI Gn.length)] [(9, g9), (4, f4)] []) (nI 1) 6 6 6 (by decide) (by decide) (by decide) (Gn) rfl (by omega) f4 rfl hgh g9 rfl
    refine x_callV C (as := [.int (nI 1), .int (nI 6), .int (nI 6), .int (nI 6)]) (st := []) (hM) kb_X8_addPlain kv_X8_51 dX8_readLattice_146 rfl rfl (Nat.le_of_ble_eq_true rfl) ⟨by decide, by decide⟩ ⟨by decide, by decide⟩ ko_8 ?_
    clear hM
    rintro _ _ ⟨ge1, fe1, ⟨rfl, rfl⟩, hgh1⟩
    refine x_sig (σ' := x_st σ [(8, 3, nI a), (3, 4, nI ((Gn).length + 1))] [(9, ge1), (4, fe1)] []) (x_st_st rfl) ?_
    refine x_sig (σ' := x_st σ [(8, 3, nI a), (3, 4, nI (Gn.length + 1))] [(9, ge1), (4, fe1)] []) (by simp) ?_
    refine x_goto C 209 dX8_readLattice_149 (by decide) ?_
    refine x_aload_n C (i := 0) dX8_readLattice_209 rfl rfl ?_
    refine x_dup C dX8_readLattice_210 rfl ?_
    refine x_getI C fi_8_3 kf_X8_25 dX8_readLattice_211 ?_
    refine x_topI (y := nI a) rfl ?_
    refine x_iconst C (nI 1) dX8_readLattice_214 rfl ?_
    refine x_iaddN C dX8_readLattice_215 ?_
    refine x_putN C fi_8_3 kf_X8_25 rfl rfl dX8_readLattice_216 ?_
    refine x_sig (σ' := x_st σ [(8, 3, nI (a + 1)), (3, 4, nI (Gn.length + 1))] [(9, ge1), (4, fe1)] []) (x_st_u rfl) ?_
    refine x_iconst C (nI 1) dX8_readLattice_219 rfl ?_
    refine x_zret C xr xk dX8_readLattice_220 rfl ?_
    exact hK _ _ (Or.inl ⟨[[nI 6, nI 6, nI 6]], by rw [c11_73]; rfl, _, _, ⟨rfl, rfl⟩, by
      rw [z_rl_1.1] at hgh1
      simpa using hgh1⟩)
  by_cases c11_80 : x_lookv b t a = nI 80
  · skip
    refine x_topI c11_80 ?_
    refine x_tableIn C 96 dX8_readLattice_11 (by decide) (by decide) rfl (by decide) ?_
    refine x_goto C 209 dX8_readLattice_96 (by decide) ?_
    refine x_aload_n C (i := 0) dX8_readLattice_209 rfl rfl ?_
    refine x_dup C dX8_readLattice_210 rfl ?_
    refine x_getI C fi_8_3 kf_X8_25 dX8_readLattice_211 ?_
    refine x_topI (y := nI a) rfl ?_
    refine x_iconst C (nI 1) dX8_readLattice_214 rfl ?_
    refine x_iaddN C dX8_readLattice_215 ?_
    refine x_putN C fi_8_3 kf_X8_25 rfl rfl dX8_readLattice_216 ?_
    refine x_sig (σ' := x_st σ [(8, 3, nI (a + 1)), (3, 4, nI Gn.length)] [(9, g9), (4, f4)] []) (x_st_u rfl) ?_
    refine x_iconst C (nI 1) dX8_readLattice_219 rfl ?_
    refine x_zret C xr xk dX8_readLattice_220 rfl ?_
    exact hK _ _ (Or.inl ⟨[], by rw [c11_80]; rfl, _, _, ⟨rfl, rfl⟩, by rw [List.map_nil, List.append_nil]; exact hgh⟩)
  by_cases c11_82 : x_lookv b t a = nI 82
  · skip
    refine x_topI c11_82 ?_
    refine x_tableIn C 152 dX8_readLattice_11 (by decide) (by decide) rfl (by decide) ?_
    refine x_aload_n C (i := 0) dX8_readLattice_152 rfl rfl ?_
    refine x_iconst C (nI 1) dX8_readLattice_153 rfl ?_
    refine x_bipush C (nI 8) dX8_readLattice_154 rfl ?_
    refine x_iconst C (nI 4) dX8_readLattice_156 rfl ?_
    refine x_iconst C (nI 4) dX8_readLattice_157 rfl ?_
    have hM := c_X8_addPlain l Y (x_st σ [(8, 3, nI a), (3, 4, nI Gn.length)] [(9, g9), (4, f4)] []) (nI 1) 8 4 4 (by decide) (by decide) (by decide) (Gn) rfl (by omega) f4 rfl hgh g9 rfl
    refine x_callV C (as := [.int (nI 1), .int (nI 8), .int (nI 4), .int (nI 4)]) (st := []) (hM) kb_X8_addPlain kv_X8_51 dX8_readLattice_158 rfl rfl (Nat.le_of_ble_eq_true rfl) ⟨by decide, by decide⟩ ⟨by decide, by decide⟩ ko_8 ?_
    clear hM
    rintro _ _ ⟨ge1, fe1, ⟨rfl, rfl⟩, hgh1⟩
    refine x_sig (σ' := x_st σ [(8, 3, nI a), (3, 4, nI ((Gn).length + 1))] [(9, ge1), (4, fe1)] []) (x_st_st rfl) ?_
    refine x_sig (σ' := x_st σ [(8, 3, nI a), (3, 4, nI (Gn.length + 1))] [(9, ge1), (4, fe1)] []) (by simp) ?_
    refine x_aload_n C (i := 0) dX8_readLattice_161 rfl rfl ?_
    refine x_iconst C (nI 1) dX8_readLattice_162 rfl ?_
    refine x_iconst C (nI 4) dX8_readLattice_163 rfl ?_
    refine x_bipush C (nI 8) dX8_readLattice_164 rfl ?_
    refine x_bipush C (nI 8) dX8_readLattice_166 rfl ?_
    have hM := c_X8_addPlain l Y (x_st σ [(8, 3, nI a), (3, 4, nI (Gn.length + 1))] [(9, ge1), (4, fe1)] []) (nI 1) 4 8 8 (by decide) (by decide) (by decide) (Gn ++ [(z_rl 0 0 (nI 1), [nI 8, nI 4, nI 4])]) (by simp; rfl) (by simp; omega) fe1 rfl hgh1 ge1 rfl
    refine x_callV C (as := [.int (nI 1), .int (nI 4), .int (nI 8), .int (nI 8)]) (st := []) (hM) kb_X8_addPlain kv_X8_51 dX8_readLattice_168 rfl rfl (Nat.le_of_ble_eq_true rfl) ⟨by decide, by decide⟩ ⟨by decide, by decide⟩ ko_8 ?_
    clear hM
    rintro _ _ ⟨ge2, fe2, ⟨rfl, rfl⟩, hgh2⟩
    refine x_sig (σ' := x_st σ [(8, 3, nI a), (3, 4, nI ((Gn ++ [(z_rl 0 0 (nI 1), [nI 8, nI 4, nI 4])]).length + 1))] [(9, ge2), (4, fe2)] []) (x_st_st rfl) ?_
    refine x_sig (σ' := x_st σ [(8, 3, nI a), (3, 4, nI (Gn.length + 2))] [(9, ge2), (4, fe2)] []) (by simp) ?_
    refine x_goto C 209 dX8_readLattice_171 (by decide) ?_
    refine x_aload_n C (i := 0) dX8_readLattice_209 rfl rfl ?_
    refine x_dup C dX8_readLattice_210 rfl ?_
    refine x_getI C fi_8_3 kf_X8_25 dX8_readLattice_211 ?_
    refine x_topI (y := nI a) rfl ?_
    refine x_iconst C (nI 1) dX8_readLattice_214 rfl ?_
    refine x_iaddN C dX8_readLattice_215 ?_
    refine x_putN C fi_8_3 kf_X8_25 rfl rfl dX8_readLattice_216 ?_
    refine x_sig (σ' := x_st σ [(8, 3, nI (a + 1)), (3, 4, nI (Gn.length + 2))] [(9, ge2), (4, fe2)] []) (x_st_u rfl) ?_
    refine x_iconst C (nI 1) dX8_readLattice_219 rfl ?_
    refine x_zret C xr xk dX8_readLattice_220 rfl ?_
    exact hK _ _ (Or.inl ⟨[[nI 8, nI 4, nI 4], [nI 4, nI 8, nI 8]], by rw [c11_82]; rfl, _, _, ⟨rfl, rfl⟩, by
      rw [z_rl_1.1] at hgh2
      simpa using hgh2⟩)
  refine x_tdef C 207 dX8_readLattice_11 (fun k9 hk9 hx9 => ?_) (by decide) ?_
  · have hk8 : k9 = 0 ∨ k9 = 1 ∨ k9 = 2 ∨ k9 = 3 ∨ k9 = 4 ∨ k9 = 5 ∨ k9 = 6 ∨ k9 = 7 ∨ k9 = 8 ∨ k9 = 9 ∨ k9 = 10 ∨ k9 = 11 ∨ k9 = 12 ∨ k9 = 13 ∨ k9 = 14 ∨ k9 = 15 ∨ k9 = 16 ∨ k9 = 17 := by omega
    rcases hk8 with rfl | rfl | rfl | rfl | rfl | rfl | rfl | rfl | rfl | rfl | rfl | rfl | rfl | rfl | rfl | rfl | rfl | rfl
    · exact absurd (x_ofInt (n := 65) hx9 (by decide)) c11_65
    · exact absurd (x_ofInt (n := 66) hx9 (by decide)) c11_66
    · exact absurd (x_ofInt (n := 67) hx9 (by decide)) c11_67
    · rfl
    · rfl
    · exact absurd (x_ofInt (n := 70) hx9 (by decide)) c11_70
    · rfl
    · rfl
    · exact absurd (x_ofInt (n := 73) hx9 (by decide)) c11_73
    · rfl
    · rfl
    · rfl
    · rfl
    · rfl
    · rfl
    · exact absurd (x_ofInt (n := 80) hx9 (by decide)) c11_80
    · rfl
    · exact absurd (x_ofInt (n := 82) hx9 (by decide)) c11_82
  refine x_iconst C (nI 0) dX8_readLattice_207 rfl ?_
  refine x_zret C xr xk dX8_readLattice_208 rfl ?_
  exact hK _ _ (Or.inr ⟨by unfold x_cen; rw [if_neg c11_65, if_neg c11_66, if_neg c11_67, if_neg c11_70, if_neg c11_73, if_neg c11_80, if_neg c11_82], rfl, (x_st_in (σ := σ) (F := [(8, 3, nI a), (3, 4, nI Gn.length)]) (I := [(9, g9), (4, f4)]) (G := []) (And.intro ha (And.intro hG trivial)) (And.intro h9 (And.intro h4 trivial)) trivial).symm⟩)
theorem c_X8_readLattice (l : Launch) (Y : x_Y) (σ : x_S) (b : Nat → Int32) (t : Nat) (ht : σ.1 1 1 = nI t) (hb : σ.1 2 = b) (ht8 : t ≤ 8000) (a : Nat) (ha : σ.1 8 3 = nI a) (hat : a ≤ t) (Gn : List x_O) (hG : σ.1 3 4 = nI Gn.length) (hG5 : Gn.length ≤ 1) (f4 : Nat → Int32) (h4 : σ.1 4 = f4) (hgh : z_hg f4 Gn) (g9 : Nat → Int32) (h9 : σ.1 9 = g9) : x_M l yX8_readLattice cX8_readLattice 1 (some .boolean) 3 Y [.ref 8] σ (fun r τ => (∃ Cs, x_cen (x_lookv b t a) = some Cs ∧ ∃ g f, (r = some (.int (x_z true)) ∧ τ = x_st σ [(8, 3, nI (a + 1)), (3, 4, nI (Gn.length + Cs.length))] [(9, g), (4, f)] []) ∧ z_hg f (Gn ++ Cs.map (fun s => (x_one, s)))) ∨ (x_cen (x_lookv b t a) = none ∧ r = some (.int (x_z false)) ∧ τ = σ)) := c_X8_readLattice_K l Y σ b t ht hb ht8 a ha hat Gn hG hG5 f4 h4 hgh g9 h9 _ (fun _ _ h => h)
set_option maxRecDepth 100000 in
set_option maxHeartbeats 600000 in
theorem c_X8_readTape_K (l : Launch) (Y : x_Y) (σ : x_S) (b : Nat → Int32) (t : Nat) (ht : σ.1 1 1 = nI t) (hb : σ.1 2 = b) (ht8 : t ≤ 8000) (K : Option Value → x_S → Prop) (hK : ∀ (r : Option Value) (τ : x_S), (∃ su fi be Gn g f, (r = some (.int (x_z (x_sym b t).1)) ∧ τ = x_st σ [(8, 3, nI (x_sym b t).2.1), (8, 4, nI su), (8, 5, nI fi), (8, 6, nI be), (3, 4, nI Gn.length)] [(9, g), (4, f)] []) ∧ z_hg f Gn ∧ Gn.length ≤ 8 ∧ Gn = x_symG b t) → K r τ) : x_M l yX8_readTape cX8_readTape 3 (some .boolean) 5 Y [.ref 8] σ K := by
  refine x_start (by decide) (Nat.le_of_ble_eq_true rfl) ?_
  intro xp xe xs xm xg xb xt xc C xr xk
  refine x_sig (σ' := x_st σ [(8, 3, σ.1 8 3), (8, 4, σ.1 8 4), (8, 5, σ.1 8 5), (8, 6, σ.1 8 6), (3, 4, σ.1 3 4)] [(9, σ.1 9), (4, σ.1 4)] []) (x_st_in (And.intro rfl (And.intro rfl (And.intro rfl (And.intro rfl (And.intro rfl trivial))))) (And.intro rfl (And.intro rfl trivial)) trivial) ?_
  refine x_aload_n C (i := 0) dX8_readTape_0 rfl rfl ?_
  refine x_iconst C (nI 0) dX8_readTape_1 rfl ?_
  refine x_putN C fi_8_3 kf_X8_25 rfl rfl dX8_readTape_2 ?_
  refine x_sig (σ' := x_st σ [(8, 3, nI 0), (8, 4, σ.1 8 4), (8, 5, σ.1 8 5), (8, 6, σ.1 8 6), (3, 4, σ.1 3 4)] [(9, σ.1 9), (4, σ.1 4)] []) (x_st_u rfl) ?_
  refine x_aload_n C (i := 0) dX8_readTape_5 rfl rfl ?_
  refine x_iconst C (nI 0) dX8_readTape_6 rfl ?_
  refine x_putN C fi_8_4 kf_X8_29 rfl rfl dX8_readTape_7 ?_
  refine x_sig (σ' := x_st σ [(8, 3, nI 0), (8, 4, nI 0), (8, 5, σ.1 8 5), (8, 6, σ.1 8 6), (3, 4, σ.1 3 4)] [(9, σ.1 9), (4, σ.1 4)] []) (x_st_u rfl) ?_
  refine x_aload_n C (i := 0) dX8_readTape_10 rfl rfl ?_
  refine x_iconst C (nI 0) dX8_readTape_11 rfl ?_
  refine x_putN C fi_8_5 kf_X8_32 rfl rfl dX8_readTape_12 ?_
  refine x_sig (σ' := x_st σ [(8, 3, nI 0), (8, 4, nI 0), (8, 5, nI 0), (8, 6, σ.1 8 6), (3, 4, σ.1 3 4)] [(9, σ.1 9), (4, σ.1 4)] []) (x_st_u rfl) ?_
  refine x_aload_n C (i := 0) dX8_readTape_15 rfl rfl ?_
  refine x_iconst C (nI 2) dX8_readTape_16 rfl ?_
  refine x_putN C fi_8_6 kf_X8_35 rfl rfl dX8_readTape_17 ?_
  refine x_sig (σ' := x_st σ [(8, 3, nI 0), (8, 4, nI 0), (8, 5, nI 0), (8, 6, nI 2), (3, 4, σ.1 3 4)] [(9, σ.1 9), (4, σ.1 4)] []) (x_st_u rfl) ?_
  refine x_aload_n C (i := 0) dX8_readTape_20 rfl rfl ?_
  refine x_getR C fr_8_1 kf_X8_21 dX8_readTape_21 ?_
  have hM := c_X2_clear l Y (x_st σ [(8, 3, nI 0), (8, 4, nI 0), (8, 5, nI 0), (8, 6, nI 2), (3, 4, σ.1 3 4)] [(9, σ.1 9), (4, σ.1 4)] [])
  refine x_callV C (as := []) (st := []) (hM) kb_X2_clear kv_X8_38 dX8_readTape_24 rfl rfl (Nat.le_of_ble_eq_true rfl) ⟨by decide, by decide⟩ ⟨by decide, by decide⟩ ko_3 ?_
  clear hM
  rintro _ _ ⟨rfl, rfl⟩
  refine x_sig (σ' := x_st σ [(8, 3, nI 0), (8, 4, nI 0), (8, 5, nI 0), (8, 6, nI 2), (3, 4, nI 0)] [(9, σ.1 9), (4, σ.1 4)] []) (x_st_u rfl) ?_
  refine x_aload_n C (i := 0) dX8_readTape_27 rfl rfl ?_
  have hM := c_X8_skipBlanks l Y (x_st σ [(8, 3, nI 0), (8, 4, nI 0), (8, 5, nI 0), (8, 6, nI 2), (3, 4, nI 0)] [(9, σ.1 9), (4, σ.1 4)] []) b t ht hb ht8 0 rfl (Nat.zero_le _)
  refine x_callV C (as := []) (st := []) (hM) kb_X8_skipBlanks kv_X8_43 dX8_readTape_28 rfl rfl (Nat.le_of_ble_eq_true rfl) ⟨by decide, by decide⟩ ⟨by decide, by decide⟩ ko_8 ?_
  clear hM
  rintro _ _ ⟨rfl, rfl⟩
  refine x_sig (σ' := x_st σ [(8, 3, nI (x_blank b t 0)), (8, 4, nI 0), (8, 5, nI 0), (8, 6, nI 2), (3, 4, nI 0)] [(9, σ.1 9), (4, σ.1 4)] []) (x_st_st rfl) ?_
  refine x_pop C dX8_readTape_31 rfl ?_
  have lp49 : ∀ (a0 : Nat) (Gn : List x_O) (gx : Nat → Int32) (fx : Nat → Int32), (a0 = x_sa0 b t) → (a0 ≤ t) → (List.map (fun q => q.1) Gn = (x_sg0 b t).1) → (List.map (fun q => q.2) Gn = (x_sg0 b t).2) → (Gn.length ≤ 1) → (z_hg fx Gn) → ∀ L : x_Lo, L.1 0 = some (.ref 8) → x_W xp l xe (x_rm 5) xs xm xg xb xt xc 3 Y 0 0 (MQ xb (x_Q Y K) xg xs 0 0 (x_A Y)) 49 L [] (x_st σ [(8, 3, nI a0), (8, 4, nI 0), (8, 5, nI 0), (8, 6, nI 2), (3, 4, nI Gn.length)] [(9, gx), (4, fx)] []) := by
    intro a0 Gn gx fx ha0 ha0t hG1 hG2 hGl hgx L xl0
    refine x_aload_n C (i := 0) dX8_readTape_49 rfl xl0 ?_
    have hM := c_X8_readLattice l Y (x_st σ [(8, 3, nI a0), (8, 4, nI 0), (8, 5, nI 0), (8, 6, nI 2), (3, 4, nI Gn.length)] [(9, gx), (4, fx)] []) b t ht hb ht8 a0 rfl ha0t Gn rfl hGl fx rfl hgx gx rfl
    refine x_callV C (as := []) (st := []) (hM) kb_X8_readLattice kv_X8_55 dX8_readTape_50 rfl rfl (Nat.le_of_ble_eq_true rfl) ⟨by decide, by decide⟩ ⟨by decide, by decide⟩ ko_8 ?_
    clear hM
    rintro _ _ (⟨Cs, hcen, gl, fl, ⟨rfl, rfl⟩, hgl⟩ | ⟨hcen, rfl, rfl⟩)
    · skip
      refine x_sig (σ' := x_st σ [(8, 3, nI (a0 + 1)), (8, 4, nI 0), (8, 5, nI 0), (8, 6, nI 2), (3, 4, nI (Gn.length + Cs.length))] [(9, gl), (4, fl)] []) (x_st_st rfl) ?_
      refine x_if_neZ C 58 dX8_readTape_53 (by decide) (fun c53 => ?_) (fun c53 => absurd c53 (by decide))
      refine x_iconst C (nI 0) dX8_readTape_58 rfl ?_
      refine x_istore_n C (i := 1) dX8_readTape_59 rfl (by decide) ?_
      have lp60 : ∀ (m60 : Nat) (i : Nat) (a : Nat) (su : Nat) (fi : Nat) (be : Nat) (Gn : List x_O) (g : Nat → Int32) (f : Nat → Int32), (4 - i) = m60 → (i ≤ 4) → (a ≤ t) → (su ≤ i) → (fi ≤ 6) → (0 < su → fi = 2 ∨ fi = 3 ∨ fi = 4 ∨ fi = 6) → (be < 3) → (z_hg f Gn) → (Gn.length ≤ 4 + i) → (x_syl b t (5 - i) i a su fi be (List.map (fun q => q.1) Gn) (List.map (fun q => q.2) Gn) = x_sym b t) → ∀ L : x_Lo, L.1 0 = some (.ref 8) → L.1 1 = some (.int (nI i)) → x_W xp l xe (x_rm 5) xs xm xg xb xt xc 3 Y 0 0 (MQ xb (x_Q Y K) xg xs 0 0 (x_A Y)) 60 L [] (x_st σ [(8, 3, nI a), (8, 4, nI su), (8, 5, nI fi), (8, 6, nI be), (3, 4, nI Gn.length)] [(9, g), (4, f)] []) := by
        intro m60
        induction m60 using Nat.strongRecOn with
        | _ m60 ih60 =>
          intro i a su fi be Gn g f hm60 hi hat hsu9 hfi9 hsf hbe9 hgf hGn8 hR L xl0 xl1
          refine x_iload_n C (i := 1) dX8_readTape_60 rfl xl1 ?_
          refine x_iconst C (nI 4) dX8_readTape_61 rfl ?_
          refine x_icmp_geN C 102 dX8_readTape_62 (by decide) (by omega) (by omega) (fun c62 => ?_) (fun c62 => ?_)
          · skip
            have c62' := Nat.not_lt.mpr c62
            obtain rfl : i = 4 := by omega
            have hbl := x_blank_le b t a hat
            have hBt := hbl.2
            refine x_aload_n C (i := 0) dX8_readTape_102 rfl xl0 ?_
            have hM := c_X8_skipBlanks l Y (x_st σ [(8, 3, nI a), (8, 4, nI su), (8, 5, nI fi), (8, 6, nI be), (3, 4, nI Gn.length)] [(9, g), (4, f)] []) b t ht hb ht8 a rfl hat
            refine x_callV C (as := []) (st := []) (hM) kb_X8_skipBlanks kv_X8_43 dX8_readTape_103 rfl rfl (Nat.le_of_ble_eq_true rfl) ⟨by decide, by decide⟩ ⟨by decide, by decide⟩ ko_8 ?_
            clear hM
            rintro _ _ ⟨rfl, rfl⟩
            refine x_sig (σ' := x_st σ [(8, 3, nI (x_blank b t a)), (8, 4, nI su), (8, 5, nI fi), (8, 6, nI be), (3, 4, nI Gn.length)] [(9, g), (4, f)] []) (x_st_st rfl) ?_
            refine x_pop C dX8_readTape_106 rfl ?_
            refine x_aload_n C (i := 0) dX8_readTape_107 rfl xl0 ?_
            have hM := c_X8_isAtEnd l Y (x_st σ [(8, 3, nI (x_blank b t a)), (8, 4, nI su), (8, 5, nI fi), (8, 6, nI be), (3, 4, nI Gn.length)] [(9, g), (4, f)] []) b t ht hb ht8 (x_blank b t a) rfl hBt
            refine x_callV C (as := []) (st := []) (hM) kb_X8_isAtEnd kv_X8_59 dX8_readTape_108 rfl rfl (Nat.le_of_ble_eq_true rfl) ⟨by decide, by decide⟩ ⟨by decide, by decide⟩ ko_8 ?_
            clear hM
            rintro _ _ ⟨rfl, rfl⟩
            refine x_zret C xr xk dX8_readTape_111 (x_z_n _) ?_
            exact hK _ _ (by
              obtain ⟨e1, e2, e3⟩ := z_symG (ok := decide (t ≤ x_blank b t a)) (p := x_blank b t a) (Gn := Gn) (hR.symm.trans (z_syl_4 hat))
              rw [e1, e2]
              exact ⟨_, _, _, _, _, _, ⟨rfl, rfl⟩, hgf, by omega, e3⟩)
          · skip
            have c62' := Nat.not_le.mpr c62
            have hbl := x_blank_le b t a hat
            have hBt := hbl.2
            refine x_aload_n C (i := 0) dX8_readTape_65 rfl xl0 ?_
            have hM := c_X8_skipBlanks l Y (x_st σ [(8, 3, nI a), (8, 4, nI su), (8, 5, nI fi), (8, 6, nI be), (3, 4, nI Gn.length)] [(9, g), (4, f)] []) b t ht hb ht8 a rfl hat
            refine x_callV C (as := []) (st := []) (hM) kb_X8_skipBlanks kv_X8_43 dX8_readTape_66 rfl rfl (Nat.le_of_ble_eq_true rfl) ⟨by decide, by decide⟩ ⟨by decide, by decide⟩ ko_8 ?_
            clear hM
            rintro _ _ ⟨rfl, rfl⟩
            refine x_sig (σ' := x_st σ [(8, 3, nI (x_blank b t a)), (8, 4, nI su), (8, 5, nI fi), (8, 6, nI be), (3, 4, nI Gn.length)] [(9, g), (4, f)] []) (x_st_st rfl) ?_
            refine x_istore_n C (i := 2) dX8_readTape_69 rfl (by decide) ?_
            refine x_iload_n C (i := 1) dX8_readTape_70 rfl xl1 ?_
            refine x_if_leN C 83 dX8_readTape_71 (by decide) (by omega) (fun c71 => ?_) (fun c71 => ?_)
            · skip
              have hnt : i = 0 ∨ ¬ x_blank b t a = t := Or.inl (by omega)
              refine x_iload_n C (i := 2) dX8_readTape_83 rfl rfl ?_
              have hbl9 : x_blank b t a - a < 2 ^ 31 := by omega
              refine x_if_eqN C 94 dX8_readTape_84 (by decide) (by omega) (fun c84 => ?_) (fun c84 => ?_)
              · skip
                have heq : x_blank b t a = a := by omega
                refine x_iconst C (nI 0) dX8_readTape_94 rfl ?_
                refine x_zret C xr xk dX8_readTape_95 rfl ?_
                exact hK _ _ (by
                  obtain ⟨e1, e2, e3⟩ := z_symG (ok := false) (p := x_blank b t a) (Gn := Gn) (hR.symm.trans (by rw [show 5 - i = (4 - i) + 1 by omega]; exact (z_syl_nb heq (by rw [heq] at hnt; exact hnt)).trans (by rw [heq])))
                  rw [e1, e2]
                  exact ⟨_, _, _, _, _, _, ⟨rfl, rfl⟩, hgf, by omega, e3⟩)
              · skip
                have hne : ¬ x_blank b t a = a := by omega
                refine x_aload_n C (i := 0) dX8_readTape_87 rfl xl0 ?_
                have hM := c_X8_readMatrix l Y (x_st σ [(8, 3, nI (x_blank b t a)), (8, 4, nI su), (8, 5, nI fi), (8, 6, nI be), (3, 4, nI Gn.length)] [(9, g), (4, f)] []) b t ht hb ht8 (x_blank b t a) rfl hBt su fi rfl rfl (by omega) hfi9 hsf be rfl hbe9 Gn rfl (by omega) f rfl hgf g rfl
                refine x_callV C (as := []) (st := []) (hM) kb_X8_readMatrix kv_X8_62 dX8_readTape_88 rfl rfl (Nat.le_of_ble_eq_true rfl) ⟨by decide, by decide⟩ ⟨by decide, by decide⟩ ko_8 ?_
                clear hM
                rintro _ _ (⟨hok, gm, fm, ⟨rfl, rfl⟩, hgm⟩ | ⟨hok, rfl, rfl⟩)
                · skip
                  refine x_sig (σ' := x_st σ [(8, 3, nI ((x_msf b t (x_blank b t a) su fi).1)), (8, 4, nI (if 1 < (x_mn b t (x_blank b t a)) then su + 1 else su)), (8, 5, nI (if 1 < (x_mn b t (x_blank b t a)) ∧ su = 0 then (x_mn b t (x_blank b t a)) else fi)), (8, 6, nI (if 1 < (x_mn b t (x_blank b t a)) ∧ x_man b t (x_blank b t a) su fi < 3 then x_man b t (x_blank b t a) su fi else be)), (3, 4, nI (Gn.length + 1))] [(9, gm), (4, fm)] []) (x_st_st rfl) ?_
                  refine x_if_neZ C 96 dX8_readTape_91 (by decide) (fun c91 => ?_) (fun c91 => absurd c91 (by decide))
                  have hmn := x_ord_le (x_lookv b t (x_ma1 b t (x_blank b t a)))
                  change 1 ≤ x_mn b t (x_blank b t a) ∧ x_mn b t (x_blank b t a) ≤ 6 ∧ x_mn b t (x_blank b t a) ≠ 5 at hmn
                  have hsf2 : 0 < (if 1 < x_mn b t (x_blank b t a) then su + 1 else su) → (if 1 < x_mn b t (x_blank b t a) ∧ su = 0 then x_mn b t (x_blank b t a) else fi) = 2 ∨ (if 1 < x_mn b t (x_blank b t a) ∧ su = 0 then x_mn b t (x_blank b t a) else fi) = 3 ∨ (if 1 < x_mn b t (x_blank b t a) ∧ su = 0 then x_mn b t (x_blank b t a) else fi) = 4 ∨ (if 1 < x_mn b t (x_blank b t a) ∧ su = 0 then x_mn b t (x_blank b t a) else fi) = 6 := by
                    intro h9
                    by_cases h8 : 1 < x_mn b t (x_blank b t a) ∧ su = 0
                    · rw [if_pos h8]; omega
                    · rw [if_neg h8]
                      apply hsf
                      split at h9 <;> omega
                  refine x_iincN C (i := 1) (b := 1) dX8_readTape_96 xl1 rfl (by decide) ?_
                  refine x_goto C 60 dX8_readTape_99 (by decide) ?_
                  refine x_sig (σ' := x_st σ [(8, 3, nI ((x_msf b t (x_blank b t a) su fi).1)), (8, 4, nI (if 1 < (x_mn b t (x_blank b t a)) then su + 1 else su)), (8, 5, nI (if 1 < (x_mn b t (x_blank b t a)) ∧ su = 0 then (x_mn b t (x_blank b t a)) else fi)), (8, 6, nI (if 1 < (x_mn b t (x_blank b t a)) ∧ x_man b t (x_blank b t a) su fi < 3 then x_man b t (x_blank b t a) su fi else be)), (3, 4, nI (Gn ++ [(x_mrot b t (x_blank b t a) su fi be, [nI (x_msf b t (x_blank b t a) su fi).2.1, nI (x_msf b t (x_blank b t a) su fi).2.2.1, nI (x_msf b t (x_blank b t a) su fi).2.2.2])]).length)] [(9, gm), (4, fm)] []) (by rw [List.length_append]; rfl) ?_
                  exact ih60 _ (by omega) (i + 1) ((x_msf b t (x_blank b t a) su fi).1) (if 1 < (x_mn b t (x_blank b t a)) then su + 1 else su) (if 1 < (x_mn b t (x_blank b t a)) ∧ su = 0 then (x_mn b t (x_blank b t a)) else fi) (if 1 < (x_mn b t (x_blank b t a)) ∧ x_man b t (x_blank b t a) su fi < 3 then x_man b t (x_blank b t a) su fi else be) (Gn ++ [(x_mrot b t (x_blank b t a) su fi be, [nI (x_msf b t (x_blank b t a) su fi).2.1, nI (x_msf b t (x_blank b t a) su fi).2.2.1, nI (x_msf b t (x_blank b t a) su fi).2.2.2])]) gm fm rfl (by omega) (x_msf_le hok) (by split <;> omega) (by split <;> omega) hsf2 (by split <;> omega) hgm (by rw [List.length_append]; show Gn.length + 1 ≤ _; omega) (by rw [← hR, List.map_append, List.map_append, show 5 - i = (5 - (i + 1)) + 1 by omega, z_syl_go hne hnt (by omega), if_pos hok]; rfl) _ xl0 rfl
                · skip
                  refine x_sig (σ' := x_st σ [(8, 3, nI (x_mfl b t (x_blank b t a))), (8, 4, nI su), (8, 5, nI fi), (8, 6, nI be), (3, 4, nI Gn.length)] [(9, g), (4, f)] []) (x_st_u rfl) ?_
                  refine x_if_neZ C 96 dX8_readTape_91 (by decide) (fun c91 => absurd c91 (by decide)) (fun c91 => ?_)
                  refine x_iconst C (nI 0) dX8_readTape_94 rfl ?_
                  refine x_zret C xr xk dX8_readTape_95 rfl ?_
                  exact hK _ _ (by
                    obtain ⟨e1, e2, e3⟩ := z_symG (ok := false) (p := x_mfl b t (x_blank b t a)) (Gn := Gn) (hR.symm.trans (by rw [show 5 - i = (4 - i) + 1 by omega]; exact (z_syl_go hne hnt (by omega)).trans (if_neg (by rw [hok]; decide))))
                    rw [e1, e2]
                    exact ⟨_, _, _, _, _, _, ⟨rfl, rfl⟩, hgf, by omega, e3⟩)
            · skip
              refine x_aload_n C (i := 0) dX8_readTape_74 rfl xl0 ?_
              have hM := c_X8_isAtEnd l Y (x_st σ [(8, 3, nI (x_blank b t a)), (8, 4, nI su), (8, 5, nI fi), (8, 6, nI be), (3, 4, nI Gn.length)] [(9, g), (4, f)] []) b t ht hb ht8 (x_blank b t a) rfl hBt
              refine x_callV C (as := []) (st := []) (hM) kb_X8_isAtEnd kv_X8_59 dX8_readTape_75 rfl rfl (Nat.le_of_ble_eq_true rfl) ⟨by decide, by decide⟩ ⟨by decide, by decide⟩ ko_8 ?_
              clear hM
              rintro _ _ ⟨rfl, rfl⟩
              refine x_if_eqZ C 83 dX8_readTape_78 (by decide) (fun c78 => ?_) (fun c78 => ?_)
              · skip
                have hnt : i = 0 ∨ ¬ x_blank b t a = t := Or.inr (by have := of_decide_eq_false c78; omega)
                refine x_iload_n C (i := 2) dX8_readTape_83 rfl rfl ?_
                have hbl9 : x_blank b t a - a < 2 ^ 31 := by omega
                refine x_if_eqN C 94 dX8_readTape_84 (by decide) (by omega) (fun c84 => ?_) (fun c84 => ?_)
                · skip
                  have heq : x_blank b t a = a := by omega
                  refine x_iconst C (nI 0) dX8_readTape_94 rfl ?_
                  refine x_zret C xr xk dX8_readTape_95 rfl ?_
                  exact hK _ _ (by
                    obtain ⟨e1, e2, e3⟩ := z_symG (ok := false) (p := x_blank b t a) (Gn := Gn) (hR.symm.trans (by rw [show 5 - i = (4 - i) + 1 by omega]; exact (z_syl_nb heq (by rw [heq] at hnt; exact hnt)).trans (by rw [heq])))
                    rw [e1, e2]
                    exact ⟨_, _, _, _, _, _, ⟨rfl, rfl⟩, hgf, by omega, e3⟩)
                · skip
                  have hne : ¬ x_blank b t a = a := by omega
                  refine x_aload_n C (i := 0) dX8_readTape_87 rfl xl0 ?_
                  have hM := c_X8_readMatrix l Y (x_st σ [(8, 3, nI (x_blank b t a)), (8, 4, nI su), (8, 5, nI fi), (8, 6, nI be), (3, 4, nI Gn.length)] [(9, g), (4, f)] []) b t ht hb ht8 (x_blank b t a) rfl hBt su fi rfl rfl (by omega) hfi9 hsf be rfl hbe9 Gn rfl (by omega) f rfl hgf g rfl
                  refine x_callV C (as := []) (st := []) (hM) kb_X8_readMatrix kv_X8_62 dX8_readTape_88 rfl rfl (Nat.le_of_ble_eq_true rfl) ⟨by decide, by decide⟩ ⟨by decide, by decide⟩ ko_8 ?_
                  clear hM
                  rintro _ _ (⟨hok, gm, fm, ⟨rfl, rfl⟩, hgm⟩ | ⟨hok, rfl, rfl⟩)
                  · skip
                    refine x_sig (σ' := x_st σ [(8, 3, nI ((x_msf b t (x_blank b t a) su fi).1)), (8, 4, nI (if 1 < (x_mn b t (x_blank b t a)) then su + 1 else su)), (8, 5, nI (if 1 < (x_mn b t (x_blank b t a)) ∧ su = 0 then (x_mn b t (x_blank b t a)) else fi)), (8, 6, nI (if 1 < (x_mn b t (x_blank b t a)) ∧ x_man b t (x_blank b t a) su fi < 3 then x_man b t (x_blank b t a) su fi else be)), (3, 4, nI (Gn.length + 1))] [(9, gm), (4, fm)] []) (x_st_st rfl) ?_
                    refine x_if_neZ C 96 dX8_readTape_91 (by decide) (fun c91 => ?_) (fun c91 => absurd c91 (by decide))
                    have hmn := x_ord_le (x_lookv b t (x_ma1 b t (x_blank b t a)))
                    change 1 ≤ x_mn b t (x_blank b t a) ∧ x_mn b t (x_blank b t a) ≤ 6 ∧ x_mn b t (x_blank b t a) ≠ 5 at hmn
                    have hsf2 : 0 < (if 1 < x_mn b t (x_blank b t a) then su + 1 else su) → (if 1 < x_mn b t (x_blank b t a) ∧ su = 0 then x_mn b t (x_blank b t a) else fi) = 2 ∨ (if 1 < x_mn b t (x_blank b t a) ∧ su = 0 then x_mn b t (x_blank b t a) else fi) = 3 ∨ (if 1 < x_mn b t (x_blank b t a) ∧ su = 0 then x_mn b t (x_blank b t a) else fi) = 4 ∨ (if 1 < x_mn b t (x_blank b t a) ∧ su = 0 then x_mn b t (x_blank b t a) else fi) = 6 := by
                      intro h9
                      by_cases h8 : 1 < x_mn b t (x_blank b t a) ∧ su = 0
                      · rw [if_pos h8]; omega
                      · rw [if_neg h8]
                        apply hsf
                        split at h9 <;> omega
                    refine x_iincN C (i := 1) (b := 1) dX8_readTape_96 xl1 rfl (by decide) ?_
                    refine x_goto C 60 dX8_readTape_99 (by decide) ?_
                    refine x_sig (σ' := x_st σ [(8, 3, nI ((x_msf b t (x_blank b t a) su fi).1)), (8, 4, nI (if 1 < (x_mn b t (x_blank b t a)) then su + 1 else su)), (8, 5, nI (if 1 < (x_mn b t (x_blank b t a)) ∧ su = 0 then (x_mn b t (x_blank b t a)) else fi)), (8, 6, nI (if 1 < (x_mn b t (x_blank b t a)) ∧ x_man b t (x_blank b t a) su fi < 3 then x_man b t (x_blank b t a) su fi else be)), (3, 4, nI (Gn ++ [(x_mrot b t (x_blank b t a) su fi be, [nI (x_msf b t (x_blank b t a) su fi).2.1, nI (x_msf b t (x_blank b t a) su fi).2.2.1, nI (x_msf b t (x_blank b t a) su fi).2.2.2])]).length)] [(9, gm), (4, fm)] []) (by rw [List.length_append]; rfl) ?_
                    exact ih60 _ (by omega) (i + 1) ((x_msf b t (x_blank b t a) su fi).1) (if 1 < (x_mn b t (x_blank b t a)) then su + 1 else su) (if 1 < (x_mn b t (x_blank b t a)) ∧ su = 0 then (x_mn b t (x_blank b t a)) else fi) (if 1 < (x_mn b t (x_blank b t a)) ∧ x_man b t (x_blank b t a) su fi < 3 then x_man b t (x_blank b t a) su fi else be) (Gn ++ [(x_mrot b t (x_blank b t a) su fi be, [nI (x_msf b t (x_blank b t a) su fi).2.1, nI (x_msf b t (x_blank b t a) su fi).2.2.1, nI (x_msf b t (x_blank b t a) su fi).2.2.2])]) gm fm rfl (by omega) (x_msf_le hok) (by split <;> omega) (by split <;> omega) hsf2 (by split <;> omega) hgm (by rw [List.length_append]; show Gn.length + 1 ≤ _; omega) (by rw [← hR, List.map_append, List.map_append, show 5 - i = (5 - (i + 1)) + 1 by omega, z_syl_go hne hnt (by omega), if_pos hok]; rfl) _ xl0 rfl
                  · skip
                    refine x_sig (σ' := x_st σ [(8, 3, nI (x_mfl b t (x_blank b t a))), (8, 4, nI su), (8, 5, nI fi), (8, 6, nI be), (3, 4, nI Gn.length)] [(9, g), (4, f)] []) (x_st_u rfl) ?_
                    refine x_if_neZ C 96 dX8_readTape_91 (by decide) (fun c91 => absurd c91 (by decide)) (fun c91 => ?_)
                    refine x_iconst C (nI 0) dX8_readTape_94 rfl ?_
                    refine x_zret C xr xk dX8_readTape_95 rfl ?_
                    exact hK _ _ (by
                      obtain ⟨e1, e2, e3⟩ := z_symG (ok := false) (p := x_mfl b t (x_blank b t a)) (Gn := Gn) (hR.symm.trans (by rw [show 5 - i = (4 - i) + 1 by omega]; exact (z_syl_go hne hnt (by omega)).trans (if_neg (by rw [hok]; decide))))
                      rw [e1, e2]
                      exact ⟨_, _, _, _, _, _, ⟨rfl, rfl⟩, hgf, by omega, e3⟩)
              · skip
                refine x_iconst C (nI 1) dX8_readTape_81 rfl ?_
                refine x_zret C xr xk dX8_readTape_82 rfl ?_
                exact hK _ _ (by
                  obtain ⟨e1, e2, e3⟩ := z_symG (ok := true) (p := x_blank b t a) (Gn := Gn) (hR.symm.trans (by rw [show 5 - i = (4 - i) + 1 by omega]; exact z_syl_end (by omega) hat (of_decide_eq_true c78)))
                  rw [e1, e2]
                  exact ⟨_, _, _, _, _, _, ⟨rfl, rfl⟩, hgf, by omega, e3⟩)
      refine x_sig (σ' := x_st σ [(8, 3, nI (a0 + 1)), (8, 4, nI 0), (8, 5, nI 0), (8, 6, nI 2), (3, 4, nI (Gn ++ Cs.map (fun s => (x_one, s))).length)] [(9, gl), (4, fl)] []) (by rw [List.length_append, List.length_map]) ?_
      exact lp60 _ 0 (a0 + 1) 0 0 2 (Gn ++ Cs.map (fun s => (x_one, s))) gl fl rfl (by decide) (x_cen_lt hcen) (by decide) (by decide) (fun z => absurd z (by decide)) (by decide) hgl (by rw [List.length_append, List.length_map]; have := x_cen_len hcen; omega) (by rw [ha0] at hcen; rw [z_sym_some hcen, (z_mapC Gn Cs).1, (z_mapC Gn Cs).2, hG1, hG2, ha0]) _ xl0 rfl
    · skip
      refine x_if_neZ C 58 dX8_readTape_53 (by decide) (fun c53 => absurd c53 (by decide)) (fun c53 => ?_)
      refine x_iconst C (nI 0) dX8_readTape_56 rfl ?_
      refine x_zret C xr xk dX8_readTape_57 rfl ?_
      exact hK _ _ (by
        obtain ⟨e1, e2, e3⟩ := z_symG (ok := false) (p := a0) (Gn := Gn) (by rw [ha0] at hcen; rw [z_sym_none hcen, hG1, hG2, ha0])
        rw [e1, e2]
        exact ⟨_, _, _, _, _, _, ⟨rfl, rfl⟩, hgx, by omega, e3⟩)
  have hB0 := (x_blank_le b t 0 (Nat.zero_le _)).2
  refine x_aload_n C (i := 0) dX8_readTape_32 rfl rfl ?_
  refine x_bipush C (nI 45) dX8_readTape_33 rfl ?_
  have hM := c_X8_takes l Y (x_st σ [(8, 3, nI (x_blank b t 0)), (8, 4, nI 0), (8, 5, nI 0), (8, 6, nI 2), (3, 4, nI 0)] [(9, σ.1 9), (4, σ.1 4)] []) (nI 45) b t ht hb ht8 (x_blank b t 0) rfl hB0
  refine x_callV C (as := [.int (nI 45)]) (st := []) (hM) kb_X8_takes kv_X8_47 dX8_readTape_35 rfl rfl (Nat.le_of_ble_eq_true rfl) ⟨by decide, by decide⟩ ⟨by decide, by decide⟩ ko_8 ?_
  clear hM
  rintro _ _ (⟨htk, rfl, rfl⟩ | ⟨htk, rfl, rfl⟩)
  · skip
    refine x_sig (σ' := x_st σ [(8, 3, nI (x_blank b t 0 + 1)), (8, 4, nI 0), (8, 5, nI 0), (8, 6, nI 2), (3, 4, nI 0)] [(9, σ.1 9), (4, σ.1 4)] []) (x_st_st rfl) ?_
    refine x_if_eqZ C 49 dX8_readTape_38 (by decide) (fun c38 => absurd c38 (by decide)) (fun c38 => ?_)
    refine x_aload_n C (i := 0) dX8_readTape_41 rfl rfl ?_
    refine x_iconst C (-1) dX8_readTape_42 rfl ?_
    refine x_iconst C (nI 0) dX8_readTape_43 rfl ?_
    refine x_iconst C (nI 0) dX8_readTape_44 rfl ?_
    refine x_iconst C (nI 0) dX8_readTape_45 rfl ?_
    have hM := c_X8_addPlain l Y (x_st σ [(8, 3, nI (x_blank b t 0 + 1)), (8, 4, nI 0), (8, 5, nI 0), (8, 6, nI 2), (3, 4, nI 0)] [(9, σ.1 9), (4, σ.1 4)] []) (-1) 0 0 0 (by decide) (by decide) (by decide) [] rfl (by decide) (σ.1 4) rfl (z_hg_0 _) (σ.1 9) rfl
    refine x_callV C (as := [.int (-1), .int (nI 0), .int (nI 0), .int (nI 0)]) (st := []) (hM) kb_X8_addPlain kv_X8_51 dX8_readTape_46 rfl rfl (Nat.le_of_ble_eq_true rfl) ⟨by decide, by decide⟩ ⟨by decide, by decide⟩ ko_8 ?_
    clear hM
    rintro _ _ ⟨ge, fe, ⟨rfl, rfl⟩, hge⟩
    refine x_sig (σ' := x_st σ [(8, 3, nI (x_blank b t 0 + 1)), (8, 4, nI 0), (8, 5, nI 0), (8, 6, nI 2), (3, 4, nI 1)] [(9, ge), (4, fe)] []) (x_st_st rfl) ?_
    exact lp49 (x_blank b t 0 + 1) ([(z_rl 0 0 (-1), [nI 0, nI 0, nI 0])]) ge fe (by unfold x_sa0 x_ma1; rw [if_pos htk]) (x_lookv_lt htk (by decide)) (by unfold x_sg0; rw [if_pos htk, z_rl_1.2.1, z_rl_1.2.2]; rfl) (by unfold x_sg0; rw [if_pos htk]; rfl) (by decide) hge _ rfl
  · skip
    refine x_if_eqZ C 49 dX8_readTape_38 (by decide) (fun c38 => ?_) (fun c38 => absurd c38 (by decide))
    exact lp49 (x_blank b t 0) ([]) (σ.1 9) (σ.1 4) (by unfold x_sa0 x_ma1; rw [if_neg htk]) hB0 (by unfold x_sg0; rw [if_neg htk]; rfl) (by unfold x_sg0; rw [if_neg htk]; rfl) (by decide) (z_hg_0 _) _ rfl
theorem c_X8_readTape (l : Launch) (Y : x_Y) (σ : x_S) (b : Nat → Int32) (t : Nat) (ht : σ.1 1 1 = nI t) (hb : σ.1 2 = b) (ht8 : t ≤ 8000) : x_M l yX8_readTape cX8_readTape 3 (some .boolean) 5 Y [.ref 8] σ (fun r τ => ∃ su fi be Gn g f, (r = some (.int (x_z (x_sym b t).1)) ∧ τ = x_st σ [(8, 3, nI (x_sym b t).2.1), (8, 4, nI su), (8, 5, nI fi), (8, 6, nI be), (3, 4, nI Gn.length)] [(9, g), (4, f)] []) ∧ z_hg f Gn ∧ Gn.length ≤ 8 ∧ Gn = x_symG b t) := c_X8_readTape_K l Y σ b t ht hb ht8 _ (fun _ _ h => h)
