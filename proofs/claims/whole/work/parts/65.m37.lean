set_option maxRecDepth 100000 in
set_option maxHeartbeats 600000 in
theorem c_X0_readTape_K (l : Launch) (Y : x_Y) (σ : x_S) (n0 : Nat) (hn : σ.1 15 3 = nI n0) (hn9 : n0 ≤ 3000) (A0 : x_A5) (hk0 : z_kp (σ.1 16) (σ.1 17) (σ.1 18) A0 n0) (b : Nat → Int32) (t : Nat) (ht : σ.1 1 1 = nI t) (hb : σ.1 2 = b) (ht8 : t ≤ 8000) (K : Option Value → x_S → Prop) (hK : ∀ (r : Option Value) (τ : x_S), (((x_fil b t n0 A0).1 = false ∧ r = some (.int (-1 - nI (x_fil b t n0 A0).2.1)) ∧ ∃ q3 q4 q5 q6 q7 g f16 f17 f18, τ = x_st σ [(15, 3, nI n0), (19, 3, q3), (19, 4, q4), (19, 5, q5), (19, 6, q6), (19, 7, q7)] [(16, f16), (17, f17), (18, f18), (20, g)] [] ∧ z_kp f16 f17 f18 (x_fil b t n0 A0).2.2.2 n0) ∨ ((x_fil b t n0 A0).1 = true ∧ n0 ≤ (x_fil b t n0 A0).2.2.1 ∧ (x_fil b t n0 A0).2.2.1 ≤ 3000 ∧ r = some (.int (nI ((x_fil b t n0 A0).2.2.1 - n0))) ∧ ∃ q3 q4 q5 q6 q7 g f16 f17 f18, τ = x_st σ [(15, 3, nI (x_fil b t n0 A0).2.2.1), (19, 3, q3), (19, 4, q4), (19, 5, q5), (19, 6, q6), (19, 7, q7)] [(16, f16), (17, f17), (18, f18), (20, g)] [] ∧ z_kp f16 f17 f18 (x_fil b t n0 A0).2.2.2 (x_fil b t n0 A0).2.2.1)) → K r τ) : x_M l yX0_readTape cX0_readTape 5 (some .int) 5 Y [.ref 19] σ K := by
  refine x_start (by decide) (Nat.le_of_ble_eq_true rfl) ?_
  intro xp xe xs xm xg xb xt xc C xr xk
  refine x_sig (σ' := x_st σ [(15, 3, nI n0), (19, 3, σ.1 19 3), (19, 4, σ.1 19 4), (19, 5, σ.1 19 5), (19, 6, σ.1 19 6), (19, 7, σ.1 19 7)] [(16, σ.1 16), (17, σ.1 17), (18, σ.1 18), (20, σ.1 20)] []) (x_st_in (And.intro hn (And.intro rfl (And.intro rfl (And.intro rfl (And.intro rfl (And.intro rfl trivial)))))) (And.intro rfl (And.intro rfl (And.intro rfl (And.intro rfl trivial)))) trivial) ?_
  refine x_iconst C (nI 0) dX0_readTape_0 rfl ?_
  refine x_istore_n C (i := 1) dX0_readTape_1 rfl (by decide) ?_
  refine x_iconst C (nI 0) dX0_readTape_2 rfl ?_
  refine x_istore_n C (i := 2) dX0_readTape_3 rfl (by decide) ?_
  refine x_iconst C (nI 0) dX0_readTape_4 rfl ?_
  refine x_istore_n C (i := 3) dX0_readTape_5 rfl (by decide) ?_
  have lp6 : ∀ (m6 : Nat) (m : Nat) (en : Bool) (a : Nat) (f : Nat) (A : x_A5) (q3 : Int32) (q4 : Int32) (q5 : Int32) (q6 : Int32) (q7 : Int32) (g : Nat → Int32) (f16 : Nat → Int32) (f17 : Nat → Int32) (f18 : Nat → Int32), (f) = m6 → (n0 + m ≤ 3000) → (a ≤ t + 1) → (t + 1 ≤ a + f) → (z_kp f16 f17 f18 A (n0 + m)) → ((0 < t ∧ z_eqf (x_flf b t f a (n0 + m) en A) (x_fil b t n0 A0)) ∨ (t = 0 ∧ a = 0 ∧ m = 0 ∧ en = false ∧ A = A0)) → ∀ L : x_Lo, L.1 0 = some (.ref 19) → L.1 1 = some (.int (nI m)) → L.1 2 = some (.int (x_z en)) → L.1 3 = some (.int (nI a)) → x_W xp l xe (x_rm 5) xs xm xg xb xt xc 5 Y 0 0 (MQ xb (x_Q Y K) xg xs 0 0 (x_A Y)) 6 L [] (x_st σ [(15, 3, nI n0), (19, 3, q3), (19, 4, q4), (19, 5, q5), (19, 6, q6), (19, 7, q7)] [(16, f16), (17, f17), (18, f18), (20, g)] []) := by
    intro m6
    induction m6 using Nat.strongRecOn with
    | _ m6 ih6 =>
      intro m en a f A q3 q4 q5 q6 q7 g f16 f17 f18 hm6 hm9 ha9 hfl hkp hR L xl0 xl1 xl2 xl3
      refine x_iload_n C (i := 3) dX0_readTape_6 rfl xl3 ?_
      refine x_if_eqN C 21 dX0_readTape_7 (by decide) (by omega) (fun c7 => ?_) (fun c7 => ?_)
      · skip
        obtain ⟨f9, hf9⟩ : ∃ f9, f = f9 + 1 := ⟨f - 1, by omega⟩
        refine x_iload_n C (i := 2) dX0_readTape_21 rfl xl2 ?_
        refine x_if_eqZ C 29 dX0_readTape_22 (by decide) (fun c22 => ?_) (fun c22 => ?_)
        · skip
          refine x_aload_n C (i := 0) dX0_readTape_29 rfl xl0 ?_
          refine x_iload_n C (i := 3) dX0_readTape_30 rfl xl3 ?_
          have hM := c_X0_readRow l Y (x_st σ [(15, 3, nI n0), (19, 3, q3), (19, 4, q4), (19, 5, q5), (19, 6, q6), (19, 7, q7)] [(16, f16), (17, f17), (18, f18), (20, g)] []) a (by omega) b t ht hb ht8
          refine x_callV C (as := [.int (nI a)]) (st := []) (hM) kb_X0_readRow kv_X0_29 dX0_readTape_31 rfl rfl (Nat.le_of_ble_eq_true rfl) ⟨by decide, by decide⟩ ⟨by decide, by decide⟩ ko_19 ?_
          clear hM
          rintro _ _ (⟨hrw, rfl, gr, p5, p6, p7, rfl, hg0, hg1, hg2⟩ | ⟨hrw, rfl, p3, p4, p5, p6, gr, rfl⟩)
          · skip
            refine x_sig (σ' := x_st σ [(15, 3, nI n0), (19, 3, x_hv b t true (a + 12)), (19, 4, x_hv b t false (a + 20)), (19, 5, p5), (19, 6, p6), (19, 7, p7)] [(16, f16), (17, f17), (18, f18), (20, gr)] []) (x_st_st rfl) ?_
            have hrl := x_row_le hrw
            obtain ⟨htp, hRn⟩ := hR.resolve_right (fun z => by omega)
            rw [hf9] at hRn
            have hta : ¬ t ≤ a := by omega
            have hen : en = false := c22
            refine x_if_neZ C 44 dX0_readTape_34 (by decide) (fun c34 => ?_) (fun c34 => absurd c34 (by decide))
            have lp76 : (x_rz b t a = false) → ∀ L : x_Lo, L.1 0 = some (.ref 19) → L.1 1 = some (.int (nI m)) → L.1 2 = some (.int (x_z en)) → L.1 3 = some (.int (nI a)) → x_W xp l xe (x_rm 5) xs xm xg xb xt xc 5 Y 0 0 (MQ xb (x_Q Y K) xg xs 0 0 (x_A Y)) 76 L [] (x_st σ [(15, 3, nI n0), (19, 3, x_hv b t true (a + 12)), (19, 4, x_hv b t false (a + 20)), (19, 5, p5), (19, 6, p6), (19, 7, p7)] [(16, f16), (17, f17), (18, f18), (20, gr)] []) := by
              intro  hz L xl0 xl1 xl2 xl3
              refine x_aload_n C (i := 0) dX0_readTape_76 rfl xl0 ?_
              refine x_getR C fr_19_1 kf_X0_19 dX0_readTape_77 ?_
              refine x_iload_n C (i := 1) dX0_readTape_80 rfl xl1 ?_
              refine x_aload_n C (i := 0) dX0_readTape_81 rfl xl0 ?_
              refine x_getR C fr_19_2 kf_X0_9 dX0_readTape_82 ?_
              refine x_iconst C (nI 0) dX0_readTape_85 rfl ?_
              refine x_ialdN C (by decide) rfl (by decide) dX0_readTape_86 (by omega) ?_
              refine x_topI (y := gr 0) rfl ?_
              refine x_topI (y := x_iv b t a) hg0 ?_
              refine x_aload_n C (i := 0) dX0_readTape_87 rfl xl0 ?_
              refine x_getR C fr_19_2 kf_X0_9 dX0_readTape_88 ?_
              refine x_iconst C (nI 1) dX0_readTape_91 rfl ?_
              refine x_ialdN C (by decide) rfl (by decide) dX0_readTape_92 (by omega) ?_
              refine x_topI (y := gr 1) rfl ?_
              refine x_topI (y := x_iv b t (a + 4)) hg1 ?_
              refine x_aload_n C (i := 0) dX0_readTape_93 rfl xl0 ?_
              refine x_getR C fr_19_2 kf_X0_9 dX0_readTape_94 ?_
              refine x_iconst C (nI 2) dX0_readTape_97 rfl ?_
              refine x_ialdN C (by decide) rfl (by decide) dX0_readTape_98 (by omega) ?_
              refine x_topI (y := gr 2) rfl ?_
              refine x_topI (y := x_iv b t (a + 8)) hg2 ?_
              have hM := c_X3_pack l Y (x_st σ [(15, 3, nI n0), (19, 3, x_hv b t true (a + 12)), (19, 4, x_hv b t false (a + 20)), (19, 5, p5), (19, 6, p6), (19, 7, p7)] [(16, f16), (17, f17), (18, f18), (20, gr)] []) (x_iv b t a) (x_iv b t (a + 4)) (x_iv b t (a + 8))
              refine x_callS C (as := [.int (x_iv b t a), .int (x_iv b t (a + 4)), .int (x_iv b t (a + 8))]) (st := [.int (nI m), .ref 15]) (hM) kb_X3_pack ks_X0_36 dX0_readTape_99 rfl rfl (Nat.le_of_ble_eq_true rfl) ⟨by decide, by decide⟩ ⟨by decide, by decide⟩ ?_
              clear hM
              rintro _ _ ⟨rfl, rfl⟩
              refine x_aload_n C (i := 0) dX0_readTape_102 rfl xl0 ?_
              refine x_getI C fi_19_3 kf_X0_42 dX0_readTape_103 ?_
              refine x_topI (y := x_hv b t true (a + 12)) rfl ?_
              refine x_aload_n C (i := 0) dX0_readTape_106 rfl xl0 ?_
              refine x_getI C fi_19_4 kf_X0_45 dX0_readTape_107 ?_
              refine x_topI (y := x_hv b t false (a + 20)) rfl ?_
              have hM := c_X6_write l Y (x_st σ [(15, 3, nI n0), (19, 3, x_hv b t true (a + 12)), (19, 4, x_hv b t false (a + 20)), (19, 5, p5), (19, 6, p6), (19, 7, p7)] [(16, f16), (17, f17), (18, f18), (20, gr)] []) m (z_pack (x_iv b t a) (x_iv b t (a + 4)) (x_iv b t (a + 8))) (x_hv b t true (a + 12)) (x_hv b t false (a + 20)) n0 rfl hm9 f16 f17 f18 rfl rfl rfl
              refine x_callV C (as := [.int (nI m), .int (z_pack (x_iv b t a) (x_iv b t (a + 4)) (x_iv b t (a + 8))), .int (x_hv b t true (a + 12)), .int (x_hv b t false (a + 20))]) (st := []) (hM) kb_X6_write kv_X0_48 dX0_readTape_110 rfl rfl (Nat.le_of_ble_eq_true rfl) ⟨by decide, by decide⟩ ⟨by decide, by decide⟩ ko_15 ?_
              clear hM
              rintro _ _ (⟨hwl, rfl, rfl⟩ | ⟨hwl, rfl, rfl⟩)
              · skip
                refine x_sig (σ' := x_st σ [(15, 3, nI n0), (19, 3, x_hv b t true (a + 12)), (19, 4, x_hv b t false (a + 20)), (19, 5, p5), (19, 6, p6), (19, 7, p7)] [(16, upd f16 (n0 + m) (z_pack (x_iv b t a) (x_iv b t (a + 4)) (x_iv b t (a + 8)))), (17, upd f17 (n0 + m) (x_hv b t true (a + 12))), (18, upd f18 (n0 + m) (x_hv b t false (a + 20))), (20, gr)] []) (x_st_st rfl) ?_
                refine x_if_eqZ C 122 dX0_readTape_113 (by decide) (fun c113 => absurd c113 (by decide)) (fun c113 => ?_)
                refine x_iincN C (i := 1) (b := 1) dX0_readTape_116 xl1 rfl (by decide) ?_
                refine x_goto C 126 dX0_readTape_119 (by decide) ?_
                refine x_iload_n C (i := 3) dX0_readTape_126 rfl xl3 ?_
                refine x_bipush C (nI 28) dX0_readTape_127 rfl ?_
                refine x_iaddN C dX0_readTape_129 ?_
                refine x_istore C (i := 4) dX0_readTape_130 (by decide) ?_
                refine x_iload C (i := 4) dX0_readTape_132 rfl ?_
                refine x_aload_n C (i := 0) dX0_readTape_134 rfl xl0 ?_
                refine x_getR C fr_19_0 kf_X0_15 dX0_readTape_135 ?_
                refine x_getI C fi_1_1 kf_X0_23 dX0_readTape_138 ?_
                refine x_topI (y := nI t) ht ?_
                refine x_icmp_geN C 163 dX0_readTape_141 (by decide) (by omega) (by omega) (fun c141 => ?_) (fun c141 => ?_)
                · skip
                  have c141' := Nat.not_lt.mpr c141
                  refine x_iincN C (i := 3) (b := 29) dX0_readTape_163 xl3 rfl (by decide) ?_
                  refine x_goto C 6 dX0_readTape_166 (by decide) ?_
                  exact ih6 _ (by omega) (m + 1) en (a + 29) f9 (x_ap b t a (n0 + m) A) (x_hv b t true (a + 12)) (x_hv b t false (a + 20)) p5 p6 p7 gr (upd f16 (n0 + m) (z_pack (x_iv b t a) (x_iv b t (a + 4)) (x_iv b t (a + 8)))) (upd f17 (n0 + m) (x_hv b t true (a + 12))) (upd f18 (n0 + m) (x_hv b t false (a + 20))) rfl (by omega) (by omega) (by omega) (z_kp_s hkp) (Or.inl ⟨htp, by
                        rw [show n0 + (m + 1) = n0 + m + 1 from rfl]
                        by_cases h141 : a + 28 < t
                        · refine z_eqf_e hRn ((z_fl_n hta hen hrw hz (by omega)).trans ?_)
                          rw [if_pos h141, if_pos (by first | exact c155 | omega), hen]
                        · rw [z_fl_e0 f9 (by omega)]
                          exact z_eqf_a (z_eqf_e hRn ((z_fl_n hta hen hrw hz (by omega)).trans (if_neg h141)))⟩) _ xl0 rfl xl2 rfl
                · skip
                  have c141' := Nat.not_le.mpr c141
                  refine x_aload_n C (i := 0) dX0_readTape_144 rfl xl0 ?_
                  refine x_getR C fr_19_0 kf_X0_15 dX0_readTape_145 ?_
                  refine x_iload C (i := 4) dX0_readTape_148 rfl ?_
                  have hM := c_X9_byteAt l Y (x_st σ [(15, 3, nI n0), (19, 3, x_hv b t true (a + 12)), (19, 4, x_hv b t false (a + 20)), (19, 5, p5), (19, 6, p6), (19, 7, p7)] [(16, upd f16 (n0 + m) (z_pack (x_iv b t a) (x_iv b t (a + 4)) (x_iv b t (a + 8)))), (17, upd f17 (n0 + m) (x_hv b t true (a + 12))), (18, upd f18 (n0 + m) (x_hv b t false (a + 20))), (20, gr)] []) (a + 28) t b ht hb ht8 (by omega)
                  refine x_callV C (as := [.int (nI (a + 28))]) (st := []) (hM) kb_X9_byteAt kv_X0_54 dX0_readTape_150 rfl rfl (Nat.le_of_ble_eq_true rfl) ⟨by decide, by decide⟩ ⟨by decide, by decide⟩ ko_1 ?_
                  clear hM
                  rintro _ _ ⟨rfl, rfl⟩
                  refine x_bipush C (nI 10) dX0_readTape_153 rfl ?_
                  refine x_icmp_eq C 163 dX0_readTape_155 (by decide) (fun c155 => ?_) (fun c155 => ?_)
                  · skip
                    refine x_iincN C (i := 3) (b := 29) dX0_readTape_163 xl3 rfl (by decide) ?_
                    refine x_goto C 6 dX0_readTape_166 (by decide) ?_
                    exact ih6 _ (by omega) (m + 1) en (a + 29) f9 (x_ap b t a (n0 + m) A) (x_hv b t true (a + 12)) (x_hv b t false (a + 20)) p5 p6 p7 gr (upd f16 (n0 + m) (z_pack (x_iv b t a) (x_iv b t (a + 4)) (x_iv b t (a + 8)))) (upd f17 (n0 + m) (x_hv b t true (a + 12))) (upd f18 (n0 + m) (x_hv b t false (a + 20))) rfl (by omega) (by omega) (by omega) (z_kp_s hkp) (Or.inl ⟨htp, by
                          rw [show n0 + (m + 1) = n0 + m + 1 from rfl]
                          by_cases h141 : a + 28 < t
                          · refine z_eqf_e hRn ((z_fl_n hta hen hrw hz (by omega)).trans ?_)
                            rw [if_pos h141, if_pos (by first | exact c155 | omega), hen]
                          · rw [z_fl_e0 f9 (by omega)]
                            exact z_eqf_a (z_eqf_e hRn ((z_fl_n hta hen hrw hz (by omega)).trans (if_neg h141)))⟩) _ xl0 rfl xl2 rfl
                  · skip
                    refine x_iconst C (-1) dX0_readTape_158 rfl ?_
                    refine x_iload C (i := 4) dX0_readTape_159 rfl ?_
                    refine x_isub C dX0_readTape_161 ?_
                    refine x_iret C xr xk dX0_readTape_162 ?_
                    exact hK _ _ (by
                      have hE : (x_fil b t n0 A0).1 = false ∧ (x_fil b t n0 A0).2.1 = a + 28 ∧ (x_fil b t n0 A0).2.2.1 = _ ∧ (x_fil b t n0 A0).2.2.2 = _ := z_eqf_f hRn ((z_fl_n hta hen hrw hz (by omega)).trans ((if_pos c141).trans (if_neg c155)))
                      obtain ⟨e1, e2, e3, e4⟩ := hE
                      refine Or.inl ⟨e1, by rw [e2], _, _, _, _, _, _, _, _, _, rfl, ?_⟩
                      rw [e4]
                      exact z_kp_le (z_kp_s hkp) (by omega))
              · skip
                refine x_if_eqZ C 122 dX0_readTape_113 (by decide) (fun c113 => ?_) (fun c113 => absurd c113 (by decide))
                refine x_iconst C (-1) dX0_readTape_122 rfl ?_
                refine x_iload_n C (i := 3) dX0_readTape_123 rfl xl3 ?_
                refine x_isub C dX0_readTape_124 ?_
                refine x_iret C xr xk dX0_readTape_125 ?_
                exact hK _ _ (by
                  have hE : (x_fil b t n0 A0).1 = false ∧ (x_fil b t n0 A0).2.1 = a ∧ (x_fil b t n0 A0).2.2.1 = _ ∧ (x_fil b t n0 A0).2.2.2 = _ := z_eqf_f hRn (z_fl_full hta hen hrw hz hwl)
                  obtain ⟨e1, e2, e3, e4⟩ := hE
                  refine Or.inl ⟨e1, by rw [e2], _, _, _, _, _, _, _, _, _, rfl, ?_⟩
                  rw [e4]
                  exact z_kp_le hkp (by omega))
            refine x_aload_n C (i := 0) dX0_readTape_44 rfl xl0 ?_
            refine x_getR C fr_19_2 kf_X0_9 dX0_readTape_45 ?_
            refine x_iconst C (nI 0) dX0_readTape_48 rfl ?_
            refine x_ialdN C (by decide) rfl (by decide) dX0_readTape_49 (by omega) ?_
            refine x_topI (y := gr 0) rfl ?_
            refine x_topI (y := x_iv b t a) hg0 ?_
            refine x_if_ne C 76 dX0_readTape_50 (by decide) (fun c50 => ?_) (fun c50 => ?_)
            · skip
              exact lp76 (z_rzf (Or.inl c50)) _ xl0 xl1 xl2 xl3
            · skip
              refine x_aload_n C (i := 0) dX0_readTape_53 rfl xl0 ?_
              refine x_getR C fr_19_2 kf_X0_9 dX0_readTape_54 ?_
              refine x_iconst C (nI 1) dX0_readTape_57 rfl ?_
              refine x_ialdN C (by decide) rfl (by decide) dX0_readTape_58 (by omega) ?_
              refine x_topI (y := gr 1) rfl ?_
              refine x_topI (y := x_iv b t (a + 4)) hg1 ?_
              refine x_if_ne C 76 dX0_readTape_59 (by decide) (fun c59 => ?_) (fun c59 => ?_)
              · skip
                exact lp76 (z_rzf (Or.inr (Or.inl c59))) _ xl0 xl1 xl2 xl3
              · skip
                refine x_aload_n C (i := 0) dX0_readTape_62 rfl xl0 ?_
                refine x_getR C fr_19_2 kf_X0_9 dX0_readTape_63 ?_
                refine x_iconst C (nI 2) dX0_readTape_66 rfl ?_
                refine x_ialdN C (by decide) rfl (by decide) dX0_readTape_67 (by omega) ?_
                refine x_topI (y := gr 2) rfl ?_
                refine x_topI (y := x_iv b t (a + 8)) hg2 ?_
                refine x_if_ne C 76 dX0_readTape_68 (by decide) (fun c68 => ?_) (fun c68 => ?_)
                · skip
                  exact lp76 (z_rzf (Or.inr (Or.inr c68))) _ xl0 xl1 xl2 xl3
                · skip
                  have hz := z_rzt c50 c59 c68
                  refine x_iconst C (nI 1) dX0_readTape_71 rfl ?_
                  refine x_istore_n C (i := 2) dX0_readTape_72 rfl (by decide) ?_
                  refine x_goto C 126 dX0_readTape_73 (by decide) ?_
                  refine x_iload_n C (i := 3) dX0_readTape_126 rfl xl3 ?_
                  refine x_bipush C (nI 28) dX0_readTape_127 rfl ?_
                  refine x_iaddN C dX0_readTape_129 ?_
                  refine x_istore C (i := 4) dX0_readTape_130 (by decide) ?_
                  refine x_iload C (i := 4) dX0_readTape_132 rfl ?_
                  refine x_aload_n C (i := 0) dX0_readTape_134 rfl xl0 ?_
                  refine x_getR C fr_19_0 kf_X0_15 dX0_readTape_135 ?_
                  refine x_getI C fi_1_1 kf_X0_23 dX0_readTape_138 ?_
                  refine x_topI (y := nI t) ht ?_
                  refine x_icmp_geN C 163 dX0_readTape_141 (by decide) (by omega) (by omega) (fun c141 => ?_) (fun c141 => ?_)
                  · skip
                    have c141' := Nat.not_lt.mpr c141
                    refine x_iincN C (i := 3) (b := 29) dX0_readTape_163 xl3 rfl (by decide) ?_
                    refine x_goto C 6 dX0_readTape_166 (by decide) ?_
                    exact ih6 _ (by omega) m true (a + 29) f9 A (x_hv b t true (a + 12)) (x_hv b t false (a + 20)) p5 p6 p7 gr f16 f17 f18 rfl (by omega) (by omega) (by omega) hkp (Or.inl ⟨htp, by
                          by_cases h141 : a + 28 < t
                          · refine z_eqf_e hRn ((z_fl_z hta hen hrw hz).trans ?_)
                            rw [if_pos h141, if_pos (by first | exact c155 | omega)]
                          · rw [z_fl_e0 f9 (by omega)]
                            exact z_eqf_a (z_eqf_e hRn ((z_fl_z hta hen hrw hz).trans (if_neg h141)))⟩) _ xl0 xl1 rfl rfl
                  · skip
                    have c141' := Nat.not_le.mpr c141
                    refine x_aload_n C (i := 0) dX0_readTape_144 rfl xl0 ?_
                    refine x_getR C fr_19_0 kf_X0_15 dX0_readTape_145 ?_
                    refine x_iload C (i := 4) dX0_readTape_148 rfl ?_
                    have hM := c_X9_byteAt l Y (x_st σ [(15, 3, nI n0), (19, 3, x_hv b t true (a + 12)), (19, 4, x_hv b t false (a + 20)), (19, 5, p5), (19, 6, p6), (19, 7, p7)] [(16, f16), (17, f17), (18, f18), (20, gr)] []) (a + 28) t b ht hb ht8 (by omega)
                    refine x_callV C (as := [.int (nI (a + 28))]) (st := []) (hM) kb_X9_byteAt kv_X0_54 dX0_readTape_150 rfl rfl (Nat.le_of_ble_eq_true rfl) ⟨by decide, by decide⟩ ⟨by decide, by decide⟩ ko_1 ?_
                    clear hM
                    rintro _ _ ⟨rfl, rfl⟩
                    refine x_bipush C (nI 10) dX0_readTape_153 rfl ?_
                    refine x_icmp_eq C 163 dX0_readTape_155 (by decide) (fun c155 => ?_) (fun c155 => ?_)
                    · skip
                      refine x_iincN C (i := 3) (b := 29) dX0_readTape_163 xl3 rfl (by decide) ?_
                      refine x_goto C 6 dX0_readTape_166 (by decide) ?_
                      exact ih6 _ (by omega) m true (a + 29) f9 A (x_hv b t true (a + 12)) (x_hv b t false (a + 20)) p5 p6 p7 gr f16 f17 f18 rfl (by omega) (by omega) (by omega) hkp (Or.inl ⟨htp, by
                            by_cases h141 : a + 28 < t
                            · refine z_eqf_e hRn ((z_fl_z hta hen hrw hz).trans ?_)
                              rw [if_pos h141, if_pos (by first | exact c155 | omega)]
                            · rw [z_fl_e0 f9 (by omega)]
                              exact z_eqf_a (z_eqf_e hRn ((z_fl_z hta hen hrw hz).trans (if_neg h141)))⟩) _ xl0 xl1 rfl rfl
                    · skip
                      refine x_iconst C (-1) dX0_readTape_158 rfl ?_
                      refine x_iload C (i := 4) dX0_readTape_159 rfl ?_
                      refine x_isub C dX0_readTape_161 ?_
                      refine x_iret C xr xk dX0_readTape_162 ?_
                      exact hK _ _ (by
                        have hE : (x_fil b t n0 A0).1 = false ∧ (x_fil b t n0 A0).2.1 = a + 28 ∧ (x_fil b t n0 A0).2.2.1 = _ ∧ (x_fil b t n0 A0).2.2.2 = _ := z_eqf_f hRn ((z_fl_z hta hen hrw hz).trans ((if_pos c141).trans (if_neg c155)))
                        obtain ⟨e1, e2, e3, e4⟩ := hE
                        refine Or.inl ⟨e1, by rw [e2], _, _, _, _, _, _, _, _, _, rfl, ?_⟩
                        rw [e4]
                        exact z_kp_le hkp (by omega))
          · skip
            refine x_sig (σ' := x_st σ [(15, 3, nI n0), (19, 3, p3), (19, 4, p4), (19, 5, p5), (19, 6, p6), (19, 7, nI ((x_row b t a).2))] [(16, f16), (17, f17), (18, f18), (20, gr)] []) (x_st_st rfl) ?_
            refine x_if_neZ C 44 dX0_readTape_34 (by decide) (fun c34 => absurd c34 (by decide)) (fun c34 => ?_)
            refine x_iconst C (-1) dX0_readTape_37 rfl ?_
            refine x_aload_n C (i := 0) dX0_readTape_38 rfl xl0 ?_
            refine x_getI C fi_19_7 kf_X0_33 dX0_readTape_39 ?_
            refine x_topI (y := nI ((x_row b t a).2)) rfl ?_
            refine x_isub C dX0_readTape_42 ?_
            have hen : en = false := c22
            refine x_iret C xr xk dX0_readTape_43 ?_
            exact hK _ _ (by
              rcases hR with ⟨htp, hRn⟩ | ⟨ht0, ha0, hm0, -, hA0⟩
              · rw [hf9] at hRn
                obtain ⟨e1, e2, e3, e4⟩ := z_eqf_f hRn (z_fl_bad (by omega) hen hrw)
                refine Or.inl ⟨e1, by rw [e2], _, _, _, _, _, _, _, _, _, rfl, ?_⟩
                rw [e4]
                exact z_kp_le hkp (by omega)
              · subst ht0; subst ha0; subst hm0; subst hA0
                rw [z_fil0, z_row0]
                exact Or.inl ⟨rfl, rfl, _, _, _, _, _, _, _, _, _, rfl, hkp⟩)
        · skip
          refine x_iconst C (-1) dX0_readTape_25 rfl ?_
          refine x_iload_n C (i := 3) dX0_readTape_26 rfl xl3 ?_
          refine x_isub C dX0_readTape_27 ?_
          refine x_iret C xr xk dX0_readTape_28 ?_
          exact hK _ _ (by
            have hE : (x_fil b t n0 A0).1 = false ∧ (x_fil b t n0 A0).2.1 = a ∧ (x_fil b t n0 A0).2.2.1 = _ ∧ (x_fil b t n0 A0).2.2.2 = _ := z_eqf_f (hR.resolve_right (fun z => by rw [c22] at z; exact absurd z.2.2.2.1 (by decide))).2 (by
              have htp := (hR.resolve_right (fun z => by rw [c22] at z; exact absurd z.2.2.2.1 (by decide))).1
              rw [hf9]; exact z_fl_en (by omega) c22)
            obtain ⟨e1, e2, e3, e4⟩ := hE
            refine Or.inl ⟨e1, by rw [e2], _, _, _, _, _, _, _, _, _, rfl, ?_⟩
            rw [e4]
            exact z_kp_le hkp (by omega))
      · skip
        refine x_iload_n C (i := 3) dX0_readTape_10 rfl xl3 ?_
        refine x_aload_n C (i := 0) dX0_readTape_11 rfl xl0 ?_
        refine x_getR C fr_19_0 kf_X0_15 dX0_readTape_12 ?_
        refine x_getI C fi_1_1 kf_X0_23 dX0_readTape_15 ?_
        refine x_topI (y := nI t) ht ?_
        refine x_icmp_geN C 169 dX0_readTape_18 (by decide) (by omega) (by omega) (fun c18 => ?_) (fun c18 => ?_)
        · skip
          have c18' := Nat.not_lt.mpr c18
          have hE := z_eqf_t (hR.resolve_right (fun z => by omega)).2 (z_fl_e0 f (by omega))
          refine x_aload_n C (i := 0) dX0_readTape_169 rfl xl0 ?_
          refine x_getR C fr_19_1 kf_X0_19 dX0_readTape_170 ?_
          refine x_dup C dX0_readTape_173 rfl ?_
          refine x_getI C fi_15_3 kf_X0_58 dX0_readTape_174 ?_
          refine x_topI (y := nI n0) rfl ?_
          refine x_iload_n C (i := 1) dX0_readTape_177 rfl xl1 ?_
          refine x_iaddN C dX0_readTape_178 ?_
          refine x_putN C fi_15_3 kf_X0_58 rfl rfl dX0_readTape_179 ?_
          refine x_sig (σ' := x_st σ [(15, 3, nI (n0 + m)), (19, 3, q3), (19, 4, q4), (19, 5, q5), (19, 6, q6), (19, 7, q7)] [(16, f16), (17, f17), (18, f18), (20, g)] []) (x_st_u rfl) ?_
          refine x_iload_n C (i := 1) dX0_readTape_182 rfl xl1 ?_
          refine x_iret C xr xk dX0_readTape_183 ?_
          exact hK _ _ (by
            obtain ⟨e1, e2, e3⟩ := hE
            refine Or.inr ⟨e1, by omega, by omega, by rw [e2, Nat.add_sub_cancel_left], _, _, _, _, _, _, _, _, _, by rw [e2], ?_⟩
            rw [e2, e3]
            exact hkp)
        · skip
          have c18' := Nat.not_le.mpr c18
          obtain ⟨f9, hf9⟩ : ∃ f9, f = f9 + 1 := ⟨f - 1, by omega⟩
          refine x_iload_n C (i := 2) dX0_readTape_21 rfl xl2 ?_
          refine x_if_eqZ C 29 dX0_readTape_22 (by decide) (fun c22 => ?_) (fun c22 => ?_)
          · skip
            refine x_aload_n C (i := 0) dX0_readTape_29 rfl xl0 ?_
            refine x_iload_n C (i := 3) dX0_readTape_30 rfl xl3 ?_
            have hM := c_X0_readRow l Y (x_st σ [(15, 3, nI n0), (19, 3, q3), (19, 4, q4), (19, 5, q5), (19, 6, q6), (19, 7, q7)] [(16, f16), (17, f17), (18, f18), (20, g)] []) a (by omega) b t ht hb ht8
            refine x_callV C (as := [.int (nI a)]) (st := []) (hM) kb_X0_readRow kv_X0_29 dX0_readTape_31 rfl rfl (Nat.le_of_ble_eq_true rfl) ⟨by decide, by decide⟩ ⟨by decide, by decide⟩ ko_19 ?_
            clear hM
            rintro _ _ (⟨hrw, rfl, gr, p5, p6, p7, rfl, hg0, hg1, hg2⟩ | ⟨hrw, rfl, p3, p4, p5, p6, gr, rfl⟩)
            · skip
              refine x_sig (σ' := x_st σ [(15, 3, nI n0), (19, 3, x_hv b t true (a + 12)), (19, 4, x_hv b t false (a + 20)), (19, 5, p5), (19, 6, p6), (19, 7, p7)] [(16, f16), (17, f17), (18, f18), (20, gr)] []) (x_st_st rfl) ?_
              have hrl := x_row_le hrw
              obtain ⟨htp, hRn⟩ := hR.resolve_right (fun z => by omega)
              rw [hf9] at hRn
              have hta : ¬ t ≤ a := by omega
              have hen : en = false := c22
              refine x_if_neZ C 44 dX0_readTape_34 (by decide) (fun c34 => ?_) (fun c34 => absurd c34 (by decide))
              have lp76 : (x_rz b t a = false) → ∀ L : x_Lo, L.1 0 = some (.ref 19) → L.1 1 = some (.int (nI m)) → L.1 2 = some (.int (x_z en)) → L.1 3 = some (.int (nI a)) → x_W xp l xe (x_rm 5) xs xm xg xb xt xc 5 Y 0 0 (MQ xb (x_Q Y K) xg xs 0 0 (x_A Y)) 76 L [] (x_st σ [(15, 3, nI n0), (19, 3, x_hv b t true (a + 12)), (19, 4, x_hv b t false (a + 20)), (19, 5, p5), (19, 6, p6), (19, 7, p7)] [(16, f16), (17, f17), (18, f18), (20, gr)] []) := by
                intro  hz L xl0 xl1 xl2 xl3
                refine x_aload_n C (i := 0) dX0_readTape_76 rfl xl0 ?_
                refine x_getR C fr_19_1 kf_X0_19 dX0_readTape_77 ?_
                refine x_iload_n C (i := 1) dX0_readTape_80 rfl xl1 ?_
                refine x_aload_n C (i := 0) dX0_readTape_81 rfl xl0 ?_
                refine x_getR C fr_19_2 kf_X0_9 dX0_readTape_82 ?_
                refine x_iconst C (nI 0) dX0_readTape_85 rfl ?_
                refine x_ialdN C (by decide) rfl (by decide) dX0_readTape_86 (by omega) ?_
                refine x_topI (y := gr 0) rfl ?_
                refine x_topI (y := x_iv b t a) hg0 ?_
                refine x_aload_n C (i := 0) dX0_readTape_87 rfl xl0 ?_
                refine x_getR C fr_19_2 kf_X0_9 dX0_readTape_88 ?_
                refine x_iconst C (nI 1) dX0_readTape_91 rfl ?_
                refine x_ialdN C (by decide) rfl (by decide) dX0_readTape_92 (by omega) ?_
                refine x_topI (y := gr 1) rfl ?_
                refine x_topI (y := x_iv b t (a + 4)) hg1 ?_
                refine x_aload_n C (i := 0) dX0_readTape_93 rfl xl0 ?_
                refine x_getR C fr_19_2 kf_X0_9 dX0_readTape_94 ?_
                refine x_iconst C (nI 2) dX0_readTape_97 rfl ?_
                refine x_ialdN C (by decide) rfl (by decide) dX0_readTape_98 (by omega) ?_
                refine x_topI (y := gr 2) rfl ?_
                refine x_topI (y := x_iv b t (a + 8)) hg2 ?_
                have hM := c_X3_pack l Y (x_st σ [(15, 3, nI n0), (19, 3, x_hv b t true (a + 12)), (19, 4, x_hv b t false (a + 20)), (19, 5, p5), (19, 6, p6), (19, 7, p7)] [(16, f16), (17, f17), (18, f18), (20, gr)] []) (x_iv b t a) (x_iv b t (a + 4)) (x_iv b t (a + 8))
                refine x_callS C (as := [.int (x_iv b t a), .int (x_iv b t (a + 4)), .int (x_iv b t (a + 8))]) (st := [.int (nI m), .ref 15]) (hM) kb_X3_pack ks_X0_36 dX0_readTape_99 rfl rfl (Nat.le_of_ble_eq_true rfl) ⟨by decide, by decide⟩ ⟨by decide, by decide⟩ ?_
                clear hM
                rintro _ _ ⟨rfl, rfl⟩
                refine x_aload_n C (i := 0) dX0_readTape_102 rfl xl0 ?_
                refine x_getI C fi_19_3 kf_X0_42 dX0_readTape_103 ?_
                refine x_topI (y := x_hv b t true (a + 12)) rfl ?_
                refine x_aload_n C (i := 0) dX0_readTape_106 rfl xl0 ?_
                refine x_getI C fi_19_4 kf_X0_45 dX0_readTape_107 ?_
                refine x_topI (y := x_hv b t false (a + 20)) rfl ?_
                have hM := c_X6_write l Y (x_st σ [(15, 3, nI n0), (19, 3, x_hv b t true (a + 12)), (19, 4, x_hv b t false (a + 20)), (19, 5, p5), (19, 6, p6), (19, 7, p7)] [(16, f16), (17, f17), (18, f18), (20, gr)] []) m (z_pack (x_iv b t a) (x_iv b t (a + 4)) (x_iv b t (a + 8))) (x_hv b t true (a + 12)) (x_hv b t false (a + 20)) n0 rfl hm9 f16 f17 f18 rfl rfl rfl
                refine x_callV C (as := [.int (nI m), .int (z_pack (x_iv b t a) (x_iv b t (a + 4)) (x_iv b t (a + 8))), .int (x_hv b t true (a + 12)), .int (x_hv b t false (a + 20))]) (st := []) (hM) kb_X6_write kv_X0_48 dX0_readTape_110 rfl rfl (Nat.le_of_ble_eq_true rfl) ⟨by decide, by decide⟩ ⟨by decide, by decide⟩ ko_15 ?_
                clear hM
                rintro _ _ (⟨hwl, rfl, rfl⟩ | ⟨hwl, rfl, rfl⟩)
                · skip
                  refine x_sig (σ' := x_st σ [(15, 3, nI n0), (19, 3, x_hv b t true (a + 12)), (19, 4, x_hv b t false (a + 20)), (19, 5, p5), (19, 6, p6), (19, 7, p7)] [(16, upd f16 (n0 + m) (z_pack (x_iv b t a) (x_iv b t (a + 4)) (x_iv b t (a + 8)))), (17, upd f17 (n0 + m) (x_hv b t true (a + 12))), (18, upd f18 (n0 + m) (x_hv b t false (a + 20))), (20, gr)] []) (x_st_st rfl) ?_
                  refine x_if_eqZ C 122 dX0_readTape_113 (by decide) (fun c113 => absurd c113 (by decide)) (fun c113 => ?_)
                  refine x_iincN C (i := 1) (b := 1) dX0_readTape_116 xl1 rfl (by decide) ?_
                  refine x_goto C 126 dX0_readTape_119 (by decide) ?_
                  refine x_iload_n C (i := 3) dX0_readTape_126 rfl xl3 ?_
                  refine x_bipush C (nI 28) dX0_readTape_127 rfl ?_
                  refine x_iaddN C dX0_readTape_129 ?_
                  refine x_istore C (i := 4) dX0_readTape_130 (by decide) ?_
                  refine x_iload C (i := 4) dX0_readTape_132 rfl ?_
                  refine x_aload_n C (i := 0) dX0_readTape_134 rfl xl0 ?_
                  refine x_getR C fr_19_0 kf_X0_15 dX0_readTape_135 ?_
                  refine x_getI C fi_1_1 kf_X0_23 dX0_readTape_138 ?_
                  refine x_topI (y := nI t) ht ?_
                  refine x_icmp_geN C 163 dX0_readTape_141 (by decide) (by omega) (by omega) (fun c141 => ?_) (fun c141 => ?_)
                  · skip
                    have c141' := Nat.not_lt.mpr c141
                    refine x_iincN C (i := 3) (b := 29) dX0_readTape_163 xl3 rfl (by decide) ?_
                    refine x_goto C 6 dX0_readTape_166 (by decide) ?_
                    exact ih6 _ (by omega) (m + 1) en (a + 29) f9 (x_ap b t a (n0 + m) A) (x_hv b t true (a + 12)) (x_hv b t false (a + 20)) p5 p6 p7 gr (upd f16 (n0 + m) (z_pack (x_iv b t a) (x_iv b t (a + 4)) (x_iv b t (a + 8)))) (upd f17 (n0 + m) (x_hv b t true (a + 12))) (upd f18 (n0 + m) (x_hv b t false (a + 20))) rfl (by omega) (by omega) (by omega) (z_kp_s hkp) (Or.inl ⟨htp, by
                          rw [show n0 + (m + 1) = n0 + m + 1 from rfl]
                          by_cases h141 : a + 28 < t
                          · refine z_eqf_e hRn ((z_fl_n hta hen hrw hz (by omega)).trans ?_)
                            rw [if_pos h141, if_pos (by first | exact c155 | omega), hen]
                          · rw [z_fl_e0 f9 (by omega)]
                            exact z_eqf_a (z_eqf_e hRn ((z_fl_n hta hen hrw hz (by omega)).trans (if_neg h141)))⟩) _ xl0 rfl xl2 rfl
                  · skip
                    have c141' := Nat.not_le.mpr c141
                    refine x_aload_n C (i := 0) dX0_readTape_144 rfl xl0 ?_
                    refine x_getR C fr_19_0 kf_X0_15 dX0_readTape_145 ?_
                    refine x_iload C (i := 4) dX0_readTape_148 rfl ?_
                    have hM := c_X9_byteAt l Y (x_st σ [(15, 3, nI n0), (19, 3, x_hv b t true (a + 12)), (19, 4, x_hv b t false (a + 20)), (19, 5, p5), (19, 6, p6), (19, 7, p7)] [(16, upd f16 (n0 + m) (z_pack (x_iv b t a) (x_iv b t (a + 4)) (x_iv b t (a + 8)))), (17, upd f17 (n0 + m) (x_hv b t true (a + 12))), (18, upd f18 (n0 + m) (x_hv b t false (a + 20))), (20, gr)] []) (a + 28) t b ht hb ht8 (by omega)
                    refine x_callV C (as := [.int (nI (a + 28))]) (st := []) (hM) kb_X9_byteAt kv_X0_54 dX0_readTape_150 rfl rfl (Nat.le_of_ble_eq_true rfl) ⟨by decide, by decide⟩ ⟨by decide, by decide⟩ ko_1 ?_
                    clear hM
                    rintro _ _ ⟨rfl, rfl⟩
                    refine x_bipush C (nI 10) dX0_readTape_153 rfl ?_
                    refine x_icmp_eq C 163 dX0_readTape_155 (by decide) (fun c155 => ?_) (fun c155 => ?_)
                    · skip
                      refine x_iincN C (i := 3) (b := 29) dX0_readTape_163 xl3 rfl (by decide) ?_
                      refine x_goto C 6 dX0_readTape_166 (by decide) ?_
                      exact ih6 _ (by omega) (m + 1) en (a + 29) f9 (x_ap b t a (n0 + m) A) (x_hv b t true (a + 12)) (x_hv b t false (a + 20)) p5 p6 p7 gr (upd f16 (n0 + m) (z_pack (x_iv b t a) (x_iv b t (a + 4)) (x_iv b t (a + 8)))) (upd f17 (n0 + m) (x_hv b t true (a + 12))) (upd f18 (n0 + m) (x_hv b t false (a + 20))) rfl (by omega) (by omega) (by omega) (z_kp_s hkp) (Or.inl ⟨htp, by
                            rw [show n0 + (m + 1) = n0 + m + 1 from rfl]
                            by_cases h141 : a + 28 < t
                            · refine z_eqf_e hRn ((z_fl_n hta hen hrw hz (by omega)).trans ?_)
                              rw [if_pos h141, if_pos (by first | exact c155 | omega), hen]
                            · rw [z_fl_e0 f9 (by omega)]
                              exact z_eqf_a (z_eqf_e hRn ((z_fl_n hta hen hrw hz (by omega)).trans (if_neg h141)))⟩) _ xl0 rfl xl2 rfl
                    · skip
                      refine x_iconst C (-1) dX0_readTape_158 rfl ?_
                      refine x_iload C (i := 4) dX0_readTape_159 rfl ?_
                      refine x_isub C dX0_readTape_161 ?_
                      refine x_iret C xr xk dX0_readTape_162 ?_
                      exact hK _ _ (by
                        have hE : (x_fil b t n0 A0).1 = false ∧ (x_fil b t n0 A0).2.1 = a + 28 ∧ (x_fil b t n0 A0).2.2.1 = _ ∧ (x_fil b t n0 A0).2.2.2 = _ := z_eqf_f hRn ((z_fl_n hta hen hrw hz (by omega)).trans ((if_pos c141).trans (if_neg c155)))
                        obtain ⟨e1, e2, e3, e4⟩ := hE
                        refine Or.inl ⟨e1, by rw [e2], _, _, _, _, _, _, _, _, _, rfl, ?_⟩
                        rw [e4]
                        exact z_kp_le (z_kp_s hkp) (by omega))
                · skip
                  refine x_if_eqZ C 122 dX0_readTape_113 (by decide) (fun c113 => ?_) (fun c113 => absurd c113 (by decide))
                  refine x_iconst C (-1) dX0_readTape_122 rfl ?_
                  refine x_iload_n C (i := 3) dX0_readTape_123 rfl xl3 ?_
                  refine x_isub C dX0_readTape_124 ?_
                  refine x_iret C xr xk dX0_readTape_125 ?_
                  exact hK _ _ (by
                    have hE : (x_fil b t n0 A0).1 = false ∧ (x_fil b t n0 A0).2.1 = a ∧ (x_fil b t n0 A0).2.2.1 = _ ∧ (x_fil b t n0 A0).2.2.2 = _ := z_eqf_f hRn (z_fl_full hta hen hrw hz hwl)
                    obtain ⟨e1, e2, e3, e4⟩ := hE
                    refine Or.inl ⟨e1, by rw [e2], _, _, _, _, _, _, _, _, _, rfl, ?_⟩
                    rw [e4]
                    exact z_kp_le hkp (by omega))
              refine x_aload_n C (i := 0) dX0_readTape_44 rfl xl0 ?_
              refine x_getR C fr_19_2 kf_X0_9 dX0_readTape_45 ?_
              refine x_iconst C (nI 0) dX0_readTape_48 rfl ?_
              refine x_ialdN C (by decide) rfl (by decide) dX0_readTape_49 (by omega) ?_
              refine x_topI (y := gr 0) rfl ?_
              refine x_topI (y := x_iv b t a) hg0 ?_
              refine x_if_ne C 76 dX0_readTape_50 (by decide) (fun c50 => ?_) (fun c50 => ?_)
              · skip
                exact lp76 (z_rzf (Or.inl c50)) _ xl0 xl1 xl2 xl3
              · skip
                refine x_aload_n C (i := 0) dX0_readTape_53 rfl xl0 ?_
                refine x_getR C fr_19_2 kf_X0_9 dX0_readTape_54 ?_
                refine x_iconst C (nI 1) dX0_readTape_57 rfl ?_
                refine x_ialdN C (by decide) rfl (by decide) dX0_readTape_58 (by omega) ?_
                refine x_topI (y := gr 1) rfl ?_
                refine x_topI (y := x_iv b t (a + 4)) hg1 ?_
                refine x_if_ne C 76 dX0_readTape_59 (by decide) (fun c59 => ?_) (fun c59 => ?_)
                · skip
                  exact lp76 (z_rzf (Or.inr (Or.inl c59))) _ xl0 xl1 xl2 xl3
                · skip
                  refine x_aload_n C (i := 0) dX0_readTape_62 rfl xl0 ?_
                  refine x_getR C fr_19_2 kf_X0_9 dX0_readTape_63 ?_
                  refine x_iconst C (nI 2) dX0_readTape_66 rfl ?_
                  refine x_ialdN C (by decide) rfl (by decide) dX0_readTape_67 (by omega) ?_
                  refine x_topI (y := gr 2) rfl ?_
                  refine x_topI (y := x_iv b t (a + 8)) hg2 ?_
                  refine x_if_ne C 76 dX0_readTape_68 (by decide) (fun c68 => ?_) (fun c68 => ?_)
                  · skip
                    exact lp76 (z_rzf (Or.inr (Or.inr c68))) _ xl0 xl1 xl2 xl3
                  · skip
                    have hz := z_rzt c50 c59 c68
                    refine x_iconst C (nI 1) dX0_readTape_71 rfl ?_
                    refine x_istore_n C (i := 2) dX0_readTape_72 rfl (by decide) ?_
                    refine x_goto C 126 dX0_readTape_73 (by decide) ?_
                    refine x_iload_n C (i := 3) dX0_readTape_126 rfl xl3 ?_
                    refine x_bipush C (nI 28) dX0_readTape_127 rfl ?_
                    refine x_iaddN C dX0_readTape_129 ?_
                    refine x_istore C (i := 4) dX0_readTape_130 (by decide) ?_
                    refine x_iload C (i := 4) dX0_readTape_132 rfl ?_
                    refine x_aload_n C (i := 0) dX0_readTape_134 rfl xl0 ?_
                    refine x_getR C fr_19_0 kf_X0_15 dX0_readTape_135 ?_
                    refine x_getI C fi_1_1 kf_X0_23 dX0_readTape_138 ?_
                    refine x_topI (y := nI t) ht ?_
                    refine x_icmp_geN C 163 dX0_readTape_141 (by decide) (by omega) (by omega) (fun c141 => ?_) (fun c141 => ?_)
                    · skip
                      have c141' := Nat.not_lt.mpr c141
                      refine x_iincN C (i := 3) (b := 29) dX0_readTape_163 xl3 rfl (by decide) ?_
                      refine x_goto C 6 dX0_readTape_166 (by decide) ?_
                      exact ih6 _ (by omega) m true (a + 29) f9 A (x_hv b t true (a + 12)) (x_hv b t false (a + 20)) p5 p6 p7 gr f16 f17 f18 rfl (by omega) (by omega) (by omega) hkp (Or.inl ⟨htp, by
                            by_cases h141 : a + 28 < t
                            · refine z_eqf_e hRn ((z_fl_z hta hen hrw hz).trans ?_)
                              rw [if_pos h141, if_pos (by first | exact c155 | omega)]
                            · rw [z_fl_e0 f9 (by omega)]
                              exact z_eqf_a (z_eqf_e hRn ((z_fl_z hta hen hrw hz).trans (if_neg h141)))⟩) _ xl0 xl1 rfl rfl
                    · skip
                      have c141' := Nat.not_le.mpr c141
                      refine x_aload_n C (i := 0) dX0_readTape_144 rfl xl0 ?_
                      refine x_getR C fr_19_0 kf_X0_15 dX0_readTape_145 ?_
                      refine x_iload C (i := 4) dX0_readTape_148 rfl ?_
                      have hM := c_X9_byteAt l Y (x_st σ [(15, 3, nI n0), (19, 3, x_hv b t true (a + 12)), (19, 4, x_hv b t false (a + 20)), (19, 5, p5), (19, 6, p6), (19, 7, p7)] [(16, f16), (17, f17), (18, f18), (20, gr)] []) (a + 28) t b ht hb ht8 (by omega)
                      refine x_callV C (as := [.int (nI (a + 28))]) (st := []) (hM) kb_X9_byteAt kv_X0_54 dX0_readTape_150 rfl rfl (Nat.le_of_ble_eq_true rfl) ⟨by decide, by decide⟩ ⟨by decide, by decide⟩ ko_1 ?_
                      clear hM
                      rintro _ _ ⟨rfl, rfl⟩
                      refine x_bipush C (nI 10) dX0_readTape_153 rfl ?_
                      refine x_icmp_eq C 163 dX0_readTape_155 (by decide) (fun c155 => ?_) (fun c155 => ?_)
                      · skip
                        refine x_iincN C (i := 3) (b := 29) dX0_readTape_163 xl3 rfl (by decide) ?_
                        refine x_goto C 6 dX0_readTape_166 (by decide) ?_
                        exact ih6 _ (by omega) m true (a + 29) f9 A (x_hv b t true (a + 12)) (x_hv b t false (a + 20)) p5 p6 p7 gr f16 f17 f18 rfl (by omega) (by omega) (by omega) hkp (Or.inl ⟨htp, by
                              by_cases h141 : a + 28 < t
                              · refine z_eqf_e hRn ((z_fl_z hta hen hrw hz).trans ?_)
                                rw [if_pos h141, if_pos (by first | exact c155 | omega)]
                              · rw [z_fl_e0 f9 (by omega)]
                                exact z_eqf_a (z_eqf_e hRn ((z_fl_z hta hen hrw hz).trans (if_neg h141)))⟩) _ xl0 xl1 rfl rfl
                      · skip
                        refine x_iconst C (-1) dX0_readTape_158 rfl ?_
                        refine x_iload C (i := 4) dX0_readTape_159 rfl ?_
                        refine x_isub C dX0_readTape_161 ?_
                        refine x_iret C xr xk dX0_readTape_162 ?_
                        exact hK _ _ (by
                          have hE : (x_fil b t n0 A0).1 = false ∧ (x_fil b t n0 A0).2.1 = a + 28 ∧ (x_fil b t n0 A0).2.2.1 = _ ∧ (x_fil b t n0 A0).2.2.2 = _ := z_eqf_f hRn ((z_fl_z hta hen hrw hz).trans ((if_pos c141).trans (if_neg c155)))
                          obtain ⟨e1, e2, e3, e4⟩ := hE
                          refine Or.inl ⟨e1, by rw [e2], _, _, _, _, _, _, _, _, _, rfl, ?_⟩
                          rw [e4]
                          exact z_kp_le hkp (by omega))
            · skip
              refine x_sig (σ' := x_st σ [(15, 3, nI n0), (19, 3, p3), (19, 4, p4), (19, 5, p5), (19, 6, p6), (19, 7, nI ((x_row b t a).2))] [(16, f16), (17, f17), (18, f18), (20, gr)] []) (x_st_st rfl) ?_
              refine x_if_neZ C 44 dX0_readTape_34 (by decide) (fun c34 => absurd c34 (by decide)) (fun c34 => ?_)
              refine x_iconst C (-1) dX0_readTape_37 rfl ?_
              refine x_aload_n C (i := 0) dX0_readTape_38 rfl xl0 ?_
              refine x_getI C fi_19_7 kf_X0_33 dX0_readTape_39 ?_
              refine x_topI (y := nI ((x_row b t a).2)) rfl ?_
              refine x_isub C dX0_readTape_42 ?_
              have hen : en = false := c22
              refine x_iret C xr xk dX0_readTape_43 ?_
              exact hK _ _ (by
                rcases hR with ⟨htp, hRn⟩ | ⟨ht0, ha0, hm0, -, hA0⟩
                · rw [hf9] at hRn
                  obtain ⟨e1, e2, e3, e4⟩ := z_eqf_f hRn (z_fl_bad (by omega) hen hrw)
                  refine Or.inl ⟨e1, by rw [e2], _, _, _, _, _, _, _, _, _, rfl, ?_⟩
                  rw [e4]
                  exact z_kp_le hkp (by omega)
                · subst ht0; subst ha0; subst hm0; subst hA0
                  rw [z_fil0, z_row0]
                  exact Or.inl ⟨rfl, rfl, _, _, _, _, _, _, _, _, _, rfl, hkp⟩)
          · skip
            refine x_iconst C (-1) dX0_readTape_25 rfl ?_
            refine x_iload_n C (i := 3) dX0_readTape_26 rfl xl3 ?_
            refine x_isub C dX0_readTape_27 ?_
            refine x_iret C xr xk dX0_readTape_28 ?_
            exact hK _ _ (by
              have hE : (x_fil b t n0 A0).1 = false ∧ (x_fil b t n0 A0).2.1 = a ∧ (x_fil b t n0 A0).2.2.1 = _ ∧ (x_fil b t n0 A0).2.2.2 = _ := z_eqf_f (hR.resolve_right (fun z => by rw [c22] at z; exact absurd z.2.2.2.1 (by decide))).2 (by
                have htp := (hR.resolve_right (fun z => by rw [c22] at z; exact absurd z.2.2.2.1 (by decide))).1
                rw [hf9]; exact z_fl_en (by omega) c22)
              obtain ⟨e1, e2, e3, e4⟩ := hE
              refine Or.inl ⟨e1, by rw [e2], _, _, _, _, _, _, _, _, _, rfl, ?_⟩
              rw [e4]
              exact z_kp_le hkp (by omega))
  exact lp6 _ 0 false 0 (t + 1) A0 (σ.1 19 3) (σ.1 19 4) (σ.1 19 5) (σ.1 19 6) (σ.1 19 7) (σ.1 20) (σ.1 16) (σ.1 17) (σ.1 18) rfl hn9 (Nat.zero_le _) (by omega) hk0 (by
        rcases Nat.eq_zero_or_pos t with h9 | h9
        · exact Or.inr ⟨h9, rfl, rfl, rfl, rfl⟩
        · exact Or.inl ⟨h9, by rw [z_fil h9]; exact z_eqf_rf _⟩) _ rfl rfl rfl rfl
theorem c_X0_readTape (l : Launch) (Y : x_Y) (σ : x_S) (n0 : Nat) (hn : σ.1 15 3 = nI n0) (hn9 : n0 ≤ 3000) (A0 : x_A5) (hk0 : z_kp (σ.1 16) (σ.1 17) (σ.1 18) A0 n0) (b : Nat → Int32) (t : Nat) (ht : σ.1 1 1 = nI t) (hb : σ.1 2 = b) (ht8 : t ≤ 8000) : x_M l yX0_readTape cX0_readTape 5 (some .int) 5 Y [.ref 19] σ (fun r τ => ((x_fil b t n0 A0).1 = false ∧ r = some (.int (-1 - nI (x_fil b t n0 A0).2.1)) ∧ ∃ q3 q4 q5 q6 q7 g f16 f17 f18, τ = x_st σ [(15, 3, nI n0), (19, 3, q3), (19, 4, q4), (19, 5, q5), (19, 6, q6), (19, 7, q7)] [(16, f16), (17, f17), (18, f18), (20, g)] [] ∧ z_kp f16 f17 f18 (x_fil b t n0 A0).2.2.2 n0) ∨ ((x_fil b t n0 A0).1 = true ∧ n0 ≤ (x_fil b t n0 A0).2.2.1 ∧ (x_fil b t n0 A0).2.2.1 ≤ 3000 ∧ r = some (.int (nI ((x_fil b t n0 A0).2.2.1 - n0))) ∧ ∃ q3 q4 q5 q6 q7 g f16 f17 f18, τ = x_st σ [(15, 3, nI (x_fil b t n0 A0).2.2.1), (19, 3, q3), (19, 4, q4), (19, 5, q5), (19, 6, q6), (19, 7, q7)] [(16, f16), (17, f17), (18, f18), (20, g)] [] ∧ z_kp f16 f17 f18 (x_fil b t n0 A0).2.2.2 (x_fil b t n0 A0).2.2.1)) := c_X0_readTape_K l Y σ n0 hn hn9 A0 hk0 b t ht hb ht8 _ (fun _ _ h => h)
