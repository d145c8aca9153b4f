set_option maxRecDepth 100000 in
set_option maxHeartbeats 200000 in
theorem c_X12_file_K (l : Launch) (Y : x_Y) (σ : x_S) (n0 : Nat) (ng0 : Bool) (A0 : x_A5) (hA0 : A0 = (σ.1 49, σ.1 50, σ.1 51, σ.1 52, σ.1 53)) (hng : σ.1 38 27 = x_z ng0) (hrf : σ.1 38 20 = nI n0) (hn3 : n0 ≤ 3000) (b : Nat → Int32) (t : Nat) (hb : σ.1 39 = b) (ht : σ.1 38 2 = nI t) (ht8 : t ≤ 8000) (K : Option Value → x_S → Prop) (hK : ∀ (r : Option Value) (τ : x_S), (∃ en v ng, ((x_fil b t n0 A0).1 = false ∧ r = some (.int (-1 - nI (x_fil b t n0 A0).2.1)) ∧ τ = x_u (x_fz (x_u σ 38 0 (nI 0)) en (x_fil b t n0 A0).2.2.2.1 (x_fil b t n0 A0).2.2.2.2.1 (x_fil b t n0 A0).2.2.2.2.2.1 (x_fil b t n0 A0).2.2.2.2.2.2.1 (x_fil b t n0 A0).2.2.2.2.2.2.2 (x_fil b t n0 A0).2.1 v ng) 38 2 (nI 0)) ∨ ((x_fil b t n0 A0).1 = true ∧ n0 ≤ (x_fil b t n0 A0).2.2.1 ∧ (x_fil b t n0 A0).2.2.1 ≤ 3000 ∧ r = some (.int (nI ((x_fil b t n0 A0).2.2.1 - n0))) ∧ τ = x_u (x_u (x_fz (x_u σ 38 0 (nI 0)) en (x_fil b t n0 A0).2.2.2.1 (x_fil b t n0 A0).2.2.2.2.1 (x_fil b t n0 A0).2.2.2.2.2.1 (x_fil b t n0 A0).2.2.2.2.2.2.1 (x_fil b t n0 A0).2.2.2.2.2.2.2 (x_fil b t n0 A0).2.1 v ng) 38 2 (nI 0)) 38 20 (nI (x_fil b t n0 A0).2.2.1))) → K r τ) : x_M l yX12_file cX12_file 4 (some .int) 4 Y [.ref 38] σ K := by
  refine x_start (by decide) (Nat.le_of_ble_eq_true rfl) ?_
  intro xp xe xs xm xg xb xt xc C xr xk
  refine x_aload_n C (i := 0) dX12_file_0 rfl rfl ?_
  refine x_iconst C (nI 0) dX12_file_1 rfl ?_
  refine x_putN C fi_38_0 kf_X12_85 rfl rfl dX12_file_2 ?_
  refine x_aload_n C (i := 0) dX12_file_5 rfl rfl ?_
  refine x_iconst C (nI 0) dX12_file_6 rfl ?_
  refine x_putN C fi_38_3 kf_X12_100 rfl rfl dX12_file_7 ?_
  refine x_aload_n C (i := 0) dX12_file_10 rfl rfl ?_
  refine x_iconst C (nI 0) dX12_file_11 rfl ?_
  refine x_congr (st' := .int (x_z false) :: .ref 38 :: []) rfl rfl ?_
  refine x_putZ C fi_38_28 kf_X12_268 rfl rfl dX12_file_12 ?_
  refine x_sig (σ' := x_fz (x_u σ 38 0 (nI 0)) false (σ.1 49) (σ.1 50) (σ.1 51) (σ.1 52) (σ.1 53) 0 (σ.1 38 26) ng0) (x_fz_start (x_u σ 38 0 (nI 0)) hng) ?_
  refine x_aload_n C (i := 0) dX12_file_15 rfl rfl ?_
  refine x_getI C fi_38_20 kf_X12_271 dX12_file_16 ?_
  refine x_topI (y := nI n0) hrf ?_
  refine x_istore_n C (i := 1) dX12_file_19 rfl (by decide) ?_
  refine x_aload_n C (i := 0) dX12_file_20 rfl rfl ?_
  refine x_getI C fi_38_2 kf_X12_89 dX12_file_21 ?_
  refine x_topI (y := nI t) ht ?_
  refine x_if_leN C 31 dX12_file_24 (by decide) (by omega) (fun c24 => ?_) (fun c24 => ?_)
  · skip
    refine x_iconst C (nI 0) dX12_file_31 rfl ?_
    refine x_istore_n C (i := 2) dX12_file_32 rfl (by decide) ?_
    have lp33 : ∀ (m33 : Nat) (n : Nat) (go : Bool) (en : Bool) (f49 : Nat → Int32) (f50 : Nat → Int32) (f51 : Nat → Int32) (f52 : Nat → Int32) (f53 : Nat → Int32) (a : Nat) (v : Int32) (ng : Bool) (f : Nat), (if go = true then f + 1 else 0) = m33 → (n0 ≤ n) → (n ≤ 3000) → (go = true → a ≤ t ∧ t + 1 ≤ f + a) → ((if go = true then x_flf b t f a n en (f49, f50, f51, f52, f53) else (false, a, n, (f49, f50, f51, f52, f53))) = x_fil b t n0 A0) → ∀ L : x_Lo, L.1 0 = some (.ref 38) → L.1 1 = some (.int (nI n)) → L.1 2 = some (.int (x_z go)) → x_W xp l xe (x_rm 4) xs xm xg xb xt xc 4 Y 0 0 (MQ xb (x_Q Y K) xg xs 0 0 (x_A Y)) 33 L [] (x_fz (x_u σ 38 0 (nI 0)) en f49 f50 f51 f52 f53 a v ng) := by
      intro m33
      induction m33 using Nat.strongRecOn with
      | _ m33 ih33 =>
        intro n go en f49 f50 f51 f52 f53 a v ng f hm33 hn0 hn3 hgo hR L xl0 xl1 xl2
        refine x_iload_n C (i := 2) dX12_file_33 rfl xl2 ?_
        refine x_if_eqZ C 172 dX12_file_34 (by decide) (fun c34 => ?_) (fun c34 => ?_)
        · skip
          subst c34
          rw [if_neg (by decide)] at hR hm33
          refine x_aload_n C (i := 0) dX12_file_172 rfl xl0 ?_
          refine x_iconst C (nI 0) dX12_file_173 rfl ?_
          refine x_putN C fi_38_2 kf_X12_89 rfl rfl dX12_file_174 ?_
          refine x_iload_n C (i := 2) dX12_file_177 rfl xl2 ?_
          refine x_if_neZ C 188 dX12_file_178 (by decide) (fun c178 => absurd c178 (by decide)) (fun c178 => ?_)
          refine x_iconst C (-1) dX12_file_181 rfl ?_
          refine x_aload_n C (i := 0) dX12_file_182 rfl xl0 ?_
          refine x_getI C fi_38_3 kf_X12_100 dX12_file_183 ?_
          refine x_topI (y := nI a) rfl ?_
          refine x_isub C dX12_file_186 ?_
          refine x_iret C xr xk dX12_file_187 ?_
          exact hK _ _ (by rw [← hR]; exact ⟨_, _, _, Or.inl ⟨rfl, rfl, rfl⟩⟩)
        · skip
          subst c34
          rw [if_pos rfl] at hR hm33
          obtain ⟨ha, hf⟩ := hgo rfl
          refine x_aload_n C (i := 0) dX12_file_37 rfl xl0 ?_
          refine x_getI C fi_38_3 kf_X12_100 dX12_file_38 ?_
          refine x_topI (y := nI a) rfl ?_
          refine x_aload_n C (i := 0) dX12_file_41 rfl xl0 ?_
          refine x_getI C fi_38_2 kf_X12_89 dX12_file_42 ?_
          refine x_topI (y := nI t) ht ?_
          refine x_icmp_geN C 172 dX12_file_45 (by decide) (by omega) (by omega) (fun c45 => ?_) (fun c45 => ?_)
          · skip
            have c45' := Nat.not_lt.mpr c45
            obtain ⟨f9, hf9⟩ : ∃ f9, f = f9 + 1 := ⟨f - 1, by omega⟩
            rw [hf9] at hR
            unfold x_flf at hR
            rw [if_pos c45] at hR
            refine x_aload_n C (i := 0) dX12_file_172 rfl xl0 ?_
            refine x_iconst C (nI 0) dX12_file_173 rfl ?_
            refine x_putN C fi_38_2 kf_X12_89 rfl rfl dX12_file_174 ?_
            refine x_iload_n C (i := 2) dX12_file_177 rfl xl2 ?_
            refine x_if_neZ C 188 dX12_file_178 (by decide) (fun c178 => ?_) (fun c178 => absurd c178 (by decide))
            refine x_iload_n C (i := 1) dX12_file_188 rfl xl1 ?_
            refine x_aload_n C (i := 0) dX12_file_189 rfl xl0 ?_
            refine x_getI C fi_38_20 kf_X12_271 dX12_file_190 ?_
            refine x_topI (y := nI n0) hrf ?_
            refine x_isubN C dX12_file_193 hn0 ?_
            refine x_istore_n C (i := 3) dX12_file_194 rfl (by decide) ?_
            refine x_aload_n C (i := 0) dX12_file_195 rfl xl0 ?_
            refine x_iload_n C (i := 1) dX12_file_196 rfl xl1 ?_
            refine x_putN C fi_38_20 kf_X12_271 rfl rfl dX12_file_197 ?_
            refine x_iload_n C (i := 3) dX12_file_200 rfl rfl ?_
            refine x_iret C xr xk dX12_file_201 ?_
            exact hK _ _ (by rw [← hR]; exact ⟨_, _, _, Or.inr ⟨rfl, hn0, hn3, rfl, rfl⟩⟩)
          · skip
            have c45' := Nat.not_le.mpr c45
            obtain ⟨f9, hf9⟩ : ∃ f9, f = f9 + 1 := ⟨f - 1, by omega⟩
            refine x_aload_n C (i := 0) dX12_file_48 rfl xl0 ?_
            refine x_getI C fi_38_3 kf_X12_100 dX12_file_49 ?_
            refine x_topI (y := nI a) rfl ?_
            refine x_istore_n C (i := 3) dX12_file_52 rfl (by decide) ?_
            refine x_aload_n C (i := 0) dX12_file_53 rfl xl0 ?_
            refine x_getI C fi_38_28 kf_X12_268 dX12_file_54 ?_
            refine x_topI (y := x_z en) rfl ?_
            refine x_if_neZ C 72 dX12_file_57 (by decide) (fun c57 => ?_) (fun c57 => ?_)
            · skip
              refine x_iconst C (nI 0) dX12_file_72 rfl ?_
              refine x_istore_n C (i := 2) dX12_file_73 rfl (by decide) ?_
              refine x_iload_n C (i := 2) dX12_file_74 rfl rfl ?_
              refine x_if_eqN C 99 dX12_file_75 (by decide) (by omega) (fun c75 => ?_) (fun c75 => absurd c75 (by decide))
              refine x_iload_n C (i := 2) dX12_file_99 rfl rfl ?_
              refine x_if_eqN C 116 dX12_file_100 (by decide) (by omega) (fun c100 => ?_) (fun c100 => absurd c100 (by decide))
              refine x_iload_n C (i := 1) dX12_file_116 rfl xl1 ?_
              refine x_istore_n C (i := 1) dX12_file_117 rfl (by decide) ?_
              refine x_iload_n C (i := 2) dX12_file_118 rfl rfl ?_
              refine x_if_eqN C 169 dX12_file_119 (by decide) (by omega) (fun c119 => ?_) (fun c119 => absurd c119 (by decide))
              refine x_goto C 33 dX12_file_169 (by decide) ?_
              exact ih33 _ (by first | (rw [if_pos rfl]; omega) | (rw [if_neg (by decide)]; omega)) n false en f49 f50 f51 f52 f53 a v ng f rfl (by omega) (by omega) (fun z => absurd z (by decide)) (by rw [if_neg (by decide), ← hR, hf9]; (conv => rhs; unfold x_flf; rw [if_neg (by omega : ¬ t ≤ a), if_pos c57]); first | done | rfl) _ xl0 rfl rfl
            · skip
              refine x_aload_n C (i := 0) dX12_file_60 rfl xl0 ?_
              refine x_iload_n C (i := 1) dX12_file_61 rfl xl1 ?_
              have hM := c_X12_readsRow l Y (x_u σ 38 0 (nI 0)) en f49 f50 f51 f52 f53 a v ng n b t hb ht ht8 (by omega) hn3
              refine x_callV C (as := [.int (nI n)]) (st := []) (hM) kb_X12_readsRow kv_X12_274 dX12_file_62 rfl rfl (Nat.le_of_ble_eq_true rfl) ⟨by decide, by decide⟩ ⟨by decide, by decide⟩ ko_38 ?_
              clear hM
              intro r9 τ9 h9
              have h8 : ((x_row b t a).1 = true ∧ r9 = some (.int (x_z true)) ∧ x_rz b t a = true ∧ τ9 = x_fz (x_u σ 38 0 (nI 0)) true f49 f50 f51 f52 f53 (a + 28) (x_hv b t false (a + 20)) ((x_hun b t false (a + 20)).2.2.1)) ∨ ((x_row b t a).1 = true ∧ r9 = some (.int (x_z true)) ∧ x_rz b t a = false ∧ n < 3000 ∧ τ9 = x_fz (x_u σ 38 0 (nI 0)) false (upd f49 n (x_iv b t a)) (upd f50 n (x_iv b t (a + 4))) (upd f51 n (x_iv b t (a + 8))) (upd f52 n (x_hv b t true (a + 12))) (upd f53 n (x_hv b t false (a + 20))) (a + 28) (x_hv b t false (a + 20)) ((x_hun b t false (a + 20)).2.2.1)) ∨ ((x_row b t a).1 = true ∧ r9 = some (.int (x_z true)) ∧ x_rz b t a = false ∧ 3000 ≤ n ∧ τ9 = x_fz (x_u σ 38 0 (nI 0)) false f49 f50 f51 f52 f53 (a + 28) (x_hv b t false (a + 20)) ((x_hun b t false (a + 20)).2.2.1)) ∨ ((x_row b t a).1 = false ∧ r9 = some (.int (x_z false)) ∧ ∃ v9 n9, τ9 = x_fz (x_u σ 38 0 (nI 0)) en f49 f50 f51 f52 f53 ((x_row b t a).2) v9 n9) := by
                rcases h9 with ⟨hw, hr9, hτ⟩ | h9
                · rcases Bool.eq_false_or_eq_true (x_rz b t a) with hz | hz
                  · rw [if_pos (Or.inl hz), hz] at hτ
                    exact Or.inl ⟨hw, hr9, hz, hτ⟩
                  · rcases Nat.lt_or_ge n 3000 with hn9 | hn9
                    · rw [if_neg (by rw [hz]; simp; omega), hz] at hτ
                      exact Or.inr (Or.inl ⟨hw, hr9, hz, hn9, hτ⟩)
                    · rw [if_pos (Or.inr hn9), hz] at hτ
                      exact Or.inr (Or.inr (Or.inl ⟨hw, hr9, hz, hn9, hτ⟩))
                · exact Or.inr (Or.inr (Or.inr h9))
              rcases h8 with ⟨hw, rfl, hz, rfl⟩ | ⟨hw, rfl, hz, hn9, rfl⟩ | ⟨hw, rfl, hz, hn9, rfl⟩ | ⟨hw, rfl, v9, n9, rfl⟩
              · skip
                have hle := x_row_le hw
                refine x_if_eqZ C 72 dX12_file_65 (by decide) (fun c65 => absurd c65 (by decide)) (fun c65 => ?_)
                refine x_iconst C (nI 1) dX12_file_68 rfl ?_
                refine x_goto C 73 dX12_file_69 (by decide) ?_
                refine x_istore_n C (i := 2) dX12_file_73 rfl (by decide) ?_
                refine x_iload_n C (i := 2) dX12_file_74 rfl rfl ?_
                refine x_if_eqN C 99 dX12_file_75 (by decide) (by omega) (fun c75 => absurd c75 (by decide)) (fun c75 => ?_)
                refine x_aload_n C (i := 0) dX12_file_78 rfl xl0 ?_
                refine x_getI C fi_38_28 kf_X12_268 dX12_file_79 ?_
                refine x_topI (y := x_z true) rfl ?_
                refine x_if_neZ C 99 dX12_file_82 (by decide) (fun c82 => ?_) (fun c82 => absurd c82 (by decide))
                refine x_iload_n C (i := 2) dX12_file_99 rfl rfl ?_
                refine x_if_eqN C 116 dX12_file_100 (by decide) (by omega) (fun c100 => absurd c100 (by decide)) (fun c100 => ?_)
                refine x_aload_n C (i := 0) dX12_file_103 rfl xl0 ?_
                refine x_getI C fi_38_28 kf_X12_268 dX12_file_104 ?_
                refine x_topI (y := x_z true) rfl ?_
                refine x_if_neZ C 116 dX12_file_107 (by decide) (fun c107 => ?_) (fun c107 => absurd c107 (by decide))
                refine x_iload_n C (i := 1) dX12_file_116 rfl xl1 ?_
                refine x_istore_n C (i := 1) dX12_file_117 rfl (by decide) ?_
                refine x_iload_n C (i := 2) dX12_file_118 rfl rfl ?_
                refine x_if_eqN C 169 dX12_file_119 (by decide) (by omega) (fun c119 => absurd c119 (by decide)) (fun c119 => ?_)
                refine x_aload_n C (i := 0) dX12_file_122 rfl xl0 ?_
                refine x_getI C fi_38_3 kf_X12_100 dX12_file_123 ?_
                refine x_topI (y := nI (a + 28)) rfl ?_
                refine x_aload_n C (i := 0) dX12_file_126 rfl xl0 ?_
                refine x_getI C fi_38_2 kf_X12_89 dX12_file_127 ?_
                refine x_topI (y := nI t) ht ?_
                refine x_icmp_geN C 169 dX12_file_130 (by decide) (by omega) (by omega) (fun c130 => ?_) (fun c130 => ?_)
                · skip
                  have c130' := Nat.not_lt.mpr c130
                  refine x_goto C 33 dX12_file_169 (by decide) ?_
                  exact ih33 _ (by first | (rw [if_pos rfl]; omega) | (rw [if_neg (by decide)]; omega)) n true true f49 f50 f51 f52 f53 (a + 28) (x_hv b t false (a + 20)) ((x_hun b t false (a + 20)).2.2.1) f9 rfl (by omega) (by omega) (fun _ => ⟨by omega, by omega⟩) (by rw [if_pos rfl, ← hR, hf9]; (conv => rhs; unfold x_flf; rw [if_neg (by omega : ¬ t ≤ a), if_neg (by rw [c57]; decide), if_pos hw, if_pos hz, if_neg (by omega : ¬ a + 28 < t)]); (conv => lhs; rw [show f9 = (f9 - 1) + 1 by omega]; unfold x_flf; rw [if_pos (by omega)]); first | done | rfl) _ xl0 rfl rfl
                · skip
                  have c130' := Nat.not_le.mpr c130
                  refine x_aload_n C (i := 0) dX12_file_133 rfl xl0 ?_
                  have hM := c_X12_look l Y (x_fz (x_u σ 38 0 (nI 0)) true f49 f50 f51 f52 f53 (a + 28) (x_hv b t false (a + 20)) ((x_hun b t false (a + 20)).2.2.1)) b t (a + 28) hb ht rfl ht8 (by omega)
                  refine x_callV C (as := []) (st := []) (hM) kb_X12_look kv_X12_110 dX12_file_134 rfl rfl (Nat.le_of_ble_eq_true rfl) ⟨by decide, by decide⟩ ⟨by decide, by decide⟩ ko_38 ?_
                  clear hM
                  intro r9 τ9 h9
                  obtain ⟨rfl, h8⟩ := h9
                  rw [h8]
                  clear h8 τ9
                  refine x_bipush C (nI 10) dX12_file_137 rfl ?_
                  refine x_icmp_ne C 146 dX12_file_139 (by decide) (fun c139 => ?_) (fun c139 => ?_)
                  · skip
                    refine x_iconst C (nI 0) dX12_file_146 rfl ?_
                    refine x_istore_n C (i := 2) dX12_file_147 rfl (by decide) ?_
                    refine x_aload_n C (i := 0) dX12_file_148 rfl xl0 ?_
                    refine x_iload_n C (i := 2) dX12_file_149 rfl rfl ?_
                    refine x_if_eqN C 162 dX12_file_150 (by decide) (by omega) (fun c150 => ?_) (fun c150 => absurd c150 (by decide))
                    refine x_aload_n C (i := 0) dX12_file_162 rfl xl0 ?_
                    refine x_getI C fi_38_3 kf_X12_100 dX12_file_163 ?_
                    refine x_topI (y := nI (a + 28)) rfl ?_
                    refine x_putN C fi_38_3 kf_X12_100 rfl rfl dX12_file_166 ?_
                    refine x_sig (σ' := x_fz (x_u σ 38 0 (nI 0)) true f49 f50 f51 f52 f53 (a + 28) (x_hv b t false (a + 20)) ((x_hun b t false (a + 20)).2.2.1)) (x_fz_3 _ _ _ _ _ _ _ _ _ _ _) ?_
                    refine x_goto C 33 dX12_file_169 (by decide) ?_
                    exact ih33 _ (by first | (rw [if_pos rfl]; omega) | (rw [if_neg (by decide)]; omega)) n false true f49 f50 f51 f52 f53 (a + 28) (x_hv b t false (a + 20)) ((x_hun b t false (a + 20)).2.2.1) f rfl (by omega) (by omega) (fun z => absurd z (by decide)) (by rw [if_neg (by decide), ← hR, hf9]; (conv => rhs; unfold x_flf; rw [if_neg (by omega : ¬ t ≤ a), if_neg (by rw [c57]; decide), if_pos hw, if_pos hz, if_pos c130, if_neg c139]); first | done | rfl) _ xl0 rfl rfl
                  · skip
                    refine x_iconst C (nI 1) dX12_file_142 rfl ?_
                    refine x_goto C 147 dX12_file_143 (by decide) ?_
                    refine x_istore_n C (i := 2) dX12_file_147 rfl (by decide) ?_
                    refine x_aload_n C (i := 0) dX12_file_148 rfl xl0 ?_
                    refine x_iload_n C (i := 2) dX12_file_149 rfl rfl ?_
                    refine x_if_eqN C 162 dX12_file_150 (by decide) (by omega) (fun c150 => absurd c150 (by decide)) (fun c150 => ?_)
                    refine x_aload_n C (i := 0) dX12_file_153 rfl xl0 ?_
                    refine x_getI C fi_38_3 kf_X12_100 dX12_file_154 ?_
                    refine x_topI (y := nI (a + 28)) rfl ?_
                    refine x_iconst C (nI 1) dX12_file_157 rfl ?_
                    refine x_iaddN C dX12_file_158 ?_
                    refine x_goto C 166 dX12_file_159 (by decide) ?_
                    refine x_putN C fi_38_3 kf_X12_100 rfl rfl dX12_file_166 ?_
                    refine x_sig (σ' := x_fz (x_u σ 38 0 (nI 0)) true f49 f50 f51 f52 f53 (a + 28 + 1) (x_hv b t false (a + 20)) ((x_hun b t false (a + 20)).2.2.1)) (x_fz_3 _ _ _ _ _ _ _ _ _ _ _) ?_
                    refine x_goto C 33 dX12_file_169 (by decide) ?_
                    exact ih33 _ (by first | (rw [if_pos rfl]; omega) | (rw [if_neg (by decide)]; omega)) n true true f49 f50 f51 f52 f53 (a + 28 + 1) (x_hv b t false (a + 20)) ((x_hun b t false (a + 20)).2.2.1) f9 rfl (by omega) (by omega) (fun _ => ⟨by omega, by omega⟩) (by rw [if_pos rfl, ← hR, hf9]; (conv => rhs; unfold x_flf; rw [if_neg (by omega : ¬ t ≤ a), if_neg (by rw [c57]; decide), if_pos hw, if_pos hz, if_pos c130, if_pos c139]); first | done | rfl) _ xl0 rfl rfl
              · skip
                have hle := x_row_le hw
                refine x_if_eqZ C 72 dX12_file_65 (by decide) (fun c65 => absurd c65 (by decide)) (fun c65 => ?_)
                refine x_iconst C (nI 1) dX12_file_68 rfl ?_
                refine x_goto C 73 dX12_file_69 (by decide) ?_
                refine x_istore_n C (i := 2) dX12_file_73 rfl (by decide) ?_
                refine x_iload_n C (i := 2) dX12_file_74 rfl rfl ?_
                refine x_if_eqN C 99 dX12_file_75 (by decide) (by omega) (fun c75 => absurd c75 (by decide)) (fun c75 => ?_)
                refine x_aload_n C (i := 0) dX12_file_78 rfl xl0 ?_
                refine x_getI C fi_38_28 kf_X12_268 dX12_file_79 ?_
                refine x_topI (y := x_z false) rfl ?_
                refine x_if_neZ C 99 dX12_file_82 (by decide) (fun c82 => absurd c82 (by decide)) (fun c82 => ?_)
                refine x_iload_n C (i := 1) dX12_file_85 rfl xl1 ?_
                refine x_sipush C (nI 3000) dX12_file_86 rfl ?_
                refine x_icmp_neN C 99 dX12_file_89 (by decide) (by omega) (by omega) (fun c89 => ?_) (fun c89 => ?_)
                · skip
                  refine x_iload_n C (i := 2) dX12_file_99 rfl rfl ?_
                  refine x_if_eqN C 116 dX12_file_100 (by decide) (by omega) (fun c100 => absurd c100 (by decide)) (fun c100 => ?_)
                  refine x_aload_n C (i := 0) dX12_file_103 rfl xl0 ?_
                  refine x_getI C fi_38_28 kf_X12_268 dX12_file_104 ?_
                  refine x_topI (y := x_z false) rfl ?_
                  refine x_if_neZ C 116 dX12_file_107 (by decide) (fun c107 => absurd c107 (by decide)) (fun c107 => ?_)
                  refine x_iload_n C (i := 1) dX12_file_110 rfl xl1 ?_
                  refine x_iconst C (nI 1) dX12_file_111 rfl ?_
                  refine x_iaddN C dX12_file_112 ?_
                  refine x_goto C 117 dX12_file_113 (by decide) ?_
                  refine x_istore_n C (i := 1) dX12_file_117 rfl (by decide) ?_
                  refine x_iload_n C (i := 2) dX12_file_118 rfl rfl ?_
                  refine x_if_eqN C 169 dX12_file_119 (by decide) (by omega) (fun c119 => absurd c119 (by decide)) (fun c119 => ?_)
                  refine x_aload_n C (i := 0) dX12_file_122 rfl xl0 ?_
                  refine x_getI C fi_38_3 kf_X12_100 dX12_file_123 ?_
                  refine x_topI (y := nI (a + 28)) rfl ?_
                  refine x_aload_n C (i := 0) dX12_file_126 rfl xl0 ?_
                  refine x_getI C fi_38_2 kf_X12_89 dX12_file_127 ?_
                  refine x_topI (y := nI t) ht ?_
                  refine x_icmp_geN C 169 dX12_file_130 (by decide) (by omega) (by omega) (fun c130 => ?_) (fun c130 => ?_)
                  · skip
                    have c130' := Nat.not_lt.mpr c130
                    refine x_goto C 33 dX12_file_169 (by decide) ?_
                    exact ih33 _ (by first | (rw [if_pos rfl]; omega) | (rw [if_neg (by decide)]; omega)) (n + 1) true false (upd f49 n (x_iv b t a)) (upd f50 n (x_iv b t (a + 4))) (upd f51 n (x_iv b t (a + 8))) (upd f52 n (x_hv b t true (a + 12))) (upd f53 n (x_hv b t false (a + 20))) (a + 28) (x_hv b t false (a + 20)) ((x_hun b t false (a + 20)).2.2.1) f9 rfl (by omega) (by omega) (fun _ => ⟨by omega, by omega⟩) (by rw [if_pos rfl, ← hR, hf9]; (conv => rhs; unfold x_flf; rw [if_neg (by omega : ¬ t ≤ a), if_neg (by rw [c57]; decide), if_pos hw, if_neg (by rw [hz]; decide), if_neg c89, if_neg (by omega : ¬ a + 28 < t)]); (conv => lhs; rw [show f9 = (f9 - 1) + 1 by omega]; unfold x_flf; rw [if_pos (by omega)]); first | done | rfl) _ xl0 rfl rfl
                  · skip
                    have c130' := Nat.not_le.mpr c130
                    refine x_aload_n C (i := 0) dX12_file_133 rfl xl0 ?_
                    have hM := c_X12_look l Y (x_fz (x_u σ 38 0 (nI 0)) false (upd f49 n (x_iv b t a)) (upd f50 n (x_iv b t (a + 4))) (upd f51 n (x_iv b t (a + 8))) (upd f52 n (x_hv b t true (a + 12))) (upd f53 n (x_hv b t false (a + 20))) (a + 28) (x_hv b t false (a + 20)) ((x_hun b t false (a + 20)).2.2.1)) b t (a + 28) hb ht rfl ht8 (by omega)
                    refine x_callV C (as := []) (st := []) (hM) kb_X12_look kv_X12_110 dX12_file_134 rfl rfl (Nat.le_of_ble_eq_true rfl) ⟨by decide, by decide⟩ ⟨by decide, by decide⟩ ko_38 ?_
                    clear hM
                    intro r9 τ9 h9
                    obtain ⟨rfl, h8⟩ := h9
                    rw [h8]
                    clear h8 τ9
                    refine x_bipush C (nI 10) dX12_file_137 rfl ?_
                    refine x_icmp_ne C 146 dX12_file_139 (by decide) (fun c139 => ?_) (fun c139 => ?_)
                    · skip
                      refine x_iconst C (nI 0) dX12_file_146 rfl ?_
                      refine x_istore_n C (i := 2) dX12_file_147 rfl (by decide) ?_
                      refine x_aload_n C (i := 0) dX12_file_148 rfl xl0 ?_
                      refine x_iload_n C (i := 2) dX12_file_149 rfl rfl ?_
                      refine x_if_eqN C 162 dX12_file_150 (by decide) (by omega) (fun c150 => ?_) (fun c150 => absurd c150 (by decide))
                      refine x_aload_n C (i := 0) dX12_file_162 rfl xl0 ?_
                      refine x_getI C fi_38_3 kf_X12_100 dX12_file_163 ?_
                      refine x_topI (y := nI (a + 28)) rfl ?_
                      refine x_putN C fi_38_3 kf_X12_100 rfl rfl dX12_file_166 ?_
                      refine x_sig (σ' := x_fz (x_u σ 38 0 (nI 0)) false (upd f49 n (x_iv b t a)) (upd f50 n (x_iv b t (a + 4))) (upd f51 n (x_iv b t (a + 8))) (upd f52 n (x_hv b t true (a + 12))) (upd f53 n (x_hv b t false (a + 20))) (a + 28) (x_hv b t false (a + 20)) ((x_hun b t false (a + 20)).2.2.1)) (x_fz_3 _ _ _ _ _ _ _ _ _ _ _) ?_
                      refine x_goto C 33 dX12_file_169 (by decide) ?_
                      exact ih33 _ (by first | (rw [if_pos rfl]; omega) | (rw [if_neg (by decide)]; omega)) (n + 1) false false (upd f49 n (x_iv b t a)) (upd f50 n (x_iv b t (a + 4))) (upd f51 n (x_iv b t (a + 8))) (upd f52 n (x_hv b t true (a + 12))) (upd f53 n (x_hv b t false (a + 20))) (a + 28) (x_hv b t false (a + 20)) ((x_hun b t false (a + 20)).2.2.1) f rfl (by omega) (by omega) (fun z => absurd z (by decide)) (by rw [if_neg (by decide), ← hR, hf9]; (conv => rhs; unfold x_flf; rw [if_neg (by omega : ¬ t ≤ a), if_neg (by rw [c57]; decide), if_pos hw, if_neg (by rw [hz]; decide), if_neg c89, if_pos c130, if_neg c139]); first | done | rfl) _ xl0 rfl rfl
                    · skip
                      refine x_iconst C (nI 1) dX12_file_142 rfl ?_
                      refine x_goto C 147 dX12_file_143 (by decide) ?_
                      refine x_istore_n C (i := 2) dX12_file_147 rfl (by decide) ?_
                      refine x_aload_n C (i := 0) dX12_file_148 rfl xl0 ?_
                      refine x_iload_n C (i := 2) dX12_file_149 rfl rfl ?_
                      refine x_if_eqN C 162 dX12_file_150 (by decide) (by omega) (fun c150 => absurd c150 (by decide)) (fun c150 => ?_)
                      refine x_aload_n C (i := 0) dX12_file_153 rfl xl0 ?_
                      refine x_getI C fi_38_3 kf_X12_100 dX12_file_154 ?_
                      refine x_topI (y := nI (a + 28)) rfl ?_
                      refine x_iconst C (nI 1) dX12_file_157 rfl ?_
                      refine x_iaddN C dX12_file_158 ?_
                      refine x_goto C 166 dX12_file_159 (by decide) ?_
                      refine x_putN C fi_38_3 kf_X12_100 rfl rfl dX12_file_166 ?_
                      refine x_sig (σ' := x_fz (x_u σ 38 0 (nI 0)) false (upd f49 n (x_iv b t a)) (upd f50 n (x_iv b t (a + 4))) (upd f51 n (x_iv b t (a + 8))) (upd f52 n (x_hv b t true (a + 12))) (upd f53 n (x_hv b t false (a + 20))) (a + 28 + 1) (x_hv b t false (a + 20)) ((x_hun b t false (a + 20)).2.2.1)) (x_fz_3 _ _ _ _ _ _ _ _ _ _ _) ?_
                      refine x_goto C 33 dX12_file_169 (by decide) ?_
                      exact ih33 _ (by first | (rw [if_pos rfl]; omega) | (rw [if_neg (by decide)]; omega)) (n + 1) true false (upd f49 n (x_iv b t a)) (upd f50 n (x_iv b t (a + 4))) (upd f51 n (x_iv b t (a + 8))) (upd f52 n (x_hv b t true (a + 12))) (upd f53 n (x_hv b t false (a + 20))) (a + 28 + 1) (x_hv b t false (a + 20)) ((x_hun b t false (a + 20)).2.2.1) f9 rfl (by omega) (by omega) (fun _ => ⟨by omega, by omega⟩) (by rw [if_pos rfl, ← hR, hf9]; (conv => rhs; unfold x_flf; rw [if_neg (by omega : ¬ t ≤ a), if_neg (by rw [c57]; decide), if_pos hw, if_neg (by rw [hz]; decide), if_neg c89, if_pos c130, if_pos c139]); first | done | rfl) _ xl0 rfl rfl
                · skip
                  exfalso; omega
              · skip
                have hle := x_row_le hw
                refine x_if_eqZ C 72 dX12_file_65 (by decide) (fun c65 => absurd c65 (by decide)) (fun c65 => ?_)
                refine x_iconst C (nI 1) dX12_file_68 rfl ?_
                refine x_goto C 73 dX12_file_69 (by decide) ?_
                refine x_istore_n C (i := 2) dX12_file_73 rfl (by decide) ?_
                refine x_iload_n C (i := 2) dX12_file_74 rfl rfl ?_
                refine x_if_eqN C 99 dX12_file_75 (by decide) (by omega) (fun c75 => absurd c75 (by decide)) (fun c75 => ?_)
                refine x_aload_n C (i := 0) dX12_file_78 rfl xl0 ?_
                refine x_getI C fi_38_28 kf_X12_268 dX12_file_79 ?_
                refine x_topI (y := x_z false) rfl ?_
                refine x_if_neZ C 99 dX12_file_82 (by decide) (fun c82 => absurd c82 (by decide)) (fun c82 => ?_)
                refine x_iload_n C (i := 1) dX12_file_85 rfl xl1 ?_
                refine x_sipush C (nI 3000) dX12_file_86 rfl ?_
                refine x_icmp_neN C 99 dX12_file_89 (by decide) (by omega) (by omega) (fun c89 => ?_) (fun c89 => ?_)
                · skip
                  exfalso; omega
                · skip
                  refine x_iconst C (nI 0) dX12_file_92 rfl ?_
                  refine x_istore_n C (i := 2) dX12_file_93 rfl (by decide) ?_
                  refine x_aload_n C (i := 0) dX12_file_94 rfl xl0 ?_
                  refine x_iload_n C (i := 3) dX12_file_95 rfl rfl ?_
                  refine x_putN C fi_38_3 kf_X12_100 rfl rfl dX12_file_96 ?_
                  refine x_sig (σ' := x_fz (x_u σ 38 0 (nI 0)) false f49 f50 f51 f52 f53 a (x_hv b t false (a + 20)) ((x_hun b t false (a + 20)).2.2.1)) (x_fz_3 _ _ _ _ _ _ _ _ _ _ _) ?_
                  refine x_iload_n C (i := 2) dX12_file_99 rfl rfl ?_
                  refine x_if_eqN C 116 dX12_file_100 (by decide) (by omega) (fun c100 => ?_) (fun c100 => absurd c100 (by decide))
                  refine x_iload_n C (i := 1) dX12_file_116 rfl xl1 ?_
                  refine x_istore_n C (i := 1) dX12_file_117 rfl (by decide) ?_
                  refine x_iload_n C (i := 2) dX12_file_118 rfl rfl ?_
                  refine x_if_eqN C 169 dX12_file_119 (by decide) (by omega) (fun c119 => ?_) (fun c119 => absurd c119 (by decide))
                  refine x_goto C 33 dX12_file_169 (by decide) ?_
                  exact ih33 _ (by first | (rw [if_pos rfl]; omega) | (rw [if_neg (by decide)]; omega)) n false false f49 f50 f51 f52 f53 a (x_hv b t false (a + 20)) ((x_hun b t false (a + 20)).2.2.1) f rfl (by omega) (by omega) (fun z => absurd z (by decide)) (by rw [if_neg (by decide), ← hR, hf9]; (conv => rhs; unfold x_flf; rw [if_neg (by omega : ¬ t ≤ a), if_neg (by rw [c57]; decide), if_pos hw, if_neg (by rw [hz]; decide), if_pos c89]); first | done | rfl) _ xl0 rfl rfl
              · skip
                refine x_if_eqZ C 72 dX12_file_65 (by decide) (fun c65 => ?_) (fun c65 => absurd c65 (by decide))
                refine x_iconst C (nI 0) dX12_file_72 rfl ?_
                refine x_istore_n C (i := 2) dX12_file_73 rfl (by decide) ?_
                refine x_iload_n C (i := 2) dX12_file_74 rfl rfl ?_
                refine x_if_eqN C 99 dX12_file_75 (by decide) (by omega) (fun c75 => ?_) (fun c75 => absurd c75 (by decide))
                refine x_iload_n C (i := 2) dX12_file_99 rfl rfl ?_
                refine x_if_eqN C 116 dX12_file_100 (by decide) (by omega) (fun c100 => ?_) (fun c100 => absurd c100 (by decide))
                refine x_iload_n C (i := 1) dX12_file_116 rfl xl1 ?_
                refine x_istore_n C (i := 1) dX12_file_117 rfl (by decide) ?_
                refine x_iload_n C (i := 2) dX12_file_118 rfl rfl ?_
                refine x_if_eqN C 169 dX12_file_119 (by decide) (by omega) (fun c119 => ?_) (fun c119 => absurd c119 (by decide))
                refine x_goto C 33 dX12_file_169 (by decide) ?_
                exact ih33 _ (by first | (rw [if_pos rfl]; omega) | (rw [if_neg (by decide)]; omega)) n false en f49 f50 f51 f52 f53 ((x_row b t a).2) v9 n9 f rfl (by omega) (by omega) (fun z => absurd z (by decide)) (by rw [if_neg (by decide), ← hR, hf9]; (conv => rhs; unfold x_flf; rw [if_neg (by omega : ¬ t ≤ a), if_neg (by rw [c57]; decide), if_neg (by rw [hw]; decide)]); first | done | rfl) _ xl0 rfl rfl
    exact lp33 _ n0 false false (σ.1 49) (σ.1 50) (σ.1 51) (σ.1 52) (σ.1 53) 0 (σ.1 38 26) ng0 (t + 1) rfl (Nat.le_refl _) hn3 (fun _ => ⟨Nat.zero_le _, by omega⟩) (by unfold x_fil; first | (rw [decide_eq_true c24, hA0]; done) | (rw [decide_eq_true c24, hA0]; rfl) | (rw [decide_eq_false (by omega : ¬ 0 < t), hA0]; done) | (rw [decide_eq_false (by omega : ¬ 0 < t), hA0]; rfl)) _ rfl rfl rfl
  · skip
    refine x_iconst C (nI 1) dX12_file_27 rfl ?_
    refine x_goto C 32 dX12_file_28 (by decide) ?_
    refine x_istore_n C (i := 2) dX12_file_32 rfl (by decide) ?_
    have lp33 : ∀ (m33 : Nat) (n : Nat) (go : Bool) (en : Bool) (f49 : Nat → Int32) (f50 : Nat → Int32) (f51 : Nat → Int32) (f52 : Nat → Int32) (f53 : Nat → Int32) (a : Nat) (v : Int32) (ng : Bool) (f : Nat), (if go = true then f + 1 else 0) = m33 → (n0 ≤ n) → (n ≤ 3000) → (go = true → a ≤ t ∧ t + 1 ≤ f + a) → ((if go = true then x_flf b t f a n en (f49, f50, f51, f52, f53) else (false, a, n, (f49, f50, f51, f52, f53))) = x_fil b t n0 A0) → ∀ L : x_Lo, L.1 0 = some (.ref 38) → L.1 1 = some (.int (nI n)) → L.1 2 = some (.int (x_z go)) → x_W xp l xe (x_rm 4) xs xm xg xb xt xc 4 Y 0 0 (MQ xb (x_Q Y K) xg xs 0 0 (x_A Y)) 33 L [] (x_fz (x_u σ 38 0 (nI 0)) en f49 f50 f51 f52 f53 a v ng) := by
      intro m33
      induction m33 using Nat.strongRecOn with
      | _ m33 ih33 =>
        intro n go en f49 f50 f51 f52 f53 a v ng f hm33 hn0 hn3 hgo hR L xl0 xl1 xl2
        refine x_iload_n C (i := 2) dX12_file_33 rfl xl2 ?_
        refine x_if_eqZ C 172 dX12_file_34 (by decide) (fun c34 => ?_) (fun c34 => ?_)
        · skip
          subst c34
          rw [if_neg (by decide)] at hR hm33
          refine x_aload_n C (i := 0) dX12_file_172 rfl xl0 ?_
          refine x_iconst C (nI 0) dX12_file_173 rfl ?_
          refine x_putN C fi_38_2 kf_X12_89 rfl rfl dX12_file_174 ?_
          refine x_iload_n C (i := 2) dX12_file_177 rfl xl2 ?_
          refine x_if_neZ C 188 dX12_file_178 (by decide) (fun c178 => absurd c178 (by decide)) (fun c178 => ?_)
          refine x_iconst C (-1) dX12_file_181 rfl ?_
          refine x_aload_n C (i := 0) dX12_file_182 rfl xl0 ?_
          refine x_getI C fi_38_3 kf_X12_100 dX12_file_183 ?_
          refine x_topI (y := nI a) rfl ?_
          refine x_isub C dX12_file_186 ?_
          refine x_iret C xr xk dX12_file_187 ?_
          exact hK _ _ (by rw [← hR]; exact ⟨_, _, _, Or.inl ⟨rfl, rfl, rfl⟩⟩)
        · skip
          subst c34
          rw [if_pos rfl] at hR hm33
          obtain ⟨ha, hf⟩ := hgo rfl
          refine x_aload_n C (i := 0) dX12_file_37 rfl xl0 ?_
          refine x_getI C fi_38_3 kf_X12_100 dX12_file_38 ?_
          refine x_topI (y := nI a) rfl ?_
          refine x_aload_n C (i := 0) dX12_file_41 rfl xl0 ?_
          refine x_getI C fi_38_2 kf_X12_89 dX12_file_42 ?_
          refine x_topI (y := nI t) ht ?_
          refine x_icmp_geN C 172 dX12_file_45 (by decide) (by omega) (by omega) (fun c45 => ?_) (fun c45 => ?_)
          · skip
            have c45' := Nat.not_lt.mpr c45
            obtain ⟨f9, hf9⟩ : ∃ f9, f = f9 + 1 := ⟨f - 1, by omega⟩
            rw [hf9] at hR
            unfold x_flf at hR
            rw [if_pos c45] at hR
            refine x_aload_n C (i := 0) dX12_file_172 rfl xl0 ?_
            refine x_iconst C (nI 0) dX12_file_173 rfl ?_
            refine x_putN C fi_38_2 kf_X12_89 rfl rfl dX12_file_174 ?_
            refine x_iload_n C (i := 2) dX12_file_177 rfl xl2 ?_
            refine x_if_neZ C 188 dX12_file_178 (by decide) (fun c178 => ?_) (fun c178 => absurd c178 (by decide))
            refine x_iload_n C (i := 1) dX12_file_188 rfl xl1 ?_
            refine x_aload_n C (i := 0) dX12_file_189 rfl xl0 ?_
            refine x_getI C fi_38_20 kf_X12_271 dX12_file_190 ?_
            refine x_topI (y := nI n0) hrf ?_
            refine x_isubN C dX12_file_193 hn0 ?_
            refine x_istore_n C (i := 3) dX12_file_194 rfl (by decide) ?_
            refine x_aload_n C (i := 0) dX12_file_195 rfl xl0 ?_
            refine x_iload_n C (i := 1) dX12_file_196 rfl xl1 ?_
            refine x_putN C fi_38_20 kf_X12_271 rfl rfl dX12_file_197 ?_
            refine x_iload_n C (i := 3) dX12_file_200 rfl rfl ?_
            refine x_iret C xr xk dX12_file_201 ?_
            exact hK _ _ (by rw [← hR]; exact ⟨_, _, _, Or.inr ⟨rfl, hn0, hn3, rfl, rfl⟩⟩)
          · skip
            have c45' := Nat.not_le.mpr c45
            obtain ⟨f9, hf9⟩ : ∃ f9, f = f9 + 1 := ⟨f - 1, by omega⟩
            refine x_aload_n C (i := 0) dX12_file_48 rfl xl0 ?_
            refine x_getI C fi_38_3 kf_X12_100 dX12_file_49 ?_
            refine x_topI (y := nI a) rfl ?_
            refine x_istore_n C (i := 3) dX12_file_52 rfl (by decide) ?_
            refine x_aload_n C (i := 0) dX12_file_53 rfl xl0 ?_
            refine x_getI C fi_38_28 kf_X12_268 dX12_file_54 ?_
            refine x_topI (y := x_z en) rfl ?_
            refine x_if_neZ C 72 dX12_file_57 (by decide) (fun c57 => ?_) (fun c57 => ?_)
            · skip
              refine x_iconst C (nI 0) dX12_file_72 rfl ?_
              refine x_istore_n C (i := 2) dX12_file_73 rfl (by decide) ?_
              refine x_iload_n C (i := 2) dX12_file_74 rfl rfl ?_
              refine x_if_eqN C 99 dX12_file_75 (by decide) (by omega) (fun c75 => ?_) (fun c75 => absurd c75 (by decide))
              refine x_iload_n C (i := 2) dX12_file_99 rfl rfl ?_
              refine x_if_eqN C 116 dX12_file_100 (by decide) (by omega) (fun c100 => ?_) (fun c100 => absurd c100 (by decide))
              refine x_iload_n C (i := 1) dX12_file_116 rfl xl1 ?_
              refine x_istore_n C (i := 1) dX12_file_117 rfl (by decide) ?_
              refine x_iload_n C (i := 2) dX12_file_118 rfl rfl ?_
              refine x_if_eqN C 169 dX12_file_119 (by decide) (by omega) (fun c119 => ?_) (fun c119 => absurd c119 (by decide))
              refine x_goto C 33 dX12_file_169 (by decide) ?_
              exact ih33 _ (by first | (rw [if_pos rfl]; omega) | (rw [if_neg (by decide)]; omega)) n false en f49 f50 f51 f52 f53 a v ng f rfl (by omega) (by omega) (fun z => absurd z (by decide)) (by rw [if_neg (by decide), ← hR, hf9]; (conv => rhs; unfold x_flf; rw [if_neg (by omega : ¬ t ≤ a), if_pos c57]); first | done | rfl) _ xl0 rfl rfl
            · skip
              refine x_aload_n C (i := 0) dX12_file_60 rfl xl0 ?_
              refine x_iload_n C (i := 1) dX12_file_61 rfl xl1 ?_
              have hM := c_X12_readsRow l Y (x_u σ 38 0 (nI 0)) en f49 f50 f51 f52 f53 a v ng n b t hb ht ht8 (by omega) hn3
              refine x_callV C (as := [.int (nI n)]) (st := []) (hM) kb_X12_readsRow kv_X12_274 dX12_file_62 rfl rfl (Nat.le_of_ble_eq_true rfl) ⟨by decide, by decide⟩ ⟨by decide, by decide⟩ ko_38 ?_
              clear hM
              intro r9 τ9 h9
              have h8 : ((x_row b t a).1 = true ∧ r9 = some (.int (x_z true)) ∧ x_rz b t a = true ∧ τ9 = x_fz (x_u σ 38 0 (nI 0)) true f49 f50 f51 f52 f53 (a + 28) (x_hv b t false (a + 20)) ((x_hun b t false (a + 20)).2.2.1)) ∨ ((x_row b t a).1 = true ∧ r9 = some (.int (x_z true)) ∧ x_rz b t a = false ∧ n < 3000 ∧ τ9 = x_fz (x_u σ 38 0 (nI 0)) false (upd f49 n (x_iv b t a)) (upd f50 n (x_iv b t (a + 4))) (upd f51 n (x_iv b t (a + 8))) (upd f52 n (x_hv b t true (a + 12))) (upd f53 n (x_hv b t false (a + 20))) (a + 28) (x_hv b t false (a + 20)) ((x_hun b t false (a + 20)).2.2.1)) ∨ ((x_row b t a).1 = true ∧ r9 = some (.int (x_z true)) ∧ x_rz b t a = false ∧ 3000 ≤ n ∧ τ9 = x_fz (x_u σ 38 0 (nI 0)) false f49 f50 f51 f52 f53 (a + 28) (x_hv b t false (a + 20)) ((x_hun b t false (a + 20)).2.2.1)) ∨ ((x_row b t a).1 = false ∧ r9 = some (.int (x_z false)) ∧ ∃ v9 n9, τ9 = x_fz (x_u σ 38 0 (nI 0)) en f49 f50 f51 f52 f53 ((x_row b t a).2) v9 n9) := by
                rcases h9 with ⟨hw, hr9, hτ⟩ | h9
                · rcases Bool.eq_false_or_eq_true (x_rz b t a) with hz | hz
                  · rw [if_pos (Or.inl hz), hz] at hτ
                    exact Or.inl ⟨hw, hr9, hz, hτ⟩
                  · rcases Nat.lt_or_ge n 3000 with hn9 | hn9
                    · rw [if_neg (by rw [hz]; simp; omega), hz] at hτ
                      exact Or.inr (Or.inl ⟨hw, hr9, hz, hn9, hτ⟩)
                    · rw [if_pos (Or.inr hn9), hz] at hτ
                      exact Or.inr (Or.inr (Or.inl ⟨hw, hr9, hz, hn9, hτ⟩))
                · exact Or.inr (Or.inr (Or.inr h9))
              rcases h8 with ⟨hw, rfl, hz, rfl⟩ | ⟨hw, rfl, hz, hn9, rfl⟩ | ⟨hw, rfl, hz, hn9, rfl⟩ | ⟨hw, rfl, v9, n9, rfl⟩
              · skip
                have hle := x_row_le hw
                refine x_if_eqZ C 72 dX12_file_65 (by decide) (fun c65 => absurd c65 (by decide)) (fun c65 => ?_)
                refine x_iconst C (nI 1) dX12_file_68 rfl ?_
                refine x_goto C 73 dX12_file_69 (by decide) ?_
                refine x_istore_n C (i := 2) dX12_file_73 rfl (by decide) ?_
                refine x_iload_n C (i := 2) dX12_file_74 rfl rfl ?_
                refine x_if_eqN C 99 dX12_file_75 (by decide) (by omega) (fun c75 => absurd c75 (by decide)) (fun c75 => ?_)
                refine x_aload_n C (i := 0) dX12_file_78 rfl xl0 ?_
                refine x_getI C fi_38_28 kf_X12_268 dX12_file_79 ?_
                refine x_topI (y := x_z true) rfl ?_
                refine x_if_neZ C 99 dX12_file_82 (by decide) (fun c82 => ?_) (fun c82 => absurd c82 (by decide))
                refine x_iload_n C (i := 2) dX12_file_99 rfl rfl ?_
                refine x_if_eqN C 116 dX12_file_100 (by decide) (by omega) (fun c100 => absurd c100 (by decide)) (fun c100 => ?_)
                refine x_aload_n C (i := 0) dX12_file_103 rfl xl0 ?_
                refine x_getI C fi_38_28 kf_X12_268 dX12_file_104 ?_
                refine x_topI (y := x_z true) rfl ?_
                refine x_if_neZ C 116 dX12_file_107 (by decide) (fun c107 => ?_) (fun c107 => absurd c107 (by decide))
                refine x_iload_n C (i := 1) dX12_file_116 rfl xl1 ?_
                refine x_istore_n C (i := 1) dX12_file_117 rfl (by decide) ?_
                refine x_iload_n C (i := 2) dX12_file_118 rfl rfl ?_
                refine x_if_eqN C 169 dX12_file_119 (by decide) (by omega) (fun c119 => absurd c119 (by decide)) (fun c119 => ?_)
                refine x_aload_n C (i := 0) dX12_file_122 rfl xl0 ?_
                refine x_getI C fi_38_3 kf_X12_100 dX12_file_123 ?_
                refine x_topI (y := nI (a + 28)) rfl ?_
                refine x_aload_n C (i := 0) dX12_file_126 rfl xl0 ?_
                refine x_getI C fi_38_2 kf_X12_89 dX12_file_127 ?_
                refine x_topI (y := nI t) ht ?_
                refine x_icmp_geN C 169 dX12_file_130 (by decide) (by omega) (by omega) (fun c130 => ?_) (fun c130 => ?_)
                · skip
                  have c130' := Nat.not_lt.mpr c130
                  refine x_goto C 33 dX12_file_169 (by decide) ?_
                  exact ih33 _ (by first | (rw [if_pos rfl]; omega) | (rw [if_neg (by decide)]; omega)) n true true f49 f50 f51 f52 f53 (a + 28) (x_hv b t false (a + 20)) ((x_hun b t false (a + 20)).2.2.1) f9 rfl (by omega) (by omega) (fun _ => ⟨by omega, by omega⟩) (by rw [if_pos rfl, ← hR, hf9]; (conv => rhs; unfold x_flf; rw [if_neg (by omega : ¬ t ≤ a), if_neg (by rw [c57]; decide), if_pos hw, if_pos hz, if_neg (by omega : ¬ a + 28 < t)]); (conv => lhs; rw [show f9 = (f9 - 1) + 1 by omega]; unfold x_flf; rw [if_pos (by omega)]); first | done | rfl) _ xl0 rfl rfl
                · skip
                  have c130' := Nat.not_le.mpr c130
                  refine x_aload_n C (i := 0) dX12_file_133 rfl xl0 ?_
                  have hM := c_X12_look l Y (x_fz (x_u σ 38 0 (nI 0)) true f49 f50 f51 f52 f53 (a + 28) (x_hv b t false (a + 20)) ((x_hun b t false (a + 20)).2.2.1)) b t (a + 28) hb ht rfl ht8 (by omega)
                  refine x_callV C (as := []) (st := []) (hM) kb_X12_look kv_X12_110 dX12_file_134 rfl rfl (Nat.le_of_ble_eq_true rfl) ⟨by decide, by decide⟩ ⟨by decide, by decide⟩ ko_38 ?_
                  clear hM
                  intro r9 τ9 h9
                  obtain ⟨rfl, h8⟩ := h9
                  rw [h8]
                  clear h8 τ9
                  refine x_bipush C (nI 10) dX12_file_137 rfl ?_
                  refine x_icmp_ne C 146 dX12_file_139 (by decide) (fun c139 => ?_) (fun c139 => ?_)
                  · skip
                    refine x_iconst C (nI 0) dX12_file_146 rfl ?_
                    refine x_istore_n C (i := 2) dX12_file_147 rfl (by decide) ?_
                    refine x_aload_n C (i := 0) dX12_file_148 rfl xl0 ?_
                    refine x_iload_n C (i := 2) dX12_file_149 rfl rfl ?_
                    refine x_if_eqN C 162 dX12_file_150 (by decide) (by omega) (fun c150 => ?_) (fun c150 => absurd c150 (by decide))
                    refine x_aload_n C (i := 0) dX12_file_162 rfl xl0 ?_
                    refine x_getI C fi_38_3 kf_X12_100 dX12_file_163 ?_
                    refine x_topI (y := nI (a + 28)) rfl ?_
                    refine x_putN C fi_38_3 kf_X12_100 rfl rfl dX12_file_166 ?_
                    refine x_sig (σ' := x_fz (x_u σ 38 0 (nI 0)) true f49 f50 f51 f52 f53 (a + 28) (x_hv b t false (a + 20)) ((x_hun b t false (a + 20)).2.2.1)) (x_fz_3 _ _ _ _ _ _ _ _ _ _ _) ?_
                    refine x_goto C 33 dX12_file_169 (by decide) ?_
                    exact ih33 _ (by first | (rw [if_pos rfl]; omega) | (rw [if_neg (by decide)]; omega)) n false true f49 f50 f51 f52 f53 (a + 28) (x_hv b t false (a + 20)) ((x_hun b t false (a + 20)).2.2.1) f rfl (by omega) (by omega) (fun z => absurd z (by decide)) (by rw [if_neg (by decide), ← hR, hf9]; (conv => rhs; unfold x_flf; rw [if_neg (by omega : ¬ t ≤ a), if_neg (by rw [c57]; decide), if_pos hw, if_pos hz, if_pos c130, if_neg c139]); first | done | rfl) _ xl0 rfl rfl
                  · skip
                    refine x_iconst C (nI 1) dX12_file_142 rfl ?_
                    refine x_goto C 147 dX12_file_143 (by decide) ?_
                    refine x_istore_n C (i := 2) dX12_file_147 rfl (by decide) ?_
                    refine x_aload_n C (i := 0) dX12_file_148 rfl xl0 ?_
                    refine x_iload_n C (i := 2) dX12_file_149 rfl rfl ?_
                    refine x_if_eqN C 162 dX12_file_150 (by decide) (by omega) (fun c150 => absurd c150 (by decide)) (fun c150 => ?_)
                    refine x_aload_n C (i := 0) dX12_file_153 rfl xl0 ?_
                    refine x_getI C fi_38_3 kf_X12_100 dX12_file_154 ?_
                    refine x_topI (y := nI (a + 28)) rfl ?_
                    refine x_iconst C (nI 1) dX12_file_157 rfl ?_
                    refine x_iaddN C dX12_file_158 ?_
                    refine x_goto C 166 dX12_file_159 (by decide) ?_
                    refine x_putN C fi_38_3 kf_X12_100 rfl rfl dX12_file_166 ?_
                    refine x_sig (σ' := x_fz (x_u σ 38 0 (nI 0)) true f49 f50 f51 f52 f53 (a + 28 + 1) (x_hv b t false (a + 20)) ((x_hun b t false (a + 20)).2.2.1)) (x_fz_3 _ _ _ _ _ _ _ _ _ _ _) ?_
                    refine x_goto C 33 dX12_file_169 (by decide) ?_
                    exact ih33 _ (by first | (rw [if_pos rfl]; omega) | (rw [if_neg (by decide)]; omega)) n true true f49 f50 f51 f52 f53 (a + 28 + 1) (x_hv b t false (a + 20)) ((x_hun b t false (a + 20)).2.2.1) f9 rfl (by omega) (by omega) (fun _ => ⟨by omega, by omega⟩) (by rw [if_pos rfl, ← hR, hf9]; (conv => rhs; unfold x_flf; rw [if_neg (by omega : ¬ t ≤ a), if_neg (by rw [c57]; decide), if_pos hw, if_pos hz, if_pos c130, if_pos c139]); first | done | rfl) _ xl0 rfl rfl
              · skip
                have hle := x_row_le hw
                refine x_if_eqZ C 72 dX12_file_65 (by decide) (fun c65 => absurd c65 (by decide)) (fun c65 => ?_)
                refine x_iconst C (nI 1) dX12_file_68 rfl ?_
                refine x_goto C 73 dX12_file_69 (by decide) ?_
                refine x_istore_n C (i := 2) dX12_file_73 rfl (by decide) ?_
                refine x_iload_n C (i := 2) dX12_file_74 rfl rfl ?_
                refine x_if_eqN C 99 dX12_file_75 (by decide) (by omega) (fun c75 => absurd c75 (by decide)) (fun c75 => ?_)
                refine x_aload_n C (i := 0) dX12_file_78 rfl xl0 ?_
                refine x_getI C fi_38_28 kf_X12_268 dX12_file_79 ?_
                refine x_topI (y := x_z false) rfl ?_
                refine x_if_neZ C 99 dX12_file_82 (by decide) (fun c82 => absurd c82 (by decide)) (fun c82 => ?_)
                refine x_iload_n C (i := 1) dX12_file_85 rfl xl1 ?_
                refine x_sipush C (nI 3000) dX12_file_86 rfl ?_
                refine x_icmp_neN C 99 dX12_file_89 (by decide) (by omega) (by omega) (fun c89 => ?_) (fun c89 => ?_)
                · skip
                  refine x_iload_n C (i := 2) dX12_file_99 rfl rfl ?_
                  refine x_if_eqN C 116 dX12_file_100 (by decide) (by omega) (fun c100 => absurd c100 (by decide)) (fun c100 => ?_)
                  refine x_aload_n C (i := 0) dX12_file_103 rfl xl0 ?_
                  refine x_getI C fi_38_28 kf_X12_268 dX12_file_104 ?_
                  refine x_topI (y := x_z false) rfl ?_
                  refine x_if_neZ C 116 dX12_file_107 (by decide) (fun c107 => absurd c107 (by decide)) (fun c107 => ?_)
                  refine x_iload_n C (i := 1) dX12_file_110 rfl xl1 ?_
                  refine x_iconst C (nI 1) dX12_file_111 rfl ?_
                  refine x_iaddN C dX12_file_112 ?_
                  refine x_goto C 117 dX12_file_113 (by decide) ?_
                  refine x_istore_n C (i := 1) dX12_file_117 rfl (by decide) ?_
                  refine x_iload_n C (i := 2) dX12_file_118 rfl rfl ?_
                  refine x_if_eqN C 169 dX12_file_119 (by decide) (by omega) (fun c119 => absurd c119 (by decide)) (fun c119 => ?_)
                  refine x_aload_n C (i := 0) dX12_file_122 rfl xl0 ?_
                  refine x_getI C fi_38_3 kf_X12_100 dX12_file_123 ?_
                  refine x_topI (y := nI (a + 28)) rfl ?_
                  refine x_aload_n C (i := 0) dX12_file_126 rfl xl0 ?_
                  refine x_getI C fi_38_2 kf_X12_89 dX12_file_127 ?_
                  refine x_topI (y := nI t) ht ?_
                  refine x_icmp_geN C 169 dX12_file_130 (by decide) (by omega) (by omega) (fun c130 => ?_) (fun c130 => ?_)
                  · skip
                    have c130' := Nat.not_lt.mpr c130
                    refine x_goto C 33 dX12_file_169 (by decide) ?_
                    exact ih33 _ (by first | (rw [if_pos rfl]; omega) | (rw [if_neg (by decide)]; omega)) (n + 1) true false (upd f49 n (x_iv b t a)) (upd f50 n (x_iv b t (a + 4))) (upd f51 n (x_iv b t (a + 8))) (upd f52 n (x_hv b t true (a + 12))) (upd f53 n (x_hv b t false (a + 20))) (a + 28) (x_hv b t false (a + 20)) ((x_hun b t false (a + 20)).2.2.1) f9 rfl (by omega) (by omega) (fun _ => ⟨by omega, by omega⟩) (by rw [if_pos rfl, ← hR, hf9]; (conv => rhs; unfold x_flf; rw [if_neg (by omega : ¬ t ≤ a), if_neg (by rw [c57]; decide), if_pos hw, if_neg (by rw [hz]; decide), if_neg c89, if_neg (by omega : ¬ a + 28 < t)]); (conv => lhs; rw [show f9 = (f9 - 1) + 1 by omega]; unfold x_flf; rw [if_pos (by omega)]); first | done | rfl) _ xl0 rfl rfl
                  · skip
                    have c130' := Nat.not_le.mpr c130
                    refine x_aload_n C (i := 0) dX12_file_133 rfl xl0 ?_
                    have hM := c_X12_look l Y (x_fz (x_u σ 38 0 (nI 0)) false (upd f49 n (x_iv b t a)) (upd f50 n (x_iv b t (a + 4))) (upd f51 n (x_iv b t (a + 8))) (upd f52 n (x_hv b t true (a + 12))) (upd f53 n (x_hv b t false (a + 20))) (a + 28) (x_hv b t false (a + 20)) ((x_hun b t false (a + 20)).2.2.1)) b t (a + 28) hb ht rfl ht8 (by omega)
                    refine x_callV C (as := []) (st := []) (hM) kb_X12_look kv_X12_110 dX12_file_134 rfl rfl (Nat.le_of_ble_eq_true rfl) ⟨by decide, by decide⟩ ⟨by decide, by decide⟩ ko_38 ?_
                    clear hM
                    intro r9 τ9 h9
                    obtain ⟨rfl, h8⟩ := h9
                    rw [h8]
                    clear h8 τ9
                    refine x_bipush C (nI 10) dX12_file_137 rfl ?_
                    refine x_icmp_ne C 146 dX12_file_139 (by decide) (fun c139 => ?_) (fun c139 => ?_)
                    · skip
                      refine x_iconst C (nI 0) dX12_file_146 rfl ?_
                      refine x_istore_n C (i := 2) dX12_file_147 rfl (by decide) ?_
                      refine x_aload_n C (i := 0) dX12_file_148 rfl xl0 ?_
                      refine x_iload_n C (i := 2) dX12_file_149 rfl rfl ?_
                      refine x_if_eqN C 162 dX12_file_150 (by decide) (by omega) (fun c150 => ?_) (fun c150 => absurd c150 (by decide))
                      refine x_aload_n C (i := 0) dX12_file_162 rfl xl0 ?_
                      refine x_getI C fi_38_3 kf_X12_100 dX12_file_163 ?_
                      refine x_topI (y := nI (a + 28)) rfl ?_
                      refine x_putN C fi_38_3 kf_X12_100 rfl rfl dX12_file_166 ?_
                      refine x_sig (σ' := x_fz (x_u σ 38 0 (nI 0)) false (upd f49 n (x_iv b t a)) (upd f50 n (x_iv b t (a + 4))) (upd f51 n (x_iv b t (a + 8))) (upd f52 n (x_hv b t true (a + 12))) (upd f53 n (x_hv b t false (a + 20))) (a + 28) (x_hv b t false (a + 20)) ((x_hun b t false (a + 20)).2.2.1)) (x_fz_3 _ _ _ _ _ _ _ _ _ _ _) ?_
                      refine x_goto C 33 dX12_file_169 (by decide) ?_
                      exact ih33 _ (by first | (rw [if_pos rfl]; omega) | (rw [if_neg (by decide)]; omega)) (n + 1) false false (upd f49 n (x_iv b t a)) (upd f50 n (x_iv b t (a + 4))) (upd f51 n (x_iv b t (a + 8))) (upd f52 n (x_hv b t true (a + 12))) (upd f53 n (x_hv b t false (a + 20))) (a + 28) (x_hv b t false (a + 20)) ((x_hun b t false (a + 20)).2.2.1) f rfl (by omega) (by omega) (fun z => absurd z (by decide)) (by rw [if_neg (by decide), ← hR, hf9]; (conv => rhs; unfold x_flf; rw [if_neg (by omega : ¬ t ≤ a), if_neg (by rw [c57]; decide), if_pos hw, if_neg (by rw [hz]; decide), if_neg c89, if_pos c130, if_neg c139]); first | done | rfl) _ xl0 rfl rfl
                    · skip
                      refine x_iconst C (nI 1) dX12_file_142 rfl ?_
                      refine x_goto C 147 dX12_file_143 (by decide) ?_
                      refine x_istore_n C (i := 2) dX12_file_147 rfl (by decide) ?_
                      refine x_aload_n C (i := 0) dX12_file_148 rfl xl0 ?_
                      refine x_iload_n C (i := 2) dX12_file_149 rfl rfl ?_
                      refine x_if_eqN C 162 dX12_file_150 (by decide) (by omega) (fun c150 => absurd c150 (by decide)) (fun c150 => ?_)
                      refine x_aload_n C (i := 0) dX12_file_153 rfl xl0 ?_
                      refine x_getI C fi_38_3 kf_X12_100 dX12_file_154 ?_
                      refine x_topI (y := nI (a + 28)) rfl ?_
                      refine x_iconst C (nI 1) dX12_file_157 rfl ?_
                      refine x_iaddN C dX12_file_158 ?_
                      refine x_goto C 166 dX12_file_159 (by decide) ?_
                      refine x_putN C fi_38_3 kf_X12_100 rfl rfl dX12_file_166 ?_
                      refine x_sig (σ' := x_fz (x_u σ 38 0 (nI 0)) false (upd f49 n (x_iv b t a)) (upd f50 n (x_iv b t (a + 4))) (upd f51 n (x_iv b t (a + 8))) (upd f52 n (x_hv b t true (a + 12))) (upd f53 n (x_hv b t false (a + 20))) (a + 28 + 1) (x_hv b t false (a + 20)) ((x_hun b t false (a + 20)).2.2.1)) (x_fz_3 _ _ _ _ _ _ _ _ _ _ _) ?_
                      refine x_goto C 33 dX12_file_169 (by decide) ?_
                      exact ih33 _ (by first | (rw [if_pos rfl]; omega) | (rw [if_neg (by decide)]; omega)) (n + 1) true false (upd f49 n (x_iv b t a)) (upd f50 n (x_iv b t (a + 4))) (upd f51 n (x_iv b t (a + 8))) (upd f52 n (x_hv b t true (a + 12))) (upd f53 n (x_hv b t false (a + 20))) (a + 28 + 1) (x_hv b t false (a + 20)) ((x_hun b t false (a + 20)).2.2.1) f9 rfl (by omega) (by omega) (fun _ => ⟨by omega, by omega⟩) (by rw [if_pos rfl, ← hR, hf9]; (conv => rhs; unfold x_flf; rw [if_neg (by omega : ¬ t ≤ a), if_neg (by rw [c57]; decide), if_pos hw, if_neg (by rw [hz]; decide), if_neg c89, if_pos c130, if_pos c139]); first | done | rfl) _ xl0 rfl rfl
                · skip
                  exfalso; omega
              · skip
                have hle := x_row_le hw
                refine x_if_eqZ C 72 dX12_file_65 (by decide) (fun c65 => absurd c65 (by decide)) (fun c65 => ?_)
                refine x_iconst C (nI 1) dX12_file_68 rfl ?_
                refine x_goto C 73 dX12_file_69 (by decide) ?_
                refine x_istore_n C (i := 2) dX12_file_73 rfl (by decide) ?_
                refine x_iload_n C (i := 2) dX12_file_74 rfl rfl ?_
                refine x_if_eqN C 99 dX12_file_75 (by decide) (by omega) (fun c75 => absurd c75 (by decide)) (fun c75 => ?_)
                refine x_aload_n C (i := 0) dX12_file_78 rfl xl0 ?_
                refine x_getI C fi_38_28 kf_X12_268 dX12_file_79 ?_
                refine x_topI (y := x_z false) rfl ?_
                refine x_if_neZ C 99 dX12_file_82 (by decide) (fun c82 => absurd c82 (by decide)) (fun c82 => ?_)
                refine x_iload_n C (i := 1) dX12_file_85 rfl xl1 ?_
                refine x_sipush C (nI 3000) dX12_file_86 rfl ?_
                refine x_icmp_neN C 99 dX12_file_89 (by decide) (by omega) (by omega) (fun c89 => ?_) (fun c89 => ?_)
                · skip
                  exfalso; omega
                · skip
                  refine x_iconst C (nI 0) dX12_file_92 rfl ?_
                  refine x_istore_n C (i := 2) dX12_file_93 rfl (by decide) ?_
                  refine x_aload_n C (i := 0) dX12_file_94 rfl xl0 ?_
                  refine x_iload_n C (i := 3) dX12_file_95 rfl rfl ?_
                  refine x_putN C fi_38_3 kf_X12_100 rfl rfl dX12_file_96 ?_
                  refine x_sig (σ' := x_fz (x_u σ 38 0 (nI 0)) false f49 f50 f51 f52 f53 a (x_hv b t false (a + 20)) ((x_hun b t false (a + 20)).2.2.1)) (x_fz_3 _ _ _ _ _ _ _ _ _ _ _) ?_
                  refine x_iload_n C (i := 2) dX12_file_99 rfl rfl ?_
                  refine x_if_eqN C 116 dX12_file_100 (by decide) (by omega) (fun c100 => ?_) (fun c100 => absurd c100 (by decide))
                  refine x_iload_n C (i := 1) dX12_file_116 rfl xl1 ?_
                  refine x_istore_n C (i := 1) dX12_file_117 rfl (by decide) ?_
                  refine x_iload_n C (i := 2) dX12_file_118 rfl rfl ?_
                  refine x_if_eqN C 169 dX12_file_119 (by decide) (by omega) (fun c119 => ?_) (fun c119 => absurd c119 (by decide))
                  refine x_goto C 33 dX12_file_169 (by decide) ?_
                  exact ih33 _ (by first | (rw [if_pos rfl]; omega) | (rw [if_neg (by decide)]; omega)) n false false f49 f50 f51 f52 f53 a (x_hv b t false (a + 20)) ((x_hun b t false (a + 20)).2.2.1) f rfl (by omega) (by omega) (fun z => absurd z (by decide)) (by rw [if_neg (by decide), ← hR, hf9]; (conv => rhs; unfold x_flf; rw [if_neg (by omega : ¬ t ≤ a), if_neg (by rw [c57]; decide), if_pos hw, if_neg (by rw [hz]; decide), if_pos c89]); first | done | rfl) _ xl0 rfl rfl
              · skip
                refine x_if_eqZ C 72 dX12_file_65 (by decide) (fun c65 => ?_) (fun c65 => absurd c65 (by decide))
                refine x_iconst C (nI 0) dX12_file_72 rfl ?_
                refine x_istore_n C (i := 2) dX12_file_73 rfl (by decide) ?_
                refine x_iload_n C (i := 2) dX12_file_74 rfl rfl ?_
                refine x_if_eqN C 99 dX12_file_75 (by decide) (by omega) (fun c75 => ?_) (fun c75 => absurd c75 (by decide))
                refine x_iload_n C (i := 2) dX12_file_99 rfl rfl ?_
                refine x_if_eqN C 116 dX12_file_100 (by decide) (by omega) (fun c100 => ?_) (fun c100 => absurd c100 (by decide))
                refine x_iload_n C (i := 1) dX12_file_116 rfl xl1 ?_
                refine x_istore_n C (i := 1) dX12_file_117 rfl (by decide) ?_
                refine x_iload_n C (i := 2) dX12_file_118 rfl rfl ?_
                refine x_if_eqN C 169 dX12_file_119 (by decide) (by omega) (fun c119 => ?_) (fun c119 => absurd c119 (by decide))
                refine x_goto C 33 dX12_file_169 (by decide) ?_
                exact ih33 _ (by first | (rw [if_pos rfl]; omega) | (rw [if_neg (by decide)]; omega)) n false en f49 f50 f51 f52 f53 ((x_row b t a).2) v9 n9 f rfl (by omega) (by omega) (fun z => absurd z (by decide)) (by rw [if_neg (by decide), ← hR, hf9]; (conv => rhs; unfold x_flf; rw [if_neg (by omega : ¬ t ≤ a), if_neg (by rw [c57]; decide), if_neg (by rw [hw]; decide)]); first | done | rfl) _ xl0 rfl rfl
    exact lp33 _ n0 true false (σ.1 49) (σ.1 50) (σ.1 51) (σ.1 52) (σ.1 53) 0 (σ.1 38 26) ng0 (t + 1) rfl (Nat.le_refl _) hn3 (fun _ => ⟨Nat.zero_le _, by omega⟩) (by unfold x_fil; first | (rw [decide_eq_true c24, hA0]; done) | (rw [decide_eq_true c24, hA0]; rfl) | (rw [decide_eq_false (by omega : ¬ 0 < t), hA0]; done) | (rw [decide_eq_false (by omega : ¬ 0 < t), hA0]; rfl)) _ rfl rfl rfl
theorem c_X12_file (l : Launch) (Y : x_Y) (σ : x_S) (n0 : Nat) (ng0 : Bool) (A0 : x_A5) (hA0 : A0 = (σ.1 49, σ.1 50, σ.1 51, σ.1 52, σ.1 53)) (hng : σ.1 38 27 = x_z ng0) (hrf : σ.1 38 20 = nI n0) (hn3 : n0 ≤ 3000) (b : Nat → Int32) (t : Nat) (hb : σ.1 39 = b) (ht : σ.1 38 2 = nI t) (ht8 : t ≤ 8000) : x_M l yX12_file cX12_file 4 (some .int) 4 Y [.ref 38] σ (fun r τ => ∃ en v ng, ((x_fil b t n0 A0).1 = false ∧ r = some (.int (-1 - nI (x_fil b t n0 A0).2.1)) ∧ τ = x_u (x_fz (x_u σ 38 0 (nI 0)) en (x_fil b t n0 A0).2.2.2.1 (x_fil b t n0 A0).2.2.2.2.1 (x_fil b t n0 A0).2.2.2.2.2.1 (x_fil b t n0 A0).2.2.2.2.2.2.1 (x_fil b t n0 A0).2.2.2.2.2.2.2 (x_fil b t n0 A0).2.1 v ng) 38 2 (nI 0)) ∨ ((x_fil b t n0 A0).1 = true ∧ n0 ≤ (x_fil b t n0 A0).2.2.1 ∧ (x_fil b t n0 A0).2.2.1 ≤ 3000 ∧ r = some (.int (nI ((x_fil b t n0 A0).2.2.1 - n0))) ∧ τ = x_u (x_u (x_fz (x_u σ 38 0 (nI 0)) en (x_fil b t n0 A0).2.2.2.1 (x_fil b t n0 A0).2.2.2.2.1 (x_fil b t n0 A0).2.2.2.2.2.1 (x_fil b t n0 A0).2.2.2.2.2.2.1 (x_fil b t n0 A0).2.2.2.2.2.2.2 (x_fil b t n0 A0).2.1 v ng) 38 2 (nI 0)) 38 20 (nI (x_fil b t n0 A0).2.2.1))) := c_X12_file_K l Y σ n0 ng0 A0 hA0 hng hrf hn3 b t hb ht ht8 _ (fun _ _ h => h)
