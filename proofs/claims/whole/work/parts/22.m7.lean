set_option maxRecDepth 100000 in
set_option maxHeartbeats 200000 in
theorem c_X12_isMade_K (l : Launch) (Y : x_Y) (σ : x_S) (la sa : List Int32) (F G : Nat → Int32) (Os : List x_O) (hl9 : la.length = 9) (hs3 : sa.length = 3) (hF : σ.1 46 = x_ml la F) (hG : σ.1 47 = x_ml sa G) (hO : x_ok Os) (hO9 : Os.length ≤ 192) (hH : x_hold σ Os) (hmd : σ.1 38 7 = nI Os.length) (K : Option Value → x_S → Prop) (hK : ∀ (r : Option Value) (τ : x_S), (r = some (.int (x_z (x_inO (la, sa) Os))) ∧ τ = σ) → K r τ) : x_M l yX12_isMade cX12_isMade 3 (some .boolean) 1 Y [.ref 38] σ K := by
  refine x_start (by decide) (Nat.le_of_ble_eq_true rfl) ?_
  intro xp xe xs xm xg xb xt xc C xr xk
  refine x_iconst C (nI 0) dX12_isMade_0 rfl ?_
  refine x_istore_n C (i := 1) dX12_isMade_1 rfl (by decide) ?_
  refine x_iconst C (nI 0) dX12_isMade_2 rfl ?_
  refine x_istore_n C (i := 2) dX12_isMade_3 rfl (by decide) ?_
  have lp4 : ∀ (m4 : Nat) (i : Nat) (is : Bool), (Os.length - i) = m4 → (i ≤ Os.length) → ((is || x_inO (la, sa) (Os.drop i)) = x_inO (la, sa) Os) → ∀ L : x_Lo, L.1 0 = some (.ref 38) → L.1 1 = some (.int (x_z is)) → L.1 2 = some (.int (nI i)) → x_W xp l xe (x_rm 1) xs xm xg xb xt xc 3 Y 0 0 (MQ xb (x_Q Y K) xg xs 0 0 (x_A Y)) 4 L [] σ := by
    intro m4
    induction m4 using Nat.strongRecOn with
    | _ m4 ih4 =>
      intro i is hm4 hi hR L xl0 xl1 xl2
      refine x_iload_n C (i := 2) dX12_isMade_4 rfl xl2 ?_
      refine x_aload_n C (i := 0) dX12_isMade_5 rfl xl0 ?_
      refine x_getI C fi_38_7 kf_X12_168 dX12_isMade_6 ?_
      refine x_topI (y := nI Os.length) hmd ?_
      refine x_icmp_geN C 36 dX12_isMade_9 (by decide) (by omega) (by omega) (fun c9 => ?_) (fun c9 => ?_)
      · skip
        have c9' := Nat.not_lt.mpr c9
        refine x_iload_n C (i := 1) dX12_isMade_36 rfl xl1 ?_
        refine x_zret C xr xk dX12_isMade_37 (x_z_n _) ?_
        exact hK _ _ ⟨by rw [← hR]; first | rw [x_inO_nil (by omega), Bool.or_false] | rw [c13]; rfl, rfl⟩
      · skip
        have c9' := Nat.not_le.mpr c9
        refine x_iload_n C (i := 1) dX12_isMade_12 rfl xl1 ?_
        refine x_if_neZ C 36 dX12_isMade_13 (by decide) (fun c13 => ?_) (fun c13 => ?_)
        · skip
          refine x_iload_n C (i := 1) dX12_isMade_36 rfl xl1 ?_
          refine x_zret C xr xk dX12_isMade_37 (x_z_n _) ?_
          exact hK _ _ ⟨by rw [← hR]; first | rw [x_inO_nil (by omega), Bool.or_false] | rw [c13]; rfl, rfl⟩
        · skip
          refine x_aload_n C (i := 0) dX12_isMade_16 rfl xl0 ?_
          refine x_iload_n C (i := 2) dX12_isMade_17 rfl xl2 ?_
          obtain ⟨q, hq⟩ : ∃ q, Os[i]? = some q := ⟨_, List.getElem?_eq_getElem (by omega)⟩
          have hq9 := x_ok_at hO hq
          have hM := c_X12_compare l Y σ la sa q.1 q.2 F G i (by omega) hl9 hs3 hq9.1 hq9.2 hF hG (hH _ _ hq).1 (hH _ _ hq).2
          refine x_callV C (as := [.int (nI i)]) (st := []) (hM) kb_X12_compare kv_X12_171 dX12_isMade_18 rfl rfl (Nat.le_of_ble_eq_true rfl) ⟨by decide, by decide⟩ ⟨by decide, by decide⟩ ko_38 ?_
          clear hM
          intro r9 τ9 h9
          obtain ⟨rfl, h8⟩ := h9
          rw [h8]
          clear h8 τ9
          refine x_if_ne C 28 dX12_isMade_21 (by decide) (fun c21 => ?_) (fun c21 => ?_)
          · skip
            refine x_iconst C (nI 0) dX12_isMade_28 rfl ?_
            refine x_istore_n C (i := 1) dX12_isMade_29 rfl (by decide) ?_
            refine x_iincN C (i := 2) (b := 1) dX12_isMade_30 xl2 rfl (by decide) ?_
            refine x_goto C 4 dX12_isMade_33 (by decide) ?_
            exact ih4 _ (by omega) (i + 1) false rfl (by omega) (by rw [← hR, x_inO_drop hq, c13]; first | exact (by rw [decide_eq_true (show x_cmp la sa q.1 q.2 = nI 0 from c21)]; rfl) | exact (by rw [decide_eq_false (show ¬ x_cmp la sa q.1 q.2 = nI 0 from c21)]; rfl)) _ xl0 rfl rfl
          · skip
            refine x_iconst C (nI 1) dX12_isMade_24 rfl ?_
            refine x_goto C 29 dX12_isMade_25 (by decide) ?_
            refine x_istore_n C (i := 1) dX12_isMade_29 rfl (by decide) ?_
            refine x_iincN C (i := 2) (b := 1) dX12_isMade_30 xl2 rfl (by decide) ?_
            refine x_goto C 4 dX12_isMade_33 (by decide) ?_
            exact ih4 _ (by omega) (i + 1) true rfl (by omega) (by rw [← hR, x_inO_drop hq, c13]; first | exact (by rw [decide_eq_true (show x_cmp la sa q.1 q.2 = nI 0 from c21)]; rfl) | exact (by rw [decide_eq_false (show ¬ x_cmp la sa q.1 q.2 = nI 0 from c21)]; rfl)) _ xl0 rfl rfl
  exact lp4 _ 0 false rfl (Nat.zero_le _) rfl _ rfl rfl rfl
theorem c_X12_isMade (l : Launch) (Y : x_Y) (σ : x_S) (la sa : List Int32) (F G : Nat → Int32) (Os : List x_O) (hl9 : la.length = 9) (hs3 : sa.length = 3) (hF : σ.1 46 = x_ml la F) (hG : σ.1 47 = x_ml sa G) (hO : x_ok Os) (hO9 : Os.length ≤ 192) (hH : x_hold σ Os) (hmd : σ.1 38 7 = nI Os.length) : x_M l yX12_isMade cX12_isMade 3 (some .boolean) 1 Y [.ref 38] σ (fun r τ => r = some (.int (x_z (x_inO (la, sa) Os))) ∧ τ = σ) := c_X12_isMade_K l Y σ la sa F G Os hl9 hs3 hF hG hO hO9 hH hmd _ (fun _ _ h => h)
set_option maxRecDepth 100000 in
set_option maxHeartbeats 200000 in
theorem c_X12_close_K (l : Launch) (Y : x_Y) (σ : x_S) (Gn : List x_O) (hgn : σ.1 38 10 = nI Gn.length) (hG8 : Gn.length ≤ 9) (hGn : x_holdG σ Gn) (K : Option Value → x_S → Prop) (hK : ∀ (r : Option Value) (τ : x_S), (∃ md Ts Ss f46 f47, τ = x_cl σ md Ts Ss f46 f47 ∧ ((x_close Gn = none ∧ r = some (.int (x_z false))) ∨ ∃ Os, x_close Gn = some Os ∧ r = some (.int (x_z true)) ∧ md = Os.length ∧ Ts = Os.map (fun q => q.1) ∧ Ss = Os.map (fun q => q.2) ∧ x_ok Os ∧ Os.length ≤ 192)) → K r τ) : x_M l yX12_close cX12_close 3 (some .boolean) 2 Y [.ref 38] σ K := by
  refine x_start (by decide) (Nat.le_of_ble_eq_true rfl) ?_
  intro xp xe xs xm xg xb xt xc C xr xk
  refine x_aload_n C (i := 0) dX12_close_0 rfl rfl ?_
  refine x_iconst C (nI 0) dX12_close_1 rfl ?_
  refine x_putN C fi_38_7 kf_X12_168 rfl rfl dX12_close_2 ?_
  refine x_sig (σ' := x_cl σ 0 ([]) ([]) (σ.1 46) (σ.1 47)) (x_cl_start σ 0) ?_
  refine x_aload_n C (i := 0) dX12_close_5 rfl rfl ?_
  refine x_iconst C (nI 1) dX12_close_6 rfl ?_
  refine x_iconst C (nI 0) dX12_close_7 rfl ?_
  refine x_iconst C (nI 0) dX12_close_8 rfl ?_
  refine x_iconst C (nI 0) dX12_close_9 rfl ?_
  refine x_iconst C (nI 1) dX12_close_10 rfl ?_
  refine x_iconst C (nI 0) dX12_close_11 rfl ?_
  refine x_iconst C (nI 0) dX12_close_12 rfl ?_
  refine x_iconst C (nI 0) dX12_close_13 rfl ?_
  refine x_iconst C (nI 1) dX12_close_14 rfl ?_
  have hM := c_X12_set_K l Y (x_cl σ 0 ([]) ([]) (σ.1 46) (σ.1 47)) (nI 1) (nI 0) (nI 0) (nI 0) (nI 1) (nI 0) (nI 0) (nI 0) (nI 1) (fun r τ => r = none ∧ τ = x_cl σ 0 ([]) ([]) (x_ml [nI 1, nI 0, nI 0, nI 0, nI 1, nI 0, nI 0, nI 0, nI 1] (σ.1 46)) (σ.1 47)) (by rintro _ _ ⟨rfl, rfl⟩; exact ⟨rfl, x_cl_46 _ _ _ _ _ _ _⟩)
  refine x_callV C (as := [.int (nI 1), .int (nI 0), .int (nI 0), .int (nI 0), .int (nI 1), .int (nI 0), .int (nI 0), .int (nI 0), .int (nI 1)]) (st := []) (hM) kb_X12_set kv_X12_106 dX12_close_15 rfl rfl (Nat.le_of_ble_eq_true rfl) ⟨by decide, by decide⟩ ⟨by decide, by decide⟩ ko_38 ?_
  clear hM
  rintro _ _ ⟨rfl, rfl⟩
  refine x_aload_n C (i := 0) dX12_close_18 rfl rfl ?_
  refine x_iconst C (nI 0) dX12_close_19 rfl ?_
  refine x_iconst C (nI 0) dX12_close_20 rfl ?_
  refine x_iconst C (nI 0) dX12_close_21 rfl ?_
  have hM := c_X12_setShift_K l Y (x_cl σ 0 ([]) ([]) (x_ml [nI 1, nI 0, nI 0, nI 0, nI 1, nI 0, nI 0, nI 0, nI 1] (σ.1 46)) (σ.1 47)) (nI 0) (nI 0) (nI 0) (fun r τ => r = none ∧ τ = x_cl σ 0 ([]) ([]) (x_ml [nI 1, nI 0, nI 0, nI 0, nI 1, nI 0, nI 0, nI 0, nI 1] (σ.1 46)) (x_ml [nI 0, nI 0, nI 0] (σ.1 47))) (by rintro _ _ ⟨rfl, rfl⟩; exact ⟨rfl, x_cl_47 _ _ _ _ _ _ _⟩)
  refine x_callV C (as := [.int (nI 0), .int (nI 0), .int (nI 0)]) (st := []) (hM) kb_X12_setShift kv_X12_127 dX12_close_22 rfl rfl (Nat.le_of_ble_eq_true rfl) ⟨by decide, by decide⟩ ⟨by decide, by decide⟩ ko_38 ?_
  clear hM
  rintro _ _ ⟨rfl, rfl⟩
  refine x_aload_n C (i := 0) dX12_close_25 rfl rfl ?_
  refine x_iconst C (nI 0) dX12_close_26 rfl ?_
  have hM := c_X12_putMade_K l Y (x_cl σ 0 ([]) ([]) (x_ml [nI 1, nI 0, nI 0, nI 0, nI 1, nI 0, nI 0, nI 0, nI 1] (σ.1 46)) (x_ml [nI 0, nI 0, nI 0] (σ.1 47))) 0 (by decide) (fun r τ => r = none ∧ τ = x_cl σ 0 ([x_id].map (fun q => q.1)) ([x_id].map (fun q => q.2)) (x_ml [nI 1, nI 0, nI 0, nI 0, nI 1, nI 0, nI 0, nI 0, nI 1] (σ.1 46)) (x_ml [nI 0, nI 0, nI 0] (σ.1 47))) (by rintro _ _ ⟨rfl, rfl⟩; exact ⟨rfl, x_cl_put σ 0 [] [] x_one [nI 0, nI 0, nI 0] (σ.1 46) (σ.1 47) rfl rfl rfl rfl⟩)
  refine x_callV C (as := [.int (nI 0)]) (st := []) (hM) kb_X12_putMade kv_X12_174 dX12_close_27 rfl rfl (Nat.le_of_ble_eq_true rfl) ⟨by decide, by decide⟩ ⟨by decide, by decide⟩ ko_38 ?_
  clear hM
  rintro _ _ ⟨rfl, rfl⟩
  refine x_aload_n C (i := 0) dX12_close_30 rfl rfl ?_
  refine x_iconst C (nI 1) dX12_close_31 rfl ?_
  refine x_putN C fi_38_7 kf_X12_168 rfl rfl dX12_close_32 ?_
  refine x_sig (σ' := x_cl σ 1 ([x_id].map (fun q => q.1)) ([x_id].map (fun q => q.2)) (x_ml [nI 1, nI 0, nI 0, nI 0, nI 1, nI 0, nI 0, nI 0, nI 1] (σ.1 46)) (x_ml [nI 0, nI 0, nI 0] (σ.1 47))) (x_cl_7 _ _ _ _ _ _ _) ?_
  refine x_iconst C (nI 0) dX12_close_35 rfl ?_
  refine x_istore_n C (i := 1) dX12_close_36 rfl (by decide) ?_
  have lp37 : ∀ (m37 : Nat) (i : Nat) (f : Nat) (Os : List x_O) (f46 : Nat → Int32) (f47 : Nat → Int32), (f) = m37 → (i ≤ Os.length) → (1940 ≤ f + 10 * i) → (x_ok Os) → (Os.length ≤ 192) → (x_clo Gn f i 0 Os = x_close Gn) → ∀ L : x_Lo, L.1 0 = some (.ref 38) → L.1 1 = some (.int (nI i)) → x_W xp l xe (x_rm 2) xs xm xg xb xt xc 3 Y 0 0 (MQ xb (x_Q Y K) xg xs 0 0 (x_A Y)) 37 L [] (x_cl σ Os.length (Os.map (fun q => q.1)) (Os.map (fun q => q.2)) f46 f47) := by
    intro m37
    induction m37 using Nat.strongRecOn with
    | _ m37 ih37 =>
      intro i f Os f46 f47 hm37 hi hfl hO hO9 hR L xl0 xl1
      refine x_iload_n C (i := 1) dX12_close_37 rfl xl1 ?_
      refine x_aload_n C (i := 0) dX12_close_38 rfl xl0 ?_
      refine x_getI C fi_38_7 kf_X12_168 dX12_close_39 ?_
      refine x_topI (y := nI Os.length) rfl ?_
      obtain ⟨f9, hf9⟩ : ∃ f9, f = f9 + 1 := ⟨f - 1, by omega⟩
      refine x_icmp_geN C 110 dX12_close_42 (by decide) (by omega) (by omega) (fun c42 => ?_) (fun c42 => ?_)
      · skip
        have c42' := Nat.not_lt.mpr c42
        refine x_iconst C (nI 1) dX12_close_110 rfl ?_
        refine x_zret C xr xk dX12_close_111 rfl ?_
        exact hK _ _ ⟨_, _, _, _, _, by rw [← hR, hf9]; unfold x_clo; rw [List.getElem?_eq_none (by omega)]; exact ⟨rfl, Or.inr ⟨Os, rfl, rfl, rfl, rfl, rfl, hO, hO9⟩⟩⟩
      · skip
        have c42' := Nat.not_le.mpr c42
        refine x_iconst C (nI 0) dX12_close_45 rfl ?_
        refine x_istore_n C (i := 2) dX12_close_46 rfl (by decide) ?_
        have lp47 : ∀ (m47 : Nat) (g : Nat) (f : Nat) (Os : List x_O) (f46 : Nat → Int32) (f47 : Nat → Int32), (f) = m47 → (f ≤ m37) → (i < Os.length) → (g ≤ Gn.length) → (1940 ≤ f + 10 * i + g) → (x_ok Os) → (Os.length ≤ 192) → (x_clo Gn f i g Os = x_close Gn) → ∀ L : x_Lo, L.1 0 = some (.ref 38) → L.1 1 = some (.int (nI i)) → L.1 2 = some (.int (nI g)) → x_W xp l xe (x_rm 2) xs xm xg xb xt xc 3 Y 0 0 (MQ xb (x_Q Y K) xg xs 0 0 (x_A Y)) 47 L [] (x_cl σ Os.length (Os.map (fun q => q.1)) (Os.map (fun q => q.2)) f46 f47) := by
          intro m47
          induction m47 using Nat.strongRecOn with
          | _ m47 ih47 =>
            intro g f Os f46 f47 hm47 hff hi hgg hfl hO hO9 hR L xl0 xl1 xl2
            refine x_iload_n C (i := 2) dX12_close_47 rfl xl2 ?_
            refine x_aload_n C (i := 0) dX12_close_48 rfl xl0 ?_
            refine x_getI C fi_38_10 kf_X12_103 dX12_close_49 ?_
            refine x_topI (y := nI Gn.length) hgn ?_
            obtain ⟨f9, hf9⟩ : ∃ f9, f = f9 + 1 := ⟨f - 1, by omega⟩
            refine x_icmp_geN C 104 dX12_close_52 (by decide) (by omega) (by omega) (fun c52 => ?_) (fun c52 => ?_)
            · skip
              have c52' := Nat.not_lt.mpr c52
              obtain ⟨p, hp⟩ : ∃ p, Os[i]? = some p := ⟨_, List.getElem?_eq_getElem (by omega)⟩
              refine x_iincN C (i := 1) (b := 1) dX12_close_104 xl1 rfl (by decide) ?_
              refine x_goto C 37 dX12_close_107 (by decide) ?_
              exact ih37 _ (by omega) (i + 1) f9 Os f46 f47 rfl (by omega) (by omega) hO hO9 (by rw [← hR, hf9]; conv => rhs; unfold x_clo; rw [hp]; dsimp only; rw [List.getElem?_eq_none (by omega)]) _ xl0 rfl
            · skip
              have c52' := Nat.not_le.mpr c52
              refine x_aload_n C (i := 0) dX12_close_55 rfl xl0 ?_
              refine x_iload_n C (i := 1) dX12_close_56 rfl xl1 ?_
              refine x_iload_n C (i := 2) dX12_close_57 rfl xl2 ?_
              obtain ⟨p, hp⟩ : ∃ p, Os[i]? = some p := ⟨_, List.getElem?_eq_getElem (by omega)⟩
              obtain ⟨q, hq⟩ : ∃ q, Gn[g]? = some q := ⟨_, List.getElem?_eq_getElem (by omega)⟩
              have hp9 := x_ok_at hO hp
              have hH := x_hold_cl σ Os.length Os f46 f47
              have hpH := hH _ _ hp
              have hqH := x_holdG_cl hGn Os.length (Os.map (fun q => q.1)) (Os.map (fun q => q.2)) f46 f47 _ _ hq
              have hM := c_X12_multiply_K l Y (x_cl σ Os.length (Os.map (fun q => q.1)) (Os.map (fun q => q.2)) f46 f47) p.1 p.2 q.1 q.2 i g (by omega) (by omega) hpH.1 hpH.2 hqH.1 hqH.2 (fun r τ => r = none ∧ τ = x_cl σ Os.length (Os.map (fun q => q.1)) (Os.map (fun q => q.2)) (x_ml (x_opm p q).1 f46) (x_ml (x_opm p q).2 f47)) (by rintro _ _ ⟨rfl, rfl⟩; exact ⟨rfl, x_cl_mul σ Os.length (Os.map (fun q => q.1)) (Os.map (fun q => q.2)) f46 f47 p q⟩)
              refine x_callV C (as := [.int (nI i), .int (nI g)]) (st := []) (hM) kb_X12_multiply kv_X12_177 dX12_close_58 rfl rfl (Nat.le_of_ble_eq_true rfl) ⟨by decide, by decide⟩ ⟨by decide, by decide⟩ ko_38 ?_
              clear hM
              rintro _ _ ⟨rfl, rfl⟩
              refine x_aload_n C (i := 0) dX12_close_61 rfl xl0 ?_
              have hM := c_X12_isMade l Y (x_cl σ Os.length (Os.map (fun q => q.1)) (Os.map (fun q => q.2)) (x_ml (x_opm p q).1 f46) (x_ml (x_opm p q).2 f47)) (x_opm p q).1 (x_opm p q).2 f46 f47 Os rfl rfl rfl rfl hO (by omega) (x_hold_cl _ _ _ _ _) rfl
              refine x_callV C (as := []) (st := []) (hM) kb_X12_isMade kv_X12_180 dX12_close_62 rfl rfl (Nat.le_of_ble_eq_true rfl) ⟨by decide, by decide⟩ ⟨by decide, by decide⟩ ko_38 ?_
              clear hM
              intro r9 τ9 h9
              obtain ⟨rfl, h8⟩ := h9
              rw [h8]
              clear h8 τ9
              refine x_if_neZ C 98 dX12_close_65 (by decide) (fun c65 => ?_) (fun c65 => ?_)
              · skip
                refine x_iincN C (i := 2) (b := 1) dX12_close_98 xl2 rfl (by decide) ?_
                refine x_goto C 47 dX12_close_101 (by decide) ?_
                exact ih47 _ (by omega) (g + 1) f9 Os (x_ml (x_opm p q).1 f46) (x_ml (x_opm p q).2 f47) rfl (by omega) hi (by omega) (by omega) hO hO9 (by rw [← hR, hf9]; conv => rhs; unfold x_clo; rw [hp]; dsimp only; rw [hq]; dsimp only; rw [if_pos c65]) _ xl0 xl1 rfl
              · skip
                refine x_aload_n C (i := 0) dX12_close_68 rfl xl0 ?_
                refine x_getI C fi_38_7 kf_X12_168 dX12_close_69 ?_
                refine x_topI (y := nI Os.length) rfl ?_
                refine x_sipush C (nI 192) dX12_close_72 rfl ?_
                refine x_icmp_neN C 80 dX12_close_75 (by decide) (by omega) (by omega) (fun c75 => ?_) (fun c75 => ?_)
                · skip
                  refine x_aload_n C (i := 0) dX12_close_80 rfl xl0 ?_
                  refine x_aload_n C (i := 0) dX12_close_81 rfl xl0 ?_
                  refine x_getI C fi_38_7 kf_X12_168 dX12_close_82 ?_
                  refine x_topI (y := nI Os.length) rfl ?_
                  have hM := c_X12_putMade_K l Y (x_cl σ Os.length (Os.map (fun q => q.1)) (Os.map (fun q => q.2)) (x_ml (x_opm p q).1 f46) (x_ml (x_opm p q).2 f47)) Os.length (by omega) (fun r τ => r = none ∧ τ = x_cl σ Os.length ((Os ++ [x_opm p q]).map (fun q => q.1)) ((Os ++ [x_opm p q]).map (fun q => q.2)) (x_ml (x_opm p q).1 f46) (x_ml (x_opm p q).2 f47)) (by rintro _ _ ⟨rfl, rfl⟩; exact ⟨rfl, (by rw [List.map_append, List.map_append]; exact x_cl_put σ Os.length (Os.map (fun q => q.1)) (Os.map (fun q => q.2)) (x_opm p q).1 (x_opm p q).2 f46 f47 rfl rfl (List.length_map ..) (List.length_map ..))⟩)
                  refine x_callV C (as := [.int (nI Os.length)]) (st := []) (hM) kb_X12_putMade kv_X12_174 dX12_close_85 rfl rfl (Nat.le_of_ble_eq_true rfl) ⟨by decide, by decide⟩ ⟨by decide, by decide⟩ ko_38 ?_
                  clear hM
                  rintro _ _ ⟨rfl, rfl⟩
                  refine x_aload_n C (i := 0) dX12_close_88 rfl xl0 ?_
                  refine x_dup C dX12_close_89 rfl ?_
                  refine x_getI C fi_38_7 kf_X12_168 dX12_close_90 ?_
                  refine x_topI (y := nI Os.length) rfl ?_
                  refine x_iconst C (nI 1) dX12_close_93 rfl ?_
                  refine x_iaddN C dX12_close_94 ?_
                  refine x_putN C fi_38_7 kf_X12_168 rfl rfl dX12_close_95 ?_
                  refine x_sig (σ' := x_cl σ (Os.length + 1) ((Os ++ [x_opm p q]).map (fun q => q.1)) ((Os ++ [x_opm p q]).map (fun q => q.2)) (x_ml (x_opm p q).1 f46) (x_ml (x_opm p q).2 f47)) (x_cl_7 _ _ _ _ _ _ _) ?_
                  refine x_iincN C (i := 2) (b := 1) dX12_close_98 xl2 rfl (by decide) ?_
                  refine x_goto C 47 dX12_close_101 (by decide) ?_
                  refine x_sig (σ' := x_cl σ (Os ++ [x_opm p q]).length ((Os ++ [x_opm p q]).map (fun q => q.1)) ((Os ++ [x_opm p q]).map (fun q => q.2)) (x_ml (x_opm p q).1 f46) (x_ml (x_opm p q).2 f47)) (by rw [List.length_append]; rfl) ?_
                  exact ih47 _ (by omega) (g + 1) f9 (Os ++ [x_opm p q]) (x_ml (x_opm p q).1 f46) (x_ml (x_opm p q).2 f47) rfl (by omega) (by rw [List.length_append]; omega) (by omega) (by omega) (x_ok_app hO ⟨rfl, rfl⟩) (by rw [List.length_append]; show Os.length + 1 ≤ 192; omega) (by rw [← hR, hf9]; conv => rhs; unfold x_clo; rw [hp]; dsimp only; rw [hq]; dsimp only; rw [if_neg (by rw [c65]; decide), if_neg c75]) _ xl0 xl1 rfl
                · skip
                  refine x_iconst C (nI 0) dX12_close_78 rfl ?_
                  refine x_zret C xr xk dX12_close_79 rfl ?_
                  exact hK _ _ ⟨_, _, _, _, _, by rw [← hR, hf9]; unfold x_clo; rw [hp]; dsimp only; rw [hq]; dsimp only; rw [if_neg (by rw [c65]; decide), if_pos c75]; exact ⟨rfl, Or.inl ⟨rfl, rfl⟩⟩⟩
        exact lp47 _ 0 f Os f46 f47 rfl (by omega) (by omega) (Nat.zero_le _) (by omega) hO hO9 hR _ xl0 xl1 rfl
  exact lp37 _ 0 1940 ([x_id]) (x_ml [nI 1, nI 0, nI 0, nI 0, nI 1, nI 0, nI 0, nI 0, nI 1] (σ.1 46)) (x_ml [nI 0, nI 0, nI 0] (σ.1 47)) rfl (by decide) (by decide) (fun z hz => by rw [List.mem_singleton.mp hz]; exact ⟨rfl, rfl⟩) (by decide) (x_close_def Gn) _ rfl rfl
theorem c_X12_close (l : Launch) (Y : x_Y) (σ : x_S) (Gn : List x_O) (hgn : σ.1 38 10 = nI Gn.length) (hG8 : Gn.length ≤ 9) (hGn : x_holdG σ Gn) : x_M l yX12_close cX12_close 3 (some .boolean) 2 Y [.ref 38] σ (fun r τ => ∃ md Ts Ss f46 f47, τ = x_cl σ md Ts Ss f46 f47 ∧ ((x_close Gn = none ∧ r = some (.int (x_z false))) ∨ ∃ Os, x_close Gn = some Os ∧ r = some (.int (x_z true)) ∧ md = Os.length ∧ Ts = Os.map (fun q => q.1) ∧ Ss = Os.map (fun q => q.2) ∧ x_ok Os ∧ Os.length ≤ 192)) := c_X12_close_K l Y σ Gn hgn hG8 hGn _ (fun _ _ h => h)
