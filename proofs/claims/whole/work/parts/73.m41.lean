set_option maxRecDepth 100000 in
set_option maxHeartbeats 200000 in
theorem c_X7_sink_K (l : Launch) (Y : x_Y) (σ : x_S) (i gap : Nat) (N : Nat) (hN9 : N ≤ 3000) (P : Nat → Nat) (g0 : Nat → Int64) (hg : σ.2 22 = g0) (hl : z_lh g0 P N) (hi : i < N) (hgap : 1 ≤ gap) (hgap9 : gap ≤ 3000) (K : Option Value → x_S → Prop) (hK : ∀ (r : Option Value) (τ : x_S), (∃ g P2, (r = none ∧ τ = x_st σ [] [] [(22, g)]) ∧ z_lh g P2 N ∧ z_pm N P P2 ∧ (gap = 1 → z_sl P i → z_sl P2 (i + 1))) → K r τ) : x_M l yX7_sink cX7_sink 6 none 0 Y [.ref 21, .int (nI i), .int (nI gap)] σ K := by
  refine x_start (by decide) (Nat.le_of_ble_eq_true rfl) ?_
  intro xp xe xs xm xg xb xt xc C xr xk
  refine x_sig (σ' := x_st σ [] [] [(22, g0)]) (x_st_in trivial trivial (And.intro hg trivial)) ?_
  refine x_iload_n C (i := 2) dX7_sink_0 rfl rfl ?_
  refine x_iconst C (nI 1) dX7_sink_1 rfl ?_
  refine x_icmp_geN C 6 dX7_sink_2 (by decide) (by omega) (by omega) (fun c2 => ?_) (fun c2 => ?_)
  · skip
    have c2' := Nat.not_lt.mpr c2
    have hm9 := (hl i hi).2
    refine x_aload_n C (i := 0) dX7_sink_6 rfl rfl ?_
    refine x_getR C fr_21_0 kf_X7_9 dX7_sink_7 ?_
    refine x_iload_n C (i := 1) dX7_sink_10 rfl rfl ?_
    refine x_laldN C (by decide) rfl (by decide) dX7_sink_11 (by omega) ?_
    refine x_topL (y := g0 i) rfl ?_
    refine x_topL (y := lN (P i)) (hl i hi).1 ?_
    refine x_lstore_n C (i := 3) dX7_sink_12 rfl (by decide) ?_
    refine x_iload_n C (i := 1) dX7_sink_13 rfl rfl ?_
    refine x_istore C (i := 5) dX7_sink_14 (by decide) ?_
    have lp16 : ∀ (m16 : Nat) (at_ : Nat) (Pc : Nat → Nat) (g : Nat → Int64), (at_) = m16 → (at_ ≤ i) → (z_lh g Pc N) → (z_pm N P (z_at Pc at_ (P i))) → (gap = 1 → z_sl P i → z_sk Pc i at_ (P i)) → ∀ L : x_Lo, L.1 0 = some (.ref 21) → L.1 1 = some (.int (nI i)) → L.1 2 = some (.int (nI gap)) → L.2 3 = some (lN (P i)) → L.1 5 = some (.int (nI at_)) → x_W xp l xe (x_rm 0) xs xm xg xb xt xc 6 Y 0 0 (MQ xb (x_Q Y K) xg xs 0 0 (x_A Y)) 16 L [] (x_st σ [] [] [(22, g)]) := by
      intro m16
      induction m16 using Nat.strongRecOn with
      | _ m16 ih16 =>
        intro at_ Pc g hm16 ha hl2 hpm hs L xl0 xl1 xl2 xl3 xl5
        have lp61 : (gap = 1 → at_ = 0 ∨ Pc (at_ - 1) ≤ P i) → ∀ L : x_Lo, L.1 0 = some (.ref 21) → L.2 3 = some (lN (P i)) → L.1 5 = some (.int (nI at_)) → x_W xp l xe (x_rm 0) xs xm xg xb xt xc 6 Y 0 0 (MQ xb (x_Q Y K) xg xs 0 0 (x_A Y)) 61 L [] (x_st σ [] [] [(22, g)]) := by
          intro  he L xl0 xl3 xl5
          refine x_aload_n C (i := 0) dX7_sink_61 rfl xl0 ?_
          refine x_getR C fr_21_0 kf_X7_9 dX7_sink_62 ?_
          refine x_iload C (i := 5) dX7_sink_65 xl5 ?_
          refine x_lload_n C (i := 3) dX7_sink_67 rfl xl3 ?_
          refine x_lastN C (by decide) rfl (by decide) dX7_sink_68 (by omega) ?_
          refine x_sig (σ' := x_st σ [] [] [(22, vp_updL g at_ (lN (P i)))]) (x_st_wa rfl) ?_
          refine x_vret C xr xk dX7_sink_69 ?_
          exact hK _ _ ⟨_, _, ⟨rfl, rfl⟩, z_lh_u hl2 hm9, hpm, fun h1 h2 => z_sk_e (hs h1 h2) ha (he h1)⟩
        refine x_iload C (i := 5) dX7_sink_16 xl5 ?_
        refine x_iload_n C (i := 2) dX7_sink_18 rfl xl2 ?_
        refine x_icmp_ltN C 61 dX7_sink_19 (by decide) (by omega) (by omega) (fun c19 => ?_) (fun c19 => ?_)
        · skip
          have c19' := Nat.not_le.mpr c19
          exact lp61 (fun z => Or.inl (by omega)) _ xl0 xl3 xl5
        · skip
          have c19' := Nat.not_lt.mpr c19
          refine x_aload_n C (i := 0) dX7_sink_22 rfl xl0 ?_
          refine x_getR C fr_21_0 kf_X7_9 dX7_sink_23 ?_
          refine x_iload C (i := 5) dX7_sink_26 xl5 ?_
          refine x_iload_n C (i := 2) dX7_sink_28 rfl xl2 ?_
          refine x_isubN C dX7_sink_29 (by omega) ?_
          refine x_laldN C (by decide) rfl (by decide) dX7_sink_30 (by omega) ?_
          refine x_topL (y := g (at_ - gap)) rfl ?_
          refine x_topL (y := lN (Pc (at_ - gap))) (hl2 _ (by omega)).1 ?_
          refine x_lload_n C (i := 3) dX7_sink_31 rfl xl3 ?_
          refine x_lcmp C dX7_sink_32 ?_
          have hx9 := (hl2 (at_ - gap) (by omega)).2
          refine x_jf_le C 61 dX7_sink_33 (by decide) (fun c33 => ?_) (fun c33 => ?_)
          · skip
            have c33 := (lg_cmp_le _ _).mp c33
            have c33' := Int64.not_lt.mpr c33
            have hle : Pc (at_ - gap) ≤ P i := (z_lle (by omega) (by omega)).mp c33
            exact lp61 (fun z => Or.inr (by subst z; exact hle)) _ xl0 xl3 xl5
          · skip
            have c33 := (lg_cmp_gt _ _).mp c33
            have c33' := Int64.not_le.mpr c33
            have hgt : P i < Pc (at_ - gap) := (z_llt (by omega) (by omega)).mp c33
            refine x_aload_n C (i := 0) dX7_sink_36 rfl xl0 ?_
            refine x_getR C fr_21_0 kf_X7_9 dX7_sink_37 ?_
            refine x_iload C (i := 5) dX7_sink_40 xl5 ?_
            refine x_aload_n C (i := 0) dX7_sink_42 rfl xl0 ?_
            refine x_getR C fr_21_0 kf_X7_9 dX7_sink_43 ?_
            refine x_iload C (i := 5) dX7_sink_46 xl5 ?_
            refine x_iload_n C (i := 2) dX7_sink_48 rfl xl2 ?_
            refine x_isubN C dX7_sink_49 (by omega) ?_
            refine x_laldN C (by decide) rfl (by decide) dX7_sink_50 (by omega) ?_
            refine x_topL (y := g (at_ - gap)) rfl ?_
            refine x_topL (y := lN (Pc (at_ - gap))) (hl2 _ (by omega)).1 ?_
            refine x_lastN C (by decide) rfl (by decide) dX7_sink_51 (by omega) ?_
            refine x_sig (σ' := x_st σ [] [] [(22, vp_updL g at_ (lN (Pc (at_ - gap))))]) (x_st_wa rfl) ?_
            refine x_iload C (i := 5) dX7_sink_52 xl5 ?_
            refine x_iload_n C (i := 2) dX7_sink_54 rfl xl2 ?_
            refine x_isubN C dX7_sink_55 (by omega) ?_
            refine x_istore C (i := 5) dX7_sink_56 (by decide) ?_
            refine x_goto C 16 dX7_sink_58 (by decide) ?_
            exact ih16 _ (by omega) (at_ - gap) (z_at Pc at_ (Pc (at_ - gap))) (vp_updL g at_ (lN (Pc (at_ - gap)))) rfl (by omega) (z_lh_u hl2 hx9) (z_pm_mv (by omega) (by omega) (by omega) hpm) (fun h1 h2 => by subst h1; exact z_sk_s (hs rfl h2) (by omega) (by omega) hgt) _ xl0 xl1 xl2 xl3 rfl
    exact lp16 _ i P g0 rfl (Nat.le_refl _) hl (by rw [z_at_self]; exact z_pm_rf N P) (fun _ h => z_sk_0 h) _ rfl rfl rfl rfl rfl
  · skip
    have c2' := Nat.not_le.mpr c2
    omega
theorem c_X7_sink (l : Launch) (Y : x_Y) (σ : x_S) (i gap : Nat) (N : Nat) (hN9 : N ≤ 3000) (P : Nat → Nat) (g0 : Nat → Int64) (hg : σ.2 22 = g0) (hl : z_lh g0 P N) (hi : i < N) (hgap : 1 ≤ gap) (hgap9 : gap ≤ 3000) : x_M l yX7_sink cX7_sink 6 none 0 Y [.ref 21, .int (nI i), .int (nI gap)] σ (fun r τ => ∃ g P2, (r = none ∧ τ = x_st σ [] [] [(22, g)]) ∧ z_lh g P2 N ∧ z_pm N P P2 ∧ (gap = 1 → z_sl P i → z_sl P2 (i + 1))) := c_X7_sink_K l Y σ i gap N hN9 P g0 hg hl hi hgap hgap9 _ (fun _ _ h => h)
set_option maxRecDepth 100000 in
set_option maxHeartbeats 200000 in
theorem c_X7_sortByKind_K (l : Launch) (Y : x_Y) (σ : x_S) (c : Nat) (hc : σ.1 10 4 = nI c) (hc9 : c ≤ 192) (N : Nat) (hN : σ.1 15 3 = nI N) (hN9 : N ≤ 3000) (Q : Nat → Nat) (hQ : ∀ i, i < N → z_kd σ c i = nI (Q i) ∧ Q i < 2 ^ 30) (K : Option Value → x_S → Prop) (hK : ∀ (r : Option Value) (τ : x_S), (∃ g P, (r = none ∧ τ = x_st σ [] [] [(22, g)]) ∧ z_lh g P N ∧ z_pm N (z_S Q) P ∧ z_sl P N) → K r τ) : x_M l yX7_sortByKind cX7_sortByKind 8 none 3 Y [.ref 21, .ref 15, .ref 10] σ K := by
  refine x_start (by decide) (Nat.le_of_ble_eq_true rfl) ?_
  intro xp xe xs xm xg xb xt xc C xr xk
  refine x_sig (σ' := x_st σ [] [] [(22, σ.2 22)]) (x_st_in trivial trivial (And.intro rfl trivial)) ?_
  refine x_iconst C (nI 0) dX7_sortByKind_0 rfl ?_
  refine x_istore_n C (i := 3) dX7_sortByKind_1 rfl (by decide) ?_
  have lp2 : ∀ (m2 : Nat) (i : Nat) (g : Nat → Int64), (N - i) = m2 → (i ≤ N) → (∀ j, j < i → g j = lN (z_S Q j)) → ∀ L : x_Lo, L.1 0 = some (.ref 21) → L.1 1 = some (.ref 15) → L.1 2 = some (.ref 10) → L.1 3 = some (.int (nI i)) → x_W xp l xe (x_rm 3) xs xm xg xb xt xc 8 Y 0 0 (MQ xb (x_Q Y K) xg xs 0 0 (x_A Y)) 2 L [] (x_st σ [] [] [(22, g)]) := by
    intro m2
    induction m2 using Nat.strongRecOn with
    | _ m2 ih2 =>
      intro i g hm2 hi hg L xl0 xl1 xl2 xl3
      refine x_iload_n C (i := 3) dX7_sortByKind_2 rfl xl3 ?_
      refine x_aload_n C (i := 1) dX7_sortByKind_3 rfl xl1 ?_
      refine x_getI C fi_15_3 kf_X7_64 dX7_sortByKind_4 ?_
      refine x_topI (y := nI N) hN ?_
      refine x_icmp_geN C 63 dX7_sortByKind_7 (by decide) (by omega) (by omega) (fun c7 => ?_) (fun c7 => ?_)
      · skip
        have c7' := Nat.not_lt.mpr c7
        obtain rfl : N = i := by omega
        refine x_gets65 C kw_X7_80 dX7_sortByKind_63 ?_
        refine x_astore_n C (i := 3) dX7_sortByKind_66 rfl (by decide) ?_
        refine x_aload_n C (i := 3) dX7_sortByKind_67 rfl rfl ?_
        refine x_tlen65 C dX7_sortByKind_68 (x_topI (y := nI 9) rfl ?_)
        refine x_istore C (i := 4) dX7_sortByKind_69 (by decide) ?_
        refine x_iconst C (nI 0) dX7_sortByKind_71 rfl ?_
        refine x_istore C (i := 5) dX7_sortByKind_72 (by decide) ?_
        have lp74 : ∀ (m74 : Nat) (p : Nat) (P : Nat → Nat) (gp : Nat → Int64), (9 - p) = m74 → (p ≤ 9) → (z_lh gp P N) → (z_pm N (z_S Q) P) → (p = 9 → z_sl P N) → ∀ L : x_Lo, L.1 0 = some (.ref 21) → L.1 1 = some (.ref 15) → L.1 2 = some (.ref 10) → L.1 3 = some (.ref 65) → L.1 4 = some (.int (nI 9)) → L.1 5 = some (.int (nI p)) → x_W xp l xe (x_rm 3) xs xm xg xb xt xc 8 Y 0 0 (MQ xb (x_Q Y K) xg xs 0 0 (x_A Y)) 74 L [] (x_st σ [] [] [(22, gp)]) := by
          intro m74
          induction m74 using Nat.strongRecOn with
          | _ m74 ih74 =>
            intro p P gp hm74 hp hl2 hpm hs L xl0 xl1 xl2 xl3 xl4 xl5
            refine x_iload C (i := 5) dX7_sortByKind_74 xl5 ?_
            refine x_iload C (i := 4) dX7_sortByKind_76 xl4 ?_
            refine x_icmp_geN C 120 dX7_sortByKind_78 (by decide) (by omega) (by omega) (fun c78 => ?_) (fun c78 => ?_)
            · skip
              have c78' := Nat.not_lt.mpr c78
              obtain rfl : p = 9 := by omega
              refine x_vret C xr xk dX7_sortByKind_120 ?_
              exact hK _ _ ⟨_, P, ⟨rfl, rfl⟩, hl2, hpm, hs rfl⟩
            · skip
              have c78' := Nat.not_le.mpr c78
              have hgb := z_gap_b p (by omega)
              refine x_aload_n C (i := 3) dX7_sortByKind_81 rfl xl3 ?_
              refine x_iload C (i := 5) dX7_sortByKind_82 xl5 ?_
              refine x_tld65N C dX7_sortByKind_84 (by omega) ?_
              refine x_topI (y := nI (z_gap p)) (z_gap_is p (by omega)) ?_
              refine x_istore C (i := 6) dX7_sortByKind_85 (by decide) ?_
              refine x_iload C (i := 6) dX7_sortByKind_87 rfl ?_
              refine x_istore C (i := 7) dX7_sortByKind_89 (by decide) ?_
              have lp91 : ∀ (m91 : Nat) (i : Nat) (Pi : Nat → Nat) (gi : Nat → Int64), (N - i) = m91 → (z_gap p ≤ i) → (i ≤ N ∨ i = z_gap p) → (z_lh gi Pi N) → (z_pm N (z_S Q) Pi) → (z_gap p = 1 → z_sl Pi i) → ∀ L : x_Lo, L.1 0 = some (.ref 21) → L.1 1 = some (.ref 15) → L.1 2 = some (.ref 10) → L.1 3 = some (.ref 65) → L.1 4 = some (.int (nI 9)) → L.1 5 = some (.int (nI p)) → L.1 6 = some (.int (nI (z_gap p))) → L.1 7 = some (.int (nI i)) → x_W xp l xe (x_rm 3) xs xm xg xb xt xc 8 Y 0 0 (MQ xb (x_Q Y K) xg xs 0 0 (x_A Y)) 91 L [] (x_st σ [] [] [(22, gi)]) := by
                intro m91
                induction m91 using Nat.strongRecOn with
                | _ m91 ih91 =>
                  intro i Pi gi hm91 hig hib hl3 hpm3 hs3 L xl0 xl1 xl2 xl3 xl4 xl5 xl6 xl7
                  refine x_iload C (i := 7) dX7_sortByKind_91 xl7 ?_
                  refine x_aload_n C (i := 1) dX7_sortByKind_93 rfl xl1 ?_
                  refine x_getI C fi_15_3 kf_X7_64 dX7_sortByKind_94 ?_
                  refine x_topI (y := nI N) hN ?_
                  refine x_icmp_geN C 114 dX7_sortByKind_97 (by decide) (by omega) (by omega) (fun c97 => ?_) (fun c97 => ?_)
                  · skip
                    have c97' := Nat.not_lt.mpr c97
                    have hfin : z_gap p = 1 → z_sl Pi N := fun z a b h1 h2 => hs3 z a b h1 (by omega)
                    refine x_iincN C (i := 5) (b := 1) dX7_sortByKind_114 xl5 rfl (by decide) ?_
                    refine x_goto C 74 dX7_sortByKind_117 (by decide) ?_
                    exact ih74 _ (by omega) (p + 1) Pi gi rfl (by omega) hl3 hpm3 (fun z => hfin (hgb.2.2 (by omega))) _ xl0 xl1 xl2 xl3 xl4 rfl
                  · skip
                    have c97' := Nat.not_le.mpr c97
                    refine x_aload_n C (i := 0) dX7_sortByKind_100 rfl xl0 ?_
                    refine x_iload C (i := 7) dX7_sortByKind_101 xl7 ?_
                    refine x_iload C (i := 6) dX7_sortByKind_103 xl6 ?_
                    have hM := c_X7_sink l Y (x_st σ [] [] [(22, gi)]) i (z_gap p) N hN9 Pi gi rfl hl3 (by omega) (by omega) (by omega)
                    refine x_callV C (as := [.int (nI i), .int (nI (z_gap p))]) (st := []) (hM) kb_X7_sink kv_X7_83 dX7_sortByKind_105 rfl rfl (Nat.le_of_ble_eq_true rfl) ⟨by decide, by decide⟩ ⟨by decide, by decide⟩ ko_21 ?_
                    clear hM
                    rintro _ _ ⟨gj, Pj, ⟨rfl, rfl⟩, hl4, hpm4, hs4⟩
                    refine x_sig (σ' := x_st σ [] [] [(22, gj)]) (x_st_st rfl) ?_
                    refine x_iincN C (i := 7) (b := 1) dX7_sortByKind_108 xl7 rfl (by decide) ?_
                    refine x_goto C 91 dX7_sortByKind_111 (by decide) ?_
                    exact ih91 _ (by omega) (i + 1) Pj gj rfl (by omega) (Or.inl (by omega)) hl4 (z_pm_tr hpm3 hpm4) (fun z => hs4 z (hs3 z)) _ xl0 xl1 xl2 xl3 xl4 xl5 xl6 rfl
              exact lp91 _ (z_gap p) P gp rfl (Nat.le_refl _) (Or.inr rfl) hl2 hpm (fun z a b h1 h2 => absurd h2 (by omega)) _ xl0 xl1 xl2 xl3 xl4 xl5 rfl rfl
        exact lp74 _ 0 (z_S Q) g rfl (Nat.zero_le _) (fun j hj => ⟨hg j hj, z_S_lt (hQ j hj).2 (by omega)⟩) (z_pm_rf N _) (fun z => absurd z (by decide)) _ xl0 xl1 xl2 rfl rfl rfl
      · skip
        have c7' := Nat.not_le.mpr c7
        refine x_aload_n C (i := 1) dX7_sortByKind_10 rfl xl1 ?_
        refine x_getR C fr_15_0 kf_X7_67 dX7_sortByKind_11 ?_
        refine x_iload_n C (i := 3) dX7_sortByKind_14 rfl xl3 ?_
        refine x_ialdN C (by decide) rfl (by decide) dX7_sortByKind_15 (by omega) ?_
        refine x_topI (y := σ.1 16 i) rfl ?_
        refine x_istore C (i := 4) dX7_sortByKind_16 (by decide) ?_
        refine x_aload_n C (i := 2) dX7_sortByKind_18 rfl xl2 ?_
        refine x_iload C (i := 4) dX7_sortByKind_19 rfl ?_
        refine x_iconst C (nI 0) dX7_sortByKind_21 rfl ?_
        have hM := c_X3_part l Y (x_st σ [] [] [(22, g)]) (σ.1 16 i) 0 (by omega)
        refine x_callS C (as := [.int (σ.1 16 i), .int (nI 0)]) (st := [.ref 10]) (hM) kb_X3_part ks_X7_68 dX7_sortByKind_22 rfl rfl (Nat.le_of_ble_eq_true rfl) ⟨by decide, by decide⟩ ⟨by decide, by decide⟩ ?_
        clear hM
        rintro _ _ ⟨rfl, rfl⟩
        refine x_iload C (i := 4) dX7_sortByKind_25 rfl ?_
        refine x_iconst C (nI 1) dX7_sortByKind_27 rfl ?_
        have hM := c_X3_part l Y (x_st σ [] [] [(22, g)]) (σ.1 16 i) 1 (by omega)
        refine x_callS C (as := [.int (σ.1 16 i), .int (nI 1)]) (st := [.int (z_part (σ.1 16 i) 0), .ref 10]) (hM) kb_X3_part ks_X7_68 dX7_sortByKind_28 rfl rfl (Nat.le_of_ble_eq_true rfl) ⟨by decide, by decide⟩ ⟨by decide, by decide⟩ ?_
        clear hM
        rintro _ _ ⟨rfl, rfl⟩
        refine x_iload C (i := 4) dX7_sortByKind_31 rfl ?_
        refine x_iconst C (nI 2) dX7_sortByKind_33 rfl ?_
        have hM := c_X3_part l Y (x_st σ [] [] [(22, g)]) (σ.1 16 i) 2 (by omega)
        refine x_callS C (as := [.int (σ.1 16 i), .int (nI 2)]) (st := [.int (z_part (σ.1 16 i) 1), .int (z_part (σ.1 16 i) 0), .ref 10]) (hM) kb_X3_part ks_X7_68 dX7_sortByKind_34 rfl rfl (Nat.le_of_ble_eq_true rfl) ⟨by decide, by decide⟩ ⟨by decide, by decide⟩ ?_
        clear hM
        rintro _ _ ⟨rfl, rfl⟩
        have hM := c_X1_greatestOf l Y (x_st σ [] [] [(22, g)]) (z_part (σ.1 16 i) 0) (z_part (σ.1 16 i) 1) (z_part (σ.1 16 i) 2) c hc hc9
        refine x_callV C (as := [.int (z_part (σ.1 16 i) 0), .int (z_part (σ.1 16 i) 1), .int (z_part (σ.1 16 i) 2)]) (st := []) (hM) kb_X1_greatestOf kv_X7_74 dX7_sortByKind_37 rfl rfl (Nat.le_of_ble_eq_true rfl) ⟨by decide, by decide⟩ ⟨by decide, by decide⟩ ko_10 ?_
        clear hM
        rintro _ _ ⟨rfl, rfl⟩
        refine x_i2l C dX7_sortByKind_40 ?_
        refine x_lstore C (i := 5) dX7_sortByKind_41 (by decide) ?_
        refine x_aload_n C (i := 0) dX7_sortByKind_43 rfl xl0 ?_
        refine x_getR C fr_21_0 kf_X7_9 dX7_sortByKind_44 ?_
        refine x_iload_n C (i := 3) dX7_sortByKind_47 rfl xl3 ?_
        refine x_lload C (i := 5) dX7_sortByKind_48 rfl ?_
        refine x_bipush C (nI 12) dX7_sortByKind_50 rfl ?_
        refine x_lshl C dX7_sortByKind_52 ?_
        refine x_iload_n C (i := 3) dX7_sortByKind_53 rfl xl3 ?_
        refine x_i2l C dX7_sortByKind_54 ?_
        refine x_ladd C dX7_sortByKind_55 ?_
        refine x_topL (y := lN (z_S Q i)) (z_S_is (hQ i (by omega)).1 (hQ i (by omega)).2 (by omega)) ?_
        refine x_lastN C (by decide) rfl (by decide) dX7_sortByKind_56 (by omega) ?_
        refine x_sig (σ' := x_st σ [] [] [(22, vp_updL g i (lN (z_S Q i)))]) (x_st_wa rfl) ?_
        refine x_iincN C (i := 3) (b := 1) dX7_sortByKind_57 xl3 rfl (by decide) ?_
        refine x_goto C 2 dX7_sortByKind_60 (by decide) ?_
        exact ih2 _ (by omega) (i + 1) (vp_updL g i (lN (z_S Q i))) rfl (by omega) (fun j h => by
              by_cases e : j = i
              · subst e; rw [pk_uLs]
              · rw [pk_uLn e]; exact hg j (by omega)) _ xl0 xl1 xl2 rfl
  exact lp2 _ 0 (σ.2 22) rfl (Nat.zero_le _) (fun j h => absurd h (Nat.not_lt_zero j)) _ rfl rfl rfl rfl
theorem c_X7_sortByKind (l : Launch) (Y : x_Y) (σ : x_S) (c : Nat) (hc : σ.1 10 4 = nI c) (hc9 : c ≤ 192) (N : Nat) (hN : σ.1 15 3 = nI N) (hN9 : N ≤ 3000) (Q : Nat → Nat) (hQ : ∀ i, i < N → z_kd σ c i = nI (Q i) ∧ Q i < 2 ^ 30) : x_M l yX7_sortByKind cX7_sortByKind 8 none 3 Y [.ref 21, .ref 15, .ref 10] σ (fun r τ => ∃ g P, (r = none ∧ τ = x_st σ [] [] [(22, g)]) ∧ z_lh g P N ∧ z_pm N (z_S Q) P ∧ z_sl P N) := c_X7_sortByKind_K l Y σ c hc hc9 N hN hN9 Q hQ _ (fun _ _ h => h)
set_option maxRecDepth 100000 in
set_option maxHeartbeats 200000 in
theorem c_X7_kindAt_K (l : Launch) (Y : x_Y) (σ : x_S) (i : Nat) (N : Nat) (P : Nat → Nat) (g0 : Nat → Int64) (hg : σ.2 22 = g0) (hl : z_lh g0 P N) (hN9 : N ≤ 3000) (hi : i < N) (K : Option Value → x_S → Prop) (hK : ∀ (r : Option Value) (τ : x_S), (r = some (.int (nI (P i / 4096))) ∧ τ = σ) → K r τ) : x_M l yX7_kindAt cX7_kindAt 2 (some .int) 0 Y [.ref 21, .int (nI i)] σ K := by
  refine x_start (by decide) (Nat.le_of_ble_eq_true rfl) ?_
  intro xp xe xs xm xg xb xt xc C xr xk
  refine x_aload_n C (i := 0) dX7_kindAt_0 rfl rfl ?_
  refine x_getR C fr_21_0 kf_X7_9 dX7_kindAt_1 ?_
  refine x_iload_n C (i := 1) dX7_kindAt_4 rfl rfl ?_
  have hx9 := (hl i hi).2
  refine x_laldN C (by decide) rfl (by decide) dX7_kindAt_5 (by omega) ?_
  refine x_topL (y := lN (P i)) ((congrFun hg _).trans (hl i hi).1) ?_
  refine x_bipush C (nI 12) dX7_kindAt_6 rfl ?_
  refine x_lshr C dX7_kindAt_8 ?_
  refine x_topL (y := lN ((P i) / 2 ^ 12)) (x_lshrN 12 (by decide) (by omega)) ?_
  refine x_topL (y := lN (P i / 4096)) rfl ?_
  refine x_l2i C dX7_kindAt_9 ?_
  refine x_topI (y := nI (P i / 4096)) (lN_i _) ?_
  refine x_iret C xr xk dX7_kindAt_10 ?_
  exact hK _ _ ⟨rfl, rfl⟩
theorem c_X7_kindAt (l : Launch) (Y : x_Y) (σ : x_S) (i : Nat) (N : Nat) (P : Nat → Nat) (g0 : Nat → Int64) (hg : σ.2 22 = g0) (hl : z_lh g0 P N) (hN9 : N ≤ 3000) (hi : i < N) : x_M l yX7_kindAt cX7_kindAt 2 (some .int) 0 Y [.ref 21, .int (nI i)] σ (fun r τ => r = some (.int (nI (P i / 4096))) ∧ τ = σ) := c_X7_kindAt_K l Y σ i N P g0 hg hl hN9 hi _ (fun _ _ h => h)
set_option maxRecDepth 100000 in
set_option maxHeartbeats 200000 in
theorem c_X7_intensityAt_K (l : Launch) (Y : x_Y) (σ : x_S) (i : Nat) (N : Nat) (P : Nat → Nat) (g0 : Nat → Int64) (hg : σ.2 22 = g0) (hl : z_lh g0 P N) (hN9 : N ≤ 3000) (hi : i < N) (hm : P i % 4096 < 3000) (K : Option Value → x_S → Prop) (hK : ∀ (r : Option Value) (τ : x_S), (r = some (.int (σ.1 17 (P i % 4096))) ∧ τ = σ) → K r τ) : x_M l yX7_intensityAt cX7_intensityAt 3 (some .int) 0 Y [.ref 21, .int (nI i), .ref 15] σ K := by
  refine x_start (by decide) (Nat.le_of_ble_eq_true rfl) ?_
  intro xp xe xs xm xg xb xt xc C xr xk
  refine x_aload_n C (i := 2) dX7_intensityAt_0 rfl rfl ?_
  refine x_getR C fr_15_1 kf_X7_87 dX7_intensityAt_1 ?_
  refine x_aload_n C (i := 0) dX7_intensityAt_4 rfl rfl ?_
  refine x_getR C fr_21_0 kf_X7_9 dX7_intensityAt_5 ?_
  refine x_iload_n C (i := 1) dX7_intensityAt_8 rfl rfl ?_
  have hx9 := (hl i hi).2
  refine x_laldN C (by decide) rfl (by decide) dX7_intensityAt_9 (by omega) ?_
  refine x_topL (y := lN (P i)) ((congrFun hg _).trans (hl i hi).1) ?_
  refine x_ldc2 C (4095) kc_X7_90 dX7_intensityAt_10 ?_
  refine x_topL (y := lN 4095) rfl ?_
  refine x_land C dX7_intensityAt_13 ?_
  refine x_topL (y := lN ((P i) % 4096)) (x_lmask 12 (by decide) (by omega)) ?_
  refine x_l2i C dX7_intensityAt_14 ?_
  refine x_topI (y := nI ((P i) % 4096)) (lN_i _) ?_
  refine x_ialdN C (by decide) rfl (by decide) dX7_intensityAt_15 (by omega) ?_
  refine x_iret C xr xk dX7_intensityAt_16 ?_
  exact hK _ _ ⟨rfl, rfl⟩
theorem c_X7_intensityAt (l : Launch) (Y : x_Y) (σ : x_S) (i : Nat) (N : Nat) (P : Nat → Nat) (g0 : Nat → Int64) (hg : σ.2 22 = g0) (hl : z_lh g0 P N) (hN9 : N ≤ 3000) (hi : i < N) (hm : P i % 4096 < 3000) : x_M l yX7_intensityAt cX7_intensityAt 3 (some .int) 0 Y [.ref 21, .int (nI i), .ref 15] σ (fun r τ => r = some (.int (σ.1 17 (P i % 4096))) ∧ τ = σ) := c_X7_intensityAt_K l Y σ i N P g0 hg hl hN9 hi hm _ (fun _ _ h => h)
