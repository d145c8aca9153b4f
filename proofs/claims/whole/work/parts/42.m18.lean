set_option maxRecDepth 100000 in
set_option maxHeartbeats 200000 in
theorem c_X12_reflection_K (l : Launch) (Y : x_Y) (σ : x_S) (i w : Int32) (n : Nat) (hn : σ.1 38 20 = nI n) (hn9 : n ≤ 3000) (K : Option Value → x_S → Prop) (hK : ∀ (r : Option Value) (τ : x_S), ((∃ iq wq, iq < n ∧ wq < 5 ∧ i = nI iq ∧ w = nI wq ∧ r = some (.int (if wq = 0 then σ.1 49 iq else if wq = 1 then σ.1 50 iq else if wq = 2 then σ.1 51 iq else if wq = 3 then σ.1 52 iq else σ.1 53 iq)) ∧ τ = x_u σ 38 0 (nI 0)) ∨ (¬ (x_rng i n ∧ x_rng w 5) ∧ r = some (.int (nI 0)) ∧ τ = x_u σ 38 0 (nI 1))) → K r τ) : x_M l yX12_reflection cX12_reflection 3 (some .int) 1 Y [.ref 38, .int i, .int w] σ K := by
  refine x_start (by decide) (Nat.le_of_ble_eq_true rfl) ?_
  intro xp xe xs xm xg xb xt xc C xr xk
  refine x_aload_n C (i := 0) dX12_reflection_0 rfl rfl ?_
  refine x_iload_n C (i := 1) dX12_reflection_1 rfl rfl ?_
  refine x_iconst C (nI 0) dX12_reflection_2 rfl ?_
  refine x_aload_n C (i := 0) dX12_reflection_3 rfl rfl ?_
  refine x_getI C fi_38_20 kf_X12_271 dX12_reflection_4 ?_
  refine x_topI (y := nI n) hn ?_
  refine x_iconst C (nI 1) dX12_reflection_7 rfl ?_
  refine x_isub C dX12_reflection_8 ?_
  have hM := c_X12_in l Y σ i (nI 0) ((nI n) - (nI 1))
  refine x_callS C (as := [.int i, .int (nI 0), .int ((nI n) - (nI 1))]) (st := [.ref 38]) (hM) kb_X12_in ks_X12_96 dX12_reflection_9 rfl rfl (Nat.le_of_ble_eq_true rfl) ⟨by decide, by decide⟩ ⟨by decide, by decide⟩ ?_
  clear hM
  intro r9 τ9 h9
  obtain ⟨rfl, h8⟩ := h9
  rw [h8]
  clear h8 τ9
  refine x_if_eqZ C 28 dX12_reflection_12 (by decide) (fun c12 => ?_) (fun c12 => ?_)
  · skip
    have hz : ¬ (x_rng i n ∧ x_rng w 5) := fun z => x_rng_not (by omega) c12 z.1
    refine x_iconst C (nI 0) dX12_reflection_28 rfl ?_
    have hM := c_X12_goes l Y σ false
    refine x_callV C (as := [.int (x_z false)]) (st := []) (hM) kb_X12_goes kv_X12_92 dX12_reflection_29 rfl rfl (Nat.le_of_ble_eq_true rfl) ⟨by decide, by decide⟩ ⟨by decide, by decide⟩ ko_38 ?_
    clear hM
    rintro _ _ ⟨rfl, rfl⟩
    refine x_if_neZ C 37 dX12_reflection_32 (by decide) (fun c32 => absurd c32 (by decide)) (fun c32 => ?_)
    refine x_iconst C (nI 0) dX12_reflection_35 rfl ?_
    refine x_iret C xr xk dX12_reflection_36 ?_
    exact hK _ _ (Or.inr ⟨hz, rfl, rfl⟩)
  · skip
    have hz1 := (x_rng_iff (by omega)).mp c12
    refine x_iload_n C (i := 2) dX12_reflection_15 rfl rfl ?_
    refine x_iconst C (nI 0) dX12_reflection_16 rfl ?_
    refine x_iconst C (nI 4) dX12_reflection_17 rfl ?_
    have hM := c_X12_in l Y σ w (nI 0) (nI 4)
    refine x_callS C (as := [.int w, .int (nI 0), .int (nI 4)]) (st := [.ref 38]) (hM) kb_X12_in ks_X12_96 dX12_reflection_18 rfl rfl (Nat.le_of_ble_eq_true rfl) ⟨by decide, by decide⟩ ⟨by decide, by decide⟩ ?_
    clear hM
    intro r9 τ9 h9
    obtain ⟨rfl, h8⟩ := h9
    rw [h8]
    clear h8 τ9
    refine x_if_eqZ C 28 dX12_reflection_21 (by decide) (fun c21 => ?_) (fun c21 => ?_)
    · skip
      have hz : ¬ (x_rng i n ∧ x_rng w 5) := fun z => x_rng_not2 (by decide) c21 z.2
      refine x_iconst C (nI 0) dX12_reflection_28 rfl ?_
      have hM := c_X12_goes l Y σ false
      refine x_callV C (as := [.int (x_z false)]) (st := []) (hM) kb_X12_goes kv_X12_92 dX12_reflection_29 rfl rfl (Nat.le_of_ble_eq_true rfl) ⟨by decide, by decide⟩ ⟨by decide, by decide⟩ ko_38 ?_
      clear hM
      rintro _ _ ⟨rfl, rfl⟩
      refine x_if_neZ C 37 dX12_reflection_32 (by decide) (fun c32 => absurd c32 (by decide)) (fun c32 => ?_)
      refine x_iconst C (nI 0) dX12_reflection_35 rfl ?_
      refine x_iret C xr xk dX12_reflection_36 ?_
      exact hK _ _ (Or.inr ⟨hz, rfl, rfl⟩)
    · skip
      have hz2 := (x_rng_iff2 (by decide)).mp c21
      refine x_iconst C (nI 1) dX12_reflection_24 rfl ?_
      refine x_goto C 29 dX12_reflection_25 (by decide) ?_
      have hM := c_X12_goes l Y σ true
      refine x_callV C (as := [.int (x_z true)]) (st := []) (hM) kb_X12_goes kv_X12_92 dX12_reflection_29 rfl rfl (Nat.le_of_ble_eq_true rfl) ⟨by decide, by decide⟩ ⟨by decide, by decide⟩ ko_38 ?_
      clear hM
      rintro _ _ ⟨rfl, rfl⟩
      refine x_if_neZ C 37 dX12_reflection_32 (by decide) (fun c32 => ?_) (fun c32 => absurd c32 (by decide))
      obtain ⟨iq, hi1, rfl⟩ := hz1
      obtain ⟨wq, hw1, rfl⟩ := hz2
      refine x_iload_n C (i := 2) dX12_reflection_37 rfl rfl ?_
      refine x_if_neN C 50 dX12_reflection_38 (by decide) (by omega) (fun c38 => ?_) (fun c38 => ?_)
      · skip
        refine x_iload_n C (i := 2) dX12_reflection_50 rfl rfl ?_
        refine x_iconst C (nI 1) dX12_reflection_51 rfl ?_
        refine x_icmp_neN C 64 dX12_reflection_52 (by decide) (by omega) (by omega) (fun c52 => ?_) (fun c52 => ?_)
        · skip
          refine x_iload_n C (i := 2) dX12_reflection_64 rfl rfl ?_
          refine x_iconst C (nI 2) dX12_reflection_65 rfl ?_
          refine x_icmp_neN C 78 dX12_reflection_66 (by decide) (by omega) (by omega) (fun c66 => ?_) (fun c66 => ?_)
          · skip
            refine x_iload_n C (i := 2) dX12_reflection_78 rfl rfl ?_
            refine x_iconst C (nI 3) dX12_reflection_79 rfl ?_
            refine x_icmp_neN C 92 dX12_reflection_80 (by decide) (by omega) (by omega) (fun c80 => ?_) (fun c80 => ?_)
            · skip
              refine x_aload_n C (i := 0) dX12_reflection_92 rfl rfl ?_
              refine x_getR C fr_38_25 kf_X12_54 dX12_reflection_93 ?_
              refine x_iload_n C (i := 1) dX12_reflection_96 rfl rfl ?_
              refine x_ialdN C (by decide) rfl (by decide) dX12_reflection_97 (by omega) ?_
              refine x_iret C xr xk dX12_reflection_98 ?_
              exact hK _ _ (Or.inl ⟨iq, wq, hi1, hw1, rfl, rfl, by first | (rw [if_pos c38]; rfl) | (rw [if_neg c38, if_pos c52]; rfl) | (rw [if_neg c38, if_neg c52, if_pos c66]; rfl) | (rw [if_neg c38, if_neg c52, if_neg c66, if_pos c80]; rfl) | (rw [if_neg c38, if_neg c52, if_neg c66, if_neg c80]; rfl), rfl⟩)
            · skip
              refine x_aload_n C (i := 0) dX12_reflection_83 rfl rfl ?_
              refine x_getR C fr_38_24 kf_X12_51 dX12_reflection_84 ?_
              refine x_iload_n C (i := 1) dX12_reflection_87 rfl rfl ?_
              refine x_ialdN C (by decide) rfl (by decide) dX12_reflection_88 (by omega) ?_
              refine x_goto C 98 dX12_reflection_89 (by decide) ?_
              refine x_iret C xr xk dX12_reflection_98 ?_
              exact hK _ _ (Or.inl ⟨iq, wq, hi1, hw1, rfl, rfl, by first | (rw [if_pos c38]; rfl) | (rw [if_neg c38, if_pos c52]; rfl) | (rw [if_neg c38, if_neg c52, if_pos c66]; rfl) | (rw [if_neg c38, if_neg c52, if_neg c66, if_pos c80]; rfl) | (rw [if_neg c38, if_neg c52, if_neg c66, if_neg c80]; rfl), rfl⟩)
          · skip
            refine x_aload_n C (i := 0) dX12_reflection_69 rfl rfl ?_
            refine x_getR C fr_38_23 kf_X12_48 dX12_reflection_70 ?_
            refine x_iload_n C (i := 1) dX12_reflection_73 rfl rfl ?_
            refine x_ialdN C (by decide) rfl (by decide) dX12_reflection_74 (by omega) ?_
            refine x_goto C 98 dX12_reflection_75 (by decide) ?_
            refine x_iret C xr xk dX12_reflection_98 ?_
            exact hK _ _ (Or.inl ⟨iq, wq, hi1, hw1, rfl, rfl, by first | (rw [if_pos c38]; rfl) | (rw [if_neg c38, if_pos c52]; rfl) | (rw [if_neg c38, if_neg c52, if_pos c66]; rfl) | (rw [if_neg c38, if_neg c52, if_neg c66, if_pos c80]; rfl) | (rw [if_neg c38, if_neg c52, if_neg c66, if_neg c80]; rfl), rfl⟩)
        · skip
          refine x_aload_n C (i := 0) dX12_reflection_55 rfl rfl ?_
          refine x_getR C fr_38_22 kf_X12_45 dX12_reflection_56 ?_
          refine x_iload_n C (i := 1) dX12_reflection_59 rfl rfl ?_
          refine x_ialdN C (by decide) rfl (by decide) dX12_reflection_60 (by omega) ?_
          refine x_goto C 98 dX12_reflection_61 (by decide) ?_
          refine x_iret C xr xk dX12_reflection_98 ?_
          exact hK _ _ (Or.inl ⟨iq, wq, hi1, hw1, rfl, rfl, by first | (rw [if_pos c38]; rfl) | (rw [if_neg c38, if_pos c52]; rfl) | (rw [if_neg c38, if_neg c52, if_pos c66]; rfl) | (rw [if_neg c38, if_neg c52, if_neg c66, if_pos c80]; rfl) | (rw [if_neg c38, if_neg c52, if_neg c66, if_neg c80]; rfl), rfl⟩)
      · skip
        refine x_aload_n C (i := 0) dX12_reflection_41 rfl rfl ?_
        refine x_getR C fr_38_21 kf_X12_42 dX12_reflection_42 ?_
        refine x_iload_n C (i := 1) dX12_reflection_45 rfl rfl ?_
        refine x_ialdN C (by decide) rfl (by decide) dX12_reflection_46 (by omega) ?_
        refine x_goto C 98 dX12_reflection_47 (by decide) ?_
        refine x_iret C xr xk dX12_reflection_98 ?_
        exact hK _ _ (Or.inl ⟨iq, wq, hi1, hw1, rfl, rfl, by first | (rw [if_pos c38]; rfl) | (rw [if_neg c38, if_pos c52]; rfl) | (rw [if_neg c38, if_neg c52, if_pos c66]; rfl) | (rw [if_neg c38, if_neg c52, if_neg c66, if_pos c80]; rfl) | (rw [if_neg c38, if_neg c52, if_neg c66, if_neg c80]; rfl), rfl⟩)
theorem c_X12_reflection (l : Launch) (Y : x_Y) (σ : x_S) (i w : Int32) (n : Nat) (hn : σ.1 38 20 = nI n) (hn9 : n ≤ 3000) : x_M l yX12_reflection cX12_reflection 3 (some .int) 1 Y [.ref 38, .int i, .int w] σ (fun r τ => (∃ iq wq, iq < n ∧ wq < 5 ∧ i = nI iq ∧ w = nI wq ∧ r = some (.int (if wq = 0 then σ.1 49 iq else if wq = 1 then σ.1 50 iq else if wq = 2 then σ.1 51 iq else if wq = 3 then σ.1 52 iq else σ.1 53 iq)) ∧ τ = x_u σ 38 0 (nI 0)) ∨ (¬ (x_rng i n ∧ x_rng w 5) ∧ r = some (.int (nI 0)) ∧ τ = x_u σ 38 0 (nI 1))) := c_X12_reflection_K l Y σ i w n hn hn9 _ (fun _ _ h => h)
set_option maxRecDepth 100000 in
set_option maxHeartbeats 200000 in
theorem c_X12_place_K (l : Launch) (Y : x_Y) (σ : x_S) (q : Int64) (n : Nat) (f : Nat → Int64) (hn : σ.1 38 29 = nI n) (hn9 : n ≤ 3000) (hf : σ.2 54 = f) (hs : ∀ a b, a < b → b < n → f a < f b) (K : Option Value → x_S → Prop) (hK : ∀ (r : Option Value) (τ : x_S), (∃ a, (r = some (.int (nI a)) ∧ τ = σ) ∧ a ≤ n ∧ (∀ j, j < a → f j < q) ∧ (∀ j, a ≤ j → j < n → ¬ f j < q)) → K r τ) : x_M l yX12_place cX12_place 6 (some .int) 0 Y [.ref 38, .long q] σ K := by
  refine x_start (by decide) (Nat.le_of_ble_eq_true rfl) ?_
  intro xp xe xs xm xg xb xt xc C xr xk
  refine x_iconst C (nI 0) dX12_place_0 rfl ?_
  refine x_istore_n C (i := 3) dX12_place_1 rfl (by decide) ?_
  refine x_aload_n C (i := 0) dX12_place_2 rfl rfl ?_
  refine x_getI C fi_38_29 kf_X12_195 dX12_place_3 ?_
  refine x_topI (y := nI n) hn ?_
  refine x_istore C (i := 4) dX12_place_6 (by decide) ?_
  have lp8 : ∀ (m8 : Nat) (lo : Nat) (hi : Nat), (hi - lo) = m8 → (lo ≤ hi) → (hi ≤ n) → (∀ j, j < lo → f j < q) → (∀ j, hi ≤ j → j < n → ¬ f j < q) → ∀ L : x_Lo, L.1 0 = some (.ref 38) → L.2 1 = some q → L.1 3 = some (.int (nI lo)) → L.1 4 = some (.int (nI hi)) → x_W xp l xe (x_rm 0) xs xm xg xb xt xc 6 Y 0 0 (MQ xb (x_Q Y K) xg xs 0 0 (x_A Y)) 8 L [] σ := by
    intro m8
    induction m8 using Nat.strongRecOn with
    | _ m8 ih8 =>
      intro lo hi hm8 hl hh h1 h2 L xl0 xl1 xl3 xl4
      refine x_iload_n C (i := 3) dX12_place_8 rfl xl3 ?_
      refine x_iload C (i := 4) dX12_place_9 xl4 ?_
      refine x_icmp_geN C 67 dX12_place_11 (by decide) (by omega) (by omega) (fun c11 => ?_) (fun c11 => ?_)
      · skip
        have c11' := Nat.not_lt.mpr c11
        obtain rfl : lo = hi := by omega
        refine x_iload_n C (i := 3) dX12_place_67 rfl xl3 ?_
        refine x_iret C xr xk dX12_place_68 ?_
        exact hK _ _ ⟨_, ⟨rfl, rfl⟩, hh, h1, h2⟩
      · skip
        have c11' := Nat.not_le.mpr c11
        refine x_iload_n C (i := 3) dX12_place_14 rfl xl3 ?_
        refine x_iload C (i := 4) dX12_place_15 xl4 ?_
        refine x_iaddN C dX12_place_17 ?_
        refine x_iconst C (nI 2) dX12_place_18 rfl ?_
        refine x_idivN C dX12_place_19 (by omega) (by omega) (by omega) ?_
        refine x_istore C (i := 5) dX12_place_20 (by decide) ?_
        refine x_aload_n C (i := 0) dX12_place_22 rfl xl0 ?_
        refine x_getR C fr_38_30 kf_X12_57 dX12_place_23 ?_
        refine x_iload C (i := 5) dX12_place_26 rfl ?_
        refine x_laldN C (by decide) rfl (by decide) dX12_place_28 (by omega) ?_
        refine x_topL (y := f ((lo + hi) / 2)) (congrFun hf _) ?_
        refine x_lload_n C (i := 1) dX12_place_29 rfl xl1 ?_
        refine x_lcmp C dX12_place_30 ?_
        refine x_jf_ge C 41 dX12_place_31 (by decide) (fun c31 => ?_) (fun c31 => ?_)
        · skip
          have c31 := (lg_cmp_ge _ _).mp c31
          have c31' := Int64.not_lt.mpr c31
          refine x_iload_n C (i := 3) dX12_place_41 rfl xl3 ?_
          refine x_istore_n C (i := 3) dX12_place_42 rfl (by decide) ?_
          refine x_aload_n C (i := 0) dX12_place_43 rfl xl0 ?_
          refine x_getR C fr_38_30 kf_X12_57 dX12_place_44 ?_
          refine x_iload C (i := 5) dX12_place_47 rfl ?_
          refine x_laldN C (by decide) rfl (by decide) dX12_place_49 (by omega) ?_
          refine x_topL (y := f ((lo + hi) / 2)) (congrFun hf _) ?_
          refine x_lload_n C (i := 1) dX12_place_50 rfl xl1 ?_
          refine x_lcmp C dX12_place_51 ?_
          refine x_jf_ge C 60 dX12_place_52 (by decide) (fun c52 => ?_) (fun c52 => ?_)
          · skip
            have c52 := (lg_cmp_ge _ _).mp c52
            have c52' := Int64.not_lt.mpr c52
            refine x_iload C (i := 5) dX12_place_60 rfl ?_
            refine x_istore C (i := 4) dX12_place_62 (by decide) ?_
            refine x_goto C 8 dX12_place_64 (by decide) ?_
            exact ih8 _ (by omega) lo ((lo + hi) / 2) rfl (by omega) (by omega) h1 (x_pl_hi hs c31') _ xl0 xl1 rfl rfl
          · skip
            have c52 := (lg_cmp_lt _ _).mp c52
            have c52' := Int64.not_le.mpr c52
            exact absurd c52 c31'
        · skip
          have c31 := (lg_cmp_lt _ _).mp c31
          have c31' := Int64.not_le.mpr c31
          refine x_iload C (i := 5) dX12_place_34 rfl ?_
          refine x_iconst C (nI 1) dX12_place_36 rfl ?_
          refine x_iaddN C dX12_place_37 ?_
          refine x_goto C 42 dX12_place_38 (by decide) ?_
          refine x_istore_n C (i := 3) dX12_place_42 rfl (by decide) ?_
          refine x_aload_n C (i := 0) dX12_place_43 rfl xl0 ?_
          refine x_getR C fr_38_30 kf_X12_57 dX12_place_44 ?_
          refine x_iload C (i := 5) dX12_place_47 rfl ?_
          refine x_laldN C (by decide) rfl (by decide) dX12_place_49 (by omega) ?_
          refine x_topL (y := f ((lo + hi) / 2)) (congrFun hf _) ?_
          refine x_lload_n C (i := 1) dX12_place_50 rfl xl1 ?_
          refine x_lcmp C dX12_place_51 ?_
          refine x_jf_ge C 60 dX12_place_52 (by decide) (fun c52 => ?_) (fun c52 => ?_)
          · skip
            have c52 := (lg_cmp_ge _ _).mp c52
            have c52' := Int64.not_lt.mpr c52
            exact absurd c31 c52'
          · skip
            have c52 := (lg_cmp_lt _ _).mp c52
            have c52' := Int64.not_le.mpr c52
            refine x_iload C (i := 4) dX12_place_55 xl4 ?_
            refine x_goto C 62 dX12_place_57 (by decide) ?_
            refine x_istore C (i := 4) dX12_place_62 (by decide) ?_
            refine x_goto C 8 dX12_place_64 (by decide) ?_
            exact ih8 _ (by omega) ((lo + hi) / 2 + 1) hi rfl (by omega) (by omega) (x_pl_lo hs (by omega) c31) h2 _ xl0 xl1 rfl rfl
  exact lp8 _ 0 n rfl (by omega) (by omega) (fun j hj => absurd hj (Nat.not_lt_zero j)) (fun j h3 h4 => absurd h4 (by omega)) _ rfl rfl rfl rfl
theorem c_X12_place (l : Launch) (Y : x_Y) (σ : x_S) (q : Int64) (n : Nat) (f : Nat → Int64) (hn : σ.1 38 29 = nI n) (hn9 : n ≤ 3000) (hf : σ.2 54 = f) (hs : ∀ a b, a < b → b < n → f a < f b) : x_M l yX12_place cX12_place 6 (some .int) 0 Y [.ref 38, .long q] σ (fun r τ => ∃ a, (r = some (.int (nI a)) ∧ τ = σ) ∧ a ≤ n ∧ (∀ j, j < a → f j < q) ∧ (∀ j, a ≤ j → j < n → ¬ f j < q)) := c_X12_place_K l Y σ q n f hn hn9 hf hs _ (fun _ _ h => h)
set_option maxRecDepth 100000 in
set_option maxHeartbeats 400000 in
theorem c_X12_merge_K (l : Launch) (Y : x_Y) (σ : x_S) (o : Nat) (hn : σ.1 38 4 = nI o) (hn9 : o ≤ 192) (N : Nat) (hN : σ.1 38 20 = nI N) (hN9 : N ≤ 3000) (K : Option Value → x_S → Prop) (hK : ∀ (r : Option Value) (τ : x_S), ((o = 0 ∧ r = some (.int (nI 0)) ∧ τ = x_u σ 38 0 (nI 1)) ∨ (0 < o ∧ ∃ n e18 g48 f54 f55 f56 f57 f58 f59 f60, r = some (.int (nI n)) ∧ τ = x_st σ [(38, 0, nI 0), (38, 29, nI n), (38, 18, e18)] [(55, f55), (56, f56), (57, f57)] [(48, g48), (54, f54), (58, f58), (59, f59), (60, f60)] ∧ x_mg σ o N n f54 f55 f56 f57 f58 f59)) → K r τ) : x_M l yX12_merge cX12_merge 5 (some .int) 2 Y [.ref 38] σ K := by
  refine x_start (by decide) (Nat.le_of_ble_eq_true rfl) ?_
  intro xp xe xs xm xg xb xt xc C xr xk
  refine x_sig (σ' := x_st σ [(38, 0, σ.1 38 0), (38, 29, σ.1 38 29), (38, 18, σ.1 38 18)] [(55, σ.1 55), (56, σ.1 56), (57, σ.1 57)] [(48, σ.2 48), (54, σ.2 54), (58, σ.2 58), (59, σ.2 59), (60, σ.2 60)]) (x_st_in (And.intro rfl (And.intro rfl (And.intro rfl trivial))) (And.intro rfl (And.intro rfl (And.intro rfl trivial))) (And.intro rfl (And.intro rfl (And.intro rfl (And.intro rfl (And.intro rfl trivial)))))) ?_
  refine x_aload_n C (i := 0) dX12_merge_0 rfl rfl ?_
  refine x_aload_n C (i := 0) dX12_merge_1 rfl rfl ?_
  refine x_getI C fi_38_4 kf_X12_183 dX12_merge_2 ?_
  refine x_topI (y := nI o) hn ?_
  refine x_if_leN C 12 dX12_merge_5 (by decide) (by omega) (fun c5 => ?_) (fun c5 => ?_)
  · skip
    refine x_iconst C (nI 0) dX12_merge_12 rfl ?_
    have hM := c_X12_goes l Y (x_st σ [(38, 0, σ.1 38 0), (38, 29, σ.1 38 29), (38, 18, σ.1 38 18)] [(55, σ.1 55), (56, σ.1 56), (57, σ.1 57)] [(48, σ.2 48), (54, σ.2 54), (58, σ.2 58), (59, σ.2 59), (60, σ.2 60)]) false
    refine x_callV C (as := [.int (x_z false)]) (st := []) (hM) kb_X12_goes kv_X12_92 dX12_merge_13 rfl rfl (Nat.le_of_ble_eq_true rfl) ⟨by decide, by decide⟩ ⟨by decide, by decide⟩ ko_38 ?_
    clear hM
    rintro _ _ ⟨rfl, rfl⟩
    refine x_sig (σ' := x_st σ [(38, 0, nI 1), (38, 29, σ.1 38 29), (38, 18, σ.1 38 18)] [(55, σ.1 55), (56, σ.1 56), (57, σ.1 57)] [(48, σ.2 48), (54, σ.2 54), (58, σ.2 58), (59, σ.2 59), (60, σ.2 60)]) (x_st_u rfl) ?_
    refine x_if_neZ C 21 dX12_merge_16 (by decide) (fun c16 => absurd c16 (by decide)) (fun c16 => ?_)
    refine x_iconst C (nI 0) dX12_merge_19 rfl ?_
    refine x_iret C xr xk dX12_merge_20 ?_
    exact hK _ _ (Or.inl ⟨by omega, rfl, ((congrArg (fun z => x_u z 38 0 (nI 1)) (x_st_in (σ := σ) (F := [(38, 0, σ.1 38 0), (38, 29, σ.1 38 29), (38, 18, σ.1 38 18)]) (I := [(55, σ.1 55), (56, σ.1 56), (57, σ.1 57)]) (G := [(48, σ.2 48), (54, σ.2 54), (58, σ.2 58), (59, σ.2 59), (60, σ.2 60)]) (And.intro rfl (And.intro rfl (And.intro rfl trivial))) (And.intro rfl (And.intro rfl (And.intro rfl trivial))) (And.intro rfl (And.intro rfl (And.intro rfl (And.intro rfl (And.intro rfl trivial))))))).trans (x_st_u rfl)).symm⟩)
  · skip
    refine x_iconst C (nI 1) dX12_merge_8 rfl ?_
    refine x_goto C 13 dX12_merge_9 (by decide) ?_
    have hM := c_X12_goes l Y (x_st σ [(38, 0, σ.1 38 0), (38, 29, σ.1 38 29), (38, 18, σ.1 38 18)] [(55, σ.1 55), (56, σ.1 56), (57, σ.1 57)] [(48, σ.2 48), (54, σ.2 54), (58, σ.2 58), (59, σ.2 59), (60, σ.2 60)]) true
    refine x_callV C (as := [.int (x_z true)]) (st := []) (hM) kb_X12_goes kv_X12_92 dX12_merge_13 rfl rfl (Nat.le_of_ble_eq_true rfl) ⟨by decide, by decide⟩ ⟨by decide, by decide⟩ ko_38 ?_
    clear hM
    rintro _ _ ⟨rfl, rfl⟩
    refine x_sig (σ' := x_st σ [(38, 0, nI 0), (38, 29, σ.1 38 29), (38, 18, σ.1 38 18)] [(55, σ.1 55), (56, σ.1 56), (57, σ.1 57)] [(48, σ.2 48), (54, σ.2 54), (58, σ.2 58), (59, σ.2 59), (60, σ.2 60)]) (x_st_u rfl) ?_
    refine x_if_neZ C 21 dX12_merge_16 (by decide) (fun c16 => ?_) (fun c16 => absurd c16 (by decide))
    refine x_aload_n C (i := 0) dX12_merge_21 rfl rfl ?_
    refine x_iconst C (nI 0) dX12_merge_22 rfl ?_
    refine x_putN C fi_38_29 kf_X12_195 rfl rfl dX12_merge_23 ?_
    refine x_sig (σ' := x_st σ [(38, 0, nI 0), (38, 29, nI 0), (38, 18, σ.1 38 18)] [(55, σ.1 55), (56, σ.1 56), (57, σ.1 57)] [(48, σ.2 48), (54, σ.2 54), (58, σ.2 58), (59, σ.2 59), (60, σ.2 60)]) (x_st_u rfl) ?_
    refine x_iconst C (nI 0) dX12_merge_26 rfl ?_
    refine x_istore_n C (i := 1) dX12_merge_27 rfl (by decide) ?_
    have lp28 : ∀ (m28 : Nat) (i : Nat) (n : Nat) (f54 : Nat → Int64) (f55 : Nat → Int32) (f58 : Nat → Int64) (f60 : Nat → Int64), (N - i) = m28 → (i ≤ N) → (x_ro (x_kk σ o) (x_vv σ) i n f54 f55 f58) → (∀ j, j < i → f60 j = x_kk σ o j) → ∀ L : x_Lo, L.1 0 = some (.ref 38) → L.1 1 = some (.int (nI i)) → x_W xp l xe (x_rm 2) xs xm xg xb xt xc 5 Y 0 0 (MQ xb (x_Q Y K) xg xs 0 0 (x_A Y)) 28 L [] (x_st σ [(38, 0, nI 0), (38, 29, nI n), (38, 18, σ.1 38 18)] [(55, f55), (56, σ.1 56), (57, σ.1 57)] [(48, σ.2 48), (54, f54), (58, f58), (59, σ.2 59), (60, f60)]) := by
      intro m28
      induction m28 using Nat.strongRecOn with
      | _ m28 ih28 =>
        intro i n f54 f55 f58 f60 hm28 hi hro hk6 L xl0 xl1
        refine x_iload_n C (i := 1) dX12_merge_28 rfl xl1 ?_
        refine x_aload_n C (i := 0) dX12_merge_29 rfl xl0 ?_
        refine x_getI C fi_38_20 kf_X12_271 dX12_merge_30 ?_
        refine x_topI (y := nI N) hN ?_
        refine x_icmp_geN C 229 dX12_merge_33 (by decide) (by omega) (by omega) (fun c33 => ?_) (fun c33 => ?_)
        · skip
          have c33' := Nat.not_lt.mpr c33
          obtain rfl : N = i := by omega
          refine x_iconst C (nI 0) dX12_merge_229 rfl ?_
          refine x_istore_n C (i := 1) dX12_merge_230 rfl (by decide) ?_
          have lp231 : ∀ (m231 : Nat) (r : Nat) (e18 : Int32) (g48 : Nat → Int64) (f56 : Nat → Int32) (f57 : Nat → Int32) (f59 : Nat → Int64), (n - r) = m231 → (r ≤ n) → (x_r2 σ o f54 r f56 f57 f59) → ∀ L : x_Lo, L.1 0 = some (.ref 38) → L.1 1 = some (.int (nI r)) → x_W xp l xe (x_rm 2) xs xm xg xb xt xc 5 Y 0 0 (MQ xb (x_Q Y K) xg xs 0 0 (x_A Y)) 231 L [] (x_st σ [(38, 0, nI 0), (38, 29, nI n), (38, 18, e18)] [(55, f55), (56, f56), (57, f57)] [(48, g48), (54, f54), (58, f58), (59, f59), (60, f60)]) := by
            intro m231
            induction m231 using Nat.strongRecOn with
            | _ m231 ih231 =>
              intro r e18 g48 f56 f57 f59 hm231 hr h2 L xl0 xl1
              have hnN := hro.1
              refine x_iload_n C (i := 1) dX12_merge_231 rfl xl1 ?_
              refine x_aload_n C (i := 0) dX12_merge_232 rfl xl0 ?_
              refine x_getI C fi_38_29 kf_X12_195 dX12_merge_233 ?_
              refine x_topI (y := nI n) rfl ?_
              refine x_icmp_geN C 314 dX12_merge_236 (by decide) (by omega) (by omega) (fun c236 => ?_) (fun c236 => ?_)
              · skip
                have c236' := Nat.not_lt.mpr c236
                obtain rfl : n = r := by omega
                refine x_iconst C (nI 0) dX12_merge_314 rfl ?_
                refine x_istore_n C (i := 1) dX12_merge_315 rfl (by decide) ?_
                have lp316 : ∀ (m316 : Nat) (j : Nat) (p59 : Nat → Int64), (N - j) = m316 → (j ≤ N) → (x_r3 (x_kk σ o) (x_vv σ) n j f54 f55 f58 p59) → ∀ L : x_Lo, L.1 0 = some (.ref 38) → L.1 1 = some (.int (nI j)) → x_W xp l xe (x_rm 2) xs xm xg xb xt xc 5 Y 0 0 (MQ xb (x_Q Y K) xg xs 0 0 (x_A Y)) 316 L [] (x_st σ [(38, 0, nI 0), (38, 29, nI n), (38, 18, e18)] [(55, f55), (56, f56), (57, f57)] [(48, g48), (54, f54), (58, f58), (59, p59), (60, f60)]) := by
                  intro m316
                  induction m316 using Nat.strongRecOn with
                  | _ m316 ih316 =>
                    intro j p59 hm316 hj h3 L xl0 xl1
                    refine x_iload_n C (i := 1) dX12_merge_316 rfl xl1 ?_
                    refine x_aload_n C (i := 0) dX12_merge_317 rfl xl0 ?_
                    refine x_getI C fi_38_20 kf_X12_271 dX12_merge_318 ?_
                    refine x_topI (y := nI N) hN ?_
                    refine x_icmp_geN C 389 dX12_merge_321 (by decide) (by omega) (by omega) (fun c321 => ?_) (fun c321 => ?_)
                    · skip
                      have c321' := Nat.not_lt.mpr c321
                      obtain rfl : N = j := by omega
                      refine x_aload_n C (i := 0) dX12_merge_389 rfl xl0 ?_
                      refine x_getI C fi_38_29 kf_X12_195 dX12_merge_390 ?_
                      refine x_topI (y := nI n) rfl ?_
                      refine x_iret C xr xk dX12_merge_393 ?_
                      exact hK _ _ (Or.inr ⟨by omega, _, _, _, _, _, _, _, _, _, _, rfl, rfl, hro, fun a ha => ⟨(h2 a ha).1, (h2 a ha).2.1⟩, h3⟩)
                    · skip
                      have c321' := Nat.not_le.mpr c321
                      refine x_aload_n C (i := 0) dX12_merge_324 rfl xl0 ?_
                      refine x_aload_n C (i := 0) dX12_merge_325 rfl xl0 ?_
                      refine x_getR C fr_38_36 kf_X12_76 dX12_merge_326 ?_
                      refine x_iload_n C (i := 1) dX12_merge_329 rfl xl1 ?_
                      refine x_laldN C (by decide) rfl (by decide) dX12_merge_330 (by omega) ?_
                      refine x_topL (y := f60 j) rfl ?_
                      refine x_topL (y := x_kk σ o j) (hk6 j (by omega)) ?_
                      have hM := c_X12_place l Y (x_st σ [(38, 0, nI 0), (38, 29, nI n), (38, 18, e18)] [(55, f55), (56, f56), (57, f57)] [(48, g48), (54, f54), (58, f58), (59, p59), (60, f60)]) (x_kk σ o j) n f54 rfl (by have := hro.1; omega) rfl hro.2.1
                      refine x_callV C (as := [.long (x_kk σ o j)]) (st := []) (hM) kb_X12_place kv_X12_277 dX12_merge_331 rfl rfl (Nat.le_of_ble_eq_true rfl) ⟨by decide, by decide⟩ ⟨by decide, by decide⟩ ko_38 ?_
                      clear hM
                      rintro _ _ ⟨p, ⟨rfl, rfl⟩, hp, hp1, hp2⟩
                      refine x_istore_n C (i := 2) dX12_merge_334 rfl (by decide) ?_
                      have hpe := x_pl_eq hro (by omega : j < N) hp1 hp2
                      refine x_aload_n C (i := 0) dX12_merge_335 rfl xl0 ?_
                      refine x_getR C fr_38_31 kf_X12_60 dX12_merge_336 ?_
                      refine x_iload_n C (i := 2) dX12_merge_339 rfl rfl ?_
                      refine x_ialdN C (by decide) rfl (by decide) dX12_merge_340 (by omega) ?_
                      refine x_topI (y := f55 p) rfl ?_
                      refine x_i2l C dX12_merge_341 ?_
                      refine x_aload_n C (i := 0) dX12_merge_342 rfl xl0 ?_
                      refine x_getR C fr_38_24 kf_X12_51 dX12_merge_343 ?_
                      refine x_iload_n C (i := 1) dX12_merge_346 rfl xl1 ?_
                      refine x_ialdN C (by decide) rfl (by decide) dX12_merge_347 (by omega) ?_
                      refine x_topI (y := σ.1 52 j) rfl ?_
                      refine x_i2l C dX12_merge_348 ?_
                      refine x_topL (y := x_vv σ j) rfl ?_
                      refine x_lmul C dX12_merge_349 ?_
                      refine x_aload_n C (i := 0) dX12_merge_350 rfl xl0 ?_
                      refine x_getR C fr_38_34 kf_X12_70 dX12_merge_351 ?_
                      refine x_iload_n C (i := 2) dX12_merge_354 rfl rfl ?_
                      refine x_laldN C (by decide) rfl (by decide) dX12_merge_355 (by omega) ?_
                      refine x_topL (y := f58 p) rfl ?_
                      refine x_lsub C dX12_merge_356 ?_
                      refine x_lstore_n C (i := 3) dX12_merge_357 rfl (by decide) ?_
                      refine x_aload_n C (i := 0) dX12_merge_358 rfl xl0 ?_
                      refine x_getR C fr_38_35 kf_X12_73 dX12_merge_359 ?_
                      refine x_iload_n C (i := 2) dX12_merge_362 rfl rfl ?_
                      refine x_aload_n C (i := 0) dX12_merge_363 rfl xl0 ?_
                      refine x_getR C fr_38_35 kf_X12_73 dX12_merge_364 ?_
                      refine x_iload_n C (i := 2) dX12_merge_367 rfl rfl ?_
                      refine x_laldN C (by decide) rfl (by decide) dX12_merge_368 (by omega) ?_
                      refine x_topL (y := p59 p) rfl ?_
                      refine x_lload_n C (i := 3) dX12_merge_369 rfl rfl ?_
                      refine x_lconst C (0) dX12_merge_370 rfl ?_
                      refine x_lcmp C dX12_merge_371 ?_
                      have lp381 : ∀ (d9 : Int64), (d9 = x_ab ((f55 p).toInt64 * x_vv σ j - f58 p)) → ∀ L : x_Lo, L.1 0 = some (.ref 38) → L.1 1 = some (.int (nI j)) → L.1 2 = some (.int (nI p)) → x_W xp l xe (x_rm 2) xs xm xg xb xt xc 5 Y 0 0 (MQ xb (x_Q Y K) xg xs 0 0 (x_A Y)) 381 L [.long d9, .long (p59 p), .int (nI p), .ref 59] (x_st σ [(38, 0, nI 0), (38, 29, nI n), (38, 18, e18)] [(55, f55), (56, f56), (57, f57)] [(48, g48), (54, f54), (58, f58), (59, p59), (60, f60)]) := by
                        intro d9 hd L xl0 xl1 xl2
                        refine x_ladd C dX12_merge_381 ?_
                        refine x_lastN C (by decide) rfl (by decide) dX12_merge_382 (by omega) ?_
                        refine x_sig (σ' := x_st σ [(38, 0, nI 0), (38, 29, nI n), (38, 18, e18)] [(55, f55), (56, f56), (57, f57)] [(48, g48), (54, f54), (58, f58), (59, vp_updL p59 p ((p59 p) + d9)), (60, f60)]) (x_st_wa rfl) ?_
                        refine x_iincN C (i := 1) (b := 1) dX12_merge_383 xl1 rfl (by decide) ?_
                        refine x_goto C 316 dX12_merge_386 (by decide) ?_
                        exact ih316 _ (by omega) (j + 1) (vp_updL p59 p ((p59 p) + d9)) rfl (by omega) (by rw [hd]; exact x_r3_s hro h3 hpe.1 hpe.2) _ xl0 rfl
                      refine x_jf_ge C 380 dX12_merge_372 (by decide) (fun c372 => ?_) (fun c372 => ?_)
                      · skip
                        have c372 := (lg_cmp_ge _ _).mp c372
                        have c372' := Int64.not_lt.mpr c372
                        refine x_lload_n C (i := 3) dX12_merge_380 rfl rfl ?_
                        exact lp381 ((((f55 p).toInt64) * (x_vv σ j)) - (f58 p)) (by unfold x_ab; rw [if_neg c372']) _ xl0 xl1 rfl
                      · skip
                        have c372 := (lg_cmp_lt _ _).mp c372
                        have c372' := Int64.not_le.mpr c372
                        refine x_lload_n C (i := 3) dX12_merge_375 rfl rfl ?_
                        refine x_lneg C dX12_merge_376 ?_
                        refine x_goto C 381 dX12_merge_377 (by decide) ?_
                        exact lp381 (-((((f55 p).toInt64) * (x_vv σ j)) - (f58 p))) (by unfold x_ab; rw [if_pos c372]) _ xl0 xl1 rfl
                exact lp316 _ 0 f59 rfl (Nat.zero_le _) (fun a ha => (h2 a ha).2.2) _ xl0 rfl
              · skip
                have c236' := Nat.not_le.mpr c236
                refine x_aload_n C (i := 0) dX12_merge_239 rfl xl0 ?_
                refine x_getR C fr_38_30 kf_X12_57 dX12_merge_240 ?_
                refine x_iload_n C (i := 1) dX12_merge_243 rfl xl1 ?_
                refine x_laldN C (by decide) rfl (by decide) dX12_merge_244 (by omega) ?_
                refine x_topL (y := f54 r) rfl ?_
                refine x_iconst C (nI 0) dX12_merge_245 rfl ?_
                have hM := c_X12_part l Y (x_st σ [(38, 0, nI 0), (38, 29, nI n), (38, 18, e18)] [(55, f55), (56, f56), (57, f57)] [(48, g48), (54, f54), (58, f58), (59, f59), (60, f60)]) (f54 r) 0 (by omega)
                refine x_callS C (as := [.long (f54 r), .int (nI 0)]) (st := []) (hM) kb_X12_part ks_X12_244 dX12_merge_246 rfl rfl (Nat.le_of_ble_eq_true rfl) ⟨by decide, by decide⟩ ⟨by decide, by decide⟩ ?_
                clear hM
                intro r9 τ9 h9
                obtain ⟨rfl, h8⟩ := h9
                rw [h8]
                clear h8 τ9
                refine x_istore_n C (i := 2) dX12_merge_249 rfl (by decide) ?_
                refine x_aload_n C (i := 0) dX12_merge_250 rfl xl0 ?_
                refine x_getR C fr_38_30 kf_X12_57 dX12_merge_251 ?_
                refine x_iload_n C (i := 1) dX12_merge_254 rfl xl1 ?_
                refine x_laldN C (by decide) rfl (by decide) dX12_merge_255 (by omega) ?_
                refine x_topL (y := f54 r) rfl ?_
                refine x_iconst C (nI 1) dX12_merge_256 rfl ?_
                have hM := c_X12_part l Y (x_st σ [(38, 0, nI 0), (38, 29, nI n), (38, 18, e18)] [(55, f55), (56, f56), (57, f57)] [(48, g48), (54, f54), (58, f58), (59, f59), (60, f60)]) (f54 r) 1 (by omega)
                refine x_callS C (as := [.long (f54 r), .int (nI 1)]) (st := []) (hM) kb_X12_part ks_X12_244 dX12_merge_257 rfl rfl (Nat.le_of_ble_eq_true rfl) ⟨by decide, by decide⟩ ⟨by decide, by decide⟩ ?_
                clear hM
                intro r9 τ9 h9
                obtain ⟨rfl, h8⟩ := h9
                rw [h8]
                clear h8 τ9
                refine x_istore_n C (i := 3) dX12_merge_260 rfl (by decide) ?_
                refine x_aload_n C (i := 0) dX12_merge_261 rfl xl0 ?_
                refine x_getR C fr_38_30 kf_X12_57 dX12_merge_262 ?_
                refine x_iload_n C (i := 1) dX12_merge_265 rfl xl1 ?_
                refine x_laldN C (by decide) rfl (by decide) dX12_merge_266 (by omega) ?_
                refine x_topL (y := f54 r) rfl ?_
                refine x_iconst C (nI 2) dX12_merge_267 rfl ?_
                have hM := c_X12_part l Y (x_st σ [(38, 0, nI 0), (38, 29, nI n), (38, 18, e18)] [(55, f55), (56, f56), (57, f57)] [(48, g48), (54, f54), (58, f58), (59, f59), (60, f60)]) (f54 r) 2 (by omega)
                refine x_callS C (as := [.long (f54 r), .int (nI 2)]) (st := []) (hM) kb_X12_part ks_X12_244 dX12_merge_268 rfl rfl (Nat.le_of_ble_eq_true rfl) ⟨by decide, by decide⟩ ⟨by decide, by decide⟩ ?_
                clear hM
                intro r9 τ9 h9
                obtain ⟨rfl, h8⟩ := h9
                rw [h8]
                clear h8 τ9
                refine x_istore C (i := 4) dX12_merge_271 (by decide) ?_
                refine x_aload_n C (i := 0) dX12_merge_273 rfl xl0 ?_
                refine x_getR C fr_38_32 kf_X12_63 dX12_merge_274 ?_
                refine x_iload_n C (i := 1) dX12_merge_277 rfl xl1 ?_
                refine x_aload_n C (i := 0) dX12_merge_278 rfl xl0 ?_
                refine x_iload_n C (i := 2) dX12_merge_279 rfl rfl ?_
                refine x_iload_n C (i := 3) dX12_merge_280 rfl rfl ?_
                refine x_iload C (i := 4) dX12_merge_281 rfl ?_
                have hM := c_X12_multiplicity l Y (x_st σ [(38, 0, nI 0), (38, 29, nI n), (38, 18, e18)] [(55, f55), (56, f56), (57, f57)] [(48, g48), (54, f54), (58, f58), (59, f59), (60, f60)]) (x_part (f54 r) 0) (x_part (f54 r) 1) (x_part (f54 r) 2) o hn hn9
                refine x_callV C (as := [.int (x_part (f54 r) 0), .int (x_part (f54 r) 1), .int (x_part (f54 r) 2)]) (st := [.int (nI r), .ref 56]) (hM) kb_X12_multiplicity kv_X12_237 dX12_merge_283 rfl rfl (Nat.le_of_ble_eq_true rfl) ⟨by decide, by decide⟩ ⟨by decide, by decide⟩ ko_38 ?_
                clear hM
                rintro _ _ ⟨rfl, rfl⟩
                refine x_sig (σ' := x_st σ [(38, 0, nI 0), (38, 29, nI n), (38, 18, nI ((x_eqf (σ.1 40) (x_part (f54 r) 0) (x_part (f54 r) 1) (x_part (f54 r) 2) o).length))] [(55, f55), (56, f56), (57, f57)] [(48, x_mj (x_eqf (σ.1 40) (x_part (f54 r) 0) (x_part (f54 r) 1) (x_part (f54 r) 2) o) g48), (54, f54), (58, f58), (59, f59), (60, f60)]) (by unfold x_eq; rw [x_st_g]; exact x_st_u rfl) ?_
                refine x_iastN C (by decide) rfl (by decide) dX12_merge_286 (by omega) ?_
                refine x_sig (σ' := x_st σ [(38, 0, nI 0), (38, 29, nI n), (38, 18, nI ((x_eqf (σ.1 40) (x_part (f54 r) 0) (x_part (f54 r) 1) (x_part (f54 r) 2) o).length))] [(55, f55), (56, upd f56 r (nI (x_mlt σ o (f54 r)))), (57, f57)] [(48, x_mj (x_eqf (σ.1 40) (x_part (f54 r) 0) (x_part (f54 r) 1) (x_part (f54 r) 2) o) g48), (54, f54), (58, f58), (59, f59), (60, f60)]) (x_st_ua rfl) ?_
                refine x_aload_n C (i := 0) dX12_merge_287 rfl xl0 ?_
                refine x_getR C fr_38_33 kf_X12_66 dX12_merge_288 ?_
                refine x_iload_n C (i := 1) dX12_merge_291 rfl xl1 ?_
                refine x_aload_n C (i := 0) dX12_merge_292 rfl xl0 ?_
                refine x_iload_n C (i := 2) dX12_merge_293 rfl rfl ?_
                refine x_iload_n C (i := 3) dX12_merge_294 rfl rfl ?_
                refine x_iload C (i := 4) dX12_merge_295 rfl ?_
                have hM := c_X12_isAbsent l Y (x_st σ [(38, 0, nI 0), (38, 29, nI n), (38, 18, nI ((x_eqf (σ.1 40) (x_part (f54 r) 0) (x_part (f54 r) 1) (x_part (f54 r) 2) o).length))] [(55, f55), (56, upd f56 r (nI (x_mlt σ o (f54 r)))), (57, f57)] [(48, x_mj (x_eqf (σ.1 40) (x_part (f54 r) 0) (x_part (f54 r) 1) (x_part (f54 r) 2) o) g48), (54, f54), (58, f58), (59, f59), (60, f60)]) (x_part (f54 r) 0) (x_part (f54 r) 1) (x_part (f54 r) 2) o hn hn9
                refine x_callV C (as := [.int (x_part (f54 r) 0), .int (x_part (f54 r) 1), .int (x_part (f54 r) 2)]) (st := [.int (nI r), .ref 57]) (hM) kb_X12_isAbsent kv_X12_216 dX12_merge_297 rfl rfl (Nat.le_of_ble_eq_true rfl) ⟨by decide, by decide⟩ ⟨by decide, by decide⟩ ko_38 ?_
                clear hM
                rintro _ _ ⟨rfl, rfl⟩
                refine x_zastN C (by decide) rfl (by decide) dX12_merge_300 (by omega) ?_
                rw [x_z_nar]
                refine x_sig (σ' := x_st σ [(38, 0, nI 0), (38, 29, nI n), (38, 18, nI ((x_eqf (σ.1 40) (x_part (f54 r) 0) (x_part (f54 r) 1) (x_part (f54 r) 2) o).length))] [(55, f55), (56, upd f56 r (nI (x_mlt σ o (f54 r)))), (57, upd f57 r (x_z (x_abq σ o (f54 r))))] [(48, x_mj (x_eqf (σ.1 40) (x_part (f54 r) 0) (x_part (f54 r) 1) (x_part (f54 r) 2) o) g48), (54, f54), (58, f58), (59, f59), (60, f60)]) (x_st_ua rfl) ?_
                refine x_aload_n C (i := 0) dX12_merge_301 rfl xl0 ?_
                refine x_getR C fr_38_35 kf_X12_73 dX12_merge_302 ?_
                refine x_iload_n C (i := 1) dX12_merge_305 rfl xl1 ?_
                refine x_lconst C (0) dX12_merge_306 rfl ?_
                refine x_lastN C (by decide) rfl (by decide) dX12_merge_307 (by omega) ?_
                refine x_sig (σ' := x_st σ [(38, 0, nI 0), (38, 29, nI n), (38, 18, nI ((x_eqf (σ.1 40) (x_part (f54 r) 0) (x_part (f54 r) 1) (x_part (f54 r) 2) o).length))] [(55, f55), (56, upd f56 r (nI (x_mlt σ o (f54 r)))), (57, upd f57 r (x_z (x_abq σ o (f54 r))))] [(48, x_mj (x_eqf (σ.1 40) (x_part (f54 r) 0) (x_part (f54 r) 1) (x_part (f54 r) 2) o) g48), (54, f54), (58, f58), (59, vp_updL f59 r 0), (60, f60)]) (x_st_wa rfl) ?_
                refine x_iincN C (i := 1) (b := 1) dX12_merge_308 xl1 rfl (by decide) ?_
                refine x_goto C 231 dX12_merge_311 (by decide) ?_
                exact ih231 _ (by omega) (r + 1) (nI ((x_eqf (σ.1 40) (x_part (f54 r) 0) (x_part (f54 r) 1) (x_part (f54 r) 2) o).length)) (x_mj (x_eqf (σ.1 40) (x_part (f54 r) 0) (x_part (f54 r) 1) (x_part (f54 r) 2) o) g48) (upd f56 r (nI (x_mlt σ o (f54 r)))) (upd f57 r (x_z (x_abq σ o (f54 r)))) (vp_updL f59 r 0) rfl (by omega) (x_r2_s h2) _ xl0 rfl
          exact lp231 _ 0 (σ.1 38 18) (σ.2 48) (σ.1 56) (σ.1 57) (σ.2 59) rfl (Nat.zero_le _) (fun a h => absurd h (Nat.not_lt_zero a)) _ xl0 rfl
        · skip
          have c33' := Nat.not_le.mpr c33
          refine x_aload_n C (i := 0) dX12_merge_36 rfl xl0 ?_
          refine x_getR C fr_38_36 kf_X12_76 dX12_merge_37 ?_
          refine x_iload_n C (i := 1) dX12_merge_40 rfl xl1 ?_
          refine x_aload_n C (i := 0) dX12_merge_41 rfl xl0 ?_
          refine x_aload_n C (i := 0) dX12_merge_42 rfl xl0 ?_
          refine x_getR C fr_38_21 kf_X12_42 dX12_merge_43 ?_
          refine x_iload_n C (i := 1) dX12_merge_46 rfl xl1 ?_
          refine x_ialdN C (by decide) rfl (by decide) dX12_merge_47 (by omega) ?_
          refine x_topI (y := σ.1 49 i) rfl ?_
          refine x_aload_n C (i := 0) dX12_merge_48 rfl xl0 ?_
          refine x_getR C fr_38_22 kf_X12_45 dX12_merge_49 ?_
          refine x_iload_n C (i := 1) dX12_merge_52 rfl xl1 ?_
          refine x_ialdN C (by decide) rfl (by decide) dX12_merge_53 (by omega) ?_
          refine x_topI (y := σ.1 50 i) rfl ?_
          refine x_aload_n C (i := 0) dX12_merge_54 rfl xl0 ?_
          refine x_getR C fr_38_23 kf_X12_48 dX12_merge_55 ?_
          refine x_iload_n C (i := 1) dX12_merge_58 rfl xl1 ?_
          refine x_ialdN C (by decide) rfl (by decide) dX12_merge_59 (by omega) ?_
          refine x_topI (y := σ.1 51 i) rfl ?_
          have hM := c_X12_greatestOf l Y (x_st σ [(38, 0, nI 0), (38, 29, nI n), (38, 18, σ.1 38 18)] [(55, f55), (56, σ.1 56), (57, σ.1 57)] [(48, σ.2 48), (54, f54), (58, f58), (59, σ.2 59), (60, f60)]) (σ.1 49 i) (σ.1 50 i) (σ.1 51 i) o hn hn9
          refine x_callV C (as := [.int (σ.1 49 i), .int (σ.1 50 i), .int (σ.1 51 i)]) (st := [.int (nI i), .ref 60]) (hM) kb_X12_greatestOf kv_X12_241 dX12_merge_60 rfl rfl (Nat.le_of_ble_eq_true rfl) ⟨by decide, by decide⟩ ⟨by decide, by decide⟩ ko_38 ?_
          clear hM
          rintro _ _ ⟨rfl, rfl⟩
          refine x_lastN C (by decide) rfl (by decide) dX12_merge_63 (by omega) ?_
          refine x_sig (σ' := x_st σ [(38, 0, nI 0), (38, 29, nI n), (38, 18, σ.1 38 18)] [(55, f55), (56, σ.1 56), (57, σ.1 57)] [(48, σ.2 48), (54, f54), (58, f58), (59, σ.2 59), (60, vp_updL f60 i (x_kk σ o i))]) (x_st_wa rfl) ?_
          have hk7 : ∀ j, j < i + 1 → vp_updL f60 i (x_kk σ o i) j = x_kk σ o j := by
            intro j hj
            by_cases e : j = i
            · subst e; exact pk_uLs
            · rw [pk_uLn e]; exact hk6 j (by omega)
          have hni := hro.1
          refine x_aload_n C (i := 0) dX12_merge_64 rfl xl0 ?_
          refine x_aload_n C (i := 0) dX12_merge_65 rfl xl0 ?_
          refine x_getR C fr_38_36 kf_X12_76 dX12_merge_66 ?_
          refine x_iload_n C (i := 1) dX12_merge_69 rfl xl1 ?_
          refine x_laldN C (by decide) rfl (by decide) dX12_merge_70 (by omega) ?_
          refine x_topL (y := (vp_updL f60 i (x_kk σ o i)) i) rfl ?_
          refine x_topL (y := x_kk σ o i) pk_uLs ?_
          have hM := c_X12_place l Y (x_st σ [(38, 0, nI 0), (38, 29, nI n), (38, 18, σ.1 38 18)] [(55, f55), (56, σ.1 56), (57, σ.1 57)] [(48, σ.2 48), (54, f54), (58, f58), (59, σ.2 59), (60, vp_updL f60 i (x_kk σ o i))]) (x_kk σ o i) n f54 rfl (by have := hro.1; omega) rfl hro.2.1
          refine x_callV C (as := [.long (x_kk σ o i)]) (st := []) (hM) kb_X12_place kv_X12_277 dX12_merge_71 rfl rfl (Nat.le_of_ble_eq_true rfl) ⟨by decide, by decide⟩ ⟨by decide, by decide⟩ ko_38 ?_
          clear hM
          rintro _ _ ⟨p, ⟨rfl, rfl⟩, hp, hp1, hp2⟩
          refine x_istore_n C (i := 2) dX12_merge_74 rfl (by decide) ?_
          have lp193 : ∀ (n1 : Nat) (g54 : Nat → Int64) (g55 : Nat → Int32) (g58 : Nat → Int64), (x_rj (x_kk σ o) (x_vv σ) i n1 g54 g55 g58 p) → ∀ L : x_Lo, L.1 0 = some (.ref 38) → L.1 1 = some (.int (nI i)) → L.1 2 = some (.int (nI p)) → x_W xp l xe (x_rm 2) xs xm xg xb xt xc 5 Y 0 0 (MQ xb (x_Q Y K) xg xs 0 0 (x_A Y)) 193 L [] (x_st σ [(38, 0, nI 0), (38, 29, nI n1), (38, 18, σ.1 38 18)] [(55, g55), (56, σ.1 56), (57, σ.1 57)] [(48, σ.2 48), (54, g54), (58, g58), (59, σ.2 59), (60, vp_updL f60 i (x_kk σ o i))]) := by
            intro n1 g54 g55 g58 hj L xl0 xl1 xl2
            have hj1 := hj.1
            have hj2 := hj.2.1
            refine x_aload_n C (i := 0) dX12_merge_193 rfl xl0 ?_
            refine x_getR C fr_38_31 kf_X12_60 dX12_merge_194 ?_
            refine x_iload_n C (i := 2) dX12_merge_197 rfl xl2 ?_
            refine x_dup2 C dX12_merge_198 rfl rfl ?_
            refine x_ialdN C (by decide) rfl (by decide) dX12_merge_199 (by omega) ?_
            refine x_topI (y := g55 p) rfl ?_
            refine x_iconst C (nI 1) dX12_merge_200 rfl ?_
            refine x_iadd C dX12_merge_201 ?_
            refine x_iastN C (by decide) rfl (by decide) dX12_merge_202 (by omega) ?_
            refine x_sig (σ' := x_st σ [(38, 0, nI 0), (38, 29, nI n1), (38, 18, σ.1 38 18)] [(55, upd g55 p ((g55 p) + (nI 1))), (56, σ.1 56), (57, σ.1 57)] [(48, σ.2 48), (54, g54), (58, g58), (59, σ.2 59), (60, vp_updL f60 i (x_kk σ o i))]) (x_st_ua rfl) ?_
            refine x_aload_n C (i := 0) dX12_merge_203 rfl xl0 ?_
            refine x_getR C fr_38_34 kf_X12_70 dX12_merge_204 ?_
            refine x_iload_n C (i := 2) dX12_merge_207 rfl xl2 ?_
            refine x_aload_n C (i := 0) dX12_merge_208 rfl xl0 ?_
            refine x_getR C fr_38_34 kf_X12_70 dX12_merge_209 ?_
            refine x_iload_n C (i := 2) dX12_merge_212 rfl xl2 ?_
            refine x_laldN C (by decide) rfl (by decide) dX12_merge_213 (by omega) ?_
            refine x_topL (y := g58 p) rfl ?_
            refine x_aload_n C (i := 0) dX12_merge_214 rfl xl0 ?_
            refine x_getR C fr_38_24 kf_X12_51 dX12_merge_215 ?_
            refine x_iload_n C (i := 1) dX12_merge_218 rfl xl1 ?_
            refine x_ialdN C (by decide) rfl (by decide) dX12_merge_219 (by omega) ?_
            refine x_topI (y := σ.1 52 i) rfl ?_
            refine x_i2l C dX12_merge_220 ?_
            refine x_ladd C dX12_merge_221 ?_
            refine x_lastN C (by decide) rfl (by decide) dX12_merge_222 (by omega) ?_
            refine x_sig (σ' := x_st σ [(38, 0, nI 0), (38, 29, nI n1), (38, 18, σ.1 38 18)] [(55, upd g55 p ((g55 p) + (nI 1))), (56, σ.1 56), (57, σ.1 57)] [(48, σ.2 48), (54, g54), (58, vp_updL g58 p ((g58 p) + ((σ.1 52 i).toInt64))), (59, σ.2 59), (60, vp_updL f60 i (x_kk σ o i))]) (x_st_wa rfl) ?_
            refine x_iincN C (i := 1) (b := 1) dX12_merge_223 xl1 rfl (by decide) ?_
            refine x_goto C 28 dX12_merge_226 (by decide) ?_
            exact ih28 _ (by omega) (i + 1) n1 g54 (upd g55 p ((g55 p) + (nI 1))) (vp_updL g58 p ((g58 p) + ((σ.1 52 i).toInt64))) (vp_updL f60 i (x_kk σ o i)) rfl (by omega) hj.2 hk7 _ xl0 rfl
          refine x_iload_n C (i := 2) dX12_merge_75 rfl rfl ?_
          refine x_aload_n C (i := 0) dX12_merge_76 rfl xl0 ?_
          refine x_getI C fi_38_29 kf_X12_195 dX12_merge_77 ?_
          refine x_topI (y := nI n) rfl ?_
          refine x_icmp_eqN C 99 dX12_merge_80 (by decide) (by omega) (by omega) (fun c80 => ?_) (fun c80 => ?_)
          · skip
            have hne : p = n ∨ f54 p ≠ x_kk σ o i := Or.inl c80
            refine x_aload_n C (i := 0) dX12_merge_99 rfl xl0 ?_
            refine x_getI C fi_38_29 kf_X12_195 dX12_merge_100 ?_
            refine x_topI (y := nI n) rfl ?_
            refine x_istore_n C (i := 3) dX12_merge_103 rfl (by decide) ?_
            have lp104 : ∀ (m104 : Nat) (k : Nat), (k) = m104 → (k ≤ n) → (p ≤ k) → ∀ L : x_Lo, L.1 0 = some (.ref 38) → L.1 1 = some (.int (nI i)) → L.1 2 = some (.int (nI p)) → L.1 3 = some (.int (nI k)) → x_W xp l xe (x_rm 2) xs xm xg xb xt xc 5 Y 0 0 (MQ xb (x_Q Y K) xg xs 0 0 (x_A Y)) 104 L [] (x_st σ [(38, 0, nI 0), (38, 29, nI n), (38, 18, σ.1 38 18)] [(55, x_shf f55 k n), (56, σ.1 56), (57, σ.1 57)] [(48, σ.2 48), (54, x_shf f54 k n), (58, x_shf f58 k n), (59, σ.2 59), (60, vp_updL f60 i (x_kk σ o i))]) := by
              intro m104
              induction m104 using Nat.strongRecOn with
              | _ m104 ih104 =>
                intro k hm104 hk hk2 L xl0 xl1 xl2 xl3
                refine x_iload_n C (i := 3) dX12_merge_104 rfl xl3 ?_
                refine x_iload_n C (i := 2) dX12_merge_105 rfl xl2 ?_
                refine x_icmp_leN C 157 dX12_merge_106 (by decide) (by omega) (by omega) (fun c106 => ?_) (fun c106 => ?_)
                · skip
                  have c106' := Nat.not_lt.mpr c106
                  obtain rfl : p = k := by omega
                  refine x_aload_n C (i := 0) dX12_merge_157 rfl xl0 ?_
                  refine x_getR C fr_38_30 kf_X12_57 dX12_merge_158 ?_
                  refine x_iload_n C (i := 2) dX12_merge_161 rfl xl2 ?_
                  refine x_aload_n C (i := 0) dX12_merge_162 rfl xl0 ?_
                  refine x_getR C fr_38_36 kf_X12_76 dX12_merge_163 ?_
                  refine x_iload_n C (i := 1) dX12_merge_166 rfl xl1 ?_
                  refine x_laldN C (by decide) rfl (by decide) dX12_merge_167 (by omega) ?_
                  refine x_topL (y := (vp_updL f60 i (x_kk σ o i)) i) rfl ?_
                  refine x_topL (y := x_kk σ o i) pk_uLs ?_
                  refine x_lastN C (by decide) rfl (by decide) dX12_merge_168 (by omega) ?_
                  refine x_sig (σ' := x_st σ [(38, 0, nI 0), (38, 29, nI n), (38, 18, σ.1 38 18)] [(55, x_shf f55 p n), (56, σ.1 56), (57, σ.1 57)] [(48, σ.2 48), (54, vp_updL (x_shf f54 p n) p (x_kk σ o i)), (58, x_shf f58 p n), (59, σ.2 59), (60, vp_updL f60 i (x_kk σ o i))]) (x_st_wa rfl) ?_
                  refine x_sig (σ' := x_st σ [(38, 0, nI 0), (38, 29, nI n), (38, 18, σ.1 38 18)] [(55, x_shf f55 p n), (56, σ.1 56), (57, σ.1 57)] [(48, σ.2 48), (54, x_ins f54 p n (x_kk σ o i)), (58, x_shf f58 p n), (59, σ.2 59), (60, vp_updL f60 i (x_kk σ o i))]) (congrArg (fun z => x_st σ [(38, 0, nI 0), (38, 29, nI n), (38, 18, σ.1 38 18)] [(55, x_shf f55 p n), (56, σ.1 56), (57, σ.1 57)] [(48, σ.2 48), (54, z), (58, x_shf f58 p n), (59, σ.2 59), (60, vp_updL f60 i (x_kk σ o i))]) (x_shf_ins hp _)) ?_
                  refine x_aload_n C (i := 0) dX12_merge_169 rfl xl0 ?_
                  refine x_getR C fr_38_31 kf_X12_60 dX12_merge_170 ?_
                  refine x_iload_n C (i := 2) dX12_merge_173 rfl xl2 ?_
                  refine x_iconst C (nI 0) dX12_merge_174 rfl ?_
                  refine x_iastN C (by decide) rfl (by decide) dX12_merge_175 (by omega) ?_
                  refine x_sig (σ' := x_st σ [(38, 0, nI 0), (38, 29, nI n), (38, 18, σ.1 38 18)] [(55, upd (x_shf f55 p n) p (nI 0)), (56, σ.1 56), (57, σ.1 57)] [(48, σ.2 48), (54, x_ins f54 p n (x_kk σ o i)), (58, x_shf f58 p n), (59, σ.2 59), (60, vp_updL f60 i (x_kk σ o i))]) (x_st_ua rfl) ?_
                  refine x_sig (σ' := x_st σ [(38, 0, nI 0), (38, 29, nI n), (38, 18, σ.1 38 18)] [(55, x_ins f55 p n (nI 0)), (56, σ.1 56), (57, σ.1 57)] [(48, σ.2 48), (54, x_ins f54 p n (x_kk σ o i)), (58, x_shf f58 p n), (59, σ.2 59), (60, vp_updL f60 i (x_kk σ o i))]) (congrArg (fun z => x_st σ [(38, 0, nI 0), (38, 29, nI n), (38, 18, σ.1 38 18)] [(55, z), (56, σ.1 56), (57, σ.1 57)] [(48, σ.2 48), (54, x_ins f54 p n (x_kk σ o i)), (58, x_shf f58 p n), (59, σ.2 59), (60, vp_updL f60 i (x_kk σ o i))]) (x_shf_insi hp _)) ?_
                  refine x_aload_n C (i := 0) dX12_merge_176 rfl xl0 ?_
                  refine x_getR C fr_38_34 kf_X12_70 dX12_merge_177 ?_
                  refine x_iload_n C (i := 2) dX12_merge_180 rfl xl2 ?_
                  refine x_lconst C (0) dX12_merge_181 rfl ?_
                  refine x_lastN C (by decide) rfl (by decide) dX12_merge_182 (by omega) ?_
                  refine x_sig (σ' := x_st σ [(38, 0, nI 0), (38, 29, nI n), (38, 18, σ.1 38 18)] [(55, x_ins f55 p n (nI 0)), (56, σ.1 56), (57, σ.1 57)] [(48, σ.2 48), (54, x_ins f54 p n (x_kk σ o i)), (58, vp_updL (x_shf f58 p n) p 0), (59, σ.2 59), (60, vp_updL f60 i (x_kk σ o i))]) (x_st_wa rfl) ?_
                  refine x_sig (σ' := x_st σ [(38, 0, nI 0), (38, 29, nI n), (38, 18, σ.1 38 18)] [(55, x_ins f55 p n (nI 0)), (56, σ.1 56), (57, σ.1 57)] [(48, σ.2 48), (54, x_ins f54 p n (x_kk σ o i)), (58, x_ins f58 p n 0), (59, σ.2 59), (60, vp_updL f60 i (x_kk σ o i))]) (congrArg (fun z => x_st σ [(38, 0, nI 0), (38, 29, nI n), (38, 18, σ.1 38 18)] [(55, x_ins f55 p n (nI 0)), (56, σ.1 56), (57, σ.1 57)] [(48, σ.2 48), (54, x_ins f54 p n (x_kk σ o i)), (58, z), (59, σ.2 59), (60, vp_updL f60 i (x_kk σ o i))]) (x_shf_ins hp _)) ?_
                  refine x_aload_n C (i := 0) dX12_merge_183 rfl xl0 ?_
                  refine x_dup C dX12_merge_184 rfl ?_
                  refine x_getI C fi_38_29 kf_X12_195 dX12_merge_185 ?_
                  refine x_topI (y := nI n) rfl ?_
                  refine x_iconst C (nI 1) dX12_merge_188 rfl ?_
                  refine x_iaddN C dX12_merge_189 ?_
                  refine x_putN C fi_38_29 kf_X12_195 rfl rfl dX12_merge_190 ?_
                  refine x_sig (σ' := x_st σ [(38, 0, nI 0), (38, 29, nI (n + 1)), (38, 18, σ.1 38 18)] [(55, x_ins f55 p n (nI 0)), (56, σ.1 56), (57, σ.1 57)] [(48, σ.2 48), (54, x_ins f54 p n (x_kk σ o i)), (58, x_ins f58 p n 0), (59, σ.2 59), (60, vp_updL f60 i (x_kk σ o i))]) (x_st_u rfl) ?_
                  exact lp193 (n + 1) (x_ins f54 p n (x_kk σ o i)) (x_ins f55 p n (nI 0)) (x_ins f58 p n 0) (x_ro_new hro hp hp1 hp2 hne) _ xl0 xl1 xl2
                · skip
                  have c106' := Nat.not_le.mpr c106
                  refine x_aload_n C (i := 0) dX12_merge_109 rfl xl0 ?_
                  refine x_getR C fr_38_30 kf_X12_57 dX12_merge_110 ?_
                  refine x_iload_n C (i := 3) dX12_merge_113 rfl xl3 ?_
                  refine x_aload_n C (i := 0) dX12_merge_114 rfl xl0 ?_
                  refine x_getR C fr_38_30 kf_X12_57 dX12_merge_115 ?_
                  refine x_iload_n C (i := 3) dX12_merge_118 rfl xl3 ?_
                  refine x_iconst C (nI 1) dX12_merge_119 rfl ?_
                  refine x_isubN C dX12_merge_120 (by omega) ?_
                  refine x_laldN C (by decide) rfl (by decide) dX12_merge_121 (by omega) ?_
                  refine x_topL (y := (x_shf f54 k n) (k - 1)) rfl ?_
                  refine x_lastN C (by decide) rfl (by decide) dX12_merge_122 (by omega) ?_
                  refine x_sig (σ' := x_st σ [(38, 0, nI 0), (38, 29, nI n), (38, 18, σ.1 38 18)] [(55, x_shf f55 k n), (56, σ.1 56), (57, σ.1 57)] [(48, σ.2 48), (54, vp_updL (x_shf f54 k n) k ((x_shf f54 k n) (k - 1))), (58, x_shf f58 k n), (59, σ.2 59), (60, vp_updL f60 i (x_kk σ o i))]) (x_st_wa rfl) ?_
                  refine x_sig (σ' := x_st σ [(38, 0, nI 0), (38, 29, nI n), (38, 18, σ.1 38 18)] [(55, x_shf f55 k n), (56, σ.1 56), (57, σ.1 57)] [(48, σ.2 48), (54, x_shf f54 (k - 1) n), (58, x_shf f58 k n), (59, σ.2 59), (60, vp_updL f60 i (x_kk σ o i))]) (congrArg (fun z => x_st σ [(38, 0, nI 0), (38, 29, nI n), (38, 18, σ.1 38 18)] [(55, x_shf f55 k n), (56, σ.1 56), (57, σ.1 57)] [(48, σ.2 48), (54, z), (58, x_shf f58 k n), (59, σ.2 59), (60, vp_updL f60 i (x_kk σ o i))]) (x_shf_s (by omega) (by omega))) ?_
                  refine x_aload_n C (i := 0) dX12_merge_123 rfl xl0 ?_
                  refine x_getR C fr_38_31 kf_X12_60 dX12_merge_124 ?_
                  refine x_iload_n C (i := 3) dX12_merge_127 rfl xl3 ?_
                  refine x_aload_n C (i := 0) dX12_merge_128 rfl xl0 ?_
                  refine x_getR C fr_38_31 kf_X12_60 dX12_merge_129 ?_
                  refine x_iload_n C (i := 3) dX12_merge_132 rfl xl3 ?_
                  refine x_iconst C (nI 1) dX12_merge_133 rfl ?_
                  refine x_isubN C dX12_merge_134 (by omega) ?_
                  refine x_ialdN C (by decide) rfl (by decide) dX12_merge_135 (by omega) ?_
                  refine x_topI (y := (x_shf f55 k n) (k - 1)) rfl ?_
                  refine x_iastN C (by decide) rfl (by decide) dX12_merge_136 (by omega) ?_
                  refine x_sig (σ' := x_st σ [(38, 0, nI 0), (38, 29, nI n), (38, 18, σ.1 38 18)] [(55, upd (x_shf f55 k n) k ((x_shf f55 k n) (k - 1))), (56, σ.1 56), (57, σ.1 57)] [(48, σ.2 48), (54, x_shf f54 (k - 1) n), (58, x_shf f58 k n), (59, σ.2 59), (60, vp_updL f60 i (x_kk σ o i))]) (x_st_ua rfl) ?_
                  refine x_sig (σ' := x_st σ [(38, 0, nI 0), (38, 29, nI n), (38, 18, σ.1 38 18)] [(55, x_shf f55 (k - 1) n), (56, σ.1 56), (57, σ.1 57)] [(48, σ.2 48), (54, x_shf f54 (k - 1) n), (58, x_shf f58 k n), (59, σ.2 59), (60, vp_updL f60 i (x_kk σ o i))]) (congrArg (fun z => x_st σ [(38, 0, nI 0), (38, 29, nI n), (38, 18, σ.1 38 18)] [(55, z), (56, σ.1 56), (57, σ.1 57)] [(48, σ.2 48), (54, x_shf f54 (k - 1) n), (58, x_shf f58 k n), (59, σ.2 59), (60, vp_updL f60 i (x_kk σ o i))]) (x_shf_si (by omega) (by omega))) ?_
                  refine x_aload_n C (i := 0) dX12_merge_137 rfl xl0 ?_
                  refine x_getR C fr_38_34 kf_X12_70 dX12_merge_138 ?_
                  refine x_iload_n C (i := 3) dX12_merge_141 rfl xl3 ?_
                  refine x_aload_n C (i := 0) dX12_merge_142 rfl xl0 ?_
                  refine x_getR C fr_38_34 kf_X12_70 dX12_merge_143 ?_
                  refine x_iload_n C (i := 3) dX12_merge_146 rfl xl3 ?_
                  refine x_iconst C (nI 1) dX12_merge_147 rfl ?_
                  refine x_isubN C dX12_merge_148 (by omega) ?_
                  refine x_laldN C (by decide) rfl (by decide) dX12_merge_149 (by omega) ?_
                  refine x_topL (y := (x_shf f58 k n) (k - 1)) rfl ?_
                  refine x_lastN C (by decide) rfl (by decide) dX12_merge_150 (by omega) ?_
                  refine x_sig (σ' := x_st σ [(38, 0, nI 0), (38, 29, nI n), (38, 18, σ.1 38 18)] [(55, x_shf f55 (k - 1) n), (56, σ.1 56), (57, σ.1 57)] [(48, σ.2 48), (54, x_shf f54 (k - 1) n), (58, vp_updL (x_shf f58 k n) k ((x_shf f58 k n) (k - 1))), (59, σ.2 59), (60, vp_updL f60 i (x_kk σ o i))]) (x_st_wa rfl) ?_
                  refine x_sig (σ' := x_st σ [(38, 0, nI 0), (38, 29, nI n), (38, 18, σ.1 38 18)] [(55, x_shf f55 (k - 1) n), (56, σ.1 56), (57, σ.1 57)] [(48, σ.2 48), (54, x_shf f54 (k - 1) n), (58, x_shf f58 (k - 1) n), (59, σ.2 59), (60, vp_updL f60 i (x_kk σ o i))]) (congrArg (fun z => x_st σ [(38, 0, nI 0), (38, 29, nI n), (38, 18, σ.1 38 18)] [(55, x_shf f55 (k - 1) n), (56, σ.1 56), (57, σ.1 57)] [(48, σ.2 48), (54, x_shf f54 (k - 1) n), (58, z), (59, σ.2 59), (60, vp_updL f60 i (x_kk σ o i))]) (x_shf_s (by omega) (by omega))) ?_
                  refine x_idecN C (i := 3) (a := k - 1) dX12_merge_151 (by rw [show (k - 1) + 1 = k by omega]; exact xl3) (by decide) ?_
                  refine x_goto C 104 dX12_merge_154 (by decide) ?_
                  exact ih104 _ (by omega) (k - 1) rfl (by omega) (by omega) _ xl0 xl1 xl2 rfl
            refine x_sig (σ' := x_st σ [(38, 0, nI 0), (38, 29, nI n), (38, 18, σ.1 38 18)] [(55, x_shf f55 n n), (56, σ.1 56), (57, σ.1 57)] [(48, σ.2 48), (54, x_shf f54 n n), (58, x_shf f58 n n), (59, σ.2 59), (60, vp_updL f60 i (x_kk σ o i))]) (by rw [x_shf_0, x_shf_0, x_shf_0]) ?_
            exact lp104 _ n rfl (Nat.le_refl n) hp _ xl0 xl1 rfl rfl
          · skip
            refine x_aload_n C (i := 0) dX12_merge_83 rfl xl0 ?_
            refine x_getR C fr_38_30 kf_X12_57 dX12_merge_84 ?_
            refine x_iload_n C (i := 2) dX12_merge_87 rfl rfl ?_
            refine x_laldN C (by decide) rfl (by decide) dX12_merge_88 (by omega) ?_
            refine x_topL (y := f54 p) rfl ?_
            refine x_aload_n C (i := 0) dX12_merge_89 rfl xl0 ?_
            refine x_getR C fr_38_36 kf_X12_76 dX12_merge_90 ?_
            refine x_iload_n C (i := 1) dX12_merge_93 rfl xl1 ?_
            refine x_laldN C (by decide) rfl (by decide) dX12_merge_94 (by omega) ?_
            refine x_topL (y := (vp_updL f60 i (x_kk σ o i)) i) rfl ?_
            refine x_topL (y := x_kk σ o i) pk_uLs ?_
            refine x_lcmp C dX12_merge_95 ?_
            refine x_if_eq C 193 dX12_merge_96 (by decide) (fun c96 => ?_) (fun c96 => ?_)
            · skip
              have c96 := (lg_cmp_eq _ _).mp c96
              exact lp193 n f54 f55 f58 (x_ro_old hro (by have := hp; omega) c96) _ xl0 xl1 rfl
            · skip
              have c96 := fun z => c96 ((lg_cmp_eq _ _).mpr z)
              have hne : p = n ∨ f54 p ≠ x_kk σ o i := Or.inr c96
              refine x_aload_n C (i := 0) dX12_merge_99 rfl xl0 ?_
              refine x_getI C fi_38_29 kf_X12_195 dX12_merge_100 ?_
              refine x_topI (y := nI n) rfl ?_
              refine x_istore_n C (i := 3) dX12_merge_103 rfl (by decide) ?_
              have lp104 : ∀ (m104 : Nat) (k : Nat), (k) = m104 → (k ≤ n) → (p ≤ k) → ∀ L : x_Lo, L.1 0 = some (.ref 38) → L.1 1 = some (.int (nI i)) → L.1 2 = some (.int (nI p)) → L.1 3 = some (.int (nI k)) → x_W xp l xe (x_rm 2) xs xm xg xb xt xc 5 Y 0 0 (MQ xb (x_Q Y K) xg xs 0 0 (x_A Y)) 104 L [] (x_st σ [(38, 0, nI 0), (38, 29, nI n), (38, 18, σ.1 38 18)] [(55, x_shf f55 k n), (56, σ.1 56), (57, σ.1 57)] [(48, σ.2 48), (54, x_shf f54 k n), (58, x_shf f58 k n), (59, σ.2 59), (60, vp_updL f60 i (x_kk σ o i))]) := by
                intro m104
                induction m104 using Nat.strongRecOn with
                | _ m104 ih104 =>
                  intro k hm104 hk hk2 L xl0 xl1 xl2 xl3
                  refine x_iload_n C (i := 3) dX12_merge_104 rfl xl3 ?_
                  refine x_iload_n C (i := 2) dX12_merge_105 rfl xl2 ?_
                  refine x_icmp_leN C 157 dX12_merge_106 (by decide) (by omega) (by omega) (fun c106 => ?_) (fun c106 => ?_)
                  · skip
                    have c106' := Nat.not_lt.mpr c106
                    obtain rfl : p = k := by omega
                    refine x_aload_n C (i := 0) dX12_merge_157 rfl xl0 ?_
                    refine x_getR C fr_38_30 kf_X12_57 dX12_merge_158 ?_
                    refine x_iload_n C (i := 2) dX12_merge_161 rfl xl2 ?_
                    refine x_aload_n C (i := 0) dX12_merge_162 rfl xl0 ?_
                    refine x_getR C fr_38_36 kf_X12_76 dX12_merge_163 ?_
                    refine x_iload_n C (i := 1) dX12_merge_166 rfl xl1 ?_
                    refine x_laldN C (by decide) rfl (by decide) dX12_merge_167 (by omega) ?_
                    refine x_topL (y := (vp_updL f60 i (x_kk σ o i)) i) rfl ?_
                    refine x_topL (y := x_kk σ o i) pk_uLs ?_
                    refine x_lastN C (by decide) rfl (by decide) dX12_merge_168 (by omega) ?_
                    refine x_sig (σ' := x_st σ [(38, 0, nI 0), (38, 29, nI n), (38, 18, σ.1 38 18)] [(55, x_shf f55 p n), (56, σ.1 56), (57, σ.1 57)] [(48, σ.2 48), (54, vp_updL (x_shf f54 p n) p (x_kk σ o i)), (58, x_shf f58 p n), (59, σ.2 59), (60, vp_updL f60 i (x_kk σ o i))]) (x_st_wa rfl) ?_
                    refine x_sig (σ' := x_st σ [(38, 0, nI 0), (38, 29, nI n), (38, 18, σ.1 38 18)] [(55, x_shf f55 p n), (56, σ.1 56), (57, σ.1 57)] [(48, σ.2 48), (54, x_ins f54 p n (x_kk σ o i)), (58, x_shf f58 p n), (59, σ.2 59), (60, vp_updL f60 i (x_kk σ o i))]) (congrArg (fun z => x_st σ [(38, 0, nI 0), (38, 29, nI n), (38, 18, σ.1 38 18)] [(55, x_shf f55 p n), (56, σ.1 56), (57, σ.1 57)] [(48, σ.2 48), (54, z), (58, x_shf f58 p n), (59, σ.2 59), (60, vp_updL f60 i (x_kk σ o i))]) (x_shf_ins hp _)) ?_
                    refine x_aload_n C (i := 0) dX12_merge_169 rfl xl0 ?_
                    refine x_getR C fr_38_31 kf_X12_60 dX12_merge_170 ?_
                    refine x_iload_n C (i := 2) dX12_merge_173 rfl xl2 ?_
                    refine x_iconst C (nI 0) dX12_merge_174 rfl ?_
                    refine x_iastN C (by decide) rfl (by decide) dX12_merge_175 (by omega) ?_
                    refine x_sig (σ' := x_st σ [(38, 0, nI 0), (38, 29, nI n), (38, 18, σ.1 38 18)] [(55, upd (x_shf f55 p n) p (nI 0)), (56, σ.1 56), (57, σ.1 57)] [(48, σ.2 48), (54, x_ins f54 p n (x_kk σ o i)), (58, x_shf f58 p n), (59, σ.2 59), (60, vp_updL f60 i (x_kk σ o i))]) (x_st_ua rfl) ?_
                    refine x_sig (σ' := x_st σ [(38, 0, nI 0), (38, 29, nI n), (38, 18, σ.1 38 18)] [(55, x_ins f55 p n (nI 0)), (56, σ.1 56), (57, σ.1 57)] [(48, σ.2 48), (54, x_ins f54 p n (x_kk σ o i)), (58, x_shf f58 p n), (59, σ.2 59), (60, vp_updL f60 i (x_kk σ o i))]) (congrArg (fun z => x_st σ [(38, 0, nI 0), (38, 29, nI n), (38, 18, σ.1 38 18)] [(55, z), (56, σ.1 56), (57, σ.1 57)] [(48, σ.2 48), (54, x_ins f54 p n (x_kk σ o i)), (58, x_shf f58 p n), (59, σ.2 59), (60, vp_updL f60 i (x_kk σ o i))]) (x_shf_insi hp _)) ?_
                    refine x_aload_n C (i := 0) dX12_merge_176 rfl xl0 ?_
                    refine x_getR C fr_38_34 kf_X12_70 dX12_merge_177 ?_
                    refine x_iload_n C (i := 2) dX12_merge_180 rfl xl2 ?_
                    refine x_lconst C (0) dX12_merge_181 rfl ?_
                    refine x_lastN C (by decide) rfl (by decide) dX12_merge_182 (by omega) ?_
                    refine x_sig (σ' := x_st σ [(38, 0, nI 0), (38, 29, nI n), (38, 18, σ.1 38 18)] [(55, x_ins f55 p n (nI 0)), (56, σ.1 56), (57, σ.1 57)] [(48, σ.2 48), (54, x_ins f54 p n (x_kk σ o i)), (58, vp_updL (x_shf f58 p n) p 0), (59, σ.2 59), (60, vp_updL f60 i (x_kk σ o i))]) (x_st_wa rfl) ?_
                    refine x_sig (σ' := x_st σ [(38, 0, nI 0), (38, 29, nI n), (38, 18, σ.1 38 18)] [(55, x_ins f55 p n (nI 0)), (56, σ.1 56), (57, σ.1 57)] [(48, σ.2 48), (54, x_ins f54 p n (x_kk σ o i)), (58, x_ins f58 p n 0), (59, σ.2 59), (60, vp_updL f60 i (x_kk σ o i))]) (congrArg (fun z => x_st σ [(38, 0, nI 0), (38, 29, nI n), (38, 18, σ.1 38 18)] [(55, x_ins f55 p n (nI 0)), (56, σ.1 56), (57, σ.1 57)] [(48, σ.2 48), (54, x_ins f54 p n (x_kk σ o i)), (58, z), (59, σ.2 59), (60, vp_updL f60 i (x_kk σ o i))]) (x_shf_ins hp _)) ?_
                    refine x_aload_n C (i := 0) dX12_merge_183 rfl xl0 ?_
                    refine x_dup C dX12_merge_184 rfl ?_
                    refine x_getI C fi_38_29 kf_X12_195 dX12_merge_185 ?_
                    refine x_topI (y := nI n) rfl ?_
                    refine x_iconst C (nI 1) dX12_merge_188 rfl ?_
                    refine x_iaddN C dX12_merge_189 ?_
                    refine x_putN C fi_38_29 kf_X12_195 rfl rfl dX12_merge_190 ?_
                    refine x_sig (σ' := x_st σ [(38, 0, nI 0), (38, 29, nI (n + 1)), (38, 18, σ.1 38 18)] [(55, x_ins f55 p n (nI 0)), (56, σ.1 56), (57, σ.1 57)] [(48, σ.2 48), (54, x_ins f54 p n (x_kk σ o i)), (58, x_ins f58 p n 0), (59, σ.2 59), (60, vp_updL f60 i (x_kk σ o i))]) (x_st_u rfl) ?_
                    exact lp193 (n + 1) (x_ins f54 p n (x_kk σ o i)) (x_ins f55 p n (nI 0)) (x_ins f58 p n 0) (x_ro_new hro hp hp1 hp2 hne) _ xl0 xl1 xl2
                  · skip
                    have c106' := Nat.not_le.mpr c106
                    refine x_aload_n C (i := 0) dX12_merge_109 rfl xl0 ?_
                    refine x_getR C fr_38_30 kf_X12_57 dX12_merge_110 ?_
                    refine x_iload_n C (i := 3) dX12_merge_113 rfl xl3 ?_
                    refine x_aload_n C (i := 0) dX12_merge_114 rfl xl0 ?_
                    refine x_getR C fr_38_30 kf_X12_57 dX12_merge_115 ?_
                    refine x_iload_n C (i := 3) dX12_merge_118 rfl xl3 ?_
                    refine x_iconst C (nI 1) dX12_merge_119 rfl ?_
                    refine x_isubN C dX12_merge_120 (by omega) ?_
                    refine x_laldN C (by decide) rfl (by decide) dX12_merge_121 (by omega) ?_
                    refine x_topL (y := (x_shf f54 k n) (k - 1)) rfl ?_
                    refine x_lastN C (by decide) rfl (by decide) dX12_merge_122 (by omega) ?_
                    refine x_sig (σ' := x_st σ [(38, 0, nI 0), (38, 29, nI n), (38, 18, σ.1 38 18)] [(55, x_shf f55 k n), (56, σ.1 56), (57, σ.1 57)] [(48, σ.2 48), (54, vp_updL (x_shf f54 k n) k ((x_shf f54 k n) (k - 1))), (58, x_shf f58 k n), (59, σ.2 59), (60, vp_updL f60 i (x_kk σ o i))]) (x_st_wa rfl) ?_
                    refine x_sig (σ' := x_st σ [(38, 0, nI 0), (38, 29, nI n), (38, 18, σ.1 38 18)] [(55, x_shf f55 k n), (56, σ.1 56), (57, σ.1 57)] [(48, σ.2 48), (54, x_shf f54 (k - 1) n), (58, x_shf f58 k n), (59, σ.2 59), (60, vp_updL f60 i (x_kk σ o i))]) (congrArg (fun z => x_st σ [(38, 0, nI 0), (38, 29, nI n), (38, 18, σ.1 38 18)] [(55, x_shf f55 k n), (56, σ.1 56), (57, σ.1 57)] [(48, σ.2 48), (54, z), (58, x_shf f58 k n), (59, σ.2 59), (60, vp_updL f60 i (x_kk σ o i))]) (x_shf_s (by omega) (by omega))) ?_
                    refine x_aload_n C (i := 0) dX12_merge_123 rfl xl0 ?_
                    refine x_getR C fr_38_31 kf_X12_60 dX12_merge_124 ?_
                    refine x_iload_n C (i := 3) dX12_merge_127 rfl xl3 ?_
                    refine x_aload_n C (i := 0) dX12_merge_128 rfl xl0 ?_
                    refine x_getR C fr_38_31 kf_X12_60 dX12_merge_129 ?_
                    refine x_iload_n C (i := 3) dX12_merge_132 rfl xl3 ?_
                    refine x_iconst C (nI 1) dX12_merge_133 rfl ?_
                    refine x_isubN C dX12_merge_134 (by omega) ?_
                    refine x_ialdN C (by decide) rfl (by decide) dX12_merge_135 (by omega) ?_
                    refine x_topI (y := (x_shf f55 k n) (k - 1)) rfl ?_
                    refine x_iastN C (by decide) rfl (by decide) dX12_merge_136 (by omega) ?_
                    refine x_sig (σ' := x_st σ [(38, 0, nI 0), (38, 29, nI n), (38, 18, σ.1 38 18)] [(55, upd (x_shf f55 k n) k ((x_shf f55 k n) (k - 1))), (56, σ.1 56), (57, σ.1 57)] [(48, σ.2 48), (54, x_shf f54 (k - 1) n), (58, x_shf f58 k n), (59, σ.2 59), (60, vp_updL f60 i (x_kk σ o i))]) (x_st_ua rfl) ?_
                    refine x_sig (σ' := x_st σ [(38, 0, nI 0), (38, 29, nI n), (38, 18, σ.1 38 18)] [(55, x_shf f55 (k - 1) n), (56, σ.1 56), (57, σ.1 57)] [(48, σ.2 48), (54, x_shf f54 (k - 1) n), (58, x_shf f58 k n), (59, σ.2 59), (60, vp_updL f60 i (x_kk σ o i))]) (congrArg (fun z => x_st σ [(38, 0, nI 0), (38, 29, nI n), (38, 18, σ.1 38 18)] [(55, z), (56, σ.1 56), (57, σ.1 57)] [(48, σ.2 48), (54, x_shf f54 (k - 1) n), (58, x_shf f58 k n), (59, σ.2 59), (60, vp_updL f60 i (x_kk σ o i))]) (x_shf_si (by omega) (by omega))) ?_
                    refine x_aload_n C (i := 0) dX12_merge_137 rfl xl0 ?_
                    refine x_getR C fr_38_34 kf_X12_70 dX12_merge_138 ?_
                    refine x_iload_n C (i := 3) dX12_merge_141 rfl xl3 ?_
                    refine x_aload_n C (i := 0) dX12_merge_142 rfl xl0 ?_
                    refine x_getR C fr_38_34 kf_X12_70 dX12_merge_143 ?_
                    refine x_iload_n C (i := 3) dX12_merge_146 rfl xl3 ?_
                    refine x_iconst C (nI 1) dX12_merge_147 rfl ?_
                    refine x_isubN C dX12_merge_148 (by omega) ?_
                    refine x_laldN C (by decide) rfl (by decide) dX12_merge_149 (by omega) ?_
                    refine x_topL (y := (x_shf f58 k n) (k - 1)) rfl ?_
                    refine x_lastN C (by decide) rfl (by decide) dX12_merge_150 (by omega) ?_
                    refine x_sig (σ' := x_st σ [(38, 0, nI 0), (38, 29, nI n), (38, 18, σ.1 38 18)] [(55, x_shf f55 (k - 1) n), (56, σ.1 56), (57, σ.1 57)] [(48, σ.2 48), (54, x_shf f54 (k - 1) n), (58, vp_updL (x_shf f58 k n) k ((x_shf f58 k n) (k - 1))), (59, σ.2 59), (60, vp_updL f60 i (x_kk σ o i))]) (x_st_wa rfl) ?_
                    refine x_sig (σ' := x_st σ [(38, 0, nI 0), (38, 29, nI n), (38, 18, σ.1 38 18)] [(55, x_shf f55 (k - 1) n), (56, σ.1 56), (57, σ.1 57)] [(48, σ.2 48), (54, x_shf f54 (k - 1) n), (58, x_shf f58 (k - 1) n), (59, σ.2 59), (60, vp_updL f60 i (x_kk σ o i))]) (congrArg (fun z => x_st σ [(38, 0, nI 0), (38, 29, nI n), (38, 18, σ.1 38 18)] [(55, x_shf f55 (k - 1) n), (56, σ.1 56), (57, σ.1 57)] [(48, σ.2 48), (54, x_shf f54 (k - 1) n), (58, z), (59, σ.2 59), (60, vp_updL f60 i (x_kk σ o i))]) (x_shf_s (by omega) (by omega))) ?_
                    refine x_idecN C (i := 3) (a := k - 1) dX12_merge_151 (by rw [show (k - 1) + 1 = k by omega]; exact xl3) (by decide) ?_
                    refine x_goto C 104 dX12_merge_154 (by decide) ?_
                    exact ih104 _ (by omega) (k - 1) rfl (by omega) (by omega) _ xl0 xl1 xl2 rfl
              refine x_sig (σ' := x_st σ [(38, 0, nI 0), (38, 29, nI n), (38, 18, σ.1 38 18)] [(55, x_shf f55 n n), (56, σ.1 56), (57, σ.1 57)] [(48, σ.2 48), (54, x_shf f54 n n), (58, x_shf f58 n n), (59, σ.2 59), (60, vp_updL f60 i (x_kk σ o i))]) (by rw [x_shf_0, x_shf_0, x_shf_0]) ?_
              exact lp104 _ n rfl (Nat.le_refl n) hp _ xl0 xl1 rfl rfl
    exact lp28 _ 0 0 (σ.2 54) (σ.1 55) (σ.2 58) (σ.2 60) rfl (Nat.zero_le _) ⟨Nat.le_refl 0, fun a b _ h => absurd h (Nat.not_lt_zero b), fun j h => absurd h (Nat.not_lt_zero j), fun a h => absurd h (Nat.not_lt_zero a)⟩ (fun j h => absurd h (Nat.not_lt_zero j)) _ rfl rfl
theorem c_X12_merge (l : Launch) (Y : x_Y) (σ : x_S) (o : Nat) (hn : σ.1 38 4 = nI o) (hn9 : o ≤ 192) (N : Nat) (hN : σ.1 38 20 = nI N) (hN9 : N ≤ 3000) : x_M l yX12_merge cX12_merge 5 (some .int) 2 Y [.ref 38] σ (fun r τ => (o = 0 ∧ r = some (.int (nI 0)) ∧ τ = x_u σ 38 0 (nI 1)) ∨ (0 < o ∧ ∃ n e18 g48 f54 f55 f56 f57 f58 f59 f60, r = some (.int (nI n)) ∧ τ = x_st σ [(38, 0, nI 0), (38, 29, nI n), (38, 18, e18)] [(55, f55), (56, f56), (57, f57)] [(48, g48), (54, f54), (58, f58), (59, f59), (60, f60)] ∧ x_mg σ o N n f54 f55 f56 f57 f58 f59)) := c_X12_merge_K l Y σ o hn hn9 N hN hN9 _ (fun _ _ h => h)
