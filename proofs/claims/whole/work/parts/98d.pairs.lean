/-! ===== merging: the rows of both ===== -/
theorem w_nz {f11 f12 f13 f40 f41 : Nat → Int32} {n c : Nat} (hG : w_G f11 f12 f13 f40 f41 n c) (hn : 0 < n) {h k q : Int32} (hs : w_sm f13 c (h, k, q)) (hv : ¬ (h = 0 ∧ k = 0 ∧ q = 0)) {B : List Int32} (e : z_gof f13 h k q c = mm_pk (mm_va (h, k, q) B)) (hall : ∀ A ∈ w_P f13 c, mm_pk (mm_va (h, k, q) A) ≤ z_gof f13 h k q c) : mm_va (h, k, q) B ≠ (0, 0, 0) := by
  intro z
  apply hv
  obtain ⟨M, hM, -⟩ := w_Gr hG hn
  have h1 := hM.2.2.2.1
  have h2 : x_neg x_one ∈ w_P f13 c := by
    obtain ⟨i, hi, h⟩ := (w_P_iff hG).mp h1
    refine (w_P_iff hG).mpr ⟨i, hi, ?_⟩
    rcases h with h | h
    · exact Or.inr (by rw [h])
    · exact Or.inl (by rw [h, mm_neg_neg])
  have a1 := hall _ h1
  have a2 := hall _ h2
  rw [mm_va_neg, mm_va_one, ← mm_opp, e, z] at a2
  rw [mm_va_one, e, z] at a1
  have hsm := w_sm_own hG hn hs
  have e0 : mm_pk (0, 0, 0) = nI 537395712 := by decide
  have z0 : mm_s1 0 := (by decide : (-511 : Int) ≤ (0 : Int32).toInt ∧ (0 : Int32).toInt ≤ 511)
  have hs0 : mm_sml (0, 0, 0) := ⟨z0, z0, z0⟩
  have e9 : mm_pk (h, k, q) = mm_pk (0, 0, 0) := by
    obtain ⟨A, B, C, c1, c2, c3, -, e1, -⟩ := mm_sml_n hsm
    rw [e1, e0] at a1 a2
    rw [e1, e0]
    unfold z_opp at a2
    have a1' := Int32.le_iff_toInt_le.mp a1
    have a2' := Int32.le_iff_toInt_le.mp a2
    rw [nI_toInt (by omega), nI_toInt (by omega)] at a1'
    rw [Int32.toInt_sub, nI_toInt (by omega), nI_toInt (by omega), nI_toInt (by omega), Int.bmod_eq_of_le (by omega) (by omega)] at a2'
    rw [nI_eq (by omega) (by omega)]
    omega
  have := mm_pk_inj hsm hs0 e9
  injection this with x1 x2
  injection x2 with x2 x3
  exact ⟨x1, x2, x3⟩
/-- the keys of the rows -/
theorem w_U {σ : x_S} {n c N : Nat} (hg : w_g σ n c) (hr : w_r σ N) (i : Nat) : ∃ u : mm_V, i < N → mm_sml u ∧ z_kd σ c i = mm_pk u ∧ (0 < n → x_kk σ n i = mm_kv u ∧ u ≠ (0, 0, 0) ∧ w_sm (σ.1 13) c u) := by
  by_cases hi : i < N
  · obtain ⟨k0, k1, k2, -, -⟩ := w_kp hr.2.2.1 hr.2.2.2 hi
    obtain ⟨b1, b2, -⟩ := hr.2.2.2 i hi
    obtain ⟨g1, g2, g3, g4, g5, hG⟩ := hg
    have ekd : z_kd σ c i = z_gof (σ.1 13) (σ.1 49 i) (σ.1 50 i) (σ.1 51 i) c := by
      unfold z_kd
      rw [k0, k1, k2]
      rfl
    rcases Nat.eq_zero_or_pos n with h0 | h0
    · have hc : c = 0 := by omega
      subst hc
      have f : ∀ x, mm_i1 x → mm_s1 x := fun x hx => ⟨by have := hx.1; omega, by have := hx.2; omega⟩
      exact ⟨(σ.1 49 i, σ.1 50 i, σ.1 51 i), fun _ => ⟨⟨f _ b1.1, f _ b1.2.1, f _ b1.2.2⟩, by rw [ekd]; rfl, fun z => by omega⟩⟩
    · have hs := w_sm_ix hG h0 b1
      obtain ⟨B, hB, e1, e2, hall⟩ := w_great hG h0 hs
      exact ⟨_, fun _ => ⟨hs B hB, by rw [ekd]; exact e1, fun _ => ⟨e2, w_nz hG h0 hs b2 e1 hall, w_sm_va hG h0 hs hB⟩⟩⟩
  · exact ⟨(0, 0, 0), fun z => absurd z hi⟩
theorem w_Qn {u : mm_V} (h : mm_sml u) : ∃ q, mm_pk u = nI q ∧ q < 2 ^ 30 := by
  obtain ⟨A, B, C, c1, c2, c3, -, e1, -⟩ := mm_sml_n h
  exact ⟨_, e1, by omega⟩
section PM
variable {l : Launch} {Y : x_Y} {σ : x_S} {κ : Nat}
theorem pr_merge (hl : l.stackTraces = false) (hI : w_I σ κ) (hκ : κ < 512) : ∃ post1 : Option Value → x_S → Prop, x_MH l yL_merge cL_merge 3 (some .int) [(0, 8, 11, 13)] 8 1 Y [.ref 0, .ref 63] σ post1 ∧ ∀ r τ, post1 r τ → ∃ kq : Nat, kq < 4 ∧ r = some (.int (nI kq)) ∧ ∃ post2 : Option Value → x_S → Prop, x_M l yX12_merge cX12_merge 5 (some .int) 2 Y [.ref 38] τ post2 ∧ ∀ r2 τ2, post2 r2 τ2 → ∃ b, r2 = some (.int b) ∧ τ2.1 38 0 = nI kq ∧ (kq = 0 → τ2.2 63 0 = b.toInt64) ∧ w_I τ2 (κ + 1) := by
  obtain ⟨t, n, c, N, nr, ht, hg, hr, hm, hv, hn, hb, hk⟩ := id hI
  obtain ⟨U, hU⟩ := Classical.axiomOfChoice (w_U hg hr)
  obtain ⟨Q, hQ⟩ := Classical.axiomOfChoice (show ∀ i, ∃ q, i < N → mm_pk (U i) = nI q ∧ q < 2 ^ 30 from fun i => by
    by_cases hi : i < N
    · obtain ⟨q, h⟩ := w_Qn (hU i hi).1
      exact ⟨q, fun _ => h⟩
    · exact ⟨0, fun z => absurd z hi⟩)
  have hQ1 : ∀ i, i < N → z_kd σ c i = nI (Q i) ∧ Q i < 2 ^ 30 := fun i hi => ⟨(hU i hi).2.1.trans (hQ i hi).1, (hQ i hi).2⟩
  have hV17 : ∀ i, i < N → σ.1 17 i = σ.1 52 i := fun i hi => (hr.2.2.1 i hi).2.1
  have hVb : ∀ i, i < N → -10000000 ≤ (σ.1 17 i).toInt ∧ (σ.1 17 i).toInt ≤ 10000000 := fun i hi => by
    rw [hV17 i hi]
    exact (hr.2.2.2 i hi).2.2
  have hzv : z_vb (z_V1 (σ.1 17)) N := fun i hi => by
    unfold z_V1
    rw [Int32.toInt_toInt64]
    exact hVb i hi
  obtain ⟨g1, g2, g3, g4, g5, hG⟩ := hg
  refine ⟨_, c_L_merge (c_X11_merge l hl Y σ n g1 g4 c g2 (by omega) N hr.1 (by omega) Q hQ1 hVb) (by decide) (fun r τ h => by obtain ⟨_, _, _, _, _, _, _, _, _, _, _, _, _, _, _, ⟨h, _⟩, _⟩ := h; exact ⟨_, h⟩) (fun E τ h => h.2.1), ?_⟩
  rintro r τ (⟨v, τ0, ⟨h0, n1, f23, f24, f25, f26, f27, g28, sp, q3, kn, g31, g33, g35, g22, ⟨h3, hτ0⟩, hro, hrow, hquo⟩, rfl, hτ⟩ | ⟨E, ⟨h1, rfl, rfl⟩, rfl⟩)
  · cases h3
    have h0' : 0 < n := by omega
    refine ⟨0, by decide, rfl, _, c_X12_merge l Y τ n (by rw [hτ, hτ0]; exact g3) g4 N (by rw [hτ, hτ0]; exact hr.2.1) (by omega), ?_⟩
    rintro r2 τ2 (⟨g, -⟩ | ⟨-, n2, e18, g48, f54, f55, f56, f57, f58, f59, f60, rfl, hτ2, hmg⟩)
    · omega
    have hkk : x_kk τ n = x_kk σ n ∧ x_vv τ = x_vv σ ∧ x_mlt τ n = x_mlt σ n ∧ x_abq τ n = x_abq σ n := by rw [hτ, hτ0]; exact ⟨rfl, rfl, rfl, rfl⟩
    unfold x_mg at hmg
    rw [hkk.1, hkk.2.1, hkk.2.2.1, hkk.2.2.2] at hmg
    clear hkk
    obtain ⟨mro, mrow, mspr⟩ := hmg
    have hkkU : ∀ i, i < N → x_kk σ n i = mm_kv (U i) := fun i hi => ((hU i hi).2.2 h0').1
    have hlt : ∀ i j, i < N → j < N → (z_K1 Q i < z_K1 Q j ↔ x_kk σ n i < x_kk σ n j) := fun i j hi hj => by
      have a := hQ i hi; have b := hQ j hj
      rw [hkkU i hi, hkkU j hj, ← mm_pk_lt (hU i hi).1 (hU j hj).1, a.1, b.1, nI_ltI (by omega) (by omega)]
      unfold z_K1
      rw [z_llt (by omega) (by omega)]
    have hVV : ∀ i, i < N → z_V1 (σ.1 17) i = x_vv σ i := fun i hi => by
      unfold z_V1 x_vv
      rw [hV17 i hi]
    obtain ⟨en, hsame⟩ := w_ro hro mro hlt hVV
    subst en
    obtain ⟨z1, z2, -, z4⟩ := z_rows hro (by omega) hzv
    have hle : n1 ≤ N := hro.1
    refine ⟨_, rfl, by rw [hτ2]; rfl, fun _ => by rw [hτ2, hτ]; rfl, t, n, c, N, n1, by rw [hτ2, hτ, hτ0]; exact ht, by rw [hτ2, hτ, hτ0]; exact ⟨g1, g2, g3, g4, g5, hG⟩, by rw [hτ2, hτ, hτ0]; exact hr, ?_, by rw [hτ2, hτ, hτ0]; exact hv, by rw [hτ2, hτ, hτ0]; exact hn, by omega, by omega⟩
    refine ⟨by rw [hτ2, hτ, hτ0]; rfl, by rw [hτ2]; rfl, by omega, fun a => x_cnt (z_K1 Q) (z_f f23 a) N, sp, kn, ?_⟩
    have c23 : τ2.1 23 = f23 ∧ τ2.1 24 = f24 ∧ τ2.1 25 = f25 ∧ τ2.1 26 = f26 ∧ τ2.1 55 = f55 ∧ τ2.1 56 = f56 ∧ τ2.1 57 = f57 ∧ τ2.2 27 = f27 ∧ τ2.2 28 = g28 ∧ τ2.2 54 = f54 ∧ τ2.2 58 = f58 ∧ τ2.2 59 = f59 := by rw [hτ2, hτ, hτ0]; exact ⟨rfl, rfl, rfl, rfl, rfl, rfl, rfl, rfl, rfl, rfl, rfl, rfl⟩
    have c29 : τ2.1 29 4 = x_z kn ∧ τ2.1 31 = g31 ∧ τ2.1 33 = g33 := by rw [hτ2, hτ, hτ0]; exact ⟨rfl, rfl, rfl⟩
    obtain ⟨d23, d24, d25, d26, d55, d56, d57, d27, d28, d54, d58, d59⟩ := c23
    have hrows : ∀ a, a < n1 → w_row τ2 (fun a => x_cnt (z_K1 Q) (z_f f23 a) N) sp a := fun a ha => by
      obtain ⟨⟨j, hj, e1, e2⟩, same, ec, es⟩ := hsame a ha
      obtain ⟨r1, r2, r3, r4, r5, j', hj', e3⟩ := hrow a ha
      have eQ : Q j' = Q j := by
        have a1 := hQ j hj; have a2 := hQ j' hj'
        have e4 := z_f_is (r := a) e3 (by omega)
        rw [e1] at e4
        unfold z_K1 at e4
        exact ((pk_lEQ (by omega) (by omega)).mp e4).symm
      rw [eQ] at e3
      obtain ⟨u1, u2, u3⟩ := hU j hj
      obtain ⟨u4, u5, u6⟩ := u3 h0'
      have e5 : f23 a = mm_pk (U j) := by rw [e3, (hQ j hj).1]
      have e6 : f54 a = mm_kv (U j) := by rw [e2, u4]
      obtain ⟨p0, p1, p2⟩ := mm_zpart u1
      obtain ⟨x0, x1, x2⟩ := mm_xpart u1
      obtain ⟨m1, m2⟩ := mrow a ha
      unfold w_row
      rw [d23, d24, d25, d26, d55, d56, d57, d27, d28, d54, d58, d59]
      refine ⟨⟨U j, u1, u5, e5, e6⟩, (z1 a ha).1, by rw [← ec]; exact (z1 a ha).1, (z1 a ha).2, ?_, ?_, es, ?_, z2 a ha, r4, r5⟩
      · rw [r1, m1]
        unfold z_m1 x_mlt
        rw [e5, e6, p0, p1, p2, x0, x1, x2 2 (Nat.le_refl 2), w_mult hG h0' u6]
      · rw [r2, m2]
        unfold z_m2 x_abq
        rw [e5, e6, p0, p1, p2, x0, x1, x2 2 (Nat.le_refl 2), w_absent hG]
      · rw [r3, mspr a ha, ← ec, ← es]
        exact w_spr N (fun i hi => ⟨same i hi, hVV i hi⟩)
    have hct : w_ct f26 (fun a => x_cnt (z_K1 Q) (z_f f23 a) N) = (fun a => decide (f26 a = 0) && decide (1 < x_cnt (z_K1 Q) (z_f f23 a) N)) := rfl
    rcases hquo with ⟨q1, rfl⟩ | ⟨q1, rfl, q2⟩
    · refine ⟨0, 0, hrows, z4, c29.1, fun z => (by cases z), fun z => (by cases z), Or.inl ⟨rfl, ?_⟩⟩
      rw [d26, d27, hct]
      exact q1
    · have hM0 : 0 < z_prod (fun a => x_cnt (z_K1 Q) (z_f f23 a) N) n1 := z_prod_pos (fun a ha => (z1 a ha).2.1)
      have hMd : ∀ a, a < n1 → (fun a => decide (f26 a = 0) && decide (1 < x_cnt (z_K1 Q) (z_f f23 a) N)) a = true → (fun a => x_cnt (z_K1 Q) (z_f f23 a) N) a ∣ z_prod (fun a => x_cnt (z_K1 Q) (z_f f23 a) N) n1 := fun a ha _ => z_prod_dv (cn := fun a => x_cnt (z_K1 Q) (z_f f23 a) N) ha
      obtain ⟨y1, y2⟩ := q2 _ hM0 hMd
      refine ⟨_, _, hrows, z4, c29.1, fun _ => by rw [c29.2.1]; exact y1, fun _ => by rw [c29.2.2]; exact y2, Or.inr ⟨rfl, by rw [d26, d27, hct]; exact q1, fun M hM hMd' => ?_⟩⟩
      rw [d26, hct] at hMd'
      obtain ⟨y3, y4⟩ := q2 M hM hMd'
      rw [d26, d27, hct]
      exact ⟨w_is_un y1 y3, w_is_un y2 y4⟩
  · refine ⟨1, by decide, by rw [x_cd1], _, c_X12_merge l Y _ n g3 g4 N hr.2.1 (by omega), ?_⟩
    rintro r2 τ2 (⟨-, rfl, rfl⟩ | ⟨g, -⟩)
    · exact ⟨_, rfl, rfl, fun z => absurd z (by decide), w_I_u hI hκ _⟩
    · omega
end PM
