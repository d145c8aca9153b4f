/-! ===== the calls that change much ===== -/
abbrev w_Fk : List Nat := [40, 41, 42, 43, 44, 45, 46, 47]
abbrev w_Fj : List Nat := [0, 2, 3, 4, 7, 10, 15, 16, 17, 29]
theorem w_fr_r {σ τ : x_S} {N : Nat} (f : x_fr w_Fk w_Fj σ τ) (h : w_r σ N) : w_r τ N := by
  unfold w_r w_A at h ⊢
  rw [f.1 15 (by decide) (by decide), f.2.1 20 (by decide), f.1 16 (by decide) (by decide), f.1 17 (by decide) (by decide), f.1 18 (by decide) (by decide), f.1 49 (by decide) (by decide), f.1 50 (by decide) (by decide), f.1 51 (by decide) (by decide), f.1 52 (by decide) (by decide), f.1 53 (by decide) (by decide)]
  exact h
theorem w_fr_m {σ τ : x_S} {N : Nat} (f : x_fr w_Fk w_Fj σ τ) (e : τ.1 38 29 = σ.1 38 29) (h : w_m σ N) : w_m τ N := by
  unfold w_m w_M w_row at h ⊢
  rw [f.1 21 (by decide) (by decide), e, f.1 23 (by decide) (by decide), f.1 24 (by decide) (by decide), f.1 25 (by decide) (by decide), f.1 26 (by decide) (by decide), f.1 29 (by decide) (by decide), f.1 31 (by decide) (by decide), f.1 33 (by decide) (by decide), f.1 55 (by decide) (by decide), f.1 56 (by decide) (by decide), f.1 57 (by decide) (by decide), f.2.2]
  exact h
theorem w_fr_v {σ τ : x_S} (f : x_fr w_Fk w_Fj σ τ) (h : w_v σ) : w_v τ := by
  unfold w_v at h ⊢
  rw [f.1 36 (by decide) (by decide), f.1 37 (by decide) (by decide), f.1 62 (by decide) (by decide), f.2.1 38 (by decide)]
  exact h
theorem w_fr_n {σ τ : x_S} (f : x_fr w_Fk w_Fj σ τ) (h : w_n σ) : w_n τ := by
  unfold w_n at h ⊢
  rw [f.2.1 27 (by decide)]
  exact h
theorem w_fr_g {σ τ : x_S} {n c : Nat} (f : x_fr w_Fk w_Fj σ τ) (e40 : τ.1 40 = σ.1 40) (e41 : τ.1 41 = σ.1 41) (e4 : τ.1 38 4 = σ.1 38 4) (h : w_g σ n c) : w_g τ n c := by
  unfold w_g at h ⊢
  rw [f.1 10 (by decide) (by decide), f.1 11 (by decide) (by decide), f.1 12 (by decide) (by decide), f.1 13 (by decide) (by decide), e40, e41, e4]
  exact h
theorem w_fr_t {σ τ : x_S} (f : x_fr w_Fk w_Fj σ τ) (e : τ.1 38 2 = nI 0) (h1 : σ.1 1 1 = nI 0) (h2 : σ.1 39 = σ.1 2) : w_t τ 0 := by
  unfold w_t
  rw [f.1 1 (by decide) (by decide), f.1 39 (by decide) (by decide), f.1 2 (by decide) (by decide)]
  exact ⟨h1, e, h2, by decide⟩
section PS
variable {l : Launch} {Y : x_Y} {σ : x_S} {κ : Nat}
theorem pr_symbol (hI : w_I σ κ) (hκ : κ < 512) : ∃ post1 : Option Value → x_S → Prop, x_M l yX11_symbol cX11_symbol 2 (some .int) 6 Y [.ref 0] σ post1 ∧ ∀ r τ, post1 r τ → ∃ a, r = some (.int a) ∧ ∃ post2 : Option Value → x_S → Prop, x_M l yX12_symbol cX12_symbol 3 (some .int) 5 Y [.ref 38] τ post2 ∧ ∀ r2 τ2, post2 r2 τ2 → r2 = some (.int a) ∧ w_I τ2 (κ + 1) := by
  obtain ⟨t, n, c, N, nr, ht, hg, hr, hm, hv, hn, hb, hk⟩ := id hI
  refine ⟨_, c_X11_symbol l Y σ (σ.1 2) t ht.1 rfl ht.2.2.2, ?_⟩
  rintro r τ (⟨s1, rfl, a3, a4, a5, a6, a7, g9, g4, hτ⟩ | ⟨s1, rfl, a3, a4, a5, a6, a7, a8, g9, g4, g5, g6, g7, hτ, hG4, hcl⟩ | ⟨s1, rfl, a3, a4, a5, a6, a7, a8, g9, g4, g5, g6, g7, f11, f12, f13, f14, Ks, Ts, g31, g33, hτ, hG4, hcl, hkh, hK9, hbc, hth, hTK, h31, h33⟩)
  · have t1 : τ.1 1 1 = nI 0 := by rw [hτ]; rfl
    have t2 : τ.1 39 = τ.1 2 := by rw [hτ]; exact ht.2.2.1
    have t3 : w_r τ N := by rw [hτ]; exact hr
    have t4 : w_m τ nr := by rw [hτ]; exact hm
    have t5 : w_v τ := by rw [hτ]; exact hv
    have t6 : w_n τ := by rw [hτ]; exact hn
    have t7 : w_g τ n c := by rw [hτ]; exact hg
    have t8 : τ.1 39 = σ.1 2 := by rw [hτ]; exact ht.2.2.1
    have t9 : τ.1 38 2 = nI t := by rw [hτ]; exact ht.2.1
    clear hτ
    refine ⟨_, rfl, _, c_X12_symbol l Y τ (σ.1 2) t t8 t9 ht.2.2.2, ?_⟩
    rintro r2 τ2 ⟨fr, e0, e2, ⟨s2, rfl, e40, e41, e4, e29⟩ | ⟨s2, -⟩ | ⟨Os, s2, -⟩⟩
    · exact ⟨rfl, 0, n, c, N, nr, w_fr_t fr e2 t1 t2, w_fr_g fr e40 e41 e4 t7, w_fr_r fr t3, w_fr_m fr e29 t4, w_fr_v fr t5, w_fr_n fr t6, by omega, by omega⟩
    · rw [s1] at s2; cases s2
    · rw [s1] at s2; cases s2
  · rcases mm_agree hG4 hcl with ⟨-, hc0⟩ | ⟨Ks, z, -⟩
    · have t1 : τ.1 1 1 = nI 0 := by rw [hτ]; rfl
      have t2 : τ.1 39 = τ.1 2 := by rw [hτ]; exact ht.2.2.1
      have t3 : w_r τ N := by rw [hτ]; exact hr
      have t4 : w_m τ nr := by rw [hτ]; exact hm
      have t5 : w_v τ := by rw [hτ]; exact hv
      have t6 : w_n τ := by rw [hτ]; exact hn
      have t7 : w_g τ n c := by rw [hτ]; exact hg
      have t8 : τ.1 39 = σ.1 2 := by rw [hτ]; exact ht.2.2.1
      have t9 : τ.1 38 2 = nI t := by rw [hτ]; exact ht.2.1
      clear hτ
      refine ⟨_, rfl, _, c_X12_symbol l Y τ (σ.1 2) t t8 t9 ht.2.2.2, ?_⟩
      rintro r2 τ2 ⟨fr, e0, e2, ⟨s2, -⟩ | ⟨s2, -, rfl, e40, e41, e4, e29⟩ | ⟨Os, s2, s3, -⟩⟩
      · rw [s1] at s2; cases s2
      · exact ⟨rfl, 0, n, c, N, nr, w_fr_t fr e2 t1 t2, w_fr_g fr e40 e41 e4 t7, w_fr_r fr t3, w_fr_m fr e29 t4, w_fr_v fr t5, w_fr_n fr t6, by omega, by omega⟩
      · rw [hc0] at s3; cases s3
    · cases z
  · rcases mm_agree hG4 hcl with ⟨z, -⟩ | ⟨Ks', z, hc1, hok, hnd, M, hM, hMK⟩
    · cases z
    · cases z
      have t1 : τ.1 1 1 = nI 0 := by rw [hτ]; rfl
      have t2 : τ.1 39 = τ.1 2 := by rw [hτ]; exact ht.2.2.1
      have t3 : w_r τ N := by rw [hτ]; exact hr
      have t5 : w_v τ := by rw [hτ]; exact hv
      have t6 : w_n τ := by rw [hτ]; exact hn
      have t8 : τ.1 39 = σ.1 2 := by rw [hτ]; exact ht.2.2.1
      have t9 : τ.1 38 2 = nI t := by rw [hτ]; exact ht.2.1
      have u1 : τ.1 10 5 = nI Ks.length ∧ τ.1 10 4 = nI Ts.length ∧ τ.1 21 8 = nI 0 ∧ τ.1 29 4 = x_z false := by rw [hτ]; exact ⟨rfl, rfl, rfl, rfl⟩
      have u2 : τ.1 11 = f11 ∧ τ.1 12 = f12 ∧ τ.1 13 = f13 ∧ τ.1 31 = g31 ∧ τ.1 33 = g33 := by rw [hτ]; exact ⟨rfl, rfl, rfl, rfl, rfl⟩
      clear hτ
      refine ⟨_, rfl, _, c_X12_symbol l Y τ (σ.1 2) t t8 t9 ht.2.2.2, ?_⟩
      rintro r2 τ2 ⟨fr, e0, e2, ⟨s2, -⟩ | ⟨s2, s3, -⟩ | ⟨Os, s2, s3, rfl, hO, hO9, e40, e41, e4, e29⟩⟩
      · rw [s1] at s2; cases s2
      · rw [hc1] at s3; cases s3
      · rw [hc1] at s3
        cases s3
        refine ⟨rfl, 0, Ks.length, Ts.length, N, 0, w_fr_t fr e2 t1 t2, ⟨?_, ?_, ?_, hK9, hTK, ?_⟩, w_fr_r fr t3, ⟨?_, e29, w_M_0 (v0 := 0) (v1 := 1) ?_ ?_ ?_⟩, w_fr_v fr t5, w_fr_n fr t6, by omega, by omega⟩
        · rw [fr.1 10 (by decide) (by decide)]; exact u1.1
        · rw [fr.1 10 (by decide) (by decide)]; exact u1.2.1
        · rw [e4, List.length_map]
        · rw [fr.1 11 (by decide) (by decide), fr.1 12 (by decide) (by decide), fr.1 13 (by decide) (by decide), e40, e41, u2.1, u2.2.1, u2.2.2.1]
          exact w_G_of hkh hnd hok hM hMK hc1 hbc hth
        · rw [fr.1 21 (by decide) (by decide)]; exact u1.2.2.1
        · rw [fr.1 29 (by decide) (by decide)]; exact u1.2.2.2
        · rw [fr.1 31 (by decide) (by decide), u2.2.2.2.1]; exact h31
        · rw [fr.1 33 (by decide) (by decide), u2.2.2.2.2]; exact h33
theorem w_bd_le {A : x_A5} {n m : Nat} (h : w_bd A n) (hm : m ≤ n) : w_bd A m := fun j hj => h j (by omega)
theorem pr_file (hI : w_I σ κ) (hκ : κ < 512) : ∃ post1 : Option Value → x_S → Prop, x_M l yX11_file cX11_file 2 (some .int) 6 Y [.ref 0] σ post1 ∧ ∀ r τ, post1 r τ → ∃ a, r = some (.int a) ∧ ∃ post2 : Option Value → x_S → Prop, x_M l yX12_file cX12_file 4 (some .int) 4 Y [.ref 38] τ post2 ∧ ∀ r2 τ2, post2 r2 τ2 → r2 = some (.int a) ∧ w_I τ2 (κ + 1) := by
  obtain ⟨t, n, c, N, nr, ht, hg, hr, hm, hv, ⟨ng, hn⟩, hb, hk⟩ := id hI
  refine ⟨_, c_X11_file l Y σ N hr.1 (by omega) (w_A σ) hr.2.2.1 (σ.1 2) t ht.1 rfl ht.2.2.2, ?_⟩
  obtain ⟨b1, b2, b3⟩ := w_fil (b := σ.1 2) (t := t) hr.2.2.2
  rintro r τ (⟨s1, rfl, q3, q4, q5, q6, q7, g, f16, f17, f18, hτ, hk9⟩ | ⟨s1, s2, s3, rfl, q3, q4, q5, q6, q7, g, f16, f17, f18, hτ, hk9⟩)
  · refine ⟨_, rfl, _, c_X12_file l Y τ N ng (w_A σ) (by rw [hτ]; rfl) (by rw [hτ]; exact hn) (by rw [hτ]; exact hr.2.1) (by omega) (σ.1 2) t (by rw [hτ]; exact ht.2.2.1) (by rw [hτ]; exact ht.2.1) ht.2.2.2, ?_⟩
    subst hτ
    rintro r2 τ2 ⟨en, v, ng', ⟨d1, rfl, rfl⟩ | ⟨d1, -⟩⟩
    · exact ⟨rfl, 0, n, c, N, nr, ⟨rfl, rfl, ht.2.2.1, by decide⟩, hg, ⟨rfl, hr.2.1, hk9, w_bd_le b1 b2⟩, hm, hv, ⟨ng', rfl⟩, by omega, by omega⟩
    · rw [s1] at d1; cases d1
  · refine ⟨_, rfl, _, c_X12_file l Y τ N ng (w_A σ) (by rw [hτ]; rfl) (by rw [hτ]; exact hn) (by rw [hτ]; exact hr.2.1) (by omega) (σ.1 2) t (by rw [hτ]; exact ht.2.2.1) (by rw [hτ]; exact ht.2.1) ht.2.2.2, ?_⟩
    subst hτ
    rintro r2 τ2 ⟨en, v, ng', ⟨d1, -⟩ | ⟨d1, -, -, rfl, rfl⟩⟩
    · rw [s1] at d1; cases d1
    · exact ⟨rfl, 0, n, c, (x_fil (σ.1 2) t N (w_A σ)).2.2.1, nr, ⟨rfl, rfl, ht.2.2.1, by decide⟩, hg, ⟨rfl, rfl, hk9, b1⟩, hm, hv, ⟨ng', rfl⟩, by omega, by omega⟩
end PS
