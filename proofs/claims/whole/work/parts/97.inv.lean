/-! ===== what holds between the calls ===== -/
theorem w_cnt {K K' : Nat → Int64} {q q' : Int64} : ∀ m, (∀ i, i < m → (K i = q ↔ K' i = q')) → x_cnt K q m = x_cnt K' q' m
  | 0, _ => rfl
  | m + 1, h => by
    have ih := w_cnt m (fun i hi => h i (by omega))
    have e := h m (by omega)
    show (if K m = q then x_cnt K q m + 1 else x_cnt K q m) = if K' m = q' then x_cnt K' q' m + 1 else x_cnt K' q' m
    rw [ih]
    by_cases e1 : K m = q
    · rw [if_pos e1, if_pos (e.mp e1)]
    · rw [if_neg e1, if_neg (fun z => e1 (e.mpr z))]
theorem w_smm {K K' V V' : Nat → Int64} {q q' : Int64} : ∀ m, (∀ i, i < m → (K i = q ↔ K' i = q') ∧ V i = V' i) → x_sm K V q m = x_sm K' V' q' m
  | 0, _ => rfl
  | m + 1, h => by
    have ih := w_smm m (fun i hi => h i (by omega))
    have e := (h m (by omega)).1
    show (if K m = q then x_sm K V q m + V m else x_sm K V q m) = if K' m = q' then x_sm K' V' q' m + V' m else x_sm K' V' q' m
    rw [ih, (h m (by omega)).2]
    by_cases e1 : K m = q
    · rw [if_pos e1, if_pos (e.mp e1)]
    · rw [if_neg e1, if_neg (fun z => e1 (e.mpr z))]
theorem w_spr {K K' V V' : Nat → Int64} {c s q q' : Int64} : ∀ m, (∀ i, i < m → (K i = q ↔ K' i = q') ∧ V i = V' i) → x_spr K V c s q m = x_spr K' V' c s q' m
  | 0, _ => rfl
  | m + 1, h => by
    have ih := w_spr (c := c) (s := s) m (fun i hi => h i (by omega))
    have e := (h m (by omega)).1
    show (if K m = q then x_spr K V c s q m + x_ab (c * V m - s) else x_spr K V c s q m) = if K' m = q' then x_spr K' V' c s q' m + x_ab (c * V' m - s) else x_spr K' V' c s q' m
    rw [ih, (h m (by omega)).2]
    by_cases e1 : K m = q
    · rw [if_pos e1, if_pos (e.mp e1)]
    · rw [if_neg e1, if_neg (fun z => e1 (e.mpr z))]
/-- rows by keys of one order are the same rows -/
theorem w_ro {K K' V V' : Nat → Int64} {N n n' : Nat} {f f' : Nat → Int64} {c c' : Nat → Int32} {s s' : Nat → Int64} (h : x_ro K V N n f c s) (h' : x_ro K' V' N n' f' c' s') (hlt : ∀ i j, i < N → j < N → (K i < K j ↔ K' i < K' j)) (hV : ∀ i, i < N → V i = V' i) :
    n = n' ∧ ∀ a, a < n → (∃ j, j < N ∧ f a = K j ∧ f' a = K' j) ∧ (∀ i, i < N → (K i = f a ↔ K' i = f' a)) ∧ c a = c' a ∧ s a = s' a := by
  have heq : ∀ i j, i < N → j < N → (K i = K j ↔ K' i = K' j) := fun i j hi hj => by
    have a1 := hlt i j hi hj
    have a2 := hlt j i hj hi
    constructor
    · intro z
      refine Classical.byContradiction fun y => ?_
      by_cases e : K' i < K' j
      · have := a1.mpr e; rw [z] at this; exact x_lt_irr this
      · have := a2.mpr (x_lt_of e y); rw [z] at this; exact x_lt_irr this
    · intro z
      refine Classical.byContradiction fun y => ?_
      by_cases e : K i < K j
      · have := a1.mp e; rw [z] at this; exact x_lt_irr this
      · have := a2.mp (x_lt_of e y); rw [z] at this; exact x_lt_irr this
  obtain ⟨b1, b2, b3, b4⟩ := h
  obtain ⟨d1, d2, d3, d4⟩ := h'
  have mono : ∀ {g : Nat → Int64} {m : Nat}, (∀ a b, a < b → b < m → g a < g b) → ∀ a b, a < m → b < m → g a < g b → a < b := fun {g m} hg a b ha hb z => by
    rcases Nat.lt_trichotomy a b with e | e | e
    · exact e
    · subst e; exact absurd z x_lt_irr
    · exact absurd (x_lt_tr z (hg b a e ha)) x_lt_irr
  have inj : ∀ {g : Nat → Int64} {m : Nat}, (∀ a b, a < b → b < m → g a < g b) → ∀ a b, a < m → b < m → g a = g b → a = b := fun {g m} hg a b ha hb z => by
    rcases Nat.lt_trichotomy a b with e | e | e
    · exact absurd (hg a b e hb) (by rw [z]; exact x_lt_irr)
    · exact e
    · exact absurd (hg b a e ha) (by rw [z]; exact x_lt_irr)
  have key : ∀ a, a < n → a < n' ∧ ∃ j, j < N ∧ f a = K j ∧ f' a = K' j := by
    intro a
    induction a using Nat.strongRecOn with
    | _ a ih =>
      intro ha
      obtain ⟨⟨i, hi, ei⟩, -, -⟩ := b4 a ha
      obtain ⟨b, hb, eb⟩ := d3 i hi
      have hba : ¬ b < a := fun z => by
        obtain ⟨h1, j, hj, e1, e2⟩ := ih b z (by omega)
        have h2 : K' j = K' i := by rw [← e2, eb]
        have h3 := (heq j i hj hi).mpr h2
        have h4 : f b = f a := by rw [e1, h3, ei]
        have := b2 b a z ha
        rw [h4] at this
        exact x_lt_irr this
      have hab : ¬ a < b := fun z => by
        have ha' : a < n' := by omega
        obtain ⟨⟨j, hj, ej⟩, -, -⟩ := d4 a ha'
        have h1 := d2 a b z hb
        rw [eb, ← ej] at h1
        have h2 := (hlt j i hj hi).mpr h1
        obtain ⟨d, hd, ed⟩ := b3 j hj
        have h3 : d < a := mono b2 d a hd ha (by rw [ed, ← ei]; exact h2)
        obtain ⟨h4, j', hj', e1, e2⟩ := ih d h3 (by omega)
        have h5 : K j' = K j := by rw [← e1, ed]
        have h6 := (heq j' j hj' hj).mp h5
        have h7 : f' d = f' a := by rw [e2, h6, ej]
        have := d2 d a h3 ha'
        rw [h7] at this
        exact x_lt_irr this
      have e : b = a := by omega
      subst e
      exact ⟨hb, i, hi, ei.symm, eb⟩
  have hnn : n = n' := by
    have h1 : n ≤ n' := by
      rcases Nat.eq_zero_or_pos n with h0 | h0
      · omega
      · have := (key (n - 1) (by omega)).1
        omega
    rcases Nat.lt_or_ge n n' with h2 | h2
    · exfalso
      obtain ⟨⟨j, hj, ej⟩, -, -⟩ := d4 n h2
      obtain ⟨d, hd, ed⟩ := b3 j hj
      obtain ⟨h4, j', hj', e1, e2⟩ := key d hd
      have h5 : K j' = K j := by rw [← e1, ed]
      have h6 := (heq j' j hj' hj).mp h5
      have h7 : f' d = f' n := by rw [e2, h6, ej]
      have := inj d2 d n h4 h2 h7
      omega
    · omega
  refine ⟨hnn, fun a ha => ?_⟩
  obtain ⟨h1, j, hj, e1, e2⟩ := key a ha
  have same : ∀ i, i < N → (K i = f a ↔ K' i = f' a) := fun i hi => by rw [e1, e2]; exact heq i j hi hj
  obtain ⟨-, c1, s1⟩ := b4 a ha
  obtain ⟨-, c2, s2⟩ := d4 a h1
  exact ⟨⟨j, hj, e1, e2⟩, same, by rw [c1, c2, w_cnt N same], by rw [s1, s2, w_smm N (fun i hi => ⟨same i hi, hV i hi⟩)]⟩
/-! the parts of the invariant -/
def w_A (σ : x_S) : x_A5 := (σ.1 49, σ.1 50, σ.1 51, σ.1 52, σ.1 53)
def w_b1 (A : x_A5) (j : Nat) : Prop := mm_ix (A.1 j, A.2.1 j, A.2.2.1 j) ∧ ¬ (A.1 j = 0 ∧ A.2.1 j = 0 ∧ A.2.2.1 j = 0) ∧ -10000000 ≤ (A.2.2.2.1 j).toInt ∧ (A.2.2.2.1 j).toInt ≤ 10000000
def w_bd (A : x_A5) (N : Nat) : Prop := ∀ j, j < N → w_b1 A j
def w_row (σ : x_S) (cn sp : Nat → Nat) (a : Nat) : Prop := (∃ u : mm_V, mm_sml u ∧ u ≠ (0, 0, 0) ∧ σ.1 23 a = mm_pk u ∧ σ.2 54 a = mm_kv u) ∧ σ.1 24 a = nI (cn a) ∧ σ.1 55 a = nI (cn a) ∧ (0 < cn a ∧ cn a ≤ 400) ∧ σ.1 25 a = σ.1 56 a ∧ σ.1 26 a = σ.1 57 a ∧ σ.2 27 a = σ.2 58 a ∧ σ.2 28 a = σ.2 59 a ∧ (-4000000000 ≤ (σ.2 27 a).toInt ∧ (σ.2 27 a).toInt ≤ 4000000000) ∧ σ.2 28 a = lN (sp a) ∧ sp a ≤ 3200000000000
def w_ct (f26 : Nat → Int32) (cn : Nat → Nat) (a : Nat) : Bool := decide (f26 a = 0) && decide (1 < cn a)
def w_R (ct : Nat → Bool) (cn sp : Nat → Nat) (f27 : Nat → Int64) (nr : Nat) (kn : Bool) (v0 v1 : Nat) : Prop :=
  (kn = false ∧ ¬ 0 < y_tot ct f27 nr) ∨ (kn = true ∧ 0 < y_tot ct f27 nr ∧ ∀ M, 0 < M → (∀ a, a < nr → ct a = true → cn a ∣ M) → v0 = y_abv ct cn sp M nr / Nat.gcd (y_abv ct cn sp M nr) (M * (y_tot ct f27 nr).toInt.toNat) ∧ v1 = M * (y_tot ct f27 nr).toInt.toNat / Nat.gcd (y_abv ct cn sp M nr) (M * (y_tot ct f27 nr).toInt.toNat))
def w_M (σ : x_S) (nr : Nat) : Prop := nr ≤ 400 ∧ ∃ (cn sp : Nat → Nat) (kn : Bool) (v0 v1 : Nat), (∀ a, a < nr → w_row σ cn sp a) ∧ z_prod cn nr < 2 ^ 212 ∧ σ.1 29 4 = x_z kn ∧ (kn = true → z_is (σ.1 31) v0) ∧ (kn = true → z_is (σ.1 33) v1) ∧ w_R (w_ct (σ.1 26) cn) cn sp (σ.2 27) nr kn v0 v1
def w_t (σ : x_S) (t : Nat) : Prop := σ.1 1 1 = nI t ∧ σ.1 38 2 = nI t ∧ σ.1 39 = σ.1 2 ∧ t ≤ 8000
def w_g (σ : x_S) (n c : Nat) : Prop := σ.1 10 5 = nI n ∧ σ.1 10 4 = nI c ∧ σ.1 38 4 = nI n ∧ n ≤ 192 ∧ c ≤ n ∧ w_G (σ.1 11) (σ.1 12) (σ.1 13) (σ.1 40) (σ.1 41) n c
def w_r (σ : x_S) (N : Nat) : Prop := σ.1 15 3 = nI N ∧ σ.1 38 20 = nI N ∧ z_kp (σ.1 16) (σ.1 17) (σ.1 18) (w_A σ) N ∧ w_bd (w_A σ) N
def w_m (σ : x_S) (nr : Nat) : Prop := σ.1 21 8 = nI nr ∧ σ.1 38 29 = nI nr ∧ w_M σ nr
def w_v (σ : x_S) : Prop := ∃ fo, σ.1 36 1 = nI fo ∧ σ.1 38 38 = nI fo ∧ fo ≤ 3000 ∧ ∀ j, j < fo → σ.1 37 j = σ.1 62 j
def w_n (σ : x_S) : Prop := ∃ ng, σ.1 38 27 = x_z ng
/-- after κ calls -/
def w_I (σ : x_S) (κ : Nat) : Prop := ∃ t n c N nr, w_t σ t ∧ w_g σ n c ∧ w_r σ N ∧ w_m σ nr ∧ w_v σ ∧ w_n σ ∧ 28 * N + t ≤ 20 * κ ∧ κ ≤ 512
theorem w_M_0 {σ : x_S} {v0 v1 : Nat} (h4 : σ.1 29 4 = x_z false) (h31 : z_is (σ.1 31) v0) (h33 : z_is (σ.1 33) v1) : w_M σ 0 :=
  ⟨by decide, fun _ => 1, fun _ => 0, false, v0, v1, fun a h => absurd h (Nat.not_lt_zero a), (by show 1 < 2 ^ 212; decide), h4, fun _ => h31, fun _ => h33, Or.inl ⟨rfl, by show ¬ (0 : Int64) < 0; decide⟩⟩
theorem w_is_un {f : Nat → Int32} {v w : Nat} (hv : z_is f v) (hw : z_is f w) : v = w := by
  have h : ∀ k, k ≤ 20 → v % 65536 ^ k = w % 65536 ^ k := by
    intro k
    induction k with
    | zero => intro _; rw [Nat.pow_zero, Nat.mod_one, Nat.mod_one]
    | succ k ih =>
      intro hk
      have e : y_dg v k = y_dg w k := by
        have h1 := (hv.2 k (by omega)).symm.trans (hw.2 k (by omega))
        have := y_dg_lt v k; have := y_dg_lt w k
        exact (nI_eq (by omega) (by omega)).mp h1
      rw [y_md_s, y_md_s, ih (by omega), e]
  have := h 20 (Nat.le_refl 20)
  rwa [Nat.mod_eq_of_lt hv.1, Nat.mod_eq_of_lt hw.1] at this
/-! files -/
theorem w_colf {b : Nat → Int32} {t : Nat} {sg : Bool} : ∀ (k a : Nat) (bg ng : Bool) (v d : Nat), v < 10 ^ d → (x_colf b t sg k a bg ng v).2.2.2 < 10 ^ (d + k)
  | 0, a, bg, ng, v, d, h => h
  | k + 1, a, bg, ng, v, d, h => by
    have mono : v < 10 ^ (d + (k + 1)) := Nat.lt_of_lt_of_le h (Nat.pow_le_pow_right (by decide) (by omega))
    unfold x_colf
    split
    · rw [show d + (k + 1) = (d + 1) + k by omega]
      refine w_colf k _ _ _ _ (d + 1) ?_
      split
      · next h1 =>
        obtain ⟨e, h2, h3⟩ := x_dig_nat h1
        rw [h3, z_cl (by omega), Nat.pow_succ]
        omega
      · exact Nat.lt_of_lt_of_le h (Nat.pow_le_pow_right (by decide) (by omega))
    · exact mono
theorem w_iv {b : Nat → Int32} {t a : Nat} (h : (x_idx b t a).1 = true) : mm_i1 (x_iv b t a) := by
  have h2 : (x_idx b t a).2.2.2 ≤ 127 := by
    unfold x_idx at h ⊢
    split at h
    · next h1 =>
      rw [if_pos h1]
      split at h
      · next h2 => rw [if_pos h2]; exact h2
      · cases h
    · cases h
  unfold x_iv mm_i1
  rw [x_val_toInt (by omega)]
  split <;> omega
theorem w_hv {b : Nat → Int32} {t a : Nat} {sg : Bool} (h : (x_hun b t sg a).1 = true) : -10000000 ≤ (x_hv b t sg a).toInt ∧ (x_hv b t sg a).toInt ≤ 10000000 := by
  have h2 : (x_hun b t sg a).2.2.2 < 10000000 := by
    have h9 := w_colf (b := b) (t := t) (sg := sg) 5 a false false 0 0 (by decide)
    unfold x_hun at h ⊢
    split at h
    · next h1 =>
      rw [if_pos h1]
      split at h
      · next h2 =>
        rw [if_pos h2]
        split at h
        · next h3 =>
          rw [if_pos h3]
          split at h
          · next h4 =>
            rw [if_pos h4]
            obtain ⟨e, e1, e2⟩ := x_dig_nat h3
            obtain ⟨g, g1, g2⟩ := x_dig_nat h4
            rw [e2, g2, z_cl (by omega), z_cl (by omega)]
            show 10 * (10 * (x_colf b t sg 5 a false false 0).2.2.2 + (48 + e - 48)) + (48 + g - 48) < 10000000
            have h9' : (x_colf b t sg 5 a false false 0).2.2.2 < 100000 := h9
            omega
          · cases h
        · cases h
      · cases h
    · cases h
  unfold x_hv
  rw [x_val_toInt (by omega)]
  split <;> omega
theorem w_rowb {b : Nat → Int32} {t a n : Nat} {A : x_A5} (hr : (x_row b t a).1 = true) (hz : x_rz b t a = false) : w_b1 (x_ap b t a n A) n := by
  have h1 : (x_idx b t a).1 = true ∧ (x_idx b t (a + 4)).1 = true ∧ (x_idx b t (a + 8)).1 = true ∧ (x_hun b t true (a + 12)).1 = true := by
    unfold x_row at hr
    split at hr
    · next h1 =>
      split at hr
      · next h2 =>
        split at hr
        · next h3 =>
          split at hr
          · next h4 => exact ⟨h1, h2, h3, h4⟩
          · cases hr
        · cases hr
      · cases hr
    · cases hr
  unfold w_b1 x_ap
  simp only [pk_us]
  refine ⟨⟨w_iv h1.1, w_iv h1.2.1, w_iv h1.2.2.1⟩, fun z => ?_, w_hv h1.2.2.2⟩
  rw [z_rzt z.1 z.2.1 z.2.2] at hz
  cases hz
theorem w_ap_ne {b : Nat → Int32} {t a n j : Nat} {A : x_A5} (h : j ≠ n) : (x_ap b t a n A).1 j = A.1 j ∧ (x_ap b t a n A).2.1 j = A.2.1 j ∧ (x_ap b t a n A).2.2.1 j = A.2.2.1 j ∧ (x_ap b t a n A).2.2.2.1 j = A.2.2.2.1 j ∧ (x_ap b t a n A).2.2.2.2 j = A.2.2.2.2 j := by
  unfold x_ap
  exact ⟨pk_un h, pk_un h, pk_un h, pk_un h, pk_un h⟩
theorem w_b1_of {A A' : x_A5} {j : Nat} (h : w_b1 A j) (e : A'.1 j = A.1 j ∧ A'.2.1 j = A.2.1 j ∧ A'.2.2.1 j = A.2.2.1 j ∧ A'.2.2.2.1 j = A.2.2.2.1 j) : w_b1 A' j := by
  unfold w_b1 at h ⊢
  rw [e.1, e.2.1, e.2.2.1, e.2.2.2]
  exact h
/-- the reading of a file: what was there stays; what comes is within bounds; each row takes 28 bytes at least -/
theorem w_flf {b : Nat → Int32} {t : Nat} : ∀ (f a n : Nat) (en : Bool) (A : x_A5), a ≤ t + 1 → w_bd A n →
    w_bd (x_flf b t f a n en A).2.2.2 (x_flf b t f a n en A).2.2.1 ∧ n ≤ (x_flf b t f a n en A).2.2.1 ∧ 29 * ((x_flf b t f a n en A).2.2.1 - n) + a ≤ t + 1
  | 0, a, n, en, A, ha, h => ⟨h, Nat.le_refl n, by show 29 * (n - n) + a ≤ t + 1; omega⟩
  | f + 1, a, n, en, A, ha, h => by
    unfold x_flf
    split
    · exact ⟨h, Nat.le_refl n, by show 29 * (n - n) + a ≤ t + 1; omega⟩
    split
    · exact ⟨h, Nat.le_refl n, by show 29 * (n - n) + a ≤ t + 1; omega⟩
    split
    · next hr =>
      have hle := x_row_le hr
      split
      · split
        · split
          · obtain ⟨h1, h2, h3⟩ := w_flf (b := b) (t := t) f (a + 29) n true A (by omega) h
            exact ⟨h1, h2, by omega⟩
          · exact ⟨h, Nat.le_refl n, by show 29 * (n - n) + a ≤ t + 1; omega⟩
        · exact ⟨h, Nat.le_refl n, by show 29 * (n - n) + a ≤ t + 1; omega⟩
      · next hz =>
        split
        · exact ⟨h, Nat.le_refl n, by show 29 * (n - n) + a ≤ t + 1; omega⟩
        · have hz' : x_rz b t a = false := Bool.eq_false_iff.mpr hz
          have hb : w_bd (x_ap b t a n A) (n + 1) := fun j hj => by
            by_cases e : j = n
            · subst e
              exact w_rowb hr hz'
            · obtain ⟨e1, e2, e3, e4, -⟩ := w_ap_ne (b := b) (t := t) (a := a) (A := A) e
              exact w_b1_of (h j (by omega)) ⟨e1, e2, e3, e4⟩
          split
          · split
            · obtain ⟨h1, h2, h3⟩ := w_flf (b := b) (t := t) f (a + 29) (n + 1) false (x_ap b t a n A) (by omega) hb
              exact ⟨h1, by omega, by omega⟩
            · exact ⟨hb, by show n ≤ n + 1; omega, by show 29 * (n + 1 - n) + a ≤ t + 1; omega⟩
          · exact ⟨hb, by show n ≤ n + 1; omega, by show 29 * (n + 1 - n) + a ≤ t + 1; omega⟩
    · exact ⟨h, Nat.le_refl n, by show 29 * (n - n) + a ≤ t + 1; omega⟩
theorem w_fil {b : Nat → Int32} {t n : Nat} {A : x_A5} (h : w_bd A n) : w_bd (x_fil b t n A).2.2.2 (x_fil b t n A).2.2.1 ∧ n ≤ (x_fil b t n A).2.2.1 ∧ 28 * (x_fil b t n A).2.2.1 ≤ 28 * n + t := by
  unfold x_fil
  split
  · next h1 =>
    have h2 := of_decide_eq_true h1
    obtain ⟨a1, a2, a3⟩ := w_flf (b := b) (t := t) (t + 1) 0 n false A (by omega) h
    exact ⟨a1, a2, by omega⟩
  · exact ⟨h, Nat.le_refl n, by show 28 * n ≤ 28 * n + t; omega⟩
