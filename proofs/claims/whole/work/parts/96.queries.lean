/-! ===== both answer alike of one group ===== -/
theorem w_any (p : Nat → Bool) : ∀ n i, x_anyf p n i = true ↔ ∃ j, i ≤ j ∧ j < i + n ∧ p j = true
  | 0, i => ⟨fun h => (by cases h), fun ⟨j, h1, h2, _⟩ => by omega⟩
  | n + 1, i => by
    show (p i || x_anyf p n (i + 1)) = true ↔ _
    rw [Bool.or_eq_true, w_any p n (i + 1)]
    constructor
    · rintro (h | ⟨j, h1, h2, h3⟩)
      · exact ⟨i, Nat.le_refl i, by omega, h⟩
      · exact ⟨j, by omega, by omega, h3⟩
    · rintro ⟨j, h1, h2, h3⟩
      rcases Nat.eq_or_lt_of_le h1 with e | e
      · subst e
        exact Or.inl h3
      · exact Or.inr ⟨j, by omega, by omega, h3⟩
theorem w_any_eq {p q : Nat → Bool} {n : Nat} (h : ∀ j, j < n → p j = q j) : x_anyf p n 0 = x_anyf q n 0 := by
  rw [Bool.eq_iff_iff, w_any, w_any]
  constructor
  · rintro ⟨j, h1, h2, h3⟩
    exact ⟨j, h1, h2, by rw [← h j (by omega)]; exact h3⟩
  · rintro ⟨j, h1, h2, h3⟩
    exact ⟨j, h1, h2, by rw [h j (by omega)]; exact h3⟩
section WQ
variable {f11 f12 f13 f40 f41 : Nat → Int32} {n c : Nat}
theorem w_sn (hG : w_G f11 f12 f13 f40 f41 n c) {i j : Nat} (hi : i < n) (hj : j < 3) (h k l : Int32) : z_sn f12 i j h k l = x_snt f40 i j h k l := by
  obtain ⟨h1, -⟩ := hG.1 i hi
  unfold z_sn x_snt
  rw [h1 j (by omega), show i * 12 + j + 3 = i * 12 + (3 + j) by omega, h1 (3 + j) (by omega), show i * 12 + j + 6 = i * 12 + (6 + j) by omega, h1 (6 + j) (by omega), show 9 * i + 3 + j = 9 * i + (3 + j) by omega, show 9 * i + 6 + j = 9 * i + (6 + j) by omega]
theorem w_ph (hG : w_G f11 f12 f13 f40 f41 n c) {i : Nat} (hi : i < n) (h k l : Int32) : z_ph f12 i h k l = x_phs f41 i h k l := by
  obtain ⟨-, h1⟩ := hG.1 i hi
  unfold z_ph x_phs
  have h0 : f12 (i * 12 + 9) = f41 (3 * i) := h1 0 (by decide)
  rw [h0, h1 1 (by decide), h1 2 (by decide)]
theorem w_absent (hG : w_G f11 f12 f13 f40 f41 n c) (h k l : Int32) : z_abs f12 n h k l = x_absent f40 f41 n h k l := by
  unfold z_abs x_absent
  refine w_any_eq fun i hi => ?_
  unfold z_ab1 x_abs1
  rw [w_sn hG hi (by decide), w_sn hG hi (by decide), w_sn hG hi (by decide), w_ph hG hi]
theorem w_allb {p : Nat → Bool} : ∀ n, x_allb p n = true ↔ ∀ k, k < n → p k = true
  | 0 => ⟨fun _ k h => absurd h (Nat.not_lt_zero k), fun _ => rfl⟩
  | n + 1 => by
    show (x_allb p n && p n) = true ↔ _
    rw [Bool.and_eq_true, w_allb n]
    constructor
    · rintro ⟨h1, h2⟩ k hk
      rcases Nat.lt_or_ge k n with h3 | h3
      · exact h1 k h3
      · have e : k = n := by omega
        subst e
        exact h2
    · exact fun h => ⟨fun k hk => h k (by omega), h n (by omega)⟩
theorem w_plain (hG : w_G f11 f12 f13 f40 f41 n c) {sg K : Int32} (hs : (sg = nI 1 ∧ K = nI 153174) ∨ (sg = -1 ∧ K = nI 21588)) : ∀ m, m ≤ n → y_cnb (z_pln f11 K) m = x_plc f40 sg m
  | 0, _ => rfl
  | m + 1, hm => by
    have ih := w_plain hG hs m (by omega)
    have key : z_pln f11 K m = x_pl1 f40 sg m := by
      obtain ⟨d, t, h1, h2, h3⟩ := hG.2.1 m (by omega)
      rw [Bool.eq_iff_iff]
      unfold z_pln x_pl1
      rw [decide_eq_true_eq, w_allb]
      have h4 := mm_ky_lt h1
      have h5 := h1.2 0 (by decide); have h6 := h1.2 1 (by decide); have h7 := h1.2 2 (by decide)
      have e1 : f11 m >>> (nI 12 &&& 31) = nI (z_kn d 9) := by
        rw [h2, pk_shrN (by omega) _ 12 (by decide)]
        have h7 : mm_ky d t / 2 ^ 12 = z_kn d 9 := by
          rw [mm_ky2, mm_num16]
          omega
        rw [h7]
      have hle := mm_kn_le h1.1
      rw [e1]
      have gen : ∀ (e : Nat → Nat) (K0 : Nat), (∀ j, j < 9 → e j < 3) → z_kn e 9 = K0 → K0 < 2 ^ 31 → (nI (z_kn d 9) = nI K0 ↔ ∀ j, j < 9 → d j = e j) := fun e K0 he hk hk9 => by
        rw [nI_eq (by omega) hk9, ← hk]
        constructor
        · exact fun z => mm_kn_inj h1.1 he z
        · exact fun z => by rw [mm_kn_sum, mm_kn_sum, z 0 (by decide), z 1 (by decide), z 2 (by decide), z 3 (by decide), z 4 (by decide), z 5 (by decide), z 6 (by decide), z 7 (by decide), z 8 (by decide)]
      rcases hs with ⟨rfl, rfl⟩ | ⟨rfl, rfl⟩
      · rw [gen (fun j => if j % 4 = 0 then 2 else 1) 153174 (by decide) (by decide) (by decide)]
        constructor
        · intro z k hk
          rw [decide_eq_true_eq, h3 k hk, z k hk]
          by_cases e : k % 4 = 0
          · simp only [if_pos e]; rfl
          · simp only [if_neg e]; rfl
        · intro z k hk
          have h9 := of_decide_eq_true (z k hk)
          rw [h3 k hk] at h9
          have := h1.1 k hk
          by_cases e : k % 4 = 0
          · rw [if_pos e] at h9
            simp only [if_pos e]
            exact mm_sub1 (by omega) (by decide) (h9.trans rfl)
          · rw [if_neg e] at h9
            simp only [if_neg e]
            exact mm_sub1 (by omega) (by decide) (h9.trans rfl)
      · rw [gen (fun j => if j % 4 = 0 then 0 else 1) 21588 (by decide) (by decide) (by decide)]
        constructor
        · intro z k hk
          rw [decide_eq_true_eq, h3 k hk, z k hk]
          by_cases e : k % 4 = 0
          · simp only [if_pos e]; rfl
          · simp only [if_neg e]; rfl
        · intro z k hk
          have h9 := of_decide_eq_true (z k hk)
          rw [h3 k hk] at h9
          have := h1.1 k hk
          by_cases e : k % 4 = 0
          · rw [if_pos e] at h9
            simp only [if_pos e]
            exact mm_sub1 (by omega) (by decide) (h9.trans rfl)
          · rw [if_neg e] at h9
            simp only [if_neg e]
            exact mm_sub1 (by omega) (by decide) (h9.trans rfl)
    show (if z_pln f11 K m = true then y_cnb (z_pln f11 K) m + 1 else y_cnb (z_pln f11 K) m) = if x_pl1 f40 sg m = true then x_plc f40 sg m + 1 else x_plc f40 sg m
    rw [key, ih]
/-! images -/
theorem w_tu (f : Nat → Int32) (h k l : Int32) (i : Nat) : z_tu f h k l i = mm_pk (mm_va (h, k, l) (w_tl f i)) := rfl
theorem w_k1 (t : Nat → Int32) (h k l : Int32) (i : Nat) : x_k1 t h k l i = mm_kv (mm_va (h, k, l) (w_rl t i)) := rfl
theorem w_k2 (t : Nat → Int32) (h k l : Int32) (i : Nat) : x_k2 t h k l i = mm_kv (mm_vn (mm_va (h, k, l) (w_rl t i))) := rfl
/-- the turns and their opposites -/
def w_P (f13 : Nat → Int32) : Nat → List (List Int32)
  | 0 => []
  | c + 1 => w_P f13 c ++ [w_tl f13 c, x_neg (w_tl f13 c)]
theorem w_P_len (f13 : Nat → Int32) : ∀ c, (w_P f13 c).length = 2 * c
  | 0 => rfl
  | c + 1 => by
    show (w_P f13 c ++ _).length = _
    rw [List.length_append, w_P_len f13 c]
    simp
    omega
theorem w_P_mem {f13 : Nat → Int32} {A : List Int32} : ∀ {c}, A ∈ w_P f13 c ↔ ∃ j, j < c ∧ (A = w_tl f13 j ∨ A = x_neg (w_tl f13 j))
  | 0 => ⟨fun h => absurd h List.not_mem_nil, fun ⟨j, h, _⟩ => absurd h (Nat.not_lt_zero j)⟩
  | c + 1 => by
    show A ∈ w_P f13 c ++ _ ↔ _
    rw [List.mem_append, w_P_mem (c := c)]
    simp only [List.mem_cons, List.not_mem_nil, or_false]
    constructor
    · rintro (⟨j, h1, h2⟩ | h)
      · exact ⟨j, by omega, h2⟩
      · exact ⟨c, by omega, h⟩
    · rintro ⟨j, h1, h2⟩
      rcases Nat.lt_or_ge j c with h3 | h3
      · exact Or.inl ⟨j, h3, h2⟩
      · have e : j = c := by omega
        subst e
        exact Or.inr h2
theorem mm_nrm_or (A : List Int32) : mm_nrm A = A ∨ mm_nrm A = x_neg A := by
  unfold mm_nrm
  split
  · exact Or.inr rfl
  · exact Or.inl rfl
theorem w_P_iff (hG : w_G f11 f12 f13 f40 f41 n c) {A : List Int32} : A ∈ w_P f13 c ↔ ∃ i, i < n ∧ (A = w_rl f40 i ∨ A = x_neg (w_rl f40 i)) := by
  rw [w_P_mem]
  constructor
  · rintro ⟨j, hj, h⟩
    obtain ⟨i, hi, e⟩ := hG.2.2.2.1 j hj
    refine ⟨i, hi, ?_⟩
    rcases mm_nrm_or (w_rl f40 i) with h1 | h1 <;> rcases h with h | h <;> rw [e, h1] at h
    · exact Or.inl h
    · exact Or.inr h
    · exact Or.inr h
    · rw [mm_neg_neg] at h; exact Or.inl h
  · rintro ⟨i, hi, h⟩
    obtain ⟨j, hj, e⟩ := hG.2.2.2.2.1 i hi
    refine ⟨j, hj, ?_⟩
    rw [e]
    rcases mm_nrm_or (w_rl f40 i) with h1 | h1 <;> rcases h with h | h <;> rw [h1, h]
    · exact Or.inl rfl
    · exact Or.inr rfl
    · rw [mm_neg_neg]; exact Or.inr rfl
    · exact Or.inl rfl
theorem mm_nrm_det {M : List (List Int32)} (hM : M ∈ mm_Ms) {A : List Int32} (hA : A ∈ M) : mm_det (mm_nrm A) = 1 ∧ mm_det (x_neg (mm_nrm A)) = -1 := by
  obtain ⟨-, h1, -, -, h2, h3⟩ := (mm_M_f hM).2.2 A hA
  unfold mm_nrm
  rcases h2 with h2 | h2
  · rw [if_neg (by rw [h2]; decide), h3, h2]
    exact ⟨rfl, rfl⟩
  · rw [if_pos (by rw [h2]; decide), mm_neg_neg, h3, h2]
    exact ⟨rfl, rfl⟩
theorem w_Gr (hG : w_G f11 f12 f13 f40 f41 n c) (hn : 0 < n) : ∃ M, mm_Gr M (w_P f13 c) ∧ ∀ i, i < n → w_rl f40 i ∈ M := by
  obtain ⟨M, hM, h1, ⟨i0, hi0, e0⟩, h2⟩ := hG.2.2.1 hn
  have hneg : ∀ A ∈ M, x_neg A ∈ M := fun A hA => ((mm_M_f hM).2.2 A hA).2.1
  have hdet : ∀ j, j < c → mm_det (w_tl f13 j) = 1 ∧ mm_det (x_neg (w_tl f13 j)) = -1 := fun j hj => by
    obtain ⟨i, hi, e⟩ := hG.2.2.2.1 j hj
    rw [e]
    exact mm_nrm_det hM (h1 i hi)
  have hnd : ∀ m, m ≤ c → (w_P f13 m).Nodup := by
    intro m
    induction m with
    | zero => exact fun _ => List.nodup_nil
    | succ m ih =>
      intro hm
      show (w_P f13 m ++ _).Nodup
      have d1 := hdet m (by omega)
      refine List.nodup_append.mpr ⟨ih (by omega), ?_, fun a ha b hb => ?_⟩
      · rw [List.nodup_cons]
        refine ⟨fun z => ?_, by simp⟩
        have z := List.mem_singleton.mp z
        have := d1.1
        rw [z, d1.2] at this
        exact absurd this (by decide)
      · obtain ⟨j, hj, h3⟩ := w_P_mem.mp ha
        have d2 := hdet j (by omega)
        simp only [List.mem_cons, List.not_mem_nil, or_false] at hb
        intro z
        rcases h3 with h3 | h3 <;> rcases hb with hb | hb
        · have := hG.2.2.2.2.2 j m (by omega) (by omega) (by rw [← h3, z, hb])
          omega
        · have := d2.1
          rw [← h3, z, hb, d1.2] at this
          exact absurd this (by decide)
        · have := d2.2
          rw [← h3, z, hb, d1.1] at this
          exact absurd this (by decide)
        · have h9 : w_tl f13 j = w_tl f13 m := by
            rw [← mm_neg_neg (w_tl f13 j), ← h3, z, hb, mm_neg_neg]
          have := hG.2.2.2.2.2 j m (by omega) (by omega) h9
          omega
  refine ⟨M, ⟨hM, hnd c (Nat.le_refl c), fun A hA => ?_, ?_, fun A hA B hB => ?_⟩, h1⟩
  · obtain ⟨i, hi, h⟩ := (w_P_iff hG).mp hA
    rcases h with rfl | rfl
    · exact h1 i hi
    · exact hneg _ (h1 i hi)
  · exact (w_P_iff hG).mpr ⟨i0, hi0, Or.inl e0.symm⟩
  · obtain ⟨i, hi, h⟩ := (w_P_iff hG).mp hA
    obtain ⟨j, hj, h'⟩ := (w_P_iff hG).mp hB
    obtain ⟨k, hk, e⟩ := h2 i j hi hj
    refine (w_P_iff hG).mpr ⟨k, hk, ?_⟩
    rw [e]
    rcases h with rfl | rfl <;> rcases h' with rfl | rfl
    · exact Or.inl rfl
    · rw [mm_mul_neg]; exact Or.inr rfl
    · rw [mm_neg_mul]; exact Or.inr rfl
    · rw [mm_neg_mul, mm_mul_neg, mm_neg_neg]; exact Or.inl rfl
/-- all its images are small -/
def w_sm (f13 : Nat → Int32) (c : Nat) (v : mm_V) : Prop := ∀ A ∈ w_P f13 c, mm_sml (mm_va v A)
theorem w_sm_ix (hG : w_G f11 f12 f13 f40 f41 n c) (hn : 0 < n) {v : mm_V} (h : mm_ix v) : w_sm f13 c v := fun A hA => by
  obtain ⟨M, hM, -⟩ := w_Gr hG hn
  exact mm_va_sml h (mm_M_rng hM.1 A (hM.2.2.1 A hA))
theorem w_sm_va (hG : w_G f11 f12 f13 f40 f41 n c) (hn : 0 < n) {v : mm_V} (h : w_sm f13 c v) {B : List Int32} (hB : B ∈ w_P f13 c) : w_sm f13 c (mm_va v B) := fun A hA => by
  obtain ⟨M, hM, -⟩ := w_Gr hG hn
  rw [mm_va_mul]
  exact h _ (hM.2.2.2.2 B hB A hA)
theorem w_sm_own (hG : w_G f11 f12 f13 f40 f41 n c) (hn : 0 < n) {v : mm_V} (h : w_sm f13 c v) : mm_sml v := by
  obtain ⟨M, hM, -⟩ := w_Gr hG hn
  have := h _ hM.2.2.2.1
  rwa [mm_va_one] at this
/-! the greatest -/
theorem w_mx_le (x y : Int64) : x ≤ x_mx x y ∧ y ≤ x_mx x y ∧ (x_mx x y = x ∨ x_mx x y = y) := by
  unfold x_mx
  by_cases h : y < x
  · rw [if_pos h]
    exact ⟨Int64.le_iff_toInt_le.mpr (Int.le_refl _), Int64.le_iff_toInt_le.mpr (Int.le_of_lt (Int64.lt_iff_toInt_lt.mp h)), Or.inl rfl⟩
  · rw [if_neg h]
    exact ⟨Int64.not_lt.mp h, Int64.le_iff_toInt_le.mpr (Int.le_refl _), Or.inr rfl⟩
theorem w_mz_le (x y : Int32) : x ≤ z_mx x y ∧ y ≤ z_mx x y ∧ (z_mx x y = x ∨ z_mx x y = y) := by
  unfold z_mx
  by_cases h : x < y
  · rw [if_pos h]
    exact ⟨Int32.le_iff_toInt_le.mpr (Int.le_of_lt (Int32.lt_iff_toInt_lt.mp h)), Int32.le_iff_toInt_le.mpr (Int.le_refl _), Or.inr rfl⟩
  · rw [if_neg h]
    exact ⟨Int32.le_iff_toInt_le.mpr (Int.le_refl _), Int32.not_lt.mp h, Or.inl rfl⟩
theorem w_le_tr {x y z : Int64} (h : x ≤ y) (h2 : y ≤ z) : x ≤ z := Int64.le_iff_toInt_le.mpr (Int.le_trans (Int64.le_iff_toInt_le.mp h) (Int64.le_iff_toInt_le.mp h2))
theorem w_le_tz {x y z : Int32} (h : x ≤ y) (h2 : y ≤ z) : x ≤ z := Int32.le_iff_toInt_le.mpr (Int.le_trans (Int32.le_iff_toInt_le.mp h) (Int32.le_iff_toInt_le.mp h2))
theorem w_le_rx (x : Int64) : x ≤ x := Int64.le_iff_toInt_le.mpr (Int.le_refl _)
theorem w_le_rz (x : Int32) : x ≤ x := Int32.le_iff_toInt_le.mpr (Int.le_refl _)
theorem w_xgof (t : Nat → Int32) (h k l : Int32) : ∀ m, mm_kv (h, k, l) ≤ x_gof t h k l m ∧ (∀ j, j < m → mm_kv (mm_va (h, k, l) (w_rl t j)) ≤ x_gof t h k l m ∧ mm_kv (mm_va (h, k, l) (x_neg (w_rl t j))) ≤ x_gof t h k l m) ∧ (x_gof t h k l m = mm_kv (h, k, l) ∨ ∃ j, j < m ∧ (x_gof t h k l m = mm_kv (mm_va (h, k, l) (w_rl t j)) ∨ x_gof t h k l m = mm_kv (mm_va (h, k, l) (x_neg (w_rl t j)))))
  | 0 => ⟨w_le_rx _, fun j hj => absurd hj (Nat.not_lt_zero j), Or.inl rfl⟩
  | m + 1 => by
    obtain ⟨a1, a2, a3⟩ := w_xgof t h k l m
    have e : x_gof t h k l (m + 1) = x_mx (mm_kv (mm_va (h, k, l) (x_neg (w_rl t m)))) (x_mx (mm_kv (mm_va (h, k, l) (w_rl t m))) (x_gof t h k l m)) := by
      show x_mx (x_k2 t h k l m) (x_mx (x_k1 t h k l m) (x_gof t h k l m)) = _
      rw [w_k1, w_k2, mm_va_neg]
    rw [e]
    obtain ⟨b1, b2, b3⟩ := w_mx_le (mm_kv (mm_va (h, k, l) (w_rl t m))) (x_gof t h k l m)
    obtain ⟨c1, c2, c3⟩ := w_mx_le (mm_kv (mm_va (h, k, l) (x_neg (w_rl t m)))) (x_mx (mm_kv (mm_va (h, k, l) (w_rl t m))) (x_gof t h k l m))
    have up := w_le_tr b2 c2
    refine ⟨w_le_tr a1 up, fun j hj => ?_, ?_⟩
    · rcases Nat.lt_or_ge j m with h1 | h1
      · exact ⟨w_le_tr (a2 j h1).1 up, w_le_tr (a2 j h1).2 up⟩
      · have e9 : j = m := by omega
        subst e9
        exact ⟨w_le_tr b1 c2, c1⟩
    · rcases c3 with c3 | c3
      · exact Or.inr ⟨m, by omega, Or.inr c3⟩
      · rw [c3]
        rcases b3 with b3 | b3
        · exact Or.inr ⟨m, by omega, Or.inl b3⟩
        · rw [b3]
          rcases a3 with a3 | ⟨j, hj, a3⟩
          · exact Or.inl a3
          · exact Or.inr ⟨j, by omega, a3⟩
theorem w_zgof (t : Nat → Int32) (h k l : Int32) : ∀ m, mm_pk (h, k, l) ≤ z_gof t h k l m ∧ (∀ j, j < m → mm_pk (mm_va (h, k, l) (w_tl t j)) ≤ z_gof t h k l m ∧ mm_pk (mm_va (h, k, l) (x_neg (w_tl t j))) ≤ z_gof t h k l m) ∧ (z_gof t h k l m = mm_pk (h, k, l) ∨ ∃ j, j < m ∧ (z_gof t h k l m = mm_pk (mm_va (h, k, l) (w_tl t j)) ∨ z_gof t h k l m = mm_pk (mm_va (h, k, l) (x_neg (w_tl t j)))))
  | 0 => ⟨w_le_rz _, fun j hj => absurd hj (Nat.not_lt_zero j), Or.inl rfl⟩
  | m + 1 => by
    obtain ⟨a1, a2, a3⟩ := w_zgof t h k l m
    have e : z_gof t h k l (m + 1) = z_mx (z_gof t h k l m) (z_mx (mm_pk (mm_va (h, k, l) (w_tl t m))) (mm_pk (mm_va (h, k, l) (x_neg (w_tl t m))))) := by
      show z_mx (z_gof t h k l m) (z_mx (z_tu t h k l m) (z_opp (z_tu t h k l m))) = _
      rw [w_tu, mm_opp, mm_va_neg]
    rw [e]
    obtain ⟨b1, b2, b3⟩ := w_mz_le (mm_pk (mm_va (h, k, l) (w_tl t m))) (mm_pk (mm_va (h, k, l) (x_neg (w_tl t m))))
    obtain ⟨c1, c2, c3⟩ := w_mz_le (z_gof t h k l m) (z_mx (mm_pk (mm_va (h, k, l) (w_tl t m))) (mm_pk (mm_va (h, k, l) (x_neg (w_tl t m)))))
    refine ⟨w_le_tz a1 c1, fun j hj => ?_, ?_⟩
    · rcases Nat.lt_or_ge j m with h1 | h1
      · exact ⟨w_le_tz (a2 j h1).1 c1, w_le_tz (a2 j h1).2 c1⟩
      · have e9 : j = m := by omega
        subst e9
        exact ⟨w_le_tz b1 c2, w_le_tz b2 c2⟩
    · rcases c3 with c3 | c3
      · rw [c3]
        rcases a3 with a3 | ⟨j, hj, a3⟩
        · exact Or.inl a3
        · exact Or.inr ⟨j, by omega, a3⟩
      · rw [c3]
        rcases b3 with b3 | b3
        · exact Or.inr ⟨m, by omega, Or.inl b3⟩
        · exact Or.inr ⟨m, by omega, Or.inr b3⟩
/-- the greatest image: one vector for both -/
theorem w_great (hG : w_G f11 f12 f13 f40 f41 n c) (hn : 0 < n) {h k l : Int32} (hs : w_sm f13 c (h, k, l)) : ∃ B, B ∈ w_P f13 c ∧ z_gof f13 h k l c = mm_pk (mm_va (h, k, l) B) ∧ x_gof f40 h k l n = mm_kv (mm_va (h, k, l) B) ∧ ∀ A ∈ w_P f13 c, mm_pk (mm_va (h, k, l) A) ≤ z_gof f13 h k l c := by
  obtain ⟨M, hM, -⟩ := w_Gr hG hn
  have hone := hM.2.2.2.1
  have eone : mm_va (h, k, l) x_one = (h, k, l) := mm_va_one _
  obtain ⟨z1, z2, z3⟩ := w_zgof f13 h k l c
  obtain ⟨x1, x2, x3⟩ := w_xgof f40 h k l n
  have zall : ∀ A ∈ w_P f13 c, mm_pk (mm_va (h, k, l) A) ≤ z_gof f13 h k l c := fun A hA => by
    obtain ⟨j, hj, e⟩ := w_P_mem.mp hA
    rcases e with rfl | rfl
    · exact (z2 j hj).1
    · exact (z2 j hj).2
  have xall : ∀ A ∈ w_P f13 c, mm_kv (mm_va (h, k, l) A) ≤ x_gof f40 h k l n := fun A hA => by
    obtain ⟨j, hj, e⟩ := (w_P_iff hG).mp hA
    rcases e with rfl | rfl
    · exact (x2 j hj).1
    · exact (x2 j hj).2
  have zex : ∃ B, B ∈ w_P f13 c ∧ z_gof f13 h k l c = mm_pk (mm_va (h, k, l) B) := by
    rcases z3 with z3 | ⟨j, hj, z3 | z3⟩
    · exact ⟨x_one, hone, by rw [eone]; exact z3⟩
    · exact ⟨_, w_P_mem.mpr ⟨j, hj, Or.inl rfl⟩, z3⟩
    · exact ⟨_, w_P_mem.mpr ⟨j, hj, Or.inr rfl⟩, z3⟩
  have xex : ∃ B, B ∈ w_P f13 c ∧ x_gof f40 h k l n = mm_kv (mm_va (h, k, l) B) := by
    rcases x3 with x3 | ⟨j, hj, x3 | x3⟩
    · exact ⟨x_one, hone, by rw [eone]; exact x3⟩
    · exact ⟨_, (w_P_iff hG).mpr ⟨j, hj, Or.inl rfl⟩, x3⟩
    · exact ⟨_, (w_P_iff hG).mpr ⟨j, hj, Or.inr rfl⟩, x3⟩
  obtain ⟨B, hB, eB⟩ := zex
  obtain ⟨C, hC, eC⟩ := xex
  refine ⟨B, hB, eB, ?_, zall⟩
  have h1 := zall C hC
  have h2 := xall B hB
  rw [eB] at h1
  rw [eC] at h2
  have h3 : ¬ mm_kv (mm_va (h, k, l) B) < mm_kv (mm_va (h, k, l) C) := fun z => by
    have := (mm_pk_lt (hs B hB) (hs C hC)).mpr z
    exact Int32.not_lt.mpr h1 this
  have h4 : mm_kv (mm_va (h, k, l) B) = mm_kv (mm_va (h, k, l) C) := by
    apply Int64.toInt_inj.mp
    have a1 := Int64.le_iff_toInt_le.mp h2
    have a2 := Int64.le_iff_toInt_le.mp (Int64.not_lt.mp h3)
    omega
  rw [eC, h4]
theorem w_isg (hG : w_G f11 f12 f13 f40 f41 n c) (hn : 0 < n) {h k l : Int32} (hs : w_sm f13 c (h, k, l)) : z_isg f13 c h k l = decide (x_gof f40 h k l n = x_key h k l) := by
  obtain ⟨B, hB, eB, eC, zall⟩ := w_great hG hn hs
  have hv := w_sm_own hG hn hs
  obtain ⟨z1, -, -⟩ := w_zgof f13 h k l c
  have key : x_gof f40 h k l n = x_key h k l ↔ z_gof f13 h k l c = mm_pk (h, k, l) := by
    rw [eB, eC]
    constructor
    · intro z
      rw [mm_kv_inj (hs B hB) hv z]
    · intro z
      rw [mm_pk_inj (hs B hB) hv z]
      rfl
  rw [Bool.eq_iff_iff, decide_eq_true_eq, key]
  unfold z_isg
  rw [Bool.not_eq_true', ← Bool.not_eq_true, w_any]
  constructor
  · intro z
    rw [eB]
    apply Int32.toInt_inj.mp
    rw [eB] at z1
    have a1 := Int32.le_iff_toInt_le.mp z1
    have a2 : ¬ mm_pk (h, k, l) < mm_pk (mm_va (h, k, l) B) := fun y => by
      obtain ⟨j, hj, e⟩ := w_P_mem.mp hB
      refine z ⟨j, Nat.zero_le j, by omega, ?_⟩
      rcases e with rfl | rfl
      · exact z_igt (Or.inl y)
      · refine z_igt (Or.inr ?_)
        rw [w_tu, mm_opp, ← mm_va_neg]
        exact y
    have a3 := Int32.le_iff_toInt_le.mp (Int32.not_lt.mp a2)
    omega
  · rintro z ⟨j, -, hj, hp⟩
    have q1 := zall _ (w_P_mem.mpr ⟨j, by omega, Or.inl rfl⟩)
    have q2 := zall _ (w_P_mem.mpr ⟨j, by omega, Or.inr rfl⟩)
    rw [z] at q1 q2
    have hf : z_ig1 f13 h k l j = false := z_igf (Int32.not_lt.mpr q1) (by rw [w_tu, mm_opp, ← mm_va_neg]; exact Int32.not_lt.mpr q2)
    rw [hf] at hp
    cases hp
/-! how many -/
theorem w_addu {Es : List Int64} {x : Int64} (h : Es.Nodup) : (x_addu Es x).Nodup ∧ ∀ b, b ∈ x_addu Es x ↔ b ∈ Es ∨ b = x := by
  unfold x_addu
  by_cases e : x ∈ Es
  · rw [if_pos e]
    refine ⟨h, fun b => ⟨Or.inl, ?_⟩⟩
    rintro (z | rfl)
    · exact z
    · exact e
  · rw [if_neg e]
    refine ⟨List.nodup_append.mpr ⟨h, by simp, fun a ha b hb => by rw [List.mem_singleton.mp hb]; exact fun z => e (z ▸ ha)⟩, fun b => ?_⟩
    rw [List.mem_append, List.mem_singleton]
theorem w_eqf (t : Nat → Int32) (h k l : Int32) : ∀ m, (x_eqf t h k l m).Nodup ∧ ∀ b, b ∈ x_eqf t h k l m ↔ ∃ j, j < m ∧ (b = mm_kv (mm_va (h, k, l) (w_rl t j)) ∨ b = mm_kv (mm_va (h, k, l) (x_neg (w_rl t j))))
  | 0 => ⟨List.nodup_nil, fun b => ⟨fun h => absurd h List.not_mem_nil, fun ⟨j, h, _⟩ => absurd h (Nat.not_lt_zero j)⟩⟩
  | m + 1 => by
    obtain ⟨a1, a2⟩ := w_eqf t h k l m
    obtain ⟨b1, b2⟩ := w_addu (x := x_k1 t h k l m) a1
    obtain ⟨c1, c2⟩ := w_addu (x := x_k2 t h k l m) b1
    refine ⟨c1, fun b => ?_⟩
    show b ∈ x_addu (x_addu (x_eqf t h k l m) (x_k1 t h k l m)) (x_k2 t h k l m) ↔ _
    rw [c2, b2, a2, w_k1, w_k2, ← mm_va_neg]
    constructor
    · rintro ((⟨j, h1, h2⟩ | h1) | h1)
      · exact ⟨j, by omega, h2⟩
      · exact ⟨m, by omega, Or.inl h1⟩
      · exact ⟨m, by omega, Or.inr h1⟩
    · rintro ⟨j, h1, h2⟩
      rcases Nat.lt_or_ge j m with h3 | h3
      · exact Or.inl (Or.inl ⟨j, h3, h2⟩)
      · have e : j = m := by omega
        subst e
        rcases h2 with h2 | h2
        · exact Or.inl (Or.inr h2)
        · exact Or.inr h2
theorem w_st {f13 : Nat → Int32} {h k l : Int32} (hv : mm_sml (h, k, l)) : ∀ m, (∀ A ∈ w_P f13 m, mm_sml (mm_va (h, k, l) A)) → z_st f13 h k l m = (w_P f13 m).countP (fun A => decide (mm_va (h, k, l) A = (h, k, l)))
  | 0, _ => rfl
  | m + 1, hs => by
    have ih := w_st (f13 := f13) hv m (fun A hA => hs A (List.mem_append_left _ hA))
    rw [z_st_s, ih]
    show _ = (w_P f13 m ++ [w_tl f13 m, x_neg (w_tl f13 m)]).countP _
    rw [List.countP_append]
    have q1 := hs _ (w_P_mem.mpr ⟨m, by omega, Or.inl rfl⟩)
    have q2 := hs _ (w_P_mem.mpr ⟨m, by omega, Or.inr rfl⟩)
    have e1 : z_tu f13 h k l m = z_pack h k l ↔ mm_va (h, k, l) (w_tl f13 m) = (h, k, l) := by
      rw [w_tu]
      exact ⟨fun z => mm_pk_inj q1 hv z, fun z => by rw [z]; rfl⟩
    have e2 : z_opp (z_tu f13 h k l m) = z_pack h k l ↔ mm_va (h, k, l) (x_neg (w_tl f13 m)) = (h, k, l) := by
      rw [w_tu, mm_opp, ← mm_va_neg]
      exact ⟨fun z => mm_pk_inj q2 hv z, fun z => by rw [z]; rfl⟩
    rw [List.countP_cons, List.countP_cons, List.countP_nil]
    by_cases g1 : mm_va (h, k, l) (w_tl f13 m) = (h, k, l) <;> by_cases g2 : mm_va (h, k, l) (x_neg (w_tl f13 m)) = (h, k, l)
    · rw [if_pos (e1.mpr g1), if_pos (e2.mpr g2)]; simp [g1, g2]
    · rw [if_pos (e1.mpr g1), if_neg (fun z => g2 (e2.mp z))]; simp [g1, g2]
    · rw [if_neg (fun z => g1 (e1.mp z)), if_pos (e2.mpr g2)]; simp [g1, g2]
    · rw [if_neg (fun z => g1 (e1.mp z)), if_neg (fun z => g2 (e2.mp z))]; simp [g1, g2]
theorem w_mult (hG : w_G f11 f12 f13 f40 f41 n c) (hn : 0 < n) {h k l : Int32} (hs : w_sm f13 c (h, k, l)) : z_mul f13 c h k l = (x_eqf f40 h k l n).length := by
  obtain ⟨M, hM, -⟩ := w_Gr hG hn
  have hv := w_sm_own hG hn hs
  obtain ⟨d1, d2⟩ := w_eqf f40 h k l n
  obtain ⟨o1, o2⟩ := mm_orbit hM (h, k, l) mm_kv (fun A hA B hB z => mm_kv_inj (hs A hA) (hs B hB) z) d1 (fun b => by
    rw [d2]
    constructor
    · rintro ⟨j, hj, e | e⟩
      · exact ⟨_, (w_P_iff hG).mpr ⟨j, hj, Or.inl rfl⟩, e.symm⟩
      · exact ⟨_, (w_P_iff hG).mpr ⟨j, hj, Or.inr rfl⟩, e.symm⟩
    · rintro ⟨A, hA, e⟩
      obtain ⟨j, hj, h9⟩ := (w_P_iff hG).mp hA
      refine ⟨j, hj, ?_⟩
      rcases h9 with rfl | rfl
      · exact Or.inl e.symm
      · exact Or.inr e.symm)
  rw [← w_st hv c hs] at o1 o2
  rw [w_P_len] at o1
  unfold z_mul
  rw [if_neg (by omega), o1, Nat.mul_div_cancel _ o2]
/-! the class of Laue -/
theorem w_lcnt (t : Nat → Int32) {α : Type} [DecidableEq α] (F : Nat → α) : ∀ m, (∀ i j, i < m → j < i → (x_same t i j = true ↔ F i = F j)) → ∃ D : List α, D.Nodup ∧ (∀ b, b ∈ D ↔ ∃ i, i < m ∧ F i = b) ∧ x_lcnt t m = D.length
  | 0, _ => ⟨[], List.nodup_nil, fun b => ⟨fun h => absurd h List.not_mem_nil, fun ⟨j, h, _⟩ => absurd h (Nat.not_lt_zero j)⟩, rfl⟩
  | m + 1, hF => by
    obtain ⟨D, h1, h2, h3⟩ := w_lcnt t F m (fun i j hi hj => hF i j (by omega) hj)
    have hin : x_allb (fun j => !x_same t m j) m = true ↔ F m ∉ D := by
      rw [w_allb, h2]
      constructor
      · rintro z ⟨i, hi, e⟩
        have h4 := z i hi
        rw [(hF m i (by omega) hi).mpr e.symm] at h4
        cases h4
      · intro z k hk
        rw [Bool.not_eq_true']
        refine Bool.eq_false_iff.mpr fun y => z ⟨k, hk, ((hF m k (by omega) hk).mp y).symm⟩
    unfold x_lcnt
    by_cases e : F m ∈ D
    · rw [if_neg (fun z => hin.mp z e)]
      refine ⟨D, h1, fun b => ?_, h3⟩
      rw [h2]
      constructor
      · rintro ⟨i, hi, e1⟩
        exact ⟨i, by omega, e1⟩
      · rintro ⟨i, hi, e1⟩
        rcases Nat.lt_or_ge i m with h4 | h4
        · exact ⟨i, h4, e1⟩
        · have e2 : i = m := by omega
          subst e2
          rw [← e1]
          exact (h2 _).mp e
    · rw [if_pos (hin.mpr e)]
      refine ⟨D ++ [F m], List.nodup_append.mpr ⟨h1, by simp, fun a ha b hb => by rw [List.mem_singleton.mp hb]; exact fun z => e (z ▸ ha)⟩, fun b => ?_, by rw [List.length_append, h3]; rfl⟩
      rw [List.mem_append, List.mem_singleton, h2]
      constructor
      · rintro (⟨i, hi, e1⟩ | e1)
        · exact ⟨i, by omega, e1⟩
        · exact ⟨m, by omega, e1.symm⟩
      · rintro ⟨i, hi, e1⟩
        rcases Nat.lt_or_ge i m with h4 | h4
        · exact Or.inl ⟨i, h4, e1⟩
        · have e2 : i = m := by omega
          subst e2
          exact Or.inr e1.symm
theorem w_xdet (t : Nat → Int32) (i : Nat) : x_det t i = mm_det (w_rl t i) := by
  have h := mm_det_of (f := t) (a := 9 * i) (A := w_rl t i) (fun m hm => (w_rl_at t i hm).symm)
  rw [← h]
  rfl
theorem w_same {M : List (List Int32)} (hM : M ∈ mm_Ms) {t : Nat → Int32} {i j : Nat} (hi : w_rl t i ∈ M) (hj : w_rl t j ∈ M) : x_same t i j = true ↔ mm_nrm (w_rl t i) = mm_nrm (w_rl t j) := by
  obtain ⟨-, -, -, -, d1, -⟩ := (mm_M_f hM).2.2 _ hi
  obtain ⟨-, -, -, -, d2, -⟩ := (mm_M_f hM).2.2 _ hj
  unfold x_same
  rw [w_allb, w_xdet, w_xdet]
  have pos : ∀ A : List Int32, mm_det A = 1 → mm_nrm A = A := fun A h => by unfold mm_nrm; rw [if_neg (by rw [h]; decide)]
  have ngt : ∀ A : List Int32, mm_det A = -1 → mm_nrm A = x_neg A := fun A h => by unfold mm_nrm; rw [if_pos (by rw [h]; decide)]
  have same : (∀ k, k < 9 → t (9 * i + k) = t (9 * j + k)) ↔ w_rl t i = w_rl t j := by
    constructor
    · exact fun z => mm_ext (n := 9) rfl rfl fun m hm => by rw [w_rl_at t i hm, w_rl_at t j hm, z m hm]
    · exact fun z k hk => by rw [← w_rl_at t i hk, ← w_rl_at t j hk, z]
  have diff : (∀ k, k < 9 → t (9 * i + k) = -(t (9 * j + k))) ↔ w_rl t i = x_neg (w_rl t j) := by
    constructor
    · exact fun z => mm_ext (n := 9) rfl rfl fun m hm => by rw [w_rl_at t i hm, mm_gneg, w_rl_at t j hm, z m hm]
    · exact fun z k hk => by rw [← w_rl_at t i hk, z, mm_gneg, w_rl_at t j hk]
  rcases d1 with d1 | d1 <;> rcases d2 with d2 | d2 <;> rw [d1, d2]
  · rw [pos _ d1, pos _ d2, ← same]
    refine ⟨fun z k hk => ?_, fun z k hk => ?_⟩
    · have := of_decide_eq_true (z k hk); rwa [show (1 : Int32) * 1 = 1 from rfl, Int32.one_mul] at this
    · refine decide_eq_true ?_; rw [show (1 : Int32) * 1 = 1 from rfl, Int32.one_mul]; exact z k hk
  · rw [pos _ d1, ngt _ d2, ← diff]
    refine ⟨fun z k hk => ?_, fun z k hk => ?_⟩
    · have := of_decide_eq_true (z k hk); rwa [show (1 : Int32) * -1 = -1 from rfl, Int32.neg_mul, Int32.one_mul] at this
    · refine decide_eq_true ?_; rw [show (1 : Int32) * -1 = -1 from rfl, Int32.neg_mul, Int32.one_mul]; exact z k hk
  · have e9 : x_neg (w_rl t i) = w_rl t j ↔ w_rl t i = x_neg (w_rl t j) := ⟨fun z => by rw [← z, mm_neg_neg], fun z => by rw [z, mm_neg_neg]⟩
    rw [ngt _ d1, pos _ d2, e9, ← diff]
    refine ⟨fun z k hk => ?_, fun z k hk => ?_⟩
    · have := of_decide_eq_true (z k hk); rwa [show (-1 : Int32) * 1 = -1 from rfl, Int32.neg_mul, Int32.one_mul] at this
    · refine decide_eq_true ?_; rw [show (-1 : Int32) * 1 = -1 from rfl, Int32.neg_mul, Int32.one_mul]; exact z k hk
  · have e9 : x_neg (w_rl t i) = x_neg (w_rl t j) ↔ w_rl t i = w_rl t j := ⟨fun z => by rw [← mm_neg_neg (w_rl t i), z, mm_neg_neg], fun z => by rw [z]⟩
    rw [ngt _ d1, ngt _ d2, e9, ← same]
    refine ⟨fun z k hk => ?_, fun z k hk => ?_⟩
    · have := of_decide_eq_true (z k hk); rwa [show (-1 : Int32) * -1 = 1 from rfl, Int32.one_mul] at this
    · refine decide_eq_true ?_; rw [show (-1 : Int32) * -1 = 1 from rfl, Int32.one_mul]; exact z k hk
theorem w_lc (hG : w_G f11 f12 f13 f40 f41 n c) (hn : 0 < n) : x_lcnt f40 n = c := by
  obtain ⟨M, hM, h1⟩ := w_Gr hG hn
  obtain ⟨D, d1, d2, d3⟩ := w_lcnt f40 (fun i => mm_nrm (w_rl f40 i)) n (fun i j hi hj => w_same hM.1 (h1 i hi) (h1 j (by omega)))
  have hp : D.Perm ((List.range c).map (w_tl f13)) := by
    refine (List.perm_ext_iff_of_nodup d1 ?_).mpr fun b => ?_
    · rw [List.Nodup, List.pairwise_map]
      refine List.Pairwise.imp_of_mem ?_ List.pairwise_lt_range
      intro a b ha hb hab z
      have := hG.2.2.2.2.2 a b (List.mem_range.mp ha) (List.mem_range.mp hb) z
      omega
    · rw [d2, List.mem_map]
      constructor
      · rintro ⟨i, hi, e⟩
        obtain ⟨j, hj, e1⟩ := hG.2.2.2.2.1 i hi
        exact ⟨j, List.mem_range.mpr hj, by rw [e1, e]⟩
      · rintro ⟨j, hj, e⟩
        obtain ⟨i, hi, e1⟩ := hG.2.2.2.1 j (List.mem_range.mp hj)
        exact ⟨i, hi, by rw [← e1, e]⟩
  rw [d3, hp.length_eq, List.length_map, List.length_range]
theorem w_ltr (t : Nat → Int32) (v : Nat) : ∀ m, x_ltr t v m = true ↔ ∃ i, i < m ∧ x_trc t i = nI v
  | 0 => ⟨fun h => (by cases h), fun ⟨j, h, _⟩ => absurd h (Nat.not_lt_zero j)⟩
  | m + 1 => by
    show (x_ltr t v m || decide (x_trc t m = nI v)) = true ↔ _
    rw [Bool.or_eq_true, w_ltr t v m, decide_eq_true_eq]
    constructor
    · rintro (⟨i, h1, h2⟩ | h1)
      · exact ⟨i, by omega, h2⟩
      · exact ⟨m, by omega, h1⟩
    · rintro ⟨i, h1, h2⟩
      rcases Nat.lt_or_ge i m with h3 | h3
      · exact Or.inl ⟨i, h3, h2⟩
      · have e : i = m := by omega
        subst e
        exact Or.inr h2
def mm_trc (A : List Int32) : Int32 := A.getD 0 0 + A.getD 4 0 + A.getD 8 0
theorem w_trc {M : List (List Int32)} (hM : M ∈ mm_Ms) {t : Nat → Int32} {i : Nat} (hi : w_rl t i ∈ M) : x_trc t i = mm_trc (mm_nrm (w_rl t i)) := by
  obtain ⟨-, -, -, -, d1, -⟩ := (mm_M_f hM).2.2 _ hi
  have e : x_trc t i = mm_det (w_rl t i) * mm_trc (w_rl t i) := by
    unfold x_trc
    rw [w_xdet]
    rfl
  rw [e]
  rcases d1 with d1 | d1
  · rw [d1, Int32.one_mul]
    unfold mm_nrm
    rw [if_neg (by rw [d1]; decide)]
  · rw [d1, Int32.neg_mul, Int32.one_mul]
    unfold mm_nrm
    rw [if_pos (by rw [d1]; decide)]
    unfold mm_trc
    rw [mm_gneg, mm_gneg, mm_gneg, Int32.neg_add, Int32.neg_add, Int32.sub_eq_add_neg, Int32.sub_eq_add_neg]
theorem w_hast (hG : w_G f11 f12 f13 f40 f41 n c) (hn : 0 < n) (v : Nat) : z_hast f13 c (nI v) = x_ltr f40 v n := by
  obtain ⟨M, hM, h1⟩ := w_Gr hG hn
  rw [Bool.eq_iff_iff, w_ltr]
  unfold z_hast
  rw [w_any]
  have tj : ∀ j, z_tr1 f13 (nI v) j = true ↔ mm_trc (w_tl f13 j) = nI v := fun j => by
    unfold z_tr1
    rw [decide_eq_true_eq]
    exact Iff.rfl
  constructor
  · rintro ⟨j, -, hj, e⟩
    obtain ⟨i, hi, e1⟩ := hG.2.2.2.1 j (by omega)
    exact ⟨i, hi, by rw [w_trc hM.1 (h1 i hi), ← e1]; exact (tj j).mp e⟩
  · rintro ⟨i, hi, e⟩
    obtain ⟨j, hj, e1⟩ := hG.2.2.2.2.1 i hi
    exact ⟨j, Nat.zero_le j, by omega, (tj j).mpr (by rw [e1, ← w_trc hM.1 (h1 i hi)]; exact e)⟩
theorem w_div : ∀ c, c ≤ 24 → c ∣ 24 → c = 1 ∨ c = 2 ∨ c = 3 ∨ c = 4 ∨ c = 6 ∨ c = 8 ∨ c = 12 ∨ c = 24 := by decide +kernel
theorem w_laue (hG : w_G f11 f12 f13 f40 f41 n c) (hn : 0 < n) : z_laue f13 c = x_lau (x_lcnt f40 n) (x_ltr f40 1 n) (x_ltr f40 2 n) := by
  obtain ⟨M, hM, h1⟩ := w_Gr hG hn
  have hc : c ∣ 24 := by
    obtain ⟨q, hq⟩ := mm_lagrange hM
    rw [w_P_len] at hq
    rcases (mm_M_f hM.1).1 with h2 | h2
    · rw [h2] at hq
      exact ⟨q, by rw [Nat.mul_comm]; have : q * (2 * c) = 2 * (q * c) := by rw [Nat.mul_left_comm]
                   omega⟩
    · rw [h2] at hq
      exact ⟨2 * q, by rw [Nat.mul_comm c, Nat.mul_assoc]; have : q * (2 * c) = 2 * (q * c) := by rw [Nat.mul_left_comm]
                       omega⟩
  rw [w_lc hG hn, ← w_hast hG hn, ← w_hast hG hn]
  unfold z_laue x_lau
  rcases w_div c (Nat.le_of_dvd (by decide) hc) hc with rfl | rfl | rfl | rfl | rfl | rfl | rfl | rfl <;> simp
end WQ
