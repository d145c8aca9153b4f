/-! ===== the class's rows ===== -/
def z_K (P : Nat → Nat) (p : Nat) : Int64 := lN (P p / 4096)
def z_V (f17 : Nat → Int32) (P : Nat → Nat) (p : Nat) : Int64 := (f17 (P p % 4096)).toInt64
def z_f (f23 : Nat → Int32) : Nat → Int64 := fun r => (f23 r).toInt64
theorem z_K_lt {P : Nat → Nat} {a b : Nat} (ha : P a < 2 ^ 43) (hb : P b < 2 ^ 43) : z_K P a < z_K P b ↔ P a / 4096 < P b / 4096 := z_llt (by omega) (by omega)
theorem z_f_is {f23 : Nat → Int32} {r q : Nat} (h : f23 r = nI q) (hq : q < 2 ^ 31) : z_f f23 r = lN q := by
  unfold z_f
  rw [h, nI_l hq]
theorem z_ins_f {f23 : Nat → Int32} {n q : Nat} (hq : q < 2 ^ 31) : z_f (upd f23 n (nI q)) = x_ins (z_f f23) n n (lN q) := by
  funext j
  unfold z_f x_ins
  by_cases e : j = n
  · subst e
    rw [pk_us, if_neg (Nat.lt_irrefl j), if_pos rfl, nI_l hq]
  · rw [pk_un e]
    by_cases h : j < n
    · rw [if_pos h]
    · rw [if_neg h, if_neg e, if_neg (by omega)]
theorem z_ins_i {f : Nat → Int32} {n : Nat} {v : Int32} : upd f n v = x_ins f n n v := by
  funext j
  unfold x_ins
  by_cases e : j = n
  · subst e
    rw [pk_us, if_neg (Nat.lt_irrefl j), if_pos rfl]
  · rw [pk_un e]
    by_cases h : j < n
    · rw [if_pos h]
    · rw [if_neg h, if_neg e, if_neg (by omega)]
theorem z_ins_l {f : Nat → Int64} {n : Nat} {v : Int64} : vp_updL f n v = x_ins f n n v := by
  funext j
  unfold x_ins
  by_cases e : j = n
  · subst e
    rw [pk_uLs, if_neg (Nat.lt_irrefl j), if_pos rfl]
  · rw [pk_uLn e]
    by_cases h : j < n
    · rw [if_pos h]
    · rw [if_neg h, if_neg e, if_neg (by omega)]
def z_m1 (σ : x_S) (c : Nat) (q : Int32) : Int32 := nI (z_mul (σ.1 13) c (z_part q 0) (z_part q 1) (z_part q 2))
def z_m2 (σ : x_S) (n : Nat) (q : Int32) : Int32 := x_z (z_abs (σ.1 12) n (z_part q 0) (z_part q 1) (z_part q 2))
/-- what stands beside the sums -/
def z_g2 (σ : x_S) (c ng n : Nat) (f23 f25 f26 : Nat → Int32) (f28 : Nat → Int64) : Prop := ∀ r, r < n → f25 r = z_m1 σ c (f23 r) ∧ f26 r = z_m2 σ ng (f23 r) ∧ f28 r = 0
theorem z_g2_s {σ : x_S} {c ng n : Nat} {f23 f25 f26 : Nat → Int32} {f28 : Nat → Int64} {q : Int32} (h : z_g2 σ c ng n f23 f25 f26 f28) : z_g2 σ c ng (n + 1) (upd f23 n q) (upd f25 n (z_m1 σ c q)) (upd f26 n (z_m2 σ ng q)) (vp_updL f28 n 0) := fun r hr => by
  by_cases e : r = n
  · subst e
    rw [pk_us, pk_us, pk_us, pk_uLs]
    exact ⟨rfl, rfl, rfl⟩
  · rw [pk_un e, pk_un e, pk_un e, pk_uLn e]
    exact h r (by omega)
/-- the rows' own keys -/
def z_rq (P : Nat → Nat) (i n : Nat) (f23 : Nat → Int32) : Prop := (∀ r, r < n → ∃ j, j < i ∧ f23 r = nI (P j / 4096)) ∧ (i = 0 → n = 0) ∧ (0 < i → 0 < n ∧ f23 (n - 1) = nI (P (i - 1) / 4096))
/-- a new row: its kind is beyond all before -/
theorem z_gt {P : Nat → Nat} {g : Nat → Int64} {N i n : Nat} {f23 : Nat → Int32} (hl : z_lh g P N) (hs : z_sl P N) (hi : i < N) (hq : z_rq P i n f23) (hne : i = 0 ∨ ¬ P i / 4096 = P (i - 1) / 4096) : ∀ r, r < n → z_f f23 r < z_K P i := fun r hr => by
  obtain ⟨j, hj, e⟩ := hq.1 r hr
  have h1 := (hl j (by omega)).2
  have h2 := (hl i hi).2
  have h3 : P j / 4096 < P i / 4096 := by
    have h4 := hs (i - 1) i (by omega) hi
    have h5 : P j ≤ P (i - 1) := by
      by_cases e2 : j = i - 1
      · rw [e2]; exact Nat.le_refl _
      · exact hs j (i - 1) (by omega) (by omega)
    have h6 : P j / 4096 ≤ P (i - 1) / 4096 := Nat.div_le_div_right h5
    have h7 : P (i - 1) / 4096 ≤ P i / 4096 := Nat.div_le_div_right h4
    omega
  rw [z_f_is e (by omega)]
  exact (z_llt (by omega) (by omega)).mpr h3
theorem z_rj_new {P : Nat → Nat} {f17 : Nat → Int32} {i n q : Nat} {f23 f24 : Nat → Int32} {f27 : Nat → Int64} (h : x_ro (z_K P) (z_V f17 P) i n (z_f f23) f24 f27) (hq : P i / 4096 = q) (hq9 : q < 2 ^ 31) (hlo : ∀ r, r < n → z_f f23 r < z_K P i) : x_rj (z_K P) (z_V f17 P) i (n + 1) (z_f (upd f23 n (nI q))) (upd f24 n (nI 0)) (vp_updL f27 n 0) (n + 1 - 1) := by
  rw [z_ins_f hq9, z_ins_i, z_ins_l, Nat.add_sub_cancel]
  have e : lN q = z_K P i := by unfold z_K; rw [hq]
  rw [e]
  exact x_ro_new h (Nat.le_refl n) hlo (fun j h1 h2 => absurd h2 (by omega)) (Or.inl rfl)
theorem z_rq_old {P : Nat → Nat} {i n : Nat} {f23 : Nat → Int32} (h : z_rq P i n f23) (hi : 0 < i) (he : P i / 4096 = P (i - 1) / 4096) : z_rq P (i + 1) n f23 := by
  obtain ⟨h1, h2, h3⟩ := h
  refine ⟨fun r hr => ?_, fun z => absurd z (by omega), fun _ => ?_⟩
  · obtain ⟨j, hj, e⟩ := h1 r hr
    exact ⟨j, by omega, e⟩
  · rw [Nat.add_sub_cancel, he]
    exact h3 hi
theorem z_rq_new {P : Nat → Nat} {i n q : Nat} {f23 : Nat → Int32} (h : z_rq P i n f23) (hq : P i / 4096 = q) : z_rq P (i + 1) (n + 1) (upd f23 n (nI q)) := by
  obtain ⟨h1, h2, h3⟩ := h
  refine ⟨fun r hr => ?_, fun z => absurd z (by omega), fun _ => ⟨by omega, ?_⟩⟩
  · by_cases e : r = n
    · subst e
      exact ⟨i, by omega, by rw [pk_us, hq]⟩
    · obtain ⟨j, hj, e2⟩ := h1 r (by omega)
      exact ⟨j, by omega, by rw [pk_un e]; exact e2⟩
  · rw [Nat.add_sub_cancel, Nat.add_sub_cancel, pk_us, hq]
/-! spreads -/
/-- the row of the position before i is rr - 1 -/
def z_rr (P : Nat → Nat) (i n rr : Nat) (f23 : Nat → Int32) : Prop := rr ≤ n ∧ (i = 0 → rr = 0) ∧ (0 < i → 0 < rr ∧ f23 (rr - 1) = nI (P (i - 1) / 4096))
theorem z_rr_old {P : Nat → Nat} {i n rr : Nat} {f23 : Nat → Int32} (h : z_rr P i n rr f23) (hi : 0 < i) (he : P i / 4096 = P (i - 1) / 4096) : z_rr P (i + 1) n rr f23 :=
  ⟨h.1, fun z => absurd z (by omega), fun _ => by rw [Nat.add_sub_cancel, he]; exact h.2.2 hi⟩
theorem z_rr_new {P : Nat → Nat} {f17 : Nat → Int32} {g : Nat → Int64} {N i n rr : Nat} {f23 c : Nat → Int32} {s : Nat → Int64} (hl : z_lh g P N) (hs : z_sl P N) (hi : i < N) (hq : z_rq P N n f23) (hro : x_ro (z_K P) (z_V f17 P) N n (z_f f23) c s) (h : z_rr P i n rr f23) (hne : i = 0 ∨ ¬ P i / 4096 = P (i - 1) / 4096) : z_rr P (i + 1) n (rr + 1) f23 := by
  -- the row of position i
  obtain ⟨a, ha, hfa⟩ := hro.2.2.1 i hi
  have hq9 : ∀ j, j < N → P j / 4096 < 2 ^ 31 := fun j hj => by have := (hl j hj).2; omega
  have key : ∀ r, r < n → ∃ j, j < N ∧ f23 r = nI (P j / 4096) ∧ z_f f23 r = z_K P j := fun r hr => by
    obtain ⟨j, hj, e⟩ := hq.1 r hr
    exact ⟨j, hj, e, z_f_is e (hq9 j hj)⟩
  have mono : ∀ r r', r < r' → r' < n → ∀ j j', j < N → j' < N → z_f f23 r = z_K P j → z_f f23 r' = z_K P j' → P j / 4096 < P j' / 4096 := fun r r' h1 h2 j j' h3 h4 e1 e2 => by
    have h5 := hro.2.1 r r' h1 h2
    rw [e1, e2] at h5
    exact (z_K_lt (hl j h3).2 (hl j' h4).2).mp h5
  have hpi : ∀ j, j < i → P j / 4096 ≤ P (i - 1) / 4096 := fun j hj => by
    by_cases e : j = i - 1
    · rw [e]; exact Nat.le_refl _
    · exact Nat.div_le_div_right (hs j (i - 1) (by omega) (by omega))
  have hup : ∀ j, i ≤ j → j < N → P i / 4096 ≤ P j / 4096 := fun j h1 h2 => by
    by_cases e : j = i
    · rw [e]; exact Nat.le_refl _
    · exact Nat.div_le_div_right (hs i j (by omega) h2)
  have hstep : 0 < i → P (i - 1) / 4096 < P i / 4096 := fun h0 => by
    have h1 : P (i - 1) / 4096 ≤ P i / 4096 := Nat.div_le_div_right (hs (i - 1) i (by omega) hi)
    omega
  -- a = rr
  have har : a = rr := by
    rcases Nat.eq_zero_or_pos i with h0 | h0
    · have hr0 := h.2.1 h0
      rw [hr0]
      rcases Nat.eq_zero_or_pos a with h1 | h1
      · exact h1
      · obtain ⟨j, hj, -, e2⟩ := key 0 (by omega)
        have h2 := mono 0 a h1 ha j i hj hi e2 hfa
        have h3 := hup j (by omega) hj
        omega
    · obtain ⟨hr0, hre⟩ := h.2.2 h0
      have hrl := h.1
      have e1 : z_f f23 (rr - 1) = z_K P (i - 1) := z_f_is hre (hq9 _ (by omega))
      have hs1 := hstep h0
      rcases Nat.lt_trichotomy a rr with h1 | h1 | h1
      · exfalso
        by_cases e3 : a = rr - 1
        · rw [e3, e1] at hfa
          have := (pk_lEQ (by have := hq9 (i - 1) (by omega); omega) (by have := hq9 i hi; omega)).mp hfa
          omega
        · have h2 := mono a (rr - 1) (by omega) (by omega) i (i - 1) hi (by omega) hfa e1
          omega
      · exact h1
      · exfalso
        obtain ⟨j, hj, -, e2⟩ := key rr (by omega)
        have h2 := mono (rr - 1) rr (by omega) (by omega) (i - 1) j (by omega) hj e1 e2
        have h3 := mono rr a h1 ha j i hj hi e2 hfa
        rcases Nat.lt_or_ge j i with h4 | h4
        · have := hpi j h4; omega
        · have := hup j h4 hj; omega
  subst har
  obtain ⟨j, hj, e1, e2⟩ := key a ha
  refine ⟨by omega, fun z => absurd z (by omega), fun _ => ⟨by omega, ?_⟩⟩
  rw [Nat.add_sub_cancel, Nat.add_sub_cancel, e1]
  rw [hfa] at e2
  have := (pk_lEQ (by have := hq9 i hi; omega) (by have := hq9 j hj; omega)).mp e2
  rw [this]
theorem z_nm1 {rr : Nat} (h : 0 < rr) : nI rr + (-1) = nI (rr - 1) := by
  obtain ⟨k, rfl⟩ : ∃ k, rr = k + 1 := ⟨rr - 1, by omega⟩
  exact pk_m1 k
theorem z_np1 (rr : Nat) : nI rr + (-1) + 1 = nI (rr + 1) + (-1) := by
  rw [← nI_add, Int32.add_assoc, Int32.add_assoc, Int32.add_comm (-1) 1]
  rfl
/-- the spreads of the first i positions -/
def z_sp (P : Nat → Nat) (f17 : Nat → Int32) (i n : Nat) (f23 f24 : Nat → Int32) (f27 g28 : Nat → Int64) : Prop := ∀ r, r < n → g28 r = x_spr (z_K P) (z_V f17 P) (f24 r).toInt64 (f27 r) (z_f f23 r) i
theorem z_sp_s {P : Nat → Nat} {f17 : Nat → Int32} {i n r0 : Nat} {f23 f24 : Nat → Int32} {f27 g28 : Nat → Int64} (h : z_sp P f17 i n f23 f24 f27 g28) (hr0 : r0 < n) (hf : z_f f23 r0 = z_K P i) (hlt : ∀ a b, a < b → b < n → z_f f23 a < z_f f23 b) :
    z_sp P f17 (i + 1) n f23 f24 f27 (vp_updL g28 r0 (g28 r0 + x_ab ((f24 r0).toInt64 * z_V f17 P i - f27 r0))) := fun r hr => by
  show _ = if z_K P i = z_f f23 r then _ else _
  by_cases e : r = r0
  · subst e
    rw [pk_uLs, if_pos hf.symm, h r hr]
  · rw [pk_uLn e, if_neg, h r hr]
    rw [← hf]
    rcases Nat.lt_or_gt_of_ne e with h1 | h1
    · exact fun z => x_lt_ne (hlt r r0 h1 hr0) z.symm
    · exact x_lt_ne (hlt r0 r h1 hr)
