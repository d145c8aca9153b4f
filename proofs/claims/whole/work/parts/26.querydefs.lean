/-! ===== the tape; questions of a group ===== -/
def x_fdv (a b c d e : Int32) (i : Nat) : Int32 := ((if i < 4 then a else if i < 8 then b else if i < 12 then c else if i < 16 then d else e) >>> (nI (24 - 8 * (i % 4)) &&& 31)).toInt8.toInt32
def x_fdb (a b c d e : Int32) (i : Nat) : Int32 := vp_nar .byte (x_fdv a b c d e i)
def x_fe (σ : x_S) (f : Nat → Int32) (t : Nat) : x_S := (fun k => if k = 38 then upd (upd (σ.1 38) 0 (nI 0)) 2 (nI t) else if k = 39 then f else σ.1 k, σ.2)
theorem x_fe_39 (σ : x_S) (f : Nat → Int32) (t : Nat) (g : Nat → Int32) : x_ui (x_fe σ f t) 39 g = x_fe σ g t := by
  refine x_ui_ext rfl (fun j hj => ?_) rfl
  simp [x_fe, hj]
theorem x_fe_2 (σ : x_S) (f : Nat → Int32) (t t' : Nat) : x_u (x_fe σ f t) 38 2 (nI t') = x_fe σ f t' := by
  rw [x_u_ui]
  refine x_ui_ext ?_ (fun j hj => ?_) rfl
  · show upd (upd (σ.1 38) 0 (nI 0)) 2 (nI t') = upd (upd (upd (σ.1 38) 0 (nI 0)) 2 (nI t)) 2 (nI t')
    funext j
    by_cases h : j = 2
    · subst h; rw [pk_us, pk_us]
    · rw [pk_un h, pk_un h, pk_un h]
  · simp [x_fe, hj]
theorem x_fe_start (σ : x_S) {t : Nat} (h : σ.1 38 2 = nI t) : x_u σ 38 0 (nI 0) = x_fe σ (σ.1 39) t := by
  rw [x_u_ui]
  refine x_ui_ext ?_ (fun j hj => ?_) rfl
  · show upd (upd (σ.1 38) 0 (nI 0)) 2 (nI t) = _
    funext j
    by_cases h1 : j = 2
    · subst h1; rw [pk_us, pk_un (by decide), h]
    · rw [pk_un h1]
  · by_cases h1 : j = 39
    · subst h1; rfl
    · simp [x_fe, hj, h1]
/-- an int is a place below n -/
def x_rng (i : Int32) (n : Nat) : Prop := ∃ j, j < n ∧ i = nI j
theorem x_rng_iff {i : Int32} {n : Nat} (hn : n < 2 ^ 30) : (decide (nI 0 ≤ i) && decide (i ≤ nI n - nI 1)) = true ↔ x_rng i n := by
  rw [Bool.and_eq_true, decide_eq_true_eq, decide_eq_true_eq]
  have e : (nI n - nI 1).toInt = (n : Int) - 1 := pk_sub_toInt hn (by decide)
  constructor
  · rintro ⟨h1, h2⟩
    have g1 := Int32.le_iff_toInt_le.mp h1
    have g2 := Int32.le_iff_toInt_le.mp h2
    rw [nI_toInt (by decide)] at g1
    rw [e] at g2
    obtain ⟨j, hj⟩ := Int.eq_ofNat_of_zero_le (a := i.toInt) (by omega)
    exact ⟨j, by omega, x_ofInt hj (by omega)⟩
  · rintro ⟨j, hj, rfl⟩
    refine ⟨Int32.le_iff_toInt_le.mpr ?_, Int32.le_iff_toInt_le.mpr ?_⟩
    · rw [nI_toInt (by decide), nI_toInt (by omega)]; omega
    · rw [e, nI_toInt (by omega)]; omega
theorem x_rng_iff2 {i : Int32} {n : Nat} (hn : n + 1 < 2 ^ 30) : (decide (nI 0 ≤ i) && decide (i ≤ nI n)) = true ↔ x_rng i (n + 1) := by
  rw [← x_rng_iff (n := n + 1) hn, ← nI_add]
  have : nI n + nI 1 - nI 1 = nI n := by
    rw [nI_add, pk_sub (by omega), Nat.add_sub_cancel]
  rw [this]
theorem x_rng_not {i : Int32} {n : Nat} (hn : n < 2 ^ 30) (h : (decide (nI 0 ≤ i) && decide (i ≤ nI n - nI 1)) = false) : ¬ x_rng i n := fun z => by
  rw [(x_rng_iff hn).mpr z] at h; cases h
theorem x_rng_not2 {i : Int32} {n : Nat} (hn : n + 1 < 2 ^ 30) (h : (decide (nI 0 ≤ i) && decide (i ≤ nI n)) = false) : ¬ x_rng i (n + 1) := fun z => by
  rw [(x_rng_iff2 hn).mpr z] at h; cases h
/-- a number of an index -/
def x_ix (h : Int32) : Bool := decide ((-127 : Int32) ≤ h) && decide (h ≤ nI 127)
def x_ixs (h k l : Int32) : Bool := x_ix h && (x_ix k && x_ix l)
def x_snt (t : Nat → Int32) (i j : Nat) (h k l : Int32) : Int32 := h * t (9 * i + j) + k * t (9 * i + 3 + j) + l * t (9 * i + 6 + j)
def x_phs (s : Nat → Int32) (i : Nat) (h k l : Int32) : Int32 := x_md12 (h * s (3 * i) + k * s (3 * i + 1) + l * s (3 * i + 2))
def x_det (t : Nat → Int32) (i : Nat) : Int32 := t (9 * i) * (t (9 * i + 4) * t (9 * i + 8) - t (9 * i + 5) * t (9 * i + 7)) - t (9 * i + 1) * (t (9 * i + 3) * t (9 * i + 8) - t (9 * i + 5) * t (9 * i + 6)) + t (9 * i + 2) * (t (9 * i + 3) * t (9 * i + 7) - t (9 * i + 4) * t (9 * i + 6))
def x_abs1 (t s : Nat → Int32) (h k l : Int32) (i : Nat) : Bool := decide (x_snt t i 0 h k l = h) && (decide (x_snt t i 1 h k l = k) && (decide (x_snt t i 2 h k l = l) && !decide (x_phs s i h k l = nI 0)))
/-- from the place i on: whether one of n says so -/
def x_anyf (p : Nat → Bool) : Nat → Nat → Bool
  | 0, _ => false
  | n + 1, i => p i || x_anyf p n (i + 1)
def x_absent (t s : Nat → Int32) (n : Nat) (h k l : Int32) : Bool := x_anyf (x_abs1 t s h k l) n 0
theorem x_anyf_s (p : Nat → Bool) {n i : Nat} (h : i < n) : x_anyf p (n - i) i = (p i || x_anyf p (n - (i + 1)) (i + 1)) := by
  obtain ⟨m, hm⟩ : ∃ m, n - i = m + 1 := ⟨n - i - 1, by omega⟩
  rw [hm, show n - (i + 1) = m by omega]
  rfl
theorem x_anyf_e (p : Nat → Bool) {n i : Nat} (h : n ≤ i) : x_anyf p (n - i) i = false := by
  rw [Nat.sub_eq_zero_of_le h]
  rfl
