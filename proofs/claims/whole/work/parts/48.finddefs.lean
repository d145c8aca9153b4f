/-! ===== violations, completeness ===== -/
def y_vio (σ : x_S) (o : Nat) (m : Int32) (i : Nat) : Bool := decide (m.toInt64 * (σ.1 53 i).toInt64 < (σ.1 52 i).toInt64) && x_absent (σ.1 40) (σ.1 41) o (σ.1 49 i) (σ.1 50 i) (σ.1 51 i)
def y_w3 (K : Int64) (mo : Int32) (k : Nat) : Bool := decide (-mo ≤ x_part K k) && decide (x_part K k ≤ mo)
def y_wp (a : Int32) (K : Int64) (mo : Int32) : Nat → Bool
  | 0 => decide (a = 0) && !decide (K = x_key (nI 0) (nI 0) (nI 0))
  | k + 1 => y_wp a K mo k && y_w3 K mo k
def y_sum (f : Nat → Nat) : Nat → Nat
  | 0 => 0
  | i + 1 => y_sum f i + f i
theorem y_sum_eq {f g : Nat → Nat} : ∀ {n : Nat}, (∀ i, i < n → f i = g i) → y_sum f n = y_sum g n
  | 0, _ => rfl
  | n + 1, h => by
    show y_sum f n + f n = y_sum g n + g n
    rw [h n (Nat.lt_succ_self n), y_sum_eq (fun i hi => h i (by omega))]
theorem y_sum_le {f : Nat → Nat} {b : Nat} : ∀ {n : Nat}, (∀ i, i < n → f i ≤ b) → y_sum f n ≤ n * b
  | 0, _ => Nat.zero_le _
  | n + 1, h => by
    show y_sum f n + f n ≤ _
    have h1 := h n (Nat.lt_succ_self n)
    have h2 : y_sum f n ≤ n * b := y_sum_le (fun i hi => h i (by omega))
    rw [Nat.succ_mul]
    omega
/-- the numbers from -m on -/
def y_fm (m j : Nat) : Int32 := -(nI m) + nI j
theorem y_fm_0 (m : Nat) : y_fm m 0 = -(nI m) := by
  unfold y_fm
  exact Int32.add_zero _
theorem y_fm_s (m j : Nat) : y_fm m j + 1 = y_fm m (j + 1) := by
  unfold y_fm
  rw [← nI_add, Int32.add_assoc]
  rfl
theorem y_fm_le : ∀ m, m < 13 → ∀ j, j < 26 → (y_fm m j ≤ nI m ↔ j ≤ 2 * m) := by decide +kernel
/-- is the index its own kind's greatest, and of a kind that is not absent? -/
def y_own (σ : x_S) (o : Nat) (h k l : Int32) : Bool := (!(decide (h = 0) && decide (k = 0) && decide (l = 0)) && decide (x_gof (σ.1 40) h k l o = x_key h k l)) && !x_absent (σ.1 40) (σ.1 41) o h k l
def y_c1 (σ : x_S) (o m : Nat) (h k : Int32) : Nat := y_cnb (fun j => y_own σ o h k (y_fm m j)) (2 * m + 1)
def y_c2 (σ : x_S) (o m : Nat) (h : Int32) : Nat := y_sum (fun j => y_c1 σ o m h (y_fm m j)) (2 * m + 1)
def y_c3 (σ : x_S) (o m : Nat) : Nat := y_sum (fun j => y_c2 σ o m (nI j)) (m + 1)
theorem y_c1_le (σ : x_S) (o m : Nat) (h k : Int32) : y_c1 σ o m h k ≤ 2 * m + 1 := y_cnb_le _ _
theorem y_c2_le (σ : x_S) (o m : Nat) (h : Int32) : y_c2 σ o m h ≤ (2 * m + 1) * (2 * m + 1) := y_sum_le (fun _ _ => y_c1_le σ o m h _)
def y_mo (mo : Int32) : Prop := ∃ mq, 0 < mq ∧ mq < 13 ∧ mo = nI mq
theorem y_in12d : ∀ mq, mq < 13 → 0 < mq → (decide (nI 1 ≤ nI mq) && decide (nI mq ≤ nI 12)) = true := by decide +kernel
theorem y_in12 {mo : Int32} : (decide (nI 1 ≤ mo) && decide (mo ≤ nI 12)) = true ↔ y_mo mo := by
  constructor
  · intro h
    rw [Bool.and_eq_true] at h
    have h1 := of_decide_eq_true h.1
    have h2 := of_decide_eq_true h.2
    have h3 : nI 0 ≤ mo := Int32.le_trans (by decide) h1
    obtain ⟨j, hj, rfl⟩ := (x_rng_iff2 (i := mo) (n := 12) (by decide)).mp (by rw [decide_eq_true h3, decide_eq_true h2]; rfl)
    refine ⟨j, Nat.pos_of_ne_zero (fun z => ?_), hj, rfl⟩
    subst z
    exact absurd h1 (by decide)
  · rintro ⟨mq, h0, h9, rfl⟩
    exact y_in12d mq h9 h0
