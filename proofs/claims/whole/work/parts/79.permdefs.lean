/-! ===== rows of the sorted reflections are rows of the reflections ===== -/
def z_K1 (Q : Nat → Nat) (i : Nat) : Int64 := lN (Q i)
def z_V1 (f17 : Nat → Int32) (i : Nat) : Int64 := (f17 i).toInt64
def z_u (x : Int64) : Nat := x.toBitVec.toNat
theorem z_u_is (x : Int64) : x = lN (z_u x) := wb_inj (by rw [wb_tb]; unfold z_u; simp)
theorem z_S_d {Q : Nat → Nat} {i : Nat} (hi : i < 4096) : z_S Q i / 4096 = Q i ∧ z_S Q i % 4096 = i := by
  unfold z_S
  omega
theorem z_cnt_y (K : Nat → Int64) (q : Int64) : ∀ n, x_cnt K q n = y_sum (fun p => if K p = q then 1 else 0) n
  | 0 => rfl
  | n + 1 => by
    show (if K n = q then x_cnt K q n + 1 else x_cnt K q n) = y_sum (fun p => if K p = q then 1 else 0) n + (if K n = q then 1 else 0)
    rw [← z_cnt_y K q n]
    split <;> rfl
theorem z_sm_y (K V : Nat → Int64) (q : Int64) : ∀ n, x_sm K V q n = lN (y_sum (fun p => if K p = q then z_u (V p) else 0) n)
  | 0 => rfl
  | n + 1 => by
    show (if K n = q then x_sm K V q n + V n else x_sm K V q n) = lN (y_sum (fun p => if K p = q then z_u (V p) else 0) n + (if K n = q then z_u (V n) else 0))
    rw [z_sm_y K V q n]
    by_cases e : K n = q
    · rw [if_pos e, if_pos e]
      conv => lhs; rw [z_u_is (V n)]
      rw [lN_add]
    · rw [if_neg e, if_neg e, Nat.add_zero]
theorem z_spr_y (K V : Nat → Int64) (c s q : Int64) : ∀ n, x_spr K V c s q n = lN (y_sum (fun p => if K p = q then z_u (x_ab (c * V p - s)) else 0) n)
  | 0 => rfl
  | n + 1 => by
    show (if K n = q then x_spr K V c s q n + x_ab (c * V n - s) else x_spr K V c s q n) = lN (y_sum (fun p => if K p = q then z_u (x_ab (c * V p - s)) else 0) n + (if K n = q then z_u (x_ab (c * V n - s)) else 0))
    rw [z_spr_y K V c s q n]
    by_cases e : K n = q
    · rw [if_pos e, if_pos e]
      conv => lhs; rw [z_u_is (x_ab (c * V n - s))]
      rw [lN_add]
    · rw [if_neg e, if_neg e, Nat.add_zero]
section ZPE
variable {Q P : Nat → Nat} {N : Nat} {f17 : Nat → Int32}
theorem z_pe (hN : N ≤ 3000) (h : z_pm N (z_S Q) P) (F : Nat → Nat → Nat) : y_sum (fun p => F (P p / 4096) (P p % 4096)) N = y_sum (fun i => F (Q i) i) N := by
  have h1 := h (fun x => F (x / 4096) (x % 4096))
  rw [h1]
  exact y_sum_eq (fun i hi => by rw [(z_S_d (Q := Q) (by omega : i < 4096)).1, (z_S_d (Q := Q) (by omega : i < 4096)).2])
theorem z_pe_cnt (hN : N ≤ 3000) (h : z_pm N (z_S Q) P) (q : Int64) : x_cnt (z_K P) q N = x_cnt (z_K1 Q) q N := by
  rw [z_cnt_y, z_cnt_y]
  exact z_pe hN h (fun a _ => if lN a = q then 1 else 0)
theorem z_pe_sm (hN : N ≤ 3000) (h : z_pm N (z_S Q) P) (q : Int64) : x_sm (z_K P) (z_V f17 P) q N = x_sm (z_K1 Q) (z_V1 f17) q N := by
  rw [z_sm_y, z_sm_y]
  congr 1
  exact z_pe hN h (fun a i => if lN a = q then z_u (f17 i).toInt64 else 0)
theorem z_pe_spr (hN : N ≤ 3000) (h : z_pm N (z_S Q) P) (c s q : Int64) : x_spr (z_K P) (z_V f17 P) c s q N = x_spr (z_K1 Q) (z_V1 f17) c s q N := by
  rw [z_spr_y, z_spr_y]
  congr 1
  exact z_pe hN h (fun a i => if lN a = q then z_u (x_ab (c * (f17 i).toInt64 - s)) else 0)
/-- every sorted entry is a reflection's -/
theorem z_pe_in (hN : N ≤ 3000) (h : z_pm N (z_S Q) P) : ∀ p, p < N → P p % 4096 < N ∧ P p = z_S Q (P p % 4096) := fun p hp => by
  have h1 := z_pm_in h (fun x => decide (x % 4096 < N ∧ x = z_S Q (x % 4096))) (fun i hi => decide_eq_true (by
    have e := (z_S_d (Q := Q) (by omega : i < 4096)).2
    rw [e]
    exact ⟨hi, rfl⟩)) p hp
  exact of_decide_eq_true h1
theorem z_sum_ex {f : Nat → Nat} : ∀ {N : Nat}, 0 < y_sum f N → ∃ j, j < N ∧ 0 < f j
  | 0, h => absurd h (Nat.lt_irrefl 0)
  | N + 1, h => by
    have h1 : 0 < y_sum f N + f N := h
    rcases Nat.eq_zero_or_pos (f N) with h2 | h2
    · obtain ⟨j, hj, e⟩ := z_sum_ex (by omega : 0 < y_sum f N)
      exact ⟨j, by omega, e⟩
    · exact ⟨N, by omega, h2⟩
theorem z_sum_ge {f : Nat → Nat} : ∀ {N j : Nat}, j < N → f j ≤ y_sum f N
  | 0, j, h => absurd h (Nat.not_lt_zero j)
  | N + 1, j, h => by
    show f j ≤ y_sum f N + f N
    by_cases e : j = N
    · subst e; omega
    · have := z_sum_ge (f := f) (by omega : j < N)
      omega
theorem z_pe_on (h : z_pm N (z_S Q) P) : ∀ i, i < N → ∃ p, p < N ∧ P p = z_S Q i := fun i hi => by
  have h1 := h (fun x => if x = z_S Q i then 1 else 0)
  have h2 : 1 ≤ y_sum (fun j => if z_S Q j = z_S Q i then 1 else 0) N := by
    have := z_sum_ge (f := fun j => if z_S Q j = z_S Q i then 1 else 0) hi
    rw [if_pos rfl] at this
    exact this
  rw [← h1] at h2
  obtain ⟨p, hp, e⟩ := z_sum_ex (f := fun j => if P j = z_S Q i then 1 else 0) h2
  refine ⟨p, hp, ?_⟩
  by_cases e2 : P p = z_S Q i
  · exact e2
  · rw [if_neg e2] at e; cases e
theorem z_pe_ro {n : Nat} {f : Nat → Int64} {c : Nat → Int32} {s : Nat → Int64} (hN : N ≤ 3000) (h : z_pm N (z_S Q) P) (hro : x_ro (z_K P) (z_V f17 P) N n f c s) : x_ro (z_K1 Q) (z_V1 f17) N n f c s := by
  obtain ⟨h1, h2, h3, h4⟩ := hro
  refine ⟨h1, h2, fun i hi => ?_, fun a ha => ?_⟩
  · obtain ⟨p, hp, e⟩ := z_pe_on h i hi
    obtain ⟨a, ha, e2⟩ := h3 p hp
    refine ⟨a, ha, e2.trans ?_⟩
    unfold z_K z_K1
    rw [e, (z_S_d (Q := Q) (by omega : i < 4096)).1]
  · obtain ⟨⟨p, hp, e⟩, h5, h6⟩ := h4 a ha
    obtain ⟨h7, h8⟩ := z_pe_in hN h p hp
    refine ⟨⟨P p % 4096, h7, ?_⟩, by rw [h5, z_pe_cnt hN h], by rw [h6, z_pe_sm hN h]⟩
    rw [← e]
    unfold z_K z_K1
    conv => rhs; rw [h8]
    rw [(z_S_d (Q := Q) (by omega : P p % 4096 < 4096)).1]
end ZPE
theorem z_big {x y T : Nat} (hx : x < 2 ^ 212) (hy : y ≤ 400 * 3200000000000) (hT : T < 2 ^ 41) : x * (y + T + 1) * 2 ≤ 65536 ^ 20 := by
  have h1 : y + T + 1 ≤ 2 ^ 52 := by omega
  have h2 : x * (y + T + 1) ≤ 2 ^ 212 * 2 ^ 52 := Nat.mul_le_mul (by omega) h1
  have h3 : (2 : Nat) ^ 212 * 2 ^ 52 * 2 ≤ 65536 ^ 20 := by decide +kernel
  omega
theorem z_big64 {x y T : Nat} (hx : x < 2 ^ 212) (hy : y ≤ 400 * 3200000000000) (hT : T < 2 ^ 41) : x * (y + T + 1) * 2 ≤ 65536 ^ 64 :=
  Nat.le_trans (z_big hx hy hT) (Nat.pow_le_pow_right (by decide) (by decide))
