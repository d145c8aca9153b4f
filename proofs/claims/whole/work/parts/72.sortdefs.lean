/-! ===== the class's sorting ===== -/
def z_pm (N : Nat) (P Q : Nat → Nat) : Prop := ∀ F : Nat → Nat, y_sum (fun j => F (Q j)) N = y_sum (fun j => F (P j)) N
def z_sl (P : Nat → Nat) (n : Nat) : Prop := ∀ a b, a < b → b < n → P a ≤ P b
theorem z_pm_rf (N : Nat) (P : Nat → Nat) : z_pm N P P := fun _ => rfl
theorem z_pm_tr {N : Nat} {P Q R : Nat → Nat} (h1 : z_pm N P Q) (h2 : z_pm N Q R) : z_pm N P R := fun F => (h2 F).trans (h1 F)
theorem z_pm_eq {N : Nat} {P Q R : Nat → Nat} (h1 : z_pm N P Q) (h2 : ∀ j, j < N → R j = Q j) : z_pm N P R := fun F => by
  rw [← h1 F]
  exact y_sum_eq (fun j hj => by rw [h2 j hj])
def z_at (P : Nat → Nat) (a x : Nat) : Nat → Nat := fun j => if j = a then x else P j
theorem z_at_s {P : Nat → Nat} {a x : Nat} : z_at P a x a = x := if_pos rfl
theorem z_at_n {P : Nat → Nat} {a x j : Nat} (h : j ≠ a) : z_at P a x j = P j := if_neg h
theorem z_at_sum {f : Nat → Nat} {a x : Nat} : ∀ {N : Nat}, a < N → y_sum (z_at f a x) N + f a = y_sum f N + x
  | 0, h => absurd h (Nat.not_lt_zero a)
  | N + 1, h => by
    show y_sum (z_at f a x) N + z_at f a x N + f a = y_sum f N + f N + x
    by_cases e : a = N
    · subst e
      rw [z_at_s]
      have : y_sum (z_at f a x) a = y_sum f a := y_sum_eq (fun j hj => z_at_n (by omega))
      omega
    · rw [z_at_n (fun z => e z.symm)]
      have := z_at_sum (f := f) (x := x) (show a < N by omega)
      omega
/-- the hole at a, x in hand: it goes on to b -/
theorem z_pm_mv {N : Nat} {P Q : Nat → Nat} {a b x : Nat} (ha : a < N) (hb : b < N) (hab : a ≠ b) (h : z_pm N P (z_at Q a x)) : z_pm N P (z_at (z_at Q a (Q b)) b x) := fun F => by
  rw [← h F]
  have e1 : ∀ (R : Nat → Nat) (c y : Nat), (fun j => F (z_at R c y j)) = z_at (fun j => F (R j)) c (F y) := fun R c y => by
    funext j
    unfold z_at
    split <;> rfl
  rw [e1, e1, e1]
  have h1 := z_at_sum (f := z_at (fun j => F (Q j)) a (F (Q b))) (x := F x) hb
  have h2 := z_at_sum (f := fun j => F (Q j)) (x := F (Q b)) ha
  have h3 := z_at_sum (f := fun j => F (Q j)) (x := F x) ha
  rw [z_at_n (fun z => hab z.symm)] at h1
  omega
theorem z_at_self (P : Nat → Nat) (a : Nat) : z_at P a (P a) = P := by
  funext j
  unfold z_at
  split
  · rename_i h; rw [h]
  · rfl
/-- every value is one of the first -/
theorem z_sum0 {f : Nat → Nat} : ∀ {N : Nat}, y_sum f N = 0 → ∀ j, j < N → f j = 0
  | 0, _, j, h => absurd h (Nat.not_lt_zero j)
  | N + 1, h, j, hj => by
    have h1 : y_sum f N + f N = 0 := h
    by_cases e : j = N
    · subst e; omega
    · exact z_sum0 (by omega : y_sum f N = 0) j (by omega)
theorem z_sum0i {f : Nat → Nat} : ∀ {N : Nat}, (∀ j, j < N → f j = 0) → y_sum f N = 0
  | 0, _ => rfl
  | N + 1, h => by
    show y_sum f N + f N = 0
    rw [h N (Nat.lt_succ_self N), z_sum0i (fun j hj => h j (by omega))]
theorem z_pm_in {N : Nat} {P Q : Nat → Nat} (h : z_pm N P Q) (p : Nat → Bool) (hp : ∀ j, j < N → p (P j) = true) : ∀ j, j < N → p (Q j) = true := fun j hj => by
  have h1 := h (fun x => if p x = true then 0 else 1)
  have h2 : y_sum (fun j => if p (P j) = true then 0 else 1) N = 0 := z_sum0i (fun j hj => if_pos (hp j hj))
  have h3 := z_sum0 (h1.trans h2) j hj
  by_cases h4 : p (Q j) = true
  · exact h4
  · rw [if_neg h4] at h3; cases h3
/-- the long row holds the naturals P -/
def z_lh (g : Nat → Int64) (P : Nat → Nat) (N : Nat) : Prop := ∀ j, j < N → g j = lN (P j) ∧ P j < 2 ^ 43
theorem z_lh_u {g : Nat → Int64} {P : Nat → Nat} {N a x : Nat} (h : z_lh g P N) (hx : x < 2 ^ 43) : z_lh (vp_updL g a (lN x)) (z_at P a x) N := fun j hj => by
  by_cases e : j = a
  · subst e
    rw [pk_uLs, z_at_s]
    exact ⟨rfl, hx⟩
  · rw [pk_uLn e, z_at_n e]
    exact h j hj
/-- in the course of sinking by one place -/
def z_sk (P : Nat → Nat) (i a m : Nat) : Prop := (∀ b c, b < c → c ≤ i → b ≠ a → c ≠ a → P b ≤ P c) ∧ ∀ b, a < b → b ≤ i → m ≤ P b
theorem z_sk_0 {P : Nat → Nat} {i : Nat} (h : z_sl P i) : z_sk P i i (P i) := ⟨fun b c h1 h2 h3 h4 => h b c h1 (by omega), fun b h1 h2 => absurd h2 (by omega)⟩
theorem z_sk_s {P : Nat → Nat} {i a m : Nat} (h : z_sk P i a m) (ha : 1 ≤ a) (hai : a ≤ i) (hm : m < P (a - 1)) : z_sk (z_at P a (P (a - 1))) i (a - 1) m := by
  obtain ⟨h1, h2⟩ := h
  refine ⟨fun b c hbc hci hb hc => ?_, fun b hb hbi => ?_⟩
  · by_cases e1 : b = a
    · subst e1
      rw [z_at_s, z_at_n (by omega)]
      exact h1 (b - 1) c (by omega) hci (by omega) (by omega)
    · rw [z_at_n e1]
      by_cases e2 : c = a
      · subst e2
        rw [z_at_s]
        exact h1 b (c - 1) (by omega) (by omega) e1 (by omega)
      · rw [z_at_n e2]
        exact h1 b c hbc hci e1 e2
  · by_cases e1 : b = a
    · subst e1
      rw [z_at_s]
      omega
    · rw [z_at_n e1]
      exact h2 b (by omega) hbi
theorem z_sk_e {P : Nat → Nat} {i a m : Nat} (h : z_sk P i a m) (ha : a ≤ i) (he : a = 0 ∨ P (a - 1) ≤ m) : z_sl (z_at P a m) (i + 1) := fun b c hbc hc => by
  obtain ⟨h1, h2⟩ := h
  by_cases e1 : b = a
  · subst e1
    rw [z_at_s, z_at_n (by omega)]
    exact h2 c hbc (by omega)
  · rw [z_at_n e1]
    by_cases e2 : c = a
    · subst e2
      rw [z_at_s]
      rcases he with he | he
      · omega
      · by_cases e3 : b = c - 1
        · rw [e3]; exact he
        · exact Nat.le_trans (h1 b (c - 1) (by omega) (by omega) e1 (by omega)) he
    · rw [z_at_n e2]
      exact h1 b c hbc (by omega) e1 e2
def z_gap (p : Nat) : Nat := [1750, 701, 301, 132, 57, 23, 10, 4, 1].getD p 1
theorem z_gap_is : ∀ p, p < 9 → x_gaps.getD p 0 = nI (z_gap p) := by decide +kernel
theorem z_gap_b : ∀ p, p < 9 → 1 ≤ z_gap p ∧ z_gap p ≤ 1750 ∧ (p = 8 → z_gap p = 1) := by decide +kernel
/-- the kind of a reflection, as the class has it -/
def z_kd (σ : x_S) (c i : Nat) : Int32 := z_gof (σ.1 13) (z_part (σ.1 16 i) 0) (z_part (σ.1 16 i) 1) (z_part (σ.1 16 i) 2) c
def z_S (Q : Nat → Nat) (i : Nat) : Nat := Q i * 4096 + i
theorem z_S_is {q : Int32} {Q i : Nat} (hq : q = nI Q) (hQ : Q < 2 ^ 30) (hi : i < 4096) : (q.toInt64 <<< ((nI 12).toInt64 &&& 63)) + (nI i).toInt64 = lN (Q * 4096 + i) := by
  rw [hq, nI_l (by omega), nI_l (n := i) (by omega), wb_shl _ (by decide), lN_add]
theorem z_S_lt {Q : Nat → Nat} {i : Nat} (hQ : Q i < 2 ^ 30) (hi : i < 4096) : z_S Q i < 2 ^ 43 := by
  unfold z_S
  omega
