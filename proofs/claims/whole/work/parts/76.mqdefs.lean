/-! ===== R, as the class makes it ===== -/
def z_ct (σ : x_S) (cn : Nat → Nat) (q : Nat) : Bool := decide (σ.1 26 q = 0) && decide (1 < cn q)
def z_mq (ct : Nat → Bool) (cn sp : Nat → Nat) (N0 i N D gs : Nat) : Prop :=
  0 < D ∧ z_pb D ∧ D ∣ N0 ∧ gs ≤ 3000 ∧ (∀ M, (∀ r, r < i → ct r = true → cn r ∣ M) → N * M = D * y_abv ct cn sp M i) ∧ ∀ p, 2 ≤ p → y_prm p → p ∣ D → p ≤ gs
theorem z_mq_0 (ct : Nat → Bool) (cn sp : Nat → Nat) (N0 : Nat) : z_mq ct cn sp N0 0 0 1 0 :=
  ⟨by decide, z_pb_1, Nat.one_dvd _, by decide, fun M _ => by rw [Nat.zero_mul]; rfl, fun p h2 _ hd => by have := Nat.le_of_dvd (by decide) hd; omega⟩
theorem z_mq_f {ct : Nat → Bool} {cn sp : Nat → Nat} {N0 i N D gs : Nat} (h : z_mq ct cn sp N0 i N D gs) (hc : ct i = false) : z_mq ct cn sp N0 (i + 1) N D gs := by
  obtain ⟨h1, h2, h3, h4, h5, h6⟩ := h
  refine ⟨h1, h2, h3, h4, fun M hM => ?_, h6⟩
  rw [y_abv_f hc]
  exact h5 M (fun r hr => hM r (by omega))
theorem z_mq_s {ct : Nat → Bool} {cn sp : Nat → Nat} {N0 i N D gs q tm ll sh : Nat} (h : z_mq ct cn sp N0 i N D gs) (hc : ct i = true) (hcn : 0 < cn i) (hcn9 : cn i ≤ 3000) (hN0 : cn i ∣ N0) (hq : Nat.gcd (sp i) (cn i) = q) (htm : sp i / q = tm) (hll : cn i / q = ll) (hsh : Nat.gcd D ll = sh) :
    z_mq ct cn sp N0 (i + 1) (N * (ll / sh) + D / sh * tm) (D * (ll / sh)) (max gs (cn i)) := by
  obtain ⟨h1, h2, h3, h4, h5, h6⟩ := h
  have hq0 : 0 < q := by rw [← hq]; exact Nat.gcd_pos_of_pos_right _ hcn
  have hqc : q ∣ cn i := by rw [← hq]; exact Nat.gcd_dvd_right _ _
  have hqs : q ∣ sp i := by rw [← hq]; exact Nat.gcd_dvd_left _ _
  have ec : q * ll = cn i := by rw [← hll, Nat.mul_div_cancel' hqc]
  have es : q * tm = sp i := by rw [← htm, Nat.mul_div_cancel' hqs]
  have hl0 : 0 < ll := Nat.pos_of_ne_zero (fun z => by rw [z] at ec; omega)
  have hlc : ll ≤ cn i := by rw [← ec]; exact Nat.le_mul_of_pos_left ll hq0
  have hs0 : 0 < sh := by rw [← hsh]; exact Nat.gcd_pos_of_pos_left _ h1
  have hsd : sh ∣ D := by rw [← hsh]; exact Nat.gcd_dvd_left _ _
  have hsl : sh ∣ ll := by rw [← hsh]; exact Nat.gcd_dvd_right _ _
  obtain ⟨d, hd⟩ := hsd
  obtain ⟨m, hm⟩ := hsl
  have edv : D / sh = d := Nat.div_eq_of_eq_mul_right hs0 hd
  have emv : ll / sh = m := Nat.div_eq_of_eq_mul_right hs0 hm
  have hm0 : 0 < m := Nat.pos_of_ne_zero (fun z => by rw [z, Nat.mul_zero] at hm; omega)
  have hpb : z_pb (D * (ll / sh)) := by rw [← hsh]; exact z_pb_add h1 hl0 hlc hcn9 h2
  have hln : ll ∣ N0 := Nat.dvd_trans ⟨q, by rw [Nat.mul_comm]; exact ec.symm⟩ hN0
  refine ⟨Nat.mul_pos h1 (by rw [emv]; exact hm0), hpb, ?_, by omega, fun M hM => ?_, fun p hp2 hpp hpd => ?_⟩
  · -- the least common multiple divides N0
    rw [emv]
    obtain ⟨u, hu⟩ := h3
    have hco : Nat.Coprime d m := by
      show Nat.gcd d m = 1
      have e1 : Nat.gcd (sh * d) (sh * m) = sh * Nat.gcd d m := Nat.gcd_mul_left sh d m
      rw [← hd, ← hm, hsh] at e1
      have e2 : sh * Nat.gcd d m = sh * 1 := by rw [Nat.mul_one]; exact e1.symm
      exact Nat.eq_of_mul_eq_mul_left hs0 e2
    obtain ⟨w, hw⟩ := hln
    -- N0 = sh*d*u = sh*m*w, so d*u = m*w, m | u
    have e3 : d * u = m * w := by
      have e4 : sh * (d * u) = sh * (m * w) := by rw [← Nat.mul_assoc, ← Nat.mul_assoc, ← hd, ← hm, ← hu, ← hw]
      exact Nat.eq_of_mul_eq_mul_left hs0 e4
    have e5 : m ∣ u := Nat.Coprime.dvd_of_dvd_mul_left (Nat.Coprime.symm hco) ⟨w, e3⟩
    obtain ⟨v, hv⟩ := e5
    exact ⟨v, by rw [hu, hv, Nat.mul_assoc]⟩
  · have h7 := h5 M (fun r hr => hM r (by omega))
    have h8 := hM i (by omega) hc
    obtain ⟨k, hk⟩ := h8
    rw [y_abv_t hc, emv, edv]
    have e6 : M / cn i = k := Nat.div_eq_of_eq_mul_right hcn hk
    rw [e6, ← es, Nat.add_mul, Nat.mul_add]
    have e7 : N * m * M = D * m * y_abv ct cn sp M i := by
      rw [Nat.mul_assoc, Nat.mul_comm m M, ← Nat.mul_assoc, h7, Nat.mul_assoc, Nat.mul_assoc, Nat.mul_comm m]
    have e8 : d * tm * M = D * m * (k * (q * tm)) := by
      rw [hk, ← ec, hd, hm]
      simp only [Nat.mul_comm, Nat.mul_left_comm, Nat.mul_assoc]
    rw [e7, e8]
  · rw [emv] at hpd
    have hpd' : p ^ 1 ∣ D * (ll / Nat.gcd D ll) := by rw [Nat.pow_one, hsh, emv]; exact hpd
    rcases z_lcm_pw hpp hp2 h1 hl0 hpd' with h7 | h7
    · rw [Nat.pow_one] at h7
      have := h6 p hp2 hpp h7
      omega
    · rw [Nat.pow_one] at h7
      have := Nat.le_of_dvd hl0 h7
      omega
theorem z_mq_b {ct : Nat → Bool} {cn sp : Nat → Nat} {N0 i N D gs : Nat} (h : z_mq ct cn sp N0 i N D gs) (hN1 : 0 < N0) (hN0 : ∀ r, r < i → ct r = true → cn r ∣ N0) : D ≤ N0 ∧ N ≤ D * y_ssp ct sp i ∧ N ≤ N0 * y_ssp ct sp i := by
  obtain ⟨h1, h2, h3, h4, h5, h6⟩ := h
  have h7 := Nat.le_of_dvd hN1 h3
  have h8 := h5 N0 hN0
  have h9 := y_abv_le ct cn sp N0 i
  have h10 : N * N0 ≤ D * y_ssp ct sp i * N0 := by
    rw [h8, Nat.mul_assoc, Nat.mul_comm (y_ssp ct sp i)]
    exact Nat.mul_le_mul_left D h9
  have h11 : N ≤ D * y_ssp ct sp i := Nat.le_of_mul_le_mul_right h10 hN1
  exact ⟨h7, h11, Nat.le_trans h11 (Nat.mul_le_mul_right _ h7)⟩
theorem z_prf : ∀ g : Nat, 2 ≤ g → ∃ p, 2 ≤ p ∧ y_prm p ∧ p ∣ g := fun g => by
  induction g using Nat.strongRecOn with
  | _ g ih =>
    intro h2
    by_cases h : y_prm g
    · exact ⟨g, h2, h, Nat.dvd_refl g⟩
    · have h3 : ∃ d, ¬ (2 ≤ d → d * d ≤ g → ¬ d ∣ g) := Classical.not_forall.mp h
      obtain ⟨d, hd⟩ := h3
      have hd2 : 2 ≤ d := Classical.byContradiction (fun z => hd (fun w => absurd w z))
      have hdd : d * d ≤ g := Classical.byContradiction (fun z => hd (fun _ w => absurd w z))
      have hdg : d ∣ g := Classical.byContradiction (fun z => hd (fun _ _ => z))
      obtain ⟨p, h4, h5, h6⟩ := ih d (y_sq hd2 hdd) hd2
      exact ⟨p, h4, h5, Nat.dvd_trans h6 hdg⟩
theorem z_lowest {x y A B : Nat} (hc : Nat.Coprime x y) (h : x * B = y * A) (hB : 0 < B) : x = A / Nat.gcd A B ∧ y = B / Nat.gcd A B := by
  rcases Nat.eq_zero_or_pos x with hx | hx
  · subst hx
    have hy : y = 1 := by
      have : Nat.gcd 0 y = 1 := hc
      rw [Nat.gcd_zero_left] at this
      exact this
    subst hy
    rw [Nat.zero_mul, Nat.one_mul] at h
    rw [← h, Nat.gcd_zero_left, Nat.zero_div, Nat.div_self hB]
    exact ⟨rfl, rfl⟩
  · have h1 : x ∣ A := Nat.Coprime.dvd_of_dvd_mul_left hc ⟨B, h.symm⟩
    obtain ⟨k, hk⟩ := h1
    have h2 : B = y * k := by
      have h3 : x * B = x * (y * k) := by rw [h, hk, ← Nat.mul_assoc, ← Nat.mul_assoc, Nat.mul_comm y]
      exact Nat.eq_of_mul_eq_mul_left hx h3
    have hk0 : 0 < k := Nat.pos_of_ne_zero (fun z => by rw [z, Nat.mul_zero] at h2; omega)
    have hg : Nat.gcd A B = k := by
      rw [hk, h2, Nat.gcd_mul_right, show Nat.gcd x y = 1 from hc, Nat.one_mul]
    rw [hg, hk, h2, Nat.mul_div_cancel _ hk0, Nat.mul_div_cancel _ hk0]
    exact ⟨rfl, rfl⟩
theorem z_final {ct : Nat → Bool} {cn sp : Nat → Nat} {N0 n N D gs N9 D9 e T M : Nat} (h : z_mq ct cn sp N0 n N D gs) (hN : N = N9 * e) (hD : D = D9 * e) (hD9 : 0 < D9) (hno : ∀ d, 2 ≤ d → d < gs + 1 → ¬ (d ∣ N9 ∧ d ∣ D9)) (hT : 0 < T) (hM : 0 < M) (hMc : ∀ r, r < n → ct r = true → cn r ∣ M) :
    N9 / Nat.gcd N9 T = y_abv ct cn sp M n / Nat.gcd (y_abv ct cn sp M n) (M * T) ∧ D9 * (T / Nat.gcd N9 T) = M * T / Nat.gcd (y_abv ct cn sp M n) (M * T) := by
  obtain ⟨h1, h2, h3, h4, h5, h6⟩ := h
  have hrel := h5 M hMc
  have he0 : 0 < e := Nat.pos_of_ne_zero (fun z => by rw [z, Nat.mul_zero] at hD; omega)
  have hrel2 : N9 * M = D9 * y_abv ct cn sp M n := by
    rw [hN, hD] at hrel
    have h7 : e * (N9 * M) = e * (D9 * y_abv ct cn sp M n) := by
      rw [← Nat.mul_assoc, ← Nat.mul_assoc, Nat.mul_comm e, Nat.mul_comm e]
      exact hrel
    exact Nat.eq_of_mul_eq_mul_left he0 h7
  have hco : Nat.Coprime N9 D9 := by
    show Nat.gcd N9 D9 = 1
    have h8 : 0 < Nat.gcd N9 D9 := Nat.gcd_pos_of_pos_right _ hD9
    rcases Nat.lt_or_ge (Nat.gcd N9 D9) 2 with h9 | h9
    · omega
    · obtain ⟨p, hp2, hpp, hpd⟩ := z_prf _ h9
      have hpD : p ∣ D9 := Nat.dvd_trans hpd (Nat.gcd_dvd_right _ _)
      have hpN : p ∣ N9 := Nat.dvd_trans hpd (Nat.gcd_dvd_left _ _)
      have hpg := h6 p hp2 hpp (by rw [hD]; exact Nat.dvd_trans hpD (Nat.dvd_mul_right _ _))
      exact absurd ⟨hpN, hpD⟩ (hno p hp2 (by omega))
  have hg0 : 0 < Nat.gcd N9 T := Nat.gcd_pos_of_pos_right _ hT
  obtain ⟨x, hx⟩ := Nat.gcd_dvd_left N9 T
  obtain ⟨w, hw⟩ := Nat.gcd_dvd_right N9 T
  have ex : N9 / Nat.gcd N9 T = x := Nat.div_eq_of_eq_mul_right hg0 hx
  have ew : T / Nat.gcd N9 T = w := Nat.div_eq_of_eq_mul_right hg0 hw
  have hxw : Nat.Coprime x w := by
    show Nat.gcd x w = 1
    have e1 : Nat.gcd (Nat.gcd N9 T * x) (Nat.gcd N9 T * w) = Nat.gcd N9 T * Nat.gcd x w := Nat.gcd_mul_left _ _ _
    rw [← hx, ← hw] at e1
    have e2 : Nat.gcd N9 T * Nat.gcd x w = Nat.gcd N9 T * 1 := by rw [Nat.mul_one]; exact e1.symm
    exact Nat.eq_of_mul_eq_mul_left hg0 e2
  have hxD : Nat.Coprime x D9 := Nat.Coprime.coprime_dvd_left ⟨Nat.gcd N9 T, by rw [Nat.mul_comm]; exact hx⟩ hco
  have hxy : Nat.Coprime x (D9 * w) := Nat.Coprime.mul_right hxD hxw
  have hcr : x * (M * T) = D9 * w * y_abv ct cn sp M n := by
    have h10 : x * T = w * N9 := by
      conv => lhs; rw [hw]
      conv => rhs; rw [hx]
      simp only [Nat.mul_comm, Nat.mul_left_comm, Nat.mul_assoc]
    calc x * (M * T) = x * T * M := by simp only [Nat.mul_comm, Nat.mul_left_comm, Nat.mul_assoc]
      _ = w * N9 * M := by rw [h10]
      _ = w * (N9 * M) := by rw [Nat.mul_assoc]
      _ = w * (D9 * y_abv ct cn sp M n) := by rw [hrel2]
      _ = D9 * w * y_abv ct cn sp M n := by rw [← Nat.mul_assoc, Nat.mul_comm w]
  rw [ex, ew]
  exact z_lowest hxy hcr (Nat.mul_pos hM hT)
theorem z_nb20 {N s T : Nat} (hN1 : 0 < N) (hN : N * (s + T + 1) * 2 ≤ 65536 ^ 20) : N < 65536 ^ 20 ∧ N * s < 65536 ^ 20 ∧ N * T < 65536 ^ 20 := by
  rw [Nat.mul_add, Nat.mul_add, Nat.mul_one] at hN
  have h3 := y_B0 20
  generalize (65536 : Nat) ^ 20 = B at *
  generalize N * s = Ns at *
  generalize N * T = NT at *
  refine ⟨by omega, by omega, by omega⟩
