/-! ===== rows, the quotient, violations, completeness ===== -/
theorem w_ab {x : Int64} (h : -4000000000 ≤ x.toInt ∧ x.toInt ≤ 4000000000) : x_ab x = lN (x_ab x).toInt.toNat ∧ (x_ab x).toInt.toNat < 2 ^ 63 := by
  apply z_lN_of
  unfold x_ab
  split
  · next h1 =>
    have h2 := Int64.lt_iff_toInt_lt.mp h1
    rw [show (0 : Int64).toInt = 0 from rfl] at h2
    rw [Int64.toInt_neg, Int.bmod_eq_of_le (by omega) (by omega)]
    omega
  · next h1 =>
    have h2 := Int64.le_iff_toInt_le.mp (Int64.not_lt.mp h1)
    rw [show (0 : Int64).toInt = 0 from rfl] at h2
    exact h2
theorem w_ite {α : Sort _} {p : Prop} [Decidable p] {a b c d : α} (h1 : p → a = b) (h2 : ¬ p → c = d) : (if p then a else c) = if p then b else d := by
  by_cases h : p
  · rw [if_pos h, if_pos h, h1 h]
  · rw [if_neg h, if_neg h, h2 h]
theorem w_cnb {P P' : Nat → Bool} : ∀ {n : Nat}, (∀ i, i < n → P i = P' i) → y_cnb P n = y_cnb P' n
  | 0, _ => rfl
  | n + 1, h => by
    show (if P n = true then y_cnb P n + 1 else y_cnb P n) = if P' n = true then y_cnb P' n + 1 else y_cnb P' n
    rw [w_cnb (fun i hi => h i (by omega)), h n (by omega)]
theorem w_cnb_s {P : Nat → Bool} : ∀ {n j : Nat}, j < y_cnb P n → ∃ i, i < n ∧ P i = true ∧ y_cnb P i = j
  | 0, j, h => absurd h (Nat.not_lt_zero j)
  | n + 1, j, h => by
    have h' : j < if P n = true then y_cnb P n + 1 else y_cnb P n := h
    by_cases hp : P n = true
    · rw [if_pos hp] at h'
      by_cases e : j = y_cnb P n
      · exact ⟨n, by omega, hp, e.symm⟩
      · obtain ⟨i, h1, h2⟩ := w_cnb_s (P := P) (n := n) (j := j) (by omega)
        exact ⟨i, by omega, h2⟩
    · rw [if_neg hp] at h'
      obtain ⟨i, h1, h2⟩ := w_cnb_s (P := P) (n := n) (j := j) h'
      exact ⟨i, by omega, h2⟩
theorem w_tot {ct ct' : Nat → Bool} {f f' : Nat → Int64} : ∀ {n : Nat}, (∀ a, a < n → ct a = ct' a ∧ f a = f' a) → y_tot ct f n = y_tot ct' f' n
  | 0, _ => rfl
  | n + 1, h => by
    show (if ct n = true then y_tot ct f n + f n else y_tot ct f n) = if ct' n = true then y_tot ct' f' n + f' n else y_tot ct' f' n
    rw [w_tot (fun i hi => h i (by omega)), (h n (by omega)).1, (h n (by omega)).2]
theorem w_abv {ct ct' : Nat → Bool} {cn sp : Nat → Nat} {M : Nat} : ∀ {n : Nat}, (∀ a, a < n → ct a = ct' a) → y_abv ct cn sp M n = y_abv ct' cn sp M n
  | 0, _ => rfl
  | n + 1, h => by
    show (if ct n = true then y_abv ct cn sp M n + M / cn n * sp n else y_abv ct cn sp M n) = if ct' n = true then y_abv ct' cn sp M n + M / cn n * sp n else y_abv ct' cn sp M n
    rw [w_abv (fun i hi => h i (by omega)), h n (by omega)]
/-- what the reference needs to know of its rows, and what it then finds -/
def w_qt (τ : x_S) (nr : Nat) (cn sp : Nat → Nat) (T N0 : Nat) (kn : Bool) (v0 v1 : Nat) : Prop :=
  (∀ a, a < nr → τ.1 55 a = nI (cn a) ∧ 0 < cn a ∧ cn a ≤ 3000 ∧ τ.2 59 a = lN (sp a) ∧ sp a < 2 ^ 62) ∧ (0 < y_tot (y_ct τ cn) (τ.2 58) nr → y_tot (y_ct τ cn) (τ.2 58) nr = lN T ∧ 0 < T ∧ T < 2 ^ 62) ∧ (∀ a, a < nr → y_ct τ cn a = true → cn a ∣ N0) ∧ 0 < N0 ∧ N0 * (y_ssp (y_ct τ cn) sp nr + T + 1) * 2 ≤ 65536 ^ 64 ∧ (kn = true ↔ 0 < y_tot (y_ct τ cn) (τ.2 58) nr) ∧ (kn = true → ∀ M, 0 < M → (∀ a, a < nr → y_ct τ cn a = true → cn a ∣ M) → v0 = y_abv (y_ct τ cn) cn sp M nr / Nat.gcd (y_abv (y_ct τ cn) cn sp M nr) (M * T) ∧ v1 = M * T / Nat.gcd (y_abv (y_ct τ cn) cn sp M nr) (M * T))
theorem w_quo {σ : x_S} {nr : Nat} (hm : w_M σ nr) : ∃ (cn sp : Nat → Nat) (T N0 : Nat) (kn : Bool) (v0 v1 : Nat), σ.1 29 4 = x_z kn ∧ (kn = true → z_is (σ.1 31) v0) ∧ (kn = true → z_is (σ.1 33) v1) ∧ w_qt σ nr cn sp T N0 kn v0 v1 := by
  obtain ⟨h400, cn, sp, kn, v0, v1, hrow, hp, h29, h31, h33, hR⟩ := hm
  have hct : ∀ a, a < nr → y_ct σ cn a = w_ct (σ.1 26) cn a := fun a ha => by
    obtain ⟨-, -, -, -, -, e, -⟩ := hrow a ha
    unfold y_ct w_ct
    rw [e]
  have hsum : y_tot (y_ct σ cn) (σ.2 58) nr = y_tot (w_ct (σ.1 26) cn) (σ.2 27) nr := w_tot fun a ha => ⟨hct a ha, by
    obtain ⟨-, -, -, -, -, -, e, -⟩ := hrow a ha
    exact e.symm⟩
  have hab : ∀ M, y_abv (y_ct σ cn) cn sp M nr = y_abv (w_ct (σ.1 26) cn) cn sp M nr := fun M => w_abv hct
  have hb : ∀ a, a < nr → -4000000000 ≤ (σ.2 27 a).toInt ∧ (σ.2 27 a).toInt ≤ 4000000000 := fun a ha => by
    obtain ⟨-, -, -, -, -, -, -, -, e, -⟩ := hrow a ha
    exact e
  refine ⟨cn, sp, (y_tot (w_ct (σ.1 26) cn) (σ.2 27) nr).toInt.toNat, z_prod cn nr, kn, v0, v1, h29, h31, h33, fun a ha => ?_, fun h => ?_, fun a ha _ => z_prod_dv ha, z_prod_pos fun a ha => ?_, z_big64 hp ?_ (z_totn h400 hb), ?_, ?_⟩
  · obtain ⟨-, -, e55, e4, -, -, -, e28, -, e9, e10⟩ := hrow a ha
    exact ⟨e55, e4.1, by omega, by rw [← e28]; exact e9, by omega⟩
  · rw [hsum] at h ⊢
    obtain ⟨a1, a2, a3⟩ := z_tot_T h400 hb h
    exact ⟨a1, a2, by omega⟩
  · obtain ⟨-, -, -, e4, -⟩ := hrow a ha
    exact e4.1
  · refine Nat.le_trans (z_ssp_b (b := 3200000000000) fun a ha => ?_) (Nat.mul_le_mul_right _ h400)
    obtain ⟨-, -, -, -, -, -, -, -, -, -, e⟩ := hrow a ha
    exact e
  · rw [hsum]
    rcases hR with ⟨rfl, h⟩ | ⟨rfl, h, -⟩
    · exact ⟨fun z => (by cases z), fun z => absurd z h⟩
    · exact ⟨fun _ => h, fun _ => rfl⟩
  · intro hkn M hM hd
    rcases hR with ⟨rfl, h⟩ | ⟨rfl, h, h2⟩
    · cases hkn
    · obtain ⟨a1, a2⟩ := h2 M hM (fun a ha hc => hd a ha (by rw [hct a ha]; exact hc))
      rw [hab]
      exact ⟨a1, a2⟩
theorem w_d32 {v k : Nat} (h : v < 65536 ^ 20) (hk : 10 ≤ k) : y_d32 v k = 0 := by
  unfold y_d32
  have h1 : (65536 : Nat) ^ 20 = 4294967296 ^ 10 := by decide
  have h2 : (4294967296 : Nat) ^ 10 ≤ 4294967296 ^ k := Nat.pow_le_pow_right (by decide) hk
  rw [Nat.div_eq_of_lt (by omega)]
theorem w_y_fm : ∀ m, m < 13 → ∀ j, j < 26 → -127 ≤ (y_fm m j).toInt ∧ (y_fm m j).toInt ≤ 127 := by decide +kernel
theorem w_own {f11 f12 f13 : Nat → Int32} {σ : x_S} {n c : Nat} (hG : w_G f11 f12 f13 (σ.1 40) (σ.1 41) n c) (hn : 0 < n) {h k q : Int32} (hx : mm_ix (h, k, q)) : z_own f12 f13 n c h k q = y_own σ n h k q := by
  unfold z_own y_own
  rw [w_isg hG hn (w_sm_ix hG hn hx), w_absent hG]
theorem w_c3 {f11 f12 f13 : Nat → Int32} {σ : x_S} {n c : Nat} (hG : w_G f11 f12 f13 (σ.1 40) (σ.1 41) n c) (hn : 0 < n) {m : Nat} (hm : m < 13) : z_c3 f12 f13 n c m = y_c3 σ n m := by
  unfold z_c3 y_c3
  refine y_sum_eq fun i hi => ?_
  unfold z_c2 y_c2
  refine y_sum_eq fun j hj => ?_
  unfold z_c1 y_c1
  refine w_cnb fun k hk => ?_
  have hi1 : mm_i1 (nI i) := by
    unfold mm_i1
    rw [nI_toInt (by omega)]
    omega
  exact w_own hG hn ⟨hi1, w_y_fm m hm j (by omega), w_y_fm m hm k (by omega)⟩
theorem w_wp {u : mm_V} (hu : mm_sml u) (h0 : u ≠ (0, 0, 0)) (a mo : Int32) : (decide (a = 0) && z_box (z_part (mm_pk u) 0) (z_part (mm_pk u) 1) (z_part (mm_pk u) 2) mo) = y_wp a (mm_kv u) mo 3 := by
  obtain ⟨p0, p1, p2⟩ := mm_zpart hu
  obtain ⟨x0, x1, x2⟩ := mm_xpart hu
  have z0 : mm_s1 0 := (by decide : (-511 : Int) ≤ (0 : Int32).toInt ∧ (0 : Int32).toInt ≤ 511)
  have hne : ¬ mm_kv u = x_key (nI 0) (nI 0) (nI 0) := fun z => h0 (mm_kv_inj hu (w := (0, 0, 0)) ⟨z0, z0, z0⟩ z)
  show _ = (((((decide (a = 0) && !decide (mm_kv u = x_key (nI 0) (nI 0) (nI 0))) && y_w3 (mm_kv u) mo 0) && y_w3 (mm_kv u) mo 1)) && y_w3 (mm_kv u) mo 2)
  unfold y_w3 z_box
  rw [p0, p1, p2, x0, x1, x2 2 (Nat.le_refl 2), decide_eq_false hne]
  simp only [Bool.not_false, Bool.and_true, Bool.and_assoc]
section PE
variable {l : Launch} {Y : x_Y} {σ : x_S} {κ : Nat}
theorem pr_row (hl : l.stackTraces = false) (hI : w_I σ κ) (hκ : κ < 512) (p1 p2 : Int32) : ∃ post1 : Option Value → x_S → Prop, x_MH l yL_row cL_row 5 (some .int) [(0, 9, 12, 25)] 8 1 Y [.ref 0, .int p1, .int p2, .ref 63] σ post1 ∧ ∀ r τ, post1 r τ → ∃ kq : Nat, kq < 4 ∧ r = some (.int (nI kq)) ∧ ∃ post2 : Option Value → x_S → Prop, x_M l yX12_row cX12_row 5 (some .long) 1 Y [.ref 38, .int p1, .int p2] τ post2 ∧ ∀ r2 τ2, post2 r2 τ2 → ∃ b, r2 = some (.long b) ∧ τ2.1 38 0 = nI kq ∧ (kq = 0 → τ2.2 63 0 = b) ∧ w_I τ2 (κ + 1) := by
  obtain ⟨t, n, c, N, nr, ht, hg, hr, hm, hv, hn, hb, hk⟩ := id hI
  obtain ⟨m1, m2, h400, cn, sp, kn, v0, v1, hrow, hp, -⟩ := hm
  have hc1 : ∀ a, a < nr → σ.1 24 a = nI (cn a) ∧ cn a ≤ 3000 ∧ x_ab (σ.2 27 a) = lN (x_ab (σ.2 27 a)).toInt.toNat ∧ (x_ab (σ.2 27 a)).toInt.toNat < 2 ^ 63 ∧ 0 < cn a := fun a ha => by
    obtain ⟨-, e24, -, e4, -, -, -, -, e8, -⟩ := hrow a ha
    exact ⟨e24, by omega, (w_ab e8).1, (w_ab e8).2, e4.1⟩
  have hc2 : ∀ a, a < nr → σ.1 55 a = nI (cn a) ∧ cn a ≤ 3000 ∧ x_ab (σ.2 58 a) = lN (x_ab (σ.2 27 a)).toInt.toNat ∧ (x_ab (σ.2 27 a)).toInt.toNat < 2 ^ 63 ∧ 0 < cn a := fun a ha => by
    obtain ⟨-, -, e55, e4, -, -, e7, -, e8, -⟩ := hrow a ha
    rw [← e7]
    exact ⟨e55, by omega, (w_ab e8).1, (w_ab e8).2, e4.1⟩
  refine ⟨_, c_L_row p1 p2 (c_X11_row l hl Y σ p1 p2 nr cn (fun a => (x_ab (σ.2 27 a)).toInt.toNat) hc1 (by omega) m1) (by decide) (fun r τ h => by obtain ⟨_, _, _, _, _, _, h, _⟩ := h; exact ⟨_, h⟩) (fun E τ h => h.2.1), ?_⟩
  rintro r τ (⟨v, τ0, ⟨iq, wq, h1, h2, rfl, rfl, h3, hτ0⟩, rfl, hτ⟩ | ⟨E, ⟨h1, rfl, hτ⟩, rfl⟩)
  · cases h3
    rw [hτ0] at hτ
    refine ⟨0, by decide, rfl, _, c_X12_row l Y τ (nI iq) (nI wq) nr (by rw [hτ]; exact m2) (by omega) cn (fun a => (x_ab (σ.2 27 a)).toInt.toNat) (by rw [hτ]; exact hc2), ?_⟩
    rintro q2 τ2 (⟨i', w', a1, a2, e1, e2, rfl, hτ2⟩ | ⟨g, -⟩)
    · have e1 := w_nI (by omega) (by omega) e1
      have e2 := w_nI (by omega) (by omega) e2
      subst e1; subst e2
      refine ⟨_, rfl, by rw [hτ2]; rfl, fun _ => ?_, by rw [hτ2, hτ]; exact w_I_u (w_I_w hI _) hκ _⟩
      have f56 : τ.1 56 = σ.1 56 ∧ τ.1 57 = σ.1 57 ∧ τ.2 58 = σ.2 58 ∧ τ.2 59 = σ.2 59 ∧ τ.2 54 = σ.2 54 := by rw [hτ]; exact ⟨rfl, rfl, rfl, rfl, rfl⟩
      rw [f56.1, f56.2.1, f56.2.2.1, f56.2.2.2.1, f56.2.2.2.2, hτ2, hτ]
      obtain ⟨⟨u, u1, u2, e23, e54⟩, -, -, -, e5, e6, e7, e8, -⟩ := hrow iq h1
      obtain ⟨p0, p1, p2⟩ := mm_zpart u1
      obtain ⟨x0, x1, x2⟩ := mm_xpart u1
      show (if wq = 3 then lN (cn iq) else if wq = 4 then (σ.1 25 iq).toInt64 else if wq = 5 then (if σ.1 26 iq = 0 then 0 else 1) else if wq = 6 then σ.2 27 iq else if wq = 7 then σ.2 27 iq / lN (Nat.gcd (x_ab (σ.2 27 iq)).toInt.toNat (cn iq)) else if wq = 8 then lN (cn iq / Nat.gcd (x_ab (σ.2 27 iq)).toInt.toNat (cn iq)) else if wq = 9 then σ.2 28 iq else (z_part (σ.1 23 iq) wq).toInt64) = _
      rw [e5, e6, e7, e8, e23, e54]
      refine w_ite (fun _ => rfl) fun n3 => w_ite (fun _ => rfl) fun n4 => w_ite (fun _ => rfl) fun n5 => w_ite (fun _ => rfl) fun n6 => w_ite (fun _ => rfl) fun n7 => w_ite (fun _ => rfl) fun n8 => w_ite (fun _ => rfl) fun n9 => ?_
      rcases (show wq = 0 ∨ wq = 1 ∨ wq = 2 by omega) with rfl | rfl | rfl
      · rw [p0, x0]
      · rw [p1, x1]
      · rw [p2, x2 2 (Nat.le_refl 2)]
    · exact absurd ⟨⟨iq, h1, rfl⟩, ⟨wq, h2, rfl⟩⟩ g
  · refine ⟨1, by decide, by rw [x_cd1], _, c_X12_row l Y τ p1 p2 nr (by rw [hτ]; exact m2) (by omega) cn (fun a => (x_ab (σ.2 27 a)).toInt.toNat) (by rw [hτ]; exact hc2), ?_⟩
    rintro q2 τ2 (⟨i', k', a1, a2, rfl, rfl, -⟩ | ⟨-, rfl, hτ2⟩)
    · exact absurd ⟨⟨i', a1, rfl⟩, ⟨k', a2, rfl⟩⟩ h1
    · exact ⟨_, rfl, by rw [hτ2]; rfl, fun z => absurd z (by decide), by rw [hτ2, hτ]; exact w_I_u hI hκ _⟩
theorem w_I_g {σ : x_S} {κ : Nat} (h : w_I σ κ) (hκ : κ < 512) (g : Nat → Int32) : w_I (x_st σ [(38, 0, nI 0)] [(61, g)] []) (κ + 1) := by
  obtain ⟨t, n, c, N, nr, ht, hg, hr, hm, hv, hn, hb, -⟩ := h
  exact ⟨t, n, c, N, nr, ht, hg, hr, hm, hv, hn, by omega, by omega⟩
theorem pr_digits (hl : l.stackTraces = false) (hI : w_I σ κ) (hκ : κ < 512) (p1 : Int32) : ∃ post1 : Option Value → x_S → Prop, x_MH l yL_digits cL_digits 4 (some .int) [(0, 9, 12, 25)] 8 1 Y [.ref 0, .int p1, .ref 63] σ post1 ∧ ∀ r τ, post1 r τ → ∃ kq : Nat, kq < 4 ∧ r = some (.int (nI kq)) ∧ ∃ post2 : Option Value → x_S → Prop, x_M l yX12_digits cX12_digits 4 (some .int) 3 Y [.ref 38, .int p1] τ post2 ∧ ∀ r2 τ2, post2 r2 τ2 → ∃ b, r2 = some (.int b) ∧ τ2.1 38 0 = nI kq ∧ (kq = 0 → τ2.2 63 0 = b.toInt64) ∧ w_I τ2 (κ + 1) := by
  obtain ⟨t, n, c, N, nr, ht, hg, hr, hm, hv, hn, hb, hk⟩ := id hI
  obtain ⟨cn, sp, T, N0, kn, v0, v1, h29, h31, h33, hq⟩ := w_quo hm.2.2
  have h400 := hm.2.2.1
  refine ⟨_, c_L_digits p1 (c_X11_digitsQ l hl Y σ p1 kn h29 v0 v1 h31 h33) (by decide) (fun r τ h => by obtain ⟨_, _, _, ⟨_, h, _⟩ | ⟨_, _, ⟨h, _⟩, _⟩⟩ := h <;> exact ⟨_, h⟩) (fun E τ h => h.2.1), ?_⟩
  rintro r τ (⟨v, τ0, ⟨wq, hw, rfl, h3⟩, rfl, hτ⟩ | ⟨E, ⟨h1, rfl, hτ⟩, rfl⟩)
  · have hτ0 : τ0 = σ := by rcases h3 with ⟨-, -, h⟩ | ⟨-, kd, ⟨-, h⟩, -⟩ <;> exact h
    rw [hτ0] at hτ
    have hq' : w_qt τ nr cn sp T N0 kn v0 v1 := by rw [hτ]; exact hq
    obtain ⟨q1, q2, q3, q4, q5, q6, q7⟩ := hq'
    refine ⟨0, by decide, rfl, _, c_X12_digits l Y τ (nI wq) nr (by rw [hτ]; exact hm.2.1) (by omega) cn sp q1 T N0 q2 q3 q4 q5, ?_⟩
    rintro r2 τ2 (⟨g, -⟩ | ⟨w', a1, e1, ⟨g, rfl, hτ2⟩ | ⟨g, gg, M, kk, ⟨rfl, hτ2⟩, hM, hMd, -, -, hnd⟩⟩)
    · exact absurd ⟨wq, hw, rfl⟩ g
    · rcases h3 with ⟨-, h3, -⟩ | ⟨h3, -⟩
      · cases h3
        refine ⟨_, rfl, by rw [hτ2]; rfl, fun _ => by rw [hτ2, hτ]; rfl, by rw [hτ2, hτ]; exact w_I_u (w_I_w hI _) hκ _⟩
      · exact absurd (q6.mp h3) g
    · have e1 := w_nI (by omega) (by omega) e1
      subst e1
      rcases h3 with ⟨h3, -⟩ | ⟨h3, kd, ⟨h4, -⟩, hnd2⟩
      · rw [q6.mpr g] at h3; cases h3
      · cases h4
        obtain ⟨y1, y2⟩ := q7 h3 M hM hMd
        have ek : kd = kk := by
          rw [← y1, ← y2] at hnd
          exact y_nd_un hnd2 hnd
        subst ek
        exact ⟨_, rfl, by rw [hτ2]; rfl, fun _ => by rw [hτ2, hτ]; rfl, by rw [hτ2, hτ]; exact w_I_g (w_I_w hI _) hκ _⟩
  · have hq' : w_qt τ nr cn sp T N0 kn v0 v1 := by rw [hτ]; exact hq
    obtain ⟨q1, q2, q3, q4, q5, q6, q7⟩ := hq'
    refine ⟨1, by decide, by rw [x_cd1], _, c_X12_digits l Y τ p1 nr (by rw [hτ]; exact hm.2.1) (by omega) cn sp q1 T N0 q2 q3 q4 q5, ?_⟩
    rintro r2 τ2 (⟨-, rfl, hτ2⟩ | ⟨w', a1, rfl, -⟩)
    · exact ⟨_, rfl, by rw [hτ2]; rfl, fun z => absurd z (by decide), by rw [hτ2, hτ]; exact w_I_u hI hκ _⟩
    · exact absurd ⟨w', a1, rfl⟩ h1
theorem pr_digit (hl : l.stackTraces = false) (hI : w_I σ κ) (hκ : κ < 512) (p1 p2 : Int32) : ∃ post1 : Option Value → x_S → Prop, x_MH l yL_digit cL_digit 5 (some .int) [(0, 10, 13, 25)] 8 1 Y [.ref 0, .int p1, .int p2, .ref 63] σ post1 ∧ ∀ r τ, post1 r τ → ∃ kq : Nat, kq < 4 ∧ r = some (.int (nI kq)) ∧ ∃ post2 : Option Value → x_S → Prop, x_M l yX12_digit cX12_digit 3 (some .int) 3 Y [.ref 38, .int p1, .int p2] τ post2 ∧ ∀ r2 τ2, post2 r2 τ2 → ∃ b, r2 = some (.int b) ∧ τ2.1 38 0 = nI kq ∧ (kq = 0 → τ2.2 63 0 = b.toInt64) ∧ w_I τ2 (κ + 1) := by
  obtain ⟨t, n, c, N, nr, ht, hg, hr, hm, hv, hn, hb, hk⟩ := id hI
  obtain ⟨cn, sp, T, N0, kn, v0, v1, h29, h31, h33, hq⟩ := w_quo hm.2.2
  have h400 := hm.2.2.1
  refine ⟨_, c_L_digit p1 p2 (c_X11_digitQ l hl Y σ p1 p2 kn h29 v0 v1 h31 h33) (by decide) (fun r τ h => by obtain ⟨_, _, _, ⟨_, h, _⟩ | ⟨_, ⟨_, _, _, h, _⟩ | ⟨_, h, _⟩⟩⟩ := h <;> exact ⟨_, h⟩) (fun E τ h => h.2.1), ?_⟩
  rintro r τ (⟨v, τ0, ⟨wq, hw, rfl, h3⟩, rfl, hτ⟩ | ⟨E, ⟨h1, rfl, hτ⟩, rfl⟩)
  · have hτ0 : τ0 = σ := by rcases h3 with ⟨-, -, h⟩ | ⟨-, ⟨j, -, -, -, h⟩ | ⟨-, -, h⟩⟩ <;> exact h
    rw [hτ0] at hτ
    have hq' : w_qt τ nr cn sp T N0 kn v0 v1 := by rw [hτ]; exact hq
    obtain ⟨q1, q2, q3, q4, q5, q6, q7⟩ := hq'
    refine ⟨0, by decide, rfl, _, c_X12_digit l Y τ (nI wq) p2 nr (by rw [hτ]; exact hm.2.1) (by omega) cn sp q1 T N0 q2 q3 q4 q5, ?_⟩
    rintro r2 τ2 (⟨g, -⟩ | ⟨w', a1, e1, ⟨g, rfl, hτ2⟩ | ⟨kq, hkq, rfl, ⟨g, rfl, hτ2⟩ | ⟨g, gg, M, ⟨rfl, hτ2⟩, hM, hMd, -, -⟩⟩⟩)
    · exact absurd ⟨wq, hw, rfl⟩ g
    · have hv : v = nI 0 := by
        rcases h3 with ⟨-, h3, -⟩ | ⟨-, ⟨j, hj, rfl, -⟩ | ⟨-, h3, -⟩⟩
        · cases h3; rfl
        · exact absurd ⟨j, by omega, rfl⟩ g
        · cases h3; rfl
      subst hv
      exact ⟨_, rfl, by rw [hτ2]; rfl, fun _ => by rw [hτ2, hτ]; rfl, by rw [hτ2, hτ]; exact w_I_u (w_I_w hI _) hκ _⟩
    · have hv : v = nI 0 := by
        rcases h3 with ⟨-, h3, -⟩ | ⟨h3, -⟩
        · cases h3; rfl
        · exact absurd (q6.mp h3) g
      subst hv
      exact ⟨_, rfl, by rw [hτ2]; rfl, fun _ => by rw [hτ2, hτ]; rfl, by rw [hτ2, hτ]; exact w_I_u (w_I_w hI _) hκ _⟩
    · have e1 := w_nI (by omega) (by omega) e1
      subst e1
      have hkn := q6.mpr g
      obtain ⟨y1, y2⟩ := q7 hkn M hM hMd
      rw [← y1, ← y2]
      have hv : v = nI (y_d32 (if wq = 0 then v0 else v1) kq) := by
        rcases h3 with ⟨h3, -⟩ | ⟨-, ⟨j, hj, e2, h3, -⟩ | ⟨h4, h3, -⟩⟩
        · rw [hkn] at h3; cases h3
        · have e2 := w_nI (by omega) (by omega) e2
          subst e2
          cases h3
          rfl
        · cases h3
          have h10 : 10 ≤ kq := by
            rcases Nat.lt_or_ge kq 10 with h5 | h5
            · exact absurd ⟨kq, h5, rfl⟩ h4
            · exact h5
          rw [w_d32 ?_ h10]
          split
          · exact (h31 hkn).1
          · exact (h33 hkn).1
      subst hv
      exact ⟨_, rfl, by rw [hτ2]; rfl, fun _ => by rw [hτ2, hτ]; rfl, by rw [hτ2, hτ]; exact w_I_g (w_I_w hI _) hκ _⟩
  · have hq' : w_qt τ nr cn sp T N0 kn v0 v1 := by rw [hτ]; exact hq
    obtain ⟨q1, q2, q3, q4, q5, q6, q7⟩ := hq'
    refine ⟨1, by decide, by rw [x_cd1], _, c_X12_digit l Y τ p1 p2 nr (by rw [hτ]; exact hm.2.1) (by omega) cn sp q1 T N0 q2 q3 q4 q5, ?_⟩
    rintro r2 τ2 (⟨-, rfl, hτ2⟩ | ⟨w', a1, rfl, -⟩)
    · exact ⟨_, rfl, by rw [hτ2]; rfl, fun z => absurd z (by decide), by rw [hτ2, hτ]; exact w_I_u hI hκ _⟩
    · exact absurd ⟨w', a1, rfl⟩ h1
theorem pr_violations (hl : l.stackTraces = false) (hI : w_I σ κ) (hκ : κ < 512) (p1 : Int32) : ∃ post1 : Option Value → x_S → Prop, x_MH l yL_violations cL_violations 4 (some .int) [(0, 9, 12, 13), (0, 9, 15, 19)] 8 2 Y [.ref 0, .int p1, .ref 63] σ post1 ∧ ∀ r τ, post1 r τ → ∃ kq : Nat, kq < 4 ∧ r = some (.int (nI kq)) ∧ ∃ post2 : Option Value → x_S → Prop, x_M l yX12_violations cX12_violations 3 (some .int) 2 Y [.ref 38, .int p1] τ post2 ∧ ∀ r2 τ2, post2 r2 τ2 → ∃ b, r2 = some (.int b) ∧ τ2.1 38 0 = nI kq ∧ (kq = 0 → τ2.2 63 0 = b.toInt64) ∧ w_I τ2 (κ + 1) := by
  obtain ⟨t, n, c, N, nr, ht, hg, hr, hm, hv, hn, hb, hk⟩ := id hI
  obtain ⟨g1, g2, g3, g4, g5, hG⟩ := id hg
  have hvio : ∀ i, i < N → z_vio σ n p1 i = y_vio σ n p1 i := fun i hi => by
    obtain ⟨k0, k1, k2, k3, k4⟩ := w_kp hr.2.2.1 hr.2.2.2 hi
    unfold z_vio y_vio
    rw [k0, k1, k2, k3, k4, w_absent hG]
    rfl
  refine ⟨_, c_L_violations p1 (c_X11_violations l hl Y σ p1 n g1 g4 N hr.1 (by omega)) (by decide) (fun r τ h => by obtain ⟨_, _, _, ⟨h, _⟩, _⟩ := h; exact ⟨_, h⟩) (fun E τ h => by rcases h with ⟨-, h, -⟩ | ⟨-, -, h, -⟩ <;> simp [h]), ?_⟩
  rintro r τ (⟨v, τ0, ⟨h1, h2, f37, ⟨h3, hτ0⟩, hf37⟩, rfl, hτ⟩ | ⟨E, ⟨h1, rfl, hτ⟩ | ⟨h1, h2, rfl, hτ⟩, rfl⟩)
  · cases h3
    rw [hτ0] at hτ
    refine ⟨0, by decide, rfl, _, c_X12_violations l Y τ p1 n (by rw [hτ]; exact g3) g4 N (by rw [hτ]; exact hr.2.1) (by omega), ?_⟩
    have hyv : y_vio τ n p1 = y_vio σ n p1 := by rw [hτ]; rfl
    rw [hyv]
    rintro r2 τ2 (⟨g, -⟩ | ⟨-, g, -⟩ | ⟨-, -, f62, ⟨rfl, hτ2⟩, hf62⟩)
    · exact absurd g h1
    · exact absurd h2 g
    · have hc := w_cnb hvio
      rw [← hc] at hτ2
      rw [← hc]
      refine ⟨_, rfl, by rw [hτ2]; rfl, fun _ => by rw [hτ2, hτ]; rfl, ?_⟩
      have hle := y_cnb_le (z_vio σ n p1) N
      refine ⟨t, n, c, N, nr, by rw [hτ2, hτ]; exact ht, by rw [hτ2, hτ]; exact hg, by rw [hτ2, hτ]; exact hr, by rw [hτ2, hτ]; exact hm, ?_, by rw [hτ2, hτ]; exact hn, by omega, by omega⟩
      refine ⟨y_cnb (z_vio σ n p1) N, by rw [hτ2, hτ]; rfl, by rw [hτ2]; rfl, by omega, fun j hj => ?_⟩
      have c37 : τ2.1 37 = f37 ∧ τ2.1 62 = f62 := by rw [hτ2, hτ]; exact ⟨rfl, rfl⟩
      rw [c37.1, c37.2]
      obtain ⟨i, hi, hp, e⟩ := w_cnb_s hj
      have e2 := w_cnb (n := i) (fun k hk => hvio k (by omega))
      have a1 := hf37 i hi hp
      have a2 := hf62 i hi (by rw [← hvio i hi]; exact hp)
      rw [← e2, e] at a2
      rw [e] at a1
      rw [a1, a2]
  · refine ⟨1, by decide, by rw [x_cd1], _, c_X12_violations l Y τ p1 n (by rw [hτ]; exact g3) g4 N (by rw [hτ]; exact hr.2.1) (by omega), ?_⟩
    rintro r2 τ2 (⟨-, rfl, hτ2⟩ | ⟨g, -⟩ | ⟨g, -⟩)
    · exact ⟨_, rfl, by rw [hτ2]; rfl, fun z => absurd z (by decide), by rw [hτ2, hτ]; exact w_I_u hI hκ _⟩
    · exact absurd h1 g
    · exact absurd h1 g
  · refine ⟨2, by decide, by rw [x_cd2 x_e12], _, c_X12_violations l Y τ p1 n (by rw [hτ]; exact g3) g4 N (by rw [hτ]; exact hr.2.1) (by omega), ?_⟩
    rintro r2 τ2 (⟨g, -⟩ | ⟨-, -, rfl, hτ2⟩ | ⟨-, g, -⟩)
    · exact absurd g h1
    · exact ⟨_, rfl, by rw [hτ2]; rfl, fun z => absurd z (by decide), by rw [hτ2, hτ]; exact w_I_u hI hκ _⟩
    · exact absurd g h2
theorem pr_violation (hI : w_I σ κ) (hκ : κ < 512) (p1 : Int32) : ∃ post1 : Option Value → x_S → Prop, x_M l yX11_violation cX11_violation 2 (some .int) 1 Y [.ref 0, .int p1] σ post1 ∧ ∀ r τ, post1 r τ → ∃ a, r = some (.int a) ∧ ∃ post2 : Option Value → x_S → Prop, x_M l yX12_violation cX12_violation 2 (some .int) 1 Y [.ref 38, .int p1] τ post2 ∧ ∀ r2 τ2, post2 r2 τ2 → r2 = some (.int a) ∧ w_I τ2 (κ + 1) := by
  obtain ⟨t, n, c, N, nr, ht, hg, hr, hm, hv, hn, hb, hk⟩ := id hI
  obtain ⟨fo, v1, v2, v3, v4⟩ := hv
  refine ⟨_, c_X11_violation l Y σ p1 fo v1 v3, ?_⟩
  rintro r τ (⟨iq, h1, rfl, rfl, hτ⟩ | ⟨h1, rfl, hτ⟩)
  · refine ⟨_, rfl, _, c_X12_violation l Y τ (nI iq) fo (by rw [hτ]; exact v2) v3, ?_⟩
    rintro r2 τ2 (⟨j, h2, e1, rfl, hτ2⟩ | ⟨g, -⟩)
    · have e1 := w_nI (by omega) (by omega) e1
      subst e1
      exact ⟨by rw [hτ, v4 iq h1], by rw [hτ2, hτ]; exact w_I_u hI hκ _⟩
    · exact absurd ⟨iq, h1, rfl⟩ g
  · refine ⟨_, rfl, _, c_X12_violation l Y τ p1 fo (by rw [hτ]; exact v2) v3, ?_⟩
    rintro r2 τ2 (⟨j, h2, rfl, -⟩ | ⟨-, rfl, hτ2⟩)
    · exact absurd ⟨j, h2, rfl⟩ h1
    · exact ⟨rfl, by rw [hτ2, hτ]; exact w_I_u hI hκ _⟩
theorem pr_complete (hl : l.stackTraces = false) (hI : w_I σ κ) (hκ : κ < 512) (p1 p2 : Int32) : ∃ post1 : Option Value → x_S → Prop, x_MH l yL_complete cL_complete 5 (some .int) [(0, 10, 13, 13), (0, 10, 17, 19), (0, 10, 21, 25)] 8 2 Y [.ref 0, .int p1, .int p2, .ref 63] σ post1 ∧ ∀ r τ, post1 r τ → ∃ kq : Nat, kq < 4 ∧ r = some (.int (nI kq)) ∧ ∃ post2 : Option Value → x_S → Prop, x_M l yX12_complete cX12_complete 8 (some .int) 2 Y [.ref 38, .int p1, .int p2] τ post2 ∧ ∀ r2 τ2, post2 r2 τ2 → ∃ b, r2 = some (.int b) ∧ τ2.1 38 0 = nI kq ∧ (kq = 0 → τ2.2 63 0 = b.toInt64) ∧ w_I τ2 (κ + 1) := by
  obtain ⟨t, n, c, N, nr, ht, hg, hr, hm, hv, hn, hb, hk⟩ := id hI
  obtain ⟨g1, g2, g3, g4, g5, hG⟩ := id hg
  obtain ⟨m1, m2, h400, cn, sp, kn, v0, v1, hrow, hp, -⟩ := hm
  refine ⟨_, c_L_complete p1 p2 (c_X11_complete l hl Y σ p1 p2 n g1 g4 c g2 (by omega) nr m1 (by omega)) (by decide) (fun r τ h => by obtain ⟨_, _, _, _, _, ⟨_, h⟩ | ⟨_, h⟩, _⟩ := h <;> exact ⟨_, h⟩) (fun E τ h => by rcases h with ⟨-, h, -⟩ | ⟨-, -, h, -⟩ | ⟨-, -, -, h, -⟩ <;> simp [h]), ?_⟩
  have key : ∀ τ : x_S, τ.1 57 = σ.1 57 → τ.2 54 = σ.2 54 → ∀ mo, y_cnb (fun a => decide (σ.1 26 a = 0) && z_box (z_part (σ.1 23 a) 0) (z_part (σ.1 23 a) 1) (z_part (σ.1 23 a) 2) mo) nr = y_cnb (fun q => y_wp (τ.1 57 q) (τ.2 54 q) mo 3) nr := fun τ e1 e2 mo => w_cnb fun a ha => by
    obtain ⟨⟨u, u1, u2, e23, e54⟩, -, -, -, e5, e6, -⟩ := hrow a ha
    rw [e1, e2, e23, e54, e6]
    exact w_wp u1 u2 _ _
  rintro r τ (⟨v, τ0, ⟨mq, h1, h2, h3, rfl, h4, hτ0⟩, rfl, hτ⟩ | ⟨E, ⟨h1, rfl, hτ⟩ | ⟨h1, h2, rfl, hτ⟩ | ⟨h1, h2, h3, rfl, hτ⟩, rfl⟩)
  · rw [hτ0] at hτ
    refine ⟨0, by decide, rfl, _, c_X12_complete l Y τ (nI mq) p2 n (by rw [hτ]; exact g3) g4 nr (by rw [hτ]; exact m2) (by omega), ?_⟩
    rintro r2 τ2 (⟨g, -⟩ | ⟨-, g, -⟩ | ⟨-, -, g, -⟩ | ⟨m', -, a1, a2, e1, h5, hτ2⟩)
    · exact absurd g h1
    · exact absurd ⟨mq, h2, h3, rfl⟩ g
    · rcases h4 with ⟨rfl, -⟩ | ⟨rfl, -⟩
      · exact absurd ⟨0, by decide, rfl⟩ g
      · exact absurd ⟨1, by decide, rfl⟩ g
    · have e1 := w_nI (by omega) (by omega) e1
      subst e1
      have hr2 : r2 = some (.int v) := by
        rcases h4 with ⟨rfl, h4⟩ | ⟨rfl, h4⟩
        · rcases h5 with ⟨-, rfl⟩ | ⟨h5, -⟩
          · cases h4
            rw [key τ (by rw [hτ]; rfl) (by rw [hτ]; rfl)]
          · exact absurd h5 (by decide)
        · rcases h5 with ⟨h5, -⟩ | ⟨-, rfl⟩
          · exact absurd h5 (by decide)
          · cases h4
            have : y_c3 τ n mq = y_c3 σ n mq := by rw [hτ]; rfl
            rw [this, w_c3 (σ := σ) hG (by omega) h3]
      subst hr2
      exact ⟨_, rfl, by rw [hτ2]; rfl, fun _ => by rw [hτ2, hτ]; rfl, by rw [hτ2, hτ]; exact w_I_u (w_I_w hI _) hκ _⟩
  · refine ⟨1, by decide, by rw [x_cd1], _, c_X12_complete l Y τ p1 p2 n (by rw [hτ]; exact g3) g4 nr (by rw [hτ]; exact m2) (by omega), ?_⟩
    rintro r2 τ2 (⟨-, rfl, hτ2⟩ | ⟨g, -⟩ | ⟨g, -⟩ | ⟨m', g, -⟩)
    · exact ⟨_, rfl, by rw [hτ2]; rfl, fun z => absurd z (by decide), by rw [hτ2, hτ]; exact w_I_u hI hκ _⟩
    · exact absurd h1 g
    · exact absurd h1 g
    · exact absurd h1 g
  · refine ⟨2, by decide, by rw [x_cd2 x_e12], _, c_X12_complete l Y τ p1 p2 n (by rw [hτ]; exact g3) g4 nr (by rw [hτ]; exact m2) (by omega), ?_⟩
    rintro r2 τ2 (⟨g, -⟩ | ⟨-, -, rfl, hτ2⟩ | ⟨-, g, -⟩ | ⟨m', -, a1, a2, rfl, -⟩)
    · exact absurd g h1
    · exact ⟨_, rfl, by rw [hτ2]; rfl, fun z => absurd z (by decide), by rw [hτ2, hτ]; exact w_I_u hI hκ _⟩
    · exact absurd g h2
    · exact absurd ⟨m', a1, a2, rfl⟩ h2
  · refine ⟨3, by decide, by rw [x_cd3 x_e13 x_e23], _, c_X12_complete l Y τ p1 p2 n (by rw [hτ]; exact g3) g4 nr (by rw [hτ]; exact m2) (by omega), ?_⟩
    rintro r2 τ2 (⟨g, -⟩ | ⟨-, g, -⟩ | ⟨-, -, -, rfl, hτ2⟩ | ⟨m', -, a1, a2, rfl, h5, -⟩)
    · exact absurd g h1
    · exact absurd h2 g
    · exact ⟨_, rfl, by rw [hτ2]; rfl, fun z => absurd z (by decide), by rw [hτ2, hτ]; exact w_I_u hI hκ _⟩
    · rcases h5 with ⟨rfl, -⟩ | ⟨rfl, -⟩
      · exact absurd ⟨0, by decide, rfl⟩ h3
      · exact absurd ⟨1, by decide, rfl⟩ h3
end PE
