/-! ===== bits of a limb ===== -/
theorem y_tb {s H b l : Nat} (hb : b < 2) (hl : l < 2 ^ s) (j : Nat) : (2 ^ (s + 1) * H + (2 ^ s * b + l)).testBit j = if j < s then l.testBit j else if j = s then decide (b = 1) else H.testBit (j - (s + 1)) := by
  have h1 : 2 ^ s * b + l < 2 ^ (s + 1) := by
    rw [Nat.pow_succ]
    have : 2 ^ s * b ≤ 2 ^ s * 1 := Nat.mul_le_mul_left _ (by omega)
    omega
  rw [Nat.testBit_two_pow_mul_add _ h1]
  by_cases c : j < s + 1
  · rw [if_pos c, Nat.testBit_two_pow_mul_add _ hl]
    by_cases c2 : j < s
    · rw [if_pos c2, if_pos c2]
    · have e : j = s := by omega
      subst e
      rw [if_neg c2, if_neg c2, if_pos rfl, Nat.sub_self]
      rcases (show b = 0 ∨ b = 1 by omega) with rfl | rfl <;> rfl
  · rw [if_neg c, if_neg (by omega), if_neg (by omega)]
theorem y_sp (a s : Nat) : a = 2 ^ (s + 1) * (a / 2 ^ (s + 1)) + (2 ^ s * (a / 2 ^ s % 2) + a % 2 ^ s) := by
  have h1 := Nat.div_add_mod a (2 ^ (s + 1))
  have h2 : a % 2 ^ (s + 1) = a % 2 ^ s + 2 ^ s * (a / 2 ^ s % 2) := Nat.mod_pow_succ
  omega
theorem y_cb {a s : Nat} (hs : s < 16) (ha : a < 65536) : a &&& (4294967296 - (2 ^ s + 1)) = 2 ^ (s + 1) * (a / 2 ^ (s + 1)) + (2 ^ s * 0 + a % 2 ^ s) := by
  have hl : a % 2 ^ s < 2 ^ s := Nat.mod_lt _ (Nat.two_pow_pos s)
  have hb : a / 2 ^ s % 2 < 2 := Nat.mod_lt _ (by decide)
  have h32 : 2 ^ s < 2 ^ 32 := Nat.pow_lt_pow_right (by decide) (by omega)
  apply Nat.eq_of_testBit_eq
  intro j
  rw [Nat.testBit_and, show (4294967296 : Nat) = 2 ^ 32 from rfl, Nat.testBit_two_pow_sub_succ h32, Nat.testBit_two_pow, y_tb (by decide) hl]
  have ea : a.testBit j = _ := (congrArg (fun z => Nat.testBit z j) (y_sp a s)).trans (y_tb hb hl j)
  by_cases c1 : j < s
  · rw [ea, if_pos c1, if_pos c1, decide_eq_true (show j < 32 by omega), decide_eq_false (show ¬ s = j by omega)]
    simp
  · by_cases c2 : j = s
    · subst c2
      rw [if_neg c1, if_pos rfl, decide_eq_true rfl]
      simp
    · rw [if_neg c1, if_neg c2, decide_eq_false (show ¬ s = j by omega)]
      by_cases c3 : j < 32
      · rw [ea, if_neg c1, if_neg c2, decide_eq_true c3]
        simp
      · have hz : a.testBit j = false := Nat.testBit_lt_two_pow (Nat.lt_of_lt_of_le ha (Nat.pow_le_pow_right (n := 2) (by decide) (show 16 ≤ j by omega)))
        rw [hz]
        rw [ea, if_neg c1, if_neg c2] at hz
        rw [hz]
        rfl
theorem y_sb1 {H s l : Nat} (hl : l < 2 ^ s) : (2 ^ (s + 1) * H + (2 ^ s * 0 + l)) ||| 2 ^ s = 2 ^ (s + 1) * H + (2 ^ s * 1 + l) := by
  apply Nat.eq_of_testBit_eq
  intro j
  rw [Nat.testBit_or, y_tb (by decide) hl, y_tb (by decide) hl, Nat.testBit_two_pow]
  by_cases c1 : j < s
  · rw [if_pos c1, if_pos c1, decide_eq_false (show ¬ s = j by omega)]; simp
  · by_cases c2 : j = s
    · subst c2
      rw [if_neg c1, if_neg c1, if_pos rfl, if_pos rfl, decide_eq_true rfl]; simp
    · rw [if_neg c1, if_neg c1, if_neg c2, if_neg c2, decide_eq_false (show ¬ s = j by omega)]; simp
theorem y_andI {a b : Nat} (ha : a < 2 ^ 32) (hb : b < 2 ^ 32) : nI a &&& nI b = nI (a &&& b) := by
  apply Int32.toBitVec_inj.mp
  rw [Int32.toBitVec_and]
  apply BitVec.eq_of_toNat_eq
  rw [BitVec.toNat_and, pk_tn ha, pk_tn hb, pk_tn (Nat.and_lt_two_pow _ hb)]
theorem y_orI {a b : Nat} (ha : a < 2 ^ 32) (hb : b < 2 ^ 32) : nI a ||| nI b = nI (a ||| b) := by
  apply Int32.toBitVec_inj.mp
  rw [Int32.toBitVec_or]
  apply BitVec.eq_of_toNat_eq
  rw [BitVec.toNat_or, pk_tn ha, pk_tn hb, pk_tn (Nat.or_lt_two_pow ha hb)]
theorem y_s1 : ∀ s, s < 16 → nI 1 <<< (nI s &&& 31) = nI (2 ^ s) := by decide +kernel
theorem y_s2 : ∀ s, s < 16 → nI (2 ^ s) ^^^ (-1) = nI (4294967296 - (2 ^ s + 1)) := by decide +kernel
theorem y_s3 : ∀ s, s < 16 → ((nI s &&& 31).toBitVec.smod 32).toNat = s := by decide +kernel
/-- a limb with its bit s set anew -/
def y_bs (a s c : Nat) : Nat := 2 ^ (s + 1) * (a / 2 ^ (s + 1)) + (2 ^ s * c + a % 2 ^ s)
theorem y_bs_lt {a s c : Nat} (hs : s < 16) (ha : a < 65536) (hc : c < 2) : y_bs a s c < 65536 := by
  have hl : a % 2 ^ s < 2 ^ s := Nat.mod_lt _ (Nat.two_pow_pos s)
  have e : (65536 : Nat) = 2 ^ (s + 1) * 2 ^ (15 - s) := by rw [← Nat.pow_add, show s + 1 + (15 - s) = 16 by omega]
  have h1 : a / 2 ^ (s + 1) < 2 ^ (15 - s) := Nat.div_lt_of_lt_mul (by omega)
  have h2 : 2 ^ (s + 1) * (a / 2 ^ (s + 1) + 1) ≤ 2 ^ (s + 1) * 2 ^ (15 - s) := Nat.mul_le_mul_left _ h1
  have h3 : 2 ^ s * c ≤ 2 ^ s * 1 := Nat.mul_le_mul_left _ (by omega)
  have h4 : 2 ^ (s + 1) = 2 ^ s * 2 := Nat.pow_succ ..
  unfold y_bs
  rw [Nat.mul_add] at h2
  omega
theorem y_rb {a s : Nat} (hs : s < 16) (ha : a < 65536) : (nI a >>> (nI s &&& 31)) &&& nI 1 = nI (a / 2 ^ s % 2) := by
  rw [pk_shrN (by omega) _ s (y_s3 s hs)]
  exact pk_andN (k := 1) (Nat.lt_of_le_of_lt (Nat.div_le_self _ _) (by omega)) (by decide)
theorem y_wb0 {a s : Nat} (hs : s < 16) (ha : a < 65536) : nI a &&& ((nI 1 <<< (nI s &&& 31)) ^^^ (-1)) = nI (y_bs a s 0) := by
  rw [y_s1 s hs, y_s2 s hs, y_andI (by omega) (Nat.sub_lt (by decide) (Nat.succ_pos _)), y_cb hs ha]
  rfl
theorem y_wb1 {a s : Nat} (hs : s < 16) (ha : a < 65536) : nI (y_bs a s 0) ||| (nI 1 <<< (nI s &&& 31)) = nI (y_bs a s 1) := by
  have h1 := y_bs_lt hs ha (show 0 < 2 by decide)
  have h32 : 2 ^ s < 2 ^ 32 := Nat.pow_lt_pow_right (by decide) (by omega)
  rw [y_s1 s hs, y_orI (by omega) h32]
  unfold y_bs
  rw [y_sb1 (Nat.mod_lt _ (Nat.two_pow_pos s))]
theorem y_wbz {a s : Nat} (hs : s < 16) (ha : a < 65536) : nI (y_bs a s 0) ||| nI 0 = nI (y_bs a s 0) := by
  have h1 := y_bs_lt hs ha (show 0 < 2 by decide)
  rw [y_orI (by omega) (by decide), Nat.or_zero]
theorem y_lb {a b : Nat} (hb : b < 2) (ha : a < 2 ^ 31) : nI (2 * a) ||| nI b = nI (2 * a + b) := by
  rw [y_orI (by omega) (by omega)]
  have h := Nat.two_pow_add_eq_or_of_lt (i := 1) (b := b) (by omega) a
  rw [show (2 : Nat) ^ 1 = 2 from rfl] at h
  rw [← h]
/-! one digit set anew -/
theorem y_dg_lo {v w k j : Nat} (h : v % 65536 ^ k = w % 65536 ^ k) (hj : j < k) : y_dg v j = y_dg w j := by
  have e : ∀ u, y_dg u j = u % 65536 ^ k / 65536 ^ j % 65536 := fun u => by
    have e2 : 65536 ^ k = 65536 ^ j * 65536 * 65536 ^ (k - (j + 1)) := by rw [← Nat.pow_succ, ← Nat.pow_add]; congr 1; omega
    unfold y_dg
    rw [e2, Nat.mul_assoc, Nat.mod_mul_right_div_self, Nat.mod_mul_right_mod]
  rw [e, e, h]
theorem y_dg_up {v w k j : Nat} (h : v / 65536 ^ k = w / 65536 ^ k) (hj : k ≤ j) : y_dg v j = y_dg w j := by
  have e : ∀ u, y_dg u j = u / 65536 ^ k / 65536 ^ (j - k) % 65536 := fun u => by
    unfold y_dg
    rw [Nat.div_div_eq_div_mul, ← Nat.pow_add, show k + (j - k) = j by omega]
  rw [e, e, h]
theorem y_dg_set {A d e R k : Nat} (hd : d < 65536) (he : e < 65536) (hR : R < 65536 ^ k) (j : Nat) : y_dg (A * 65536 ^ (k + 1) + e * 65536 ^ k + R) j = if j = k then e else y_dg (A * 65536 ^ (k + 1) + d * 65536 ^ k + R) j := by
  have h0 := y_B0 k
  have q : ∀ c, A * 65536 ^ (k + 1) + c * 65536 ^ k + R = 65536 ^ k * (65536 * A + c) + R := fun c => by
    rw [Nat.pow_succ, Nat.mul_add, Nat.mul_comm A, Nat.mul_comm c, Nat.mul_assoc]
  rw [q, q]
  by_cases c : j = k
  · subst c
    rw [if_pos rfl]
    unfold y_dg
    rw [Nat.mul_add_div h0, Nat.div_eq_of_lt hR]
    omega
  · rw [if_neg c]
    rcases Nat.lt_or_gt_of_ne c with c2 | c2
    · refine y_dg_lo (k := k) ?_ c2
      rw [Nat.mul_add_mod, Nat.mul_add_mod]
    · refine y_dg_up (k := k + 1) ?_ c2
      rw [Nat.pow_succ, ← Nat.div_div_eq_div_mul, ← Nat.div_div_eq_div_mul, Nat.mul_add_div h0, Nat.mul_add_div h0, Nat.div_eq_of_lt hR]
      omega
/-- bit i of a number, and the number with bit i set to c -/
def y_sbt (X i c : Nat) : Nat := 2 ^ (i + 1) * (X / 2 ^ (i + 1)) + (2 ^ i * c + X % 2 ^ i)
theorem y_p16 (i : Nat) : 2 ^ i = 65536 ^ (i / 16) * 2 ^ (i % 16) := by
  rw [show (65536 : Nat) = 2 ^ 16 from rfl, ← Nat.pow_mul, ← Nat.pow_add, Nat.div_add_mod]
theorem y_bit (X i : Nat) : X / 2 ^ i % 2 = y_dg X (i / 16) / 2 ^ (i % 16) % 2 := by
  unfold y_dg
  rw [y_p16 i, ← Nat.div_div_eq_div_mul]
  generalize X / 65536 ^ (i / 16) = q
  have hs : i % 16 < 16 := Nat.mod_lt _ (by decide)
  generalize i % 16 = s at *
  have e : (65536 : Nat) = 2 ^ s * (2 * 2 ^ (15 - s)) := by
    rw [← Nat.mul_assoc, ← Nat.pow_succ, ← Nat.pow_add, show s + 1 + (15 - s) = 16 by omega]
  rw [e, Nat.mod_mul_right_div_self, Nat.mod_mul_right_mod]
theorem y_sbt_dg (X i c : Nat) (hc : c < 2) (j : Nat) : y_dg (y_sbt X i c) j = if j = i / 16 then y_bs (y_dg X (i / 16)) (i % 16) c else y_dg X j := by
  have hs : i % 16 < 16 := Nat.mod_lt _ (by decide)
  have hp := y_p16 i
  have hp1 : 2 ^ (i + 1) = 65536 ^ (i / 16) * 2 ^ (i % 16 + 1) := by rw [Nat.pow_succ, hp, Nat.mul_assoc, ← Nat.pow_succ]
  generalize hk : i / 16 = k at *
  generalize hq : i % 16 = s at *
  have hd := y_dg_lt X k
  have h0 := y_B0 k
  have hX : X = X / 65536 ^ (k + 1) * 65536 ^ (k + 1) + y_dg X k * 65536 ^ k + X % 65536 ^ k := by
    have h1 := Nat.div_add_mod X (65536 ^ (k + 1))
    have h2 := y_md_s X k
    rw [Nat.mul_comm] at h1
    rw [Nat.mul_comm (y_dg X k)]
    omega
  have hR := Nat.mod_lt X h0
  have e := y_dg_set (A := X / 65536 ^ (k + 1)) hd (y_bs_lt hs hd hc) hR j
  rw [← hX] at e
  rw [← e]
  congr 1
  have e65 : (65536 : Nat) = 2 ^ (s + 1) * 2 ^ (15 - s) := by rw [← Nat.pow_add, show s + 1 + (15 - s) = 16 by omega]
  have eA : ∀ q, q * 65536 = 2 ^ (s + 1) * (q * 2 ^ (15 - s)) := fun q => by
    rw [show q * 65536 = q * (2 ^ (s + 1) * 2 ^ (15 - s)) from congrArg (q * ·) e65, ← Nat.mul_assoc, Nat.mul_comm q, Nat.mul_assoc]
  have a1 : X / 2 ^ (i + 1) = X / 65536 ^ (k + 1) * 2 ^ (15 - s) + y_dg X k / 2 ^ (s + 1) := by
    rw [hp1, ← Nat.div_div_eq_div_mul, y_dg_s X k, eA, Nat.mul_add_div (Nat.two_pow_pos _)]
  have a2 : X % 2 ^ i = 65536 ^ k * (y_dg X k % 2 ^ s) + X % 65536 ^ k := by
    rw [hp, Nat.mod_mul, Nat.add_comm]
    congr 2
    unfold y_dg
    generalize X / 65536 ^ k = q
    have e' : (65536 : Nat) = 2 ^ s * (2 * 2 ^ (15 - s)) := by
      rw [← Nat.mul_assoc, ← Nat.pow_succ, ← Nat.pow_add, show s + 1 + (15 - s) = 16 by omega]
    rw [e', Nat.mod_mul_right_mod]
  have a3 := eA (X / 65536 ^ (k + 1))
  have a4 : X / 65536 ^ (k + 1) * 65536 ^ (k + 1) = 65536 ^ k * (X / 65536 ^ (k + 1) * 65536) := by
    rw [Nat.pow_succ, Nat.mul_comm (65536 ^ k), ← Nat.mul_assoc, Nat.mul_comm]
  unfold y_sbt y_bs
  rw [a1, a2, hp1, hp, a4, a3]
  generalize 65536 ^ k = B
  generalize X / 65536 ^ (k + 1) * 2 ^ (15 - s) = A
  generalize X % B = R
  generalize y_dg X k / 2 ^ (s + 1) = u
  generalize y_dg X k % 2 ^ s = w
  generalize 2 ^ (s + 1) = p
  generalize 2 ^ s = p'
  have z1 : B * p * (A + u) = B * (p * A) + B * (p * u) := by rw [Nat.mul_assoc, Nat.mul_add, Nat.mul_add]
  have z2 : (p * u + (p' * c + w)) * B = B * (p * u) + B * p' * c + B * w := by
    rw [Nat.mul_comm, Nat.mul_add, Nat.mul_add, Nat.mul_assoc]
    omega
  omega
/-! ===== long division, bit by bit ===== -/
theorem y_B64g (k m : Nat) (h : m = 16 * k) : (65536 : Nat) ^ k = 2 ^ m := by
  rw [show (65536 : Nat) = 2 ^ 16 from rfl, ← Nat.pow_mul, h]
theorem y_B64 : (65536 : Nat) ^ 64 = 2 ^ 1024 := y_B64g 64 1024 rfl
def y_le (v d i : Nat) : Nat := v / 2 ^ i / d * 2 ^ i + v % 2 ^ i
theorem y_le_t {v d : Nat} (hv : v < 65536 ^ 64) : y_le v d 1024 = v := by
  have e := y_B64
  rw [e] at hv
  unfold y_le
  rw [Nat.div_eq_of_lt hv, Nat.zero_div, Nat.zero_mul, Nat.zero_add, Nat.mod_eq_of_lt hv]
theorem y_le_0 (v d : Nat) : y_le v d 0 = v / d := by
  unfold y_le
  rw [Nat.pow_zero, Nat.div_one, Nat.mul_one, Nat.mod_one, Nat.add_zero]
theorem y_le_le (v d i : Nat) : y_le v d i ≤ v := by
  unfold y_le
  have h := Nat.div_add_mod v (2 ^ i)
  have h2 : v / 2 ^ i / d * 2 ^ i ≤ v / 2 ^ i * 2 ^ i := Nat.mul_le_mul_right _ (Nat.div_le_self _ _)
  rw [Nat.mul_comm] at h
  omega
theorem y_hf (v i : Nat) : v / 2 ^ i = 2 * (v / 2 ^ (i + 1)) + v / 2 ^ i % 2 := by
  rw [Nat.pow_succ, ← Nat.div_div_eq_div_mul, Nat.div_add_mod]
theorem y_le_h (v d i : Nat) : y_le v d i / 2 ^ i = v / 2 ^ i / d ∧ y_le v d i % 2 ^ i = v % 2 ^ i := by
  unfold y_le
  have h := Nat.mod_lt v (Nat.two_pow_pos i)
  rw [Nat.mul_comm (v / 2 ^ i / d), Nat.mul_add_div (Nat.two_pow_pos i), Nat.div_eq_of_lt h, Nat.mul_add_mod, Nat.mod_mod]
  exact ⟨rfl, rfl⟩
theorem y_le_lo (v d i : Nat) : y_le v d (i + 1) % 2 ^ i = v % 2 ^ i ∧ y_le v d (i + 1) / 2 ^ i % 2 = v / 2 ^ i % 2 := by
  have h := (y_le_h v d (i + 1)).2
  have e1 : ∀ u : Nat, u % 2 ^ i = u % 2 ^ (i + 1) % 2 ^ i := fun u => by rw [Nat.pow_succ, Nat.mod_mul_right_mod]
  have e2 : ∀ u : Nat, u / 2 ^ i % 2 = u % 2 ^ (i + 1) / 2 ^ i := fun u => by rw [Nat.pow_succ, Nat.mod_mul_right_div_self]
  exact ⟨by rw [e1, h, ← e1], by rw [e2, h, ← e2]⟩
theorem y_le_s {v d i : Nat} (hd : 0 < d) : (v / 2 ^ (i + 1) % d * 2 + v / 2 ^ i % 2 < d → v / 2 ^ i % d = v / 2 ^ (i + 1) % d * 2 + v / 2 ^ i % 2 ∧ y_sbt (y_le v d (i + 1)) i 0 = y_le v d i) ∧ (¬ v / 2 ^ (i + 1) % d * 2 + v / 2 ^ i % 2 < d → v / 2 ^ i % d = v / 2 ^ (i + 1) % d * 2 + v / 2 ^ i % 2 - d ∧ y_sbt (y_le v d (i + 1)) i 1 = y_le v d i) := by
  have h1 := y_hf v i
  have h2 := Nat.div_add_mod (v / 2 ^ (i + 1)) d
  have h3 := Nat.mod_lt (v / 2 ^ (i + 1)) hd
  have h4 := (y_le_h v d (i + 1)).1
  have h5 := (y_le_lo v d i).1
  have h6 : v / 2 ^ i % 2 < 2 := Nat.mod_lt _ (by decide)
  have key : ∀ c, v / 2 ^ i / d = 2 * (v / 2 ^ (i + 1) / d) + c → y_sbt (y_le v d (i + 1)) i c = y_le v d i := fun c hc => by
    unfold y_sbt
    rw [h4, h5]
    unfold y_le
    rw [hc, Nat.pow_succ, Nat.add_mul, Nat.mul_assoc, Nat.mul_comm c, Nat.mul_comm (2 * _) (2 ^ i)]
    omega
  generalize v / 2 ^ (i + 1) = q at *
  generalize v / 2 ^ i % 2 = b at *
  have e : ∀ c r, q % d * 2 + b = r + d * c → v / 2 ^ i = r + d * (2 * (q / d) + c) := fun c r hr => by
    rw [h1, Nat.mul_add, ← Nat.mul_assoc, Nat.mul_comm d 2, Nat.mul_assoc]
    omega
  constructor
  · intro hl
    have e0 := e 0 _ (by rw [Nat.mul_zero, Nat.add_zero])
    refine ⟨?_, key 0 ?_⟩
    · rw [e0, Nat.add_mul_mod_self_left, Nat.mod_eq_of_lt hl]
    · rw [e0, Nat.add_mul_div_left _ _ hd, Nat.div_eq_of_lt hl, Nat.zero_add]
  · intro hl
    have e0 := e 1 (q % d * 2 + b - d) (by rw [Nat.mul_one]; omega)
    have hl2 : q % d * 2 + b - d < d := by omega
    refine ⟨?_, key 1 ?_⟩
    · rw [e0, Nat.add_mul_mod_self_left, Nat.mod_eq_of_lt hl2]
    · rw [e0, Nat.add_mul_div_left _ _ hd, Nat.div_eq_of_lt hl2, Nat.zero_add]
/-- the lowest limb of an even number takes a bit -/
theorem y_ev (r b : Nat) (hb : b < 2) (j : Nat) : y_dg (r * 2 + b) j = if j = 0 then y_dg (r * 2) 0 + b else y_dg (r * 2) j := by
  by_cases c : j = 0
  · subst c
    rw [if_pos rfl]
    unfold y_dg
    rw [Nat.pow_zero, Nat.div_one, Nat.div_one]
    omega
  · rw [if_neg c]
    refine y_dg_up (k := 1) ?_ (by omega)
    rw [Nat.pow_one]
    omega
theorem y_ev_o {r b : Nat} (hb : b < 2) : nI (y_dg (r * 2) 0) ||| nI b = nI (y_dg (r * 2 + b) 0) := by
  rw [y_ev r b hb 0, if_pos rfl]
  have e : y_dg (r * 2) 0 = 2 * (y_dg (r * 2) 0 / 2) := by
    unfold y_dg
    rw [Nat.pow_zero, Nat.div_one]
    omega
  have h := y_dg_lt (r * 2) 0
  rw [e]
  exact y_lb hb (by omega)
theorem y_is_ev {g : Nat → Int32} {x r b : Nat} (hb : b < 2) (h : y_is g x (r * 2)) (h9 : r * 2 + b < 65536 ^ 64) : y_is (upd g x (nI (y_dg (r * 2 + b) 0))) x (r * 2 + b) := ⟨h9, fun k hk => by
  by_cases c : k = 0
  · subst c
    rw [Nat.add_zero, pk_us]
  · rw [pk_un (by omega), h.2 k hk, y_ev r b hb k, if_neg c]⟩
theorem y_is_sb {g : Nat → Int32} {x X i c : Nat} (hc : c < 2) (h : y_is g x X) (h9 : y_sbt X i c < 65536 ^ 64) : y_is (upd g (x + i / 16) (nI (y_bs (y_dg X (i / 16)) (i % 16) c))) x (y_sbt X i c) := ⟨h9, fun k hk => by
  rw [y_sbt_dg X i c hc k]
  by_cases e : k = i / 16
  · rw [if_pos e, e, pk_us]
  · rw [if_neg e, pk_un (by omega), h.2 k hk]⟩
/-! ===== common divisors ===== -/
theorem y_g2 {u w : Nat} (hw : w % 2 = 1) (hu : u % 2 = 0) : Nat.gcd (u / 2) w = Nat.gcd u w := by
  have h : Nat.Coprime 2 w := by
    have : Nat.gcd 2 w = Nat.gcd (w % 2) 2 := Nat.gcd_rec 2 w
    show Nat.gcd 2 w = 1
    rw [this, hw]
    rfl
  have e : u = 2 * (u / 2) := by omega
  conv => rhs; rw [e]
  rw [Nat.Coprime.gcd_mul_left_cancel _ h]
theorem y_g2r {u w : Nat} (hw : w % 2 = 1) (hu : u % 2 = 0) : Nat.gcd w (u / 2) = Nat.gcd w u := by
  rw [Nat.gcd_comm, y_g2 hw hu, Nat.gcd_comm]
theorem y_g22 {u w : Nat} (hw : w % 2 = 0) (hu : u % 2 = 0) : Nat.gcd (u / 2) (w / 2) * 2 = Nat.gcd u w := by
  have e : u = 2 * (u / 2) := by omega
  have e2 : w = 2 * (w / 2) := by omega
  conv => rhs; rw [e, e2]
  rw [Nat.gcd_mul_left, Nat.mul_comm]
theorem y_gs {u w : Nat} (h : u ≤ w) : Nat.gcd u (w - u) = Nat.gcd u w := Nat.gcd_sub_self_right h
theorem y_gp {a b u w t : Nat} (h1 : u * 2 ^ t = a) (h2 : w * 2 ^ t = b) : Nat.gcd u w * 2 ^ t = Nat.gcd a b := by
  rw [← h1, ← h2, Nat.gcd_mul_right]
theorem y_tw {u t a : Nat} (h0 : 0 < u) (h : u * 2 ^ t = a) (ha : a < 65536 ^ 64) : t < 1024 := by
  have e := y_B64
  rw [e, ← h] at ha
  have h3 : 1 * 2 ^ t ≤ u * 2 ^ t := Nat.mul_le_mul_right _ h0
  rw [Nat.one_mul] at h3
  exact (Nat.pow_lt_pow_iff_right (by decide)).mp (Nat.lt_of_le_of_lt h3 ha)
theorem y_hh {u t a : Nat} (hu : u % 2 = 0) (h : u * 2 ^ t = a) : u / 2 * 2 ^ (t + 1) = a := by
  rw [← h, Nat.pow_succ, Nat.mul_comm (2 ^ t), ← Nat.mul_assoc, show u / 2 * 2 = u by omega]
/-! ===== primes and powers ===== -/
def y_prm (p : Nat) : Prop := ∀ d, 2 ≤ d → d * d ≤ p → ¬ d ∣ p
theorem y_prm_dv {p d : Nat} (hp : y_prm p) (h2 : 2 ≤ d) (h3 : d < p) : ¬ d ∣ p := by
  rintro ⟨e, he⟩
  rcases Nat.le_total d e with h | h
  · exact hp d h2 (by rw [he]; exact Nat.mul_le_mul_left d h) ⟨e, he⟩
  · refine hp e ?_ (by rw [he]; exact Nat.mul_le_mul_right e h) ⟨d, by rw [Nat.mul_comm]; exact he⟩
    rcases e with _ | _ | e
    · omega
    · omega
    · omega
theorem y_prm_co {p q : Nat} (hq : y_prm q) (hp : 2 ≤ p) (h : p < q) : Nat.Coprime p q := by
  show Nat.gcd p q = 1
  have h1 := Nat.gcd_dvd_left p q
  have h2 := Nat.gcd_dvd_right p q
  have h3 : Nat.gcd p q ≤ p := Nat.le_of_dvd (by omega) h1
  have h4 : 0 < Nat.gcd p q := Nat.gcd_pos_of_pos_left _ (by omega)
  rcases Nat.lt_or_ge (Nat.gcd p q) 2 with h5 | h5
  · omega
  · exact absurd h2 (y_prm_dv hq h5 (by omega))
theorem y_np {p w : Nat} (hp : ¬ y_prm p) (h : ∀ d, 2 ≤ d → d < p → ¬ d ∣ w) : ¬ p ∣ w := fun z => by
  apply hp
  intro d h2 h3 h4
  have h5 : d < p := Nat.lt_of_lt_of_le (by
    have := Nat.mul_lt_mul_of_pos_left (show 1 < d by omega) (show 0 < d by omega)
    omega) h3
  exact h d h2 h5 (Nat.dvd_trans h4 z)
/-- w is freed of p -/
theorem y_free {p : Nat} (hp : 2 ≤ p) : ∀ w, 0 < w → ∃ k w', w = p ^ k * w' ∧ ¬ p ∣ w' := fun w => by
  induction w using Nat.strongRecOn with
  | _ w ih =>
    intro h0
    by_cases h : p ∣ w
    · obtain ⟨e, he⟩ := h
      have h1 : 0 < e := Nat.pos_of_ne_zero (fun z => by subst z; omega)
      have h2 : e < w := by
        have := Nat.mul_lt_mul_of_pos_right (show 1 < p by omega) h1
        omega
      obtain ⟨k, w', h3, h4⟩ := ih e h2 h1
      exact ⟨k + 1, w', by rw [he, h3, Nat.pow_succ, ← Nat.mul_assoc, Nat.mul_comm p], h4⟩
    · exact ⟨0, w, by rw [Nat.pow_zero, Nat.one_mul], h⟩
/-- what the product of the primes' powers below p has -/
def y_mv (n : Nat) (ct : Nat → Bool) (cn : Nat → Nat) (p M : Nat) : Prop :=
  0 < M ∧ (∀ r, r < n → ct r = true → ∃ u w, cn r = u * w ∧ u ∣ M ∧ ∀ d, 2 ≤ d → d < p → ¬ d ∣ w) ∧ (∀ q, p ≤ q → y_prm q → Nat.Coprime M q) ∧ ∀ N, (∀ r, r < n → ct r = true → cn r ∣ N) → M ∣ N
theorem y_mv_2 (n : Nat) (ct : Nat → Bool) (cn : Nat → Nat) : y_mv n ct cn 2 1 :=
  ⟨by decide, fun r _ _ => ⟨1, cn r, (Nat.one_mul _).symm, Nat.dvd_refl 1, fun d h1 h2 => by omega⟩, fun q _ _ => Nat.coprime_one_left q, fun N _ => Nat.one_dvd N⟩
/-- what the greatest power of p in the first r sizes has -/
def y_po (r : Nat) (ct : Nat → Bool) (cn : Nat → Nat) (p m : Nat) : Prop :=
  (∃ K, m = p ^ K) ∧ (∀ q, q < r → ct q = true → ∀ k, p ^ k ∣ cn q → p ^ k ∣ m) ∧ (m = 1 ∨ ∃ q, q < r ∧ ct q = true ∧ m ∣ cn q)
theorem y_po_0 (ct : Nat → Bool) (cn : Nat → Nat) (p : Nat) : y_po 0 ct cn p 1 := ⟨⟨0, rfl⟩, fun q h => absurd h (Nat.not_lt_zero q), Or.inl rfl⟩
theorem y_mv_c {n : Nat} {ct : Nat → Bool} {cn : Nat → Nat} {p M : Nat} (hn : ¬ y_prm p) (h : y_mv n ct cn p M) : y_mv n ct cn (p + 1) (M * 1) := by
  rw [Nat.mul_one]
  refine ⟨h.1, fun r hr hc => ?_, fun q hq => h.2.2.1 q (by omega), h.2.2.2⟩
  obtain ⟨u, w, h1, h2, h3⟩ := h.2.1 r hr hc
  refine ⟨u, w, h1, h2, fun d h4 h5 => ?_⟩
  rcases Nat.lt_or_ge d p with h6 | h6
  · exact h3 d h4 h6
  · have e : d = p := by omega
    subst e
    exact y_np hn h3
theorem y_mv_p {n : Nat} {ct : Nat → Bool} {cn : Nat → Nat} {p M m : Nat} (hp : 2 ≤ p) (hn : y_prm p) (hc0 : ∀ r, r < n → ct r = true → 0 < cn r) (h : y_mv n ct cn p M) (hm : y_po n ct cn p m) : y_mv n ct cn (p + 1) (M * m) := by
  obtain ⟨⟨K, hK⟩, hm2, hm3⟩ := hm
  have hm0 : 0 < m := by rw [hK]; exact Nat.pow_pos (by omega)
  refine ⟨Nat.mul_pos h.1 hm0, fun r hr hc => ?_, fun q hq hqp => ?_, fun N hN => ?_⟩
  · obtain ⟨u, w, h1, h2, h3⟩ := h.2.1 r hr hc
    have hw0 : 0 < w := Nat.pos_of_ne_zero (fun z => by
      have := hc0 r hr hc
      rw [h1, z] at this
      omega)
    obtain ⟨k, w', h4, h5⟩ := y_free hp w hw0
    refine ⟨u * p ^ k, w', by rw [h1, h4, Nat.mul_assoc], Nat.mul_dvd_mul h2 (hm2 r hr hc k ⟨u * w', by rw [h1, h4, ← Nat.mul_assoc, ← Nat.mul_assoc, Nat.mul_comm u]⟩), fun d h6 h7 z => ?_⟩
    rcases Nat.lt_or_ge d p with h8 | h8
    · exact h3 d h6 h8 (Nat.dvd_trans z ⟨p ^ k, by rw [h4, Nat.mul_comm]⟩)
    · have e : d = p := by omega
      subst e
      exact h5 z
  · have a1 := h.2.2.1 q (by omega) hqp
    have a2 : Nat.Coprime m q := by
      rw [hK]
      exact Nat.Coprime.pow_left K (y_prm_co hqp hp (by omega))
    exact Nat.Coprime.mul_left a1 a2
  · have a1 := h.2.2.2 N hN
    have a2 : m ∣ N := by
      rcases hm3 with h4 | ⟨q, h4, h5, h6⟩
      · rw [h4]; exact Nat.one_dvd N
      · exact Nat.dvd_trans h6 (hN q h4 h5)
    have a3 : Nat.Coprime M m := by
      rw [hK]
      exact Nat.Coprime.pow_right K (h.2.2.1 p (Nat.le_refl p) hn)
    exact Nat.Coprime.mul_dvd_of_dvd_of_dvd a3 a1 a2
theorem y_mv_end {n : Nat} {ct : Nat → Bool} {cn : Nat → Nat} {p M : Nat} (hc0 : ∀ r, r < n → ct r = true → 0 < cn r ∧ cn r < p) (h : y_mv n ct cn p M) : ∀ r, r < n → ct r = true → cn r ∣ M := fun r hr hc => by
  obtain ⟨u, w, h1, h2, h3⟩ := h.2.1 r hr hc
  have h4 := hc0 r hr hc
  have hw : w ≤ cn r := by
    rw [h1]
    exact Nat.le_mul_of_pos_left w (Nat.pos_of_ne_zero (fun z => by rw [z, Nat.zero_mul] at h1; omega))
  rcases Nat.lt_or_ge w 2 with h5 | h5
  · have : w = 1 := by
      rcases Nat.lt_or_ge w 1 with h6 | h6
      · have : w = 0 := by omega
        rw [this, Nat.mul_zero] at h1
        omega
      · omega
    rw [this, Nat.mul_one] at h1
    rw [h1]
    exact h2
  · exact absurd (Nat.dvd_refl w) (h3 w h5 (by omega))
/-- a row's power joins the greatest -/
theorem y_po_s {r : Nat} {ct : Nat → Bool} {cn : Nat → Nat} {p m k : Nat} (hp : 2 ≤ p) (h : y_po r ct cn p m) (h1 : ct r = true → p ^ k ∣ cn r ∧ ¬ p ^ (k + 1) ∣ cn r) (h2 : ct r = false → k = 0) :
    y_po (r + 1) ct cn p (if m < p ^ k then p ^ k else m) := by
  obtain ⟨⟨K, hK⟩, hm2, hm3⟩ := h
  have up : ∀ a b, a ≤ b → p ^ a ∣ p ^ b := fun a b h => Nat.pow_dvd_pow p h
  have mono : ∀ a b, p ^ a < p ^ b ↔ a < b := fun a b => Nat.pow_lt_pow_iff_right (by omega)
  have hk : ct r = true → ∀ j, p ^ j ∣ cn r → j ≤ k := fun hc j hj => by
    refine Nat.le_of_not_lt (fun z => (h1 hc).2 (Nat.dvd_trans (up _ _ z) hj))
  by_cases c : m < p ^ k
  · rw [if_pos c]
    have c2 : K < k := by rw [hK] at c; exact (mono K k).mp c
    refine ⟨⟨k, rfl⟩, fun q hq hc j hj => ?_, Or.inr ⟨r, Nat.lt_succ_self r, ?_, ?_⟩⟩
    · rcases Nat.lt_or_ge q r with h3 | h3
      · have := hm2 q h3 hc j hj
        rw [hK] at this
        exact Nat.dvd_trans this (up _ _ (by omega))
      · have e : q = r := by omega
        subst e
        exact up _ _ (hk hc j hj)
    · cases hc : ct r with
      | true => rfl
      | false => have := h2 hc; omega
    · cases hc : ct r with
      | true => exact (h1 hc).1
      | false => have := h2 hc; omega
  · rw [if_neg c]
    have c2 : k ≤ K := by
      rw [hK] at c
      exact Nat.le_of_not_lt (fun z => c ((mono K k).mpr z))
    refine ⟨⟨K, hK⟩, fun q hq hc j hj => ?_, ?_⟩
    · rcases Nat.lt_or_ge q r with h3 | h3
      · exact hm2 q h3 hc j hj
      · have e : q = r := by omega
        subst e
        rw [hK]
        exact up _ _ (Nat.le_trans (hk hc j hj) c2)
    · rcases hm3 with h3 | ⟨q, h3, h4⟩
      · exact Or.inl h3
      · exact Or.inr ⟨q, by omega, h4⟩
theorem y_v0 {v d : Nat} (hv : v < 65536 ^ 64) : v / 2 ^ 1024 % d = 0 := by
  rw [y_B64] at hv
  rw [Nat.div_eq_of_lt hv, Nat.zero_mod]
theorem y_odd (v : Nat) : nI (y_dg v 0) &&& nI 1 = nI (v % 2) := by
  have h := y_dg_lt v 0
  have e : y_dg v 0 % 2 = v % 2 := by
    unfold y_dg
    rw [Nat.pow_zero, Nat.div_one]
    omega
  rw [← e]
  exact pk_andN (k := 1) (by omega) (by decide)
theorem y_hB {p t k a b : Nat} (h : Nat.gcd p 0 * 2 ^ t = Nat.gcd a b) (hk : k < t) (ha : a < 65536 ^ 64) (ha0 : 0 < a) : p * 2 ^ k * 2 < 65536 ^ 64 := by
  rw [Nat.gcd_zero_right] at h
  have h1 : Nat.gcd a b ≤ a := Nat.le_of_dvd ha0 (Nat.gcd_dvd_left a b)
  have h2 : p * 2 ^ k * 2 ≤ p * 2 ^ t := by
    rw [Nat.mul_assoc, ← Nat.pow_succ]
    exact Nat.mul_le_mul_left p (Nat.pow_le_pow_right (by decide) hk)
  omega
theorem y_sq {p d : Nat} (hd : 2 ≤ d) (h : d * d ≤ p) : d < p := by
  have := Nat.mul_le_mul_left d hd
  omega
theorem y_ipr {p d : Nat} {is : Bool} (h1 : is = true → ∀ e, 2 ≤ e → e < d → ¬ e ∣ p) (h2 : is = false → ∃ e, 2 ≤ e ∧ e * e ≤ p ∧ e ∣ p) (hx : p < d * d ∨ is = false) : is = true ↔ y_prm p := by
  constructor
  · intro hi e he1 he2
    rcases hx with hx | hx
    · refine h1 hi e he1 (Nat.lt_of_not_le (fun z => ?_))
      have := Nat.mul_le_mul z z
      omega
    · rw [hi] at hx; cases hx
  · intro hp
    cases hi : is with
    | true => rfl
    | false =>
      obtain ⟨e, he1, he2, he3⟩ := h2 hi
      exact absurd he3 (hp e he1 he2)
theorem y_pw1 {p : Nat} (hp : 2 ≤ p) (k : Nat) : p ^ k < p ^ (k + 1) := Nat.pow_lt_pow_right (by omega) (Nat.lt_succ_self k)
theorem y_jn {b : Bool} {P Q : Prop} (h1 : b = true → P) (h2 : b = false → Q) : (b = true ∧ P) ∨ (b = false ∧ Q) := by
  cases hb : b with
  | true => exact Or.inl ⟨rfl, h1 hb⟩
  | false => exact Or.inr ⟨rfl, h2 hb⟩
theorem y_is_eq {f g : Nat → Int32} {x v : Nat} (h : ∀ j, x ≤ j → j < x + 64 → g j = f j) (hv : y_is f x v) : y_is g x v := ⟨hv.1, fun k hk => (h (x + k) (by omega) (by omega)).trans (hv.2 k hk)⟩
theorem y_mb {v b : Nat} (h : v * b < 65536 ^ 64) : v * (b % 1073741824) < 65536 ^ 64 ∧ v * (b / 2 ^ 30) < 65536 ^ 64 ∧ v * (b / 2 ^ 30) * 1073741824 < 65536 ^ 64 ∧ v * (b % 1073741824) + v * (b / 2 ^ 30) * 1073741824 = v * b := by
  have e : v * (b % 1073741824) + v * (b / 2 ^ 30) * 1073741824 = v * b := by
    rw [Nat.mul_assoc, ← Nat.mul_add]
    congr 1
    omega
  have h2 : v * (b / 2 ^ 30) ≤ v * b := Nat.mul_le_mul_left v (Nat.div_le_self _ _)
  refine ⟨by omega, by omega, by omega, e⟩
/-! ===== sums over rows ===== -/
def y_ct (σ : x_S) (cn : Nat → Nat) (q : Nat) : Bool := decide (σ.1 57 q = 0) && decide (1 < cn q)
def y_tot (ct : Nat → Bool) (f : Nat → Int64) : Nat → Int64
  | 0 => 0
  | r + 1 => if ct r = true then y_tot ct f r + f r else y_tot ct f r
theorem y_tot_t {ct : Nat → Bool} {f : Nat → Int64} {r : Nat} (h : ct r = true) : y_tot ct f r + f r = y_tot ct f (r + 1) := (if_pos h).symm
theorem y_tot_f {ct : Nat → Bool} {f : Nat → Int64} {r : Nat} (h : ct r = false) : y_tot ct f r = y_tot ct f (r + 1) := (if_neg (fun z => by rw [h] at z; cases z)).symm
def y_abv (ct : Nat → Bool) (cn sp : Nat → Nat) (M : Nat) : Nat → Nat
  | 0 => 0
  | r + 1 => if ct r = true then y_abv ct cn sp M r + M / cn r * sp r else y_abv ct cn sp M r
theorem y_abv_t {ct : Nat → Bool} {cn sp : Nat → Nat} {M r : Nat} (h : ct r = true) : y_abv ct cn sp M (r + 1) = y_abv ct cn sp M r + M / cn r * sp r := if_pos h
theorem y_abv_f {ct : Nat → Bool} {cn sp : Nat → Nat} {M r : Nat} (h : ct r = false) : y_abv ct cn sp M (r + 1) = y_abv ct cn sp M r := if_neg (fun z => by rw [h] at z; cases z)
def y_ssp (ct : Nat → Bool) (sp : Nat → Nat) : Nat → Nat
  | 0 => 0
  | r + 1 => if ct r = true then y_ssp ct sp r + sp r else y_ssp ct sp r
theorem y_ssp_mono (ct : Nat → Bool) (sp : Nat → Nat) {r n : Nat} (h : r ≤ n) : y_ssp ct sp r ≤ y_ssp ct sp n := by
  induction h with
  | refl => exact Nat.le_refl _
  | @step m _ ih =>
    refine Nat.le_trans ih ?_
    show _ ≤ if ct m = true then y_ssp ct sp m + sp m else y_ssp ct sp m
    split <;> omega
theorem y_abv_le (ct : Nat → Bool) (cn sp : Nat → Nat) (M : Nat) : ∀ r, y_abv ct cn sp M r ≤ M * y_ssp ct sp r
  | 0 => Nat.zero_le _
  | r + 1 => by
    have ih := y_abv_le ct cn sp M r
    show (if ct r = true then y_abv ct cn sp M r + M / cn r * sp r else y_abv ct cn sp M r) ≤ M * (if ct r = true then y_ssp ct sp r + sp r else y_ssp ct sp r)
    split
    · rw [Nat.mul_add]
      exact Nat.add_le_add ih (Nat.mul_le_mul_right _ (Nat.div_le_self _ _))
    · exact ih
theorem y_nb {M N s T : Nat} (hM : M ≤ N) (hN : N * (s + T + 1) * 2 ≤ 65536 ^ 64) : M * s * 2 ≤ 65536 ^ 64 ∧ M * T < 65536 ^ 64 ∧ (0 < N → N < 65536 ^ 64 ∧ M * s < 65536 ^ 64) := by
  have h1 : M * s ≤ N * s := Nat.mul_le_mul_right s hM
  have h2 : M * T ≤ N * T := Nat.mul_le_mul_right T hM
  rw [Nat.mul_add, Nat.mul_add, Nat.mul_one] at hN
  have h3 := y_B0 64
  generalize (65536 : Nat) ^ 64 = B at *
  generalize N * s = Ns at *
  generalize N * T = NT at *
  generalize M * s = Ms at *
  generalize M * T = MT at *
  refine ⟨by omega, by omega, fun h => ⟨by omega, by omega⟩⟩
theorem y_abv_b {ct : Nat → Bool} {cn sp : Nat → Nat} {M N T r n : Nat} (hr : r < n) (hc : ct r = true) (hM : M ≤ N) (hN0 : 0 < N) (hN : N * (y_ssp ct sp n + T + 1) * 2 ≤ 65536 ^ 64) : y_abv ct cn sp M r + M / cn r * sp r < 65536 ^ 64 := by
  rw [← y_abv_t hc]
  have h1 := y_abv_le ct cn sp M (r + 1)
  have h2 : M * y_ssp ct sp (r + 1) ≤ M * y_ssp ct sp n := Nat.mul_le_mul_left M (y_ssp_mono ct sp hr)
  exact Nat.lt_of_le_of_lt (Nat.le_trans h1 h2) ((y_nb hM hN).2.2 hN0).2
/-- how many digits of 32 bits -/
def y_nd (v n : Nat) : Prop := v < 4294967296 ^ n ∧ (n = 0 ∨ 4294967296 ^ (n - 1) ≤ v)
theorem y_nd_un {v n m : Nat} (h : y_nd v n) (h2 : y_nd v m) : n = m := by
  have key : ∀ {a b : Nat}, v < 4294967296 ^ a → (b = 0 ∨ 4294967296 ^ (b - 1) ≤ v) → b ≤ a := fun {a b} h3 h4 => by
    rcases h4 with h4 | h4
    · omega
    · have := (Nat.pow_lt_pow_iff_right (a := 4294967296) (by decide)).mp (Nat.lt_of_le_of_lt h4 h3)
      omega
  have := key h.1 h2.2
  have := key h2.1 h.2
  omega
/-- the first k limbs have c digits -/
def y_ndp (v k c : Nat) : Prop := c ≤ 32 ∧ v % 65536 ^ k < 4294967296 ^ c ∧ (c = 0 ∨ 4294967296 ^ (c - 1) ≤ v % 65536 ^ k)
theorem y_ndp_0 (v : Nat) : y_ndp v 0 0 := ⟨by decide, by rw [Nat.pow_zero, Nat.mod_one]; decide, Or.inl rfl⟩
theorem y_ndp_z {v k c : Nat} (h : y_ndp v k c) (hd : y_dg v k = 0) : y_ndp v (k + 1) c := by
  unfold y_ndp
  rw [y_md_s, hd, Nat.mul_zero, Nat.add_zero]
  exact h
theorem y_pq (k : Nat) : (4294967296 : Nat) ^ k = 65536 ^ (2 * k) := by
  rw [Nat.pow_mul]
theorem y_ndp_n {v k c : Nat} (hk : k < 64) (hd : y_dg v k ≠ 0) (_h : y_ndp v k c) : y_ndp v (k + 1) (k / 2 + 1) := by
  refine ⟨by omega, ?_, Or.inr ?_⟩
  · rw [y_pq]
    exact Nat.lt_of_lt_of_le (Nat.mod_lt _ (y_B0 _)) (Nat.pow_le_pow_right (by decide) (by omega))
  · rw [Nat.add_sub_cancel, y_pq, y_md_s]
    have h1 : 65536 ^ k * 1 ≤ 65536 ^ k * y_dg v k := Nat.mul_le_mul_left _ (by omega)
    have h2 : (65536 : Nat) ^ (2 * (k / 2)) ≤ 65536 ^ k := Nat.pow_le_pow_right (by decide) (by omega)
    omega
theorem y_ndp_e {v c : Nat} (hv : v < 65536 ^ 64) (h : y_ndp v 64 c) : y_nd v c := by
  unfold y_ndp at h
  rw [Nat.mod_eq_of_lt hv] at h
  exact h.2
/-- a digit of 32 bits -/
def y_d32 (v k : Nat) : Nat := v / 4294967296 ^ k % 4294967296
theorem y_d32_dg (v k : Nat) : y_d32 v k = y_dg v (2 * k + 1) * 65536 + y_dg v (2 * k) := by
  unfold y_d32 y_dg
  rw [y_pq, Nat.pow_succ, ← Nat.div_div_eq_div_mul]
  generalize v / 65536 ^ (2 * k) = q
  omega
theorem y_d32_o {a b : Nat} (ha : a < 65536) (hb : b < 65536) : (nI a <<< (nI 16 &&& 31)) ||| nI b = nI (a * 65536 + b) := by
  have e : nI a <<< (nI 16 &&& 31) = nI (a * 2 ^ 16) := pk_shlN _ 16 (by decide) (by omega)
  rw [e, y_orI (by omega) (by omega)]
  have h := Nat.two_pow_add_eq_or_of_lt (i := 16) (b := b) (by omega) a
  rw [Nat.mul_comm a, ← h]
/-! ===== counting ===== -/
def y_cnb (P : Nat → Bool) : Nat → Nat
  | 0 => 0
  | i + 1 => if P i = true then y_cnb P i + 1 else y_cnb P i
theorem y_cnb_le (P : Nat → Bool) : ∀ i, y_cnb P i ≤ i
  | 0 => Nat.le_refl 0
  | i + 1 => by
    have := y_cnb_le P i
    show (if P i = true then y_cnb P i + 1 else y_cnb P i) ≤ i + 1
    split <;> omega
theorem y_cnb_t {P : Nat → Bool} {i : Nat} (h : P i = true) : y_cnb P (i + 1) = y_cnb P i + 1 := if_pos h
theorem y_cnb_f {P : Nat → Bool} {i : Nat} (h : P i = false) : y_cnb P (i + 1) = y_cnb P i := if_neg (fun z => by rw [h] at z; cases z)
theorem y_cnb_eq {P Q : Nat → Bool} : ∀ {n : Nat}, (∀ i, i < n → P i = Q i) → y_cnb P n = y_cnb Q n
  | 0, _ => rfl
  | n + 1, h => by
    show (if P n = true then y_cnb P n + 1 else y_cnb P n) = if Q n = true then y_cnb Q n + 1 else y_cnb Q n
    rw [h n (Nat.lt_succ_self n), y_cnb_eq (fun i hi => h i (by omega))]
/-- the places that P finds, in their order -/
def y_fnd (P : Nat → Bool) (i : Nat) (f : Nat → Int32) : Prop := ∀ j, j < i → P j = true → f (y_cnb P j) = nI j
theorem y_cnb_lt {P : Nat → Bool} {j : Nat} : ∀ {i : Nat}, j < i → P j = true → y_cnb P j < y_cnb P i
  | 0, h, _ => absurd h (Nat.not_lt_zero j)
  | i + 1, h, hp => by
    rcases Nat.lt_or_ge j i with h2 | h2
    · have := y_cnb_lt h2 hp
      show _ < if P i = true then y_cnb P i + 1 else y_cnb P i
      split <;> omega
    · have e : j = i := by omega
      subst e
      rw [y_cnb_t hp]
      omega
theorem y_fnd_t {P : Nat → Bool} {i : Nat} {f : Nat → Int32} (h : y_fnd P i f) (hp : P i = true) : y_fnd P (i + 1) (upd f (y_cnb P i) (nI i)) := fun j hj hq => by
  rcases Nat.lt_or_ge j i with h2 | h2
  · rw [pk_un (Nat.ne_of_lt (y_cnb_lt h2 hq))]
    exact h j h2 hq
  · have e : j = i := by omega
    subst e
    rw [pk_us]
theorem y_fnd_f {P : Nat → Bool} {i : Nat} {f : Nat → Int32} (h : y_fnd P i f) (hp : P i = false) : y_fnd P (i + 1) f := fun j hj hq => by
  rcases Nat.lt_or_ge j i with h2 | h2
  · exact h j h2 hq
  · have e : j = i := by omega
    subst e
    rw [hp] at hq
    cases hq
