/-! ===== words as naturals (pasted from the kit's laws), and a row ===== -/
theorem wb_tb (n : Nat) : (lN n).toBitVec = BitVec.ofNat 64 n := rfl
theorem wb_inj {a b : Int64} (h : a.toBitVec = b.toBitVec) : a = b := Int64.toBitVec_inj.mp h
theorem wb_tn {n : Nat} (h : n < 2 ^ 64) : (lN n).toBitVec.toNat = n := by rw [wb_tb, BitVec.toNat_ofNat, Nat.mod_eq_of_lt h]
theorem wb_of (x : Int64) : ∃ n, n < 2 ^ 64 ∧ x = lN n := ⟨x.toBitVec.toNat, x.toBitVec.isLt, wb_inj (by rw [wb_tb]; simp)⟩
theorem wb_of32 (x : Int32) : ∃ n, n < 2 ^ 32 ∧ x = nI n := ⟨x.toBitVec.toNat, x.toBitVec.isLt, Int32.toBitVec_inj.mp (by show _ = BitVec.ofNat 32 _; simp)⟩
theorem wb_c : ∀ k, k < 64 → ((nI k).toInt64 &&& 63) = lN k := by decide +kernel
theorem wb_cu : ∀ k, k < 64 → ((nI k).toInt64.toUInt64 &&& Int64.toUInt64 63) = UInt64.ofNat k := by decide +kernel
theorem wb_sm : ∀ k, k < 64 → (BitVec.ofNat 64 k).smod 64 = BitVec.ofNat 64 k := by decide +kernel
theorem wb_pw {a b : Nat} (h : a ≤ b) : 2 ^ b = 2 ^ a * 2 ^ (b - a) := by rw [← Nat.pow_add]; congr 1; omega
theorem wb_lt2 {a b : Nat} (h : a < b) : 2 ^ a < 2 ^ b := Nat.pow_lt_pow_right (by decide) h
theorem wb_mod (n : Nat) : lN n = lN (n % 2 ^ 64) := wb_inj (by rw [wb_tb, wb_tb]; apply BitVec.eq_of_toNat_eq; rw [BitVec.toNat_ofNat, BitVec.toNat_ofNat, Nat.mod_mod])
theorem wb_shr {n k : Nat} (hn : n < 2 ^ 64) (hk : k < 64) : ((lN n).toUInt64 >>> ((nI k).toInt64.toUInt64 &&& Int64.toUInt64 63)).toInt64 = lN (n / 2 ^ k) := by
  rw [wb_cu k hk]
  apply wb_inj
  apply BitVec.eq_of_toNat_eq
  show ((lN n).toUInt64 >>> UInt64.ofNat k).toNat = (BitVec.ofNat 64 _).toNat
  have h1 : (UInt64.ofNat k).toNat = k := by
    show (BitVec.ofNat 64 k).toNat = k
    rw [BitVec.toNat_ofNat, Nat.mod_eq_of_lt (by omega)]
  have h2 : (lN n).toUInt64.toNat = n := wb_tn hn
  rw [UInt64.toNat_shiftRight, h1, h2, Nat.mod_eq_of_lt hk, Nat.shiftRight_eq_div_pow, BitVec.toNat_ofNat, Nat.mod_eq_of_lt (Nat.lt_of_le_of_lt (Nat.div_le_self _ _) hn)]
theorem wb_shl (n : Nat) {k : Nat} (hk : k < 64) : lN n <<< ((nI k).toInt64 &&& 63) = lN (n * 2 ^ k) := by
  rw [wb_c k hk]
  apply wb_inj
  rw [Int64.toBitVec_shiftLeft, wb_tb, wb_tb, wb_tb, wb_sm k hk]
  apply BitVec.eq_of_toNat_eq
  rw [BitVec.shiftLeft_eq', BitVec.toNat_shiftLeft, BitVec.toNat_ofNat, BitVec.toNat_ofNat, BitVec.toNat_ofNat, Nat.mod_eq_of_lt (show k < 2 ^ 64 by omega), Nat.shiftLeft_eq, Nat.mul_mod, Nat.mod_mod, ← Nat.mul_mod]
theorem wb_and {a b : Nat} (ha : a < 2 ^ 64) (hb : b < 2 ^ 64) : lN a &&& lN b = lN (a &&& b) := by
  apply wb_inj
  rw [Int64.toBitVec_and, wb_tb, wb_tb, wb_tb]
  apply BitVec.eq_of_toNat_eq
  rw [BitVec.toNat_and, BitVec.toNat_ofNat, BitVec.toNat_ofNat, BitVec.toNat_ofNat, Nat.mod_eq_of_lt ha, Nat.mod_eq_of_lt hb, Nat.mod_eq_of_lt (Nat.and_lt_two_pow _ hb)]
theorem wb_or {a b : Nat} (ha : a < 2 ^ 64) (hb : b < 2 ^ 64) : lN a ||| lN b = lN (a ||| b) := by
  apply wb_inj
  rw [Int64.toBitVec_or, wb_tb, wb_tb, wb_tb]
  apply BitVec.eq_of_toNat_eq
  rw [BitVec.toNat_or, BitVec.toNat_ofNat, BitVec.toNat_ofNat, BitVec.toNat_ofNat, Nat.mod_eq_of_lt ha, Nat.mod_eq_of_lt hb, Nat.mod_eq_of_lt (Nat.or_lt_two_pow ha hb)]
theorem wb_mask {n k : Nat} (hn : n < 2 ^ 64) (hk : k < 64) : lN n &&& lN (2 ^ k - 1) = lN (n % 2 ^ k) := by
  rw [wb_and hn (by have := wb_lt2 hk; omega), Nat.and_two_pow_sub_one_eq_mod]
theorem wb_a1 {n : Nat} (hn : n < 2 ^ 64) : lN n &&& 1 = lN (n % 2) := wb_mask (k := 1) hn (by decide)
theorem wb_bit {n k : Nat} (hn : n < 2 ^ 64) (hk : k < 64) : ((lN n).toUInt64 >>> ((nI k).toInt64.toUInt64 &&& Int64.toUInt64 63)).toInt64 &&& 1 = lN (n / 2 ^ k % 2) := by
  rw [wb_shr hn hk, wb_a1 (Nat.lt_of_le_of_lt (Nat.div_le_self _ _) hn)]
theorem pf_lI {a : Nat} (h : a < 2 ^ 63) : (lN a).toInt = (a : Int) := lg_ofNat_toInt h
theorem pf_shr {a d : Nat} {D : Int64} (hD : (D.toBitVec.smod 64).toNat = d) (h : a < 2 ^ 62) : lN a >>> D = lN (a / 2 ^ d) := by
  have hd : a / 2 ^ d ≤ a := Nat.div_le_self _ _
  apply Int64.toInt_inj.mp
  have e : (lN a >>> D).toInt = (lN a).toInt >>> d := by
    rw [← hD]
    exact BitVec.toInt_sshiftRight ..
  rw [e, Int.shiftRight_eq_div_pow, pf_lI (by omega), pf_lI (by omega)]
  rfl
theorem x_lmask (k : Nat) (hk : k < 64) {n : Nat} (h : n < 2 ^ 64) : lN n &&& lN (2 ^ k - 1) = lN (n % 2 ^ k) := wb_mask h hk
theorem x_lshrN (k : Nat) (hk : (((nI k).toInt64 &&& 63).toBitVec.smod 64).toNat = k) {n : Nat} (h : n < 2 ^ 62) : lN n >>> ((nI k).toInt64 &&& 63) = lN (n / 2 ^ k) := pf_shr hk h
section XLW
variable {p : Program} {l : Launch} {e : Env} {R : Room} {s : State} {m : MethodId} {args : Array Value} {below : List Frame} {meth : Method} {c : Code} {cells slots : Nat} {Q : State → Prop} {cc : ByteArray} {nL : Nat} {own : String} {Y : x_Y} {pc : Nat} {L : x_Lo} {st : List Value} {σ : x_S}
theorem x_ldcw (C : x_C p s m args c cc nL own Y) {index : Nat} (v : Int32) (hw : Cond.constant own index v ∈ x_wd) (hd : decode cc pc = .ok (.ldc_w index, 3)) (k : x_W p l e R s m args below meth c nL Y cells slots Q (pc + 3) L (.int v :: st) σ) : x_W p l e R s m args below meth c nL Y cells slots Q pc L st σ :=
  fun H locs ls hP hS hl => lv_ldcw C.1 C.2.1 C.2.2.2.1 (C.2.2.2.2.1 _ hw) hd (k H locs ls hP hS hl)
end XLW
/-! ===== numbers in limbs of 16 bits ===== -/
def y_dg (v k : Nat) : Nat := v / 65536 ^ k % 65536
theorem y_dg_lt (v k : Nat) : y_dg v k < 65536 := Nat.mod_lt _ (by decide)
theorem y_B0 (k : Nat) : 0 < 65536 ^ k := Nat.pow_pos (by decide)
/-- the region at x holds the number v -/
def y_is (f : Nat → Int32) (x v : Nat) : Prop := v < 65536 ^ 64 ∧ ∀ k, k < 64 → f (x + k) = nI (y_dg v k)
/-- nothing but the region at x has changed -/
def y_fr (x : Nat) (f g : Nat → Int32) : Prop := ∀ j, j < x ∨ x + 64 ≤ j → g j = f j
/-- the first k limbs are w's, the others v's -/
def y_pt (g : Nat → Int32) (x k w v : Nat) : Prop := ∀ j, j < 64 → g (x + j) = nI (if j < k then y_dg w j else y_dg v j)
theorem y_fr_rf (x : Nat) (f : Nat → Int32) : y_fr x f f := fun _ _ => rfl
theorem y_fr_u {x k : Nat} {f g : Nat → Int32} {v : Int32} (h : y_fr x f g) (hk : k < 64) : y_fr x f (upd g (x + k) v) := fun j hj => by
  rw [pk_un (by omega)]
  exact h j hj
theorem y_fr_is {x y v : Nat} {f g : Nat → Int32} (h : y_fr x f g) (hy : y + 64 ≤ x ∨ x + 64 ≤ y) (hv : y_is f y v) : y_is g y v :=
  ⟨hv.1, fun k hk => by rw [h (y + k) (by omega)]; exact hv.2 k hk⟩
theorem y_fr_tr {x : Nat} {f g h : Nat → Int32} (h1 : y_fr x f g) (h2 : y_fr x g h) : y_fr x f h := fun j hj => (h2 j hj).trans (h1 j hj)
theorem y_pt_0 {g : Nat → Int32} {x v : Nat} (w : Nat) (h : y_is g x v) : y_pt g x 0 w v := fun j hj => by
  rw [if_neg (Nat.not_lt_zero j)]
  exact h.2 j hj
theorem y_pt_t {g : Nat → Int32} {x v : Nat} (w : Nat) (h : y_is g x v) : y_pt g x 64 v w := fun j hj => by
  rw [if_pos hj]
  exact h.2 j hj
theorem y_pt_64 {g : Nat → Int32} {x w v : Nat} (h : y_pt g x 64 w v) (hw : w < 65536 ^ 64) : y_is g x w := ⟨hw, fun k hk => by
  have := h k hk
  rw [if_pos hk] at this
  exact this⟩
theorem y_pt_b {g : Nat → Int32} {x w v : Nat} (h : y_pt g x 0 w v) (hw : v < 65536 ^ 64) : y_is g x v := ⟨hw, fun k hk => by
  have := h k hk
  rw [if_neg (Nat.not_lt_zero k)] at this
  exact this⟩
theorem y_pt_at {g : Nat → Int32} {x k w v : Nat} (h : y_pt g x k w v) (hk : k < 64) : g (x + k) = nI (y_dg v k) := by
  have := h k hk
  rw [if_neg (Nat.lt_irrefl k)] at this
  exact this
theorem y_pt_hi {g : Nat → Int32} {x k w v j : Nat} (h : y_pt g x k w v) (hj : j < 64) (hk : k ≤ j) : g (x + j) = nI (y_dg v j) := by
  have := h j hj
  rw [if_neg (by omega)] at this
  exact this
theorem y_pt_lo {g : Nat → Int32} {x k w v j : Nat} (h : y_pt g x k w v) (hj : j < 64) (hk : j < k) : g (x + j) = nI (y_dg w j) := by
  have := h j hj
  rw [if_pos hk] at this
  exact this
theorem y_pt_s {g : Nat → Int32} {x k w v : Nat} (h : y_pt g x k w v) : y_pt (upd g (x + k) (nI (y_dg w k))) x (k + 1) w v := fun j hj => by
  by_cases e : j = k
  · subst e
    rw [pk_us, if_pos (Nat.lt_succ_self j)]
  · rw [pk_un (by omega), h j hj]
    by_cases h2 : j < k
    · rw [if_pos h2, if_pos (by omega)]
    · rw [if_neg h2, if_neg (by omega)]
theorem y_pt_d {g : Nat → Int32} {x k w v : Nat} (h : y_pt g x (k + 1) w v) : y_pt (upd g (x + k) (nI (y_dg v k))) x k w v := fun j hj => by
  by_cases e : j = k
  · subst e
    rw [pk_us, if_neg (Nat.lt_irrefl j)]
  · rw [pk_un (by omega), h j hj]
    by_cases h2 : j < k
    · rw [if_pos h2, if_pos (by omega)]
    · rw [if_neg h2, if_neg (by omega)]
theorem y_dg_s (v k : Nat) : v / 65536 ^ k = v / 65536 ^ (k + 1) * 65536 + y_dg v k := by
  have e : v / 65536 ^ (k + 1) = v / 65536 ^ k / 65536 := by rw [Nat.div_div_eq_div_mul, Nat.pow_succ]
  rw [e]
  unfold y_dg
  generalize v / 65536 ^ k = q
  omega
theorem y_md_s (v k : Nat) : v % 65536 ^ (k + 1) = v % 65536 ^ k + 65536 ^ k * y_dg v k := Nat.mod_pow_succ
/-! times -/
def y_cy (v b k : Nat) : Nat := v % 65536 ^ k * b / 65536 ^ k
theorem y_cy_0 (v b : Nat) : y_cy v b 0 = 0 := by
  unfold y_cy
  rw [Nat.pow_zero, Nat.mod_one, Nat.zero_mul]
theorem y_cy_le (v b k : Nat) : y_cy v b k ≤ b := by
  unfold y_cy
  refine Nat.div_le_of_le_mul ?_
  exact Nat.mul_le_mul_right b (Nat.le_of_lt (Nat.mod_lt _ (y_B0 k)))
theorem y_cy_s (v b k : Nat) : y_cy v b (k + 1) = (y_dg v k * b + y_cy v b k) / 65536 := by
  unfold y_cy
  rw [y_md_s, Nat.pow_succ, ← Nat.div_div_eq_div_mul]
  congr 1
  rw [Nat.add_mul, Nat.mul_assoc, Nat.add_mul_div_left _ _ (y_B0 k), Nat.add_comm]
theorem y_tm_d (v b k : Nat) : y_dg (v * b) k = (y_dg v k * b + y_cy v b k) % 65536 := by
  have h := Nat.div_add_mod v (65536 ^ k)
  have e : v * b / 65536 ^ k = v / 65536 ^ k * b + y_cy v b k := by
    unfold y_cy
    conv => lhs; rw [← h]
    rw [Nat.add_mul, Nat.mul_assoc, Nat.add_comm, Nat.add_mul_div_left _ _ (y_B0 k), Nat.add_comm]
  unfold y_dg
  rw [e, Nat.add_mod, Nat.mul_mod, Nat.add_mod (v / 65536 ^ k % 65536 * b), Nat.mul_mod (v / 65536 ^ k % 65536) b, Nat.mod_mod]
theorem y_tm_b {v b k : Nat} (hb : b < 2 ^ 46) : y_dg v k * b + y_cy v b k < 2 ^ 62 := by
  have h1 := y_cy_le v b k
  have h2 : y_dg v k * b ≤ 65535 * b := Nat.mul_le_mul_right b (by have := y_dg_lt v k; omega)
  omega
/-! divide -/
theorem y_dv (v d k : Nat) (hd : 0 < d) : y_dg (v / d) k = (v / 65536 ^ (k + 1) % d * 65536 + y_dg v k) / d ∧ v / 65536 ^ k % d = (v / 65536 ^ (k + 1) % d * 65536 + y_dg v k) % d := by
  have h := y_dg_s v k
  have h2 := Nat.div_add_mod (v / 65536 ^ (k + 1)) d
  have h3 := Nat.mod_lt (v / 65536 ^ (k + 1)) hd
  have h4 := y_dg_lt v k
  have e : v / 65536 ^ k = (v / 65536 ^ (k + 1) % d * 65536 + y_dg v k) + d * (v / 65536 ^ (k + 1) / d * 65536) := by
    rw [h]
    conv => lhs; rw [← h2]
    rw [Nat.add_mul, Nat.mul_assoc]
    omega
  have hlt : (v / 65536 ^ (k + 1) % d * 65536 + y_dg v k) / d < 65536 := by
    refine Nat.div_lt_of_lt_mul ?_
    have : (v / 65536 ^ (k + 1) % d + 1) * 65536 ≤ d * 65536 := Nat.mul_le_mul_right _ h3
    omega
  refine ⟨?_, ?_⟩
  · show v / d / 65536 ^ k % 65536 = _
    rw [Nat.div_div_eq_div_mul, Nat.mul_comm, ← Nat.div_div_eq_div_mul, e, Nat.add_mul_div_left _ _ hd, Nat.add_mul_mod_self_right, Nat.mod_eq_of_lt hlt]
  · rw [e, Nat.add_mul_mod_self_left]
theorem y_dv_b {v d k : Nat} (hd : 0 < d) (hd9 : d < 2 ^ 46) : v / 65536 ^ (k + 1) % d * 65536 + y_dg v k < 2 ^ 62 := by
  have h3 := Nat.mod_lt (v / 65536 ^ (k + 1)) hd
  have h4 := y_dg_lt v k
  omega
/-! add -/
def y_ca (v w k : Nat) : Nat := (v % 65536 ^ k + w % 65536 ^ k) / 65536 ^ k
theorem y_ca_0 (v w : Nat) : y_ca v w 0 = 0 := by
  unfold y_ca
  rw [Nat.pow_zero, Nat.mod_one, Nat.mod_one]
theorem y_ca_le (v w k : Nat) : y_ca v w k ≤ 1 := by
  unfold y_ca
  have h1 := Nat.mod_lt v (y_B0 k)
  have h2 := Nat.mod_lt w (y_B0 k)
  refine Nat.le_of_lt_succ (Nat.div_lt_of_lt_mul ?_)
  omega
theorem y_ca_s (v w k : Nat) : y_ca v w (k + 1) = (y_dg v k + y_dg w k + y_ca v w k) / 65536 := by
  unfold y_ca
  rw [y_md_s, y_md_s, Nat.pow_succ, ← Nat.div_div_eq_div_mul]
  congr 1
  have e : v % 65536 ^ k + 65536 ^ k * y_dg v k + (w % 65536 ^ k + 65536 ^ k * y_dg w k) = v % 65536 ^ k + w % 65536 ^ k + 65536 ^ k * (y_dg v k + y_dg w k) := by
    rw [Nat.mul_add]
    omega
  rw [e, Nat.add_mul_div_left _ _ (y_B0 k), Nat.add_comm]
theorem y_ad_d (v w k : Nat) : y_dg (v + w) k = (y_dg v k + y_dg w k + y_ca v w k) % 65536 := by
  have h := Nat.div_add_mod v (65536 ^ k)
  have h' := Nat.div_add_mod w (65536 ^ k)
  have e : (v + w) / 65536 ^ k = v / 65536 ^ k + w / 65536 ^ k + y_ca v w k := by
    unfold y_ca
    have e2 : v + w = v % 65536 ^ k + w % 65536 ^ k + 65536 ^ k * (v / 65536 ^ k + w / 65536 ^ k) := by
      rw [Nat.mul_add]
      omega
    conv => lhs; rw [e2]
    rw [Nat.add_mul_div_left _ _ (y_B0 k), Nat.add_comm]
  unfold y_dg
  rw [e]
  omega
/-! subtract -/
def y_bo (v w k : Nat) : Nat := if v % 65536 ^ k < w % 65536 ^ k then 1 else 0
theorem y_bo_0 (v w : Nat) : y_bo v w 0 = 0 := by
  unfold y_bo
  rw [Nat.pow_zero, Nat.mod_one, Nat.mod_one]
  rfl
theorem y_bo_le (v w k : Nat) : y_bo v w k ≤ 1 := by
  unfold y_bo
  split <;> omega
theorem y_bo_ca (u w k : Nat) : y_bo (u + w) w k = y_ca u w k := by
  unfold y_bo y_ca
  have h1 := Nat.mod_lt u (y_B0 k)
  have h2 := Nat.mod_lt w (y_B0 k)
  rw [Nat.add_mod]
  by_cases h : u % 65536 ^ k + w % 65536 ^ k < 65536 ^ k
  · rw [Nat.mod_eq_of_lt h, if_neg (by omega), Nat.div_eq_of_lt h]
  · have e : (u % 65536 ^ k + w % 65536 ^ k) % 65536 ^ k = u % 65536 ^ k + w % 65536 ^ k - 65536 ^ k := by
      rw [Nat.mod_eq_sub_mod (by omega), Nat.mod_eq_of_lt (by omega)]
    rw [e, if_pos (by omega)]
    refine (Nat.div_eq_of_lt_le ?_ ?_).symm
    · omega
    · omega
theorem y_su (v w k : Nat) (h : w ≤ v) : y_dg (v - w) k = (y_dg v k + 65536 - y_dg w k - y_bo v w k) % 65536 ∧ y_bo v w (k + 1) = if y_dg v k < y_dg w k + y_bo v w k then 1 else 0 := by
  obtain ⟨u, rfl⟩ : ∃ u, v = u + w := ⟨v - w, by omega⟩
  rw [Nat.add_sub_cancel, y_bo_ca, y_bo_ca, y_ca_s, y_ad_d]
  have h1 := y_dg_lt u k
  have h2 := y_dg_lt w k
  have h3 := y_ca_le u w k
  refine ⟨by omega, ?_⟩
  split <;> omega
theorem y_sb {a b c : Nat} (ha : a < 65536) (hb : b < 65536) (hc : c ≤ 1) : (nI a - nI b - nI c) &&& 65535 = nI ((a + 65536 - b - c) % 65536) := by
  have e : nI a - nI b - nI c = nI (a + 4294967296 - b - c) := by
    have e1 : nI a = nI (a + 4294967296) := Int32.toBitVec_inj.mp (by
      show BitVec.ofNat 32 a = BitVec.ofNat 32 (a + 4294967296)
      apply BitVec.eq_of_toNat_eq
      rw [BitVec.toNat_ofNat, BitVec.toNat_ofNat]
      omega)
    rw [e1, pk_sub (by omega), pk_sub (by omega)]
  rw [e]
  have e2 : nI (a + 4294967296 - b - c) = nI ((a + 4294967296 - b - c) % 4294967296) := Int32.toBitVec_inj.mp (by
    show BitVec.ofNat 32 _ = BitVec.ofNat 32 _
    apply BitVec.eq_of_toNat_eq
    rw [BitVec.toNat_ofNat, BitVec.toNat_ofNat]
    omega)
  rw [e2, pk_andN (by omega) 16 (by decide)]
  congr 1
  omega
theorem y_sbi {a b c : Nat} (ha : a < 65536) (hb : b < 65536) (hc : c ≤ 1) : (nI a - nI b - nI c).toInt = (a : Int) - b - c := by
  rw [Int32.toInt_sub, pk_sub_toInt (by omega) (by omega), nI_toInt (by omega)]
  refine Int.bmod_eq_of_le ?_ ?_ <;> omega
theorem y_sbn {a b c : Nat} (ha : a < 65536) (hb : b < 65536) (hc : c ≤ 1) : nI a - nI b - nI c < 0 ↔ a < b + c := by
  rw [Int32.lt_iff_toInt_lt, y_sbi ha hb hc]
  show (a : Int) - b - c < 0 ↔ _
  omega
/-! isBelow, isNought, halve -/
theorem y_bl {v w k : Nat} (h : v / 65536 ^ (k + 1) = w / 65536 ^ (k + 1)) (hk : k = 0 ∨ y_dg v k ≠ y_dg w k) : y_dg v k < y_dg w k ↔ v < w := by
  have h1 := y_dg_s v k
  have h2 := y_dg_s w k
  rw [h] at h1
  rcases Nat.lt_trichotomy (y_dg v k) (y_dg w k) with h3 | h3 | h3
  · refine ⟨fun _ => ?_, fun _ => h3⟩
    refine Nat.lt_of_not_le (fun z => ?_)
    have := Nat.div_le_div_right (c := 65536 ^ k) z
    omega
  · rcases hk with h4 | h4
    · subst h4
      rw [Nat.pow_zero, Nat.div_one] at h1 h2
      omega
    · exact absurd h3 h4
  · refine ⟨fun z => by omega, fun z => ?_⟩
    have := Nat.div_le_div_right (c := 65536 ^ k) (Nat.le_of_lt z)
    omega
theorem y_no (v k : Nat) : decide (v % 65536 ^ (k + 1) = 0) = (decide (v % 65536 ^ k = 0) && decide (y_dg v k = 0)) := by
  have h := y_md_s v k
  have h0 := y_B0 k
  rw [h, ← Bool.decide_and]
  refine decide_eq_decide.mpr ?_
  constructor
  · intro z
    have z1 : v % 65536 ^ k = 0 := by omega
    have z2 : 65536 ^ k * y_dg v k = 0 := by omega
    rcases Nat.mul_eq_zero.mp z2 with z3 | z3
    · omega
    · exact ⟨z1, z3⟩
  · rintro ⟨z1, z2⟩
    rw [z1, z2, Nat.mul_zero]
theorem y_ha (v k : Nat) : y_dg (v / 2) k = y_dg v k / 2 + y_dg v (k + 1) % 2 * 32768 := by
  have h := y_dg_s v k
  unfold y_dg at *
  rw [Nat.div_div_eq_div_mul, Nat.mul_comm, ← Nat.div_div_eq_div_mul]
  generalize v / 65536 ^ k = q at *
  generalize v / 65536 ^ (k + 1) = p at *
  omega
theorem y_or {a b : Nat} (ha : a < 32768) (hb : b ≤ 1) : nI a ||| nI (b * 32768) = nI (a + b * 32768) := by
  apply Int32.toBitVec_inj.mp
  rw [Int32.toBitVec_or]
  apply BitVec.eq_of_toNat_eq
  rw [BitVec.toNat_or, pk_tn (by omega), pk_tn (by omega), pk_tn (by omega)]
  have := Nat.two_pow_add_eq_or_of_lt (i := 15) (b := a) (by omega) b
  rw [Nat.or_comm, show b * 32768 = 2 ^ 15 * b by omega, ← this]
  omega
theorem y_dg_64 {v : Nat} (h : v < 65536 ^ 64) : y_dg v 64 = 0 := by
  unfold y_dg
  rw [Nat.div_eq_of_lt h]
theorem y_dg_b0 {v : Nat} (h : v < 65536) : y_dg v 0 = v := by
  unfold y_dg
  rw [Nat.pow_zero, Nat.div_one, Nat.mod_eq_of_lt h]
theorem y_dg_bs {v k : Nat} (h : v < 65536) (hk : 0 < k) : y_dg v k = 0 := by
  unfold y_dg
  have : 65536 ^ 1 ≤ 65536 ^ k := Nat.pow_le_pow_right (by decide) hk
  rw [Nat.div_eq_of_lt (by omega)]
theorem y_dg_0 (k : Nat) : y_dg 0 k = 0 := by
  unfold y_dg
  rw [Nat.zero_div]
theorem y_nneg {k : Nat} (h : k < 2 ^ 31) : ¬ nI k < 0 := fun z => by
  have z1 := Int32.lt_iff_toInt_lt.mp z
  rw [nI_toInt h] at z1
  have z2 : (0 : Int32).toInt = 0 := rfl
  omega
