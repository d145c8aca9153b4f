/-! ===== the class's maker of groups, as functions ===== -/
def z_tc (lf g : Nat → Int32) (r fr st : Nat) : Int32 := lf r * g fr + lf (r + 1) * g (fr + st) + lf (r + 2) * g (fr + 2 * st)
def z_nu (lf g : Nat → Int32) (fr m : Nat) : Int32 := z_tc lf g (3 * (m / 3)) (fr + m % 3) 3
def z_kr (lf g : Nat → Int32) (fr : Nat) : Nat → Int32
  | 0 => nI 0
  | m + 1 => (z_kr lf g fr m <<< (nI 2 &&& 31)) + z_nu lf g fr m + nI 1
def z_ks (lf g : Nat → Int32) (fr : Nat) : Nat → Int32
  | 0 => z_kr lf g fr 9
  | m + 1 => (z_ks lf g fr m <<< (nI 4 &&& 31)) + x_md12 (z_tc lf g (m * 3) (fr + 9) 1 + lf (9 + m))
def z_inr (v : Int32) : Prop := ¬ v < -1 ∧ ¬ nI 1 < v
theorem z_nu_aj (lf g : Nat → Int32) (fr a j : Nat) (hj : j < 3) : z_tc lf g (3 * a) (fr + j) 3 = z_nu lf g fr (3 * a + j) := by
  unfold z_nu
  rw [show (3 * a + j) / 3 = a by omega, show (3 * a + j) % 3 = j by omega]
theorem z_tc_c {lf lg g : Nat → Int32} (h : ∀ j, j < 12 → lf j = lg j) {r : Nat} (fr st : Nat) (hr : r + 2 < 12) : z_tc lf g r fr st = z_tc lg g r fr st := by
  unfold z_tc
  rw [h r (by omega), h (r + 1) (by omega), h (r + 2) hr]
theorem z_nu_c {lf lg g : Nat → Int32} (h : ∀ j, j < 12 → lf j = lg j) (fr : Nat) {m : Nat} (hm : m < 9) : z_nu lf g fr m = z_nu lg g fr m := z_tc_c h _ _ (by omega)
theorem z_kr_c {lf lg g : Nat → Int32} (h : ∀ j, j < 12 → lf j = lg j) (fr : Nat) : ∀ {m : Nat}, m ≤ 9 → z_kr lf g fr m = z_kr lg g fr m
  | 0, _ => rfl
  | m + 1, hm => by
    show (z_kr lf g fr m <<< (nI 2 &&& 31)) + z_nu lf g fr m + nI 1 = (z_kr lg g fr m <<< (nI 2 &&& 31)) + z_nu lg g fr m + nI 1
    rw [z_kr_c h fr (by omega), z_nu_c h fr (by omega)]
theorem z_ks_c {lf lg g : Nat → Int32} (h : ∀ j, j < 12 → lf j = lg j) (fr : Nat) : ∀ {m : Nat}, m ≤ 3 → z_ks lf g fr m = z_ks lg g fr m
  | 0, _ => z_kr_c h fr (Nat.le_refl 9)
  | m + 1, hm => by
    show (z_ks lf g fr m <<< (nI 4 &&& 31)) + x_md12 (z_tc lf g (m * 3) (fr + 9) 1 + lf (9 + m)) = (z_ks lg g fr m <<< (nI 4 &&& 31)) + x_md12 (z_tc lg g (m * 3) (fr + 9) 1 + lg (9 + m))
    rw [z_ks_c h fr (by omega), z_tc_c h _ _ (by omega), h (9 + m) (by omega)]
/-! sorted keys -/
def z_so (f : Nat → Int32) (n : Nat) : Prop := ∀ a b, a < b → b < n → f a < f b
theorem z_lt_tr {a b c : Int32} (h : a < b) (h2 : b < c) : a < c := Int32.lt_iff_toInt_lt.mpr (Int.lt_trans (Int32.lt_iff_toInt_lt.mp h) (Int32.lt_iff_toInt_lt.mp h2))
theorem z_lt_ir {a : Int32} (h : a < a) : False := Int.lt_irrefl _ (Int32.lt_iff_toInt_lt.mp h)
theorem z_lt_of {a b : Int32} (h : ¬ a < b) (h2 : a ≠ b) : b < a := by
  have h1 := Int32.le_iff_toInt_le.mp (Int32.not_lt.mp h)
  refine Int32.lt_iff_toInt_lt.mpr ?_
  have h4 : a.toInt ≠ b.toInt := fun z => h2 (Int32.toInt_inj.mp z)
  omega
theorem z_pl_lo {f : Nat → Int32} {n m : Nat} {q : Int32} (hs : z_so f n) (hm : m < n) (h : f m < q) : ∀ j, j < m + 1 → f j < q := fun j hj => by
  rcases Nat.lt_or_ge j m with h1 | h1
  · exact z_lt_tr (hs j m h1 hm) h
  · have e : j = m := by omega
    subst e
    exact h
theorem z_pl_hi {f : Nat → Int32} {n m : Nat} {q : Int32} (hs : z_so f n) (h : ¬ f m < q) : ∀ j, m ≤ j → j < n → ¬ f j < q := fun j h1 h2 z => by
  rcases Nat.lt_or_ge m j with h3 | h3
  · exact h (z_lt_tr (hs m j h3 h2) z)
  · have e : j = m := by omega
    subst e
    exact h z
theorem z_bs0 {lo hi k : Nat} (hl : lo ≤ hi) (hw : (hi - lo) * 2 ^ k ≤ 192) (hk : 32 ≤ k) : lo = hi := by
  have h1 : 2 ^ 32 ≤ 2 ^ k := Nat.pow_le_pow_right (by decide) hk
  rcases Nat.lt_or_ge lo hi with h | h
  · have h2 : 1 * 2 ^ k ≤ (hi - lo) * 2 ^ k := Nat.mul_le_mul_right _ (by omega)
    omega
  · omega
theorem z_bs1 {d e k : Nat} (hw : d * 2 ^ k ≤ 192) (he : 2 * e ≤ d) : e * 2 ^ (k + 1) ≤ 192 := by
  have h1 : 2 * e * 2 ^ k ≤ d * 2 ^ k := Nat.mul_le_mul_right _ he
  rw [Nat.pow_succ, Nat.mul_comm (2 ^ k), ← Nat.mul_assoc, Nat.mul_comm e]
  omega
/-- the rows of found and of sorted keys hold the keys Ks -/
def z_kh (f5 f6 : Nat → Int32) (Ks : List Int32) : Prop :=
  (∀ j q, Ks[j]? = some q → f5 j = q) ∧ z_so f6 Ks.length ∧ (∀ j, j < Ks.length → f6 j ∈ Ks) ∧ ∀ q ∈ Ks, ∃ j, j < Ks.length ∧ f6 j = q
theorem z_kh_no {f5 f6 : Nat → Int32} {Ks : List Int32} {q : Int32} {a : Nat} (h : z_kh f5 f6 Ks) (h1 : ∀ j, j < a → f6 j < q) (h2 : ∀ j, a ≤ j → j < Ks.length → ¬ f6 j < q) (hne : ¬ (a < Ks.length ∧ f6 a = q)) : q ∉ Ks := fun z => by
  obtain ⟨j, hj, he⟩ := h.2.2.2 q z
  rcases Nat.lt_or_ge j a with h3 | h3
  · have := h1 j h3
    rw [he] at this
    exact z_lt_ir this
  · rcases Nat.lt_or_ge a j with h4 | h4
    · have h5 := h.2.1 a j h4 hj
      rw [he] at h5
      exact h2 a (Nat.le_refl a) (by omega) h5
    · have e : j = a := by omega
      subst e
      exact hne ⟨hj, he⟩
theorem z_ins {f : Nat → Int32} {a n : Nat} {q : Int32} (j : Nat) : upd (va_cpy f f a (a + 1) (n - a)) a q j = if j < a then f j else if j = a then q else if j ≤ n then f (j - 1) else f j := by
  by_cases h1 : j = a
  · subst h1
    rw [pk_us, if_neg (Nat.lt_irrefl j), if_pos rfl]
  · rw [pk_un h1]
    by_cases h2 : j < a
    · rw [if_pos h2, pk_cpy_out (by omega)]
    · rw [if_neg h2, if_neg h1]
      by_cases h3 : j ≤ n
      · rw [if_pos h3, pk_cpy_in (by omega) (by omega), show a + (j - (a + 1)) = j - 1 by omega]
      · rw [if_neg h3, pk_cpy_out (by omega)]
theorem z_kh_in {f5 f6 : Nat → Int32} {Ks : List Int32} {q : Int32} {a : Nat} (h : z_kh f5 f6 Ks) (ha : a ≤ Ks.length) (h1 : ∀ j, j < a → f6 j < q) (h2 : ∀ j, a ≤ j → j < Ks.length → ¬ f6 j < q) (hq : q ∉ Ks) :
    z_kh (upd f5 Ks.length q) (upd (va_cpy f6 f6 a (a + 1) (Ks.length - a)) a q) (Ks ++ [q]) := by
  have hlen : (Ks ++ [q]).length = Ks.length + 1 := by rw [List.length_append]; rfl
  have h3 : ∀ j, a ≤ j → j < Ks.length → q < f6 j := fun j h3 h4 => z_lt_of (h2 j h3 h4) (fun z => hq (by rw [← z]; exact h.2.2.1 j h4))
  refine ⟨fun j x hj => ?_, fun b c hb hc => ?_, fun j hj => ?_, fun x hx => ?_⟩
  · rcases Nat.lt_trichotomy j Ks.length with h4 | h4 | h4
    · rw [List.getElem?_append_left h4] at hj
      rw [pk_un (by omega)]
      exact h.1 j x hj
    · subst h4
      rw [List.getElem?_append_right (Nat.le_refl _), Nat.sub_self] at hj
      rw [pk_us]
      exact Option.some.inj hj
    · rw [List.getElem?_eq_none (by omega)] at hj
      cases hj
  · rw [hlen] at hc
    rw [z_ins, z_ins]
    rcases Nat.lt_trichotomy b a with h4 | h4 | h4
    · rw [if_pos h4]
      rcases Nat.lt_trichotomy c a with h5 | h5 | h5
      · rw [if_pos h5]; exact h.2.1 b c hb (by omega)
      · rw [if_neg (by omega), if_pos h5]; exact h1 b h4
      · rw [if_neg (by omega), if_neg (by omega), if_pos (by omega)]
        exact z_lt_tr (h1 b h4) (h3 (c - 1) (by omega) (by omega))
    · rw [if_neg (by omega), if_pos h4, if_neg (by omega), if_neg (by omega), if_pos (by omega)]
      exact h3 (c - 1) (by omega) (by omega)
    · rw [if_neg (by omega), if_neg (by omega), if_pos (by omega), if_neg (by omega), if_neg (by omega), if_pos (by omega)]
      exact h.2.1 (b - 1) (c - 1) (by omega) (by omega)
  · rw [hlen] at hj
    rw [z_ins]
    by_cases h4 : j < a
    · rw [if_pos h4]
      exact List.mem_append_left _ (h.2.2.1 j (by omega))
    · rw [if_neg h4]
      by_cases h5 : j = a
      · rw [if_pos h5]
        exact List.mem_append_right _ List.mem_cons_self
      · rw [if_neg h5, if_pos (by omega)]
        exact List.mem_append_left _ (h.2.2.1 (j - 1) (by omega))
  · rw [hlen]
    rcases List.mem_append.mp hx with h4 | h4
    · obtain ⟨j, hj, he⟩ := h.2.2.2 x h4
      by_cases h5 : j < a
      · exact ⟨j, by omega, by rw [z_ins, if_pos h5]; exact he⟩
      · exact ⟨j + 1, by omega, by rw [z_ins, if_neg (by omega), if_neg (by omega), if_pos (by omega)]; exact he⟩
    · rw [List.mem_singleton.mp h4]
      exact ⟨a, by omega, by rw [z_ins, if_neg (Nat.lt_irrefl a), if_pos rfl]⟩
/-! the closing, by keys -/
def z_okb (G : Nat → Int32) (q : Int32) (g : Nat) : Prop := ∀ m, m < 9 → z_inr (z_nu (z_ub q) G (g * 12) m)
def z_stp (G : Nat → Int32) (q : Int32) (g : Nat) : Int32 := z_ks (z_ub q) G (g * 12) 3
/-- what the class's closing does: a relation, by fuel -/
def z_clo (G : Nat → Int32) (ng : Nat) : Nat → Nat → Nat → List Int32 → Option (List Int32) → Prop
  | 0, _, _, _, _ => False
  | f + 1, i, g, Ks, o => match Ks[i]? with
    | none => o = some Ks
    | some q => if g < ng then
        (¬ z_okb G q g ∧ o = none) ∨ (z_okb G q g ∧ ((z_stp G q g ∈ Ks ∧ z_clo G ng f i (g + 1) Ks o) ∨ (z_stp G q g ∉ Ks ∧ ((Ks.length = 192 ∧ o = none) ∨ (Ks.length < 192 ∧ z_clo G ng f i (g + 1) (Ks ++ [z_stp G q g]) o)))))
      else z_clo G ng f (i + 1) 0 Ks o
def z_close (G : Nat → Int32) (ng : Nat) (o : Option (List Int32)) : Prop := z_clo G ng 1940 0 0 [nI 627400704] o
theorem z_clo_end {G : Nat → Int32} {ng f i g : Nat} {Ks : List Int32} (h : Ks.length ≤ i) : z_clo G ng (f + 1) i g Ks (some Ks) := by
  unfold z_clo
  rw [List.getElem?_eq_none h]
theorem z_clo_row {G : Nat → Int32} {ng f i g : Nat} {Ks : List Int32} {q : Int32} {o : Option (List Int32)} (hq : Ks[i]? = some q) (hg : ng ≤ g) (h : z_clo G ng f (i + 1) 0 Ks o) : z_clo G ng (f + 1) i g Ks o := by
  unfold z_clo
  rw [hq]
  dsimp only
  rw [if_neg (by omega)]
  exact h
theorem z_clo_bad {G : Nat → Int32} {ng f i g : Nat} {Ks : List Int32} {q : Int32} (hq : Ks[i]? = some q) (hg : g < ng) (h : ¬ z_okb G q g) : z_clo G ng (f + 1) i g Ks none := by
  unfold z_clo
  rw [hq]
  dsimp only
  rw [if_pos hg]
  exact Or.inl ⟨h, rfl⟩
theorem z_clo_old {G : Nat → Int32} {ng f i g : Nat} {Ks : List Int32} {q : Int32} {o : Option (List Int32)} (hq : Ks[i]? = some q) (hg : g < ng) (h : z_okb G q g) (hm : z_stp G q g ∈ Ks) (hk : z_clo G ng f i (g + 1) Ks o) : z_clo G ng (f + 1) i g Ks o := by
  unfold z_clo
  rw [hq]
  dsimp only
  rw [if_pos hg]
  exact Or.inr ⟨h, Or.inl ⟨hm, hk⟩⟩
theorem z_clo_full {G : Nat → Int32} {ng f i g : Nat} {Ks : List Int32} {q : Int32} (hq : Ks[i]? = some q) (hg : g < ng) (h : z_okb G q g) (hm : z_stp G q g ∉ Ks) (hk : Ks.length = 192) : z_clo G ng (f + 1) i g Ks none := by
  unfold z_clo
  rw [hq]
  dsimp only
  rw [if_pos hg]
  exact Or.inr ⟨h, Or.inr ⟨hm, Or.inl ⟨hk, rfl⟩⟩⟩
theorem z_clo_new {G : Nat → Int32} {ng f i g : Nat} {Ks : List Int32} {q : Int32} {o : Option (List Int32)} (hq : Ks[i]? = some q) (hg : g < ng) (h : z_okb G q g) (hm : z_stp G q g ∉ Ks) (h9 : Ks.length < 192) (hk : z_clo G ng f i (g + 1) (Ks ++ [z_stp G q g]) o) : z_clo G ng (f + 1) i g Ks o := by
  unfold z_clo
  rw [hq]
  dsimp only
  rw [if_pos hg]
  exact Or.inr ⟨h, Or.inr ⟨hm, Or.inr ⟨h9, hk⟩⟩⟩
theorem z_un_at (q : Int32) (f : Nat → Int32) {j : Nat} (hj : j < 12) : va_cpy (z_ub q) f 0 0 12 j = z_ub q j := by
  rw [pk_cpy_in (by omega) (by omega), Nat.sub_zero, Nat.zero_add]
theorem z_kh_0 {f5 f6 : Nat → Int32} : z_kh f5 f6 [] := ⟨fun j q h => (by rw [List.getElem?_nil] at h; cases h), fun a b _ h => absurd h (Nat.not_lt_zero b), fun j h => absurd h (Nat.not_lt_zero j), fun q h => absurd h List.not_mem_nil⟩
/-! keys as naturals -/
def z_dn (v : Int32) : Nat := (v + nI 1).toNatClampNeg
theorem z_inr_ex {v : Int32} (h : z_inr v) : ∃ d, d < 3 ∧ v = nI d - nI 1 := by
  have h1 := Int32.le_iff_toInt_le.mp (Int32.not_lt.mp h.1)
  have h2 := Int32.le_iff_toInt_le.mp (Int32.not_lt.mp h.2)
  rw [nI_toInt (by decide)] at h2
  have h3 : (-1 : Int32).toInt = -1 := rfl
  refine ⟨(v.toInt + 1).toNat, by omega, ?_⟩
  apply Int32.toInt_inj.mp
  rw [pk_sub_toInt (by omega) (by decide)]
  omega
theorem z_dn_at : ∀ d, d < 3 → z_dn (nI d - nI 1) = d := by decide +kernel
theorem z_inr_dn {v : Int32} (h : z_inr v) : z_dn v < 3 ∧ v = nI (z_dn v) - nI 1 := by
  obtain ⟨d, h1, rfl⟩ := z_inr_ex h
  rw [z_dn_at d h1]
  exact ⟨h1, rfl⟩
theorem z_md_at : ∀ k, k < 23 → x_rem (nI k - nI 11 + nI 12) (nI 12) = nI ((k + 1) % 12) := by decide +kernel
theorem z_md_ex (x : Int32) : ∃ d, d < 12 ∧ x_md12 x = nI d := by
  obtain ⟨k, h1, h2, -, -⟩ := z_rem_ex x
  refine ⟨(k + 1) % 12, Nat.mod_lt _ (by decide), ?_⟩
  unfold x_md12
  rw [h2]
  exact z_md_at k h1
def z_mdn (x : Int32) : Nat := (x_md12 x).toNatClampNeg
theorem z_cl {n : Nat} (h : n < 2 ^ 31) : (nI n).toNatClampNeg = n := by
  show (nI n).toInt.toNat = n
  rw [nI_toInt h]
  exact Int.toNat_natCast n
theorem z_md_n (x : Int32) : z_mdn x < 12 ∧ x_md12 x = nI (z_mdn x) := by
  obtain ⟨d, h1, h2⟩ := z_md_ex x
  unfold z_mdn
  rw [h2, z_cl (by omega)]
  exact ⟨h1, rfl⟩
def z_kn (d : Nat → Nat) : Nat → Nat
  | 0 => 0
  | m + 1 => 4 * z_kn d m + d m
theorem z_kn_lt {d : Nat → Nat} : ∀ {m : Nat}, (∀ j, j < m → d j < 4) → z_kn d m < 4 ^ m
  | 0, _ => Nat.zero_lt_one
  | m + 1, h => by
    have h1 : z_kn d m < 4 ^ m := z_kn_lt (fun j hj => h j (by omega))
    have h2 := h m (by omega)
    show 4 * z_kn d m + d m < 4 ^ (m + 1)
    rw [Nat.pow_succ]
    omega
theorem z_kr_n {lf g : Nat → Int32} {fr : Nat} (h : ∀ m, m < 9 → z_inr (z_nu lf g fr m)) : ∀ {m : Nat}, m ≤ 9 → z_kr lf g fr m = nI (z_kn (fun j => z_dn (z_nu lf g fr j)) m)
  | 0, _ => rfl
  | m + 1, hm => by
    have h1 := z_kr_n h (by omega : m ≤ 9)
    have h2 := z_kn_lt (d := fun j => z_dn (z_nu lf g fr j)) (m := m) (fun j hj => by have := (z_inr_dn (h j (by omega))).1; omega)
    have h3 : 4 ^ m ≤ 4 ^ 8 := Nat.pow_le_pow_right (by decide) (by omega)
    obtain ⟨h4, h5⟩ := z_inr_dn (h m (by omega))
    show (z_kr lf g fr m <<< (nI 2 &&& 31)) + z_nu lf g fr m + nI 1 = nI (4 * z_kn _ m + z_dn (z_nu lf g fr m))
    rw [h1, pk_shlN _ 2 (by decide) (by omega)]
    conv => lhs; rw [h5]
    rw [Int32.add_assoc, Int32.sub_add_cancel, nI_add, Nat.mul_comm]
def z_sn3 (d : Nat) (t : Nat → Nat) : Nat → Nat
  | 0 => d
  | m + 1 => 16 * z_sn3 d t m + t m
def z_tn (lf g : Nat → Int32) (fr m : Nat) : Nat := z_mdn (z_tc lf g (m * 3) (fr + 9) 1 + lf (9 + m))
theorem z_ks_n {lf g : Nat → Int32} {fr : Nat} (h : ∀ m, m < 9 → z_inr (z_nu lf g fr m)) : ∀ {m : Nat}, m ≤ 3 → z_ks lf g fr m = nI (z_sn3 (z_kn (fun j => z_dn (z_nu lf g fr j)) 9) (z_tn lf g fr) m) ∧ z_sn3 (z_kn (fun j => z_dn (z_nu lf g fr j)) 9) (z_tn lf g fr) m < 4 ^ 9 * 16 ^ m
  | 0, _ => ⟨z_kr_n h (Nat.le_refl 9), by
    rw [Nat.pow_zero, Nat.mul_one]
    exact z_kn_lt (fun j hj => by have := (z_inr_dn (h j hj)).1; omega)⟩
  | m + 1, hm => by
    obtain ⟨h1, h2⟩ := z_ks_n h (by omega : m ≤ 3)
    have h3 : 4 ^ 9 * 16 ^ m ≤ 4 ^ 9 * 16 ^ 2 := Nat.mul_le_mul_left _ (Nat.pow_le_pow_right (by decide) (by omega))
    obtain ⟨h4, h5⟩ := z_md_n (z_tc lf g (m * 3) (fr + 9) 1 + lf (9 + m))
    constructor
    · show (z_ks lf g fr m <<< (nI 4 &&& 31)) + x_md12 (z_tc lf g (m * 3) (fr + 9) 1 + lf (9 + m)) = nI (16 * z_sn3 _ _ m + z_mdn (z_tc lf g (m * 3) (fr + 9) 1 + lf (9 + m)))
      rw [h1, h5, pk_shlN _ 4 (by decide) (by omega), nI_add, Nat.mul_comm]
    · show 16 * z_sn3 _ _ m + z_mdn (z_tc lf g (m * 3) (fr + 9) 1 + lf (9 + m)) < _
      rw [show (16 : Nat) ^ (m + 1) = 16 ^ m * 16 from Nat.pow_succ .., ← Nat.mul_assoc]
      omega
theorem z_stp_ne {G : Nat → Int32} {q : Int32} {g : Nat} (h : z_okb G q g) : ¬ z_stp G q g = -1 := by
  obtain ⟨h1, h2⟩ := z_ks_n h (Nat.le_refl 3)
  unfold z_stp
  rw [h1]
  exact x_nI_m1 (by omega)
