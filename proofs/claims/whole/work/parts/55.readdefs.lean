/-! ===== the class's reading of a symbol ===== -/
def z_wax (n : Nat) (c : Int32) : Int32 := if x_axAt n c = -1 then nI 6 else x_axAt n c
def z_dax (su fi n : Nat) : Int32 := if n = 1 then nI 6 else if x_axFor su fi n = -1 then nI 7 else x_axFor su fi n
def z_ro (n ax : Nat) : Nat := if ax = 3 then 45 else if ax = 4 then 54 else if ax = 5 then 63 else if n = 2 then 9 else if n = 3 then 18 else if n = 4 then 27 else if n = 6 then 36 else 0
def z_tf (ax be : Nat) : Nat := if (if ax = 3 ∨ ax = 4 then be else ax) = 0 then 1 else if (if ax = 3 ∨ ax = 4 then be else ax) = 1 then 2 else 0
def z_ta (tn a b : Nat) : Nat := (a + tn) % 3 * 3 + (b + tn) % 3
theorem z_ta_inj : ∀ tn, tn < 3 → ∀ a, a < 3 → ∀ b, b < 3 → ∀ c, c < 3 → ∀ d, d < 3 → z_ta tn a b = z_ta tn c d → a = c ∧ b = d := by
  intro tn ht a ha b hb c hc d hd h
  unfold z_ta at h
  omega
theorem z_ta_lt (tn a b : Nat) : z_ta tn a b < 9 := by
  unfold z_ta
  omega
/-- the rotation that is written -/
def z_rl (fr tn : Nat) (s : Int32) : List Int32 := (List.range 9).map (fun t => s * x_rots.getD (fr + (t / 3 + (3 - tn)) % 3 * 3 + (t % 3 + (3 - tn)) % 3) 0)
/-- the row of twelve numbers holds a rotation and a shift -/
def z_h9 (g : Nat → Int32) (R S : List Int32) : Prop := (∀ t, t < 9 → g t = R.getD t 0) ∧ ∀ j, j < 3 → g (9 + j) = S.getD j 0
/-- the rotation is written as far as row a, column b -/
def z_rp (g : Nat → Int32) (fr tn : Nat) (s : Int32) (a b : Nat) : Prop := ∀ c d, c < 3 → d < 3 → (c < a ∨ (c = a ∧ d < b)) → g (z_ta tn c d) = s * x_rots.getD (fr + c * 3 + d) 0
theorem z_rp_s {g : Nat → Int32} {fr tn : Nat} {s : Int32} {a b : Nat} (ht : tn < 3) (ha : a < 3) (hb : b < 3) (h : z_rp g fr tn s a b) : z_rp (upd g (z_ta tn a b) (s * x_rots.getD (fr + a * 3 + b) 0)) fr tn s a (b + 1) := fun c d hc hd h1 => by
  by_cases e : c = a ∧ d = b
  · obtain ⟨rfl, rfl⟩ := e
    rw [pk_us]
  · rw [pk_un (fun z => e (z_ta_inj tn ht c hc d hd a ha b hb z))]
    exact h c d hc hd (by omega)
theorem z_rp_n {g : Nat → Int32} {fr tn : Nat} {s : Int32} {a : Nat} (h : z_rp g fr tn s a 3) : z_rp g fr tn s (a + 1) 0 := fun c d hc hd h1 => h c d hc hd (by omega)
theorem z_rl_at : ∀ tn, tn < 3 → ∀ t, t < 9 → z_ta tn ((t / 3 + (3 - tn)) % 3) ((t % 3 + (3 - tn)) % 3) = t := by decide +kernel
theorem z_rp_e {g : Nat → Int32} {fr tn : Nat} {s : Int32} (ht : tn < 3) (h : z_rp g fr tn s 3 0) : ∀ t, t < 9 → g t = (z_rl fr tn s).getD t 0 := fun t h9 => by
  have h1 := h ((t / 3 + (3 - tn)) % 3) ((t % 3 + (3 - tn)) % 3) (Nat.mod_lt _ (by decide)) (Nat.mod_lt _ (by decide)) (Or.inl (Nat.mod_lt _ (by decide)))
  rw [z_rl_at tn ht t h9] at h1
  rw [h1]
  unfold z_rl
  simp [List.getD_eq_getElem?_getD, List.getElem?_range h9]
/-- which table's row the class takes is the reference's rotation -/
theorem z_rl_tb : ((List.range 7).all fun n => decide (n = 0 ∨ n = 1 ∨ n = 5) || (List.range 6).all fun ax => (List.range 3).all fun be => decide (z_rl (z_ro n ax) (z_tf ax be) (nI 1) = x_rotl n ax be) && decide (z_rl (z_ro n ax) (z_tf ax be) (-1) = x_neg (x_rotl n ax be))) = true := by decide +kernel
theorem z_rl_t {n ax be : Nat} (hn : n < 7) (hn0 : ¬ (n = 0 ∨ n = 1 ∨ n = 5)) (hax : ax < 6) (hbe : be < 3) : z_rl (z_ro n ax) (z_tf ax be) (nI 1) = x_rotl n ax be ∧ z_rl (z_ro n ax) (z_tf ax be) (-1) = x_neg (x_rotl n ax be) := by
  have h1 := List.all_eq_true.mp z_rl_tb n (List.mem_range.mpr hn)
  rw [decide_eq_false hn0, Bool.false_or] at h1
  have h2 := List.all_eq_true.mp h1 ax (List.mem_range.mpr hax)
  have h3 := List.all_eq_true.mp h2 be (List.mem_range.mpr hbe)
  rw [Bool.and_eq_true] at h3
  exact ⟨of_decide_eq_true h3.1, of_decide_eq_true h3.2⟩
theorem z_rl_1 : z_rl 0 0 (nI 1) = x_one ∧ z_rl 0 0 (-1) = x_neg x_one ∧ x_neg x_one = x_mone := by decide +kernel
theorem z_ro_16 (be : Nat) : z_ro 1 6 = 0 ∧ z_tf 6 be = 0 := ⟨rfl, rfl⟩
theorem z_ro_le (n ax : Nat) : z_ro n ax ≤ 63 := by
  unfold z_ro
  repeat' split
  all_goals decide
theorem z_tf_lt (ax be : Nat) : z_tf ax be < 3 := by
  unfold z_tf
  repeat' split
  all_goals decide
/-! shifts -/
theorem z_rem_n {a : Nat} (h : a < 24) : x_rem (nI a) (nI 12) = nI (a % 12) := (by decide +kernel : ∀ a, a < 24 → x_rem (nI a) (nI 12) = nI (a % 12)) a h
def z_hs (g : Nat → Int32) (u v w : Nat) : Prop := g 9 = nI u ∧ g 10 = nI v ∧ g 11 = nI w
theorem z_axAt_e (n : Nat) (c : Int32) : z_wax n c = nI 6 ∨ ∃ ax, ax ≤ 5 ∧ z_wax n c = nI ax := by
  unfold z_wax
  by_cases h : x_axAt n c = -1
  · rw [if_pos h]; exact Or.inl rfl
  · rw [if_neg h]
    obtain ⟨-, ax, h1, h2⟩ := x_axAt_nat h
    exact Or.inr ⟨ax, h1, h2⟩
/-- the maker's row of generators holds Gn -/
def z_hg (f4 : Nat → Int32) (Gn : List x_O) : Prop := ∀ (i : Nat) (q : x_O), Gn[i]? = some q → (∀ j, j < 9 → f4 (i * 12 + j) = q.1.getD j 0) ∧ ∀ j, j < 3 → f4 (i * 12 + 9 + j) = q.2.getD j 0
theorem z_hg_0 (f4 : Nat → Int32) : z_hg f4 [] := fun i q h => by
  rw [List.getElem?_nil] at h
  cases h
theorem z_hg_s {f4 f9 : Nat → Int32} {Gn : List x_O} {R S : List Int32} (h : z_hg f4 Gn) (h9 : z_h9 f9 R S) : z_hg (va_cpy f9 f4 0 (Gn.length * 12) 12) (Gn ++ [(R, S)]) := fun i q hi => by
  rcases Nat.lt_trichotomy i Gn.length with h1 | h1 | h1
  · rw [List.getElem?_append_left h1] at hi
    obtain ⟨a, b⟩ := h i q hi
    refine ⟨fun j hj => ?_, fun j hj => ?_⟩
    · rw [pk_cpy_out (by omega)]; exact a j hj
    · rw [pk_cpy_out (by omega)]; exact b j hj
  · subst h1
    rw [List.getElem?_append_right (Nat.le_refl _), Nat.sub_self] at hi
    have e : (R, S) = q := Option.some.inj hi
    subst e
    refine ⟨fun j hj => ?_, fun j hj => ?_⟩
    · rw [pk_cpy_in (by omega) (by omega), show 0 + (Gn.length * 12 + j - Gn.length * 12) = j by omega]
      exact h9.1 j hj
    · rw [pk_cpy_in (by omega) (by omega), show 0 + (Gn.length * 12 + 9 + j - Gn.length * 12) = 9 + j by omega]
      exact h9.2 j hj
  · rw [List.getElem?_eq_none (by rw [List.length_append]; simp; omega)] at hi
    cases hi
theorem z_wax_1 (c : Int32) : z_wax 1 c = nI 6 := by
  unfold z_wax
  have e : x_axAt 1 c = -1 := by
    unfold x_axAt
    rw [if_neg (fun z => absurd z.1 (by decide)), if_neg (fun z => absurd z.1 (by decide)), if_neg (fun z => absurd z.1 (by decide)), if_neg (fun z => absurd z.1 (by decide))]
  rw [if_pos e]
theorem z_wax_v {n : Nat} {c v : Int32} (h : x_axAt n c = v) (hv : ¬ v = -1) : z_wax n c = v := by
  unfold z_wax
  rw [h, if_neg hv]
theorem z_wax_x {n : Nat} (hn : 1 < n) {k : Nat} (h1 : 120 ≤ k) (h2 : k ≤ 122) : z_wax n (nI k) = nI (k - 120) := by
  have e : nI 120 ≤ nI k ∧ nI k ≤ nI 122 ∧ nI k - nI 120 = nI (k - 120) ∧ ¬ nI (k - 120) = -1 := by
    rcases (show k = 120 ∨ k = 121 ∨ k = 122 by omega) with rfl | rfl | rfl <;> decide
  refine z_wax_v ?_ e.2.2.2
  unfold x_axAt
  rw [if_pos (show 1 < n ∧ nI 120 ≤ nI k ∧ nI k ≤ nI 122 from ⟨hn, e.1, e.2.1⟩)]
  exact e.2.2.1
theorem z_wax_39 (n : Nat) : z_wax n (nI 39) = if n = 2 then nI 3 else nI 6 := by
  have e : x_axAt n (nI 39) = if n = 2 then nI 3 else -1 := by
    unfold x_axAt
    rw [if_neg (show ¬ (1 < n ∧ nI 120 ≤ nI 39 ∧ nI 39 ≤ nI 122) from fun z => absurd z.2.1 (by decide))]
    by_cases h : n = 2
    · rw [if_pos (show n = 2 ∧ nI 39 = nI 39 from ⟨h, rfl⟩), if_pos h]
    · rw [if_neg (show ¬ (n = 2 ∧ nI 39 = nI 39) from fun z => h z.1), if_neg (show ¬ (n = 2 ∧ nI 39 = nI 34) from fun z => h z.1), if_neg (show ¬ (n = 3 ∧ nI 39 = nI 42) from fun z => absurd z.2 (by decide)), if_neg h]
  unfold z_wax
  rw [e]
  by_cases h : n = 2
  · rw [if_pos h, if_neg (by decide), if_pos h]
  · rw [if_neg h, if_pos rfl, if_neg h]
theorem z_wax_34 (n : Nat) : z_wax n (nI 34) = if n = 2 then nI 4 else nI 6 := by
  have e : x_axAt n (nI 34) = if n = 2 then nI 4 else -1 := by
    unfold x_axAt
    rw [if_neg (show ¬ (1 < n ∧ nI 120 ≤ nI 34 ∧ nI 34 ≤ nI 122) from fun z => absurd z.2.1 (by decide)), if_neg (show ¬ (n = 2 ∧ nI 34 = nI 39) from fun z => absurd z.2 (by decide))]
    by_cases h : n = 2
    · rw [if_pos (show n = 2 ∧ nI 34 = nI 34 from ⟨h, rfl⟩), if_pos h]
    · rw [if_neg (show ¬ (n = 2 ∧ nI 34 = nI 34) from fun z => h z.1), if_neg (show ¬ (n = 3 ∧ nI 34 = nI 42) from fun z => absurd z.2 (by decide)), if_neg h]
  unfold z_wax
  rw [e]
  by_cases h : n = 2
  · rw [if_pos h, if_neg (by decide), if_pos h]
  · rw [if_neg h, if_pos rfl, if_neg h]
theorem z_wax_42 (n : Nat) : z_wax n (nI 42) = if n = 3 then nI 5 else nI 6 := by
  have e : x_axAt n (nI 42) = if n = 3 then nI 5 else -1 := by
    unfold x_axAt
    rw [if_neg (show ¬ (1 < n ∧ nI 120 ≤ nI 42 ∧ nI 42 ≤ nI 122) from fun z => absurd z.2.1 (by decide)), if_neg (show ¬ (n = 2 ∧ nI 42 = nI 39) from fun z => absurd z.2 (by decide)), if_neg (show ¬ (n = 2 ∧ nI 42 = nI 34) from fun z => absurd z.2 (by decide))]
    by_cases h : n = 3
    · rw [if_pos (show n = 3 ∧ nI 42 = nI 42 from ⟨h, rfl⟩), if_pos h]
    · rw [if_neg (show ¬ (n = 3 ∧ nI 42 = nI 42) from fun z => h z.1), if_neg h]
  unfold z_wax
  rw [e]
  by_cases h : n = 3
  · rw [if_pos h, if_neg (by decide), if_pos h]
  · rw [if_neg h, if_pos rfl, if_neg h]
theorem z_wax_o {n : Nat} {c : Int32} (h0 : ¬ c = nI 34) (h1 : ¬ c = nI 39) (h2 : ¬ c = nI 42) (h3 : ¬ c = nI 120) (h4 : ¬ c = nI 121) (h5 : ¬ c = nI 122) : z_wax n c = nI 6 := by
  unfold z_wax
  have e : x_axAt n c = -1 := by
    unfold x_axAt
    have e0 : ¬ (1 < n ∧ nI 120 ≤ c ∧ c ≤ nI 122) := by
      rintro ⟨-, a, b⟩
      obtain ⟨j, g1, g2, rfl⟩ := x_bet a b (by decide) (by decide)
      rcases (show j = 120 ∨ j = 121 ∨ j = 122 by omega) with rfl | rfl | rfl
      · exact h3 rfl
      · exact h4 rfl
      · exact h5 rfl
    rw [if_neg e0, if_neg (show ¬ (n = 2 ∧ c = nI 39) from fun z => h1 z.2), if_neg (show ¬ (n = 2 ∧ c = nI 34) from fun z => h0 z.2), if_neg (show ¬ (n = 3 ∧ c = nI 42) from fun z => h2 z.2)]
  rw [if_pos e]
theorem z_dax_v {su fi n : Nat} {v : Int32} (hn : ¬ n = 1) (h : x_axFor su fi n = v) (hv : ¬ v = -1) : z_dax su fi n = v := by
  unfold z_dax
  rw [if_neg hn, h, if_neg hv]
theorem z_dax_0 {su fi n : Nat} (hn : ¬ n = 1) (h : su = 0) : z_dax su fi n = nI 2 := by
  refine z_dax_v hn ?_ (by decide)
  unfold x_axFor
  rw [if_pos h]
theorem z_dax_x {su fi n : Nat} (h1 : su = 1) (h2 : n = 2) (h3 : fi = 2 ∨ fi = 4) : z_dax su fi n = nI 0 := by
  refine z_dax_v (by omega) ?_ (by decide)
  unfold x_axFor
  rw [if_neg (show ¬ su = 0 by omega), if_pos (show su = 1 ∧ n = 2 from ⟨h1, h2⟩), if_pos h3]
theorem z_dax_p {su fi n : Nat} (h1 : su = 1) (h2 : n = 2) (h3 : ¬ (fi = 2 ∨ fi = 4)) (h4 : fi = 2 ∨ fi = 3 ∨ fi = 4 ∨ fi = 6) : z_dax su fi n = nI 3 := by
  refine z_dax_v (by omega) ?_ (by decide)
  unfold x_axFor
  rw [if_neg (show ¬ su = 0 by omega), if_pos (show su = 1 ∧ n = 2 from ⟨h1, h2⟩), if_neg h3, if_pos (show fi = 3 ∨ fi = 6 by omega)]
theorem z_dax_3 {su fi n : Nat} (h1 : ¬ su = 0) (h2 : ¬ (su = 1 ∧ n = 2)) (h3 : n = 3) : z_dax su fi n = nI 5 := by
  refine z_dax_v (by omega) ?_ (by decide)
  unfold x_axFor
  rw [if_neg h1, if_neg h2, if_pos h3]
theorem z_dax_m {su fi n : Nat} (h0 : ¬ n = 1) (h1 : ¬ su = 0) (h2 : ¬ (su = 1 ∧ n = 2)) (h3 : ¬ n = 3) : z_dax su fi n = nI 7 := by
  have e : x_axFor su fi n = -1 := by
    unfold x_axFor
    rw [if_neg h1, if_neg h2, if_neg h3]
  unfold z_dax
  rw [if_neg h0, if_pos e]
def z_ss (n : Nat) : Nat := if n = 3 then 4 else if n = 4 then 3 else if n = 6 then 2 else 0
theorem z_ss_d {n d : Nat} (hn : n ≤ 6) (hn5 : n ≠ 5) (h2 : 2 < n) (hd : d < n) : d * z_ss n = d * 12 / n ∧ d * z_ss n < 12 := by
  unfold z_ss
  rcases (show n = 3 ∨ n = 4 ∨ n = 6 by omega) with rfl | rfl | rfl
  · rw [if_pos rfl]; omega
  · rw [if_neg (by decide), if_pos rfl]; omega
  · rw [if_neg (by decide), if_neg (by decide), if_pos rfl]; omega
theorem z_sf_ax {b : Nat → Int32} {t n ax ay : Nat} : ∀ (k a u v w : Nat), x_sf b t n ax k false a u v w = x_sf b t n ay k false a u v w
  | 0, _, _, _, _ => rfl
  | k + 1, a, u, v, w => by
    unfold x_sf
    have e0 : ¬ (false = true ∧ nI 49 ≤ x_lookv b t a ∧ x_lookv b t a < nI (48 + n)) := fun z => absurd z.1 (by decide)
    rw [if_neg e0, if_neg e0]
    by_cases h : (x_l3 (x_lookv b t a)).2.2.2 = true
    · rw [if_pos h, if_pos h]; exact z_sf_ax k _ _ _ _
    · rw [if_neg h, if_neg h]
theorem z_zip (Gn : List x_O) : (Gn.map (fun q => q.1)).zip (Gn.map (fun q => q.2)) = Gn := by
  induction Gn with
  | nil => rfl
  | cons q r ih => simp only [List.map_cons, List.zip_cons_cons, ih]
theorem z_waxe {n : Nat} {c : Int32} (h : z_wax n c = nI 6) : x_axAt n c = -1 := by
  unfold z_wax at h
  by_cases h1 : x_axAt n c = -1
  · exact h1
  · rw [if_neg h1] at h
    obtain ⟨-, ax, h2, h3⟩ := x_axAt_nat h1
    rw [h3] at h
    have := (nI_eq (by omega) (by decide)).mp h
    omega
theorem z_waxn {n : Nat} {c : Int32} (h : ¬ z_wax n c = nI 6) : ¬ x_axAt n c = -1 ∧ z_wax n c = x_axAt n c := by
  unfold z_wax at h ⊢
  by_cases h1 : x_axAt n c = -1
  · rw [if_pos h1] at h
    exact absurd rfl h
  · rw [if_neg h1]
    exact ⟨h1, rfl⟩
theorem z_hs_eq {g : Nat → Int32} {u v w u' v' w' : Nat} (h : z_hs g u v w) (h1 : u = u') (h2 : v = v') (h3 : w = w') : z_hs g u' v' w' := by
  subst h1; subst h2; subst h3
  exact h
theorem z_l3n {c : Int32} (h1 : ¬ c = nI 97) (h2 : ¬ c = nI 98) (h3 : ¬ c = nI 99) (h4 : ¬ c = nI 100) (h5 : ¬ c = nI 110) (h6 : ¬ c = nI 117) (h7 : ¬ c = nI 118) (h8 : ¬ c = nI 119) : (x_l3 c).2.2.2 = false := by
  unfold x_l3
  rw [if_neg h1, if_neg h2, if_neg h3, if_neg h4, if_neg h5, if_neg h6, if_neg h7, if_neg h8]
theorem z_ss_p {n : Nat} (hn : n ≤ 6) (hn5 : n ≠ 5) : 0 < z_ss n ↔ 2 < n := by
  unfold z_ss
  repeat' split
  all_goals omega
theorem z_ss_le (n : Nat) : z_ss n ≤ 4 := by
  unfold z_ss
  repeat' split
  all_goals decide
