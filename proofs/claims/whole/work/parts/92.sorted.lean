/-! ===== both closings agree; the sorted operators ===== -/
theorem mm_rngd : mm_Ms.all (fun M => M.elem x_one && M.all (fun A => (List.range 9).all (fun m => decide (¬ A.getD m 0 < -1) && decide (¬ nI 1 < A.getD m 0)))) = true := by decide +kernel
theorem mm_M_one {M : List (List Int32)} (hM : M ∈ mm_Ms) : x_one ∈ M := by
  have h := List.all_eq_true.mp mm_rngd M hM
  rw [Bool.and_eq_true] at h
  exact List.elem_iff.mp h.1
theorem mm_M_rng {M : List (List Int32)} (hM : M ∈ mm_Ms) : ∀ A ∈ M, ∀ m, m < 9 → z_inr (A.getD m 0) := fun A hA m hm => by
  have h := List.all_eq_true.mp mm_rngd M hM
  rw [Bool.and_eq_true] at h
  have h1 := List.all_eq_true.mp (List.all_eq_true.mp h.2 A hA) m (List.mem_range.mpr hm)
  rw [Bool.and_eq_true, decide_eq_true_eq, decide_eq_true_eq] at h1
  exact h1
theorem mm_M_mul {M : List (List Int32)} (hM : M ∈ mm_Ms) : ∀ A ∈ M, ∀ B ∈ M, x_mul A B ∈ M := by
  have key : ∀ M : List (List Int32), mm_cls M = true → ∀ A ∈ M, ∀ B ∈ M, x_mul A B ∈ M := fun M h A hA B hB => List.elem_iff.mp (List.all_eq_true.mp (List.all_eq_true.mp h A hA) B hB)
  simp only [mm_Ms, List.mem_cons, List.not_mem_nil, or_false] at hM
  rcases hM with rfl | rfl | rfl | rfl
  · exact key _ mm_cls0
  · exact key _ mm_cls1
  · exact key _ mm_cls2
  · exact key _ mm_cls3
theorem mm_agree {b : Nat → Int32} {t : Nat} {G : Nat → Int32} (hG : z_hg G (x_symG b t)) {o : Option (List Int32)} (h : z_close G (x_symG b t).length o) :
    (o = none ∧ x_close (x_symG b t) = none) ∨ ∃ Ks, o = some Ks ∧ x_close (x_symG b t) = some (Ks.map mm_dec) ∧ (∀ q ∈ Ks, mm_ok q) ∧ Ks.Nodup ∧ ∃ M ∈ mm_Ms, ∀ q ∈ Ks, (mm_dec q).1 ∈ M := by
  have hS : ∀ q ∈ x_symG b t, q.1 ∈ mm_S := fun q hq => (mm_gens b t q hq).1
  have h1 : ∀ q ∈ [nI 627400704], mm_ok q := fun q hq => by rw [List.mem_singleton.mp hq]; exact mm_id_ok
  have e1 : [nI 627400704].map mm_dec = [x_id] := by rw [List.map_cons, mm_id_dec]; rfl
  cases o with
  | none =>
    refine Or.inl ⟨rfl, ?_⟩
    rcases mm_dich hS with ⟨M, hM, hall⟩ | h2
    · have h3 := mm_lockN hG (M := M) (mm_M_rng hM) (fun A hA r hr => mm_M_mul hM A hA r.1 (hall r hr)) 1940 0 0 [nI 627400704] h (fun q hq => by
        rw [List.mem_singleton.mp hq]
        exact ⟨mm_id_ok, by rw [mm_id_dec]; exact mm_M_one hM⟩)
      rw [e1] at h3
      exact h3
    · exact h2
  | some Ks =>
    obtain ⟨h2, h3, h4⟩ := mm_lock hG 1940 0 0 [nI 627400704] Ks h h1 (by simp)
    rw [e1] at h2
    have h5 : x_close (x_symG b t) = some (Ks.map mm_dec) := h2
    refine Or.inr ⟨Ks, rfl, h5, h3, h4, ?_⟩
    rcases mm_dich hS with ⟨M, hM, hall⟩ | h6
    · refine ⟨M, hM, fun q hq => ?_⟩
      exact (mm_close h5).2.2.2.2.2 (fun p => p.1 ∈ M) (fun p r hp hr => mm_M_mul hM _ hp _ (hall r hr)) (mm_M_one hM) (mm_dec q) (List.mem_map.mpr ⟨q, hq, rfl⟩)
    · rw [h6] at h5
      cases h5
/-! the order of operators is that of their keys -/
def mm_num (B : Nat) : List Nat → Nat
  | [] => 0
  | x :: xs => x * B ^ xs.length + mm_num B xs
theorem mm_num_lt {B : Nat} : ∀ {l : List Nat}, (∀ x ∈ l, x < B) → mm_num B l < B ^ l.length
  | [], _ => Nat.zero_lt_one
  | x :: xs, h => by
    have h1 := mm_num_lt (l := xs) (fun y hy => h y (List.mem_cons_of_mem _ hy))
    have h2 := h x List.mem_cons_self
    show x * B ^ xs.length + mm_num B xs < B ^ (xs.length + 1)
    rw [Nat.pow_succ, Nat.mul_comm (B ^ xs.length)]
    have h3 : (x + 1) * B ^ xs.length ≤ B * B ^ xs.length := Nat.mul_le_mul_right _ h2
    rw [Nat.add_mul, Nat.one_mul] at h3
    omega
theorem mm_lex {B : Nat} {F : Nat → Int32} (hF1 : ∀ a b, a < B → b < B → F a = F b → a = b) (hF2 : ∀ a b, a < B → b < B → (F a < F b ↔ a < b)) : ∀ (l l' : List Nat), l.length = l'.length → (∀ x ∈ l, x < B) → (∀ x ∈ l', x < B) →
    (x_lexl (l.map F) (l'.map F) = nI 0 ∧ l = l') ∨ (x_lexl (l.map F) (l'.map F) = -1 ∧ mm_num B l < mm_num B l') ∨ (x_lexl (l.map F) (l'.map F) = nI 1 ∧ mm_num B l' < mm_num B l)
  | [], [], _, _, _ => Or.inl ⟨rfl, rfl⟩
  | [], _ :: _, h, _, _ => by simp at h
  | _ :: _, [], h, _, _ => by simp at h
  | x :: xs, y :: ys, h, h1, h2 => by
    have hlen : xs.length = ys.length := by simpa using h
    have hx := h1 x List.mem_cons_self
    have hy := h2 y List.mem_cons_self
    have ih := mm_lex hF1 hF2 xs ys hlen (fun z hz => h1 z (List.mem_cons_of_mem _ hz)) (fun z hz => h2 z (List.mem_cons_of_mem _ hz))
    have l1 := mm_num_lt (B := B) (l := xs) (fun z hz => h1 z (List.mem_cons_of_mem _ hz))
    have l2 := mm_num_lt (B := B) (l := ys) (fun z hz => h2 z (List.mem_cons_of_mem _ hz))
    rw [List.map_cons, List.map_cons]
    unfold x_lexl
    show _ ∨ (_ ∧ x * B ^ xs.length + mm_num B xs < y * B ^ ys.length + mm_num B ys) ∨ (_ ∧ y * B ^ ys.length + mm_num B ys < x * B ^ xs.length + mm_num B xs)
    rw [← hlen] at l2 ⊢
    by_cases e : F x = F y
    · rw [if_pos e]
      have e' := hF1 x y hx hy e
      subst e'
      rcases ih with ⟨a, b⟩ | ⟨a, b⟩ | ⟨a, b⟩
      · exact Or.inl ⟨a, by rw [b]⟩
      · exact Or.inr (Or.inl ⟨a, by omega⟩)
      · exact Or.inr (Or.inr ⟨a, by omega⟩)
    · rw [if_neg e]
      by_cases e2 : F x < F y
      · rw [if_pos e2]
        have e3 := (hF2 x y hx hy).mp e2
        have h3 : (x + 1) * B ^ xs.length ≤ y * B ^ xs.length := Nat.mul_le_mul_right _ e3
        rw [Nat.add_mul, Nat.one_mul] at h3
        exact Or.inr (Or.inl ⟨rfl, by omega⟩)
      · rw [if_neg e2]
        have e3 : y < x := by
          have h3 : ¬ x < y := fun z => e2 ((hF2 x y hx hy).mpr z)
          have h4 : x ≠ y := fun z => e (by rw [z])
          omega
        have h3 : (y + 1) * B ^ xs.length ≤ x * B ^ xs.length := Nat.mul_le_mul_right _ e3
        rw [Nat.add_mul, Nat.one_mul] at h3
        exact Or.inr (Or.inr ⟨rfl, by omega⟩)
theorem mm_F1a : ∀ a, a < 4 → ∀ b, b < 4 → nI a - nI 1 = nI b - nI 1 → a = b := by decide +kernel
theorem mm_F1b : ∀ a, a < 4 → ∀ b, b < 4 → (nI a - nI 1 < nI b - nI 1 ↔ a < b) := by decide +kernel
theorem mm_dl {d t : Nat → Nat} (h : mm_vd d t) : (mm_dec (nI (mm_ky d t))).1 = [d 0, d 1, d 2, d 3, d 4, d 5, d 6, d 7, d 8].map (fun a => nI a - nI 1) ∧ (mm_dec (nI (mm_ky d t))).2 = [t 0, t 1, t 2].map nI := by
  constructor
  · show [_, _, _, _, _, _, _, _, _] = [_, _, _, _, _, _, _, _, _]
    rw [mm_ub1 h (by decide), mm_ub1 h (by decide), mm_ub1 h (by decide), mm_ub1 h (by decide), mm_ub1 h (by decide), mm_ub1 h (by decide), mm_ub1 h (by decide), mm_ub1 h (by decide), mm_ub1 h (by decide)]
  · show [_, _, _] = [_, _, _]
    rw [show z_ub (nI (mm_ky d t)) 9 = nI (t 0) from mm_ub2 h (m := 0) (by decide), show z_ub (nI (mm_ky d t)) 10 = nI (t 1) from mm_ub2 h (m := 1) (by decide), show z_ub (nI (mm_ky d t)) 11 = nI (t 2) from mm_ub2 h (m := 2) (by decide)]
theorem mm_num4 (e : Nat → Nat) : mm_num 4 [e 0, e 1, e 2, e 3, e 4, e 5, e 6, e 7, e 8] = z_kn e 9 := by
  simp only [mm_num, z_kn, List.length_cons, List.length_nil, Nat.reduceAdd, Nat.reducePow, Nat.zero_add]
  omega
theorem mm_num16 (e : Nat → Nat) : mm_num 16 [e 0, e 1, e 2] = 256 * e 0 + 16 * e 1 + e 2 := by
  simp only [mm_num, List.length_cons, List.length_nil, Nat.reduceAdd, Nat.reducePow, Nat.zero_add]
  omega
theorem mm_ky2 (d t : Nat → Nat) : mm_ky d t = 4096 * z_kn d 9 + mm_num 16 [t 0, t 1, t 2] := by
  rw [mm_num16]
  unfold mm_ky
  generalize z_kn d 9 = k
  simp only [z_sn3]
  omega
theorem mm_ord {p q : Int32} (hp : mm_ok p) (hq : mm_ok q) : 0 < x_cmp (mm_dec p).1 (mm_dec p).2 (mm_dec q).1 (mm_dec q).2 ↔ q < p := by
  obtain ⟨d, t, h1, rfl⟩ := hp
  obtain ⟨d', t', h2, rfl⟩ := hq
  rw [nI_ltI (by have := mm_ky_lt h2; omega) (by have := mm_ky_lt h1; omega)]
  obtain ⟨e1, e2⟩ := mm_dl h1
  obtain ⟨e3, e4⟩ := mm_dl h2
  rw [e1, e2, e3, e4, mm_ky2, mm_ky2]
  have all4 : ∀ e : Nat → Nat, (∀ j, j < 9 → e j < 3) → ∀ x ∈ [e 0, e 1, e 2, e 3, e 4, e 5, e 6, e 7, e 8], x < 4 := fun e he x hx => by
    simp only [List.mem_cons, List.not_mem_nil, or_false] at hx
    rcases hx with rfl | rfl | rfl | rfl | rfl | rfl | rfl | rfl | rfl <;> exact Nat.lt_of_lt_of_le (he _ (by decide)) (by decide)
  have all16 : ∀ e : Nat → Nat, (∀ j, j < 3 → e j < 12) → ∀ x ∈ [e 0, e 1, e 2], x < 16 := fun e he x hx => by
    simp only [List.mem_cons, List.not_mem_nil, or_false] at hx
    rcases hx with rfl | rfl | rfl <;> exact Nat.lt_of_lt_of_le (he _ (by decide)) (by decide)
  have L1 := mm_lex (B := 4) (F := fun a => nI a - nI 1) (fun a b ha hb => mm_F1a a ha b hb) (fun a b ha hb => mm_F1b a ha b hb) [d 0, d 1, d 2, d 3, d 4, d 5, d 6, d 7, d 8] [d' 0, d' 1, d' 2, d' 3, d' 4, d' 5, d' 6, d' 7, d' 8] rfl (all4 d h1.1) (all4 d' h2.1)
  have L2 := mm_lex (B := 16) (F := nI) (fun a b ha hb h => (nI_eq (by omega) (by omega)).mp h) (fun a b ha hb => nI_ltI (by omega) (by omega)) [t 0, t 1, t 2] [t' 0, t' 1, t' 2] rfl (all16 t h1.2) (all16 t' h2.2)
  have u1 := mm_num_lt (B := 16) (l := [t 0, t 1, t 2]) (all16 t h1.2)
  simp only [List.length_cons, List.length_nil, Nat.reduceAdd, Nat.reducePow, Nat.zero_add] at u1
  have u2 := mm_num_lt (B := 16) (l := [t' 0, t' 1, t' 2]) (all16 t' h2.2)
  simp only [List.length_cons, List.length_nil, Nat.reduceAdd, Nat.reducePow, Nat.zero_add] at u2
  rw [← mm_num4 d, ← mm_num4 d']
  generalize hA : [d 0, d 1, d 2, d 3, d 4, d 5, d 6, d 7, d 8] = A at L1 ⊢
  generalize hA' : [d' 0, d' 1, d' 2, d' 3, d' 4, d' 5, d' 6, d' 7, d' 8] = A' at L1 ⊢
  generalize hT : [t 0, t 1, t 2] = T at L2 u1 ⊢
  generalize hT' : [t' 0, t' 1, t' 2] = T' at L2 u2 ⊢
  unfold x_cmp
  rcases L1 with ⟨L, e⟩ | ⟨L, e⟩ | ⟨L, e⟩
  · rw [if_pos L]
    rw [e]
    rcases L2 with ⟨L, e⟩ | ⟨L, e⟩ | ⟨L, e⟩
    · rw [L, e]
      exact ⟨fun z => absurd z (by decide), fun z => by omega⟩
    · rw [L]
      exact ⟨fun z => absurd z (by decide), fun z => by omega⟩
    · rw [L]
      exact ⟨fun _ => by omega, fun _ => by decide⟩
  · rw [L, if_neg (by decide)]
    exact ⟨fun z => absurd z (by decide), fun z => by omega⟩
  · rw [L, if_neg (by decide)]
    exact ⟨fun _ => by omega, fun _ => by decide⟩
/-! the place of an operator -/
theorem mm_cnt_range {j : Nat} : ∀ n, j ≤ n → (List.range n).countP (fun i => decide (i < j)) = j
  | 0, h => by
    have e : j = 0 := by omega
    subst e
    rfl
  | n + 1, h => by
    rw [List.range_succ, List.countP_append]
    rcases Nat.lt_or_ge n j with h1 | h1
    · have e : j = n + 1 := by omega
      have h2 : (List.range n).countP (fun i => decide (i < j)) = n := by
        rw [List.countP_eq_length.mpr (fun i hi => decide_eq_true (by have := List.mem_range.mp hi; omega)), List.length_range]
      rw [h2]
      simp [h1]
      omega
    · rw [mm_cnt_range n h1]
      simp [Nat.not_lt.mpr h1]
section MR
variable {f5 f6 : Nat → Int32} {Ks : List Int32}
theorem mm_kh_perm (h : z_kh f5 f6 Ks) (hnd : Ks.Nodup) : Ks.Perm ((List.range Ks.length).map f6) := by
  refine (List.perm_ext_iff_of_nodup hnd ?_).mpr (fun q => ?_)
  · rw [List.Nodup, List.pairwise_map]
    refine List.Pairwise.imp_of_mem ?_ List.pairwise_lt_range
    intro a b ha hb hab z
    have := h.2.1 a b hab (List.mem_range.mp hb)
    rw [z] at this
    exact z_lt_ir this
  · constructor
    · intro hq
      obtain ⟨j, hj, e⟩ := h.2.2.2 q hq
      exact List.mem_map.mpr ⟨j, List.mem_range.mpr hj, e⟩
    · intro hq
      obtain ⟨j, hj, rfl⟩ := List.mem_map.mp hq
      exact h.2.2.1 j (List.mem_range.mp hj)
theorem mm_rank (h : z_kh f5 f6 Ks) (hnd : Ks.Nodup) (hok : ∀ q ∈ Ks, mm_ok q) {j : Nat} (hj : j < Ks.length) : x_rank (mm_dec (f6 j)) (Ks.map mm_dec) = j := by
  unfold x_rank
  rw [List.countP_map]
  have hjm := h.2.2.1 j hj
  have e1 : Ks.countP ((fun q => decide (0 < x_cmp (mm_dec (f6 j)).1 (mm_dec (f6 j)).2 q.1 q.2)) ∘ mm_dec) = Ks.countP (fun q => decide (q < f6 j)) :=
    List.countP_congr (fun q hq => by
      show decide (0 < x_cmp _ _ (mm_dec q).1 (mm_dec q).2) = true ↔ decide (q < f6 j) = true
      rw [decide_eq_true_eq, decide_eq_true_eq]
      exact mm_ord (hok _ hjm) (hok q hq))
  rw [e1, (mm_kh_perm h hnd).countP_eq, List.countP_map]
  have e2 : (List.range Ks.length).countP ((fun q => decide (q < f6 j)) ∘ f6) = (List.range Ks.length).countP (fun i => decide (i < j)) :=
    List.countP_congr (fun i hi => by
      have hi' := List.mem_range.mp hi
      show decide (f6 i < f6 j) = true ↔ decide (i < j) = true
      rw [decide_eq_true_eq, decide_eq_true_eq]
      constructor
      · intro z
        rcases Nat.lt_trichotomy i j with h1 | h1 | h1
        · exact h1
        · rw [h1] at z; exact absurd z (fun z => z_lt_ir z)
        · exact absurd (z_lt_tr z (h.2.1 j i h1 hi')) (fun z => z_lt_ir z)
      · exact fun z => h.2.1 i j z hj)
  rw [e2]
  exact mm_cnt_range _ (by omega)
theorem mm_f6_inj (h : z_kh f5 f6 Ks) {i j : Nat} (hi : i < Ks.length) (hj : j < Ks.length) (e : f6 i = f6 j) : i = j := by
  rcases Nat.lt_trichotomy i j with h1 | h1 | h1
  · have := h.2.1 i j h1 hj
    rw [e] at this
    exact absurd this (fun z => z_lt_ir z)
  · exact h1
  · have := h.2.1 j i h1 hi
    rw [e] at this
    exact absurd this (fun z => z_lt_ir z)
theorem mm_pl_at {l : List Int32} {f : Nat → Int32} {w r j k : Nat} (hl : l.length = w) (hk : k < w) : x_pl l f (w * r) (w * j + k) = if r = j then l.getD k 0 else f (w * j + k) := by
  unfold x_pl
  by_cases e : r = j
  · subst e
    rw [if_pos rfl, if_pos ⟨by omega, by omega⟩, show w * r + k - w * r = k by omega]
  · rw [if_neg e, if_neg]
    rintro ⟨h1, h2⟩
    rw [hl] at h2
    rcases Nat.lt_or_ge r j with h3 | h3
    · have h4 : w * (r + 1) ≤ w * j := Nat.mul_le_mul_left _ h3
      rw [Nat.mul_add, Nat.mul_one] at h4
      omega
    · have h4 : w * (j + 1) ≤ w * r := Nat.mul_le_mul_left _ (by omega)
      rw [Nat.mul_add, Nat.mul_one] at h4
      omega
theorem mm_kt (h : z_kh f5 f6 Ks) (hnd : Ks.Nodup) (hok : ∀ q ∈ Ks, mm_ok q) (f g : Nat → Int32) {j : Nat} (hj : j < Ks.length) : ∀ i, i ≤ Ks.length → (∃ i0, i0 < i ∧ Ks[i0]? = some (f6 j)) →
    (∀ k, k < 9 → x_kt (Ks.map mm_dec) i f (9 * j + k) = z_ub (f6 j) k) ∧ ∀ k, k < 3 → x_ks (Ks.map mm_dec) i g (3 * j + k) = z_ub (f6 j) (9 + k)
  | 0, _, ⟨i0, h0, _⟩ => absurd h0 (Nat.not_lt_zero i0)
  | i + 1, hi, ⟨i0, h0, hi0⟩ => by
    obtain ⟨q, hq⟩ : ∃ q, Ks[i]? = some q := ⟨_, List.getElem?_eq_getElem (show i < Ks.length by omega)⟩
    have hq' : (Ks.map mm_dec)[i]? = some (mm_dec q) := by rw [List.getElem?_map, hq]; rfl
    obtain ⟨j1, hj1, e1⟩ := h.2.2.2 q (List.mem_of_getElem? hq)
    rw [x_kt_s hq', x_ks_s hq', ← e1, mm_rank h hnd hok hj1]
    by_cases e : j1 = j
    · subst e
      refine ⟨fun k hk => ?_, fun k hk => ?_⟩
      · rw [mm_pl_at (mm_dec_len _).1 hk, if_pos rfl, mm_dec1 _ hk]
      · rw [mm_pl_at (mm_dec_len _).2 hk, if_pos rfl, mm_dec2 _ hk]
    · have hlt : i0 < i := by
        rcases Nat.lt_or_ge i0 i with h9 | h9
        · exact h9
        · have e9 : i0 = i := by omega
          subst e9
          exact absurd (mm_f6_inj h hj1 hj (e1.trans (Option.some.inj (hq.symm.trans hi0)))) e
      obtain ⟨a, b⟩ := mm_kt h hnd hok f g hj i (by omega) ⟨i0, hlt, hi0⟩
      refine ⟨fun k hk => ?_, fun k hk => ?_⟩
      · rw [mm_pl_at (mm_dec_len _).1 hk, if_neg e]
        exact a k hk
      · rw [mm_pl_at (mm_dec_len _).2 hk, if_neg e]
        exact b k hk
theorem mm_sorted (h : z_kh f5 f6 Ks) (hnd : Ks.Nodup) (hok : ∀ q ∈ Ks, mm_ok q) (f g : Nat → Int32) {j : Nat} (hj : j < Ks.length) :
    (∀ k, k < 9 → x_kt (Ks.map mm_dec) (Ks.map mm_dec).length f (9 * j + k) = z_ub (f6 j) k) ∧ ∀ k, k < 3 → x_ks (Ks.map mm_dec) (Ks.map mm_dec).length g (3 * j + k) = z_ub (f6 j) (9 + k) := by
  obtain ⟨i0, hi0⟩ := List.getElem?_of_mem (h.2.2.1 j hj)
  rw [List.length_map]
  exact mm_kt h hnd hok f g hj _ (Nat.le_refl _) ⟨i0, (List.getElem?_eq_some_iff.mp hi0).1, hi0⟩
end MR
