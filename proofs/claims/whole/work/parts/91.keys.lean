/-! ===== generators of symbols; keys of operators ===== -/
theorem mm_rotd : ∀ n, n < 7 → ∀ ax, ax < 6 → ∀ be, be < 3 → (mm_S.elem (x_rotl n ax be) && mm_S.elem (x_neg (x_rotl n ax be))) = true := by decide +kernel
theorem mm_oned : (mm_S.elem x_one && (mm_S.elem (x_neg x_one) && mm_S.elem x_mone)) = true := by decide +kernel
theorem mm_mrot {b : Nat → Int32} {t a su fi be : Nat} (h : x_mok b t a su fi = true) (hb : be < 3) : x_mrot b t a su fi be ∈ mm_S := by
  have h0 : x_mr0 b t a su fi be ∈ mm_S ∧ x_neg (x_mr0 b t a su fi be) ∈ mm_S := by
    unfold x_mr0
    by_cases h1 : x_mn b t a = 1
    · rw [if_pos h1]
      have h9 := mm_oned
      simp only [Bool.and_eq_true, List.elem_iff] at h9
      exact ⟨h9.1, h9.2.1⟩
    · rw [if_neg h1]
      have hn := x_ord_le (x_lookv b t (x_ma1 b t a))
      have hn' : 1 ≤ x_mn b t a ∧ x_mn b t a ≤ 6 := ⟨hn.1, hn.2.1⟩
      have hax : x_man b t a su fi ≤ 5 := by
        unfold x_mok at h
        simp only [Bool.and_eq_true, Bool.or_eq_true, decide_eq_true_eq, Bool.not_eq_true', decide_eq_false_iff_not] at h
        have h2 : ¬ x_max b t a su fi = -1 := h.2.elim (fun z => absurd z h1) id
        have h3 : ∃ ax, ax ≤ 5 ∧ x_max b t a su fi = nI ax := by
          unfold x_max at h2 ⊢
          by_cases h4 : x_maw b t a = -1
          · rw [if_pos h4] at h2 ⊢
            by_cases h5 : 1 < x_mn b t a
            · rw [if_pos h5] at h2 ⊢
              exact x_axFor_nat h2
            · rw [if_neg h5] at h2
              exact absurd rfl h2
          · rw [if_neg h4]
            exact (x_axAt_nat h4).2
        obtain ⟨ax, h4, h5⟩ := h3
        unfold x_man
        rw [h5, nI_clamp (by omega)]
        exact h4
      have h6 := mm_rotd (x_mn b t a) (by omega) (x_man b t a su fi) (by omega) be hb
      simp only [Bool.and_eq_true, List.elem_iff] at h6
      exact h6
  unfold x_mrot
  split
  · exact h0.2
  · exact h0.1
def mm_s3 (s : List Int32) : Prop := ∃ u v w, u < 12 ∧ v < 12 ∧ w < 12 ∧ s = [nI u, nI v, nI w]
theorem mm_sf12 {b : Nat → Int32} {t n ax : Nat} : ∀ (k : Nat) (dg : Bool) (a u v w : Nat), u < 12 → v < 12 → w < 12 → (x_sf b t n ax k dg a u v w).2.1 < 12 ∧ (x_sf b t n ax k dg a u v w).2.2.1 < 12 ∧ (x_sf b t n ax k dg a u v w).2.2.2 < 12
  | 0, dg, a, u, v, w, h1, h2, h3 => ⟨h1, h2, h3⟩
  | k + 1, dg, a, u, v, w, h1, h2, h3 => by
    unfold x_sf
    split
    · exact mm_sf12 k _ _ _ _ _ (Nat.mod_lt _ (by decide)) (Nat.mod_lt _ (by decide)) (Nat.mod_lt _ (by decide))
    · split
      · exact mm_sf12 k _ _ _ _ _ (Nat.mod_lt _ (by decide)) (Nat.mod_lt _ (by decide)) (Nat.mod_lt _ (by decide))
      · exact ⟨h1, h2, h3⟩
theorem mm_syl {b : Nat → Int32} {t : Nat} : ∀ (f k a su fi be : Nat) (Gt Gs : List (List Int32)), be < 3 → (∀ g ∈ Gt, g ∈ mm_S) → (∀ s ∈ Gs, mm_s3 s) →
    (∀ g ∈ (x_syl b t f k a su fi be Gt Gs).2.2.1, g ∈ mm_S) ∧ ∀ s ∈ (x_syl b t f k a su fi be Gt Gs).2.2.2, mm_s3 s
  | 0, k, a, su, fi, be, Gt, Gs, _, h1, h2 => ⟨h1, h2⟩
  | f + 1, k, a, su, fi, be, Gt, Gs, hb, h1, h2 => by
    unfold x_syl
    split
    · exact ⟨h1, h2⟩
    split
    · exact ⟨h1, h2⟩
    split
    · exact ⟨h1, h2⟩
    split
    · exact ⟨h1, h2⟩
    split
    · next hm =>
      refine mm_syl f (k + 1) _ _ _ _ _ _ ?_ (fun g hg => ?_) (fun s hs => ?_)
      · split
        · next h9 => exact h9.2
        · exact hb
      · rcases List.mem_append.mp hg with hg | hg
        · exact h1 g hg
        · rw [List.mem_singleton.mp hg]
          exact mm_mrot hm hb
      · rcases List.mem_append.mp hs with hs | hs
        · exact h2 s hs
        · rw [List.mem_singleton.mp hs]
          have h9 := mm_sf12 (b := b) (t := t) (n := x_mn b t (x_blank b t a)) (ax := x_man b t (x_blank b t a) su fi) 4 (decide (2 < x_mn b t (x_blank b t a)) && decide (x_man b t (x_blank b t a) su fi < 3)) (x_ma3 b t (x_blank b t a)) 0 0 0 (by decide) (by decide) (by decide)
          exact ⟨_, _, _, h9.1, h9.2.1, h9.2.2, rfl⟩
    · exact ⟨h1, h2⟩
theorem mm_cen {c : Int32} {Cs : List (List Int32)} (h : x_cen c = some Cs) : ∀ s ∈ Cs, mm_s3 s := by
  unfold x_cen at h
  repeat' split at h
  all_goals first
    | (cases h; done)
    | (cases h; intro s hs; exact absurd hs List.not_mem_nil)
    | (cases h
       intro s hs
       simp only [List.mem_cons, List.not_mem_nil, or_false] at hs
       first
         | (rcases hs with rfl | rfl | rfl <;> exact ⟨_, _, _, by decide, by decide, by decide, rfl⟩)
         | (rcases hs with rfl | rfl <;> exact ⟨_, _, _, by decide, by decide, by decide, rfl⟩)
         | (subst hs; exact ⟨_, _, _, by decide, by decide, by decide, rfl⟩))
theorem mm_gens (b : Nat → Int32) (t : Nat) : ∀ q ∈ x_symG b t, q.1 ∈ mm_S ∧ mm_s3 q.2 := by
  have ho := mm_oned
  simp only [Bool.and_eq_true, List.elem_iff] at ho
  have h0 : (∀ g ∈ (x_sg0 b t).1, g ∈ mm_S) ∧ ∀ s ∈ (x_sg0 b t).2, mm_s3 s := by
    unfold x_sg0
    split
    · refine ⟨fun g hg => ?_, fun s hs => ?_⟩
      · rw [List.mem_singleton.mp hg]; exact ho.2.2
      · rw [List.mem_singleton.mp hs]; exact ⟨0, 0, 0, by decide, by decide, by decide, rfl⟩
    · exact ⟨fun g hg => absurd hg List.not_mem_nil, fun s hs => absurd hs List.not_mem_nil⟩
  have h1 : (∀ g ∈ (x_sym b t).2.2.1, g ∈ mm_S) ∧ ∀ s ∈ (x_sym b t).2.2.2, mm_s3 s := by
    unfold x_sym
    cases hc : x_cen (x_lookv b t (x_sa0 b t)) with
    | none => exact h0
    | some Cs =>
      refine mm_syl 5 0 _ _ _ _ _ _ (by decide) (fun g hg => ?_) (fun s hs => ?_)
      · rcases List.mem_append.mp hg with hg | hg
        · exact h0.1 g hg
        · obtain ⟨z, -, rfl⟩ := List.mem_map.mp hg
          exact ho.1
      · rcases List.mem_append.mp hs with hs | hs
        · exact h0.2 s hs
        · exact mm_cen hc s hs
  intro q hq
  have h2 := List.of_mem_zip (a := q.1) (b := q.2) hq
  exact ⟨h1.1 _ h2.1, h1.2 _ h2.2⟩
/-! keys -/
def mm_ky (d t : Nat → Nat) : Nat := z_sn3 (z_kn d 9) t 3
def mm_vd (d t : Nat → Nat) : Prop := (∀ j, j < 9 → d j < 3) ∧ ∀ j, j < 3 → t j < 12
theorem mm_ky_sum (d t : Nat → Nat) : mm_ky d t = 268435456 * d 0 + 67108864 * d 1 + 16777216 * d 2 + 4194304 * d 3 + 1048576 * d 4 + 262144 * d 5 + 65536 * d 6 + 16384 * d 7 + 4096 * d 8 + 256 * t 0 + 16 * t 1 + t 2 := by
  unfold mm_ky
  simp only [z_sn3, z_kn]
  omega
theorem mm_ky_lt {d t : Nat → Nat} (h : mm_vd d t) : mm_ky d t < 2 ^ 30 := by
  rw [mm_ky_sum]
  have := h.1 0 (by decide); have := h.1 1 (by decide); have := h.1 2 (by decide); have := h.1 3 (by decide); have := h.1 4 (by decide); have := h.1 5 (by decide); have := h.1 6 (by decide); have := h.1 7 (by decide); have := h.1 8 (by decide); have := h.2 0 (by decide); have := h.2 1 (by decide); have := h.2 2 (by decide)
  omega
theorem mm_ub1 {d t : Nat → Nat} (h : mm_vd d t) {m : Nat} (hm : m < 9) : z_ub (nI (mm_ky d t)) m = nI (d m) - nI 1 := by
  have hl := mm_ky_lt h
  have hs := mm_ky_sum d t
  have := h.1 0 (by decide); have := h.1 1 (by decide); have := h.1 2 (by decide); have := h.1 3 (by decide); have := h.1 4 (by decide); have := h.1 5 (by decide); have := h.1 6 (by decide); have := h.1 7 (by decide); have := h.1 8 (by decide); have := h.2 0 (by decide); have := h.2 1 (by decide); have := h.2 2 (by decide)
  unfold z_ub
  rw [if_pos hm]
  rcases (show m = 0 ∨ m = 1 ∨ m = 2 ∨ m = 3 ∨ m = 4 ∨ m = 5 ∨ m = 6 ∨ m = 7 ∨ m = 8 by omega) with rfl | rfl | rfl | rfl | rfl | rfl | rfl | rfl | rfl
  · rw [pk_shrN (by omega) _ 28 (by decide), pk_andN (by omega) 2 (by decide), show mm_ky d t / 2 ^ 28 % 2 ^ 2 = d 0 by omega]
  · rw [pk_shrN (by omega) _ 26 (by decide), pk_andN (by omega) 2 (by decide), show mm_ky d t / 2 ^ 26 % 2 ^ 2 = d 1 by omega]
  · rw [pk_shrN (by omega) _ 24 (by decide), pk_andN (by omega) 2 (by decide), show mm_ky d t / 2 ^ 24 % 2 ^ 2 = d 2 by omega]
  · rw [pk_shrN (by omega) _ 22 (by decide), pk_andN (by omega) 2 (by decide), show mm_ky d t / 2 ^ 22 % 2 ^ 2 = d 3 by omega]
  · rw [pk_shrN (by omega) _ 20 (by decide), pk_andN (by omega) 2 (by decide), show mm_ky d t / 2 ^ 20 % 2 ^ 2 = d 4 by omega]
  · rw [pk_shrN (by omega) _ 18 (by decide), pk_andN (by omega) 2 (by decide), show mm_ky d t / 2 ^ 18 % 2 ^ 2 = d 5 by omega]
  · rw [pk_shrN (by omega) _ 16 (by decide), pk_andN (by omega) 2 (by decide), show mm_ky d t / 2 ^ 16 % 2 ^ 2 = d 6 by omega]
  · rw [pk_shrN (by omega) _ 14 (by decide), pk_andN (by omega) 2 (by decide), show mm_ky d t / 2 ^ 14 % 2 ^ 2 = d 7 by omega]
  · rw [pk_shrN (by omega) _ 12 (by decide), pk_andN (by omega) 2 (by decide), show mm_ky d t / 2 ^ 12 % 2 ^ 2 = d 8 by omega]
theorem mm_ub2 {d t : Nat → Nat} (h : mm_vd d t) {m : Nat} (hm : m < 3) : z_ub (nI (mm_ky d t)) (9 + m) = nI (t m) := by
  have hl := mm_ky_lt h
  have hs := mm_ky_sum d t
  have := h.1 0 (by decide); have := h.1 1 (by decide); have := h.1 2 (by decide); have := h.1 3 (by decide); have := h.1 4 (by decide); have := h.1 5 (by decide); have := h.1 6 (by decide); have := h.1 7 (by decide); have := h.1 8 (by decide); have := h.2 0 (by decide); have := h.2 1 (by decide); have := h.2 2 (by decide)
  unfold z_ub
  rw [if_neg (by omega)]
  rcases (show m = 0 ∨ m = 1 ∨ m = 2 by omega) with rfl | rfl | rfl
  · rw [pk_shrN (by omega) _ 8 (by decide), pk_andN (by omega) 4 (by decide), show mm_ky d t / 2 ^ 8 % 2 ^ 4 = t 0 by omega]
  · rw [pk_shrN (by omega) _ 4 (by decide), pk_andN (by omega) 4 (by decide), show mm_ky d t / 2 ^ 4 % 2 ^ 4 = t 1 by omega]
  · rw [pk_shrN (by omega) _ 0 (by decide), pk_andN (by omega) 4 (by decide), show mm_ky d t / 2 ^ 0 % 2 ^ 4 = t 2 by omega]
/-- the operator of a key -/
def mm_dec (q : Int32) : x_O := ([z_ub q 0, z_ub q 1, z_ub q 2, z_ub q 3, z_ub q 4, z_ub q 5, z_ub q 6, z_ub q 7, z_ub q 8], [z_ub q 9, z_ub q 10, z_ub q 11])
def mm_ok (q : Int32) : Prop := ∃ d t, mm_vd d t ∧ q = nI (mm_ky d t)
theorem mm_dec_len (q : Int32) : (mm_dec q).1.length = 9 ∧ (mm_dec q).2.length = 3 := ⟨rfl, rfl⟩
theorem mm_dec1 (q : Int32) {m : Nat} (hm : m < 9) : (mm_dec q).1.getD m 0 = z_ub q m := by
  rcases (show m = 0 ∨ m = 1 ∨ m = 2 ∨ m = 3 ∨ m = 4 ∨ m = 5 ∨ m = 6 ∨ m = 7 ∨ m = 8 by omega) with rfl | rfl | rfl | rfl | rfl | rfl | rfl | rfl | rfl <;> rfl
theorem mm_dec2 (q : Int32) {m : Nat} (hm : m < 3) : (mm_dec q).2.getD m 0 = z_ub q (9 + m) := by
  rcases (show m = 0 ∨ m = 1 ∨ m = 2 by omega) with rfl | rfl | rfl <;> rfl
theorem mm_ext {l l' : List Int32} {n : Nat} (h : l.length = n) (h' : l'.length = n) (e : ∀ m, m < n → l.getD m 0 = l'.getD m 0) : l = l' := by
  apply List.ext_getElem (h.trans h'.symm)
  intro i h1 h2
  have := e i (by omega)
  rwa [List.getD, List.getD, List.getElem?_eq_getElem h1, List.getElem?_eq_getElem h2] at this
theorem mm_sub1 {a b : Nat} (ha : a < 2 ^ 31) (hb : b < 2 ^ 31) (h : nI a - nI 1 = nI b - nI 1) : a = b := by
  have h1 := congrArg (fun z => z + nI 1) h
  simp only [Int32.sub_add_cancel] at h1
  exact (nI_eq ha hb).mp h1
theorem mm_dec_inj {p q : Int32} (hp : mm_ok p) (hq : mm_ok q) (h : mm_dec p = mm_dec q) : p = q := by
  obtain ⟨d, t, h1, rfl⟩ := hp
  obtain ⟨d', t', h2, rfl⟩ := hq
  have e1 : ∀ j, j < 9 → d j = d' j := fun j hj => by
    have h3 := congrArg (fun z => z.1.getD j 0) h
    simp only [mm_dec1 _ hj, mm_ub1 h1 hj, mm_ub1 h2 hj] at h3
    have := h1.1 j hj; have := h2.1 j hj
    exact mm_sub1 (by omega) (by omega) h3
  have e2 : ∀ j, j < 3 → t j = t' j := fun j hj => by
    have h3 := congrArg (fun z => z.2.getD j 0) h
    simp only [mm_dec2 _ hj, mm_ub2 h1 hj, mm_ub2 h2 hj] at h3
    have := h1.2 j hj; have := h2.2 j hj
    exact (nI_eq (by omega) (by omega)).mp h3
  rw [mm_ky_sum, mm_ky_sum, e1 0 (by decide), e1 1 (by decide), e1 2 (by decide), e1 3 (by decide), e1 4 (by decide), e1 5 (by decide), e1 6 (by decide), e1 7 (by decide), e1 8 (by decide), e2 0 (by decide), e2 1 (by decide), e2 2 (by decide)]
theorem mm_id_ok : mm_ok (nI 627400704) := ⟨fun j => [2, 1, 1, 1, 2, 1, 1, 1, 2].getD j 0, fun _ => 0, ⟨by decide, by decide⟩, by decide⟩
theorem mm_id_dec : mm_dec (nI 627400704) = x_id := by decide +kernel
/-! one step of the class's closing is one of the reference's -/
theorem mm_nu {G : Nat → Int32} {Gn : List x_O} (hG : z_hg G Gn) {g : Nat} {r : x_O} (hr : Gn[g]? = some r) (q : Int32) {m : Nat} (hm : m < 9) : z_nu (z_ub q) G (g * 12) m = (x_mul (mm_dec q).1 r.1).getD m 0 := by
  obtain ⟨h1, -⟩ := hG g r hr
  have ha : m / 3 < 3 := by omega
  have hc : m % 3 < 3 := Nat.mod_lt _ (by decide)
  have e := mm_g (mm_dec q).1 r.1 ha hc
  rw [show 3 * (m / 3) + m % 3 = m by omega] at e
  rw [e]
  unfold z_nu z_tc x_d3
  rw [mm_dec1 q (by omega), mm_dec1 q (by omega), mm_dec1 q (by omega), h1 (m % 3) (by omega), show g * 12 + m % 3 + 3 = g * 12 + (3 + m % 3) by omega, h1 (3 + m % 3) (by omega), show g * 12 + m % 3 + 2 * 3 = g * 12 + (6 + m % 3) by omega, h1 (6 + m % 3) (by omega), show nI 0 = 0 from rfl, Int32.zero_add]
theorem mm_step {G : Nat → Int32} {Gn : List x_O} (hG : z_hg G Gn) {g : Nat} {r : x_O} (hr : Gn[g]? = some r) (q : Int32) (hk : z_okb G q g) : mm_ok (z_stp G q g) ∧ mm_dec (z_stp G q g) = x_opm (mm_dec q) r := by
  obtain ⟨h1, h2⟩ := z_ks_n hk (Nat.le_refl 3)
  have hv : mm_vd (fun j => z_dn (z_nu (z_ub q) G (g * 12) j)) (z_tn (z_ub q) G (g * 12)) := ⟨fun j hj => (z_inr_dn (hk j hj)).1, fun j hj => (z_md_n _).1⟩
  have e : z_stp G q g = nI (mm_ky (fun j => z_dn (z_nu (z_ub q) G (g * 12) j)) (z_tn (z_ub q) G (g * 12))) := h1
  refine ⟨⟨_, _, hv, e⟩, Prod.ext (mm_ext (n := 9) rfl rfl fun m hm => ?_) (mm_ext (n := 3) rfl rfl fun m hm => ?_)⟩
  · rw [mm_dec1 _ hm, e, mm_ub1 hv hm]
    show nI (z_dn (z_nu (z_ub q) G (g * 12) m)) - nI 1 = (x_mul (mm_dec q).1 r.1).getD m 0
    rw [← (z_inr_dn (hk m hm)).2, mm_nu hG hr q hm]
  · rw [mm_dec2 _ hm, e, mm_ub2 hv hm]
    show nI (z_mdn (z_tc (z_ub q) G (m * 3) (g * 12 + 9) 1 + z_ub q (9 + m))) = (x_mus (mm_dec q).1 (mm_dec q).2 r.2).getD m 0
    rw [← (z_md_n _).2]
    obtain ⟨-, h3⟩ := hG g r hr
    have hx : z_tc (z_ub q) G (m * 3) (g * 12 + 9) 1 + z_ub q (9 + m) = x_s3 (mm_dec q).1 (mm_dec q).2 r.2 m := by
      unfold z_tc x_s3
      rw [mm_dec1 q (by omega), mm_dec1 q (by omega), mm_dec1 q (by omega), mm_dec2 q hm, Nat.mul_comm m 3]
      have g0 : G (g * 12 + 9) = r.2.getD 0 0 := h3 0 (by decide)
      have g1 : G (g * 12 + 9 + 1) = r.2.getD 1 0 := h3 1 (by decide)
      have g2 : G (g * 12 + 9 + 2 * 1) = r.2.getD 2 0 := h3 2 (by decide)
      rw [g0, g1, g2]
      ac_rfl
    rw [hx]
    rcases (show m = 0 ∨ m = 1 ∨ m = 2 by omega) with rfl | rfl | rfl <;> rfl
theorem mm_map_mem {Ks : List Int32} (hK : ∀ q ∈ Ks, mm_ok q) {z : Int32} (hz : mm_ok z) : mm_dec z ∈ Ks.map mm_dec ↔ z ∈ Ks := by
  constructor
  · intro h
    obtain ⟨q, hq, e⟩ := List.mem_map.mp h
    rw [← mm_dec_inj (hK q hq) hz e]
    exact hq
  · exact fun h => List.mem_map.mpr ⟨z, h, rfl⟩
theorem mm_map_ok (Ks : List Int32) : x_ok (Ks.map mm_dec) := fun q hq => by
  obtain ⟨z, -, rfl⟩ := List.mem_map.mp hq
  exact mm_dec_len z
/-- what the class closes, the reference closes -/
theorem mm_lock {G : Nat → Int32} {Gn : List x_O} (hG : z_hg G Gn) : ∀ (f i g : Nat) (Ks Ks' : List Int32), z_clo G Gn.length f i g Ks (some Ks') → (∀ q ∈ Ks, mm_ok q) → Ks.Nodup →
    x_clo Gn f i g (Ks.map mm_dec) = some (Ks'.map mm_dec) ∧ (∀ q ∈ Ks', mm_ok q) ∧ Ks'.Nodup
  | 0, i, g, Ks, Ks', h, _, _ => by exact absurd h (fun z => z)
  | f + 1, i, g, Ks, Ks', h, hK, hnd => by
    unfold z_clo at h
    unfold x_clo
    rw [List.getElem?_map]
    cases hi : Ks[i]? with
    | none =>
      rw [hi] at h
      have e : Ks' = Ks := Option.some.inj h
      subst e
      exact ⟨rfl, hK, hnd⟩
    | some q =>
      rw [hi] at h
      dsimp only at h
      show (match Gn[g]? with
        | none => x_clo Gn f (i + 1) 0 (Ks.map mm_dec)
        | some r => if x_inO (x_opm (mm_dec q) r) (Ks.map mm_dec) = true then x_clo Gn f i (g + 1) (Ks.map mm_dec) else if (Ks.map mm_dec).length = 192 then none else x_clo Gn f i (g + 1) (Ks.map mm_dec ++ [x_opm (mm_dec q) r])) = _ ∧ _
      by_cases hg : g < Gn.length
      · rw [if_pos hg] at h
        obtain ⟨r, hr⟩ : ∃ r, Gn[g]? = some r := ⟨_, List.getElem?_eq_getElem hg⟩
        rw [hr]
        dsimp only
        rcases h with ⟨-, h⟩ | ⟨hk, ⟨hm, h⟩ | ⟨hm, ⟨-, h⟩ | ⟨h9, h⟩⟩⟩
        · cases h
        · obtain ⟨s1, s2⟩ := mm_step hG hr q hk
          rw [← s2, if_pos ((mm_inO (mm_dec_len _) (mm_map_ok Ks)).mpr ((mm_map_mem hK s1).mpr hm))]
          exact mm_lock hG f i (g + 1) Ks Ks' h hK hnd
        · cases h
        · obtain ⟨s1, s2⟩ := mm_step hG hr q hk
          rw [← s2, if_neg (fun z => hm ((mm_map_mem hK s1).mp ((mm_inO (mm_dec_len _) (mm_map_ok Ks)).mp z))), if_neg (by rw [List.length_map]; omega)]
          have := mm_lock hG f i (g + 1) (Ks ++ [z_stp G q g]) Ks' h (fun z hz => (List.mem_append.mp hz).elim (hK z) (fun z9 => by rw [List.mem_singleton.mp z9]; exact s1)) (List.nodup_append.mpr ⟨hnd, by simp, fun a ha b hb => by rw [List.mem_singleton.mp hb]; exact fun z => hm (z ▸ ha)⟩)
          rw [List.map_append] at this
          exact this
      · rw [if_neg hg] at h
        rw [List.getElem?_eq_none (by omega)]
        exact mm_lock hG f (i + 1) 0 Ks Ks' h hK hnd
/-- where the class gives up, though no number goes beyond, the reference gives up -/
theorem mm_lockN {G : Nat → Int32} {Gn : List x_O} (hG : z_hg G Gn) {M : List (List Int32)} (hM1 : ∀ A ∈ M, ∀ m, m < 9 → z_inr (A.getD m 0)) (hM2 : ∀ A ∈ M, ∀ r ∈ Gn, x_mul A r.1 ∈ M) :
    ∀ (f i g : Nat) (Ks : List Int32), z_clo G Gn.length f i g Ks none → (∀ q ∈ Ks, mm_ok q ∧ (mm_dec q).1 ∈ M) → x_clo Gn f i g (Ks.map mm_dec) = none
  | 0, i, g, Ks, h, _ => by exact absurd h (fun z => z)
  | f + 1, i, g, Ks, h, hK => by
    unfold z_clo at h
    unfold x_clo
    rw [List.getElem?_map]
    cases hi : Ks[i]? with
    | none =>
      rw [hi] at h
      cases h
    | some q =>
      rw [hi] at h
      dsimp only at h
      show (match Gn[g]? with
        | none => x_clo Gn f (i + 1) 0 (Ks.map mm_dec)
        | some r => if x_inO (x_opm (mm_dec q) r) (Ks.map mm_dec) = true then x_clo Gn f i (g + 1) (Ks.map mm_dec) else if (Ks.map mm_dec).length = 192 then none else x_clo Gn f i (g + 1) (Ks.map mm_dec ++ [x_opm (mm_dec q) r])) = none
      have hqM := hK q (List.mem_of_getElem? hi)
      by_cases hg : g < Gn.length
      · rw [if_pos hg] at h
        obtain ⟨r, hr⟩ : ∃ r, Gn[g]? = some r := ⟨_, List.getElem?_eq_getElem hg⟩
        have hin : x_mul (mm_dec q).1 r.1 ∈ M := hM2 _ hqM.2 r (List.mem_of_getElem? hr)
        have hk0 : z_okb G q g := fun m hm => by rw [mm_nu hG hr q hm]; exact hM1 _ hin m hm
        obtain ⟨s1, s2⟩ := mm_step hG hr q hk0
        rw [hr]
        dsimp only
        rcases h with ⟨h, -⟩ | ⟨hk, ⟨hm, h⟩ | ⟨hm, ⟨h9, -⟩ | ⟨h9, h⟩⟩⟩
        · exact absurd hk0 h
        · rw [← s2, if_pos ((mm_inO (mm_dec_len _) (mm_map_ok Ks)).mpr ((mm_map_mem (fun z hz => (hK z hz).1) s1).mpr hm))]
          exact mm_lockN hG hM1 hM2 f i (g + 1) Ks h hK
        · rw [← s2, if_neg (fun z => hm ((mm_map_mem (fun z hz => (hK z hz).1) s1).mp ((mm_inO (mm_dec_len _) (mm_map_ok Ks)).mp z))), if_pos (by rw [List.length_map]; exact h9)]
        · rw [← s2, if_neg (fun z => hm ((mm_map_mem (fun z hz => (hK z hz).1) s1).mp ((mm_inO (mm_dec_len _) (mm_map_ok Ks)).mp z))), if_neg (by rw [List.length_map]; omega)]
          have := mm_lockN hG hM1 hM2 f i (g + 1) (Ks ++ [z_stp G q g]) h (fun z hz => (List.mem_append.mp hz).elim (hK z) (fun z9 => by rw [List.mem_singleton.mp z9]; exact ⟨s1, by rw [s2]; exact hin⟩))
          rw [List.map_append] at this
          exact this
      · rw [if_neg hg] at h
        rw [List.getElem?_eq_none (by omega)]
        exact mm_lockN hG hM1 hM2 f (i + 1) 0 Ks h hK
