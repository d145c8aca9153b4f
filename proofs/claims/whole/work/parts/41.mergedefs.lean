/-! ===== merging, as the reference does it ===== -/
def x_cnt (K : Nat → Int64) (q : Int64) : Nat → Nat
  | 0 => 0
  | i + 1 => if K i = q then x_cnt K q i + 1 else x_cnt K q i
def x_sm (K V : Nat → Int64) (q : Int64) : Nat → Int64
  | 0 => 0
  | i + 1 => if K i = q then x_sm K V q i + V i else x_sm K V q i
def x_ab (d : Int64) : Int64 := if d < 0 then -d else d
def x_spr (K V : Nat → Int64) (c s q : Int64) : Nat → Int64
  | 0 => 0
  | i + 1 => if K i = q then x_spr K V c s q i + x_ab (c * V i - s) else x_spr K V c s q i
theorem x_cnt_le (K : Nat → Int64) (q : Int64) : ∀ i, x_cnt K q i ≤ i
  | 0 => Nat.le_refl 0
  | i + 1 => by
    have := x_cnt_le K q i
    unfold x_cnt
    split <;> omega
theorem x_cnt_none {K : Nat → Int64} {q : Int64} : ∀ {i : Nat}, (∀ j, j < i → K j ≠ q) → x_cnt K q i = 0
  | 0, _ => rfl
  | i + 1, h => by
    unfold x_cnt
    rw [if_neg (h i (by omega))]
    exact x_cnt_none (fun j hj => h j (by omega))
theorem x_sm_none {K V : Nat → Int64} {q : Int64} : ∀ {i : Nat}, (∀ j, j < i → K j ≠ q) → x_sm K V q i = 0
  | 0, _ => rfl
  | i + 1, h => by
    unfold x_sm
    rw [if_neg (h i (by omega))]
    exact x_sm_none (fun j hj => h j (by omega))
/-- the rows of the first i reflections: their keys rise, and are the reflections' own -/
def x_ro (K V : Nat → Int64) (i n : Nat) (f : Nat → Int64) (c : Nat → Int32) (s : Nat → Int64) : Prop :=
  n ≤ i ∧ (∀ a b, a < b → b < n → f a < f b) ∧ (∀ j, j < i → ∃ a, a < n ∧ f a = K j) ∧ ∀ a, a < n → (∃ j, j < i ∧ K j = f a) ∧ c a = nI (x_cnt K (f a) i) ∧ s a = x_sm K V (f a) i
def x_rj (K V : Nat → Int64) (i n : Nat) (f : Nat → Int64) (c : Nat → Int32) (s : Nat → Int64) (r : Nat) : Prop :=
  r < n ∧ x_ro K V (i + 1) n f (upd c r (c r + nI 1)) (vp_updL s r (s r + V i))
theorem x_lt_irr {a : Int64} (h : a < a) : False := Int.lt_irrefl _ (Int64.lt_iff_toInt_lt.mp h)
theorem x_lt_tr {a b c : Int64} (h : a < b) (h2 : b < c) : a < c := Int64.lt_iff_toInt_lt.mpr (Int.lt_trans (Int64.lt_iff_toInt_lt.mp h) (Int64.lt_iff_toInt_lt.mp h2))
theorem x_lt_ne {a b : Int64} (h : a < b) : a ≠ b := fun z => by rw [z] at h; exact x_lt_irr h
theorem x_lt_of {a b : Int64} (h : ¬ a < b) (h2 : a ≠ b) : b < a := by
  have h1 := Int64.not_lt.mp h
  have h3 := Int64.le_iff_toInt_le.mp h1
  refine Int64.lt_iff_toInt_lt.mpr ?_
  have h4 : a.toInt ≠ b.toInt := fun z => h2 (Int64.toInt_inj.mp z)
  omega
theorem x_ro_old {K V : Nat → Int64} {i n : Nat} {f : Nat → Int64} {c : Nat → Int32} {s : Nat → Int64} {r : Nat} (h : x_ro K V i n f c s) (hr : r < n) (he : f r = K i) : x_rj K V i n f c s r := by
  obtain ⟨h1, h2, h3, h4⟩ := h
  refine ⟨hr, by omega, h2, fun j hj => ?_, fun a ha => ?_⟩
  · rcases Nat.lt_or_ge j i with h5 | h5
    · exact h3 j h5
    · have : j = i := by omega
      subst this
      exact ⟨r, hr, he⟩
  · obtain ⟨⟨j, hj, hk⟩, h6, h7⟩ := h4 a ha
    refine ⟨⟨j, by omega, hk⟩, ?_, ?_⟩
    · by_cases e : a = r
      · subst e
        rw [pk_us, h6]
        show _ = nI (if K i = f a then _ else _)
        rw [if_pos he.symm, nI_add]
      · rw [pk_un e, h6]
        have : K i ≠ f a := by
          rw [← he]
          rcases Nat.lt_or_gt_of_ne e with h8 | h8
          · exact fun z => x_lt_ne (h2 a r h8 hr) z.symm
          · exact x_lt_ne (h2 r a h8 ha)
        show _ = nI (if K i = f a then _ else _)
        rw [if_neg this]
    · by_cases e : a = r
      · subst e
        rw [pk_uLs, h7]
        show _ = if K i = f a then _ else _
        rw [if_pos he.symm]
      · rw [pk_uLn e, h7]
        have : K i ≠ f a := by
          rw [← he]
          rcases Nat.lt_or_gt_of_ne e with h8 | h8
          · exact fun z => x_lt_ne (h2 a r h8 hr) z.symm
          · exact x_lt_ne (h2 r a h8 ha)
        show _ = if K i = f a then _ else _
        rw [if_neg this]
/-- a value is put in at the place r of n -/
def x_ins {α : Type} (f : Nat → α) (r n : Nat) (v : α) : Nat → α := fun j => if j < r then f j else if j = r then v else if j ≤ n then f (j - 1) else f j
def x_shf {α : Type} (f : Nat → α) (k n : Nat) : Nat → α := fun j => if k < j ∧ j ≤ n then f (j - 1) else f j
theorem x_shf_0 {α : Type} (f : Nat → α) (n : Nat) : x_shf f n n = f := by
  funext j
  unfold x_shf
  rw [if_neg (by omega)]
theorem x_shf_at {α : Type} (f : Nat → α) {k n : Nat} (h : 0 < k) : x_shf f k n (k - 1) = f (k - 1) := by
  unfold x_shf
  rw [if_neg (by omega)]
theorem x_shf_s {f : Nat → Int64} {k n : Nat} (h0 : 0 < k) (h : k ≤ n) : vp_updL (x_shf f k n) k (x_shf f k n (k - 1)) = x_shf f (k - 1) n := by
  rw [x_shf_at f h0]
  funext j
  by_cases e : j = k
  · subst e
    rw [pk_uLs]
    unfold x_shf
    rw [if_pos (by omega)]
  · rw [pk_uLn e]
    unfold x_shf
    by_cases h2 : k < j ∧ j ≤ n
    · rw [if_pos h2, if_pos (by omega)]
    · rw [if_neg h2, if_neg (by omega)]
theorem x_shf_si {f : Nat → Int32} {k n : Nat} (h0 : 0 < k) (h : k ≤ n) : upd (x_shf f k n) k (x_shf f k n (k - 1)) = x_shf f (k - 1) n := by
  rw [x_shf_at f h0]
  funext j
  by_cases e : j = k
  · subst e
    rw [pk_us]
    unfold x_shf
    rw [if_pos (by omega)]
  · rw [pk_un e]
    unfold x_shf
    by_cases h2 : k < j ∧ j ≤ n
    · rw [if_pos h2, if_pos (by omega)]
    · rw [if_neg h2, if_neg (by omega)]
theorem x_shf_ins {f : Nat → Int64} {r n : Nat} (h : r ≤ n) (v : Int64) : vp_updL (x_shf f r n) r v = x_ins f r n v := by
  funext j
  by_cases e : j = r
  · subst e
    rw [pk_uLs]
    unfold x_ins
    rw [if_neg (by omega), if_pos rfl]
  · rw [pk_uLn e]
    unfold x_shf x_ins
    by_cases h1 : j < r
    · rw [if_pos h1, if_neg (by omega)]
    · rw [if_neg h1, if_neg e]
      by_cases h2 : j ≤ n
      · rw [if_pos (by omega), if_pos h2]
      · rw [if_neg (by omega), if_neg h2]
theorem x_shf_insi {f : Nat → Int32} {r n : Nat} (h : r ≤ n) (v : Int32) : upd (x_shf f r n) r v = x_ins f r n v := by
  funext j
  by_cases e : j = r
  · subst e
    rw [pk_us]
    unfold x_ins
    rw [if_neg (by omega), if_pos rfl]
  · rw [pk_un e]
    unfold x_shf x_ins
    by_cases h1 : j < r
    · rw [if_pos h1, if_neg (by omega)]
    · rw [if_neg h1, if_neg e]
      by_cases h2 : j ≤ n
      · rw [if_pos (by omega), if_pos h2]
      · rw [if_neg (by omega), if_neg h2]
theorem x_ins_lo {α : Type} {f : Nat → α} {r n j : Nat} {v : α} (h : j < r) : x_ins f r n v j = f j := if_pos h
theorem x_ins_at {α : Type} {f : Nat → α} {r n : Nat} {v : α} : x_ins f r n v r = v := by
  unfold x_ins
  rw [if_neg (Nat.lt_irrefl r), if_pos rfl]
theorem x_ins_hi {α : Type} {f : Nat → α} {r n j : Nat} {v : α} (h : r < j) (h2 : j ≤ n) : x_ins f r n v j = f (j - 1) := by
  unfold x_ins
  rw [if_neg (by omega), if_neg (by omega), if_pos h2]
theorem x_ro_new {K V : Nat → Int64} {i n : Nat} {f : Nat → Int64} {c : Nat → Int32} {s : Nat → Int64} {r : Nat} (h : x_ro K V i n f c s) (hr : r ≤ n) (hlo : ∀ j, j < r → f j < K i) (hhi : ∀ j, r ≤ j → j < n → ¬ f j < K i) (hne : r = n ∨ f r ≠ K i) : x_rj K V i (n + 1) (x_ins f r n (K i)) (x_ins c r n (nI 0)) (x_ins s r n 0) r := by
  obtain ⟨h1, h2, h3, h4⟩ := h
  have hup : ∀ j, r ≤ j → j < n → K i < f j := by
    intro j h5 h6
    rcases Nat.lt_or_ge r j with h7 | h7
    · rcases hne with h8 | h8
      · omega
      · exact x_lt_tr (x_lt_of (hhi r (Nat.le_refl r) (by omega)) h8) (h2 r j h7 h6)
    · have : j = r := by omega
      subst this
      rcases hne with h8 | h8
      · omega
      · exact x_lt_of (hhi j h5 h6) h8
  have hno : ∀ j, j < i → K j ≠ K i := by
    intro j hj z
    obtain ⟨a, ha, e⟩ := h3 j hj
    rw [z] at e
    rcases Nat.lt_or_ge a r with h5 | h5
    · exact x_lt_ne (hlo a h5) e
    · exact x_lt_ne (hup a h5 ha) e.symm
  have hfa : ∀ a, a < n → f a ≠ K i := by
    intro a ha z
    rcases Nat.lt_or_ge a r with h5 | h5
    · exact x_lt_ne (hlo a h5) z
    · exact x_lt_ne (hup a h5 ha) z.symm
  refine ⟨by omega, by omega, fun a b hab hb => ?_, fun j hj => ?_, fun a ha => ?_⟩
  · rcases Nat.lt_trichotomy a r with h5 | h5 | h5
    · rw [x_ins_lo h5]
      rcases Nat.lt_trichotomy b r with h6 | h6 | h6
      · rw [x_ins_lo h6]; exact h2 a b hab (by omega)
      · subst h6; rw [x_ins_at]; exact hlo a h5
      · rw [x_ins_hi h6 (by omega)]
        exact x_lt_tr (hlo a h5) (hup (b - 1) (by omega) (by omega))
    · subst h5
      rw [x_ins_at, x_ins_hi hab (by omega)]
      exact hup (b - 1) (by omega) (by omega)
    · rw [x_ins_hi h5 (by omega), x_ins_hi (by omega) (by omega)]
      exact h2 (a - 1) (b - 1) (by omega) (by omega)
  · rcases Nat.lt_or_ge j i with h5 | h5
    · obtain ⟨a, ha, e⟩ := h3 j h5
      rcases Nat.lt_or_ge a r with h6 | h6
      · exact ⟨a, by omega, by rw [x_ins_lo h6]; exact e⟩
      · exact ⟨a + 1, by omega, by rw [x_ins_hi (by omega) (by omega)]; exact e⟩
    · have : j = i := by omega
      subst this
      exact ⟨r, by omega, x_ins_at⟩
  · have key : ∀ b, b < n → x_ins f r n (K i) a = f b → x_ins c r n (nI 0) a = c b → x_ins s r n 0 a = s b → a ≠ r → (∃ j, j < i + 1 ∧ K j = x_ins f r n (K i) a) ∧ upd (x_ins c r n (nI 0)) r (x_ins c r n (nI 0) r + nI 1) a = nI (x_cnt K (x_ins f r n (K i) a) (i + 1)) ∧ vp_updL (x_ins s r n 0) r (x_ins s r n 0 r + V i) a = x_sm K V (x_ins f r n (K i) a) (i + 1) := by
      intro b hb e1 e2 e3 har
      obtain ⟨⟨j, hj, hk⟩, h6, h7⟩ := h4 b hb
      rw [e1, pk_un har, pk_uLn har, e2, e3]
      refine ⟨⟨j, by omega, hk⟩, ?_, ?_⟩
      · show _ = nI (if K i = f b then _ else _)
        rw [if_neg (fun z => hfa b hb z.symm)]
        exact h6
      · show _ = if K i = f b then _ else _
        rw [if_neg (fun z => hfa b hb z.symm)]
        exact h7
    rcases Nat.lt_trichotomy a r with h5 | h5 | h5
    · exact key a (by omega) (x_ins_lo h5) (x_ins_lo h5) (x_ins_lo h5) (by omega)
    · subst h5
      rw [x_ins_at, pk_us, pk_uLs, x_ins_at, x_ins_at]
      refine ⟨⟨i, by omega, rfl⟩, ?_, ?_⟩
      · show _ = nI (if K i = K i then _ else _)
        rw [if_pos rfl, x_cnt_none hno, nI_add]
      · show _ = if K i = K i then _ else _
        rw [if_pos rfl, x_sm_none hno]
    · exact key (a - 1) (by omega) (x_ins_hi h5 (by omega)) (x_ins_hi h5 (by omega)) (x_ins_hi h5 (by omega)) (by omega)
theorem x_pl_lo {f : Nat → Int64} {n m : Nat} {q : Int64} (hs : ∀ a b, a < b → b < n → f a < f b) (hm : m < n) (h : f m < q) : ∀ j, j < m + 1 → f j < q := by
  intro j hj
  rcases Nat.lt_or_ge j m with h1 | h1
  · exact x_lt_tr (hs j m h1 hm) h
  · have : j = m := by omega
    rw [this]; exact h
theorem x_pl_hi {f : Nat → Int64} {n m : Nat} {q : Int64} (hs : ∀ a b, a < b → b < n → f a < f b) (h : ¬ f m < q) : ∀ j, m ≤ j → j < n → ¬ f j < q := by
  intro j hj hn z
  rcases Nat.lt_or_ge m j with h1 | h1
  · exact h (x_lt_tr (hs m j h1 hn) z)
  · have : j = m := by omega
    rw [this] at z; exact h z
theorem x_pl_eq {K V : Nat → Int64} {i n : Nat} {f : Nat → Int64} {c : Nat → Int32} {s : Nat → Int64} {r j : Nat} (h : x_ro K V i n f c s) (hj : j < i) (hlo : ∀ a, a < r → f a < K j) (hhi : ∀ a, r ≤ a → a < n → ¬ f a < K j) : r < n ∧ f r = K j := by
  obtain ⟨h1, h2, h3, h4⟩ := h
  obtain ⟨a, ha, e⟩ := h3 j hj
  rcases Nat.lt_trichotomy a r with h5 | h5 | h5
  · exact absurd e (x_lt_ne (hlo a h5))
  · subst h5; exact ⟨ha, e⟩
  · have h6 := hhi r (Nat.le_refl r) (by omega)
    have h7 := h2 r a h5 ha
    rw [e] at h7
    exact absurd h7 h6
def x_kk (σ : x_S) (o : Nat) : Nat → Int64 := fun i => x_gof (σ.1 40) (σ.1 49 i) (σ.1 50 i) (σ.1 51 i) o
def x_vv (σ : x_S) : Nat → Int64 := fun i => (σ.1 52 i).toInt64
/-- what the group says of a row's key -/
def x_mlt (σ : x_S) (o : Nat) (q : Int64) : Nat := (x_eqf (σ.1 40) (x_part q 0) (x_part q 1) (x_part q 2) o).length
def x_abq (σ : x_S) (o : Nat) (q : Int64) : Bool := x_absent (σ.1 40) (σ.1 41) o (x_part q 0) (x_part q 1) (x_part q 2)
def x_r2 (σ : x_S) (o : Nat) (f : Nat → Int64) (r : Nat) (k z : Nat → Int32) (s : Nat → Int64) : Prop := ∀ a, a < r → k a = nI (x_mlt σ o (f a)) ∧ z a = x_z (x_abq σ o (f a)) ∧ s a = 0
theorem x_r2_s {σ : x_S} {o : Nat} {f : Nat → Int64} {r : Nat} {k z : Nat → Int32} {s : Nat → Int64} (h : x_r2 σ o f r k z s) : x_r2 σ o f (r + 1) (upd k r (nI (x_mlt σ o (f r)))) (upd z r (x_z (x_abq σ o (f r)))) (vp_updL s r 0) := by
  intro a ha
  by_cases e : a = r
  · subst e
    rw [pk_us, pk_us, pk_uLs]
    exact ⟨rfl, rfl, rfl⟩
  · rw [pk_un e, pk_un e, pk_uLn e]
    exact h a (by omega)
def x_r3 (K V : Nat → Int64) (n i : Nat) (f : Nat → Int64) (c : Nat → Int32) (s p : Nat → Int64) : Prop := ∀ a, a < n → p a = x_spr K V (c a).toInt64 (s a) (f a) i
theorem x_r3_s {K V : Nat → Int64} {N n i r : Nat} {f : Nat → Int64} {c : Nat → Int32} {s p : Nat → Int64} (hro : x_ro K V N n f c s) (h : x_r3 K V n i f c s p) (hr : r < n) (he : f r = K i) : x_r3 K V n (i + 1) f c s (vp_updL p r (p r + x_ab ((c r).toInt64 * V i - s r))) := by
  intro a ha
  by_cases e : a = r
  · subst e
    rw [pk_uLs, h a ha]
    show _ = if K i = f a then _ else _
    rw [if_pos he.symm]
  · rw [pk_uLn e, h a ha]
    have : K i ≠ f a := by
      rw [← he]
      rcases Nat.lt_or_gt_of_ne e with h8 | h8
      · exact fun z => x_lt_ne (hro.2.1 a r h8 hr) z.symm
      · exact x_lt_ne (hro.2.1 r a h8 ha)
    show _ = if K i = f a then _ else _
    rw [if_neg this]
def x_mg (σ : x_S) (o N n : Nat) (f54 : Nat → Int64) (f55 f56 f57 : Nat → Int32) (f58 f59 : Nat → Int64) : Prop :=
  x_ro (x_kk σ o) (x_vv σ) N n f54 f55 f58 ∧ (∀ a, a < n → f56 a = nI (x_mlt σ o (f54 a)) ∧ f57 a = x_z (x_abq σ o (f54 a))) ∧ x_r3 (x_kk σ o) (x_vv σ) n N f54 f55 f58 f59
