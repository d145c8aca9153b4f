/-! ===== the group, as both hold it ===== -/
def w_rl (f : Nat → Int32) (i : Nat) : List Int32 := [f (9 * i), f (9 * i + 1), f (9 * i + 2), f (9 * i + 3), f (9 * i + 4), f (9 * i + 5), f (9 * i + 6), f (9 * i + 7), f (9 * i + 8)]
def w_tl (f : Nat → Int32) (j : Nat) : List Int32 := [f (j * 12), f (j * 12 + 1), f (j * 12 + 2), f (j * 12 + 3), f (j * 12 + 4), f (j * 12 + 5), f (j * 12 + 6), f (j * 12 + 7), f (j * 12 + 8)]
theorem w_rl_at (f : Nat → Int32) (i : Nat) {k : Nat} (hk : k < 9) : (w_rl f i).getD k 0 = f (9 * i + k) := by
  rcases (show k = 0 ∨ k = 1 ∨ k = 2 ∨ k = 3 ∨ k = 4 ∨ k = 5 ∨ k = 6 ∨ k = 7 ∨ k = 8 by omega) with rfl | rfl | rfl | rfl | rfl | rfl | rfl | rfl | rfl <;> rfl
theorem w_tl_at (f : Nat → Int32) (i : Nat) {k : Nat} (hk : k < 9) : (w_tl f i).getD k 0 = f (i * 12 + k) := by
  rcases (show k = 0 ∨ k = 1 ∨ k = 2 ∨ k = 3 ∨ k = 4 ∨ k = 5 ∨ k = 6 ∨ k = 7 ∨ k = 8 by omega) with rfl | rfl | rfl | rfl | rfl | rfl | rfl | rfl | rfl <;> rfl
def mm_det (A : List Int32) : Int32 := z_det (fun k => A.getD k 0) 0
def mm_nrm (A : List Int32) : List Int32 := if mm_det A < 0 then x_neg A else A
theorem mm_det_of {f : Nat → Int32} {a : Nat} {A : List Int32} (h : ∀ m, m < 9 → f (a + m) = A.getD m 0) : z_det f a = mm_det A := by
  have h0 := h 0 (by decide)
  rw [Nat.add_zero] at h0
  unfold mm_det z_det
  rw [h0, h 1 (by decide), h 2 (by decide), h 3 (by decide), h 4 (by decide), h 5 (by decide), h 6 (by decide), h 7 (by decide), h 8 (by decide)]
/-- keys, numbers, turns of the class against turns and shifts of the reference: n operators, c turns -/
def w_G (f11 f12 f13 f40 f41 : Nat → Int32) (n c : Nat) : Prop :=
  (∀ i, i < n → (∀ k, k < 9 → f12 (i * 12 + k) = f40 (9 * i + k)) ∧ ∀ k, k < 3 → f12 (i * 12 + 9 + k) = f41 (3 * i + k)) ∧
  (∀ i, i < n → ∃ d t, mm_vd d t ∧ f11 i = nI (mm_ky d t) ∧ ∀ k, k < 9 → f40 (9 * i + k) = nI (d k) - nI 1) ∧
  (0 < n → ∃ M, M ∈ mm_Ms ∧ (∀ i, i < n → w_rl f40 i ∈ M) ∧ (∃ i, i < n ∧ w_rl f40 i = x_one) ∧ ∀ i j, i < n → j < n → ∃ k, k < n ∧ w_rl f40 k = x_mul (w_rl f40 i) (w_rl f40 j)) ∧
  (∀ j, j < c → ∃ i, i < n ∧ w_tl f13 j = mm_nrm (w_rl f40 i)) ∧ (∀ i, i < n → ∃ j, j < c ∧ w_tl f13 j = mm_nrm (w_rl f40 i)) ∧ ∀ i j, i < c → j < c → w_tl f13 i = w_tl f13 j → i = j
theorem w_G_0 (f11 f12 f13 f40 f41 : Nat → Int32) : w_G f11 f12 f13 f40 f41 0 0 := ⟨fun i h => absurd h (Nat.not_lt_zero i), fun i h => absurd h (Nat.not_lt_zero i), fun h => absurd h (Nat.lt_irrefl 0), fun i h => absurd h (Nat.not_lt_zero i), fun i h => absurd h (Nat.not_lt_zero i), fun i j h => absurd h (Nat.not_lt_zero i)⟩
/-! a key of a turn -/
theorem mm_kn_sum (d : Nat → Nat) : z_kn d 9 = 65536 * d 0 + 16384 * d 1 + 4096 * d 2 + 1024 * d 3 + 256 * d 4 + 64 * d 5 + 16 * d 6 + 4 * d 7 + d 8 := by
  simp only [z_kn]
  omega
theorem mm_kn_le {d : Nat → Nat} (h : ∀ j, j < 9 → d j < 3) : z_kn d 9 ≤ 174762 := by
  rw [mm_kn_sum]
  have := h 0 (by decide); have := h 1 (by decide); have := h 2 (by decide); have := h 3 (by decide); have := h 4 (by decide); have := h 5 (by decide); have := h 6 (by decide); have := h 7 (by decide); have := h 8 (by decide)
  omega
theorem mm_kn_neg {d : Nat → Nat} (h : ∀ j, j < 9 → d j < 3) : 174762 - z_kn d 9 = z_kn (fun j => 2 - d j) 9 := by
  rw [mm_kn_sum, mm_kn_sum]
  have := h 0 (by decide); have := h 1 (by decide); have := h 2 (by decide); have := h 3 (by decide); have := h 4 (by decide); have := h 5 (by decide); have := h 6 (by decide); have := h 7 (by decide); have := h 8 (by decide)
  omega
theorem mm_kn_ub {e : Nat → Nat} (h : ∀ j, j < 9 → e j < 3) {k : Nat} (hk : k < 9) : z_ub (nI (z_kn e 9) <<< (nI 12 &&& 31)) k = nI (e k) - nI 1 := by
  have h1 := mm_kn_le h
  have hv : mm_vd e (fun _ => 0) := ⟨h, fun _ _ => Nat.zero_lt_succ 11⟩
  have h2 : z_kn e 9 * 2 ^ 12 = mm_ky e (fun _ => 0) := by
    rw [mm_ky2, show mm_num 16 [0, 0, 0] = 0 from rfl]
    omega
  rw [pk_shlN _ 12 (by decide) (by omega), h2, mm_ub1 hv hk]
theorem mm_kn_inj {d e : Nat → Nat} (hd : ∀ j, j < 9 → d j < 3) (he : ∀ j, j < 9 → e j < 3) (h : z_kn d 9 = z_kn e 9) : ∀ j, j < 9 → d j = e j := fun j hj => by
  have h1 := mm_kn_ub hd hj
  rw [h, mm_kn_ub he hj] at h1
  have := hd j hj; have := he j hj
  exact (mm_sub1 (by omega) (by omega) h1).symm
theorem mm_neg2 : ∀ a, a < 3 → nI (2 - a) - nI 1 = -(nI a - nI 1) := by decide +kernel
section WG
variable {g5 g6 f11 f12 f13 f14 f40 f41 : Nat → Int32} {Ks Ts : List Int32} {Gn : List x_O}
theorem w_nd {l : List Int32} (h : l.Nodup) {i j : Nat} {q : Int32} (hi : l[i]? = some q) (hj : l[j]? = some q) : i = j := by
  obtain ⟨h1, e1⟩ := List.getElem?_eq_some_iff.mp hi
  obtain ⟨h2, e2⟩ := List.getElem?_eq_some_iff.mp hj
  rcases Nat.lt_trichotomy i j with h3 | h3 | h3
  · exact absurd (e1.trans e2.symm) (List.pairwise_iff_getElem.mp h i j h1 h2 h3)
  · exact h3
  · exact absurd (e2.trans e1.symm) (List.pairwise_iff_getElem.mp h j i h2 h1 h3)
theorem w_G_of (hkh : z_kh g5 g6 Ks) (hnd : Ks.Nodup) (hok : ∀ q ∈ Ks, mm_ok q) {M : List (List Int32)} (hM : M ∈ mm_Ms) (hMK : ∀ q ∈ Ks, (mm_dec q).1 ∈ M) (hcl : x_close Gn = some (Ks.map mm_dec)) (hbc : z_bc g6 f11 f12 Ts Ks.length) (hth : z_th f13 f14 Ts) :
    w_G f11 f12 f13 (x_kt (Ks.map mm_dec) (Ks.map mm_dec).length f40) (x_ks (Ks.map mm_dec) (Ks.map mm_dec).length f41) Ks.length Ts.length := by
  obtain ⟨f, ef⟩ : ∃ f, f = x_kt (Ks.map mm_dec) (Ks.map mm_dec).length f40 := ⟨_, rfl⟩
  obtain ⟨g, eg⟩ : ∃ g, g = x_ks (Ks.map mm_dec) (Ks.map mm_dec).length f41 := ⟨_, rfl⟩
  have hs : ∀ j, j < Ks.length → (∀ k, k < 9 → f (9 * j + k) = z_ub (g6 j) k) ∧ ∀ k, k < 3 → g (3 * j + k) = z_ub (g6 j) (9 + k) := fun j hj => by
    rw [ef, eg]
    exact mm_sorted hkh hnd hok f40 f41 hj
  rw [← ef, ← eg]
  clear ef eg
  obtain ⟨b1, b2, b3⟩ := hbc
  have hrl : ∀ j, j < Ks.length → w_rl f j = (mm_dec (g6 j)).1 := fun j hj => mm_ext (n := 9) rfl rfl fun m hm => by rw [w_rl_at f j hm, (hs j hj).1 m hm, mm_dec1 _ hm]
  have hdg : ∀ i, i < Ks.length → ∃ d t, mm_vd d t ∧ f11 i = nI (mm_ky d t) ∧ ∀ k, k < 9 → f (9 * i + k) = nI (d k) - nI 1 := fun i hi => by
    obtain ⟨d, t, h1, h2⟩ := hok _ (hkh.2.2.1 i hi)
    exact ⟨d, t, h1, by rw [(b1 i hi).1]; exact h2, fun k hk => by rw [(hs i hi).1 k hk, h2, mm_ub1 h1 hk]⟩
  have hidx : ∀ p ∈ Ks.map mm_dec, ∃ i, i < Ks.length ∧ w_rl f i = p.1 := fun p hp => by
    obtain ⟨q, hq, rfl⟩ := List.mem_map.mp hp
    obtain ⟨i, hi, e⟩ := hkh.2.2.2 q hq
    exact ⟨i, hi, by rw [hrl i hi, e]⟩
  obtain ⟨-, -, -, hid, hst, hP⟩ := mm_close hcl
  have hin : ∀ i, i < Ks.length → mm_dec (g6 i) ∈ Ks.map mm_dec := fun i hi => List.mem_map.mpr ⟨_, hkh.2.2.1 i hi, rfl⟩
  -- keys of turns
  have hdet : ∀ i, i < Ks.length → z_det f12 (i * 12) = mm_det (w_rl f i) := fun i hi => mm_det_of (fun m hm => by rw [w_rl_at f i hm, (b1 i hi).2 m (by omega), (hs i hi).1 m hm])
  have hrk : ∀ i, i < Ks.length → ∀ d t, mm_vd d t → f11 i = nI (mm_ky d t) → z_rk f11 i = nI (z_kn d 9) := fun i hi d t h1 h2 => by
    unfold z_rk
    have h3 := mm_ky_lt h1
    have h4 := h1.2 0 (by decide); have h5 := h1.2 1 (by decide); have h6 := h1.2 2 (by decide)
    rw [h2, pk_shrN (by omega) _ 12 (by decide)]
    have h7 : mm_ky d t / 2 ^ 12 = z_kn d 9 := by
      rw [mm_ky2, mm_num16]
      omega
    rw [h7]
  have htk : ∀ i, i < Ks.length → ∃ e : Nat → Nat, (∀ j, j < 9 → e j < 3) ∧ z_tk f11 f12 i = nI (z_kn e 9) ∧ ∀ k, k < 9 → (mm_nrm (w_rl f i)).getD k 0 = nI (e k) - nI 1 := fun i hi => by
    obtain ⟨d, t, h1, h2, h3⟩ := hdg i hi
    unfold z_tk mm_nrm
    rw [hdet i hi, hrk i hi d t h1 h2]
    by_cases hd : mm_det (w_rl f i) < 0
    · rw [if_pos hd, if_pos hd]
      refine ⟨fun j => 2 - d j, fun j hj => (by show 2 - d j < 3; omega), ?_, fun k hk => ?_⟩
      · rw [pk_sub (mm_kn_le h1.1), mm_kn_neg h1.1]
      · rw [mm_gneg, w_rl_at f i hk, h3 k hk, mm_neg2 _ (h1.1 k hk)]
    · rw [if_neg hd, if_neg hd]
      exact ⟨d, h1.1, rfl, fun k hk => by rw [w_rl_at f i hk, h3 k hk]⟩
  have htl : ∀ i, i < Ks.length → ∀ j, Ts[j]? = some (z_tk f11 f12 i) → w_tl f13 j = mm_nrm (w_rl f i) := fun i hi j hj => by
    obtain ⟨e, h1, h2, h3⟩ := htk i hi
    refine mm_ext (n := 9) rfl (by unfold mm_nrm; split <;> rfl) fun m hm => ?_
    rw [w_tl_at f13 j hm, (hth.1 j _ hj).2 m (by omega), h2, mm_kn_ub h1 hm, h3 m hm]
  have hmem : ∀ i, i < Ks.length → z_tk f11 f12 i ∈ Ts := by
    intro i
    induction i using Nat.strongRecOn with
    | _ i ih =>
      intro hi
      by_cases hnw : z_nw f11 i
      · exact b2 i hi hnw
      · unfold z_nw at hnw
        have hi0 : i ≠ 0 := fun z => hnw (Or.inl z)
        have heq : z_rk f11 i = z_rk f11 (i - 1) := Classical.byContradiction fun z => hnw (Or.inr z)
        have h1 := ih (i - 1) (by omega) (by omega)
        obtain ⟨d, t, c1, c2, c3⟩ := hdg i hi
        obtain ⟨d', t', c1', c2', c3'⟩ := hdg (i - 1) (by omega)
        rw [hrk i hi d t c1 c2, hrk (i - 1) (by omega) d' t' c1' c2'] at heq
        have hk := mm_kn_inj c1.1 c1'.1 ((nI_eq (by have := mm_kn_le c1.1; omega) (by have := mm_kn_le c1'.1; omega)).mp heq)
        have e9 : w_rl f i = w_rl f (i - 1) := mm_ext (n := 9) rfl rfl fun m hm => by rw [w_rl_at f i hm, w_rl_at f (i - 1) hm, c3 m hm, c3' m hm, hk m hm]
        have e8 : z_tk f11 f12 i = z_tk f11 f12 (i - 1) := by
          unfold z_tk
          rw [hdet i hi, hdet (i - 1) (by omega), e9, hrk i hi d t c1 c2, hrk (i - 1) (by omega) d' t' c1' c2', heq]
        rw [e8]
        exact h1
  refine ⟨fun i hi => ⟨fun k hk => ?_, fun k hk => ?_⟩, hdg, fun h0 => ⟨M, hM, fun i hi => by rw [hrl i hi]; exact hMK _ (hkh.2.2.1 i hi), hidx _ hid, fun i j hi hj => ?_⟩, fun j hj => ?_, fun i hi => ?_, fun i j hi hj he => ?_⟩
  · rw [(b1 i hi).2 k (by omega), (hs i hi).1 k hk]
  · rw [show i * 12 + 9 + k = i * 12 + (9 + k) by omega, (b1 i hi).2 (9 + k) (by omega), (hs i hi).2 k hk]
  · have key := hP (fun p => ∀ A, (∃ p0 ∈ Ks.map mm_dec, p0.1 = A) → ∃ p1 ∈ Ks.map mm_dec, p1.1 = x_mul A p.1) (fun p r hp hr A hA => by
        obtain ⟨p1, h1, h2⟩ := hp A hA
        exact ⟨_, hst p1 h1 r hr, by show x_mul p1.1 r.1 = x_mul A (x_mul p.1 r.1); rw [h2, mm_assoc]⟩) (fun A hA => by
        obtain ⟨p0, h1, h2⟩ := hA
        refine ⟨p0, h1, ?_⟩
        show p0.1 = x_mul A x_one
        rw [← h2, mm_mul_one ((mm_map_ok Ks) p0 h1).1]) (mm_dec (g6 j)) (hin j hj) (w_rl f i) ⟨_, hin i hi, (hrl i hi).symm⟩
    obtain ⟨p1, h1, h2⟩ := key
    obtain ⟨k, hk, e⟩ := hidx p1 h1
    exact ⟨k, hk, by rw [e, h2, hrl j hj]⟩
  · obtain ⟨q, hq⟩ : ∃ q, Ts[j]? = some q := ⟨_, List.getElem?_eq_getElem hj⟩
    obtain ⟨i, hi, e⟩ := b3 q (List.mem_of_getElem? hq)
    exact ⟨i, hi, htl i hi j (by rw [hq, e])⟩
  · obtain ⟨j, hj⟩ := List.getElem?_of_mem (hmem i hi)
    exact ⟨j, (List.getElem?_eq_some_iff.mp hj).1, htl i hi j hj⟩
  · obtain ⟨q, hq⟩ : ∃ q, Ts[i]? = some q := ⟨_, List.getElem?_eq_getElem hi⟩
    obtain ⟨q', hq'⟩ : ∃ q, Ts[j]? = some q := ⟨_, List.getElem?_eq_getElem hj⟩
    obtain ⟨i1, hi1, e1⟩ := b3 q (List.mem_of_getElem? hq)
    obtain ⟨j1, hj1, e2⟩ := b3 q' (List.mem_of_getElem? hq')
    obtain ⟨u, u1, u2, u3⟩ := htk i1 hi1
    obtain ⟨v, v1, v2, v3⟩ := htk j1 hj1
    have hn : mm_nrm (w_rl f i1) = mm_nrm (w_rl f j1) := by rw [← htl i1 hi1 i (by rw [hq, e1]), ← htl j1 hj1 j (by rw [hq', e2]), he]
    have huv : ∀ k, k < 9 → u k = v k := fun k hk => by
      have h9 := u3 k hk
      rw [hn, v3 k hk] at h9
      have := u1 k hk; have := v1 k hk
      exact (mm_sub1 (by omega) (by omega) h9).symm
    have eq9 : q = q' := by
      rw [e1, e2, u2, v2, mm_kn_sum, mm_kn_sum, huv 0 (by decide), huv 1 (by decide), huv 2 (by decide), huv 3 (by decide), huv 4 (by decide), huv 5 (by decide), huv 6 (by decide), huv 7 (by decide), huv 8 (by decide)]
    exact w_nd hth.2 hq (by rw [eq9]; exact hq')
end WG
