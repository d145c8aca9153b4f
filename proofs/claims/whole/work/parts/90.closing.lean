/-! ===== what a closing that ends has made; pairs that make no end ===== -/
theorem mm_cmp0 {p q : x_O} (hp : p.1.length = 9 ∧ p.2.length = 3) (hq : q.1.length = 9 ∧ q.2.length = 3) : x_cmp p.1 p.2 q.1 q.2 = nI 0 ↔ p = q := by
  unfold x_cmp
  constructor
  · intro h
    by_cases h1 : x_lexl p.1 q.1 = nI 0
    · rw [if_pos h1] at h
      exact Prod.ext ((x_lexl_eq _ _ (hp.1.trans hq.1.symm)).mp h1) ((x_lexl_eq _ _ (hp.2.trans hq.2.symm)).mp h)
    · rw [if_neg h1] at h
      exact absurd h h1
  · rintro rfl
    rw [if_pos (x_lexl_self _), x_lexl_self]
theorem mm_inO {p : x_O} {Os : List x_O} (hp : p.1.length = 9 ∧ p.2.length = 3) (hO : x_ok Os) : x_inO p Os = true ↔ p ∈ Os := by
  unfold x_inO
  rw [List.any_eq_true]
  constructor
  · rintro ⟨q, hq, h⟩
    rw [(mm_cmp0 hp (hO q hq)).mp (of_decide_eq_true h)]
    exact hq
  · intro h
    exact ⟨p, h, decide_eq_true ((mm_cmp0 hp hp).mpr rfl)⟩
theorem mm_opm_ok (p q : x_O) : (x_opm p q).1.length = 9 ∧ (x_opm p q).2.length = 3 := ⟨rfl, rfl⟩
/-- the closing that ends: closed; each predicate that steps keep holds of all; no operator twice -/
theorem mm_clo {Gn : List x_O} : ∀ (f i g : Nat) (Os Os' : List x_O), x_clo Gn f i g Os = some Os' → x_ok Os → Os.Nodup → Os.length ≤ 192 →
    (∀ j, j < i → ∀ p, Os[j]? = some p → ∀ q ∈ Gn, x_opm p q ∈ Os) → (∀ p, Os[i]? = some p → ∀ j, j < g → ∀ q, Gn[j]? = some q → x_opm p q ∈ Os) →
    x_ok Os' ∧ Os'.Nodup ∧ Os'.length ≤ 192 ∧ (∀ p ∈ Os, p ∈ Os') ∧ (∀ p ∈ Os', ∀ q ∈ Gn, x_opm p q ∈ Os') ∧ ∀ P : x_O → Prop, (∀ p q, P p → q ∈ Gn → P (x_opm p q)) → (∀ p ∈ Os, P p) → ∀ p ∈ Os', P p
  | 0, i, g, Os, Os', h, _, _, _, _, _ => by cases h
  | f + 1, i, g, Os, Os', h, hok, hnd, hlen, h1, h2 => by
    unfold x_clo at h
    cases hi : Os[i]? with
    | none =>
      rw [hi] at h
      have e : Os = Os' := Option.some.inj h
      subst e
      refine ⟨hok, hnd, hlen, fun _ h => h, fun p hp q hq => ?_, fun P _ h3 => h3⟩
      obtain ⟨j, hj⟩ := List.getElem?_of_mem hp
      have hlt : j < i := by
        have h4 := (List.getElem?_eq_some_iff.mp hj).1
        have h5 := List.getElem?_eq_none_iff.mp hi
        omega
      exact h1 j hlt p hj q hq
    | some p =>
      rw [hi] at h
      dsimp only at h
      cases hg : Gn[g]? with
      | none =>
        rw [hg] at h
        dsimp only at h
        refine mm_clo f (i + 1) 0 Os Os' h hok hnd hlen (fun j hj p' hp' q hq => ?_) (fun _ _ j hj => absurd hj (Nat.not_lt_zero j))
        rcases Nat.lt_or_ge j i with h3 | h3
        · exact h1 j h3 p' hp' q hq
        · have e : j = i := by omega
          subst e
          obtain ⟨j', hj'⟩ := List.getElem?_of_mem hq
          have h4 := (List.getElem?_eq_some_iff.mp hj').1
          have h5 := List.getElem?_eq_none_iff.mp hg
          exact h2 p' hp' j' (by omega) q hj'
      | some q =>
        rw [hg] at h
        dsimp only at h
        by_cases hin : x_inO (x_opm p q) Os = true
        · rw [if_pos hin] at h
          refine mm_clo f i (g + 1) Os Os' h hok hnd hlen h1 (fun p' hp' j hj q' hq' => ?_)
          rcases Nat.lt_or_ge j g with h3 | h3
          · exact h2 p' hp' j h3 q' hq'
          · have e : j = g := by omega
            subst e
            have e1 : p = p' := Option.some.inj (hi.symm.trans hp')
            have e2 : q = q' := Option.some.inj (hg.symm.trans hq')
            rw [← e1, ← e2]
            exact (mm_inO (mm_opm_ok p q) hok).mp hin
        · rw [if_neg hin] at h
          by_cases h9 : Os.length = 192
          · rw [if_pos h9] at h
            cases h
          · rw [if_neg h9] at h
            have hi' := (List.getElem?_eq_some_iff.mp hi).1
            have hnin : x_opm p q ∉ Os := fun z => hin ((mm_inO (mm_opm_ok p q) hok).mpr z)
            have old : ∀ j, j ≤ i → ∀ p', (Os ++ [x_opm p q])[j]? = some p' → Os[j]? = some p' := fun j hj p' hp' => by
              rwa [List.getElem?_append_left (by omega)] at hp'
            obtain ⟨a1, a2, a3, a4, a5, a6⟩ := mm_clo f i (g + 1) (Os ++ [x_opm p q]) Os' h (x_ok_app hok (mm_opm_ok p q)) (List.nodup_append.mpr ⟨hnd, by simp, fun a ha b hb => by rw [List.mem_singleton.mp hb]; exact fun z => hnin (z ▸ ha)⟩) (by rw [List.length_append]; simp; omega)
              (fun j hj p' hp' q' hq' => List.mem_append_left _ (h1 j hj p' (old j (by omega) p' hp') q' hq')) (fun p' hp' j hj q' hq' => by
                have hp2 := old i (Nat.le_refl i) p' hp'
                rcases Nat.lt_or_ge j g with h3 | h3
                · exact List.mem_append_left _ (h2 p' hp2 j h3 q' hq')
                · have e : j = g := by omega
                  subst e
                  have e1 : p = p' := Option.some.inj (hi.symm.trans hp2)
                  have e2 : q = q' := Option.some.inj (hg.symm.trans hq')
                  rw [← e1, ← e2]
                  exact List.mem_append_right _ List.mem_cons_self)
            refine ⟨a1, a2, a3, fun z hz => a4 z (List.mem_append_left _ hz), a5, fun P hs h0 => a6 P hs (fun z hz => ?_)⟩
            rcases List.mem_append.mp hz with hz | hz
            · exact h0 z hz
            · rw [List.mem_singleton.mp hz]
              exact hs p q (h0 p (List.mem_of_getElem? hi)) (List.mem_of_getElem? hg)
theorem mm_close {Gn Os : List x_O} (h : x_close Gn = some Os) : x_ok Os ∧ Os.Nodup ∧ Os.length ≤ 192 ∧ x_id ∈ Os ∧ (∀ p ∈ Os, ∀ q ∈ Gn, x_opm p q ∈ Os) ∧ ∀ P : x_O → Prop, (∀ p q, P p → q ∈ Gn → P (x_opm p q)) → P x_id → ∀ p ∈ Os, P p := by
  obtain ⟨a1, a2, a3, a4, a5, a6⟩ := mm_clo 1940 0 0 [x_id] Os h (fun q hq => by rw [List.mem_singleton.mp hq]; exact ⟨rfl, rfl⟩) (by simp) (by decide) (fun j hj => absurd hj (Nat.not_lt_zero j)) (fun _ _ j hj => absurd hj (Nat.not_lt_zero j))
  exact ⟨a1, a2, a3, a4 _ List.mem_cons_self, a5, fun P hs h0 => a6 P hs (fun z hz => by rw [List.mem_singleton.mp hz]; exact h0)⟩
/-! pairs -/
def mm_it (w : List Int32) (v : mm_V) : Nat → mm_V
  | 0 => v
  | n + 1 => mm_va (mm_it w v n) w
theorem mm_it_8 (w : List Int32) (v : mm_V) : ∀ n, mm_t8 (mm_it w v (n + 1)) = mm_wa (w.map mm_n8) (mm_t8 (mm_it w v n)) := fun n => mm_va_8 _ _
theorem mm_run_ne {w : List Int32} {v : mm_V} : ∀ (n k : Nat), mm_run (w.map mm_n8) (mm_t8 v) n (mm_t8 (mm_it w v k)) = true → ∀ j, j < n → mm_it w v (k + 1 + j) ≠ v
  | 0, k, _, j, hj => absurd hj (Nat.not_lt_zero j)
  | n + 1, k, h, j, hj => by
    unfold mm_run at h
    rw [Bool.and_eq_true] at h
    rw [← mm_it_8] at h
    rcases Nat.eq_zero_or_pos j with h0 | h0
    · subst h0
      intro z
      rw [show k + 1 + 0 = k + 1 from rfl] at z
      have h1 := h.1
      rw [z] at h1
      simp [Nat.beq_refl] at h1
    · have := mm_run_ne n (k + 1) h.2 (j - 1) (by omega)
      rwa [show k + 1 + 1 + (j - 1) = k + 1 + j by omega] at this
theorem mm_inf_ne {w : List Int32} (h : mm_inf w = true) : ∃ v : mm_V, ∀ n, 0 < n → n ≤ 192 → mm_it w v n ≠ v := by
  have key : ∀ v : mm_V, mm_inf1 w (mm_t8 v) = true → ∀ n, 0 < n → n ≤ 192 → mm_it w v n ≠ v := fun v hv n h1 h2 => by
    have := mm_run_ne (w := w) (v := v) 192 0 hv (n - 1) (by omega)
    rwa [show 0 + 1 + (n - 1) = n by omega] at this
  unfold mm_inf at h
  rw [Bool.or_eq_true, Bool.or_eq_true] at h
  rcases h with h | h | h
  · exact ⟨(1, 0, 0), key (1, 0, 0) h⟩
  · exact ⟨(0, 1, 0), key (0, 1, 0) h⟩
  · exact ⟨(0, 0, 1), key (0, 0, 1) h⟩
theorem mm_inv : mm_S.all (fun a => x_mul a (mm_p11 a) == x_one) = true := by decide +kernel
theorem mm_cancel {a : List Int32} (ha : a ∈ mm_S) {x y : mm_V} (h : mm_va x a = mm_va y a) : x = y := by
  have h1 := List.all_eq_true.mp mm_inv a ha
  have h2 : x_mul a (mm_p11 a) = x_one := eq_of_beq h1
  have h3 := congrArg (fun z => mm_va z (mm_p11 a)) h
  simp only [mm_va_mul, h2, mm_va_one] at h3
  exact h3
theorem mm_it_cancel {w : List Int32} (hc : ∀ x y : mm_V, mm_va x w = mm_va y w → x = y) (v : mm_V) : ∀ i j, mm_it w v i = mm_it w v (i + j) → mm_it w v j = v
  | 0, j, h => by rw [Nat.zero_add] at h; exact h.symm
  | i + 1, j, h => by
    rw [show i + 1 + j = (i + j) + 1 by omega] at h
    exact mm_it_cancel hc v i j (hc _ _ h)
/-- a list of at most 192 vectors can't hold all these -/
theorem mm_pig {w : List Int32} {v : mm_V} {L : List mm_V} (hL : L.length ≤ 192) (hin : ∀ n, mm_it w v n ∈ L) (hc : ∀ x y : mm_V, mm_va x w = mm_va y w → x = y) (hne : ∀ n, 0 < n → n ≤ 192 → mm_it w v n ≠ v) : False := by
  have hnd : ((List.range 193).map (mm_it w v)).Nodup := by
    rw [List.Nodup, List.pairwise_map]
    refine List.Pairwise.imp_of_mem ?_ List.pairwise_lt_range
    intro a b ha hb hab z
    have hb' := List.mem_range.mp hb
    have h1 := mm_it_cancel hc v a (b - a) (by rw [show a + (b - a) = b by omega]; exact z)
    exact hne (b - a) (by omega) (by omega) h1
  have h2 := List.Nodup.length_le_of_subset hnd (l₂ := L) (fun z hz => by
    obtain ⟨n, -, rfl⟩ := List.mem_map.mp hz
    exact hin n)
  rw [List.length_map, List.length_range] at h2
  omega
theorem mm_no_end {Gn : List x_O} {q1 q2 : x_O} (h1 : q1 ∈ Gn) (h2 : q2 ∈ Gn) (s1 : q1.1 ∈ mm_S) (s2 : q2.1 ∈ mm_S) (hb : mm_badp q1.1 q2.1 = true) : x_close Gn = none := by
  cases hcl : x_close Gn with
  | none => rfl
  | some Os =>
    exfalso
    obtain ⟨-, -, hlen, hid, hst, -⟩ := mm_close hcl
    have key : ∀ w : List Int32, (∀ x y : mm_V, mm_va x w = mm_va y w → x = y) → (∀ p ∈ Os, ∃ p' ∈ Os, p'.1 = x_mul p.1 w) → mm_inf w = true → False := by
      intro w hc hw hi
      obtain ⟨v, hv⟩ := mm_inf_ne hi
      have hall : ∀ n, ∃ p ∈ Os, mm_va v p.1 = mm_it w v n := by
        intro n
        induction n with
        | zero => exact ⟨x_id, hid, mm_va_one v⟩
        | succ n ih =>
          obtain ⟨p, hp, e⟩ := ih
          obtain ⟨p', hp', e'⟩ := hw p hp
          exact ⟨p', hp', by rw [e', ← mm_va_mul, e]; rfl⟩
      refine mm_pig (w := w) (v := v) (L := Os.map (fun p => mm_va v p.1)) (by rw [List.length_map]; exact hlen) (fun n => ?_) hc hv
      obtain ⟨p, hp, e⟩ := hall n
      exact List.mem_map.mpr ⟨p, hp, e⟩
    unfold mm_badp at hb
    rw [Bool.or_eq_true] at hb
    rcases hb with hb | hb
    · refine key _ (fun x y h => ?_) (fun p hp => ⟨_, hst _ (hst p hp q1 h1) q2 h2, mm_assoc _ _ _⟩) hb
      rw [← mm_va_mul, ← mm_va_mul] at h
      exact mm_cancel s1 (mm_cancel s2 h)
    · refine key _ (fun x y h => ?_) (fun p hp => ⟨_, hst _ (hst _ (hst p hp q1 h1) q1 h1) q2 h2, by show x_mul (x_mul (x_mul p.1 q1.1) q1.1) q2.1 = _; rw [mm_assoc, mm_assoc, mm_assoc]⟩) hb
      rw [← mm_va_mul, ← mm_va_mul, ← mm_va_mul, ← mm_va_mul] at h
      exact mm_cancel s1 (mm_cancel s1 (mm_cancel s2 h))
theorem mm_rest : mm_S.all (fun s => mm_X1.elem s || (mm_X2.elem s || (mm_X3.elem s || mm_M0.elem s))) = true := by decide +kernel
theorem mm_XS : (mm_X1.all (fun a => mm_S.elem a) && (mm_X2.all (fun a => mm_S.elem a) && mm_X3.all (fun a => mm_S.elem a))) = true := by decide +kernel
/-- generators of symbols: all in one finite group, or no end -/
theorem mm_dich {Gn : List x_O} (hS : ∀ q ∈ Gn, q.1 ∈ mm_S) : (∃ M ∈ mm_Ms, ∀ q ∈ Gn, q.1 ∈ M) ∨ x_close Gn = none := by
  have one : ∀ (X M : List (List Int32)), M ∈ mm_Ms → X.all (fun a => mm_S.all (fun b => M.elem b || mm_badp a b)) = true → (∃ q ∈ Gn, q.1 ∈ X) → (∃ M ∈ mm_Ms, ∀ q ∈ Gn, q.1 ∈ M) ∨ x_close Gn = none := by
    intro X M hM hX ⟨q, hq, hqX⟩
    by_cases hall : ∀ p ∈ Gn, p.1 ∈ M
    · exact Or.inl ⟨M, hM, hall⟩
    · obtain ⟨p, hp⟩ := Classical.not_forall.mp hall
      obtain ⟨hp1, hp2⟩ := Classical.not_imp.mp hp
      have h3 := List.all_eq_true.mp (List.all_eq_true.mp hX q.1 hqX) p.1 (hS p hp1)
      rw [Bool.or_eq_true] at h3
      rcases h3 with h3 | h3
      · exact absurd (List.elem_iff.mp h3) hp2
      · exact Or.inr (mm_no_end hq hp1 (hS q hq) (hS p hp1) h3)
  by_cases h1 : ∃ q ∈ Gn, q.1 ∈ mm_X1
  · exact one mm_X1 mm_M1 (by simp [mm_Ms]) mm_bad1 h1
  by_cases h2 : ∃ q ∈ Gn, q.1 ∈ mm_X2
  · exact one mm_X2 mm_M2 (by simp [mm_Ms]) mm_bad2 h2
  by_cases h3 : ∃ q ∈ Gn, q.1 ∈ mm_X3
  · exact one mm_X3 mm_M3 (by simp [mm_Ms]) mm_bad3 h3
  refine Or.inl ⟨mm_M0, by simp [mm_Ms], fun q hq => ?_⟩
  have h4 := List.all_eq_true.mp mm_rest q.1 (hS q hq)
  simp only [Bool.or_eq_true, List.elem_iff] at h4
  rcases h4 with h4 | h4 | h4 | h4
  · exact absurd ⟨q, hq, h4⟩ h1
  · exact absurd ⟨q, hq, h4⟩ h2
  · exact absurd ⟨q, hq, h4⟩ h3
  · exact h4
