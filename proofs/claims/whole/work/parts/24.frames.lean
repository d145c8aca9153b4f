/-! ===== what stays: cells outside ks, fields of the reference outside js, all longs ===== -/
def x_fr (ks js : List Nat) (σ τ : x_S) : Prop := (∀ k, k ∉ ks → k ≠ 38 → τ.1 k = σ.1 k) ∧ (∀ j, j ∉ js → τ.1 38 j = σ.1 38 j) ∧ τ.2 = σ.2
theorem x_fr_refl (ks js : List Nat) (σ : x_S) : x_fr ks js σ σ := ⟨fun _ _ _ => rfl, fun _ _ => rfl, rfl⟩
theorem x_fr.trans {ks js : List Nat} {σ τ υ : x_S} (h1 : x_fr ks js σ τ) (h2 : x_fr ks js τ υ) : x_fr ks js σ υ :=
  ⟨fun k hk h38 => (h2.1 k hk h38).trans (h1.1 k hk h38), fun j hj => (h2.2.1 j hj).trans (h1.2.1 j hj), h2.2.2.trans h1.2.2⟩
theorem x_fr_u {ks js : List Nat} (σ : x_S) {j : Nat} (x : Int32) (hj : j ∈ js) : x_fr ks js σ (x_u σ 38 j x) := by
  refine ⟨fun k _ h38 => va_up_ne _ _ h38, fun i hi => ?_, rfl⟩
  show va_up σ.1 38 (upd (σ.1 38) j x) 38 i = _
  rw [va_up_self]
  exact pk_un (fun h => hi (by rw [h]; exact hj))
theorem x_fr_ui {ks js : List Nat} (σ : x_S) {c : Nat} (f : Nat → Int32) (hc : c ∈ ks) (h38 : c ≠ 38) : x_fr ks js σ (x_ui σ c f) :=
  ⟨fun k hk _ => va_up_ne _ _ (fun h => hk (h ▸ hc)), fun i _ => by show va_up σ.1 c f 38 i = _; rw [va_up_ne _ _ (fun h => h38 h.symm)], rfl⟩
theorem x_fr_ua {ks js : List Nat} (σ : x_S) {c j : Nat} (x : Int32) (hc : c ∈ ks) (h38 : c ≠ 38) : x_fr ks js σ (x_u σ c j x) := x_fr_ui σ _ hc h38
theorem x_fr_pm {ks js : List Nat} (σ : x_S) (a su fi be : Nat) (Gt Gs : List (List Int32)) (f46 f47 : Nat → Int32) (hk : 44 ∈ ks ∧ 45 ∈ ks ∧ 46 ∈ ks ∧ 47 ∈ ks) (hj : 3 ∈ js ∧ 10 ∈ js ∧ 15 ∈ js ∧ 16 ∈ js ∧ 17 ∈ js) : x_fr ks js σ (x_pm σ a su fi be Gt Gs f46 f47) := by
  refine ⟨fun k hk' h38 => ?_, fun j hj' => ?_, rfl⟩
  · have h1 : k ≠ 44 := fun h => hk' (h ▸ hk.1)
    have h2 : k ≠ 45 := fun h => hk' (h ▸ hk.2.1)
    have h3 : k ≠ 46 := fun h => hk' (h ▸ hk.2.2.1)
    have h4 : k ≠ 47 := fun h => hk' (h ▸ hk.2.2.2)
    simp [x_pm, h38, h1, h2, h3, h4]
  · have h1 : j ≠ 3 := fun h => hj' (h ▸ hj.1)
    have h2 : j ≠ 10 := fun h => hj' (h ▸ hj.2.1)
    have h3 : j ≠ 15 := fun h => hj' (h ▸ hj.2.2.1)
    have h4 : j ≠ 16 := fun h => hj' (h ▸ hj.2.2.2.1)
    have h5 : j ≠ 17 := fun h => hj' (h ▸ hj.2.2.2.2)
    show x_pf _ _ _ _ _ _ j = _
    simp [x_pf, h1, h2, h3, h4, h5]
theorem x_fr_cl {ks js : List Nat} (σ : x_S) (md : Nat) (Ts Ss : List (List Int32)) (f46 f47 : Nat → Int32) (hk : 42 ∈ ks ∧ 43 ∈ ks ∧ 46 ∈ ks ∧ 47 ∈ ks) (hj : 7 ∈ js) : x_fr ks js σ (x_cl σ md Ts Ss f46 f47) := by
  refine ⟨fun k hk' h38 => ?_, fun j hj' => ?_, rfl⟩
  · have h1 : k ≠ 42 := fun h => hk' (h ▸ hk.1)
    have h2 : k ≠ 43 := fun h => hk' (h ▸ hk.2.1)
    have h3 : k ≠ 46 := fun h => hk' (h ▸ hk.2.2.1)
    have h4 : k ≠ 47 := fun h => hk' (h ▸ hk.2.2.2)
    simp [x_cl, h38, h1, h2, h3, h4]
  · show upd (σ.1 38) 7 (nI md) j = _
    exact pk_un (fun h => hj' (by rw [h]; exact hj))
theorem x_fr_kp {ks js : List Nat} (σ : x_S) (f40 f41 f46 f47 : Nat → Int32) (hk : 40 ∈ ks ∧ 41 ∈ ks ∧ 46 ∈ ks ∧ 47 ∈ ks) : x_fr ks js σ (x_kp σ f40 f41 f46 f47) := by
  refine ⟨fun k hk' h38 => ?_, fun j hj' => ?_, rfl⟩
  · have h1 : k ≠ 40 := fun h => hk' (h ▸ hk.1)
    have h2 : k ≠ 41 := fun h => hk' (h ▸ hk.2.1)
    have h3 : k ≠ 46 := fun h => hk' (h ▸ hk.2.2.1)
    have h4 : k ≠ 47 := fun h => hk' (h ▸ hk.2.2.2)
    simp [x_kp, h1, h2, h3, h4]
  · simp [x_kp]
theorem x_syl_len {b : Nat → Int32} {t : Nat} : ∀ (f k a su fi be : Nat) (Gt Gs : List (List Int32)), Gs.length = Gt.length → Gt.length ≤ 4 + k → k ≤ 4 →
    (x_syl b t f k a su fi be Gt Gs).2.2.2.length = (x_syl b t f k a su fi be Gt Gs).2.2.1.length ∧ (x_syl b t f k a su fi be Gt Gs).2.2.1.length ≤ 8
  | 0, k, a, su, fi, be, Gt, Gs, h1, h2, h3 => ⟨h1, by show Gt.length ≤ 8; omega⟩
  | f + 1, k, a, su, fi, be, Gt, Gs, h1, h2, h3 => by
    unfold x_syl
    split
    · exact ⟨h1, by show Gt.length ≤ 8; omega⟩
    split
    · exact ⟨h1, by show Gt.length ≤ 8; omega⟩
    split
    · exact ⟨h1, by show Gt.length ≤ 8; omega⟩
    split
    · exact ⟨h1, by show Gt.length ≤ 8; omega⟩
    split
    · exact x_syl_len f (k + 1) _ _ _ _ _ _ (by rw [List.length_append, List.length_append, h1]; rfl) (by rw [List.length_append]; show Gt.length + 1 ≤ _; omega) (by omega)
    · exact ⟨h1, by show Gt.length ≤ 8; omega⟩
theorem x_sg0_len (b : Nat → Int32) (t : Nat) : (x_sg0 b t).2.length = (x_sg0 b t).1.length ∧ (x_sg0 b t).1.length ≤ 1 := by
  unfold x_sg0
  split <;> decide
theorem x_sym_len (b : Nat → Int32) (t : Nat) : (x_sym b t).2.2.2.length = (x_sym b t).2.2.1.length ∧ (x_sym b t).2.2.1.length ≤ 8 := by
  have h0 := x_sg0_len b t
  unfold x_sym
  cases hc : x_cen (x_lookv b t (x_sa0 b t)) with
  | none => exact ⟨h0.1, by show (x_sg0 b t).1.length ≤ 8; omega⟩
  | some Cs =>
    have h3 := x_cen_len hc
    exact x_syl_len 5 0 _ _ _ _ _ _ (by rw [List.length_append, List.length_append, List.length_map, h0.1]) (by rw [List.length_append, List.length_map]; omega) (by decide)
theorem x_syl_le {b : Nat → Int32} {t : Nat} : ∀ (f k a su fi be : Nat) (Gt Gs : List (List Int32)), a ≤ t → (x_syl b t f k a su fi be Gt Gs).2.1 ≤ t
  | 0, k, a, su, fi, be, Gt, Gs, h1 => h1
  | f + 1, k, a, su, fi, be, Gt, Gs, h1 => by
    have hb := x_blank_le b t a h1
    unfold x_syl
    split
    · exact h1
    split
    · exact h1
    split
    · exact hb.2
    split
    · exact hb.2
    split
    · next hm => exact x_syl_le f (k + 1) _ _ _ _ _ _ (x_msf_le hm)
    · exact x_mfl_le hb.2
theorem x_sym_le (b : Nat → Int32) (t : Nat) : (x_sym b t).2.1 ≤ t := by
  have h0 : x_sa0 b t ≤ t := x_ma1_le (x_blank_le b t 0 (Nat.zero_le t)).2
  unfold x_sym
  cases hc : x_cen (x_lookv b t (x_sa0 b t)) with
  | none => exact h0
  | some Cs => exact x_syl_le 5 0 _ _ _ _ _ _ (x_cen_lt hc)
def x_symG (b : Nat → Int32) (t : Nat) : List x_O := (x_sym b t).2.2.1.zip (x_sym b t).2.2.2
theorem x_holdG_pm (σ : x_S) (a su fi be : Nat) (Gt Gs : List (List Int32)) (f46 f47 : Nat → Int32) : x_holdG (x_pm σ a su fi be Gt Gs f46 f47) (Gt.zip Gs) := by
  intro i q hq
  rw [List.getElem?_zip_eq_some] at hq
  refine ⟨fun j hj => ?_, fun j hj => ?_⟩
  · show x_ga 9 _ _ _ = _
    exact x_ga_at _ _ hj hq.1
  · show x_ga 3 _ _ _ = _
    exact x_ga_at _ _ hj hq.2
theorem x_holdG_of {σ τ : x_S} {Gn : List x_O} (h : x_holdG σ Gn) (h4 : τ.1 44 = σ.1 44) (h5 : τ.1 45 = σ.1 45) : x_holdG τ Gn := by
  intro i q hq
  refine ⟨fun j hj => ?_, fun j hj => ?_⟩
  · rw [h4]; exact (h i q hq).1 j hj
  · rw [h5]; exact (h i q hq).2 j hj
