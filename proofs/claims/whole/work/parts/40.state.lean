/-! ===== states: one canonical form: fields, whole int cells, whole long cells over a base ===== -/
def x_lkf : List (Nat × Nat × Int32) → Nat → Nat → Option Int32
  | [], _, _ => none
  | (a, b, v) :: r, k, j => cond (Nat.beq k a && Nat.beq j b) (some v) (x_lkf r k j)
def x_lk {α : Type} : List (Nat × α) → Nat → Option α
  | [], _ => none
  | (a, v) :: r, k => cond (Nat.beq k a) (some v) (x_lk r k)
def x_st (σ : x_S) (F : List (Nat × Nat × Int32)) (I : List (Nat × (Nat → Int32))) (G : List (Nat × (Nat → Int64))) : x_S :=
  (fun k => (x_lk I k).getD (fun j => (x_lkf F k j).getD (σ.1 k j)), fun k => (x_lk G k).getD (σ.2 k))
def x_alF : List (Nat × Nat × Int32) → Nat → Nat → Int32 → List (Nat × Nat × Int32)
  | [], k, j, v => [(k, j, v)]
  | (a, b, w) :: r, k, j, v => cond (Nat.beq k a && Nat.beq j b) ((a, b, v) :: r) ((a, b, w) :: x_alF r k j v)
def x_al {α : Type} : List (Nat × α) → Nat → α → List (Nat × α)
  | [], k, v => [(k, v)]
  | (a, w) :: r, k, v => cond (Nat.beq k a) ((a, v) :: r) ((a, w) :: x_al r k v)
theorem x_beq_t {a b : Nat} (h : a = b) : Nat.beq a b = true := by subst h; exact Nat.beq_refl a
theorem x_beq_f {a b : Nat} (h : a ≠ b) : Nat.beq a b = false := by
  cases e : Nat.beq a b with
  | false => rfl
  | true => exact absurd (Nat.eq_of_beq_eq_true e) h
theorem x_lk_al {α : Type} (k : Nat) (v : α) (k' : Nat) : ∀ l : List (Nat × α), x_lk (x_al l k v) k' = cond (Nat.beq k' k) (some v) (x_lk l k')
  | [] => rfl
  | (a, w) :: r => by
    have ih := x_lk_al k v k' r
    by_cases h1 : k = a
    · subst h1
      simp only [x_al, x_beq_t rfl, cond_true]
      by_cases h2 : k' = k
      · simp only [x_lk, x_beq_t h2, cond_true]
      · simp only [x_lk, x_beq_f h2, cond_false]
    · simp only [x_al, x_beq_f h1, cond_false, x_lk]
      by_cases h2 : k' = a
      · subst h2
        simp only [x_beq_t rfl, cond_true]
        rw [x_beq_f (fun z => h1 z.symm)]
        rfl
      · simp only [x_beq_f h2, cond_false]
        exact ih
theorem x_lkf_al (k j : Nat) (v : Int32) (k' j' : Nat) : ∀ l : List (Nat × Nat × Int32), x_lkf (x_alF l k j v) k' j' = cond (Nat.beq k' k && Nat.beq j' j) (some v) (x_lkf l k' j')
  | [] => rfl
  | (a, b, w) :: r => by
    have ih := x_lkf_al k j v k' j' r
    by_cases h1 : k = a ∧ j = b
    · obtain ⟨h1, h2⟩ := h1
      subst h1; subst h2
      simp only [x_alF, x_beq_t rfl, Bool.and_true, cond_true, x_lkf]
      cases Nat.beq k' k && Nat.beq j' j <;> rfl
    · have e : (Nat.beq k a && Nat.beq j b) = false := by
        by_cases h2 : k = a
        · rw [x_beq_f (fun z => h1 ⟨h2, z⟩), Bool.and_false]
        · rw [x_beq_f h2, Bool.false_and]
      simp only [x_alF, e, cond_false, x_lkf]
      by_cases h2 : k' = a ∧ j' = b
      · obtain ⟨h2, h3⟩ := h2
        subst h2; subst h3
        simp only [x_beq_t rfl, Bool.and_true, cond_true]
        have e2 : (Nat.beq k' k && Nat.beq j' j) = false := by
          by_cases h2 : k' = k
          · rw [x_beq_f (fun z => h1 ⟨h2.symm, z.symm⟩), Bool.and_false]
          · rw [x_beq_f h2, Bool.false_and]
        rw [e2]
        rfl
      · have e3 : (Nat.beq k' a && Nat.beq j' b) = false := by
          by_cases h4 : k' = a
          · rw [x_beq_f (fun z => h2 ⟨h4, z⟩), Bool.and_false]
          · rw [x_beq_f h4, Bool.false_and]
        simp only [e3, cond_false]
        exact ih
theorem x_st_ext {s t : x_S} (h1 : ∀ k j, s.1 k j = t.1 k j) (h2 : ∀ k j, s.2 k j = t.2 k j) : s = t :=
  Prod.ext (funext fun k => funext fun j => h1 k j) (funext fun k => funext fun j => h2 k j)
theorem x_u_at (σ : x_S) (k j : Nat) (v : Int32) (k' j' : Nat) : (x_u σ k j v).1 k' j' = cond (Nat.beq k' k && Nat.beq j' j) v (σ.1 k' j') := by
  show va_up σ.1 k (upd (σ.1 k) j v) k' j' = _
  by_cases h : k' = k
  · subst h
    rw [va_up_self, x_beq_t rfl]
    by_cases h2 : j' = j
    · subst h2
      rw [pk_us, x_beq_t rfl]
      rfl
    · rw [pk_un h2, x_beq_f h2]
      rfl
  · rw [va_up_ne _ _ h, x_beq_f h]
    rfl
theorem x_st_u {σ : x_S} {F : List (Nat × Nat × Int32)} {I : List (Nat × (Nat → Int32))} {G : List (Nat × (Nat → Int64))} {k j : Nat} {v : Int32} (h : x_lk I k = none) : x_u (x_st σ F I G) k j v = x_st σ (x_alF F k j v) I G := by
  refine x_st_ext (fun k' j' => ?_) (fun k' j' => rfl)
  rw [x_u_at]
  show cond _ v (((x_lk I k').getD (fun j => (x_lkf F k' j).getD (σ.1 k' j))) j') = ((x_lk I k').getD (fun j9 => (x_lkf (x_alF F k j v) k' j9).getD (σ.1 k' j9))) j'
  by_cases h1 : k' = k
  · subst h1
    rw [h]
    show cond _ v ((x_lkf F k' j').getD (σ.1 k' j')) = (x_lkf (x_alF F k' j v) k' j').getD (σ.1 k' j')
    rw [x_lkf_al]
    cases Nat.beq k' k' && Nat.beq j' j <;> rfl
  · rw [x_beq_f h1]
    show ((x_lk I k').getD (fun j => (x_lkf F k' j).getD (σ.1 k' j))) j' = _
    have e : (fun j => (x_lkf F k' j).getD (σ.1 k' j)) = (fun j9 => (x_lkf (x_alF F k j v) k' j9).getD (σ.1 k' j9)) := by
      funext j9
      rw [x_lkf_al, x_beq_f h1]
      rfl
    rw [e]
theorem x_ui_at2 (σ : x_S) (k : Nat) (f : Nat → Int32) (k' : Nat) : (x_ui σ k f).1 k' = cond (Nat.beq k' k) f (σ.1 k') := by
  by_cases h : k' = k
  · subst h; rw [x_ui_at, x_beq_t rfl]; rfl
  · rw [x_ui_ne _ _ h, x_beq_f h]; rfl
theorem x_st_i {σ : x_S} {F : List (Nat × Nat × Int32)} {I : List (Nat × (Nat → Int32))} {G : List (Nat × (Nat → Int64))} {k : Nat} {f : Nat → Int32} : x_ui (x_st σ F I G) k f = x_st σ F (x_al I k f) G := by
  refine x_st_ext (fun k' j' => ?_) (fun k' j' => rfl)
  rw [x_ui_at2]
  show cond _ f ((x_lk I k').getD (fun j => (x_lkf F k' j).getD (σ.1 k' j))) j' = ((x_lk (x_al I k f) k').getD (fun j9 => (x_lkf F k' j9).getD (σ.1 k' j9))) j'
  rw [x_lk_al]
  cases Nat.beq k' k <;> rfl
theorem x_st_g {σ : x_S} {F : List (Nat × Nat × Int32)} {I : List (Nat × (Nat → Int32))} {G : List (Nat × (Nat → Int64))} {k : Nat} {g : Nat → Int64} : x_ul (x_st σ F I G) k g = x_st σ F I (x_al G k g) := by
  refine x_st_ext (fun k' j' => rfl) (fun k' j' => ?_)
  show va_up (x_st σ F I G).2 k g k' j' = ((x_lk (x_al G k g) k').getD (σ.2 k')) j'
  rw [x_lk_al]
  by_cases h : k' = k
  · subst h; rw [va_up_self, x_beq_t rfl]; rfl
  · rw [va_up_ne _ _ h, x_beq_f h]; rfl
/-- an element of an int cell, of a long cell is set -/
theorem x_st_ua {σ : x_S} {F : List (Nat × Nat × Int32)} {I : List (Nat × (Nat → Int32))} {G : List (Nat × (Nat → Int64))} {k j : Nat} {v : Int32} {f : Nat → Int32} (h : (x_st σ F I G).1 k = f) : x_u (x_st σ F I G) k j v = x_st σ F (x_al I k (upd f j v)) G := by
  rw [x_u_ui, h, x_st_i]
theorem x_st_wa {σ : x_S} {F : List (Nat × Nat × Int32)} {I : List (Nat × (Nat → Int32))} {G : List (Nat × (Nat → Int64))} {k j : Nat} {v : Int64} {f : Nat → Int64} (h : (x_st σ F I G).2 k = f) : x_w (x_st σ F I G) k j v = x_st σ F I (x_al G k (vp_updL f j v)) := by
  have e : x_w (x_st σ F I G) k j v = x_ul (x_st σ F I G) k (vp_updL ((x_st σ F I G).2 k) j v) := rfl
  rw [e, h, x_st_g]
def x_mrF (F : List (Nat × Nat × Int32)) : List (Nat × Nat × Int32) → List (Nat × Nat × Int32)
  | [] => F
  | (k, j, v) :: r => x_alF (x_mrF F r) k j v
def x_mr {α : Type} (I : List (Nat × α)) : List (Nat × α) → List (Nat × α)
  | [] => I
  | (k, v) :: r => x_al (x_mr I r) k v
theorem x_lk_mr {α : Type} (I : List (Nat × α)) (k : Nat) : ∀ J : List (Nat × α), x_lk (x_mr I J) k = match x_lk J k with
    | some v => some v
    | none => x_lk I k
  | [] => rfl
  | (a, w) :: r => by
    show x_lk (x_al (x_mr I r) a w) k = _
    rw [x_lk_al, x_lk_mr I k r]
    show _ = match cond (Nat.beq k a) (some w) (x_lk r k) with
      | some v => some v
      | none => x_lk I k
    cases Nat.beq k a <;> rfl
theorem x_lkf_mr (F : List (Nat × Nat × Int32)) (k j : Nat) : ∀ J : List (Nat × Nat × Int32), x_lkf (x_mrF F J) k j = match x_lkf J k j with
    | some v => some v
    | none => x_lkf F k j
  | [] => rfl
  | (a, b, w) :: r => by
    show x_lkf (x_alF (x_mrF F r) a b w) k j = _
    rw [x_lkf_al, x_lkf_mr F k j r]
    show _ = match cond (Nat.beq k a && Nat.beq j b) (some w) (x_lkf r k j) with
      | some v => some v
      | none => x_lkf F k j
    cases Nat.beq k a && Nat.beq j b <;> rfl
def x_noc (I : List (Nat × (Nat → Int32))) : List (Nat × Nat × Int32) → Bool
  | [] => true
  | (k, _, _) :: r => (x_lk I k).isNone && x_noc I r
theorem x_noc_n {I : List (Nat × (Nat → Int32))} {k j : Nat} {f : Nat → Int32} (hk : x_lk I k = some f) : ∀ F : List (Nat × Nat × Int32), x_noc I F = true → x_lkf F k j = none
  | [], _ => rfl
  | (a, b, v) :: r, h => by
    have h1 := (Bool.and_eq_true _ _).mp (show ((x_lk I a).isNone && x_noc I r) = true from h)
    have ne : k ≠ a := fun z => by
      subst z
      rw [hk] at h1
      exact absurd h1.1 (by simp)
    show cond (Nat.beq k a && Nat.beq j b) (some v) (x_lkf r k j) = none
    rw [x_beq_f ne]
    exact x_noc_n hk r h1.2
theorem x_st_st {σ : x_S} {F F' : List (Nat × Nat × Int32)} {I I' : List (Nat × (Nat → Int32))} {G G' : List (Nat × (Nat → Int64))} (h : x_noc I F' = true) : x_st (x_st σ F I G) F' I' G' = x_st σ (x_mrF F F') (x_mr I I') (x_mr G G') := by
  refine x_st_ext (fun k j => ?_) (fun k j => ?_)
  · show ((x_lk I' k).getD (fun j => (x_lkf F' k j).getD (((x_lk I k).getD (fun j => (x_lkf F k j).getD (σ.1 k j))) j))) j = ((x_lk (x_mr I I') k).getD (fun j => (x_lkf (x_mrF F F') k j).getD (σ.1 k j))) j
    rw [x_lk_mr]
    cases h1 : x_lk I' k with
    | some f => rfl
    | none =>
      cases h2 : x_lk I k with
      | some f =>
        show (x_lkf F' k j).getD (f j) = f j
        rw [x_noc_n h2 F' h]
        rfl
      | none =>
        show (x_lkf F' k j).getD ((x_lkf F k j).getD (σ.1 k j)) = (x_lkf (x_mrF F F') k j).getD (σ.1 k j)
        rw [x_lkf_mr]
        cases x_lkf F' k j <;> rfl
  · show ((x_lk G' k).getD ((x_lk G k).getD (σ.2 k))) j = ((x_lk (x_mr G G') k).getD (σ.2 k)) j
    rw [x_lk_mr]
    cases x_lk G' k <;> rfl
theorem x_st_nil (σ : x_S) : x_st σ [] [] [] = σ := rfl
def x_okF (σ : x_S) : List (Nat × Nat × Int32) → Prop
  | [] => True
  | (k, j, v) :: r => σ.1 k j = v ∧ x_okF σ r
def x_okI (σ : x_S) : List (Nat × (Nat → Int32)) → Prop
  | [] => True
  | (k, f) :: r => σ.1 k = f ∧ x_okI σ r
def x_okG (σ : x_S) : List (Nat × (Nat → Int64)) → Prop
  | [] => True
  | (k, f) :: r => σ.2 k = f ∧ x_okG σ r
theorem x_okF_at {σ : x_S} {k j : Nat} : ∀ {F : List (Nat × Nat × Int32)}, x_okF σ F → (x_lkf F k j).getD (σ.1 k j) = σ.1 k j
  | [], _ => rfl
  | (a, b, v) :: r, h => by
    show (cond (Nat.beq k a && Nat.beq j b) (some v) (x_lkf r k j)).getD _ = _
    by_cases h1 : k = a ∧ j = b
    · obtain ⟨h1, h2⟩ := h1
      subst h1; subst h2
      rw [x_beq_t rfl, x_beq_t rfl]
      exact h.1.symm
    · have e : (Nat.beq k a && Nat.beq j b) = false := by
        by_cases h2 : k = a
        · rw [x_beq_f (fun z => h1 ⟨h2, z⟩), Bool.and_false]
        · rw [x_beq_f h2, Bool.false_and]
      rw [e]
      exact x_okF_at h.2
theorem x_okI_at {σ : x_S} {k : Nat} : ∀ {I : List (Nat × (Nat → Int32))}, x_okI σ I → x_lk I k = none ∨ x_lk I k = some (σ.1 k)
  | [], _ => Or.inl rfl
  | (a, f) :: r, h => by
    show cond (Nat.beq k a) (some f) (x_lk r k) = none ∨ cond (Nat.beq k a) (some f) (x_lk r k) = some (σ.1 k)
    by_cases h1 : k = a
    · subst h1
      rw [x_beq_t rfl]
      exact Or.inr (congrArg some h.1.symm)
    · rw [x_beq_f h1]
      exact x_okI_at h.2
theorem x_okG_at {σ : x_S} {k : Nat} : ∀ {I : List (Nat × (Nat → Int64))}, x_okG σ I → (x_lk I k).getD (σ.2 k) = σ.2 k
  | [], _ => rfl
  | (a, f) :: r, h => by
    show (cond (Nat.beq k a) (some f) (x_lk r k)).getD _ = _
    by_cases h1 : k = a
    · subst h1
      rw [x_beq_t rfl]
      exact h.1.symm
    · rw [x_beq_f h1]
      exact x_okG_at h.2
theorem x_st_in {σ : x_S} {F : List (Nat × Nat × Int32)} {I : List (Nat × (Nat → Int32))} {G : List (Nat × (Nat → Int64))} (hF : x_okF σ F) (hI : x_okI σ I) (hG : x_okG σ G) : σ = x_st σ F I G := by
  refine x_st_ext (fun k j => ?_) (fun k j => ?_)
  · show _ = ((x_lk I k).getD (fun j => (x_lkf F k j).getD (σ.1 k j))) j
    rcases x_okI_at (k := k) hI with h | h
    · rw [h]
      exact (x_okF_at hF).symm
    · rw [h]
      rfl
  · show _ = ((x_lk G k).getD (σ.2 k)) j
    rw [x_okG_at hG]
