/-! ===== the closing, as a function ===== -/
abbrev x_O : Type := List Int32 × List Int32
def x_opm (p q : x_O) : x_O := (x_mul p.1 q.1, x_mus p.1 p.2 q.2)
def x_inO (p : x_O) (Os : List x_O) : Bool := Os.any (fun q => decide (x_cmp p.1 p.2 q.1 q.2 = nI 0))
def x_clo (Gn : List x_O) : Nat → Nat → Nat → List x_O → Option (List x_O)
  | 0, _, _, _ => none
  | f + 1, i, g, Os => match Os[i]? with
    | none => some Os
    | some p => match Gn[g]? with
      | none => x_clo Gn f (i + 1) 0 Os
      | some q => if x_inO (x_opm p q) Os = true then x_clo Gn f i (g + 1) Os else if Os.length = 192 then none else x_clo Gn f i (g + 1) (Os ++ [x_opm p q])
def x_id : x_O := (x_one, [nI 0, nI 0, nI 0])
def x_close (Gn : List x_O) : Option (List x_O) := x_clo Gn 1940 0 0 [x_id]
theorem x_close_def (Gn : List x_O) : x_clo Gn 1940 0 0 [x_id] = x_close Gn := rfl
def x_ok (Os : List x_O) : Prop := ∀ q ∈ Os, q.1.length = 9 ∧ q.2.length = 3
theorem x_ok_at {Os : List x_O} (h : x_ok Os) {i : Nat} {q : x_O} (hi : Os[i]? = some q) : q.1.length = 9 ∧ q.2.length = 3 := h q (List.mem_of_getElem? hi)
theorem x_ok_app {Os : List x_O} (h : x_ok Os) {q : x_O} (hq : q.1.length = 9 ∧ q.2.length = 3) : x_ok (Os ++ [q]) := by
  intro z hz
  rcases List.mem_append.mp hz with hz | hz
  · exact h z hz
  · rw [List.mem_singleton.mp hz]; exact hq
theorem x_mul_len (l G : List Int32) : (x_mul l G).length = 9 := rfl
theorem x_mus_len (l s h : List Int32) : (x_mus l s h).length = 3 := rfl
/-- the reference's rows hold the operators Os -/
def x_hold (σ : x_S) (Os : List x_O) : Prop := ∀ (i : Nat) (q : x_O), Os[i]? = some q → (∀ j, j < 9 → σ.1 42 (9 * i + j) = q.1.getD j 0) ∧ ∀ j, j < 3 → σ.1 43 (3 * i + j) = q.2.getD j 0
def x_holdG (σ : x_S) (Gn : List x_O) : Prop := ∀ (i : Nat) (q : x_O), Gn[i]? = some q → (∀ j, j < 9 → σ.1 44 (9 * i + j) = q.1.getD j 0) ∧ ∀ j, j < 3 → σ.1 45 (3 * i + j) = q.2.getD j 0
theorem x_hold_cl (σ : x_S) (md : Nat) (Os : List x_O) (f46 f47 : Nat → Int32) : x_hold (x_cl σ md (Os.map (fun q => q.1)) (Os.map (fun q => q.2)) f46 f47) Os := by
  intro i q hq
  refine ⟨fun j hj => ?_, fun j hj => ?_⟩
  · show x_ga 9 _ _ _ = _
    exact x_ga_at _ _ hj (by rw [List.getElem?_map, hq]; rfl)
  · show x_ga 3 _ _ _ = _
    exact x_ga_at _ _ hj (by rw [List.getElem?_map, hq]; rfl)
theorem x_inO_drop {p : x_O} {Os : List x_O} {i : Nat} {q : x_O} (h : Os[i]? = some q) : x_inO p (Os.drop i) = (decide (x_cmp p.1 p.2 q.1 q.2 = nI 0) || x_inO p (Os.drop (i + 1))) := by
  obtain ⟨hi, rfl⟩ := List.getElem?_eq_some_iff.mp h
  rw [List.drop_eq_getElem_cons hi]
  rfl
theorem x_inO_nil {p : x_O} {Os : List x_O} {i : Nat} (h : Os.length ≤ i) : x_inO p (Os.drop i) = false := by
  rw [List.drop_eq_nil_of_le h]
  rfl
/-! the numbering -/
def x_rank (p : x_O) (Os : List x_O) : Nat := Os.countP (fun q => decide (0 < x_cmp p.1 p.2 q.1 q.2))
theorem x_rank_s {p : x_O} {Os : List x_O} {i : Nat} {q : x_O} (h : Os[i]? = some q) : x_rank p (Os.take (i + 1)) = if 0 < x_cmp p.1 p.2 q.1 q.2 then x_rank p (Os.take i) + 1 else x_rank p (Os.take i) := by
  obtain ⟨hi, rfl⟩ := List.getElem?_eq_some_iff.mp h
  unfold x_rank
  rw [List.take_succ_eq_append_getElem hi, List.countP_append]
  by_cases hc : 0 < x_cmp p.1 p.2 Os[i].1 Os[i].2
  · rw [if_pos hc]; simp [hc]
  · rw [if_neg hc]; simp [hc]
theorem x_rank_le (p : x_O) (Os : List x_O) : x_rank p Os ≤ Os.length := List.countP_le_length
theorem x_rank_lt {p : x_O} {Os : List x_O} (h : p ∈ Os) (hp : ¬ 0 < x_cmp p.1 p.2 p.1 p.2) : x_rank p Os < Os.length := by
  unfold x_rank
  rcases Nat.lt_or_eq_of_le (List.countP_le_length (p := fun q => decide (0 < x_cmp p.1 p.2 q.1 q.2)) (l := Os)) with h1 | h1
  · exact h1
  · have := List.countP_eq_length.mp h1 p h
    exact absurd (by simpa using this) hp
theorem x_lexl_self : ∀ l : List Int32, x_lexl l l = nI 0
  | [] => rfl
  | x :: l => by
    unfold x_lexl
    rw [if_pos rfl]
    exact x_lexl_self l
theorem x_cmp_self (p : x_O) : x_cmp p.1 p.2 p.1 p.2 = nI 0 := by
  unfold x_cmp
  rw [if_pos (x_lexl_self _), x_lexl_self]
def x_pl (l : List Int32) (f : Nat → Int32) (dp : Nat) : Nat → Int32 := fun j => if dp ≤ j ∧ j < dp + l.length then l.getD (j - dp) 0 else f j
theorem x_pl_of {l : List Int32} {w : Nat} (hl : l.length = w) (G f : Nat → Int32) (dp : Nat) : va_cpy (x_ml l G) f 0 dp w = x_pl l f dp := by
  funext j
  unfold x_pl
  by_cases h : dp ≤ j ∧ j < dp + l.length
  · rw [if_pos h, pk_cpy_in h.1 (by omega), Nat.zero_add, x_ml_at _ _ (by omega)]
  · rw [if_neg h, pk_cpy_out (by omega)]
/-- the rows behind keep(): operators by their ranks -/
def x_kt (Os : List x_O) : Nat → (Nat → Int32) → Nat → Int32
  | 0, f => f
  | i + 1, f => match Os[i]? with
    | some q => x_pl q.1 (x_kt Os i f) (9 * x_rank q Os)
    | none => x_kt Os i f
def x_ks (Os : List x_O) : Nat → (Nat → Int32) → Nat → Int32
  | 0, f => f
  | i + 1, f => match Os[i]? with
    | some q => x_pl q.2 (x_ks Os i f) (3 * x_rank q Os)
    | none => x_ks Os i f
def x_kp (σ : x_S) (f40 f41 f46 f47 : Nat → Int32) : x_S :=
  (fun k => if k = 40 then f40 else if k = 41 then f41 else if k = 46 then f46 else if k = 47 then f47 else σ.1 k, σ.2)
section KP
variable (σ : x_S) (f40 f41 f46 f47 f : Nat → Int32)
theorem x_kp_40 : x_ui (x_kp σ f40 f41 f46 f47) 40 f = x_kp σ f f41 f46 f47 := by
  refine x_ui_ext rfl (fun j hj => ?_) rfl
  simp [x_kp, hj]
theorem x_kp_41 : x_ui (x_kp σ f40 f41 f46 f47) 41 f = x_kp σ f40 f f46 f47 := by
  refine x_ui_ext rfl (fun j hj => ?_) rfl
  simp [x_kp, hj]
theorem x_kp_46 : x_ui (x_kp σ f40 f41 f46 f47) 46 f = x_kp σ f40 f41 f f47 := by
  refine x_ui_ext rfl (fun j hj => ?_) rfl
  simp [x_kp, hj]
theorem x_kp_47 : x_ui (x_kp σ f40 f41 f46 f47) 47 f = x_kp σ f40 f41 f46 f := by
  refine x_ui_ext rfl (fun j hj => ?_) rfl
  simp [x_kp, hj]
theorem x_kp_start : σ = x_kp σ (σ.1 40) (σ.1 41) (σ.1 46) (σ.1 47) := by
  refine Prod.ext (funext fun j => ?_) rfl
  unfold x_kp
  simp only []
  by_cases h1 : j = 40
  · rw [if_pos h1, h1]
  rw [if_neg h1]
  by_cases h2 : j = 41
  · rw [if_pos h2, h2]
  rw [if_neg h2]
  by_cases h3 : j = 46
  · rw [if_pos h3, h3]
  rw [if_neg h3]
  by_cases h4 : j = 47
  · rw [if_pos h4, h4]
  rw [if_neg h4]
end KP
/-- a row copied from a place of another one, whose numbers there are a list's -/
theorem x_cpy_ml {w : Nat} {l : List Int32} (hl : l.length = w) (S f : Nat → Int32) (sp : Nat) (h : ∀ j, j < w → S (sp + j) = l.getD j 0) : va_cpy S f sp 0 w = x_ml l f := by
  funext j
  by_cases hj : j < w
  · rw [pk_cpy_in (by omega) (by omega), Nat.sub_zero, h j hj, x_ml_at _ _ (by omega)]
  · rw [pk_cpy_out (by omega)]
    unfold x_ml
    rw [List.getD, List.getElem?_eq_none (by omega)]
    rfl
theorem x_cpy_sp (f g : Nat → Int32) (sp n : Nat) : upd (va_cpy f g sp 0 n) n (f (sp + n)) = va_cpy f g sp 0 (n + 1) := by
  have h := x_cpy_s f g sp 0 n
  rwa [Nat.zero_add] at h
theorem x_cl_44 (σ : x_S) (md : Nat) (Ts Ss : List (List Int32)) (f46 f47 : Nat → Int32) : (x_cl σ md Ts Ss f46 f47).1 44 = σ.1 44 := by
  unfold x_cl
  rfl
theorem x_cl_45 (σ : x_S) (md : Nat) (Ts Ss : List (List Int32)) (f46 f47 : Nat → Int32) : (x_cl σ md Ts Ss f46 f47).1 45 = σ.1 45 := by
  unfold x_cl
  rfl
theorem x_holdG_cl {σ : x_S} {Gn : List x_O} (h : x_holdG σ Gn) (md : Nat) (Ts Ss : List (List Int32)) (f46 f47 : Nat → Int32) : x_holdG (x_cl σ md Ts Ss f46 f47) Gn := by
  intro i q hq
  refine ⟨fun j hj => ?_, fun j hj => ?_⟩
  · rw [x_cl_44]; exact (h i q hq).1 j hj
  · rw [x_cl_45]; exact (h i q hq).2 j hj
theorem x_cl_mul (σ : x_S) (md : Nat) (Ts Ss : List (List Int32)) (f46 f47 : Nat → Int32) (p q : x_O) : x_ui (x_ui (x_cl σ md Ts Ss f46 f47) 46 (x_ml (x_mul p.1 q.1) ((x_cl σ md Ts Ss f46 f47).1 46))) 47 (x_ml (x_mus p.1 p.2 q.2) ((x_cl σ md Ts Ss f46 f47).1 47)) = x_cl σ md Ts Ss (x_ml (x_opm p q).1 f46) (x_ml (x_opm p q).2 f47) := by
  rw [x_cl_46, x_cl_47]
  rfl
theorem x_kt_s {Os : List x_O} {i : Nat} {q : x_O} (h : Os[i]? = some q) (f : Nat → Int32) : x_kt Os (i + 1) f = x_pl q.1 (x_kt Os i f) (9 * x_rank q Os) := by
  conv => lhs; unfold x_kt
  rw [h]
theorem x_ks_s {Os : List x_O} {i : Nat} {q : x_O} (h : Os[i]? = some q) (f : Nat → Int32) : x_ks Os (i + 1) f = x_pl q.2 (x_ks Os i f) (3 * x_rank q Os) := by
  conv => lhs; unfold x_ks
  rw [h]
