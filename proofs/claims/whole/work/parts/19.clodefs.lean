/-! ===== operators and their closing ===== -/
theorem x_ga_at {w : Nat} (Ls : List (List Int32)) (F : Nat → Int32) {i j : Nat} {l : List Int32} (hw : j < w) (h : Ls[i]? = some l) : x_ga w Ls F (w * i + j) = l.getD j 0 := by
  unfold x_ga
  have h1 : (w * i + j) / w = i := by
    rw [Nat.mul_add_div (by omega), Nat.div_eq_of_lt hw, Nat.add_zero]
  have h2 : (w * i + j) % w = j := by
    rw [Nat.mul_add_mod, Nat.mod_eq_of_lt hw]
  rw [h1, h2, h]
def x_cl (σ : x_S) (md : Nat) (Ts Ss : List (List Int32)) (f46 f47 : Nat → Int32) : x_S :=
  (fun k => if k = 38 then upd (σ.1 38) 7 (nI md) else if k = 42 then x_ga 9 Ts (σ.1 42) else if k = 43 then x_ga 3 Ss (σ.1 43) else if k = 46 then f46 else if k = 47 then f47 else σ.1 k, σ.2)
section CL
variable (σ : x_S) (md : Nat) (Ts Ss : List (List Int32)) (f46 f47 : Nat → Int32)
theorem x_cl_46 (f : Nat → Int32) : x_ui (x_cl σ md Ts Ss f46 f47) 46 f = x_cl σ md Ts Ss f f47 := by
  refine x_ui_ext rfl (fun j hj => ?_) rfl
  simp [x_cl, hj]
theorem x_cl_47 (f : Nat → Int32) : x_ui (x_cl σ md Ts Ss f46 f47) 47 f = x_cl σ md Ts Ss f46 f := by
  refine x_ui_ext rfl (fun j hj => ?_) rfl
  simp [x_cl, hj]
theorem x_cl_7 (md' : Nat) : x_u (x_cl σ md Ts Ss f46 f47) 38 7 (nI md') = x_cl σ md' Ts Ss f46 f47 := by
  rw [x_u_ui]
  refine x_ui_ext ?_ (fun j hj => ?_) rfl
  · show upd (σ.1 38) 7 (nI md') = upd (upd (σ.1 38) 7 (nI md)) 7 (nI md')
    funext j
    by_cases h : j = 7
    · subst h; rw [pk_us, pk_us]
    · rw [pk_un h, pk_un h, pk_un h]
  · simp [x_cl, hj]
theorem x_cl_start : x_u σ 38 7 (nI md) = x_cl σ md [] [] (σ.1 46) (σ.1 47) := by
  rw [x_u_ui]
  refine x_ui_ext rfl (fun j hj => ?_) rfl
  simp only [x_cl, x_ga_nil, hj, if_false]
  by_cases h1 : j = 42
  · rw [if_pos h1, h1]
  rw [if_neg h1]
  by_cases h2 : j = 43
  · rw [if_pos h2, h2]
  rw [if_neg h2]
  by_cases h3 : j = 46
  · rw [if_pos h3, h3]
  rw [if_neg h3]
  by_cases h4 : j = 47
  · rw [if_pos h4, h4]
  rw [if_neg h4]
theorem x_cl_put (l s : List Int32) (G46 G47 : Nat → Int32) (hl : l.length = 9) (hs : s.length = 3) (hT : Ts.length = md) (hS : Ss.length = md) :
    x_ui (x_ui (x_cl σ md Ts Ss (x_ml l G46) (x_ml s G47)) 42 (va_cpy (x_ml l G46) (x_ga 9 Ts (σ.1 42)) 0 (9 * md) 9)) 43 (va_cpy (x_ml s G47) (x_ga 3 Ss (σ.1 43)) 0 (3 * md) 3) = x_cl σ md (Ts ++ [l]) (Ss ++ [s]) (x_ml l G46) (x_ml s G47) := by
  have e1 : va_cpy (x_ml l G46) (x_ga 9 Ts (σ.1 42)) 0 (9 * md) 9 = x_ga 9 (Ts ++ [l]) (σ.1 42) := by
    rw [← hT]; exact x_ga_app 9 (by decide) Ts _ l hl G46
  have e2 : va_cpy (x_ml s G47) (x_ga 3 Ss (σ.1 43)) 0 (3 * md) 3 = x_ga 3 (Ss ++ [s]) (σ.1 43) := by
    rw [← hS]; exact x_ga_app 3 (by decide) Ss _ s hs G47
  rw [e1, e2]
  refine x_ui_ext rfl (fun j hj => ?_) rfl
  by_cases h : j = 42
  · subst h; rw [x_ui_at]; rfl
  · rw [x_ui_ne _ _ h]; simp [x_cl, hj, h]
end CL
/-- a product's number; and its shift -/
def x_d3 (l G : List Int32) (r c : Nat) : Int32 := nI 0 + l.getD (3 * r) 0 * G.getD c 0 + l.getD (3 * r + 1) 0 * G.getD (3 + c) 0 + l.getD (3 * r + 2) 0 * G.getD (6 + c) 0
def x_mul (l G : List Int32) : List Int32 := [x_d3 l G 0 0, x_d3 l G 0 1, x_d3 l G 0 2, x_d3 l G 1 0, x_d3 l G 1 1, x_d3 l G 1 2, x_d3 l G 2 0, x_d3 l G 2 1, x_d3 l G 2 2]
def x_rem (x y : Int32) : Int32 := x - x / y * y
def x_s3 (l s h : List Int32) (r : Nat) : Int32 := s.getD r 0 + l.getD (3 * r) 0 * h.getD 0 0 + l.getD (3 * r + 1) 0 * h.getD 1 0 + l.getD (3 * r + 2) 0 * h.getD 2 0
def x_md12 (x : Int32) : Int32 := x_rem (x_rem x (nI 12) + nI 12) (nI 12)
def x_mus (l s h : List Int32) : List Int32 := [x_md12 (x_s3 l s h 0), x_md12 (x_s3 l s h 1), x_md12 (x_s3 l s h 2)]
/-- which of two lists is the lesser: -1, 0, 1 -/
def x_lexl : List Int32 → List Int32 → Int32
  | x :: xs, y :: ys => if x = y then x_lexl xs ys else if x < y then -1 else nI 1
  | _, _ => nI 0
theorem x_lexl_eq : ∀ (xs ys : List Int32), xs.length = ys.length → (x_lexl xs ys = nI 0 ↔ xs = ys)
  | [], [], _ => ⟨fun _ => rfl, fun _ => rfl⟩
  | [], _ :: _, h => by simp at h
  | _ :: _, [], h => by simp at h
  | x :: xs, y :: ys, h => by
    have ih := x_lexl_eq xs ys (by simpa using h)
    unfold x_lexl
    by_cases e : x = y
    · rw [if_pos e, ih]
      simp [e]
    · rw [if_neg e]
      constructor
      · intro z
        by_cases e2 : x < y
        · rw [if_pos e2] at z; exact absurd z (by decide)
        · rw [if_neg e2] at z; exact absurd z (by decide)
      · intro z
        exact absurd (by simpa using z : x = y ∧ xs = ys).1 e
theorem x_lexl_drop {l l' : List Int32} {k : Nat} (h : k < l.length) (h' : k < l'.length) : x_lexl (l.drop k) (l'.drop k) = if l.getD k 0 = l'.getD k 0 then x_lexl (l.drop (k + 1)) (l'.drop (k + 1)) else if l.getD k 0 < l'.getD k 0 then -1 else nI 1 := by
  rw [List.drop_eq_getElem_cons h, List.drop_eq_getElem_cons h']
  conv => lhs; unfold x_lexl
  simp [List.getD, h, h']
theorem x_lexl_end {l l' : List Int32} {k : Nat} (h : l.length ≤ k) : x_lexl (l.drop k) (l'.drop k) = nI 0 := by
  rw [List.drop_eq_nil_of_le h]
  unfold x_lexl
  rfl
def x_cmp (l s l' s' : List Int32) : Int32 := if x_lexl l l' = nI 0 then x_lexl s s' else x_lexl l l'
