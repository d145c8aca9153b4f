/-! ===== a whole symbol ===== -/
def x_syl (b : Nat → Int32) (t : Nat) : Nat → Nat → Nat → Nat → Nat → Nat → List (List Int32) → List (List Int32) → Bool × Nat × List (List Int32) × List (List Int32)
  | 0, _, a, _, _, _, Gt, Gs => (false, a, Gt, Gs)
  | f + 1, k, a, su, fi, be, Gt, Gs =>
    if 0 < k ∧ a = t then (true, a, Gt, Gs)
    else if ¬ x_lookv b t a = nI 32 then (false, a, Gt, Gs)
    else if 0 < k ∧ x_blank b t a = t then (true, x_blank b t a, Gt, Gs)
    else if k = 4 then (false, x_blank b t a, Gt, Gs)
    else if x_mok b t (x_blank b t a) su fi = true then
      x_syl b t f (k + 1) (x_msf b t (x_blank b t a) su fi).1 (if 1 < x_mn b t (x_blank b t a) then su + 1 else su) (if 1 < x_mn b t (x_blank b t a) ∧ su = 0 then x_mn b t (x_blank b t a) else fi) (if 1 < x_mn b t (x_blank b t a) ∧ x_man b t (x_blank b t a) su fi < 3 then x_man b t (x_blank b t a) su fi else be) (Gt ++ [x_mrot b t (x_blank b t a) su fi be]) (Gs ++ [[nI (x_msf b t (x_blank b t a) su fi).2.1, nI (x_msf b t (x_blank b t a) su fi).2.2.1, nI (x_msf b t (x_blank b t a) su fi).2.2.2]])
    else (false, x_mfl b t (x_blank b t a), Gt, Gs)
def x_sa0 (b : Nat → Int32) (t : Nat) : Nat := x_ma1 b t (x_blank b t 0)
def x_mone : List Int32 := [-1, nI 0, nI 0, nI 0, -1, nI 0, nI 0, nI 0, -1]
def x_sg0 (b : Nat → Int32) (t : Nat) : List (List Int32) × List (List Int32) := if x_lookv b t (x_blank b t 0) = nI 45 then ([x_mone], [[nI 0, nI 0, nI 0]]) else ([], [])
/-- what is read: whether it is a symbol; where the reading ended; the generators -/
def x_sym (b : Nat → Int32) (t : Nat) : Bool × Nat × List (List Int32) × List (List Int32) := match x_cen (x_lookv b t (x_sa0 b t)) with
  | none => (false, x_sa0 b t, (x_sg0 b t).1, (x_sg0 b t).2)
  | some Cs => x_syl b t 5 0 (x_sa0 b t + 1) 0 0 2 ((x_sg0 b t).1 ++ Cs.map (fun _ => x_one)) ((x_sg0 b t).2 ++ Cs)
theorem x_sf_le {b : Nat → Int32} {t n ax : Nat} : ∀ (k : Nat) (dg : Bool) (a u v w : Nat), a ≤ t → (x_sf b t n ax k dg a u v w).1 ≤ t
  | 0, _, _, _, _, _, h => h
  | k + 1, dg, a, u, v, w, h => by
    unfold x_sf
    by_cases h1 : dg = true ∧ nI 49 ≤ x_lookv b t a ∧ x_lookv b t a < nI (48 + n)
    · rw [if_pos h1]
      have ha : a < t := by
        by_cases ha : a < t
        · exact ha
        · rw [x_lookv_m1 ha] at h1
          exact absurd h1.2.1 (by decide)
      exact x_sf_le k _ _ _ _ _ ha
    · rw [if_neg h1]
      by_cases h2 : (x_l3 (x_lookv b t a)).2.2.2 = true
      · rw [if_pos h2]
        exact x_sf_le k _ _ _ _ _ (x_l3_lt h2)
      · rw [if_neg h2]
        exact h
theorem x_ma1_le {b : Nat → Int32} {t a : Nat} (h : a ≤ t) : x_ma1 b t a ≤ t := by
  unfold x_ma1
  by_cases h1 : x_lookv b t a = nI 45
  · rw [if_pos h1]; exact x_lookv_lt h1 (by decide)
  · rw [if_neg h1]; exact h
theorem x_msf_le {b : Nat → Int32} {t a su fi : Nat} (h : x_mok b t a su fi = true) : (x_msf b t a su fi).1 ≤ t := by
  refine x_sf_le _ _ _ _ _ _ ?_
  unfold x_mok at h
  rw [Bool.and_eq_true] at h
  have h1 := x_isOrd_lt h.1
  unfold x_ma3
  by_cases h2 : x_maw b t a = -1
  · rw [if_pos h2]; exact h1
  · rw [if_neg h2]
    exact x_axAt_lt h2
theorem x_mfl_le {b : Nat → Int32} {t a : Nat} (h : a ≤ t) : x_mfl b t a ≤ t := by
  unfold x_mfl
  by_cases h1 : x_isOrd (x_lookv b t (x_ma1 b t a)) = true
  · rw [if_pos h1]; exact x_isOrd_lt h1
  · rw [if_neg h1]; exact x_ma1_le h
theorem x_cen_len {c : Int32} {Cs : List (List Int32)} (h : x_cen c = some Cs) : Cs.length ≤ 3 := by
  unfold x_cen at h
  repeat' split at h
  all_goals first | (cases h; decide) | (cases h)
theorem x_cen_lt {b : Nat → Int32} {t a : Nat} {Cs : List (List Int32)} (h : x_cen (x_lookv b t a) = some Cs) : a < t := by
  by_cases ha : a < t
  · exact ha
  · rw [x_lookv_m1 ha, show x_cen (-1) = none by decide] at h
    cases h
