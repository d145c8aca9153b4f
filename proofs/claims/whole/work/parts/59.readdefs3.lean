/-! ===== the class's reading of a symbol, against the reference's ===== -/
section ZSY
variable {b : Nat → Int32} {t f k a su fi be : Nat} {Gt Gs : List (List Int32)}
theorem z_bl_t {b : Nat → Int32} {t : Nat} : x_blank b t t = t := by
  have h := x_blank_le b t t (Nat.le_refl t)
  omega
theorem z_bl_n (h : ¬ x_blank b t a = a) : x_lookv b t a = nI 32 := by
  by_cases h1 : x_lookv b t a = nI 32
  · exact h1
  · exact absurd (x_blank_e h1) h
theorem z_bl_y (h : x_blank b t a = a) : ¬ x_lookv b t a = nI 32 := fun z => by
  have h1 := x_blank_s z
  have h2 := x_lookv_lt z (by decide)
  have h3 := x_blank_le b t (a + 1) h2
  omega
theorem z_syl_end (hk : 0 < k) (ha : a ≤ t) (h : t ≤ x_blank b t a) : x_syl b t (f + 1) k a su fi be Gt Gs = (true, x_blank b t a, Gt, Gs) := by
  have hb := (x_blank_le b t a ha).2
  unfold x_syl
  by_cases h1 : a = t
  · rw [if_pos ⟨hk, h1⟩, h1, z_bl_t]
  · have h2 : x_lookv b t a = nI 32 := z_bl_n (by omega)
    rw [if_neg (fun z => h1 z.2), if_neg (fun z => z h2), if_pos (show 0 < k ∧ x_blank b t a = t from ⟨hk, by omega⟩)]
theorem z_syl_nb (h : x_blank b t a = a) (hk : k = 0 ∨ ¬ a = t) : x_syl b t (f + 1) k a su fi be Gt Gs = (false, a, Gt, Gs) := by
  unfold x_syl
  rw [if_neg (show ¬ (0 < k ∧ a = t) by omega), if_pos (z_bl_y h)]
theorem z_syl_go (h : ¬ x_blank b t a = a) (hk : k = 0 ∨ ¬ x_blank b t a = t) (hk4 : k < 4) : x_syl b t (f + 1) k a su fi be Gt Gs = if x_mok b t (x_blank b t a) su fi = true then
      x_syl b t f (k + 1) (x_msf b t (x_blank b t a) su fi).1 (if 1 < x_mn b t (x_blank b t a) then su + 1 else su) (if 1 < x_mn b t (x_blank b t a) ∧ su = 0 then x_mn b t (x_blank b t a) else fi) (if 1 < x_mn b t (x_blank b t a) ∧ x_man b t (x_blank b t a) su fi < 3 then x_man b t (x_blank b t a) su fi else be) (Gt ++ [x_mrot b t (x_blank b t a) su fi be]) (Gs ++ [[nI (x_msf b t (x_blank b t a) su fi).2.1, nI (x_msf b t (x_blank b t a) su fi).2.2.1, nI (x_msf b t (x_blank b t a) su fi).2.2.2]])
    else (false, x_mfl b t (x_blank b t a), Gt, Gs) := by
  have h2 := z_bl_n h
  have h3 := x_lookv_lt h2 (by decide)
  conv => lhs; unfold x_syl
  rw [if_neg (show ¬ (0 < k ∧ a = t) by omega), if_neg (fun z => z h2), if_neg (show ¬ (0 < k ∧ x_blank b t a = t) by omega), if_neg (show ¬ k = 4 by omega)]
theorem z_syl_4 (ha : a ≤ t) : x_syl b t (f + 1) 4 a su fi be Gt Gs = (decide (t ≤ x_blank b t a), x_blank b t a, Gt, Gs) := by
  by_cases h : t ≤ x_blank b t a
  · rw [z_syl_end (by decide) ha h, decide_eq_true h]
  · rw [decide_eq_false h]
    by_cases h1 : x_blank b t a = a
    · rw [z_syl_nb h1 (Or.inr (by omega)), h1]
    · have h2 := z_bl_n h1
      have h3 := x_lookv_lt h2 (by decide)
      unfold x_syl
      rw [if_neg (show ¬ (0 < 4 ∧ a = t) by omega), if_neg (fun z => z h2), if_neg (show ¬ (0 < 4 ∧ x_blank b t a = t) by omega), if_pos rfl]
end ZSY
theorem z_sym_some {b : Nat → Int32} {t : Nat} {Cs : List (List Int32)} (h : x_cen (x_lookv b t (x_sa0 b t)) = some Cs) : x_sym b t = x_syl b t 5 0 (x_sa0 b t + 1) 0 0 2 ((x_sg0 b t).1 ++ Cs.map (fun _ => x_one)) ((x_sg0 b t).2 ++ Cs) := by
  unfold x_sym
  rw [h]
theorem z_sym_none {b : Nat → Int32} {t : Nat} (h : x_cen (x_lookv b t (x_sa0 b t)) = none) : x_sym b t = (false, x_sa0 b t, (x_sg0 b t).1, (x_sg0 b t).2) := by
  unfold x_sym
  rw [h]
theorem z_mapC (Gn : List x_O) (Cs : List (List Int32)) : (Gn ++ Cs.map (fun s => (x_one, s))).map (fun q => q.1) = Gn.map (fun q => q.1) ++ Cs.map (fun _ => x_one) ∧ (Gn ++ Cs.map (fun s => (x_one, s))).map (fun q => q.2) = Gn.map (fun q => q.2) ++ Cs := by
  rw [List.map_append, List.map_append, List.map_map, List.map_map]
  refine ⟨rfl, ?_⟩
  congr 1
  exact List.map_id Cs
theorem z_symG {b : Nat → Int32} {t : Nat} {Gn : List x_O} {ok : Bool} {p : Nat} (h : x_sym b t = (ok, p, Gn.map (fun q => q.1), Gn.map (fun q => q.2))) : (x_sym b t).1 = ok ∧ (x_sym b t).2.1 = p ∧ Gn = x_symG b t := by
  refine ⟨by rw [h], by rw [h], ?_⟩
  unfold x_symG
  rw [h]
  exact (z_zip Gn).symm
