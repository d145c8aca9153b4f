/-! ===== the class's rows of a file ===== -/
theorem z_row_f {b : Nat → Int32} {t a j : Nat} (hj : j < 3) (h : ∀ i, i < j → (x_idx b t (a + i * 4)).1 = true) (h2 : (x_idx b t (a + j * 4)).1 = false) : x_row b t a = (false, (x_idx b t (a + j * 4)).2.1) := by
  unfold x_row
  rcases (show j = 0 ∨ j = 1 ∨ j = 2 by omega) with e | e | e
  · subst e
    have h2' : (x_idx b t a).1 = false := h2
    rw [if_neg (by rw [h2']; decide)]
    rfl
  · subst e
    have h0 : (x_idx b t a).1 = true := h 0 (by decide)
    have h2' : (x_idx b t (a + 4)).1 = false := h2
    rw [if_pos h0, if_neg (by rw [h2']; decide)]
  · subst e
    have h0 : (x_idx b t a).1 = true := h 0 (by decide)
    have h1 : (x_idx b t (a + 4)).1 = true := h 1 (by decide)
    have h2' : (x_idx b t (a + 8)).1 = false := h2
    rw [if_pos h0, if_pos h1, if_neg (by rw [h2']; decide)]
theorem z_row_3 {b : Nat → Int32} {t a : Nat} (h : ∀ i, i < 3 → (x_idx b t (a + i * 4)).1 = true) : x_row b t a = if (x_hun b t true (a + 12)).1 = true then (if (x_hun b t false (a + 20)).1 = true then (true, a + 28) else (false, (x_hun b t false (a + 20)).2.1)) else (false, (x_hun b t true (a + 12)).2.1) := by
  have h0 : (x_idx b t a).1 = true := h 0 (by decide)
  have h1 : (x_idx b t (a + 4)).1 = true := h 1 (by decide)
  have h2 : (x_idx b t (a + 8)).1 = true := h 2 (by decide)
  unfold x_row
  rw [if_pos h0, if_pos h1, if_pos h2]
theorem z_fl_e0 {b : Nat → Int32} {t a n : Nat} {en : Bool} {A : x_A5} : ∀ (f : Nat), t ≤ a → x_flf b t f a n en A = (true, a, n, A)
  | 0, _ => rfl
  | _ + 1, h => z_fl_end h
/-- alike but for where a good reading ended -/
def z_eqf (X Y : Bool × Nat × Nat × x_A5) : Prop := X.1 = Y.1 ∧ (X.1 = false → X.2.1 = Y.2.1) ∧ X.2.2 = Y.2.2
theorem z_eqf_rf (X : Bool × Nat × Nat × x_A5) : z_eqf X X := ⟨rfl, fun _ => rfl, rfl⟩
theorem z_eqf_f {X Y : Bool × Nat × Nat × x_A5} {a n : Nat} {A : x_A5} (h : z_eqf X Y) (e : X = (false, a, n, A)) : Y.1 = false ∧ Y.2.1 = a ∧ Y.2.2.1 = n ∧ Y.2.2.2 = A := by
  subst e
  obtain ⟨h1, h2, h3⟩ := h
  exact ⟨h1.symm, (h2 rfl).symm, by rw [← h3], by rw [← h3]⟩
theorem z_eqf_t {X Y : Bool × Nat × Nat × x_A5} {a n : Nat} {A : x_A5} (h : z_eqf X Y) (e : X = (true, a, n, A)) : Y.1 = true ∧ Y.2.2.1 = n ∧ Y.2.2.2 = A := by
  subst e
  obtain ⟨h1, h2, h3⟩ := h
  exact ⟨h1.symm, by rw [← h3], by rw [← h3]⟩
theorem z_eqf_e {X Y Z : Bool × Nat × Nat × x_A5} (h : z_eqf X Y) (e : X = Z) : z_eqf Z Y := by rw [← e]; exact h
theorem z_eqf_a {Y : Bool × Nat × Nat × x_A5} {a a' n : Nat} {A : x_A5} (h : z_eqf (true, a, n, A) Y) : z_eqf (true, a', n, A) Y := ⟨h.1, fun z => (by cases z), h.2.2⟩
theorem z_rzt {b : Nat → Int32} {t a : Nat} (h0 : x_iv b t a = 0) (h1 : x_iv b t (a + 4) = 0) (h2 : x_iv b t (a + 8) = 0) : x_rz b t a = true := by
  unfold x_rz
  rw [decide_eq_true h0, decide_eq_true h1, decide_eq_true h2]
  rfl
theorem z_rzf {b : Nat → Int32} {t a : Nat} (h : ¬ x_iv b t a = 0 ∨ ¬ x_iv b t (a + 4) = 0 ∨ ¬ x_iv b t (a + 8) = 0) : x_rz b t a = false := by
  unfold x_rz
  rcases h with h | h | h
  · rw [decide_eq_false h]; rfl
  · rw [decide_eq_false h]; simp
  · rw [decide_eq_false h]; simp
theorem z_g3 {b : Nat → Int32} {t a : Nat} {g : Nat → Int32} (h : ∀ i, i < 3 → g i = x_iv b t (a + i * 4)) : g 0 = x_iv b t a ∧ g 1 = x_iv b t (a + 4) ∧ g 2 = x_iv b t (a + 8) := ⟨h 0 (by decide), h 1 (by decide), h 2 (by decide)⟩
