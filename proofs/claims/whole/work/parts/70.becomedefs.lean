/-! ===== the class: violations; a group out of its maker ===== -/
def z_vio (σ : x_S) (n : Nat) (m : Int32) (i : Nat) : Bool := decide (m.toInt64 * (σ.1 18 i).toInt64 < (σ.1 17 i).toInt64) && z_abs (σ.1 12) n (z_part (σ.1 16 i) 0) (z_part (σ.1 16 i) 1) (z_part (σ.1 16 i) 2)
/-- the row of turns' keys, and their numbers -/
def z_th (f13 f14 : Nat → Int32) (Ts : List Int32) : Prop := (∀ j q, Ts[j]? = some q → f14 j = q ∧ ∀ k, k < 12 → f13 (j * 12 + k) = z_ub (q <<< (nI 12 &&& 31)) k) ∧ Ts.Nodup
theorem z_th_0 (f13 f14 : Nat → Int32) : z_th f13 f14 [] := ⟨fun j q h => (by rw [List.getElem?_nil] at h; cases h), List.nodup_nil⟩
theorem z_th_s {f13 f14 : Nat → Int32} {Ts : List Int32} {q : Int32} (h : z_th f13 f14 Ts) (hq : q ∉ Ts) : z_th (va_cpy (z_ub (q <<< (nI 12 &&& 31))) f13 0 (Ts.length * 12) 12) (upd f14 Ts.length q) (Ts ++ [q]) := by
  refine ⟨fun j x hj => ?_, ?_⟩
  · rcases Nat.lt_trichotomy j Ts.length with h1 | h1 | h1
    · rw [List.getElem?_append_left h1] at hj
      obtain ⟨a, b⟩ := h.1 j x hj
      exact ⟨by rw [pk_un (by omega)]; exact a, fun k hk => by rw [pk_cpy_out (by omega)]; exact b k hk⟩
    · subst h1
      rw [List.getElem?_append_right (Nat.le_refl _), Nat.sub_self] at hj
      have e : q = x := Option.some.inj hj
      subst e
      exact ⟨pk_us, fun k hk => by rw [pk_cpy_in (by omega) (by omega), show 0 + (Ts.length * 12 + k - Ts.length * 12) = k by omega]⟩
    · rw [List.getElem?_eq_none (by rw [List.length_append]; simp; omega)] at hj
      cases hj
  · rw [List.nodup_append]
    refine ⟨h.2, (by simp), fun a ha b hb => ?_⟩
    rw [List.mem_singleton.mp hb]
    exact fun z => hq (by rw [← z]; exact ha)
def z_rk (f : Nat → Int32) (i : Nat) : Int32 := f i >>> (nI 12 &&& 31)
/-- the turn's key of operator i: f11 the keys, f12 the numbers -/
def z_tk (f11 f12 : Nat → Int32) (i : Nat) : Int32 := if z_det f12 (i * 12) < 0 then nI 174762 - z_rk f11 i else z_rk f11 i
def z_nw (f11 : Nat → Int32) (i : Nat) : Prop := i = 0 ∨ ¬ z_rk f11 i = z_rk f11 (i - 1)
/-- the first i operators have been taken over: keys k, numbers f12, turns Ts -/
def z_bc (k f11 f12 : Nat → Int32) (Ts : List Int32) (i : Nat) : Prop :=
  (∀ j, j < i → f11 j = k j ∧ ∀ m, m < 12 → f12 (j * 12 + m) = z_ub (k j) m) ∧ (∀ j, j < i → z_nw f11 j → z_tk f11 f12 j ∈ Ts) ∧ ∀ q ∈ Ts, ∃ j, j < i ∧ q = z_tk f11 f12 j
theorem z_bc_0 (k f11 f12 : Nat → Int32) : z_bc k f11 f12 [] 0 := ⟨fun j h => absurd h (Nat.not_lt_zero j), fun j h => absurd h (Nat.not_lt_zero j), fun q h => absurd h List.not_mem_nil⟩
theorem z_det_c {f g : Nat → Int32} {a : Nat} (h : ∀ m, m < 12 → f (a + m) = g (a + m)) : z_det f a = z_det g a := by
  unfold z_det
  rw [show f a = g a from h 0 (by decide), h 1 (by decide), h 2 (by decide), h 3 (by decide), h 4 (by decide), h 5 (by decide), h 6 (by decide), h 7 (by decide), h 8 (by decide)]
theorem z_bc_s {k f11 f12 : Nat → Int32} {Ts Ts' : List Int32} {i : Nat} (h : z_bc k f11 f12 Ts i)
    (hT : (Ts' = Ts ∧ (¬ z_nw (upd f11 i (k i)) i ∨ z_tk (upd f11 i (k i)) (va_cpy (z_ub (k i)) f12 0 (i * 12) 12) i ∈ Ts)) ∨ (Ts' = Ts ++ [z_tk (upd f11 i (k i)) (va_cpy (z_ub (k i)) f12 0 (i * 12) 12) i])) :
    z_bc k (upd f11 i (k i)) (va_cpy (z_ub (k i)) f12 0 (i * 12) 12) Ts' (i + 1) := by
  have hk : ∀ j, j < i → upd f11 i (k i) j = f11 j := fun j hj => pk_un (by omega)
  have hn : ∀ j m, j < i → m < 12 → va_cpy (z_ub (k i)) f12 0 (i * 12) 12 (j * 12 + m) = f12 (j * 12 + m) := fun j m hj hm => pk_cpy_out (by omega)
  have ht : ∀ j, j < i → z_tk (upd f11 i (k i)) (va_cpy (z_ub (k i)) f12 0 (i * 12) 12) j = z_tk f11 f12 j := fun j hj => by
    unfold z_tk z_rk
    rw [z_det_c (fun m hm => hn j m hj hm), hk j hj]
  have hw : ∀ j, j < i → (z_nw (upd f11 i (k i)) j ↔ z_nw f11 j) := fun j hj => by
    unfold z_nw z_rk
    rcases Nat.eq_zero_or_pos j with h0 | h0
    · subst h0
      exact ⟨fun _ => Or.inl rfl, fun _ => Or.inl rfl⟩
    · rw [hk j hj, hk (j - 1) (by omega)]
  obtain ⟨h1, h2, h3⟩ := h
  refine ⟨fun j hj => ?_, fun j hj hnw => ?_, fun q hq => ?_⟩
  · by_cases e : j = i
    · subst e
      exact ⟨pk_us, fun m hm => by rw [pk_cpy_in (by omega) (by omega), show 0 + (j * 12 + m - j * 12) = m by omega]⟩
    · obtain ⟨a, b⟩ := h1 j (by omega)
      exact ⟨by rw [hk j (by omega)]; exact a, fun m hm => by rw [hn j m (by omega) hm]; exact b m hm⟩
  · by_cases e : j = i
    · subst e
      rcases hT with ⟨e1, h5 | h5⟩ | e1
      · exact absurd hnw h5
      · rw [e1]; exact h5
      · rw [e1]; exact List.mem_append_right _ List.mem_cons_self
    · have h6 := h2 j (by omega) ((hw j (by omega)).mp hnw)
      rw [ht j (by omega)]
      rcases hT with ⟨e1, -⟩ | e1
      · rw [e1]; exact h6
      · rw [e1]; exact List.mem_append_left _ h6
  · have old : q ∈ Ts → ∃ j, j < i + 1 ∧ q = z_tk (upd f11 i (k i)) (va_cpy (z_ub (k i)) f12 0 (i * 12) 12) j := fun z => by
      obtain ⟨j, hj, e⟩ := h3 q z
      exact ⟨j, by omega, by rw [ht j hj]; exact e⟩
    rcases hT with ⟨e1, -⟩ | e1
    · rw [e1] at hq; exact old hq
    · rw [e1] at hq
      rcases List.mem_append.mp hq with h5 | h5
      · exact old h5
      · exact ⟨i, by omega, List.mem_singleton.mp h5⟩
theorem z_mem_at {Ts : List Int32} {q : Int32} (h : ∀ (j : Nat) (x : Int32), Ts[j]? = some x → ¬ x = q) : q ∉ Ts := fun z => by
  obtain ⟨j, hj, e⟩ := List.getElem_of_mem z
  exact h j _ (List.getElem?_eq_getElem hj) e
