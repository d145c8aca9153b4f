/-! ===== one call of both: the same answer, and the invariant again ===== -/
theorem w_I_u {σ : x_S} {κ : Nat} (h : w_I σ κ) (hκ : κ < 512) (q : Int32) : w_I (x_u σ 38 0 q) (κ + 1) := by
  obtain ⟨t, n, c, N, nr, ht, hg, hr, hm, hv, hn, hb, -⟩ := h
  exact ⟨t, n, c, N, nr, ht, hg, hr, hm, hv, hn, by omega, by omega⟩
theorem w_I_w {σ : x_S} {κ : Nat} (h : w_I σ κ) (v : Int64) : w_I (x_w σ 63 0 v) κ := by
  obtain ⟨t, n, c, N, nr, ht, hg, hr, hm, hv, hn, hb, hk⟩ := h
  exact ⟨t, n, c, N, nr, ht, hg, hr, hm, hv, hn, hb, hk⟩
theorem w_out (σ : x_S) (q : Int32) (v : Int64) : (x_u (x_w σ 63 0 v) 38 0 q).2 63 0 = v := rfl
theorem w_box (h k q : Int32) : z_box h k q (nI 127) = x_ixs h k q := rfl
theorem w_ixs {h k q : Int32} (e : x_ixs h k q = true) : mm_ix (h, k, q) := by
  unfold x_ixs x_ix at e
  simp only [Bool.and_eq_true, decide_eq_true_eq] at e
  have f : ∀ x : Int32, (-127 : Int32) ≤ x → x ≤ nI 127 → mm_i1 x := fun x a b => by
    have a' := Int32.le_iff_toInt_le.mp a
    have b' := Int32.le_iff_toInt_le.mp b
    rw [show (-127 : Int32).toInt = -127 from rfl] at a'
    rw [show (nI 127).toInt = 127 from rfl] at b'
    exact ⟨a', b'⟩
  exact ⟨f h e.1.1 e.1.2, f k e.2.1.1 e.2.1.2, f q e.2.2.1 e.2.2.2⟩
theorem x_cd1 (e : String) (r : List String) : x_cd (e :: r) e = 1 := if_pos rfl
theorem x_cd2 {e f : String} (h : f ≠ e) (r : List String) : x_cd (e :: f :: r) f = 2 := by
  show (if f = e then 1 else x_cd (f :: r) f + 1) = 2
  rw [if_neg h, x_cd1]
theorem x_cd3 {e f g : String} (h : g ≠ e) (h2 : g ≠ f) (r : List String) : x_cd (e :: f :: g :: r) g = 3 := by
  show (if g = e then 1 else x_cd (f :: g :: r) g + 1) = 3
  rw [if_neg h, x_cd2 h2]
theorem x_e12 : x_eIAE ≠ x_eISE := by decide
theorem x_e13 : x_eIOB ≠ x_eISE := by decide
theorem x_e23 : x_eIOB ≠ x_eIAE := by decide
theorem x_e32 : x_eIAE ≠ x_eIOB := by decide
theorem w_rq {i : Int32} {n j : Nat} (hj : j < n) (e : i = nI j) : x_rng i n := ⟨j, hj, e⟩
theorem w_nI {a b : Nat} (ha : a < 2 ^ 31) (hb : b < 2 ^ 31) (h : nI a = nI b) : a = b := (nI_eq ha hb).mp h
section PR
variable {l : Launch} {Y : x_Y} {σ : x_S} {κ : Nat}
theorem pr_feed (hl : l.stackTraces = false) (hI : w_I σ κ) (hκ : κ < 512) (p1 p2 p3 p4 p5 : Int32) : ∃ post1 : Option Value → x_S → Prop, x_MH l yL_feed cL_feed 8 (some .int) [(0, 16, 19, 13)] 8 1 Y [.ref 0, .int p1, .int p2, .int p3, .int p4, .int p5, .ref 63] σ post1 ∧ ∀ r τ, post1 r τ → ∃ kq : Nat, kq < 4 ∧ r = some (.int (nI kq)) ∧ ∃ post2 : Option Value → x_S → Prop, x_M l yX12_feed cX12_feed 8 (some .int) 1 Y [.ref 38, .int p1, .int p2, .int p3, .int p4, .int p5] τ post2 ∧ ∀ r2 τ2, post2 r2 τ2 → ∃ b, r2 = some (.int b) ∧ τ2.1 38 0 = nI kq ∧ (kq = 0 → τ2.2 63 0 = b.toInt64) ∧ w_I τ2 (κ + 1) := by
  obtain ⟨t, n, c, N, nr, ht, hg, hr, hm, hv, hn, hb, hk⟩ := id hI
  refine ⟨_, c_L_feed p1 p2 p3 p4 p5 (c_X11_feed l hl Y σ p1 p2 p3 p4 p5 t _ ht.1 rfl ht.2.2.2) (by decide) (fun r τ h => ⟨_, h.2.1⟩) (fun E τ h => h.2.1), ?_⟩
  rintro r τ (⟨v, τ0, ⟨h1, h2, rfl⟩, rfl, rfl⟩ | ⟨E, ⟨h1, rfl, rfl⟩, rfl⟩)
  · cases h2
    refine ⟨0, by decide, rfl, _, c_X12_feed l Y _ p1 p2 p3 p4 p5 t ht.2.1 ht.2.2.2, ?_⟩
    rintro r2 τ2 (⟨g1, rfl, rfl⟩ | ⟨g1, -⟩)
    · refine ⟨_, rfl, rfl, fun _ => rfl, t + 20, n, c, N, nr, ⟨rfl, rfl, ?_, g1⟩, hg, hr, hm, hv, hn, by omega, by omega⟩
      show va_cpy (x_fdb p1 p2 p3 p4 p5) (σ.1 39) 0 t 20 = va_cpy (z_b4 p5) (va_cpy (z_b4 p4) (va_cpy (z_b4 p3) (va_cpy (z_b4 p2) (va_cpy (z_b4 p1) (σ.1 2) 0 t 4) 0 (t + 4) 4) 0 (t + 8) 4) 0 (t + 12) 4) 0 (t + 16) 4
      rw [z_feed, ht.2.2.1]
    · omega
  · refine ⟨1, by decide, by rw [x_cd1], _, c_X12_feed l Y _ p1 p2 p3 p4 p5 t ht.2.1 ht.2.2.2, ?_⟩
    rintro r2 τ2 (⟨g1, -⟩ | ⟨g1, rfl, rfl⟩)
    · omega
    · exact ⟨_, rfl, rfl, fun z => absurd z (by decide), w_I_u hI hκ _⟩
theorem pr_end (hl : l.stackTraces = false) (hI : w_I σ κ) (hκ : κ < 512) (p1 : Int32) : ∃ post1 : Option Value → x_S → Prop, x_MH l yL_end cL_end 3 (some .int) [(0, 5, 8, 19)] 8 1 Y [.ref 0, .int p1] σ post1 ∧ ∀ r τ, post1 r τ → ∃ kq : Nat, kq < 4 ∧ r = some (.int (nI kq)) ∧ ∃ post2 : Option Value → x_S → Prop, x_M l yX12_end cX12_end 2 none 1 Y [.ref 38, .int p1] τ post2 ∧ ∀ r2 τ2, post2 r2 τ2 → r2 = none ∧ τ2.1 38 0 = nI kq ∧ w_I τ2 (κ + 1) := by
  obtain ⟨t, n, c, N, nr, ht, hg, hr, hm, hv, hn, hb, hk⟩ := id hI
  refine ⟨_, c_L_end p1 (c_X11_end l hl Y σ p1 t ht.1 ht.2.2.2) (by decide) (fun r τ h => h.2.1) (fun E τ h => h.2.1), ?_⟩
  rintro r τ (⟨τ0, ⟨⟨j, hj, rfl⟩, -, rfl⟩, rfl, rfl⟩ | ⟨E, ⟨h1, rfl, rfl⟩, rfl⟩)
  · refine ⟨0, by decide, rfl, _, c_X12_end l Y _ (nI j) t ht.2.1 ht.2.2.2, ?_⟩
    rintro r2 τ2 (⟨-, rfl, rfl⟩ | ⟨g1, -⟩)
    · exact ⟨rfl, rfl, j, n, c, N, nr, ⟨rfl, rfl, ht.2.2.1, by have := ht.2.2.2; omega⟩, hg, hr, hm, hv, hn, by omega, by omega⟩
    · exact absurd ⟨j, hj, rfl⟩ g1
  · refine ⟨1, by decide, by rw [x_cd1], _, c_X12_end l Y _ p1 t ht.2.1 ht.2.2.2, ?_⟩
    rintro r2 τ2 (⟨g1, -⟩ | ⟨g1, rfl, rfl⟩)
    · exact absurd g1 h1
    · exact ⟨rfl, rfl, w_I_u hI hκ _⟩
theorem pr_order (hI : w_I σ κ) (hκ : κ < 512) : ∃ post1 : Option Value → x_S → Prop, x_M l yX11_order cX11_order 1 (some .int) 0 Y [.ref 0] σ post1 ∧ ∀ r τ, post1 r τ → ∃ a, r = some (.int a) ∧ ∃ post2 : Option Value → x_S → Prop, x_M l yX12_order cX12_order 1 (some .int) 0 Y [.ref 38] τ post2 ∧ ∀ r2 τ2, post2 r2 τ2 → r2 = some (.int a) ∧ w_I τ2 (κ + 1) := by
  obtain ⟨t, n, c, N, nr, ht, hg, hr, hm, hv, hn, hb, hk⟩ := id hI
  refine ⟨_, c_X11_order l Y σ, ?_⟩
  rintro r τ ⟨rfl, rfl⟩
  refine ⟨_, rfl, _, c_X12_order l Y _, ?_⟩
  rintro r2 τ2 ⟨rfl, rfl⟩
  exact ⟨by rw [hg.1, hg.2.2.1], w_I_u hI hκ _⟩
theorem pr_reflections (hI : w_I σ κ) (hκ : κ < 512) : ∃ post1 : Option Value → x_S → Prop, x_M l yX11_reflections cX11_reflections 1 (some .int) 0 Y [.ref 0] σ post1 ∧ ∀ r τ, post1 r τ → ∃ a, r = some (.int a) ∧ ∃ post2 : Option Value → x_S → Prop, x_M l yX12_reflections cX12_reflections 1 (some .int) 0 Y [.ref 38] τ post2 ∧ ∀ r2 τ2, post2 r2 τ2 → r2 = some (.int a) ∧ w_I τ2 (κ + 1) := by
  obtain ⟨t, n, c, N, nr, ht, hg, hr, hm, hv, hn, hb, hk⟩ := id hI
  refine ⟨_, c_X11_reflections l Y σ, ?_⟩
  rintro r τ ⟨rfl, rfl⟩
  refine ⟨_, rfl, _, c_X12_reflections l Y _, ?_⟩
  rintro r2 τ2 ⟨rfl, rfl⟩
  exact ⟨by rw [hr.1, hr.2.1], w_I_u hI hκ _⟩
theorem pr_rows (hI : w_I σ κ) (hκ : κ < 512) : ∃ post1 : Option Value → x_S → Prop, x_M l yX11_rows cX11_rows 1 (some .int) 0 Y [.ref 0] σ post1 ∧ ∀ r τ, post1 r τ → ∃ a, r = some (.int a) ∧ ∃ post2 : Option Value → x_S → Prop, x_M l yX12_rows cX12_rows 1 (some .int) 0 Y [.ref 38] τ post2 ∧ ∀ r2 τ2, post2 r2 τ2 → r2 = some (.int a) ∧ w_I τ2 (κ + 1) := by
  obtain ⟨t, n, c, N, nr, ht, hg, hr, hm, hv, hn, hb, hk⟩ := id hI
  refine ⟨_, c_X11_rows l Y σ, ?_⟩
  rintro r τ ⟨rfl, rfl⟩
  refine ⟨_, rfl, _, c_X12_rows l Y _, ?_⟩
  rintro r2 τ2 ⟨rfl, rfl⟩
  exact ⟨by rw [hm.1, hm.2.1], w_I_u hI hκ _⟩
theorem pr_drop (hI : w_I σ κ) (hκ : κ < 512) : ∃ post1 : Option Value → x_S → Prop, x_M l yX11_drop cX11_drop 2 (some .int) 3 Y [.ref 0] σ post1 ∧ ∀ r τ, post1 r τ → ∃ a, r = some (.int a) ∧ ∃ post2 : Option Value → x_S → Prop, x_M l yX12_drop cX12_drop 2 (some .int) 0 Y [.ref 38] τ post2 ∧ ∀ r2 τ2, post2 r2 τ2 → r2 = some (.int a) ∧ w_I τ2 (κ + 1) := by
  obtain ⟨t, n, c, N, nr, ht, hg, hr, hm, hv, hn, hb, hk⟩ := id hI
  refine ⟨_, c_X11_drop l Y σ N hr.1, ?_⟩
  rintro r τ ⟨rfl, g31, g33, rfl, z31, z33⟩
  refine ⟨_, rfl, _, c_X12_drop l Y _, ?_⟩
  rintro r2 τ2 ⟨rfl, rfl⟩
  refine ⟨?_, t, n, c, 0, 0, ht, hg, ⟨rfl, rfl, fun j h => absurd h (Nat.not_lt_zero j), fun j h => absurd h (Nat.not_lt_zero j)⟩, ⟨rfl, rfl, w_M_0 (v0 := 0) (v1 := 1) rfl z31 z33⟩, hv, hn, by omega, by omega⟩
  exact congrArg (fun z => some (Value.int z)) hr.2.1
theorem pr_laue (hI : w_I σ κ) (hκ : κ < 512) : ∃ post1 : Option Value → x_S → Prop, x_M l yX11_laue cX11_laue 1 (some .int) 2 Y [.ref 0] σ post1 ∧ ∀ r τ, post1 r τ → ∃ a, r = some (.int a) ∧ ∃ post2 : Option Value → x_S → Prop, x_M l yX12_laue cX12_laue 7 (some .int) 2 Y [.ref 38] τ post2 ∧ ∀ r2 τ2, post2 r2 τ2 → r2 = some (.int a) ∧ w_I τ2 (κ + 1) := by
  obtain ⟨t, n, c, N, nr, ht, hg, hr, hm, hv, hn, hb, hk⟩ := id hI
  obtain ⟨g1, g2, g3, g4, g5, hG⟩ := hg
  refine ⟨_, c_X11_laue l Y σ c g2 (by omega), ?_⟩
  rintro r τ ⟨rfl, rfl⟩
  refine ⟨_, rfl, _, c_X12_laue l Y _ n g3 g4, ?_⟩
  rintro r2 τ2 ⟨rfl, rfl⟩
  refine ⟨?_, w_I_u hI hκ _⟩
  by_cases h0 : n = 0
  · rw [if_pos h0]
    have hc : c = 0 := by omega
    subst hc
    rfl
  · rw [if_neg h0, w_laue hG (by omega)]
theorem pr_plain (hI : w_I σ κ) (hκ : κ < 512) (p1 : Int32) : ∃ post1 : Option Value → x_S → Prop, x_M l yX11_plain cX11_plain 2 (some .int) 2 Y [.ref 0, .int p1] σ post1 ∧ ∀ r τ, post1 r τ → ∃ a, r = some (.int a) ∧ ∃ post2 : Option Value → x_S → Prop, x_M l yX12_plain cX12_plain 6 (some .int) 0 Y [.ref 38, .int p1] τ post2 ∧ ∀ r2 τ2, post2 r2 τ2 → r2 = some (.int a) ∧ w_I τ2 (κ + 1) := by
  obtain ⟨t, n, c, N, nr, ht, hg, hr, hm, hv, hn, hb, hk⟩ := id hI
  obtain ⟨g1, g2, g3, g4, g5, hG⟩ := hg
  refine ⟨_, c_X11_plain l Y σ p1 n g1 g4, ?_⟩
  rintro r τ ⟨rfl, rfl⟩
  refine ⟨_, rfl, _, c_X12_plain l Y _ p1 n g3 g4, ?_⟩
  rintro r2 τ2 ⟨rfl, rfl⟩
  refine ⟨?_, w_I_u hI hκ _⟩
  by_cases h0 : p1 = nI 1 ∨ p1 = -1
  · rw [if_pos h0, if_pos h0]
    rcases h0 with rfl | rfl
    · rw [if_neg (by decide), w_plain hG (Or.inl ⟨rfl, rfl⟩) n (Nat.le_refl n)]
    · rw [if_pos (by decide), w_plain hG (Or.inr ⟨rfl, rfl⟩) n (Nat.le_refl n)]
  · rw [if_neg h0, if_neg h0]
theorem pr_op (hl : l.stackTraces = false) (hI : w_I σ κ) (hκ : κ < 512) (p1 p2 : Int32) : ∃ post1 : Option Value → x_S → Prop, x_MH l yL_op cL_op 5 (some .int) [(0, 10, 13, 25)] 8 1 Y [.ref 0, .int p1, .int p2, .ref 63] σ post1 ∧ ∀ r τ, post1 r τ → ∃ kq : Nat, kq < 4 ∧ r = some (.int (nI kq)) ∧ ∃ post2 : Option Value → x_S → Prop, x_M l yX12_op cX12_op 3 (some .int) 1 Y [.ref 38, .int p1, .int p2] τ post2 ∧ ∀ r2 τ2, post2 r2 τ2 → ∃ b, r2 = some (.int b) ∧ τ2.1 38 0 = nI kq ∧ (kq = 0 → τ2.2 63 0 = b.toInt64) ∧ w_I τ2 (κ + 1) := by
  obtain ⟨t, n, c, N, nr, ht, hg, hr, hm, hv, hn, hb, hk⟩ := id hI
  obtain ⟨g1, g2, g3, g4, g5, hG⟩ := hg
  refine ⟨_, c_L_op p1 p2 (c_X11_op l hl Y σ p1 p2 n g1 g4) (by decide) (fun r τ h => by obtain ⟨_, _, _, _, _, _, h, _⟩ := h; exact ⟨_, h⟩) (fun E τ h => h.2.1), ?_⟩
  rintro r τ (⟨v, τ0, ⟨iq, kq, h1, h2, rfl, rfl, h3, rfl⟩, rfl, rfl⟩ | ⟨E, ⟨h1, rfl, rfl⟩, rfl⟩)
  · cases h3
    refine ⟨0, by decide, rfl, _, c_X12_op l Y _ (nI iq) (nI kq) n g3 g4, ?_⟩
    rintro r2 τ2 (⟨i', k', a1, a2, e1, e2, rfl, rfl⟩ | ⟨g, -⟩)
    · have e1 := w_nI (by omega) (by omega) e1
      have e2 := w_nI (by omega) (by omega) e2
      subst e1; subst e2
      refine ⟨_, rfl, rfl, fun _ => ?_, w_I_u (w_I_w hI _) hκ _⟩
      rw [w_out]
      show _ = (if kq < 9 then τ0.1 40 (9 * iq + kq) else τ0.1 41 (3 * iq + (kq - 9))).toInt64
      by_cases h9 : kq < 9
      · rw [if_pos h9, (hG.1 iq h1).1 kq h9]
      · rw [if_neg h9, ← (hG.1 iq h1).2 (kq - 9) (by omega), show iq * 12 + 9 + (kq - 9) = iq * 12 + kq by omega]
    · exact absurd ⟨⟨iq, h1, rfl⟩, ⟨kq, h2, rfl⟩⟩ g
  · refine ⟨1, by decide, by rw [x_cd1], _, c_X12_op l Y _ p1 p2 n g3 g4, ?_⟩
    rintro r2 τ2 (⟨i', k', a1, a2, rfl, rfl, -⟩ | ⟨-, rfl, rfl⟩)
    · exact absurd ⟨⟨i', a1, rfl⟩, ⟨k', a2, rfl⟩⟩ h1
    · exact ⟨_, rfl, rfl, fun z => absurd z (by decide), w_I_u hI hκ _⟩
theorem pr_sent (hl : l.stackTraces = false) (hI : w_I σ κ) (hκ : κ < 512) (p1 p2 p3 p4 p5 : Int32) : ∃ post1 : Option Value → x_S → Prop, x_MH l yL_sent cL_sent 8 (some .int) [(0, 16, 19, 25), (0, 16, 23, 19)] 8 1 Y [.ref 0, .int p1, .int p2, .int p3, .int p4, .int p5, .ref 63] σ post1 ∧ ∀ r τ, post1 r τ → ∃ kq : Nat, kq < 4 ∧ r = some (.int (nI kq)) ∧ ∃ post2 : Option Value → x_S → Prop, x_M l yX12_sent cX12_sent 6 (some .int) 2 Y [.ref 38, .int p1, .int p2, .int p3, .int p4, .int p5] τ post2 ∧ ∀ r2 τ2, post2 r2 τ2 → ∃ b, r2 = some (.int b) ∧ τ2.1 38 0 = nI kq ∧ (kq = 0 → τ2.2 63 0 = b.toInt64) ∧ w_I τ2 (κ + 1) := by
  obtain ⟨t, n, c, N, nr, ht, hg, hr, hm, hv, hn, hb, hk⟩ := id hI
  obtain ⟨g1, g2, g3, g4, g5, hG⟩ := hg
  refine ⟨_, c_L_sent p1 p2 p3 p4 p5 (c_X11_sent l hl Y σ p1 p2 p3 p4 p5 n g1 g4) (by decide) (fun r τ h => by obtain ⟨_, _, _, _, _, _, _, h, _⟩ := h; exact ⟨_, h⟩) (fun E τ h => by rcases h with ⟨-, h, -⟩ | ⟨-, -, h, -⟩ <;> simp [h]), ?_⟩
  rintro r τ (⟨v, τ0, ⟨iq, wq, h1, h2, rfl, rfl, hbx, h3, rfl⟩, rfl, rfl⟩ | ⟨E, ⟨h1, rfl, rfl⟩ | ⟨h1, hbx, rfl, rfl⟩, rfl⟩)
  · cases h3
    rw [w_box] at hbx
    refine ⟨0, by decide, rfl, _, c_X12_sent l Y _ (nI iq) p2 p3 p4 (nI wq) n g3 g4, ?_⟩
    rintro r2 τ2 (⟨g, -⟩ | ⟨-, g, -⟩ | ⟨i', w', a1, a2, e1, e2, -, rfl, rfl⟩)
    · exact absurd ⟨⟨iq, h1, rfl⟩, ⟨wq, h2, rfl⟩⟩ g
    · rw [hbx] at g; cases g
    · have e1 := w_nI (by omega) (by omega) e1
      have e2 := w_nI (by omega) (by omega) e2
      subst e1; subst e2
      refine ⟨_, rfl, rfl, fun _ => ?_, w_I_u (w_I_w hI _) hκ _⟩
      rw [w_out]
      show (if wq = 3 then z_ph (τ0.1 12) iq p2 p3 p4 else z_sn (τ0.1 12) iq wq p2 p3 p4).toInt64 = (if wq = 3 then x_phs (τ0.1 41) iq p2 p3 p4 else x_snt (τ0.1 40) iq wq p2 p3 p4).toInt64
      by_cases h9 : wq = 3
      · rw [if_pos h9, if_pos h9, w_ph hG h1]
      · rw [if_neg h9, if_neg h9, w_sn hG h1 (by omega)]
  · refine ⟨1, by decide, by rw [x_cd1], _, c_X12_sent l Y _ p1 p2 p3 p4 p5 n g3 g4, ?_⟩
    rintro r2 τ2 (⟨-, rfl, rfl⟩ | ⟨g, -⟩ | ⟨i', w', a1, a2, rfl, rfl, -⟩)
    · exact ⟨_, rfl, rfl, fun z => absurd z (by decide), w_I_u hI hκ _⟩
    · exact absurd g h1
    · exact absurd ⟨⟨i', a1, rfl⟩, ⟨w', a2, rfl⟩⟩ h1
  · rw [w_box] at hbx
    refine ⟨2, by decide, by rw [x_cd2 x_e32], _, c_X12_sent l Y _ p1 p2 p3 p4 p5 n g3 g4, ?_⟩
    rintro r2 τ2 (⟨g, -⟩ | ⟨-, -, rfl, rfl⟩ | ⟨i', w', a1, a2, -, -, g, -⟩)
    · exact absurd h1 g
    · exact ⟨_, rfl, rfl, fun z => absurd z (by decide), w_I_u hI hκ _⟩
    · rw [hbx] at g; cases g
theorem pr_absent (hl : l.stackTraces = false) (hI : w_I σ κ) (hκ : κ < 512) (p1 p2 p3 : Int32) : ∃ post1 : Option Value → x_S → Prop, x_MH l yL_absent cL_absent 6 (some .int) [(0, 12, 15, 13), (0, 12, 19, 19)] 8 2 Y [.ref 0, .int p1, .int p2, .int p3, .ref 63] σ post1 ∧ ∀ r τ, post1 r τ → ∃ kq : Nat, kq < 4 ∧ r = some (.int (nI kq)) ∧ ∃ post2 : Option Value → x_S → Prop, x_M l yX12_absent cX12_absent 4 (some .int) 2 Y [.ref 38, .int p1, .int p2, .int p3] τ post2 ∧ ∀ r2 τ2, post2 r2 τ2 → ∃ b, r2 = some (.int b) ∧ τ2.1 38 0 = nI kq ∧ (kq = 0 → τ2.2 63 0 = b.toInt64) ∧ w_I τ2 (κ + 1) := by
  obtain ⟨t, n, c, N, nr, ht, hg, hr, hm, hv, hn, hb, hk⟩ := id hI
  obtain ⟨g1, g2, g3, g4, g5, hG⟩ := hg
  refine ⟨_, c_L_absent p1 p2 p3 (c_X11_absent l hl Y σ p1 p2 p3 n g1 g4) (by decide) (fun r τ h => ⟨_, h.2.2.1⟩) (fun E τ h => by rcases h with ⟨-, h, -⟩ | ⟨-, -, h, -⟩ <;> simp [h]), ?_⟩
  rintro r τ (⟨v, τ0, ⟨h1, hbx, h3, rfl⟩, rfl, rfl⟩ | ⟨E, ⟨h1, rfl, rfl⟩ | ⟨h1, hbx, rfl, rfl⟩, rfl⟩)
  · cases h3
    rw [w_box] at hbx
    refine ⟨0, by decide, rfl, _, c_X12_absent l Y _ p1 p2 p3 n g3 g4, ?_⟩
    rintro r2 τ2 (⟨g, -⟩ | ⟨-, g, -⟩ | ⟨-, -, rfl, rfl⟩)
    · exact absurd g h1
    · rw [hbx] at g; cases g
    · refine ⟨_, rfl, rfl, fun _ => ?_, w_I_u (w_I_w hI _) hκ _⟩
      rw [w_out]
      show (x_z (z_abs (τ0.1 12) n p1 p2 p3)).toInt64 = (x_z (x_absent (τ0.1 40) (τ0.1 41) n p1 p2 p3)).toInt64
      rw [w_absent hG]
  · refine ⟨1, by decide, by rw [x_cd1], _, c_X12_absent l Y _ p1 p2 p3 n g3 g4, ?_⟩
    rintro r2 τ2 (⟨-, rfl, rfl⟩ | ⟨g, -⟩ | ⟨g, -⟩)
    · exact ⟨_, rfl, rfl, fun z => absurd z (by decide), w_I_u hI hκ _⟩
    · exact absurd h1 g
    · exact absurd h1 g
  · rw [w_box] at hbx
    refine ⟨2, by decide, by rw [x_cd2 x_e12], _, c_X12_absent l Y _ p1 p2 p3 n g3 g4, ?_⟩
    rintro r2 τ2 (⟨g, -⟩ | ⟨-, -, rfl, rfl⟩ | ⟨-, g, -⟩)
    · exact absurd g h1
    · exact ⟨_, rfl, rfl, fun z => absurd z (by decide), w_I_u hI hκ _⟩
    · rw [hbx] at g; cases g
theorem w_I_eq {σ : x_S} {κ : Nat} (h : w_I σ κ) (hκ : κ < 512) (Es : List Int64) : w_I (x_eq (x_u σ 38 0 (nI 0)) Es) (κ + 1) := by
  obtain ⟨t, n, c, N, nr, ht, hg, hr, hm, hv, hn, hb, -⟩ := h
  exact ⟨t, n, c, N, nr, ht, hg, hr, hm, hv, hn, by omega, by omega⟩
theorem w_gpart {f11 f12 f13 f40 f41 : Nat → Int32} {n c : Nat} (hG : w_G f11 f12 f13 f40 f41 n c) (hn : 0 < n) {h k q : Int32} (e : x_ixs h k q = true) {w : Nat} (hw : w < 3) : z_part (z_gof f13 h k q c) w = x_part (x_gof f40 h k q n) w := by
  obtain ⟨B, hB, e1, e2, -⟩ := w_great hG hn (w_sm_ix hG hn (w_ixs e))
  rw [e1, e2]
  have hs := w_sm_ix hG hn (w_ixs e) B hB
  obtain ⟨a0, a1, a2⟩ := mm_zpart hs
  obtain ⟨b0, b1, b2⟩ := mm_xpart hs
  rcases (show w = 0 ∨ w = 1 ∨ w = 2 by omega) with rfl | rfl | rfl
  · rw [a0, b0]
  · rw [a1, b1]
  · rw [a2, b2 2 (Nat.le_refl 2)]
theorem pr_greatest (hl : l.stackTraces = false) (hI : w_I σ κ) (hκ : κ < 512) (p1 p2 p3 p4 : Int32) : ∃ post1 : Option Value → x_S → Prop, x_MH l yL_greatest cL_greatest 7 (some .int) [(0, 14, 17, 13), (0, 14, 21, 19), (0, 14, 25, 25)] 8 2 Y [.ref 0, .int p1, .int p2, .int p3, .int p4, .ref 63] σ post1 ∧ ∀ r τ, post1 r τ → ∃ kq : Nat, kq < 4 ∧ r = some (.int (nI kq)) ∧ ∃ post2 : Option Value → x_S → Prop, x_M l yX12_greatest cX12_greatest 5 (some .int) 2 Y [.ref 38, .int p1, .int p2, .int p3, .int p4] τ post2 ∧ ∀ r2 τ2, post2 r2 τ2 → ∃ b, r2 = some (.int b) ∧ τ2.1 38 0 = nI kq ∧ (kq = 0 → τ2.2 63 0 = b.toInt64) ∧ w_I τ2 (κ + 1) := by
  obtain ⟨t, n, c, N, nr, ht, hg, hr, hm, hv, hn, hb, hk⟩ := id hI
  obtain ⟨g1, g2, g3, g4, g5, hG⟩ := hg
  refine ⟨_, c_L_greatest p1 p2 p3 p4 (c_X11_greatest l hl Y σ p1 p2 p3 p4 n g1 g4 c g2 (by omega)) (by decide) (fun r τ h => by obtain ⟨_, _, _, _, _, h, _⟩ := h; exact ⟨_, h⟩) (fun E τ h => by rcases h with ⟨-, h, -⟩ | ⟨-, -, h, -⟩ | ⟨-, -, -, h, -⟩ <;> simp [h]), ?_⟩
  rintro r τ (⟨v, τ0, ⟨wq, h1, hbx, h2, rfl, h3, rfl⟩, rfl, rfl⟩ | ⟨E, ⟨h1, rfl, rfl⟩ | ⟨h1, hbx, rfl, rfl⟩ | ⟨h1, hbx, h2, rfl, rfl⟩, rfl⟩)
  · cases h3
    rw [w_box] at hbx
    refine ⟨0, by decide, rfl, _, c_X12_greatest l Y _ p1 p2 p3 (nI wq) n g3 g4, ?_⟩
    rintro r2 τ2 (⟨g, -⟩ | ⟨-, g, -⟩ | ⟨-, -, g, -⟩ | ⟨w', -, -, a1, e1, rfl, rfl⟩ | ⟨-, -, e1, rfl, rfl⟩)
    · exact absurd g h1
    · rw [hbx] at g; cases g
    · exact absurd ⟨wq, h2, rfl⟩ g
    · have e1 := w_nI (by omega) (by omega) e1
      subst e1
      refine ⟨_, rfl, rfl, fun _ => ?_, w_I_u (w_I_w hI _) hκ _⟩
      rw [w_out]
      show (if wq = 3 then nI (z_mul (τ0.1 13) c p1 p2 p3) else z_part (z_gof (τ0.1 13) p1 p2 p3 c) wq).toInt64 = (x_part (x_gof (τ0.1 40) p1 p2 p3 n) wq).toInt64
      rw [if_neg (by omega), w_gpart hG (by omega) hbx a1]
    · have e1 := w_nI (by omega) (by decide) e1
      subst e1
      refine ⟨_, rfl, rfl, fun _ => ?_, w_I_eq (w_I_w hI _) hκ _⟩
      show (if 3 = 3 then nI (z_mul (τ0.1 13) c p1 p2 p3) else z_part (z_gof (τ0.1 13) p1 p2 p3 c) 3).toInt64 = (nI (x_eqf (τ0.1 40) p1 p2 p3 n).length).toInt64
      rw [if_pos rfl, w_mult hG (by omega) (w_sm_ix hG (by omega) (w_ixs hbx))]
  · refine ⟨1, by decide, by rw [x_cd1], _, c_X12_greatest l Y _ p1 p2 p3 p4 n g3 g4, ?_⟩
    rintro r2 τ2 (⟨-, rfl, rfl⟩ | ⟨g, -⟩ | ⟨g, -⟩ | ⟨w', g, -⟩ | ⟨g, -⟩)
    · exact ⟨_, rfl, rfl, fun z => absurd z (by decide), w_I_u hI hκ _⟩
    · exact absurd h1 g
    · exact absurd h1 g
    · exact absurd h1 g
    · exact absurd h1 g
  · rw [w_box] at hbx
    refine ⟨2, by decide, by rw [x_cd2 x_e12], _, c_X12_greatest l Y _ p1 p2 p3 p4 n g3 g4, ?_⟩
    rintro r2 τ2 (⟨g, -⟩ | ⟨-, -, rfl, rfl⟩ | ⟨-, g, -⟩ | ⟨w', -, g, -⟩ | ⟨-, g, -⟩)
    · exact absurd g h1
    · exact ⟨_, rfl, rfl, fun z => absurd z (by decide), w_I_u hI hκ _⟩
    · rw [hbx] at g; cases g
    · rw [hbx] at g; cases g
    · rw [hbx] at g; cases g
  · rw [w_box] at hbx
    refine ⟨3, by decide, by rw [x_cd3 x_e13 x_e23], _, c_X12_greatest l Y _ p1 p2 p3 p4 n g3 g4, ?_⟩
    rintro r2 τ2 (⟨g, -⟩ | ⟨-, g, -⟩ | ⟨-, -, -, rfl, rfl⟩ | ⟨w', -, -, a1, rfl, -⟩ | ⟨-, -, rfl, -⟩)
    · exact absurd g h1
    · rw [hbx] at g; cases g
    · exact ⟨_, rfl, rfl, fun z => absurd z (by decide), w_I_u hI hκ _⟩
    · exact absurd ⟨w', by omega, rfl⟩ h2
    · exact absurd ⟨3, by decide, rfl⟩ h2
theorem w_kp {f16 f17 f18 : Nat → Int32} {A : x_A5} {N j : Nat} (h : z_kp f16 f17 f18 A N) (hb : w_bd A N) (hj : j < N) : z_part (f16 j) 0 = A.1 j ∧ z_part (f16 j) 1 = A.2.1 j ∧ z_part (f16 j) 2 = A.2.2.1 j ∧ f17 j = A.2.2.2.1 j ∧ f18 j = A.2.2.2.2 j := by
  obtain ⟨e1, e2, e3⟩ := h j hj
  obtain ⟨b1, -⟩ := hb j hj
  have hs : mm_sml (A.1 j, A.2.1 j, A.2.2.1 j) := by
    have f : ∀ x, mm_i1 x → mm_s1 x := fun x hx => ⟨by have := hx.1; omega, by have := hx.2; omega⟩
    exact ⟨f _ b1.1, f _ b1.2.1, f _ b1.2.2⟩
  obtain ⟨a0, a1, a2⟩ := mm_zpart hs
  rw [e1]
  exact ⟨a0, a1, a2, e2, e3⟩
theorem pr_reflection (hl : l.stackTraces = false) (hI : w_I σ κ) (hκ : κ < 512) (p1 p2 : Int32) : ∃ post1 : Option Value → x_S → Prop, x_MH l yL_reflection cL_reflection 5 (some .int) [(0, 10, 13, 25)] 8 1 Y [.ref 0, .int p1, .int p2, .ref 63] σ post1 ∧ ∀ r τ, post1 r τ → ∃ kq : Nat, kq < 4 ∧ r = some (.int (nI kq)) ∧ ∃ post2 : Option Value → x_S → Prop, x_M l yX12_reflection cX12_reflection 3 (some .int) 1 Y [.ref 38, .int p1, .int p2] τ post2 ∧ ∀ r2 τ2, post2 r2 τ2 → ∃ b, r2 = some (.int b) ∧ τ2.1 38 0 = nI kq ∧ (kq = 0 → τ2.2 63 0 = b.toInt64) ∧ w_I τ2 (κ + 1) := by
  obtain ⟨t, n, c, N, nr, ht, hg, hr, hm, hv, hn, hb, hk⟩ := id hI
  obtain ⟨r1, r2, r3, r4⟩ := hr
  refine ⟨_, c_L_reflection p1 p2 (c_X11_reflection l hl Y σ p1 p2 N r1 (by omega)) (by decide) (fun r τ h => by obtain ⟨_, _, _, _, _, _, h, _⟩ := h; exact ⟨_, h⟩) (fun E τ h => h.2.1), ?_⟩
  rintro r τ (⟨v, τ0, ⟨iq, wq, h1, h2, rfl, rfl, h3, rfl⟩, rfl, rfl⟩ | ⟨E, ⟨h1, rfl, rfl⟩, rfl⟩)
  · cases h3
    refine ⟨0, by decide, rfl, _, c_X12_reflection l Y _ (nI iq) (nI wq) N r2 (by omega), ?_⟩
    rintro q2 τ2 (⟨i', w', a1, a2, e1, e2, rfl, rfl⟩ | ⟨g, -⟩)
    · have e1 := w_nI (by omega) (by omega) e1
      have e2 := w_nI (by omega) (by omega) e2
      subst e1; subst e2
      refine ⟨_, rfl, rfl, fun _ => ?_, w_I_u (w_I_w hI _) hκ _⟩
      rw [w_out]
      show (if wq = 3 then τ0.1 17 iq else if wq = 4 then τ0.1 18 iq else z_part (τ0.1 16 iq) wq).toInt64 = (if wq = 0 then τ0.1 49 iq else if wq = 1 then τ0.1 50 iq else if wq = 2 then τ0.1 51 iq else if wq = 3 then τ0.1 52 iq else τ0.1 53 iq).toInt64
      obtain ⟨k0, k1, k2, k3, k4⟩ := w_kp r3 r4 h1
      rcases (show wq = 0 ∨ wq = 1 ∨ wq = 2 ∨ wq = 3 ∨ wq = 4 by omega) with rfl | rfl | rfl | rfl | rfl
      · simp only [if_neg (show ¬ (0 : Nat) = 3 by decide), if_neg (show ¬ (0 : Nat) = 4 by decide), if_pos rfl]; rw [k0]; rfl
      · simp only [if_neg (show ¬ (1 : Nat) = 3 by decide), if_neg (show ¬ (1 : Nat) = 4 by decide), if_neg (show ¬ (1 : Nat) = 0 by decide), if_pos rfl]; rw [k1]; rfl
      · simp only [if_neg (show ¬ (2 : Nat) = 3 by decide), if_neg (show ¬ (2 : Nat) = 4 by decide), if_neg (show ¬ (2 : Nat) = 0 by decide), if_neg (show ¬ (2 : Nat) = 1 by decide), if_pos rfl]; rw [k2]; rfl
      · simp only [if_neg (show ¬ (3 : Nat) = 0 by decide), if_neg (show ¬ (3 : Nat) = 1 by decide), if_neg (show ¬ (3 : Nat) = 2 by decide), if_pos rfl]; rw [k3]; rfl
      · simp only [if_neg (show ¬ (4 : Nat) = 0 by decide), if_neg (show ¬ (4 : Nat) = 1 by decide), if_neg (show ¬ (4 : Nat) = 2 by decide), if_neg (show ¬ (4 : Nat) = 3 by decide), if_pos rfl]; rw [k4]; rfl
    · exact absurd ⟨⟨iq, h1, rfl⟩, ⟨wq, h2, rfl⟩⟩ g
  · refine ⟨1, by decide, by rw [x_cd1], _, c_X12_reflection l Y _ p1 p2 N r2 (by omega), ?_⟩
    rintro q2 τ2 (⟨i', k', a1, a2, rfl, rfl, -⟩ | ⟨-, rfl, rfl⟩)
    · exact absurd ⟨⟨i', a1, rfl⟩, ⟨k', a2, rfl⟩⟩ h1
    · exact ⟨_, rfl, rfl, fun z => absurd z (by decide), w_I_u hI hκ _⟩
end PR
