/-! ===== files, as the reference reads them ===== -/
def x_dig (c : Int32) : Bool := decide (nI 48 ≤ c) && decide (c ≤ nI 57)
def x_cb (c : Int32) (bg ng la : Bool) : Bool := decide (c = nI 32) && (!bg && (!ng && !la))
def x_cm (c : Int32) (sg bg ng la : Bool) : Bool := decide (c = nI 45) && (sg && (!bg && (!ng && !la)))
/-- a column: k places are left from a on; whether a digit came, whether a minus, the number so far -/
def x_colf (b : Nat → Int32) (t : Nat) (sg : Bool) : Nat → Nat → Bool → Bool → Nat → Bool × Nat × Bool × Nat
  | 0, a, _, ng, v => (true, a, ng, v)
  | k + 1, a, bg, ng, v =>
    if (x_dig (x_lookv b t a) || (x_cb (x_lookv b t a) bg ng (decide (k = 0)) || x_cm (x_lookv b t a) sg bg ng (decide (k = 0)))) = true then
      x_colf b t sg k (a + 1) (bg || x_dig (x_lookv b t a)) (ng || x_cm (x_lookv b t a) sg bg ng (decide (k = 0))) (if x_dig (x_lookv b t a) = true then 10 * v + ((x_lookv b t a).toNatClampNeg - 48) else v)
    else (false, a, ng, v)
theorem x_dig_nat {c : Int32} (h : x_dig c = true) : ∃ d, d ≤ 9 ∧ c = nI (48 + d) := by
  unfold x_dig at h
  rw [Bool.and_eq_true, decide_eq_true_eq, decide_eq_true_eq] at h
  obtain ⟨j, h1, h2, rfl⟩ := x_bet h.1 h.2 (by decide) (by decide)
  exact ⟨j - 48, by omega, by rw [show 48 + (j - 48) = j by omega]⟩
theorem x_dig_lt2 {b : Nat → Int32} {t a : Nat} (h : x_dig (x_lookv b t a) = true) : a < t := by
  by_cases ha : a < t
  · exact ha
  · rw [x_lookv_m1 ha] at h
    exact absurd h (by decide)
theorem x_col_lt {b : Nat → Int32} {t a : Nat} {sg bg ng la : Bool} (h : (x_dig (x_lookv b t a) || (x_cb (x_lookv b t a) bg ng la || x_cm (x_lookv b t a) sg bg ng la)) = true) : a < t := by
  by_cases ha : a < t
  · exact ha
  · rw [x_lookv_m1 ha, show x_dig (-1) = false by decide] at h
    unfold x_cb x_cm at h
    rw [decide_eq_false (by decide : ¬ (-1 : Int32) = nI 32), decide_eq_false (by decide : ¬ (-1 : Int32) = nI 45)] at h
    exact absurd h (by simp)
def x_ff (f : Nat → Int32) (a : Nat) (v : Int32) (ng : Bool) : Nat → Int32 := fun j => if j = 3 then nI a else if j = 26 then v else if j = 27 then x_z ng else f j
def x_fm (σ : x_S) (a : Nat) (v : Int32) (ng : Bool) : x_S := (fun k => if k = 38 then x_ff (σ.1 38) a v ng else σ.1 k, σ.2)
section FM
variable (σ : x_S) (a : Nat) (v : Int32) (ng : Bool)
theorem x_fm_f {j : Nat} {x : Int32} {a' : Nat} {v' : Int32} {ng' : Bool} (h : upd (x_ff (σ.1 38) a v ng) j x = x_ff (σ.1 38) a' v' ng') : x_u (x_fm σ a v ng) 38 j x = x_fm σ a' v' ng' := by
  rw [x_u_ui]
  refine x_ui_ext (by exact h.symm) (fun j hj => ?_) rfl
  simp [x_fm, hj]
theorem x_fm_3 (a' : Nat) : x_u (x_fm σ a v ng) 38 3 (nI a') = x_fm σ a' v ng := x_fm_f σ a v ng (by
  funext j
  by_cases h : j = 3
  · subst h; rw [pk_us]; rfl
  · rw [pk_un h]; simp [x_ff, h])
theorem x_fm_26 (v' : Int32) : x_u (x_fm σ a v ng) 38 26 v' = x_fm σ a v' ng := x_fm_f σ a v ng (by
  funext j
  by_cases h : j = 26
  · subst h; rw [pk_us]; rfl
  · rw [pk_un h]; simp [x_ff, h])
theorem x_fm_27 (ng' : Bool) : x_u (x_fm σ a v ng) 38 27 (x_z ng') = x_fm σ a v ng' := x_fm_f σ a v ng (by
  funext j
  by_cases h : j = 27
  · subst h; rw [pk_us]; rfl
  · rw [pk_un h]; simp [x_ff, h])
end FM
