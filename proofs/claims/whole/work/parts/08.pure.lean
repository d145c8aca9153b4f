/-! ===== states: small algebra ===== -/
def x_ml (l : List Int32) (f : Nat → Int32) : Nat → Int32 := fun j => l.getD j (f j)
theorem x_ui_self (σ : x_S) (k : Nat) : x_ui σ k (σ.1 k) = σ := by
  unfold x_ui
  refine Prod.ext ?_ rfl
  funext j
  by_cases h : j = k
  · subst h; exact va_up_self _ _ _
  · exact va_up_ne _ _ h
theorem x_ui_ui (σ : x_S) (k : Nat) (f g : Nat → Int32) : x_ui (x_ui σ k f) k g = x_ui σ k g := by
  unfold x_ui
  refine Prod.ext ?_ rfl
  funext j
  by_cases h : j = k
  · subst h; show va_up _ _ _ _ = va_up _ _ _ _; rw [va_up_self, va_up_self]
  · show va_up (va_up σ.1 k f) k g j = va_up σ.1 k g j; rw [va_up_ne _ _ h, va_up_ne _ _ h, va_up_ne _ _ h]
theorem x_ui_at (σ : x_S) (k : Nat) (f : Nat → Int32) : (x_ui σ k f).1 k = f := va_up_self _ _ _
theorem x_ui_ne (σ : x_S) {k j : Nat} (f : Nat → Int32) (h : j ≠ k) : (x_ui σ k f).1 j = σ.1 j := va_up_ne _ _ h
theorem x_u_ui (σ : x_S) (k j : Nat) (x : Int32) : x_u σ k j x = x_ui σ k (upd (σ.1 k) j x) := rfl
theorem x_u_of_ui (σ : x_S) (k j : Nat) (x : Int32) (f : Nat → Int32) : x_u (x_ui σ k f) k j x = x_ui σ k (upd f j x) := by
  rw [x_u_ui, x_ui_ui, x_ui_at]
theorem x_ui_comm (σ : x_S) {k j : Nat} (f g : Nat → Int32) (h : k ≠ j) : x_ui (x_ui σ k f) j g = x_ui (x_ui σ j g) k f := by
  unfold x_ui
  refine Prod.ext ?_ rfl
  funext i
  show va_up (va_up σ.1 k f) j g i = va_up (va_up σ.1 j g) k f i
  by_cases h1 : i = j
  · subst h1
    rw [va_up_self, va_up_ne _ _ (fun z => h z.symm), va_up_self]
  · by_cases h2 : i = k
    · subst h2
      rw [va_up_ne _ _ h1, va_up_self, va_up_self]
    · rw [va_up_ne _ _ h1, va_up_ne _ _ h2, va_up_ne _ _ h2, va_up_ne _ _ h1]
theorem x_ui_congr (σ : x_S) (k : Nat) {f g : Nat → Int32} (h : f = g) : x_ui σ k f = x_ui σ k g := by rw [h]
theorem x_ul_self (σ : x_S) (k : Nat) : x_ul σ k (σ.2 k) = σ := by
  unfold x_ul
  refine Prod.ext rfl ?_
  funext j
  by_cases h : j = k
  · subst h; exact va_up_self _ _ _
  · exact va_up_ne _ _ h
theorem x_ul_ul (σ : x_S) (k : Nat) (f g : Nat → Int64) : x_ul (x_ul σ k f) k g = x_ul σ k g := by
  unfold x_ul
  refine Prod.ext rfl ?_
  funext j
  by_cases h : j = k
  · subst h; show va_up _ _ _ _ = va_up _ _ _ _; rw [va_up_self, va_up_self]
  · show va_up (va_up σ.2 k f) k g j = va_up σ.2 k g j; rw [va_up_ne _ _ h, va_up_ne _ _ h, va_up_ne _ _ h]
theorem x_ul_at (σ : x_S) (k : Nat) (f : Nat → Int64) : (x_ul σ k f).2 k = f := va_up_self _ _ _
theorem x_w_ul (σ : x_S) (k j : Nat) (x : Int64) : x_w σ k j x = x_ul σ k (vp_updL (σ.2 k) j x) := rfl
theorem x_w_of_ul (σ : x_S) (k j : Nat) (x : Int64) (f : Nat → Int64) : x_w (x_ul σ k f) k j x = x_ul σ k (vp_updL f j x) := by
  rw [x_w_ul, x_ul_ul, x_ul_at]
theorem x_cpy_0 {α : Type} (f g : Nat → α) (sp dp : Nat) : va_cpy f g sp dp 0 = g := by
  funext j
  exact pk_cpy_out (by omega)
theorem x_cpy_s (f g : Nat → Int32) (sp dp n : Nat) : upd (va_cpy f g sp dp n) (dp + n) (f (sp + n)) = va_cpy f g sp dp (n + 1) := by
  funext j
  by_cases h : j = dp + n
  · subst h
    rw [pk_us, pk_cpy_in (by omega) (by omega), show sp + (dp + n - dp) = sp + n by omega]
  · rw [pk_un h]
    by_cases h2 : dp ≤ j ∧ j < dp + n
    · rw [pk_cpy_in h2.1 h2.2, pk_cpy_in h2.1 (by omega)]
    · rw [pk_cpy_out (by omega), pk_cpy_out (by omega)]
theorem x_ml_ml (l l' : List Int32) (f : Nat → Int32) (h : l'.length ≤ l.length) : x_ml l (x_ml l' f) = x_ml l f := by
  funext j
  unfold x_ml
  by_cases hj : j < l.length
  · simp [List.getD, hj]
  · have h2 : ¬ j < l'.length := by omega
    simp [List.getD, hj, h2]
theorem x_upd_ml (l : List Int32) (f : Nat → Int32) {j : Nat} (x : Int32) (h : j < l.length) : upd (x_ml l f) j x = x_ml (l.set j x) f := by
  funext i
  unfold x_ml
  by_cases hi : i = j
  · subst hi
    rw [pk_us]
    simp [List.getD, h]
  · rw [pk_un hi]
    simp [List.getD, List.getElem?_set_ne (fun z => hi z.symm)]
theorem x_ml_at (l : List Int32) (f : Nat → Int32) {j : Nat} (h : j < l.length) : x_ml l f j = l.getD j 0 := by
  unfold x_ml
  simp [List.getD, h]
theorem x_ml_nil (f : Nat → Int32) : x_ml [] f = f := by
  funext j
  rfl
theorem x_ml_push (l : List Int32) (f : Nat → Int32) (x : Int32) : upd (x_ml l f) l.length x = x_ml (l ++ [x]) f := by
  funext i
  unfold x_ml
  by_cases hi : i = l.length
  · subst hi
    rw [pk_us]
    simp [List.getD]
  · rw [pk_un hi]
    by_cases h2 : i < l.length
    · simp [List.getD, List.getElem?_append_left h2]
    · have h3 : l.length + 1 ≤ i := by omega
      rw [List.getD, List.getD, List.getElem?_eq_none (by omega), List.getElem?_eq_none (by rw [List.length_append]; simpa using h3)]
theorem x_cpy_s0 (f g : Nat → Int32) (dp n : Nat) : upd (va_cpy f g 0 dp n) (dp + n) (f n) = va_cpy f g 0 dp (n + 1) := by
  have h := x_cpy_s f g 0 dp n
  rwa [Nat.zero_add] at h
theorem x_u_first (σ : x_S) (k : Nat) (a : Int32) : x_u σ k 0 a = x_ui σ k (x_ml [a] (σ.1 k)) := by
  rw [x_u_ui]
  have h := x_ml_push [] (σ.1 k) a
  rw [x_ml_nil] at h
  exact x_ui_congr σ k h
theorem x_u_push {σ : x_S} {k n : Nat} {l : List Int32} {f : Nat → Int32} {x : Int32} (h : l.length = n) : x_u (x_ui σ k (x_ml l f)) k n x = x_ui σ k (x_ml (l ++ [x]) f) := by
  subst h
  rw [x_u_of_ui, x_ml_push]
theorem x_set9 (σ : x_S) (k : Nat) (a b c d f g h i j : Int32) : x_u (x_u (x_u (x_u (x_u (x_u (x_u (x_u (x_u σ k 0 a) k 1 b) k 2 c) k 3 d) k 4 f) k 5 g) k 6 h) k 7 i) k 8 j = x_ui σ k (x_ml [a, b, c, d, f, g, h, i, j] (σ.1 k)) := by
  rw [x_u_first, x_u_push (l := [a]) (n := 1) rfl, x_u_push (l := [a] ++ [b]) (n := 2) rfl, x_u_push (l := [a] ++ [b] ++ [c]) (n := 3) rfl, x_u_push (l := [a] ++ [b] ++ [c] ++ [d]) (n := 4) rfl, x_u_push (l := [a] ++ [b] ++ [c] ++ [d] ++ [f]) (n := 5) rfl, x_u_push (l := [a] ++ [b] ++ [c] ++ [d] ++ [f] ++ [g]) (n := 6) rfl, x_u_push (l := [a] ++ [b] ++ [c] ++ [d] ++ [f] ++ [g] ++ [h]) (n := 7) rfl, x_u_push (l := [a] ++ [b] ++ [c] ++ [d] ++ [f] ++ [g] ++ [h] ++ [i]) (n := 8) rfl]
  rfl
theorem x_set3 (σ : x_S) (k : Nat) (a b c : Int32) : x_u (x_u (x_u σ k 0 a) k 1 b) k 2 c = x_ui σ k (x_ml [a, b, c] (σ.1 k)) := by
  rw [x_u_first, x_u_push (l := [a]) (n := 1) rfl, x_u_push (l := [a] ++ [b]) (n := 2) rfl]
  rfl
/-- the rotation of an axis, turned by one place -/
def x_tr (l : List Int32) : List Int32 := [l.getD 8 0, l.getD 6 0, l.getD 7 0, l.getD 2 0, l.getD 0 0, l.getD 1 0, l.getD 5 0, l.getD 3 0, l.getD 4 0]
def x_tn : Nat → List Int32 → List Int32
  | 0, l => l
  | k + 1, l => x_tr (x_tn k l)
