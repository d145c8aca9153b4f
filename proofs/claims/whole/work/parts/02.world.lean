/-! ===== THE FRAME LAYER: one world of 64 cells (0..37 the class's, 38..62 the reference's, 63 the law's 'out'), made once, of fixed shapes; a state is what its int and long places hold ===== -/
abbrev x_S : Type := (Nat → Nat → Int32) × (Nat → Nat → Int64)
/-- the layout: classes and slots; addresses; array classes (0 int, 1 byte, 2 boolean, 3 long); from where on cells may change; the two static arrays -/
abbrev x_Y : Type := va_G × (Nat → Nat) × (Nat → ClassId) × Nat × Nat × Nat
abbrev x_H : Type := (Nat × List (Option Nat)) ⊕ (Nat × Nat)
abbrev x_ad (Y : x_Y) : Nat → Nat := Y.2.1
abbrev x_cy (Y : x_Y) : Nat → ClassId := Y.2.2.1
abbrev x_B (Y : x_Y) : Nat := Y.2.2.2.1
def x_A (Y : x_Y) : Nat → Prop := fun q => x_B Y ≤ q
def x_shs : List x_H := [
  .inl (10, [some 1, some 3, some 8, some 10, some 15, some 19, some 21, some 36]),
  .inl (8, [some 2, none]), .inr (1, 8000),
  .inl (2, [some 4, some 5, some 6, some 7, none, none]), .inr (0, 96), .inr (0, 192), .inr (0, 192), .inr (0, 12),
  .inl (7, [some 1, some 3, some 9, none, none, none, none]), .inr (0, 12),
  .inl (1, [some 11, some 12, some 13, some 14, none, none]), .inr (0, 192), .inr (0, 2304), .inr (0, 2304), .inr (0, 192),
  .inl (5, [some 16, some 17, some 18, none]), .inr (0, 3000), .inr (0, 3000), .inr (0, 3000),
  .inl (0, [some 1, some 15, some 20, none, none, none, none, none]), .inr (0, 3),
  .inl (6, [some 22, some 23, some 24, some 25, some 26, some 27, some 28, some 29, none]), .inr (3, 3000), .inr (0, 3000), .inr (0, 3000), .inr (0, 3000), .inr (2, 3000), .inr (3, 3000), .inr (3, 3000),
  .inl (4, [some 30, some 32, some 34, none, none]), .inl (3, [some 31]), .inr (0, 20), .inl (3, [some 33]), .inr (0, 20), .inl (3, [some 35]), .inr (0, 20),
  .inl (9, [some 37, none]), .inr (0, 3000),
  .inl (11, [none, some 39, none, none, none, some 40, some 41, none, some 42, some 43, none, some 44, some 45, some 46, some 47, none, none, none, none, some 48, none, some 49, some 50, some 51, some 52, some 53, none, none, none, none, some 54, some 55, some 56, some 57, some 58, some 59, some 60, some 61, none, some 62]),
  .inr (1, 8000), .inr (0, 1728), .inr (0, 576), .inr (0, 1737), .inr (0, 579), .inr (0, 81), .inr (0, 27), .inr (0, 9), .inr (0, 3), .inr (3, 384), .inr (0, 3000), .inr (0, 3000), .inr (0, 3000), .inr (0, 3000), .inr (0, 3000), .inr (3, 3000), .inr (0, 3000), .inr (0, 3000), .inr (2, 3000), .inr (3, 3000), .inr (3, 3000), .inr (3, 3000), .inr (0, 320), .inr (0, 3000),
  .inr (3, 1)]
def x_sh (k : Nat) : x_H := x_shs.getD k (.inr (0, 0))
def x_ty (i : Nat) : FieldType := if i = 0 then .int else if i = 1 then .byte else if i = 2 then .boolean else .long
def x_tys (Y : x_Y) : List (ClassId × FieldType) := [(x_cy Y 0, .int), (x_cy Y 1, .byte), (x_cy Y 2, .boolean), (x_cy Y 3, .long)]
def x_fl (Y : x_Y) (f : Nat → Int32) : Nat → List (Option Nat) → List Value
  | _, [] => []
  | i, none :: r => .int (f i) :: x_fl Y f (i + 1) r
  | i, some t :: r => .ref (x_ad Y t) :: x_fl Y f (i + 1) r
def x_ce (Y : x_Y) (k : Nat) (f : Nat → Int32) (g : Nat → Int64) : va_E := match x_sh k with
  | .inl o => .inr (o.1, x_fl Y f 0 o.2)
  | .inr a => .inl (x_cy Y a.1, a.2, if a.1 = 3 then .inr (.inl g) else .inl f)
def x_ws (Y : x_Y) (σ : x_S) : va_W := (List.range 64).map (fun k => (x_ad Y k, x_ce Y k (σ.1 k) (σ.2 k)))
def x_P (Y : x_Y) (σ : x_S) (H : Heap) : Prop := va_P Y.1 vwCl (x_ws Y σ) H ∧ va_D (x_A Y) (x_ws Y σ)
/-- a value: a cell by its number (64, 65: the static arrays) -/
def x_rf (Y : x_Y) (k : Nat) : Nat := if k < 64 then x_ad Y k else if k = 64 then Y.2.2.2.2.1 else if k = 65 then Y.2.2.2.2.2 else x_ad Y k
def x_v (Y : x_Y) (v : Value) : Value := match v with
  | .ref k => .ref (x_rf Y k)
  | w => w
theorem x_v_i (Y : x_Y) (x : Int32) : x_v Y (.int x) = .int x := rfl
theorem x_v_l (Y : x_Y) (x : Int64) : x_v Y (.long x) = .long x := rfl
theorem x_v_cat (Y : x_Y) (v : Value) : (x_v Y v).category = v.category := by cases v <;> rfl
theorem x_v_cats (Y : x_Y) (st : List Value) : ((st.map (x_v Y)).map fun v => v.category) = st.map fun v => v.category := by
  rw [List.map_map]
  exact List.map_congr_left (fun v _ => x_v_cat Y v)
/-- the state with an int place set -/
def x_u (σ : x_S) (k j : Nat) (x : Int32) : x_S := (va_up σ.1 k (upd (σ.1 k) j x), σ.2)
/-- the state with a whole cell's ints, a cell's longs set -/
def x_ui (σ : x_S) (k : Nat) (f : Nat → Int32) : x_S := (va_up σ.1 k f, σ.2)
def x_ul (σ : x_S) (k : Nat) (g : Nat → Int64) : x_S := (σ.1, va_up σ.2 k g)
theorem x_ws_at (Y : x_Y) (σ : x_S) {k : Nat} (hk : k < 64) : (x_ws Y σ)[k]? = some (x_ad Y k, x_ce Y k (σ.1 k) (σ.2 k)) := by
  unfold x_ws
  rw [List.getElem?_map, List.getElem?_range hk]
  rfl
theorem x_ws_len (Y : x_Y) (σ : x_S) : (x_ws Y σ).length = 64 := by
  unfold x_ws
  rw [List.length_map, List.length_range]
theorem x_ws_none (Y : x_Y) (σ : x_S) {k : Nat} (hk : ¬ k < 64) : (x_ws Y σ)[k]? = none := by
  rw [List.getElem?_eq_none_iff, x_ws_len]
  omega
theorem x_ws_set (Y : x_Y) (σ τ : x_S) {k : Nat} (hk : k < 64) {e : va_E} (he : x_ce Y k (τ.1 k) (τ.2 k) = e) (ho : ∀ j, j ≠ k → τ.1 j = σ.1 j ∧ τ.2 j = σ.2 j) : (x_ws Y σ).set k (x_ad Y k, e) = x_ws Y τ := by
  apply List.ext_getElem?
  intro j
  by_cases hj : j = k
  · subst hj
    rw [List.getElem?_set_self (by rw [x_ws_len]; exact hk), x_ws_at Y τ hk, he]
  · rw [List.getElem?_set_ne (fun h => hj h.symm)]
    by_cases h : j < 64
    · rw [x_ws_at Y σ h, x_ws_at Y τ h, (ho j hj).1, (ho j hj).2]
    · rw [x_ws_none Y σ h, x_ws_none Y τ h]
theorem x_fl_get (Y : x_Y) (f : Nat → Int32) : ∀ (l : List (Option Nat)) (i j : Nat), l[j]? = some none → (x_fl Y f i l)[j]? = some (.int (f (i + j)))
  | [], i, j, h => by simp at h
  | none :: r, i, 0, _ => by simp [x_fl]
  | some t :: r, i, 0, h => by simp at h
  | none :: r, i, j + 1, h => by
    have := x_fl_get Y f r (i + 1) j (by simpa using h)
    simp only [x_fl, List.getElem?_cons_succ]
    rw [this, show i + 1 + j = i + (j + 1) by omega]
  | some t :: r, i, j + 1, h => by
    have := x_fl_get Y f r (i + 1) j (by simpa using h)
    simp only [x_fl, List.getElem?_cons_succ]
    rw [this, show i + 1 + j = i + (j + 1) by omega]
theorem x_fl_ref (Y : x_Y) (f : Nat → Int32) {t : Nat} : ∀ (l : List (Option Nat)) (i j : Nat), l[j]? = some (some t) → (x_fl Y f i l)[j]? = some (.ref (x_ad Y t))
  | [], i, j, h => by simp at h
  | none :: r, i, 0, h => by simp at h
  | some t' :: r, i, 0, h => by
    have : t' = t := by simpa using h
    subst this
    simp [x_fl]
  | none :: r, i, j + 1, h => by
    simp only [x_fl, List.getElem?_cons_succ]
    exact x_fl_ref Y f r (i + 1) j (by simpa using h)
  | some t' :: r, i, j + 1, h => by
    simp only [x_fl, List.getElem?_cons_succ]
    exact x_fl_ref Y f r (i + 1) j (by simpa using h)
theorem x_fl_len (Y : x_Y) (f : Nat → Int32) : ∀ (l : List (Option Nat)) (i : Nat), (x_fl Y f i l).length = l.length
  | [], i => rfl
  | none :: r, i => by simp [x_fl, x_fl_len Y f r (i + 1)]
  | some t :: r, i => by simp [x_fl, x_fl_len Y f r (i + 1)]
theorem x_fl_same (Y : x_Y) {f g : Nat → Int32} : ∀ (l : List (Option Nat)) (i : Nat), (∀ j, i ≤ j → f j = g j) → x_fl Y f i l = x_fl Y g i l
  | [], i, _ => rfl
  | none :: r, i, h => by
    simp only [x_fl]
    rw [h i (Nat.le_refl i), x_fl_same Y r (i + 1) (fun j hj => h j (by omega))]
  | some t :: r, i, h => by
    simp only [x_fl]
    rw [x_fl_same Y r (i + 1) (fun j hj => h j (by omega))]
theorem x_fl_set (Y : x_Y) (f : Nat → Int32) (x : Int32) : ∀ (l : List (Option Nat)) (i j : Nat), l[j]? = some none → (x_fl Y f i l).set j (.int x) = x_fl Y (upd f (i + j) x) i l
  | [], i, j, h => by simp at h
  | none :: r, i, 0, _ => by
    simp only [x_fl, List.set_cons_zero, Nat.add_zero]
    rw [pk_us, x_fl_same Y r (i + 1) (fun j hj => (pk_un (k := i) (x := x) (f := f) (by omega)))]
  | some t :: r, i, 0, h => by simp at h
  | none :: r, i, j + 1, h => by
    simp only [x_fl, List.set_cons_succ]
    rw [x_fl_set Y f x r (i + 1) j (by simpa using h), pk_un (by omega), show i + 1 + j = i + (j + 1) by omega]
  | some t :: r, i, j + 1, h => by
    simp only [x_fl, List.set_cons_succ]
    rw [x_fl_set Y f x r (i + 1) j (by simpa using h), show i + 1 + j = i + (j + 1) by omega]
theorem x_ce_o (Y : x_Y) {k : Nat} {ci : Nat} {fl : List (Option Nat)} (h : x_sh k = .inl (ci, fl)) (f : Nat → Int32) (g : Nat → Int64) : x_ce Y k f g = .inr (ci, x_fl Y f 0 fl) := by
  unfold x_ce
  rw [h]
theorem x_ce_i (Y : x_Y) {k ty n : Nat} (h : x_sh k = .inr (ty, n)) (ht : ty ≠ 3) (f : Nat → Int32) (g : Nat → Int64) : x_ce Y k f g = .inl (x_cy Y ty, n, .inl f) := by
  unfold x_ce
  rw [h]
  simp [ht]
theorem x_ce_l (Y : x_Y) {k n : Nat} (h : x_sh k = .inr (3, n)) (f : Nat → Int32) (g : Nat → Int64) : x_ce Y k f g = .inl (x_cy Y 3, n, .inr (.inl g)) := by
  unfold x_ce
  rw [h]
  simp
