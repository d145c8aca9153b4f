/-! ===== words, environment, locals, judgement ===== -/
def x_wd : List Cond := lw_tbl.filter goodWord
theorem x_wd_in {w : Cond} (h : w ∈ lw_tbl) (hg : goodWord w = true) : w ∈ x_wd := List.mem_filter.mpr ⟨h, hg⟩
theorem x_wd_good : ∀ w ∈ x_wd, w ∈ lw_tbl ∧ goodWord w = true := fun _ h => List.mem_filter.mp h
/-- words that aren't good, of kinds that stay all the same: a nest mate's members, castable -/
def x_isO : Cond → Bool
  | .fieldLinkNest .. => true
  | .methodLinkNest .. => true
  | .castable .. => true
  | .declares _ => true
  | _ => false
def x_ow : List Cond := lw_tbl.filter x_isO
theorem x_ow_in {w : Cond} (h : w ∈ lw_tbl) (hg : x_isO w = true) : w ∈ x_ow := List.mem_filter.mpr ⟨h, hg⟩
theorem x_ow_warm {s U : State} (hW : s.WarmedH U.vm) (h : ∀ w ∈ x_ow, va_Nw w s) : ∀ w ∈ x_ow, va_Nw w U := by
  intro w hw
  have h0 := h w hw
  have h1 := (List.mem_filter.mp hw).2
  cases w <;> first | (simp [x_isO] at h1; done) | exact va_Nw.warmF hW h0 | exact va_Nw.warmM hW h0 | exact va_tabs rfl (rfl : (s.setVm U.vm).vm = U.vm) ((Cond.castable_setVm hW.alike _ _).trans h0) | exact va_tabs rfl (rfl : (s.setVm U.vm).vm = U.vm) ((Cond.declares_setVm hW.alike _).trans h0)
theorem x_ow_same {s U : State} (hv : s.vm = U.vm) (h : ∀ w ∈ x_ow, va_Nw w s) : ∀ w ∈ x_ow, va_Nw w U := by
  intro w hw
  have h0 := h w hw
  have h1 := (List.mem_filter.mp hw).2
  cases w <;> first | (simp [x_isO] at h1; done) | exact va_Nw.same rfl hv h0
def x_ncs : List (String × String) := [("java/lang/IllegalArgumentException", "java/lang/IllegalStateException"), ("java/lang/IllegalArgumentException", "java/lang/IndexOutOfBoundsException"), ("java/lang/IllegalStateException", "java/lang/IllegalArgumentException"), ("java/lang/IllegalStateException", "java/lang/IndexOutOfBoundsException"), ("java/lang/IndexOutOfBoundsException", "java/lang/IllegalArgumentException"), ("java/lang/IndexOutOfBoundsException", "java/lang/IllegalStateException")]
def x_strs : List (Nat × String) := [(75, "the tape has no room for twenty bytes more"), (86, "the tape has not that many bytes"), (115, "no such operator, or number of it"), (130, "no such operator, or number of an index"), (151, "no such number of a kind"), (170, "no such reflection, or number of it"), (178, "no such row, or number of it"), (207, "m is not 0 .. 100"), (217, "H is not 1 .. 12"), (219, "neither kinds with a row nor all kinds"), (227, "there is no group"), (233, "a number is not -127 .. 127"), (235, "neither numerator nor denominator")]
def x_rots : List Int32 := [1, 0, 0, 0, 1, 0, 0, 0, 1, -1, 0, 0, 0, -1, 0, 0, 0, 1, 0, -1, 0, 1, -1, 0, 0, 0, 1, 0, -1, 0, 1, 0, 0, 0, 0, 1, 1, -1, 0, 1, 0, 0, 0, 0, 1, 0, -1, 0, -1, 0, 0, 0, 0, -1, 0, 1, 0, 1, 0, 0, 0, 0, -1, 0, 0, 1, 1, 0, 0, 0, 1, 0]
def x_gaps : List Int32 := [1750, 701, 301, 132, 57, 23, 10, 4, 1]
def x_sa (k : Nat) : List Int32 := if k = 64 then x_rots else x_gaps
/-- what holds of the tables and of what lies below the world, in every state of the run -/
def x_E (Y : x_Y) (U : State) (H : Heap) : Prop :=
  va_K Y.1 vwCl (x_tys Y) U ∧ (∀ w ∈ x_ow, va_Nw w U) ∧ (∀ q ∈ x_ncs, va_Nc q.1 q.2 U) ∧ (∀ q ∈ x_strs, ∃ sa, vk_R RX11 q.1 q.2 sa U) ∧
  (va_Z RX8 "ROTATIONS" "[I" (.ref (x_rf Y 64)) (x_A Y) U H ∧ va_T .int (x_rf Y 64) 72 (fun j => .int (x_rots.getD j 0)) (x_A Y) U H) ∧
  (va_Z RX7 "GAPS" "[I" (.ref (x_rf Y 65)) (x_A Y) U H ∧ va_T .int (x_rf Y 65) 9 (fun j => .int (x_gaps.getD j 0)) (x_A Y) U H) ∧
  vx_Zq Bundle.tN "UNASSIGNED_STACK" Bundle.steD (x_A Y) U H ∧ vx_Zq Bundle.tN "SUPPRESSED_SENTINEL" Bundle.listD (x_A Y) U H ∧ x_B Y ≤ H.size
theorem x_E.go {Y : x_Y} {s U : State} {H0 H : Heap} (h : x_E Y s H0) (hW : s.WarmedH U.vm) (hz : H0.size ≤ H.size) (hq : ∀ q : Nat, q < H0.size → ¬ x_A Y q → H[q]? = H0[q]?) : x_E Y U H := by
  obtain ⟨h1, h2, h3, h4, ⟨h5, h6⟩, ⟨h7, h8⟩, h9, h10, h11⟩ := h
  have al := hW.alike
  refine ⟨va_K.moved al h1, x_ow_warm hW h2, fun q hq => (h3 q hq).moved al, fun q hq => ?_, ⟨va_Z.moved al (h5.kept hq), va_T.moved al (h6.kept hq)⟩, ⟨va_Z.moved al (h7.kept hq), va_T.moved al (h8.kept hq)⟩, (h9.kept hq).moved al, (h10.kept hq).moved al, Nat.le_trans h11 hz⟩
  obtain ⟨sa, hs⟩ := h4 q hq
  exact ⟨sa, vk_R.warm hW hs⟩
theorem x_E.same {Y : x_Y} {s U : State} {H : Heap} (h : x_E Y s H) (hv : s.vm = U.vm) : x_E Y U H := by
  obtain ⟨h1, h2, h3, h4, ⟨h5, h6⟩, ⟨h7, h8⟩, h9, h10, h11⟩ := h
  have al : s.vm.Alike U.vm := by rw [hv]; exact Vm.Alike.refl U.vm
  refine ⟨va_K.moved al h1, x_ow_same hv h2, fun q hq => (h3 q hq).moved al, fun q hq => ?_, ⟨va_Z.moved al h5, va_T.moved al h6⟩, ⟨va_Z.moved al h7, va_T.moved al h8⟩, h9.moved al, h10.moved al, h11⟩
  obtain ⟨sa, hs⟩ := h4 q hq
  exact ⟨sa, vk_R.same hv.symm hs⟩
/-- the locals: ints and references by place, longs by place -/
abbrev x_Lo : Type := (Nat → Option Value) × (Nat → Option Int64)
def x_L (Y : x_Y) (ls : Array Slot) (nL : Nat) (L : x_Lo) : Prop := ls.size = nL ∧ lv_wf ls ∧ (∀ (i : Nat) (v : Value), L.1 i = some v → v.category = 1 ∧ ls[i]? = some (.val (x_v Y v))) ∧ ∀ (i : Nat) (x : Int64), L.2 i = some x → ls[i]? = some (.val (.long x))
def x_s1 (L : x_Lo) (i : Nat) (v : Value) : x_Lo := (fun j => if j = i then some v else L.1 j, fun j => if j = i then none else if j + 1 = i then none else L.2 j)
def x_s2 (L : x_Lo) (i : Nat) (x : Int64) : x_Lo := (fun j => if j = i then none else if j = i + 1 then none else L.1 j, fun j => if j = i then some x else if j = i + 1 then none else if j + 1 = i then none else L.2 j)
def x_ll (Y : x_Y) (nL : Nat) (L : x_Lo) : List (Nat × Value) := (List.range nL).filterMap (fun i => (L.1 i).map (fun v => (i, x_v Y v))) ++ (List.range nL).filterMap (fun i => (L.2 i).map (fun x => (i, Value.long x)))
theorem x_L.has {Y : x_Y} {ls : Array Slot} {nL : Nat} {L : x_Lo} (h : x_L Y ls nL L) : lv_has ls nL (x_ll Y nL L) := by
  refine ⟨h.1, h.2.1, fun q hq => ?_⟩
  rcases List.mem_append.mp hq with hq | hq
  · obtain ⟨i, -, hi⟩ := List.mem_filterMap.mp hq
    cases hL : L.1 i with
    | none => rw [hL] at hi; cases hi
    | some v => rw [hL] at hi; cases hi; exact (h.2.2.1 i v hL).2
  · obtain ⟨i, -, hi⟩ := List.mem_filterMap.mp hq
    cases hL : L.2 i with
    | none => rw [hL] at hi; cases hi
    | some v => rw [hL] at hi; cases hi; exact h.2.2.2 i v hL
theorem x_L.in1 {Y : x_Y} {ls : Array Slot} {nL : Nat} {L : x_Lo} (h : x_L Y ls nL L) {i : Nat} {v : Value} (hL : L.1 i = some v) : (i, x_v Y v) ∈ x_ll Y nL L := by
  have h1 := lv_lt (h.2.2.1 i v hL).2
  rw [h.1] at h1
  exact List.mem_append_left _ (List.mem_filterMap.mpr ⟨i, List.mem_range.mpr h1, by rw [hL]; rfl⟩)
theorem x_L.in2 {Y : x_Y} {ls : Array Slot} {nL : Nat} {L : x_Lo} (h : x_L Y ls nL L) {i : Nat} {x : Int64} (hL : L.2 i = some x) : (i, Value.long x) ∈ x_ll Y nL L := by
  have h1 := lv_lt (h.2.2.2 i x hL)
  rw [h.1] at h1
  exact List.mem_append_right _ (List.mem_filterMap.mpr ⟨i, List.mem_range.mpr h1, by rw [hL]; rfl⟩)
theorem x_L.st1 {Y : x_Y} {ls ls' : Array Slot} {nL : Nat} {L : x_Lo} (h : x_L Y ls nL L) {i : Nat} {v : Value} (hc : v.category = 1)
    (h' : lv_has ls' nL ((i, x_v Y v) :: (x_ll Y nL L).filter (fun q => !(q.1 == i) && !(q.1 + 1 == i && q.2.category == 2)))) : x_L Y ls' nL (x_s1 L i v) := by
  refine ⟨h'.1, h'.2.1, fun j w hj => ?_, fun j x hj => ?_⟩
  · simp only [x_s1] at hj
    by_cases e : j = i
    · subst e
      rw [if_pos rfl] at hj
      cases hj
      exact ⟨hc, h'.2.2 _ List.mem_cons_self⟩
    · rw [if_neg e] at hj
      have c1 := (h.2.2.1 j w hj).1
      refine ⟨c1, h'.2.2 (j, x_v Y w) (List.mem_cons_of_mem _ (List.mem_filter.mpr ⟨h.in1 hj, ?_⟩))⟩
      have c2 : (x_v Y w).category = 1 := (x_v_cat Y w).trans c1
      simp [e, c2]
  · simp only [x_s1] at hj
    by_cases e : j = i
    · rw [if_pos e] at hj; cases hj
    · rw [if_neg e] at hj
      by_cases e2 : j + 1 = i
      · rw [if_pos e2] at hj; cases hj
      · rw [if_neg e2] at hj
        exact h'.2.2 (j, Value.long x) (List.mem_cons_of_mem _ (List.mem_filter.mpr ⟨h.in2 hj, by simp [e, e2]⟩))
theorem x_L.st2 {Y : x_Y} {ls ls' : Array Slot} {nL : Nat} {L : x_Lo} (h : x_L Y ls nL L) {i : Nat} {x : Int64}
    (h' : lv_has ls' nL ((i, Value.long x) :: (x_ll Y nL L).filter (fun q => !(q.1 == i) && (!(q.1 == i + 1) && !(q.1 + 1 == i && q.2.category == 2))))) : x_L Y ls' nL (x_s2 L i x) := by
  refine ⟨h'.1, h'.2.1, fun j w hj => ?_, fun j y hj => ?_⟩
  · simp only [x_s2] at hj
    by_cases e : j = i
    · rw [if_pos e] at hj; cases hj
    · rw [if_neg e] at hj
      by_cases e2 : j = i + 1
      · rw [if_pos e2] at hj; cases hj
      · rw [if_neg e2] at hj
        have c1 := (h.2.2.1 j w hj).1
        refine ⟨c1, h'.2.2 (j, x_v Y w) (List.mem_cons_of_mem _ (List.mem_filter.mpr ⟨h.in1 hj, ?_⟩))⟩
        have c2 : (x_v Y w).category = 1 := (x_v_cat Y w).trans c1
        simp [e, e2, c2]
  · simp only [x_s2] at hj
    by_cases e : j = i
    · subst e
      rw [if_pos rfl] at hj
      cases hj
      exact h'.2.2 _ List.mem_cons_self
    · rw [if_neg e] at hj
      by_cases e2 : j = i + 1
      · rw [if_pos e2] at hj; cases hj
      · rw [if_neg e2] at hj
        by_cases e3 : j + 1 = i
        · rw [if_pos e3] at hj; cases hj
        · rw [if_neg e3] at hj
          exact h'.2.2 (j, Value.long y) (List.mem_cons_of_mem _ (List.mem_filter.mpr ⟨h.in2 hj, by simp [e, e2, e3]⟩))
/-- the locals at a method's entry -/
def x_o1 : List (Nat × Value) → Nat → Option Value
  | [], _ => none
  | (i, v) :: r, j => if j = i then (match v with
    | .int x => some (.int x)
    | .ref k => some (.ref k)
    | _ => none) else x_o1 r j
def x_o2 : List (Nat × Value) → Nat → Option Int64
  | [], _ => none
  | (i, v) :: r, j => if j = i then (match v with
    | .long x => some x
    | _ => none) else x_o2 r j
def x_of (l : List (Nat × Value)) : x_Lo := (x_o1 l, x_o2 l)
theorem x_o1_in : ∀ (l : List (Nat × Value)) (i : Nat) (v : Value), x_o1 l i = some v → (i, v) ∈ l ∧ v.category = 1
  | [], i, v, h => by simp [x_o1] at h
  | (j, w) :: r, i, v, h => by
    simp only [x_o1] at h
    by_cases e : i = j
    · subst e
      rw [if_pos rfl] at h
      cases w <;> simp at h <;> subst h <;> exact ⟨List.mem_cons_self, rfl⟩
    · rw [if_neg e] at h
      exact ⟨List.mem_cons_of_mem _ (x_o1_in r i v h).1, (x_o1_in r i v h).2⟩
theorem x_o2_in : ∀ (l : List (Nat × Value)) (i : Nat) (x : Int64), x_o2 l i = some x → (i, Value.long x) ∈ l
  | [], i, x, h => by simp [x_o2] at h
  | (j, w) :: r, i, x, h => by
    simp only [x_o2] at h
    by_cases e : i = j
    · subst e
      rw [if_pos rfl] at h
      cases w <;> simp at h
      subst h
      exact List.mem_cons_self
    · rw [if_neg e] at h
      exact List.mem_cons_of_mem _ (x_o2_in r i x h)
theorem x_args (Y : x_Y) : ∀ (as : List Value) (i : Nat), lv_args i (as.map (x_v Y)) = (lv_args i as).map (fun q => (q.1, x_v Y q.2))
  | [], i => rfl
  | v :: r, i => by
    simp only [List.map_cons, lv_args]
    rw [x_v_cat]
    exact congrArg _ (x_args Y r _)
theorem x_L.entry {Y : x_Y} {ls : Array Slot} {nL : Nat} {as : List Value} (h : lv_has ls nL (lv_args 0 (as.map (x_v Y)))) : x_L Y ls nL (x_of (lv_args 0 as)) := by
  rw [x_args] at h
  refine ⟨h.1, h.2.1, fun i v hi => ?_, fun i x hi => ?_⟩
  · obtain ⟨h1, h2⟩ := x_o1_in _ i v hi
    exact ⟨h2, h.2.2 (i, x_v Y v) (List.mem_map.mpr ⟨(i, v), h1, rfl⟩)⟩
  · exact h.2.2 (i, Value.long x) (List.mem_map.mpr ⟨(i, Value.long x), x_o2_in _ i x hi, rfl⟩)
