/-! ===== counting; the turns and their opposites are a group ===== -/
theorem mm_sum_one {β : Type} [DecidableEq β] (g : β → Nat) (c : β) : ∀ {D : List β}, D.Nodup → (D.map (fun b => g b + if c = b then 1 else 0)).sum = (D.map g).sum + if c ∈ D then 1 else 0
  | [], _ => rfl
  | b :: D, h => by
    have hb : b ∉ D := (List.nodup_cons.mp h).1
    have ih := mm_sum_one g c (D := D) (List.nodup_cons.mp h).2
    rw [List.map_cons, List.map_cons, List.sum_cons, List.sum_cons, ih]
    by_cases e : c = b
    · subst e
      rw [if_pos rfl, if_neg hb, if_pos List.mem_cons_self]
      omega
    · rw [if_neg e]
      by_cases e2 : c ∈ D
      · rw [if_pos e2, if_pos (List.mem_cons_of_mem _ e2)]
        omega
      · rw [if_neg e2, if_neg (fun z => (List.mem_cons.mp z).elim e e2)]
        omega
theorem mm_sum_const {β : Type} {g : β → Nat} {s : Nat} : ∀ {D : List β}, (∀ b ∈ D, g b = s) → (D.map g).sum = D.length * s
  | [], _ => by simp
  | b :: D, h => by
    rw [List.map_cons, List.sum_cons, h b List.mem_cons_self, mm_sum_const (D := D) (fun x hx => h x (List.mem_cons_of_mem _ hx)), List.length_cons, Nat.add_mul, Nat.one_mul]
    omega
theorem mm_count0 {α β : Type} [DecidableEq β] (f : α → β) {D : List β} (hD : D.Nodup) : ∀ L : List α, (∀ x ∈ L, f x ∈ D) → L.length = (D.map (fun b => L.countP (fun x => decide (f x = b)))).sum
  | [], _ => by
    show 0 = (D.map (fun _ => 0)).sum
    rw [mm_sum_const (s := 0) (fun _ _ => rfl), Nat.mul_zero]
  | x :: L, h => by
    have ih := mm_count0 f hD L (fun y hy => h y (List.mem_cons_of_mem _ hy))
    have e : (fun b => (x :: L).countP (fun x => decide (f x = b))) = fun b => L.countP (fun x => decide (f x = b)) + if f x = b then 1 else 0 := by
      funext b
      rw [List.countP_cons]
      by_cases e : f x = b
      · simp [e]
      · simp [e]
    rw [e, mm_sum_one _ _ hD, if_pos (h x List.mem_cons_self), List.length_cons, ← ih]
/-- classes of one size: their number times the size -/
theorem mm_count {α β : Type} [DecidableEq β] (f : α → β) {D : List β} (hD : D.Nodup) {L : List α} (h1 : ∀ b, b ∈ D ↔ ∃ x ∈ L, f x = b) {s : Nat} (h2 : ∀ x ∈ L, L.countP (fun y => decide (f y = f x)) = s) : L.length = D.length * s := by
  rw [mm_count0 f hD L (fun x hx => (h1 _).mpr ⟨x, hx, rfl⟩)]
  refine mm_sum_const fun b hb => ?_
  obtain ⟨x, hx, rfl⟩ := (h1 b).mp hb
  exact h2 x hx
theorem mm_ded {β : Type} [DecidableEq β] : ∀ L : List β, ∃ D : List β, D.Nodup ∧ ∀ b, b ∈ D ↔ b ∈ L
  | [] => ⟨[], List.nodup_nil, fun _ => Iff.rfl⟩
  | x :: L => by
    obtain ⟨D, h1, h2⟩ := mm_ded L
    by_cases e : x ∈ D
    · refine ⟨D, h1, fun b => ?_⟩
      rw [h2 b, List.mem_cons]
      constructor
      · exact Or.inr
      · rintro (rfl | h)
        · exact (h2 _).mp e
        · exact h
    · refine ⟨x :: D, List.nodup_cons.mpr ⟨e, h1⟩, fun b => ?_⟩
      rw [List.mem_cons, List.mem_cons, h2 b]
/-! a group of matrices inside one of the finite groups -/
theorem mm_Md : mm_Ms.all (fun M => decide (M.length = 48 ∨ M.length = 24) && (decide M.Nodup && M.all (fun A => decide (A.length = 9) && (M.elem (x_neg A) && ((x_mul A (mm_p11 A) == x_one) && ((x_mul (mm_p11 A) A == x_one) && ((decide (mm_det A = 1) || decide (mm_det A = -1)) && (mm_det (x_neg A) == -(mm_det A))))))))) = true := by decide +kernel
theorem mm_M_f {M : List (List Int32)} (hM : M ∈ mm_Ms) : (M.length = 48 ∨ M.length = 24) ∧ M.Nodup ∧ ∀ A ∈ M, A.length = 9 ∧ x_neg A ∈ M ∧ x_mul A (mm_p11 A) = x_one ∧ x_mul (mm_p11 A) A = x_one ∧ (mm_det A = 1 ∨ mm_det A = -1) ∧ mm_det (x_neg A) = -(mm_det A) := by
  have h := List.all_eq_true.mp mm_Md M hM
  simp only [Bool.and_eq_true, decide_eq_true_eq] at h
  refine ⟨h.1, h.2.1, fun A hA => ?_⟩
  have h1 := List.all_eq_true.mp h.2.2 A hA
  simp only [Bool.and_eq_true, Bool.or_eq_true, decide_eq_true_eq, beq_iff_eq, List.elem_iff] at h1
  exact h1
/-- P is a group inside M -/
def mm_Gr (M P : List (List Int32)) : Prop := M ∈ mm_Ms ∧ P.Nodup ∧ (∀ A ∈ P, A ∈ M) ∧ x_one ∈ P ∧ ∀ A ∈ P, ∀ B ∈ P, x_mul A B ∈ P
section GR
variable {M P : List (List Int32)}
theorem mm_Gr.inv (h : mm_Gr M P) {A : List Int32} (hA : A ∈ P) : mm_p11 A ∈ P ∧ x_mul A (mm_p11 A) = x_one ∧ x_mul (mm_p11 A) A = x_one := by
  obtain ⟨h1, h2, h3, h4, h5⟩ := h
  have h6 := ((mm_M_f h1).2.2 A (h3 A hA))
  refine ⟨?_, h6.2.2.1, h6.2.2.2.1⟩
  unfold mm_p11
  have a2 := h5 A hA A hA
  have a4 := h5 _ a2 _ a2
  exact h5 _ (h5 _ (h5 _ a4 _ a4) _ a2) _ hA
theorem mm_Gr.cancelR (h : mm_Gr M P) {A B C : List Int32} (hA : A.length = 9) (hB : B.length = 9) (hC : C ∈ P) (e : x_mul A C = x_mul B C) : A = B := by
  obtain ⟨-, i1, -⟩ := h.inv hC
  have h1 := congrArg (fun z => x_mul z (mm_p11 C)) e
  simp only [mm_assoc, i1] at h1
  rwa [mm_mul_one hA, mm_mul_one hB] at h1
theorem mm_Gr.len (h : mm_Gr M P) {A : List Int32} (hA : A ∈ P) : A.length = 9 := ((mm_M_f h.1).2.2 A (h.2.2.1 A hA)).1
/-- all of P times one of P: P again -/
theorem mm_Gr.permR (h : mm_Gr M P) {B : List Int32} (hB : B ∈ P) : (P.map (fun A => x_mul A B)).Perm P := by
  refine (List.perm_ext_iff_of_nodup ?_ h.2.1).mpr (fun A => ?_)
  · rw [List.Nodup, List.pairwise_map]
    refine List.Pairwise.imp_of_mem ?_ h.2.1
    intro a b ha hb hab z
    exact hab (h.cancelR (h.len ha) (h.len hb) hB z)
  · constructor
    · intro hA
      obtain ⟨C, hC, rfl⟩ := List.mem_map.mp hA
      exact h.2.2.2.2 C hC B hB
    · intro hA
      obtain ⟨i0, i1, i2⟩ := h.inv hB
      exact List.mem_map.mpr ⟨x_mul A (mm_p11 B), h.2.2.2.2 A hA _ i0, by rw [mm_assoc, i2, mm_mul_one (h.len hA)]⟩
theorem mm_Gr.vcancel (h : mm_Gr M P) {B : List Int32} (hB : B ∈ P) {x y : mm_V} (e : mm_va x B = mm_va y B) : x = y := by
  obtain ⟨-, i1, -⟩ := h.inv hB
  have h1 := congrArg (fun z => mm_va z (mm_p11 B)) e
  simp only [mm_va_mul, i1, mm_va_one] at h1
  exact h1
/-- each image is reached by as many as leave the vector as it is -/
theorem mm_Gr.still (h : mm_Gr M P) (v : mm_V) {B : List Int32} (hB : B ∈ P) : P.countP (fun A => decide (mm_va v A = mm_va v B)) = P.countP (fun A => decide (mm_va v A = v)) := by
  rw [← (h.permR hB).countP_eq, List.countP_map]
  refine List.countP_congr fun A hA => ?_
  show decide (mm_va v (x_mul A B) = mm_va v B) = true ↔ decide (mm_va v A = v) = true
  rw [decide_eq_true_eq, decide_eq_true_eq, ← mm_va_mul]
  constructor
  · exact fun z => h.vcancel hB z
  · exact fun z => by rw [z]
theorem mm_orbit (h : mm_Gr M P) (v : mm_V) {β : Type} [DecidableEq β] (F : mm_V → β) (hF : ∀ A ∈ P, ∀ B ∈ P, F (mm_va v A) = F (mm_va v B) → mm_va v A = mm_va v B) {D : List β} (hD : D.Nodup) (hm : ∀ b, b ∈ D ↔ ∃ A ∈ P, F (mm_va v A) = b) :
    P.length = D.length * P.countP (fun A => decide (mm_va v A = v)) ∧ 0 < P.countP (fun A => decide (mm_va v A = v)) := by
  constructor
  · refine mm_count (fun A => F (mm_va v A)) hD hm fun B hB => ?_
    rw [← h.still v hB]
    refine List.countP_congr fun A hA => ?_
    show decide (F (mm_va v A) = F (mm_va v B)) = true ↔ decide (mm_va v A = mm_va v B) = true
    rw [decide_eq_true_eq, decide_eq_true_eq]
    exact ⟨fun z => hF A hA B hB z, fun z => by rw [z]⟩
  · exact List.countP_pos_iff.mpr ⟨x_one, h.2.2.2.1, decide_eq_true (mm_va_one v)⟩
/-- its size divides that of M -/
theorem mm_lagrange (h : mm_Gr M P) : ∃ k, M.length = k * P.length := by
  obtain ⟨hM, hnd, hsub, hone, hmul⟩ := id h
  obtain ⟨hlen, hMnd, hMf⟩ := mm_M_f hM
  have hcl := mm_M_mul hM
  -- the coset of X
  have cs : ∀ X ∈ M, (P.map (fun A => x_mul A X)).Nodup ∧ ∀ Y ∈ P.map (fun A => x_mul A X), Y ∈ M := fun X hX => by
    obtain ⟨l9, -, i1, -⟩ := hMf X hX
    refine ⟨?_, fun Y hY => ?_⟩
    · rw [List.Nodup, List.pairwise_map]
      refine List.Pairwise.imp_of_mem ?_ hnd
      intro a b ha hb hab z
      have h1 := congrArg (fun z => x_mul z (mm_p11 X)) z
      simp only [mm_assoc, i1] at h1
      rw [mm_mul_one (h.len ha), mm_mul_one (h.len hb)] at h1
      exact hab h1
    · obtain ⟨A, hA, rfl⟩ := List.mem_map.mp hY
      exact hcl A (hsub A hA) X hX
  have own : ∀ X ∈ M, X ∈ P.map (fun A => x_mul A X) := fun X hX => List.mem_map.mpr ⟨x_one, hone, mm_one_mul (hMf X hX).1⟩
  have sw : ∀ X ∈ M, ∀ Y ∈ P.map (fun A => x_mul A X), ∀ Z, Z ∈ P.map (fun A => x_mul A Y) ↔ Z ∈ P.map (fun A => x_mul A X) := fun X hX Y hY Z => by
    obtain ⟨B, hB, rfl⟩ := List.mem_map.mp hY
    obtain ⟨i0, i1, i2⟩ := h.inv hB
    constructor
    · intro hZ
      obtain ⟨A, hA, rfl⟩ := List.mem_map.mp hZ
      exact List.mem_map.mpr ⟨x_mul A B, hmul A hA B hB, mm_assoc _ _ _⟩
    · intro hZ
      obtain ⟨A, hA, rfl⟩ := List.mem_map.mp hZ
      exact List.mem_map.mpr ⟨x_mul A (mm_p11 B), hmul A hA _ i0, by show x_mul (x_mul A (mm_p11 B)) (x_mul B X) = x_mul A X; rw [mm_assoc, ← mm_assoc (mm_p11 B), i2, mm_one_mul (hMf X hX).1]⟩
  let f : List Int32 → List (List Int32) := fun X => M.filter (fun Y => decide (Y ∈ P.map (fun A => x_mul A X)))
  obtain ⟨D, hD, hDm⟩ := mm_ded (M.map f)
  refine ⟨D.length, mm_count f hD (fun b => by rw [hDm b, List.mem_map]) (fun X hX => ?_)⟩
  have e1 : M.countP (fun Y => decide (f Y = f X)) = M.countP (fun Y => decide (Y ∈ P.map (fun A => x_mul A X))) := by
    refine List.countP_congr fun Y hY => ?_
    show decide (f Y = f X) = true ↔ decide (Y ∈ P.map (fun A => x_mul A X)) = true
    rw [decide_eq_true_eq, decide_eq_true_eq]
    constructor
    · intro e
      have h1 : Y ∈ f Y := List.mem_filter.mpr ⟨hY, decide_eq_true (own Y hY)⟩
      rw [e] at h1
      exact of_decide_eq_true (List.mem_filter.mp h1).2
    · intro hin
      show M.filter (fun Z => decide (Z ∈ P.map (fun A => x_mul A Y))) = M.filter (fun Z => decide (Z ∈ P.map (fun A => x_mul A X)))
      refine List.filter_congr fun Z _ => ?_
      have := sw X hX Y hin Z
      by_cases hz : Z ∈ P.map (fun A => x_mul A X)
      · rw [decide_eq_true hz, decide_eq_true (this.mpr hz)]
      · rw [decide_eq_false hz, decide_eq_false (fun z => hz (this.mp z))]
  rw [e1]
  obtain ⟨c1, c2⟩ := cs X hX
  have e2 : (M.filter (fun Y => decide (Y ∈ P.map (fun A => x_mul A X)))).Perm (P.map (fun A => x_mul A X)) := by
    refine (List.perm_ext_iff_of_nodup (List.Pairwise.filter _ hMnd) c1).mpr fun Y => ?_
    rw [List.mem_filter, decide_eq_true_eq]
    exact ⟨fun z => z.2, fun z => ⟨c2 Y z, z⟩⟩
  rw [List.countP_eq_length_filter, e2.length_eq, List.length_map]
end GR
