/-! ===== what the Statement gives of the start ===== -/
theorem s_cls {s : State} {args : Array Value} (hts : ∀ w ∈ x_wd, w.before args s = true) (k : Nat) : ∃ q : ClassId × (Nat → Nat), ∀ e, vwCl[k]? = some e → u_Kn s e.1 e.2.1 e.2.2 q.1 q.2 := by
  have one : ∀ {ci : Nat} {C : String} {T : u_T} {N : Nat} {ty : Nat → FieldType}, x_cls ci C T N ty → Cond.instantiable C N ∈ x_wd → ∃ q : ClassId × (Nat → Nat), ∀ e, vwCl[ci]? = some e → u_Kn s e.1 e.2.1 e.2.2 q.1 q.2 := fun {ci C T N ty} hc hi => by
    obtain ⟨cC, iS, h⟩ := u_known hts hc.2.1 (hts _ hi)
    refine ⟨(cC, iS), fun e he => ?_⟩
    cases hc.1.symm.trans he
    exact h
  match k with
  | 0 => exact one kl_X0 kin_X0
  | 1 => exact one kl_X1 kin_X1
  | 2 => exact one kl_X2 kin_X2
  | 3 => exact one kl_X4 kin_X4
  | 4 => exact one kl_X5 kin_X5
  | 5 => exact one kl_X6 kin_X6
  | 6 => exact one kl_X7 kin_X7
  | 7 => exact one kl_X8 kin_X8
  | 8 => exact one kl_X9 kin_X9
  | 9 => exact one kl_X10 kin_X10
  | 10 => exact one kl_X11 kin_X11
  | 11 => exact one kl_X12 kin_X12
  | k + 12 => exact ⟨(0, fun _ => 0), fun e he => (by simp [vwCl] at he)⟩
theorem s_arr {s : State} {args : Array Value} {ty : FieldType} (h : (Cond.arrayClass ty).before args s = true) : ∃ cA, ArrOfT s cA ty ∧ s.vm.findClass ("[" ++ ty.toString) = some cA := by
  obtain ⟨cA, kA, comp, hfind, hk, hkind⟩ := Cond.arrayClass_spec h
  exact ⟨cA, fun n z => ⟨fun k h => (by cases h), kA, hk, comp, hkind⟩, hfind⟩
theorem s_ow {s : State} {args : Array Value} (hts : ∀ w ∈ lw_tbl, w.before args s = true) : ∀ w ∈ x_ow, va_Nw w s := by
  intro w hw
  obtain ⟨h0, h1⟩ := List.mem_filter.mp hw
  have h2 := hts w h0
  cases w <;> first | (simp [x_isO] at h1; done) | exact va_Nw.of rfl h2
theorem s_strs : ∀ q ∈ x_strs, Cond.stringRef RX11 q.1 q.2 ∈ tables_1 := by decide +kernel
theorem s_ncs : ∀ q ∈ x_ncs, Cond.not (.castable q.1 q.2) ∈ flatC (Jvm.Cond.and given_1 narrow_1) := by decide +kernel
theorem s_rots : ∀ j, j < 72 → Cond.eq (.elem (.static RX8 "ROTATIONS" "[I") (.int (Int32.ofNat j))) (.int (x_rots.getD j 0)) ∈ flatC (Jvm.Cond.and given_1 narrow_1) := by decide +kernel
theorem s_gaps : ∀ j, j < 9 → Cond.eq (.elem (.static RX7 "GAPS" "[I") (.int (Int32.ofNat j))) (.int (x_gaps.getD j 0)) ∈ flatC (Jvm.Cond.and given_1 narrow_1) := by decide +kernel
theorem s_E {s : State} {args : Array Value} (hts : ∀ w ∈ lw_tbl, w.before args s = true) (hgv : (Jvm.Cond.and given_1 narrow_1).before args s = true) : ∃ (D : va_G) (cy : Nat → ClassId) (t1 t2 : Nat), ∀ ad : Nat → Nat, x_E (D, ad, cy, s.heap.size, t1, t2) s s.heap := by
  have hwd : ∀ w ∈ x_wd, w.before args s = true := fun w hw => hts w (x_wd_good w hw).1
  have hs := flat_of_before _ hgv
  obtain ⟨f, hf⟩ := Classical.axiomOfChoice (s_cls hwd)
  obtain ⟨a0, p0, n0⟩ := s_arr (hwd _ kar_int)
  obtain ⟨a1, p1, n1⟩ := s_arr (hwd _ kar_byte)
  obtain ⟨a2, p2, n2⟩ := s_arr (hwd _ kar_boolean)
  obtain ⟨a3, p3, n3⟩ := s_arr (hwd _ kar_long)
  have hA : ∀ a : Nat, a < s.heap.size → ¬ s.heap.size ≤ a := fun a h => Nat.not_le.mpr h
  obtain ⟨t1, e1, T1⟩ := va_Tof (args := args) (s := s) (tm := .static RX8 "ROTATIONS" "[I") (ty := .int) (N := 72) (f := fun j => .int (x_rots.getD j 0)) (A := fun q => s.heap.size ≤ q) (by decide) (hs _ (by decide +kernel)) (va_eqt (hs _ (by decide +kernel))) (fun j hj => va_eqt (hs _ (s_rots j hj))) hA
  obtain ⟨t2, e2, T2⟩ := va_Tof (args := args) (s := s) (tm := .static RX7 "GAPS" "[I") (ty := .int) (N := 9) (f := fun j => .int (x_gaps.getD j 0)) (A := fun q => s.heap.size ≤ q) (by decide) (hs _ (by decide +kernel)) (va_eqt (hs _ (by decide +kernel))) (fun j hj => va_eqt (hs _ (s_gaps j hj))) hA
  have hc11 : ∃ c, s.vm.findClass RX11 = some c := ⟨_, (hf 10 _ rfl).2.1⟩
  refine ⟨(fun k => (f k).1, fun k => (f k).2), fun i => if i = 0 then a0 else if i = 1 then a1 else if i = 2 then a2 else a3, t1, t2, fun ad => ⟨⟨fun k e he => hf k e he, fun k q hk => ?_⟩, s_ow hts, fun q hq => va_Nc.of (hs _ (s_ncs q hq)), fun q hq => ?_, ⟨?_, T1⟩, ⟨?_, T2⟩, ?_, ?_, Nat.le_refl _⟩⟩
  · match k, hk with
    | 0, hk => cases hk; exact ⟨p0, n0⟩
    | 1, hk => cases hk; exact ⟨p1, n1⟩
    | 2, hk => cases hk; exact ⟨p2, n2⟩
    | 3, hk => cases hk; exact ⟨p3, n3⟩
    | k + 4, hk => simp [x_tys] at hk
  · obtain ⟨c11, hc⟩ := hc11
    have h1 := hts _ (List.mem_append_right _ (s_strs q hq))
    obtain ⟨_, _, _, a, _, _, _, _, _, h2⟩ := Cond.stringRef_spec hc h1
    exact ⟨a, vk_R.of h1 h2⟩
  · exact va_Zof (hts _ (List.mem_append_right _ (by decide +kernel))) (hts _ (List.mem_append_right _ (by decide +kernel))) e1 hA
  · exact va_Zof (hts _ (List.mem_append_right _ (by decide +kernel))) (hts _ (List.mem_append_right _ (by decide +kernel))) e2 hA
  · exact vx_Zqof (hts _ (List.mem_append_right _ (by decide +kernel))) (hts _ (List.mem_append_right _ (by decide +kernel))) (hs _ (by decide +kernel)) hA
  · exact vx_Zqof (hts _ (List.mem_append_right _ (by decide +kernel))) (hts _ (List.mem_append_right _ (by decide +kernel))) (hs _ (by decide +kernel)) hA
