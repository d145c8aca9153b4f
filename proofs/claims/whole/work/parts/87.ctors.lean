/-! ===== the constructors ===== -/
theorem b_eq {p : Program} {l : Launch} {e : Env} {R : Room} {s : State} {m : MethodId} {args : Array Value} {below : List Frame} {meth : Method} {c : Code} {cells slots : Nat} {Q : State → Prop} {nL : Nat} {D : va_G} {B : Nat} {pc : Nat} {L : List (Nat × Value)} {st : List Value} {ws ws' : va_W} (h : ws = ws') (kk : b_W p l e R s m args below meth c nL D B cells slots Q pc L st ws') : b_W p l e R s m args below meth c nL D B cells slots Q pc L st ws := by
  rw [h]; exact kk
theorem kit_L : Cond.initialized RL ∈ x_wd := x_wd_in (x_at (i := 0) (by decide +kernel)) rfl
theorem kit_X11 : Cond.initialized RX11 ∈ x_wd := x_wd_in (x_at (i := 1) (by decide +kernel)) rfl
theorem kit_X9 : Cond.initialized RX9 ∈ x_wd := x_wd_in (x_at (i := 2) (by decide +kernel)) rfl
theorem kit_X2 : Cond.initialized RX2 ∈ x_wd := x_wd_in (x_at (i := 3) (by decide +kernel)) rfl
theorem kit_X8 : Cond.initialized RX8 ∈ x_wd := x_wd_in (x_at (i := 4) (by decide +kernel)) rfl
theorem kit_X1 : Cond.initialized RX1 ∈ x_wd := x_wd_in (x_at (i := 5) (by decide +kernel)) rfl
theorem kit_X6 : Cond.initialized RX6 ∈ x_wd := x_wd_in (x_at (i := 6) (by decide +kernel)) rfl
theorem kit_X0 : Cond.initialized RX0 ∈ x_wd := x_wd_in (x_at (i := 7) (by decide +kernel)) rfl
theorem kit_X7 : Cond.initialized RX7 ∈ x_wd := x_wd_in (x_at (i := 8) (by decide +kernel)) rfl
theorem kit_X5 : Cond.initialized RX5 ∈ x_wd := x_wd_in (x_at (i := 9) (by decide +kernel)) rfl
theorem kit_X4 : Cond.initialized RX4 ∈ x_wd := x_wd_in (x_at (i := 10) (by decide +kernel)) rfl
theorem kit_X10 : Cond.initialized RX10 ∈ x_wd := x_wd_in (x_at (i := 11) (by decide +kernel)) rfl
theorem kit_X12 : Cond.initialized RX12 ∈ x_wd := x_wd_in (x_at (i := 12) (by decide +kernel)) rfl
theorem kit_J10 : Cond.initialized RJ10 ∈ x_wd := x_wd_in (x_at (i := 18) (by decide +kernel)) rfl
theorem kit_J9 : Cond.initialized RJ9 ∈ x_wd := x_wd_in (x_at (i := 19) (by decide +kernel)) rfl
theorem kit_X3 : Cond.initialized RX3 ∈ x_wd := x_wd_in (x_at (i := 21) (by decide +kernel)) rfl
theorem kcl_L_8 : Cond.classLink RL 8 RX11 ∈ x_wd := x_wd_in (x_at (i := 22) (by decide +kernel)) rfl
theorem kin_X11 : Cond.instantiable RX11 8 ∈ x_wd := x_wd_in (x_at (i := 23) (by decide +kernel)) rfl
theorem kbi_L_62 : b_KB RL 62 yX11_init cX11_init 1 0 := ⟨kb_X11_init, x_wd_in (x_at (i := 25) (by decide +kernel)) rfl, rfl, Or.inl (x_wd_in (x_at (i := 24) (by decide +kernel)) rfl)⟩
theorem koi_X11 : Cond.methodLink RX11 1 objectInit ∈ x_wd := x_wd_in (x_at (i := 27) (by decide +kernel)) rfl
theorem koi_i : Cond.instanceMethod objectInit ∈ x_wd := x_wd_in (x_at (i := 28) (by decide +kernel)) rfl
theorem koi_c : Cond.code objectInit ⟨#[0xb1]⟩ 1 none ∈ x_wd := x_wd_in (x_at (i := 29) (by decide +kernel)) rfl
theorem kcl_X11_7 : Cond.classLink RX11 7 RX9 ∈ x_wd := x_wd_in (x_at (i := 30) (by decide +kernel)) rfl
theorem kin_X9 : Cond.instantiable RX9 2 ∈ x_wd := x_wd_in (x_at (i := 31) (by decide +kernel)) rfl
theorem kbi_X11_9 : b_KB RX11 9 yX9_init cX9_init 1 0 := ⟨kb_X9_init, x_wd_in (x_at (i := 33) (by decide +kernel)) rfl, rfl, Or.inr ⟨"ReflectionReducer", x_ow_in (x_at (i := 32) (by decide +kernel)) rfl⟩⟩
theorem koi_X9 : Cond.methodLink RX9 3 objectInit ∈ x_wd := x_wd_in (x_at (i := 35) (by decide +kernel)) rfl
theorem kar_byte : Cond.arrayClass .byte ∈ x_wd := x_wd_in (x_at (i := 46) (by decide +kernel)) rfl
theorem kcl_X11_16 : Cond.classLink RX11 16 RX2 ∈ x_wd := x_wd_in (x_at (i := 47) (by decide +kernel)) rfl
theorem kin_X2 : Cond.instantiable RX2 6 ∈ x_wd := x_wd_in (x_at (i := 48) (by decide +kernel)) rfl
theorem kbi_X11_18 : b_KB RX11 18 yX2_init cX2_init 1 0 := ⟨kb_X2_init, x_wd_in (x_at (i := 50) (by decide +kernel)) rfl, rfl, Or.inr ⟨"ReflectionReducer", x_ow_in (x_at (i := 49) (by decide +kernel)) rfl⟩⟩
theorem koi_X2 : Cond.methodLink RX2 3 objectInit ∈ x_wd := x_wd_in (x_at (i := 52) (by decide +kernel)) rfl
theorem kar_int : Cond.arrayClass .int ∈ x_wd := x_wd_in (x_at (i := 74) (by decide +kernel)) rfl
theorem kcl_X11_23 : Cond.classLink RX11 23 RX8 ∈ x_wd := x_wd_in (x_at (i := 75) (by decide +kernel)) rfl
theorem kin_X8 : Cond.instantiable RX8 7 ∈ x_wd := x_wd_in (x_at (i := 76) (by decide +kernel)) rfl
theorem kbi_X11_25 : b_KB RX11 25 yX8_init cX8_init 3 2 := ⟨kb_X8_init, x_wd_in (x_at (i := 78) (by decide +kernel)) rfl, rfl, Or.inl (x_wd_in (x_at (i := 77) (by decide +kernel)) rfl)⟩
theorem koi_X8 : Cond.methodLink RX8 3 objectInit ∈ x_wd := x_wd_in (x_at (i := 80) (by decide +kernel)) rfl
theorem kcl_X11_32 : Cond.classLink RX11 32 RX1 ∈ x_wd := x_wd_in (x_at (i := 104) (by decide +kernel)) rfl
theorem kin_X1 : Cond.instantiable RX1 6 ∈ x_wd := x_wd_in (x_at (i := 105) (by decide +kernel)) rfl
theorem kbi_X11_34 : b_KB RX11 34 yX1_init cX1_init 1 0 := ⟨kb_X1_init, x_wd_in (x_at (i := 107) (by decide +kernel)) rfl, rfl, Or.inr ⟨"ReflectionReducer", x_ow_in (x_at (i := 106) (by decide +kernel)) rfl⟩⟩
theorem koi_X1 : Cond.methodLink RX1 5 objectInit ∈ x_wd := x_wd_in (x_at (i := 109) (by decide +kernel)) rfl
theorem kcl_X11_39 : Cond.classLink RX11 39 RX6 ∈ x_wd := x_wd_in (x_at (i := 130) (by decide +kernel)) rfl
theorem kin_X6 : Cond.instantiable RX6 4 ∈ x_wd := x_wd_in (x_at (i := 131) (by decide +kernel)) rfl
theorem kbi_X11_41 : b_KB RX11 41 yX6_init cX6_init 1 0 := ⟨kb_X6_init, x_wd_in (x_at (i := 133) (by decide +kernel)) rfl, rfl, Or.inr ⟨"ReflectionReducer", x_ow_in (x_at (i := 132) (by decide +kernel)) rfl⟩⟩
theorem koi_X6 : Cond.methodLink RX6 3 objectInit ∈ x_wd := x_wd_in (x_at (i := 135) (by decide +kernel)) rfl
theorem kcl_X11_46 : Cond.classLink RX11 46 RX0 ∈ x_wd := x_wd_in (x_at (i := 158) (by decide +kernel)) rfl
theorem kin_X0 : Cond.instantiable RX0 8 ∈ x_wd := x_wd_in (x_at (i := 159) (by decide +kernel)) rfl
theorem kbi_X11_48 : b_KB RX11 48 yX0_init cX0_init 3 2 := ⟨kb_X0_init, x_wd_in (x_at (i := 161) (by decide +kernel)) rfl, rfl, Or.inl (x_wd_in (x_at (i := 160) (by decide +kernel)) rfl)⟩
theorem koi_X0 : Cond.methodLink RX0 3 objectInit ∈ x_wd := x_wd_in (x_at (i := 163) (by decide +kernel)) rfl
theorem kcl_X11_55 : Cond.classLink RX11 55 RX7 ∈ x_wd := x_wd_in (x_at (i := 189) (by decide +kernel)) rfl
theorem kin_X7 : Cond.instantiable RX7 9 ∈ x_wd := x_wd_in (x_at (i := 190) (by decide +kernel)) rfl
theorem kbi_X11_57 : b_KB RX11 57 yX7_init cX7_init 1 0 := ⟨kb_X7_init, x_wd_in (x_at (i := 192) (by decide +kernel)) rfl, rfl, Or.inr ⟨"ReflectionReducer", x_ow_in (x_at (i := 191) (by decide +kernel)) rfl⟩⟩
theorem koi_X7 : Cond.methodLink RX7 3 objectInit ∈ x_wd := x_wd_in (x_at (i := 194) (by decide +kernel)) rfl
theorem kcl_X7_35 : Cond.classLink RX7 35 RX5 ∈ x_wd := x_wd_in (x_at (i := 195) (by decide +kernel)) rfl
theorem kin_X5 : Cond.instantiable RX5 5 ∈ x_wd := x_wd_in (x_at (i := 196) (by decide +kernel)) rfl
theorem kbi_X7_37 : b_KB RX7 37 yX5_init cX5_init 1 0 := ⟨kb_X5_init, x_wd_in (x_at (i := 198) (by decide +kernel)) rfl, rfl, Or.inr ⟨"ReflectionReducer", x_ow_in (x_at (i := 197) (by decide +kernel)) rfl⟩⟩
theorem koi_X5 : Cond.methodLink RX5 1 objectInit ∈ x_wd := x_wd_in (x_at (i := 200) (by decide +kernel)) rfl
theorem kcl_X5_7 : Cond.classLink RX5 7 RX4 ∈ x_wd := x_wd_in (x_at (i := 201) (by decide +kernel)) rfl
theorem kin_X4 : Cond.instantiable RX4 1 ∈ x_wd := x_wd_in (x_at (i := 202) (by decide +kernel)) rfl
theorem kbi_X5_9 : b_KB RX5 9 yX4_init cX4_init 1 0 := ⟨kb_X4_init, x_wd_in (x_at (i := 204) (by decide +kernel)) rfl, rfl, Or.inr ⟨"ReflectionReducer", x_ow_in (x_at (i := 203) (by decide +kernel)) rfl⟩⟩
theorem koi_X4 : Cond.methodLink RX4 1 objectInit ∈ x_wd := x_wd_in (x_at (i := 206) (by decide +kernel)) rfl
theorem kar_long : Cond.arrayClass .long ∈ x_wd := x_wd_in (x_at (i := 211) (by decide +kernel)) rfl
theorem kar_boolean : Cond.arrayClass .boolean ∈ x_wd := x_wd_in (x_at (i := 212) (by decide +kernel)) rfl
theorem kcl_X11_62 : Cond.classLink RX11 62 RX10 ∈ x_wd := x_wd_in (x_at (i := 260) (by decide +kernel)) rfl
theorem kin_X10 : Cond.instantiable RX10 2 ∈ x_wd := x_wd_in (x_at (i := 261) (by decide +kernel)) rfl
theorem kbi_X11_64 : b_KB RX11 64 yX10_init cX10_init 1 0 := ⟨kb_X10_init, x_wd_in (x_at (i := 263) (by decide +kernel)) rfl, rfl, Or.inr ⟨"ReflectionReducer", x_ow_in (x_at (i := 262) (by decide +kernel)) rfl⟩⟩
theorem koi_X10 : Cond.methodLink RX10 3 objectInit ∈ x_wd := x_wd_in (x_at (i := 265) (by decide +kernel)) rfl
theorem kcl_L_63 : Cond.classLink RL 63 RX12 ∈ x_wd := x_wd_in (x_at (i := 947) (by decide +kernel)) rfl
theorem kin_X12 : Cond.instantiable RX12 40 ∈ x_wd := x_wd_in (x_at (i := 948) (by decide +kernel)) rfl
theorem kbi_L_65 : b_KB RL 65 yX12_init cX12_init 1 0 := ⟨kb_X12_init, x_wd_in (x_at (i := 950) (by decide +kernel)) rfl, rfl, Or.inl (x_wd_in (x_at (i := 949) (by decide +kernel)) rfl)⟩
theorem koi_X12 : Cond.methodLink RX12 1 objectInit ∈ x_wd := x_wd_in (x_at (i := 952) (by decide +kernel)) rfl
theorem kfl_X4_9 : Cond.fieldLink RX4 9 (TX4 0).1 (TX4 0).2.1 (TX4 0).2.2.1 ∈ x_wd := x_wd_in (x_at (i := 207) (by decide +kernel)) rfl
set_option maxRecDepth 100000 in
set_option maxHeartbeats 1000000 in
theorem bc_X4 (l : Launch) (D : va_G) (cy : Nat → ClassId) (B : Nat) (w0 : va_W) (h : Nat) : b_M l yX4_init cX4_init 1 1 1 20 D cy B [.ref h] (w0 ++ [(h, .inr (3, [.null]))]) (fun ws' => ∃ q1, ws' = w0 ++ [(h, .inr (3, [.ref q1])), (q1, b_ar cy 0 20)]) := by
  refine b_start (by decide) (Nat.le_of_ble_eq_true rfl) ?_
  intro xp xe xs xm xg xb xt xc C xr xk xm9
  refine b_aload C dX4_init_0 rfl (List.mem_of_getElem? (i := 0) rfl) ?_
  refine b_obj C koi_X4 koi_i koi_c dX4_init_1 ⟨by decide, by decide⟩ ?_
  refine b_aload C dX4_init_4 rfl (List.mem_of_getElem? (i := 0) rfl) ?_
  refine b_bipush C (nI 20) dX4_init_5 rfl ?_
  refine b_newa C (atype := .int) (i := 0) (N := 20) (by decide) rfl kar_int (by decide) (by decide) (by decide) dX4_init_7 (fun q1 => ?_)
  refine b_eq (ws' := w0 ++ [(h, .inr (3, [.null])), (q1, b_ar cy 0 20)]) (List.append_assoc _ _ _) ?_
  refine b_putF C xm9 kl_X4 0 rfl 0 (by decide) kfl_X4_9 rfl rfl rfl rfl (Nat.le_of_ble_eq_true rfl) dX4_init_9 ?_
  refine b_eq (ws' := w0 ++ [(h, .inr (3, [.ref q1])), (q1, b_ar cy 0 20)]) rfl ?_
  exact b_ret C xr xk dX4_init_12 ⟨_, rfl⟩
theorem kfl_X5_10 : Cond.fieldLink RX5 10 (TX5 0).1 (TX5 0).2.1 (TX5 0).2.2.1 ∈ x_wd := x_wd_in (x_at (i := 213) (by decide +kernel)) rfl
theorem kfl_X5_16 : Cond.fieldLink RX5 16 (TX5 1).1 (TX5 1).2.1 (TX5 1).2.2.1 ∈ x_wd := x_wd_in (x_at (i := 214) (by decide +kernel)) rfl
theorem kfl_X5_19 : Cond.fieldLink RX5 19 (TX5 2).1 (TX5 2).2.1 (TX5 2).2.2.1 ∈ x_wd := x_wd_in (x_at (i := 215) (by decide +kernel)) rfl
set_option maxRecDepth 100000 in
set_option maxHeartbeats 1000000 in
theorem bc_X5 (l : Launch) (D : va_G) (cy : Nat → ClassId) (B : Nat) (w0 : va_W) (h : Nat) : b_M l yX5_init cX5_init 1 2 6 63 D cy B [.ref h] (w0 ++ [(h, .inr (4, [.null, .null, .null, .int 0, .int 0]))]) (fun ws' => ∃ q1 q2 q3 q4 q5 q6, ws' = w0 ++ [(h, .inr (4, [.ref q1, .ref q3, .ref q5, .int 0, .int 0])), (q1, .inr (3, [.ref q2])), (q2, b_ar cy 0 20), (q3, .inr (3, [.ref q4])), (q4, b_ar cy 0 20), (q5, .inr (3, [.ref q6])), (q6, b_ar cy 0 20)]) := by
  refine b_start (by decide) (Nat.le_of_ble_eq_true rfl) ?_
  intro xp xe xs xm xg xb xt xc C xr xk xm9
  refine b_aload C dX5_init_0 rfl (List.mem_of_getElem? (i := 0) rfl) ?_
  refine b_obj C koi_X5 koi_i koi_c dX5_init_1 ⟨by decide, by decide⟩ ?_
  refine b_aload C dX5_init_4 rfl (List.mem_of_getElem? (i := 0) rfl) ?_
  refine b_new C (fs := [.null]) kl_X4 kcl_X5_7 kin_X4 kit_X4 (by
    intro j hj
    rcases (show j = 0 by omega) with rfl <;> rfl) (by decide) (by decide) dX5_init_5 (fun q1 => ?_)
  refine b_dup C dX5_init_8 ?_
  refine b_call C (as := []) (st := [.ref q1, .ref h]) (bc_X4 l D cy B (w0 ++ [(h, .inr (4, [.null, .null, .null, .int 0, .int 0]))]) q1) kbi_X5_9 dX5_init_9 rfl rfl (Nat.le_of_ble_eq_true rfl) ⟨by decide, by decide⟩ ⟨by decide, by decide⟩ ?_
  rintro _ ⟨q2, rfl⟩
  refine b_eq (ws' := w0 ++ [(h, .inr (4, [.null, .null, .null, .int 0, .int 0])), (q1, .inr (3, [.ref q2])), (q2, b_ar cy 0 20)]) (List.append_assoc _ _ _) ?_
  refine b_putF C xm9 kl_X5 0 rfl 0 (by decide) kfl_X5_10 rfl rfl rfl rfl (Nat.le_of_ble_eq_true rfl) dX5_init_12 ?_
  refine b_eq (ws' := w0 ++ [(h, .inr (4, [.ref q1, .null, .null, .int 0, .int 0])), (q1, .inr (3, [.ref q2])), (q2, b_ar cy 0 20)]) rfl ?_
  refine b_aload C dX5_init_15 rfl (List.mem_of_getElem? (i := 0) rfl) ?_
  refine b_new C (fs := [.null]) kl_X4 kcl_X5_7 kin_X4 kit_X4 (by
    intro j hj
    rcases (show j = 0 by omega) with rfl <;> rfl) (by decide) (by decide) dX5_init_16 (fun q3 => ?_)
  refine b_dup C dX5_init_19 ?_
  refine b_call C (as := []) (st := [.ref q3, .ref h]) (bc_X4 l D cy B (w0 ++ [(h, .inr (4, [.ref q1, .null, .null, .int 0, .int 0])), (q1, .inr (3, [.ref q2])), (q2, b_ar cy 0 20)]) q3) kbi_X5_9 dX5_init_20 rfl rfl (Nat.le_of_ble_eq_true rfl) ⟨by decide, by decide⟩ ⟨by decide, by decide⟩ ?_
  rintro _ ⟨q4, rfl⟩
  refine b_eq (ws' := w0 ++ [(h, .inr (4, [.ref q1, .null, .null, .int 0, .int 0])), (q1, .inr (3, [.ref q2])), (q2, b_ar cy 0 20), (q3, .inr (3, [.ref q4])), (q4, b_ar cy 0 20)]) (List.append_assoc _ _ _) ?_
  refine b_putF C xm9 kl_X5 0 rfl 1 (by decide) kfl_X5_16 rfl rfl rfl rfl (Nat.le_of_ble_eq_true rfl) dX5_init_23 ?_
  refine b_eq (ws' := w0 ++ [(h, .inr (4, [.ref q1, .ref q3, .null, .int 0, .int 0])), (q1, .inr (3, [.ref q2])), (q2, b_ar cy 0 20), (q3, .inr (3, [.ref q4])), (q4, b_ar cy 0 20)]) rfl ?_
  refine b_aload C dX5_init_26 rfl (List.mem_of_getElem? (i := 0) rfl) ?_
  refine b_new C (fs := [.null]) kl_X4 kcl_X5_7 kin_X4 kit_X4 (by
    intro j hj
    rcases (show j = 0 by omega) with rfl <;> rfl) (by decide) (by decide) dX5_init_27 (fun q5 => ?_)
  refine b_dup C dX5_init_30 ?_
  refine b_call C (as := []) (st := [.ref q5, .ref h]) (bc_X4 l D cy B (w0 ++ [(h, .inr (4, [.ref q1, .ref q3, .null, .int 0, .int 0])), (q1, .inr (3, [.ref q2])), (q2, b_ar cy 0 20), (q3, .inr (3, [.ref q4])), (q4, b_ar cy 0 20)]) q5) kbi_X5_9 dX5_init_31 rfl rfl (Nat.le_of_ble_eq_true rfl) ⟨by decide, by decide⟩ ⟨by decide, by decide⟩ ?_
  rintro _ ⟨q6, rfl⟩
  refine b_eq (ws' := w0 ++ [(h, .inr (4, [.ref q1, .ref q3, .null, .int 0, .int 0])), (q1, .inr (3, [.ref q2])), (q2, b_ar cy 0 20), (q3, .inr (3, [.ref q4])), (q4, b_ar cy 0 20), (q5, .inr (3, [.ref q6])), (q6, b_ar cy 0 20)]) (List.append_assoc _ _ _) ?_
  refine b_putF C xm9 kl_X5 0 rfl 2 (by decide) kfl_X5_19 rfl rfl rfl rfl (Nat.le_of_ble_eq_true rfl) dX5_init_34 ?_
  refine b_eq (ws' := w0 ++ [(h, .inr (4, [.ref q1, .ref q3, .ref q5, .int 0, .int 0])), (q1, .inr (3, [.ref q2])), (q2, b_ar cy 0 20), (q3, .inr (3, [.ref q4])), (q4, b_ar cy 0 20), (q5, .inr (3, [.ref q6])), (q6, b_ar cy 0 20)]) rfl ?_
  exact b_ret C xr xk dX5_init_37 ⟨_, _, _, _, _, _, rfl⟩
theorem kfl_X9_9 : Cond.fieldLink RX9 9 (TX9 0).1 (TX9 0).2.1 (TX9 0).2.2.1 ∈ x_wd := x_wd_in (x_at (i := 36) (by decide +kernel)) rfl
set_option maxRecDepth 100000 in
set_option maxHeartbeats 1000000 in
theorem bc_X9 (l : Launch) (D : va_G) (cy : Nat → ClassId) (B : Nat) (w0 : va_W) (h : Nat) : b_M l yX9_init cX9_init 1 1 1 8000 D cy B [.ref h] (w0 ++ [(h, .inr (8, [.null, .int 0]))]) (fun ws' => ∃ q1, ws' = w0 ++ [(h, .inr (8, [.ref q1, .int 0])), (q1, b_ar cy 1 8000)]) := by
  refine b_start (by decide) (Nat.le_of_ble_eq_true rfl) ?_
  intro xp xe xs xm xg xb xt xc C xr xk xm9
  refine b_aload C dX9_init_0 rfl (List.mem_of_getElem? (i := 0) rfl) ?_
  refine b_obj C koi_X9 koi_i koi_c dX9_init_1 ⟨by decide, by decide⟩ ?_
  refine b_aload C dX9_init_4 rfl (List.mem_of_getElem? (i := 0) rfl) ?_
  refine b_sipush C (nI 8000) dX9_init_5 rfl ?_
  refine b_newa C (atype := .byte) (i := 1) (N := 8000) (by decide) rfl kar_byte (by decide) (by decide) (by decide) dX9_init_8 (fun q1 => ?_)
  refine b_eq (ws' := w0 ++ [(h, .inr (8, [.null, .int 0])), (q1, b_ar cy 1 8000)]) (List.append_assoc _ _ _) ?_
  refine b_putF C xm9 kl_X9 0 rfl 0 (by decide) kfl_X9_9 rfl rfl rfl rfl (Nat.le_of_ble_eq_true rfl) dX9_init_10 ?_
  refine b_eq (ws' := w0 ++ [(h, .inr (8, [.ref q1, .int 0])), (q1, b_ar cy 1 8000)]) rfl ?_
  exact b_ret C xr xk dX9_init_13 ⟨_, rfl⟩
theorem kfl_X2_13 : Cond.fieldLink RX2 13 (TX2 0).1 (TX2 0).2.1 (TX2 0).2.2.1 ∈ x_wd := x_wd_in (x_at (i := 53) (by decide +kernel)) rfl
theorem kfl_X2_17 : Cond.fieldLink RX2 17 (TX2 1).1 (TX2 1).2.1 (TX2 1).2.2.1 ∈ x_wd := x_wd_in (x_at (i := 54) (by decide +kernel)) rfl
theorem kfl_X2_20 : Cond.fieldLink RX2 20 (TX2 2).1 (TX2 2).2.1 (TX2 2).2.2.1 ∈ x_wd := x_wd_in (x_at (i := 55) (by decide +kernel)) rfl
theorem kfl_X2_23 : Cond.fieldLink RX2 23 (TX2 3).1 (TX2 3).2.1 (TX2 3).2.2.1 ∈ x_wd := x_wd_in (x_at (i := 57) (by decide +kernel)) rfl
set_option maxRecDepth 100000 in
set_option maxHeartbeats 1000000 in
theorem bc_X2 (l : Launch) (D : va_G) (cy : Nat → ClassId) (B : Nat) (w0 : va_W) (h : Nat) : b_M l yX2_init cX2_init 1 1 4 492 D cy B [.ref h] (w0 ++ [(h, .inr (2, [.null, .null, .null, .null, .int 0, .int 0]))]) (fun ws' => ∃ q1 q2 q3 q4, ws' = w0 ++ [(h, .inr (2, [.ref q1, .ref q2, .ref q3, .ref q4, .int 0, .int 0])), (q1, b_ar cy 0 96), (q2, b_ar cy 0 192), (q3, b_ar cy 0 192), (q4, b_ar cy 0 12)]) := by
  refine b_start (by decide) (Nat.le_of_ble_eq_true rfl) ?_
  intro xp xe xs xm xg xb xt xc C xr xk xm9
  refine b_aload C dX2_init_0 rfl (List.mem_of_getElem? (i := 0) rfl) ?_
  refine b_obj C koi_X2 koi_i koi_c dX2_init_1 ⟨by decide, by decide⟩ ?_
  refine b_aload C dX2_init_4 rfl (List.mem_of_getElem? (i := 0) rfl) ?_
  refine b_bipush C (nI 96) dX2_init_5 rfl ?_
  refine b_newa C (atype := .int) (i := 0) (N := 96) (by decide) rfl kar_int (by decide) (by decide) (by decide) dX2_init_7 (fun q1 => ?_)
  refine b_eq (ws' := w0 ++ [(h, .inr (2, [.null, .null, .null, .null, .int 0, .int 0])), (q1, b_ar cy 0 96)]) (List.append_assoc _ _ _) ?_
  refine b_putF C xm9 kl_X2 0 rfl 0 (by decide) kfl_X2_13 rfl rfl rfl rfl (Nat.le_of_ble_eq_true rfl) dX2_init_9 ?_
  refine b_eq (ws' := w0 ++ [(h, .inr (2, [.ref q1, .null, .null, .null, .int 0, .int 0])), (q1, b_ar cy 0 96)]) rfl ?_
  refine b_aload C dX2_init_12 rfl (List.mem_of_getElem? (i := 0) rfl) ?_
  refine b_sipush C (nI 192) dX2_init_13 rfl ?_
  refine b_newa C (atype := .int) (i := 0) (N := 192) (by decide) rfl kar_int (by decide) (by decide) (by decide) dX2_init_16 (fun q2 => ?_)
  refine b_eq (ws' := w0 ++ [(h, .inr (2, [.ref q1, .null, .null, .null, .int 0, .int 0])), (q1, b_ar cy 0 96), (q2, b_ar cy 0 192)]) (List.append_assoc _ _ _) ?_
  refine b_putF C xm9 kl_X2 0 rfl 1 (by decide) kfl_X2_17 rfl rfl rfl rfl (Nat.le_of_ble_eq_true rfl) dX2_init_18 ?_
  refine b_eq (ws' := w0 ++ [(h, .inr (2, [.ref q1, .ref q2, .null, .null, .int 0, .int 0])), (q1, b_ar cy 0 96), (q2, b_ar cy 0 192)]) rfl ?_
  refine b_aload C dX2_init_21 rfl (List.mem_of_getElem? (i := 0) rfl) ?_
  refine b_sipush C (nI 192) dX2_init_22 rfl ?_
  refine b_newa C (atype := .int) (i := 0) (N := 192) (by decide) rfl kar_int (by decide) (by decide) (by decide) dX2_init_25 (fun q3 => ?_)
  refine b_eq (ws' := w0 ++ [(h, .inr (2, [.ref q1, .ref q2, .null, .null, .int 0, .int 0])), (q1, b_ar cy 0 96), (q2, b_ar cy 0 192), (q3, b_ar cy 0 192)]) (List.append_assoc _ _ _) ?_
  refine b_putF C xm9 kl_X2 0 rfl 2 (by decide) kfl_X2_20 rfl rfl rfl rfl (Nat.le_of_ble_eq_true rfl) dX2_init_27 ?_
  refine b_eq (ws' := w0 ++ [(h, .inr (2, [.ref q1, .ref q2, .ref q3, .null, .int 0, .int 0])), (q1, b_ar cy 0 96), (q2, b_ar cy 0 192), (q3, b_ar cy 0 192)]) rfl ?_
  refine b_aload C dX2_init_30 rfl (List.mem_of_getElem? (i := 0) rfl) ?_
  refine b_bipush C (nI 12) dX2_init_31 rfl ?_
  refine b_newa C (atype := .int) (i := 0) (N := 12) (by decide) rfl kar_int (by decide) (by decide) (by decide) dX2_init_33 (fun q4 => ?_)
  refine b_eq (ws' := w0 ++ [(h, .inr (2, [.ref q1, .ref q2, .ref q3, .null, .int 0, .int 0])), (q1, b_ar cy 0 96), (q2, b_ar cy 0 192), (q3, b_ar cy 0 192), (q4, b_ar cy 0 12)]) (List.append_assoc _ _ _) ?_
  refine b_putF C xm9 kl_X2 0 rfl 3 (by decide) kfl_X2_23 rfl rfl rfl rfl (Nat.le_of_ble_eq_true rfl) dX2_init_35 ?_
  refine b_eq (ws' := w0 ++ [(h, .inr (2, [.ref q1, .ref q2, .ref q3, .ref q4, .int 0, .int 0])), (q1, b_ar cy 0 96), (q2, b_ar cy 0 192), (q3, b_ar cy 0 192), (q4, b_ar cy 0 12)]) rfl ?_
  exact b_ret C xr xk dX2_init_38 ⟨_, _, _, _, rfl⟩
theorem kfl_X8_11 : Cond.fieldLink RX8 11 (TX8 2).1 (TX8 2).2.1 (TX8 2).2.2.1 ∈ x_wd := x_wd_in (x_at (i := 83) (by decide +kernel)) rfl
theorem kfl_X8_17 : Cond.fieldLink RX8 17 (TX8 0).1 (TX8 0).2.1 (TX8 0).2.2.1 ∈ x_wd := x_wd_in (x_at (i := 81) (by decide +kernel)) rfl
theorem kfl_X8_21 : Cond.fieldLink RX8 21 (TX8 1).1 (TX8 1).2.1 (TX8 1).2.2.1 ∈ x_wd := x_wd_in (x_at (i := 82) (by decide +kernel)) rfl
set_option maxRecDepth 100000 in
set_option maxHeartbeats 1000000 in
theorem bc_X8 (l : Launch) (D : va_G) (cy : Nat → ClassId) (B : Nat) (w0 : va_W) (h a1 a2 : Nat) : b_M l yX8_init cX8_init 3 1 1 12 D cy B [.ref h, .ref a1, .ref a2] (w0 ++ [(h, .inr (7, [.null, .null, .null, .int 0, .int 0, .int 0, .int 0]))]) (fun ws' => ∃ q1, ws' = w0 ++ [(h, .inr (7, [.ref a1, .ref a2, .ref q1, .int 0, .int 0, .int 0, .int 0])), (q1, b_ar cy 0 12)]) := by
  refine b_start (by decide) (Nat.le_of_ble_eq_true rfl) ?_
  intro xp xe xs xm xg xb xt xc C xr xk xm9
  refine b_aload C dX8_init_0 rfl (List.mem_of_getElem? (i := 0) rfl) ?_
  refine b_obj C koi_X8 koi_i koi_c dX8_init_1 ⟨by decide, by decide⟩ ?_
  refine b_aload C dX8_init_4 rfl (List.mem_of_getElem? (i := 0) rfl) ?_
  refine b_bipush C (nI 12) dX8_init_5 rfl ?_
  refine b_newa C (atype := .int) (i := 0) (N := 12) (by decide) rfl kar_int (by decide) (by decide) (by decide) dX8_init_7 (fun q1 => ?_)
  refine b_eq (ws' := w0 ++ [(h, .inr (7, [.null, .null, .null, .int 0, .int 0, .int 0, .int 0])), (q1, b_ar cy 0 12)]) (List.append_assoc _ _ _) ?_
  refine b_putF C xm9 kl_X8 0 rfl 2 (by decide) kfl_X8_11 rfl rfl rfl rfl (Nat.le_of_ble_eq_true rfl) dX8_init_9 ?_
  refine b_eq (ws' := w0 ++ [(h, .inr (7, [.null, .null, .ref q1, .int 0, .int 0, .int 0, .int 0])), (q1, b_ar cy 0 12)]) rfl ?_
  refine b_aload C dX8_init_12 rfl (List.mem_of_getElem? (i := 0) rfl) ?_
  refine b_aload C dX8_init_13 rfl (List.mem_of_getElem? (i := 1) rfl) ?_
  refine b_putF C xm9 kl_X8 0 rfl 0 (by decide) kfl_X8_17 rfl rfl rfl rfl (Nat.le_of_ble_eq_true rfl) dX8_init_14 ?_
  refine b_eq (ws' := w0 ++ [(h, .inr (7, [.ref a1, .null, .ref q1, .int 0, .int 0, .int 0, .int 0])), (q1, b_ar cy 0 12)]) rfl ?_
  refine b_aload C dX8_init_17 rfl (List.mem_of_getElem? (i := 0) rfl) ?_
  refine b_aload C dX8_init_18 rfl (List.mem_of_getElem? (i := 2) rfl) ?_
  refine b_putF C xm9 kl_X8 0 rfl 1 (by decide) kfl_X8_21 rfl rfl rfl rfl (Nat.le_of_ble_eq_true rfl) dX8_init_19 ?_
  refine b_eq (ws' := w0 ++ [(h, .inr (7, [.ref a1, .ref a2, .ref q1, .int 0, .int 0, .int 0, .int 0])), (q1, b_ar cy 0 12)]) rfl ?_
  exact b_ret C xr xk dX8_init_22 ⟨_, rfl⟩
theorem kfl_X1_11 : Cond.fieldLink RX1 11 (TX1 0).1 (TX1 0).2.1 (TX1 0).2.2.1 ∈ x_wd := x_wd_in (x_at (i := 110) (by decide +kernel)) rfl
theorem kfl_X1_15 : Cond.fieldLink RX1 15 (TX1 1).1 (TX1 1).2.1 (TX1 1).2.2.1 ∈ x_wd := x_wd_in (x_at (i := 111) (by decide +kernel)) rfl
theorem kfl_X1_18 : Cond.fieldLink RX1 18 (TX1 2).1 (TX1 2).2.1 (TX1 2).2.2.1 ∈ x_wd := x_wd_in (x_at (i := 112) (by decide +kernel)) rfl
theorem kfl_X1_21 : Cond.fieldLink RX1 21 (TX1 3).1 (TX1 3).2.1 (TX1 3).2.2.1 ∈ x_wd := x_wd_in (x_at (i := 113) (by decide +kernel)) rfl
set_option maxRecDepth 100000 in
set_option maxHeartbeats 1000000 in
theorem bc_X1 (l : Launch) (D : va_G) (cy : Nat → ClassId) (B : Nat) (w0 : va_W) (h : Nat) : b_M l yX1_init cX1_init 1 1 4 4992 D cy B [.ref h] (w0 ++ [(h, .inr (1, [.null, .null, .null, .null, .int 0, .int 0]))]) (fun ws' => ∃ q1 q2 q3 q4, ws' = w0 ++ [(h, .inr (1, [.ref q1, .ref q2, .ref q3, .ref q4, .int 0, .int 0])), (q1, b_ar cy 0 192), (q2, b_ar cy 0 2304), (q3, b_ar cy 0 2304), (q4, b_ar cy 0 192)]) := by
  refine b_start (by decide) (Nat.le_of_ble_eq_true rfl) ?_
  intro xp xe xs xm xg xb xt xc C xr xk xm9
  refine b_aload C dX1_init_0 rfl (List.mem_of_getElem? (i := 0) rfl) ?_
  refine b_obj C koi_X1 koi_i koi_c dX1_init_1 ⟨by decide, by decide⟩ ?_
  refine b_aload C dX1_init_4 rfl (List.mem_of_getElem? (i := 0) rfl) ?_
  refine b_sipush C (nI 192) dX1_init_5 rfl ?_
  refine b_newa C (atype := .int) (i := 0) (N := 192) (by decide) rfl kar_int (by decide) (by decide) (by decide) dX1_init_8 (fun q1 => ?_)
  refine b_eq (ws' := w0 ++ [(h, .inr (1, [.null, .null, .null, .null, .int 0, .int 0])), (q1, b_ar cy 0 192)]) (List.append_assoc _ _ _) ?_
  refine b_putF C xm9 kl_X1 0 rfl 0 (by decide) kfl_X1_11 rfl rfl rfl rfl (Nat.le_of_ble_eq_true rfl) dX1_init_10 ?_
  refine b_eq (ws' := w0 ++ [(h, .inr (1, [.ref q1, .null, .null, .null, .int 0, .int 0])), (q1, b_ar cy 0 192)]) rfl ?_
  refine b_aload C dX1_init_13 rfl (List.mem_of_getElem? (i := 0) rfl) ?_
  refine b_sipush C (nI 2304) dX1_init_14 rfl ?_
  refine b_newa C (atype := .int) (i := 0) (N := 2304) (by decide) rfl kar_int (by decide) (by decide) (by decide) dX1_init_17 (fun q2 => ?_)
  refine b_eq (ws' := w0 ++ [(h, .inr (1, [.ref q1, .null, .null, .null, .int 0, .int 0])), (q1, b_ar cy 0 192), (q2, b_ar cy 0 2304)]) (List.append_assoc _ _ _) ?_
  refine b_putF C xm9 kl_X1 0 rfl 1 (by decide) kfl_X1_15 rfl rfl rfl rfl (Nat.le_of_ble_eq_true rfl) dX1_init_19 ?_
  refine b_eq (ws' := w0 ++ [(h, .inr (1, [.ref q1, .ref q2, .null, .null, .int 0, .int 0])), (q1, b_ar cy 0 192), (q2, b_ar cy 0 2304)]) rfl ?_
  refine b_aload C dX1_init_22 rfl (List.mem_of_getElem? (i := 0) rfl) ?_
  refine b_sipush C (nI 2304) dX1_init_23 rfl ?_
  refine b_newa C (atype := .int) (i := 0) (N := 2304) (by decide) rfl kar_int (by decide) (by decide) (by decide) dX1_init_26 (fun q3 => ?_)
  refine b_eq (ws' := w0 ++ [(h, .inr (1, [.ref q1, .ref q2, .null, .null, .int 0, .int 0])), (q1, b_ar cy 0 192), (q2, b_ar cy 0 2304), (q3, b_ar cy 0 2304)]) (List.append_assoc _ _ _) ?_
  refine b_putF C xm9 kl_X1 0 rfl 2 (by decide) kfl_X1_18 rfl rfl rfl rfl (Nat.le_of_ble_eq_true rfl) dX1_init_28 ?_
  refine b_eq (ws' := w0 ++ [(h, .inr (1, [.ref q1, .ref q2, .ref q3, .null, .int 0, .int 0])), (q1, b_ar cy 0 192), (q2, b_ar cy 0 2304), (q3, b_ar cy 0 2304)]) rfl ?_
  refine b_aload C dX1_init_31 rfl (List.mem_of_getElem? (i := 0) rfl) ?_
  refine b_sipush C (nI 192) dX1_init_32 rfl ?_
  refine b_newa C (atype := .int) (i := 0) (N := 192) (by decide) rfl kar_int (by decide) (by decide) (by decide) dX1_init_35 (fun q4 => ?_)
  refine b_eq (ws' := w0 ++ [(h, .inr (1, [.ref q1, .ref q2, .ref q3, .null, .int 0, .int 0])), (q1, b_ar cy 0 192), (q2, b_ar cy 0 2304), (q3, b_ar cy 0 2304), (q4, b_ar cy 0 192)]) (List.append_assoc _ _ _) ?_
  refine b_putF C xm9 kl_X1 0 rfl 3 (by decide) kfl_X1_21 rfl rfl rfl rfl (Nat.le_of_ble_eq_true rfl) dX1_init_37 ?_
  refine b_eq (ws' := w0 ++ [(h, .inr (1, [.ref q1, .ref q2, .ref q3, .ref q4, .int 0, .int 0])), (q1, b_ar cy 0 192), (q2, b_ar cy 0 2304), (q3, b_ar cy 0 2304), (q4, b_ar cy 0 192)]) rfl ?_
  exact b_ret C xr xk dX1_init_40 ⟨_, _, _, _, rfl⟩
theorem kfl_X6_9 : Cond.fieldLink RX6 9 (TX6 0).1 (TX6 0).2.1 (TX6 0).2.2.1 ∈ x_wd := x_wd_in (x_at (i := 136) (by decide +kernel)) rfl
theorem kfl_X6_15 : Cond.fieldLink RX6 15 (TX6 1).1 (TX6 1).2.1 (TX6 1).2.2.1 ∈ x_wd := x_wd_in (x_at (i := 139) (by decide +kernel)) rfl
theorem kfl_X6_18 : Cond.fieldLink RX6 18 (TX6 2).1 (TX6 2).2.1 (TX6 2).2.2.1 ∈ x_wd := x_wd_in (x_at (i := 142) (by decide +kernel)) rfl
set_option maxRecDepth 100000 in
set_option maxHeartbeats 1000000 in
theorem bc_X6 (l : Launch) (D : va_G) (cy : Nat → ClassId) (B : Nat) (w0 : va_W) (h : Nat) : b_M l yX6_init cX6_init 1 1 3 9000 D cy B [.ref h] (w0 ++ [(h, .inr (5, [.null, .null, .null, .int 0]))]) (fun ws' => ∃ q1 q2 q3, ws' = w0 ++ [(h, .inr (5, [.ref q1, .ref q2, .ref q3, .int 0])), (q1, b_ar cy 0 3000), (q2, b_ar cy 0 3000), (q3, b_ar cy 0 3000)]) := by
  refine b_start (by decide) (Nat.le_of_ble_eq_true rfl) ?_
  intro xp xe xs xm xg xb xt xc C xr xk xm9
  refine b_aload C dX6_init_0 rfl (List.mem_of_getElem? (i := 0) rfl) ?_
  refine b_obj C koi_X6 koi_i koi_c dX6_init_1 ⟨by decide, by decide⟩ ?_
  refine b_aload C dX6_init_4 rfl (List.mem_of_getElem? (i := 0) rfl) ?_
  refine b_sipush C (nI 3000) dX6_init_5 rfl ?_
  refine b_newa C (atype := .int) (i := 0) (N := 3000) (by decide) rfl kar_int (by decide) (by decide) (by decide) dX6_init_8 (fun q1 => ?_)
  refine b_eq (ws' := w0 ++ [(h, .inr (5, [.null, .null, .null, .int 0])), (q1, b_ar cy 0 3000)]) (List.append_assoc _ _ _) ?_
  refine b_putF C xm9 kl_X6 0 rfl 0 (by decide) kfl_X6_9 rfl rfl rfl rfl (Nat.le_of_ble_eq_true rfl) dX6_init_10 ?_
  refine b_eq (ws' := w0 ++ [(h, .inr (5, [.ref q1, .null, .null, .int 0])), (q1, b_ar cy 0 3000)]) rfl ?_
  refine b_aload C dX6_init_13 rfl (List.mem_of_getElem? (i := 0) rfl) ?_
  refine b_sipush C (nI 3000) dX6_init_14 rfl ?_
  refine b_newa C (atype := .int) (i := 0) (N := 3000) (by decide) rfl kar_int (by decide) (by decide) (by decide) dX6_init_17 (fun q2 => ?_)
  refine b_eq (ws' := w0 ++ [(h, .inr (5, [.ref q1, .null, .null, .int 0])), (q1, b_ar cy 0 3000), (q2, b_ar cy 0 3000)]) (List.append_assoc _ _ _) ?_
  refine b_putF C xm9 kl_X6 0 rfl 1 (by decide) kfl_X6_15 rfl rfl rfl rfl (Nat.le_of_ble_eq_true rfl) dX6_init_19 ?_
  refine b_eq (ws' := w0 ++ [(h, .inr (5, [.ref q1, .ref q2, .null, .int 0])), (q1, b_ar cy 0 3000), (q2, b_ar cy 0 3000)]) rfl ?_
  refine b_aload C dX6_init_22 rfl (List.mem_of_getElem? (i := 0) rfl) ?_
  refine b_sipush C (nI 3000) dX6_init_23 rfl ?_
  refine b_newa C (atype := .int) (i := 0) (N := 3000) (by decide) rfl kar_int (by decide) (by decide) (by decide) dX6_init_26 (fun q3 => ?_)
  refine b_eq (ws' := w0 ++ [(h, .inr (5, [.ref q1, .ref q2, .null, .int 0])), (q1, b_ar cy 0 3000), (q2, b_ar cy 0 3000), (q3, b_ar cy 0 3000)]) (List.append_assoc _ _ _) ?_
  refine b_putF C xm9 kl_X6 0 rfl 2 (by decide) kfl_X6_18 rfl rfl rfl rfl (Nat.le_of_ble_eq_true rfl) dX6_init_28 ?_
  refine b_eq (ws' := w0 ++ [(h, .inr (5, [.ref q1, .ref q2, .ref q3, .int 0])), (q1, b_ar cy 0 3000), (q2, b_ar cy 0 3000), (q3, b_ar cy 0 3000)]) rfl ?_
  exact b_ret C xr xk dX6_init_31 ⟨_, _, _, rfl⟩
theorem kfl_X0_9 : Cond.fieldLink RX0 9 (TX0 2).1 (TX0 2).2.1 (TX0 2).2.2.1 ∈ x_wd := x_wd_in (x_at (i := 166) (by decide +kernel)) rfl
theorem kfl_X0_15 : Cond.fieldLink RX0 15 (TX0 0).1 (TX0 0).2.1 (TX0 0).2.2.1 ∈ x_wd := x_wd_in (x_at (i := 164) (by decide +kernel)) rfl
theorem kfl_X0_19 : Cond.fieldLink RX0 19 (TX0 1).1 (TX0 1).2.1 (TX0 1).2.2.1 ∈ x_wd := x_wd_in (x_at (i := 165) (by decide +kernel)) rfl
set_option maxRecDepth 100000 in
set_option maxHeartbeats 1000000 in
theorem bc_X0 (l : Launch) (D : va_G) (cy : Nat → ClassId) (B : Nat) (w0 : va_W) (h a1 a2 : Nat) : b_M l yX0_init cX0_init 3 1 1 3 D cy B [.ref h, .ref a1, .ref a2] (w0 ++ [(h, .inr (0, [.null, .null, .null, .int 0, .int 0, .int 0, .int 0, .int 0]))]) (fun ws' => ∃ q1, ws' = w0 ++ [(h, .inr (0, [.ref a1, .ref a2, .ref q1, .int 0, .int 0, .int 0, .int 0, .int 0])), (q1, b_ar cy 0 3)]) := by
  refine b_start (by decide) (Nat.le_of_ble_eq_true rfl) ?_
  intro xp xe xs xm xg xb xt xc C xr xk xm9
  refine b_aload C dX0_init_0 rfl (List.mem_of_getElem? (i := 0) rfl) ?_
  refine b_obj C koi_X0 koi_i koi_c dX0_init_1 ⟨by decide, by decide⟩ ?_
  refine b_aload C dX0_init_4 rfl (List.mem_of_getElem? (i := 0) rfl) ?_
  refine b_iconst C (nI 3) dX0_init_5 rfl ?_
  refine b_newa C (atype := .int) (i := 0) (N := 3) (by decide) rfl kar_int (by decide) (by decide) (by decide) dX0_init_6 (fun q1 => ?_)
  refine b_eq (ws' := w0 ++ [(h, .inr (0, [.null, .null, .null, .int 0, .int 0, .int 0, .int 0, .int 0])), (q1, b_ar cy 0 3)]) (List.append_assoc _ _ _) ?_
  refine b_putF C xm9 kl_X0 0 rfl 2 (by decide) kfl_X0_9 rfl rfl rfl rfl (Nat.le_of_ble_eq_true rfl) dX0_init_8 ?_
  refine b_eq (ws' := w0 ++ [(h, .inr (0, [.null, .null, .ref q1, .int 0, .int 0, .int 0, .int 0, .int 0])), (q1, b_ar cy 0 3)]) rfl ?_
  refine b_aload C dX0_init_11 rfl (List.mem_of_getElem? (i := 0) rfl) ?_
  refine b_aload C dX0_init_12 rfl (List.mem_of_getElem? (i := 1) rfl) ?_
  refine b_putF C xm9 kl_X0 0 rfl 0 (by decide) kfl_X0_15 rfl rfl rfl rfl (Nat.le_of_ble_eq_true rfl) dX0_init_13 ?_
  refine b_eq (ws' := w0 ++ [(h, .inr (0, [.ref a1, .null, .ref q1, .int 0, .int 0, .int 0, .int 0, .int 0])), (q1, b_ar cy 0 3)]) rfl ?_
  refine b_aload C dX0_init_16 rfl (List.mem_of_getElem? (i := 0) rfl) ?_
  refine b_aload C dX0_init_17 rfl (List.mem_of_getElem? (i := 2) rfl) ?_
  refine b_putF C xm9 kl_X0 0 rfl 1 (by decide) kfl_X0_19 rfl rfl rfl rfl (Nat.le_of_ble_eq_true rfl) dX0_init_18 ?_
  refine b_eq (ws' := w0 ++ [(h, .inr (0, [.ref a1, .ref a2, .ref q1, .int 0, .int 0, .int 0, .int 0, .int 0])), (q1, b_ar cy 0 3)]) rfl ?_
  exact b_ret C xr xk dX0_init_21 ⟨_, rfl⟩
theorem kfl_X7_9 : Cond.fieldLink RX7 9 (TX7 0).1 (TX7 0).2.1 (TX7 0).2.2.1 ∈ x_wd := x_wd_in (x_at (i := 230) (by decide +kernel)) rfl
theorem kfl_X7_15 : Cond.fieldLink RX7 15 (TX7 1).1 (TX7 1).2.1 (TX7 1).2.2.1 ∈ x_wd := x_wd_in (x_at (i := 231) (by decide +kernel)) rfl
theorem kfl_X7_19 : Cond.fieldLink RX7 19 (TX7 2).1 (TX7 2).2.1 (TX7 2).2.2.1 ∈ x_wd := x_wd_in (x_at (i := 232) (by decide +kernel)) rfl
theorem kfl_X7_22 : Cond.fieldLink RX7 22 (TX7 3).1 (TX7 3).2.1 (TX7 3).2.2.1 ∈ x_wd := x_wd_in (x_at (i := 233) (by decide +kernel)) rfl
theorem kfl_X7_25 : Cond.fieldLink RX7 25 (TX7 4).1 (TX7 4).2.1 (TX7 4).2.2.1 ∈ x_wd := x_wd_in (x_at (i := 234) (by decide +kernel)) rfl
theorem kfl_X7_29 : Cond.fieldLink RX7 29 (TX7 5).1 (TX7 5).2.1 (TX7 5).2.2.1 ∈ x_wd := x_wd_in (x_at (i := 235) (by decide +kernel)) rfl
theorem kfl_X7_32 : Cond.fieldLink RX7 32 (TX7 6).1 (TX7 6).2.1 (TX7 6).2.2.1 ∈ x_wd := x_wd_in (x_at (i := 236) (by decide +kernel)) rfl
theorem kfl_X7_38 : Cond.fieldLink RX7 38 (TX7 7).1 (TX7 7).2.1 (TX7 7).2.2.1 ∈ x_wd := x_wd_in (x_at (i := 237) (by decide +kernel)) rfl
set_option maxRecDepth 100000 in
set_option maxHeartbeats 1000000 in
theorem bc_X7 (l : Launch) (D : va_G) (cy : Nat → ClassId) (B : Nat) (w0 : va_W) (h : Nat) : b_M l yX7_init cX7_init 1 3 14 21068 D cy B [.ref h] (w0 ++ [(h, .inr (6, [.null, .null, .null, .null, .null, .null, .null, .null, .int 0]))]) (fun ws' => ∃ q1 q2 q3 q4 q5 q6 q7 q8 q9 q10 q11 q12 q13 q14, ws' = w0 ++ [(h, .inr (6, [.ref q1, .ref q2, .ref q3, .ref q4, .ref q5, .ref q6, .ref q7, .ref q8, .int 0])), (q1, b_ar cy 3 3000), (q2, b_ar cy 0 3000), (q3, b_ar cy 0 3000), (q4, b_ar cy 0 3000), (q5, b_ar cy 2 3000), (q6, b_ar cy 3 3000), (q7, b_ar cy 3 3000), (q8, .inr (4, [.ref q9, .ref q11, .ref q13, .int 0, .int 0])), (q9, .inr (3, [.ref q10])), (q10, b_ar cy 0 20), (q11, .inr (3, [.ref q12])), (q12, b_ar cy 0 20), (q13, .inr (3, [.ref q14])), (q14, b_ar cy 0 20)]) := by
  refine b_start (by decide) (Nat.le_of_ble_eq_true rfl) ?_
  intro xp xe xs xm xg xb xt xc C xr xk xm9
  refine b_aload C dX7_init_0 rfl (List.mem_of_getElem? (i := 0) rfl) ?_
  refine b_obj C koi_X7 koi_i koi_c dX7_init_1 ⟨by decide, by decide⟩ ?_
  refine b_aload C dX7_init_4 rfl (List.mem_of_getElem? (i := 0) rfl) ?_
  refine b_sipush C (nI 3000) dX7_init_5 rfl ?_
  refine b_newa C (atype := .long) (i := 3) (N := 3000) (by decide) rfl kar_long (by decide) (by decide) (by decide) dX7_init_8 (fun q1 => ?_)
  refine b_eq (ws' := w0 ++ [(h, .inr (6, [.null, .null, .null, .null, .null, .null, .null, .null, .int 0])), (q1, b_ar cy 3 3000)]) (List.append_assoc _ _ _) ?_
  refine b_putF C xm9 kl_X7 0 rfl 0 (by decide) kfl_X7_9 rfl rfl rfl rfl (Nat.le_of_ble_eq_true rfl) dX7_init_10 ?_
  refine b_eq (ws' := w0 ++ [(h, .inr (6, [.ref q1, .null, .null, .null, .null, .null, .null, .null, .int 0])), (q1, b_ar cy 3 3000)]) rfl ?_
  refine b_aload C dX7_init_13 rfl (List.mem_of_getElem? (i := 0) rfl) ?_
  refine b_sipush C (nI 3000) dX7_init_14 rfl ?_
  refine b_newa C (atype := .int) (i := 0) (N := 3000) (by decide) rfl kar_int (by decide) (by decide) (by decide) dX7_init_17 (fun q2 => ?_)
  refine b_eq (ws' := w0 ++ [(h, .inr (6, [.ref q1, .null, .null, .null, .null, .null, .null, .null, .int 0])), (q1, b_ar cy 3 3000), (q2, b_ar cy 0 3000)]) (List.append_assoc _ _ _) ?_
  refine b_putF C xm9 kl_X7 0 rfl 1 (by decide) kfl_X7_15 rfl rfl rfl rfl (Nat.le_of_ble_eq_true rfl) dX7_init_19 ?_
  refine b_eq (ws' := w0 ++ [(h, .inr (6, [.ref q1, .ref q2, .null, .null, .null, .null, .null, .null, .int 0])), (q1, b_ar cy 3 3000), (q2, b_ar cy 0 3000)]) rfl ?_
  refine b_aload C dX7_init_22 rfl (List.mem_of_getElem? (i := 0) rfl) ?_
  refine b_sipush C (nI 3000) dX7_init_23 rfl ?_
  refine b_newa C (atype := .int) (i := 0) (N := 3000) (by decide) rfl kar_int (by decide) (by decide) (by decide) dX7_init_26 (fun q3 => ?_)
  refine b_eq (ws' := w0 ++ [(h, .inr (6, [.ref q1, .ref q2, .null, .null, .null, .null, .null, .null, .int 0])), (q1, b_ar cy 3 3000), (q2, b_ar cy 0 3000), (q3, b_ar cy 0 3000)]) (List.append_assoc _ _ _) ?_
  refine b_putF C xm9 kl_X7 0 rfl 2 (by decide) kfl_X7_19 rfl rfl rfl rfl (Nat.le_of_ble_eq_true rfl) dX7_init_28 ?_
  refine b_eq (ws' := w0 ++ [(h, .inr (6, [.ref q1, .ref q2, .ref q3, .null, .null, .null, .null, .null, .int 0])), (q1, b_ar cy 3 3000), (q2, b_ar cy 0 3000), (q3, b_ar cy 0 3000)]) rfl ?_
  refine b_aload C dX7_init_31 rfl (List.mem_of_getElem? (i := 0) rfl) ?_
  refine b_sipush C (nI 3000) dX7_init_32 rfl ?_
  refine b_newa C (atype := .int) (i := 0) (N := 3000) (by decide) rfl kar_int (by decide) (by decide) (by decide) dX7_init_35 (fun q4 => ?_)
  refine b_eq (ws' := w0 ++ [(h, .inr (6, [.ref q1, .ref q2, .ref q3, .null, .null, .null, .null, .null, .int 0])), (q1, b_ar cy 3 3000), (q2, b_ar cy 0 3000), (q3, b_ar cy 0 3000), (q4, b_ar cy 0 3000)]) (List.append_assoc _ _ _) ?_
  refine b_putF C xm9 kl_X7 0 rfl 3 (by decide) kfl_X7_22 rfl rfl rfl rfl (Nat.le_of_ble_eq_true rfl) dX7_init_37 ?_
  refine b_eq (ws' := w0 ++ [(h, .inr (6, [.ref q1, .ref q2, .ref q3, .ref q4, .null, .null, .null, .null, .int 0])), (q1, b_ar cy 3 3000), (q2, b_ar cy 0 3000), (q3, b_ar cy 0 3000), (q4, b_ar cy 0 3000)]) rfl ?_
  refine b_aload C dX7_init_40 rfl (List.mem_of_getElem? (i := 0) rfl) ?_
  refine b_sipush C (nI 3000) dX7_init_41 rfl ?_
  refine b_newa C (atype := .boolean) (i := 2) (N := 3000) (by decide) rfl kar_boolean (by decide) (by decide) (by decide) dX7_init_44 (fun q5 => ?_)
  refine b_eq (ws' := w0 ++ [(h, .inr (6, [.ref q1, .ref q2, .ref q3, .ref q4, .null, .null, .null, .null, .int 0])), (q1, b_ar cy 3 3000), (q2, b_ar cy 0 3000), (q3, b_ar cy 0 3000), (q4, b_ar cy 0 3000), (q5, b_ar cy 2 3000)]) (List.append_assoc _ _ _) ?_
  refine b_putF C xm9 kl_X7 0 rfl 4 (by decide) kfl_X7_25 rfl rfl rfl rfl (Nat.le_of_ble_eq_true rfl) dX7_init_46 ?_
  refine b_eq (ws' := w0 ++ [(h, .inr (6, [.ref q1, .ref q2, .ref q3, .ref q4, .ref q5, .null, .null, .null, .int 0])), (q1, b_ar cy 3 3000), (q2, b_ar cy 0 3000), (q3, b_ar cy 0 3000), (q4, b_ar cy 0 3000), (q5, b_ar cy 2 3000)]) rfl ?_
  refine b_aload C dX7_init_49 rfl (List.mem_of_getElem? (i := 0) rfl) ?_
  refine b_sipush C (nI 3000) dX7_init_50 rfl ?_
  refine b_newa C (atype := .long) (i := 3) (N := 3000) (by decide) rfl kar_long (by decide) (by decide) (by decide) dX7_init_53 (fun q6 => ?_)
  refine b_eq (ws' := w0 ++ [(h, .inr (6, [.ref q1, .ref q2, .ref q3, .ref q4, .ref q5, .null, .null, .null, .int 0])), (q1, b_ar cy 3 3000), (q2, b_ar cy 0 3000), (q3, b_ar cy 0 3000), (q4, b_ar cy 0 3000), (q5, b_ar cy 2 3000), (q6, b_ar cy 3 3000)]) (List.append_assoc _ _ _) ?_
  refine b_putF C xm9 kl_X7 0 rfl 5 (by decide) kfl_X7_29 rfl rfl rfl rfl (Nat.le_of_ble_eq_true rfl) dX7_init_55 ?_
  refine b_eq (ws' := w0 ++ [(h, .inr (6, [.ref q1, .ref q2, .ref q3, .ref q4, .ref q5, .ref q6, .null, .null, .int 0])), (q1, b_ar cy 3 3000), (q2, b_ar cy 0 3000), (q3, b_ar cy 0 3000), (q4, b_ar cy 0 3000), (q5, b_ar cy 2 3000), (q6, b_ar cy 3 3000)]) rfl ?_
  refine b_aload C dX7_init_58 rfl (List.mem_of_getElem? (i := 0) rfl) ?_
  refine b_sipush C (nI 3000) dX7_init_59 rfl ?_
  refine b_newa C (atype := .long) (i := 3) (N := 3000) (by decide) rfl kar_long (by decide) (by decide) (by decide) dX7_init_62 (fun q7 => ?_)
  refine b_eq (ws' := w0 ++ [(h, .inr (6, [.ref q1, .ref q2, .ref q3, .ref q4, .ref q5, .ref q6, .null, .null, .int 0])), (q1, b_ar cy 3 3000), (q2, b_ar cy 0 3000), (q3, b_ar cy 0 3000), (q4, b_ar cy 0 3000), (q5, b_ar cy 2 3000), (q6, b_ar cy 3 3000), (q7, b_ar cy 3 3000)]) (List.append_assoc _ _ _) ?_
  refine b_putF C xm9 kl_X7 0 rfl 6 (by decide) kfl_X7_32 rfl rfl rfl rfl (Nat.le_of_ble_eq_true rfl) dX7_init_64 ?_
  refine b_eq (ws' := w0 ++ [(h, .inr (6, [.ref q1, .ref q2, .ref q3, .ref q4, .ref q5, .ref q6, .ref q7, .null, .int 0])), (q1, b_ar cy 3 3000), (q2, b_ar cy 0 3000), (q3, b_ar cy 0 3000), (q4, b_ar cy 0 3000), (q5, b_ar cy 2 3000), (q6, b_ar cy 3 3000), (q7, b_ar cy 3 3000)]) rfl ?_
  refine b_aload C dX7_init_67 rfl (List.mem_of_getElem? (i := 0) rfl) ?_
  refine b_new C (fs := [.null, .null, .null, .int 0, .int 0]) kl_X5 kcl_X7_35 kin_X5 kit_X5 (by
    intro j hj
    rcases (show j = 0 ∨ j = 1 ∨ j = 2 ∨ j = 3 ∨ j = 4 by omega) with rfl | rfl | rfl | rfl | rfl <;> rfl) (by decide) (by decide) dX7_init_68 (fun q8 => ?_)
  refine b_dup C dX7_init_71 ?_
  refine b_call C (as := []) (st := [.ref q8, .ref h]) (bc_X5 l D cy B (w0 ++ [(h, .inr (6, [.ref q1, .ref q2, .ref q3, .ref q4, .ref q5, .ref q6, .ref q7, .null, .int 0])), (q1, b_ar cy 3 3000), (q2, b_ar cy 0 3000), (q3, b_ar cy 0 3000), (q4, b_ar cy 0 3000), (q5, b_ar cy 2 3000), (q6, b_ar cy 3 3000), (q7, b_ar cy 3 3000)]) q8) kbi_X7_37 dX7_init_72 rfl rfl (Nat.le_of_ble_eq_true rfl) ⟨by decide, by decide⟩ ⟨by decide, by decide⟩ ?_
  rintro _ ⟨q9, q10, q11, q12, q13, q14, rfl⟩
  refine b_eq (ws' := w0 ++ [(h, .inr (6, [.ref q1, .ref q2, .ref q3, .ref q4, .ref q5, .ref q6, .ref q7, .null, .int 0])), (q1, b_ar cy 3 3000), (q2, b_ar cy 0 3000), (q3, b_ar cy 0 3000), (q4, b_ar cy 0 3000), (q5, b_ar cy 2 3000), (q6, b_ar cy 3 3000), (q7, b_ar cy 3 3000), (q8, .inr (4, [.ref q9, .ref q11, .ref q13, .int 0, .int 0])), (q9, .inr (3, [.ref q10])), (q10, b_ar cy 0 20), (q11, .inr (3, [.ref q12])), (q12, b_ar cy 0 20), (q13, .inr (3, [.ref q14])), (q14, b_ar cy 0 20)]) (List.append_assoc _ _ _) ?_
  refine b_putF C xm9 kl_X7 0 rfl 7 (by decide) kfl_X7_38 rfl rfl rfl rfl (Nat.le_of_ble_eq_true rfl) dX7_init_75 ?_
  refine b_eq (ws' := w0 ++ [(h, .inr (6, [.ref q1, .ref q2, .ref q3, .ref q4, .ref q5, .ref q6, .ref q7, .ref q8, .int 0])), (q1, b_ar cy 3 3000), (q2, b_ar cy 0 3000), (q3, b_ar cy 0 3000), (q4, b_ar cy 0 3000), (q5, b_ar cy 2 3000), (q6, b_ar cy 3 3000), (q7, b_ar cy 3 3000), (q8, .inr (4, [.ref q9, .ref q11, .ref q13, .int 0, .int 0])), (q9, .inr (3, [.ref q10])), (q10, b_ar cy 0 20), (q11, .inr (3, [.ref q12])), (q12, b_ar cy 0 20), (q13, .inr (3, [.ref q14])), (q14, b_ar cy 0 20)]) rfl ?_
  exact b_ret C xr xk dX7_init_78 ⟨_, _, _, _, _, _, _, _, _, _, _, _, _, _, rfl⟩
theorem kfl_X10_9 : Cond.fieldLink RX10 9 (TX10 0).1 (TX10 0).2.1 (TX10 0).2.2.1 ∈ x_wd := x_wd_in (x_at (i := 266) (by decide +kernel)) rfl
set_option maxRecDepth 100000 in
set_option maxHeartbeats 1000000 in
theorem bc_X10 (l : Launch) (D : va_G) (cy : Nat → ClassId) (B : Nat) (w0 : va_W) (h : Nat) : b_M l yX10_init cX10_init 1 1 1 3000 D cy B [.ref h] (w0 ++ [(h, .inr (9, [.null, .int 0]))]) (fun ws' => ∃ q1, ws' = w0 ++ [(h, .inr (9, [.ref q1, .int 0])), (q1, b_ar cy 0 3000)]) := by
  refine b_start (by decide) (Nat.le_of_ble_eq_true rfl) ?_
  intro xp xe xs xm xg xb xt xc C xr xk xm9
  refine b_aload C dX10_init_0 rfl (List.mem_of_getElem? (i := 0) rfl) ?_
  refine b_obj C koi_X10 koi_i koi_c dX10_init_1 ⟨by decide, by decide⟩ ?_
  refine b_aload C dX10_init_4 rfl (List.mem_of_getElem? (i := 0) rfl) ?_
  refine b_sipush C (nI 3000) dX10_init_5 rfl ?_
  refine b_newa C (atype := .int) (i := 0) (N := 3000) (by decide) rfl kar_int (by decide) (by decide) (by decide) dX10_init_8 (fun q1 => ?_)
  refine b_eq (ws' := w0 ++ [(h, .inr (9, [.null, .int 0])), (q1, b_ar cy 0 3000)]) (List.append_assoc _ _ _) ?_
  refine b_putF C xm9 kl_X10 0 rfl 0 (by decide) kfl_X10_9 rfl rfl rfl rfl (Nat.le_of_ble_eq_true rfl) dX10_init_10 ?_
  refine b_eq (ws' := w0 ++ [(h, .inr (9, [.ref q1, .int 0])), (q1, b_ar cy 0 3000)]) rfl ?_
  exact b_ret C xr xk dX10_init_13 ⟨_, rfl⟩
theorem kfl_X11_10 : Cond.fieldLink RX11 10 (TX11 0).1 (TX11 0).2.1 (TX11 0).2.2.1 ∈ x_wd := x_wd_in (x_at (i := 274) (by decide +kernel)) rfl
theorem kfl_X11_19 : Cond.fieldLink RX11 19 (TX11 1).1 (TX11 1).2.1 (TX11 1).2.2.1 ∈ x_wd := x_wd_in (x_at (i := 275) (by decide +kernel)) rfl
theorem kfl_X11_28 : Cond.fieldLink RX11 28 (TX11 2).1 (TX11 2).2.1 (TX11 2).2.2.1 ∈ x_wd := x_wd_in (x_at (i := 276) (by decide +kernel)) rfl
theorem kfl_X11_35 : Cond.fieldLink RX11 35 (TX11 3).1 (TX11 3).2.1 (TX11 3).2.2.1 ∈ x_wd := x_wd_in (x_at (i := 277) (by decide +kernel)) rfl
theorem kfl_X11_42 : Cond.fieldLink RX11 42 (TX11 4).1 (TX11 4).2.1 (TX11 4).2.2.1 ∈ x_wd := x_wd_in (x_at (i := 278) (by decide +kernel)) rfl
theorem kfl_X11_51 : Cond.fieldLink RX11 51 (TX11 5).1 (TX11 5).2.1 (TX11 5).2.2.1 ∈ x_wd := x_wd_in (x_at (i := 279) (by decide +kernel)) rfl
theorem kfl_X11_58 : Cond.fieldLink RX11 58 (TX11 6).1 (TX11 6).2.1 (TX11 6).2.2.1 ∈ x_wd := x_wd_in (x_at (i := 280) (by decide +kernel)) rfl
theorem kfl_X11_65 : Cond.fieldLink RX11 65 (TX11 7).1 (TX11 7).2.1 (TX11 7).2.2.1 ∈ x_wd := x_wd_in (x_at (i := 281) (by decide +kernel)) rfl
set_option maxRecDepth 100000 in
set_option maxHeartbeats 1000000 in
theorem bc_X11 (l : Launch) (D : va_G) (cy : Nat → ClassId) (B : Nat) (w0 : va_W) (h : Nat) : b_M l yX11_init cX11_init 1 4 37 46611 D cy B [.ref h] (w0 ++ [(h, .inr (10, [.null, .null, .null, .null, .null, .null, .null, .null]))]) (fun ws' => ∃ q1 q2 q3 q4 q5 q6 q7 q8 q9 q10 q11 q12 q13 q14 q15 q16 q17 q18 q19 q20 q21 q22 q23 q24 q25 q26 q27 q28 q29 q30 q31 q32 q33 q34 q35 q36 q37, ws' = w0 ++ [(h, .inr (10, [.ref q1, .ref q3, .ref q8, .ref q10, .ref q15, .ref q19, .ref q21, .ref q36])), (q1, .inr (8, [.ref q2, .int 0])), (q2, b_ar cy 1 8000), (q3, .inr (2, [.ref q4, .ref q5, .ref q6, .ref q7, .int 0, .int 0])), (q4, b_ar cy 0 96), (q5, b_ar cy 0 192), (q6, b_ar cy 0 192), (q7, b_ar cy 0 12), (q8, .inr (7, [.ref q1, .ref q3, .ref q9, .int 0, .int 0, .int 0, .int 0])), (q9, b_ar cy 0 12), (q10, .inr (1, [.ref q11, .ref q12, .ref q13, .ref q14, .int 0, .int 0])), (q11, b_ar cy 0 192), (q12, b_ar cy 0 2304), (q13, b_ar cy 0 2304), (q14, b_ar cy 0 192), (q15, .inr (5, [.ref q16, .ref q17, .ref q18, .int 0])), (q16, b_ar cy 0 3000), (q17, b_ar cy 0 3000), (q18, b_ar cy 0 3000), (q19, .inr (0, [.ref q1, .ref q15, .ref q20, .int 0, .int 0, .int 0, .int 0, .int 0])), (q20, b_ar cy 0 3), (q21, .inr (6, [.ref q22, .ref q23, .ref q24, .ref q25, .ref q26, .ref q27, .ref q28, .ref q29, .int 0])), (q22, b_ar cy 3 3000), (q23, b_ar cy 0 3000), (q24, b_ar cy 0 3000), (q25, b_ar cy 0 3000), (q26, b_ar cy 2 3000), (q27, b_ar cy 3 3000), (q28, b_ar cy 3 3000), (q29, .inr (4, [.ref q30, .ref q32, .ref q34, .int 0, .int 0])), (q30, .inr (3, [.ref q31])), (q31, b_ar cy 0 20), (q32, .inr (3, [.ref q33])), (q33, b_ar cy 0 20), (q34, .inr (3, [.ref q35])), (q35, b_ar cy 0 20), (q36, .inr (9, [.ref q37, .int 0])), (q37, b_ar cy 0 3000)]) := by
  refine b_start (by decide) (Nat.le_of_ble_eq_true rfl) ?_
  intro xp xe xs xm xg xb xt xc C xr xk xm9
  refine b_aload C dX11_init_0 rfl (List.mem_of_getElem? (i := 0) rfl) ?_
  refine b_obj C koi_X11 koi_i koi_c dX11_init_1 ⟨by decide, by decide⟩ ?_
  refine b_aload C dX11_init_4 rfl (List.mem_of_getElem? (i := 0) rfl) ?_
  refine b_new C (fs := [.null, .int 0]) kl_X9 kcl_X11_7 kin_X9 kit_X9 (by
    intro j hj
    rcases (show j = 0 ∨ j = 1 by omega) with rfl | rfl <;> rfl) (by decide) (by decide) dX11_init_5 (fun q1 => ?_)
  refine b_dup C dX11_init_8 ?_
  refine b_call C (as := []) (st := [.ref q1, .ref h]) (bc_X9 l D cy B (w0 ++ [(h, .inr (10, [.null, .null, .null, .null, .null, .null, .null, .null]))]) q1) kbi_X11_9 dX11_init_9 rfl rfl (Nat.le_of_ble_eq_true rfl) ⟨by decide, by decide⟩ ⟨by decide, by decide⟩ ?_
  rintro _ ⟨q2, rfl⟩
  refine b_eq (ws' := w0 ++ [(h, .inr (10, [.null, .null, .null, .null, .null, .null, .null, .null])), (q1, .inr (8, [.ref q2, .int 0])), (q2, b_ar cy 1 8000)]) (List.append_assoc _ _ _) ?_
  refine b_putF C xm9 kl_X11 0 rfl 0 (by decide) kfl_X11_10 rfl rfl rfl rfl (Nat.le_of_ble_eq_true rfl) dX11_init_12 ?_
  refine b_eq (ws' := w0 ++ [(h, .inr (10, [.ref q1, .null, .null, .null, .null, .null, .null, .null])), (q1, .inr (8, [.ref q2, .int 0])), (q2, b_ar cy 1 8000)]) rfl ?_
  refine b_aload C dX11_init_15 rfl (List.mem_of_getElem? (i := 0) rfl) ?_
  refine b_new C (fs := [.null, .null, .null, .null, .int 0, .int 0]) kl_X2 kcl_X11_16 kin_X2 kit_X2 (by
    intro j hj
    rcases (show j = 0 ∨ j = 1 ∨ j = 2 ∨ j = 3 ∨ j = 4 ∨ j = 5 by omega) with rfl | rfl | rfl | rfl | rfl | rfl <;> rfl) (by decide) (by decide) dX11_init_16 (fun q3 => ?_)
  refine b_dup C dX11_init_19 ?_
  refine b_call C (as := []) (st := [.ref q3, .ref h]) (bc_X2 l D cy B (w0 ++ [(h, .inr (10, [.ref q1, .null, .null, .null, .null, .null, .null, .null])), (q1, .inr (8, [.ref q2, .int 0])), (q2, b_ar cy 1 8000)]) q3) kbi_X11_18 dX11_init_20 rfl rfl (Nat.le_of_ble_eq_true rfl) ⟨by decide, by decide⟩ ⟨by decide, by decide⟩ ?_
  rintro _ ⟨q4, q5, q6, q7, rfl⟩
  refine b_eq (ws' := w0 ++ [(h, .inr (10, [.ref q1, .null, .null, .null, .null, .null, .null, .null])), (q1, .inr (8, [.ref q2, .int 0])), (q2, b_ar cy 1 8000), (q3, .inr (2, [.ref q4, .ref q5, .ref q6, .ref q7, .int 0, .int 0])), (q4, b_ar cy 0 96), (q5, b_ar cy 0 192), (q6, b_ar cy 0 192), (q7, b_ar cy 0 12)]) (List.append_assoc _ _ _) ?_
  refine b_putF C xm9 kl_X11 0 rfl 1 (by decide) kfl_X11_19 rfl rfl rfl rfl (Nat.le_of_ble_eq_true rfl) dX11_init_23 ?_
  refine b_eq (ws' := w0 ++ [(h, .inr (10, [.ref q1, .ref q3, .null, .null, .null, .null, .null, .null])), (q1, .inr (8, [.ref q2, .int 0])), (q2, b_ar cy 1 8000), (q3, .inr (2, [.ref q4, .ref q5, .ref q6, .ref q7, .int 0, .int 0])), (q4, b_ar cy 0 96), (q5, b_ar cy 0 192), (q6, b_ar cy 0 192), (q7, b_ar cy 0 12)]) rfl ?_
  refine b_aload C dX11_init_26 rfl (List.mem_of_getElem? (i := 0) rfl) ?_
  refine b_new C (fs := [.null, .null, .null, .int 0, .int 0, .int 0, .int 0]) kl_X8 kcl_X11_23 kin_X8 kit_X8 (by
    intro j hj
    rcases (show j = 0 ∨ j = 1 ∨ j = 2 ∨ j = 3 ∨ j = 4 ∨ j = 5 ∨ j = 6 by omega) with rfl | rfl | rfl | rfl | rfl | rfl | rfl <;> rfl) (by decide) (by decide) dX11_init_27 (fun q8 => ?_)
  refine b_dup C dX11_init_30 ?_
  refine b_aload C dX11_init_31 rfl (List.mem_of_getElem? (i := 0) rfl) ?_
  refine b_eq (ws' := w0 ++ [(h, .inr (10, [.ref q1, .ref q3, .null, .null, .null, .null, .null, .null])), (q1, .inr (8, [.ref q2, .int 0])), (q2, b_ar cy 1 8000), (q3, .inr (2, [.ref q4, .ref q5, .ref q6, .ref q7, .int 0, .int 0])), (q4, b_ar cy 0 96), (q5, b_ar cy 0 192), (q6, b_ar cy 0 192), (q7, b_ar cy 0 12), (q8, .inr (7, [.null, .null, .null, .int 0, .int 0, .int 0, .int 0]))]) (List.append_assoc _ _ _) ?_
  refine b_get C kl_X11 0 rfl 0 (by decide) kfl_X11_10 rfl dX11_init_32 ?_
  refine b_aload C dX11_init_35 rfl (List.mem_of_getElem? (i := 0) rfl) ?_
  refine b_get C kl_X11 0 rfl 1 (by decide) kfl_X11_19 rfl dX11_init_36 ?_
  refine b_eq (ws' := (w0 ++ [(h, .inr (10, [.ref q1, .ref q3, .null, .null, .null, .null, .null, .null])), (q1, .inr (8, [.ref q2, .int 0])), (q2, b_ar cy 1 8000), (q3, .inr (2, [.ref q4, .ref q5, .ref q6, .ref q7, .int 0, .int 0])), (q4, b_ar cy 0 96), (q5, b_ar cy 0 192), (q6, b_ar cy 0 192), (q7, b_ar cy 0 12)]) ++ [(q8, .inr (7, [.null, .null, .null, .int 0, .int 0, .int 0, .int 0]))]) (by rw [List.append_assoc]; rfl) ?_
  refine b_call C (as := [.ref q1, .ref q3]) (st := [.ref q8, .ref h]) (bc_X8 l D cy B (w0 ++ [(h, .inr (10, [.ref q1, .ref q3, .null, .null, .null, .null, .null, .null])), (q1, .inr (8, [.ref q2, .int 0])), (q2, b_ar cy 1 8000), (q3, .inr (2, [.ref q4, .ref q5, .ref q6, .ref q7, .int 0, .int 0])), (q4, b_ar cy 0 96), (q5, b_ar cy 0 192), (q6, b_ar cy 0 192), (q7, b_ar cy 0 12)]) q8 q1 q3) kbi_X11_25 dX11_init_39 rfl rfl (Nat.le_of_ble_eq_true rfl) ⟨by decide, by decide⟩ ⟨by decide, by decide⟩ ?_
  rintro _ ⟨q9, rfl⟩
  refine b_eq (ws' := w0 ++ [(h, .inr (10, [.ref q1, .ref q3, .null, .null, .null, .null, .null, .null])), (q1, .inr (8, [.ref q2, .int 0])), (q2, b_ar cy 1 8000), (q3, .inr (2, [.ref q4, .ref q5, .ref q6, .ref q7, .int 0, .int 0])), (q4, b_ar cy 0 96), (q5, b_ar cy 0 192), (q6, b_ar cy 0 192), (q7, b_ar cy 0 12), (q8, .inr (7, [.ref q1, .ref q3, .ref q9, .int 0, .int 0, .int 0, .int 0])), (q9, b_ar cy 0 12)]) (List.append_assoc _ _ _) ?_
  refine b_putF C xm9 kl_X11 0 rfl 2 (by decide) kfl_X11_28 rfl rfl rfl rfl (Nat.le_of_ble_eq_true rfl) dX11_init_42 ?_
  refine b_eq (ws' := w0 ++ [(h, .inr (10, [.ref q1, .ref q3, .ref q8, .null, .null, .null, .null, .null])), (q1, .inr (8, [.ref q2, .int 0])), (q2, b_ar cy 1 8000), (q3, .inr (2, [.ref q4, .ref q5, .ref q6, .ref q7, .int 0, .int 0])), (q4, b_ar cy 0 96), (q5, b_ar cy 0 192), (q6, b_ar cy 0 192), (q7, b_ar cy 0 12), (q8, .inr (7, [.ref q1, .ref q3, .ref q9, .int 0, .int 0, .int 0, .int 0])), (q9, b_ar cy 0 12)]) rfl ?_
  refine b_aload C dX11_init_45 rfl (List.mem_of_getElem? (i := 0) rfl) ?_
  refine b_new C (fs := [.null, .null, .null, .null, .int 0, .int 0]) kl_X1 kcl_X11_32 kin_X1 kit_X1 (by
    intro j hj
    rcases (show j = 0 ∨ j = 1 ∨ j = 2 ∨ j = 3 ∨ j = 4 ∨ j = 5 by omega) with rfl | rfl | rfl | rfl | rfl | rfl <;> rfl) (by decide) (by decide) dX11_init_46 (fun q10 => ?_)
  refine b_dup C dX11_init_49 ?_
  refine b_call C (as := []) (st := [.ref q10, .ref h]) (bc_X1 l D cy B (w0 ++ [(h, .inr (10, [.ref q1, .ref q3, .ref q8, .null, .null, .null, .null, .null])), (q1, .inr (8, [.ref q2, .int 0])), (q2, b_ar cy 1 8000), (q3, .inr (2, [.ref q4, .ref q5, .ref q6, .ref q7, .int 0, .int 0])), (q4, b_ar cy 0 96), (q5, b_ar cy 0 192), (q6, b_ar cy 0 192), (q7, b_ar cy 0 12), (q8, .inr (7, [.ref q1, .ref q3, .ref q9, .int 0, .int 0, .int 0, .int 0])), (q9, b_ar cy 0 12)]) q10) kbi_X11_34 dX11_init_50 rfl rfl (Nat.le_of_ble_eq_true rfl) ⟨by decide, by decide⟩ ⟨by decide, by decide⟩ ?_
  rintro _ ⟨q11, q12, q13, q14, rfl⟩
  refine b_eq (ws' := w0 ++ [(h, .inr (10, [.ref q1, .ref q3, .ref q8, .null, .null, .null, .null, .null])), (q1, .inr (8, [.ref q2, .int 0])), (q2, b_ar cy 1 8000), (q3, .inr (2, [.ref q4, .ref q5, .ref q6, .ref q7, .int 0, .int 0])), (q4, b_ar cy 0 96), (q5, b_ar cy 0 192), (q6, b_ar cy 0 192), (q7, b_ar cy 0 12), (q8, .inr (7, [.ref q1, .ref q3, .ref q9, .int 0, .int 0, .int 0, .int 0])), (q9, b_ar cy 0 12), (q10, .inr (1, [.ref q11, .ref q12, .ref q13, .ref q14, .int 0, .int 0])), (q11, b_ar cy 0 192), (q12, b_ar cy 0 2304), (q13, b_ar cy 0 2304), (q14, b_ar cy 0 192)]) (List.append_assoc _ _ _) ?_
  refine b_putF C xm9 kl_X11 0 rfl 3 (by decide) kfl_X11_35 rfl rfl rfl rfl (Nat.le_of_ble_eq_true rfl) dX11_init_53 ?_
  refine b_eq (ws' := w0 ++ [(h, .inr (10, [.ref q1, .ref q3, .ref q8, .ref q10, .null, .null, .null, .null])), (q1, .inr (8, [.ref q2, .int 0])), (q2, b_ar cy 1 8000), (q3, .inr (2, [.ref q4, .ref q5, .ref q6, .ref q7, .int 0, .int 0])), (q4, b_ar cy 0 96), (q5, b_ar cy 0 192), (q6, b_ar cy 0 192), (q7, b_ar cy 0 12), (q8, .inr (7, [.ref q1, .ref q3, .ref q9, .int 0, .int 0, .int 0, .int 0])), (q9, b_ar cy 0 12), (q10, .inr (1, [.ref q11, .ref q12, .ref q13, .ref q14, .int 0, .int 0])), (q11, b_ar cy 0 192), (q12, b_ar cy 0 2304), (q13, b_ar cy 0 2304), (q14, b_ar cy 0 192)]) rfl ?_
  refine b_aload C dX11_init_56 rfl (List.mem_of_getElem? (i := 0) rfl) ?_
  refine b_new C (fs := [.null, .null, .null, .int 0]) kl_X6 kcl_X11_39 kin_X6 kit_X6 (by
    intro j hj
    rcases (show j = 0 ∨ j = 1 ∨ j = 2 ∨ j = 3 by omega) with rfl | rfl | rfl | rfl <;> rfl) (by decide) (by decide) dX11_init_57 (fun q15 => ?_)
  refine b_dup C dX11_init_60 ?_
  refine b_call C (as := []) (st := [.ref q15, .ref h]) (bc_X6 l D cy B (w0 ++ [(h, .inr (10, [.ref q1, .ref q3, .ref q8, .ref q10, .null, .null, .null, .null])), (q1, .inr (8, [.ref q2, .int 0])), (q2, b_ar cy 1 8000), (q3, .inr (2, [.ref q4, .ref q5, .ref q6, .ref q7, .int 0, .int 0])), (q4, b_ar cy 0 96), (q5, b_ar cy 0 192), (q6, b_ar cy 0 192), (q7, b_ar cy 0 12), (q8, .inr (7, [.ref q1, .ref q3, .ref q9, .int 0, .int 0, .int 0, .int 0])), (q9, b_ar cy 0 12), (q10, .inr (1, [.ref q11, .ref q12, .ref q13, .ref q14, .int 0, .int 0])), (q11, b_ar cy 0 192), (q12, b_ar cy 0 2304), (q13, b_ar cy 0 2304), (q14, b_ar cy 0 192)]) q15) kbi_X11_41 dX11_init_61 rfl rfl (Nat.le_of_ble_eq_true rfl) ⟨by decide, by decide⟩ ⟨by decide, by decide⟩ ?_
  rintro _ ⟨q16, q17, q18, rfl⟩
  refine b_eq (ws' := w0 ++ [(h, .inr (10, [.ref q1, .ref q3, .ref q8, .ref q10, .null, .null, .null, .null])), (q1, .inr (8, [.ref q2, .int 0])), (q2, b_ar cy 1 8000), (q3, .inr (2, [.ref q4, .ref q5, .ref q6, .ref q7, .int 0, .int 0])), (q4, b_ar cy 0 96), (q5, b_ar cy 0 192), (q6, b_ar cy 0 192), (q7, b_ar cy 0 12), (q8, .inr (7, [.ref q1, .ref q3, .ref q9, .int 0, .int 0, .int 0, .int 0])), (q9, b_ar cy 0 12), (q10, .inr (1, [.ref q11, .ref q12, .ref q13, .ref q14, .int 0, .int 0])), (q11, b_ar cy 0 192), (q12, b_ar cy 0 2304), (q13, b_ar cy 0 2304), (q14, b_ar cy 0 192), (q15, .inr (5, [.ref q16, .ref q17, .ref q18, .int 0])), (q16, b_ar cy 0 3000), (q17, b_ar cy 0 3000), (q18, b_ar cy 0 3000)]) (List.append_assoc _ _ _) ?_
  refine b_putF C xm9 kl_X11 0 rfl 4 (by decide) kfl_X11_42 rfl rfl rfl rfl (Nat.le_of_ble_eq_true rfl) dX11_init_64 ?_
  refine b_eq (ws' := w0 ++ [(h, .inr (10, [.ref q1, .ref q3, .ref q8, .ref q10, .ref q15, .null, .null, .null])), (q1, .inr (8, [.ref q2, .int 0])), (q2, b_ar cy 1 8000), (q3, .inr (2, [.ref q4, .ref q5, .ref q6, .ref q7, .int 0, .int 0])), (q4, b_ar cy 0 96), (q5, b_ar cy 0 192), (q6, b_ar cy 0 192), (q7, b_ar cy 0 12), (q8, .inr (7, [.ref q1, .ref q3, .ref q9, .int 0, .int 0, .int 0, .int 0])), (q9, b_ar cy 0 12), (q10, .inr (1, [.ref q11, .ref q12, .ref q13, .ref q14, .int 0, .int 0])), (q11, b_ar cy 0 192), (q12, b_ar cy 0 2304), (q13, b_ar cy 0 2304), (q14, b_ar cy 0 192), (q15, .inr (5, [.ref q16, .ref q17, .ref q18, .int 0])), (q16, b_ar cy 0 3000), (q17, b_ar cy 0 3000), (q18, b_ar cy 0 3000)]) rfl ?_
  refine b_aload C dX11_init_67 rfl (List.mem_of_getElem? (i := 0) rfl) ?_
  refine b_new C (fs := [.null, .null, .null, .int 0, .int 0, .int 0, .int 0, .int 0]) kl_X0 kcl_X11_46 kin_X0 kit_X0 (by
    intro j hj
    rcases (show j = 0 ∨ j = 1 ∨ j = 2 ∨ j = 3 ∨ j = 4 ∨ j = 5 ∨ j = 6 ∨ j = 7 by omega) with rfl | rfl | rfl | rfl | rfl | rfl | rfl | rfl <;> rfl) (by decide) (by decide) dX11_init_68 (fun q19 => ?_)
  refine b_dup C dX11_init_71 ?_
  refine b_aload C dX11_init_72 rfl (List.mem_of_getElem? (i := 0) rfl) ?_
  refine b_eq (ws' := w0 ++ [(h, .inr (10, [.ref q1, .ref q3, .ref q8, .ref q10, .ref q15, .null, .null, .null])), (q1, .inr (8, [.ref q2, .int 0])), (q2, b_ar cy 1 8000), (q3, .inr (2, [.ref q4, .ref q5, .ref q6, .ref q7, .int 0, .int 0])), (q4, b_ar cy 0 96), (q5, b_ar cy 0 192), (q6, b_ar cy 0 192), (q7, b_ar cy 0 12), (q8, .inr (7, [.ref q1, .ref q3, .ref q9, .int 0, .int 0, .int 0, .int 0])), (q9, b_ar cy 0 12), (q10, .inr (1, [.ref q11, .ref q12, .ref q13, .ref q14, .int 0, .int 0])), (q11, b_ar cy 0 192), (q12, b_ar cy 0 2304), (q13, b_ar cy 0 2304), (q14, b_ar cy 0 192), (q15, .inr (5, [.ref q16, .ref q17, .ref q18, .int 0])), (q16, b_ar cy 0 3000), (q17, b_ar cy 0 3000), (q18, b_ar cy 0 3000), (q19, .inr (0, [.null, .null, .null, .int 0, .int 0, .int 0, .int 0, .int 0]))]) (List.append_assoc _ _ _) ?_
  refine b_get C kl_X11 0 rfl 0 (by decide) kfl_X11_10 rfl dX11_init_73 ?_
  refine b_aload C dX11_init_76 rfl (List.mem_of_getElem? (i := 0) rfl) ?_
  refine b_get C kl_X11 0 rfl 4 (by decide) kfl_X11_42 rfl dX11_init_77 ?_
  refine b_eq (ws' := (w0 ++ [(h, .inr (10, [.ref q1, .ref q3, .ref q8, .ref q10, .ref q15, .null, .null, .null])), (q1, .inr (8, [.ref q2, .int 0])), (q2, b_ar cy 1 8000), (q3, .inr (2, [.ref q4, .ref q5, .ref q6, .ref q7, .int 0, .int 0])), (q4, b_ar cy 0 96), (q5, b_ar cy 0 192), (q6, b_ar cy 0 192), (q7, b_ar cy 0 12), (q8, .inr (7, [.ref q1, .ref q3, .ref q9, .int 0, .int 0, .int 0, .int 0])), (q9, b_ar cy 0 12), (q10, .inr (1, [.ref q11, .ref q12, .ref q13, .ref q14, .int 0, .int 0])), (q11, b_ar cy 0 192), (q12, b_ar cy 0 2304), (q13, b_ar cy 0 2304), (q14, b_ar cy 0 192), (q15, .inr (5, [.ref q16, .ref q17, .ref q18, .int 0])), (q16, b_ar cy 0 3000), (q17, b_ar cy 0 3000), (q18, b_ar cy 0 3000)]) ++ [(q19, .inr (0, [.null, .null, .null, .int 0, .int 0, .int 0, .int 0, .int 0]))]) (by rw [List.append_assoc]; rfl) ?_
  refine b_call C (as := [.ref q1, .ref q15]) (st := [.ref q19, .ref h]) (bc_X0 l D cy B (w0 ++ [(h, .inr (10, [.ref q1, .ref q3, .ref q8, .ref q10, .ref q15, .null, .null, .null])), (q1, .inr (8, [.ref q2, .int 0])), (q2, b_ar cy 1 8000), (q3, .inr (2, [.ref q4, .ref q5, .ref q6, .ref q7, .int 0, .int 0])), (q4, b_ar cy 0 96), (q5, b_ar cy 0 192), (q6, b_ar cy 0 192), (q7, b_ar cy 0 12), (q8, .inr (7, [.ref q1, .ref q3, .ref q9, .int 0, .int 0, .int 0, .int 0])), (q9, b_ar cy 0 12), (q10, .inr (1, [.ref q11, .ref q12, .ref q13, .ref q14, .int 0, .int 0])), (q11, b_ar cy 0 192), (q12, b_ar cy 0 2304), (q13, b_ar cy 0 2304), (q14, b_ar cy 0 192), (q15, .inr (5, [.ref q16, .ref q17, .ref q18, .int 0])), (q16, b_ar cy 0 3000), (q17, b_ar cy 0 3000), (q18, b_ar cy 0 3000)]) q19 q1 q15) kbi_X11_48 dX11_init_80 rfl rfl (Nat.le_of_ble_eq_true rfl) ⟨by decide, by decide⟩ ⟨by decide, by decide⟩ ?_
  rintro _ ⟨q20, rfl⟩
  refine b_eq (ws' := w0 ++ [(h, .inr (10, [.ref q1, .ref q3, .ref q8, .ref q10, .ref q15, .null, .null, .null])), (q1, .inr (8, [.ref q2, .int 0])), (q2, b_ar cy 1 8000), (q3, .inr (2, [.ref q4, .ref q5, .ref q6, .ref q7, .int 0, .int 0])), (q4, b_ar cy 0 96), (q5, b_ar cy 0 192), (q6, b_ar cy 0 192), (q7, b_ar cy 0 12), (q8, .inr (7, [.ref q1, .ref q3, .ref q9, .int 0, .int 0, .int 0, .int 0])), (q9, b_ar cy 0 12), (q10, .inr (1, [.ref q11, .ref q12, .ref q13, .ref q14, .int 0, .int 0])), (q11, b_ar cy 0 192), (q12, b_ar cy 0 2304), (q13, b_ar cy 0 2304), (q14, b_ar cy 0 192), (q15, .inr (5, [.ref q16, .ref q17, .ref q18, .int 0])), (q16, b_ar cy 0 3000), (q17, b_ar cy 0 3000), (q18, b_ar cy 0 3000), (q19, .inr (0, [.ref q1, .ref q15, .ref q20, .int 0, .int 0, .int 0, .int 0, .int 0])), (q20, b_ar cy 0 3)]) (List.append_assoc _ _ _) ?_
  refine b_putF C xm9 kl_X11 0 rfl 5 (by decide) kfl_X11_51 rfl rfl rfl rfl (Nat.le_of_ble_eq_true rfl) dX11_init_83 ?_
  refine b_eq (ws' := w0 ++ [(h, .inr (10, [.ref q1, .ref q3, .ref q8, .ref q10, .ref q15, .ref q19, .null, .null])), (q1, .inr (8, [.ref q2, .int 0])), (q2, b_ar cy 1 8000), (q3, .inr (2, [.ref q4, .ref q5, .ref q6, .ref q7, .int 0, .int 0])), (q4, b_ar cy 0 96), (q5, b_ar cy 0 192), (q6, b_ar cy 0 192), (q7, b_ar cy 0 12), (q8, .inr (7, [.ref q1, .ref q3, .ref q9, .int 0, .int 0, .int 0, .int 0])), (q9, b_ar cy 0 12), (q10, .inr (1, [.ref q11, .ref q12, .ref q13, .ref q14, .int 0, .int 0])), (q11, b_ar cy 0 192), (q12, b_ar cy 0 2304), (q13, b_ar cy 0 2304), (q14, b_ar cy 0 192), (q15, .inr (5, [.ref q16, .ref q17, .ref q18, .int 0])), (q16, b_ar cy 0 3000), (q17, b_ar cy 0 3000), (q18, b_ar cy 0 3000), (q19, .inr (0, [.ref q1, .ref q15, .ref q20, .int 0, .int 0, .int 0, .int 0, .int 0])), (q20, b_ar cy 0 3)]) rfl ?_
  refine b_aload C dX11_init_86 rfl (List.mem_of_getElem? (i := 0) rfl) ?_
  refine b_new C (fs := [.null, .null, .null, .null, .null, .null, .null, .null, .int 0]) kl_X7 kcl_X11_55 kin_X7 kit_X7 (by
    intro j hj
    rcases (show j = 0 ∨ j = 1 ∨ j = 2 ∨ j = 3 ∨ j = 4 ∨ j = 5 ∨ j = 6 ∨ j = 7 ∨ j = 8 by omega) with rfl | rfl | rfl | rfl | rfl | rfl | rfl | rfl | rfl <;> rfl) (by decide) (by decide) dX11_init_87 (fun q21 => ?_)
  refine b_dup C dX11_init_90 ?_
  refine b_call C (as := []) (st := [.ref q21, .ref h]) (bc_X7 l D cy B (w0 ++ [(h, .inr (10, [.ref q1, .ref q3, .ref q8, .ref q10, .ref q15, .ref q19, .null, .null])), (q1, .inr (8, [.ref q2, .int 0])), (q2, b_ar cy 1 8000), (q3, .inr (2, [.ref q4, .ref q5, .ref q6, .ref q7, .int 0, .int 0])), (q4, b_ar cy 0 96), (q5, b_ar cy 0 192), (q6, b_ar cy 0 192), (q7, b_ar cy 0 12), (q8, .inr (7, [.ref q1, .ref q3, .ref q9, .int 0, .int 0, .int 0, .int 0])), (q9, b_ar cy 0 12), (q10, .inr (1, [.ref q11, .ref q12, .ref q13, .ref q14, .int 0, .int 0])), (q11, b_ar cy 0 192), (q12, b_ar cy 0 2304), (q13, b_ar cy 0 2304), (q14, b_ar cy 0 192), (q15, .inr (5, [.ref q16, .ref q17, .ref q18, .int 0])), (q16, b_ar cy 0 3000), (q17, b_ar cy 0 3000), (q18, b_ar cy 0 3000), (q19, .inr (0, [.ref q1, .ref q15, .ref q20, .int 0, .int 0, .int 0, .int 0, .int 0])), (q20, b_ar cy 0 3)]) q21) kbi_X11_57 dX11_init_91 rfl rfl (Nat.le_of_ble_eq_true rfl) ⟨by decide, by decide⟩ ⟨by decide, by decide⟩ ?_
  rintro _ ⟨q22, q23, q24, q25, q26, q27, q28, q29, q30, q31, q32, q33, q34, q35, rfl⟩
  refine b_eq (ws' := w0 ++ [(h, .inr (10, [.ref q1, .ref q3, .ref q8, .ref q10, .ref q15, .ref q19, .null, .null])), (q1, .inr (8, [.ref q2, .int 0])), (q2, b_ar cy 1 8000), (q3, .inr (2, [.ref q4, .ref q5, .ref q6, .ref q7, .int 0, .int 0])), (q4, b_ar cy 0 96), (q5, b_ar cy 0 192), (q6, b_ar cy 0 192), (q7, b_ar cy 0 12), (q8, .inr (7, [.ref q1, .ref q3, .ref q9, .int 0, .int 0, .int 0, .int 0])), (q9, b_ar cy 0 12), (q10, .inr (1, [.ref q11, .ref q12, .ref q13, .ref q14, .int 0, .int 0])), (q11, b_ar cy 0 192), (q12, b_ar cy 0 2304), (q13, b_ar cy 0 2304), (q14, b_ar cy 0 192), (q15, .inr (5, [.ref q16, .ref q17, .ref q18, .int 0])), (q16, b_ar cy 0 3000), (q17, b_ar cy 0 3000), (q18, b_ar cy 0 3000), (q19, .inr (0, [.ref q1, .ref q15, .ref q20, .int 0, .int 0, .int 0, .int 0, .int 0])), (q20, b_ar cy 0 3), (q21, .inr (6, [.ref q22, .ref q23, .ref q24, .ref q25, .ref q26, .ref q27, .ref q28, .ref q29, .int 0])), (q22, b_ar cy 3 3000), (q23, b_ar cy 0 3000), (q24, b_ar cy 0 3000), (q25, b_ar cy 0 3000), (q26, b_ar cy 2 3000), (q27, b_ar cy 3 3000), (q28, b_ar cy 3 3000), (q29, .inr (4, [.ref q30, .ref q32, .ref q34, .int 0, .int 0])), (q30, .inr (3, [.ref q31])), (q31, b_ar cy 0 20), (q32, .inr (3, [.ref q33])), (q33, b_ar cy 0 20), (q34, .inr (3, [.ref q35])), (q35, b_ar cy 0 20)]) (List.append_assoc _ _ _) ?_
  refine b_putF C xm9 kl_X11 0 rfl 6 (by decide) kfl_X11_58 rfl rfl rfl rfl (Nat.le_of_ble_eq_true rfl) dX11_init_94 ?_
  refine b_eq (ws' := w0 ++ [(h, .inr (10, [.ref q1, .ref q3, .ref q8, .ref q10, .ref q15, .ref q19, .ref q21, .null])), (q1, .inr (8, [.ref q2, .int 0])), (q2, b_ar cy 1 8000), (q3, .inr (2, [.ref q4, .ref q5, .ref q6, .ref q7, .int 0, .int 0])), (q4, b_ar cy 0 96), (q5, b_ar cy 0 192), (q6, b_ar cy 0 192), (q7, b_ar cy 0 12), (q8, .inr (7, [.ref q1, .ref q3, .ref q9, .int 0, .int 0, .int 0, .int 0])), (q9, b_ar cy 0 12), (q10, .inr (1, [.ref q11, .ref q12, .ref q13, .ref q14, .int 0, .int 0])), (q11, b_ar cy 0 192), (q12, b_ar cy 0 2304), (q13, b_ar cy 0 2304), (q14, b_ar cy 0 192), (q15, .inr (5, [.ref q16, .ref q17, .ref q18, .int 0])), (q16, b_ar cy 0 3000), (q17, b_ar cy 0 3000), (q18, b_ar cy 0 3000), (q19, .inr (0, [.ref q1, .ref q15, .ref q20, .int 0, .int 0, .int 0, .int 0, .int 0])), (q20, b_ar cy 0 3), (q21, .inr (6, [.ref q22, .ref q23, .ref q24, .ref q25, .ref q26, .ref q27, .ref q28, .ref q29, .int 0])), (q22, b_ar cy 3 3000), (q23, b_ar cy 0 3000), (q24, b_ar cy 0 3000), (q25, b_ar cy 0 3000), (q26, b_ar cy 2 3000), (q27, b_ar cy 3 3000), (q28, b_ar cy 3 3000), (q29, .inr (4, [.ref q30, .ref q32, .ref q34, .int 0, .int 0])), (q30, .inr (3, [.ref q31])), (q31, b_ar cy 0 20), (q32, .inr (3, [.ref q33])), (q33, b_ar cy 0 20), (q34, .inr (3, [.ref q35])), (q35, b_ar cy 0 20)]) rfl ?_
  refine b_aload C dX11_init_97 rfl (List.mem_of_getElem? (i := 0) rfl) ?_
  refine b_new C (fs := [.null, .int 0]) kl_X10 kcl_X11_62 kin_X10 kit_X10 (by
    intro j hj
    rcases (show j = 0 ∨ j = 1 by omega) with rfl | rfl <;> rfl) (by decide) (by decide) dX11_init_98 (fun q36 => ?_)
  refine b_dup C dX11_init_101 ?_
  refine b_call C (as := []) (st := [.ref q36, .ref h]) (bc_X10 l D cy B (w0 ++ [(h, .inr (10, [.ref q1, .ref q3, .ref q8, .ref q10, .ref q15, .ref q19, .ref q21, .null])), (q1, .inr (8, [.ref q2, .int 0])), (q2, b_ar cy 1 8000), (q3, .inr (2, [.ref q4, .ref q5, .ref q6, .ref q7, .int 0, .int 0])), (q4, b_ar cy 0 96), (q5, b_ar cy 0 192), (q6, b_ar cy 0 192), (q7, b_ar cy 0 12), (q8, .inr (7, [.ref q1, .ref q3, .ref q9, .int 0, .int 0, .int 0, .int 0])), (q9, b_ar cy 0 12), (q10, .inr (1, [.ref q11, .ref q12, .ref q13, .ref q14, .int 0, .int 0])), (q11, b_ar cy 0 192), (q12, b_ar cy 0 2304), (q13, b_ar cy 0 2304), (q14, b_ar cy 0 192), (q15, .inr (5, [.ref q16, .ref q17, .ref q18, .int 0])), (q16, b_ar cy 0 3000), (q17, b_ar cy 0 3000), (q18, b_ar cy 0 3000), (q19, .inr (0, [.ref q1, .ref q15, .ref q20, .int 0, .int 0, .int 0, .int 0, .int 0])), (q20, b_ar cy 0 3), (q21, .inr (6, [.ref q22, .ref q23, .ref q24, .ref q25, .ref q26, .ref q27, .ref q28, .ref q29, .int 0])), (q22, b_ar cy 3 3000), (q23, b_ar cy 0 3000), (q24, b_ar cy 0 3000), (q25, b_ar cy 0 3000), (q26, b_ar cy 2 3000), (q27, b_ar cy 3 3000), (q28, b_ar cy 3 3000), (q29, .inr (4, [.ref q30, .ref q32, .ref q34, .int 0, .int 0])), (q30, .inr (3, [.ref q31])), (q31, b_ar cy 0 20), (q32, .inr (3, [.ref q33])), (q33, b_ar cy 0 20), (q34, .inr (3, [.ref q35])), (q35, b_ar cy 0 20)]) q36) kbi_X11_64 dX11_init_102 rfl rfl (Nat.le_of_ble_eq_true rfl) ⟨by decide, by decide⟩ ⟨by decide, by decide⟩ ?_
  rintro _ ⟨q37, rfl⟩
  refine b_eq (ws' := w0 ++ [(h, .inr (10, [.ref q1, .ref q3, .ref q8, .ref q10, .ref q15, .ref q19, .ref q21, .null])), (q1, .inr (8, [.ref q2, .int 0])), (q2, b_ar cy 1 8000), (q3, .inr (2, [.ref q4, .ref q5, .ref q6, .ref q7, .int 0, .int 0])), (q4, b_ar cy 0 96), (q5, b_ar cy 0 192), (q6, b_ar cy 0 192), (q7, b_ar cy 0 12), (q8, .inr (7, [.ref q1, .ref q3, .ref q9, .int 0, .int 0, .int 0, .int 0])), (q9, b_ar cy 0 12), (q10, .inr (1, [.ref q11, .ref q12, .ref q13, .ref q14, .int 0, .int 0])), (q11, b_ar cy 0 192), (q12, b_ar cy 0 2304), (q13, b_ar cy 0 2304), (q14, b_ar cy 0 192), (q15, .inr (5, [.ref q16, .ref q17, .ref q18, .int 0])), (q16, b_ar cy 0 3000), (q17, b_ar cy 0 3000), (q18, b_ar cy 0 3000), (q19, .inr (0, [.ref q1, .ref q15, .ref q20, .int 0, .int 0, .int 0, .int 0, .int 0])), (q20, b_ar cy 0 3), (q21, .inr (6, [.ref q22, .ref q23, .ref q24, .ref q25, .ref q26, .ref q27, .ref q28, .ref q29, .int 0])), (q22, b_ar cy 3 3000), (q23, b_ar cy 0 3000), (q24, b_ar cy 0 3000), (q25, b_ar cy 0 3000), (q26, b_ar cy 2 3000), (q27, b_ar cy 3 3000), (q28, b_ar cy 3 3000), (q29, .inr (4, [.ref q30, .ref q32, .ref q34, .int 0, .int 0])), (q30, .inr (3, [.ref q31])), (q31, b_ar cy 0 20), (q32, .inr (3, [.ref q33])), (q33, b_ar cy 0 20), (q34, .inr (3, [.ref q35])), (q35, b_ar cy 0 20), (q36, .inr (9, [.ref q37, .int 0])), (q37, b_ar cy 0 3000)]) (List.append_assoc _ _ _) ?_
  refine b_putF C xm9 kl_X11 0 rfl 7 (by decide) kfl_X11_65 rfl rfl rfl rfl (Nat.le_of_ble_eq_true rfl) dX11_init_105 ?_
  refine b_eq (ws' := w0 ++ [(h, .inr (10, [.ref q1, .ref q3, .ref q8, .ref q10, .ref q15, .ref q19, .ref q21, .ref q36])), (q1, .inr (8, [.ref q2, .int 0])), (q2, b_ar cy 1 8000), (q3, .inr (2, [.ref q4, .ref q5, .ref q6, .ref q7, .int 0, .int 0])), (q4, b_ar cy 0 96), (q5, b_ar cy 0 192), (q6, b_ar cy 0 192), (q7, b_ar cy 0 12), (q8, .inr (7, [.ref q1, .ref q3, .ref q9, .int 0, .int 0, .int 0, .int 0])), (q9, b_ar cy 0 12), (q10, .inr (1, [.ref q11, .ref q12, .ref q13, .ref q14, .int 0, .int 0])), (q11, b_ar cy 0 192), (q12, b_ar cy 0 2304), (q13, b_ar cy 0 2304), (q14, b_ar cy 0 192), (q15, .inr (5, [.ref q16, .ref q17, .ref q18, .int 0])), (q16, b_ar cy 0 3000), (q17, b_ar cy 0 3000), (q18, b_ar cy 0 3000), (q19, .inr (0, [.ref q1, .ref q15, .ref q20, .int 0, .int 0, .int 0, .int 0, .int 0])), (q20, b_ar cy 0 3), (q21, .inr (6, [.ref q22, .ref q23, .ref q24, .ref q25, .ref q26, .ref q27, .ref q28, .ref q29, .int 0])), (q22, b_ar cy 3 3000), (q23, b_ar cy 0 3000), (q24, b_ar cy 0 3000), (q25, b_ar cy 0 3000), (q26, b_ar cy 2 3000), (q27, b_ar cy 3 3000), (q28, b_ar cy 3 3000), (q29, .inr (4, [.ref q30, .ref q32, .ref q34, .int 0, .int 0])), (q30, .inr (3, [.ref q31])), (q31, b_ar cy 0 20), (q32, .inr (3, [.ref q33])), (q33, b_ar cy 0 20), (q34, .inr (3, [.ref q35])), (q35, b_ar cy 0 20), (q36, .inr (9, [.ref q37, .int 0])), (q37, b_ar cy 0 3000)]) rfl ?_
  exact b_ret C xr xk dX11_init_108 ⟨_, _, _, _, _, _, _, _, _, _, _, _, _, _, _, _, _, _, _, _, _, _, _, _, _, _, _, _, _, _, _, _, _, _, _, _, _, rfl⟩
theorem kfl_X12_7 : Cond.fieldLink RX12 7 (TX12 1).1 (TX12 1).2.1 (TX12 1).2.2.1 ∈ x_wd := x_wd_in (x_at (i := 954) (by decide +kernel)) rfl
theorem kfl_X12_13 : Cond.fieldLink RX12 13 (TX12 5).1 (TX12 5).2.1 (TX12 5).2.2.1 ∈ x_wd := x_wd_in (x_at (i := 958) (by decide +kernel)) rfl
theorem kfl_X12_17 : Cond.fieldLink RX12 17 (TX12 6).1 (TX12 6).2.1 (TX12 6).2.2.1 ∈ x_wd := x_wd_in (x_at (i := 959) (by decide +kernel)) rfl
theorem kfl_X12_20 : Cond.fieldLink RX12 20 (TX12 8).1 (TX12 8).2.1 (TX12 8).2.2.1 ∈ x_wd := x_wd_in (x_at (i := 961) (by decide +kernel)) rfl
theorem kfl_X12_23 : Cond.fieldLink RX12 23 (TX12 9).1 (TX12 9).2.1 (TX12 9).2.2.1 ∈ x_wd := x_wd_in (x_at (i := 962) (by decide +kernel)) rfl
theorem kfl_X12_26 : Cond.fieldLink RX12 26 (TX12 11).1 (TX12 11).2.1 (TX12 11).2.2.1 ∈ x_wd := x_wd_in (x_at (i := 964) (by decide +kernel)) rfl
theorem kfl_X12_29 : Cond.fieldLink RX12 29 (TX12 12).1 (TX12 12).2.1 (TX12 12).2.2.1 ∈ x_wd := x_wd_in (x_at (i := 965) (by decide +kernel)) rfl
theorem kfl_X12_32 : Cond.fieldLink RX12 32 (TX12 13).1 (TX12 13).2.1 (TX12 13).2.2.1 ∈ x_wd := x_wd_in (x_at (i := 966) (by decide +kernel)) rfl
theorem kfl_X12_35 : Cond.fieldLink RX12 35 (TX12 14).1 (TX12 14).2.1 (TX12 14).2.2.1 ∈ x_wd := x_wd_in (x_at (i := 967) (by decide +kernel)) rfl
theorem kfl_X12_38 : Cond.fieldLink RX12 38 (TX12 19).1 (TX12 19).2.1 (TX12 19).2.2.1 ∈ x_wd := x_wd_in (x_at (i := 972) (by decide +kernel)) rfl
theorem kfl_X12_42 : Cond.fieldLink RX12 42 (TX12 21).1 (TX12 21).2.1 (TX12 21).2.2.1 ∈ x_wd := x_wd_in (x_at (i := 974) (by decide +kernel)) rfl
theorem kfl_X12_45 : Cond.fieldLink RX12 45 (TX12 22).1 (TX12 22).2.1 (TX12 22).2.2.1 ∈ x_wd := x_wd_in (x_at (i := 975) (by decide +kernel)) rfl
theorem kfl_X12_48 : Cond.fieldLink RX12 48 (TX12 23).1 (TX12 23).2.1 (TX12 23).2.2.1 ∈ x_wd := x_wd_in (x_at (i := 976) (by decide +kernel)) rfl
theorem kfl_X12_51 : Cond.fieldLink RX12 51 (TX12 24).1 (TX12 24).2.1 (TX12 24).2.2.1 ∈ x_wd := x_wd_in (x_at (i := 977) (by decide +kernel)) rfl
theorem kfl_X12_54 : Cond.fieldLink RX12 54 (TX12 25).1 (TX12 25).2.1 (TX12 25).2.2.1 ∈ x_wd := x_wd_in (x_at (i := 978) (by decide +kernel)) rfl
theorem kfl_X12_57 : Cond.fieldLink RX12 57 (TX12 30).1 (TX12 30).2.1 (TX12 30).2.2.1 ∈ x_wd := x_wd_in (x_at (i := 983) (by decide +kernel)) rfl
theorem kfl_X12_60 : Cond.fieldLink RX12 60 (TX12 31).1 (TX12 31).2.1 (TX12 31).2.2.1 ∈ x_wd := x_wd_in (x_at (i := 984) (by decide +kernel)) rfl
theorem kfl_X12_63 : Cond.fieldLink RX12 63 (TX12 32).1 (TX12 32).2.1 (TX12 32).2.2.1 ∈ x_wd := x_wd_in (x_at (i := 985) (by decide +kernel)) rfl
theorem kfl_X12_66 : Cond.fieldLink RX12 66 (TX12 33).1 (TX12 33).2.1 (TX12 33).2.2.1 ∈ x_wd := x_wd_in (x_at (i := 986) (by decide +kernel)) rfl
theorem kfl_X12_70 : Cond.fieldLink RX12 70 (TX12 34).1 (TX12 34).2.1 (TX12 34).2.2.1 ∈ x_wd := x_wd_in (x_at (i := 987) (by decide +kernel)) rfl
theorem kfl_X12_73 : Cond.fieldLink RX12 73 (TX12 35).1 (TX12 35).2.1 (TX12 35).2.2.1 ∈ x_wd := x_wd_in (x_at (i := 988) (by decide +kernel)) rfl
theorem kfl_X12_76 : Cond.fieldLink RX12 76 (TX12 36).1 (TX12 36).2.1 (TX12 36).2.2.1 ∈ x_wd := x_wd_in (x_at (i := 989) (by decide +kernel)) rfl
theorem kfl_X12_79 : Cond.fieldLink RX12 79 (TX12 37).1 (TX12 37).2.1 (TX12 37).2.2.1 ∈ x_wd := x_wd_in (x_at (i := 990) (by decide +kernel)) rfl
theorem kfl_X12_82 : Cond.fieldLink RX12 82 (TX12 39).1 (TX12 39).2.1 (TX12 39).2.2.1 ∈ x_wd := x_wd_in (x_at (i := 992) (by decide +kernel)) rfl
set_option maxRecDepth 100000 in
set_option maxHeartbeats 1000000 in
theorem bc_X12 (l : Launch) (D : va_G) (cy : Nat → ClassId) (B : Nat) (w0 : va_W) (h : Nat) : b_M l yX12_init cX12_init 1 1 24 52444 D cy B [.ref h] (w0 ++ [(h, .inr (11, [.int 0, .null, .int 0, .int 0, .int 0, .null, .null, .int 0, .null, .null, .int 0, .null, .null, .null, .null, .int 0, .int 0, .int 0, .int 0, .null, .int 0, .null, .null, .null, .null, .null, .int 0, .int 0, .int 0, .int 0, .null, .null, .null, .null, .null, .null, .null, .null, .int 0, .null]))]) (fun ws' => ∃ q1 q2 q3 q4 q5 q6 q7 q8 q9 q10 q11 q12 q13 q14 q15 q16 q17 q18 q19 q20 q21 q22 q23 q24, ws' = w0 ++ [(h, .inr (11, [.int 0, .ref q1, .int 0, .int 0, .int 0, .ref q2, .ref q3, .int 0, .ref q4, .ref q5, .int 0, .ref q6, .ref q7, .ref q8, .ref q9, .int 0, .int 0, .int 0, .int 0, .ref q10, .int 0, .ref q11, .ref q12, .ref q13, .ref q14, .ref q15, .int 0, .int 0, .int 0, .int 0, .ref q16, .ref q17, .ref q18, .ref q19, .ref q20, .ref q21, .ref q22, .ref q23, .int 0, .ref q24])), (q1, b_ar cy 1 8000), (q2, b_ar cy 0 1728), (q3, b_ar cy 0 576), (q4, b_ar cy 0 1737), (q5, b_ar cy 0 579), (q6, b_ar cy 0 81), (q7, b_ar cy 0 27), (q8, b_ar cy 0 9), (q9, b_ar cy 0 3), (q10, b_ar cy 3 384), (q11, b_ar cy 0 3000), (q12, b_ar cy 0 3000), (q13, b_ar cy 0 3000), (q14, b_ar cy 0 3000), (q15, b_ar cy 0 3000), (q16, b_ar cy 3 3000), (q17, b_ar cy 0 3000), (q18, b_ar cy 0 3000), (q19, b_ar cy 2 3000), (q20, b_ar cy 3 3000), (q21, b_ar cy 3 3000), (q22, b_ar cy 3 3000), (q23, b_ar cy 0 320), (q24, b_ar cy 0 3000)]) := by
  refine b_start (by decide) (Nat.le_of_ble_eq_true rfl) ?_
  intro xp xe xs xm xg xb xt xc C xr xk xm9
  refine b_aload C dX12_init_0 rfl (List.mem_of_getElem? (i := 0) rfl) ?_
  refine b_obj C koi_X12 koi_i koi_c dX12_init_1 ⟨by decide, by decide⟩ ?_
  refine b_aload C dX12_init_4 rfl (List.mem_of_getElem? (i := 0) rfl) ?_
  refine b_sipush C (nI 8000) dX12_init_5 rfl ?_
  refine b_newa C (atype := .byte) (i := 1) (N := 8000) (by decide) rfl kar_byte (by decide) (by decide) (by decide) dX12_init_8 (fun q1 => ?_)
  refine b_eq (ws' := w0 ++ [(h, .inr (11, [.int 0, .null, .int 0, .int 0, .int 0, .null, .null, .int 0, .null, .null, .int 0, .null, .null, .null, .null, .int 0, .int 0, .int 0, .int 0, .null, .int 0, .null, .null, .null, .null, .null, .int 0, .int 0, .int 0, .int 0, .null, .null, .null, .null, .null, .null, .null, .null, .int 0, .null])), (q1, b_ar cy 1 8000)]) (List.append_assoc _ _ _) ?_
  refine b_putF C xm9 kl_X12 0 rfl 1 (by decide) kfl_X12_7 rfl rfl rfl rfl (Nat.le_of_ble_eq_true rfl) dX12_init_10 ?_
  refine b_eq (ws' := w0 ++ [(h, .inr (11, [.int 0, .ref q1, .int 0, .int 0, .int 0, .null, .null, .int 0, .null, .null, .int 0, .null, .null, .null, .null, .int 0, .int 0, .int 0, .int 0, .null, .int 0, .null, .null, .null, .null, .null, .int 0, .int 0, .int 0, .int 0, .null, .null, .null, .null, .null, .null, .null, .null, .int 0, .null])), (q1, b_ar cy 1 8000)]) rfl ?_
  refine b_aload C dX12_init_13 rfl (List.mem_of_getElem? (i := 0) rfl) ?_
  refine b_sipush C (nI 1728) dX12_init_14 rfl ?_
  refine b_newa C (atype := .int) (i := 0) (N := 1728) (by decide) rfl kar_int (by decide) (by decide) (by decide) dX12_init_17 (fun q2 => ?_)
  refine b_eq (ws' := w0 ++ [(h, .inr (11, [.int 0, .ref q1, .int 0, .int 0, .int 0, .null, .null, .int 0, .null, .null, .int 0, .null, .null, .null, .null, .int 0, .int 0, .int 0, .int 0, .null, .int 0, .null, .null, .null, .null, .null, .int 0, .int 0, .int 0, .int 0, .null, .null, .null, .null, .null, .null, .null, .null, .int 0, .null])), (q1, b_ar cy 1 8000), (q2, b_ar cy 0 1728)]) (List.append_assoc _ _ _) ?_
  refine b_putF C xm9 kl_X12 0 rfl 5 (by decide) kfl_X12_13 rfl rfl rfl rfl (Nat.le_of_ble_eq_true rfl) dX12_init_19 ?_
  refine b_eq (ws' := w0 ++ [(h, .inr (11, [.int 0, .ref q1, .int 0, .int 0, .int 0, .ref q2, .null, .int 0, .null, .null, .int 0, .null, .null, .null, .null, .int 0, .int 0, .int 0, .int 0, .null, .int 0, .null, .null, .null, .null, .null, .int 0, .int 0, .int 0, .int 0, .null, .null, .null, .null, .null, .null, .null, .null, .int 0, .null])), (q1, b_ar cy 1 8000), (q2, b_ar cy 0 1728)]) rfl ?_
  refine b_aload C dX12_init_22 rfl (List.mem_of_getElem? (i := 0) rfl) ?_
  refine b_sipush C (nI 576) dX12_init_23 rfl ?_
  refine b_newa C (atype := .int) (i := 0) (N := 576) (by decide) rfl kar_int (by decide) (by decide) (by decide) dX12_init_26 (fun q3 => ?_)
  refine b_eq (ws' := w0 ++ [(h, .inr (11, [.int 0, .ref q1, .int 0, .int 0, .int 0, .ref q2, .null, .int 0, .null, .null, .int 0, .null, .null, .null, .null, .int 0, .int 0, .int 0, .int 0, .null, .int 0, .null, .null, .null, .null, .null, .int 0, .int 0, .int 0, .int 0, .null, .null, .null, .null, .null, .null, .null, .null, .int 0, .null])), (q1, b_ar cy 1 8000), (q2, b_ar cy 0 1728), (q3, b_ar cy 0 576)]) (List.append_assoc _ _ _) ?_
  refine b_putF C xm9 kl_X12 0 rfl 6 (by decide) kfl_X12_17 rfl rfl rfl rfl (Nat.le_of_ble_eq_true rfl) dX12_init_28 ?_
  refine b_eq (ws' := w0 ++ [(h, .inr (11, [.int 0, .ref q1, .int 0, .int 0, .int 0, .ref q2, .ref q3, .int 0, .null, .null, .int 0, .null, .null, .null, .null, .int 0, .int 0, .int 0, .int 0, .null, .int 0, .null, .null, .null, .null, .null, .int 0, .int 0, .int 0, .int 0, .null, .null, .null, .null, .null, .null, .null, .null, .int 0, .null])), (q1, b_ar cy 1 8000), (q2, b_ar cy 0 1728), (q3, b_ar cy 0 576)]) rfl ?_
  refine b_aload C dX12_init_31 rfl (List.mem_of_getElem? (i := 0) rfl) ?_
  refine b_sipush C (nI 1737) dX12_init_32 rfl ?_
  refine b_newa C (atype := .int) (i := 0) (N := 1737) (by decide) rfl kar_int (by decide) (by decide) (by decide) dX12_init_35 (fun q4 => ?_)
  refine b_eq (ws' := w0 ++ [(h, .inr (11, [.int 0, .ref q1, .int 0, .int 0, .int 0, .ref q2, .ref q3, .int 0, .null, .null, .int 0, .null, .null, .null, .null, .int 0, .int 0, .int 0, .int 0, .null, .int 0, .null, .null, .null, .null, .null, .int 0, .int 0, .int 0, .int 0, .null, .null, .null, .null, .null, .null, .null, .null, .int 0, .null])), (q1, b_ar cy 1 8000), (q2, b_ar cy 0 1728), (q3, b_ar cy 0 576), (q4, b_ar cy 0 1737)]) (List.append_assoc _ _ _) ?_
  refine b_putF C xm9 kl_X12 0 rfl 8 (by decide) kfl_X12_20 rfl rfl rfl rfl (Nat.le_of_ble_eq_true rfl) dX12_init_37 ?_
  refine b_eq (ws' := w0 ++ [(h, .inr (11, [.int 0, .ref q1, .int 0, .int 0, .int 0, .ref q2, .ref q3, .int 0, .ref q4, .null, .int 0, .null, .null, .null, .null, .int 0, .int 0, .int 0, .int 0, .null, .int 0, .null, .null, .null, .null, .null, .int 0, .int 0, .int 0, .int 0, .null, .null, .null, .null, .null, .null, .null, .null, .int 0, .null])), (q1, b_ar cy 1 8000), (q2, b_ar cy 0 1728), (q3, b_ar cy 0 576), (q4, b_ar cy 0 1737)]) rfl ?_
  refine b_aload C dX12_init_40 rfl (List.mem_of_getElem? (i := 0) rfl) ?_
  refine b_sipush C (nI 579) dX12_init_41 rfl ?_
  refine b_newa C (atype := .int) (i := 0) (N := 579) (by decide) rfl kar_int (by decide) (by decide) (by decide) dX12_init_44 (fun q5 => ?_)
  refine b_eq (ws' := w0 ++ [(h, .inr (11, [.int 0, .ref q1, .int 0, .int 0, .int 0, .ref q2, .ref q3, .int 0, .ref q4, .null, .int 0, .null, .null, .null, .null, .int 0, .int 0, .int 0, .int 0, .null, .int 0, .null, .null, .null, .null, .null, .int 0, .int 0, .int 0, .int 0, .null, .null, .null, .null, .null, .null, .null, .null, .int 0, .null])), (q1, b_ar cy 1 8000), (q2, b_ar cy 0 1728), (q3, b_ar cy 0 576), (q4, b_ar cy 0 1737), (q5, b_ar cy 0 579)]) (List.append_assoc _ _ _) ?_
  refine b_putF C xm9 kl_X12 0 rfl 9 (by decide) kfl_X12_23 rfl rfl rfl rfl (Nat.le_of_ble_eq_true rfl) dX12_init_46 ?_
  refine b_eq (ws' := w0 ++ [(h, .inr (11, [.int 0, .ref q1, .int 0, .int 0, .int 0, .ref q2, .ref q3, .int 0, .ref q4, .ref q5, .int 0, .null, .null, .null, .null, .int 0, .int 0, .int 0, .int 0, .null, .int 0, .null, .null, .null, .null, .null, .int 0, .int 0, .int 0, .int 0, .null, .null, .null, .null, .null, .null, .null, .null, .int 0, .null])), (q1, b_ar cy 1 8000), (q2, b_ar cy 0 1728), (q3, b_ar cy 0 576), (q4, b_ar cy 0 1737), (q5, b_ar cy 0 579)]) rfl ?_
  refine b_aload C dX12_init_49 rfl (List.mem_of_getElem? (i := 0) rfl) ?_
  refine b_bipush C (nI 81) dX12_init_50 rfl ?_
  refine b_newa C (atype := .int) (i := 0) (N := 81) (by decide) rfl kar_int (by decide) (by decide) (by decide) dX12_init_52 (fun q6 => ?_)
  refine b_eq (ws' := w0 ++ [(h, .inr (11, [.int 0, .ref q1, .int 0, .int 0, .int 0, .ref q2, .ref q3, .int 0, .ref q4, .ref q5, .int 0, .null, .null, .null, .null, .int 0, .int 0, .int 0, .int 0, .null, .int 0, .null, .null, .null, .null, .null, .int 0, .int 0, .int 0, .int 0, .null, .null, .null, .null, .null, .null, .null, .null, .int 0, .null])), (q1, b_ar cy 1 8000), (q2, b_ar cy 0 1728), (q3, b_ar cy 0 576), (q4, b_ar cy 0 1737), (q5, b_ar cy 0 579), (q6, b_ar cy 0 81)]) (List.append_assoc _ _ _) ?_
  refine b_putF C xm9 kl_X12 0 rfl 11 (by decide) kfl_X12_26 rfl rfl rfl rfl (Nat.le_of_ble_eq_true rfl) dX12_init_54 ?_
  refine b_eq (ws' := w0 ++ [(h, .inr (11, [.int 0, .ref q1, .int 0, .int 0, .int 0, .ref q2, .ref q3, .int 0, .ref q4, .ref q5, .int 0, .ref q6, .null, .null, .null, .int 0, .int 0, .int 0, .int 0, .null, .int 0, .null, .null, .null, .null, .null, .int 0, .int 0, .int 0, .int 0, .null, .null, .null, .null, .null, .null, .null, .null, .int 0, .null])), (q1, b_ar cy 1 8000), (q2, b_ar cy 0 1728), (q3, b_ar cy 0 576), (q4, b_ar cy 0 1737), (q5, b_ar cy 0 579), (q6, b_ar cy 0 81)]) rfl ?_
  refine b_aload C dX12_init_57 rfl (List.mem_of_getElem? (i := 0) rfl) ?_
  refine b_bipush C (nI 27) dX12_init_58 rfl ?_
  refine b_newa C (atype := .int) (i := 0) (N := 27) (by decide) rfl kar_int (by decide) (by decide) (by decide) dX12_init_60 (fun q7 => ?_)
  refine b_eq (ws' := w0 ++ [(h, .inr (11, [.int 0, .ref q1, .int 0, .int 0, .int 0, .ref q2, .ref q3, .int 0, .ref q4, .ref q5, .int 0, .ref q6, .null, .null, .null, .int 0, .int 0, .int 0, .int 0, .null, .int 0, .null, .null, .null, .null, .null, .int 0, .int 0, .int 0, .int 0, .null, .null, .null, .null, .null, .null, .null, .null, .int 0, .null])), (q1, b_ar cy 1 8000), (q2, b_ar cy 0 1728), (q3, b_ar cy 0 576), (q4, b_ar cy 0 1737), (q5, b_ar cy 0 579), (q6, b_ar cy 0 81), (q7, b_ar cy 0 27)]) (List.append_assoc _ _ _) ?_
  refine b_putF C xm9 kl_X12 0 rfl 12 (by decide) kfl_X12_29 rfl rfl rfl rfl (Nat.le_of_ble_eq_true rfl) dX12_init_62 ?_
  refine b_eq (ws' := w0 ++ [(h, .inr (11, [.int 0, .ref q1, .int 0, .int 0, .int 0, .ref q2, .ref q3, .int 0, .ref q4, .ref q5, .int 0, .ref q6, .ref q7, .null, .null, .int 0, .int 0, .int 0, .int 0, .null, .int 0, .null, .null, .null, .null, .null, .int 0, .int 0, .int 0, .int 0, .null, .null, .null, .null, .null, .null, .null, .null, .int 0, .null])), (q1, b_ar cy 1 8000), (q2, b_ar cy 0 1728), (q3, b_ar cy 0 576), (q4, b_ar cy 0 1737), (q5, b_ar cy 0 579), (q6, b_ar cy 0 81), (q7, b_ar cy 0 27)]) rfl ?_
  refine b_aload C dX12_init_65 rfl (List.mem_of_getElem? (i := 0) rfl) ?_
  refine b_bipush C (nI 9) dX12_init_66 rfl ?_
  refine b_newa C (atype := .int) (i := 0) (N := 9) (by decide) rfl kar_int (by decide) (by decide) (by decide) dX12_init_68 (fun q8 => ?_)
  refine b_eq (ws' := w0 ++ [(h, .inr (11, [.int 0, .ref q1, .int 0, .int 0, .int 0, .ref q2, .ref q3, .int 0, .ref q4, .ref q5, .int 0, .ref q6, .ref q7, .null, .null, .int 0, .int 0, .int 0, .int 0, .null, .int 0, .null, .null, .null, .null, .null, .int 0, .int 0, .int 0, .int 0, .null, .null, .null, .null, .null, .null, .null, .null, .int 0, .null])), (q1, b_ar cy 1 8000), (q2, b_ar cy 0 1728), (q3, b_ar cy 0 576), (q4, b_ar cy 0 1737), (q5, b_ar cy 0 579), (q6, b_ar cy 0 81), (q7, b_ar cy 0 27), (q8, b_ar cy 0 9)]) (List.append_assoc _ _ _) ?_
  refine b_putF C xm9 kl_X12 0 rfl 13 (by decide) kfl_X12_32 rfl rfl rfl rfl (Nat.le_of_ble_eq_true rfl) dX12_init_70 ?_
  refine b_eq (ws' := w0 ++ [(h, .inr (11, [.int 0, .ref q1, .int 0, .int 0, .int 0, .ref q2, .ref q3, .int 0, .ref q4, .ref q5, .int 0, .ref q6, .ref q7, .ref q8, .null, .int 0, .int 0, .int 0, .int 0, .null, .int 0, .null, .null, .null, .null, .null, .int 0, .int 0, .int 0, .int 0, .null, .null, .null, .null, .null, .null, .null, .null, .int 0, .null])), (q1, b_ar cy 1 8000), (q2, b_ar cy 0 1728), (q3, b_ar cy 0 576), (q4, b_ar cy 0 1737), (q5, b_ar cy 0 579), (q6, b_ar cy 0 81), (q7, b_ar cy 0 27), (q8, b_ar cy 0 9)]) rfl ?_
  refine b_aload C dX12_init_73 rfl (List.mem_of_getElem? (i := 0) rfl) ?_
  refine b_iconst C (nI 3) dX12_init_74 rfl ?_
  refine b_newa C (atype := .int) (i := 0) (N := 3) (by decide) rfl kar_int (by decide) (by decide) (by decide) dX12_init_75 (fun q9 => ?_)
  refine b_eq (ws' := w0 ++ [(h, .inr (11, [.int 0, .ref q1, .int 0, .int 0, .int 0, .ref q2, .ref q3, .int 0, .ref q4, .ref q5, .int 0, .ref q6, .ref q7, .ref q8, .null, .int 0, .int 0, .int 0, .int 0, .null, .int 0, .null, .null, .null, .null, .null, .int 0, .int 0, .int 0, .int 0, .null, .null, .null, .null, .null, .null, .null, .null, .int 0, .null])), (q1, b_ar cy 1 8000), (q2, b_ar cy 0 1728), (q3, b_ar cy 0 576), (q4, b_ar cy 0 1737), (q5, b_ar cy 0 579), (q6, b_ar cy 0 81), (q7, b_ar cy 0 27), (q8, b_ar cy 0 9), (q9, b_ar cy 0 3)]) (List.append_assoc _ _ _) ?_
  refine b_putF C xm9 kl_X12 0 rfl 14 (by decide) kfl_X12_35 rfl rfl rfl rfl (Nat.le_of_ble_eq_true rfl) dX12_init_77 ?_
  refine b_eq (ws' := w0 ++ [(h, .inr (11, [.int 0, .ref q1, .int 0, .int 0, .int 0, .ref q2, .ref q3, .int 0, .ref q4, .ref q5, .int 0, .ref q6, .ref q7, .ref q8, .ref q9, .int 0, .int 0, .int 0, .int 0, .null, .int 0, .null, .null, .null, .null, .null, .int 0, .int 0, .int 0, .int 0, .null, .null, .null, .null, .null, .null, .null, .null, .int 0, .null])), (q1, b_ar cy 1 8000), (q2, b_ar cy 0 1728), (q3, b_ar cy 0 576), (q4, b_ar cy 0 1737), (q5, b_ar cy 0 579), (q6, b_ar cy 0 81), (q7, b_ar cy 0 27), (q8, b_ar cy 0 9), (q9, b_ar cy 0 3)]) rfl ?_
  refine b_aload C dX12_init_80 rfl (List.mem_of_getElem? (i := 0) rfl) ?_
  refine b_sipush C (nI 384) dX12_init_81 rfl ?_
  refine b_newa C (atype := .long) (i := 3) (N := 384) (by decide) rfl kar_long (by decide) (by decide) (by decide) dX12_init_84 (fun q10 => ?_)
  refine b_eq (ws' := w0 ++ [(h, .inr (11, [.int 0, .ref q1, .int 0, .int 0, .int 0, .ref q2, .ref q3, .int 0, .ref q4, .ref q5, .int 0, .ref q6, .ref q7, .ref q8, .ref q9, .int 0, .int 0, .int 0, .int 0, .null, .int 0, .null, .null, .null, .null, .null, .int 0, .int 0, .int 0, .int 0, .null, .null, .null, .null, .null, .null, .null, .null, .int 0, .null])), (q1, b_ar cy 1 8000), (q2, b_ar cy 0 1728), (q3, b_ar cy 0 576), (q4, b_ar cy 0 1737), (q5, b_ar cy 0 579), (q6, b_ar cy 0 81), (q7, b_ar cy 0 27), (q8, b_ar cy 0 9), (q9, b_ar cy 0 3), (q10, b_ar cy 3 384)]) (List.append_assoc _ _ _) ?_
  refine b_putF C xm9 kl_X12 0 rfl 19 (by decide) kfl_X12_38 rfl rfl rfl rfl (Nat.le_of_ble_eq_true rfl) dX12_init_86 ?_
  refine b_eq (ws' := w0 ++ [(h, .inr (11, [.int 0, .ref q1, .int 0, .int 0, .int 0, .ref q2, .ref q3, .int 0, .ref q4, .ref q5, .int 0, .ref q6, .ref q7, .ref q8, .ref q9, .int 0, .int 0, .int 0, .int 0, .ref q10, .int 0, .null, .null, .null, .null, .null, .int 0, .int 0, .int 0, .int 0, .null, .null, .null, .null, .null, .null, .null, .null, .int 0, .null])), (q1, b_ar cy 1 8000), (q2, b_ar cy 0 1728), (q3, b_ar cy 0 576), (q4, b_ar cy 0 1737), (q5, b_ar cy 0 579), (q6, b_ar cy 0 81), (q7, b_ar cy 0 27), (q8, b_ar cy 0 9), (q9, b_ar cy 0 3), (q10, b_ar cy 3 384)]) rfl ?_
  refine b_aload C dX12_init_89 rfl (List.mem_of_getElem? (i := 0) rfl) ?_
  refine b_sipush C (nI 3000) dX12_init_90 rfl ?_
  refine b_newa C (atype := .int) (i := 0) (N := 3000) (by decide) rfl kar_int (by decide) (by decide) (by decide) dX12_init_93 (fun q11 => ?_)
  refine b_eq (ws' := w0 ++ [(h, .inr (11, [.int 0, .ref q1, .int 0, .int 0, .int 0, .ref q2, .ref q3, .int 0, .ref q4, .ref q5, .int 0, .ref q6, .ref q7, .ref q8, .ref q9, .int 0, .int 0, .int 0, .int 0, .ref q10, .int 0, .null, .null, .null, .null, .null, .int 0, .int 0, .int 0, .int 0, .null, .null, .null, .null, .null, .null, .null, .null, .int 0, .null])), (q1, b_ar cy 1 8000), (q2, b_ar cy 0 1728), (q3, b_ar cy 0 576), (q4, b_ar cy 0 1737), (q5, b_ar cy 0 579), (q6, b_ar cy 0 81), (q7, b_ar cy 0 27), (q8, b_ar cy 0 9), (q9, b_ar cy 0 3), (q10, b_ar cy 3 384), (q11, b_ar cy 0 3000)]) (List.append_assoc _ _ _) ?_
  refine b_putF C xm9 kl_X12 0 rfl 21 (by decide) kfl_X12_42 rfl rfl rfl rfl (Nat.le_of_ble_eq_true rfl) dX12_init_95 ?_
  refine b_eq (ws' := w0 ++ [(h, .inr (11, [.int 0, .ref q1, .int 0, .int 0, .int 0, .ref q2, .ref q3, .int 0, .ref q4, .ref q5, .int 0, .ref q6, .ref q7, .ref q8, .ref q9, .int 0, .int 0, .int 0, .int 0, .ref q10, .int 0, .ref q11, .null, .null, .null, .null, .int 0, .int 0, .int 0, .int 0, .null, .null, .null, .null, .null, .null, .null, .null, .int 0, .null])), (q1, b_ar cy 1 8000), (q2, b_ar cy 0 1728), (q3, b_ar cy 0 576), (q4, b_ar cy 0 1737), (q5, b_ar cy 0 579), (q6, b_ar cy 0 81), (q7, b_ar cy 0 27), (q8, b_ar cy 0 9), (q9, b_ar cy 0 3), (q10, b_ar cy 3 384), (q11, b_ar cy 0 3000)]) rfl ?_
  refine b_aload C dX12_init_98 rfl (List.mem_of_getElem? (i := 0) rfl) ?_
  refine b_sipush C (nI 3000) dX12_init_99 rfl ?_
  refine b_newa C (atype := .int) (i := 0) (N := 3000) (by decide) rfl kar_int (by decide) (by decide) (by decide) dX12_init_102 (fun q12 => ?_)
  refine b_eq (ws' := w0 ++ [(h, .inr (11, [.int 0, .ref q1, .int 0, .int 0, .int 0, .ref q2, .ref q3, .int 0, .ref q4, .ref q5, .int 0, .ref q6, .ref q7, .ref q8, .ref q9, .int 0, .int 0, .int 0, .int 0, .ref q10, .int 0, .ref q11, .null, .null, .null, .null, .int 0, .int 0, .int 0, .int 0, .null, .null, .null, .null, .null, .null, .null, .null, .int 0, .null])), (q1, b_ar cy 1 8000), (q2, b_ar cy 0 1728), (q3, b_ar cy 0 576), (q4, b_ar cy 0 1737), (q5, b_ar cy 0 579), (q6, b_ar cy 0 81), (q7, b_ar cy 0 27), (q8, b_ar cy 0 9), (q9, b_ar cy 0 3), (q10, b_ar cy 3 384), (q11, b_ar cy 0 3000), (q12, b_ar cy 0 3000)]) (List.append_assoc _ _ _) ?_
  refine b_putF C xm9 kl_X12 0 rfl 22 (by decide) kfl_X12_45 rfl rfl rfl rfl (Nat.le_of_ble_eq_true rfl) dX12_init_104 ?_
  refine b_eq (ws' := w0 ++ [(h, .inr (11, [.int 0, .ref q1, .int 0, .int 0, .int 0, .ref q2, .ref q3, .int 0, .ref q4, .ref q5, .int 0, .ref q6, .ref q7, .ref q8, .ref q9, .int 0, .int 0, .int 0, .int 0, .ref q10, .int 0, .ref q11, .ref q12, .null, .null, .null, .int 0, .int 0, .int 0, .int 0, .null, .null, .null, .null, .null, .null, .null, .null, .int 0, .null])), (q1, b_ar cy 1 8000), (q2, b_ar cy 0 1728), (q3, b_ar cy 0 576), (q4, b_ar cy 0 1737), (q5, b_ar cy 0 579), (q6, b_ar cy 0 81), (q7, b_ar cy 0 27), (q8, b_ar cy 0 9), (q9, b_ar cy 0 3), (q10, b_ar cy 3 384), (q11, b_ar cy 0 3000), (q12, b_ar cy 0 3000)]) rfl ?_
  refine b_aload C dX12_init_107 rfl (List.mem_of_getElem? (i := 0) rfl) ?_
  refine b_sipush C (nI 3000) dX12_init_108 rfl ?_
  refine b_newa C (atype := .int) (i := 0) (N := 3000) (by decide) rfl kar_int (by decide) (by decide) (by decide) dX12_init_111 (fun q13 => ?_)
  refine b_eq (ws' := w0 ++ [(h, .inr (11, [.int 0, .ref q1, .int 0, .int 0, .int 0, .ref q2, .ref q3, .int 0, .ref q4, .ref q5, .int 0, .ref q6, .ref q7, .ref q8, .ref q9, .int 0, .int 0, .int 0, .int 0, .ref q10, .int 0, .ref q11, .ref q12, .null, .null, .null, .int 0, .int 0, .int 0, .int 0, .null, .null, .null, .null, .null, .null, .null, .null, .int 0, .null])), (q1, b_ar cy 1 8000), (q2, b_ar cy 0 1728), (q3, b_ar cy 0 576), (q4, b_ar cy 0 1737), (q5, b_ar cy 0 579), (q6, b_ar cy 0 81), (q7, b_ar cy 0 27), (q8, b_ar cy 0 9), (q9, b_ar cy 0 3), (q10, b_ar cy 3 384), (q11, b_ar cy 0 3000), (q12, b_ar cy 0 3000), (q13, b_ar cy 0 3000)]) (List.append_assoc _ _ _) ?_
  refine b_putF C xm9 kl_X12 0 rfl 23 (by decide) kfl_X12_48 rfl rfl rfl rfl (Nat.le_of_ble_eq_true rfl) dX12_init_113 ?_
  refine b_eq (ws' := w0 ++ [(h, .inr (11, [.int 0, .ref q1, .int 0, .int 0, .int 0, .ref q2, .ref q3, .int 0, .ref q4, .ref q5, .int 0, .ref q6, .ref q7, .ref q8, .ref q9, .int 0, .int 0, .int 0, .int 0, .ref q10, .int 0, .ref q11, .ref q12, .ref q13, .null, .null, .int 0, .int 0, .int 0, .int 0, .null, .null, .null, .null, .null, .null, .null, .null, .int 0, .null])), (q1, b_ar cy 1 8000), (q2, b_ar cy 0 1728), (q3, b_ar cy 0 576), (q4, b_ar cy 0 1737), (q5, b_ar cy 0 579), (q6, b_ar cy 0 81), (q7, b_ar cy 0 27), (q8, b_ar cy 0 9), (q9, b_ar cy 0 3), (q10, b_ar cy 3 384), (q11, b_ar cy 0 3000), (q12, b_ar cy 0 3000), (q13, b_ar cy 0 3000)]) rfl ?_
  refine b_aload C dX12_init_116 rfl (List.mem_of_getElem? (i := 0) rfl) ?_
  refine b_sipush C (nI 3000) dX12_init_117 rfl ?_
  refine b_newa C (atype := .int) (i := 0) (N := 3000) (by decide) rfl kar_int (by decide) (by decide) (by decide) dX12_init_120 (fun q14 => ?_)
  refine b_eq (ws' := w0 ++ [(h, .inr (11, [.int 0, .ref q1, .int 0, .int 0, .int 0, .ref q2, .ref q3, .int 0, .ref q4, .ref q5, .int 0, .ref q6, .ref q7, .ref q8, .ref q9, .int 0, .int 0, .int 0, .int 0, .ref q10, .int 0, .ref q11, .ref q12, .ref q13, .null, .null, .int 0, .int 0, .int 0, .int 0, .null, .null, .null, .null, .null, .null, .null, .null, .int 0, .null])), (q1, b_ar cy 1 8000), (q2, b_ar cy 0 1728), (q3, b_ar cy 0 576), (q4, b_ar cy 0 1737), (q5, b_ar cy 0 579), (q6, b_ar cy 0 81), (q7, b_ar cy 0 27), (q8, b_ar cy 0 9), (q9, b_ar cy 0 3), (q10, b_ar cy 3 384), (q11, b_ar cy 0 3000), (q12, b_ar cy 0 3000), (q13, b_ar cy 0 3000), (q14, b_ar cy 0 3000)]) (List.append_assoc _ _ _) ?_
  refine b_putF C xm9 kl_X12 0 rfl 24 (by decide) kfl_X12_51 rfl rfl rfl rfl (Nat.le_of_ble_eq_true rfl) dX12_init_122 ?_
  refine b_eq (ws' := w0 ++ [(h, .inr (11, [.int 0, .ref q1, .int 0, .int 0, .int 0, .ref q2, .ref q3, .int 0, .ref q4, .ref q5, .int 0, .ref q6, .ref q7, .ref q8, .ref q9, .int 0, .int 0, .int 0, .int 0, .ref q10, .int 0, .ref q11, .ref q12, .ref q13, .ref q14, .null, .int 0, .int 0, .int 0, .int 0, .null, .null, .null, .null, .null, .null, .null, .null, .int 0, .null])), (q1, b_ar cy 1 8000), (q2, b_ar cy 0 1728), (q3, b_ar cy 0 576), (q4, b_ar cy 0 1737), (q5, b_ar cy 0 579), (q6, b_ar cy 0 81), (q7, b_ar cy 0 27), (q8, b_ar cy 0 9), (q9, b_ar cy 0 3), (q10, b_ar cy 3 384), (q11, b_ar cy 0 3000), (q12, b_ar cy 0 3000), (q13, b_ar cy 0 3000), (q14, b_ar cy 0 3000)]) rfl ?_
  refine b_aload C dX12_init_125 rfl (List.mem_of_getElem? (i := 0) rfl) ?_
  refine b_sipush C (nI 3000) dX12_init_126 rfl ?_
  refine b_newa C (atype := .int) (i := 0) (N := 3000) (by decide) rfl kar_int (by decide) (by decide) (by decide) dX12_init_129 (fun q15 => ?_)
  refine b_eq (ws' := w0 ++ [(h, .inr (11, [.int 0, .ref q1, .int 0, .int 0, .int 0, .ref q2, .ref q3, .int 0, .ref q4, .ref q5, .int 0, .ref q6, .ref q7, .ref q8, .ref q9, .int 0, .int 0, .int 0, .int 0, .ref q10, .int 0, .ref q11, .ref q12, .ref q13, .ref q14, .null, .int 0, .int 0, .int 0, .int 0, .null, .null, .null, .null, .null, .null, .null, .null, .int 0, .null])), (q1, b_ar cy 1 8000), (q2, b_ar cy 0 1728), (q3, b_ar cy 0 576), (q4, b_ar cy 0 1737), (q5, b_ar cy 0 579), (q6, b_ar cy 0 81), (q7, b_ar cy 0 27), (q8, b_ar cy 0 9), (q9, b_ar cy 0 3), (q10, b_ar cy 3 384), (q11, b_ar cy 0 3000), (q12, b_ar cy 0 3000), (q13, b_ar cy 0 3000), (q14, b_ar cy 0 3000), (q15, b_ar cy 0 3000)]) (List.append_assoc _ _ _) ?_
  refine b_putF C xm9 kl_X12 0 rfl 25 (by decide) kfl_X12_54 rfl rfl rfl rfl (Nat.le_of_ble_eq_true rfl) dX12_init_131 ?_
  refine b_eq (ws' := w0 ++ [(h, .inr (11, [.int 0, .ref q1, .int 0, .int 0, .int 0, .ref q2, .ref q3, .int 0, .ref q4, .ref q5, .int 0, .ref q6, .ref q7, .ref q8, .ref q9, .int 0, .int 0, .int 0, .int 0, .ref q10, .int 0, .ref q11, .ref q12, .ref q13, .ref q14, .ref q15, .int 0, .int 0, .int 0, .int 0, .null, .null, .null, .null, .null, .null, .null, .null, .int 0, .null])), (q1, b_ar cy 1 8000), (q2, b_ar cy 0 1728), (q3, b_ar cy 0 576), (q4, b_ar cy 0 1737), (q5, b_ar cy 0 579), (q6, b_ar cy 0 81), (q7, b_ar cy 0 27), (q8, b_ar cy 0 9), (q9, b_ar cy 0 3), (q10, b_ar cy 3 384), (q11, b_ar cy 0 3000), (q12, b_ar cy 0 3000), (q13, b_ar cy 0 3000), (q14, b_ar cy 0 3000), (q15, b_ar cy 0 3000)]) rfl ?_
  refine b_aload C dX12_init_134 rfl (List.mem_of_getElem? (i := 0) rfl) ?_
  refine b_sipush C (nI 3000) dX12_init_135 rfl ?_
  refine b_newa C (atype := .long) (i := 3) (N := 3000) (by decide) rfl kar_long (by decide) (by decide) (by decide) dX12_init_138 (fun q16 => ?_)
  refine b_eq (ws' := w0 ++ [(h, .inr (11, [.int 0, .ref q1, .int 0, .int 0, .int 0, .ref q2, .ref q3, .int 0, .ref q4, .ref q5, .int 0, .ref q6, .ref q7, .ref q8, .ref q9, .int 0, .int 0, .int 0, .int 0, .ref q10, .int 0, .ref q11, .ref q12, .ref q13, .ref q14, .ref q15, .int 0, .int 0, .int 0, .int 0, .null, .null, .null, .null, .null, .null, .null, .null, .int 0, .null])), (q1, b_ar cy 1 8000), (q2, b_ar cy 0 1728), (q3, b_ar cy 0 576), (q4, b_ar cy 0 1737), (q5, b_ar cy 0 579), (q6, b_ar cy 0 81), (q7, b_ar cy 0 27), (q8, b_ar cy 0 9), (q9, b_ar cy 0 3), (q10, b_ar cy 3 384), (q11, b_ar cy 0 3000), (q12, b_ar cy 0 3000), (q13, b_ar cy 0 3000), (q14, b_ar cy 0 3000), (q15, b_ar cy 0 3000), (q16, b_ar cy 3 3000)]) (List.append_assoc _ _ _) ?_
  refine b_putF C xm9 kl_X12 0 rfl 30 (by decide) kfl_X12_57 rfl rfl rfl rfl (Nat.le_of_ble_eq_true rfl) dX12_init_140 ?_
  refine b_eq (ws' := w0 ++ [(h, .inr (11, [.int 0, .ref q1, .int 0, .int 0, .int 0, .ref q2, .ref q3, .int 0, .ref q4, .ref q5, .int 0, .ref q6, .ref q7, .ref q8, .ref q9, .int 0, .int 0, .int 0, .int 0, .ref q10, .int 0, .ref q11, .ref q12, .ref q13, .ref q14, .ref q15, .int 0, .int 0, .int 0, .int 0, .ref q16, .null, .null, .null, .null, .null, .null, .null, .int 0, .null])), (q1, b_ar cy 1 8000), (q2, b_ar cy 0 1728), (q3, b_ar cy 0 576), (q4, b_ar cy 0 1737), (q5, b_ar cy 0 579), (q6, b_ar cy 0 81), (q7, b_ar cy 0 27), (q8, b_ar cy 0 9), (q9, b_ar cy 0 3), (q10, b_ar cy 3 384), (q11, b_ar cy 0 3000), (q12, b_ar cy 0 3000), (q13, b_ar cy 0 3000), (q14, b_ar cy 0 3000), (q15, b_ar cy 0 3000), (q16, b_ar cy 3 3000)]) rfl ?_
  refine b_aload C dX12_init_143 rfl (List.mem_of_getElem? (i := 0) rfl) ?_
  refine b_sipush C (nI 3000) dX12_init_144 rfl ?_
  refine b_newa C (atype := .int) (i := 0) (N := 3000) (by decide) rfl kar_int (by decide) (by decide) (by decide) dX12_init_147 (fun q17 => ?_)
  refine b_eq (ws' := w0 ++ [(h, .inr (11, [.int 0, .ref q1, .int 0, .int 0, .int 0, .ref q2, .ref q3, .int 0, .ref q4, .ref q5, .int 0, .ref q6, .ref q7, .ref q8, .ref q9, .int 0, .int 0, .int 0, .int 0, .ref q10, .int 0, .ref q11, .ref q12, .ref q13, .ref q14, .ref q15, .int 0, .int 0, .int 0, .int 0, .ref q16, .null, .null, .null, .null, .null, .null, .null, .int 0, .null])), (q1, b_ar cy 1 8000), (q2, b_ar cy 0 1728), (q3, b_ar cy 0 576), (q4, b_ar cy 0 1737), (q5, b_ar cy 0 579), (q6, b_ar cy 0 81), (q7, b_ar cy 0 27), (q8, b_ar cy 0 9), (q9, b_ar cy 0 3), (q10, b_ar cy 3 384), (q11, b_ar cy 0 3000), (q12, b_ar cy 0 3000), (q13, b_ar cy 0 3000), (q14, b_ar cy 0 3000), (q15, b_ar cy 0 3000), (q16, b_ar cy 3 3000), (q17, b_ar cy 0 3000)]) (List.append_assoc _ _ _) ?_
  refine b_putF C xm9 kl_X12 0 rfl 31 (by decide) kfl_X12_60 rfl rfl rfl rfl (Nat.le_of_ble_eq_true rfl) dX12_init_149 ?_
  refine b_eq (ws' := w0 ++ [(h, .inr (11, [.int 0, .ref q1, .int 0, .int 0, .int 0, .ref q2, .ref q3, .int 0, .ref q4, .ref q5, .int 0, .ref q6, .ref q7, .ref q8, .ref q9, .int 0, .int 0, .int 0, .int 0, .ref q10, .int 0, .ref q11, .ref q12, .ref q13, .ref q14, .ref q15, .int 0, .int 0, .int 0, .int 0, .ref q16, .ref q17, .null, .null, .null, .null, .null, .null, .int 0, .null])), (q1, b_ar cy 1 8000), (q2, b_ar cy 0 1728), (q3, b_ar cy 0 576), (q4, b_ar cy 0 1737), (q5, b_ar cy 0 579), (q6, b_ar cy 0 81), (q7, b_ar cy 0 27), (q8, b_ar cy 0 9), (q9, b_ar cy 0 3), (q10, b_ar cy 3 384), (q11, b_ar cy 0 3000), (q12, b_ar cy 0 3000), (q13, b_ar cy 0 3000), (q14, b_ar cy 0 3000), (q15, b_ar cy 0 3000), (q16, b_ar cy 3 3000), (q17, b_ar cy 0 3000)]) rfl ?_
  refine b_aload C dX12_init_152 rfl (List.mem_of_getElem? (i := 0) rfl) ?_
  refine b_sipush C (nI 3000) dX12_init_153 rfl ?_
  refine b_newa C (atype := .int) (i := 0) (N := 3000) (by decide) rfl kar_int (by decide) (by decide) (by decide) dX12_init_156 (fun q18 => ?_)
  refine b_eq (ws' := w0 ++ [(h, .inr (11, [.int 0, .ref q1, .int 0, .int 0, .int 0, .ref q2, .ref q3, .int 0, .ref q4, .ref q5, .int 0, .ref q6, .ref q7, .ref q8, .ref q9, .int 0, .int 0, .int 0, .int 0, .ref q10, .int 0, .ref q11, .ref q12, .ref q13, .ref q14, .ref q15, .int 0, .int 0, .int 0, .int 0, .ref q16, .ref q17, .null, .null, .null, .null, .null, .null, .int 0, .null])), (q1, b_ar cy 1 8000), (q2, b_ar cy 0 1728), (q3, b_ar cy 0 576), (q4, b_ar cy 0 1737), (q5, b_ar cy 0 579), (q6, b_ar cy 0 81), (q7, b_ar cy 0 27), (q8, b_ar cy 0 9), (q9, b_ar cy 0 3), (q10, b_ar cy 3 384), (q11, b_ar cy 0 3000), (q12, b_ar cy 0 3000), (q13, b_ar cy 0 3000), (q14, b_ar cy 0 3000), (q15, b_ar cy 0 3000), (q16, b_ar cy 3 3000), (q17, b_ar cy 0 3000), (q18, b_ar cy 0 3000)]) (List.append_assoc _ _ _) ?_
  refine b_putF C xm9 kl_X12 0 rfl 32 (by decide) kfl_X12_63 rfl rfl rfl rfl (Nat.le_of_ble_eq_true rfl) dX12_init_158 ?_
  refine b_eq (ws' := w0 ++ [(h, .inr (11, [.int 0, .ref q1, .int 0, .int 0, .int 0, .ref q2, .ref q3, .int 0, .ref q4, .ref q5, .int 0, .ref q6, .ref q7, .ref q8, .ref q9, .int 0, .int 0, .int 0, .int 0, .ref q10, .int 0, .ref q11, .ref q12, .ref q13, .ref q14, .ref q15, .int 0, .int 0, .int 0, .int 0, .ref q16, .ref q17, .ref q18, .null, .null, .null, .null, .null, .int 0, .null])), (q1, b_ar cy 1 8000), (q2, b_ar cy 0 1728), (q3, b_ar cy 0 576), (q4, b_ar cy 0 1737), (q5, b_ar cy 0 579), (q6, b_ar cy 0 81), (q7, b_ar cy 0 27), (q8, b_ar cy 0 9), (q9, b_ar cy 0 3), (q10, b_ar cy 3 384), (q11, b_ar cy 0 3000), (q12, b_ar cy 0 3000), (q13, b_ar cy 0 3000), (q14, b_ar cy 0 3000), (q15, b_ar cy 0 3000), (q16, b_ar cy 3 3000), (q17, b_ar cy 0 3000), (q18, b_ar cy 0 3000)]) rfl ?_
  refine b_aload C dX12_init_161 rfl (List.mem_of_getElem? (i := 0) rfl) ?_
  refine b_sipush C (nI 3000) dX12_init_162 rfl ?_
  refine b_newa C (atype := .boolean) (i := 2) (N := 3000) (by decide) rfl kar_boolean (by decide) (by decide) (by decide) dX12_init_165 (fun q19 => ?_)
  refine b_eq (ws' := w0 ++ [(h, .inr (11, [.int 0, .ref q1, .int 0, .int 0, .int 0, .ref q2, .ref q3, .int 0, .ref q4, .ref q5, .int 0, .ref q6, .ref q7, .ref q8, .ref q9, .int 0, .int 0, .int 0, .int 0, .ref q10, .int 0, .ref q11, .ref q12, .ref q13, .ref q14, .ref q15, .int 0, .int 0, .int 0, .int 0, .ref q16, .ref q17, .ref q18, .null, .null, .null, .null, .null, .int 0, .null])), (q1, b_ar cy 1 8000), (q2, b_ar cy 0 1728), (q3, b_ar cy 0 576), (q4, b_ar cy 0 1737), (q5, b_ar cy 0 579), (q6, b_ar cy 0 81), (q7, b_ar cy 0 27), (q8, b_ar cy 0 9), (q9, b_ar cy 0 3), (q10, b_ar cy 3 384), (q11, b_ar cy 0 3000), (q12, b_ar cy 0 3000), (q13, b_ar cy 0 3000), (q14, b_ar cy 0 3000), (q15, b_ar cy 0 3000), (q16, b_ar cy 3 3000), (q17, b_ar cy 0 3000), (q18, b_ar cy 0 3000), (q19, b_ar cy 2 3000)]) (List.append_assoc _ _ _) ?_
  refine b_putF C xm9 kl_X12 0 rfl 33 (by decide) kfl_X12_66 rfl rfl rfl rfl (Nat.le_of_ble_eq_true rfl) dX12_init_167 ?_
  refine b_eq (ws' := w0 ++ [(h, .inr (11, [.int 0, .ref q1, .int 0, .int 0, .int 0, .ref q2, .ref q3, .int 0, .ref q4, .ref q5, .int 0, .ref q6, .ref q7, .ref q8, .ref q9, .int 0, .int 0, .int 0, .int 0, .ref q10, .int 0, .ref q11, .ref q12, .ref q13, .ref q14, .ref q15, .int 0, .int 0, .int 0, .int 0, .ref q16, .ref q17, .ref q18, .ref q19, .null, .null, .null, .null, .int 0, .null])), (q1, b_ar cy 1 8000), (q2, b_ar cy 0 1728), (q3, b_ar cy 0 576), (q4, b_ar cy 0 1737), (q5, b_ar cy 0 579), (q6, b_ar cy 0 81), (q7, b_ar cy 0 27), (q8, b_ar cy 0 9), (q9, b_ar cy 0 3), (q10, b_ar cy 3 384), (q11, b_ar cy 0 3000), (q12, b_ar cy 0 3000), (q13, b_ar cy 0 3000), (q14, b_ar cy 0 3000), (q15, b_ar cy 0 3000), (q16, b_ar cy 3 3000), (q17, b_ar cy 0 3000), (q18, b_ar cy 0 3000), (q19, b_ar cy 2 3000)]) rfl ?_
  refine b_aload C dX12_init_170 rfl (List.mem_of_getElem? (i := 0) rfl) ?_
  refine b_sipush C (nI 3000) dX12_init_171 rfl ?_
  refine b_newa C (atype := .long) (i := 3) (N := 3000) (by decide) rfl kar_long (by decide) (by decide) (by decide) dX12_init_174 (fun q20 => ?_)
  refine b_eq (ws' := w0 ++ [(h, .inr (11, [.int 0, .ref q1, .int 0, .int 0, .int 0, .ref q2, .ref q3, .int 0, .ref q4, .ref q5, .int 0, .ref q6, .ref q7, .ref q8, .ref q9, .int 0, .int 0, .int 0, .int 0, .ref q10, .int 0, .ref q11, .ref q12, .ref q13, .ref q14, .ref q15, .int 0, .int 0, .int 0, .int 0, .ref q16, .ref q17, .ref q18, .ref q19, .null, .null, .null, .null, .int 0, .null])), (q1, b_ar cy 1 8000), (q2, b_ar cy 0 1728), (q3, b_ar cy 0 576), (q4, b_ar cy 0 1737), (q5, b_ar cy 0 579), (q6, b_ar cy 0 81), (q7, b_ar cy 0 27), (q8, b_ar cy 0 9), (q9, b_ar cy 0 3), (q10, b_ar cy 3 384), (q11, b_ar cy 0 3000), (q12, b_ar cy 0 3000), (q13, b_ar cy 0 3000), (q14, b_ar cy 0 3000), (q15, b_ar cy 0 3000), (q16, b_ar cy 3 3000), (q17, b_ar cy 0 3000), (q18, b_ar cy 0 3000), (q19, b_ar cy 2 3000), (q20, b_ar cy 3 3000)]) (List.append_assoc _ _ _) ?_
  refine b_putF C xm9 kl_X12 0 rfl 34 (by decide) kfl_X12_70 rfl rfl rfl rfl (Nat.le_of_ble_eq_true rfl) dX12_init_176 ?_
  refine b_eq (ws' := w0 ++ [(h, .inr (11, [.int 0, .ref q1, .int 0, .int 0, .int 0, .ref q2, .ref q3, .int 0, .ref q4, .ref q5, .int 0, .ref q6, .ref q7, .ref q8, .ref q9, .int 0, .int 0, .int 0, .int 0, .ref q10, .int 0, .ref q11, .ref q12, .ref q13, .ref q14, .ref q15, .int 0, .int 0, .int 0, .int 0, .ref q16, .ref q17, .ref q18, .ref q19, .ref q20, .null, .null, .null, .int 0, .null])), (q1, b_ar cy 1 8000), (q2, b_ar cy 0 1728), (q3, b_ar cy 0 576), (q4, b_ar cy 0 1737), (q5, b_ar cy 0 579), (q6, b_ar cy 0 81), (q7, b_ar cy 0 27), (q8, b_ar cy 0 9), (q9, b_ar cy 0 3), (q10, b_ar cy 3 384), (q11, b_ar cy 0 3000), (q12, b_ar cy 0 3000), (q13, b_ar cy 0 3000), (q14, b_ar cy 0 3000), (q15, b_ar cy 0 3000), (q16, b_ar cy 3 3000), (q17, b_ar cy 0 3000), (q18, b_ar cy 0 3000), (q19, b_ar cy 2 3000), (q20, b_ar cy 3 3000)]) rfl ?_
  refine b_aload C dX12_init_179 rfl (List.mem_of_getElem? (i := 0) rfl) ?_
  refine b_sipush C (nI 3000) dX12_init_180 rfl ?_
  refine b_newa C (atype := .long) (i := 3) (N := 3000) (by decide) rfl kar_long (by decide) (by decide) (by decide) dX12_init_183 (fun q21 => ?_)
  refine b_eq (ws' := w0 ++ [(h, .inr (11, [.int 0, .ref q1, .int 0, .int 0, .int 0, .ref q2, .ref q3, .int 0, .ref q4, .ref q5, .int 0, .ref q6, .ref q7, .ref q8, .ref q9, .int 0, .int 0, .int 0, .int 0, .ref q10, .int 0, .ref q11, .ref q12, .ref q13, .ref q14, .ref q15, .int 0, .int 0, .int 0, .int 0, .ref q16, .ref q17, .ref q18, .ref q19, .ref q20, .null, .null, .null, .int 0, .null])), (q1, b_ar cy 1 8000), (q2, b_ar cy 0 1728), (q3, b_ar cy 0 576), (q4, b_ar cy 0 1737), (q5, b_ar cy 0 579), (q6, b_ar cy 0 81), (q7, b_ar cy 0 27), (q8, b_ar cy 0 9), (q9, b_ar cy 0 3), (q10, b_ar cy 3 384), (q11, b_ar cy 0 3000), (q12, b_ar cy 0 3000), (q13, b_ar cy 0 3000), (q14, b_ar cy 0 3000), (q15, b_ar cy 0 3000), (q16, b_ar cy 3 3000), (q17, b_ar cy 0 3000), (q18, b_ar cy 0 3000), (q19, b_ar cy 2 3000), (q20, b_ar cy 3 3000), (q21, b_ar cy 3 3000)]) (List.append_assoc _ _ _) ?_
  refine b_putF C xm9 kl_X12 0 rfl 35 (by decide) kfl_X12_73 rfl rfl rfl rfl (Nat.le_of_ble_eq_true rfl) dX12_init_185 ?_
  refine b_eq (ws' := w0 ++ [(h, .inr (11, [.int 0, .ref q1, .int 0, .int 0, .int 0, .ref q2, .ref q3, .int 0, .ref q4, .ref q5, .int 0, .ref q6, .ref q7, .ref q8, .ref q9, .int 0, .int 0, .int 0, .int 0, .ref q10, .int 0, .ref q11, .ref q12, .ref q13, .ref q14, .ref q15, .int 0, .int 0, .int 0, .int 0, .ref q16, .ref q17, .ref q18, .ref q19, .ref q20, .ref q21, .null, .null, .int 0, .null])), (q1, b_ar cy 1 8000), (q2, b_ar cy 0 1728), (q3, b_ar cy 0 576), (q4, b_ar cy 0 1737), (q5, b_ar cy 0 579), (q6, b_ar cy 0 81), (q7, b_ar cy 0 27), (q8, b_ar cy 0 9), (q9, b_ar cy 0 3), (q10, b_ar cy 3 384), (q11, b_ar cy 0 3000), (q12, b_ar cy 0 3000), (q13, b_ar cy 0 3000), (q14, b_ar cy 0 3000), (q15, b_ar cy 0 3000), (q16, b_ar cy 3 3000), (q17, b_ar cy 0 3000), (q18, b_ar cy 0 3000), (q19, b_ar cy 2 3000), (q20, b_ar cy 3 3000), (q21, b_ar cy 3 3000)]) rfl ?_
  refine b_aload C dX12_init_188 rfl (List.mem_of_getElem? (i := 0) rfl) ?_
  refine b_sipush C (nI 3000) dX12_init_189 rfl ?_
  refine b_newa C (atype := .long) (i := 3) (N := 3000) (by decide) rfl kar_long (by decide) (by decide) (by decide) dX12_init_192 (fun q22 => ?_)
  refine b_eq (ws' := w0 ++ [(h, .inr (11, [.int 0, .ref q1, .int 0, .int 0, .int 0, .ref q2, .ref q3, .int 0, .ref q4, .ref q5, .int 0, .ref q6, .ref q7, .ref q8, .ref q9, .int 0, .int 0, .int 0, .int 0, .ref q10, .int 0, .ref q11, .ref q12, .ref q13, .ref q14, .ref q15, .int 0, .int 0, .int 0, .int 0, .ref q16, .ref q17, .ref q18, .ref q19, .ref q20, .ref q21, .null, .null, .int 0, .null])), (q1, b_ar cy 1 8000), (q2, b_ar cy 0 1728), (q3, b_ar cy 0 576), (q4, b_ar cy 0 1737), (q5, b_ar cy 0 579), (q6, b_ar cy 0 81), (q7, b_ar cy 0 27), (q8, b_ar cy 0 9), (q9, b_ar cy 0 3), (q10, b_ar cy 3 384), (q11, b_ar cy 0 3000), (q12, b_ar cy 0 3000), (q13, b_ar cy 0 3000), (q14, b_ar cy 0 3000), (q15, b_ar cy 0 3000), (q16, b_ar cy 3 3000), (q17, b_ar cy 0 3000), (q18, b_ar cy 0 3000), (q19, b_ar cy 2 3000), (q20, b_ar cy 3 3000), (q21, b_ar cy 3 3000), (q22, b_ar cy 3 3000)]) (List.append_assoc _ _ _) ?_
  refine b_putF C xm9 kl_X12 0 rfl 36 (by decide) kfl_X12_76 rfl rfl rfl rfl (Nat.le_of_ble_eq_true rfl) dX12_init_194 ?_
  refine b_eq (ws' := w0 ++ [(h, .inr (11, [.int 0, .ref q1, .int 0, .int 0, .int 0, .ref q2, .ref q3, .int 0, .ref q4, .ref q5, .int 0, .ref q6, .ref q7, .ref q8, .ref q9, .int 0, .int 0, .int 0, .int 0, .ref q10, .int 0, .ref q11, .ref q12, .ref q13, .ref q14, .ref q15, .int 0, .int 0, .int 0, .int 0, .ref q16, .ref q17, .ref q18, .ref q19, .ref q20, .ref q21, .ref q22, .null, .int 0, .null])), (q1, b_ar cy 1 8000), (q2, b_ar cy 0 1728), (q3, b_ar cy 0 576), (q4, b_ar cy 0 1737), (q5, b_ar cy 0 579), (q6, b_ar cy 0 81), (q7, b_ar cy 0 27), (q8, b_ar cy 0 9), (q9, b_ar cy 0 3), (q10, b_ar cy 3 384), (q11, b_ar cy 0 3000), (q12, b_ar cy 0 3000), (q13, b_ar cy 0 3000), (q14, b_ar cy 0 3000), (q15, b_ar cy 0 3000), (q16, b_ar cy 3 3000), (q17, b_ar cy 0 3000), (q18, b_ar cy 0 3000), (q19, b_ar cy 2 3000), (q20, b_ar cy 3 3000), (q21, b_ar cy 3 3000), (q22, b_ar cy 3 3000)]) rfl ?_
  refine b_aload C dX12_init_197 rfl (List.mem_of_getElem? (i := 0) rfl) ?_
  refine b_sipush C (nI 320) dX12_init_198 rfl ?_
  refine b_newa C (atype := .int) (i := 0) (N := 320) (by decide) rfl kar_int (by decide) (by decide) (by decide) dX12_init_201 (fun q23 => ?_)
  refine b_eq (ws' := w0 ++ [(h, .inr (11, [.int 0, .ref q1, .int 0, .int 0, .int 0, .ref q2, .ref q3, .int 0, .ref q4, .ref q5, .int 0, .ref q6, .ref q7, .ref q8, .ref q9, .int 0, .int 0, .int 0, .int 0, .ref q10, .int 0, .ref q11, .ref q12, .ref q13, .ref q14, .ref q15, .int 0, .int 0, .int 0, .int 0, .ref q16, .ref q17, .ref q18, .ref q19, .ref q20, .ref q21, .ref q22, .null, .int 0, .null])), (q1, b_ar cy 1 8000), (q2, b_ar cy 0 1728), (q3, b_ar cy 0 576), (q4, b_ar cy 0 1737), (q5, b_ar cy 0 579), (q6, b_ar cy 0 81), (q7, b_ar cy 0 27), (q8, b_ar cy 0 9), (q9, b_ar cy 0 3), (q10, b_ar cy 3 384), (q11, b_ar cy 0 3000), (q12, b_ar cy 0 3000), (q13, b_ar cy 0 3000), (q14, b_ar cy 0 3000), (q15, b_ar cy 0 3000), (q16, b_ar cy 3 3000), (q17, b_ar cy 0 3000), (q18, b_ar cy 0 3000), (q19, b_ar cy 2 3000), (q20, b_ar cy 3 3000), (q21, b_ar cy 3 3000), (q22, b_ar cy 3 3000), (q23, b_ar cy 0 320)]) (List.append_assoc _ _ _) ?_
  refine b_putF C xm9 kl_X12 0 rfl 37 (by decide) kfl_X12_79 rfl rfl rfl rfl (Nat.le_of_ble_eq_true rfl) dX12_init_203 ?_
  refine b_eq (ws' := w0 ++ [(h, .inr (11, [.int 0, .ref q1, .int 0, .int 0, .int 0, .ref q2, .ref q3, .int 0, .ref q4, .ref q5, .int 0, .ref q6, .ref q7, .ref q8, .ref q9, .int 0, .int 0, .int 0, .int 0, .ref q10, .int 0, .ref q11, .ref q12, .ref q13, .ref q14, .ref q15, .int 0, .int 0, .int 0, .int 0, .ref q16, .ref q17, .ref q18, .ref q19, .ref q20, .ref q21, .ref q22, .ref q23, .int 0, .null])), (q1, b_ar cy 1 8000), (q2, b_ar cy 0 1728), (q3, b_ar cy 0 576), (q4, b_ar cy 0 1737), (q5, b_ar cy 0 579), (q6, b_ar cy 0 81), (q7, b_ar cy 0 27), (q8, b_ar cy 0 9), (q9, b_ar cy 0 3), (q10, b_ar cy 3 384), (q11, b_ar cy 0 3000), (q12, b_ar cy 0 3000), (q13, b_ar cy 0 3000), (q14, b_ar cy 0 3000), (q15, b_ar cy 0 3000), (q16, b_ar cy 3 3000), (q17, b_ar cy 0 3000), (q18, b_ar cy 0 3000), (q19, b_ar cy 2 3000), (q20, b_ar cy 3 3000), (q21, b_ar cy 3 3000), (q22, b_ar cy 3 3000), (q23, b_ar cy 0 320)]) rfl ?_
  refine b_aload C dX12_init_206 rfl (List.mem_of_getElem? (i := 0) rfl) ?_
  refine b_sipush C (nI 3000) dX12_init_207 rfl ?_
  refine b_newa C (atype := .int) (i := 0) (N := 3000) (by decide) rfl kar_int (by decide) (by decide) (by decide) dX12_init_210 (fun q24 => ?_)
  refine b_eq (ws' := w0 ++ [(h, .inr (11, [.int 0, .ref q1, .int 0, .int 0, .int 0, .ref q2, .ref q3, .int 0, .ref q4, .ref q5, .int 0, .ref q6, .ref q7, .ref q8, .ref q9, .int 0, .int 0, .int 0, .int 0, .ref q10, .int 0, .ref q11, .ref q12, .ref q13, .ref q14, .ref q15, .int 0, .int 0, .int 0, .int 0, .ref q16, .ref q17, .ref q18, .ref q19, .ref q20, .ref q21, .ref q22, .ref q23, .int 0, .null])), (q1, b_ar cy 1 8000), (q2, b_ar cy 0 1728), (q3, b_ar cy 0 576), (q4, b_ar cy 0 1737), (q5, b_ar cy 0 579), (q6, b_ar cy 0 81), (q7, b_ar cy 0 27), (q8, b_ar cy 0 9), (q9, b_ar cy 0 3), (q10, b_ar cy 3 384), (q11, b_ar cy 0 3000), (q12, b_ar cy 0 3000), (q13, b_ar cy 0 3000), (q14, b_ar cy 0 3000), (q15, b_ar cy 0 3000), (q16, b_ar cy 3 3000), (q17, b_ar cy 0 3000), (q18, b_ar cy 0 3000), (q19, b_ar cy 2 3000), (q20, b_ar cy 3 3000), (q21, b_ar cy 3 3000), (q22, b_ar cy 3 3000), (q23, b_ar cy 0 320), (q24, b_ar cy 0 3000)]) (List.append_assoc _ _ _) ?_
  refine b_putF C xm9 kl_X12 0 rfl 39 (by decide) kfl_X12_82 rfl rfl rfl rfl (Nat.le_of_ble_eq_true rfl) dX12_init_212 ?_
  refine b_eq (ws' := w0 ++ [(h, .inr (11, [.int 0, .ref q1, .int 0, .int 0, .int 0, .ref q2, .ref q3, .int 0, .ref q4, .ref q5, .int 0, .ref q6, .ref q7, .ref q8, .ref q9, .int 0, .int 0, .int 0, .int 0, .ref q10, .int 0, .ref q11, .ref q12, .ref q13, .ref q14, .ref q15, .int 0, .int 0, .int 0, .int 0, .ref q16, .ref q17, .ref q18, .ref q19, .ref q20, .ref q21, .ref q22, .ref q23, .int 0, .ref q24])), (q1, b_ar cy 1 8000), (q2, b_ar cy 0 1728), (q3, b_ar cy 0 576), (q4, b_ar cy 0 1737), (q5, b_ar cy 0 579), (q6, b_ar cy 0 81), (q7, b_ar cy 0 27), (q8, b_ar cy 0 9), (q9, b_ar cy 0 3), (q10, b_ar cy 3 384), (q11, b_ar cy 0 3000), (q12, b_ar cy 0 3000), (q13, b_ar cy 0 3000), (q14, b_ar cy 0 3000), (q15, b_ar cy 0 3000), (q16, b_ar cy 3 3000), (q17, b_ar cy 0 3000), (q18, b_ar cy 0 3000), (q19, b_ar cy 2 3000), (q20, b_ar cy 3 3000), (q21, b_ar cy 3 3000), (q22, b_ar cy 3 3000), (q23, b_ar cy 0 320), (q24, b_ar cy 0 3000)]) rfl ?_
  exact b_ret C xr xk dX12_init_215 ⟨_, _, _, _, _, _, _, _, _, _, _, _, _, _, _, _, _, _, _, _, _, _, _, _, rfl⟩
