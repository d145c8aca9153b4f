/-! ===== a throw that is caught; contracts of methods with handlers; the script ===== -/
section XCA
variable {e : Env} {f : JFrame} {a : Addr}
/-- a row of a table at a thrown object: it covers the place, names a class that links, and takes the object or doesn't -/
def x_pass (pl : Platform) (s₀ : State) (d : ClassId) (pc : Nat) (th : ClassId) (b : Bool) (y : ExceptionTableEntry) : Prop :=
  covers y pc = true ∧ y.catchType ≠ 0 ∧ ∃ k, s₀.vm.ClassLinks pl d y.catchType k ∧ s₀.vm.assignable th k = b
/-- the search at one row -/
theorem x_fh1 {s₀ S : State} {cell : Cell} {y : ExceptionTableEntry} {b : Bool} (hobj : ∀ k, cell.vm ≠ .statics k) (hk0 : ∃ k, s₀.vm.classes[cell.cls]? = some k) (hW : s₀.WarmedH S.vm) (hcell : S.heap[a]? = some cell) (hy : x_pass e.platform s₀ f.method.cls f.pc cell.cls b y) :
    ∃ vm', s₀.WarmedH vm' ∧ ∀ (t : List ExceptionTableEntry) (Q : Handler → Pre) (E : CtlPost) (d : Bool) (acts : List Action), wp (findHandler.go f a (y :: t)) Q E e d acts S ↔ (if b = true then Q (.found y.handlerPc) d acts (S.setVm vm') else wp (findHandler.go f a t) Q E e d acts (S.setVm vm')) := by
  obtain ⟨hx, h0, k, hl, hb⟩ := hy
  simp only [covers] at hx
  obtain ⟨k0, hk0⟩ := hk0
  obtain ⟨dk, _, _, kt, hd, _, _, _, _, hkt, _, hopen⟩ := hl.here
  have hl' := hW.classLinks hl
  have hW' := hW.noted hd hopen (State.rightAt_cls hl)
  refine ⟨_, hW', fun t Q E d acts => ?_⟩
  obtain ⟨ha, ht⟩ := (resolveClass_links e.toSetting hl').op (op := VmOp.resolveClass f.method.cls y.catchType) rfl
  obtain ⟨k1, hk1, -⟩ := hW'.alike.2.2 _ _ hk0
  obtain ⟨k2, hk2, -⟩ := hW'.alike.2.2 _ _ hkt
  have hb' : (S.vm.noted f.method.cls y.catchType (.cls k)).assignable cell.cls k = b := by rw [hW'.alike.assignable]; exact hb
  cases b <;> simp [findHandler.go, hx, h0, ha, ht, hcell, hobj, hk1, hk2, hb', VmOp.dirties, VmOp.acts]
/-- the search through rows that don't take it, up to the one that does -/
theorem x_fhs {s₀ : State} {cell : Cell} (hobj : ∀ k, cell.vm ≠ .statics k) (hk0 : ∃ k, s₀.vm.classes[cell.cls]? = some k) {x : ExceptionTableEntry} (hx : x_pass e.platform s₀ f.method.cls f.pc cell.cls true x) (rest : List ExceptionTableEntry) :
    ∀ (pre : List ExceptionTableEntry) (S : State), s₀.WarmedH S.vm → S.heap[a]? = some cell → (∀ y ∈ pre, x_pass e.platform s₀ f.method.cls f.pc cell.cls false y) →
      ∃ vm', s₀.WarmedH vm' ∧ ∀ (Q : Handler → Pre) (E : CtlPost) (d : Bool) (acts : List Action), wp (findHandler.go f a (pre ++ x :: rest)) Q E e d acts S ↔ Q (.found x.handlerPc) d acts (S.setVm vm')
  | [], S, hW, hcell, _ => by
    obtain ⟨vm', h1, h2⟩ := x_fh1 hobj hk0 hW hcell hx
    exact ⟨vm', h1, fun Q E d acts => by rw [List.nil_append, h2, if_pos rfl]⟩
  | y :: ys, S, hW, hcell, hp => by
    obtain ⟨vm1, h1, h2⟩ := x_fh1 hobj hk0 hW hcell (hp y List.mem_cons_self)
    obtain ⟨vm', h3, h4⟩ := x_fhs hobj hk0 hx rest ys (S.setVm vm1) h1 hcell (fun z hz => hp z (List.mem_cons_of_mem _ hz))
    refine ⟨vm', h3, fun Q E d acts => ?_⟩
    rw [List.cons_append, h2, if_neg (by decide), h4]
    exact Iff.rfl
end XCA
section XCB
variable {p : Program} {l : Launch} {e : Env} {R : Room} {s : State} {m : MethodId} {args : Array Value} {below : List Frame} {meth : Method} {c : Code} {T : State} {locs : List Loc} {cells slots : Nat}
theorem x_caught (X : Stand p l e R s m args below meth c T locs cells slots) {a : Addr} {cell : Cell} (hcell : T.heap[a]? = some cell) (hv : cell.vm = .none) (hk0 : ∃ k, s.vm.classes[cell.cls]? = some k) {pc : Nat} {ls : Array Slot} {st : List Value}
    (pre : List ExceptionTableEntry) (x : ExceptionTableEntry) (suf : List ExceptionTableEntry) (hsplit : c.exceptionTable.toList = pre ++ x :: suf) (hpass : ∀ y ∈ pre, x_pass e.platform s m.cls pc cell.cls false y) (hx : x_pass e.platform s m.cls pc cell.cls true x) :
    ∃ vm', Stand p l e R s m args below meth c (T.setVm vm') locs cells slots ∧ Steps p.tables e below ((T.setTop (F0 m pc ls st)).pushFrame (.throwing a)) ((T.setVm vm').setTop (F0 m x.handlerPc ls [.ref a])) := by
  have hobj : ∀ k, cell.vm ≠ .statics k := fun k h => by rw [hv] at h; cases h
  obtain ⟨vm', hW', hf⟩ := x_fhs (e := e) (f := F0 m pc ls st) (a := a) hobj hk0 hx suf pre ((T.setTop (F0 m pc ls st)).pushFrame (.throwing a)) X.warmed hcell hpass
  have hfind : ∀ (Q : Handler → Pre) (E : CtlPost) (d : Bool) (acts : List Action), wp (findHandler (F0 m pc ls st) a) Q E e d acts ((T.setTop (F0 m pc ls st)).pushFrame (.throwing a)) ↔ Q (.found x.handlerPc) d acts (((T.setTop (F0 m pc ls st)).pushFrame (.throwing a)).setVm vm') := fun Q E d acts => by
    rw [W.findHandler_eq (s := (T.setTop (F0 m pc ls st)).pushFrame (.throwing a)) (f := F0 m pc ls st) (meth := meth) (code := c) X.method' X.code, hsplit]
    exact hf Q E d acts
  refine ⟨vm', X.noted hW', ?_⟩
  have hat : At T (F0 m pc ls st).method c below := X.here
  obtain ⟨hgo, hw⟩ := hat.throwing a
  refine Steps.head hgo hw ?_
  have hstep : (stepThrowing e ((T.setTop (F0 m pc ls st)).pushFrame (.throwing a)) a (.java (F0 m pc ls st) :: T.frames.tail)).Is ((((T.setTop (F0 m pc ls st)).pushFrame (.throwing a)).setVm vm').setFrames (.java (F0 m x.handlerPc ls [.ref a]) :: T.frames.tail)) [] := by
    simp only [stepThrowing, searchFrame, vmDo]
    generalize hr : Sem.go _ e false [] ((T.setTop (F0 m pc ls st)).pushFrame (.throwing a)) = res
    obtain ⟨as, rfl, ha⟩ := Sem.eq_ok_of hr (a := Handler.found x.handlerPc) (s' := ((T.setTop (F0 m pc ls st)).pushFrame (.throwing a)).setVm vm') (acts' := []) (by simp [hfind _ _ _ _])
    exact ⟨rfl, ha⟩
  rw [stepThread_throwing (frames_entered hat.top _), hstep.1]
  obtain ⟨g₀, hg⟩ := Option.isSome_iff_exists.mp hat.top
  obtain ⟨r, hr⟩ := State.topJava?_eq_some.mp hg
  have hr' : (T.setVm vm').frames = .java g₀ :: r := hr
  have swap : ∀ (u : State) (F G : List Frame), ((u.setFrames F).setVm vm').setFrames G = (u.setVm vm').setFrames G := fun u F G => by
    rw [show (u.setFrames F).setVm vm' = (u.setVm vm').setFrames F from rfl, State.setFrames_setFrames]
  rw [State.setTop_of_frames _ hr', hr, List.tail_cons, State.pushFrame, swap, State.setTop_of_frames _ hr, swap]
  exact Steps.refl _
end XCB
/-- no place is known -/
def x_L0 : x_Lo := (fun _ => none, fun _ => none)
/-- which row of the table takes an exception of the class E thrown at pc: its handler stands at h -/
def x_ct (own : String) (tab : List ExceptionTableEntry) (pc : Nat) (E : String) (h : Nat) : Prop :=
  ∃ (pre : List ExceptionTableEntry) (x : ExceptionTableEntry) (suf : List ExceptionTableEntry), tab = pre ++ x :: suf ∧
    (∀ z ∈ pre, covers z pc = true ∧ z.catchType ≠ 0 ∧ ∃ nm, Cond.classLink own z.catchType nm ∈ x_wd ∧ (E, nm) ∈ x_ncs) ∧ (covers x pc = true ∧ x.catchType ≠ 0 ∧ Cond.classLink own x.catchType E ∈ x_wd) ∧ Cond.castable E E ∈ x_ow ∧ x.handlerPc = h
section XCD
variable {p : Program} {l : Launch} {e : Env} {R : Room} {s : State} {m : MethodId} {args : Array Value} {below : List Frame} {meth : Method} {c : Code} {cells slots : Nat} {Q : State → Prop} {cc : ByteArray} {nL : Nat} {own : String} {Y : x_Y} {pc : Nat} {L : x_Lo} {st : List Value} {σ : x_S} {post : Option Value → x_S → Prop}
/-- what a handler does first: it puts the exception away -/
def x_hd (p : Program) (l : Launch) (e : Env) (R : Room) (s : State) (m : MethodId) (args : Array Value) (below : List Frame) (meth : Method) (c : Code) (nL : Nat) (Y : x_Y) (cells slots : Nat) (Q : State → Prop) (cc : ByteArray) (h : Nat) (τ : x_S) : Prop :=
  (∃ (k : Fin 4), (k : Nat) < nL ∧ decode cc h = .ok (.astore_n k, 1) ∧ x_W p l e R s m args below meth c nL Y cells slots Q (h + 1) x_L0 [] τ) ∨
  ∃ i, i < nL ∧ decode cc h = .ok (.astore i, 2) ∧ x_W p l e R s m args below meth c nL Y cells slots Q (h + 2) x_L0 [] τ
theorem x_L0_of {ls : Array Slot} {lv : List (Nat × Value)} (h : lv_has ls nL lv) : x_L Y ls nL x_L0 := ⟨h.1, h.2.1, fun i v hi => (by cases hi), fun i x hi => (by cases hi)⟩
theorem x_catch (C : x_C p s m args c cc nL own Y) {E : String} {h : Nat} (hct : x_ct own c.exceptionTable.toList pc E h) {H : Heap} {locs : List Loc} {q : Addr} {ce : Cell} {ls : Array Slot} {τ : x_S} {rest : List Value} (hl : x_L Y ls nL L) (hP : x_P Y τ H) (hS : va_S (x_A Y) s.heap H locs) (hce : H[q]? = some ce) (hv : ce.vm = .none) (hcl : s.vm.findClass E = some ce.cls)
    (kk : x_hd p l e R s m args below meth c nL Y cells slots Q cc h τ) : vx_W p l e R s m args below meth c H locs cells slots Q (F0 m pc ls rest) q := by
  intro T hT X
  obtain ⟨hx, hb, hml, hown, hts, hE⟩ := id C
  obtain ⟨pre, x, suf, hsp, hpre, ⟨hx1, hx2, hx3⟩, hcast, rfl⟩ := hct
  have hpl : e.platform.magicAccessors = ({} : Platform).magicAccessors := by rw [X.admits.platform]
  obtain ⟨c3, c4, hc3, hc4, hasg⟩ := Cond.castable_spec (x_ow_before (args := args) hcast (hE.2.1 _ hcast))
  cases Option.some.inj (hc3.symm.trans hcl)
  have hpx : x_pass e.platform s m.cls pc ce.cls true x := by
    obtain ⟨c5, hc5, hcl5⟩ := Cond.classLink_spec hown (hts _ hx3) e.platform hpl
    cases Option.some.inj (hc4.symm.trans hc5)
    exact ⟨hx1, hx2, c4, hcl5, hasg⟩
  have hpp : ∀ y ∈ pre, x_pass e.platform s m.cls pc ce.cls false y := fun y hy => by
    obtain ⟨h1, h2, nm, h3, h4⟩ := hpre y hy
    obtain ⟨c6, hc6, hcl6⟩ := Cond.classLink_spec hown (hts _ h3) e.platform hpl
    obtain ⟨a8, b8, g1, g2, g3⟩ := hE.2.2.1 _ h4
    cases Option.some.inj (g1.symm.trans hcl)
    cases Option.some.inj (g2.symm.trans hc6)
    exact ⟨h1, h2, _, hcl6, g3⟩
  obtain ⟨vm', X', st1⟩ := x_caught X (a := q) (cell := ce) (pc := pc) (ls := ls) (st := rest) (by rw [hT]; exact hce) hv (by obtain ⟨k9, h9, -⟩ := Vm.findClass_spec hcl; exact ⟨k9, h9⟩) pre x suf hsp hpp hpx
  have key : W p l e R s m args below meth c H locs cells slots Q (F0 m x.handlerPc ls [.ref q]) := by
    rcases kk with ⟨k, hk, hd, kw⟩ | ⟨i, hi, hd, kw⟩
    · exact lv_astore_n hx hb hd rfl hl.has hk rfl (fun ls9 h9 => kw H locs ls9 hP hS (x_L0_of h9))
    · exact lv_astore hx hb hd hl.has hi rfl (fun ls9 h9 => kw H locs ls9 hP hS (x_L0_of h9))
  obtain ⟨t, a1, b1⟩ := key (T.setVm vm') hT X'
  exact ⟨t, st1.trans a1, b1⟩
/-- THE CONTRACT of a method with handlers: it returns; at most k new objects -/
def x_MH (l : Launch) (y : MethodName) (bytes : ByteArray) (maxL : Nat) (ret : Option FieldType) (hh : List (Nat × Nat × Nat × Nat)) (d k : Nat) (Y : x_Y) (as : List Value) (σ : x_S) (post : Option Value → x_S → Prop) : Prop :=
  Met l y (Cond.codeWith y bytes maxL ret hh :: x_wd) (x_rmX d k) (x_I Y as σ) (x_Q Y post) k (6 * k) (x_A Y)
theorem x_startH {y : MethodName} {maxL : Nat} {ret : Option FieldType} {hh : List (Nat × Nat × Nat × Nat)} {d k : Nat} {as : List Value} (hy : plainName y.cls = true) (hlen : (lg_sl (as.map (x_v Y))).length ≤ maxL)
    (h : ∀ (p : Program) (e : Env) (s : State) (m : MethodId) (args : Array Value) (below : List Frame) (meth : Method) (c : Code), x_C p s m args c cc maxL y.cls Y → meth.sig.returnType = ret → meth.locks = false → c.exceptionTable.toList = tableOf hh →
      x_W p l e (x_rmX d k) s m args below meth c maxL Y 0 0 (MQ below (x_Q Y post) args s k (6 * k) (x_A Y)) 0 (x_of (lv_args 0 as)) [] σ) : x_MH l y cc maxL ret hh d k Y as σ post := by
  refine va_MetW (cc := cc) (maxL := maxL) (ret := ret) (hh := hh) hy rfl ?_
  intro p e s m args below meth c s₁ B hml hv
  obtain ⟨rfl, hP, hE⟩ := hv
  have hts := atoms_spec (ws := Cond.codeWith y cc maxL ret hh :: x_wd) B.pre
  have C : x_C p s m (as.map (x_v Y)).toArray c cc maxL y.cls Y := ⟨B.exec, B.bytes, hml, findClass_of_methodNamed B.named, fun w hw => hts w (List.mem_cons_of_mem _ hw), hE⟩
  have hl := lv_entry (as.map (x_v Y)) (n := maxL) hlen
  rw [lg_entry_eq]
  exact h p e s m _ below meth c C B.returns B.notSynchronized (vx_table (x := y) B (hts _ List.mem_cons_self)) s.heap [] _ hP va_S.rf (x_L.entry hl)
/-- a call that may throw, in a method with handlers -/
theorem x_callVH (C : x_C p s m args c cc nL own Y) {y : MethodName} {bytes : ByteArray} {maxL n d k1 j index : Nat} {ret : Option FieldType} {as st0 : List Value} {post2 : Option Value → x_S → Prop} {px2 : String → x_S → Prop} (hM : x_MX l y bytes maxL ret d k1 Y (.ref j :: as) σ post2 px2) (hB : x_KB y bytes maxL ret n) (hV : x_KV own index y)
    (hd : decode cc pc = .ok (.invokevirtual index, 3)) (hn : as.length = n) (hst : st0 = as.reverse ++ .ref j :: st) (hroom : (st.map fun v => v.category).sum ≤ 8) (hR : d + 1 ≤ R.frames ∧ 8 + (maxL + 11) + 40 * d ≤ R.locals) (hcs : cells + k1 ≤ R.cells ∧ slots + 6 * k1 ≤ R.slots)
    (hk : j < 64 ∧ ∃ (ci : Nat) (fl : List (Option Nat)) (T : u_T) (N : Nat), x_sh j = .inl (ci, fl) ∧ vwCl[ci]? = some (y.cls, T, N)) (kx : ∀ E τ, px2 E τ → ∃ h, x_ct own c.exceptionTable.toList pc E h ∧ x_hd p l e R s m args below meth c nL Y (cells + k1) (slots + 6 * k1) Q cc h τ)
    (kk : ∀ (r : Option Value) (τ : x_S), post2 r τ → x_W p l e R s m args below meth c nL Y (cells + k1) (slots + 6 * k1) Q (pc + 3) L (r.toList ++ st) τ) : x_W p l e R s m args below meth c nL Y cells slots Q pc L st0 σ := by
  intro H locs ls hP hS hl
  obtain ⟨hx, hb, hml, hown, hts, hE⟩ := id C
  obtain ⟨hk1, ci, fl, T0, N, hk2, hk3⟩ := hk
  subst hst
  have hcode := hB.2.1
  have hgood : GoodIn x_wd (wsV own index y.cls y (Cond.code y bytes maxL ret :: x_wd)) := x_goodIn (fun w hw => by
    rcases List.mem_append.mp hw with h | h
    · simp only [List.mem_cons, List.not_mem_nil, or_false] at h
      rcases h with rfl | rfl | rfl | rfl
      · exact hV.1
      · exact hV.2.1
      · exact hV.2.2
      · exact hB.1
    · exact x_ws1 hcode w h)
  have he := x_ws_at Y σ hk1
  rw [x_ce_o Y hk2] at he
  have hpre : PreV s H y.cls (x_ad Y j) (x_I Y (.ref j :: as) σ) (as.map (x_v Y)) := by
    refine ⟨x_I_blind Y _ σ, va_recv hE.1 hP.1 hk3 he, fun U hU hW => ⟨?_, by rw [hU]; exact hP, by rw [hU]; exact hE.go hW hS.1 hS.2.1⟩⟩
    rw [List.map_cons, x_v_r Y hk1]
  have e9 : (as.reverse ++ Value.ref j :: st).map (x_v Y) = (as.map (x_v Y)).reverse ++ Value.ref (x_ad Y j) :: st.map (x_v Y) := by
    rw [List.map_append, List.map_cons, x_v_r Y hk1, List.map_reverse]
  have hr := vx_runV (e := e) (meth := meth) (below := below) (cells := cells) (slots := slots) (locs := locs) (g := F0 m pc ls ((as.reverse ++ Value.ref j :: st).map (x_v Y))) (As := as.map (x_v Y)) (rest := st.map (x_v Y)) ⟨hx, hb, hml, hown, hts⟩ hM (cwV n hts hgood rfl rfl rfl ⟨rfl, hB.2.2⟩ hR) hpre rfl (by rw [List.length_map]; exact hn) hl.1 e9 (x_roomW hroom) hd hcs
  have keep : ∀ {st₀ t T' : State} {L1 : List Loc}, st₀.heap = H → T'.heap = t.heap → va_F (x_A Y) st₀ t → (∀ q ∈ L1, x_A Y q.base) → va_S (x_A Y) s.heap T'.heap (locs ++ L1) := by
    intro st₀ t T' L1 h0 e1 hF hL
    obtain ⟨hz, hk⟩ := hF
    rw [h0] at hz hk
    refine ⟨Nat.le_trans hS.1 (by rw [e1]; exact hz), fun q h1 h2 => ?_, fun q hq => ?_⟩
    · rw [e1, hk q (Nat.lt_of_lt_of_le h1 hS.1) h2]
      exact hS.2.1 q h1 h2
    · rcases List.mem_append.mp hq with h | h
      · exact hS.2.2 q h
      · exact hL q h
  intro T hT X
  rcases hr T hT X with ⟨v, st₀, t, T', L1, h0, X', hL, e1, e2, ⟨⟨r, τ, hv, hp, hb⟩, hF⟩, st9⟩ | ⟨q, st₀, t, T', L1, E, ce, h0, X', hL, e1, e2, ⟨τ, hp, hb, hF⟩, hce, hcv, hcl, st9⟩
  · cases hv
    have hS' := keep h0 e1 hF hL
    obtain ⟨t2, a1, b1⟩ := kk r τ hp T'.heap (locs ++ L1) ls (by rw [e1]; exact hb) hS' hl T' rfl X'
    have e10 : (r.toList ++ st).map (x_v Y) = (r.map (x_v Y)).toList ++ st.map (x_v Y) := by
      cases r <;> simp
    rw [e10] at a1
    exact ⟨t2, st9 t2 a1, b1⟩
  · have hS' := keep h0 e1 hF hL
    obtain ⟨h9, hct, hhd⟩ := kx E τ hp
    obtain ⟨t2, a1, b1⟩ := x_catch (L := L) (rest := st.map (x_v Y)) C hct hl (by rw [e1]; exact hb) hS' (by rw [e1]; exact hce) hcv hcl hhd T' rfl X'
    exact ⟨t2, st9.trans a1, b1⟩
/-- the words of a call of a method with handlers -/
def x_KBH (y : MethodName) (bytes : ByteArray) (maxL : Nat) (ret : Option FieldType) (hh : List (Nat × Nat × Nat × Nat)) (n : Nat) : Prop := Cond.initialized y.cls ∈ x_wd ∧ Cond.codeWith y bytes maxL ret hh ∈ x_wd ∧ y.cls ≠ "java/lang/invoke/MethodHandle" ∧ y.cls ≠ "java/lang/invoke/VarHandle" ∧ (parseMethodDescriptor y.desc).map (fun d => d.parameters.length) = some n
theorem x_callSH (C : x_C p s m args c cc nL own Y) {y : MethodName} {bytes : ByteArray} {maxL n d k index : Nat} {ret : Option FieldType} {hh : List (Nat × Nat × Nat × Nat)} {as st0 : List Value} (hM : x_MH l y bytes maxL ret hh d k Y as σ post) (hB : x_KBH y bytes maxL ret hh n) (hV : x_KS own index y)
    (hd : decode cc pc = .ok (.invokestatic index, 3)) (hn : as.length = n) (hst : st0 = as.reverse ++ st) (hroom : (st.map fun v => v.category).sum ≤ 8) (hR : d + 1 ≤ R.frames ∧ 8 + (maxL + 11) + 40 * d ≤ R.locals) (hcs : cells + k ≤ R.cells ∧ slots + 6 * k ≤ R.slots)
    (kk : ∀ (r : Option Value) (τ : x_S), post r τ → x_W p l e R s m args below meth c nL Y (cells + k) (slots + 6 * k) Q (pc + 3) L (r.toList ++ st) τ) : x_W p l e R s m args below meth c nL Y cells slots Q pc L st0 σ := by
  intro H locs ls hP hS hl
  obtain ⟨hx, hb, hml, hown, hts, hE⟩ := id C
  subst hst
  have hcode := hB.2.1
  have hgood : GoodIn x_wd (va_wsS own index y (Cond.codeWith y bytes maxL ret hh :: x_wd)) := x_goodIn (fun w hw => by
    rcases List.mem_append.mp hw with h | h
    · simp only [List.mem_cons, List.not_mem_nil, or_false] at h
      rcases h with rfl | rfl | rfl
      · exact hV.1
      · exact hV.2
      · exact hB.1
    · exact x_ws1 hcode w h)
  have hpre : PreS s H (x_I Y as σ) (as.map (x_v Y)) :=
    ⟨x_I_blind Y _ σ, fun U hU hW => ⟨rfl, by rw [hU]; exact hP, by rw [hU]; exact hE.go hW hS.1 hS.2.1⟩⟩
  have e9 : (as.reverse ++ st).map (x_v Y) = (as.map (x_v Y)).reverse ++ st.map (x_v Y) := by
    rw [List.map_append, List.map_reverse]
  have hr := vx_runSW (e := e) (meth := meth) (below := below) (cells := cells) (slots := slots) (locs := locs) (g := F0 m pc ls ((as.reverse ++ st).map (x_v Y))) (As := as.map (x_v Y)) (rest := st.map (x_v Y)) ⟨hx, hb, hml, hown, hts⟩ hM (vx_cwSW n hts hgood rfl rfl rfl hB.2.2 hR) hpre rfl (by rw [List.length_map]; exact hn) hl.1 e9 (x_roomW hroom) hd hcs
  intro T hT X
  obtain ⟨v, st₀, t, T', L1, h0, X', hL, e1, e2, ⟨⟨r, τ, hv, hp, hb⟩, hz, hk⟩, st9⟩ := hr T hT X
  cases hv
  rw [h0] at hz hk
  have hS' : va_S (x_A Y) s.heap T'.heap (locs ++ L1) := by
    refine ⟨Nat.le_trans hS.1 (by rw [e1]; exact hz), fun q h1 h2 => ?_, fun q hq => ?_⟩
    · rw [e1, hk q (Nat.lt_of_lt_of_le h1 hS.1) h2]
      exact hS.2.1 q h1 h2
    · rcases List.mem_append.mp hq with h | h
      · exact hS.2.2 q h
      · exact hL q h
  obtain ⟨t2, a1, b1⟩ := kk r τ hp T'.heap (locs ++ L1) ls (by rw [e1]; exact hb) hS' hl T' rfl X'
  have e10 : (r.toList ++ st).map (x_v Y) = (r.map (x_v Y)).toList ++ st.map (x_v Y) := by
    cases r <;> simp
  rw [e10] at a1
  exact ⟨t2, st9 t2 a1, b1⟩
/-- the script of n ints xs: the cell 66 -/
def x_SC (Y : x_Y) (s : State) (n : Nat) (xs : Nat → Int32) : Prop := va_X (x_ad Y 66) n xs s s.heap ∧ x_ad Y 66 < s.heap.size ∧ ¬ x_A Y (x_ad Y 66)
theorem x_sld (C : x_C p s m args c cc nL own Y) {n i : Nat} {xs : Nat → Int32} (S : x_SC Y s n xs) (hn : n < 2 ^ 31) (hi : i < n) (hd : decode cc pc = .ok (.iaload, 1)) (kk : x_W p l e R s m args below meth c nL Y cells slots Q (pc + 1) L (.int (xs i) :: st) σ) : x_W p l e R s m args below meth c nL Y cells slots Q pc L (.int (nI i) :: .ref 66 :: st) σ := by
  intro H locs ls hP hS hl
  have e9 : (nI i).toNatClampNeg = i := z_cl (by omega)
  refine va_sld (i := nI i) (rest := st.map (x_v Y)) C.1 C.2.1 S.1 S.2.1 S.2.2 hS (fun h => ?_) hd ?_
  · rcases h with h | h
    · exact y_nneg (by omega) h
    · rw [e9] at h; omega
  · rw [e9]
    exact kk H locs ls hP hS hl
theorem x_slen (C : x_C p s m args c cc nL own Y) {n : Nat} {xs : Nat → Int32} (S : x_SC Y s n xs) (hd : decode cc pc = .ok (.arraylength, 1)) (kk : x_W p l e R s m args below meth c nL Y cells slots Q (pc + 1) L (.int (nI n) :: st) σ) : x_W p l e R s m args below meth c nL Y cells slots Q pc L (.ref 66 :: st) σ :=
  fun H locs ls hP hS hl => va_slen (rest := st.map (x_v Y)) C.1 C.2.1 S.1 S.2.1 S.2.2 hS hd (kk H locs ls hP hS hl)
end XCD
