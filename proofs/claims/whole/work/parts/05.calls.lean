/-! ===== contracts, returns, calls ===== -/
/-- the room of a method whose calls go d deep -/
def x_rm (d : Nat) : Room := { frames := d, cells := 0, slots := 0, locals := 40 * d }
def x_Q (Y : x_Y) (post : Option Value → x_S → Prop) : Array Value → State → Outcome → State → Prop := fun _ st oc t =>
  (∃ (r : Option Value) (τ : x_S), oc = .returned (r.map (x_v Y)) ∧ post r τ ∧ x_P Y τ t.heap) ∧ va_F (x_A Y) st t
def x_I (Y : x_Y) (as : List Value) (σ : x_S) : Array Value → State → Prop := va_Pc (as.map (x_v Y)) (fun U => x_P Y σ U.heap ∧ x_E Y U U.heap)
/-- THE CONTRACT of a method: from the state σ, with the arguments as, it returns, and answer and new state are as 'post' says -/
def x_M (l : Launch) (y : MethodName) (bytes : ByteArray) (maxL : Nat) (ret : Option FieldType) (d : Nat) (Y : x_Y) (as : List Value) (σ : x_S) (post : Option Value → x_S → Prop) : Prop :=
  Met l y (Cond.code y bytes maxL ret :: x_wd) (x_rm d) (x_I Y as σ) (x_Q Y post) 0 0 (x_A Y)
theorem x_I_blind (Y : x_Y) (as : List Value) (σ : x_S) : FrameBlind (x_I Y as σ) := by
  intro a U g mk h
  obtain ⟨h1, h2, h3⟩ := h
  exact ⟨h1, h2, h3.same (U := U.calling g mk a) rfl⟩
theorem x_start {l : Launch} {y : MethodName} {cc : ByteArray} {maxL : Nat} {ret : Option FieldType} {d : Nat} {Y : x_Y} {as : List Value} {σ : x_S} {post : Option Value → x_S → Prop} (hy : plainName y.cls = true) (hlen : (lg_sl (as.map (x_v Y))).length ≤ maxL)
    (h : ∀ (p : Program) (e : Env) (s : State) (m : MethodId) (args : Array Value) (below : List Frame) (meth : Method) (c : Code), x_C p s m args c cc maxL y.cls Y → meth.sig.returnType = ret → meth.locks = false →
      x_W p l e (x_rm d) s m args below meth c maxL Y 0 0 (MQ below (x_Q Y post) args s 0 0 (x_A Y)) 0 (x_of (lv_args 0 as)) [] σ) : x_M l y cc maxL ret d Y as σ post := by
  refine Met.ofW (cc := cc) (maxL := maxL) (ret := ret) hy rfl ?_
  intro p e s m args below meth c s₁ B hml hv
  obtain ⟨rfl, hP, hE⟩ := hv
  have hts := atoms_spec (ws := Cond.code y cc maxL ret :: x_wd) B.pre
  have C : x_C p s m (as.map (x_v Y)).toArray c cc maxL y.cls Y := ⟨B.exec, B.bytes, hml, findClass_of_methodNamed B.named, fun w hw => hts w (List.mem_cons_of_mem _ hw), hE⟩
  have hl := lv_entry (as.map (x_v Y)) (n := maxL) hlen
  rw [lg_entry_eq]
  exact h p e s m _ below meth c C B.returns B.notSynchronized s.heap [] _ hP va_S.rf (x_L.entry hl)
section XR
variable {p : Program} {l : Launch} {e : Env} {R : Room} {s : State} {m : MethodId} {args : Array Value} {below : List Frame} {meth : Method} {c : Code} {cells slots : Nat} {Q : State → Prop} {cc : ByteArray} {nL : Nat} {own : String} {Y : x_Y} {pc : Nat} {L : x_Lo} {st : List Value} {σ : x_S} {post : Option Value → x_S → Prop}
theorem x_iret (C : x_C p s m args c cc nL own Y) {v : Int32} (hr : meth.sig.returnType = some .int) (hk : meth.locks = false) (hd : decode cc pc = .ok (.ireturn, 1)) (hp : post (some (.int v)) σ) : x_W p l e R s m args below meth c nL Y cells slots (MQ below (x_Q Y post) args s cells slots (x_A Y)) pc L [.int v] σ :=
  fun H locs ls hP hS hl => W.iret C.1 C.2.1 hr (fun t ht hW => ⟨⟨some (.int v), σ, rfl, hp, by rw [ht]; exact hP⟩, hS.F ht⟩) hS.2.2 hd hk
theorem x_zret (C : x_C p s m args c cc nL own Y) {v : Int32} (hr : meth.sig.returnType = some .boolean) (hk : meth.locks = false) (hd : decode cc pc = .ok (.ireturn, 1)) (hn : narrow .boolean (.int v) = .int v) (hp : post (some (.int v)) σ) : x_W p l e R s m args below meth c nL Y cells slots (MQ below (x_Q Y post) args s cells slots (x_A Y)) pc L [.int v] σ :=
  fun H locs ls hP hS hl => W.zret C.1 C.2.1 hr hn (fun t ht hW => ⟨⟨some (.int v), σ, rfl, hp, by rw [ht]; exact hP⟩, hS.F ht⟩) hS.2.2 hd hk
theorem x_lret (C : x_C p s m args c cc nL own Y) {v : Int64} (hr : meth.sig.returnType = some .long) (hk : meth.locks = false) (hd : decode cc pc = .ok (.lreturn, 1)) (hp : post (some (.long v)) σ) : x_W p l e R s m args below meth c nL Y cells slots (MQ below (x_Q Y post) args s cells slots (x_A Y)) pc L [.long v] σ :=
  fun H locs ls hP hS hl => W.lret C.1 C.2.1 hr (fun t ht hW => ⟨⟨some (.long v), σ, rfl, hp, by rw [ht]; exact hP⟩, hS.F ht⟩) hS.2.2 hd hk
theorem x_vret (C : x_C p s m args c cc nL own Y) (hr : meth.sig.returnType = none) (hk : meth.locks = false) (hd : decode cc pc = .ok (.return_, 1)) (hp : post none σ) : x_W p l e R s m args below meth c nL Y cells slots (MQ below (x_Q Y post) args s cells slots (x_A Y)) pc L [] σ :=
  fun H locs ls hP hS hl => W.vret C.1 C.2.1 hr (fun t ht hW => ⟨⟨none, σ, rfl, hp, by rw [ht]; exact hP⟩, hS.F ht⟩) hS.2.2 hd hk
theorem x_aret (C : x_C p s m args c cc nL own Y) {k : Nat} {n : String} (hr : meth.sig.returnType = some (.object n)) (hk : meth.locks = false) (hd : decode cc pc = .ok (.areturn, 1)) (hp : post (some (.ref k)) σ) : x_W p l e R s m args below meth c nL Y cells slots (MQ below (x_Q Y post) args s cells slots (x_A Y)) pc L [.ref k] σ :=
  fun H locs ls hP hS hl => W.aret C.1 C.2.1 hr (Or.inl ⟨n, rfl⟩) (Or.inr ⟨_, rfl⟩) (fun t ht hW => ⟨⟨some (.ref k), σ, rfl, hp, by rw [ht]; exact hP⟩, hS.F ht⟩) hS.2.2 hd hk
/-- behind a call -/
theorem x_after {ls : Array Slot} {st0 : List Value} {H : Heap} {locs : List Loc} {a : Array Value} (hl : x_L Y ls nL L) (hS : va_S (x_A Y) s.heap H locs)
    (hr : va_Run p l e R s m args below meth c H locs cells slots 0 0 (F0 m pc ls st0) (st.map (x_v Y)) (x_Q Y post a) (x_A Y))
    (kk : ∀ (r : Option Value) (τ : x_S), post r τ → x_W p l e R s m args below meth c nL Y cells slots Q (pc + 3) L (r.toList ++ st) τ) : W p l e R s m args below meth c H locs cells slots Q (F0 m pc ls st0) := by
  intro T hT X
  obtain ⟨v, st₀, t, T', L1, h0, X', hL, e1, e2, ⟨⟨r, τ, hv, hp, hb⟩, hz, hk⟩, st9⟩ := hr T hT X
  cases hv
  rw [h0] at hz hk
  have hS' : va_S (x_A Y) s.heap T'.heap (locs ++ L1) := by
    refine ⟨Nat.le_trans hS.1 (by rw [e1]; exact hz), fun q h1 h2 => ?_, fun q hq => ?_⟩
    · rw [e1, hk q (Nat.lt_of_lt_of_le h1 hS.1) h2]
      exact hS.2.1 q h1 h2
    · rcases List.mem_append.mp hq with h | h
      · exact hS.2.2 q h
      · exact hL q h
  obtain ⟨t2, a1, b1⟩ := kk r τ hp T'.heap (locs ++ L1) ls (by rw [e1]; exact hb) hS' hl T' rfl X'
  have e9 : (r.toList ++ st).map (x_v Y) = (r.map (x_v Y)).toList ++ st.map (x_v Y) := by
    cases r <;> simp
  rw [e9] at a1
  exact ⟨t2, st9 t2 a1, b1⟩
/-- the words of a call -/
def x_KB (y : MethodName) (bytes : ByteArray) (maxL : Nat) (ret : Option FieldType) (n : Nat) : Prop := Cond.initialized y.cls ∈ x_wd ∧ Cond.code y bytes maxL ret ∈ x_wd ∧ y.cls ≠ "java/lang/invoke/MethodHandle" ∧ y.cls ≠ "java/lang/invoke/VarHandle" ∧ (parseMethodDescriptor y.desc).map (fun d => d.parameters.length) = some n
def x_KV (own : String) (index : Nat) (y : MethodName) : Prop := Cond.methodLink own index y ∈ x_wd ∧ Cond.instanceMethod y ∈ x_wd ∧ Cond.selects y.cls y y ∈ x_wd
def x_KS (own : String) (index : Nat) (y : MethodName) : Prop := Cond.methodLink own index y ∈ x_wd ∧ Cond.static y ∈ x_wd
def x_KSN (own : String) (index : Nat) (y : MethodName) : Prop := (∃ host, Cond.methodLinkNest own index y host ∈ x_ow) ∧ Cond.static y ∈ x_wd
theorem x_goodIn {ws : List Cond} (h : ∀ w ∈ ws, w ∈ x_wd) : GoodIn x_wd ws := fun w hw => ⟨h w hw, good_of_word (x_wd_good w (h w hw)).2⟩
theorem x_ws1 {w : Cond} (h : w ∈ x_wd) : ∀ w' ∈ w :: x_wd, w' ∈ x_wd := fun w' h' => (List.mem_cons.mp h').elim (fun e => by rw [e]; exact h) id
theorem x_roomW {ls : Array Slot} {st0 : List Value} (h : (st.map fun v => v.category).sum ≤ 8) : 2 * (F0 m pc ls st0).monitorRoom + ((st.map (x_v Y)).map fun v => v.category).sum ≤ 8 := by
  rw [x_v_cats]
  exact lv_room h
theorem x_callV (C : x_C p s m args c cc nL own Y) {y : MethodName} {bytes : ByteArray} {maxL n d k index : Nat} {ret : Option FieldType} {as st0 : List Value} (hM : x_M l y bytes maxL ret d Y (.ref k :: as) σ post) (hB : x_KB y bytes maxL ret n) (hV : x_KV own index y)
    (hd : decode cc pc = .ok (.invokevirtual index, 3)) (hn : as.length = n) (hst : st0 = as.reverse ++ .ref k :: st) (hroom : (st.map fun v => v.category).sum ≤ 8) (hR : d + 1 ≤ R.frames ∧ 8 + (maxL + 11) + 40 * d ≤ R.locals) (hcs : cells ≤ R.cells ∧ slots ≤ R.slots)
    (hk : k < 64 ∧ ∃ (ci : Nat) (fl : List (Option Nat)) (T : u_T) (N : Nat), x_sh k = .inl (ci, fl) ∧ vwCl[ci]? = some (y.cls, T, N))
    (kk : ∀ (r : Option Value) (τ : x_S), post r τ → x_W p l e R s m args below meth c nL Y cells slots Q (pc + 3) L (r.toList ++ st) τ) : x_W p l e R s m args below meth c nL Y cells slots Q pc L st0 σ := by
  intro H locs ls hP hS hl
  obtain ⟨hx, hb, hml, hown, hts, hE⟩ := id C
  obtain ⟨hk1, ci, fl, T, N, hk2, hk3⟩ := hk
  subst hst
  have hcode := hB.2.1
  have hgood : GoodIn x_wd (wsV own index y.cls y (Cond.code y bytes maxL ret :: x_wd)) := x_goodIn (fun w hw => by
    rcases List.mem_append.mp hw with h | h
    · simp only [List.mem_cons, List.not_mem_nil, or_false] at h
      rcases h with rfl | rfl | rfl | rfl
      · exact hV.1
      · exact hV.2.1
      · exact hV.2.2
      · exact hB.1
    · exact x_ws1 hcode w h)
  have he := x_ws_at Y σ hk1
  rw [x_ce_o Y hk2] at he
  have hpre : PreV s H y.cls (x_ad Y k) (x_I Y (.ref k :: as) σ) (as.map (x_v Y)) := by
    refine ⟨x_I_blind Y _ σ, va_recv hE.1 hP.1 hk3 he, fun U hU hW => ⟨?_, by rw [hU]; exact hP, by rw [hU]; exact hE.go hW hS.1 hS.2.1⟩⟩
    rw [List.map_cons, x_v_r Y hk1]
  have e9 : (as.reverse ++ Value.ref k :: st).map (x_v Y) = (as.map (x_v Y)).reverse ++ Value.ref (x_ad Y k) :: st.map (x_v Y) := by
    rw [List.map_append, List.map_cons, x_v_r Y hk1, List.map_reverse]
  exact x_after (st := st) hl hS (va_runV (As := as.map (x_v Y)) (rest := st.map (x_v Y)) ⟨hx, hb, hml, hown, hts⟩ hM (cwV n hts hgood rfl rfl rfl ⟨rfl, hB.2.2⟩ hR) hpre rfl (by rw [List.length_map]; exact hn) hl.1 e9 (x_roomW hroom) hd hcs) kk
theorem x_callS (C : x_C p s m args c cc nL own Y) {y : MethodName} {bytes : ByteArray} {maxL n d index : Nat} {ret : Option FieldType} {as st0 : List Value} (hM : x_M l y bytes maxL ret d Y as σ post) (hB : x_KB y bytes maxL ret n) (hV : x_KS own index y)
    (hd : decode cc pc = .ok (.invokestatic index, 3)) (hn : as.length = n) (hst : st0 = as.reverse ++ st) (hroom : (st.map fun v => v.category).sum ≤ 8) (hR : d + 1 ≤ R.frames ∧ 8 + (maxL + 11) + 40 * d ≤ R.locals) (hcs : cells ≤ R.cells ∧ slots ≤ R.slots)
    (kk : ∀ (r : Option Value) (τ : x_S), post r τ → x_W p l e R s m args below meth c nL Y cells slots Q (pc + 3) L (r.toList ++ st) τ) : x_W p l e R s m args below meth c nL Y cells slots Q pc L st0 σ := by
  intro H locs ls hP hS hl
  obtain ⟨hx, hb, hml, hown, hts, hE⟩ := id C
  subst hst
  have hcode := hB.2.1
  have hgood : GoodIn x_wd (va_wsS own index y (Cond.code y bytes maxL ret :: x_wd)) := x_goodIn (fun w hw => by
    rcases List.mem_append.mp hw with h | h
    · simp only [List.mem_cons, List.not_mem_nil, or_false] at h
      rcases h with rfl | rfl | rfl
      · exact hV.1
      · exact hV.2
      · exact hB.1
    · exact x_ws1 hcode w h)
  have hpre : PreS s H (x_I Y as σ) (as.map (x_v Y)) :=
    ⟨x_I_blind Y _ σ, fun U hU hW => ⟨rfl, by rw [hU]; exact hP, by rw [hU]; exact hE.go hW hS.1 hS.2.1⟩⟩
  have e9 : (as.reverse ++ st).map (x_v Y) = (as.map (x_v Y)).reverse ++ st.map (x_v Y) := by
    rw [List.map_append, List.map_reverse]
  exact x_after (st := st) hl hS (va_runS (As := as.map (x_v Y)) (rest := st.map (x_v Y)) ⟨hx, hb, hml, hown, hts⟩ hM (va_cwS n hts hgood rfl rfl rfl hB.2.2 hR) hpre rfl (by rw [List.length_map]; exact hn) hl.1 e9 (x_roomW hroom) hd hcs) kk
theorem x_callSN (C : x_C p s m args c cc nL own Y) {y : MethodName} {bytes : ByteArray} {maxL n d index : Nat} {ret : Option FieldType} {as st0 : List Value} (hM : x_M l y bytes maxL ret d Y as σ post) (hB : x_KB y bytes maxL ret n) (hV : x_KSN own index y)
    (hd : decode cc pc = .ok (.invokestatic index, 3)) (hn : as.length = n) (hst : st0 = as.reverse ++ st) (hroom : (st.map fun v => v.category).sum ≤ 8) (hR : d + 1 ≤ R.frames ∧ 8 + (maxL + 11) + 40 * d ≤ R.locals) (hcs : cells ≤ R.cells ∧ slots ≤ R.slots)
    (kk : ∀ (r : Option Value) (τ : x_S), post r τ → x_W p l e R s m args below meth c nL Y cells slots Q (pc + 3) L (r.toList ++ st) τ) : x_W p l e R s m args below meth c nL Y cells slots Q pc L st0 σ := by
  intro H locs ls hP hS hl
  obtain ⟨hx, hb, hml, hown, hts, hE⟩ := id C
  subst hst
  have hcode := hB.2.1
  obtain ⟨⟨host, hh⟩, hst2⟩ := hV
  have hgood : GoodIn x_wd (Cond.code y bytes maxL ret :: x_wd) := x_goodIn (x_ws1 hcode)
  have hpre : PreS s H (x_I Y as σ) (as.map (x_v Y)) :=
    ⟨x_I_blind Y _ σ, fun U hU hW => ⟨rfl, by rw [hU]; exact hP, by rw [hU]; exact hE.go hW hS.1 hS.2.1⟩⟩
  have e9 : (as.reverse ++ st).map (x_v Y) = (as.map (x_v Y)).reverse ++ st.map (x_v Y) := by
    rw [List.map_append, List.map_reverse]
  exact x_after (st := st) hl hS (va_runSN (As := as.map (x_v Y)) (rest := st.map (x_v Y)) ⟨hx, hb, hml, hown, hts⟩ hM ⟨va_cnB n hts hgood rfl rfl rfl (hE.2.1 _ hh) (hts _ hB.1) hB.2.2 hR, hts _ hst2, trivial⟩ hpre rfl (by rw [List.length_map]; exact hn) hl.1 e9 (x_roomW hroom) hd hcs) kk
end XR
