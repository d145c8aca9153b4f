/-! ===== methods that return or throw ===== -/
def x_rmX (d k : Nat) : Room := { frames := d, cells := k, slots := 6 * k, locals := 40 * d }
def x_XC (Y : x_Y) (px : String → x_S → Prop) : String → State → State → Prop := fun E st t => ∃ τ : x_S, px E τ ∧ x_P Y τ t.heap ∧ va_F (x_A Y) st t
/-- THE CONTRACT: it returns as 'post' says, or throws as 'px' says (the exception's class, the state); at most k new objects -/
def x_MX (l : Launch) (y : MethodName) (bytes : ByteArray) (maxL : Nat) (ret : Option FieldType) (d k : Nat) (Y : x_Y) (as : List Value) (σ : x_S) (post : Option Value → x_S → Prop) (px : String → x_S → Prop) : Prop :=
  vx_Met l y (Cond.code y bytes maxL ret :: x_wd) (x_rmX d k) (x_I Y as σ) (x_Q Y post) (x_XC Y px) k (6 * k) (x_A Y)
theorem x_startX {l : Launch} {y : MethodName} {cc : ByteArray} {maxL : Nat} {ret : Option FieldType} {d k : Nat} {Y : x_Y} {as : List Value} {σ : x_S} {post : Option Value → x_S → Prop} {px : String → x_S → Prop} (hy : plainName y.cls = true) (hlen : (lg_sl (as.map (x_v Y))).length ≤ maxL)
    (h : ∀ (p : Program) (e : Env) (s : State) (m : MethodId) (args : Array Value) (below : List Frame) (meth : Method) (c : Code), x_C p s m args c cc maxL y.cls Y → meth.sig.returnType = ret → meth.locks = false → (∀ x ∈ c.exceptionTable.toList, False) →
      x_W p l e (x_rmX d k) s m args below meth c maxL Y 0 0 (vx_MQ below (x_Q Y post) (x_XC Y px) args s k (6 * k) (x_A Y)) 0 (x_of (lv_args 0 as)) [] σ) : x_MX l y cc maxL ret d k Y as σ post px := by
  refine vx_ofW (cc := cc) (maxL := maxL) (ret := ret) hy rfl ?_
  intro p e s m args below meth c s₁ B hml ht hv
  obtain ⟨rfl, hP, hE⟩ := hv
  have hts := atoms_spec (ws := Cond.code y cc maxL ret :: x_wd) B.pre
  have C : x_C p s m (as.map (x_v Y)).toArray c cc maxL y.cls Y := ⟨B.exec, B.bytes, hml, findClass_of_methodNamed B.named, fun w hw => hts w (List.mem_cons_of_mem _ hw), hE⟩
  have hl := lv_entry (as.map (x_v Y)) (n := maxL) hlen
  rw [lg_entry_eq]
  exact h p e s m _ below meth c C B.returns B.notSynchronized ht s.heap [] _ hP va_S.rf (x_L.entry hl)
section XX
variable {p : Program} {l : Launch} {e : Env} {R : Room} {s : State} {m : MethodId} {args : Array Value} {below : List Frame} {meth : Method} {c : Code} {cells slots : Nat} {cc : ByteArray} {nL : Nat} {own : String} {Y : x_Y} {pc : Nat} {L : x_Lo} {st : List Value} {σ : x_S} {post : Option Value → x_S → Prop} {px : String → x_S → Prop} {k : Nat}
theorem x_retX (hc : cells ≤ k) (hs : slots ≤ 6 * k) (kk : x_W p l e R s m args below meth c nL Y k (6 * k) (MQ below (x_Q Y post) args s k (6 * k) (x_A Y)) pc L st σ) : x_W p l e R s m args below meth c nL Y cells slots (vx_MQ below (x_Q Y post) (x_XC Y px) args s k (6 * k) (x_A Y)) pc L st σ :=
  fun H locs ls hP hS hl => vx_ret (W.widen hc hs (kk H locs ls hP hS hl))
theorem x_at_ext {q : Nat × va_E} {H H1 : Heap} (h : va_at Y.1 vwCl q H) (hq : ∀ q : Nat, q < H.size → H1[q]? = H[q]?) : va_at Y.1 vwCl q H1 := h.kept (hq _ h.lt)
theorem x_P_ext {H H1 : Heap} (h : x_P Y σ H) (hq : ∀ q : Nat, q < H.size → H1[q]? = H[q]?) : x_P Y σ H1 := by
  refine ⟨fun i q hi => ?_, h.2⟩
  have h1 := h.1 i q hi
  exact x_at_ext h1 hq
/-- what a throw of the class rests on -/
def x_KT (ik is ic : Nat) (cls text : String) (names : List String) : Prop :=
  (Bundle.fit cls = true ∧ (∀ n ∈ names, Bundle.fit n = true) ∧ names.length ≤ 2) ∧ (Cond.classLink RX11 ik cls ∈ x_wd ∧ Cond.initialized cls ∈ x_wd ∧ (is, text) ∈ x_strs) ∧ (∀ w ∈ vx_atS RX11 ic cls names, w ∈ x_wd ∨ w ∈ x_ow) ∧ ∀ w ∈ Cond.classLink RX11 ik cls :: Cond.initialized cls :: vx_atS RX11 ic cls names, vx_ot w = true
theorem x_ow_before {w : Cond} (hw : w ∈ x_ow) (h : va_Nw w s) : w.before args s = true := by
  have h1 := (List.mem_filter.mp hw).2
  cases w <;> first | (simp [x_isO] at h1; done) | exact va_tabs rfl rfl h
theorem x_throw (C : x_C p s m args c cc nL RX11 Y) (hX : ∀ x ∈ c.exceptionTable.toList, False) (hlk : meth.locks = false) (hl : l.stackTraces = false) {ik is ic : Nat} {cls text : String} {names : List String} (hT : x_KT ik is ic cls text names)
    (d0 : decode cc pc = .ok (.new ik, 3)) (d3 : decode cc (pc + 3) = .ok (.dup, 1)) (d4 : decode cc (pc + 4) = .ok (.ldc is, 2)) (d6 : decode cc (pc + 6) = .ok (.invokespecial ic, 3)) (d9 : decode cc (pc + 9) = .ok (.athrow, 1))
    (hR : 6 ≤ R.frames ∧ (st.map fun v => v.category).sum + 82 ≤ R.locals ∧ cells + 1 ≤ R.cells ∧ slots + 6 ≤ R.slots) (hc : cells + 1 ≤ k) (hs : slots + 6 ≤ 6 * k) (hp : px cls σ) :
    x_W p l e R s m args below meth c nL Y cells slots (vx_MQ below (x_Q Y post) (x_XC Y px) args s k (6 * k) (x_A Y)) pc L st σ := by
  intro H locs ls hP hS hls
  obtain ⟨hx, hb, hml, hown, hts, hE⟩ := id C
  obtain ⟨⟨t1, t2, t3⟩, ⟨t4, t5, t6⟩, t7, t8⟩ := hT
  obtain ⟨sa, hstr⟩ := hE.2.2.2.1 _ t6
  refine vx_throwS (A := x_A Y) (names := names) (sa := sa) hx hb hl hown t1 t2 (hts _ t4) (hts _ t5) hstr (fun w hw => (t7 w hw).elim (fun z => hts w z) (fun z => x_ow_before z (hE.2.1 w z))) t8 hE.2.2.2.2.2.2.1 hE.2.2.2.2.2.2.2.1 hS (hls.1.trans hml.symm) d0 d3 d4 d6 d9 (fun x h => absurd (hX x h) (fun z => z)) (by omega) ?_ hR.2.2.1 hR.2.2.2 hlk ?_ hS.2.2 hc hs
  · rw [x_v_cats]
    have := hR.2.1
    omega
  · intro t _ h1 h2
    exact ⟨σ, hp, x_P_ext hP h2, Nat.le_trans hS.1 h1, fun q h3 h4 => by rw [h2 q (Nat.lt_of_lt_of_le h3 hS.1)]; exact hS.2.1 q h3 h4⟩
/-- behind a call that may throw; what it throws goes on to the caller -/
theorem x_afterX {ls : Array Slot} {st0 : List Value} {H : Heap} {locs : List Loc} {a : Array Value} {post2 : Option Value → x_S → Prop} {px2 : String → x_S → Prop} {mc ms : Nat} (hl : x_L Y ls nL L) (hS : va_S (x_A Y) s.heap H locs) (hX : ∀ x ∈ c.exceptionTable.toList, False) (hlk : meth.locks = false)
    (hr : vx_Run p l e R s m args below meth c H locs cells slots mc ms (F0 m pc ls st0) (st.map (x_v Y)) (x_Q Y post2 a) (x_XC Y px2) (x_A Y)) (kx : ∀ E τ, px2 E τ → px E τ) (hc : cells + mc ≤ k) (hs : slots + ms ≤ 6 * k)
    (kk : ∀ (r : Option Value) (τ : x_S), post2 r τ → x_W p l e R s m args below meth c nL Y (cells + mc) (slots + ms) (vx_MQ below (x_Q Y post) (x_XC Y px) args s k (6 * k) (x_A Y)) (pc + 3) L (r.toList ++ st) τ) : W p l e R s m args below meth c H locs cells slots (vx_MQ below (x_Q Y post) (x_XC Y px) args s k (6 * k) (x_A Y)) (F0 m pc ls st0) := by
  have keep : ∀ {st₀ t T' : State} {L1 : List Loc}, st₀.heap = H → T'.heap = t.heap → va_F (x_A Y) st₀ t → (∀ q ∈ L1, x_A Y q.base) → va_S (x_A Y) s.heap T'.heap (locs ++ L1) := by
    intro st₀ t T' L1 h0 e1 hF hL
    obtain ⟨hz, hk⟩ := hF
    rw [h0] at hz hk
    refine ⟨Nat.le_trans hS.1 (by rw [e1]; exact hz), fun q h1 h2 => ?_, fun q hq => ?_⟩
    · rw [e1, hk q (Nat.lt_of_lt_of_le h1 hS.1) h2]
      exact hS.2.1 q h1 h2
    · rcases List.mem_append.mp hq with h | h
      · exact hS.2.2 q h
      · exact hL q h
  intro T hT X
  rcases hr T hT X with ⟨v, st₀, t, T', L1, h0, X', hL, e1, e2, ⟨⟨r, τ, hv, hp, hb⟩, hF⟩, st9⟩ | ⟨q, st₀, t, T', L1, E, ce, h0, X', hL, e1, e2, ⟨τ, hp, hb, hF⟩, hce, hcv, hcl, st9⟩
  · cases hv
    have hS' := keep h0 e1 hF hL
    obtain ⟨t2, a1, b1⟩ := kk r τ hp T'.heap (locs ++ L1) ls (by rw [e1]; exact hb) hS' hl T' rfl X'
    have e9 : (r.toList ++ st).map (x_v Y) = (r.map (x_v Y)).toList ++ st.map (x_v Y) := by
      cases r <;> simp
    rw [e9] at a1
    exact ⟨t2, st9 t2 a1, b1⟩
  · have hS' := keep h0 e1 hF hL
    obtain ⟨t2, a1, b1⟩ := vx_out (Qc := x_Q Y post) (XC := x_XC Y px) (free := x_A Y) (below := below) (args := args) (p := p) (l := l) (e := e) (R := R) (s := s) (m := m) (meth := meth) (c := c) (H := T'.heap) (locs := locs ++ L1) (cells := cells + mc) (slots := slots + ms) (pc := pc) (ls := ls) (rest := st.map (x_v Y)) (fun x h => absurd (hX x h) (fun z => z)) hlk (by rw [e1]; exact hce) hcv hcl (fun t9 h9 _ => ⟨τ, kx E τ hp, by rw [h9, e1]; exact hb, hS'.F h9⟩) hS'.2.2 hc hs T' rfl X'
    exact ⟨t2, st9.trans a1, b1⟩
theorem x_callVX (C : x_C p s m args c cc nL own Y) (hX : ∀ x ∈ c.exceptionTable.toList, False) (hlk : meth.locks = false) {y : MethodName} {bytes : ByteArray} {maxL n d k1 j index : Nat} {ret : Option FieldType} {as st0 : List Value} {post2 : Option Value → x_S → Prop} {px2 : String → x_S → Prop} (hM : x_MX l y bytes maxL ret d k1 Y (.ref j :: as) σ post2 px2) (hB : x_KB y bytes maxL ret n) (hV : x_KV own index y)
    (hd : decode cc pc = .ok (.invokevirtual index, 3)) (hn : as.length = n) (hst : st0 = as.reverse ++ .ref j :: st) (hroom : (st.map fun v => v.category).sum ≤ 8) (hR : d + 1 ≤ R.frames ∧ 8 + (maxL + 11) + 40 * d ≤ R.locals) (hcs : cells + k1 ≤ R.cells ∧ slots + 6 * k1 ≤ R.slots)
    (hk : j < 64 ∧ ∃ (ci : Nat) (fl : List (Option Nat)) (T : u_T) (N : Nat), x_sh j = .inl (ci, fl) ∧ vwCl[ci]? = some (y.cls, T, N)) (kx : ∀ E τ, px2 E τ → px E τ) (hc : cells + k1 ≤ k) (hs : slots + 6 * k1 ≤ 6 * k)
    (kk : ∀ (r : Option Value) (τ : x_S), post2 r τ → x_W p l e R s m args below meth c nL Y (cells + k1) (slots + 6 * k1) (vx_MQ below (x_Q Y post) (x_XC Y px) args s k (6 * k) (x_A Y)) (pc + 3) L (r.toList ++ st) τ) : x_W p l e R s m args below meth c nL Y cells slots (vx_MQ below (x_Q Y post) (x_XC Y px) args s k (6 * k) (x_A Y)) pc L st0 σ := by
  intro H locs ls hP hS hl
  obtain ⟨hx, hb, hml, hown, hts, hE⟩ := id C
  obtain ⟨hk1, ci, fl, T, N, hk2, hk3⟩ := hk
  subst hst
  have hcode := hB.2.1
  have hgood : GoodIn x_wd (wsV own index y.cls y (Cond.code y bytes maxL ret :: x_wd)) := x_goodIn (fun w hw => by
    rcases List.mem_append.mp hw with h | h
    · simp only [List.mem_cons, List.not_mem_nil, or_false] at h
      rcases h with rfl | rfl | rfl | rfl
      · exact hV.1
      · exact hV.2.1
      · exact hV.2.2
      · exact hB.1
    · exact x_ws1 hcode w h)
  have he := x_ws_at Y σ hk1
  rw [x_ce_o Y hk2] at he
  have hpre : PreV s H y.cls (x_ad Y j) (x_I Y (.ref j :: as) σ) (as.map (x_v Y)) := by
    refine ⟨x_I_blind Y _ σ, va_recv hE.1 hP.1 hk3 he, fun U hU hW => ⟨?_, by rw [hU]; exact hP, by rw [hU]; exact hE.go hW hS.1 hS.2.1⟩⟩
    rw [List.map_cons, x_v_r Y hk1]
  have e9 : (as.reverse ++ Value.ref j :: st).map (x_v Y) = (as.map (x_v Y)).reverse ++ Value.ref (x_ad Y j) :: st.map (x_v Y) := by
    rw [List.map_append, List.map_cons, x_v_r Y hk1, List.map_reverse]
  exact x_afterX (st := st) hl hS hX hlk (vx_runV (As := as.map (x_v Y)) (rest := st.map (x_v Y)) ⟨hx, hb, hml, hown, hts⟩ hM (cwV n hts hgood rfl rfl rfl ⟨rfl, hB.2.2⟩ hR) hpre rfl (by rw [List.length_map]; exact hn) hl.1 e9 (x_roomW hroom) hd hcs) kx hc hs kk
theorem x_callSX (C : x_C p s m args c cc nL own Y) (hX : ∀ x ∈ c.exceptionTable.toList, False) (hlk : meth.locks = false) {y : MethodName} {bytes : ByteArray} {maxL n d k1 index : Nat} {ret : Option FieldType} {as st0 : List Value} {post2 : Option Value → x_S → Prop} {px2 : String → x_S → Prop} (hM : x_MX l y bytes maxL ret d k1 Y as σ post2 px2) (hB : x_KB y bytes maxL ret n) (hV : x_KS own index y)
    (hd : decode cc pc = .ok (.invokestatic index, 3)) (hn : as.length = n) (hst : st0 = as.reverse ++ st) (hroom : (st.map fun v => v.category).sum ≤ 8) (hR : d + 1 ≤ R.frames ∧ 8 + (maxL + 11) + 40 * d ≤ R.locals) (hcs : cells + k1 ≤ R.cells ∧ slots + 6 * k1 ≤ R.slots) (kx : ∀ E τ, px2 E τ → px E τ) (hc : cells + k1 ≤ k) (hs : slots + 6 * k1 ≤ 6 * k)
    (kk : ∀ (r : Option Value) (τ : x_S), post2 r τ → x_W p l e R s m args below meth c nL Y (cells + k1) (slots + 6 * k1) (vx_MQ below (x_Q Y post) (x_XC Y px) args s k (6 * k) (x_A Y)) (pc + 3) L (r.toList ++ st) τ) : x_W p l e R s m args below meth c nL Y cells slots (vx_MQ below (x_Q Y post) (x_XC Y px) args s k (6 * k) (x_A Y)) pc L st0 σ := by
  intro H locs ls hP hS hl
  obtain ⟨hx, hb, hml, hown, hts, hE⟩ := id C
  subst hst
  have hcode := hB.2.1
  have hgood : GoodIn x_wd (va_wsS own index y (Cond.code y bytes maxL ret :: x_wd)) := x_goodIn (fun w hw => by
    rcases List.mem_append.mp hw with h | h
    · simp only [List.mem_cons, List.not_mem_nil, or_false] at h
      rcases h with rfl | rfl | rfl
      · exact hV.1
      · exact hV.2
      · exact hB.1
    · exact x_ws1 hcode w h)
  have hpre : PreS s H (x_I Y as σ) (as.map (x_v Y)) :=
    ⟨x_I_blind Y _ σ, fun U hU hW => ⟨rfl, by rw [hU]; exact hP, by rw [hU]; exact hE.go hW hS.1 hS.2.1⟩⟩
  have e9 : (as.reverse ++ st).map (x_v Y) = (as.map (x_v Y)).reverse ++ st.map (x_v Y) := by
    rw [List.map_append, List.map_reverse]
  exact x_afterX (st := st) hl hS hX hlk (vx_runS (As := as.map (x_v Y)) (rest := st.map (x_v Y)) ⟨hx, hb, hml, hown, hts⟩ hM (va_cwS n hts hgood rfl rfl rfl hB.2.2 hR) hpre rfl (by rw [List.length_map]; exact hn) hl.1 e9 (x_roomW hroom) hd hcs) kx hc hs kk
end XX
theorem x_kw {w : Cond} (h : w ∈ tables_1) (hg : goodWord w = true) : w ∈ x_wd := x_wd_in (List.mem_append_right _ h) hg
theorem x_kat {L : List Cond} (h : ∀ w ∈ L, w ∈ tables_1) (hg : ∀ w ∈ L, goodWord w = true ∨ x_isO w = true) : ∀ w ∈ L, w ∈ x_wd ∨ w ∈ x_ow := fun w hw => (hg w hw).elim (fun z => Or.inl (x_kw (h w hw) z)) (fun z => Or.inr (x_ow_in (List.mem_append_right _ (h w hw)) z))
def x_eISE : String := "java/lang/IllegalStateException"
theorem x_kt_ISE {is : Nat} {text : String} (h : (is, text) ∈ x_strs) : x_KT 73 is 77 "java/lang/IllegalStateException" text ["java/lang/RuntimeException", "java/lang/Exception"] := ⟨⟨by decide +kernel, by decide +kernel, by decide⟩, ⟨x_kw (by decide +kernel) (by decide +kernel), x_kw (by decide +kernel) (by decide +kernel), h⟩, x_kat (by decide +kernel) (by decide +kernel), by decide +kernel⟩
def x_eIAE : String := "java/lang/IllegalArgumentException"
theorem x_kt_IAE {is : Nat} {text : String} (h : (is, text) ∈ x_strs) : x_KT 84 is 88 "java/lang/IllegalArgumentException" text ["java/lang/RuntimeException", "java/lang/Exception"] := ⟨⟨by decide +kernel, by decide +kernel, by decide⟩, ⟨x_kw (by decide +kernel) (by decide +kernel), x_kw (by decide +kernel) (by decide +kernel), h⟩, x_kat (by decide +kernel) (by decide +kernel), by decide +kernel⟩
def x_eIOB : String := "java/lang/IndexOutOfBoundsException"
theorem x_kt_IOB {is : Nat} {text : String} (h : (is, text) ∈ x_strs) : x_KT 113 is 117 "java/lang/IndexOutOfBoundsException" text ["java/lang/RuntimeException", "java/lang/Exception"] := ⟨⟨by decide +kernel, by decide +kernel, by decide⟩, ⟨x_kw (by decide +kernel) (by decide +kernel), x_kw (by decide +kernel) (by decide +kernel), h⟩, x_kat (by decide +kernel) (by decide +kernel), by decide +kernel⟩
