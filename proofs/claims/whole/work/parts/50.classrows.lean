/-! ===== System.arraycopy between int rows ===== -/
def x_KA (own : String) (index : Nat) : Prop := Cond.methodLink own index arraycopyName ∈ x_wd ∧ Cond.native arraycopyName ∈ x_wd ∧ Cond.static arraycopyName ∈ x_wd ∧ Cond.initialized "java/lang/System" ∈ x_wd
section XAC
variable {p : Program} {l : Launch} {e : Env} {R : Room} {s : State} {m : MethodId} {args : Array Value} {below : List Frame} {meth : Method} {c : Code} {cells slots : Nat} {Q : State → Prop} {cc : ByteArray} {nL : Nat} {own : String} {Y : x_Y} {pc : Nat} {L : x_Lo} {st : List Value} {σ : x_S}
theorem x_acopy (C : x_C p s m args c cc nL own Y) {k0 k1 n0 n1 sp dp n index : Nat} (hw : x_KA own index) (hk0 : k0 < 64) (hs0 : x_sh k0 = .inr (0, n0)) (hk1 : k1 < 64) (hs1 : x_sh k1 = .inr (0, n1)) (hb : n0 < 2 ^ 31 ∧ n1 < 2 ^ 31) (hd : decode cc pc = .ok (.invokestatic index, 3)) (h4 : sp + n ≤ n0) (h5 : dp + n ≤ n1)
    (hR : 1 ≤ R.frames ∧ (st.map fun v => v.category).sum + 18 ≤ R.locals)
    (kk : x_W p l e R s m args below meth c nL Y cells slots Q (pc + 3) L st (x_ui σ k1 (va_cpy (σ.1 k0) (σ.1 k1) sp dp n))) : x_W p l e R s m args below meth c nL Y cells slots Q pc L (.int (nI n) :: .int (nI dp) :: .ref k1 :: .int (nI sp) :: .ref k0 :: st) σ := by
  intro H locs ls hP hS hl
  rw [List.map_cons, List.map_cons, List.map_cons, List.map_cons, List.map_cons, x_v_r Y hk0, x_v_r Y hk1]
  have he0 := x_ws_at Y σ hk0
  rw [x_ce_i Y hs0 (by decide)] at he0
  have he1 := x_ws_at Y σ hk1
  rw [x_ce_i Y hs1 (by decide)] at he1
  have hc : ∀ j, j < 2 ^ 31 → (nI j).toNatClampNeg = j := fun j hj => by
    show (nI j).toInt.toNat = j
    rw [nI_toInt hj]
    exact Int.toNat_natCast j
  have hset : (x_ws Y σ).set k1 (x_ad Y k1, .inl (x_cy Y 0, n1, .inl (va_cpy (σ.1 k0) (σ.1 k1) sp dp n))) = x_ws Y (x_ui σ k1 (va_cpy (σ.1 k0) (σ.1 k1) sp dp n)) := by
    refine x_ws_set Y σ _ hk1 ?_ (fun q hq => ⟨va_up_ne _ _ hq, rfl⟩)
    rw [x_ce_i Y hs1 (by decide)]
    show Sum.inl (x_cy Y 0, n1, Sum.inl (va_up σ.1 k1 _ k1)) = _
    rw [va_up_self]
  refine va_copyi C.1 C.2.1 (by rw [C.2.2.1, hl.1]) C.2.2.2.1 (C.2.2.2.2.1 _ hw.1) (C.2.2.2.2.1 _ hw.2.1) (C.2.2.2.2.1 _ hw.2.2.1) (C.2.2.2.2.1 _ hw.2.2.2) C.2.2.2.2.2.1 hP.1 hP.2 hS k0 k1 0 0 (ty := .int) he0 he1 rfl rfl rfl (y_nneg (by omega)) (y_nneg (by omega)) (y_nneg (by omega)) (by rw [hc _ (by omega), hc _ (by omega)]; exact h4) (by rw [hc _ (by omega), hc _ (by omega)]; exact h5) (fun i _ => rfl) hR.1 ?_ hd (fun H1 locs1 g1 g2 g3 => kk H1 locs1 ls ⟨?_, ?_⟩ g3 hl)
  · rw [x_v_cats]
    exact hR.2
  · rw [hc _ (by omega), hc _ (by omega), hc _ (by omega), hset] at g1
    exact g1
  · rw [hc _ (by omega), hc _ (by omega), hc _ (by omega), hset] at g2
    exact g2
end XAC
/-! a method of the JDK: its class has a name with strokes, and there is no native row of it -/
theorem x_ofWF {l : Launch} {y : MethodName} {ws ws' : List Cond} {rm : Room} {Pc : Array Value → State → Prop} {Qc : Array Value → State → Outcome → State → Prop} {mc ms : Nat} {free : Addr → Prop} {cc : ByteArray} {maxL : Nat} {ret : Option FieldType}
    (hy : plainFor y = true) (hw : ws = Cond.code y cc maxL ret :: ws')
    (body : ∀ p e s m args below meth c s₁, BodyLoose p l y (headSpec ws rm) cc maxL ret e s m args below meth c s₁ → c.maxLocals = maxL → Pc args s →
      W p l e (headSpec ws rm).room s m args below meth c s.heap [] 0 0 (MQ below Qc args s mc ms free) (entryFrame m args maxL)) : Met l y ws rm Pc Qc mc ms free := by
  refine MetFree.of_bodySF (code := cc) (maxLocals := maxL) (ret := ret) hy ?_ ?_
  · intro args s m h hn
    obtain ⟨meth, c, h1, h2, h3, h4, h5, h6, -, -⟩ := Cond.code_spec hn (atoms_spec (ws := ws) h _ (by rw [hw]; exact List.mem_cons_self))
    exact ⟨meth, c, h1, h2, h3, h4, h5, h6⟩
  · intro p e s m args below meth c s₁ B hml hP _
    have hh0 : s₁.heap = s.heap := by rw [B.state]; rfl
    obtain ⟨t, a1, o, b1, b2, b3⟩ := body p e s m args below meth c s₁ B hml hP s₁ hh0 (Stand.of_body B)
    exact ⟨t, o, a1, b1, b2, ⟨b3.1, b3.2⟩⟩
theorem x_startF {l : Launch} {y : MethodName} {cc : ByteArray} {maxL : Nat} {ret : Option FieldType} {d : Nat} {Y : x_Y} {as : List Value} {σ : x_S} {post : Option Value → x_S → Prop} (hy : plainFor y = true) (hlen : (lg_sl (as.map (x_v Y))).length ≤ maxL)
    (h : ∀ (p : Program) (e : Env) (s : State) (m : MethodId) (args : Array Value) (below : List Frame) (meth : Method) (c : Code), x_C p s m args c cc maxL y.cls Y → meth.sig.returnType = ret → meth.locks = false →
      x_W p l e (x_rm d) s m args below meth c maxL Y 0 0 (MQ below (x_Q Y post) args s 0 0 (x_A Y)) 0 (x_of (lv_args 0 as)) [] σ) : x_M l y cc maxL ret d Y as σ post := by
  refine x_ofWF (cc := cc) (maxL := maxL) (ret := ret) hy rfl ?_
  intro p e s m args below meth c s₁ B hml hv
  obtain ⟨rfl, hP, hE⟩ := hv
  have hts := atoms_spec (ws := Cond.code y cc maxL ret :: x_wd) B.pre
  have C : x_C p s m (as.map (x_v Y)).toArray c cc maxL y.cls Y := ⟨B.exec, B.bytes, hml, findClass_of_methodNamed B.named, fun w hw => hts w (List.mem_cons_of_mem _ hw), hE⟩
  have hl := lv_entry (as.map (x_v Y)) (n := maxL) hlen
  rw [lg_entry_eq]
  exact h p e s m _ below meth c C B.returns B.notSynchronized s.heap [] _ hP va_S.rf (x_L.entry hl)
theorem ka_X2_30 : x_KA RX2 30 := ⟨(x_wd_in (x_at (i := 345) (by decide +kernel)) rfl), (x_wd_in (x_at (i := 347) (by decide +kernel)) rfl), (x_wd_in (x_at (i := 346) (by decide +kernel)) rfl), (x_wd_in (x_at (i := 18) (by decide +kernel)) rfl)⟩
theorem ka_X4_14 : x_KA RX4 14 := ⟨(x_wd_in (x_at (i := 840) (by decide +kernel)) rfl), (x_wd_in (x_at (i := 347) (by decide +kernel)) rfl), (x_wd_in (x_at (i := 346) (by decide +kernel)) rfl), (x_wd_in (x_at (i := 18) (by decide +kernel)) rfl)⟩
