/-! ===== the making of the world: cells in the order in which they come ===== -/
def b_A (B : Nat) : Nat → Prop := fun q => B ≤ q
def b_tys (cy : Nat → ClassId) : List (ClassId × FieldType) := [(cy 0, .int), (cy 1, .byte), (cy 2, .boolean), (cy 3, .long)]
def b_E (D : va_G) (cy : Nat → ClassId) (B : Nat) (U : State) : Prop := va_K D vwCl (b_tys cy) U ∧ (∀ w ∈ x_ow, va_Nw w U) ∧ B ≤ U.heap.size
theorem b_E.go {D : va_G} {cy : Nat → ClassId} {B : Nat} {s U : State} (h : b_E D cy B s) (hW : s.WarmedH U.vm) (hz : B ≤ U.heap.size) : b_E D cy B U := ⟨va_K.moved hW.alike h.1, x_ow_warm hW h.2.1, hz⟩
def b_C (p : Program) (s : State) (m : MethodId) (args : Array Value) (c : Code) (cc : ByteArray) (nL : Nat) (own : String) (D : va_G) (cy : Nat → ClassId) (B : Nat) : Prop :=
  p.tables.exec = Jvm.exec ∧ c.code = cc ∧ c.maxLocals = nL ∧ s.vm.findClass own = some m.cls ∧ (∀ w ∈ x_wd, w.before args s = true) ∧ b_E D cy B s
def b_W (p : Program) (l : Launch) (e : Env) (R : Room) (s : State) (m : MethodId) (args : Array Value) (below : List Frame) (meth : Method) (c : Code) (nL : Nat) (D : va_G) (B : Nat) (cells slots : Nat) (Q : State → Prop) (pc : Nat) (L : List (Nat × Value)) (st : List Value) (ws : va_W) : Prop :=
  ∀ (H : Heap) (locs : List Loc) (ls : Array Slot), va_P D vwCl ws H → va_D (b_A B) ws → va_S (b_A B) s.heap H locs → lv_has ls nL L → W p l e R s m args below meth c H locs cells slots Q (F0 m pc ls st)
def b_I (D : va_G) (cy : Nat → ClassId) (B : Nat) (as : List Value) (ws : va_W) : Array Value → State → Prop := va_Pc as (fun U => va_P D vwCl ws U.heap ∧ va_D (b_A B) ws ∧ b_E D cy B U)
def b_Q (D : va_G) (B : Nat) (post : va_W → Prop) : Array Value → State → Outcome → State → Prop := fun _ st oc t => (oc = .returned none ∧ ∃ ws', post ws' ∧ va_P D vwCl ws' t.heap ∧ va_D (b_A B) ws') ∧ va_F (b_A B) st t
def b_rm (d k n : Nat) : Room := { frames := d, cells := k, slots := n, locals := 40 * d }
/-- THE CONTRACT of a constructor: from the world ws to one that 'post' names; at most k cells of n places come -/
def b_M (l : Launch) (y : MethodName) (bytes : ByteArray) (maxL d k n : Nat) (D : va_G) (cy : Nat → ClassId) (B : Nat) (as : List Value) (ws : va_W) (post : va_W → Prop) : Prop :=
  Met l y (Cond.code y bytes maxL none :: x_wd) (b_rm d k n) (b_I D cy B as ws) (b_Q D B post) k n (b_A B)
theorem b_I_blind {D : va_G} {cy : Nat → ClassId} {B : Nat} (as : List Value) (ws : va_W) : FrameBlind (b_I D cy B as ws) := by
  intro a U g mk h
  obtain ⟨h1, h2, h3, h4, h5, h6⟩ := h
  exact ⟨h1, h2, h3, va_K.moved (u := U) (U := U.calling g mk a) (Vm.Alike.refl U.vm) h4, x_ow_same (s := U) (U := U.calling g mk a) rfl h5, h6⟩
/-- an array, all of it nought -/
def b_ar (cy : Nat → ClassId) (i N : Nat) : va_E := .inl (cy i, N, if i = 3 then .inr (.inl (fun _ => 0)) else .inl (fun _ => 0))
theorem b_at {w0 t : va_W} {k : Nat} {q : Nat × va_E} (h : t[k]? = some q) : (w0 ++ t)[w0.length + k]? = some q := by
  rw [List.getElem?_append_right (Nat.le_add_right _ _), Nat.add_sub_cancel_left]
  exact h
theorem b_set {w0 t : va_W} {k : Nat} {q : Nat × va_E} : (w0 ++ t).set (w0.length + k) q = w0 ++ t.set k q := by
  rw [List.set_append_right _ _ (Nat.le_add_right _ _), Nat.add_sub_cancel_left]
section BM
variable {p : Program} {l : Launch} {e : Env} {R : Room} {s : State} {m : MethodId} {args : Array Value} {below : List Frame} {meth : Method} {c : Code} {cells slots : Nat} {Q : State → Prop} {cc : ByteArray} {nL : Nat} {own : String} {D : va_G} {cy : Nat → ClassId} {B : Nat} {pc : Nat} {L : List (Nat × Value)} {st : List Value} {ws w0 t : va_W} {post : va_W → Prop}
theorem b_start {y : MethodName} {maxL d k n : Nat} {as : List Value} (hy : plainName y.cls = true) (hlen : (lg_sl as).length ≤ maxL)
    (h : ∀ (p : Program) (e : Env) (s : State) (m : MethodId) (args : Array Value) (below : List Frame) (meth : Method) (c : Code), b_C p s m args c cc maxL y.cls D cy B → meth.sig.returnType = none → meth.locks = false → meth.name = y.name →
      b_W p l e (b_rm d k n) s m args below meth c maxL D B 0 0 (MQ below (b_Q D B post) args s k n (b_A B)) 0 (lv_args 0 as) [] ws) : b_M l y cc maxL d k n D cy B as ws post := by
  refine Met.ofW (cc := cc) (maxL := maxL) (ret := none) hy rfl ?_
  intro p e s m args below meth c s₁ B1 hml hv
  obtain ⟨rfl, hP, hD, hE⟩ := hv
  have hts := atoms_spec (ws := Cond.code y cc maxL none :: x_wd) B1.pre
  have hl := lv_entry as (n := maxL) hlen
  rw [lg_entry_eq]
  exact h p e s m _ below meth c ⟨B1.exec, B1.bytes, hml, findClass_of_methodNamed B1.named, fun w hw => hts w (List.mem_cons_of_mem _ hw), hE⟩ B1.returns B1.notSynchronized (name_of_methodNamed B1.named B1.method).1 s.heap [] _ hP hD va_S.rf hl
theorem b_aload (C : b_C p s m args c cc nL own D cy B) {k : Fin 4} {i x : Nat} (hd : decode cc pc = .ok (.aload_n k, 1)) (hi : (k : Nat) = i) (hL : (i, Value.ref x) ∈ L) (kk : b_W p l e R s m args below meth c nL D B cells slots Q (pc + 1) L (.ref x :: st) ws) : b_W p l e R s m args below meth c nL D B cells slots Q pc L st ws :=
  fun H locs ls hP hD hS hl => lv_aload_n C.1 C.2.1 hd hi (hl.2.2 _ hL) (kk H locs ls hP hD hS hl)
theorem b_iconst (C : b_C p s m args c cc nL own D cy B) {n : Int} (v : Int32) (hd : decode cc pc = .ok (.iconst n, 1)) (hv : Int32.ofInt n = v) (kk : b_W p l e R s m args below meth c nL D B cells slots Q (pc + 1) L (.int v :: st) ws) : b_W p l e R s m args below meth c nL D B cells slots Q pc L st ws :=
  fun H locs ls hP hD hS hl => lv_iconst C.1 C.2.1 hd hv (kk H locs ls hP hD hS hl)
theorem b_bipush (C : b_C p s m args c cc nL own D cy B) {n : Int} (v : Int32) (hd : decode cc pc = .ok (.bipush n, 2)) (hv : (Int8.ofInt n).toInt32 = v) (kk : b_W p l e R s m args below meth c nL D B cells slots Q (pc + 2) L (.int v :: st) ws) : b_W p l e R s m args below meth c nL D B cells slots Q pc L st ws :=
  fun H locs ls hP hD hS hl => lv_bipush C.1 C.2.1 hd hv (kk H locs ls hP hD hS hl)
theorem b_sipush (C : b_C p s m args c cc nL own D cy B) {n : Int} (v : Int32) (hd : decode cc pc = .ok (.sipush n, 3)) (hv : (Int16.ofInt n).toInt32 = v) (kk : b_W p l e R s m args below meth c nL D B cells slots Q (pc + 3) L (.int v :: st) ws) : b_W p l e R s m args below meth c nL D B cells slots Q pc L st ws :=
  fun H locs ls hP hD hS hl => lv_sipush C.1 C.2.1 hd hv (kk H locs ls hP hD hS hl)
theorem b_dup (C : b_C p s m args c cc nL own D cy B) {x : Nat} (hd : decode cc pc = .ok (.dup, 1)) (kk : b_W p l e R s m args below meth c nL D B cells slots Q (pc + 1) L (.ref x :: .ref x :: st) ws) : b_W p l e R s m args below meth c nL D B cells slots Q pc L (.ref x :: st) ws :=
  fun H locs ls hP hD hS hl => lv_dup C.1 C.2.1 hd rfl (kk H locs ls hP hD hS hl)
theorem b_ty_dv {i N : Nat} (hi : i < 4) (cA : ClassId) : vp_cell cA (N, if i = 3 then .inr (.inl (fun _ => 0)) else .inl (fun _ => 0)) = arrV cA N (fun _ => defaultValue (x_ty i)) := by
  rcases (show i = 0 ∨ i = 1 ∨ i = 2 ∨ i = 3 by omega) with rfl | rfl | rfl | rfl <;> rfl
theorem b_cy_of {s : State} (hK : va_K D vwCl (b_tys cy) s) {i : Nat} (hi : i < 4) {cA : ClassId} (h : s.vm.findClass ("[" ++ (x_ty i).toString) = some cA) : cA = cy i := by
  have h9 := hK.2
  rcases (show i = 0 ∨ i = 1 ∨ i = 2 ∨ i = 3 by omega) with rfl | rfl | rfl | rfl
  · exact Option.some.inj (h.symm.trans (h9 0 (cy 0, .int) rfl).2)
  · exact Option.some.inj (h.symm.trans (h9 1 (cy 1, .byte) rfl).2)
  · exact Option.some.inj (h.symm.trans (h9 2 (cy 2, .boolean) rfl).2)
  · exact Option.some.inj (h.symm.trans (h9 3 (cy 3, .long) rfl).2)
theorem b_newa (C : b_C p s m args c cc nL own D cy B) {atype : ArrayType} {i N : Nat} (hi : i < 4) (hty : newarray.typeOf atype = x_ty i) (harr : Cond.arrayClass (newarray.typeOf atype) ∈ x_wd) (hN : N ≤ 10000) (hc : cells + 1 ≤ R.cells) (hs : slots + N ≤ R.slots) (hd : decode cc pc = .ok (.newarray atype, 2))
    (kk : ∀ q, b_W p l e R s m args below meth c nL D B (cells + 1) (slots + N) Q (pc + 2) L (.ref q :: st) (ws ++ [(q, b_ar cy i N)])) : b_W p l e R s m args below meth c nL D B cells slots Q pc L (.int (nI N) :: st) ws := by
  intro H locs ls hP hD hS hl
  obtain ⟨hx, hb, hml, hown, hts, hE⟩ := id C
  have hbt : N * componentBytes (newarray.typeOf atype) ≤ 536870912 := by
    rw [hty]
    have h8 : componentBytes (x_ty i) ≤ 8 := by
      rcases (show i = 0 ∨ i = 1 ∨ i = 2 ∨ i = 3 by omega) with rfl | rfl | rfl | rfl <;> decide
    have := Nat.mul_le_mul hN h8
    omega
  refine va_newaK (g := F0 m pc ls (.int (nI N) :: st)) hx hb (hts _ harr) rfl hd rfl (y_nneg (by omega)) (z_cl (by omega)) hbt hc hs rfl fun H1 cA e1 z1 o1 hAr hNm => ?_
  rw [hty] at e1 hNm
  have hcA : cA = cy i := b_cy_of hE.1 hi hNm
  subst hcA
  have hk : ∀ (k : Nat) (x : Nat × va_E), ws[k]? = some x → H1[x.1]? = H[x.1]? := fun k x hx => o1 x.1 ((hP k x hx).lt)
  have hA : ∀ q, s.heap.size ≤ q → b_A B q := fun q h => Nat.le_trans hE.2.2 h
  refine kk H.size H1 locs ls ((hP.kept hk).app (fun k x hx => ?_)) (hD.push hP rfl (hA _ hS.1)) ⟨Nat.le_trans hS.1 (by omega), fun x h1 h2 => (o1 x (Nat.lt_of_lt_of_le h1 hS.1)).trans (hS.2.1 x h1 h2), hS.2.2⟩ hl
  have hz : k < 1 := (List.getElem?_eq_some_iff.mp hx).1
  rw [show k = 0 by omega] at hx
  cases hx
  show H1[H.size]? = some (vp_cell (cy i) (N, if i = 3 then .inr (.inl (fun _ => 0)) else .inl (fun _ => 0)))
  rw [e1, b_ty_dv hi]
theorem b_new (C : b_C p s m args c cc nL own D cy B) {index ci N : Nat} {Cn : String} {T : u_T} {ty : Nat → FieldType} (hK : x_cls ci Cn T N ty) (hcl : Cond.classLink own index Cn ∈ x_wd) (hin : Cond.instantiable Cn N ∈ x_wd) (hini : Cond.initialized Cn ∈ x_wd) {fs : List Value} (hfs : ∀ j, j < N → defaultValue (ty j) = vp_V fs j) (hc : cells + 1 ≤ R.cells) (hs : slots + N ≤ R.slots) (hd : decode cc pc = .ok (.new index, 3))
    (kk : ∀ q, b_W p l e R s m args below meth c nL D B (cells + 1) (slots + N) Q (pc + 3) L (.ref q :: st) (ws ++ [(q, .inr (ci, fs))])) : b_W p l e R s m args below meth c nL D B cells slots Q pc L st ws := by
  intro H locs ls hP hD hS hl
  obtain ⟨hx, hb, hml, hown, hts, hE⟩ := id C
  exact va_new (fs := fs) hx hb hts hK.2.1 ty hK.2.2.1 hown (hts _ hcl) (hts _ hin) (hts _ hini) hE.1 hP hD hS (fun q h => Nat.le_trans hE.2.2 h) hK.1 hfs hc hs hd (fun q H1 hP1 hD1 hS1 => kk q H1 locs ls hP1 hD1 hS1 hl)
theorem b_putF (C : b_C p s m args c cc nL own D cy B) (hm : meth.name = "<init>") {index ci N : Nat} {T : u_T} {ty : Nat → FieldType} (hK : x_cls ci own T N ty) (k0 : Nat) {a : Nat} {fs : List Value} (he : t[k0]? = some (a, .inr (ci, fs))) (k : Nat) (hk : k < N) (hlink : Cond.fieldLink own index (T k).1 (T k).2.1 (T k).2.2.1 ∈ x_wd) (hfin : (T k).2.2.2 = true) (hdecl : (T k).1 = own) {q : Nat} (hn : narrow (ty k) (.ref q) = .ref q) (hf : fits (ty k) (.ref q) = true) (hl9 : k < fs.length)
    (hd : decode cc pc = .ok (.putfield index, 3)) (kk : b_W p l e R s m args below meth c nL D B cells slots Q (pc + 3) L st (w0 ++ t.set k0 (a, .inr (ci, fs.set k (.ref q))))) : b_W p l e R s m args below meth c nL D B cells slots Q pc L (.ref q :: .ref a :: st) (w0 ++ t) := by
  intro H locs ls hP hD hS hl
  obtain ⟨hx, hb, hml, hown, hts, hE⟩ := id C
  refine va_putF (v := .ref q) (ty := ty k) hx hb hts hK.2.1 ty hK.2.2.1 hK.2.2.2 hown hE.1 hP hD hS (w0.length + k0) (b_at he) hK.1 k hk (hts _ hlink) (fun _ h => h) hfin hm hdecl (hK.2.2.1 k hk) hn hf hl9 hd (fun H1 locs1 hP1 hD1 hS1 => ?_)
  rw [b_set] at hP1 hD1
  exact kk H1 locs1 ls hP1 hD1 hS1 hl
theorem b_get (C : b_C p s m args c cc nL own D cy B) {index ci N : Nat} {T : u_T} {ty : Nat → FieldType} (hK : x_cls ci own T N ty) (k0 : Nat) {a : Nat} {fs : List Value} (he : t[k0]? = some (a, .inr (ci, fs))) (k : Nat) (hk : k < N) (hlink : Cond.fieldLink own index (T k).1 (T k).2.1 (T k).2.2.1 ∈ x_wd) {v : Value} (hv : fs[k]? = some v)
    (hd : decode cc pc = .ok (.getfield index, 3)) (kk : b_W p l e R s m args below meth c nL D B cells slots Q (pc + 3) L (v :: st) (w0 ++ t)) : b_W p l e R s m args below meth c nL D B cells slots Q pc L (.ref a :: st) (w0 ++ t) := by
  intro H locs ls hP hD hS hl
  obtain ⟨hx, hb, hml, hown, hts, hE⟩ := id C
  exact va_get hx hb hts hK.2.1 hown hE.1 hP (w0.length + k0) (b_at he) hK.1 k hk (hts _ hlink) (fun _ h => h) hv hd (kk H locs ls hP hD hS hl)
theorem b_obj (C : b_C p s m args c cc nL own D cy B) {a index : Nat} (h1 : Cond.methodLink own index objectInit ∈ x_wd) (h2 : Cond.instanceMethod objectInit ∈ x_wd) (h3 : Cond.code objectInit ⟨#[0xb1]⟩ 1 none ∈ x_wd) (hd : decode cc pc = .ok (.invokespecial index, 3)) (hR : 1 ≤ R.frames ∧ 12 ≤ R.locals) (kk : b_W p l e R s m args below meth c nL D B cells slots Q (pc + 3) L [] ws) : b_W p l e R s m args below meth c nL D B cells slots Q pc L [.ref a] ws := by
  intro H locs ls hP hD hS hl
  obtain ⟨hx, hb, hml, hown, hts, hE⟩ := id C
  refine W.objInit hx hb hown (hts _ h1) (hts _ h2) (hts _ h3) rfl (by rw [hml]; exact hl.1) rfl hd hR.1 hR.2 ?_
  exact W.eq (g2 := F0 m (pc + 3) ls []) rfl (kk H locs ls hP hD hS hl)
theorem b_ret (C : b_C p s m args c cc nL own D cy B) (hr : meth.sig.returnType = none) (hlk : meth.locks = false) (hd : decode cc pc = .ok (.return_, 1)) (hp : post ws) : b_W p l e R s m args below meth c nL D B cells slots (MQ below (b_Q D B post) args s cells slots (b_A B)) pc L [] ws :=
  fun H locs ls hP hD hS hl => W.vret C.1 C.2.1 hr (fun t ht hW => ⟨⟨rfl, ws, hp, by rw [ht]; exact hP, hD⟩, hS.F ht⟩) hS.2.2 hd hlk
theorem b_after {ls : Array Slot} {st0 : List Value} {H : Heap} {locs : List Loc} {a : Array Value} {k n : Nat} (hl : lv_has ls nL L) (hS : va_S (b_A B) s.heap H locs)
    (hr : va_Run p l e R s m args below meth c H locs cells slots k n (F0 m pc ls st0) st (b_Q D B post a) (b_A B))
    (kk : ∀ ws', post ws' → b_W p l e R s m args below meth c nL D B (cells + k) (slots + n) Q (pc + 3) L st ws') : W p l e R s m args below meth c H locs cells slots Q (F0 m pc ls st0) := by
  intro T hT X
  obtain ⟨v, st₀, t, T', L1, h0, X', hL, e1, e2, ⟨⟨hv, ws', hp, hb, hd⟩, hz, hk⟩, st9⟩ := hr T hT X
  cases hv
  rw [h0] at hz hk
  have hS' : va_S (b_A B) s.heap T'.heap (locs ++ L1) := by
    refine ⟨Nat.le_trans hS.1 (by rw [e1]; exact hz), fun q h1 h2 => ?_, fun q hq => ?_⟩
    · rw [e1, hk q (Nat.lt_of_lt_of_le h1 hS.1) h2]
      exact hS.2.1 q h1 h2
    · rcases List.mem_append.mp hq with h | h
      · exact hS.2.2 q h
      · exact hL q h
  obtain ⟨t2, a1, b1⟩ := kk ws' hp T'.heap (locs ++ L1) ls (by rw [e1]; exact hb) hd hS' hl T' rfl X'
  exact ⟨t2, st9 t2 a1, b1⟩
/-- the words of a constructor's call -/
def b_KB (own : String) (index : Nat) (y : MethodName) (bytes : ByteArray) (maxL n : Nat) : Prop := x_KB y bytes maxL none n ∧ Cond.instanceMethod y ∈ x_wd ∧ y.name = "<init>" ∧ (Cond.methodLink own index y ∈ x_wd ∨ ∃ host, Cond.methodLinkNest own index y host ∈ x_ow)
theorem b_call (C : b_C p s m args c cc nL own D cy B) {y : MethodName} {bytes : ByteArray} {maxL np d k n h index : Nat} {as st0 : List Value} (hM : b_M l y bytes maxL d k n D cy B (.ref h :: as) ws post) (hB : b_KB own index y bytes maxL np) (hd : decode cc pc = .ok (.invokespecial index, 3)) (hn : as.length = np) (hst : st0 = as.reverse ++ .ref h :: st) (hroom : (st.map fun v => v.category).sum ≤ 8) (hR : d + 1 ≤ R.frames ∧ 8 + (maxL + 11) + 40 * d ≤ R.locals) (hcs : cells + k ≤ R.cells ∧ slots + n ≤ R.slots)
    (kk : ∀ ws', post ws' → b_W p l e R s m args below meth c nL D B (cells + k) (slots + n) Q (pc + 3) L st ws') : b_W p l e R s m args below meth c nL D B cells slots Q pc L st0 ws := by
  intro H locs ls hP hD hS hl
  obtain ⟨hx, hb, hml, hown, hts, hE⟩ := id C
  obtain ⟨hB1, hB2, hB3, hB4⟩ := hB
  subst hst
  have hgood : GoodIn x_wd (Cond.code y bytes maxL none :: x_wd) := x_goodIn (x_ws1 hB1.2.1)
  have hpre : PreS s H (b_I D cy B (.ref h :: as) ws) (.ref h :: as) :=
    ⟨b_I_blind _ ws, fun U hU hW => ⟨rfl, by rw [hU]; exact hP, hD, hE.go hW (by rw [hU]; exact Nat.le_trans hE.2.2 hS.1)⟩⟩
  rcases hB4 with h4 | ⟨host, h4⟩
  · exact b_after hl hS (va_runI (As := as) (rest := st) ⟨hx, hb, hml, hown, hts⟩ hM (cwI np hts hgood rfl rfl rfl (hts _ hB1.1) (hts _ h4) (hts _ hB2) hB3 hB1.2.2 hR) hpre rfl hn hl.1 rfl (lv_room hroom) hd hcs) kk
  · exact b_after hl hS (va_runIN (As := as) (rest := st) ⟨hx, hb, hml, hown, hts⟩ hM ⟨va_cnB np hts hgood rfl rfl rfl (hE.2.1 _ h4) (hts _ hB1.1) hB1.2.2 hR, hB3, hts _ hB2⟩ hpre rfl hn hl.1 rfl (lv_room hroom) hd hcs) kk
end BM
