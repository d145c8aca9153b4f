/-! ===== the judgement, and a row an instruction ===== -/
def x_C (p : Program) (s : State) (m : MethodId) (args : Array Value) (c : Code) (cc : ByteArray) (nL : Nat) (own : String) (Y : x_Y) : Prop :=
  p.tables.exec = Jvm.exec ∧ c.code = cc ∧ c.maxLocals = nL ∧ s.vm.findClass own = some m.cls ∧ (∀ w ∈ x_wd, w.before args s = true) ∧ x_E Y s s.heap
def x_W (p : Program) (l : Launch) (e : Env) (R : Room) (s : State) (m : MethodId) (args : Array Value) (below : List Frame) (meth : Method) (c : Code) (nL : Nat) (Y : x_Y) (cells slots : Nat) (Q : State → Prop) (pc : Nat) (L : x_Lo) (st : List Value) (σ : x_S) : Prop :=
  ∀ (H : Heap) (locs : List Loc) (ls : Array Slot), x_P Y σ H → va_S (x_A Y) s.heap H locs → x_L Y ls nL L → W p l e R s m args below meth c H locs cells slots Q (F0 m pc ls (st.map (x_v Y)))
section XW
variable {p : Program} {l : Launch} {e : Env} {R : Room} {s : State} {m : MethodId} {args : Array Value} {below : List Frame} {meth : Method} {c : Code} {cells slots : Nat} {Q : State → Prop} {cc : ByteArray} {nL : Nat} {own : String} {Y : x_Y} {pc : Nat} {L : x_Lo} {st : List Value} {σ : x_S}

theorem x_iconst (C : x_C p s m args c cc nL own Y) {n : Int} (v : Int32) (hd : decode cc pc = .ok (.iconst n, 1)) (hv : Int32.ofInt n = v) (k : x_W p l e R s m args below meth c nL Y cells slots Q (pc + 1) L (.int v :: st) σ) : x_W p l e R s m args below meth c nL Y cells slots Q pc L (st) σ :=
  fun H locs ls hP hS hl => lv_iconst C.1 C.2.1 hd hv (k H locs ls hP hS hl)
theorem x_bipush (C : x_C p s m args c cc nL own Y) {n : Int} (v : Int32) (hd : decode cc pc = .ok (.bipush n, 2)) (hv : (Int8.ofInt n).toInt32 = v) (k : x_W p l e R s m args below meth c nL Y cells slots Q (pc + 2) L (.int v :: st) σ) : x_W p l e R s m args below meth c nL Y cells slots Q pc L (st) σ :=
  fun H locs ls hP hS hl => lv_bipush C.1 C.2.1 hd hv (k H locs ls hP hS hl)
theorem x_sipush (C : x_C p s m args c cc nL own Y) {n : Int} (v : Int32) (hd : decode cc pc = .ok (.sipush n, 3)) (hv : (Int16.ofInt n).toInt32 = v) (k : x_W p l e R s m args below meth c nL Y cells slots Q (pc + 3) L (.int v :: st) σ) : x_W p l e R s m args below meth c nL Y cells slots Q pc L (st) σ :=
  fun H locs ls hP hS hl => lv_sipush C.1 C.2.1 hd hv (k H locs ls hP hS hl)
theorem x_lconst (C : x_C p s m args c cc nL own Y) {n : Fin 2} (v : Int64) (hd : decode cc pc = .ok (.lconst n, 1)) (hv : Int64.ofNat (n : Nat) = v) (k : x_W p l e R s m args below meth c nL Y cells slots Q (pc + 1) L (.long v :: st) σ) : x_W p l e R s m args below meth c nL Y cells slots Q pc L (st) σ :=
  fun H locs ls hP hS hl => lv_lconst C.1 C.2.1 hd hv (k H locs ls hP hS hl)
theorem x_iadd (C : x_C p s m args c cc nL own Y) {x y : Int32} (hd : decode cc pc = .ok (.iadd, 1)) (k : x_W p l e R s m args below meth c nL Y cells slots Q (pc + 1) L (.int (x + y) :: st) σ) : x_W p l e R s m args below meth c nL Y cells slots Q pc L (.int y :: .int x :: st) σ :=
  fun H locs ls hP hS hl => lv_iadd C.1 C.2.1 hd (k H locs ls hP hS hl)
theorem x_isub (C : x_C p s m args c cc nL own Y) {x y : Int32} (hd : decode cc pc = .ok (.isub, 1)) (k : x_W p l e R s m args below meth c nL Y cells slots Q (pc + 1) L (.int (x - y) :: st) σ) : x_W p l e R s m args below meth c nL Y cells slots Q pc L (.int y :: .int x :: st) σ :=
  fun H locs ls hP hS hl => lv_isub C.1 C.2.1 hd (k H locs ls hP hS hl)
theorem x_imul (C : x_C p s m args c cc nL own Y) {x y : Int32} (hd : decode cc pc = .ok (.imul, 1)) (k : x_W p l e R s m args below meth c nL Y cells slots Q (pc + 1) L (.int (x * y) :: st) σ) : x_W p l e R s m args below meth c nL Y cells slots Q pc L (.int y :: .int x :: st) σ :=
  fun H locs ls hP hS hl => lv_imul C.1 C.2.1 hd (k H locs ls hP hS hl)
theorem x_iand (C : x_C p s m args c cc nL own Y) {x y : Int32} (hd : decode cc pc = .ok (.iand, 1)) (k : x_W p l e R s m args below meth c nL Y cells slots Q (pc + 1) L (.int (x &&& y) :: st) σ) : x_W p l e R s m args below meth c nL Y cells slots Q pc L (.int y :: .int x :: st) σ :=
  fun H locs ls hP hS hl => lv_iand C.1 C.2.1 hd (k H locs ls hP hS hl)
theorem x_ior (C : x_C p s m args c cc nL own Y) {x y : Int32} (hd : decode cc pc = .ok (.ior, 1)) (k : x_W p l e R s m args below meth c nL Y cells slots Q (pc + 1) L (.int (x ||| y) :: st) σ) : x_W p l e R s m args below meth c nL Y cells slots Q pc L (.int y :: .int x :: st) σ :=
  fun H locs ls hP hS hl => lv_ior C.1 C.2.1 hd (k H locs ls hP hS hl)
theorem x_ixor (C : x_C p s m args c cc nL own Y) {x y : Int32} (hd : decode cc pc = .ok (.ixor, 1)) (k : x_W p l e R s m args below meth c nL Y cells slots Q (pc + 1) L (.int (x ^^^ y) :: st) σ) : x_W p l e R s m args below meth c nL Y cells slots Q pc L (.int y :: .int x :: st) σ :=
  fun H locs ls hP hS hl => lv_ixor C.1 C.2.1 hd (k H locs ls hP hS hl)
theorem x_ladd (C : x_C p s m args c cc nL own Y) {x y : Int64} (hd : decode cc pc = .ok (.ladd, 1)) (k : x_W p l e R s m args below meth c nL Y cells slots Q (pc + 1) L (.long (x + y) :: st) σ) : x_W p l e R s m args below meth c nL Y cells slots Q pc L (.long y :: .long x :: st) σ :=
  fun H locs ls hP hS hl => lv_ladd C.1 C.2.1 hd (k H locs ls hP hS hl)
theorem x_lsub (C : x_C p s m args c cc nL own Y) {x y : Int64} (hd : decode cc pc = .ok (.lsub, 1)) (k : x_W p l e R s m args below meth c nL Y cells slots Q (pc + 1) L (.long (x - y) :: st) σ) : x_W p l e R s m args below meth c nL Y cells slots Q pc L (.long y :: .long x :: st) σ :=
  fun H locs ls hP hS hl => lv_lsub C.1 C.2.1 hd (k H locs ls hP hS hl)
theorem x_lmul (C : x_C p s m args c cc nL own Y) {x y : Int64} (hd : decode cc pc = .ok (.lmul, 1)) (k : x_W p l e R s m args below meth c nL Y cells slots Q (pc + 1) L (.long (x * y) :: st) σ) : x_W p l e R s m args below meth c nL Y cells slots Q pc L (.long y :: .long x :: st) σ :=
  fun H locs ls hP hS hl => lv_lmul C.1 C.2.1 hd (k H locs ls hP hS hl)
theorem x_land (C : x_C p s m args c cc nL own Y) {x y : Int64} (hd : decode cc pc = .ok (.land, 1)) (k : x_W p l e R s m args below meth c nL Y cells slots Q (pc + 1) L (.long (x &&& y) :: st) σ) : x_W p l e R s m args below meth c nL Y cells slots Q pc L (.long y :: .long x :: st) σ :=
  fun H locs ls hP hS hl => lv_land C.1 C.2.1 hd (k H locs ls hP hS hl)
theorem x_ishl (C : x_C p s m args c cc nL own Y) {x y : Int32} (hd : decode cc pc = .ok (.ishl, 1)) (k : x_W p l e R s m args below meth c nL Y cells slots Q (pc + 1) L (.int (x <<< (y &&& 31)) :: st) σ) : x_W p l e R s m args below meth c nL Y cells slots Q pc L (.int y :: .int x :: st) σ :=
  fun H locs ls hP hS hl => lv_ishl C.1 C.2.1 hd (k H locs ls hP hS hl)
theorem x_ishr (C : x_C p s m args c cc nL own Y) {x y : Int32} (hd : decode cc pc = .ok (.ishr, 1)) (k : x_W p l e R s m args below meth c nL Y cells slots Q (pc + 1) L (.int (x >>> (y &&& 31)) :: st) σ) : x_W p l e R s m args below meth c nL Y cells slots Q pc L (.int y :: .int x :: st) σ :=
  fun H locs ls hP hS hl => lv_ishr C.1 C.2.1 hd (k H locs ls hP hS hl)
theorem x_idiv (C : x_C p s m args c cc nL own Y) {x y : Int32} (hd : decode cc pc = .ok (.idiv, 1)) (hne : ¬ y = 0) (k : x_W p l e R s m args below meth c nL Y cells slots Q (pc + 1) L (.int (x / y) :: st) σ) : x_W p l e R s m args below meth c nL Y cells slots Q pc L (.int y :: .int x :: st) σ :=
  fun H locs ls hP hS hl => lv_idiv C.1 C.2.1 hd hne (k H locs ls hP hS hl)
theorem x_irem (C : x_C p s m args c cc nL own Y) {x y : Int32} (hd : decode cc pc = .ok (.irem, 1)) (hne : ¬ y = 0) (k : x_W p l e R s m args below meth c nL Y cells slots Q (pc + 1) L (.int (x - x / y * y) :: st) σ) : x_W p l e R s m args below meth c nL Y cells slots Q pc L (.int y :: .int x :: st) σ :=
  fun H locs ls hP hS hl => lv_irem C.1 C.2.1 hd hne (k H locs ls hP hS hl)
theorem x_ldiv (C : x_C p s m args c cc nL own Y) {x y : Int64} (hd : decode cc pc = .ok (.ldiv, 1)) (hne : ¬ y = 0) (k : x_W p l e R s m args below meth c nL Y cells slots Q (pc + 1) L (.long (x / y) :: st) σ) : x_W p l e R s m args below meth c nL Y cells slots Q pc L (.long y :: .long x :: st) σ :=
  fun H locs ls hP hS hl => lv_ldiv C.1 C.2.1 hd hne (k H locs ls hP hS hl)
theorem x_lrem (C : x_C p s m args c cc nL own Y) {x y : Int64} (hd : decode cc pc = .ok (.lrem, 1)) (hne : ¬ y = 0) (k : x_W p l e R s m args below meth c nL Y cells slots Q (pc + 1) L (.long (x - x / y * y) :: st) σ) : x_W p l e R s m args below meth c nL Y cells slots Q pc L (.long y :: .long x :: st) σ :=
  fun H locs ls hP hS hl => lv_lrem C.1 C.2.1 hd hne (k H locs ls hP hS hl)
theorem x_ineg (C : x_C p s m args c cc nL own Y) {x : Int32} (hd : decode cc pc = .ok (.ineg, 1)) (k : x_W p l e R s m args below meth c nL Y cells slots Q (pc + 1) L (.int (-x) :: st) σ) : x_W p l e R s m args below meth c nL Y cells slots Q pc L (.int x :: st) σ :=
  fun H locs ls hP hS hl => lv_ineg C.1 C.2.1 hd (k H locs ls hP hS hl)
theorem x_lneg (C : x_C p s m args c cc nL own Y) {x : Int64} (hd : decode cc pc = .ok (.lneg, 1)) (k : x_W p l e R s m args below meth c nL Y cells slots Q (pc + 1) L (.long (-x) :: st) σ) : x_W p l e R s m args below meth c nL Y cells slots Q pc L (.long x :: st) σ :=
  fun H locs ls hP hS hl => lv_lneg C.1 C.2.1 hd (k H locs ls hP hS hl)
theorem x_lshl (C : x_C p s m args c cc nL own Y) {x : Int64} {y : Int32} (hd : decode cc pc = .ok (.lshl, 1)) (k : x_W p l e R s m args below meth c nL Y cells slots Q (pc + 1) L (.long (x <<< (y.toInt64 &&& 63)) :: st) σ) : x_W p l e R s m args below meth c nL Y cells slots Q pc L (.int y :: .long x :: st) σ :=
  fun H locs ls hP hS hl => lv_lshl C.1 C.2.1 hd rfl (k H locs ls hP hS hl)
theorem x_lshr (C : x_C p s m args c cc nL own Y) {x : Int64} {y : Int32} (hd : decode cc pc = .ok (.lshr, 1)) (k : x_W p l e R s m args below meth c nL Y cells slots Q (pc + 1) L (.long (x >>> (y.toInt64 &&& 63)) :: st) σ) : x_W p l e R s m args below meth c nL Y cells slots Q pc L (.int y :: .long x :: st) σ :=
  fun H locs ls hP hS hl => lv_lshr C.1 C.2.1 hd rfl (k H locs ls hP hS hl)
theorem x_i2l (C : x_C p s m args c cc nL own Y) {x : Int32} (hd : decode cc pc = .ok (.i2l, 1)) (k : x_W p l e R s m args below meth c nL Y cells slots Q (pc + 1) L (.long x.toInt64 :: st) σ) : x_W p l e R s m args below meth c nL Y cells slots Q pc L (.int x :: st) σ :=
  fun H locs ls hP hS hl => lv_i2l C.1 C.2.1 hd rfl (k H locs ls hP hS hl)
theorem x_l2i (C : x_C p s m args c cc nL own Y) {x : Int64} (hd : decode cc pc = .ok (.l2i, 1)) (k : x_W p l e R s m args below meth c nL Y cells slots Q (pc + 1) L (.int x.toInt32 :: st) σ) : x_W p l e R s m args below meth c nL Y cells slots Q pc L (.long x :: st) σ :=
  fun H locs ls hP hS hl => lv_l2i C.1 C.2.1 hd rfl (k H locs ls hP hS hl)
theorem x_i2b (C : x_C p s m args c cc nL own Y) {x : Int32} (hd : decode cc pc = .ok (.i2b, 1)) (k : x_W p l e R s m args below meth c nL Y cells slots Q (pc + 1) L (.int x.toInt8.toInt32 :: st) σ) : x_W p l e R s m args below meth c nL Y cells slots Q pc L (.int x :: st) σ :=
  fun H locs ls hP hS hl => lv_i2b C.1 C.2.1 hd rfl (k H locs ls hP hS hl)
theorem x_lcmp (C : x_C p s m args c cc nL own Y) {x y : Int64} (hd : decode cc pc = .ok (.lcmp, 1)) (k : x_W p l e R s m args below meth c nL Y cells slots Q (pc + 1) L (.int (lg_cmp x y) :: st) σ) : x_W p l e R s m args below meth c nL Y cells slots Q pc L (.long y :: .long x :: st) σ :=
  fun H locs ls hP hS hl => W.lcmp C.1 C.2.1 hd (k H locs ls hP hS hl)
theorem x_iload_n (C : x_C p s m args c cc nL own Y) {k : Fin 4} {i : Nat} {x : Int32} (hd : decode cc pc = .ok (.iload_n k, 1)) (hi : (k : Nat) = i) (hx : L.1 i = some (.int x)) (k : x_W p l e R s m args below meth c nL Y cells slots Q (pc + 1) L (.int x :: st) σ) : x_W p l e R s m args below meth c nL Y cells slots Q pc L (st) σ :=
  fun H locs ls hP hS hl => lv_iload_n C.1 C.2.1 hd hi (hl.2.2.1 _ _ hx).2 (k H locs ls hP hS hl)
theorem x_iload (C : x_C p s m args c cc nL own Y) {i : Nat} {x : Int32} (hd : decode cc pc = .ok (.iload i, 2)) (hx : L.1 i = some (.int x)) (k : x_W p l e R s m args below meth c nL Y cells slots Q (pc + 2) L (.int x :: st) σ) : x_W p l e R s m args below meth c nL Y cells slots Q pc L (st) σ :=
  fun H locs ls hP hS hl => lv_iload C.1 C.2.1 hd (hl.2.2.1 _ _ hx).2 (k H locs ls hP hS hl)
theorem x_aload_n (C : x_C p s m args c cc nL own Y) {k : Fin 4} {i : Nat} {r : Nat} (hd : decode cc pc = .ok (.aload_n k, 1)) (hi : (k : Nat) = i) (hx : L.1 i = some (.ref r)) (k : x_W p l e R s m args below meth c nL Y cells slots Q (pc + 1) L (.ref r :: st) σ) : x_W p l e R s m args below meth c nL Y cells slots Q pc L (st) σ :=
  fun H locs ls hP hS hl => lv_aload_n C.1 C.2.1 hd hi (hl.2.2.1 _ _ hx).2 (k H locs ls hP hS hl)
theorem x_aload (C : x_C p s m args c cc nL own Y) {i : Nat} {r : Nat} (hd : decode cc pc = .ok (.aload i, 2)) (hx : L.1 i = some (.ref r)) (k : x_W p l e R s m args below meth c nL Y cells slots Q (pc + 2) L (.ref r :: st) σ) : x_W p l e R s m args below meth c nL Y cells slots Q pc L (st) σ :=
  fun H locs ls hP hS hl => lv_aload C.1 C.2.1 hd (hl.2.2.1 _ _ hx).2 (k H locs ls hP hS hl)
theorem x_lload_n (C : x_C p s m args c cc nL own Y) {k : Fin 4} {i : Nat} {x : Int64} (hd : decode cc pc = .ok (.lload_n k, 1)) (hi : (k : Nat) = i) (hx : L.2 i = some x) (k : x_W p l e R s m args below meth c nL Y cells slots Q (pc + 1) L (.long x :: st) σ) : x_W p l e R s m args below meth c nL Y cells slots Q pc L (st) σ :=
  fun H locs ls hP hS hl => lv_lload_n C.1 C.2.1 hd hi (hl.2.2.2 _ _ hx) (k H locs ls hP hS hl)
theorem x_lload (C : x_C p s m args c cc nL own Y) {i : Nat} {x : Int64} (hd : decode cc pc = .ok (.lload i, 2)) (hx : L.2 i = some x) (k : x_W p l e R s m args below meth c nL Y cells slots Q (pc + 2) L (.long x :: st) σ) : x_W p l e R s m args below meth c nL Y cells slots Q pc L (st) σ :=
  fun H locs ls hP hS hl => lv_lload C.1 C.2.1 hd (hl.2.2.2 _ _ hx) (k H locs ls hP hS hl)
theorem x_istore_n (C : x_C p s m args c cc nL own Y) {k : Fin 4} {i : Nat} {x : Int32} (hd : decode cc pc = .ok (.istore_n k, 1)) (hi : (k : Nat) = i) (hn : i < nL) (k : x_W p l e R s m args below meth c nL Y cells slots Q (pc + 1) (x_s1 L i (.int x)) st σ) : x_W p l e R s m args below meth c nL Y cells slots Q pc L (.int x :: st) σ :=
  fun H locs ls hP hS hl => lv_istore_n C.1 C.2.1 hd hi hl.has hn rfl (fun ls9 h9 => k H locs ls9 hP hS (hl.st1 (v := .int x) rfl h9))
theorem x_istore (C : x_C p s m args c cc nL own Y) {i : Nat} {x : Int32} (hd : decode cc pc = .ok (.istore i, 2)) (hn : i < nL) (k : x_W p l e R s m args below meth c nL Y cells slots Q (pc + 2) (x_s1 L i (.int x)) st σ) : x_W p l e R s m args below meth c nL Y cells slots Q pc L (.int x :: st) σ :=
  fun H locs ls hP hS hl => lv_istore C.1 C.2.1 hd hl.has hn rfl (fun ls9 h9 => k H locs ls9 hP hS (hl.st1 (v := .int x) rfl h9))
theorem x_astore_n (C : x_C p s m args c cc nL own Y) {k : Fin 4} {i : Nat} {r : Nat} (hd : decode cc pc = .ok (.astore_n k, 1)) (hi : (k : Nat) = i) (hn : i < nL) (k : x_W p l e R s m args below meth c nL Y cells slots Q (pc + 1) (x_s1 L i (.ref r)) st σ) : x_W p l e R s m args below meth c nL Y cells slots Q pc L (.ref r :: st) σ :=
  fun H locs ls hP hS hl => lv_astore_n C.1 C.2.1 hd hi hl.has hn rfl (fun ls9 h9 => k H locs ls9 hP hS (hl.st1 (v := .ref r) rfl h9))
theorem x_astore (C : x_C p s m args c cc nL own Y) {i : Nat} {r : Nat} (hd : decode cc pc = .ok (.astore i, 2)) (hn : i < nL) (k : x_W p l e R s m args below meth c nL Y cells slots Q (pc + 2) (x_s1 L i (.ref r)) st σ) : x_W p l e R s m args below meth c nL Y cells slots Q pc L (.ref r :: st) σ :=
  fun H locs ls hP hS hl => lv_astore C.1 C.2.1 hd hl.has hn rfl (fun ls9 h9 => k H locs ls9 hP hS (hl.st1 (v := .ref r) rfl h9))
theorem x_lstore_n (C : x_C p s m args c cc nL own Y) {k : Fin 4} {i : Nat} {x : Int64} (hd : decode cc pc = .ok (.lstore_n k, 1)) (hi : (k : Nat) = i) (hn : i + 1 < nL) (k : x_W p l e R s m args below meth c nL Y cells slots Q (pc + 1) (x_s2 L i x) st σ) : x_W p l e R s m args below meth c nL Y cells slots Q pc L (.long x :: st) σ :=
  fun H locs ls hP hS hl => lv_lstore_n C.1 C.2.1 hd hi hl.has hn rfl (fun ls9 h9 => k H locs ls9 hP hS (hl.st2 h9))
theorem x_lstore (C : x_C p s m args c cc nL own Y) {i : Nat} {x : Int64} (hd : decode cc pc = .ok (.lstore i, 2)) (hn : i + 1 < nL) (k : x_W p l e R s m args below meth c nL Y cells slots Q (pc + 2) (x_s2 L i x) st σ) : x_W p l e R s m args below meth c nL Y cells slots Q pc L (.long x :: st) σ :=
  fun H locs ls hP hS hl => lv_lstore C.1 C.2.1 hd hl.has hn rfl (fun ls9 h9 => k H locs ls9 hP hS (hl.st2 h9))
theorem x_iinc (C : x_C p s m args c cc nL own Y) {i : Nat} {n : Int} {x : Int32} (v : Int32) (hd : decode cc pc = .ok (.iinc i n, 3)) (hx : L.1 i = some (.int x)) (hv : Int32.ofInt n = v) (hn : i < nL) (k : x_W p l e R s m args below meth c nL Y cells slots Q (pc + 3) (x_s1 L i (.int (x + v))) st σ) : x_W p l e R s m args below meth c nL Y cells slots Q pc L st σ := by
  intro H locs ls hP hS hl
  obtain ⟨j, hj⟩ := List.getElem?_of_mem (hl.in1 hx)
  exact lv_iinc C.1 C.2.1 hd hl.has hj (by rw [hv]) hn rfl (fun ls9 h9 => k H locs ls9 hP hS (hl.st1 (v := .int (x + v)) rfl h9))
theorem x_pop (C : x_C p s m args c cc nL own Y) {a : Value} (hd : decode cc pc = .ok (.pop, 1)) (ha : a.category = 1) (k : x_W p l e R s m args below meth c nL Y cells slots Q (pc + 1) L (st) σ) : x_W p l e R s m args below meth c nL Y cells slots Q pc L (a :: st) σ :=
  fun H locs ls hP hS hl => lv_pop C.1 C.2.1 hd ((x_v_cat Y a).trans ha) (k H locs ls hP hS hl)
theorem x_dup (C : x_C p s m args c cc nL own Y) {a : Value} (hd : decode cc pc = .ok (.dup, 1)) (ha : a.category = 1) (k : x_W p l e R s m args below meth c nL Y cells slots Q (pc + 1) L (a :: a :: st) σ) : x_W p l e R s m args below meth c nL Y cells slots Q pc L (a :: st) σ :=
  fun H locs ls hP hS hl => lv_dup C.1 C.2.1 hd ((x_v_cat Y a).trans ha) (k H locs ls hP hS hl)
theorem x_dup2 (C : x_C p s m args c cc nL own Y) {a b : Value} (hd : decode cc pc = .ok (.dup2, 1)) (ha : a.category = 1) (hb : b.category = 1) (k : x_W p l e R s m args below meth c nL Y cells slots Q (pc + 1) L (a :: b :: a :: b :: st) σ) : x_W p l e R s m args below meth c nL Y cells slots Q pc L (a :: b :: st) σ :=
  fun H locs ls hP hS hl => lv_dup2_11 C.1 C.2.1 hd ((x_v_cat Y a).trans ha) ((x_v_cat Y b).trans hb) (k H locs ls hP hS hl)
theorem x_dup2l (C : x_C p s m args c cc nL own Y) {x : Int64} (hd : decode cc pc = .ok (.dup2, 1)) (k : x_W p l e R s m args below meth c nL Y cells slots Q (pc + 1) L (.long x :: .long x :: st) σ) : x_W p l e R s m args below meth c nL Y cells slots Q pc L (.long x :: st) σ :=
  fun H locs ls hP hS hl => lv_dup2_2 C.1 C.2.1 hd rfl (k H locs ls hP hS hl)
theorem x_if_eq (C : x_C p s m args c cc nL own Y) {x : Int32} {off : Int} (tgt : Nat) (hd : decode cc pc = .ok (.ifCond .eq off, 3)) (ht : (pc : Int) + off = (tgt : Int)) (kt : x = 0 → x_W p l e R s m args below meth c nL Y cells slots Q tgt L st σ) (kf : ¬ x = 0 → x_W p l e R s m args below meth c nL Y cells slots Q (pc + 3) L st σ) : x_W p l e R s m args below meth c nL Y cells slots Q pc L (.int x :: st) σ :=
  fun H locs ls hP hS hl => lv_if_eq C.1 C.2.1 hd ht (fun h => kt h H locs ls hP hS hl) (fun h => kf h H locs ls hP hS hl)
theorem x_if_ne (C : x_C p s m args c cc nL own Y) {x : Int32} {off : Int} (tgt : Nat) (hd : decode cc pc = .ok (.ifCond .ne off, 3)) (ht : (pc : Int) + off = (tgt : Int)) (kt : ¬ x = 0 → x_W p l e R s m args below meth c nL Y cells slots Q tgt L st σ) (kf : x = 0 → x_W p l e R s m args below meth c nL Y cells slots Q (pc + 3) L st σ) : x_W p l e R s m args below meth c nL Y cells slots Q pc L (.int x :: st) σ :=
  fun H locs ls hP hS hl => lv_if_ne C.1 C.2.1 hd ht (fun h => kt h H locs ls hP hS hl) (fun h => kf h H locs ls hP hS hl)
theorem x_if_lt (C : x_C p s m args c cc nL own Y) {x : Int32} {off : Int} (tgt : Nat) (hd : decode cc pc = .ok (.ifCond .lt off, 3)) (ht : (pc : Int) + off = (tgt : Int)) (kt : x < 0 → x_W p l e R s m args below meth c nL Y cells slots Q tgt L st σ) (kf : ¬ x < 0 → x_W p l e R s m args below meth c nL Y cells slots Q (pc + 3) L st σ) : x_W p l e R s m args below meth c nL Y cells slots Q pc L (.int x :: st) σ :=
  fun H locs ls hP hS hl => lv_if_lt C.1 C.2.1 hd ht (fun h => kt h H locs ls hP hS hl) (fun h => kf h H locs ls hP hS hl)
theorem x_if_ge (C : x_C p s m args c cc nL own Y) {x : Int32} {off : Int} (tgt : Nat) (hd : decode cc pc = .ok (.ifCond .ge off, 3)) (ht : (pc : Int) + off = (tgt : Int)) (kt : 0 ≤ x → x_W p l e R s m args below meth c nL Y cells slots Q tgt L st σ) (kf : ¬ 0 ≤ x → x_W p l e R s m args below meth c nL Y cells slots Q (pc + 3) L st σ) : x_W p l e R s m args below meth c nL Y cells slots Q pc L (.int x :: st) σ :=
  fun H locs ls hP hS hl => lv_if_ge C.1 C.2.1 hd ht (fun h => kt h H locs ls hP hS hl) (fun h => kf h H locs ls hP hS hl)
theorem x_if_gt (C : x_C p s m args c cc nL own Y) {x : Int32} {off : Int} (tgt : Nat) (hd : decode cc pc = .ok (.ifCond .gt off, 3)) (ht : (pc : Int) + off = (tgt : Int)) (kt : 0 < x → x_W p l e R s m args below meth c nL Y cells slots Q tgt L st σ) (kf : ¬ 0 < x → x_W p l e R s m args below meth c nL Y cells slots Q (pc + 3) L st σ) : x_W p l e R s m args below meth c nL Y cells slots Q pc L (.int x :: st) σ :=
  fun H locs ls hP hS hl => lv_if_gt C.1 C.2.1 hd ht (fun h => kt h H locs ls hP hS hl) (fun h => kf h H locs ls hP hS hl)
theorem x_if_le (C : x_C p s m args c cc nL own Y) {x : Int32} {off : Int} (tgt : Nat) (hd : decode cc pc = .ok (.ifCond .le off, 3)) (ht : (pc : Int) + off = (tgt : Int)) (kt : x ≤ 0 → x_W p l e R s m args below meth c nL Y cells slots Q tgt L st σ) (kf : ¬ x ≤ 0 → x_W p l e R s m args below meth c nL Y cells slots Q (pc + 3) L st σ) : x_W p l e R s m args below meth c nL Y cells slots Q pc L (.int x :: st) σ :=
  fun H locs ls hP hS hl => lv_if_le C.1 C.2.1 hd ht (fun h => kt h H locs ls hP hS hl) (fun h => kf h H locs ls hP hS hl)
theorem x_icmp_eq (C : x_C p s m args c cc nL own Y) {x y : Int32} {off : Int} (tgt : Nat) (hd : decode cc pc = .ok (.if_icmp .eq off, 3)) (ht : (pc : Int) + off = (tgt : Int)) (kt : x = y → x_W p l e R s m args below meth c nL Y cells slots Q tgt L st σ) (kf : ¬ x = y → x_W p l e R s m args below meth c nL Y cells slots Q (pc + 3) L st σ) : x_W p l e R s m args below meth c nL Y cells slots Q pc L (.int y :: .int x :: st) σ :=
  fun H locs ls hP hS hl => lv_icmp_eq C.1 C.2.1 hd ht (fun h => kt h H locs ls hP hS hl) (fun h => kf h H locs ls hP hS hl)
theorem x_icmp_ne (C : x_C p s m args c cc nL own Y) {x y : Int32} {off : Int} (tgt : Nat) (hd : decode cc pc = .ok (.if_icmp .ne off, 3)) (ht : (pc : Int) + off = (tgt : Int)) (kt : ¬ x = y → x_W p l e R s m args below meth c nL Y cells slots Q tgt L st σ) (kf : x = y → x_W p l e R s m args below meth c nL Y cells slots Q (pc + 3) L st σ) : x_W p l e R s m args below meth c nL Y cells slots Q pc L (.int y :: .int x :: st) σ :=
  fun H locs ls hP hS hl => lv_icmp_ne C.1 C.2.1 hd ht (fun h => kt h H locs ls hP hS hl) (fun h => kf h H locs ls hP hS hl)
theorem x_icmp_lt (C : x_C p s m args c cc nL own Y) {x y : Int32} {off : Int} (tgt : Nat) (hd : decode cc pc = .ok (.if_icmp .lt off, 3)) (ht : (pc : Int) + off = (tgt : Int)) (kt : x < y → x_W p l e R s m args below meth c nL Y cells slots Q tgt L st σ) (kf : ¬ x < y → x_W p l e R s m args below meth c nL Y cells slots Q (pc + 3) L st σ) : x_W p l e R s m args below meth c nL Y cells slots Q pc L (.int y :: .int x :: st) σ :=
  fun H locs ls hP hS hl => lv_icmp_lt C.1 C.2.1 hd ht (fun h => kt h H locs ls hP hS hl) (fun h => kf h H locs ls hP hS hl)
theorem x_icmp_ge (C : x_C p s m args c cc nL own Y) {x y : Int32} {off : Int} (tgt : Nat) (hd : decode cc pc = .ok (.if_icmp .ge off, 3)) (ht : (pc : Int) + off = (tgt : Int)) (kt : y ≤ x → x_W p l e R s m args below meth c nL Y cells slots Q tgt L st σ) (kf : ¬ y ≤ x → x_W p l e R s m args below meth c nL Y cells slots Q (pc + 3) L st σ) : x_W p l e R s m args below meth c nL Y cells slots Q pc L (.int y :: .int x :: st) σ :=
  fun H locs ls hP hS hl => lv_icmp_ge C.1 C.2.1 hd ht (fun h => kt h H locs ls hP hS hl) (fun h => kf h H locs ls hP hS hl)
theorem x_icmp_gt (C : x_C p s m args c cc nL own Y) {x y : Int32} {off : Int} (tgt : Nat) (hd : decode cc pc = .ok (.if_icmp .gt off, 3)) (ht : (pc : Int) + off = (tgt : Int)) (kt : y < x → x_W p l e R s m args below meth c nL Y cells slots Q tgt L st σ) (kf : ¬ y < x → x_W p l e R s m args below meth c nL Y cells slots Q (pc + 3) L st σ) : x_W p l e R s m args below meth c nL Y cells slots Q pc L (.int y :: .int x :: st) σ :=
  fun H locs ls hP hS hl => lv_icmp_gt C.1 C.2.1 hd ht (fun h => kt h H locs ls hP hS hl) (fun h => kf h H locs ls hP hS hl)
theorem x_icmp_le (C : x_C p s m args c cc nL own Y) {x y : Int32} {off : Int} (tgt : Nat) (hd : decode cc pc = .ok (.if_icmp .le off, 3)) (ht : (pc : Int) + off = (tgt : Int)) (kt : x ≤ y → x_W p l e R s m args below meth c nL Y cells slots Q tgt L st σ) (kf : ¬ x ≤ y → x_W p l e R s m args below meth c nL Y cells slots Q (pc + 3) L st σ) : x_W p l e R s m args below meth c nL Y cells slots Q pc L (.int y :: .int x :: st) σ :=
  fun H locs ls hP hS hl => lv_icmp_le C.1 C.2.1 hd ht (fun h => kt h H locs ls hP hS hl) (fun h => kf h H locs ls hP hS hl)
theorem x_goto (C : x_C p s m args c cc nL own Y) {off : Int} (tgt : Nat) (hd : decode cc pc = .ok (.goto off, 3)) (ht : (pc : Int) + off = (tgt : Int)) (k : x_W p l e R s m args below meth c nL Y cells slots Q tgt L st σ) : x_W p l e R s m args below meth c nL Y cells slots Q pc L st σ :=
  fun H locs ls hP hS hl => lv_goto C.1 C.2.1 hd ht (k H locs ls hP hS hl)
theorem x_ifnull (C : x_C p s m args c cc nL own Y) {r : Nat} {off : Int} (hd : decode cc pc = .ok (.ifnull off, 3)) (k : x_W p l e R s m args below meth c nL Y cells slots Q (pc + 3) L st σ) : x_W p l e R s m args below meth c nL Y cells slots Q pc L (.ref r :: st) σ :=
  fun H locs ls hP hS hl => lv_ifnull C.1 C.2.1 hd (k H locs ls hP hS hl)
theorem x_lookup (C : x_C p s m args c cc nL own Y) {dflt : Int} {ps : Array (Int × Int)} {len : Nat} {x : Int32} {off : Int} (tgt : Nat) (hd : decode cc pc = .ok (.lookupswitch dflt ps, len)) (hp : (ps.toList.zip (ps.toList.drop 1)).all (fun (a, next) => a.1 < next.1) = true) (ho : Op.lookupswitch.offset ps.toList dflt x.toInt = off) (ht : (pc : Int) + off = (tgt : Int)) (k : x_W p l e R s m args below meth c nL Y cells slots Q tgt L st σ) : x_W p l e R s m args below meth c nL Y cells slots Q pc L (.int x :: st) σ :=
  fun H locs ls hP hS hl => lv_lookup C.1 C.2.1 hd hp ho ht (k H locs ls hP hS hl)
theorem x_tableIn (C : x_C p s m args c cc nL own Y) {dflt lo hi : Int} {offs : Array Int} {len : Nat} {x : Int32} {off : Int} (tgt : Nat) (hd : decode cc pc = .ok (.tableswitch dflt lo hi offs, len)) (h1 : ¬ x.toInt < lo) (h2 : ¬ hi < x.toInt) (ho : offs[(x.toInt - lo).toNat]? = some off) (ht : (pc : Int) + off = (tgt : Int)) (k : x_W p l e R s m args below meth c nL Y cells slots Q tgt L st σ) : x_W p l e R s m args below meth c nL Y cells slots Q pc L (.int x :: st) σ :=
  fun H locs ls hP hS hl => lv_tableIn C.1 C.2.1 hd h1 h2 ho ht (k H locs ls hP hS hl)
theorem x_tableOut (C : x_C p s m args c cc nL own Y) {dflt lo hi : Int} {offs : Array Int} {len : Nat} {x : Int32} (tgt : Nat) (hd : decode cc pc = .ok (.tableswitch dflt lo hi offs, len)) (h : x.toInt < lo ∨ hi < x.toInt) (ht : (pc : Int) + dflt = (tgt : Int)) (k : x_W p l e R s m args below meth c nL Y cells slots Q tgt L st σ) : x_W p l e R s m args below meth c nL Y cells slots Q pc L (.int x :: st) σ :=
  fun H locs ls hP hS hl => lv_tableOut C.1 C.2.1 hd h ht (k H locs ls hP hS hl)
theorem x_ldc (C : x_C p s m args c cc nL own Y) {index : Nat} (v : Int32) (hw : Cond.constant own index v ∈ x_wd) (hd : decode cc pc = .ok (.ldc index, 2)) (k : x_W p l e R s m args below meth c nL Y cells slots Q (pc + 2) L (.int v :: st) σ) : x_W p l e R s m args below meth c nL Y cells slots Q pc L st σ :=
  fun H locs ls hP hS hl => lv_ldc C.1 C.2.1 C.2.2.2.1 (C.2.2.2.2.1 _ hw) hd (k H locs ls hP hS hl)
theorem x_ldc2 (C : x_C p s m args c cc nL own Y) {index : Nat} (v : Int64) (hw : Cond.constantLong own index v ∈ x_wd) (hd : decode cc pc = .ok (.ldc2_w index, 3)) (k : x_W p l e R s m args below meth c nL Y cells slots Q (pc + 3) L (.long v :: st) σ) : x_W p l e R s m args below meth c nL Y cells slots Q pc L st σ :=
  fun H locs ls hP hS hl => lv_ldc2 C.1 C.2.1 C.2.2.2.1 (C.2.2.2.2.1 _ hw) hd (k H locs ls hP hS hl)
/-! fields -/
def x_cls (ci : Nat) (Cn : String) (T : u_T) (N : Nat) (ty0 : Nat → FieldType) : Prop := vwCl[ci]? = some (Cn, T, N) ∧ (∀ w ∈ u_ws Cn T N, w ∈ x_wd) ∧ (∀ k, k < N → parseFieldDescriptor (T k).2.2.1 = some (ty0 k)) ∧ ∀ a, a < N → ∀ b, b < N → a ≠ b → (T a).2.1 ≠ (T b).2.1
/-- the int place j of the cell k -/
def x_FI (k j : Nat) (Cn : String) (T : u_T) (N : Nat) (ty0 : Nat → FieldType) : Prop := k < 64 ∧ (∃ (ci : Nat) (fl : List (Option Nat)), x_sh k = .inl (ci, fl) ∧ fl[j]? = some none ∧ x_cls ci Cn T N ty0) ∧ j < N
/-- its reference j, to the cell t -/
def x_FR (k j t : Nat) (Cn : String) (T : u_T) (N : Nat) (ty0 : Nat → FieldType) : Prop := (k < 64 ∧ t < 64) ∧ (∃ (ci : Nat) (fl : List (Option Nat)), x_sh k = .inl (ci, fl) ∧ fl[j]? = some (some t) ∧ x_cls ci Cn T N ty0) ∧ j < N
/-- how a method's class names the field j: its own or a nest mate's -/
def x_FL (own : String) (index : Nat) (T : u_T) (j : Nat) : Prop := Cond.fieldLink own index (T j).1 (T j).2.1 (T j).2.2.1 ∈ x_wd ∨ ∃ host, Cond.fieldLinkNest own index (T j).1 (T j).2.1 (T j).2.2.1 host ∈ x_ow
theorem x_rf_lt (Y : x_Y) {k : Nat} (h : k < 64) : x_rf Y k = x_ad Y k := by
  unfold x_rf
  rw [if_pos h]
theorem x_v_r (Y : x_Y) {k : Nat} (h : k < 64) : x_v Y (.ref k) = .ref (x_ad Y k) := by
  show Value.ref (x_rf Y k) = _
  rw [x_rf_lt Y h]

theorem x_getI (C : x_C p s m args c cc nL own Y) {k j : Nat} {Cn : String} {T : u_T} {N index : Nat} {ty0 : Nat → FieldType} (hf : x_FI k j Cn T N ty0) (hk : x_FL own index T j) (hd : decode cc pc = .ok (.getfield index, 3)) (kk : x_W p l e R s m args below meth c nL Y cells slots Q (pc + 3) L (.int (σ.1 k j) :: st) σ) : x_W p l e R s m args below meth c nL Y cells slots Q pc L (.ref k :: st) σ := by
  intro H locs ls hP hS hl
  obtain ⟨h1, ⟨ci, fl, h2, h3, hc⟩, h4⟩ := hf
  obtain ⟨hx, hb, hml, hown, hts, hE⟩ := C
  rw [List.map_cons, x_v_r Y h1]
  have he := x_ws_at Y σ h1
  rw [x_ce_o Y h2] at he
  have hv : (x_fl Y (σ.1 k) 0 fl)[j]? = some (.int (σ.1 k j)) := by
    rw [x_fl_get Y (σ.1 k) fl 0 j h3, Nat.zero_add]
  rcases hk with hk | ⟨host, hk⟩
  · exact va_get hx hb hts hc.2.1 hown hE.1 hP.1 k he hc.1 j h4 (hts _ hk) (fun _ h9 => h9) hv hd (kk H locs ls hP hS hl)
  · exact va_getN hx hb hts hc.2.1 hown hE.1 hP.1 k he hc.1 j h4 (va_Nw.use rfl (hE.2.1 _ hk)) (fun _ h9 => h9) hv hd (kk H locs ls hP hS hl)
theorem x_getR (C : x_C p s m args c cc nL own Y) {k j t : Nat} {Cn : String} {T : u_T} {N index : Nat} {ty0 : Nat → FieldType} (hf : x_FR k j t Cn T N ty0) (hk : x_FL own index T j) (hd : decode cc pc = .ok (.getfield index, 3)) (kk : x_W p l e R s m args below meth c nL Y cells slots Q (pc + 3) L (.ref t :: st) σ) : x_W p l e R s m args below meth c nL Y cells slots Q pc L (.ref k :: st) σ := by
  intro H locs ls hP hS hl
  obtain ⟨⟨h1, ht⟩, ⟨ci, fl, h2, h3, hc⟩, h4⟩ := hf
  obtain ⟨hx, hb, hml, hown, hts, hE⟩ := C
  have kk := kk H locs ls hP hS hl
  rw [List.map_cons, x_v_r Y ht] at kk
  rw [List.map_cons, x_v_r Y h1]
  have he := x_ws_at Y σ h1
  rw [x_ce_o Y h2] at he
  have hv : (x_fl Y (σ.1 k) 0 fl)[j]? = some (.ref (x_ad Y t)) := x_fl_ref Y (σ.1 k) fl 0 j h3
  rcases hk with hk | ⟨host, hk⟩
  · exact va_get hx hb hts hc.2.1 hown hE.1 hP.1 k he hc.1 j h4 (hts _ hk) (fun _ h9 => h9) hv hd kk
  · exact va_getN hx hb hts hc.2.1 hown hE.1 hP.1 k he hc.1 j h4 (va_Nw.use rfl (hE.2.1 _ hk)) (fun _ h9 => h9) hv hd kk
theorem x_putI (C : x_C p s m args c cc nL own Y) {k j : Nat} {Cn : String} {T : u_T} {N index : Nat} {ty0 : Nat → FieldType} {x : Int32} (hf : x_FI k j Cn T N ty0) (hk : x_FL own index T j) (hfin : (T j).2.2.2 = false) (hn : narrow (ty0 j) (.int x) = .int x) (hfit : fits (ty0 j) (.int x) = true) (hd : decode cc pc = .ok (.putfield index, 3)) (kk : x_W p l e R s m args below meth c nL Y cells slots Q (pc + 3) L st (x_u σ k j x)) : x_W p l e R s m args below meth c nL Y cells slots Q pc L (.int x :: .ref k :: st) σ := by
  intro H locs ls hP hS hl
  obtain ⟨h1, ⟨ci, fl, h2, h3, hc⟩, h4⟩ := hf
  obtain ⟨hx, hb, hml, hown, hts, hE⟩ := C
  rw [List.map_cons, List.map_cons, x_v_r Y h1]
  have he := x_ws_at Y σ h1
  rw [x_ce_o Y h2] at he
  have hlen : j < (x_fl Y (σ.1 k) 0 fl).length := by
    rw [x_fl_len]
    exact (List.getElem?_eq_some_iff.mp h3).1
  have hset : (x_ws Y σ).set k (x_ad Y k, .inr (ci, (x_fl Y (σ.1 k) 0 fl).set j (.int x))) = x_ws Y (x_u σ k j x) := by
    refine x_ws_set Y σ (x_u σ k j x) h1 ?_ (fun i hi => ⟨?_, rfl⟩)
    · rw [x_ce_o Y h2]
      show Sum.inr (ci, x_fl Y (va_up σ.1 k (upd (σ.1 k) j x) k) 0 fl) = _
      rw [va_up_self, x_fl_set Y (σ.1 k) x fl 0 j h3, Nat.zero_add]
    · show va_up σ.1 k _ i = σ.1 i
      exact va_up_ne _ _ hi
  rcases hk with hk | ⟨host, hk⟩
  · exact va_put hx hb hts hc.2.1 ty0 hc.2.2.1 hc.2.2.2 hown hE.1 hP.1 hP.2 hS k he hc.1 j h4 (hts _ hk) (fun _ h9 => h9) hfin (hc.2.2.1 j h4) hn hfit hlen hd (fun H1 locs1 g1 g2 g3 => kk H1 locs1 ls ⟨by rw [← hset]; exact g1, by rw [← hset]; exact g2⟩ g3 hl)
  · exact va_putN hx hb hts hc.2.1 ty0 hc.2.2.1 hc.2.2.2 hown hE.1 hP.1 hP.2 hS k he hc.1 j h4 (va_Nw.use rfl (hE.2.1 _ hk)) (fun _ h9 => h9) hfin (hc.2.2.1 j h4) hn hfit hlen hd (fun H1 locs1 g1 g2 g3 => kk H1 locs1 ls ⟨by rw [← hset]; exact g1, by rw [← hset]; exact g2⟩ g3 hl)
/-! arrays -/
theorem x_iald (C : x_C p s m args c cc nL own Y) {k n : Nat} {i : Int32} (hk : k < 64) (hs : x_sh k = .inr (0, n)) (hd : decode cc pc = .ok (.iaload, 1)) (hin : vp_in i n) (kk : x_W p l e R s m args below meth c nL Y cells slots Q (pc + 1) L (.int (σ.1 k i.toNatClampNeg) :: st) σ) : x_W p l e R s m args below meth c nL Y cells slots Q pc L (.int i :: .ref k :: st) σ := by
  intro H locs ls hP hS hl
  rw [List.map_cons, List.map_cons, x_v_r Y hk]
  have he := x_ws_at Y σ hk
  rw [x_ce_i Y hs (by decide)] at he
  exact va_iald C.1 C.2.1 C.2.2.2.2.2.1 hP.1 k 0 he rfl hin hd (kk H locs ls hP hS hl)
theorem x_bald (C : x_C p s m args c cc nL own Y) {k n : Nat} {i : Int32} (hk : k < 64) (hs : x_sh k = .inr (1, n)) (hd : decode cc pc = .ok (.baload, 1)) (hin : vp_in i n) (kk : x_W p l e R s m args below meth c nL Y cells slots Q (pc + 1) L (.int (σ.1 k i.toNatClampNeg) :: st) σ) : x_W p l e R s m args below meth c nL Y cells slots Q pc L (.int i :: .ref k :: st) σ := by
  intro H locs ls hP hS hl
  rw [List.map_cons, List.map_cons, x_v_r Y hk]
  have he := x_ws_at Y σ hk
  rw [x_ce_i Y hs (by decide)] at he
  exact va_bald C.1 C.2.1 C.2.2.2.2.2.1 hP.1 k 1 he rfl hin hd (kk H locs ls hP hS hl)
theorem x_zald (C : x_C p s m args c cc nL own Y) {k n : Nat} {i : Int32} (hk : k < 64) (hs : x_sh k = .inr (2, n)) (hd : decode cc pc = .ok (.baload, 1)) (hin : vp_in i n) (kk : x_W p l e R s m args below meth c nL Y cells slots Q (pc + 1) L (.int (σ.1 k i.toNatClampNeg) :: st) σ) : x_W p l e R s m args below meth c nL Y cells slots Q pc L (.int i :: .ref k :: st) σ := by
  intro H locs ls hP hS hl
  rw [List.map_cons, List.map_cons, x_v_r Y hk]
  have he := x_ws_at Y σ hk
  rw [x_ce_i Y hs (by decide)] at he
  exact va_zald C.1 C.2.1 C.2.2.2.2.2.1 hP.1 k 2 he rfl hin hd (kk H locs ls hP hS hl)
theorem x_lald (C : x_C p s m args c cc nL own Y) {k n : Nat} {i : Int32} (hk : k < 64) (hs : x_sh k = .inr (3, n)) (hd : decode cc pc = .ok (.laload, 1)) (hin : vp_in i n) (kk : x_W p l e R s m args below meth c nL Y cells slots Q (pc + 1) L (.long (σ.2 k i.toNatClampNeg) :: st) σ) : x_W p l e R s m args below meth c nL Y cells slots Q pc L (.int i :: .ref k :: st) σ := by
  intro H locs ls hP hS hl
  rw [List.map_cons, List.map_cons, x_v_r Y hk]
  have he := x_ws_at Y σ hk
  rw [x_ce_l Y hs] at he
  exact va_lald C.1 C.2.1 C.2.2.2.2.2.1 hP.1 k 3 he rfl hin hd (kk H locs ls hP hS hl)
theorem x_iast (C : x_C p s m args c cc nL own Y) {k n : Nat} {i x : Int32} (hk : k < 64) (hs : x_sh k = .inr (0, n)) (hd : decode cc pc = .ok (.iastore, 1)) (hin : vp_in i n) (kk : x_W p l e R s m args below meth c nL Y cells slots Q (pc + 1) L st (x_u σ k i.toNatClampNeg x)) : x_W p l e R s m args below meth c nL Y cells slots Q pc L (.int x :: .int i :: .ref k :: st) σ := by
  intro H locs ls hP hS hl
  rw [List.map_cons, List.map_cons, List.map_cons, x_v_r Y hk]
  have he := x_ws_at Y σ hk
  rw [x_ce_i Y hs (by decide)] at he
  have hset : (x_ws Y σ).set k (x_ad Y k, .inl (x_cy Y 0, n, .inl (upd (σ.1 k) i.toNatClampNeg x))) = x_ws Y (x_u σ k i.toNatClampNeg x) := by
    refine x_ws_set Y σ _ hk ?_ (fun q hq => ⟨va_up_ne _ _ hq, rfl⟩)
    rw [x_ce_i Y hs (by decide)]
    show Sum.inl (x_cy Y 0, n, Sum.inl (va_up σ.1 k _ k)) = _
    rw [va_up_self]
  exact va_iast C.1 C.2.1 C.2.2.2.2.2.1 hP.1 hP.2 hS k 0 he rfl hin hd (fun H1 locs1 g1 g2 g3 => kk H1 locs1 ls ⟨by rw [← hset]; exact g1, by rw [← hset]; exact g2⟩ g3 hl)
theorem x_bast (C : x_C p s m args c cc nL own Y) {k n : Nat} {i x : Int32} (hk : k < 64) (hs : x_sh k = .inr (1, n)) (hd : decode cc pc = .ok (.bastore, 1)) (hin : vp_in i n) (kk : x_W p l e R s m args below meth c nL Y cells slots Q (pc + 1) L st (x_u σ k i.toNatClampNeg (vp_nar .byte x))) : x_W p l e R s m args below meth c nL Y cells slots Q pc L (.int x :: .int i :: .ref k :: st) σ := by
  intro H locs ls hP hS hl
  rw [List.map_cons, List.map_cons, List.map_cons, x_v_r Y hk]
  have he := x_ws_at Y σ hk
  rw [x_ce_i Y hs (by decide)] at he
  have hset : (x_ws Y σ).set k (x_ad Y k, .inl (x_cy Y 1, n, .inl (upd (σ.1 k) i.toNatClampNeg (vp_nar .byte x)))) = x_ws Y (x_u σ k i.toNatClampNeg (vp_nar .byte x)) := by
    refine x_ws_set Y σ _ hk ?_ (fun q hq => ⟨va_up_ne _ _ hq, rfl⟩)
    rw [x_ce_i Y hs (by decide)]
    show Sum.inl (x_cy Y 1, n, Sum.inl (va_up σ.1 k _ k)) = _
    rw [va_up_self]
  exact va_bast C.1 C.2.1 C.2.2.2.2.2.1 hP.1 hP.2 hS k 1 he rfl hin hd (fun H1 locs1 g1 g2 g3 => kk H1 locs1 ls ⟨by rw [← hset]; exact g1, by rw [← hset]; exact g2⟩ g3 hl)
theorem x_zast (C : x_C p s m args c cc nL own Y) {k n : Nat} {i x : Int32} (hk : k < 64) (hs : x_sh k = .inr (2, n)) (hd : decode cc pc = .ok (.bastore, 1)) (hin : vp_in i n) (kk : x_W p l e R s m args below meth c nL Y cells slots Q (pc + 1) L st (x_u σ k i.toNatClampNeg (vp_nar .boolean x))) : x_W p l e R s m args below meth c nL Y cells slots Q pc L (.int x :: .int i :: .ref k :: st) σ := by
  intro H locs ls hP hS hl
  rw [List.map_cons, List.map_cons, List.map_cons, x_v_r Y hk]
  have he := x_ws_at Y σ hk
  rw [x_ce_i Y hs (by decide)] at he
  have hset : (x_ws Y σ).set k (x_ad Y k, .inl (x_cy Y 2, n, .inl (upd (σ.1 k) i.toNatClampNeg (vp_nar .boolean x)))) = x_ws Y (x_u σ k i.toNatClampNeg (vp_nar .boolean x)) := by
    refine x_ws_set Y σ _ hk ?_ (fun q hq => ⟨va_up_ne _ _ hq, rfl⟩)
    rw [x_ce_i Y hs (by decide)]
    show Sum.inl (x_cy Y 2, n, Sum.inl (va_up σ.1 k _ k)) = _
    rw [va_up_self]
  exact va_zast C.1 C.2.1 C.2.2.2.2.2.1 hP.1 hP.2 hS k 2 he rfl hin hd (fun H1 locs1 g1 g2 g3 => kk H1 locs1 ls ⟨by rw [← hset]; exact g1, by rw [← hset]; exact g2⟩ g3 hl)
def x_w (σ : x_S) (k j : Nat) (x : Int64) : x_S := (σ.1, va_up σ.2 k (vp_updL (σ.2 k) j x))
theorem x_last (C : x_C p s m args c cc nL own Y) {k n : Nat} {i : Int32} {x : Int64} (hk : k < 64) (hs : x_sh k = .inr (3, n)) (hd : decode cc pc = .ok (.lastore, 1)) (hin : vp_in i n) (kk : x_W p l e R s m args below meth c nL Y cells slots Q (pc + 1) L st (x_w σ k i.toNatClampNeg x)) : x_W p l e R s m args below meth c nL Y cells slots Q pc L (.long x :: .int i :: .ref k :: st) σ := by
  intro H locs ls hP hS hl
  rw [List.map_cons, List.map_cons, List.map_cons, x_v_r Y hk]
  have he := x_ws_at Y σ hk
  rw [x_ce_l Y hs] at he
  have hset : (x_ws Y σ).set k (x_ad Y k, .inl (x_cy Y 3, n, .inr (.inl (vp_updL (σ.2 k) i.toNatClampNeg x)))) = x_ws Y (x_w σ k i.toNatClampNeg x) := by
    refine x_ws_set Y σ _ hk ?_ (fun q hq => ⟨rfl, va_up_ne _ _ hq⟩)
    rw [x_ce_l Y hs]
    show Sum.inl (x_cy Y 3, n, Sum.inr (Sum.inl (va_up σ.2 k _ k))) = _
    rw [va_up_self]
  exact va_last C.1 C.2.1 C.2.2.2.2.2.1 hP.1 hP.2 hS k 3 he rfl hin hd (fun H1 locs1 g1 g2 g3 => kk H1 locs1 ls ⟨by rw [← hset]; exact g1, by rw [← hset]; exact g2⟩ g3 hl)
theorem x_alen (C : x_C p s m args c cc nL own Y) {k n ty : Nat} (v : Int32) (hk : k < 64) (hs : x_sh k = .inr (ty, n)) (hty : ty < 3) (hv : Int32.ofNat n = v) (hd : decode cc pc = .ok (.arraylength, 1)) (kk : x_W p l e R s m args below meth c nL Y cells slots Q (pc + 1) L (.int v :: st) σ) : x_W p l e R s m args below meth c nL Y cells slots Q pc L (.ref k :: st) σ := by
  intro H locs ls hP hS hl
  rw [List.map_cons, x_v_r Y hk]
  have he := x_ws_at Y σ hk
  rw [x_ce_i Y hs (by omega)] at he
  have ht : (x_tys Y)[ty]? = some (x_cy Y ty, x_ty ty) := by
    rcases (show ty = 0 ∨ ty = 1 ∨ ty = 2 by omega) with rfl | rfl | rfl <;> rfl
  exact va_alen C.1 C.2.1 C.2.2.2.2.2.1 hP.1 k ty he ht hv hd (kk H locs ls hP hS hl)
theorem x_gets64 (C : x_C p s m args c cc nL own Y) {index : Nat} (hw : Cond.fieldLink own index RX8 "ROTATIONS" "[I" ∈ x_wd) (hd : decode cc pc = .ok (.getstatic index, 3)) (kk : x_W p l e R s m args below meth c nL Y cells slots Q (pc + 3) L (.ref 64 :: st) σ) : x_W p l e R s m args below meth c nL Y cells slots Q pc L st σ := by
  intro H locs ls hP hS hl
  obtain ⟨hx, hb, hml, hown, hts, hE⟩ := C
  exact va_gets hx hb hE.2.2.2.2.1.1 hS hown (hts _ hw) (fun _ h9 => h9) hd (kk H locs ls hP hS hl)
theorem x_gets65 (C : x_C p s m args c cc nL own Y) {index : Nat} (hw : Cond.fieldLink own index RX7 "GAPS" "[I" ∈ x_wd) (hd : decode cc pc = .ok (.getstatic index, 3)) (kk : x_W p l e R s m args below meth c nL Y cells slots Q (pc + 3) L (.ref 65 :: st) σ) : x_W p l e R s m args below meth c nL Y cells slots Q pc L st σ := by
  intro H locs ls hP hS hl
  obtain ⟨hx, hb, hml, hown, hts, hE⟩ := C
  exact va_gets hx hb hE.2.2.2.2.2.1.1 hS hown (hts _ hw) (fun _ h9 => h9) hd (kk H locs ls hP hS hl)
theorem x_tld64 (C : x_C p s m args c cc nL own Y) {i : Int32} (hd : decode cc pc = .ok (.iaload, 1)) (hin : vp_in i 72) (kk : x_W p l e R s m args below meth c nL Y cells slots Q (pc + 1) L (.int (x_rots.getD i.toNatClampNeg 0) :: st) σ) : x_W p l e R s m args below meth c nL Y cells slots Q pc L (.int i :: .ref 64 :: st) σ := by
  intro H locs ls hP hS hl
  obtain ⟨hx, hb, hml, hown, hts, hE⟩ := C
  exact va_ti hx hb hE.2.2.2.2.1.2 hS hin rfl hd (kk H locs ls hP hS hl)
theorem x_tld65 (C : x_C p s m args c cc nL own Y) {i : Int32} (hd : decode cc pc = .ok (.iaload, 1)) (hin : vp_in i 9) (kk : x_W p l e R s m args below meth c nL Y cells slots Q (pc + 1) L (.int (x_gaps.getD i.toNatClampNeg 0) :: st) σ) : x_W p l e R s m args below meth c nL Y cells slots Q pc L (.int i :: .ref 65 :: st) σ := by
  intro H locs ls hP hS hl
  obtain ⟨hx, hb, hml, hown, hts, hE⟩ := C
  exact va_ti hx hb hE.2.2.2.2.2.1.2 hS hin rfl hd (kk H locs ls hP hS hl)
theorem x_tlen65 (C : x_C p s m args c cc nL own Y) (hd : decode cc pc = .ok (.arraylength, 1)) (kk : x_W p l e R s m args below meth c nL Y cells slots Q (pc + 1) L (.int 9 :: st) σ) : x_W p l e R s m args below meth c nL Y cells slots Q pc L (.ref 65 :: st) σ := by
  intro H locs ls hP hS hl
  obtain ⟨hx, hb, hml, hown, hts, hE⟩ := C
  exact va_tlen hx hb hE.2.2.2.2.2.1.2 hS rfl hd (kk H locs ls hP hS hl)
end XW
