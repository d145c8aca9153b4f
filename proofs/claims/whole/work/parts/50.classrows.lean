/-! ===== System.arraycopy between int rows ===== -/
def x_KA (own : String) (index : Nat) : Prop := Cond.methodLink own index arraycopyName ∈ x_wd ∧ Cond.native arraycopyName ∈ x_wd ∧ Cond.static arraycopyName ∈ x_wd ∧ Cond.initialized "java/lang/System" ∈ x_wd
section XAC
variable {p : Program} {l : Launch} {e : Env} {R : Room} {s : State} {m : MethodId} {args : Array Value} {below : List Frame} {meth : Method} {c : Code} {cells slots : Nat} {Q : State → Prop} {cc : ByteArray} {nL : Nat} {own : String} {Y : x_Y} {pc : Nat} {L : x_Lo} {st : List Value} {σ : x_S}
theorem x_acopy (C : x_C p s m args c cc nL own Y) {k0 k1 n0 n1 sp dp n index : Nat} (hw : x_KA own index) (hk0 : k0 < 64) (hs0 : x_sh k0 = .inr (0, n0)) (hk1 : k1 < 64) (hs1 : x_sh k1 = .inr (0, n1)) (hb : n0 < 2 ^ 31 ∧ n1 < 2 ^ 31) (hd : decode cc pc = .ok (.invokestatic index, 3)) (h4 : sp + n ≤ n0) (h5 : dp + n ≤ n1)
    (hR : 1 ≤ R.frames ∧ (st.map fun v => v.category).sum + 18 ≤ R.locals)
    (kk : x_W p l e R s m args below meth c nL Y cells slots Q (pc + 3) L st (x_ui σ k1 (va_cpy (σ.1 k0) (σ.1 k1) sp dp n))) : x_W p l e R s m args below meth c nL Y cells slots Q pc L (.int (nI n) :: .int (nI dp) :: .ref k1 :: .int (nI sp) :: .ref k0 :: st) σ := by
  intro H locs ls hP hS hl
  rw [List.map_cons, List.map_cons, List.map_cons, List.map_cons, List.map_cons, x_v_r Y hk0, x_v_r Y hk1]
  have he0 := x_ws_at Y σ hk0
  rw [x_ce_i Y hs0 (by decide)] at he0
  have he1 := x_ws_at Y σ hk1
  rw [x_ce_i Y hs1 (by decide)] at he1
  have hc : ∀ j, j < 2 ^ 31 → (nI j).toNatClampNeg = j := fun j hj => by
    show (nI j).toInt.toNat = j
    rw [nI_toInt hj]
    exact Int.toNat_natCast j
  have hset : (x_ws Y σ).set k1 (x_ad Y k1, .inl (x_cy Y 0, n1, .inl (va_cpy (σ.1 k0) (σ.1 k1) sp dp n))) = x_ws Y (x_ui σ k1 (va_cpy (σ.1 k0) (σ.1 k1) sp dp n)) := by
    refine x_ws_set Y σ _ hk1 ?_ (fun q hq => ⟨va_up_ne _ _ hq, rfl⟩)
    rw [x_ce_i Y hs1 (by decide)]
    show Sum.inl (x_cy Y 0, n1, Sum.inl (va_up σ.1 k1 _ k1)) = _
    rw [va_up_self]
  refine va_copyi C.1 C.2.1 (by rw [C.2.2.1, hl.1]) C.2.2.2.1 (C.2.2.2.2.1 _ hw.1) (C.2.2.2.2.1 _ hw.2.1) (C.2.2.2.2.1 _ hw.2.2.1) (C.2.2.2.2.1 _ hw.2.2.2) C.2.2.2.2.2.1 hP.1 hP.2 hS k0 k1 0 0 (ty := .int) he0 he1 rfl rfl rfl (y_nneg (by omega)) (y_nneg (by omega)) (y_nneg (by omega)) (by rw [hc _ (by omega), hc _ (by omega)]; exact h4) (by rw [hc _ (by omega), hc _ (by omega)]; exact h5) (fun i _ => rfl) hR.1 ?_ hd (fun H1 locs1 g1 g2 g3 => kk H1 locs1 ls ⟨?_, ?_⟩ g3 hl)
  · rw [x_v_cats]
    exact hR.2
  · rw [hc _ (by omega), hc _ (by omega), hc _ (by omega), hset] at g1
    exact g1
  · rw [hc _ (by omega), hc _ (by omega), hc _ (by omega), hset] at g2
    exact g2
end XAC
theorem ka_X2_30 : x_KA RX2 30 := ⟨(x_wd_in (x_at (i := 345) (by decide +kernel)) rfl), (x_wd_in (x_at (i := 347) (by decide +kernel)) rfl), (x_wd_in (x_at (i := 346) (by decide +kernel)) rfl), (x_wd_in (x_at (i := 18) (by decide +kernel)) rfl)⟩
theorem ka_X4_14 : x_KA RX4 14 := ⟨(x_wd_in (x_at (i := 840) (by decide +kernel)) rfl), (x_wd_in (x_at (i := 347) (by decide +kernel)) rfl), (x_wd_in (x_at (i := 346) (by decide +kernel)) rfl), (x_wd_in (x_at (i := 18) (by decide +kernel)) rfl)⟩
