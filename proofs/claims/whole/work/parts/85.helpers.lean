/-! ===== the law's helpers ===== -/
/-- which of the classes it is, from 1 on -/
def x_cd : List String → String → Nat
  | [], _ => 0
  | e :: r, E => if E = e then 1 else x_cd r E + 1
theorem x_widen {p : Program} {l : Launch} {e : Env} {R : Room} {s : State} {m : MethodId} {args : Array Value} {below : List Frame} {meth : Method} {c : Code} {cells slots k n : Nat} {Q : State → Prop} {nL : Nat} {Y : x_Y} {pc : Nat} {L : x_Lo} {st : List Value} {σ : x_S} (hc : cells ≤ k) (hs : slots ≤ n) (kk : x_W p l e R s m args below meth c nL Y k n Q pc L st σ) : x_W p l e R s m args below meth c nL Y cells slots Q pc L st σ :=
  fun H locs ls hP hS hl => W.widen hc hs (kk H locs ls hP hS hl)
theorem kx_ISE : Cond.classLink RL 13 x_eISE ∈ x_wd := x_wd_in (x_at (i := 552) (by decide +kernel)) rfl
theorem kxc_ISE : Cond.castable x_eISE x_eISE ∈ x_ow := x_ow_in (x_at (i := 559) (by decide +kernel)) rfl
theorem kx_IAE : Cond.classLink RL 19 x_eIAE ∈ x_wd := x_wd_in (x_at (i := 631) (by decide +kernel)) rfl
theorem kxc_IAE : Cond.castable x_eIAE x_eIAE ∈ x_ow := x_ow_in (x_at (i := 638) (by decide +kernel)) rfl
theorem kx_IOB : Cond.classLink RL 25 x_eIOB ∈ x_wd := x_wd_in (x_at (i := 655) (by decide +kernel)) rfl
theorem kxc_IOB : Cond.castable x_eIOB x_eIOB ∈ x_ow := x_ow_in (x_at (i := 666) (by decide +kernel)) rfl
theorem kh_L_feed : x_KBH yL_feed cL_feed 8 (some .int) [(0, 16, 19, 13)] 7 := ⟨x_wd_in (x_at (i := 0) (by decide +kernel)) rfl, x_wd_in (x_at (i := 551) (by decide +kernel)) rfl, by decide +kernel, by decide +kernel, by decide +kernel⟩
set_option maxRecDepth 100000 in
theorem c_L_feed {l : Launch} {Y : x_Y} {σ : x_S} {d k : Nat} (p1 p2 p3 p4 p5 : Int32) {post : Option Value → x_S → Prop} {px : String → x_S → Prop} (hM : x_MX l yX11_feed cX11_feed 6 (some .int) d k Y [.ref 0, .int p1, .int p2, .int p3, .int p4, .int p5] σ post px) (hd : d ≤ 7) (hp : ∀ r τ, post r τ → ∃ v, r = some (.int v)) (hx : ∀ E τ, px E τ → E = x_eISE) :
    x_MH l yL_feed cL_feed 8 (some .int) [(0, 16, 19, 13)] 8 k Y [.ref 0, .int p1, .int p2, .int p3, .int p4, .int p5, .ref 63] σ (fun r τ => (∃ v τ0, post (some (.int v)) τ0 ∧ r = some (.int (nI 0)) ∧ τ = x_w τ0 63 0 v.toInt64) ∨ (∃ E, px E τ ∧ r = some (.int (nI (x_cd [x_eISE] E))))) := by
  refine x_startH (by decide) (Nat.le_of_ble_eq_true rfl) ?_
  intro xp xe xs xm xg xb xt xc C xr xk ht
  refine x_aload C (i := 6) dL_feed_0 rfl ?_
  refine x_iconst C (nI 0) dL_feed_2 rfl ?_
  refine x_aload_n C (i := 0) dL_feed_3 rfl rfl ?_
  refine x_iload_n C (i := 1) dL_feed_4 rfl rfl ?_
  refine x_iload_n C (i := 2) dL_feed_5 rfl rfl ?_
  refine x_iload_n C (i := 3) dL_feed_6 rfl rfl ?_
  refine x_iload C (i := 4) dL_feed_7 rfl ?_
  refine x_iload C (i := 5) dL_feed_9 rfl ?_
  refine x_callVH C (as := [.int p1, .int p2, .int p3, .int p4, .int p5]) (st := [.int (nI 0), .ref 63]) hM kb_X11_feed kv_L_7 dL_feed_11 rfl rfl (Nat.le_of_ble_eq_true rfl) ⟨by show d + 1 ≤ 8; omega, by show 8 + (6 + 11) + 40 * d ≤ 40 * 8; omega⟩ ⟨by show 0 + k ≤ k; omega, by show 0 + 6 * k ≤ 6 * k; omega⟩ ko_0 ?_ ?_
  · intro E τ hE
    have hE9 := hx E τ hE
    subst hE9
    · refine ⟨19, ⟨[], ⟨0, 16, 19, 13⟩, [], by rw [ht]; rfl, fun z h => absurd h List.not_mem_nil, ⟨by decide, by decide, kx_ISE⟩, kxc_ISE, rfl⟩, Or.inr ⟨7, by decide, dL_feed_19, ?_⟩⟩
      refine x_iconst C (nI 1) dL_feed_21 rfl ?_
      refine x_widen (k := k) (n := 6 * k) (by omega) (by omega) ?_
      exact x_iret C xr xk dL_feed_22 (Or.inr ⟨_, hE, rfl⟩)
  · intro r τ hr
    obtain ⟨v, rfl⟩ := hp r τ hr
    refine x_i2l C dL_feed_14 ?_
    refine x_lastN C (by decide) rfl (by decide) dL_feed_15 (by decide) ?_
    refine x_goto C 23 dL_feed_16 (by decide) ?_
    refine x_iconst C (nI 0) dL_feed_23 rfl ?_
    refine x_widen (k := k) (n := 6 * k) (by omega) (by omega) ?_
    exact x_iret C xr xk dL_feed_24 (Or.inl ⟨_, _, hr, rfl, rfl⟩)
theorem kh_L_end : x_KBH yL_end cL_end 3 (some .int) [(0, 5, 8, 19)] 2 := ⟨x_wd_in (x_at (i := 0) (by decide +kernel)) rfl, x_wd_in (x_at (i := 630) (by decide +kernel)) rfl, by decide +kernel, by decide +kernel, by decide +kernel⟩
set_option maxRecDepth 100000 in
theorem c_L_end {l : Launch} {Y : x_Y} {σ : x_S} {d k : Nat} (p1 : Int32) {post : Option Value → x_S → Prop} {px : String → x_S → Prop} (hM : x_MX l yX11_end cX11_end 2 none d k Y [.ref 0, .int p1] σ post px) (hd : d ≤ 7) (hp : ∀ r τ, post r τ → r = none) (hx : ∀ E τ, px E τ → E = x_eIAE) :
    x_MH l yL_end cL_end 3 (some .int) [(0, 5, 8, 19)] 8 k Y [.ref 0, .int p1] σ (fun r τ => (∃ τ0, post none τ0 ∧ r = some (.int (nI 0)) ∧ τ = τ0) ∨ (∃ E, px E τ ∧ r = some (.int (nI (x_cd [x_eIAE] E))))) := by
  refine x_startH (by decide) (Nat.le_of_ble_eq_true rfl) ?_
  intro xp xe xs xm xg xb xt xc C xr xk ht
  refine x_aload_n C (i := 0) dL_end_0 rfl rfl ?_
  refine x_iload_n C (i := 1) dL_end_1 rfl rfl ?_
  refine x_callVH C (as := [.int p1]) (st := []) hM kb_X11_end kv_L_15 dL_end_2 rfl rfl (Nat.le_of_ble_eq_true rfl) ⟨by show d + 1 ≤ 8; omega, by show 8 + (2 + 11) + 40 * d ≤ 40 * 8; omega⟩ ⟨by show 0 + k ≤ k; omega, by show 0 + 6 * k ≤ 6 * k; omega⟩ ko_0 ?_ ?_
  · intro E τ hE
    have hE9 := hx E τ hE
    subst hE9
    · refine ⟨8, ⟨[], ⟨0, 5, 8, 19⟩, [], by rw [ht]; rfl, fun z h => absurd h List.not_mem_nil, ⟨by decide, by decide, kx_IAE⟩, kxc_IAE, rfl⟩, Or.inl ⟨2, by decide, dL_end_8, ?_⟩⟩
      refine x_iconst C (nI 1) dL_end_9 rfl ?_
      refine x_widen (k := k) (n := 6 * k) (by omega) (by omega) ?_
      exact x_iret C xr xk dL_end_10 (Or.inr ⟨_, hE, rfl⟩)
  · intro r τ hr
    have h9 := hp r τ hr
    subst h9
    refine x_goto C 11 dL_end_5 (by decide) ?_
    refine x_iconst C (nI 0) dL_end_11 rfl ?_
    refine x_widen (k := k) (n := 6 * k) (by omega) (by omega) ?_
    exact x_iret C xr xk dL_end_12 (Or.inl ⟨_, hr, rfl, rfl⟩)
theorem kh_L_op : x_KBH yL_op cL_op 5 (some .int) [(0, 10, 13, 25)] 4 := ⟨x_wd_in (x_at (i := 0) (by decide +kernel)) rfl, x_wd_in (x_at (i := 654) (by decide +kernel)) rfl, by decide +kernel, by decide +kernel, by decide +kernel⟩
set_option maxRecDepth 100000 in
theorem c_L_op {l : Launch} {Y : x_Y} {σ : x_S} {d k : Nat} (p1 p2 : Int32) {post : Option Value → x_S → Prop} {px : String → x_S → Prop} (hM : x_MX l yX11_op cX11_op 3 (some .int) d k Y [.ref 0, .int p1, .int p2] σ post px) (hd : d ≤ 7) (hp : ∀ r τ, post r τ → ∃ v, r = some (.int v)) (hx : ∀ E τ, px E τ → E = x_eIOB) :
    x_MH l yL_op cL_op 5 (some .int) [(0, 10, 13, 25)] 8 k Y [.ref 0, .int p1, .int p2, .ref 63] σ (fun r τ => (∃ v τ0, post (some (.int v)) τ0 ∧ r = some (.int (nI 0)) ∧ τ = x_w τ0 63 0 v.toInt64) ∨ (∃ E, px E τ ∧ r = some (.int (nI (x_cd [x_eIOB] E))))) := by
  refine x_startH (by decide) (Nat.le_of_ble_eq_true rfl) ?_
  intro xp xe xs xm xg xb xt xc C xr xk ht
  refine x_aload_n C (i := 3) dL_op_0 rfl rfl ?_
  refine x_iconst C (nI 0) dL_op_1 rfl ?_
  refine x_aload_n C (i := 0) dL_op_2 rfl rfl ?_
  refine x_iload_n C (i := 1) dL_op_3 rfl rfl ?_
  refine x_iload_n C (i := 2) dL_op_4 rfl rfl ?_
  refine x_callVH C (as := [.int p1, .int p2]) (st := [.int (nI 0), .ref 63]) hM kb_X11_op kv_L_21 dL_op_5 rfl rfl (Nat.le_of_ble_eq_true rfl) ⟨by show d + 1 ≤ 8; omega, by show 8 + (3 + 11) + 40 * d ≤ 40 * 8; omega⟩ ⟨by show 0 + k ≤ k; omega, by show 0 + 6 * k ≤ 6 * k; omega⟩ ko_0 ?_ ?_
  · intro E τ hE
    have hE9 := hx E τ hE
    subst hE9
    · refine ⟨13, ⟨[], ⟨0, 10, 13, 25⟩, [], by rw [ht]; rfl, fun z h => absurd h List.not_mem_nil, ⟨by decide, by decide, kx_IOB⟩, kxc_IOB, rfl⟩, Or.inr ⟨4, by decide, dL_op_13, ?_⟩⟩
      refine x_iconst C (nI 1) dL_op_15 rfl ?_
      refine x_widen (k := k) (n := 6 * k) (by omega) (by omega) ?_
      exact x_iret C xr xk dL_op_16 (Or.inr ⟨_, hE, rfl⟩)
  · intro r τ hr
    obtain ⟨v, rfl⟩ := hp r τ hr
    refine x_i2l C dL_op_8 ?_
    refine x_lastN C (by decide) rfl (by decide) dL_op_9 (by decide) ?_
    refine x_goto C 17 dL_op_10 (by decide) ?_
    refine x_iconst C (nI 0) dL_op_17 rfl ?_
    refine x_widen (k := k) (n := 6 * k) (by omega) (by omega) ?_
    exact x_iret C xr xk dL_op_18 (Or.inl ⟨_, _, hr, rfl, rfl⟩)
theorem kh_L_sent : x_KBH yL_sent cL_sent 8 (some .int) [(0, 16, 19, 25), (0, 16, 23, 19)] 7 := ⟨x_wd_in (x_at (i := 0) (by decide +kernel)) rfl, x_wd_in (x_at (i := 686) (by decide +kernel)) rfl, by decide +kernel, by decide +kernel, by decide +kernel⟩
set_option maxRecDepth 100000 in
theorem c_L_sent {l : Launch} {Y : x_Y} {σ : x_S} {d k : Nat} (p1 p2 p3 p4 p5 : Int32) {post : Option Value → x_S → Prop} {px : String → x_S → Prop} (hM : x_MX l yX11_sent cX11_sent 6 (some .int) d k Y [.ref 0, .int p1, .int p2, .int p3, .int p4, .int p5] σ post px) (hd : d ≤ 7) (hp : ∀ r τ, post r τ → ∃ v, r = some (.int v)) (hx : ∀ E τ, px E τ → E = x_eIOB ∨ E = x_eIAE) :
    x_MH l yL_sent cL_sent 8 (some .int) [(0, 16, 19, 25), (0, 16, 23, 19)] 8 k Y [.ref 0, .int p1, .int p2, .int p3, .int p4, .int p5, .ref 63] σ (fun r τ => (∃ v τ0, post (some (.int v)) τ0 ∧ r = some (.int (nI 0)) ∧ τ = x_w τ0 63 0 v.toInt64) ∨ (∃ E, px E τ ∧ r = some (.int (nI (x_cd [x_eIOB, x_eIAE] E))))) := by
  refine x_startH (by decide) (Nat.le_of_ble_eq_true rfl) ?_
  intro xp xe xs xm xg xb xt xc C xr xk ht
  refine x_aload C (i := 6) dL_sent_0 rfl ?_
  refine x_iconst C (nI 0) dL_sent_2 rfl ?_
  refine x_aload_n C (i := 0) dL_sent_3 rfl rfl ?_
  refine x_iload_n C (i := 1) dL_sent_4 rfl rfl ?_
  refine x_iload_n C (i := 2) dL_sent_5 rfl rfl ?_
  refine x_iload_n C (i := 3) dL_sent_6 rfl rfl ?_
  refine x_iload C (i := 4) dL_sent_7 rfl ?_
  refine x_iload C (i := 5) dL_sent_9 rfl ?_
  refine x_callVH C (as := [.int p1, .int p2, .int p3, .int p4, .int p5]) (st := [.int (nI 0), .ref 63]) hM kb_X11_sent kv_L_27 dL_sent_11 rfl rfl (Nat.le_of_ble_eq_true rfl) ⟨by show d + 1 ≤ 8; omega, by show 8 + (6 + 11) + 40 * d ≤ 40 * 8; omega⟩ ⟨by show 0 + k ≤ k; omega, by show 0 + 6 * k ≤ 6 * k; omega⟩ ko_0 ?_ ?_
  · intro E τ hE
    have hE9 := hx E τ hE
    rcases hE9 with rfl | rfl
    · refine ⟨19, ⟨[], ⟨0, 16, 19, 25⟩, [⟨0, 16, 23, 19⟩], by rw [ht]; rfl, fun z h => absurd h List.not_mem_nil, ⟨by decide, by decide, kx_IOB⟩, kxc_IOB, rfl⟩, Or.inr ⟨7, by decide, dL_sent_19, ?_⟩⟩
      refine x_iconst C (nI 1) dL_sent_21 rfl ?_
      refine x_widen (k := k) (n := 6 * k) (by omega) (by omega) ?_
      exact x_iret C xr xk dL_sent_22 (Or.inr ⟨_, hE, rfl⟩)
    · refine ⟨23, ⟨[⟨0, 16, 19, 25⟩], ⟨0, 16, 23, 19⟩, [], by rw [ht]; rfl, fun z h => by
        have h := List.mem_singleton.mp h
        subst h
        exact ⟨by decide, by decide, _, kx_IOB, by decide⟩, ⟨by decide, by decide, kx_IAE⟩, kxc_IAE, rfl⟩, Or.inr ⟨7, by decide, dL_sent_23, ?_⟩⟩
      refine x_iconst C (nI 2) dL_sent_25 rfl ?_
      refine x_widen (k := k) (n := 6 * k) (by omega) (by omega) ?_
      exact x_iret C xr xk dL_sent_26 (Or.inr ⟨_, hE, rfl⟩)
  · intro r τ hr
    obtain ⟨v, rfl⟩ := hp r τ hr
    refine x_i2l C dL_sent_14 ?_
    refine x_lastN C (by decide) rfl (by decide) dL_sent_15 (by decide) ?_
    refine x_goto C 27 dL_sent_16 (by decide) ?_
    refine x_iconst C (nI 0) dL_sent_27 rfl ?_
    refine x_widen (k := k) (n := 6 * k) (by omega) (by omega) ?_
    exact x_iret C xr xk dL_sent_28 (Or.inl ⟨_, _, hr, rfl, rfl⟩)
theorem kh_L_absent : x_KBH yL_absent cL_absent 6 (some .int) [(0, 12, 15, 13), (0, 12, 19, 19)] 5 := ⟨x_wd_in (x_at (i := 0) (by decide +kernel)) rfl, x_wd_in (x_at (i := 710) (by decide +kernel)) rfl, by decide +kernel, by decide +kernel, by decide +kernel⟩
set_option maxRecDepth 100000 in
theorem c_L_absent {l : Launch} {Y : x_Y} {σ : x_S} {d k : Nat} (p1 p2 p3 : Int32) {post : Option Value → x_S → Prop} {px : String → x_S → Prop} (hM : x_MX l yX11_absent cX11_absent 4 (some .int) d k Y [.ref 0, .int p1, .int p2, .int p3] σ post px) (hd : d ≤ 7) (hp : ∀ r τ, post r τ → ∃ v, r = some (.int v)) (hx : ∀ E τ, px E τ → E = x_eISE ∨ E = x_eIAE) :
    x_MH l yL_absent cL_absent 6 (some .int) [(0, 12, 15, 13), (0, 12, 19, 19)] 8 k Y [.ref 0, .int p1, .int p2, .int p3, .ref 63] σ (fun r τ => (∃ v τ0, post (some (.int v)) τ0 ∧ r = some (.int (nI 0)) ∧ τ = x_w τ0 63 0 v.toInt64) ∨ (∃ E, px E τ ∧ r = some (.int (nI (x_cd [x_eISE, x_eIAE] E))))) := by
  refine x_startH (by decide) (Nat.le_of_ble_eq_true rfl) ?_
  intro xp xe xs xm xg xb xt xc C xr xk ht
  refine x_aload C (i := 4) dL_absent_0 rfl ?_
  refine x_iconst C (nI 0) dL_absent_2 rfl ?_
  refine x_aload_n C (i := 0) dL_absent_3 rfl rfl ?_
  refine x_iload_n C (i := 1) dL_absent_4 rfl rfl ?_
  refine x_iload_n C (i := 2) dL_absent_5 rfl rfl ?_
  refine x_iload_n C (i := 3) dL_absent_6 rfl rfl ?_
  refine x_callVH C (as := [.int p1, .int p2, .int p3]) (st := [.int (nI 0), .ref 63]) hM kb_X11_absent kv_L_30 dL_absent_7 rfl rfl (Nat.le_of_ble_eq_true rfl) ⟨by show d + 1 ≤ 8; omega, by show 8 + (4 + 11) + 40 * d ≤ 40 * 8; omega⟩ ⟨by show 0 + k ≤ k; omega, by show 0 + 6 * k ≤ 6 * k; omega⟩ ko_0 ?_ ?_
  · intro E τ hE
    have hE9 := hx E τ hE
    rcases hE9 with rfl | rfl
    · refine ⟨15, ⟨[], ⟨0, 12, 15, 13⟩, [⟨0, 12, 19, 19⟩], by rw [ht]; rfl, fun z h => absurd h List.not_mem_nil, ⟨by decide, by decide, kx_ISE⟩, kxc_ISE, rfl⟩, Or.inr ⟨5, by decide, dL_absent_15, ?_⟩⟩
      refine x_iconst C (nI 1) dL_absent_17 rfl ?_
      refine x_widen (k := k) (n := 6 * k) (by omega) (by omega) ?_
      exact x_iret C xr xk dL_absent_18 (Or.inr ⟨_, hE, rfl⟩)
    · refine ⟨19, ⟨[⟨0, 12, 15, 13⟩], ⟨0, 12, 19, 19⟩, [], by rw [ht]; rfl, fun z h => by
        have h := List.mem_singleton.mp h
        subst h
        exact ⟨by decide, by decide, _, kx_ISE, by decide⟩, ⟨by decide, by decide, kx_IAE⟩, kxc_IAE, rfl⟩, Or.inr ⟨5, by decide, dL_absent_19, ?_⟩⟩
      refine x_iconst C (nI 2) dL_absent_21 rfl ?_
      refine x_widen (k := k) (n := 6 * k) (by omega) (by omega) ?_
      exact x_iret C xr xk dL_absent_22 (Or.inr ⟨_, hE, rfl⟩)
  · intro r τ hr
    obtain ⟨v, rfl⟩ := hp r τ hr
    refine x_i2l C dL_absent_10 ?_
    refine x_lastN C (by decide) rfl (by decide) dL_absent_11 (by decide) ?_
    refine x_goto C 23 dL_absent_12 (by decide) ?_
    refine x_iconst C (nI 0) dL_absent_23 rfl ?_
    refine x_widen (k := k) (n := 6 * k) (by omega) (by omega) ?_
    exact x_iret C xr xk dL_absent_24 (Or.inl ⟨_, _, hr, rfl, rfl⟩)
theorem kh_L_greatest : x_KBH yL_greatest cL_greatest 7 (some .int) [(0, 14, 17, 13), (0, 14, 21, 19), (0, 14, 25, 25)] 6 := ⟨x_wd_in (x_at (i := 0) (by decide +kernel)) rfl, x_wd_in (x_at (i := 728) (by decide +kernel)) rfl, by decide +kernel, by decide +kernel, by decide +kernel⟩
set_option maxRecDepth 100000 in
theorem c_L_greatest {l : Launch} {Y : x_Y} {σ : x_S} {d k : Nat} (p1 p2 p3 p4 : Int32) {post : Option Value → x_S → Prop} {px : String → x_S → Prop} (hM : x_MX l yX11_greatest cX11_greatest 5 (some .int) d k Y [.ref 0, .int p1, .int p2, .int p3, .int p4] σ post px) (hd : d ≤ 7) (hp : ∀ r τ, post r τ → ∃ v, r = some (.int v)) (hx : ∀ E τ, px E τ → E = x_eISE ∨ E = x_eIAE ∨ E = x_eIOB) :
    x_MH l yL_greatest cL_greatest 7 (some .int) [(0, 14, 17, 13), (0, 14, 21, 19), (0, 14, 25, 25)] 8 k Y [.ref 0, .int p1, .int p2, .int p3, .int p4, .ref 63] σ (fun r τ => (∃ v τ0, post (some (.int v)) τ0 ∧ r = some (.int (nI 0)) ∧ τ = x_w τ0 63 0 v.toInt64) ∨ (∃ E, px E τ ∧ r = some (.int (nI (x_cd [x_eISE, x_eIAE, x_eIOB] E))))) := by
  refine x_startH (by decide) (Nat.le_of_ble_eq_true rfl) ?_
  intro xp xe xs xm xg xb xt xc C xr xk ht
  refine x_aload C (i := 5) dL_greatest_0 rfl ?_
  refine x_iconst C (nI 0) dL_greatest_2 rfl ?_
  refine x_aload_n C (i := 0) dL_greatest_3 rfl rfl ?_
  refine x_iload_n C (i := 1) dL_greatest_4 rfl rfl ?_
  refine x_iload_n C (i := 2) dL_greatest_5 rfl rfl ?_
  refine x_iload_n C (i := 3) dL_greatest_6 rfl rfl ?_
  refine x_iload C (i := 4) dL_greatest_7 rfl ?_
  refine x_callVH C (as := [.int p1, .int p2, .int p3, .int p4]) (st := [.int (nI 0), .ref 63]) hM kb_X11_greatest kv_L_34 dL_greatest_9 rfl rfl (Nat.le_of_ble_eq_true rfl) ⟨by show d + 1 ≤ 8; omega, by show 8 + (5 + 11) + 40 * d ≤ 40 * 8; omega⟩ ⟨by show 0 + k ≤ k; omega, by show 0 + 6 * k ≤ 6 * k; omega⟩ ko_0 ?_ ?_
  · intro E τ hE
    have hE9 := hx E τ hE
    rcases hE9 with rfl | rfl | rfl
    · refine ⟨17, ⟨[], ⟨0, 14, 17, 13⟩, [⟨0, 14, 21, 19⟩, ⟨0, 14, 25, 25⟩], by rw [ht]; rfl, fun z h => absurd h List.not_mem_nil, ⟨by decide, by decide, kx_ISE⟩, kxc_ISE, rfl⟩, Or.inr ⟨6, by decide, dL_greatest_17, ?_⟩⟩
      refine x_iconst C (nI 1) dL_greatest_19 rfl ?_
      refine x_widen (k := k) (n := 6 * k) (by omega) (by omega) ?_
      exact x_iret C xr xk dL_greatest_20 (Or.inr ⟨_, hE, rfl⟩)
    · refine ⟨21, ⟨[⟨0, 14, 17, 13⟩], ⟨0, 14, 21, 19⟩, [⟨0, 14, 25, 25⟩], by rw [ht]; rfl, fun z h => by
        have h := List.mem_singleton.mp h
        subst h
        exact ⟨by decide, by decide, _, kx_ISE, by decide⟩, ⟨by decide, by decide, kx_IAE⟩, kxc_IAE, rfl⟩, Or.inr ⟨6, by decide, dL_greatest_21, ?_⟩⟩
      refine x_iconst C (nI 2) dL_greatest_23 rfl ?_
      refine x_widen (k := k) (n := 6 * k) (by omega) (by omega) ?_
      exact x_iret C xr xk dL_greatest_24 (Or.inr ⟨_, hE, rfl⟩)
    · refine ⟨25, ⟨[⟨0, 14, 17, 13⟩, ⟨0, 14, 21, 19⟩], ⟨0, 14, 25, 25⟩, [], by rw [ht]; rfl, fun z h => by
        simp only [List.mem_cons, List.not_mem_nil, or_false] at h
        rcases h with rfl | rfl
        · exact ⟨by decide, by decide, _, kx_ISE, by decide⟩
        · exact ⟨by decide, by decide, _, kx_IAE, by decide⟩, ⟨by decide, by decide, kx_IOB⟩, kxc_IOB, rfl⟩, Or.inr ⟨6, by decide, dL_greatest_25, ?_⟩⟩
      refine x_iconst C (nI 3) dL_greatest_27 rfl ?_
      refine x_widen (k := k) (n := 6 * k) (by omega) (by omega) ?_
      exact x_iret C xr xk dL_greatest_28 (Or.inr ⟨_, hE, rfl⟩)
  · intro r τ hr
    obtain ⟨v, rfl⟩ := hp r τ hr
    refine x_i2l C dL_greatest_12 ?_
    refine x_lastN C (by decide) rfl (by decide) dL_greatest_13 (by decide) ?_
    refine x_goto C 29 dL_greatest_14 (by decide) ?_
    refine x_iconst C (nI 0) dL_greatest_29 rfl ?_
    refine x_widen (k := k) (n := 6 * k) (by omega) (by omega) ?_
    exact x_iret C xr xk dL_greatest_30 (Or.inl ⟨_, _, hr, rfl, rfl⟩)
theorem kh_L_reflection : x_KBH yL_reflection cL_reflection 5 (some .int) [(0, 10, 13, 25)] 4 := ⟨x_wd_in (x_at (i := 0) (by decide +kernel)) rfl, x_wd_in (x_at (i := 759) (by decide +kernel)) rfl, by decide +kernel, by decide +kernel, by decide +kernel⟩
set_option maxRecDepth 100000 in
theorem c_L_reflection {l : Launch} {Y : x_Y} {σ : x_S} {d k : Nat} (p1 p2 : Int32) {post : Option Value → x_S → Prop} {px : String → x_S → Prop} (hM : x_MX l yX11_reflection cX11_reflection 3 (some .int) d k Y [.ref 0, .int p1, .int p2] σ post px) (hd : d ≤ 7) (hp : ∀ r τ, post r τ → ∃ v, r = some (.int v)) (hx : ∀ E τ, px E τ → E = x_eIOB) :
    x_MH l yL_reflection cL_reflection 5 (some .int) [(0, 10, 13, 25)] 8 k Y [.ref 0, .int p1, .int p2, .ref 63] σ (fun r τ => (∃ v τ0, post (some (.int v)) τ0 ∧ r = some (.int (nI 0)) ∧ τ = x_w τ0 63 0 v.toInt64) ∨ (∃ E, px E τ ∧ r = some (.int (nI (x_cd [x_eIOB] E))))) := by
  refine x_startH (by decide) (Nat.le_of_ble_eq_true rfl) ?_
  intro xp xe xs xm xg xb xt xc C xr xk ht
  refine x_aload_n C (i := 3) dL_reflection_0 rfl rfl ?_
  refine x_iconst C (nI 0) dL_reflection_1 rfl ?_
  refine x_aload_n C (i := 0) dL_reflection_2 rfl rfl ?_
  refine x_iload_n C (i := 1) dL_reflection_3 rfl rfl ?_
  refine x_iload_n C (i := 2) dL_reflection_4 rfl rfl ?_
  refine x_callVH C (as := [.int p1, .int p2]) (st := [.int (nI 0), .ref 63]) hM kb_X11_reflection kv_L_38 dL_reflection_5 rfl rfl (Nat.le_of_ble_eq_true rfl) ⟨by show d + 1 ≤ 8; omega, by show 8 + (3 + 11) + 40 * d ≤ 40 * 8; omega⟩ ⟨by show 0 + k ≤ k; omega, by show 0 + 6 * k ≤ 6 * k; omega⟩ ko_0 ?_ ?_
  · intro E τ hE
    have hE9 := hx E τ hE
    subst hE9
    · refine ⟨13, ⟨[], ⟨0, 10, 13, 25⟩, [], by rw [ht]; rfl, fun z h => absurd h List.not_mem_nil, ⟨by decide, by decide, kx_IOB⟩, kxc_IOB, rfl⟩, Or.inr ⟨4, by decide, dL_reflection_13, ?_⟩⟩
      refine x_iconst C (nI 1) dL_reflection_15 rfl ?_
      refine x_widen (k := k) (n := 6 * k) (by omega) (by omega) ?_
      exact x_iret C xr xk dL_reflection_16 (Or.inr ⟨_, hE, rfl⟩)
  · intro r τ hr
    obtain ⟨v, rfl⟩ := hp r τ hr
    refine x_i2l C dL_reflection_8 ?_
    refine x_lastN C (by decide) rfl (by decide) dL_reflection_9 (by decide) ?_
    refine x_goto C 17 dL_reflection_10 (by decide) ?_
    refine x_iconst C (nI 0) dL_reflection_17 rfl ?_
    refine x_widen (k := k) (n := 6 * k) (by omega) (by omega) ?_
    exact x_iret C xr xk dL_reflection_18 (Or.inl ⟨_, _, hr, rfl, rfl⟩)
theorem kh_L_merge : x_KBH yL_merge cL_merge 3 (some .int) [(0, 8, 11, 13)] 2 := ⟨x_wd_in (x_at (i := 0) (by decide +kernel)) rfl, x_wd_in (x_at (i := 772) (by decide +kernel)) rfl, by decide +kernel, by decide +kernel, by decide +kernel⟩
set_option maxRecDepth 100000 in
theorem c_L_merge {l : Launch} {Y : x_Y} {σ : x_S} {d k : Nat} {post : Option Value → x_S → Prop} {px : String → x_S → Prop} (hM : x_MX l yX11_merge cX11_merge 1 (some .int) d k Y [.ref 0] σ post px) (hd : d ≤ 7) (hp : ∀ r τ, post r τ → ∃ v, r = some (.int v)) (hx : ∀ E τ, px E τ → E = x_eISE) :
    x_MH l yL_merge cL_merge 3 (some .int) [(0, 8, 11, 13)] 8 k Y [.ref 0, .ref 63] σ (fun r τ => (∃ v τ0, post (some (.int v)) τ0 ∧ r = some (.int (nI 0)) ∧ τ = x_w τ0 63 0 v.toInt64) ∨ (∃ E, px E τ ∧ r = some (.int (nI (x_cd [x_eISE] E))))) := by
  refine x_startH (by decide) (Nat.le_of_ble_eq_true rfl) ?_
  intro xp xe xs xm xg xb xt xc C xr xk ht
  refine x_aload_n C (i := 1) dL_merge_0 rfl rfl ?_
  refine x_iconst C (nI 0) dL_merge_1 rfl ?_
  refine x_aload_n C (i := 0) dL_merge_2 rfl rfl ?_
  refine x_callVH C (as := []) (st := [.int (nI 0), .ref 63]) hM kb_X11_merge kv_L_41 dL_merge_3 rfl rfl (Nat.le_of_ble_eq_true rfl) ⟨by show d + 1 ≤ 8; omega, by show 8 + (1 + 11) + 40 * d ≤ 40 * 8; omega⟩ ⟨by show 0 + k ≤ k; omega, by show 0 + 6 * k ≤ 6 * k; omega⟩ ko_0 ?_ ?_
  · intro E τ hE
    have hE9 := hx E τ hE
    subst hE9
    · refine ⟨11, ⟨[], ⟨0, 8, 11, 13⟩, [], by rw [ht]; rfl, fun z h => absurd h List.not_mem_nil, ⟨by decide, by decide, kx_ISE⟩, kxc_ISE, rfl⟩, Or.inl ⟨2, by decide, dL_merge_11, ?_⟩⟩
      refine x_iconst C (nI 1) dL_merge_12 rfl ?_
      refine x_widen (k := k) (n := 6 * k) (by omega) (by omega) ?_
      exact x_iret C xr xk dL_merge_13 (Or.inr ⟨_, hE, rfl⟩)
  · intro r τ hr
    obtain ⟨v, rfl⟩ := hp r τ hr
    refine x_i2l C dL_merge_6 ?_
    refine x_lastN C (by decide) rfl (by decide) dL_merge_7 (by decide) ?_
    refine x_goto C 14 dL_merge_8 (by decide) ?_
    refine x_iconst C (nI 0) dL_merge_14 rfl ?_
    refine x_widen (k := k) (n := 6 * k) (by omega) (by omega) ?_
    exact x_iret C xr xk dL_merge_15 (Or.inl ⟨_, _, hr, rfl, rfl⟩)
theorem kh_L_row : x_KBH yL_row cL_row 5 (some .int) [(0, 9, 12, 25)] 4 := ⟨x_wd_in (x_at (i := 0) (by decide +kernel)) rfl, x_wd_in (x_at (i := 868) (by decide +kernel)) rfl, by decide +kernel, by decide +kernel, by decide +kernel⟩
set_option maxRecDepth 100000 in
theorem c_L_row {l : Launch} {Y : x_Y} {σ : x_S} {d k : Nat} (p1 p2 : Int32) {post : Option Value → x_S → Prop} {px : String → x_S → Prop} (hM : x_MX l yX11_row cX11_row 3 (some .long) d k Y [.ref 0, .int p1, .int p2] σ post px) (hd : d ≤ 7) (hp : ∀ r τ, post r τ → ∃ v, r = some (.long v)) (hx : ∀ E τ, px E τ → E = x_eIOB) :
    x_MH l yL_row cL_row 5 (some .int) [(0, 9, 12, 25)] 8 k Y [.ref 0, .int p1, .int p2, .ref 63] σ (fun r τ => (∃ v τ0, post (some (.long v)) τ0 ∧ r = some (.int (nI 0)) ∧ τ = x_w τ0 63 0 v) ∨ (∃ E, px E τ ∧ r = some (.int (nI (x_cd [x_eIOB] E))))) := by
  refine x_startH (by decide) (Nat.le_of_ble_eq_true rfl) ?_
  intro xp xe xs xm xg xb xt xc C xr xk ht
  refine x_aload_n C (i := 3) dL_row_0 rfl rfl ?_
  refine x_iconst C (nI 0) dL_row_1 rfl ?_
  refine x_aload_n C (i := 0) dL_row_2 rfl rfl ?_
  refine x_iload_n C (i := 1) dL_row_3 rfl rfl ?_
  refine x_iload_n C (i := 2) dL_row_4 rfl rfl ?_
  refine x_callVH C (as := [.int p1, .int p2]) (st := [.int (nI 0), .ref 63]) hM kb_X11_row kv_L_45 dL_row_5 rfl rfl (Nat.le_of_ble_eq_true rfl) ⟨by show d + 1 ≤ 8; omega, by show 8 + (3 + 11) + 40 * d ≤ 40 * 8; omega⟩ ⟨by show 0 + k ≤ k; omega, by show 0 + 6 * k ≤ 6 * k; omega⟩ ko_0 ?_ ?_
  · intro E τ hE
    have hE9 := hx E τ hE
    subst hE9
    · refine ⟨12, ⟨[], ⟨0, 9, 12, 25⟩, [], by rw [ht]; rfl, fun z h => absurd h List.not_mem_nil, ⟨by decide, by decide, kx_IOB⟩, kxc_IOB, rfl⟩, Or.inr ⟨4, by decide, dL_row_12, ?_⟩⟩
      refine x_iconst C (nI 1) dL_row_14 rfl ?_
      refine x_widen (k := k) (n := 6 * k) (by omega) (by omega) ?_
      exact x_iret C xr xk dL_row_15 (Or.inr ⟨_, hE, rfl⟩)
  · intro r τ hr
    obtain ⟨v, rfl⟩ := hp r τ hr
    refine x_lastN C (by decide) rfl (by decide) dL_row_8 (by decide) ?_
    refine x_goto C 16 dL_row_9 (by decide) ?_
    refine x_iconst C (nI 0) dL_row_16 rfl ?_
    refine x_widen (k := k) (n := 6 * k) (by omega) (by omega) ?_
    exact x_iret C xr xk dL_row_17 (Or.inl ⟨_, _, hr, rfl, rfl⟩)
theorem kh_L_digits : x_KBH yL_digits cL_digits 4 (some .int) [(0, 9, 12, 25)] 3 := ⟨x_wd_in (x_at (i := 0) (by decide +kernel)) rfl, x_wd_in (x_at (i := 881) (by decide +kernel)) rfl, by decide +kernel, by decide +kernel, by decide +kernel⟩
set_option maxRecDepth 100000 in
theorem c_L_digits {l : Launch} {Y : x_Y} {σ : x_S} {d k : Nat} (p1 : Int32) {post : Option Value → x_S → Prop} {px : String → x_S → Prop} (hM : x_MX l yX11_digits cX11_digits 2 (some .int) d k Y [.ref 0, .int p1] σ post px) (hd : d ≤ 7) (hp : ∀ r τ, post r τ → ∃ v, r = some (.int v)) (hx : ∀ E τ, px E τ → E = x_eIOB) :
    x_MH l yL_digits cL_digits 4 (some .int) [(0, 9, 12, 25)] 8 k Y [.ref 0, .int p1, .ref 63] σ (fun r τ => (∃ v τ0, post (some (.int v)) τ0 ∧ r = some (.int (nI 0)) ∧ τ = x_w τ0 63 0 v.toInt64) ∨ (∃ E, px E τ ∧ r = some (.int (nI (x_cd [x_eIOB] E))))) := by
  refine x_startH (by decide) (Nat.le_of_ble_eq_true rfl) ?_
  intro xp xe xs xm xg xb xt xc C xr xk ht
  refine x_aload_n C (i := 2) dL_digits_0 rfl rfl ?_
  refine x_iconst C (nI 0) dL_digits_1 rfl ?_
  refine x_aload_n C (i := 0) dL_digits_2 rfl rfl ?_
  refine x_iload_n C (i := 1) dL_digits_3 rfl rfl ?_
  refine x_callVH C (as := [.int p1]) (st := [.int (nI 0), .ref 63]) hM kb_X11_digits kv_L_49 dL_digits_4 rfl rfl (Nat.le_of_ble_eq_true rfl) ⟨by show d + 1 ≤ 8; omega, by show 8 + (2 + 11) + 40 * d ≤ 40 * 8; omega⟩ ⟨by show 0 + k ≤ k; omega, by show 0 + 6 * k ≤ 6 * k; omega⟩ ko_0 ?_ ?_
  · intro E τ hE
    have hE9 := hx E τ hE
    subst hE9
    · refine ⟨12, ⟨[], ⟨0, 9, 12, 25⟩, [], by rw [ht]; rfl, fun z h => absurd h List.not_mem_nil, ⟨by decide, by decide, kx_IOB⟩, kxc_IOB, rfl⟩, Or.inl ⟨3, by decide, dL_digits_12, ?_⟩⟩
      refine x_iconst C (nI 1) dL_digits_13 rfl ?_
      refine x_widen (k := k) (n := 6 * k) (by omega) (by omega) ?_
      exact x_iret C xr xk dL_digits_14 (Or.inr ⟨_, hE, rfl⟩)
  · intro r τ hr
    obtain ⟨v, rfl⟩ := hp r τ hr
    refine x_i2l C dL_digits_7 ?_
    refine x_lastN C (by decide) rfl (by decide) dL_digits_8 (by decide) ?_
    refine x_goto C 15 dL_digits_9 (by decide) ?_
    refine x_iconst C (nI 0) dL_digits_15 rfl ?_
    refine x_widen (k := k) (n := 6 * k) (by omega) (by omega) ?_
    exact x_iret C xr xk dL_digits_16 (Or.inl ⟨_, _, hr, rfl, rfl⟩)
theorem kh_L_digit : x_KBH yL_digit cL_digit 5 (some .int) [(0, 10, 13, 25)] 4 := ⟨x_wd_in (x_at (i := 0) (by decide +kernel)) rfl, x_wd_in (x_at (i := 904) (by decide +kernel)) rfl, by decide +kernel, by decide +kernel, by decide +kernel⟩
set_option maxRecDepth 100000 in
theorem c_L_digit {l : Launch} {Y : x_Y} {σ : x_S} {d k : Nat} (p1 p2 : Int32) {post : Option Value → x_S → Prop} {px : String → x_S → Prop} (hM : x_MX l yX11_digit cX11_digit 3 (some .int) d k Y [.ref 0, .int p1, .int p2] σ post px) (hd : d ≤ 7) (hp : ∀ r τ, post r τ → ∃ v, r = some (.int v)) (hx : ∀ E τ, px E τ → E = x_eIOB) :
    x_MH l yL_digit cL_digit 5 (some .int) [(0, 10, 13, 25)] 8 k Y [.ref 0, .int p1, .int p2, .ref 63] σ (fun r τ => (∃ v τ0, post (some (.int v)) τ0 ∧ r = some (.int (nI 0)) ∧ τ = x_w τ0 63 0 v.toInt64) ∨ (∃ E, px E τ ∧ r = some (.int (nI (x_cd [x_eIOB] E))))) := by
  refine x_startH (by decide) (Nat.le_of_ble_eq_true rfl) ?_
  intro xp xe xs xm xg xb xt xc C xr xk ht
  refine x_aload_n C (i := 3) dL_digit_0 rfl rfl ?_
  refine x_iconst C (nI 0) dL_digit_1 rfl ?_
  refine x_aload_n C (i := 0) dL_digit_2 rfl rfl ?_
  refine x_iload_n C (i := 1) dL_digit_3 rfl rfl ?_
  refine x_iload_n C (i := 2) dL_digit_4 rfl rfl ?_
  refine x_callVH C (as := [.int p1, .int p2]) (st := [.int (nI 0), .ref 63]) hM kb_X11_digit kv_L_53 dL_digit_5 rfl rfl (Nat.le_of_ble_eq_true rfl) ⟨by show d + 1 ≤ 8; omega, by show 8 + (3 + 11) + 40 * d ≤ 40 * 8; omega⟩ ⟨by show 0 + k ≤ k; omega, by show 0 + 6 * k ≤ 6 * k; omega⟩ ko_0 ?_ ?_
  · intro E τ hE
    have hE9 := hx E τ hE
    subst hE9
    · refine ⟨13, ⟨[], ⟨0, 10, 13, 25⟩, [], by rw [ht]; rfl, fun z h => absurd h List.not_mem_nil, ⟨by decide, by decide, kx_IOB⟩, kxc_IOB, rfl⟩, Or.inr ⟨4, by decide, dL_digit_13, ?_⟩⟩
      refine x_iconst C (nI 1) dL_digit_15 rfl ?_
      refine x_widen (k := k) (n := 6 * k) (by omega) (by omega) ?_
      exact x_iret C xr xk dL_digit_16 (Or.inr ⟨_, hE, rfl⟩)
  · intro r τ hr
    obtain ⟨v, rfl⟩ := hp r τ hr
    refine x_i2l C dL_digit_8 ?_
    refine x_lastN C (by decide) rfl (by decide) dL_digit_9 (by decide) ?_
    refine x_goto C 17 dL_digit_10 (by decide) ?_
    refine x_iconst C (nI 0) dL_digit_17 rfl ?_
    refine x_widen (k := k) (n := 6 * k) (by omega) (by omega) ?_
    exact x_iret C xr xk dL_digit_18 (Or.inl ⟨_, _, hr, rfl, rfl⟩)
theorem kh_L_violations : x_KBH yL_violations cL_violations 4 (some .int) [(0, 9, 12, 13), (0, 9, 15, 19)] 3 := ⟨x_wd_in (x_at (i := 0) (by decide +kernel)) rfl, x_wd_in (x_at (i := 912) (by decide +kernel)) rfl, by decide +kernel, by decide +kernel, by decide +kernel⟩
set_option maxRecDepth 100000 in
theorem c_L_violations {l : Launch} {Y : x_Y} {σ : x_S} {d k : Nat} (p1 : Int32) {post : Option Value → x_S → Prop} {px : String → x_S → Prop} (hM : x_MX l yX11_violations cX11_violations 2 (some .int) d k Y [.ref 0, .int p1] σ post px) (hd : d ≤ 7) (hp : ∀ r τ, post r τ → ∃ v, r = some (.int v)) (hx : ∀ E τ, px E τ → E = x_eISE ∨ E = x_eIAE) :
    x_MH l yL_violations cL_violations 4 (some .int) [(0, 9, 12, 13), (0, 9, 15, 19)] 8 k Y [.ref 0, .int p1, .ref 63] σ (fun r τ => (∃ v τ0, post (some (.int v)) τ0 ∧ r = some (.int (nI 0)) ∧ τ = x_w τ0 63 0 v.toInt64) ∨ (∃ E, px E τ ∧ r = some (.int (nI (x_cd [x_eISE, x_eIAE] E))))) := by
  refine x_startH (by decide) (Nat.le_of_ble_eq_true rfl) ?_
  intro xp xe xs xm xg xb xt xc C xr xk ht
  refine x_aload_n C (i := 2) dL_violations_0 rfl rfl ?_
  refine x_iconst C (nI 0) dL_violations_1 rfl ?_
  refine x_aload_n C (i := 0) dL_violations_2 rfl rfl ?_
  refine x_iload_n C (i := 1) dL_violations_3 rfl rfl ?_
  refine x_callVH C (as := [.int p1]) (st := [.int (nI 0), .ref 63]) hM kb_X11_violations kv_L_56 dL_violations_4 rfl rfl (Nat.le_of_ble_eq_true rfl) ⟨by show d + 1 ≤ 8; omega, by show 8 + (2 + 11) + 40 * d ≤ 40 * 8; omega⟩ ⟨by show 0 + k ≤ k; omega, by show 0 + 6 * k ≤ 6 * k; omega⟩ ko_0 ?_ ?_
  · intro E τ hE
    have hE9 := hx E τ hE
    rcases hE9 with rfl | rfl
    · refine ⟨12, ⟨[], ⟨0, 9, 12, 13⟩, [⟨0, 9, 15, 19⟩], by rw [ht]; rfl, fun z h => absurd h List.not_mem_nil, ⟨by decide, by decide, kx_ISE⟩, kxc_ISE, rfl⟩, Or.inl ⟨3, by decide, dL_violations_12, ?_⟩⟩
      refine x_iconst C (nI 1) dL_violations_13 rfl ?_
      refine x_widen (k := k) (n := 6 * k) (by omega) (by omega) ?_
      exact x_iret C xr xk dL_violations_14 (Or.inr ⟨_, hE, rfl⟩)
    · refine ⟨15, ⟨[⟨0, 9, 12, 13⟩], ⟨0, 9, 15, 19⟩, [], by rw [ht]; rfl, fun z h => by
        have h := List.mem_singleton.mp h
        subst h
        exact ⟨by decide, by decide, _, kx_ISE, by decide⟩, ⟨by decide, by decide, kx_IAE⟩, kxc_IAE, rfl⟩, Or.inl ⟨3, by decide, dL_violations_15, ?_⟩⟩
      refine x_iconst C (nI 2) dL_violations_16 rfl ?_
      refine x_widen (k := k) (n := 6 * k) (by omega) (by omega) ?_
      exact x_iret C xr xk dL_violations_17 (Or.inr ⟨_, hE, rfl⟩)
  · intro r τ hr
    obtain ⟨v, rfl⟩ := hp r τ hr
    refine x_i2l C dL_violations_7 ?_
    refine x_lastN C (by decide) rfl (by decide) dL_violations_8 (by decide) ?_
    refine x_goto C 18 dL_violations_9 (by decide) ?_
    refine x_iconst C (nI 0) dL_violations_18 rfl ?_
    refine x_widen (k := k) (n := 6 * k) (by omega) (by omega) ?_
    exact x_iret C xr xk dL_violations_19 (Or.inl ⟨_, _, hr, rfl, rfl⟩)
theorem kh_L_complete : x_KBH yL_complete cL_complete 5 (some .int) [(0, 10, 13, 13), (0, 10, 17, 19), (0, 10, 21, 25)] 4 := ⟨x_wd_in (x_at (i := 0) (by decide +kernel)) rfl, x_wd_in (x_at (i := 926) (by decide +kernel)) rfl, by decide +kernel, by decide +kernel, by decide +kernel⟩
set_option maxRecDepth 100000 in
theorem c_L_complete {l : Launch} {Y : x_Y} {σ : x_S} {d k : Nat} (p1 p2 : Int32) {post : Option Value → x_S → Prop} {px : String → x_S → Prop} (hM : x_MX l yX11_complete cX11_complete 3 (some .int) d k Y [.ref 0, .int p1, .int p2] σ post px) (hd : d ≤ 7) (hp : ∀ r τ, post r τ → ∃ v, r = some (.int v)) (hx : ∀ E τ, px E τ → E = x_eISE ∨ E = x_eIAE ∨ E = x_eIOB) :
    x_MH l yL_complete cL_complete 5 (some .int) [(0, 10, 13, 13), (0, 10, 17, 19), (0, 10, 21, 25)] 8 k Y [.ref 0, .int p1, .int p2, .ref 63] σ (fun r τ => (∃ v τ0, post (some (.int v)) τ0 ∧ r = some (.int (nI 0)) ∧ τ = x_w τ0 63 0 v.toInt64) ∨ (∃ E, px E τ ∧ r = some (.int (nI (x_cd [x_eISE, x_eIAE, x_eIOB] E))))) := by
  refine x_startH (by decide) (Nat.le_of_ble_eq_true rfl) ?_
  intro xp xe xs xm xg xb xt xc C xr xk ht
  refine x_aload_n C (i := 3) dL_complete_0 rfl rfl ?_
  refine x_iconst C (nI 0) dL_complete_1 rfl ?_
  refine x_aload_n C (i := 0) dL_complete_2 rfl rfl ?_
  refine x_iload_n C (i := 1) dL_complete_3 rfl rfl ?_
  refine x_iload_n C (i := 2) dL_complete_4 rfl rfl ?_
  refine x_callVH C (as := [.int p1, .int p2]) (st := [.int (nI 0), .ref 63]) hM kb_X11_complete kv_L_59 dL_complete_5 rfl rfl (Nat.le_of_ble_eq_true rfl) ⟨by show d + 1 ≤ 8; omega, by show 8 + (3 + 11) + 40 * d ≤ 40 * 8; omega⟩ ⟨by show 0 + k ≤ k; omega, by show 0 + 6 * k ≤ 6 * k; omega⟩ ko_0 ?_ ?_
  · intro E τ hE
    have hE9 := hx E τ hE
    rcases hE9 with rfl | rfl | rfl
    · refine ⟨13, ⟨[], ⟨0, 10, 13, 13⟩, [⟨0, 10, 17, 19⟩, ⟨0, 10, 21, 25⟩], by rw [ht]; rfl, fun z h => absurd h List.not_mem_nil, ⟨by decide, by decide, kx_ISE⟩, kxc_ISE, rfl⟩, Or.inr ⟨4, by decide, dL_complete_13, ?_⟩⟩
      refine x_iconst C (nI 1) dL_complete_15 rfl ?_
      refine x_widen (k := k) (n := 6 * k) (by omega) (by omega) ?_
      exact x_iret C xr xk dL_complete_16 (Or.inr ⟨_, hE, rfl⟩)
    · refine ⟨17, ⟨[⟨0, 10, 13, 13⟩], ⟨0, 10, 17, 19⟩, [⟨0, 10, 21, 25⟩], by rw [ht]; rfl, fun z h => by
        have h := List.mem_singleton.mp h
        subst h
        exact ⟨by decide, by decide, _, kx_ISE, by decide⟩, ⟨by decide, by decide, kx_IAE⟩, kxc_IAE, rfl⟩, Or.inr ⟨4, by decide, dL_complete_17, ?_⟩⟩
      refine x_iconst C (nI 2) dL_complete_19 rfl ?_
      refine x_widen (k := k) (n := 6 * k) (by omega) (by omega) ?_
      exact x_iret C xr xk dL_complete_20 (Or.inr ⟨_, hE, rfl⟩)
    · refine ⟨21, ⟨[⟨0, 10, 13, 13⟩, ⟨0, 10, 17, 19⟩], ⟨0, 10, 21, 25⟩, [], by rw [ht]; rfl, fun z h => by
        simp only [List.mem_cons, List.not_mem_nil, or_false] at h
        rcases h with rfl | rfl
        · exact ⟨by decide, by decide, _, kx_ISE, by decide⟩
        · exact ⟨by decide, by decide, _, kx_IAE, by decide⟩, ⟨by decide, by decide, kx_IOB⟩, kxc_IOB, rfl⟩, Or.inr ⟨4, by decide, dL_complete_21, ?_⟩⟩
      refine x_iconst C (nI 3) dL_complete_23 rfl ?_
      refine x_widen (k := k) (n := 6 * k) (by omega) (by omega) ?_
      exact x_iret C xr xk dL_complete_24 (Or.inr ⟨_, hE, rfl⟩)
  · intro r τ hr
    obtain ⟨v, rfl⟩ := hp r τ hr
    refine x_i2l C dL_complete_8 ?_
    refine x_lastN C (by decide) rfl (by decide) dL_complete_9 (by decide) ?_
    refine x_goto C 25 dL_complete_10 (by decide) ?_
    refine x_iconst C (nI 0) dL_complete_25 rfl ?_
    refine x_widen (k := k) (n := 6 * k) (by omega) (by omega) ?_
    exact x_iret C xr xk dL_complete_26 (Or.inl ⟨_, _, hr, rfl, rfl⟩)
