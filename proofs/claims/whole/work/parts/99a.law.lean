/-! ===== the law: one theorem a case of its switch, then the loop ===== -/
def l_ok (L : x_Lo) (i : Nat) : Prop := L.1 0 = some (.ref 66) ∧ L.1 1 = some (.ref 0) ∧ L.1 2 = some (.ref 38) ∧ L.1 3 = some (.ref 63) ∧ L.1 4 = some (.int (nI i))
theorem l_ok1 {L : x_Lo} {i : Nat} (h : l_ok L i) {k : Nat} (hk : 5 ≤ k) (v : Value) : l_ok (x_s1 L k v) i := by
  have f : ∀ j, j < 5 → (x_s1 L k v).1 j = L.1 j := fun j hj => if_neg (by omega)
  exact ⟨(f 0 (by decide)).trans h.1, (f 1 (by decide)).trans h.2.1, (f 2 (by decide)).trans h.2.2.1, (f 3 (by decide)).trans h.2.2.2.1, (f 4 (by decide)).trans h.2.2.2.2⟩
theorem l_ok2 {L : x_Lo} {i : Nat} (h : l_ok L i) (v : Int64) : l_ok (x_s2 L 6 v) i := by
  have f : ∀ j, j < 5 → (x_s2 L 6 v).1 j = L.1 j := fun j hj => (if_neg (by omega)).trans (if_neg (by omega))
  exact ⟨(f 0 (by decide)).trans h.1, (f 1 (by decide)).trans h.2.1, (f 2 (by decide)).trans h.2.2.1, (f 3 (by decide)).trans h.2.2.2.1, (f 4 (by decide)).trans h.2.2.2.2⟩
theorem l_g5 (L : x_Lo) (v : Value) : (x_s1 L 5 v).1 5 = some v := rfl
theorem l_g6 (L : x_Lo) (v : Value) : (x_s1 L 6 v).1 6 = some v := rfl
theorem l_g56 (L : x_Lo) (v u : Value) : (x_s1 (x_s1 L 5 v) 6 u).1 5 = some v := rfl
theorem l_g52 (L : x_Lo) (v : Value) (x : Int64) : (x_s2 (x_s1 L 5 v) 6 x).1 5 = some v := rfl
theorem l_g62 (L : x_Lo) (x : Int64) : (x_s2 L 6 x).2 6 = some x := rfl
theorem l_cmp (x : Int64) : lg_cmp x x = nI 0 := by
  unfold lg_cmp
  have h : ¬ x < x := fun h => x_lt_irr h
  simp [h]
  rfl
section LAW
variable {p : Program} {l : Launch} {e : Env} {s : State} {m : MethodId} {args : Array Value} {below : List Frame} {meth : Method} {c : Code} {cells slots : Nat} {Q : State → Prop} {Y : x_Y} {L : x_Lo} {σ : x_S} {n i κ : Nat} {xs : Nat → Int32}
theorem lc_144 (C : x_C p s m args c cL_law 8 RL Y) (S : x_SC Y s n xs) (hn : n ≤ 3072) (hl : l.stackTraces = false) (hI : w_I σ κ) (hκ : κ < 512) (hi : i + 6 ≤ n) (hc : cells + 2 ≤ 1101) (hs : slots + 12 ≤ 107374) (hL : l_ok L i) (kk : ∀ L9 σ9, l_ok L9 i → w_I σ9 (κ + 1) → x_W p l e room_1 s m args below meth c 8 Y (cells + 2) (slots + 12) Q 1196 L9 [] σ9) : x_W p l e room_1 s m args below meth c 8 Y cells slots Q 144 L [] σ := by
  obtain ⟨post1, hM1, hp1⟩ := pr_feed (l := l) (Y := Y) hl hI hκ (xs (i + 1)) (xs (i + 2)) (xs (i + 3)) (xs (i + 4)) (xs (i + 5))
  refine x_aload_n C (i := 1) dL_law_144 rfl hL.2.1 ?_
  refine x_aload_n C (i := 0) dL_law_145 rfl hL.1 ?_
  refine x_iload C dL_law_146 hL.2.2.2.2 ?_
  refine x_iconst C (nI 1) dL_law_148 rfl ?_
  refine x_iaddN C dL_law_149 ?_
  refine x_sld C S (by omega) (by omega) dL_law_150 ?_
  refine x_aload_n C (i := 0) dL_law_151 rfl hL.1 ?_
  refine x_iload C dL_law_152 hL.2.2.2.2 ?_
  refine x_iconst C (nI 2) dL_law_154 rfl ?_
  refine x_iaddN C dL_law_155 ?_
  refine x_sld C S (by omega) (by omega) dL_law_156 ?_
  refine x_aload_n C (i := 0) dL_law_157 rfl hL.1 ?_
  refine x_iload C dL_law_158 hL.2.2.2.2 ?_
  refine x_iconst C (nI 3) dL_law_160 rfl ?_
  refine x_iaddN C dL_law_161 ?_
  refine x_sld C S (by omega) (by omega) dL_law_162 ?_
  refine x_aload_n C (i := 0) dL_law_163 rfl hL.1 ?_
  refine x_iload C dL_law_164 hL.2.2.2.2 ?_
  refine x_iconst C (nI 4) dL_law_166 rfl ?_
  refine x_iaddN C dL_law_167 ?_
  refine x_sld C S (by omega) (by omega) dL_law_168 ?_
  refine x_aload_n C (i := 0) dL_law_169 rfl hL.1 ?_
  refine x_iload C dL_law_170 hL.2.2.2.2 ?_
  refine x_iconst C (nI 5) dL_law_172 rfl ?_
  refine x_iaddN C dL_law_173 ?_
  refine x_sld C S (by omega) (by omega) dL_law_174 ?_
  refine x_aload_n C (i := 3) dL_law_175 rfl hL.2.2.2.1 ?_
  refine x_callSH C (as := [.ref 0, .int (xs (i + 1)), .int (xs (i + 2)), .int (xs (i + 3)), .int (xs (i + 4)), .int (xs (i + 5)), .ref 63]) (st := []) hM1 kh_L_feed ks_L_66 dL_law_176 rfl rfl (Nat.le_of_ble_eq_true rfl) ⟨by decide, by decide⟩ ⟨by show cells + 1 ≤ 1101; omega, by show slots + 6 * 1 ≤ 107374; omega⟩ ?_
  intro r τ h1
  obtain ⟨kq, hkq, rfl, post2, hM2, hp2⟩ := hp1 r τ h1
  refine x_istore C dL_law_179 (by decide) ?_
  have hL5 := l_ok1 hL (k := 5) (by decide) (.int (nI kq))
  refine x_aload_n C (i := 2) dL_law_181 rfl hL5.2.2.1 ?_
  refine x_aload_n C (i := 0) dL_law_182 rfl hL5.1 ?_
  refine x_iload C dL_law_183 hL5.2.2.2.2 ?_
  refine x_iconst C (nI 1) dL_law_185 rfl ?_
  refine x_iaddN C dL_law_186 ?_
  refine x_sld C S (by omega) (by omega) dL_law_187 ?_
  refine x_aload_n C (i := 0) dL_law_188 rfl hL5.1 ?_
  refine x_iload C dL_law_189 hL5.2.2.2.2 ?_
  refine x_iconst C (nI 2) dL_law_191 rfl ?_
  refine x_iaddN C dL_law_192 ?_
  refine x_sld C S (by omega) (by omega) dL_law_193 ?_
  refine x_aload_n C (i := 0) dL_law_194 rfl hL5.1 ?_
  refine x_iload C dL_law_195 hL5.2.2.2.2 ?_
  refine x_iconst C (nI 3) dL_law_197 rfl ?_
  refine x_iaddN C dL_law_198 ?_
  refine x_sld C S (by omega) (by omega) dL_law_199 ?_
  refine x_aload_n C (i := 0) dL_law_200 rfl hL5.1 ?_
  refine x_iload C dL_law_201 hL5.2.2.2.2 ?_
  refine x_iconst C (nI 4) dL_law_203 rfl ?_
  refine x_iaddN C dL_law_204 ?_
  refine x_sld C S (by omega) (by omega) dL_law_205 ?_
  refine x_aload_n C (i := 0) dL_law_206 rfl hL5.1 ?_
  refine x_iload C dL_law_207 hL5.2.2.2.2 ?_
  refine x_iconst C (nI 5) dL_law_209 rfl ?_
  refine x_iaddN C dL_law_210 ?_
  refine x_sld C S (by omega) (by omega) dL_law_211 ?_
  refine x_callV C (as := [.int (xs (i + 1)), .int (xs (i + 2)), .int (xs (i + 3)), .int (xs (i + 4)), .int (xs (i + 5))]) (st := []) hM2 kb_X12_feed kv_L_71 dL_law_212 rfl rfl (Nat.le_of_ble_eq_true rfl) ⟨by decide, by decide⟩ ⟨by show cells + 1 ≤ 1101; omega, by show slots + 6 * 1 ≤ 107374; omega⟩ ko_38 ?_
  intro r2 τ2 h2
  obtain ⟨bq, rfl, e38, eout, hI2⟩ := hp2 r2 τ2 h2
  refine x_istore C dL_law_215 (by decide) ?_
  have hL6 := l_ok1 hL5 (k := 6) (by decide) (.int bq)
  refine x_aload_n C (i := 2) dL_law_217 rfl hL6.2.2.1 ?_
  have hM3 := c_X12_thrown l Y τ2
  refine x_callV C (as := []) (st := []) hM3 kb_X12_thrown kv_L_72 dL_law_218 rfl rfl (Nat.le_of_ble_eq_true rfl) ⟨by decide, by decide⟩ ⟨by show cells + 1 ≤ 1101; omega, by show slots + 6 * 1 ≤ 107374; omega⟩ ko_38 ?_
  clear hM3
  intro r3 τ3 h3
  obtain ⟨rfl, h8⟩ := h3
  rw [h8]
  clear h8 τ3
  refine x_topI e38 ?_
  refine x_iload C dL_law_221 (l_g56 _ _ _) ?_
  refine x_icmp_eqN C 228 dL_law_223 (by decide) (by omega) (by omega) (fun _ => ?_) (fun h => absurd rfl h)
  refine x_iload C dL_law_228 (l_g56 _ _ _) ?_
  refine x_if_neN C 245 dL_law_230 (by decide) (by omega) (fun _ => ?_) (fun h0 => ?_)
  · refine x_goto C 1196 dL_law_245 (by decide) ?_
    refine x_widen (k := cells + 2) (n := slots + 12) (by omega) (by omega) ?_
    exact kk _ _ hL6 hI2
  · refine x_aload_n C (i := 3) dL_law_233 rfl hL6.2.2.2.1 ?_
    refine x_iconst C (nI 0) dL_law_234 rfl ?_
    refine x_laldN C (k := 63) (n := 1) (by decide) rfl (by decide) dL_law_235 (by decide) ?_
    refine x_topL (eout h0) ?_
    refine x_iload C dL_law_236 (l_g6 _ _) ?_
    refine x_i2l C dL_law_238 ?_
    refine x_lcmp C dL_law_239 ?_
    refine x_topI (l_cmp _) ?_
    refine x_if_eqN C 245 dL_law_240 (by decide) (by decide) (fun _ => ?_) (fun h => absurd rfl h)
    refine x_goto C 1196 dL_law_245 (by decide) ?_
    refine x_widen (k := cells + 2) (n := slots + 12) (by omega) (by omega) ?_
    exact kk _ _ hL6 hI2
theorem lc_248 (C : x_C p s m args c cL_law 8 RL Y) (S : x_SC Y s n xs) (hn : n ≤ 3072) (hl : l.stackTraces = false) (hI : w_I σ κ) (hκ : κ < 512) (hi : i + 6 ≤ n) (hc : cells + 2 ≤ 1101) (hs : slots + 12 ≤ 107374) (hL : l_ok L i) (kk : ∀ L9 σ9, l_ok L9 i → w_I σ9 (κ + 1) → x_W p l e room_1 s m args below meth c 8 Y (cells + 2) (slots + 12) Q 1196 L9 [] σ9) : x_W p l e room_1 s m args below meth c 8 Y cells slots Q 248 L [] σ := by
  obtain ⟨post1, hM1, hp1⟩ := pr_end (l := l) (Y := Y) hl hI hκ (xs (i + 1))
  refine x_aload_n C (i := 1) dL_law_248 rfl hL.2.1 ?_
  refine x_aload_n C (i := 0) dL_law_249 rfl hL.1 ?_
  refine x_iload C dL_law_250 hL.2.2.2.2 ?_
  refine x_iconst C (nI 1) dL_law_252 rfl ?_
  refine x_iaddN C dL_law_253 ?_
  refine x_sld C S (by omega) (by omega) dL_law_254 ?_
  refine x_callSH C (as := [.ref 0, .int (xs (i + 1))]) (st := []) hM1 kh_L_end ks_L_75 dL_law_255 rfl rfl (Nat.le_of_ble_eq_true rfl) ⟨by decide, by decide⟩ ⟨by show cells + 1 ≤ 1101; omega, by show slots + 6 * 1 ≤ 107374; omega⟩ ?_
  intro r τ h1
  obtain ⟨kq, hkq, rfl, post2, hM2, hp2⟩ := hp1 r τ h1
  refine x_istore C dL_law_258 (by decide) ?_
  have hL5 := l_ok1 hL (k := 5) (by decide) (.int (nI kq))
  refine x_aload_n C (i := 2) dL_law_260 rfl hL5.2.2.1 ?_
  refine x_aload_n C (i := 0) dL_law_261 rfl hL5.1 ?_
  refine x_iload C dL_law_262 hL5.2.2.2.2 ?_
  refine x_iconst C (nI 1) dL_law_264 rfl ?_
  refine x_iaddN C dL_law_265 ?_
  refine x_sld C S (by omega) (by omega) dL_law_266 ?_
  refine x_callV C (as := [.int (xs (i + 1))]) (st := []) hM2 kb_X12_end kv_L_78 dL_law_267 rfl rfl (Nat.le_of_ble_eq_true rfl) ⟨by decide, by decide⟩ ⟨by show cells + 1 ≤ 1101; omega, by show slots + 6 * 1 ≤ 107374; omega⟩ ko_38 ?_
  intro r2 τ2 h2
  obtain ⟨rfl, e38, hI2⟩ := hp2 r2 τ2 h2
  refine x_aload_n C (i := 2) dL_law_270 rfl hL5.2.2.1 ?_
  have hM3 := c_X12_thrown l Y τ2
  refine x_callV C (as := []) (st := []) hM3 kb_X12_thrown kv_L_72 dL_law_271 rfl rfl (Nat.le_of_ble_eq_true rfl) ⟨by decide, by decide⟩ ⟨by show cells + 1 ≤ 1101; omega, by show slots + 6 * 1 ≤ 107374; omega⟩ ko_38 ?_
  clear hM3
  intro r3 τ3 h3
  obtain ⟨rfl, h8⟩ := h3
  rw [h8]
  clear h8 τ3
  refine x_topI e38 ?_
  refine x_iload C dL_law_274 (l_g5 _ _) ?_
  refine x_icmp_eqN C 281 dL_law_276 (by decide) (by omega) (by omega) (fun _ => ?_) (fun h => absurd rfl h)
  refine x_goto C 1196 dL_law_281 (by decide) ?_
  refine x_widen (k := cells + 2) (n := slots + 12) (by omega) (by omega) ?_
  exact kk _ _ hL5 hI2
theorem lc_284 (C : x_C p s m args c cL_law 8 RL Y) (S : x_SC Y s n xs) (hn : n ≤ 3072) (hl : l.stackTraces = false) (hI : w_I σ κ) (hκ : κ < 512) (hi : i + 6 ≤ n) (hc : cells + 2 ≤ 1101) (hs : slots + 12 ≤ 107374) (hL : l_ok L i) (kk : ∀ L9 σ9, l_ok L9 i → w_I σ9 (κ + 1) → x_W p l e room_1 s m args below meth c 8 Y (cells + 2) (slots + 12) Q 1196 L9 [] σ9) : x_W p l e room_1 s m args below meth c 8 Y cells slots Q 284 L [] σ := by
  obtain ⟨post1, hM1, hp1⟩ := pr_symbol (l := l) (Y := Y) hI hκ 
  refine x_aload_n C (i := 1) dL_law_284 rfl hL.2.1 ?_
  refine x_callV C (as := []) (st := []) hM1 kb_X11_symbol kv_L_79 dL_law_285 rfl rfl (Nat.le_of_ble_eq_true rfl) ⟨by decide, by decide⟩ ⟨by show cells ≤ 1101; omega, by show slots ≤ 107374; omega⟩ ko_0 ?_
  intro r τ h1
  obtain ⟨aq, rfl, post2, hM2, hp2⟩ := hp1 r τ h1
  refine x_aload_n C (i := 2) dL_law_288 rfl hL.2.2.1 ?_
  refine x_callV C (as := []) (st := [.int aq]) hM2 kb_X12_symbol kv_L_82 dL_law_289 rfl rfl (Nat.le_of_ble_eq_true rfl) ⟨by decide, by decide⟩ ⟨by show cells ≤ 1101; omega, by show slots ≤ 107374; omega⟩ ko_38 ?_
  intro r2 τ2 h2
  obtain ⟨rfl, hI2⟩ := hp2 r2 τ2 h2
  refine x_icmp_eq C 1196 dL_law_292 (by decide) (fun _ => ?_) (fun h => absurd rfl h)
  refine x_widen (k := cells + 2) (n := slots + 12) (by omega) (by omega) ?_
  exact kk _ _ hL hI2
theorem lc_297 (C : x_C p s m args c cL_law 8 RL Y) (S : x_SC Y s n xs) (hn : n ≤ 3072) (hl : l.stackTraces = false) (hI : w_I σ κ) (hκ : κ < 512) (hi : i + 6 ≤ n) (hc : cells + 2 ≤ 1101) (hs : slots + 12 ≤ 107374) (hL : l_ok L i) (kk : ∀ L9 σ9, l_ok L9 i → w_I σ9 (κ + 1) → x_W p l e room_1 s m args below meth c 8 Y (cells + 2) (slots + 12) Q 1196 L9 [] σ9) : x_W p l e room_1 s m args below meth c 8 Y cells slots Q 297 L [] σ := by
  obtain ⟨post1, hM1, hp1⟩ := pr_order (l := l) (Y := Y) hI hκ 
  refine x_aload_n C (i := 1) dL_law_297 rfl hL.2.1 ?_
  refine x_callV C (as := []) (st := []) hM1 kb_X11_order kv_L_83 dL_law_298 rfl rfl (Nat.le_of_ble_eq_true rfl) ⟨by decide, by decide⟩ ⟨by show cells ≤ 1101; omega, by show slots ≤ 107374; omega⟩ ko_0 ?_
  intro r τ h1
  obtain ⟨aq, rfl, post2, hM2, hp2⟩ := hp1 r τ h1
  refine x_aload_n C (i := 2) dL_law_301 rfl hL.2.2.1 ?_
  refine x_callV C (as := []) (st := [.int aq]) hM2 kb_X12_order kv_L_86 dL_law_302 rfl rfl (Nat.le_of_ble_eq_true rfl) ⟨by decide, by decide⟩ ⟨by show cells ≤ 1101; omega, by show slots ≤ 107374; omega⟩ ko_38 ?_
  intro r2 τ2 h2
  obtain ⟨rfl, hI2⟩ := hp2 r2 τ2 h2
  refine x_icmp_eq C 1196 dL_law_305 (by decide) (fun _ => ?_) (fun h => absurd rfl h)
  refine x_widen (k := cells + 2) (n := slots + 12) (by omega) (by omega) ?_
  exact kk _ _ hL hI2
theorem lc_310 (C : x_C p s m args c cL_law 8 RL Y) (S : x_SC Y s n xs) (hn : n ≤ 3072) (hl : l.stackTraces = false) (hI : w_I σ κ) (hκ : κ < 512) (hi : i + 6 ≤ n) (hc : cells + 2 ≤ 1101) (hs : slots + 12 ≤ 107374) (hL : l_ok L i) (kk : ∀ L9 σ9, l_ok L9 i → w_I σ9 (κ + 1) → x_W p l e room_1 s m args below meth c 8 Y (cells + 2) (slots + 12) Q 1196 L9 [] σ9) : x_W p l e room_1 s m args below meth c 8 Y cells slots Q 310 L [] σ := by
  obtain ⟨post1, hM1, hp1⟩ := pr_op (l := l) (Y := Y) hl hI hκ (xs (i + 1)) (xs (i + 2))
  refine x_aload_n C (i := 1) dL_law_310 rfl hL.2.1 ?_
  refine x_aload_n C (i := 0) dL_law_311 rfl hL.1 ?_
  refine x_iload C dL_law_312 hL.2.2.2.2 ?_
  refine x_iconst C (nI 1) dL_law_314 rfl ?_
  refine x_iaddN C dL_law_315 ?_
  refine x_sld C S (by omega) (by omega) dL_law_316 ?_
  refine x_aload_n C (i := 0) dL_law_317 rfl hL.1 ?_
  refine x_iload C dL_law_318 hL.2.2.2.2 ?_
  refine x_iconst C (nI 2) dL_law_320 rfl ?_
  refine x_iaddN C dL_law_321 ?_
  refine x_sld C S (by omega) (by omega) dL_law_322 ?_
  refine x_aload_n C (i := 3) dL_law_323 rfl hL.2.2.2.1 ?_
  refine x_callSH C (as := [.ref 0, .int (xs (i + 1)), .int (xs (i + 2)), .ref 63]) (st := []) hM1 kh_L_op ks_L_87 dL_law_324 rfl rfl (Nat.le_of_ble_eq_true rfl) ⟨by decide, by decide⟩ ⟨by show cells + 1 ≤ 1101; omega, by show slots + 6 * 1 ≤ 107374; omega⟩ ?_
  intro r τ h1
  obtain ⟨kq, hkq, rfl, post2, hM2, hp2⟩ := hp1 r τ h1
  refine x_istore C dL_law_327 (by decide) ?_
  have hL5 := l_ok1 hL (k := 5) (by decide) (.int (nI kq))
  refine x_aload_n C (i := 2) dL_law_329 rfl hL5.2.2.1 ?_
  refine x_aload_n C (i := 0) dL_law_330 rfl hL5.1 ?_
  refine x_iload C dL_law_331 hL5.2.2.2.2 ?_
  refine x_iconst C (nI 1) dL_law_333 rfl ?_
  refine x_iaddN C dL_law_334 ?_
  refine x_sld C S (by omega) (by omega) dL_law_335 ?_
  refine x_aload_n C (i := 0) dL_law_336 rfl hL5.1 ?_
  refine x_iload C dL_law_337 hL5.2.2.2.2 ?_
  refine x_iconst C (nI 2) dL_law_339 rfl ?_
  refine x_iaddN C dL_law_340 ?_
  refine x_sld C S (by omega) (by omega) dL_law_341 ?_
  refine x_callV C (as := [.int (xs (i + 1)), .int (xs (i + 2))]) (st := []) hM2 kb_X12_op kv_L_90 dL_law_342 rfl rfl (Nat.le_of_ble_eq_true rfl) ⟨by decide, by decide⟩ ⟨by show cells + 1 ≤ 1101; omega, by show slots + 6 * 1 ≤ 107374; omega⟩ ko_38 ?_
  intro r2 τ2 h2
  obtain ⟨bq, rfl, e38, eout, hI2⟩ := hp2 r2 τ2 h2
  refine x_istore C dL_law_345 (by decide) ?_
  have hL6 := l_ok1 hL5 (k := 6) (by decide) (.int bq)
  refine x_aload_n C (i := 2) dL_law_347 rfl hL6.2.2.1 ?_
  have hM3 := c_X12_thrown l Y τ2
  refine x_callV C (as := []) (st := []) hM3 kb_X12_thrown kv_L_72 dL_law_348 rfl rfl (Nat.le_of_ble_eq_true rfl) ⟨by decide, by decide⟩ ⟨by show cells + 1 ≤ 1101; omega, by show slots + 6 * 1 ≤ 107374; omega⟩ ko_38 ?_
  clear hM3
  intro r3 τ3 h3
  obtain ⟨rfl, h8⟩ := h3
  rw [h8]
  clear h8 τ3
  refine x_topI e38 ?_
  refine x_iload C dL_law_351 (l_g56 _ _ _) ?_
  refine x_icmp_eqN C 358 dL_law_353 (by decide) (by omega) (by omega) (fun _ => ?_) (fun h => absurd rfl h)
  refine x_iload C dL_law_358 (l_g56 _ _ _) ?_
  refine x_if_neN C 375 dL_law_360 (by decide) (by omega) (fun _ => ?_) (fun h0 => ?_)
  · refine x_goto C 1196 dL_law_375 (by decide) ?_
    refine x_widen (k := cells + 2) (n := slots + 12) (by omega) (by omega) ?_
    exact kk _ _ hL6 hI2
  · refine x_aload_n C (i := 3) dL_law_363 rfl hL6.2.2.2.1 ?_
    refine x_iconst C (nI 0) dL_law_364 rfl ?_
    refine x_laldN C (k := 63) (n := 1) (by decide) rfl (by decide) dL_law_365 (by decide) ?_
    refine x_topL (eout h0) ?_
    refine x_iload C dL_law_366 (l_g6 _ _) ?_
    refine x_i2l C dL_law_368 ?_
    refine x_lcmp C dL_law_369 ?_
    refine x_topI (l_cmp _) ?_
    refine x_if_eqN C 375 dL_law_370 (by decide) (by decide) (fun _ => ?_) (fun h => absurd rfl h)
    refine x_goto C 1196 dL_law_375 (by decide) ?_
    refine x_widen (k := cells + 2) (n := slots + 12) (by omega) (by omega) ?_
    exact kk _ _ hL6 hI2
theorem lc_378 (C : x_C p s m args c cL_law 8 RL Y) (S : x_SC Y s n xs) (hn : n ≤ 3072) (hl : l.stackTraces = false) (hI : w_I σ κ) (hκ : κ < 512) (hi : i + 6 ≤ n) (hc : cells + 2 ≤ 1101) (hs : slots + 12 ≤ 107374) (hL : l_ok L i) (kk : ∀ L9 σ9, l_ok L9 i → w_I σ9 (κ + 1) → x_W p l e room_1 s m args below meth c 8 Y (cells + 2) (slots + 12) Q 1196 L9 [] σ9) : x_W p l e room_1 s m args below meth c 8 Y cells slots Q 378 L [] σ := by
  obtain ⟨post1, hM1, hp1⟩ := pr_laue (l := l) (Y := Y) hI hκ 
  refine x_aload_n C (i := 1) dL_law_378 rfl hL.2.1 ?_
  refine x_callV C (as := []) (st := []) hM1 kb_X11_laue kv_L_91 dL_law_379 rfl rfl (Nat.le_of_ble_eq_true rfl) ⟨by decide, by decide⟩ ⟨by show cells ≤ 1101; omega, by show slots ≤ 107374; omega⟩ ko_0 ?_
  intro r τ h1
  obtain ⟨aq, rfl, post2, hM2, hp2⟩ := hp1 r τ h1
  refine x_aload_n C (i := 2) dL_law_382 rfl hL.2.2.1 ?_
  refine x_callV C (as := []) (st := [.int aq]) hM2 kb_X12_laue kv_L_94 dL_law_383 rfl rfl (Nat.le_of_ble_eq_true rfl) ⟨by decide, by decide⟩ ⟨by show cells ≤ 1101; omega, by show slots ≤ 107374; omega⟩ ko_38 ?_
  intro r2 τ2 h2
  obtain ⟨rfl, hI2⟩ := hp2 r2 τ2 h2
  refine x_icmp_eq C 1196 dL_law_386 (by decide) (fun _ => ?_) (fun h => absurd rfl h)
  refine x_widen (k := cells + 2) (n := slots + 12) (by omega) (by omega) ?_
  exact kk _ _ hL hI2
theorem lc_391 (C : x_C p s m args c cL_law 8 RL Y) (S : x_SC Y s n xs) (hn : n ≤ 3072) (hl : l.stackTraces = false) (hI : w_I σ κ) (hκ : κ < 512) (hi : i + 6 ≤ n) (hc : cells + 2 ≤ 1101) (hs : slots + 12 ≤ 107374) (hL : l_ok L i) (kk : ∀ L9 σ9, l_ok L9 i → w_I σ9 (κ + 1) → x_W p l e room_1 s m args below meth c 8 Y (cells + 2) (slots + 12) Q 1196 L9 [] σ9) : x_W p l e room_1 s m args below meth c 8 Y cells slots Q 391 L [] σ := by
  obtain ⟨post1, hM1, hp1⟩ := pr_plain (l := l) (Y := Y) hI hκ (xs (i + 1))
  refine x_aload_n C (i := 1) dL_law_391 rfl hL.2.1 ?_
  refine x_aload_n C (i := 0) dL_law_392 rfl hL.1 ?_
  refine x_iload C dL_law_393 hL.2.2.2.2 ?_
  refine x_iconst C (nI 1) dL_law_395 rfl ?_
  refine x_iaddN C dL_law_396 ?_
  refine x_sld C S (by omega) (by omega) dL_law_397 ?_
  refine x_callV C (as := [.int (xs (i + 1))]) (st := []) hM1 kb_X11_plain kv_L_95 dL_law_398 rfl rfl (Nat.le_of_ble_eq_true rfl) ⟨by decide, by decide⟩ ⟨by show cells ≤ 1101; omega, by show slots ≤ 107374; omega⟩ ko_0 ?_
  intro r τ h1
  obtain ⟨aq, rfl, post2, hM2, hp2⟩ := hp1 r τ h1
  refine x_aload_n C (i := 2) dL_law_401 rfl hL.2.2.1 ?_
  refine x_aload_n C (i := 0) dL_law_402 rfl hL.1 ?_
  refine x_iload C dL_law_403 hL.2.2.2.2 ?_
  refine x_iconst C (nI 1) dL_law_405 rfl ?_
  refine x_iaddN C dL_law_406 ?_
  refine x_sld C S (by omega) (by omega) dL_law_407 ?_
  refine x_callV C (as := [.int (xs (i + 1))]) (st := [.int aq]) hM2 kb_X12_plain kv_L_98 dL_law_408 rfl rfl (Nat.le_of_ble_eq_true rfl) ⟨by decide, by decide⟩ ⟨by show cells ≤ 1101; omega, by show slots ≤ 107374; omega⟩ ko_38 ?_
  intro r2 τ2 h2
  obtain ⟨rfl, hI2⟩ := hp2 r2 τ2 h2
  refine x_icmp_eq C 1196 dL_law_411 (by decide) (fun _ => ?_) (fun h => absurd rfl h)
  refine x_widen (k := cells + 2) (n := slots + 12) (by omega) (by omega) ?_
  exact kk _ _ hL hI2
theorem lc_416 (C : x_C p s m args c cL_law 8 RL Y) (S : x_SC Y s n xs) (hn : n ≤ 3072) (hl : l.stackTraces = false) (hI : w_I σ κ) (hκ : κ < 512) (hi : i + 6 ≤ n) (hc : cells + 2 ≤ 1101) (hs : slots + 12 ≤ 107374) (hL : l_ok L i) (kk : ∀ L9 σ9, l_ok L9 i → w_I σ9 (κ + 1) → x_W p l e room_1 s m args below meth c 8 Y (cells + 2) (slots + 12) Q 1196 L9 [] σ9) : x_W p l e room_1 s m args below meth c 8 Y cells slots Q 416 L [] σ := by
  obtain ⟨post1, hM1, hp1⟩ := pr_sent (l := l) (Y := Y) hl hI hκ (xs (i + 1)) (xs (i + 2)) (xs (i + 3)) (xs (i + 4)) (xs (i + 5))
  refine x_aload_n C (i := 1) dL_law_416 rfl hL.2.1 ?_
  refine x_aload_n C (i := 0) dL_law_417 rfl hL.1 ?_
  refine x_iload C dL_law_418 hL.2.2.2.2 ?_
  refine x_iconst C (nI 1) dL_law_420 rfl ?_
  refine x_iaddN C dL_law_421 ?_
  refine x_sld C S (by omega) (by omega) dL_law_422 ?_
  refine x_aload_n C (i := 0) dL_law_423 rfl hL.1 ?_
  refine x_iload C dL_law_424 hL.2.2.2.2 ?_
  refine x_iconst C (nI 2) dL_law_426 rfl ?_
  refine x_iaddN C dL_law_427 ?_
  refine x_sld C S (by omega) (by omega) dL_law_428 ?_
  refine x_aload_n C (i := 0) dL_law_429 rfl hL.1 ?_
  refine x_iload C dL_law_430 hL.2.2.2.2 ?_
  refine x_iconst C (nI 3) dL_law_432 rfl ?_
  refine x_iaddN C dL_law_433 ?_
  refine x_sld C S (by omega) (by omega) dL_law_434 ?_
  refine x_aload_n C (i := 0) dL_law_435 rfl hL.1 ?_
  refine x_iload C dL_law_436 hL.2.2.2.2 ?_
  refine x_iconst C (nI 4) dL_law_438 rfl ?_
  refine x_iaddN C dL_law_439 ?_
  refine x_sld C S (by omega) (by omega) dL_law_440 ?_
  refine x_aload_n C (i := 0) dL_law_441 rfl hL.1 ?_
  refine x_iload C dL_law_442 hL.2.2.2.2 ?_
  refine x_iconst C (nI 5) dL_law_444 rfl ?_
  refine x_iaddN C dL_law_445 ?_
  refine x_sld C S (by omega) (by omega) dL_law_446 ?_
  refine x_aload_n C (i := 3) dL_law_447 rfl hL.2.2.2.1 ?_
  refine x_callSH C (as := [.ref 0, .int (xs (i + 1)), .int (xs (i + 2)), .int (xs (i + 3)), .int (xs (i + 4)), .int (xs (i + 5)), .ref 63]) (st := []) hM1 kh_L_sent ks_L_99 dL_law_448 rfl rfl (Nat.le_of_ble_eq_true rfl) ⟨by decide, by decide⟩ ⟨by show cells + 1 ≤ 1101; omega, by show slots + 6 * 1 ≤ 107374; omega⟩ ?_
  intro r τ h1
  obtain ⟨kq, hkq, rfl, post2, hM2, hp2⟩ := hp1 r τ h1
  refine x_istore C dL_law_451 (by decide) ?_
  have hL5 := l_ok1 hL (k := 5) (by decide) (.int (nI kq))
  refine x_aload_n C (i := 2) dL_law_453 rfl hL5.2.2.1 ?_
  refine x_aload_n C (i := 0) dL_law_454 rfl hL5.1 ?_
  refine x_iload C dL_law_455 hL5.2.2.2.2 ?_
  refine x_iconst C (nI 1) dL_law_457 rfl ?_
  refine x_iaddN C dL_law_458 ?_
  refine x_sld C S (by omega) (by omega) dL_law_459 ?_
  refine x_aload_n C (i := 0) dL_law_460 rfl hL5.1 ?_
  refine x_iload C dL_law_461 hL5.2.2.2.2 ?_
  refine x_iconst C (nI 2) dL_law_463 rfl ?_
  refine x_iaddN C dL_law_464 ?_
  refine x_sld C S (by omega) (by omega) dL_law_465 ?_
  refine x_aload_n C (i := 0) dL_law_466 rfl hL5.1 ?_
  refine x_iload C dL_law_467 hL5.2.2.2.2 ?_
  refine x_iconst C (nI 3) dL_law_469 rfl ?_
  refine x_iaddN C dL_law_470 ?_
  refine x_sld C S (by omega) (by omega) dL_law_471 ?_
  refine x_aload_n C (i := 0) dL_law_472 rfl hL5.1 ?_
  refine x_iload C dL_law_473 hL5.2.2.2.2 ?_
  refine x_iconst C (nI 4) dL_law_475 rfl ?_
  refine x_iaddN C dL_law_476 ?_
  refine x_sld C S (by omega) (by omega) dL_law_477 ?_
  refine x_aload_n C (i := 0) dL_law_478 rfl hL5.1 ?_
  refine x_iload C dL_law_479 hL5.2.2.2.2 ?_
  refine x_iconst C (nI 5) dL_law_481 rfl ?_
  refine x_iaddN C dL_law_482 ?_
  refine x_sld C S (by omega) (by omega) dL_law_483 ?_
  refine x_callV C (as := [.int (xs (i + 1)), .int (xs (i + 2)), .int (xs (i + 3)), .int (xs (i + 4)), .int (xs (i + 5))]) (st := []) hM2 kb_X12_sent kv_L_101 dL_law_484 rfl rfl (Nat.le_of_ble_eq_true rfl) ⟨by decide, by decide⟩ ⟨by show cells + 1 ≤ 1101; omega, by show slots + 6 * 1 ≤ 107374; omega⟩ ko_38 ?_
  intro r2 τ2 h2
  obtain ⟨bq, rfl, e38, eout, hI2⟩ := hp2 r2 τ2 h2
  refine x_istore C dL_law_487 (by decide) ?_
  have hL6 := l_ok1 hL5 (k := 6) (by decide) (.int bq)
  refine x_aload_n C (i := 2) dL_law_489 rfl hL6.2.2.1 ?_
  have hM3 := c_X12_thrown l Y τ2
  refine x_callV C (as := []) (st := []) hM3 kb_X12_thrown kv_L_72 dL_law_490 rfl rfl (Nat.le_of_ble_eq_true rfl) ⟨by decide, by decide⟩ ⟨by show cells + 1 ≤ 1101; omega, by show slots + 6 * 1 ≤ 107374; omega⟩ ko_38 ?_
  clear hM3
  intro r3 τ3 h3
  obtain ⟨rfl, h8⟩ := h3
  rw [h8]
  clear h8 τ3
  refine x_topI e38 ?_
  refine x_iload C dL_law_493 (l_g56 _ _ _) ?_
  refine x_icmp_eqN C 500 dL_law_495 (by decide) (by omega) (by omega) (fun _ => ?_) (fun h => absurd rfl h)
  refine x_iload C dL_law_500 (l_g56 _ _ _) ?_
  refine x_if_neN C 517 dL_law_502 (by decide) (by omega) (fun _ => ?_) (fun h0 => ?_)
  · refine x_goto C 1196 dL_law_517 (by decide) ?_
    refine x_widen (k := cells + 2) (n := slots + 12) (by omega) (by omega) ?_
    exact kk _ _ hL6 hI2
  · refine x_aload_n C (i := 3) dL_law_505 rfl hL6.2.2.2.1 ?_
    refine x_iconst C (nI 0) dL_law_506 rfl ?_
    refine x_laldN C (k := 63) (n := 1) (by decide) rfl (by decide) dL_law_507 (by decide) ?_
    refine x_topL (eout h0) ?_
    refine x_iload C dL_law_508 (l_g6 _ _) ?_
    refine x_i2l C dL_law_510 ?_
    refine x_lcmp C dL_law_511 ?_
    refine x_topI (l_cmp _) ?_
    refine x_if_eqN C 517 dL_law_512 (by decide) (by decide) (fun _ => ?_) (fun h => absurd rfl h)
    refine x_goto C 1196 dL_law_517 (by decide) ?_
    refine x_widen (k := cells + 2) (n := slots + 12) (by omega) (by omega) ?_
    exact kk _ _ hL6 hI2
theorem lc_520 (C : x_C p s m args c cL_law 8 RL Y) (S : x_SC Y s n xs) (hn : n ≤ 3072) (hl : l.stackTraces = false) (hI : w_I σ κ) (hκ : κ < 512) (hi : i + 6 ≤ n) (hc : cells + 2 ≤ 1101) (hs : slots + 12 ≤ 107374) (hL : l_ok L i) (kk : ∀ L9 σ9, l_ok L9 i → w_I σ9 (κ + 1) → x_W p l e room_1 s m args below meth c 8 Y (cells + 2) (slots + 12) Q 1196 L9 [] σ9) : x_W p l e room_1 s m args below meth c 8 Y cells slots Q 520 L [] σ := by
  obtain ⟨post1, hM1, hp1⟩ := pr_absent (l := l) (Y := Y) hl hI hκ (xs (i + 1)) (xs (i + 2)) (xs (i + 3))
  refine x_aload_n C (i := 1) dL_law_520 rfl hL.2.1 ?_
  refine x_aload_n C (i := 0) dL_law_521 rfl hL.1 ?_
  refine x_iload C dL_law_522 hL.2.2.2.2 ?_
  refine x_iconst C (nI 1) dL_law_524 rfl ?_
  refine x_iaddN C dL_law_525 ?_
  refine x_sld C S (by omega) (by omega) dL_law_526 ?_
  refine x_aload_n C (i := 0) dL_law_527 rfl hL.1 ?_
  refine x_iload C dL_law_528 hL.2.2.2.2 ?_
  refine x_iconst C (nI 2) dL_law_530 rfl ?_
  refine x_iaddN C dL_law_531 ?_
  refine x_sld C S (by omega) (by omega) dL_law_532 ?_
  refine x_aload_n C (i := 0) dL_law_533 rfl hL.1 ?_
  refine x_iload C dL_law_534 hL.2.2.2.2 ?_
  refine x_iconst C (nI 3) dL_law_536 rfl ?_
  refine x_iaddN C dL_law_537 ?_
  refine x_sld C S (by omega) (by omega) dL_law_538 ?_
  refine x_aload_n C (i := 3) dL_law_539 rfl hL.2.2.2.1 ?_
  refine x_callSH C (as := [.ref 0, .int (xs (i + 1)), .int (xs (i + 2)), .int (xs (i + 3)), .ref 63]) (st := []) hM1 kh_L_absent ks_L_102 dL_law_540 rfl rfl (Nat.le_of_ble_eq_true rfl) ⟨by decide, by decide⟩ ⟨by show cells + 2 ≤ 1101; omega, by show slots + 6 * 2 ≤ 107374; omega⟩ ?_
  intro r τ h1
  obtain ⟨kq, hkq, rfl, post2, hM2, hp2⟩ := hp1 r τ h1
  refine x_istore C dL_law_543 (by decide) ?_
  have hL5 := l_ok1 hL (k := 5) (by decide) (.int (nI kq))
  refine x_aload_n C (i := 2) dL_law_545 rfl hL5.2.2.1 ?_
  refine x_aload_n C (i := 0) dL_law_546 rfl hL5.1 ?_
  refine x_iload C dL_law_547 hL5.2.2.2.2 ?_
  refine x_iconst C (nI 1) dL_law_549 rfl ?_
  refine x_iaddN C dL_law_550 ?_
  refine x_sld C S (by omega) (by omega) dL_law_551 ?_
  refine x_aload_n C (i := 0) dL_law_552 rfl hL5.1 ?_
  refine x_iload C dL_law_553 hL5.2.2.2.2 ?_
  refine x_iconst C (nI 2) dL_law_555 rfl ?_
  refine x_iaddN C dL_law_556 ?_
  refine x_sld C S (by omega) (by omega) dL_law_557 ?_
  refine x_aload_n C (i := 0) dL_law_558 rfl hL5.1 ?_
  refine x_iload C dL_law_559 hL5.2.2.2.2 ?_
  refine x_iconst C (nI 3) dL_law_561 rfl ?_
  refine x_iaddN C dL_law_562 ?_
  refine x_sld C S (by omega) (by omega) dL_law_563 ?_
  refine x_callV C (as := [.int (xs (i + 1)), .int (xs (i + 2)), .int (xs (i + 3))]) (st := []) hM2 kb_X12_absent kv_L_105 dL_law_564 rfl rfl (Nat.le_of_ble_eq_true rfl) ⟨by decide, by decide⟩ ⟨by show cells + 2 ≤ 1101; omega, by show slots + 6 * 2 ≤ 107374; omega⟩ ko_38 ?_
  intro r2 τ2 h2
  obtain ⟨bq, rfl, e38, eout, hI2⟩ := hp2 r2 τ2 h2
  refine x_istore C dL_law_567 (by decide) ?_
  have hL6 := l_ok1 hL5 (k := 6) (by decide) (.int bq)
  refine x_aload_n C (i := 2) dL_law_569 rfl hL6.2.2.1 ?_
  have hM3 := c_X12_thrown l Y τ2
  refine x_callV C (as := []) (st := []) hM3 kb_X12_thrown kv_L_72 dL_law_570 rfl rfl (Nat.le_of_ble_eq_true rfl) ⟨by decide, by decide⟩ ⟨by show cells + 2 ≤ 1101; omega, by show slots + 6 * 2 ≤ 107374; omega⟩ ko_38 ?_
  clear hM3
  intro r3 τ3 h3
  obtain ⟨rfl, h8⟩ := h3
  rw [h8]
  clear h8 τ3
  refine x_topI e38 ?_
  refine x_iload C dL_law_573 (l_g56 _ _ _) ?_
  refine x_icmp_eqN C 580 dL_law_575 (by decide) (by omega) (by omega) (fun _ => ?_) (fun h => absurd rfl h)
  refine x_iload C dL_law_580 (l_g56 _ _ _) ?_
  refine x_if_neN C 597 dL_law_582 (by decide) (by omega) (fun _ => ?_) (fun h0 => ?_)
  · refine x_goto C 1196 dL_law_597 (by decide) ?_
    refine x_widen (k := cells + 2) (n := slots + 12) (by omega) (by omega) ?_
    exact kk _ _ hL6 hI2
  · refine x_aload_n C (i := 3) dL_law_585 rfl hL6.2.2.2.1 ?_
    refine x_iconst C (nI 0) dL_law_586 rfl ?_
    refine x_laldN C (k := 63) (n := 1) (by decide) rfl (by decide) dL_law_587 (by decide) ?_
    refine x_topL (eout h0) ?_
    refine x_iload C dL_law_588 (l_g6 _ _) ?_
    refine x_i2l C dL_law_590 ?_
    refine x_lcmp C dL_law_591 ?_
    refine x_topI (l_cmp _) ?_
    refine x_if_eqN C 597 dL_law_592 (by decide) (by decide) (fun _ => ?_) (fun h => absurd rfl h)
    refine x_goto C 1196 dL_law_597 (by decide) ?_
    refine x_widen (k := cells + 2) (n := slots + 12) (by omega) (by omega) ?_
    exact kk _ _ hL6 hI2
theorem lc_600 (C : x_C p s m args c cL_law 8 RL Y) (S : x_SC Y s n xs) (hn : n ≤ 3072) (hl : l.stackTraces = false) (hI : w_I σ κ) (hκ : κ < 512) (hi : i + 6 ≤ n) (hc : cells + 2 ≤ 1101) (hs : slots + 12 ≤ 107374) (hL : l_ok L i) (kk : ∀ L9 σ9, l_ok L9 i → w_I σ9 (κ + 1) → x_W p l e room_1 s m args below meth c 8 Y (cells + 2) (slots + 12) Q 1196 L9 [] σ9) : x_W p l e room_1 s m args below meth c 8 Y cells slots Q 600 L [] σ := by
  obtain ⟨post1, hM1, hp1⟩ := pr_greatest (l := l) (Y := Y) hl hI hκ (xs (i + 1)) (xs (i + 2)) (xs (i + 3)) (xs (i + 4))
  refine x_aload_n C (i := 1) dL_law_600 rfl hL.2.1 ?_
  refine x_aload_n C (i := 0) dL_law_601 rfl hL.1 ?_
  refine x_iload C dL_law_602 hL.2.2.2.2 ?_
  refine x_iconst C (nI 1) dL_law_604 rfl ?_
  refine x_iaddN C dL_law_605 ?_
  refine x_sld C S (by omega) (by omega) dL_law_606 ?_
  refine x_aload_n C (i := 0) dL_law_607 rfl hL.1 ?_
  refine x_iload C dL_law_608 hL.2.2.2.2 ?_
  refine x_iconst C (nI 2) dL_law_610 rfl ?_
  refine x_iaddN C dL_law_611 ?_
  refine x_sld C S (by omega) (by omega) dL_law_612 ?_
  refine x_aload_n C (i := 0) dL_law_613 rfl hL.1 ?_
  refine x_iload C dL_law_614 hL.2.2.2.2 ?_
  refine x_iconst C (nI 3) dL_law_616 rfl ?_
  refine x_iaddN C dL_law_617 ?_
  refine x_sld C S (by omega) (by omega) dL_law_618 ?_
  refine x_aload_n C (i := 0) dL_law_619 rfl hL.1 ?_
  refine x_iload C dL_law_620 hL.2.2.2.2 ?_
  refine x_iconst C (nI 4) dL_law_622 rfl ?_
  refine x_iaddN C dL_law_623 ?_
  refine x_sld C S (by omega) (by omega) dL_law_624 ?_
  refine x_aload_n C (i := 3) dL_law_625 rfl hL.2.2.2.1 ?_
  refine x_callSH C (as := [.ref 0, .int (xs (i + 1)), .int (xs (i + 2)), .int (xs (i + 3)), .int (xs (i + 4)), .ref 63]) (st := []) hM1 kh_L_greatest ks_L_106 dL_law_626 rfl rfl (Nat.le_of_ble_eq_true rfl) ⟨by decide, by decide⟩ ⟨by show cells + 2 ≤ 1101; omega, by show slots + 6 * 2 ≤ 107374; omega⟩ ?_
  intro r τ h1
  obtain ⟨kq, hkq, rfl, post2, hM2, hp2⟩ := hp1 r τ h1
  refine x_istore C dL_law_629 (by decide) ?_
  have hL5 := l_ok1 hL (k := 5) (by decide) (.int (nI kq))
  refine x_aload_n C (i := 2) dL_law_631 rfl hL5.2.2.1 ?_
  refine x_aload_n C (i := 0) dL_law_632 rfl hL5.1 ?_
  refine x_iload C dL_law_633 hL5.2.2.2.2 ?_
  refine x_iconst C (nI 1) dL_law_635 rfl ?_
  refine x_iaddN C dL_law_636 ?_
  refine x_sld C S (by omega) (by omega) dL_law_637 ?_
  refine x_aload_n C (i := 0) dL_law_638 rfl hL5.1 ?_
  refine x_iload C dL_law_639 hL5.2.2.2.2 ?_
  refine x_iconst C (nI 2) dL_law_641 rfl ?_
  refine x_iaddN C dL_law_642 ?_
  refine x_sld C S (by omega) (by omega) dL_law_643 ?_
  refine x_aload_n C (i := 0) dL_law_644 rfl hL5.1 ?_
  refine x_iload C dL_law_645 hL5.2.2.2.2 ?_
  refine x_iconst C (nI 3) dL_law_647 rfl ?_
  refine x_iaddN C dL_law_648 ?_
  refine x_sld C S (by omega) (by omega) dL_law_649 ?_
  refine x_aload_n C (i := 0) dL_law_650 rfl hL5.1 ?_
  refine x_iload C dL_law_651 hL5.2.2.2.2 ?_
  refine x_iconst C (nI 4) dL_law_653 rfl ?_
  refine x_iaddN C dL_law_654 ?_
  refine x_sld C S (by omega) (by omega) dL_law_655 ?_
  refine x_callV C (as := [.int (xs (i + 1)), .int (xs (i + 2)), .int (xs (i + 3)), .int (xs (i + 4))]) (st := []) hM2 kb_X12_greatest kv_L_109 dL_law_656 rfl rfl (Nat.le_of_ble_eq_true rfl) ⟨by decide, by decide⟩ ⟨by show cells + 2 ≤ 1101; omega, by show slots + 6 * 2 ≤ 107374; omega⟩ ko_38 ?_
  intro r2 τ2 h2
  obtain ⟨bq, rfl, e38, eout, hI2⟩ := hp2 r2 τ2 h2
  refine x_istore C dL_law_659 (by decide) ?_
  have hL6 := l_ok1 hL5 (k := 6) (by decide) (.int bq)
  refine x_aload_n C (i := 2) dL_law_661 rfl hL6.2.2.1 ?_
  have hM3 := c_X12_thrown l Y τ2
  refine x_callV C (as := []) (st := []) hM3 kb_X12_thrown kv_L_72 dL_law_662 rfl rfl (Nat.le_of_ble_eq_true rfl) ⟨by decide, by decide⟩ ⟨by show cells + 2 ≤ 1101; omega, by show slots + 6 * 2 ≤ 107374; omega⟩ ko_38 ?_
  clear hM3
  intro r3 τ3 h3
  obtain ⟨rfl, h8⟩ := h3
  rw [h8]
  clear h8 τ3
  refine x_topI e38 ?_
  refine x_iload C dL_law_665 (l_g56 _ _ _) ?_
  refine x_icmp_eqN C 672 dL_law_667 (by decide) (by omega) (by omega) (fun _ => ?_) (fun h => absurd rfl h)
  refine x_iload C dL_law_672 (l_g56 _ _ _) ?_
  refine x_if_neN C 689 dL_law_674 (by decide) (by omega) (fun _ => ?_) (fun h0 => ?_)
  · refine x_goto C 1196 dL_law_689 (by decide) ?_
    refine x_widen (k := cells + 2) (n := slots + 12) (by omega) (by omega) ?_
    exact kk _ _ hL6 hI2
  · refine x_aload_n C (i := 3) dL_law_677 rfl hL6.2.2.2.1 ?_
    refine x_iconst C (nI 0) dL_law_678 rfl ?_
    refine x_laldN C (k := 63) (n := 1) (by decide) rfl (by decide) dL_law_679 (by decide) ?_
    refine x_topL (eout h0) ?_
    refine x_iload C dL_law_680 (l_g6 _ _) ?_
    refine x_i2l C dL_law_682 ?_
    refine x_lcmp C dL_law_683 ?_
    refine x_topI (l_cmp _) ?_
    refine x_if_eqN C 689 dL_law_684 (by decide) (by decide) (fun _ => ?_) (fun h => absurd rfl h)
    refine x_goto C 1196 dL_law_689 (by decide) ?_
    refine x_widen (k := cells + 2) (n := slots + 12) (by omega) (by omega) ?_
    exact kk _ _ hL6 hI2
theorem lc_692 (C : x_C p s m args c cL_law 8 RL Y) (S : x_SC Y s n xs) (hn : n ≤ 3072) (hl : l.stackTraces = false) (hI : w_I σ κ) (hκ : κ < 512) (hi : i + 6 ≤ n) (hc : cells + 2 ≤ 1101) (hs : slots + 12 ≤ 107374) (hL : l_ok L i) (kk : ∀ L9 σ9, l_ok L9 i → w_I σ9 (κ + 1) → x_W p l e room_1 s m args below meth c 8 Y (cells + 2) (slots + 12) Q 1196 L9 [] σ9) : x_W p l e room_1 s m args below meth c 8 Y cells slots Q 692 L [] σ := by
  obtain ⟨post1, hM1, hp1⟩ := pr_file (l := l) (Y := Y) hI hκ 
  refine x_aload_n C (i := 1) dL_law_692 rfl hL.2.1 ?_
  refine x_callV C (as := []) (st := []) hM1 kb_X11_file kv_L_110 dL_law_693 rfl rfl (Nat.le_of_ble_eq_true rfl) ⟨by decide, by decide⟩ ⟨by show cells ≤ 1101; omega, by show slots ≤ 107374; omega⟩ ko_0 ?_
  intro r τ h1
  obtain ⟨aq, rfl, post2, hM2, hp2⟩ := hp1 r τ h1
  refine x_aload_n C (i := 2) dL_law_696 rfl hL.2.2.1 ?_
  refine x_callV C (as := []) (st := [.int aq]) hM2 kb_X12_file kv_L_113 dL_law_697 rfl rfl (Nat.le_of_ble_eq_true rfl) ⟨by decide, by decide⟩ ⟨by show cells ≤ 1101; omega, by show slots ≤ 107374; omega⟩ ko_38 ?_
  intro r2 τ2 h2
  obtain ⟨rfl, hI2⟩ := hp2 r2 τ2 h2
  refine x_icmp_eq C 1196 dL_law_700 (by decide) (fun _ => ?_) (fun h => absurd rfl h)
  refine x_widen (k := cells + 2) (n := slots + 12) (by omega) (by omega) ?_
  exact kk _ _ hL hI2
theorem lc_705 (C : x_C p s m args c cL_law 8 RL Y) (S : x_SC Y s n xs) (hn : n ≤ 3072) (hl : l.stackTraces = false) (hI : w_I σ κ) (hκ : κ < 512) (hi : i + 6 ≤ n) (hc : cells + 2 ≤ 1101) (hs : slots + 12 ≤ 107374) (hL : l_ok L i) (kk : ∀ L9 σ9, l_ok L9 i → w_I σ9 (κ + 1) → x_W p l e room_1 s m args below meth c 8 Y (cells + 2) (slots + 12) Q 1196 L9 [] σ9) : x_W p l e room_1 s m args below meth c 8 Y cells slots Q 705 L [] σ := by
  obtain ⟨post1, hM1, hp1⟩ := pr_drop (l := l) (Y := Y) hI hκ 
  refine x_aload_n C (i := 1) dL_law_705 rfl hL.2.1 ?_
  refine x_callV C (as := []) (st := []) hM1 kb_X11_drop kv_L_114 dL_law_706 rfl rfl (Nat.le_of_ble_eq_true rfl) ⟨by decide, by decide⟩ ⟨by show cells ≤ 1101; omega, by show slots ≤ 107374; omega⟩ ko_0 ?_
  intro r τ h1
  obtain ⟨aq, rfl, post2, hM2, hp2⟩ := hp1 r τ h1
  refine x_aload_n C (i := 2) dL_law_709 rfl hL.2.2.1 ?_
  refine x_callV C (as := []) (st := [.int aq]) hM2 kb_X12_drop kv_L_117 dL_law_710 rfl rfl (Nat.le_of_ble_eq_true rfl) ⟨by decide, by decide⟩ ⟨by show cells ≤ 1101; omega, by show slots ≤ 107374; omega⟩ ko_38 ?_
  intro r2 τ2 h2
  obtain ⟨rfl, hI2⟩ := hp2 r2 τ2 h2
  refine x_icmp_eq C 1196 dL_law_713 (by decide) (fun _ => ?_) (fun h => absurd rfl h)
  refine x_widen (k := cells + 2) (n := slots + 12) (by omega) (by omega) ?_
  exact kk _ _ hL hI2
theorem lc_718 (C : x_C p s m args c cL_law 8 RL Y) (S : x_SC Y s n xs) (hn : n ≤ 3072) (hl : l.stackTraces = false) (hI : w_I σ κ) (hκ : κ < 512) (hi : i + 6 ≤ n) (hc : cells + 2 ≤ 1101) (hs : slots + 12 ≤ 107374) (hL : l_ok L i) (kk : ∀ L9 σ9, l_ok L9 i → w_I σ9 (κ + 1) → x_W p l e room_1 s m args below meth c 8 Y (cells + 2) (slots + 12) Q 1196 L9 [] σ9) : x_W p l e room_1 s m args below meth c 8 Y cells slots Q 718 L [] σ := by
  obtain ⟨post1, hM1, hp1⟩ := pr_reflections (l := l) (Y := Y) hI hκ 
  refine x_aload_n C (i := 1) dL_law_718 rfl hL.2.1 ?_
  refine x_callV C (as := []) (st := []) hM1 kb_X11_reflections kv_L_118 dL_law_719 rfl rfl (Nat.le_of_ble_eq_true rfl) ⟨by decide, by decide⟩ ⟨by show cells ≤ 1101; omega, by show slots ≤ 107374; omega⟩ ko_0 ?_
  intro r τ h1
  obtain ⟨aq, rfl, post2, hM2, hp2⟩ := hp1 r τ h1
  refine x_aload_n C (i := 2) dL_law_722 rfl hL.2.2.1 ?_
  refine x_callV C (as := []) (st := [.int aq]) hM2 kb_X12_reflections kv_L_121 dL_law_723 rfl rfl (Nat.le_of_ble_eq_true rfl) ⟨by decide, by decide⟩ ⟨by show cells ≤ 1101; omega, by show slots ≤ 107374; omega⟩ ko_38 ?_
  intro r2 τ2 h2
  obtain ⟨rfl, hI2⟩ := hp2 r2 τ2 h2
  refine x_icmp_eq C 1196 dL_law_726 (by decide) (fun _ => ?_) (fun h => absurd rfl h)
  refine x_widen (k := cells + 2) (n := slots + 12) (by omega) (by omega) ?_
  exact kk _ _ hL hI2
theorem lc_731 (C : x_C p s m args c cL_law 8 RL Y) (S : x_SC Y s n xs) (hn : n ≤ 3072) (hl : l.stackTraces = false) (hI : w_I σ κ) (hκ : κ < 512) (hi : i + 6 ≤ n) (hc : cells + 2 ≤ 1101) (hs : slots + 12 ≤ 107374) (hL : l_ok L i) (kk : ∀ L9 σ9, l_ok L9 i → w_I σ9 (κ + 1) → x_W p l e room_1 s m args below meth c 8 Y (cells + 2) (slots + 12) Q 1196 L9 [] σ9) : x_W p l e room_1 s m args below meth c 8 Y cells slots Q 731 L [] σ := by
  obtain ⟨post1, hM1, hp1⟩ := pr_reflection (l := l) (Y := Y) hl hI hκ (xs (i + 1)) (xs (i + 2))
  refine x_aload_n C (i := 1) dL_law_731 rfl hL.2.1 ?_
  refine x_aload_n C (i := 0) dL_law_732 rfl hL.1 ?_
  refine x_iload C dL_law_733 hL.2.2.2.2 ?_
  refine x_iconst C (nI 1) dL_law_735 rfl ?_
  refine x_iaddN C dL_law_736 ?_
  refine x_sld C S (by omega) (by omega) dL_law_737 ?_
  refine x_aload_n C (i := 0) dL_law_738 rfl hL.1 ?_
  refine x_iload C dL_law_739 hL.2.2.2.2 ?_
  refine x_iconst C (nI 2) dL_law_741 rfl ?_
  refine x_iaddN C dL_law_742 ?_
  refine x_sld C S (by omega) (by omega) dL_law_743 ?_
  refine x_aload_n C (i := 3) dL_law_744 rfl hL.2.2.2.1 ?_
  refine x_callSH C (as := [.ref 0, .int (xs (i + 1)), .int (xs (i + 2)), .ref 63]) (st := []) hM1 kh_L_reflection ks_L_122 dL_law_745 rfl rfl (Nat.le_of_ble_eq_true rfl) ⟨by decide, by decide⟩ ⟨by show cells + 1 ≤ 1101; omega, by show slots + 6 * 1 ≤ 107374; omega⟩ ?_
  intro r τ h1
  obtain ⟨kq, hkq, rfl, post2, hM2, hp2⟩ := hp1 r τ h1
  refine x_istore C dL_law_748 (by decide) ?_
  have hL5 := l_ok1 hL (k := 5) (by decide) (.int (nI kq))
  refine x_aload_n C (i := 2) dL_law_750 rfl hL5.2.2.1 ?_
  refine x_aload_n C (i := 0) dL_law_751 rfl hL5.1 ?_
  refine x_iload C dL_law_752 hL5.2.2.2.2 ?_
  refine x_iconst C (nI 1) dL_law_754 rfl ?_
  refine x_iaddN C dL_law_755 ?_
  refine x_sld C S (by omega) (by omega) dL_law_756 ?_
  refine x_aload_n C (i := 0) dL_law_757 rfl hL5.1 ?_
  refine x_iload C dL_law_758 hL5.2.2.2.2 ?_
  refine x_iconst C (nI 2) dL_law_760 rfl ?_
  refine x_iaddN C dL_law_761 ?_
  refine x_sld C S (by omega) (by omega) dL_law_762 ?_
  refine x_callV C (as := [.int (xs (i + 1)), .int (xs (i + 2))]) (st := []) hM2 kb_X12_reflection kv_L_124 dL_law_763 rfl rfl (Nat.le_of_ble_eq_true rfl) ⟨by decide, by decide⟩ ⟨by show cells + 1 ≤ 1101; omega, by show slots + 6 * 1 ≤ 107374; omega⟩ ko_38 ?_
  intro r2 τ2 h2
  obtain ⟨bq, rfl, e38, eout, hI2⟩ := hp2 r2 τ2 h2
  refine x_istore C dL_law_766 (by decide) ?_
  have hL6 := l_ok1 hL5 (k := 6) (by decide) (.int bq)
  refine x_aload_n C (i := 2) dL_law_768 rfl hL6.2.2.1 ?_
  have hM3 := c_X12_thrown l Y τ2
  refine x_callV C (as := []) (st := []) hM3 kb_X12_thrown kv_L_72 dL_law_769 rfl rfl (Nat.le_of_ble_eq_true rfl) ⟨by decide, by decide⟩ ⟨by show cells + 1 ≤ 1101; omega, by show slots + 6 * 1 ≤ 107374; omega⟩ ko_38 ?_
  clear hM3
  intro r3 τ3 h3
  obtain ⟨rfl, h8⟩ := h3
  rw [h8]
  clear h8 τ3
  refine x_topI e38 ?_
  refine x_iload C dL_law_772 (l_g56 _ _ _) ?_
  refine x_icmp_eqN C 779 dL_law_774 (by decide) (by omega) (by omega) (fun _ => ?_) (fun h => absurd rfl h)
  refine x_iload C dL_law_779 (l_g56 _ _ _) ?_
  refine x_if_neN C 796 dL_law_781 (by decide) (by omega) (fun _ => ?_) (fun h0 => ?_)
  · refine x_goto C 1196 dL_law_796 (by decide) ?_
    refine x_widen (k := cells + 2) (n := slots + 12) (by omega) (by omega) ?_
    exact kk _ _ hL6 hI2
  · refine x_aload_n C (i := 3) dL_law_784 rfl hL6.2.2.2.1 ?_
    refine x_iconst C (nI 0) dL_law_785 rfl ?_
    refine x_laldN C (k := 63) (n := 1) (by decide) rfl (by decide) dL_law_786 (by decide) ?_
    refine x_topL (eout h0) ?_
    refine x_iload C dL_law_787 (l_g6 _ _) ?_
    refine x_i2l C dL_law_789 ?_
    refine x_lcmp C dL_law_790 ?_
    refine x_topI (l_cmp _) ?_
    refine x_if_eqN C 796 dL_law_791 (by decide) (by decide) (fun _ => ?_) (fun h => absurd rfl h)
    refine x_goto C 1196 dL_law_796 (by decide) ?_
    refine x_widen (k := cells + 2) (n := slots + 12) (by omega) (by omega) ?_
    exact kk _ _ hL6 hI2
theorem lc_799 (C : x_C p s m args c cL_law 8 RL Y) (S : x_SC Y s n xs) (hn : n ≤ 3072) (hl : l.stackTraces = false) (hI : w_I σ κ) (hκ : κ < 512) (hi : i + 6 ≤ n) (hc : cells + 2 ≤ 1101) (hs : slots + 12 ≤ 107374) (hL : l_ok L i) (kk : ∀ L9 σ9, l_ok L9 i → w_I σ9 (κ + 1) → x_W p l e room_1 s m args below meth c 8 Y (cells + 2) (slots + 12) Q 1196 L9 [] σ9) : x_W p l e room_1 s m args below meth c 8 Y cells slots Q 799 L [] σ := by
  obtain ⟨post1, hM1, hp1⟩ := pr_merge (l := l) (Y := Y) hl hI hκ 
  refine x_aload_n C (i := 1) dL_law_799 rfl hL.2.1 ?_
  refine x_aload_n C (i := 3) dL_law_800 rfl hL.2.2.2.1 ?_
  refine x_callSH C (as := [.ref 0, .ref 63]) (st := []) hM1 kh_L_merge ks_L_125 dL_law_801 rfl rfl (Nat.le_of_ble_eq_true rfl) ⟨by decide, by decide⟩ ⟨by show cells + 1 ≤ 1101; omega, by show slots + 6 * 1 ≤ 107374; omega⟩ ?_
  intro r τ h1
  obtain ⟨kq, hkq, rfl, post2, hM2, hp2⟩ := hp1 r τ h1
  refine x_istore C dL_law_804 (by decide) ?_
  have hL5 := l_ok1 hL (k := 5) (by decide) (.int (nI kq))
  refine x_aload_n C (i := 2) dL_law_806 rfl hL5.2.2.1 ?_
  refine x_callV C (as := []) (st := []) hM2 kb_X12_merge kv_L_128 dL_law_807 rfl rfl (Nat.le_of_ble_eq_true rfl) ⟨by decide, by decide⟩ ⟨by show cells + 1 ≤ 1101; omega, by show slots + 6 * 1 ≤ 107374; omega⟩ ko_38 ?_
  intro r2 τ2 h2
  obtain ⟨bq, rfl, e38, eout, hI2⟩ := hp2 r2 τ2 h2
  refine x_istore C dL_law_810 (by decide) ?_
  have hL6 := l_ok1 hL5 (k := 6) (by decide) (.int bq)
  refine x_aload_n C (i := 2) dL_law_812 rfl hL6.2.2.1 ?_
  have hM3 := c_X12_thrown l Y τ2
  refine x_callV C (as := []) (st := []) hM3 kb_X12_thrown kv_L_72 dL_law_813 rfl rfl (Nat.le_of_ble_eq_true rfl) ⟨by decide, by decide⟩ ⟨by show cells + 1 ≤ 1101; omega, by show slots + 6 * 1 ≤ 107374; omega⟩ ko_38 ?_
  clear hM3
  intro r3 τ3 h3
  obtain ⟨rfl, h8⟩ := h3
  rw [h8]
  clear h8 τ3
  refine x_topI e38 ?_
  refine x_iload C dL_law_816 (l_g56 _ _ _) ?_
  refine x_icmp_eqN C 823 dL_law_818 (by decide) (by omega) (by omega) (fun _ => ?_) (fun h => absurd rfl h)
  refine x_iload C dL_law_823 (l_g56 _ _ _) ?_
  refine x_if_neN C 840 dL_law_825 (by decide) (by omega) (fun _ => ?_) (fun h0 => ?_)
  · refine x_goto C 1196 dL_law_840 (by decide) ?_
    refine x_widen (k := cells + 2) (n := slots + 12) (by omega) (by omega) ?_
    exact kk _ _ hL6 hI2
  · refine x_aload_n C (i := 3) dL_law_828 rfl hL6.2.2.2.1 ?_
    refine x_iconst C (nI 0) dL_law_829 rfl ?_
    refine x_laldN C (k := 63) (n := 1) (by decide) rfl (by decide) dL_law_830 (by decide) ?_
    refine x_topL (eout h0) ?_
    refine x_iload C dL_law_831 (l_g6 _ _) ?_
    refine x_i2l C dL_law_833 ?_
    refine x_lcmp C dL_law_834 ?_
    refine x_topI (l_cmp _) ?_
    refine x_if_eqN C 840 dL_law_835 (by decide) (by decide) (fun _ => ?_) (fun h => absurd rfl h)
    refine x_goto C 1196 dL_law_840 (by decide) ?_
    refine x_widen (k := cells + 2) (n := slots + 12) (by omega) (by omega) ?_
    exact kk _ _ hL6 hI2
theorem lc_843 (C : x_C p s m args c cL_law 8 RL Y) (S : x_SC Y s n xs) (hn : n ≤ 3072) (hl : l.stackTraces = false) (hI : w_I σ κ) (hκ : κ < 512) (hi : i + 6 ≤ n) (hc : cells + 2 ≤ 1101) (hs : slots + 12 ≤ 107374) (hL : l_ok L i) (kk : ∀ L9 σ9, l_ok L9 i → w_I σ9 (κ + 1) → x_W p l e room_1 s m args below meth c 8 Y (cells + 2) (slots + 12) Q 1196 L9 [] σ9) : x_W p l e room_1 s m args below meth c 8 Y cells slots Q 843 L [] σ := by
  obtain ⟨post1, hM1, hp1⟩ := pr_rows (l := l) (Y := Y) hI hκ 
  refine x_aload_n C (i := 1) dL_law_843 rfl hL.2.1 ?_
  refine x_callV C (as := []) (st := []) hM1 kb_X11_rows kv_L_129 dL_law_844 rfl rfl (Nat.le_of_ble_eq_true rfl) ⟨by decide, by decide⟩ ⟨by show cells ≤ 1101; omega, by show slots ≤ 107374; omega⟩ ko_0 ?_
  intro r τ h1
  obtain ⟨aq, rfl, post2, hM2, hp2⟩ := hp1 r τ h1
  refine x_aload_n C (i := 2) dL_law_847 rfl hL.2.2.1 ?_
  refine x_callV C (as := []) (st := [.int aq]) hM2 kb_X12_rows kv_L_132 dL_law_848 rfl rfl (Nat.le_of_ble_eq_true rfl) ⟨by decide, by decide⟩ ⟨by show cells ≤ 1101; omega, by show slots ≤ 107374; omega⟩ ko_38 ?_
  intro r2 τ2 h2
  obtain ⟨rfl, hI2⟩ := hp2 r2 τ2 h2
  refine x_icmp_eq C 1196 dL_law_851 (by decide) (fun _ => ?_) (fun h => absurd rfl h)
  refine x_widen (k := cells + 2) (n := slots + 12) (by omega) (by omega) ?_
  exact kk _ _ hL hI2
theorem lc_856 (C : x_C p s m args c cL_law 8 RL Y) (S : x_SC Y s n xs) (hn : n ≤ 3072) (hl : l.stackTraces = false) (hI : w_I σ κ) (hκ : κ < 512) (hi : i + 6 ≤ n) (hc : cells + 2 ≤ 1101) (hs : slots + 12 ≤ 107374) (hL : l_ok L i) (kk : ∀ L9 σ9, l_ok L9 i → w_I σ9 (κ + 1) → x_W p l e room_1 s m args below meth c 8 Y (cells + 2) (slots + 12) Q 1196 L9 [] σ9) : x_W p l e room_1 s m args below meth c 8 Y cells slots Q 856 L [] σ := by
  obtain ⟨post1, hM1, hp1⟩ := pr_row (l := l) (Y := Y) hl hI hκ (xs (i + 1)) (xs (i + 2))
  refine x_aload_n C (i := 1) dL_law_856 rfl hL.2.1 ?_
  refine x_aload_n C (i := 0) dL_law_857 rfl hL.1 ?_
  refine x_iload C dL_law_858 hL.2.2.2.2 ?_
  refine x_iconst C (nI 1) dL_law_860 rfl ?_
  refine x_iaddN C dL_law_861 ?_
  refine x_sld C S (by omega) (by omega) dL_law_862 ?_
  refine x_aload_n C (i := 0) dL_law_863 rfl hL.1 ?_
  refine x_iload C dL_law_864 hL.2.2.2.2 ?_
  refine x_iconst C (nI 2) dL_law_866 rfl ?_
  refine x_iaddN C dL_law_867 ?_
  refine x_sld C S (by omega) (by omega) dL_law_868 ?_
  refine x_aload_n C (i := 3) dL_law_869 rfl hL.2.2.2.1 ?_
  refine x_callSH C (as := [.ref 0, .int (xs (i + 1)), .int (xs (i + 2)), .ref 63]) (st := []) hM1 kh_L_row ks_L_133 dL_law_870 rfl rfl (Nat.le_of_ble_eq_true rfl) ⟨by decide, by decide⟩ ⟨by show cells + 1 ≤ 1101; omega, by show slots + 6 * 1 ≤ 107374; omega⟩ ?_
  intro r τ h1
  obtain ⟨kq, hkq, rfl, post2, hM2, hp2⟩ := hp1 r τ h1
  refine x_istore C dL_law_873 (by decide) ?_
  have hL5 := l_ok1 hL (k := 5) (by decide) (.int (nI kq))
  refine x_aload_n C (i := 2) dL_law_875 rfl hL5.2.2.1 ?_
  refine x_aload_n C (i := 0) dL_law_876 rfl hL5.1 ?_
  refine x_iload C dL_law_877 hL5.2.2.2.2 ?_
  refine x_iconst C (nI 1) dL_law_879 rfl ?_
  refine x_iaddN C dL_law_880 ?_
  refine x_sld C S (by omega) (by omega) dL_law_881 ?_
  refine x_aload_n C (i := 0) dL_law_882 rfl hL5.1 ?_
  refine x_iload C dL_law_883 hL5.2.2.2.2 ?_
  refine x_iconst C (nI 2) dL_law_885 rfl ?_
  refine x_iaddN C dL_law_886 ?_
  refine x_sld C S (by omega) (by omega) dL_law_887 ?_
  refine x_callV C (as := [.int (xs (i + 1)), .int (xs (i + 2))]) (st := []) hM2 kb_X12_row kv_L_135 dL_law_888 rfl rfl (Nat.le_of_ble_eq_true rfl) ⟨by decide, by decide⟩ ⟨by show cells + 1 ≤ 1101; omega, by show slots + 6 * 1 ≤ 107374; omega⟩ ko_38 ?_
  intro r2 τ2 h2
  obtain ⟨bq, rfl, e38, eout, hI2⟩ := hp2 r2 τ2 h2
  refine x_lstore C dL_law_891 (by decide) ?_
  have hL6 := l_ok2 hL5 bq
  refine x_aload_n C (i := 2) dL_law_893 rfl hL6.2.2.1 ?_
  have hM3 := c_X12_thrown l Y τ2
  refine x_callV C (as := []) (st := []) hM3 kb_X12_thrown kv_L_72 dL_law_894 rfl rfl (Nat.le_of_ble_eq_true rfl) ⟨by decide, by decide⟩ ⟨by show cells + 1 ≤ 1101; omega, by show slots + 6 * 1 ≤ 107374; omega⟩ ko_38 ?_
  clear hM3
  intro r3 τ3 h3
  obtain ⟨rfl, h8⟩ := h3
  rw [h8]
  clear h8 τ3
  refine x_topI e38 ?_
  refine x_iload C dL_law_897 (l_g52 _ _ _) ?_
  refine x_icmp_eqN C 904 dL_law_899 (by decide) (by omega) (by omega) (fun _ => ?_) (fun h => absurd rfl h)
  refine x_iload C dL_law_904 (l_g52 _ _ _) ?_
  refine x_if_neN C 920 dL_law_906 (by decide) (by omega) (fun _ => ?_) (fun h0 => ?_)
  · refine x_goto C 1196 dL_law_920 (by decide) ?_
    refine x_widen (k := cells + 2) (n := slots + 12) (by omega) (by omega) ?_
    exact kk _ _ hL6 hI2
  · refine x_aload_n C (i := 3) dL_law_909 rfl hL6.2.2.2.1 ?_
    refine x_iconst C (nI 0) dL_law_910 rfl ?_
    refine x_laldN C (k := 63) (n := 1) (by decide) rfl (by decide) dL_law_911 (by decide) ?_
    refine x_topL (eout h0) ?_
    refine x_lload C dL_law_912 (l_g62 _ _) ?_
    refine x_lcmp C dL_law_914 ?_
    refine x_topI (l_cmp _) ?_
    refine x_if_eqN C 920 dL_law_915 (by decide) (by decide) (fun _ => ?_) (fun h => absurd rfl h)
    refine x_goto C 1196 dL_law_920 (by decide) ?_
    refine x_widen (k := cells + 2) (n := slots + 12) (by omega) (by omega) ?_
    exact kk _ _ hL6 hI2
theorem lc_923 (C : x_C p s m args c cL_law 8 RL Y) (S : x_SC Y s n xs) (hn : n ≤ 3072) (hl : l.stackTraces = false) (hI : w_I σ κ) (hκ : κ < 512) (hi : i + 6 ≤ n) (hc : cells + 2 ≤ 1101) (hs : slots + 12 ≤ 107374) (hL : l_ok L i) (kk : ∀ L9 σ9, l_ok L9 i → w_I σ9 (κ + 1) → x_W p l e room_1 s m args below meth c 8 Y (cells + 2) (slots + 12) Q 1196 L9 [] σ9) : x_W p l e room_1 s m args below meth c 8 Y cells slots Q 923 L [] σ := by
  obtain ⟨post1, hM1, hp1⟩ := pr_digits (l := l) (Y := Y) hl hI hκ (xs (i + 1))
  refine x_aload_n C (i := 1) dL_law_923 rfl hL.2.1 ?_
  refine x_aload_n C (i := 0) dL_law_924 rfl hL.1 ?_
  refine x_iload C dL_law_925 hL.2.2.2.2 ?_
  refine x_iconst C (nI 1) dL_law_927 rfl ?_
  refine x_iaddN C dL_law_928 ?_
  refine x_sld C S (by omega) (by omega) dL_law_929 ?_
  refine x_aload_n C (i := 3) dL_law_930 rfl hL.2.2.2.1 ?_
  refine x_callSH C (as := [.ref 0, .int (xs (i + 1)), .ref 63]) (st := []) hM1 kh_L_digits ks_L_136 dL_law_931 rfl rfl (Nat.le_of_ble_eq_true rfl) ⟨by decide, by decide⟩ ⟨by show cells + 1 ≤ 1101; omega, by show slots + 6 * 1 ≤ 107374; omega⟩ ?_
  intro r τ h1
  obtain ⟨kq, hkq, rfl, post2, hM2, hp2⟩ := hp1 r τ h1
  refine x_istore C dL_law_934 (by decide) ?_
  have hL5 := l_ok1 hL (k := 5) (by decide) (.int (nI kq))
  refine x_aload_n C (i := 2) dL_law_936 rfl hL5.2.2.1 ?_
  refine x_aload_n C (i := 0) dL_law_937 rfl hL5.1 ?_
  refine x_iload C dL_law_938 hL5.2.2.2.2 ?_
  refine x_iconst C (nI 1) dL_law_940 rfl ?_
  refine x_iaddN C dL_law_941 ?_
  refine x_sld C S (by omega) (by omega) dL_law_942 ?_
  refine x_callV C (as := [.int (xs (i + 1))]) (st := []) hM2 kb_X12_digits kv_L_139 dL_law_943 rfl rfl (Nat.le_of_ble_eq_true rfl) ⟨by decide, by decide⟩ ⟨by show cells + 1 ≤ 1101; omega, by show slots + 6 * 1 ≤ 107374; omega⟩ ko_38 ?_
  intro r2 τ2 h2
  obtain ⟨bq, rfl, e38, eout, hI2⟩ := hp2 r2 τ2 h2
  refine x_istore C dL_law_946 (by decide) ?_
  have hL6 := l_ok1 hL5 (k := 6) (by decide) (.int bq)
  refine x_aload_n C (i := 2) dL_law_948 rfl hL6.2.2.1 ?_
  have hM3 := c_X12_thrown l Y τ2
  refine x_callV C (as := []) (st := []) hM3 kb_X12_thrown kv_L_72 dL_law_949 rfl rfl (Nat.le_of_ble_eq_true rfl) ⟨by decide, by decide⟩ ⟨by show cells + 1 ≤ 1101; omega, by show slots + 6 * 1 ≤ 107374; omega⟩ ko_38 ?_
  clear hM3
  intro r3 τ3 h3
  obtain ⟨rfl, h8⟩ := h3
  rw [h8]
  clear h8 τ3
  refine x_topI e38 ?_
  refine x_iload C dL_law_952 (l_g56 _ _ _) ?_
  refine x_icmp_eqN C 959 dL_law_954 (by decide) (by omega) (by omega) (fun _ => ?_) (fun h => absurd rfl h)
  refine x_iload C dL_law_959 (l_g56 _ _ _) ?_
  refine x_if_neN C 976 dL_law_961 (by decide) (by omega) (fun _ => ?_) (fun h0 => ?_)
  · refine x_goto C 1196 dL_law_976 (by decide) ?_
    refine x_widen (k := cells + 2) (n := slots + 12) (by omega) (by omega) ?_
    exact kk _ _ hL6 hI2
  · refine x_aload_n C (i := 3) dL_law_964 rfl hL6.2.2.2.1 ?_
    refine x_iconst C (nI 0) dL_law_965 rfl ?_
    refine x_laldN C (k := 63) (n := 1) (by decide) rfl (by decide) dL_law_966 (by decide) ?_
    refine x_topL (eout h0) ?_
    refine x_iload C dL_law_967 (l_g6 _ _) ?_
    refine x_i2l C dL_law_969 ?_
    refine x_lcmp C dL_law_970 ?_
    refine x_topI (l_cmp _) ?_
    refine x_if_eqN C 976 dL_law_971 (by decide) (by decide) (fun _ => ?_) (fun h => absurd rfl h)
    refine x_goto C 1196 dL_law_976 (by decide) ?_
    refine x_widen (k := cells + 2) (n := slots + 12) (by omega) (by omega) ?_
    exact kk _ _ hL6 hI2
theorem lc_979 (C : x_C p s m args c cL_law 8 RL Y) (S : x_SC Y s n xs) (hn : n ≤ 3072) (hl : l.stackTraces = false) (hI : w_I σ κ) (hκ : κ < 512) (hi : i + 6 ≤ n) (hc : cells + 2 ≤ 1101) (hs : slots + 12 ≤ 107374) (hL : l_ok L i) (kk : ∀ L9 σ9, l_ok L9 i → w_I σ9 (κ + 1) → x_W p l e room_1 s m args below meth c 8 Y (cells + 2) (slots + 12) Q 1196 L9 [] σ9) : x_W p l e room_1 s m args below meth c 8 Y cells slots Q 979 L [] σ := by
  obtain ⟨post1, hM1, hp1⟩ := pr_digit (l := l) (Y := Y) hl hI hκ (xs (i + 1)) (xs (i + 2))
  refine x_aload_n C (i := 1) dL_law_979 rfl hL.2.1 ?_
  refine x_aload_n C (i := 0) dL_law_980 rfl hL.1 ?_
  refine x_iload C dL_law_981 hL.2.2.2.2 ?_
  refine x_iconst C (nI 1) dL_law_983 rfl ?_
  refine x_iaddN C dL_law_984 ?_
  refine x_sld C S (by omega) (by omega) dL_law_985 ?_
  refine x_aload_n C (i := 0) dL_law_986 rfl hL.1 ?_
  refine x_iload C dL_law_987 hL.2.2.2.2 ?_
  refine x_iconst C (nI 2) dL_law_989 rfl ?_
  refine x_iaddN C dL_law_990 ?_
  refine x_sld C S (by omega) (by omega) dL_law_991 ?_
  refine x_aload_n C (i := 3) dL_law_992 rfl hL.2.2.2.1 ?_
  refine x_callSH C (as := [.ref 0, .int (xs (i + 1)), .int (xs (i + 2)), .ref 63]) (st := []) hM1 kh_L_digit ks_L_140 dL_law_993 rfl rfl (Nat.le_of_ble_eq_true rfl) ⟨by decide, by decide⟩ ⟨by show cells + 1 ≤ 1101; omega, by show slots + 6 * 1 ≤ 107374; omega⟩ ?_
  intro r τ h1
  obtain ⟨kq, hkq, rfl, post2, hM2, hp2⟩ := hp1 r τ h1
  refine x_istore C dL_law_996 (by decide) ?_
  have hL5 := l_ok1 hL (k := 5) (by decide) (.int (nI kq))
  refine x_aload_n C (i := 2) dL_law_998 rfl hL5.2.2.1 ?_
  refine x_aload_n C (i := 0) dL_law_999 rfl hL5.1 ?_
  refine x_iload C dL_law_1000 hL5.2.2.2.2 ?_
  refine x_iconst C (nI 1) dL_law_1002 rfl ?_
  refine x_iaddN C dL_law_1003 ?_
  refine x_sld C S (by omega) (by omega) dL_law_1004 ?_
  refine x_aload_n C (i := 0) dL_law_1005 rfl hL5.1 ?_
  refine x_iload C dL_law_1006 hL5.2.2.2.2 ?_
  refine x_iconst C (nI 2) dL_law_1008 rfl ?_
  refine x_iaddN C dL_law_1009 ?_
  refine x_sld C S (by omega) (by omega) dL_law_1010 ?_
  refine x_callV C (as := [.int (xs (i + 1)), .int (xs (i + 2))]) (st := []) hM2 kb_X12_digit kv_L_142 dL_law_1011 rfl rfl (Nat.le_of_ble_eq_true rfl) ⟨by decide, by decide⟩ ⟨by show cells + 1 ≤ 1101; omega, by show slots + 6 * 1 ≤ 107374; omega⟩ ko_38 ?_
  intro r2 τ2 h2
  obtain ⟨bq, rfl, e38, eout, hI2⟩ := hp2 r2 τ2 h2
  refine x_istore C dL_law_1014 (by decide) ?_
  have hL6 := l_ok1 hL5 (k := 6) (by decide) (.int bq)
  refine x_aload_n C (i := 2) dL_law_1016 rfl hL6.2.2.1 ?_
  have hM3 := c_X12_thrown l Y τ2
  refine x_callV C (as := []) (st := []) hM3 kb_X12_thrown kv_L_72 dL_law_1017 rfl rfl (Nat.le_of_ble_eq_true rfl) ⟨by decide, by decide⟩ ⟨by show cells + 1 ≤ 1101; omega, by show slots + 6 * 1 ≤ 107374; omega⟩ ko_38 ?_
  clear hM3
  intro r3 τ3 h3
  obtain ⟨rfl, h8⟩ := h3
  rw [h8]
  clear h8 τ3
  refine x_topI e38 ?_
  refine x_iload C dL_law_1020 (l_g56 _ _ _) ?_
  refine x_icmp_eqN C 1027 dL_law_1022 (by decide) (by omega) (by omega) (fun _ => ?_) (fun h => absurd rfl h)
  refine x_iload C dL_law_1027 (l_g56 _ _ _) ?_
  refine x_if_neN C 1044 dL_law_1029 (by decide) (by omega) (fun _ => ?_) (fun h0 => ?_)
  · refine x_goto C 1196 dL_law_1044 (by decide) ?_
    refine x_widen (k := cells + 2) (n := slots + 12) (by omega) (by omega) ?_
    exact kk _ _ hL6 hI2
  · refine x_aload_n C (i := 3) dL_law_1032 rfl hL6.2.2.2.1 ?_
    refine x_iconst C (nI 0) dL_law_1033 rfl ?_
    refine x_laldN C (k := 63) (n := 1) (by decide) rfl (by decide) dL_law_1034 (by decide) ?_
    refine x_topL (eout h0) ?_
    refine x_iload C dL_law_1035 (l_g6 _ _) ?_
    refine x_i2l C dL_law_1037 ?_
    refine x_lcmp C dL_law_1038 ?_
    refine x_topI (l_cmp _) ?_
    refine x_if_eqN C 1044 dL_law_1039 (by decide) (by decide) (fun _ => ?_) (fun h => absurd rfl h)
    refine x_goto C 1196 dL_law_1044 (by decide) ?_
    refine x_widen (k := cells + 2) (n := slots + 12) (by omega) (by omega) ?_
    exact kk _ _ hL6 hI2
theorem lc_1047 (C : x_C p s m args c cL_law 8 RL Y) (S : x_SC Y s n xs) (hn : n ≤ 3072) (hl : l.stackTraces = false) (hI : w_I σ κ) (hκ : κ < 512) (hi : i + 6 ≤ n) (hc : cells + 2 ≤ 1101) (hs : slots + 12 ≤ 107374) (hL : l_ok L i) (kk : ∀ L9 σ9, l_ok L9 i → w_I σ9 (κ + 1) → x_W p l e room_1 s m args below meth c 8 Y (cells + 2) (slots + 12) Q 1196 L9 [] σ9) : x_W p l e room_1 s m args below meth c 8 Y cells slots Q 1047 L [] σ := by
  obtain ⟨post1, hM1, hp1⟩ := pr_violations (l := l) (Y := Y) hl hI hκ (xs (i + 1))
  refine x_aload_n C (i := 1) dL_law_1047 rfl hL.2.1 ?_
  refine x_aload_n C (i := 0) dL_law_1048 rfl hL.1 ?_
  refine x_iload C dL_law_1049 hL.2.2.2.2 ?_
  refine x_iconst C (nI 1) dL_law_1051 rfl ?_
  refine x_iaddN C dL_law_1052 ?_
  refine x_sld C S (by omega) (by omega) dL_law_1053 ?_
  refine x_aload_n C (i := 3) dL_law_1054 rfl hL.2.2.2.1 ?_
  refine x_callSH C (as := [.ref 0, .int (xs (i + 1)), .ref 63]) (st := []) hM1 kh_L_violations ks_L_143 dL_law_1055 rfl rfl (Nat.le_of_ble_eq_true rfl) ⟨by decide, by decide⟩ ⟨by show cells + 2 ≤ 1101; omega, by show slots + 6 * 2 ≤ 107374; omega⟩ ?_
  intro r τ h1
  obtain ⟨kq, hkq, rfl, post2, hM2, hp2⟩ := hp1 r τ h1
  refine x_istore C dL_law_1058 (by decide) ?_
  have hL5 := l_ok1 hL (k := 5) (by decide) (.int (nI kq))
  refine x_aload_n C (i := 2) dL_law_1060 rfl hL5.2.2.1 ?_
  refine x_aload_n C (i := 0) dL_law_1061 rfl hL5.1 ?_
  refine x_iload C dL_law_1062 hL5.2.2.2.2 ?_
  refine x_iconst C (nI 1) dL_law_1064 rfl ?_
  refine x_iaddN C dL_law_1065 ?_
  refine x_sld C S (by omega) (by omega) dL_law_1066 ?_
  refine x_callV C (as := [.int (xs (i + 1))]) (st := []) hM2 kb_X12_violations kv_L_145 dL_law_1067 rfl rfl (Nat.le_of_ble_eq_true rfl) ⟨by decide, by decide⟩ ⟨by show cells + 2 ≤ 1101; omega, by show slots + 6 * 2 ≤ 107374; omega⟩ ko_38 ?_
  intro r2 τ2 h2
  obtain ⟨bq, rfl, e38, eout, hI2⟩ := hp2 r2 τ2 h2
  refine x_istore C dL_law_1070 (by decide) ?_
  have hL6 := l_ok1 hL5 (k := 6) (by decide) (.int bq)
  refine x_aload_n C (i := 2) dL_law_1072 rfl hL6.2.2.1 ?_
  have hM3 := c_X12_thrown l Y τ2
  refine x_callV C (as := []) (st := []) hM3 kb_X12_thrown kv_L_72 dL_law_1073 rfl rfl (Nat.le_of_ble_eq_true rfl) ⟨by decide, by decide⟩ ⟨by show cells + 2 ≤ 1101; omega, by show slots + 6 * 2 ≤ 107374; omega⟩ ko_38 ?_
  clear hM3
  intro r3 τ3 h3
  obtain ⟨rfl, h8⟩ := h3
  rw [h8]
  clear h8 τ3
  refine x_topI e38 ?_
  refine x_iload C dL_law_1076 (l_g56 _ _ _) ?_
  refine x_icmp_eqN C 1083 dL_law_1078 (by decide) (by omega) (by omega) (fun _ => ?_) (fun h => absurd rfl h)
  refine x_iload C dL_law_1083 (l_g56 _ _ _) ?_
  refine x_if_neN C 1100 dL_law_1085 (by decide) (by omega) (fun _ => ?_) (fun h0 => ?_)
  · refine x_goto C 1196 dL_law_1100 (by decide) ?_
    refine x_widen (k := cells + 2) (n := slots + 12) (by omega) (by omega) ?_
    exact kk _ _ hL6 hI2
  · refine x_aload_n C (i := 3) dL_law_1088 rfl hL6.2.2.2.1 ?_
    refine x_iconst C (nI 0) dL_law_1089 rfl ?_
    refine x_laldN C (k := 63) (n := 1) (by decide) rfl (by decide) dL_law_1090 (by decide) ?_
    refine x_topL (eout h0) ?_
    refine x_iload C dL_law_1091 (l_g6 _ _) ?_
    refine x_i2l C dL_law_1093 ?_
    refine x_lcmp C dL_law_1094 ?_
    refine x_topI (l_cmp _) ?_
    refine x_if_eqN C 1100 dL_law_1095 (by decide) (by decide) (fun _ => ?_) (fun h => absurd rfl h)
    refine x_goto C 1196 dL_law_1100 (by decide) ?_
    refine x_widen (k := cells + 2) (n := slots + 12) (by omega) (by omega) ?_
    exact kk _ _ hL6 hI2
theorem lc_1103 (C : x_C p s m args c cL_law 8 RL Y) (S : x_SC Y s n xs) (hn : n ≤ 3072) (hl : l.stackTraces = false) (hI : w_I σ κ) (hκ : κ < 512) (hi : i + 6 ≤ n) (hc : cells + 2 ≤ 1101) (hs : slots + 12 ≤ 107374) (hL : l_ok L i) (kk : ∀ L9 σ9, l_ok L9 i → w_I σ9 (κ + 1) → x_W p l e room_1 s m args below meth c 8 Y (cells + 2) (slots + 12) Q 1196 L9 [] σ9) : x_W p l e room_1 s m args below meth c 8 Y cells slots Q 1103 L [] σ := by
  obtain ⟨post1, hM1, hp1⟩ := pr_violation (l := l) (Y := Y) hI hκ (xs (i + 1))
  refine x_aload_n C (i := 1) dL_law_1103 rfl hL.2.1 ?_
  refine x_aload_n C (i := 0) dL_law_1104 rfl hL.1 ?_
  refine x_iload C dL_law_1105 hL.2.2.2.2 ?_
  refine x_iconst C (nI 1) dL_law_1107 rfl ?_
  refine x_iaddN C dL_law_1108 ?_
  refine x_sld C S (by omega) (by omega) dL_law_1109 ?_
  refine x_callV C (as := [.int (xs (i + 1))]) (st := []) hM1 kb_X11_violation kv_L_146 dL_law_1110 rfl rfl (Nat.le_of_ble_eq_true rfl) ⟨by decide, by decide⟩ ⟨by show cells ≤ 1101; omega, by show slots ≤ 107374; omega⟩ ko_0 ?_
  intro r τ h1
  obtain ⟨aq, rfl, post2, hM2, hp2⟩ := hp1 r τ h1
  refine x_aload_n C (i := 2) dL_law_1113 rfl hL.2.2.1 ?_
  refine x_aload_n C (i := 0) dL_law_1114 rfl hL.1 ?_
  refine x_iload C dL_law_1115 hL.2.2.2.2 ?_
  refine x_iconst C (nI 1) dL_law_1117 rfl ?_
  refine x_iaddN C dL_law_1118 ?_
  refine x_sld C S (by omega) (by omega) dL_law_1119 ?_
  refine x_callV C (as := [.int (xs (i + 1))]) (st := [.int aq]) hM2 kb_X12_violation kv_L_149 dL_law_1120 rfl rfl (Nat.le_of_ble_eq_true rfl) ⟨by decide, by decide⟩ ⟨by show cells ≤ 1101; omega, by show slots ≤ 107374; omega⟩ ko_38 ?_
  intro r2 τ2 h2
  obtain ⟨rfl, hI2⟩ := hp2 r2 τ2 h2
  refine x_icmp_eq C 1196 dL_law_1123 (by decide) (fun _ => ?_) (fun h => absurd rfl h)
  refine x_widen (k := cells + 2) (n := slots + 12) (by omega) (by omega) ?_
  exact kk _ _ hL hI2
theorem lc_1128 (C : x_C p s m args c cL_law 8 RL Y) (S : x_SC Y s n xs) (hn : n ≤ 3072) (hl : l.stackTraces = false) (hI : w_I σ κ) (hκ : κ < 512) (hi : i + 6 ≤ n) (hc : cells + 2 ≤ 1101) (hs : slots + 12 ≤ 107374) (hL : l_ok L i) (kk : ∀ L9 σ9, l_ok L9 i → w_I σ9 (κ + 1) → x_W p l e room_1 s m args below meth c 8 Y (cells + 2) (slots + 12) Q 1196 L9 [] σ9) : x_W p l e room_1 s m args below meth c 8 Y cells slots Q 1128 L [] σ := by
  obtain ⟨post1, hM1, hp1⟩ := pr_complete (l := l) (Y := Y) hl hI hκ (xs (i + 1)) (xs (i + 2))
  refine x_aload_n C (i := 1) dL_law_1128 rfl hL.2.1 ?_
  refine x_aload_n C (i := 0) dL_law_1129 rfl hL.1 ?_
  refine x_iload C dL_law_1130 hL.2.2.2.2 ?_
  refine x_iconst C (nI 1) dL_law_1132 rfl ?_
  refine x_iaddN C dL_law_1133 ?_
  refine x_sld C S (by omega) (by omega) dL_law_1134 ?_
  refine x_aload_n C (i := 0) dL_law_1135 rfl hL.1 ?_
  refine x_iload C dL_law_1136 hL.2.2.2.2 ?_
  refine x_iconst C (nI 2) dL_law_1138 rfl ?_
  refine x_iaddN C dL_law_1139 ?_
  refine x_sld C S (by omega) (by omega) dL_law_1140 ?_
  refine x_aload_n C (i := 3) dL_law_1141 rfl hL.2.2.2.1 ?_
  refine x_callSH C (as := [.ref 0, .int (xs (i + 1)), .int (xs (i + 2)), .ref 63]) (st := []) hM1 kh_L_complete ks_L_150 dL_law_1142 rfl rfl (Nat.le_of_ble_eq_true rfl) ⟨by decide, by decide⟩ ⟨by show cells + 2 ≤ 1101; omega, by show slots + 6 * 2 ≤ 107374; omega⟩ ?_
  intro r τ h1
  obtain ⟨kq, hkq, rfl, post2, hM2, hp2⟩ := hp1 r τ h1
  refine x_istore C dL_law_1145 (by decide) ?_
  have hL5 := l_ok1 hL (k := 5) (by decide) (.int (nI kq))
  refine x_aload_n C (i := 2) dL_law_1147 rfl hL5.2.2.1 ?_
  refine x_aload_n C (i := 0) dL_law_1148 rfl hL5.1 ?_
  refine x_iload C dL_law_1149 hL5.2.2.2.2 ?_
  refine x_iconst C (nI 1) dL_law_1151 rfl ?_
  refine x_iaddN C dL_law_1152 ?_
  refine x_sld C S (by omega) (by omega) dL_law_1153 ?_
  refine x_aload_n C (i := 0) dL_law_1154 rfl hL5.1 ?_
  refine x_iload C dL_law_1155 hL5.2.2.2.2 ?_
  refine x_iconst C (nI 2) dL_law_1157 rfl ?_
  refine x_iaddN C dL_law_1158 ?_
  refine x_sld C S (by omega) (by omega) dL_law_1159 ?_
  refine x_callV C (as := [.int (xs (i + 1)), .int (xs (i + 2))]) (st := []) hM2 kb_X12_complete kv_L_152 dL_law_1160 rfl rfl (Nat.le_of_ble_eq_true rfl) ⟨by decide, by decide⟩ ⟨by show cells + 2 ≤ 1101; omega, by show slots + 6 * 2 ≤ 107374; omega⟩ ko_38 ?_
  intro r2 τ2 h2
  obtain ⟨bq, rfl, e38, eout, hI2⟩ := hp2 r2 τ2 h2
  refine x_istore C dL_law_1163 (by decide) ?_
  have hL6 := l_ok1 hL5 (k := 6) (by decide) (.int bq)
  refine x_aload_n C (i := 2) dL_law_1165 rfl hL6.2.2.1 ?_
  have hM3 := c_X12_thrown l Y τ2
  refine x_callV C (as := []) (st := []) hM3 kb_X12_thrown kv_L_72 dL_law_1166 rfl rfl (Nat.le_of_ble_eq_true rfl) ⟨by decide, by decide⟩ ⟨by show cells + 2 ≤ 1101; omega, by show slots + 6 * 2 ≤ 107374; omega⟩ ko_38 ?_
  clear hM3
  intro r3 τ3 h3
  obtain ⟨rfl, h8⟩ := h3
  rw [h8]
  clear h8 τ3
  refine x_topI e38 ?_
  refine x_iload C dL_law_1169 (l_g56 _ _ _) ?_
  refine x_icmp_eqN C 1176 dL_law_1171 (by decide) (by omega) (by omega) (fun _ => ?_) (fun h => absurd rfl h)
  refine x_iload C dL_law_1176 (l_g56 _ _ _) ?_
  refine x_if_neN C 1193 dL_law_1178 (by decide) (by omega) (fun _ => ?_) (fun h0 => ?_)
  · refine x_goto C 1196 dL_law_1193 (by decide) ?_
    refine x_widen (k := cells + 2) (n := slots + 12) (by omega) (by omega) ?_
    exact kk _ _ hL6 hI2
  · refine x_aload_n C (i := 3) dL_law_1181 rfl hL6.2.2.2.1 ?_
    refine x_iconst C (nI 0) dL_law_1182 rfl ?_
    refine x_laldN C (k := 63) (n := 1) (by decide) rfl (by decide) dL_law_1183 (by decide) ?_
    refine x_topL (eout h0) ?_
    refine x_iload C dL_law_1184 (l_g6 _ _) ?_
    refine x_i2l C dL_law_1186 ?_
    refine x_lcmp C dL_law_1187 ?_
    refine x_topI (l_cmp _) ?_
    refine x_if_eqN C 1193 dL_law_1188 (by decide) (by decide) (fun _ => ?_) (fun h => absurd rfl h)
    refine x_goto C 1196 dL_law_1193 (by decide) ?_
    refine x_widen (k := cells + 2) (n := slots + 12) (by omega) (by omega) ?_
    exact kk _ _ hL6 hI2
theorem l_and31 (x : Int32) : ∃ j, j < 32 ∧ x &&& nI 31 = nI j := by
  refine ⟨(x &&& nI 31).toBitVec.toNat, ?_, ?_⟩
  · rw [Int32.toBitVec_and, BitVec.toNat_and]
    have : (nI 31).toBitVec.toNat = 31 := by decide
    rw [this]
    exact Nat.lt_of_le_of_lt Nat.and_le_right (by decide)
  · apply Int32.toBitVec_inj.mp
    apply BitVec.eq_of_toNat_eq
    have h := (x &&& nI 31).toBitVec.isLt
    show _ = ((x &&& nI 31).toBitVec.toNat) % 2 ^ 32
    rw [Nat.mod_eq_of_lt h]
theorem w_I_s {σ : x_S} {κ : Nat} (h : w_I σ κ) (hκ : κ < 512) : w_I σ (κ + 1) := by
  obtain ⟨t, n, c, N, nr, ht, hg, hr, hm, hv, hn, hb, -⟩ := h
  exact ⟨t, n, c, N, nr, ht, hg, hr, hm, hv, hn, by omega, by omega⟩
/-- the loop: from its head to the end with true -/
theorem l_loop (C : x_C p s m args c cL_law 8 RL Y) (S : x_SC Y s n xs) (hn : n ≤ 3072) (hl : l.stackTraces = false) (hend : ∀ L9 σ9, x_W p l e room_1 s m args below meth c 8 Y 1101 107374 Q 1203 L9 [.int (nI 1)] σ9) : ∀ (f κ : Nat) (L : x_Lo) (σ : x_S), κ + f = 513 → w_I σ κ → l_ok L (6 * κ) → x_W p l e room_1 s m args below meth c 8 Y (64 + 2 * κ) (99104 + 12 * κ) Q 23 L [] σ
  | 0, κ, L, σ, hf, hI, hL => by
    obtain ⟨t, n, c, N, nr, ht, hg, hr, hm, hv, hn, hb, hk⟩ := hI
    omega
  | f + 1, κ, L, σ, hf, hI, hL => by
    refine x_iload C dL_law_23 hL.2.2.2.2 ?_
    refine x_aload_n C (i := 0) dL_law_25 rfl hL.1 ?_
    refine x_slen C S dL_law_26 ?_
    refine x_bipush C (nI 6) dL_law_27 rfl ?_
    refine x_isub C dL_law_29 ?_
    refine x_jcmp_gt C 1202 dL_law_30 (by decide) (fun _ => ?_) (fun hle => ?_)
    · refine x_iconst C (nI 1) dL_law_1202 rfl ?_
      refine x_widen (k := 1101) (n := 107374) (by omega) (by omega) ?_
      exact hend _ _
    · have hi : 6 * κ + 6 ≤ n := by
        have h1 := Int32.le_iff_toInt_le.mp hle
        have e6 : (nI 6).toInt = 6 := rfl
        rw [Int32.toInt_sub, nI_toInt (by omega), nI_toInt (by omega), e6, Int.bmod_eq_of_le (by omega) (by omega)] at h1
        omega
      have hκ : κ < 512 := by omega
      have next : ∀ L9 σ9, l_ok L9 (6 * κ) → w_I σ9 (κ + 1) → x_W p l e room_1 s m args below meth c 8 Y (64 + 2 * κ + 2) (99104 + 12 * κ + 12) Q 1196 L9 [] σ9 := fun L9 σ9 hL9 hI9 => by
        refine x_iincN C (i := 4) (b := 6) dL_law_1196 hL9.2.2.2.2 rfl (by decide) ?_
        refine x_goto C 23 dL_law_1199 (by decide) ?_
        have h9 : l_ok (x_s1 L9 4 (.int (nI (6 * κ + 6)))) (6 * (κ + 1)) := ⟨hL9.1, hL9.2.1, hL9.2.2.1, hL9.2.2.2.1, rfl⟩
        exact l_loop C S hn hl hend f (κ + 1) _ σ9 (by omega) hI9 h9
      refine x_aload_n C (i := 0) dL_law_33 rfl hL.1 ?_
      refine x_iload C dL_law_34 hL.2.2.2.2 ?_
      refine x_sld C S (by omega) (by omega) dL_law_36 ?_
      refine x_bipush C (nI 31) dL_law_37 rfl ?_
      refine x_iand C dL_law_39 ?_
      obtain ⟨j, hj, ej⟩ := l_and31 (xs (6 * κ))
      refine x_topI ej ?_
      rcases Nat.lt_or_ge j 22 with h22 | h22
      · rcases (show j = 0 ∨ j = 1 ∨ j = 2 ∨ j = 3 ∨ j = 4 ∨ j = 5 ∨ j = 6 ∨ j = 7 ∨ j = 8 ∨ j = 9 ∨ j = 10 ∨ j = 11 ∨ j = 12 ∨ j = 13 ∨ j = 14 ∨ j = 15 ∨ j = 16 ∨ j = 17 ∨ j = 18 ∨ j = 19 ∨ j = 20 ∨ j = 21 by omega) with rfl | rfl | rfl | rfl | rfl | rfl | rfl | rfl | rfl | rfl | rfl | rfl | rfl | rfl | rfl | rfl | rfl | rfl | rfl | rfl | rfl | rfl
        · exact x_tableIn C 144 dL_law_40 (by decide) (by decide) (off := 104) (by decide) (by decide) (lc_144 C S hn hl hI hκ hi (by omega) (by omega) hL next)
        · exact x_tableIn C 248 dL_law_40 (by decide) (by decide) (off := 208) (by decide) (by decide) (lc_248 C S hn hl hI hκ hi (by omega) (by omega) hL next)
        · exact x_tableIn C 284 dL_law_40 (by decide) (by decide) (off := 244) (by decide) (by decide) (lc_284 C S hn hl hI hκ hi (by omega) (by omega) hL next)
        · exact x_tableIn C 297 dL_law_40 (by decide) (by decide) (off := 257) (by decide) (by decide) (lc_297 C S hn hl hI hκ hi (by omega) (by omega) hL next)
        · exact x_tableIn C 310 dL_law_40 (by decide) (by decide) (off := 270) (by decide) (by decide) (lc_310 C S hn hl hI hκ hi (by omega) (by omega) hL next)
        · exact x_tableIn C 378 dL_law_40 (by decide) (by decide) (off := 338) (by decide) (by decide) (lc_378 C S hn hl hI hκ hi (by omega) (by omega) hL next)
        · exact x_tableIn C 391 dL_law_40 (by decide) (by decide) (off := 351) (by decide) (by decide) (lc_391 C S hn hl hI hκ hi (by omega) (by omega) hL next)
        · exact x_tableIn C 416 dL_law_40 (by decide) (by decide) (off := 376) (by decide) (by decide) (lc_416 C S hn hl hI hκ hi (by omega) (by omega) hL next)
        · exact x_tableIn C 520 dL_law_40 (by decide) (by decide) (off := 480) (by decide) (by decide) (lc_520 C S hn hl hI hκ hi (by omega) (by omega) hL next)
        · exact x_tableIn C 600 dL_law_40 (by decide) (by decide) (off := 560) (by decide) (by decide) (lc_600 C S hn hl hI hκ hi (by omega) (by omega) hL next)
        · exact x_tableIn C 692 dL_law_40 (by decide) (by decide) (off := 652) (by decide) (by decide) (lc_692 C S hn hl hI hκ hi (by omega) (by omega) hL next)
        · exact x_tableIn C 705 dL_law_40 (by decide) (by decide) (off := 665) (by decide) (by decide) (lc_705 C S hn hl hI hκ hi (by omega) (by omega) hL next)
        · exact x_tableIn C 718 dL_law_40 (by decide) (by decide) (off := 678) (by decide) (by decide) (lc_718 C S hn hl hI hκ hi (by omega) (by omega) hL next)
        · exact x_tableIn C 731 dL_law_40 (by decide) (by decide) (off := 691) (by decide) (by decide) (lc_731 C S hn hl hI hκ hi (by omega) (by omega) hL next)
        · exact x_tableIn C 799 dL_law_40 (by decide) (by decide) (off := 759) (by decide) (by decide) (lc_799 C S hn hl hI hκ hi (by omega) (by omega) hL next)
        · exact x_tableIn C 843 dL_law_40 (by decide) (by decide) (off := 803) (by decide) (by decide) (lc_843 C S hn hl hI hκ hi (by omega) (by omega) hL next)
        · exact x_tableIn C 856 dL_law_40 (by decide) (by decide) (off := 816) (by decide) (by decide) (lc_856 C S hn hl hI hκ hi (by omega) (by omega) hL next)
        · exact x_tableIn C 923 dL_law_40 (by decide) (by decide) (off := 883) (by decide) (by decide) (lc_923 C S hn hl hI hκ hi (by omega) (by omega) hL next)
        · exact x_tableIn C 979 dL_law_40 (by decide) (by decide) (off := 939) (by decide) (by decide) (lc_979 C S hn hl hI hκ hi (by omega) (by omega) hL next)
        · exact x_tableIn C 1047 dL_law_40 (by decide) (by decide) (off := 1007) (by decide) (by decide) (lc_1047 C S hn hl hI hκ hi (by omega) (by omega) hL next)
        · exact x_tableIn C 1103 dL_law_40 (by decide) (by decide) (off := 1063) (by decide) (by decide) (lc_1103 C S hn hl hI hκ hi (by omega) (by omega) hL next)
        · exact x_tableIn C 1128 dL_law_40 (by decide) (by decide) (off := 1088) (by decide) (by decide) (lc_1128 C S hn hl hI hκ hi (by omega) (by omega) hL next)
      · refine x_tableOut C 1196 dL_law_40 (Or.inr ?_) (by decide) ?_
        · rw [nI_toInt (by omega)]
          omega
        · refine x_widen (k := 64 + 2 * κ + 2) (n := 99104 + 12 * κ + 12) (by omega) (by omega) ?_
          exact next _ _ hL (w_I_s hI hκ)
end LAW
