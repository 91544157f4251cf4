set_option maxHeartbeats 4000000 in
set_option maxRecDepth 100000 in
theorem lc_promise {p : Program} {l : Launch} {e : Env} {s : State} {m : MethodId} {below : List Frame} {meth : Method} {c : Code} {D : va_G} {G : DG} {Gm : MG} {cJ : ClassId} {o d b L : Nat} {xs : Nat → Int32} {Rel : Nat → DT → MS → Nat → Nat → Prop} (F : LF p l s m #[Value.ref b] meth c D G Gm cJ o) (hX : va_X b L xs s s.heap) (hbl : b < s.heap.size) (hL : L ≤ 3072) (HR : RelOK Rel d G.2.2) {i t : Nat} (hi : i + 6 ≤ L) (ht : t < 512)
    (hend : ∀ (H : Heap) (S : DS) (M : MS) (f : Nat → Int64) (cells slots : Nat) (ls : Array Slot), LW D G Gm cJ o s S M f H → Rel (t + 1) S.2 M cells slots → lv_has ls 7 [(0, .ref b), (1, .ref d), (2, .ref Gm.2.2.1), (3, .ref o), (4, .int (nI i))] → W p l e room_1 s m #[Value.ref b] below meth c H [] cells slots (lw_Z below #[Value.ref b] s) (F0 m 1416 ls [])) :
    ∀ (H : Heap) (S : DS) (M : MS) (f : Nat → Int64) (cells slots : Nat) (ls : Array Slot), LW D G Gm cJ o s S M f H → Rel t S.2 M cells slots → lv_has ls 7 [(0, .ref b), (1, .ref d), (2, .ref Gm.2.2.1), (3, .ref o), (4, .int (nI i))] → W p l e room_1 s m #[Value.ref b] below meth c H [] cells slots (lw_Z below #[Value.ref b] s) (F0 m 132 ls []) := by
  intro H S M f cells slots ls hW hR hl
  have hx := F.1
  have hb := F.2.1
  obtain ⟨k, r, S1, C1, Z1, r2, M1, hq, hqm, hok, hcd, hrr, hR1⟩ := HR.2.2.1 t S M cells slots  (fun a ha => dH_lt hW.1 ha) ht hR 
  have hle := HR.1 _ _ _ _ _ hR1
  refine lv_aload_n hx hb dL_law_132 rfl (lv_at hl 1 rfl) ?_
  refine lv_aload_n hx hb dL_law_133 rfl (lv_at hl 3 rfl) ?_
  refine L_help (As := [.ref d, .ref o]) (rest := []) F hW hl.1 (h_L_promise F.2.2.2.2.2.1 S d  o f (HR.1 _ _ _ _ _ hR).2.2 hq hok) u_102 u_103 u_0 u_104 ym_L_promise rfl ⟨Nat.le_of_ble_eq_true rfl, Nat.le_of_ble_eq_true rfl⟩ ⟨hle.1, hle.2.1⟩ rfl (Nat.le_of_ble_eq_true rfl) dL_law_134 (fun H f hf hW => ?_)
  refine lv_istore (lv' := [(5, .int (cd1 k)), (0, .ref b), (1, .ref d), (2, .ref Gm.2.2.1), (3, .ref o), (4, .int (nI i))]) hx hb dL_law_137 hl (by decide) rfl (fun ls hl => ?_)
  refine lv_aload_n hx hb dL_law_139 rfl (lv_at hl 3 rfl) ?_
  refine L_model (As := []) (rest := []) F hW hl.1 (c_promise M  hqm) u_1004 u_1005 u_1006 u_5 u_1007 rfl ym_promise rfl ⟨Nat.le_of_ble_eq_true rfl, Nat.le_of_ble_eq_true rfl⟩ ⟨hle.1, hle.2.1⟩ rfl (Nat.le_of_ble_eq_true rfl) dL_law_140 (fun H hW => ?_)
  refine lv_istore (lv' := [(6, .int r2), (5, .int (cd1 k)), (0, .ref b), (1, .ref d), (2, .ref Gm.2.2.1), (3, .ref o), (4, .int (nI i))]) hx hb dL_law_143 hl (by decide) rfl (fun ls hl => ?_)
  refine lv_aload_n hx hb dL_law_145 rfl (lv_at hl 4 rfl) ?_
  refine L_model (As := []) (rest := []) F hW hl.1 (c_thrown M1 rfl) u_1000 u_1001 u_1002 u_5 u_1003 rfl ym_thrown rfl ⟨Nat.le_of_ble_eq_true rfl, Nat.le_of_ble_eq_true rfl⟩ ⟨hle.1, hle.2.1⟩ rfl (Nat.le_of_ble_eq_true rfl) dL_law_146 (fun H hW => ?_)
  refine lv_iload hx hb dL_law_149 (lv_at hl 1 rfl) ?_
  refine lv_icmp_eq (tgt := 156) hx hb dL_law_151 (by decide) (fun hc => ?_) (fun hc => absurd hcd hc)
  refine lv_iload hx hb dL_law_156 (lv_at hl 1 rfl) ?_
  refine lv_if_ne (tgt := 173) hx hb dL_law_158 (by decide) (fun hk => ?_) (fun hk => ?_)
  · refine lv_goto (tgt := 1416) hx hb dL_law_173 (by decide) ?_
    exact hend H (H.size, S1.2) M1 f (cells + C1) (slots + Z1) ls hW hR1 (lv_sub hl [2, 3, 4, 5, 6] rfl)
  · have hk0 : k = 0 := by rcases hok with e9 | e9 <;> first | exact e9 | (subst e9; exact absurd hk (by decide))
    have hr2 := hrr hk0
    subst hk0 hr2
    refine lv_aload_n hx hb dL_law_161 rfl (lv_at hl 5 rfl) ?_
    refine lv_iconst (v := 0) hx hb dL_law_162 (by decide) ?_
    refine L_out F hW dL_law_163 ?_
    refine lv_iload hx hb dL_law_164 (lv_at hl 0 rfl) ?_
    refine lv_i2l (v := r.toInt64) hx hb dL_law_166 rfl ?_
    refine W.lcmp hx hb dL_law_167 ?_
    refine lv_if_eq (tgt := 173) hx hb dL_law_168 (by decide) (fun hc => ?_) (fun hc => absurd (lcmp_eq (hf.trans (if_pos rfl))) hc)
    refine lv_goto (tgt := 1416) hx hb dL_law_173 (by decide) ?_
    exact hend H (H.size, S1.2) M1 f (cells + C1) (slots + Z1) ls hW hR1 (lv_sub hl [2, 3, 4, 5, 6] rfl)
set_option maxHeartbeats 4000000 in
set_option maxRecDepth 100000 in
theorem lc_handler {p : Program} {l : Launch} {e : Env} {s : State} {m : MethodId} {below : List Frame} {meth : Method} {c : Code} {D : va_G} {G : DG} {Gm : MG} {cJ : ClassId} {o d b L : Nat} {xs : Nat → Int32} {Rel : Nat → DT → MS → Nat → Nat → Prop} (F : LF p l s m #[Value.ref b] meth c D G Gm cJ o) (hX : va_X b L xs s s.heap) (hbl : b < s.heap.size) (hL : L ≤ 3072) (HR : RelOK Rel d G.2.2) {i t : Nat} (hi : i + 6 ≤ L) (ht : t < 512)
    (hend : ∀ (H : Heap) (S : DS) (M : MS) (f : Nat → Int64) (cells slots : Nat) (ls : Array Slot), LW D G Gm cJ o s S M f H → Rel (t + 1) S.2 M cells slots → lv_has ls 7 [(0, .ref b), (1, .ref d), (2, .ref Gm.2.2.1), (3, .ref o), (4, .int (nI i))] → W p l e room_1 s m #[Value.ref b] below meth c H [] cells slots (lw_Z below #[Value.ref b] s) (F0 m 1416 ls [])) :
    ∀ (H : Heap) (S : DS) (M : MS) (f : Nat → Int64) (cells slots : Nat) (ls : Array Slot), LW D G Gm cJ o s S M f H → Rel t S.2 M cells slots → lv_has ls 7 [(0, .ref b), (1, .ref d), (2, .ref Gm.2.2.1), (3, .ref o), (4, .int (nI i))] → W p l e room_1 s m #[Value.ref b] below meth c H [] cells slots (lw_Z below #[Value.ref b] s) (F0 m 176 ls []) := by
  intro H S M f cells slots ls hW hR hl
  have hx := F.1
  have hb := F.2.1
  obtain ⟨k, r, S1, C1, Z1, r2, M1, hq, hqm, hok, hcd, hrr, hR1⟩ := HR.2.2.2.1 t S M cells slots (xs (i + 1)) (xs (i + 2)) (fun a ha => dH_lt hW.1 ha) ht hR 
  have hle := HR.1 _ _ _ _ _ hR1
  refine lv_aload_n hx hb dL_law_176 rfl (lv_at hl 1 rfl) ?_
  refine L_rd F hW hX hbl hL (i := i) (k := 1) (by omega) (by decide) (lv_at hl 0 rfl) (lv_at hl 4 rfl) dL_law_177 dL_law_178 dL_law_180 dL_law_181 dL_law_182 ?_
  refine L_rd F hW hX hbl hL (i := i) (k := 2) (by omega) (by decide) (lv_at hl 0 rfl) (lv_at hl 4 rfl) dL_law_183 dL_law_184 dL_law_186 dL_law_187 dL_law_188 ?_
  refine lv_aload_n hx hb dL_law_189 rfl (lv_at hl 3 rfl) ?_
  refine L_help (As := [.ref d, .int (xs (i + 1)), .int (xs (i + 2)), .ref o]) (rest := []) F hW hl.1 (h_L_handler F.2.2.2.2.2.1 S d (xs (i + 1)) (xs (i + 2)) o f (HR.1 _ _ _ _ _ hR).2.2 hq hok) u_315 u_316 u_0 u_317 ym_L_handler rfl ⟨Nat.le_of_ble_eq_true rfl, Nat.le_of_ble_eq_true rfl⟩ ⟨hle.1, hle.2.1⟩ rfl (Nat.le_of_ble_eq_true rfl) dL_law_190 (fun H f hf hW => ?_)
  refine lv_istore (lv' := [(5, .int (cd2 k)), (0, .ref b), (1, .ref d), (2, .ref Gm.2.2.1), (3, .ref o), (4, .int (nI i))]) hx hb dL_law_193 hl (by decide) rfl (fun ls hl => ?_)
  refine lv_aload_n hx hb dL_law_195 rfl (lv_at hl 3 rfl) ?_
  refine L_rd F hW hX hbl hL (i := i) (k := 1) (by omega) (by decide) (lv_at hl 1 rfl) (lv_at hl 5 rfl) dL_law_196 dL_law_197 dL_law_199 dL_law_200 dL_law_201 ?_
  refine L_rd F hW hX hbl hL (i := i) (k := 2) (by omega) (by decide) (lv_at hl 1 rfl) (lv_at hl 5 rfl) dL_law_202 dL_law_203 dL_law_205 dL_law_206 dL_law_207 ?_
  refine L_model (As := [.int (xs (i + 1)), .int (xs (i + 2))]) (rest := []) F hW hl.1 (c_handler M (xs (i + 1)) (xs (i + 2)) hqm) u_1031 u_1032 u_1033 u_5 u_1034 rfl ym_handler rfl ⟨Nat.le_of_ble_eq_true rfl, Nat.le_of_ble_eq_true rfl⟩ ⟨hle.1, hle.2.1⟩ rfl (Nat.le_of_ble_eq_true rfl) dL_law_208 (fun H hW => ?_)
  refine lv_istore (lv' := [(6, .int r2), (5, .int (cd2 k)), (0, .ref b), (1, .ref d), (2, .ref Gm.2.2.1), (3, .ref o), (4, .int (nI i))]) hx hb dL_law_211 hl (by decide) rfl (fun ls hl => ?_)
  refine lv_aload_n hx hb dL_law_213 rfl (lv_at hl 4 rfl) ?_
  refine L_model (As := []) (rest := []) F hW hl.1 (c_thrown M1 rfl) u_1000 u_1001 u_1002 u_5 u_1003 rfl ym_thrown rfl ⟨Nat.le_of_ble_eq_true rfl, Nat.le_of_ble_eq_true rfl⟩ ⟨hle.1, hle.2.1⟩ rfl (Nat.le_of_ble_eq_true rfl) dL_law_214 (fun H hW => ?_)
  refine lv_iload hx hb dL_law_217 (lv_at hl 1 rfl) ?_
  refine lv_icmp_eq (tgt := 224) hx hb dL_law_219 (by decide) (fun hc => ?_) (fun hc => absurd hcd hc)
  refine lv_iload hx hb dL_law_224 (lv_at hl 1 rfl) ?_
  refine lv_if_ne (tgt := 241) hx hb dL_law_226 (by decide) (fun hk => ?_) (fun hk => ?_)
  · refine lv_goto (tgt := 1416) hx hb dL_law_241 (by decide) ?_
    exact hend H (H.size, S1.2) M1 f (cells + C1) (slots + Z1) ls hW hR1 (lv_sub hl [2, 3, 4, 5, 6] rfl)
  · have hk0 : k = 0 := by rcases hok with e9 | e9 | e9 <;> first | exact e9 | (subst e9; exact absurd hk (by decide))
    have hr2 := hrr hk0
    subst hk0 hr2
    refine lv_aload_n hx hb dL_law_229 rfl (lv_at hl 5 rfl) ?_
    refine lv_iconst (v := 0) hx hb dL_law_230 (by decide) ?_
    refine L_out F hW dL_law_231 ?_
    refine lv_iload hx hb dL_law_232 (lv_at hl 0 rfl) ?_
    refine lv_i2l (v := r.toInt64) hx hb dL_law_234 rfl ?_
    refine W.lcmp hx hb dL_law_235 ?_
    refine lv_if_eq (tgt := 241) hx hb dL_law_236 (by decide) (fun hc => ?_) (fun hc => absurd (lcmp_eq (hf.trans (if_pos rfl))) hc)
    refine lv_goto (tgt := 1416) hx hb dL_law_241 (by decide) ?_
    exact hend H (H.size, S1.2) M1 f (cells + C1) (slots + Z1) ls hW hR1 (lv_sub hl [2, 3, 4, 5, 6] rfl)
set_option maxHeartbeats 4000000 in
set_option maxRecDepth 100000 in
theorem lc_thenable {p : Program} {l : Launch} {e : Env} {s : State} {m : MethodId} {below : List Frame} {meth : Method} {c : Code} {D : va_G} {G : DG} {Gm : MG} {cJ : ClassId} {o d b L : Nat} {xs : Nat → Int32} {Rel : Nat → DT → MS → Nat → Nat → Prop} (F : LF p l s m #[Value.ref b] meth c D G Gm cJ o) (hX : va_X b L xs s s.heap) (hbl : b < s.heap.size) (hL : L ≤ 3072) (HR : RelOK Rel d G.2.2) {i t : Nat} (hi : i + 6 ≤ L) (ht : t < 512)
    (hend : ∀ (H : Heap) (S : DS) (M : MS) (f : Nat → Int64) (cells slots : Nat) (ls : Array Slot), LW D G Gm cJ o s S M f H → Rel (t + 1) S.2 M cells slots → lv_has ls 7 [(0, .ref b), (1, .ref d), (2, .ref Gm.2.2.1), (3, .ref o), (4, .int (nI i))] → W p l e room_1 s m #[Value.ref b] below meth c H [] cells slots (lw_Z below #[Value.ref b] s) (F0 m 1416 ls [])) :
    ∀ (H : Heap) (S : DS) (M : MS) (f : Nat → Int64) (cells slots : Nat) (ls : Array Slot), LW D G Gm cJ o s S M f H → Rel t S.2 M cells slots → lv_has ls 7 [(0, .ref b), (1, .ref d), (2, .ref Gm.2.2.1), (3, .ref o), (4, .int (nI i))] → W p l e room_1 s m #[Value.ref b] below meth c H [] cells slots (lw_Z below #[Value.ref b] s) (F0 m 244 ls []) := by
  intro H S M f cells slots ls hW hR hl
  have hx := F.1
  have hb := F.2.1
  obtain ⟨k, r, S1, C1, Z1, r2, M1, hq, hqm, hok, hcd, hrr, hR1⟩ := HR.2.2.2.2.1 t S M cells slots (xs (i + 1)) (xs (i + 2)) (xs (i + 3)) (xs (i + 4)) (xs (i + 5)) (fun a ha => dH_lt hW.1 ha) ht hR 
  have hle := HR.1 _ _ _ _ _ hR1
  refine lv_aload_n hx hb dL_law_244 rfl (lv_at hl 1 rfl) ?_
  refine L_rd F hW hX hbl hL (i := i) (k := 1) (by omega) (by decide) (lv_at hl 0 rfl) (lv_at hl 4 rfl) dL_law_245 dL_law_246 dL_law_248 dL_law_249 dL_law_250 ?_
  refine L_rd F hW hX hbl hL (i := i) (k := 2) (by omega) (by decide) (lv_at hl 0 rfl) (lv_at hl 4 rfl) dL_law_251 dL_law_252 dL_law_254 dL_law_255 dL_law_256 ?_
  refine L_rd F hW hX hbl hL (i := i) (k := 3) (by omega) (by decide) (lv_at hl 0 rfl) (lv_at hl 4 rfl) dL_law_257 dL_law_258 dL_law_260 dL_law_261 dL_law_262 ?_
  refine L_rd F hW hX hbl hL (i := i) (k := 4) (by omega) (by decide) (lv_at hl 0 rfl) (lv_at hl 4 rfl) dL_law_263 dL_law_264 dL_law_266 dL_law_267 dL_law_268 ?_
  refine L_rd F hW hX hbl hL (i := i) (k := 5) (by omega) (by decide) (lv_at hl 0 rfl) (lv_at hl 4 rfl) dL_law_269 dL_law_270 dL_law_272 dL_law_273 dL_law_274 ?_
  refine lv_aload_n hx hb dL_law_275 rfl (lv_at hl 3 rfl) ?_
  refine L_help (As := [.ref d, .int (xs (i + 1)), .int (xs (i + 2)), .int (xs (i + 3)), .int (xs (i + 4)), .int (xs (i + 5)), .ref o]) (rest := []) F hW hl.1 (h_L_thenable F.2.2.2.2.2.1 S d (xs (i + 1)) (xs (i + 2)) (xs (i + 3)) (xs (i + 4)) (xs (i + 5)) o f (HR.1 _ _ _ _ _ hR).2.2 hq hok) u_400 u_401 u_0 u_402 ym_L_thenable rfl ⟨Nat.le_of_ble_eq_true rfl, Nat.le_of_ble_eq_true rfl⟩ ⟨hle.1, hle.2.1⟩ rfl (Nat.le_of_ble_eq_true rfl) dL_law_276 (fun H f hf hW => ?_)
  refine lv_istore (lv' := [(5, .int (cd2 k)), (0, .ref b), (1, .ref d), (2, .ref Gm.2.2.1), (3, .ref o), (4, .int (nI i))]) hx hb dL_law_279 hl (by decide) rfl (fun ls hl => ?_)
  refine lv_aload_n hx hb dL_law_281 rfl (lv_at hl 3 rfl) ?_
  refine L_rd F hW hX hbl hL (i := i) (k := 1) (by omega) (by decide) (lv_at hl 1 rfl) (lv_at hl 5 rfl) dL_law_282 dL_law_283 dL_law_285 dL_law_286 dL_law_287 ?_
  refine L_rd F hW hX hbl hL (i := i) (k := 2) (by omega) (by decide) (lv_at hl 1 rfl) (lv_at hl 5 rfl) dL_law_288 dL_law_289 dL_law_291 dL_law_292 dL_law_293 ?_
  refine L_rd F hW hX hbl hL (i := i) (k := 3) (by omega) (by decide) (lv_at hl 1 rfl) (lv_at hl 5 rfl) dL_law_294 dL_law_295 dL_law_297 dL_law_298 dL_law_299 ?_
  refine L_rd F hW hX hbl hL (i := i) (k := 4) (by omega) (by decide) (lv_at hl 1 rfl) (lv_at hl 5 rfl) dL_law_300 dL_law_301 dL_law_303 dL_law_304 dL_law_305 ?_
  refine L_rd F hW hX hbl hL (i := i) (k := 5) (by omega) (by decide) (lv_at hl 1 rfl) (lv_at hl 5 rfl) dL_law_306 dL_law_307 dL_law_309 dL_law_310 dL_law_311 ?_
  refine L_model (As := [.int (xs (i + 1)), .int (xs (i + 2)), .int (xs (i + 3)), .int (xs (i + 4)), .int (xs (i + 5))]) (rest := []) F hW hl.1 (c_thenable M (xs (i + 1)) (xs (i + 2)) (xs (i + 3)) (xs (i + 4)) (xs (i + 5)) hqm) u_1051 u_1052 u_1053 u_5 u_1054 rfl ym_thenable rfl ⟨Nat.le_of_ble_eq_true rfl, Nat.le_of_ble_eq_true rfl⟩ ⟨hle.1, hle.2.1⟩ rfl (Nat.le_of_ble_eq_true rfl) dL_law_312 (fun H hW => ?_)
  refine lv_istore (lv' := [(6, .int r2), (5, .int (cd2 k)), (0, .ref b), (1, .ref d), (2, .ref Gm.2.2.1), (3, .ref o), (4, .int (nI i))]) hx hb dL_law_315 hl (by decide) rfl (fun ls hl => ?_)
  refine lv_aload_n hx hb dL_law_317 rfl (lv_at hl 4 rfl) ?_
  refine L_model (As := []) (rest := []) F hW hl.1 (c_thrown M1 rfl) u_1000 u_1001 u_1002 u_5 u_1003 rfl ym_thrown rfl ⟨Nat.le_of_ble_eq_true rfl, Nat.le_of_ble_eq_true rfl⟩ ⟨hle.1, hle.2.1⟩ rfl (Nat.le_of_ble_eq_true rfl) dL_law_318 (fun H hW => ?_)
  refine lv_iload hx hb dL_law_321 (lv_at hl 1 rfl) ?_
  refine lv_icmp_eq (tgt := 328) hx hb dL_law_323 (by decide) (fun hc => ?_) (fun hc => absurd hcd hc)
  refine lv_iload hx hb dL_law_328 (lv_at hl 1 rfl) ?_
  refine lv_if_ne (tgt := 345) hx hb dL_law_330 (by decide) (fun hk => ?_) (fun hk => ?_)
  · refine lv_goto (tgt := 1416) hx hb dL_law_345 (by decide) ?_
    exact hend H (H.size, S1.2) M1 f (cells + C1) (slots + Z1) ls hW hR1 (lv_sub hl [2, 3, 4, 5, 6] rfl)
  · have hk0 : k = 0 := by rcases hok with e9 | e9 | e9 <;> first | exact e9 | (subst e9; exact absurd hk (by decide))
    have hr2 := hrr hk0
    subst hk0 hr2
    refine lv_aload_n hx hb dL_law_333 rfl (lv_at hl 5 rfl) ?_
    refine lv_iconst (v := 0) hx hb dL_law_334 (by decide) ?_
    refine L_out F hW dL_law_335 ?_
    refine lv_iload hx hb dL_law_336 (lv_at hl 0 rfl) ?_
    refine lv_i2l (v := r.toInt64) hx hb dL_law_338 rfl ?_
    refine W.lcmp hx hb dL_law_339 ?_
    refine lv_if_eq (tgt := 345) hx hb dL_law_340 (by decide) (fun hc => ?_) (fun hc => absurd (lcmp_eq (hf.trans (if_pos rfl))) hc)
    refine lv_goto (tgt := 1416) hx hb dL_law_345 (by decide) ?_
    exact hend H (H.size, S1.2) M1 f (cells + C1) (slots + Z1) ls hW hR1 (lv_sub hl [2, 3, 4, 5, 6] rfl)
set_option maxHeartbeats 4000000 in
set_option maxRecDepth 100000 in
theorem lc_settle {p : Program} {l : Launch} {e : Env} {s : State} {m : MethodId} {below : List Frame} {meth : Method} {c : Code} {D : va_G} {G : DG} {Gm : MG} {cJ : ClassId} {o d b L : Nat} {xs : Nat → Int32} {Rel : Nat → DT → MS → Nat → Nat → Prop} (F : LF p l s m #[Value.ref b] meth c D G Gm cJ o) (hX : va_X b L xs s s.heap) (hbl : b < s.heap.size) (hL : L ≤ 3072) (HR : RelOK Rel d G.2.2) {i t : Nat} (hi : i + 6 ≤ L) (ht : t < 512)
    (hend : ∀ (H : Heap) (S : DS) (M : MS) (f : Nat → Int64) (cells slots : Nat) (ls : Array Slot), LW D G Gm cJ o s S M f H → Rel (t + 1) S.2 M cells slots → lv_has ls 7 [(0, .ref b), (1, .ref d), (2, .ref Gm.2.2.1), (3, .ref o), (4, .int (nI i))] → W p l e room_1 s m #[Value.ref b] below meth c H [] cells slots (lw_Z below #[Value.ref b] s) (F0 m 1416 ls [])) :
    ∀ (H : Heap) (S : DS) (M : MS) (f : Nat → Int64) (cells slots : Nat) (ls : Array Slot), LW D G Gm cJ o s S M f H → Rel t S.2 M cells slots → lv_has ls 7 [(0, .ref b), (1, .ref d), (2, .ref Gm.2.2.1), (3, .ref o), (4, .int (nI i))] → W p l e room_1 s m #[Value.ref b] below meth c H [] cells slots (lw_Z below #[Value.ref b] s) (F0 m 348 ls []) := by
  intro H S M f cells slots ls hW hR hl
  have hx := F.1
  have hb := F.2.1
  obtain ⟨k, r, S1, C1, Z1, r2, M1, hq, hqm, hok, hcd, hrr, hR1⟩ := HR.2.2.2.2.2.1 t S M cells slots (xs (i + 1)) (bz (xs (i + 2))) (xs (i + 3)) (fun a ha => dH_lt hW.1 ha) ht hR (bz_B _)
  have hle := HR.1 _ _ _ _ _ hR1
  refine lv_aload_n hx hb dL_law_348 rfl (lv_at hl 1 rfl) ?_
  refine L_rd F hW hX hbl hL (i := i) (k := 1) (by omega) (by decide) (lv_at hl 0 rfl) (lv_at hl 4 rfl) dL_law_349 dL_law_350 dL_law_352 dL_law_353 dL_law_354 ?_
  refine L_rd F hW hX hbl hL (i := i) (k := 2) (by omega) (by decide) (lv_at hl 0 rfl) (lv_at hl 4 rfl) dL_law_355 dL_law_356 dL_law_358 dL_law_359 dL_law_360 ?_
  refine L_bz (t0 := 368) (tj := 369) hx hb dL_law_361 (by decide) dL_law_364 dL_law_365 (by decide) dL_law_368 rfl ?_
  refine L_rd F hW hX hbl hL (i := i) (k := 3) (by omega) (by decide) (lv_at hl 0 rfl) (lv_at hl 4 rfl) dL_law_369 dL_law_370 dL_law_372 dL_law_373 dL_law_374 ?_
  refine lv_aload_n hx hb dL_law_375 rfl (lv_at hl 3 rfl) ?_
  refine L_help (As := [.ref d, .int (xs (i + 1)), .int (bz (xs (i + 2))), .int (xs (i + 3)), .ref o]) (rest := []) F hW hl.1 (h_L_settle F.2.2.2.2.2.1 FU S d (xs (i + 1)) (bz (xs (i + 2))) (xs (i + 3)) o f (HR.1 _ _ _ _ _ hR).2.2 hq hok) u_436 u_437 u_0 u_438 ym_L_settle rfl ⟨Nat.le_of_ble_eq_true rfl, Nat.le_of_ble_eq_true rfl⟩ ⟨hle.1, hle.2.1⟩ rfl (Nat.le_of_ble_eq_true rfl) dL_law_376 (fun H f hf hW => ?_)
  refine lv_istore (lv' := [(5, .int (cd2 k)), (0, .ref b), (1, .ref d), (2, .ref Gm.2.2.1), (3, .ref o), (4, .int (nI i))]) hx hb dL_law_379 hl (by decide) rfl (fun ls hl => ?_)
  refine lv_aload_n hx hb dL_law_381 rfl (lv_at hl 3 rfl) ?_
  refine L_rd F hW hX hbl hL (i := i) (k := 1) (by omega) (by decide) (lv_at hl 1 rfl) (lv_at hl 5 rfl) dL_law_382 dL_law_383 dL_law_385 dL_law_386 dL_law_387 ?_
  refine L_rd F hW hX hbl hL (i := i) (k := 2) (by omega) (by decide) (lv_at hl 1 rfl) (lv_at hl 5 rfl) dL_law_388 dL_law_389 dL_law_391 dL_law_392 dL_law_393 ?_
  refine L_bz (t0 := 401) (tj := 402) hx hb dL_law_394 (by decide) dL_law_397 dL_law_398 (by decide) dL_law_401 rfl ?_
  refine L_rd F hW hX hbl hL (i := i) (k := 3) (by omega) (by decide) (lv_at hl 1 rfl) (lv_at hl 5 rfl) dL_law_402 dL_law_403 dL_law_405 dL_law_406 dL_law_407 ?_
  refine L_model (As := [.int (xs (i + 1)), .int (bz (xs (i + 2))), .int (xs (i + 3))]) (rest := []) F hW hl.1 (c_settle_ FU M (xs (i + 1)) (bz (xs (i + 2))) (xs (i + 3)) hqm) u_1055 u_1056 u_1057 u_5 u_1058 rfl ym_settle_ rfl ⟨Nat.le_of_ble_eq_true rfl, Nat.le_of_ble_eq_true rfl⟩ ⟨hle.1, hle.2.1⟩ rfl (Nat.le_of_ble_eq_true rfl) dL_law_408 (fun H hW => ?_)
  refine lv_istore (lv' := [(6, .int r2), (5, .int (cd2 k)), (0, .ref b), (1, .ref d), (2, .ref Gm.2.2.1), (3, .ref o), (4, .int (nI i))]) hx hb dL_law_411 hl (by decide) rfl (fun ls hl => ?_)
  refine lv_aload_n hx hb dL_law_413 rfl (lv_at hl 4 rfl) ?_
  refine L_model (As := []) (rest := []) F hW hl.1 (c_thrown M1 rfl) u_1000 u_1001 u_1002 u_5 u_1003 rfl ym_thrown rfl ⟨Nat.le_of_ble_eq_true rfl, Nat.le_of_ble_eq_true rfl⟩ ⟨hle.1, hle.2.1⟩ rfl (Nat.le_of_ble_eq_true rfl) dL_law_414 (fun H hW => ?_)
  refine lv_iload hx hb dL_law_417 (lv_at hl 1 rfl) ?_
  refine lv_icmp_eq (tgt := 424) hx hb dL_law_419 (by decide) (fun hc => ?_) (fun hc => absurd hcd hc)
  refine lv_iload hx hb dL_law_424 (lv_at hl 1 rfl) ?_
  refine lv_if_ne (tgt := 448) hx hb dL_law_426 (by decide) (fun hk => ?_) (fun hk => ?_)
  · refine lv_goto (tgt := 1416) hx hb dL_law_448 (by decide) ?_
    exact hend H (H.size, S1.2) M1 f (cells + C1) (slots + Z1) ls hW hR1 (lv_sub hl [2, 3, 4, 5, 6] rfl)
  · have hk0 : k = 0 := by rcases hok with e9 | e9 | e9 <;> first | exact e9 | (subst e9; exact absurd hk (by decide))
    have hr2 := hrr hk0
    subst hk0 hr2
    refine lv_aload_n hx hb dL_law_429 rfl (lv_at hl 5 rfl) ?_
    refine lv_iconst (v := 0) hx hb dL_law_430 (by decide) ?_
    refine L_out F hW dL_law_431 ?_
    refine lv_iload hx hb dL_law_432 (lv_at hl 0 rfl) ?_
    refine lv_if_eq (tgt := 441) hx hb dL_law_434 (by decide) (fun hz => ?_) (fun hz => ?_)
    · refine lv_lconst (v := 0) hx hb dL_law_441 (by decide) ?_
      refine W.lcmp hx hb dL_law_442 ?_
      refine lv_if_eq (tgt := 448) hx hb dL_law_443 (by decide) (fun hc => ?_) (fun hc => absurd (lcmp_eq ((hf.trans (if_pos rfl)).trans (if_pos hz))) hc)
      refine lv_goto (tgt := 1416) hx hb dL_law_448 (by decide) ?_
      exact hend H (H.size, S1.2) M1 f (cells + C1) (slots + Z1) ls hW hR1 (lv_sub hl [2, 3, 4, 5, 6] rfl)
    · refine lv_lconst (v := 1) hx hb dL_law_437 (by decide) ?_
      refine lv_goto (tgt := 442) hx hb dL_law_438 (by decide) ?_
      refine W.lcmp hx hb dL_law_442 ?_
      refine lv_if_eq (tgt := 448) hx hb dL_law_443 (by decide) (fun hc => ?_) (fun hc => absurd (lcmp_eq ((hf.trans (if_pos rfl)).trans (if_neg hz))) hc)
      refine lv_goto (tgt := 1416) hx hb dL_law_448 (by decide) ?_
      exact hend H (H.size, S1.2) M1 f (cells + C1) (slots + Z1) ls hW hR1 (lv_sub hl [2, 3, 4, 5, 6] rfl)
set_option maxHeartbeats 4000000 in
set_option maxRecDepth 100000 in
theorem lc_later {p : Program} {l : Launch} {e : Env} {s : State} {m : MethodId} {below : List Frame} {meth : Method} {c : Code} {D : va_G} {G : DG} {Gm : MG} {cJ : ClassId} {o d b L : Nat} {xs : Nat → Int32} {Rel : Nat → DT → MS → Nat → Nat → Prop} (F : LF p l s m #[Value.ref b] meth c D G Gm cJ o) (hX : va_X b L xs s s.heap) (hbl : b < s.heap.size) (hL : L ≤ 3072) (HR : RelOK Rel d G.2.2) {i t : Nat} (hi : i + 6 ≤ L) (ht : t < 512)
    (hend : ∀ (H : Heap) (S : DS) (M : MS) (f : Nat → Int64) (cells slots : Nat) (ls : Array Slot), LW D G Gm cJ o s S M f H → Rel (t + 1) S.2 M cells slots → lv_has ls 7 [(0, .ref b), (1, .ref d), (2, .ref Gm.2.2.1), (3, .ref o), (4, .int (nI i))] → W p l e room_1 s m #[Value.ref b] below meth c H [] cells slots (lw_Z below #[Value.ref b] s) (F0 m 1416 ls [])) :
    ∀ (H : Heap) (S : DS) (M : MS) (f : Nat → Int64) (cells slots : Nat) (ls : Array Slot), LW D G Gm cJ o s S M f H → Rel t S.2 M cells slots → lv_has ls 7 [(0, .ref b), (1, .ref d), (2, .ref Gm.2.2.1), (3, .ref o), (4, .int (nI i))] → W p l e room_1 s m #[Value.ref b] below meth c H [] cells slots (lw_Z below #[Value.ref b] s) (F0 m 451 ls []) := by
  intro H S M f cells slots ls hW hR hl
  have hx := F.1
  have hb := F.2.1
  obtain ⟨k, r, S1, C1, Z1, r2, M1, hq, hqm, hok, hcd, hrr, hR1⟩ := HR.2.2.2.2.2.2.1 t S M cells slots (xs (i + 1)) (bz (xs (i + 2))) (xs (i + 3)) (fun a ha => dH_lt hW.1 ha) ht hR (bz_B _)
  have hle := HR.1 _ _ _ _ _ hR1
  refine lv_aload_n hx hb dL_law_451 rfl (lv_at hl 1 rfl) ?_
  refine L_rd F hW hX hbl hL (i := i) (k := 1) (by omega) (by decide) (lv_at hl 0 rfl) (lv_at hl 4 rfl) dL_law_452 dL_law_453 dL_law_455 dL_law_456 dL_law_457 ?_
  refine L_rd F hW hX hbl hL (i := i) (k := 2) (by omega) (by decide) (lv_at hl 0 rfl) (lv_at hl 4 rfl) dL_law_458 dL_law_459 dL_law_461 dL_law_462 dL_law_463 ?_
  refine L_bz (t0 := 471) (tj := 472) hx hb dL_law_464 (by decide) dL_law_467 dL_law_468 (by decide) dL_law_471 rfl ?_
  refine L_rd F hW hX hbl hL (i := i) (k := 3) (by omega) (by decide) (lv_at hl 0 rfl) (lv_at hl 4 rfl) dL_law_472 dL_law_473 dL_law_475 dL_law_476 dL_law_477 ?_
  refine lv_aload_n hx hb dL_law_478 rfl (lv_at hl 3 rfl) ?_
  refine L_help (As := [.ref d, .int (xs (i + 1)), .int (bz (xs (i + 2))), .int (xs (i + 3)), .ref o]) (rest := []) F hW hl.1 (h_L_later F.2.2.2.2.2.1 FU S d (xs (i + 1)) (bz (xs (i + 2))) (xs (i + 3)) o f (HR.1 _ _ _ _ _ hR).2.2 hq hok) u_524 u_525 u_0 u_526 ym_L_later rfl ⟨Nat.le_of_ble_eq_true rfl, Nat.le_of_ble_eq_true rfl⟩ ⟨hle.1, hle.2.1⟩ rfl (Nat.le_of_ble_eq_true rfl) dL_law_479 (fun H f hf hW => ?_)
  refine lv_istore (lv' := [(5, .int (cd2 k)), (0, .ref b), (1, .ref d), (2, .ref Gm.2.2.1), (3, .ref o), (4, .int (nI i))]) hx hb dL_law_482 hl (by decide) rfl (fun ls hl => ?_)
  refine lv_aload_n hx hb dL_law_484 rfl (lv_at hl 3 rfl) ?_
  refine L_rd F hW hX hbl hL (i := i) (k := 1) (by omega) (by decide) (lv_at hl 1 rfl) (lv_at hl 5 rfl) dL_law_485 dL_law_486 dL_law_488 dL_law_489 dL_law_490 ?_
  refine L_rd F hW hX hbl hL (i := i) (k := 2) (by omega) (by decide) (lv_at hl 1 rfl) (lv_at hl 5 rfl) dL_law_491 dL_law_492 dL_law_494 dL_law_495 dL_law_496 ?_
  refine L_bz (t0 := 504) (tj := 505) hx hb dL_law_497 (by decide) dL_law_500 dL_law_501 (by decide) dL_law_504 rfl ?_
  refine L_rd F hW hX hbl hL (i := i) (k := 3) (by omega) (by decide) (lv_at hl 1 rfl) (lv_at hl 5 rfl) dL_law_505 dL_law_506 dL_law_508 dL_law_509 dL_law_510 ?_
  refine L_model (As := [.int (xs (i + 1)), .int (bz (xs (i + 2))), .int (xs (i + 3))]) (rest := []) F hW hl.1 (c_later FU M (xs (i + 1)) (bz (xs (i + 2))) (xs (i + 3)) hqm) u_1075 u_1076 u_1077 u_5 u_1078 rfl ym_later rfl ⟨Nat.le_of_ble_eq_true rfl, Nat.le_of_ble_eq_true rfl⟩ ⟨hle.1, hle.2.1⟩ rfl (Nat.le_of_ble_eq_true rfl) dL_law_511 (fun H hW => ?_)
  refine lv_istore (lv' := [(6, .int r2), (5, .int (cd2 k)), (0, .ref b), (1, .ref d), (2, .ref Gm.2.2.1), (3, .ref o), (4, .int (nI i))]) hx hb dL_law_514 hl (by decide) rfl (fun ls hl => ?_)
  refine lv_aload_n hx hb dL_law_516 rfl (lv_at hl 4 rfl) ?_
  refine L_model (As := []) (rest := []) F hW hl.1 (c_thrown M1 rfl) u_1000 u_1001 u_1002 u_5 u_1003 rfl ym_thrown rfl ⟨Nat.le_of_ble_eq_true rfl, Nat.le_of_ble_eq_true rfl⟩ ⟨hle.1, hle.2.1⟩ rfl (Nat.le_of_ble_eq_true rfl) dL_law_517 (fun H hW => ?_)
  refine lv_iload hx hb dL_law_520 (lv_at hl 1 rfl) ?_
  refine lv_icmp_eq (tgt := 527) hx hb dL_law_522 (by decide) (fun hc => ?_) (fun hc => absurd hcd hc)
  refine lv_iload hx hb dL_law_527 (lv_at hl 1 rfl) ?_
  refine lv_if_ne (tgt := 544) hx hb dL_law_529 (by decide) (fun hk => ?_) (fun hk => ?_)
  · refine lv_goto (tgt := 1416) hx hb dL_law_544 (by decide) ?_
    exact hend H (H.size, S1.2) M1 f (cells + C1) (slots + Z1) ls hW hR1 (lv_sub hl [2, 3, 4, 5, 6] rfl)
  · have hk0 : k = 0 := by rcases hok with e9 | e9 | e9 <;> first | exact e9 | (subst e9; exact absurd hk (by decide))
    have hr2 := hrr hk0
    subst hk0 hr2
    refine lv_aload_n hx hb dL_law_532 rfl (lv_at hl 5 rfl) ?_
    refine lv_iconst (v := 0) hx hb dL_law_533 (by decide) ?_
    refine L_out F hW dL_law_534 ?_
    refine lv_iload hx hb dL_law_535 (lv_at hl 0 rfl) ?_
    refine lv_i2l (v := r.toInt64) hx hb dL_law_537 rfl ?_
    refine W.lcmp hx hb dL_law_538 ?_
    refine lv_if_eq (tgt := 544) hx hb dL_law_539 (by decide) (fun hc => ?_) (fun hc => absurd (lcmp_eq (hf.trans (if_pos rfl))) hc)
    refine lv_goto (tgt := 1416) hx hb dL_law_544 (by decide) ?_
    exact hend H (H.size, S1.2) M1 f (cells + C1) (slots + Z1) ls hW hR1 (lv_sub hl [2, 3, 4, 5, 6] rfl)
set_option maxHeartbeats 4000000 in
set_option maxRecDepth 100000 in
theorem lc_then {p : Program} {l : Launch} {e : Env} {s : State} {m : MethodId} {below : List Frame} {meth : Method} {c : Code} {D : va_G} {G : DG} {Gm : MG} {cJ : ClassId} {o d b L : Nat} {xs : Nat → Int32} {Rel : Nat → DT → MS → Nat → Nat → Prop} (F : LF p l s m #[Value.ref b] meth c D G Gm cJ o) (hX : va_X b L xs s s.heap) (hbl : b < s.heap.size) (hL : L ≤ 3072) (HR : RelOK Rel d G.2.2) {i t : Nat} (hi : i + 6 ≤ L) (ht : t < 512)
    (hend : ∀ (H : Heap) (S : DS) (M : MS) (f : Nat → Int64) (cells slots : Nat) (ls : Array Slot), LW D G Gm cJ o s S M f H → Rel (t + 1) S.2 M cells slots → lv_has ls 7 [(0, .ref b), (1, .ref d), (2, .ref Gm.2.2.1), (3, .ref o), (4, .int (nI i))] → W p l e room_1 s m #[Value.ref b] below meth c H [] cells slots (lw_Z below #[Value.ref b] s) (F0 m 1416 ls [])) :
    ∀ (H : Heap) (S : DS) (M : MS) (f : Nat → Int64) (cells slots : Nat) (ls : Array Slot), LW D G Gm cJ o s S M f H → Rel t S.2 M cells slots → lv_has ls 7 [(0, .ref b), (1, .ref d), (2, .ref Gm.2.2.1), (3, .ref o), (4, .int (nI i))] → W p l e room_1 s m #[Value.ref b] below meth c H [] cells slots (lw_Z below #[Value.ref b] s) (F0 m 547 ls []) := by
  intro H S M f cells slots ls hW hR hl
  have hx := F.1
  have hb := F.2.1
  obtain ⟨k, r, S1, C1, Z1, r2, M1, hq, hqm, hok, hcd, hrr, hR1⟩ := HR.2.2.2.2.2.2.2.1 t S M cells slots (xs (i + 1)) (xs (i + 2)) (xs (i + 3)) (bz (xs (i + 4))) (fun a ha => dH_lt hW.1 ha) ht hR (bz_B _)
  have hle := HR.1 _ _ _ _ _ hR1
  refine lv_aload_n hx hb dL_law_547 rfl (lv_at hl 1 rfl) ?_
  refine L_rd F hW hX hbl hL (i := i) (k := 1) (by omega) (by decide) (lv_at hl 0 rfl) (lv_at hl 4 rfl) dL_law_548 dL_law_549 dL_law_551 dL_law_552 dL_law_553 ?_
  refine L_rd F hW hX hbl hL (i := i) (k := 2) (by omega) (by decide) (lv_at hl 0 rfl) (lv_at hl 4 rfl) dL_law_554 dL_law_555 dL_law_557 dL_law_558 dL_law_559 ?_
  refine L_rd F hW hX hbl hL (i := i) (k := 3) (by omega) (by decide) (lv_at hl 0 rfl) (lv_at hl 4 rfl) dL_law_560 dL_law_561 dL_law_563 dL_law_564 dL_law_565 ?_
  refine L_rd F hW hX hbl hL (i := i) (k := 4) (by omega) (by decide) (lv_at hl 0 rfl) (lv_at hl 4 rfl) dL_law_566 dL_law_567 dL_law_569 dL_law_570 dL_law_571 ?_
  refine L_bz (t0 := 579) (tj := 580) hx hb dL_law_572 (by decide) dL_law_575 dL_law_576 (by decide) dL_law_579 rfl ?_
  refine lv_aload_n hx hb dL_law_580 rfl (lv_at hl 3 rfl) ?_
  refine L_help (As := [.ref d, .int (xs (i + 1)), .int (xs (i + 2)), .int (xs (i + 3)), .int (bz (xs (i + 4))), .ref o]) (rest := []) F hW hl.1 (h_L_then F.2.2.2.2.2.1 S d (xs (i + 1)) (xs (i + 2)) (xs (i + 3)) (bz (xs (i + 4))) o f (HR.1 _ _ _ _ _ hR).2.2 hq hok) u_536 u_537 u_0 u_538 ym_L_then rfl ⟨Nat.le_of_ble_eq_true rfl, Nat.le_of_ble_eq_true rfl⟩ ⟨hle.1, hle.2.1⟩ rfl (Nat.le_of_ble_eq_true rfl) dL_law_581 (fun H f hf hW => ?_)
  refine lv_istore (lv' := [(5, .int (cd2 k)), (0, .ref b), (1, .ref d), (2, .ref Gm.2.2.1), (3, .ref o), (4, .int (nI i))]) hx hb dL_law_584 hl (by decide) rfl (fun ls hl => ?_)
  refine lv_aload_n hx hb dL_law_586 rfl (lv_at hl 3 rfl) ?_
  refine L_rd F hW hX hbl hL (i := i) (k := 1) (by omega) (by decide) (lv_at hl 1 rfl) (lv_at hl 5 rfl) dL_law_587 dL_law_588 dL_law_590 dL_law_591 dL_law_592 ?_
  refine L_rd F hW hX hbl hL (i := i) (k := 2) (by omega) (by decide) (lv_at hl 1 rfl) (lv_at hl 5 rfl) dL_law_593 dL_law_594 dL_law_596 dL_law_597 dL_law_598 ?_
  refine L_rd F hW hX hbl hL (i := i) (k := 3) (by omega) (by decide) (lv_at hl 1 rfl) (lv_at hl 5 rfl) dL_law_599 dL_law_600 dL_law_602 dL_law_603 dL_law_604 ?_
  refine L_rd F hW hX hbl hL (i := i) (k := 4) (by omega) (by decide) (lv_at hl 1 rfl) (lv_at hl 5 rfl) dL_law_605 dL_law_606 dL_law_608 dL_law_609 dL_law_610 ?_
  refine L_bz (t0 := 618) (tj := 619) hx hb dL_law_611 (by decide) dL_law_614 dL_law_615 (by decide) dL_law_618 rfl ?_
  refine L_model (As := [.int (xs (i + 1)), .int (xs (i + 2)), .int (xs (i + 3)), .int (bz (xs (i + 4)))]) (rest := []) F hW hl.1 (c_then_ FU M (xs (i + 1)) (xs (i + 2)) (xs (i + 3)) (bz (xs (i + 4))) hqm) u_1079 u_1080 u_1081 u_5 u_1082 rfl ym_then_ rfl ⟨Nat.le_of_ble_eq_true rfl, Nat.le_of_ble_eq_true rfl⟩ ⟨hle.1, hle.2.1⟩ rfl (Nat.le_of_ble_eq_true rfl) dL_law_619 (fun H hW => ?_)
  refine lv_istore (lv' := [(6, .int r2), (5, .int (cd2 k)), (0, .ref b), (1, .ref d), (2, .ref Gm.2.2.1), (3, .ref o), (4, .int (nI i))]) hx hb dL_law_622 hl (by decide) rfl (fun ls hl => ?_)
  refine lv_aload_n hx hb dL_law_624 rfl (lv_at hl 4 rfl) ?_
  refine L_model (As := []) (rest := []) F hW hl.1 (c_thrown M1 rfl) u_1000 u_1001 u_1002 u_5 u_1003 rfl ym_thrown rfl ⟨Nat.le_of_ble_eq_true rfl, Nat.le_of_ble_eq_true rfl⟩ ⟨hle.1, hle.2.1⟩ rfl (Nat.le_of_ble_eq_true rfl) dL_law_625 (fun H hW => ?_)
  refine lv_iload hx hb dL_law_628 (lv_at hl 1 rfl) ?_
  refine lv_icmp_eq (tgt := 635) hx hb dL_law_630 (by decide) (fun hc => ?_) (fun hc => absurd hcd hc)
  refine lv_iload hx hb dL_law_635 (lv_at hl 1 rfl) ?_
  refine lv_if_ne (tgt := 652) hx hb dL_law_637 (by decide) (fun hk => ?_) (fun hk => ?_)
  · refine lv_goto (tgt := 1416) hx hb dL_law_652 (by decide) ?_
    exact hend H (H.size, S1.2) M1 f (cells + C1) (slots + Z1) ls hW hR1 (lv_sub hl [2, 3, 4, 5, 6] rfl)
  · have hk0 : k = 0 := by rcases hok with e9 | e9 | e9 <;> first | exact e9 | (subst e9; exact absurd hk (by decide))
    have hr2 := hrr hk0
    subst hk0 hr2
    refine lv_aload_n hx hb dL_law_640 rfl (lv_at hl 5 rfl) ?_
    refine lv_iconst (v := 0) hx hb dL_law_641 (by decide) ?_
    refine L_out F hW dL_law_642 ?_
    refine lv_iload hx hb dL_law_643 (lv_at hl 0 rfl) ?_
    refine lv_i2l (v := r.toInt64) hx hb dL_law_645 rfl ?_
    refine W.lcmp hx hb dL_law_646 ?_
    refine lv_if_eq (tgt := 652) hx hb dL_law_647 (by decide) (fun hc => ?_) (fun hc => absurd (lcmp_eq (hf.trans (if_pos rfl))) hc)
    refine lv_goto (tgt := 1416) hx hb dL_law_652 (by decide) ?_
    exact hend H (H.size, S1.2) M1 f (cells + C1) (slots + Z1) ls hW hR1 (lv_sub hl [2, 3, 4, 5, 6] rfl)
set_option maxHeartbeats 4000000 in
set_option maxRecDepth 100000 in
theorem lc_lastly {p : Program} {l : Launch} {e : Env} {s : State} {m : MethodId} {below : List Frame} {meth : Method} {c : Code} {D : va_G} {G : DG} {Gm : MG} {cJ : ClassId} {o d b L : Nat} {xs : Nat → Int32} {Rel : Nat → DT → MS → Nat → Nat → Prop} (F : LF p l s m #[Value.ref b] meth c D G Gm cJ o) (hX : va_X b L xs s s.heap) (hbl : b < s.heap.size) (hL : L ≤ 3072) (HR : RelOK Rel d G.2.2) {i t : Nat} (hi : i + 6 ≤ L) (ht : t < 512)
    (hend : ∀ (H : Heap) (S : DS) (M : MS) (f : Nat → Int64) (cells slots : Nat) (ls : Array Slot), LW D G Gm cJ o s S M f H → Rel (t + 1) S.2 M cells slots → lv_has ls 7 [(0, .ref b), (1, .ref d), (2, .ref Gm.2.2.1), (3, .ref o), (4, .int (nI i))] → W p l e room_1 s m #[Value.ref b] below meth c H [] cells slots (lw_Z below #[Value.ref b] s) (F0 m 1416 ls [])) :
    ∀ (H : Heap) (S : DS) (M : MS) (f : Nat → Int64) (cells slots : Nat) (ls : Array Slot), LW D G Gm cJ o s S M f H → Rel t S.2 M cells slots → lv_has ls 7 [(0, .ref b), (1, .ref d), (2, .ref Gm.2.2.1), (3, .ref o), (4, .int (nI i))] → W p l e room_1 s m #[Value.ref b] below meth c H [] cells slots (lw_Z below #[Value.ref b] s) (F0 m 655 ls []) := by
  intro H S M f cells slots ls hW hR hl
  have hx := F.1
  have hb := F.2.1
  obtain ⟨k, r, S1, C1, Z1, r2, M1, hq, hqm, hok, hcd, hrr, hR1⟩ := HR.2.2.2.2.2.2.2.2.1 t S M cells slots (xs (i + 1)) (xs (i + 2)) (fun a ha => dH_lt hW.1 ha) ht hR 
  have hle := HR.1 _ _ _ _ _ hR1
  refine lv_aload_n hx hb dL_law_655 rfl (lv_at hl 1 rfl) ?_
  refine L_rd F hW hX hbl hL (i := i) (k := 1) (by omega) (by decide) (lv_at hl 0 rfl) (lv_at hl 4 rfl) dL_law_656 dL_law_657 dL_law_659 dL_law_660 dL_law_661 ?_
  refine L_rd F hW hX hbl hL (i := i) (k := 2) (by omega) (by decide) (lv_at hl 0 rfl) (lv_at hl 4 rfl) dL_law_662 dL_law_663 dL_law_665 dL_law_666 dL_law_667 ?_
  refine lv_aload_n hx hb dL_law_668 rfl (lv_at hl 3 rfl) ?_
  refine L_help (As := [.ref d, .int (xs (i + 1)), .int (xs (i + 2)), .ref o]) (rest := []) F hW hl.1 (h_L_lastly F.2.2.2.2.2.1 S d (xs (i + 1)) (xs (i + 2)) o f (HR.1 _ _ _ _ _ hR).2.2 hq hok) u_558 u_559 u_0 u_560 ym_L_lastly rfl ⟨Nat.le_of_ble_eq_true rfl, Nat.le_of_ble_eq_true rfl⟩ ⟨hle.1, hle.2.1⟩ rfl (Nat.le_of_ble_eq_true rfl) dL_law_669 (fun H f hf hW => ?_)
  refine lv_istore (lv' := [(5, .int (cd2 k)), (0, .ref b), (1, .ref d), (2, .ref Gm.2.2.1), (3, .ref o), (4, .int (nI i))]) hx hb dL_law_672 hl (by decide) rfl (fun ls hl => ?_)
  refine lv_aload_n hx hb dL_law_674 rfl (lv_at hl 3 rfl) ?_
  refine L_rd F hW hX hbl hL (i := i) (k := 1) (by omega) (by decide) (lv_at hl 1 rfl) (lv_at hl 5 rfl) dL_law_675 dL_law_676 dL_law_678 dL_law_679 dL_law_680 ?_
  refine L_rd F hW hX hbl hL (i := i) (k := 2) (by omega) (by decide) (lv_at hl 1 rfl) (lv_at hl 5 rfl) dL_law_681 dL_law_682 dL_law_684 dL_law_685 dL_law_686 ?_
  refine L_model (As := [.int (xs (i + 1)), .int (xs (i + 2))]) (rest := []) F hW hl.1 (c_lastly FU M (xs (i + 1)) (xs (i + 2)) hqm) u_1095 u_1096 u_1097 u_5 u_1098 rfl ym_lastly rfl ⟨Nat.le_of_ble_eq_true rfl, Nat.le_of_ble_eq_true rfl⟩ ⟨hle.1, hle.2.1⟩ rfl (Nat.le_of_ble_eq_true rfl) dL_law_687 (fun H hW => ?_)
  refine lv_istore (lv' := [(6, .int r2), (5, .int (cd2 k)), (0, .ref b), (1, .ref d), (2, .ref Gm.2.2.1), (3, .ref o), (4, .int (nI i))]) hx hb dL_law_690 hl (by decide) rfl (fun ls hl => ?_)
  refine lv_aload_n hx hb dL_law_692 rfl (lv_at hl 4 rfl) ?_
  refine L_model (As := []) (rest := []) F hW hl.1 (c_thrown M1 rfl) u_1000 u_1001 u_1002 u_5 u_1003 rfl ym_thrown rfl ⟨Nat.le_of_ble_eq_true rfl, Nat.le_of_ble_eq_true rfl⟩ ⟨hle.1, hle.2.1⟩ rfl (Nat.le_of_ble_eq_true rfl) dL_law_693 (fun H hW => ?_)
  refine lv_iload hx hb dL_law_696 (lv_at hl 1 rfl) ?_
  refine lv_icmp_eq (tgt := 703) hx hb dL_law_698 (by decide) (fun hc => ?_) (fun hc => absurd hcd hc)
  refine lv_iload hx hb dL_law_703 (lv_at hl 1 rfl) ?_
  refine lv_if_ne (tgt := 720) hx hb dL_law_705 (by decide) (fun hk => ?_) (fun hk => ?_)
  · refine lv_goto (tgt := 1416) hx hb dL_law_720 (by decide) ?_
    exact hend H (H.size, S1.2) M1 f (cells + C1) (slots + Z1) ls hW hR1 (lv_sub hl [2, 3, 4, 5, 6] rfl)
  · have hk0 : k = 0 := by rcases hok with e9 | e9 | e9 <;> first | exact e9 | (subst e9; exact absurd hk (by decide))
    have hr2 := hrr hk0
    subst hk0 hr2
    refine lv_aload_n hx hb dL_law_708 rfl (lv_at hl 5 rfl) ?_
    refine lv_iconst (v := 0) hx hb dL_law_709 (by decide) ?_
    refine L_out F hW dL_law_710 ?_
    refine lv_iload hx hb dL_law_711 (lv_at hl 0 rfl) ?_
    refine lv_i2l (v := r.toInt64) hx hb dL_law_713 rfl ?_
    refine W.lcmp hx hb dL_law_714 ?_
    refine lv_if_eq (tgt := 720) hx hb dL_law_715 (by decide) (fun hc => ?_) (fun hc => absurd (lcmp_eq (hf.trans (if_pos rfl))) hc)
    refine lv_goto (tgt := 1416) hx hb dL_law_720 (by decide) ?_
    exact hend H (H.size, S1.2) M1 f (cells + C1) (slots + Z1) ls hW hR1 (lv_sub hl [2, 3, 4, 5, 6] rfl)
set_option maxHeartbeats 4000000 in
set_option maxRecDepth 100000 in
theorem lc_wrap {p : Program} {l : Launch} {e : Env} {s : State} {m : MethodId} {below : List Frame} {meth : Method} {c : Code} {D : va_G} {G : DG} {Gm : MG} {cJ : ClassId} {o d b L : Nat} {xs : Nat → Int32} {Rel : Nat → DT → MS → Nat → Nat → Prop} (F : LF p l s m #[Value.ref b] meth c D G Gm cJ o) (hX : va_X b L xs s s.heap) (hbl : b < s.heap.size) (hL : L ≤ 3072) (HR : RelOK Rel d G.2.2) {i t : Nat} (hi : i + 6 ≤ L) (ht : t < 512)
    (hend : ∀ (H : Heap) (S : DS) (M : MS) (f : Nat → Int64) (cells slots : Nat) (ls : Array Slot), LW D G Gm cJ o s S M f H → Rel (t + 1) S.2 M cells slots → lv_has ls 7 [(0, .ref b), (1, .ref d), (2, .ref Gm.2.2.1), (3, .ref o), (4, .int (nI i))] → W p l e room_1 s m #[Value.ref b] below meth c H [] cells slots (lw_Z below #[Value.ref b] s) (F0 m 1416 ls [])) :
    ∀ (H : Heap) (S : DS) (M : MS) (f : Nat → Int64) (cells slots : Nat) (ls : Array Slot), LW D G Gm cJ o s S M f H → Rel t S.2 M cells slots → lv_has ls 7 [(0, .ref b), (1, .ref d), (2, .ref Gm.2.2.1), (3, .ref o), (4, .int (nI i))] → W p l e room_1 s m #[Value.ref b] below meth c H [] cells slots (lw_Z below #[Value.ref b] s) (F0 m 723 ls []) := by
  intro H S M f cells slots ls hW hR hl
  have hx := F.1
  have hb := F.2.1
  obtain ⟨k, r, S1, C1, Z1, r2, M1, hq, hqm, hok, hcd, hrr, hR1⟩ := HR.2.2.2.2.2.2.2.2.2.1 t S M cells slots (xs (i + 1)) (fun a ha => dH_lt hW.1 ha) ht hR 
  have hle := HR.1 _ _ _ _ _ hR1
  refine lv_aload_n hx hb dL_law_723 rfl (lv_at hl 1 rfl) ?_
  refine L_rd F hW hX hbl hL (i := i) (k := 1) (by omega) (by decide) (lv_at hl 0 rfl) (lv_at hl 4 rfl) dL_law_724 dL_law_725 dL_law_727 dL_law_728 dL_law_729 ?_
  refine lv_aload_n hx hb dL_law_730 rfl (lv_at hl 3 rfl) ?_
  refine L_help (As := [.ref d, .int (xs (i + 1)), .ref o]) (rest := []) F hW hl.1 (h_L_wrap F.2.2.2.2.2.1 FU S d (xs (i + 1)) o f (HR.1 _ _ _ _ _ hR).2.2 hq hok) u_578 u_579 u_0 u_580 ym_L_wrap rfl ⟨Nat.le_of_ble_eq_true rfl, Nat.le_of_ble_eq_true rfl⟩ ⟨hle.1, hle.2.1⟩ rfl (Nat.le_of_ble_eq_true rfl) dL_law_731 (fun H f hf hW => ?_)
  refine lv_istore (lv' := [(5, .int (cd2 k)), (0, .ref b), (1, .ref d), (2, .ref Gm.2.2.1), (3, .ref o), (4, .int (nI i))]) hx hb dL_law_734 hl (by decide) rfl (fun ls hl => ?_)
  refine lv_aload_n hx hb dL_law_736 rfl (lv_at hl 3 rfl) ?_
  refine L_rd F hW hX hbl hL (i := i) (k := 1) (by omega) (by decide) (lv_at hl 1 rfl) (lv_at hl 5 rfl) dL_law_737 dL_law_738 dL_law_740 dL_law_741 dL_law_742 ?_
  refine L_model (As := [.int (xs (i + 1))]) (rest := []) F hW hl.1 (c_wrap FU M (xs (i + 1)) hqm) u_1099 u_1100 u_1101 u_5 u_1102 rfl ym_wrap rfl ⟨Nat.le_of_ble_eq_true rfl, Nat.le_of_ble_eq_true rfl⟩ ⟨hle.1, hle.2.1⟩ rfl (Nat.le_of_ble_eq_true rfl) dL_law_743 (fun H hW => ?_)
  refine lv_istore (lv' := [(6, .int r2), (5, .int (cd2 k)), (0, .ref b), (1, .ref d), (2, .ref Gm.2.2.1), (3, .ref o), (4, .int (nI i))]) hx hb dL_law_746 hl (by decide) rfl (fun ls hl => ?_)
  refine lv_aload_n hx hb dL_law_748 rfl (lv_at hl 4 rfl) ?_
  refine L_model (As := []) (rest := []) F hW hl.1 (c_thrown M1 rfl) u_1000 u_1001 u_1002 u_5 u_1003 rfl ym_thrown rfl ⟨Nat.le_of_ble_eq_true rfl, Nat.le_of_ble_eq_true rfl⟩ ⟨hle.1, hle.2.1⟩ rfl (Nat.le_of_ble_eq_true rfl) dL_law_749 (fun H hW => ?_)
  refine lv_iload hx hb dL_law_752 (lv_at hl 1 rfl) ?_
  refine lv_icmp_eq (tgt := 759) hx hb dL_law_754 (by decide) (fun hc => ?_) (fun hc => absurd hcd hc)
  refine lv_iload hx hb dL_law_759 (lv_at hl 1 rfl) ?_
  refine lv_if_ne (tgt := 776) hx hb dL_law_761 (by decide) (fun hk => ?_) (fun hk => ?_)
  · refine lv_goto (tgt := 1416) hx hb dL_law_776 (by decide) ?_
    exact hend H (H.size, S1.2) M1 f (cells + C1) (slots + Z1) ls hW hR1 (lv_sub hl [2, 3, 4, 5, 6] rfl)
  · have hk0 : k = 0 := by rcases hok with e9 | e9 | e9 <;> first | exact e9 | (subst e9; exact absurd hk (by decide))
    have hr2 := hrr hk0
    subst hk0 hr2
    refine lv_aload_n hx hb dL_law_764 rfl (lv_at hl 5 rfl) ?_
    refine lv_iconst (v := 0) hx hb dL_law_765 (by decide) ?_
    refine L_out F hW dL_law_766 ?_
    refine lv_iload hx hb dL_law_767 (lv_at hl 0 rfl) ?_
    refine lv_i2l (v := r.toInt64) hx hb dL_law_769 rfl ?_
    refine W.lcmp hx hb dL_law_770 ?_
    refine lv_if_eq (tgt := 776) hx hb dL_law_771 (by decide) (fun hc => ?_) (fun hc => absurd (lcmp_eq (hf.trans (if_pos rfl))) hc)
    refine lv_goto (tgt := 1416) hx hb dL_law_776 (by decide) ?_
    exact hend H (H.size, S1.2) M1 f (cells + C1) (slots + Z1) ls hW hR1 (lv_sub hl [2, 3, 4, 5, 6] rfl)
set_option maxHeartbeats 4000000 in
set_option maxRecDepth 100000 in
theorem lc_broken {p : Program} {l : Launch} {e : Env} {s : State} {m : MethodId} {below : List Frame} {meth : Method} {c : Code} {D : va_G} {G : DG} {Gm : MG} {cJ : ClassId} {o d b L : Nat} {xs : Nat → Int32} {Rel : Nat → DT → MS → Nat → Nat → Prop} (F : LF p l s m #[Value.ref b] meth c D G Gm cJ o) (hX : va_X b L xs s s.heap) (hbl : b < s.heap.size) (hL : L ≤ 3072) (HR : RelOK Rel d G.2.2) {i t : Nat} (hi : i + 6 ≤ L) (ht : t < 512)
    (hend : ∀ (H : Heap) (S : DS) (M : MS) (f : Nat → Int64) (cells slots : Nat) (ls : Array Slot), LW D G Gm cJ o s S M f H → Rel (t + 1) S.2 M cells slots → lv_has ls 7 [(0, .ref b), (1, .ref d), (2, .ref Gm.2.2.1), (3, .ref o), (4, .int (nI i))] → W p l e room_1 s m #[Value.ref b] below meth c H [] cells slots (lw_Z below #[Value.ref b] s) (F0 m 1416 ls [])) :
    ∀ (H : Heap) (S : DS) (M : MS) (f : Nat → Int64) (cells slots : Nat) (ls : Array Slot), LW D G Gm cJ o s S M f H → Rel t S.2 M cells slots → lv_has ls 7 [(0, .ref b), (1, .ref d), (2, .ref Gm.2.2.1), (3, .ref o), (4, .int (nI i))] → W p l e room_1 s m #[Value.ref b] below meth c H [] cells slots (lw_Z below #[Value.ref b] s) (F0 m 779 ls []) := by
  intro H S M f cells slots ls hW hR hl
  have hx := F.1
  have hb := F.2.1
  obtain ⟨k, r, S1, C1, Z1, r2, M1, hq, hqm, hok, hcd, hrr, hR1⟩ := HR.2.2.2.2.2.2.2.2.2.2.1 t S M cells slots (xs (i + 1)) (fun a ha => dH_lt hW.1 ha) ht hR 
  have hle := HR.1 _ _ _ _ _ hR1
  refine lv_aload_n hx hb dL_law_779 rfl (lv_at hl 1 rfl) ?_
  refine L_rd F hW hX hbl hL (i := i) (k := 1) (by omega) (by decide) (lv_at hl 0 rfl) (lv_at hl 4 rfl) dL_law_780 dL_law_781 dL_law_783 dL_law_784 dL_law_785 ?_
  refine lv_aload_n hx hb dL_law_786 rfl (lv_at hl 3 rfl) ?_
  refine L_help (As := [.ref d, .int (xs (i + 1)), .ref o]) (rest := []) F hW hl.1 (h_L_broken F.2.2.2.2.2.1 FU S d (xs (i + 1)) o f (HR.1 _ _ _ _ _ hR).2.2 hq hok) u_589 u_590 u_0 u_591 ym_L_broken rfl ⟨Nat.le_of_ble_eq_true rfl, Nat.le_of_ble_eq_true rfl⟩ ⟨hle.1, hle.2.1⟩ rfl (Nat.le_of_ble_eq_true rfl) dL_law_787 (fun H f hf hW => ?_)
  refine lv_istore (lv' := [(5, .int (cd2 k)), (0, .ref b), (1, .ref d), (2, .ref Gm.2.2.1), (3, .ref o), (4, .int (nI i))]) hx hb dL_law_790 hl (by decide) rfl (fun ls hl => ?_)
  refine lv_aload_n hx hb dL_law_792 rfl (lv_at hl 3 rfl) ?_
  refine L_rd F hW hX hbl hL (i := i) (k := 1) (by omega) (by decide) (lv_at hl 1 rfl) (lv_at hl 5 rfl) dL_law_793 dL_law_794 dL_law_796 dL_law_797 dL_law_798 ?_
  refine L_model (As := [.int (xs (i + 1))]) (rest := []) F hW hl.1 (c_broken FU M (xs (i + 1)) hqm) u_1107 u_1108 u_1109 u_5 u_1110 rfl ym_broken rfl ⟨Nat.le_of_ble_eq_true rfl, Nat.le_of_ble_eq_true rfl⟩ ⟨hle.1, hle.2.1⟩ rfl (Nat.le_of_ble_eq_true rfl) dL_law_799 (fun H hW => ?_)
  refine lv_istore (lv' := [(6, .int r2), (5, .int (cd2 k)), (0, .ref b), (1, .ref d), (2, .ref Gm.2.2.1), (3, .ref o), (4, .int (nI i))]) hx hb dL_law_802 hl (by decide) rfl (fun ls hl => ?_)
  refine lv_aload_n hx hb dL_law_804 rfl (lv_at hl 4 rfl) ?_
  refine L_model (As := []) (rest := []) F hW hl.1 (c_thrown M1 rfl) u_1000 u_1001 u_1002 u_5 u_1003 rfl ym_thrown rfl ⟨Nat.le_of_ble_eq_true rfl, Nat.le_of_ble_eq_true rfl⟩ ⟨hle.1, hle.2.1⟩ rfl (Nat.le_of_ble_eq_true rfl) dL_law_805 (fun H hW => ?_)
  refine lv_iload hx hb dL_law_808 (lv_at hl 1 rfl) ?_
  refine lv_icmp_eq (tgt := 815) hx hb dL_law_810 (by decide) (fun hc => ?_) (fun hc => absurd hcd hc)
  refine lv_iload hx hb dL_law_815 (lv_at hl 1 rfl) ?_
  refine lv_if_ne (tgt := 832) hx hb dL_law_817 (by decide) (fun hk => ?_) (fun hk => ?_)
  · refine lv_goto (tgt := 1416) hx hb dL_law_832 (by decide) ?_
    exact hend H (H.size, S1.2) M1 f (cells + C1) (slots + Z1) ls hW hR1 (lv_sub hl [2, 3, 4, 5, 6] rfl)
  · have hk0 : k = 0 := by rcases hok with e9 | e9 | e9 <;> first | exact e9 | (subst e9; exact absurd hk (by decide))
    have hr2 := hrr hk0
    subst hk0 hr2
    refine lv_aload_n hx hb dL_law_820 rfl (lv_at hl 5 rfl) ?_
    refine lv_iconst (v := 0) hx hb dL_law_821 (by decide) ?_
    refine L_out F hW dL_law_822 ?_
    refine lv_iload hx hb dL_law_823 (lv_at hl 0 rfl) ?_
    refine lv_i2l (v := r.toInt64) hx hb dL_law_825 rfl ?_
    refine W.lcmp hx hb dL_law_826 ?_
    refine lv_if_eq (tgt := 832) hx hb dL_law_827 (by decide) (fun hc => ?_) (fun hc => absurd (lcmp_eq (hf.trans (if_pos rfl))) hc)
    refine lv_goto (tgt := 1416) hx hb dL_law_832 (by decide) ?_
    exact hend H (H.size, S1.2) M1 f (cells + C1) (slots + Z1) ls hW hR1 (lv_sub hl [2, 3, 4, 5, 6] rfl)
set_option maxHeartbeats 4000000 in
set_option maxRecDepth 100000 in
theorem lc_item {p : Program} {l : Launch} {e : Env} {s : State} {m : MethodId} {below : List Frame} {meth : Method} {c : Code} {D : va_G} {G : DG} {Gm : MG} {cJ : ClassId} {o d b L : Nat} {xs : Nat → Int32} {Rel : Nat → DT → MS → Nat → Nat → Prop} (F : LF p l s m #[Value.ref b] meth c D G Gm cJ o) (hX : va_X b L xs s s.heap) (hbl : b < s.heap.size) (hL : L ≤ 3072) (HR : RelOK Rel d G.2.2) {i t : Nat} (hi : i + 6 ≤ L) (ht : t < 512)
    (hend : ∀ (H : Heap) (S : DS) (M : MS) (f : Nat → Int64) (cells slots : Nat) (ls : Array Slot), LW D G Gm cJ o s S M f H → Rel (t + 1) S.2 M cells slots → lv_has ls 7 [(0, .ref b), (1, .ref d), (2, .ref Gm.2.2.1), (3, .ref o), (4, .int (nI i))] → W p l e room_1 s m #[Value.ref b] below meth c H [] cells slots (lw_Z below #[Value.ref b] s) (F0 m 1416 ls [])) :
    ∀ (H : Heap) (S : DS) (M : MS) (f : Nat → Int64) (cells slots : Nat) (ls : Array Slot), LW D G Gm cJ o s S M f H → Rel t S.2 M cells slots → lv_has ls 7 [(0, .ref b), (1, .ref d), (2, .ref Gm.2.2.1), (3, .ref o), (4, .int (nI i))] → W p l e room_1 s m #[Value.ref b] below meth c H [] cells slots (lw_Z below #[Value.ref b] s) (F0 m 835 ls []) := by
  intro H S M f cells slots ls hW hR hl
  have hx := F.1
  have hb := F.2.1
  obtain ⟨k, r, S1, C1, Z1, r2, M1, hq, hqm, hok, hcd, hrr, hR1⟩ := HR.2.2.2.2.2.2.2.2.2.2.2.1 t S M cells slots (xs (i + 1)) (fun a ha => dH_lt hW.1 ha) ht hR 
  have hle := HR.1 _ _ _ _ _ hR1
  refine lv_aload_n hx hb dL_law_835 rfl (lv_at hl 1 rfl) ?_
  refine L_rd F hW hX hbl hL (i := i) (k := 1) (by omega) (by decide) (lv_at hl 0 rfl) (lv_at hl 4 rfl) dL_law_836 dL_law_837 dL_law_839 dL_law_840 dL_law_841 ?_
  refine lv_aload_n hx hb dL_law_842 rfl (lv_at hl 3 rfl) ?_
  refine L_help (As := [.ref d, .int (xs (i + 1)), .ref o]) (rest := []) F hW hl.1 (h_L_item F.2.2.2.2.2.1 S d (xs (i + 1)) o f (HR.1 _ _ _ _ _ hR).2.2 hq hok) u_596 u_597 u_0 u_598 ym_L_item rfl ⟨Nat.le_of_ble_eq_true rfl, Nat.le_of_ble_eq_true rfl⟩ ⟨hle.1, hle.2.1⟩ rfl (Nat.le_of_ble_eq_true rfl) dL_law_843 (fun H f hf hW => ?_)
  refine lv_istore (lv' := [(5, .int (cd2 k)), (0, .ref b), (1, .ref d), (2, .ref Gm.2.2.1), (3, .ref o), (4, .int (nI i))]) hx hb dL_law_846 hl (by decide) rfl (fun ls hl => ?_)
  refine lv_aload_n hx hb dL_law_848 rfl (lv_at hl 3 rfl) ?_
  refine L_rd F hW hX hbl hL (i := i) (k := 1) (by omega) (by decide) (lv_at hl 1 rfl) (lv_at hl 5 rfl) dL_law_849 dL_law_850 dL_law_852 dL_law_853 dL_law_854 ?_
  refine L_model (As := [.int (xs (i + 1))]) (rest := []) F hW hl.1 (c_item M (xs (i + 1)) hqm) u_1111 u_1112 u_1113 u_5 u_1114 rfl ym_item rfl ⟨Nat.le_of_ble_eq_true rfl, Nat.le_of_ble_eq_true rfl⟩ ⟨hle.1, hle.2.1⟩ rfl (Nat.le_of_ble_eq_true rfl) dL_law_855 (fun H hW => ?_)
  refine lv_istore (lv' := [(6, .int r2), (5, .int (cd2 k)), (0, .ref b), (1, .ref d), (2, .ref Gm.2.2.1), (3, .ref o), (4, .int (nI i))]) hx hb dL_law_858 hl (by decide) rfl (fun ls hl => ?_)
  refine lv_aload_n hx hb dL_law_860 rfl (lv_at hl 4 rfl) ?_
  refine L_model (As := []) (rest := []) F hW hl.1 (c_thrown M1 rfl) u_1000 u_1001 u_1002 u_5 u_1003 rfl ym_thrown rfl ⟨Nat.le_of_ble_eq_true rfl, Nat.le_of_ble_eq_true rfl⟩ ⟨hle.1, hle.2.1⟩ rfl (Nat.le_of_ble_eq_true rfl) dL_law_861 (fun H hW => ?_)
  refine lv_iload hx hb dL_law_864 (lv_at hl 1 rfl) ?_
  refine lv_icmp_eq (tgt := 871) hx hb dL_law_866 (by decide) (fun hc => ?_) (fun hc => absurd hcd hc)
  refine lv_iload hx hb dL_law_871 (lv_at hl 1 rfl) ?_
  refine lv_if_ne (tgt := 888) hx hb dL_law_873 (by decide) (fun hk => ?_) (fun hk => ?_)
  · refine lv_goto (tgt := 1416) hx hb dL_law_888 (by decide) ?_
    exact hend H (H.size, S1.2) M1 f (cells + C1) (slots + Z1) ls hW hR1 (lv_sub hl [2, 3, 4, 5, 6] rfl)
  · have hk0 : k = 0 := by rcases hok with e9 | e9 | e9 <;> first | exact e9 | (subst e9; exact absurd hk (by decide))
    have hr2 := hrr hk0
    subst hk0 hr2
    refine lv_aload_n hx hb dL_law_876 rfl (lv_at hl 5 rfl) ?_
    refine lv_iconst (v := 0) hx hb dL_law_877 (by decide) ?_
    refine L_out F hW dL_law_878 ?_
    refine lv_iload hx hb dL_law_879 (lv_at hl 0 rfl) ?_
    refine lv_i2l (v := r.toInt64) hx hb dL_law_881 rfl ?_
    refine W.lcmp hx hb dL_law_882 ?_
    refine lv_if_eq (tgt := 888) hx hb dL_law_883 (by decide) (fun hc => ?_) (fun hc => absurd (lcmp_eq (hf.trans (if_pos rfl))) hc)
    refine lv_goto (tgt := 1416) hx hb dL_law_888 (by decide) ?_
    exact hend H (H.size, S1.2) M1 f (cells + C1) (slots + Z1) ls hW hR1 (lv_sub hl [2, 3, 4, 5, 6] rfl)
set_option maxHeartbeats 4000000 in
set_option maxRecDepth 100000 in
theorem lc_combine {p : Program} {l : Launch} {e : Env} {s : State} {m : MethodId} {below : List Frame} {meth : Method} {c : Code} {D : va_G} {G : DG} {Gm : MG} {cJ : ClassId} {o d b L : Nat} {xs : Nat → Int32} {Rel : Nat → DT → MS → Nat → Nat → Prop} (F : LF p l s m #[Value.ref b] meth c D G Gm cJ o) (hX : va_X b L xs s s.heap) (hbl : b < s.heap.size) (hL : L ≤ 3072) (HR : RelOK Rel d G.2.2) {i t : Nat} (hi : i + 6 ≤ L) (ht : t < 512)
    (hend : ∀ (H : Heap) (S : DS) (M : MS) (f : Nat → Int64) (cells slots : Nat) (ls : Array Slot), LW D G Gm cJ o s S M f H → Rel (t + 1) S.2 M cells slots → lv_has ls 7 [(0, .ref b), (1, .ref d), (2, .ref Gm.2.2.1), (3, .ref o), (4, .int (nI i))] → W p l e room_1 s m #[Value.ref b] below meth c H [] cells slots (lw_Z below #[Value.ref b] s) (F0 m 1416 ls [])) :
    ∀ (H : Heap) (S : DS) (M : MS) (f : Nat → Int64) (cells slots : Nat) (ls : Array Slot), LW D G Gm cJ o s S M f H → Rel t S.2 M cells slots → lv_has ls 7 [(0, .ref b), (1, .ref d), (2, .ref Gm.2.2.1), (3, .ref o), (4, .int (nI i))] → W p l e room_1 s m #[Value.ref b] below meth c H [] cells slots (lw_Z below #[Value.ref b] s) (F0 m 891 ls []) := by
  intro H S M f cells slots ls hW hR hl
  have hx := F.1
  have hb := F.2.1
  obtain ⟨k, r, S1, C1, Z1, r2, M1, hq, hqm, hok, hcd, hrr, hR1⟩ := HR.2.2.2.2.2.2.2.2.2.2.2.2.1 t S M cells slots (xs (i + 1)) (fun a ha => dH_lt hW.1 ha) ht hR 
  have hle := HR.1 _ _ _ _ _ hR1
  refine lv_aload_n hx hb dL_law_891 rfl (lv_at hl 1 rfl) ?_
  refine L_rd F hW hX hbl hL (i := i) (k := 1) (by omega) (by decide) (lv_at hl 0 rfl) (lv_at hl 4 rfl) dL_law_892 dL_law_893 dL_law_895 dL_law_896 dL_law_897 ?_
  refine lv_aload_n hx hb dL_law_898 rfl (lv_at hl 3 rfl) ?_
  refine L_help (As := [.ref d, .int (xs (i + 1)), .ref o]) (rest := []) F hW hl.1 (h_L_combine F.2.2.2.2.2.1 FU S d (xs (i + 1)) o f (HR.1 _ _ _ _ _ hR).2.2 hq hok) u_604 u_605 u_0 u_606 ym_L_combine rfl ⟨Nat.le_of_ble_eq_true rfl, Nat.le_of_ble_eq_true rfl⟩ ⟨hle.1, hle.2.1⟩ rfl (Nat.le_of_ble_eq_true rfl) dL_law_899 (fun H f hf hW => ?_)
  refine lv_istore (lv' := [(5, .int (cd2 k)), (0, .ref b), (1, .ref d), (2, .ref Gm.2.2.1), (3, .ref o), (4, .int (nI i))]) hx hb dL_law_902 hl (by decide) rfl (fun ls hl => ?_)
  refine lv_aload_n hx hb dL_law_904 rfl (lv_at hl 3 rfl) ?_
  refine L_rd F hW hX hbl hL (i := i) (k := 1) (by omega) (by decide) (lv_at hl 1 rfl) (lv_at hl 5 rfl) dL_law_905 dL_law_906 dL_law_908 dL_law_909 dL_law_910 ?_
  refine L_model (As := [.int (xs (i + 1))]) (rest := []) F hW hl.1 (c_combine FU M (xs (i + 1)) hqm) u_1115 u_1116 u_1117 u_5 u_1118 rfl ym_combine rfl ⟨Nat.le_of_ble_eq_true rfl, Nat.le_of_ble_eq_true rfl⟩ ⟨hle.1, hle.2.1⟩ rfl (Nat.le_of_ble_eq_true rfl) dL_law_911 (fun H hW => ?_)
  refine lv_istore (lv' := [(6, .int r2), (5, .int (cd2 k)), (0, .ref b), (1, .ref d), (2, .ref Gm.2.2.1), (3, .ref o), (4, .int (nI i))]) hx hb dL_law_914 hl (by decide) rfl (fun ls hl => ?_)
  refine lv_aload_n hx hb dL_law_916 rfl (lv_at hl 4 rfl) ?_
  refine L_model (As := []) (rest := []) F hW hl.1 (c_thrown M1 rfl) u_1000 u_1001 u_1002 u_5 u_1003 rfl ym_thrown rfl ⟨Nat.le_of_ble_eq_true rfl, Nat.le_of_ble_eq_true rfl⟩ ⟨hle.1, hle.2.1⟩ rfl (Nat.le_of_ble_eq_true rfl) dL_law_917 (fun H hW => ?_)
  refine lv_iload hx hb dL_law_920 (lv_at hl 1 rfl) ?_
  refine lv_icmp_eq (tgt := 927) hx hb dL_law_922 (by decide) (fun hc => ?_) (fun hc => absurd hcd hc)
  refine lv_iload hx hb dL_law_927 (lv_at hl 1 rfl) ?_
  refine lv_if_ne (tgt := 944) hx hb dL_law_929 (by decide) (fun hk => ?_) (fun hk => ?_)
  · refine lv_goto (tgt := 1416) hx hb dL_law_944 (by decide) ?_
    exact hend H (H.size, S1.2) M1 f (cells + C1) (slots + Z1) ls hW hR1 (lv_sub hl [2, 3, 4, 5, 6] rfl)
  · have hk0 : k = 0 := by rcases hok with e9 | e9 | e9 <;> first | exact e9 | (subst e9; exact absurd hk (by decide))
    have hr2 := hrr hk0
    subst hk0 hr2
    refine lv_aload_n hx hb dL_law_932 rfl (lv_at hl 5 rfl) ?_
    refine lv_iconst (v := 0) hx hb dL_law_933 (by decide) ?_
    refine L_out F hW dL_law_934 ?_
    refine lv_iload hx hb dL_law_935 (lv_at hl 0 rfl) ?_
    refine lv_i2l (v := r.toInt64) hx hb dL_law_937 rfl ?_
    refine W.lcmp hx hb dL_law_938 ?_
    refine lv_if_eq (tgt := 944) hx hb dL_law_939 (by decide) (fun hc => ?_) (fun hc => absurd (lcmp_eq (hf.trans (if_pos rfl))) hc)
    refine lv_goto (tgt := 1416) hx hb dL_law_944 (by decide) ?_
    exact hend H (H.size, S1.2) M1 f (cells + C1) (slots + Z1) ls hW hR1 (lv_sub hl [2, 3, 4, 5, 6] rfl)
set_option maxHeartbeats 4000000 in
set_option maxRecDepth 100000 in
theorem lc_async {p : Program} {l : Launch} {e : Env} {s : State} {m : MethodId} {below : List Frame} {meth : Method} {c : Code} {D : va_G} {G : DG} {Gm : MG} {cJ : ClassId} {o d b L : Nat} {xs : Nat → Int32} {Rel : Nat → DT → MS → Nat → Nat → Prop} (F : LF p l s m #[Value.ref b] meth c D G Gm cJ o) (hX : va_X b L xs s s.heap) (hbl : b < s.heap.size) (hL : L ≤ 3072) (HR : RelOK Rel d G.2.2) {i t : Nat} (hi : i + 6 ≤ L) (ht : t < 512)
    (hend : ∀ (H : Heap) (S : DS) (M : MS) (f : Nat → Int64) (cells slots : Nat) (ls : Array Slot), LW D G Gm cJ o s S M f H → Rel (t + 1) S.2 M cells slots → lv_has ls 7 [(0, .ref b), (1, .ref d), (2, .ref Gm.2.2.1), (3, .ref o), (4, .int (nI i))] → W p l e room_1 s m #[Value.ref b] below meth c H [] cells slots (lw_Z below #[Value.ref b] s) (F0 m 1416 ls [])) :
    ∀ (H : Heap) (S : DS) (M : MS) (f : Nat → Int64) (cells slots : Nat) (ls : Array Slot), LW D G Gm cJ o s S M f H → Rel t S.2 M cells slots → lv_has ls 7 [(0, .ref b), (1, .ref d), (2, .ref Gm.2.2.1), (3, .ref o), (4, .int (nI i))] → W p l e room_1 s m #[Value.ref b] below meth c H [] cells slots (lw_Z below #[Value.ref b] s) (F0 m 947 ls []) := by
  intro H S M f cells slots ls hW hR hl
  have hx := F.1
  have hb := F.2.1
  obtain ⟨k, r, S1, C1, Z1, r2, M1, hq, hqm, hok, hcd, hrr, hR1⟩ := HR.2.2.2.2.2.2.2.2.2.2.2.2.2.1 t S M cells slots (xs (i + 1)) (xs (i + 2)) (fun a ha => dH_lt hW.1 ha) ht hR 
  have hle := HR.1 _ _ _ _ _ hR1
  refine lv_aload_n hx hb dL_law_947 rfl (lv_at hl 1 rfl) ?_
  refine L_rd F hW hX hbl hL (i := i) (k := 1) (by omega) (by decide) (lv_at hl 0 rfl) (lv_at hl 4 rfl) dL_law_948 dL_law_949 dL_law_951 dL_law_952 dL_law_953 ?_
  refine L_rd F hW hX hbl hL (i := i) (k := 2) (by omega) (by decide) (lv_at hl 0 rfl) (lv_at hl 4 rfl) dL_law_954 dL_law_955 dL_law_957 dL_law_958 dL_law_959 ?_
  refine lv_aload_n hx hb dL_law_960 rfl (lv_at hl 3 rfl) ?_
  refine L_help (As := [.ref d, .int (xs (i + 1)), .int (xs (i + 2)), .ref o]) (rest := []) F hW hl.1 (h_L_async F.2.2.2.2.2.1 FU S d (xs (i + 1)) (xs (i + 2)) o f (HR.1 _ _ _ _ _ hR).2.2 hq hok) u_686 u_687 u_0 u_688 ym_L_async rfl ⟨Nat.le_of_ble_eq_true rfl, Nat.le_of_ble_eq_true rfl⟩ ⟨hle.1, hle.2.1⟩ rfl (Nat.le_of_ble_eq_true rfl) dL_law_961 (fun H f hf hW => ?_)
  refine lv_istore (lv' := [(5, .int (cd2 k)), (0, .ref b), (1, .ref d), (2, .ref Gm.2.2.1), (3, .ref o), (4, .int (nI i))]) hx hb dL_law_964 hl (by decide) rfl (fun ls hl => ?_)
  refine lv_aload_n hx hb dL_law_966 rfl (lv_at hl 3 rfl) ?_
  refine L_rd F hW hX hbl hL (i := i) (k := 1) (by omega) (by decide) (lv_at hl 1 rfl) (lv_at hl 5 rfl) dL_law_967 dL_law_968 dL_law_970 dL_law_971 dL_law_972 ?_
  refine L_rd F hW hX hbl hL (i := i) (k := 2) (by omega) (by decide) (lv_at hl 1 rfl) (lv_at hl 5 rfl) dL_law_973 dL_law_974 dL_law_976 dL_law_977 dL_law_978 ?_
  refine L_model (As := [.int (xs (i + 1)), .int (xs (i + 2))]) (rest := []) F hW hl.1 (c_async FU M (xs (i + 1)) (xs (i + 2)) hqm) u_1131 u_1132 u_1133 u_5 u_1134 rfl ym_async rfl ⟨Nat.le_of_ble_eq_true rfl, Nat.le_of_ble_eq_true rfl⟩ ⟨hle.1, hle.2.1⟩ rfl (Nat.le_of_ble_eq_true rfl) dL_law_979 (fun H hW => ?_)
  refine lv_istore (lv' := [(6, .int r2), (5, .int (cd2 k)), (0, .ref b), (1, .ref d), (2, .ref Gm.2.2.1), (3, .ref o), (4, .int (nI i))]) hx hb dL_law_982 hl (by decide) rfl (fun ls hl => ?_)
  refine lv_aload_n hx hb dL_law_984 rfl (lv_at hl 4 rfl) ?_
  refine L_model (As := []) (rest := []) F hW hl.1 (c_thrown M1 rfl) u_1000 u_1001 u_1002 u_5 u_1003 rfl ym_thrown rfl ⟨Nat.le_of_ble_eq_true rfl, Nat.le_of_ble_eq_true rfl⟩ ⟨hle.1, hle.2.1⟩ rfl (Nat.le_of_ble_eq_true rfl) dL_law_985 (fun H hW => ?_)
  refine lv_iload hx hb dL_law_988 (lv_at hl 1 rfl) ?_
  refine lv_icmp_eq (tgt := 995) hx hb dL_law_990 (by decide) (fun hc => ?_) (fun hc => absurd hcd hc)
  refine lv_iload hx hb dL_law_995 (lv_at hl 1 rfl) ?_
  refine lv_if_ne (tgt := 1012) hx hb dL_law_997 (by decide) (fun hk => ?_) (fun hk => ?_)
  · refine lv_goto (tgt := 1416) hx hb dL_law_1012 (by decide) ?_
    exact hend H (H.size, S1.2) M1 f (cells + C1) (slots + Z1) ls hW hR1 (lv_sub hl [2, 3, 4, 5, 6] rfl)
  · have hk0 : k = 0 := by rcases hok with e9 | e9 | e9 <;> first | exact e9 | (subst e9; exact absurd hk (by decide))
    have hr2 := hrr hk0
    subst hk0 hr2
    refine lv_aload_n hx hb dL_law_1000 rfl (lv_at hl 5 rfl) ?_
    refine lv_iconst (v := 0) hx hb dL_law_1001 (by decide) ?_
    refine L_out F hW dL_law_1002 ?_
    refine lv_iload hx hb dL_law_1003 (lv_at hl 0 rfl) ?_
    refine lv_i2l (v := r.toInt64) hx hb dL_law_1005 rfl ?_
    refine W.lcmp hx hb dL_law_1006 ?_
    refine lv_if_eq (tgt := 1012) hx hb dL_law_1007 (by decide) (fun hc => ?_) (fun hc => absurd (lcmp_eq (hf.trans (if_pos rfl))) hc)
    refine lv_goto (tgt := 1416) hx hb dL_law_1012 (by decide) ?_
    exact hend H (H.size, S1.2) M1 f (cells + C1) (slots + Z1) ls hW hR1 (lv_sub hl [2, 3, 4, 5, 6] rfl)
set_option maxHeartbeats 4000000 in
set_option maxRecDepth 100000 in
theorem lc_jobs {p : Program} {l : Launch} {e : Env} {s : State} {m : MethodId} {below : List Frame} {meth : Method} {c : Code} {D : va_G} {G : DG} {Gm : MG} {cJ : ClassId} {o d b L : Nat} {xs : Nat → Int32} {Rel : Nat → DT → MS → Nat → Nat → Prop} (F : LF p l s m #[Value.ref b] meth c D G Gm cJ o) (hX : va_X b L xs s s.heap) (hbl : b < s.heap.size) (hL : L ≤ 3072) (HR : RelOK Rel d G.2.2) {i t : Nat} (hi : i + 6 ≤ L) (ht : t < 512)
    (hend : ∀ (H : Heap) (S : DS) (M : MS) (f : Nat → Int64) (cells slots : Nat) (ls : Array Slot), LW D G Gm cJ o s S M f H → Rel (t + 1) S.2 M cells slots → lv_has ls 7 [(0, .ref b), (1, .ref d), (2, .ref Gm.2.2.1), (3, .ref o), (4, .int (nI i))] → W p l e room_1 s m #[Value.ref b] below meth c H [] cells slots (lw_Z below #[Value.ref b] s) (F0 m 1416 ls [])) :
    ∀ (H : Heap) (S : DS) (M : MS) (f : Nat → Int64) (cells slots : Nat) (ls : Array Slot), LW D G Gm cJ o s S M f H → Rel t S.2 M cells slots → lv_has ls 7 [(0, .ref b), (1, .ref d), (2, .ref Gm.2.2.1), (3, .ref o), (4, .int (nI i))] → W p l e room_1 s m #[Value.ref b] below meth c H [] cells slots (lw_Z below #[Value.ref b] s) (F0 m 1015 ls []) := by
  intro H S M f cells slots ls hW hR hl
  have hx := F.1
  have hb := F.2.1
  obtain ⟨k, r, S1, C1, Z1, r2, M1, hq, hqm, hok, hcd, hrr, hR1⟩ := HR.2.2.2.2.2.2.2.2.2.2.2.2.2.2.1 t S M cells slots (xs (i + 1)) (fun a ha => dH_lt hW.1 ha) ht hR 
  have hle := HR.1 _ _ _ _ _ hR1
  refine lv_aload_n hx hb dL_law_1015 rfl (lv_at hl 1 rfl) ?_
  refine L_rd F hW hX hbl hL (i := i) (k := 1) (by omega) (by decide) (lv_at hl 0 rfl) (lv_at hl 4 rfl) dL_law_1016 dL_law_1017 dL_law_1019 dL_law_1020 dL_law_1021 ?_
  refine lv_aload_n hx hb dL_law_1022 rfl (lv_at hl 3 rfl) ?_
  refine L_help (As := [.ref d, .int (xs (i + 1)), .ref o]) (rest := []) F hW hl.1 (h_L_jobs F.2.2.2.2.2.1 FU S d (xs (i + 1)) o f (HR.1 _ _ _ _ _ hR).2.2 hq hok) u_726 u_727 u_0 u_728 ym_L_jobs rfl ⟨Nat.le_of_ble_eq_true rfl, Nat.le_of_ble_eq_true rfl⟩ ⟨hle.1, hle.2.1⟩ rfl (Nat.le_of_ble_eq_true rfl) dL_law_1023 (fun H f hf hW => ?_)
  refine lv_istore (lv' := [(5, .int (cd1 k)), (0, .ref b), (1, .ref d), (2, .ref Gm.2.2.1), (3, .ref o), (4, .int (nI i))]) hx hb dL_law_1026 hl (by decide) rfl (fun ls hl => ?_)
  refine lv_aload_n hx hb dL_law_1028 rfl (lv_at hl 3 rfl) ?_
  refine L_rd F hW hX hbl hL (i := i) (k := 1) (by omega) (by decide) (lv_at hl 1 rfl) (lv_at hl 5 rfl) dL_law_1029 dL_law_1030 dL_law_1032 dL_law_1033 dL_law_1034 ?_
  refine L_model (As := [.int (xs (i + 1))]) (rest := []) F hW hl.1 (c_jobs FU M (xs (i + 1)) hqm) u_1139 u_1140 u_1141 u_5 u_1142 rfl ym_jobs rfl ⟨Nat.le_of_ble_eq_true rfl, Nat.le_of_ble_eq_true rfl⟩ ⟨hle.1, hle.2.1⟩ rfl (Nat.le_of_ble_eq_true rfl) dL_law_1035 (fun H hW => ?_)
  refine lv_istore (lv' := [(6, .int r2), (5, .int (cd1 k)), (0, .ref b), (1, .ref d), (2, .ref Gm.2.2.1), (3, .ref o), (4, .int (nI i))]) hx hb dL_law_1038 hl (by decide) rfl (fun ls hl => ?_)
  refine lv_aload_n hx hb dL_law_1040 rfl (lv_at hl 4 rfl) ?_
  refine L_model (As := []) (rest := []) F hW hl.1 (c_thrown M1 rfl) u_1000 u_1001 u_1002 u_5 u_1003 rfl ym_thrown rfl ⟨Nat.le_of_ble_eq_true rfl, Nat.le_of_ble_eq_true rfl⟩ ⟨hle.1, hle.2.1⟩ rfl (Nat.le_of_ble_eq_true rfl) dL_law_1041 (fun H hW => ?_)
  refine lv_iload hx hb dL_law_1044 (lv_at hl 1 rfl) ?_
  refine lv_icmp_eq (tgt := 1051) hx hb dL_law_1046 (by decide) (fun hc => ?_) (fun hc => absurd hcd hc)
  refine lv_iload hx hb dL_law_1051 (lv_at hl 1 rfl) ?_
  refine lv_if_ne (tgt := 1068) hx hb dL_law_1053 (by decide) (fun hk => ?_) (fun hk => ?_)
  · refine lv_goto (tgt := 1416) hx hb dL_law_1068 (by decide) ?_
    exact hend H (H.size, S1.2) M1 f (cells + C1) (slots + Z1) ls hW hR1 (lv_sub hl [2, 3, 4, 5, 6] rfl)
  · have hk0 : k = 0 := by rcases hok with e9 | e9 <;> first | exact e9 | (subst e9; exact absurd hk (by decide))
    have hr2 := hrr hk0
    subst hk0 hr2
    refine lv_aload_n hx hb dL_law_1056 rfl (lv_at hl 5 rfl) ?_
    refine lv_iconst (v := 0) hx hb dL_law_1057 (by decide) ?_
    refine L_out F hW dL_law_1058 ?_
    refine lv_iload hx hb dL_law_1059 (lv_at hl 0 rfl) ?_
    refine lv_i2l (v := r.toInt64) hx hb dL_law_1061 rfl ?_
    refine W.lcmp hx hb dL_law_1062 ?_
    refine lv_if_eq (tgt := 1068) hx hb dL_law_1063 (by decide) (fun hc => ?_) (fun hc => absurd (lcmp_eq (hf.trans (if_pos rfl))) hc)
    refine lv_goto (tgt := 1416) hx hb dL_law_1068 (by decide) ?_
    exact hend H (H.size, S1.2) M1 f (cells + C1) (slots + Z1) ls hW hR1 (lv_sub hl [2, 3, 4, 5, 6] rfl)
set_option maxHeartbeats 4000000 in
set_option maxRecDepth 100000 in
theorem lc_state {p : Program} {l : Launch} {e : Env} {s : State} {m : MethodId} {below : List Frame} {meth : Method} {c : Code} {D : va_G} {G : DG} {Gm : MG} {cJ : ClassId} {o d b L : Nat} {xs : Nat → Int32} {Rel : Nat → DT → MS → Nat → Nat → Prop} (F : LF p l s m #[Value.ref b] meth c D G Gm cJ o) (hX : va_X b L xs s s.heap) (hbl : b < s.heap.size) (hL : L ≤ 3072) (HR : RelOK Rel d G.2.2) {i t : Nat} (hi : i + 6 ≤ L) (ht : t < 512)
    (hend : ∀ (H : Heap) (S : DS) (M : MS) (f : Nat → Int64) (cells slots : Nat) (ls : Array Slot), LW D G Gm cJ o s S M f H → Rel (t + 1) S.2 M cells slots → lv_has ls 7 [(0, .ref b), (1, .ref d), (2, .ref Gm.2.2.1), (3, .ref o), (4, .int (nI i))] → W p l e room_1 s m #[Value.ref b] below meth c H [] cells slots (lw_Z below #[Value.ref b] s) (F0 m 1416 ls [])) :
    ∀ (H : Heap) (S : DS) (M : MS) (f : Nat → Int64) (cells slots : Nat) (ls : Array Slot), LW D G Gm cJ o s S M f H → Rel t S.2 M cells slots → lv_has ls 7 [(0, .ref b), (1, .ref d), (2, .ref Gm.2.2.1), (3, .ref o), (4, .int (nI i))] → W p l e room_1 s m #[Value.ref b] below meth c H [] cells slots (lw_Z below #[Value.ref b] s) (F0 m 1071 ls []) := by
  intro H S M f cells slots ls hW hR hl
  have hx := F.1
  have hb := F.2.1
  obtain ⟨k, r, S1, C1, Z1, r2, M1, hq, hqm, hok, hcd, hrr, hR1⟩ := HR.2.2.2.2.2.2.2.2.2.2.2.2.2.2.2.1 t S M cells slots (xs (i + 1)) (fun a ha => dH_lt hW.1 ha) ht hR 
  have hle := HR.1 _ _ _ _ _ hR1
  refine lv_aload_n hx hb dL_law_1071 rfl (lv_at hl 1 rfl) ?_
  refine L_rd F hW hX hbl hL (i := i) (k := 1) (by omega) (by decide) (lv_at hl 0 rfl) (lv_at hl 4 rfl) dL_law_1072 dL_law_1073 dL_law_1075 dL_law_1076 dL_law_1077 ?_
  refine lv_aload_n hx hb dL_law_1078 rfl (lv_at hl 3 rfl) ?_
  refine L_help (As := [.ref d, .int (xs (i + 1)), .ref o]) (rest := []) F hW hl.1 (h_L_state F.2.2.2.2.2.1 S d (xs (i + 1)) o f (HR.1 _ _ _ _ _ hR).2.2 hq hok) u_790 u_791 u_0 u_792 ym_L_state rfl ⟨Nat.le_of_ble_eq_true rfl, Nat.le_of_ble_eq_true rfl⟩ ⟨hle.1, hle.2.1⟩ rfl (Nat.le_of_ble_eq_true rfl) dL_law_1079 (fun H f hf hW => ?_)
  refine lv_istore (lv' := [(5, .int (cd1 k)), (0, .ref b), (1, .ref d), (2, .ref Gm.2.2.1), (3, .ref o), (4, .int (nI i))]) hx hb dL_law_1082 hl (by decide) rfl (fun ls hl => ?_)
  refine lv_aload_n hx hb dL_law_1084 rfl (lv_at hl 3 rfl) ?_
  refine L_rd F hW hX hbl hL (i := i) (k := 1) (by omega) (by decide) (lv_at hl 1 rfl) (lv_at hl 5 rfl) dL_law_1085 dL_law_1086 dL_law_1088 dL_law_1089 dL_law_1090 ?_
  refine L_model (As := [.int (xs (i + 1))]) (rest := []) F hW hl.1 (c_state M (xs (i + 1)) hqm) u_1179 u_1180 u_1181 u_5 u_1182 rfl ym_state rfl ⟨Nat.le_of_ble_eq_true rfl, Nat.le_of_ble_eq_true rfl⟩ ⟨hle.1, hle.2.1⟩ rfl (Nat.le_of_ble_eq_true rfl) dL_law_1091 (fun H hW => ?_)
  refine lv_istore (lv' := [(6, .int r2), (5, .int (cd1 k)), (0, .ref b), (1, .ref d), (2, .ref Gm.2.2.1), (3, .ref o), (4, .int (nI i))]) hx hb dL_law_1094 hl (by decide) rfl (fun ls hl => ?_)
  refine lv_aload_n hx hb dL_law_1096 rfl (lv_at hl 4 rfl) ?_
  refine L_model (As := []) (rest := []) F hW hl.1 (c_thrown M1 rfl) u_1000 u_1001 u_1002 u_5 u_1003 rfl ym_thrown rfl ⟨Nat.le_of_ble_eq_true rfl, Nat.le_of_ble_eq_true rfl⟩ ⟨hle.1, hle.2.1⟩ rfl (Nat.le_of_ble_eq_true rfl) dL_law_1097 (fun H hW => ?_)
  refine lv_iload hx hb dL_law_1100 (lv_at hl 1 rfl) ?_
  refine lv_icmp_eq (tgt := 1107) hx hb dL_law_1102 (by decide) (fun hc => ?_) (fun hc => absurd hcd hc)
  refine lv_iload hx hb dL_law_1107 (lv_at hl 1 rfl) ?_
  refine lv_if_ne (tgt := 1124) hx hb dL_law_1109 (by decide) (fun hk => ?_) (fun hk => ?_)
  · refine lv_goto (tgt := 1416) hx hb dL_law_1124 (by decide) ?_
    exact hend H (H.size, S1.2) M1 f (cells + C1) (slots + Z1) ls hW hR1 (lv_sub hl [2, 3, 4, 5, 6] rfl)
  · have hk0 : k = 0 := by rcases hok with e9 | e9 <;> first | exact e9 | (subst e9; exact absurd hk (by decide))
    have hr2 := hrr hk0
    subst hk0 hr2
    refine lv_aload_n hx hb dL_law_1112 rfl (lv_at hl 5 rfl) ?_
    refine lv_iconst (v := 0) hx hb dL_law_1113 (by decide) ?_
    refine L_out F hW dL_law_1114 ?_
    refine lv_iload hx hb dL_law_1115 (lv_at hl 0 rfl) ?_
    refine lv_i2l (v := r.toInt64) hx hb dL_law_1117 rfl ?_
    refine W.lcmp hx hb dL_law_1118 ?_
    refine lv_if_eq (tgt := 1124) hx hb dL_law_1119 (by decide) (fun hc => ?_) (fun hc => absurd (lcmp_eq (hf.trans (if_pos rfl))) hc)
    refine lv_goto (tgt := 1416) hx hb dL_law_1124 (by decide) ?_
    exact hend H (H.size, S1.2) M1 f (cells + C1) (slots + Z1) ls hW hR1 (lv_sub hl [2, 3, 4, 5, 6] rfl)
set_option maxHeartbeats 4000000 in
set_option maxRecDepth 100000 in
theorem lc_result {p : Program} {l : Launch} {e : Env} {s : State} {m : MethodId} {below : List Frame} {meth : Method} {c : Code} {D : va_G} {G : DG} {Gm : MG} {cJ : ClassId} {o d b L : Nat} {xs : Nat → Int32} {Rel : Nat → DT → MS → Nat → Nat → Prop} (F : LF p l s m #[Value.ref b] meth c D G Gm cJ o) (hX : va_X b L xs s s.heap) (hbl : b < s.heap.size) (hL : L ≤ 3072) (HR : RelOK Rel d G.2.2) {i t : Nat} (hi : i + 6 ≤ L) (ht : t < 512)
    (hend : ∀ (H : Heap) (S : DS) (M : MS) (f : Nat → Int64) (cells slots : Nat) (ls : Array Slot), LW D G Gm cJ o s S M f H → Rel (t + 1) S.2 M cells slots → lv_has ls 7 [(0, .ref b), (1, .ref d), (2, .ref Gm.2.2.1), (3, .ref o), (4, .int (nI i))] → W p l e room_1 s m #[Value.ref b] below meth c H [] cells slots (lw_Z below #[Value.ref b] s) (F0 m 1416 ls [])) :
    ∀ (H : Heap) (S : DS) (M : MS) (f : Nat → Int64) (cells slots : Nat) (ls : Array Slot), LW D G Gm cJ o s S M f H → Rel t S.2 M cells slots → lv_has ls 7 [(0, .ref b), (1, .ref d), (2, .ref Gm.2.2.1), (3, .ref o), (4, .int (nI i))] → W p l e room_1 s m #[Value.ref b] below meth c H [] cells slots (lw_Z below #[Value.ref b] s) (F0 m 1127 ls []) := by
  intro H S M f cells slots ls hW hR hl
  have hx := F.1
  have hb := F.2.1
  obtain ⟨k, r, S1, C1, Z1, r2, M1, hq, hqm, hok, hcd, hrr, hR1⟩ := HR.2.2.2.2.2.2.2.2.2.2.2.2.2.2.2.2.1 t S M cells slots (xs (i + 1)) (fun a ha => dH_lt hW.1 ha) ht hR 
  have hle := HR.1 _ _ _ _ _ hR1
  refine lv_aload_n hx hb dL_law_1127 rfl (lv_at hl 1 rfl) ?_
  refine L_rd F hW hX hbl hL (i := i) (k := 1) (by omega) (by decide) (lv_at hl 0 rfl) (lv_at hl 4 rfl) dL_law_1128 dL_law_1129 dL_law_1131 dL_law_1132 dL_law_1133 ?_
  refine lv_aload_n hx hb dL_law_1134 rfl (lv_at hl 3 rfl) ?_
  refine L_help (As := [.ref d, .int (xs (i + 1)), .ref o]) (rest := []) F hW hl.1 (h_L_result F.2.2.2.2.2.1 S d (xs (i + 1)) o f (HR.1 _ _ _ _ _ hR).2.2 hq hok) u_797 u_798 u_0 u_799 ym_L_result rfl ⟨Nat.le_of_ble_eq_true rfl, Nat.le_of_ble_eq_true rfl⟩ ⟨hle.1, hle.2.1⟩ rfl (Nat.le_of_ble_eq_true rfl) dL_law_1135 (fun H f hf hW => ?_)
  refine lv_istore (lv' := [(5, .int (cd1 k)), (0, .ref b), (1, .ref d), (2, .ref Gm.2.2.1), (3, .ref o), (4, .int (nI i))]) hx hb dL_law_1138 hl (by decide) rfl (fun ls hl => ?_)
  refine lv_aload_n hx hb dL_law_1140 rfl (lv_at hl 3 rfl) ?_
  refine L_rd F hW hX hbl hL (i := i) (k := 1) (by omega) (by decide) (lv_at hl 1 rfl) (lv_at hl 5 rfl) dL_law_1141 dL_law_1142 dL_law_1144 dL_law_1145 dL_law_1146 ?_
  refine L_model (As := [.int (xs (i + 1))]) (rest := []) F hW hl.1 (c_result M (xs (i + 1)) hqm) u_1183 u_1184 u_1185 u_5 u_1186 rfl ym_result rfl ⟨Nat.le_of_ble_eq_true rfl, Nat.le_of_ble_eq_true rfl⟩ ⟨hle.1, hle.2.1⟩ rfl (Nat.le_of_ble_eq_true rfl) dL_law_1147 (fun H hW => ?_)
  refine lv_istore (lv' := [(6, .int r2), (5, .int (cd1 k)), (0, .ref b), (1, .ref d), (2, .ref Gm.2.2.1), (3, .ref o), (4, .int (nI i))]) hx hb dL_law_1150 hl (by decide) rfl (fun ls hl => ?_)
  refine lv_aload_n hx hb dL_law_1152 rfl (lv_at hl 4 rfl) ?_
  refine L_model (As := []) (rest := []) F hW hl.1 (c_thrown M1 rfl) u_1000 u_1001 u_1002 u_5 u_1003 rfl ym_thrown rfl ⟨Nat.le_of_ble_eq_true rfl, Nat.le_of_ble_eq_true rfl⟩ ⟨hle.1, hle.2.1⟩ rfl (Nat.le_of_ble_eq_true rfl) dL_law_1153 (fun H hW => ?_)
  refine lv_iload hx hb dL_law_1156 (lv_at hl 1 rfl) ?_
  refine lv_icmp_eq (tgt := 1163) hx hb dL_law_1158 (by decide) (fun hc => ?_) (fun hc => absurd hcd hc)
  refine lv_iload hx hb dL_law_1163 (lv_at hl 1 rfl) ?_
  refine lv_if_ne (tgt := 1180) hx hb dL_law_1165 (by decide) (fun hk => ?_) (fun hk => ?_)
  · refine lv_goto (tgt := 1416) hx hb dL_law_1180 (by decide) ?_
    exact hend H (H.size, S1.2) M1 f (cells + C1) (slots + Z1) ls hW hR1 (lv_sub hl [2, 3, 4, 5, 6] rfl)
  · have hk0 : k = 0 := by rcases hok with e9 | e9 <;> first | exact e9 | (subst e9; exact absurd hk (by decide))
    have hr2 := hrr hk0
    subst hk0 hr2
    refine lv_aload_n hx hb dL_law_1168 rfl (lv_at hl 5 rfl) ?_
    refine lv_iconst (v := 0) hx hb dL_law_1169 (by decide) ?_
    refine L_out F hW dL_law_1170 ?_
    refine lv_iload hx hb dL_law_1171 (lv_at hl 0 rfl) ?_
    refine lv_i2l (v := r.toInt64) hx hb dL_law_1173 rfl ?_
    refine W.lcmp hx hb dL_law_1174 ?_
    refine lv_if_eq (tgt := 1180) hx hb dL_law_1175 (by decide) (fun hc => ?_) (fun hc => absurd (lcmp_eq (hf.trans (if_pos rfl))) hc)
    refine lv_goto (tgt := 1416) hx hb dL_law_1180 (by decide) ?_
    exact hend H (H.size, S1.2) M1 f (cells + C1) (slots + Z1) ls hW hR1 (lv_sub hl [2, 3, 4, 5, 6] rfl)
set_option maxHeartbeats 4000000 in
set_option maxRecDepth 100000 in
theorem lc_kind {p : Program} {l : Launch} {e : Env} {s : State} {m : MethodId} {below : List Frame} {meth : Method} {c : Code} {D : va_G} {G : DG} {Gm : MG} {cJ : ClassId} {o d b L : Nat} {xs : Nat → Int32} {Rel : Nat → DT → MS → Nat → Nat → Prop} (F : LF p l s m #[Value.ref b] meth c D G Gm cJ o) (hX : va_X b L xs s s.heap) (hbl : b < s.heap.size) (hL : L ≤ 3072) (HR : RelOK Rel d G.2.2) {i t : Nat} (hi : i + 6 ≤ L) (ht : t < 512)
    (hend : ∀ (H : Heap) (S : DS) (M : MS) (f : Nat → Int64) (cells slots : Nat) (ls : Array Slot), LW D G Gm cJ o s S M f H → Rel (t + 1) S.2 M cells slots → lv_has ls 7 [(0, .ref b), (1, .ref d), (2, .ref Gm.2.2.1), (3, .ref o), (4, .int (nI i))] → W p l e room_1 s m #[Value.ref b] below meth c H [] cells slots (lw_Z below #[Value.ref b] s) (F0 m 1416 ls [])) :
    ∀ (H : Heap) (S : DS) (M : MS) (f : Nat → Int64) (cells slots : Nat) (ls : Array Slot), LW D G Gm cJ o s S M f H → Rel t S.2 M cells slots → lv_has ls 7 [(0, .ref b), (1, .ref d), (2, .ref Gm.2.2.1), (3, .ref o), (4, .int (nI i))] → W p l e room_1 s m #[Value.ref b] below meth c H [] cells slots (lw_Z below #[Value.ref b] s) (F0 m 1183 ls []) := by
  intro H S M f cells slots ls hW hR hl
  have hx := F.1
  have hb := F.2.1
  obtain ⟨k, r, S1, C1, Z1, r2, M1, hq, hqm, hok, hcd, hrr, hR1⟩ := HR.2.2.2.2.2.2.2.2.2.2.2.2.2.2.2.2.2.1 t S M cells slots (xs (i + 1)) (fun a ha => dH_lt hW.1 ha) ht hR 
  have hle := HR.1 _ _ _ _ _ hR1
  refine lv_aload_n hx hb dL_law_1183 rfl (lv_at hl 1 rfl) ?_
  refine L_rd F hW hX hbl hL (i := i) (k := 1) (by omega) (by decide) (lv_at hl 0 rfl) (lv_at hl 4 rfl) dL_law_1184 dL_law_1185 dL_law_1187 dL_law_1188 dL_law_1189 ?_
  refine lv_aload_n hx hb dL_law_1190 rfl (lv_at hl 3 rfl) ?_
  refine L_help (As := [.ref d, .int (xs (i + 1)), .ref o]) (rest := []) F hW hl.1 (h_L_kind F.2.2.2.2.2.1 S d (xs (i + 1)) o f (HR.1 _ _ _ _ _ hR).2.2 hq hok) u_804 u_805 u_0 u_806 ym_L_kind rfl ⟨Nat.le_of_ble_eq_true rfl, Nat.le_of_ble_eq_true rfl⟩ ⟨hle.1, hle.2.1⟩ rfl (Nat.le_of_ble_eq_true rfl) dL_law_1191 (fun H f hf hW => ?_)
  refine lv_istore (lv' := [(5, .int (cd1 k)), (0, .ref b), (1, .ref d), (2, .ref Gm.2.2.1), (3, .ref o), (4, .int (nI i))]) hx hb dL_law_1194 hl (by decide) rfl (fun ls hl => ?_)
  refine lv_aload_n hx hb dL_law_1196 rfl (lv_at hl 3 rfl) ?_
  refine L_rd F hW hX hbl hL (i := i) (k := 1) (by omega) (by decide) (lv_at hl 1 rfl) (lv_at hl 5 rfl) dL_law_1197 dL_law_1198 dL_law_1200 dL_law_1201 dL_law_1202 ?_
  refine L_model (As := [.int (xs (i + 1))]) (rest := []) F hW hl.1 (c_kind M (xs (i + 1)) hqm) u_1187 u_1188 u_1189 u_5 u_1190 rfl ym_kind rfl ⟨Nat.le_of_ble_eq_true rfl, Nat.le_of_ble_eq_true rfl⟩ ⟨hle.1, hle.2.1⟩ rfl (Nat.le_of_ble_eq_true rfl) dL_law_1203 (fun H hW => ?_)
  refine lv_istore (lv' := [(6, .int r2), (5, .int (cd1 k)), (0, .ref b), (1, .ref d), (2, .ref Gm.2.2.1), (3, .ref o), (4, .int (nI i))]) hx hb dL_law_1206 hl (by decide) rfl (fun ls hl => ?_)
  refine lv_aload_n hx hb dL_law_1208 rfl (lv_at hl 4 rfl) ?_
  refine L_model (As := []) (rest := []) F hW hl.1 (c_thrown M1 rfl) u_1000 u_1001 u_1002 u_5 u_1003 rfl ym_thrown rfl ⟨Nat.le_of_ble_eq_true rfl, Nat.le_of_ble_eq_true rfl⟩ ⟨hle.1, hle.2.1⟩ rfl (Nat.le_of_ble_eq_true rfl) dL_law_1209 (fun H hW => ?_)
  refine lv_iload hx hb dL_law_1212 (lv_at hl 1 rfl) ?_
  refine lv_icmp_eq (tgt := 1219) hx hb dL_law_1214 (by decide) (fun hc => ?_) (fun hc => absurd hcd hc)
  refine lv_iload hx hb dL_law_1219 (lv_at hl 1 rfl) ?_
  refine lv_if_ne (tgt := 1236) hx hb dL_law_1221 (by decide) (fun hk => ?_) (fun hk => ?_)
  · refine lv_goto (tgt := 1416) hx hb dL_law_1236 (by decide) ?_
    exact hend H (H.size, S1.2) M1 f (cells + C1) (slots + Z1) ls hW hR1 (lv_sub hl [2, 3, 4, 5, 6] rfl)
  · have hk0 : k = 0 := by rcases hok with e9 | e9 <;> first | exact e9 | (subst e9; exact absurd hk (by decide))
    have hr2 := hrr hk0
    subst hk0 hr2
    refine lv_aload_n hx hb dL_law_1224 rfl (lv_at hl 5 rfl) ?_
    refine lv_iconst (v := 0) hx hb dL_law_1225 (by decide) ?_
    refine L_out F hW dL_law_1226 ?_
    refine lv_iload hx hb dL_law_1227 (lv_at hl 0 rfl) ?_
    refine lv_i2l (v := r.toInt64) hx hb dL_law_1229 rfl ?_
    refine W.lcmp hx hb dL_law_1230 ?_
    refine lv_if_eq (tgt := 1236) hx hb dL_law_1231 (by decide) (fun hc => ?_) (fun hc => absurd (lcmp_eq (hf.trans (if_pos rfl))) hc)
    refine lv_goto (tgt := 1416) hx hb dL_law_1236 (by decide) ?_
    exact hend H (H.size, S1.2) M1 f (cells + C1) (slots + Z1) ls hW hR1 (lv_sub hl [2, 3, 4, 5, 6] rfl)
set_option maxHeartbeats 4000000 in
set_option maxRecDepth 100000 in
theorem lc_part {p : Program} {l : Launch} {e : Env} {s : State} {m : MethodId} {below : List Frame} {meth : Method} {c : Code} {D : va_G} {G : DG} {Gm : MG} {cJ : ClassId} {o d b L : Nat} {xs : Nat → Int32} {Rel : Nat → DT → MS → Nat → Nat → Prop} (F : LF p l s m #[Value.ref b] meth c D G Gm cJ o) (hX : va_X b L xs s s.heap) (hbl : b < s.heap.size) (hL : L ≤ 3072) (HR : RelOK Rel d G.2.2) {i t : Nat} (hi : i + 6 ≤ L) (ht : t < 512)
    (hend : ∀ (H : Heap) (S : DS) (M : MS) (f : Nat → Int64) (cells slots : Nat) (ls : Array Slot), LW D G Gm cJ o s S M f H → Rel (t + 1) S.2 M cells slots → lv_has ls 7 [(0, .ref b), (1, .ref d), (2, .ref Gm.2.2.1), (3, .ref o), (4, .int (nI i))] → W p l e room_1 s m #[Value.ref b] below meth c H [] cells slots (lw_Z below #[Value.ref b] s) (F0 m 1416 ls [])) :
    ∀ (H : Heap) (S : DS) (M : MS) (f : Nat → Int64) (cells slots : Nat) (ls : Array Slot), LW D G Gm cJ o s S M f H → Rel t S.2 M cells slots → lv_has ls 7 [(0, .ref b), (1, .ref d), (2, .ref Gm.2.2.1), (3, .ref o), (4, .int (nI i))] → W p l e room_1 s m #[Value.ref b] below meth c H [] cells slots (lw_Z below #[Value.ref b] s) (F0 m 1239 ls []) := by
  intro H S M f cells slots ls hW hR hl
  have hx := F.1
  have hb := F.2.1
  obtain ⟨k, r, S1, C1, Z1, r2, M1, hq, hqm, hok, hcd, hrr, hR1⟩ := HR.2.2.2.2.2.2.2.2.2.2.2.2.2.2.2.2.2.2.1 t S M cells slots (xs (i + 1)) (xs (i + 2)) (fun a ha => dH_lt hW.1 ha) ht hR 
  have hle := HR.1 _ _ _ _ _ hR1
  refine lv_aload_n hx hb dL_law_1239 rfl (lv_at hl 1 rfl) ?_
  refine L_rd F hW hX hbl hL (i := i) (k := 1) (by omega) (by decide) (lv_at hl 0 rfl) (lv_at hl 4 rfl) dL_law_1240 dL_law_1241 dL_law_1243 dL_law_1244 dL_law_1245 ?_
  refine L_rd F hW hX hbl hL (i := i) (k := 2) (by omega) (by decide) (lv_at hl 0 rfl) (lv_at hl 4 rfl) dL_law_1246 dL_law_1247 dL_law_1249 dL_law_1250 dL_law_1251 ?_
  refine lv_aload_n hx hb dL_law_1252 rfl (lv_at hl 3 rfl) ?_
  refine L_help (As := [.ref d, .int (xs (i + 1)), .int (xs (i + 2)), .ref o]) (rest := []) F hW hl.1 (h_L_part F.2.2.2.2.2.1 S d (xs (i + 1)) (xs (i + 2)) o f (HR.1 _ _ _ _ _ hR).2.2 hq hok) u_816 u_817 u_0 u_818 ym_L_part rfl ⟨Nat.le_of_ble_eq_true rfl, Nat.le_of_ble_eq_true rfl⟩ ⟨hle.1, hle.2.1⟩ rfl (Nat.le_of_ble_eq_true rfl) dL_law_1253 (fun H f hf hW => ?_)
  refine lv_istore (lv' := [(5, .int (cd1 k)), (0, .ref b), (1, .ref d), (2, .ref Gm.2.2.1), (3, .ref o), (4, .int (nI i))]) hx hb dL_law_1256 hl (by decide) rfl (fun ls hl => ?_)
  refine lv_aload_n hx hb dL_law_1258 rfl (lv_at hl 3 rfl) ?_
  refine L_rd F hW hX hbl hL (i := i) (k := 1) (by omega) (by decide) (lv_at hl 1 rfl) (lv_at hl 5 rfl) dL_law_1259 dL_law_1260 dL_law_1262 dL_law_1263 dL_law_1264 ?_
  refine L_rd F hW hX hbl hL (i := i) (k := 2) (by omega) (by decide) (lv_at hl 1 rfl) (lv_at hl 5 rfl) dL_law_1265 dL_law_1266 dL_law_1268 dL_law_1269 dL_law_1270 ?_
  refine L_model (As := [.int (xs (i + 1)), .int (xs (i + 2))]) (rest := []) F hW hl.1 (c_part M (xs (i + 1)) (xs (i + 2)) hqm) u_1191 u_1192 u_1193 u_5 u_1194 rfl ym_part rfl ⟨Nat.le_of_ble_eq_true rfl, Nat.le_of_ble_eq_true rfl⟩ ⟨hle.1, hle.2.1⟩ rfl (Nat.le_of_ble_eq_true rfl) dL_law_1271 (fun H hW => ?_)
  refine lv_istore (lv' := [(6, .int r2), (5, .int (cd1 k)), (0, .ref b), (1, .ref d), (2, .ref Gm.2.2.1), (3, .ref o), (4, .int (nI i))]) hx hb dL_law_1274 hl (by decide) rfl (fun ls hl => ?_)
  refine lv_aload_n hx hb dL_law_1276 rfl (lv_at hl 4 rfl) ?_
  refine L_model (As := []) (rest := []) F hW hl.1 (c_thrown M1 rfl) u_1000 u_1001 u_1002 u_5 u_1003 rfl ym_thrown rfl ⟨Nat.le_of_ble_eq_true rfl, Nat.le_of_ble_eq_true rfl⟩ ⟨hle.1, hle.2.1⟩ rfl (Nat.le_of_ble_eq_true rfl) dL_law_1277 (fun H hW => ?_)
  refine lv_iload hx hb dL_law_1280 (lv_at hl 1 rfl) ?_
  refine lv_icmp_eq (tgt := 1287) hx hb dL_law_1282 (by decide) (fun hc => ?_) (fun hc => absurd hcd hc)
  refine lv_iload hx hb dL_law_1287 (lv_at hl 1 rfl) ?_
  refine lv_if_ne (tgt := 1304) hx hb dL_law_1289 (by decide) (fun hk => ?_) (fun hk => ?_)
  · refine lv_goto (tgt := 1416) hx hb dL_law_1304 (by decide) ?_
    exact hend H (H.size, S1.2) M1 f (cells + C1) (slots + Z1) ls hW hR1 (lv_sub hl [2, 3, 4, 5, 6] rfl)
  · have hk0 : k = 0 := by rcases hok with e9 | e9 <;> first | exact e9 | (subst e9; exact absurd hk (by decide))
    have hr2 := hrr hk0
    subst hk0 hr2
    refine lv_aload_n hx hb dL_law_1292 rfl (lv_at hl 5 rfl) ?_
    refine lv_iconst (v := 0) hx hb dL_law_1293 (by decide) ?_
    refine L_out F hW dL_law_1294 ?_
    refine lv_iload hx hb dL_law_1295 (lv_at hl 0 rfl) ?_
    refine lv_i2l (v := r.toInt64) hx hb dL_law_1297 rfl ?_
    refine W.lcmp hx hb dL_law_1298 ?_
    refine lv_if_eq (tgt := 1304) hx hb dL_law_1299 (by decide) (fun hc => ?_) (fun hc => absurd (lcmp_eq (hf.trans (if_pos rfl))) hc)
    refine lv_goto (tgt := 1416) hx hb dL_law_1304 (by decide) ?_
    exact hend H (H.size, S1.2) M1 f (cells + C1) (slots + Z1) ls hW hR1 (lv_sub hl [2, 3, 4, 5, 6] rfl)
set_option maxHeartbeats 4000000 in
set_option maxRecDepth 100000 in
theorem lc_log {p : Program} {l : Launch} {e : Env} {s : State} {m : MethodId} {below : List Frame} {meth : Method} {c : Code} {D : va_G} {G : DG} {Gm : MG} {cJ : ClassId} {o d b L : Nat} {xs : Nat → Int32} {Rel : Nat → DT → MS → Nat → Nat → Prop} (F : LF p l s m #[Value.ref b] meth c D G Gm cJ o) (hX : va_X b L xs s s.heap) (hbl : b < s.heap.size) (hL : L ≤ 3072) (HR : RelOK Rel d G.2.2) {i t : Nat} (hi : i + 6 ≤ L) (ht : t < 512)
    (hend : ∀ (H : Heap) (S : DS) (M : MS) (f : Nat → Int64) (cells slots : Nat) (ls : Array Slot), LW D G Gm cJ o s S M f H → Rel (t + 1) S.2 M cells slots → lv_has ls 7 [(0, .ref b), (1, .ref d), (2, .ref Gm.2.2.1), (3, .ref o), (4, .int (nI i))] → W p l e room_1 s m #[Value.ref b] below meth c H [] cells slots (lw_Z below #[Value.ref b] s) (F0 m 1416 ls [])) :
    ∀ (H : Heap) (S : DS) (M : MS) (f : Nat → Int64) (cells slots : Nat) (ls : Array Slot), LW D G Gm cJ o s S M f H → Rel t S.2 M cells slots → lv_has ls 7 [(0, .ref b), (1, .ref d), (2, .ref Gm.2.2.1), (3, .ref o), (4, .int (nI i))] → W p l e room_1 s m #[Value.ref b] below meth c H [] cells slots (lw_Z below #[Value.ref b] s) (F0 m 1307 ls []) := by
  intro H S M f cells slots ls hW hR hl
  have hx := F.1
  have hb := F.2.1
  obtain ⟨r, S1, C1, Z1, M1, hq, hqm, hR1⟩ := HR.2.2.2.2.2.2.2.2.2.2.2.2.2.2.2.2.2.2.2.1 t S M cells slots (xs (i + 1)) (bz (xs (i + 2))) (fun a ha => dH_lt hW.1 ha) ht hR
  have hle := HR.1 _ _ _ _ _ hR1
  refine lv_aload_n hx hb dL_law_1307 rfl (lv_at hl 1 rfl) ?_
  refine L_rd F hW hX hbl hL (i := i) (k := 1) (by omega) (by decide) (lv_at hl 0 rfl) (lv_at hl 4 rfl) dL_law_1308 dL_law_1309 dL_law_1311 dL_law_1312 dL_law_1313 ?_
  refine L_rd F hW hX hbl hL (i := i) (k := 2) (by omega) (by decide) (lv_at hl 0 rfl) (lv_at hl 4 rfl) dL_law_1314 dL_law_1315 dL_law_1317 dL_law_1318 dL_law_1319 ?_
  refine L_bz (t0 := 1327) (tj := 1328) hx hb dL_law_1320 (by decide) dL_law_1323 dL_law_1324 (by decide) dL_law_1327 rfl ?_
  refine L_desk (As := [.int (xs (i + 1)), .int (bz (xs (i + 2)))]) (rest := []) F hW hl.1 (HR.1 _ _ _ _ _ hR).2.2 (c_X11_log F.2.2.2.2.2.1 S d (xs (i + 1)) (bz (xs (i + 2))) hq) u_97 u_98 u_99 u_1 u_100 rfl y1_X11_log rfl ⟨Nat.le_of_ble_eq_true rfl, Nat.le_of_ble_eq_true rfl⟩ ⟨hle.1, hle.2.1⟩ rfl (Nat.le_of_ble_eq_true rfl) dL_law_1328 (fun H hW => ?_)
  refine lv_aload_n hx hb dL_law_1331 rfl (lv_at hl 2 rfl) ?_
  refine L_rd F hW hX hbl hL (i := i) (k := 1) (by omega) (by decide) (lv_at hl 0 rfl) (lv_at hl 4 rfl) dL_law_1332 dL_law_1333 dL_law_1335 dL_law_1336 dL_law_1337 ?_
  refine L_rd F hW hX hbl hL (i := i) (k := 2) (by omega) (by decide) (lv_at hl 0 rfl) (lv_at hl 4 rfl) dL_law_1338 dL_law_1339 dL_law_1341 dL_law_1342 dL_law_1343 ?_
  refine L_bz (t0 := 1351) (tj := 1352) hx hb dL_law_1344 (by decide) dL_law_1347 dL_law_1348 (by decide) dL_law_1351 rfl ?_
  refine L_model (As := [.int (xs (i + 1)), .int (bz (xs (i + 2)))]) (rest := [.int r]) F hW hl.1 (c_log M (xs (i + 1)) (bz (xs (i + 2))) hqm) u_1195 u_1196 u_1197 u_5 u_1198 rfl ym_log rfl ⟨Nat.le_of_ble_eq_true rfl, Nat.le_of_ble_eq_true rfl⟩ ⟨hle.1, hle.2.1⟩ rfl (Nat.le_of_ble_eq_true rfl) dL_law_1352 (fun H hW => ?_)
  refine lv_icmp_eq (tgt := 1416) hx hb dL_law_1355 (by decide) (fun hc => ?_) (fun hc => absurd rfl hc)
  exact hend H (H.size, S1.2) M1 f (cells + C1) (slots + Z1) ls hW hR1 (lv_sub hl [0, 1, 2, 3, 4] rfl)
set_option maxHeartbeats 4000000 in
set_option maxRecDepth 100000 in
theorem lc_count {p : Program} {l : Launch} {e : Env} {s : State} {m : MethodId} {below : List Frame} {meth : Method} {c : Code} {D : va_G} {G : DG} {Gm : MG} {cJ : ClassId} {o d b L : Nat} {xs : Nat → Int32} {Rel : Nat → DT → MS → Nat → Nat → Prop} (F : LF p l s m #[Value.ref b] meth c D G Gm cJ o) (hX : va_X b L xs s s.heap) (hbl : b < s.heap.size) (hL : L ≤ 3072) (HR : RelOK Rel d G.2.2) {i t : Nat} (hi : i + 6 ≤ L) (ht : t < 512)
    (hend : ∀ (H : Heap) (S : DS) (M : MS) (f : Nat → Int64) (cells slots : Nat) (ls : Array Slot), LW D G Gm cJ o s S M f H → Rel (t + 1) S.2 M cells slots → lv_has ls 7 [(0, .ref b), (1, .ref d), (2, .ref Gm.2.2.1), (3, .ref o), (4, .int (nI i))] → W p l e room_1 s m #[Value.ref b] below meth c H [] cells slots (lw_Z below #[Value.ref b] s) (F0 m 1416 ls [])) :
    ∀ (H : Heap) (S : DS) (M : MS) (f : Nat → Int64) (cells slots : Nat) (ls : Array Slot), LW D G Gm cJ o s S M f H → Rel t S.2 M cells slots → lv_has ls 7 [(0, .ref b), (1, .ref d), (2, .ref Gm.2.2.1), (3, .ref o), (4, .int (nI i))] → W p l e room_1 s m #[Value.ref b] below meth c H [] cells slots (lw_Z below #[Value.ref b] s) (F0 m 1360 ls []) := by
  intro H S M f cells slots ls hW hR hl
  have hx := F.1
  have hb := F.2.1
  obtain ⟨k, r, S1, C1, Z1, r2, M1, hq, hqm, hok, hcd, hrr, hR1⟩ := HR.2.2.2.2.2.2.2.2.2.2.2.2.2.2.2.2.2.2.2.2 t S M cells slots (xs (i + 1)) (fun a ha => dH_lt hW.1 ha) ht hR 
  have hle := HR.1 _ _ _ _ _ hR1
  refine lv_aload_n hx hb dL_law_1360 rfl (lv_at hl 1 rfl) ?_
  refine L_rd F hW hX hbl hL (i := i) (k := 1) (by omega) (by decide) (lv_at hl 0 rfl) (lv_at hl 4 rfl) dL_law_1361 dL_law_1362 dL_law_1364 dL_law_1365 dL_law_1366 ?_
  refine lv_aload_n hx hb dL_law_1367 rfl (lv_at hl 3 rfl) ?_
  refine L_help (As := [.ref d, .int (xs (i + 1)), .ref o]) (rest := []) F hW hl.1 (h_L_count F.2.2.2.2.2.1 S d (xs (i + 1)) o f (HR.1 _ _ _ _ _ hR).2.2 hq hok) u_828 u_829 u_0 u_830 ym_L_count rfl ⟨Nat.le_of_ble_eq_true rfl, Nat.le_of_ble_eq_true rfl⟩ ⟨hle.1, hle.2.1⟩ rfl (Nat.le_of_ble_eq_true rfl) dL_law_1368 (fun H f hf hW => ?_)
  refine lv_istore (lv' := [(5, .int (cd1 k)), (0, .ref b), (1, .ref d), (2, .ref Gm.2.2.1), (3, .ref o), (4, .int (nI i))]) hx hb dL_law_1371 hl (by decide) rfl (fun ls hl => ?_)
  refine lv_aload_n hx hb dL_law_1373 rfl (lv_at hl 3 rfl) ?_
  refine L_rd F hW hX hbl hL (i := i) (k := 1) (by omega) (by decide) (lv_at hl 1 rfl) (lv_at hl 5 rfl) dL_law_1374 dL_law_1375 dL_law_1377 dL_law_1378 dL_law_1379 ?_
  refine L_model (As := [.int (xs (i + 1))]) (rest := []) F hW hl.1 (c_count M (xs (i + 1)) hqm) u_1200 u_1201 u_1202 u_5 u_1203 rfl ym_count rfl ⟨Nat.le_of_ble_eq_true rfl, Nat.le_of_ble_eq_true rfl⟩ ⟨hle.1, hle.2.1⟩ rfl (Nat.le_of_ble_eq_true rfl) dL_law_1380 (fun H hW => ?_)
  refine lv_istore (lv' := [(6, .int r2), (5, .int (cd1 k)), (0, .ref b), (1, .ref d), (2, .ref Gm.2.2.1), (3, .ref o), (4, .int (nI i))]) hx hb dL_law_1383 hl (by decide) rfl (fun ls hl => ?_)
  refine lv_aload_n hx hb dL_law_1385 rfl (lv_at hl 4 rfl) ?_
  refine L_model (As := []) (rest := []) F hW hl.1 (c_thrown M1 rfl) u_1000 u_1001 u_1002 u_5 u_1003 rfl ym_thrown rfl ⟨Nat.le_of_ble_eq_true rfl, Nat.le_of_ble_eq_true rfl⟩ ⟨hle.1, hle.2.1⟩ rfl (Nat.le_of_ble_eq_true rfl) dL_law_1386 (fun H hW => ?_)
  refine lv_iload hx hb dL_law_1389 (lv_at hl 1 rfl) ?_
  refine lv_icmp_eq (tgt := 1396) hx hb dL_law_1391 (by decide) (fun hc => ?_) (fun hc => absurd hcd hc)
  refine lv_iload hx hb dL_law_1396 (lv_at hl 1 rfl) ?_
  refine lv_if_ne (tgt := 1413) hx hb dL_law_1398 (by decide) (fun hk => ?_) (fun hk => ?_)
  · refine lv_goto (tgt := 1416) hx hb dL_law_1413 (by decide) ?_
    exact hend H (H.size, S1.2) M1 f (cells + C1) (slots + Z1) ls hW hR1 (lv_sub hl [2, 3, 4, 5, 6] rfl)
  · have hk0 : k = 0 := by rcases hok with e9 | e9 <;> first | exact e9 | (subst e9; exact absurd hk (by decide))
    have hr2 := hrr hk0
    subst hk0 hr2
    refine lv_aload_n hx hb dL_law_1401 rfl (lv_at hl 5 rfl) ?_
    refine lv_iconst (v := 0) hx hb dL_law_1402 (by decide) ?_
    refine L_out F hW dL_law_1403 ?_
    refine lv_iload hx hb dL_law_1404 (lv_at hl 0 rfl) ?_
    refine lv_i2l (v := r.toInt64) hx hb dL_law_1406 rfl ?_
    refine W.lcmp hx hb dL_law_1407 ?_
    refine lv_if_eq (tgt := 1413) hx hb dL_law_1408 (by decide) (fun hc => ?_) (fun hc => absurd (lcmp_eq (hf.trans (if_pos rfl))) hc)
    refine lv_goto (tgt := 1416) hx hb dL_law_1413 (by decide) ?_
    exact hend H (H.size, S1.2) M1 f (cells + C1) (slots + Z1) ls hW hR1 (lv_sub hl [2, 3, 4, 5, 6] rfl)
