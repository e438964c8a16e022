/-- the law's locals in its loop -/
def lawl (b : Nat) (G : xG) (i : Nat) : List (Nat × Value) := [(0, .ref b), (1, .ref (G.2.2 0)), (2, .ref (G.2.2 34)), (3, .int (nI i))]
section LAW
variable {p : Program} {l : Launch} {e : Env} {s : State} {m : MethodId} {below : List Frame} {meth : Method} {c : Code} {b L : Nat} {xs : Nat → Int32} {G : xG} {S : xS} {H : Heap} {locs : List Loc} {ls : Array Slot} {Q : State → Prop}
theorem law_ld {st : List Value} {pc k i cells slots : Nat} {v : Int} (C0 : lw_At p s m meth c b L xs) (hbA : ¬ xA G b) (hS : va_S (xA G) s.heap H locs) (hl : lv_has ls 4 (lawl b G i)) (hL : L ≤ 3072) (hi : i + 6 ≤ L) (hk : k < 6) (d0 : decode code pc = .ok (.aload_n 0, 1)) (d1 : decode code (pc + 1) = .ok (.iload_n 3, 1)) (d2 : decode code (pc + 2) = .ok (.iconst v, 1)) (hv : Int32.ofInt v = nI k) (d3 : decode code (pc + 3) = .ok (.iadd, 1)) (d4 : decode code (pc + 4) = .ok (.iaload, 1)) (kk : W p l e room_1 s m #[Value.ref b] below meth c H locs cells slots Q (F0 m (pc + 5) ls (.int (xs (i + k)) :: st))) : W p l e room_1 s m #[Value.ref b] below meth c H locs cells slots Q (F0 m pc ls st) := by
  obtain ⟨hx, hb, hr, hml, hown, hts, hX, hbl, hlk, hgv⟩ := C0
  refine lv_aload_n hx hb d0 rfl (lv_at hl 0 rfl) ?_
  refine lv_iload_n hx hb d1 rfl (lv_at hl 3 rfl) ?_
  refine lv_iconst (v := nI k) hx hb d2 hv ?_
  refine lv_iadd hx hb d3 ?_
  rw [adn]
  refine va_sld hx hb hX hbl hbA hS (xin_in (xin_nI (show i + k < L by omega) (by omega))) d4 ?_
  rw [cln (by omega)]
  exact kk
theorem law_0 (C0 : lw_At p s m meth c b L xs) (X : xC p s m #[Value.ref b] c G RL code 4) (hbA : ¬ xA G b) (hL : L ≤ 3072) {i : Nat} (hi : i + 6 ≤ L) (hI : Inv S) (hP : xP G S H) (hS : va_S (xA G) s.heap H locs) (hl : lv_has ls 4 (lawl b G i)) (kk : ∀ (S2 : xS) (H : Heap) (locs : List Loc), Inv S2 → xP G S2 H → va_S (xA G) s.heap H locs → W p l e room_1 s m #[Value.ref b] below meth c H locs 600000 7302250 Q (F0 m 1351 ls [])) : W p l e room_1 s m #[Value.ref b] below meth c H locs 600000 7302250 Q (F0 m 196 ls []) := by
  obtain ⟨hx, hb, hml, hown, hts, hE⟩ := id X
  obtain ⟨r, S1, S2, h1, h2, h3⟩ := op_measure (n := 200) hI (by decide) (xs (i + 1)) (xs (i + 2)) (xs (i + 3))
  refine lv_aload_n hx hb dL_law_196 rfl (lv_at hl 1 rfl) ?_
  refine law_ld (k := 1) C0 hbA hS hl hL hi (by decide) dL_law_197 dL_law_198 dL_law_199 (by decide) dL_law_200 dL_law_201 ?_
  refine law_ld (k := 2) C0 hbA hS hl hL hi (by decide) dL_law_202 dL_law_203 dL_law_204 (by decide) dL_law_205 dL_law_206 ?_
  refine law_ld (k := 3) C0 hbA hS hl hL hi (by decide) dL_law_207 dL_law_208 dL_law_209 (by decide) dL_law_210 dL_law_211 ?_
  refine x_cVi (As := [.int (xs (i + 1)), .int (xs (i + 2)), .int (xs (i + 3))]) (rest := []) X hP hS kc_L_13 (c_X8_measure l G 200 S (xs (i + 1)) (xs (i + 2)) (xs (i + 3)) r S1 h1) ⟨Nat.le_of_ble_eq_true rfl, Nat.le_of_ble_eq_true rfl⟩ (by decide) rfl rfl rfl hl.1 rfl (Nat.le_of_ble_eq_true rfl) ⟨Nat.le_of_ble_eq_true rfl, Nat.le_of_ble_eq_true rfl⟩ dL_law_212 (fun H locs hP hS => ?_)
  refine lv_aload_n hx hb dL_law_215 rfl (lv_at hl 2 rfl) ?_
  refine law_ld (k := 1) C0 hbA hS hl hL hi (by decide) dL_law_216 dL_law_217 dL_law_218 (by decide) dL_law_219 dL_law_220 ?_
  refine law_ld (k := 2) C0 hbA hS hl hL hi (by decide) dL_law_221 dL_law_222 dL_law_223 (by decide) dL_law_224 dL_law_225 ?_
  refine law_ld (k := 3) C0 hbA hS hl hL hi (by decide) dL_law_226 dL_law_227 dL_law_228 (by decide) dL_law_229 dL_law_230 ?_
  refine x_cVi (As := [.int (xs (i + 1)), .int (xs (i + 2)), .int (xs (i + 3))]) (rest := [.int r]) X hP hS kc_L_17 (c_X9_measure l G 200 S1 (xs (i + 1)) (xs (i + 2)) (xs (i + 3)) r S2 h2) ⟨Nat.le_of_ble_eq_true rfl, Nat.le_of_ble_eq_true rfl⟩ (by decide) rfl rfl rfl hl.1 rfl (Nat.le_of_ble_eq_true rfl) ⟨Nat.le_of_ble_eq_true rfl, Nat.le_of_ble_eq_true rfl⟩ dL_law_231 (fun H locs hP hS => ?_)
  exact lv_icmp_eq (tgt := 1351) hx hb dL_law_234 (by decide) (fun _ => kk S2 H locs h3 hP hS) (fun e1 => absurd rfl e1)
theorem law_1 (C0 : lw_At p s m meth c b L xs) (X : xC p s m #[Value.ref b] c G RL code 4) (hbA : ¬ xA G b) (hL : L ≤ 3072) {i : Nat} (hi : i + 6 ≤ L) (hI : Inv S) (hP : xP G S H) (hS : va_S (xA G) s.heap H locs) (hl : lv_has ls 4 (lawl b G i)) (kk : ∀ (S2 : xS) (H : Heap) (locs : List Loc), Inv S2 → xP G S2 H → va_S (xA G) s.heap H locs → W p l e room_1 s m #[Value.ref b] below meth c H locs 600000 7302250 Q (F0 m 1351 ls [])) : W p l e room_1 s m #[Value.ref b] below meth c H locs 600000 7302250 Q (F0 m 239 ls []) := by
  obtain ⟨hx, hb, hml, hown, hts, hE⟩ := id X
  obtain ⟨r, S1, S2, h1, h2, h3⟩ := op_type (n := 200) hI (by decide) (xs (i + 1))
  refine lv_aload_n hx hb dL_law_239 rfl (lv_at hl 1 rfl) ?_
  refine law_ld (k := 1) C0 hbA hS hl hL hi (by decide) dL_law_240 dL_law_241 dL_law_242 (by decide) dL_law_243 dL_law_244 ?_
  refine x_cVi (As := [.int (xs (i + 1))]) (rest := []) X hP hS kc_L_18 (c_X8_type l G 200 S (xs (i + 1)) r S1 h1) ⟨Nat.le_of_ble_eq_true rfl, Nat.le_of_ble_eq_true rfl⟩ (by decide) rfl rfl rfl hl.1 rfl (Nat.le_of_ble_eq_true rfl) ⟨Nat.le_of_ble_eq_true rfl, Nat.le_of_ble_eq_true rfl⟩ dL_law_245 (fun H locs hP hS => ?_)
  refine lv_aload_n hx hb dL_law_248 rfl (lv_at hl 2 rfl) ?_
  refine law_ld (k := 1) C0 hbA hS hl hL hi (by decide) dL_law_249 dL_law_250 dL_law_251 (by decide) dL_law_252 dL_law_253 ?_
  refine x_cVi (As := [.int (xs (i + 1))]) (rest := [.int r]) X hP hS kc_L_22 (c_X9_type l G 200 S1 (xs (i + 1)) r S2 h2) ⟨Nat.le_of_ble_eq_true rfl, Nat.le_of_ble_eq_true rfl⟩ (by decide) rfl rfl rfl hl.1 rfl (Nat.le_of_ble_eq_true rfl) ⟨Nat.le_of_ble_eq_true rfl, Nat.le_of_ble_eq_true rfl⟩ dL_law_254 (fun H locs hP hS => ?_)
  exact lv_icmp_eq (tgt := 1351) hx hb dL_law_257 (by decide) (fun _ => kk S2 H locs h3 hP hS) (fun e1 => absurd rfl e1)
theorem law_2 (C0 : lw_At p s m meth c b L xs) (X : xC p s m #[Value.ref b] c G RL code 4) (hbA : ¬ xA G b) (hL : L ≤ 3072) {i : Nat} (hi : i + 6 ≤ L) (hI : Inv S) (hP : xP G S H) (hS : va_S (xA G) s.heap H locs) (hl : lv_has ls 4 (lawl b G i)) (kk : ∀ (S2 : xS) (H : Heap) (locs : List Loc), Inv S2 → xP G S2 H → va_S (xA G) s.heap H locs → W p l e room_1 s m #[Value.ref b] below meth c H locs 600000 7302250 Q (F0 m 1351 ls [])) : W p l e room_1 s m #[Value.ref b] below meth c H locs 600000 7302250 Q (F0 m 262 ls []) := by
  obtain ⟨hx, hb, hml, hown, hts, hE⟩ := id X
  obtain ⟨r, S1, S2, h1, h2, h3⟩ := op_wipe (n := 200) hI (by decide) 
  refine lv_aload_n hx hb dL_law_262 rfl (lv_at hl 1 rfl) ?_
  refine x_cVi (As := []) (rest := []) X hP hS kc_L_23 (c_X8_wipe l G 200 S  r S1 h1) ⟨Nat.le_of_ble_eq_true rfl, Nat.le_of_ble_eq_true rfl⟩ (by decide) rfl rfl rfl hl.1 rfl (Nat.le_of_ble_eq_true rfl) ⟨Nat.le_of_ble_eq_true rfl, Nat.le_of_ble_eq_true rfl⟩ dL_law_263 (fun H locs hP hS => ?_)
  refine lv_aload_n hx hb dL_law_266 rfl (lv_at hl 2 rfl) ?_
  refine x_cVi (As := []) (rest := [.int r]) X hP hS kc_L_27 (c_X9_wipe l G S1  r S2 h2) ⟨Nat.le_of_ble_eq_true rfl, Nat.le_of_ble_eq_true rfl⟩ (by decide) rfl rfl rfl hl.1 rfl (Nat.le_of_ble_eq_true rfl) ⟨Nat.le_of_ble_eq_true rfl, Nat.le_of_ble_eq_true rfl⟩ dL_law_267 (fun H locs hP hS => ?_)
  exact lv_icmp_eq (tgt := 1351) hx hb dL_law_270 (by decide) (fun _ => kk S2 H locs h3 hP hS) (fun e1 => absurd rfl e1)
theorem law_3 (C0 : lw_At p s m meth c b L xs) (X : xC p s m #[Value.ref b] c G RL code 4) (hbA : ¬ xA G b) (hL : L ≤ 3072) {i : Nat} (hi : i + 6 ≤ L) (hI : Inv S) (hP : xP G S H) (hS : va_S (xA G) s.heap H locs) (hl : lv_has ls 4 (lawl b G i)) (kk : ∀ (S2 : xS) (H : Heap) (locs : List Loc), Inv S2 → xP G S2 H → va_S (xA G) s.heap H locs → W p l e room_1 s m #[Value.ref b] below meth c H locs 600000 7302250 Q (F0 m 1351 ls [])) : W p l e room_1 s m #[Value.ref b] below meth c H locs 600000 7302250 Q (F0 m 275 ls []) := by
  obtain ⟨hx, hb, hml, hown, hts, hE⟩ := id X
  obtain ⟨S2, h2, h3⟩ := op_fault (n := 200) hI (by decide)
  refine lv_aload_n hx hb dL_law_275 rfl (lv_at hl 1 rfl) ?_
  refine x_cVi (As := []) (rest := []) X hP hS kc_L_28 (c_X8_fault l G S  (f_X8_fault S) rfl) ⟨Nat.le_of_ble_eq_true rfl, Nat.le_of_ble_eq_true rfl⟩ (by decide) rfl rfl rfl hl.1 rfl (Nat.le_of_ble_eq_true rfl) ⟨Nat.le_of_ble_eq_true rfl, Nat.le_of_ble_eq_true rfl⟩ dL_law_276 (fun H locs hP hS => ?_)
  refine lv_aload_n hx hb dL_law_279 rfl (lv_at hl 2 rfl) ?_
  refine x_cVi (As := []) (rest := [.int (f_X8_fault S)]) X hP hS kc_L_31 (c_X9_fault l G 200 S  (f_X8_fault S) S2 h2) ⟨Nat.le_of_ble_eq_true rfl, Nat.le_of_ble_eq_true rfl⟩ (by decide) rfl rfl rfl hl.1 rfl (Nat.le_of_ble_eq_true rfl) ⟨Nat.le_of_ble_eq_true rfl, Nat.le_of_ble_eq_true rfl⟩ dL_law_280 (fun H locs hP hS => ?_)
  exact lv_icmp_eq (tgt := 1351) hx hb dL_law_283 (by decide) (fun _ => kk S2 H locs h3 hP hS) (fun e1 => absurd rfl e1)
theorem law_4 (C0 : lw_At p s m meth c b L xs) (X : xC p s m #[Value.ref b] c G RL code 4) (hbA : ¬ xA G b) (hL : L ≤ 3072) {i : Nat} (hi : i + 6 ≤ L) (hI : Inv S) (hP : xP G S H) (hS : va_S (xA G) s.heap H locs) (hl : lv_has ls 4 (lawl b G i)) (kk : ∀ (S2 : xS) (H : Heap) (locs : List Loc), Inv S2 → xP G S2 H → va_S (xA G) s.heap H locs → W p l e room_1 s m #[Value.ref b] below meth c H locs 600000 7302250 Q (F0 m 1351 ls [])) : W p l e room_1 s m #[Value.ref b] below meth c H locs 600000 7302250 Q (F0 m 288 ls []) := by
  obtain ⟨hx, hb, hml, hown, hts, hE⟩ := id X
  obtain ⟨r, S2, h1, h2, h3⟩ := op_floor (n := 200) hI (by decide) (xs (i + 1)) (xs (i + 2))
  refine lv_aload_n hx hb dL_law_288 rfl (lv_at hl 1 rfl) ?_
  refine law_ld (k := 1) C0 hbA hS hl hL hi (by decide) dL_law_289 dL_law_290 dL_law_291 (by decide) dL_law_292 dL_law_293 ?_
  refine law_ld (k := 2) C0 hbA hS hl hL hi (by decide) dL_law_294 dL_law_295 dL_law_296 (by decide) dL_law_297 dL_law_298 ?_
  refine x_cVi (As := [.int (xs (i + 1)), .int (xs (i + 2))]) (rest := []) X hP hS kc_L_32 (c_X8_floor l G 200 S (xs (i + 1)) (xs (i + 2)) r h1) ⟨Nat.le_of_ble_eq_true rfl, Nat.le_of_ble_eq_true rfl⟩ (by decide) rfl rfl rfl hl.1 rfl (Nat.le_of_ble_eq_true rfl) ⟨Nat.le_of_ble_eq_true rfl, Nat.le_of_ble_eq_true rfl⟩ dL_law_299 (fun H locs hP hS => ?_)
  refine lv_aload_n hx hb dL_law_302 rfl (lv_at hl 2 rfl) ?_
  refine law_ld (k := 1) C0 hbA hS hl hL hi (by decide) dL_law_303 dL_law_304 dL_law_305 (by decide) dL_law_306 dL_law_307 ?_
  refine law_ld (k := 2) C0 hbA hS hl hL hi (by decide) dL_law_308 dL_law_309 dL_law_310 (by decide) dL_law_311 dL_law_312 ?_
  refine x_cVi (As := [.int (xs (i + 1)), .int (xs (i + 2))]) (rest := [.int r]) X hP hS kc_L_36 (c_X9_floor l G 200 S (xs (i + 1)) (xs (i + 2)) r S2 h2) ⟨Nat.le_of_ble_eq_true rfl, Nat.le_of_ble_eq_true rfl⟩ (by decide) rfl rfl rfl hl.1 rfl (Nat.le_of_ble_eq_true rfl) ⟨Nat.le_of_ble_eq_true rfl, Nat.le_of_ble_eq_true rfl⟩ dL_law_313 (fun H locs hP hS => ?_)
  exact lv_icmp_eq (tgt := 1351) hx hb dL_law_316 (by decide) (fun _ => kk S2 H locs h3 hP hS) (fun e1 => absurd rfl e1)
theorem law_5 (C0 : lw_At p s m meth c b L xs) (X : xC p s m #[Value.ref b] c G RL code 4) (hbA : ¬ xA G b) (hL : L ≤ 3072) {i : Nat} (hi : i + 6 ≤ L) (hI : Inv S) (hP : xP G S H) (hS : va_S (xA G) s.heap H locs) (hl : lv_has ls 4 (lawl b G i)) (kk : ∀ (S2 : xS) (H : Heap) (locs : List Loc), Inv S2 → xP G S2 H → va_S (xA G) s.heap H locs → W p l e room_1 s m #[Value.ref b] below meth c H locs 600000 7302250 Q (F0 m 1351 ls [])) : W p l e room_1 s m #[Value.ref b] below meth c H locs 600000 7302250 Q (F0 m 321 ls []) := by
  obtain ⟨hx, hb, hml, hown, hts, hE⟩ := id X
  obtain ⟨r, h1, h2⟩ := op_cut (n := 200) hI (xs (i + 1)) (xs (i + 2)) (xs (i + 3))
  refine lv_aload_n hx hb dL_law_321 rfl (lv_at hl 1 rfl) ?_
  refine law_ld (k := 1) C0 hbA hS hl hL hi (by decide) dL_law_322 dL_law_323 dL_law_324 (by decide) dL_law_325 dL_law_326 ?_
  refine law_ld (k := 2) C0 hbA hS hl hL hi (by decide) dL_law_327 dL_law_328 dL_law_329 (by decide) dL_law_330 dL_law_331 ?_
  refine law_ld (k := 3) C0 hbA hS hl hL hi (by decide) dL_law_332 dL_law_333 dL_law_334 (by decide) dL_law_335 dL_law_336 ?_
  refine x_cVi (As := [.int (xs (i + 1)), .int (xs (i + 2)), .int (xs (i + 3))]) (rest := []) X hP hS kc_L_37 (c_X8_cut l G 200 S (xs (i + 1)) (xs (i + 2)) (xs (i + 3)) r h1) ⟨Nat.le_of_ble_eq_true rfl, Nat.le_of_ble_eq_true rfl⟩ (by decide) rfl rfl rfl hl.1 rfl (Nat.le_of_ble_eq_true rfl) ⟨Nat.le_of_ble_eq_true rfl, Nat.le_of_ble_eq_true rfl⟩ dL_law_337 (fun H locs hP hS => ?_)
  refine lv_aload_n hx hb dL_law_340 rfl (lv_at hl 2 rfl) ?_
  refine law_ld (k := 1) C0 hbA hS hl hL hi (by decide) dL_law_341 dL_law_342 dL_law_343 (by decide) dL_law_344 dL_law_345 ?_
  refine law_ld (k := 2) C0 hbA hS hl hL hi (by decide) dL_law_346 dL_law_347 dL_law_348 (by decide) dL_law_349 dL_law_350 ?_
  refine law_ld (k := 3) C0 hbA hS hl hL hi (by decide) dL_law_351 dL_law_352 dL_law_353 (by decide) dL_law_354 dL_law_355 ?_
  refine x_cVi (As := [.int (xs (i + 1)), .int (xs (i + 2)), .int (xs (i + 3))]) (rest := [.int r]) X hP hS kc_L_40 (c_X9_cut l G 200 S (xs (i + 1)) (xs (i + 2)) (xs (i + 3)) r h2) ⟨Nat.le_of_ble_eq_true rfl, Nat.le_of_ble_eq_true rfl⟩ (by decide) rfl rfl rfl hl.1 rfl (Nat.le_of_ble_eq_true rfl) ⟨Nat.le_of_ble_eq_true rfl, Nat.le_of_ble_eq_true rfl⟩ dL_law_356 (fun H locs hP hS => ?_)
  exact lv_icmp_eq (tgt := 1351) hx hb dL_law_359 (by decide) (fun _ => kk S H locs hI hP hS) (fun e1 => absurd rfl e1)
theorem law_6 (C0 : lw_At p s m meth c b L xs) (X : xC p s m #[Value.ref b] c G RL code 4) (hbA : ¬ xA G b) (hL : L ≤ 3072) {i : Nat} (hi : i + 6 ≤ L) (hI : Inv S) (hP : xP G S H) (hS : va_S (xA G) s.heap H locs) (hl : lv_has ls 4 (lawl b G i)) (kk : ∀ (S2 : xS) (H : Heap) (locs : List Loc), Inv S2 → xP G S2 H → va_S (xA G) s.heap H locs → W p l e room_1 s m #[Value.ref b] below meth c H locs 600000 7302250 Q (F0 m 1351 ls [])) : W p l e room_1 s m #[Value.ref b] below meth c H locs 600000 7302250 Q (F0 m 364 ls []) := by
  obtain ⟨hx, hb, hml, hown, hts, hE⟩ := id X
  obtain ⟨r, S1, S2, h1, h2, h3⟩ := op_shim (n := 200) hI (by decide) (xs (i + 1)) (xs (i + 2))
  refine lv_aload_n hx hb dL_law_364 rfl (lv_at hl 1 rfl) ?_
  refine law_ld (k := 1) C0 hbA hS hl hL hi (by decide) dL_law_365 dL_law_366 dL_law_367 (by decide) dL_law_368 dL_law_369 ?_
  refine law_ld (k := 2) C0 hbA hS hl hL hi (by decide) dL_law_370 dL_law_371 dL_law_372 (by decide) dL_law_373 dL_law_374 ?_
  refine x_cVi (As := [.int (xs (i + 1)), .int (xs (i + 2))]) (rest := []) X hP hS kc_L_41 (c_X8_shim l G 200 S (xs (i + 1)) (xs (i + 2)) r S1 h1) ⟨Nat.le_of_ble_eq_true rfl, Nat.le_of_ble_eq_true rfl⟩ (by decide) rfl rfl rfl hl.1 rfl (Nat.le_of_ble_eq_true rfl) ⟨Nat.le_of_ble_eq_true rfl, Nat.le_of_ble_eq_true rfl⟩ dL_law_375 (fun H locs hP hS => ?_)
  refine lv_aload_n hx hb dL_law_378 rfl (lv_at hl 2 rfl) ?_
  refine law_ld (k := 1) C0 hbA hS hl hL hi (by decide) dL_law_379 dL_law_380 dL_law_381 (by decide) dL_law_382 dL_law_383 ?_
  refine law_ld (k := 2) C0 hbA hS hl hL hi (by decide) dL_law_384 dL_law_385 dL_law_386 (by decide) dL_law_387 dL_law_388 ?_
  refine x_cVi (As := [.int (xs (i + 1)), .int (xs (i + 2))]) (rest := [.int r]) X hP hS kc_L_44 (c_X9_shim l G 200 S1 (xs (i + 1)) (xs (i + 2)) r S2 h2) ⟨Nat.le_of_ble_eq_true rfl, Nat.le_of_ble_eq_true rfl⟩ (by decide) rfl rfl rfl hl.1 rfl (Nat.le_of_ble_eq_true rfl) ⟨Nat.le_of_ble_eq_true rfl, Nat.le_of_ble_eq_true rfl⟩ dL_law_389 (fun H locs hP hS => ?_)
  exact lv_icmp_eq (tgt := 1351) hx hb dL_law_392 (by decide) (fun _ => kk S2 H locs h3 hP hS) (fun e1 => absurd rfl e1)
theorem law_7 (C0 : lw_At p s m meth c b L xs) (X : xC p s m #[Value.ref b] c G RL code 4) (hbA : ¬ xA G b) (hL : L ≤ 3072) {i : Nat} (hi : i + 6 ≤ L) (hI : Inv S) (hP : xP G S H) (hS : va_S (xA G) s.heap H locs) (hl : lv_has ls 4 (lawl b G i)) (kk : ∀ (S2 : xS) (H : Heap) (locs : List Loc), Inv S2 → xP G S2 H → va_S (xA G) s.heap H locs → W p l e room_1 s m #[Value.ref b] below meth c H locs 600000 7302250 Q (F0 m 1351 ls [])) : W p l e room_1 s m #[Value.ref b] below meth c H locs 600000 7302250 Q (F0 m 397 ls []) := by
  obtain ⟨hx, hb, hml, hown, hts, hE⟩ := id X
  obtain ⟨r, S1, S2, h1, h2, h3⟩ := op_set (n := 200) hI (xs (i + 1)) (xs (i + 2))
  refine lv_aload_n hx hb dL_law_397 rfl (lv_at hl 1 rfl) ?_
  refine law_ld (k := 1) C0 hbA hS hl hL hi (by decide) dL_law_398 dL_law_399 dL_law_400 (by decide) dL_law_401 dL_law_402 ?_
  refine law_ld (k := 2) C0 hbA hS hl hL hi (by decide) dL_law_403 dL_law_404 dL_law_405 (by decide) dL_law_406 dL_law_407 ?_
  refine x_cVi (As := [.int (xs (i + 1)), .int (xs (i + 2))]) (rest := []) X hP hS kc_L_45 (c_X8_set l G 200 S (xs (i + 1)) (xs (i + 2)) r S1 h1) ⟨Nat.le_of_ble_eq_true rfl, Nat.le_of_ble_eq_true rfl⟩ (by decide) rfl rfl rfl hl.1 rfl (Nat.le_of_ble_eq_true rfl) ⟨Nat.le_of_ble_eq_true rfl, Nat.le_of_ble_eq_true rfl⟩ dL_law_408 (fun H locs hP hS => ?_)
  refine lv_aload_n hx hb dL_law_411 rfl (lv_at hl 2 rfl) ?_
  refine law_ld (k := 1) C0 hbA hS hl hL hi (by decide) dL_law_412 dL_law_413 dL_law_414 (by decide) dL_law_415 dL_law_416 ?_
  refine law_ld (k := 2) C0 hbA hS hl hL hi (by decide) dL_law_417 dL_law_418 dL_law_419 (by decide) dL_law_420 dL_law_421 ?_
  refine x_cVi (As := [.int (xs (i + 1)), .int (xs (i + 2))]) (rest := [.int r]) X hP hS kc_L_48 (c_X9_set l G 200 S1 (xs (i + 1)) (xs (i + 2)) r S2 h2) ⟨Nat.le_of_ble_eq_true rfl, Nat.le_of_ble_eq_true rfl⟩ (by decide) rfl rfl rfl hl.1 rfl (Nat.le_of_ble_eq_true rfl) ⟨Nat.le_of_ble_eq_true rfl, Nat.le_of_ble_eq_true rfl⟩ dL_law_422 (fun H locs hP hS => ?_)
  exact lv_icmp_eq (tgt := 1351) hx hb dL_law_425 (by decide) (fun _ => kk S2 H locs h3 hP hS) (fun e1 => absurd rfl e1)
theorem law_8 (C0 : lw_At p s m meth c b L xs) (X : xC p s m #[Value.ref b] c G RL code 4) (hbA : ¬ xA G b) (hL : L ≤ 3072) {i : Nat} (hi : i + 6 ≤ L) (hI : Inv S) (hP : xP G S H) (hS : va_S (xA G) s.heap H locs) (hl : lv_has ls 4 (lawl b G i)) (kk : ∀ (S2 : xS) (H : Heap) (locs : List Loc), Inv S2 → xP G S2 H → va_S (xA G) s.heap H locs → W p l e room_1 s m #[Value.ref b] below meth c H locs 600000 7302250 Q (F0 m 1351 ls [])) : W p l e room_1 s m #[Value.ref b] below meth c H locs 600000 7302250 Q (F0 m 430 ls []) := by
  obtain ⟨hx, hb, hml, hown, hts, hE⟩ := id X
  obtain ⟨r, S2, h1, h2, h3⟩ := op_sill (n := 200) hI (by decide) (xs (i + 1)) (xs (i + 2))
  refine lv_aload_n hx hb dL_law_430 rfl (lv_at hl 1 rfl) ?_
  refine law_ld (k := 1) C0 hbA hS hl hL hi (by decide) dL_law_431 dL_law_432 dL_law_433 (by decide) dL_law_434 dL_law_435 ?_
  refine law_ld (k := 2) C0 hbA hS hl hL hi (by decide) dL_law_436 dL_law_437 dL_law_438 (by decide) dL_law_439 dL_law_440 ?_
  refine x_cVi (As := [.int (xs (i + 1)), .int (xs (i + 2))]) (rest := []) X hP hS kc_L_49 (c_X8_sill l G 200 S (xs (i + 1)) (xs (i + 2)) r h1) ⟨Nat.le_of_ble_eq_true rfl, Nat.le_of_ble_eq_true rfl⟩ (by decide) rfl rfl rfl hl.1 rfl (Nat.le_of_ble_eq_true rfl) ⟨Nat.le_of_ble_eq_true rfl, Nat.le_of_ble_eq_true rfl⟩ dL_law_441 (fun H locs hP hS => ?_)
  refine lv_aload_n hx hb dL_law_444 rfl (lv_at hl 2 rfl) ?_
  refine law_ld (k := 1) C0 hbA hS hl hL hi (by decide) dL_law_445 dL_law_446 dL_law_447 (by decide) dL_law_448 dL_law_449 ?_
  refine law_ld (k := 2) C0 hbA hS hl hL hi (by decide) dL_law_450 dL_law_451 dL_law_452 (by decide) dL_law_453 dL_law_454 ?_
  refine x_cVi (As := [.int (xs (i + 1)), .int (xs (i + 2))]) (rest := [.int r]) X hP hS kc_L_52 (c_X9_sill l G 200 S (xs (i + 1)) (xs (i + 2)) r S2 h2) ⟨Nat.le_of_ble_eq_true rfl, Nat.le_of_ble_eq_true rfl⟩ (by decide) rfl rfl rfl hl.1 rfl (Nat.le_of_ble_eq_true rfl) ⟨Nat.le_of_ble_eq_true rfl, Nat.le_of_ble_eq_true rfl⟩ dL_law_455 (fun H locs hP hS => ?_)
  exact lv_icmp_eq (tgt := 1351) hx hb dL_law_458 (by decide) (fun _ => kk S2 H locs h3 hP hS) (fun e1 => absurd rfl e1)
theorem law_9 (C0 : lw_At p s m meth c b L xs) (X : xC p s m #[Value.ref b] c G RL code 4) (hbA : ¬ xA G b) (hL : L ≤ 3072) {i : Nat} (hi : i + 6 ≤ L) (hI : Inv S) (hP : xP G S H) (hS : va_S (xA G) s.heap H locs) (hl : lv_has ls 4 (lawl b G i)) (kk : ∀ (S2 : xS) (H : Heap) (locs : List Loc), Inv S2 → xP G S2 H → va_S (xA G) s.heap H locs → W p l e room_1 s m #[Value.ref b] below meth c H locs 600000 7302250 Q (F0 m 1351 ls [])) : W p l e room_1 s m #[Value.ref b] below meth c H locs 600000 7302250 Q (F0 m 463 ls []) := by
  obtain ⟨hx, hb, hml, hown, hts, hE⟩ := id X
  obtain ⟨r, S2, h1, h2, h3⟩ := op_worst (n := 200) hI (by decide) 
  refine lv_aload_n hx hb dL_law_463 rfl (lv_at hl 1 rfl) ?_
  refine x_cVi (As := []) (rest := []) X hP hS kc_L_53 (c_X8_worst l G 200 S  r h1) ⟨Nat.le_of_ble_eq_true rfl, Nat.le_of_ble_eq_true rfl⟩ (by decide) rfl rfl rfl hl.1 rfl (Nat.le_of_ble_eq_true rfl) ⟨Nat.le_of_ble_eq_true rfl, Nat.le_of_ble_eq_true rfl⟩ dL_law_464 (fun H locs hP hS => ?_)
  refine lv_aload_n hx hb dL_law_467 rfl (lv_at hl 2 rfl) ?_
  refine x_cVi (As := []) (rest := [.int r]) X hP hS kc_L_56 (c_X9_worst l G 200 S  r S2 h2) ⟨Nat.le_of_ble_eq_true rfl, Nat.le_of_ble_eq_true rfl⟩ (by decide) rfl rfl rfl hl.1 rfl (Nat.le_of_ble_eq_true rfl) ⟨Nat.le_of_ble_eq_true rfl, Nat.le_of_ble_eq_true rfl⟩ dL_law_468 (fun H locs hP hS => ?_)
  exact lv_icmp_eq (tgt := 1351) hx hb dL_law_471 (by decide) (fun _ => kk S2 H locs h3 hP hS) (fun e1 => absurd rfl e1)
end LAW
