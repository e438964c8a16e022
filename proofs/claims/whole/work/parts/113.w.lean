def b_X9_digest_279 (n : Nat) (k271 : xS → Int64 → Int32 → Option (Int64 × xS)) (k279 : xS → Int64 → Int32 → Int32 → Option (Int64 × xS)) (S : xS) (a1 : Int64) (a3 : Int32) (a4 : Int32) : Option (Int64 × xS) :=
  (if (4 : Int32) ≤ a4 then (f_X9_safeBy n S a3 (0 : Int32)).bind fun r33 => (k271 r33.2 (((31 : Int64) * a1) + r33.1.toInt64) (a3 + 1)) else (f_X9_blameOf n S a3 (a4 / (2 : Int32)) (a4 - a4 / (2 : Int32) * (2 : Int32))).bind fun r35 => (k279 r35.2 (((31 : Int64) * a1) + r35.1) a3 (a4 + 1)))
def l_X9_digest_279 (n : Nat) (k271 : xS → Int64 → Int32 → Option (Int64 × xS)) : Nat → xS → Int64 → Int32 → Int32 → Option (Int64 × xS)
  | 0, _, _, _, _ => none
  | j + 1, S, a1, a3, a4 => b_X9_digest_279 n k271 (l_X9_digest_279 n k271 j) S a1 a3 a4
set_option maxHeartbeats 4000000 in
set_option maxRecDepth 100000 in
theorem t_X9_digest_279 {p : Program} {l : Launch} {e : Env} {s : State} {m : MethodId} {args : Array Value} {below : List Frame} {meth : Method} {c : Code} {G : xG} (X : xC p s m args c G RX9 cX9_digest 5) (hr : meth.sig.returnType = (some .long)) (hlk : meth.locks = false) {n : Nat} {r : Int64} {S' : xS} {k271 : xS → Int64 → Int32 → Option (Int64 × xS)} (hk271 : ∀ (S : xS) (a1 : Int64) (a3 : Int32), k271 S a1 a3 = some (r, S') → xGo p l e { frames := 7, cells := 0, slots := 0, locals := 167 } s m args below meth c G 5 0 0 (MQ below (xQl G r S') args s 0 0 (xA G)) S 271 [(0, .ref (G.2.2 34)), (1, .long a1), (3, .int a3)] []) : ∀ (j : Nat) (S : xS) (a1 : Int64) (a3 : Int32) (a4 : Int32), l_X9_digest_279 n k271 j S a1 a3 a4 = some (r, S') → xGo p l e { frames := 7, cells := 0, slots := 0, locals := 167 } s m args below meth c G 5 0 0 (MQ below (xQl G r S') args s 0 0 (xA G)) S 279 [(0, .ref (G.2.2 34)), (1, .long a1), (3, .int a3), (4, .int a4)] [] := by
  intro j
  induction j with
  | zero => intro S a1 a3 a4 hf; exact nomatch (show (none : Option (Int64 × xS)) = _ from hf)
  | succ j ih =>
    intro S a1 a3 a4 hf H locs ls hP hS hl
    have hf : b_X9_digest_279 n k271 (l_X9_digest_279 n k271 j) S a1 a3 a4 = some (r, S') := hf
    unfold b_X9_digest_279 at hf
    obtain ⟨hx, hb, hml, hown, hts, hE⟩ := id X
    refine lv_iload hx hb dX9_digest_279 (lv_at hl 3 rfl) ?_
    refine lv_iconst (v := 4) hx hb dX9_digest_281 (by decide) ?_
    refine lv_icmp_ge (tgt := 311) hx hb dX9_digest_282 (by decide) (fun e32 => ?_) (fun e32 => ?_)
    · have hf := xif_t hf e32
      refine lv_ldc2 hx hb hown (hts _ kw_861) dX9_digest_311 ?_
      refine lv_lload_n hx hb dX9_digest_314 rfl (lv_at hl 1 rfl) ?_
      refine lv_lmul hx hb dX9_digest_315 ?_
      refine lv_aload_n hx hb dX9_digest_316 rfl (lv_at hl 0 rfl) ?_
      refine lv_iload_n hx hb dX9_digest_317 rfl (lv_at hl 2 rfl) ?_
      refine lv_iconst (v := 0) hx hb dX9_digest_318 (by decide) ?_
      obtain ⟨r33, h34, hf⟩ := xb_some hf
      refine x_cVi (As := [.int a3, .int (0 : Int32)]) (rest := [.long ((31 : Int64) * a1)]) X hP hS kc_X9_182 (c_X9_safeBy l G n S a3 (0 : Int32) r33.1 r33.2 h34) ⟨Nat.le_of_ble_eq_true rfl, Nat.le_of_ble_eq_true rfl⟩ (by decide) rfl rfl rfl hl.1 rfl (Nat.le_of_ble_eq_true rfl) ⟨Nat.zero_le _, Nat.zero_le _⟩ dX9_digest_319 (fun H locs hP hS => ?_)
      refine lv_i2l hx hb dX9_digest_322 rfl ?_
      refine lv_ladd hx hb dX9_digest_323 ?_
      refine lv_lstore_n (lv' := [(1, .long (((31 : Int64) * a1) + r33.1.toInt64)), (0, .ref (G.2.2 34)), (3, .int a3), (4, .int a4)]) hx hb dX9_digest_324 rfl hl (by decide) rfl (fun ls hl => ?_)
      refine lv_iinc (v := a3 + 1) (lv' := [(3, .int (a3 + 1)), (1, .long (((31 : Int64) * a1) + r33.1.toInt64)), (0, .ref (G.2.2 34)), (4, .int a4)]) hx hb dX9_digest_325 hl (k := 2) rfl rfl (by decide) rfl (fun ls hl => ?_)
      refine lv_goto (tgt := 271) hx hb dX9_digest_328 (by decide) ?_
      exact hk271 r33.2 (((31 : Int64) * a1) + r33.1.toInt64) (a3 + 1) hf H locs ls hP hS (lv_sub hl [2, 1, 0] rfl)
    · have hf := xif_f hf e32
      refine lv_ldc2 hx hb hown (hts _ kw_861) dX9_digest_285 ?_
      refine lv_lload_n hx hb dX9_digest_288 rfl (lv_at hl 1 rfl) ?_
      refine lv_lmul hx hb dX9_digest_289 ?_
      refine lv_aload_n hx hb dX9_digest_290 rfl (lv_at hl 0 rfl) ?_
      refine lv_iload_n hx hb dX9_digest_291 rfl (lv_at hl 2 rfl) ?_
      refine lv_iload hx hb dX9_digest_292 (lv_at hl 3 rfl) ?_
      refine lv_iconst (v := 2) hx hb dX9_digest_294 (by decide) ?_
      refine lv_idiv hx hb dX9_digest_295 (by decide) ?_
      refine lv_iload hx hb dX9_digest_296 (lv_at hl 3 rfl) ?_
      refine lv_iconst (v := 2) hx hb dX9_digest_298 (by decide) ?_
      refine lv_irem hx hb dX9_digest_299 (by decide) ?_
      obtain ⟨r35, h36, hf⟩ := xb_some hf
      refine x_cVl (As := [.int a3, .int (a4 / (2 : Int32)), .int (a4 - a4 / (2 : Int32) * (2 : Int32))]) (rest := [.long ((31 : Int64) * a1)]) X hP hS kc_X9_136 (c_X9_blameOf l G n S a3 (a4 / (2 : Int32)) (a4 - a4 / (2 : Int32) * (2 : Int32)) r35.1 r35.2 h36) ⟨Nat.le_of_ble_eq_true rfl, Nat.le_of_ble_eq_true rfl⟩ (by decide) rfl rfl rfl hl.1 rfl (Nat.le_of_ble_eq_true rfl) ⟨Nat.zero_le _, Nat.zero_le _⟩ dX9_digest_300 (fun H locs hP hS => ?_)
      refine lv_ladd hx hb dX9_digest_303 ?_
      refine lv_lstore_n (lv' := [(1, .long (((31 : Int64) * a1) + r35.1)), (0, .ref (G.2.2 34)), (3, .int a3), (4, .int a4)]) hx hb dX9_digest_304 rfl hl (by decide) rfl (fun ls hl => ?_)
      refine lv_iinc (v := a4 + 1) (lv' := [(4, .int (a4 + 1)), (1, .long (((31 : Int64) * a1) + r35.1)), (0, .ref (G.2.2 34)), (3, .int a3)]) hx hb dX9_digest_305 hl (k := 3) rfl rfl (by decide) rfl (fun ls hl => ?_)
      refine lv_goto (tgt := 279) hx hb dX9_digest_308 (by decide) ?_
      exact ih r35.2 (((31 : Int64) * a1) + r35.1) a3 (a4 + 1) hf H locs ls hP hS (lv_sub hl [2, 1, 3, 0] rfl)
def b_X9_digest_271 (n : Nat) (k271 : xS → Int64 → Int32 → Option (Int64 × xS)) (S : xS) (a1 : Int64) (a3 : Int32) : Option (Int64 × xS) :=
  (if (3 : Int32) ≤ a3 then (f_X9_worldsBy n S (-1 : Int32) (0 : Int32)).bind fun r12 => ((f_X9_liftsNow n r12.2).bind fun r14 => ((f_X9_longestOf n r14.2 (150 : Int32) (0 : Int32)).bind fun r16 => ((f_X9_longestOf n r16.2 (150 : Int32) (1 : Int32)).bind fun r18 => ((f_X9_mends n r18.2 (1023 : Int32)).bind fun r20 => ((f_X9_nextOf n r20.2 (100 : Int32) (0 : Int32)).bind fun r22 => ((f_X9_nextOf n r22.2 (100 : Int32) (1 : Int32)).bind fun r24 => ((f_X9_moreNow n r24.2).bind fun r26 => ((f_X9_stonesOf n r26.2 (0 : Int32)).bind fun r28 => ((f_X9_stonesOf n r28.2 (1 : Int32)).bind fun r30 => (some (((31 : Int64) * (((31 : Int64) * (((31 : Int64) * (((31 : Int64) * (((31 : Int64) * (((31 : Int64) * (((31 : Int64) * (((31 : Int64) * (((31 : Int64) * (((31 : Int64) * a1) + r12.1)) + r14.1.toInt64)) + r16.1.toInt64)) + r18.1.toInt64)) + r20.1.toInt64)) + r22.1.toInt64)) + r24.1.toInt64)) + r26.1.toInt64)) + r28.1.toInt64)) + r30.1.toInt64, r30.2))))))))))) else l_X9_digest_279 n k271 n S a1 a3 (0 : Int32))
def l_X9_digest_271 (n : Nat) : Nat → xS → Int64 → Int32 → Option (Int64 × xS)
  | 0, _, _, _ => none
  | j + 1, S, a1, a3 => b_X9_digest_271 n (l_X9_digest_271 n j) S a1 a3
set_option maxHeartbeats 4000000 in
set_option maxRecDepth 100000 in
theorem t_X9_digest_271 {p : Program} {l : Launch} {e : Env} {s : State} {m : MethodId} {args : Array Value} {below : List Frame} {meth : Method} {c : Code} {G : xG} (X : xC p s m args c G RX9 cX9_digest 5) (hr : meth.sig.returnType = (some .long)) (hlk : meth.locks = false) {n : Nat} {r : Int64} {S' : xS} : ∀ (j : Nat) (S : xS) (a1 : Int64) (a3 : Int32), l_X9_digest_271 n j S a1 a3 = some (r, S') → xGo p l e { frames := 7, cells := 0, slots := 0, locals := 167 } s m args below meth c G 5 0 0 (MQ below (xQl G r S') args s 0 0 (xA G)) S 271 [(0, .ref (G.2.2 34)), (1, .long a1), (3, .int a3)] [] := by
  intro j
  induction j with
  | zero => intro S a1 a3 hf; exact nomatch (show (none : Option (Int64 × xS)) = _ from hf)
  | succ j ih =>
    intro S a1 a3 hf H locs ls hP hS hl
    have hf : b_X9_digest_271 n (l_X9_digest_271 n j) S a1 a3 = some (r, S') := hf
    unfold b_X9_digest_271 at hf
    obtain ⟨hx, hb, hml, hown, hts, hE⟩ := id X
    refine lv_iload_n hx hb dX9_digest_271 rfl (lv_at hl 2 rfl) ?_
    refine lv_iconst (v := 3) hx hb dX9_digest_272 (by decide) ?_
    refine lv_icmp_ge (tgt := 331) hx hb dX9_digest_273 (by decide) (fun e11 => ?_) (fun e11 => ?_)
    · have hf := xif_t hf e11
      refine lv_ldc2 hx hb hown (hts _ kw_861) dX9_digest_331 ?_
      refine lv_lload_n hx hb dX9_digest_334 rfl (lv_at hl 1 rfl) ?_
      refine lv_lmul hx hb dX9_digest_335 ?_
      refine lv_aload_n hx hb dX9_digest_336 rfl (lv_at hl 0 rfl) ?_
      refine lv_iconst (v := (-1)) hx hb dX9_digest_337 (by decide) ?_
      refine lv_iconst (v := 0) hx hb dX9_digest_338 (by decide) ?_
      obtain ⟨r12, h13, hf⟩ := xb_some hf
      refine x_cVl (As := [.int (-1 : Int32), .int (0 : Int32)]) (rest := [.long ((31 : Int64) * a1)]) X hP hS kc_X9_156 (c_X9_worldsBy l G n S (-1 : Int32) (0 : Int32) r12.1 r12.2 h13) ⟨Nat.le_of_ble_eq_true rfl, Nat.le_of_ble_eq_true rfl⟩ (by decide) rfl rfl rfl hl.1 rfl (Nat.le_of_ble_eq_true rfl) ⟨Nat.zero_le _, Nat.zero_le _⟩ dX9_digest_339 (fun H locs hP hS => ?_)
      refine lv_ladd hx hb dX9_digest_342 ?_
      refine lv_lstore_n (lv' := [(1, .long (((31 : Int64) * a1) + r12.1)), (0, .ref (G.2.2 34)), (3, .int a3)]) hx hb dX9_digest_343 rfl hl (by decide) rfl (fun ls hl => ?_)
      refine lv_ldc2 hx hb hown (hts _ kw_861) dX9_digest_344 ?_
      refine lv_lload_n hx hb dX9_digest_347 rfl (lv_at hl 0 rfl) ?_
      refine lv_lmul hx hb dX9_digest_348 ?_
      refine lv_aload_n hx hb dX9_digest_349 rfl (lv_at hl 1 rfl) ?_
      obtain ⟨r14, h15, hf⟩ := xb_some hf
      refine x_cVi (As := []) (rest := [.long ((31 : Int64) * (((31 : Int64) * a1) + r12.1))]) X hP hS kc_X9_166 (c_X9_liftsNow l G n r12.2  r14.1 r14.2 h15) ⟨Nat.le_of_ble_eq_true rfl, Nat.le_of_ble_eq_true rfl⟩ (by decide) rfl rfl rfl hl.1 rfl (Nat.le_of_ble_eq_true rfl) ⟨Nat.zero_le _, Nat.zero_le _⟩ dX9_digest_350 (fun H locs hP hS => ?_)
      refine lv_i2l hx hb dX9_digest_353 rfl ?_
      refine lv_ladd hx hb dX9_digest_354 ?_
      refine lv_lstore_n (lv' := [(1, .long (((31 : Int64) * (((31 : Int64) * a1) + r12.1)) + r14.1.toInt64)), (0, .ref (G.2.2 34)), (3, .int a3)]) hx hb dX9_digest_355 rfl hl (by decide) rfl (fun ls hl => ?_)
      refine lv_ldc2 hx hb hown (hts _ kw_861) dX9_digest_356 ?_
      refine lv_lload_n hx hb dX9_digest_359 rfl (lv_at hl 0 rfl) ?_
      refine lv_lmul hx hb dX9_digest_360 ?_
      refine lv_aload_n hx hb dX9_digest_361 rfl (lv_at hl 1 rfl) ?_
      refine lv_sipush (v := 150) hx hb dX9_digest_362 (by decide) ?_
      refine lv_iconst (v := 0) hx hb dX9_digest_365 (by decide) ?_
      obtain ⟨r16, h17, hf⟩ := xb_some hf
      refine x_cVi (As := [.int (150 : Int32), .int (0 : Int32)]) (rest := [.long ((31 : Int64) * (((31 : Int64) * (((31 : Int64) * a1) + r12.1)) + r14.1.toInt64))]) X hP hS kc_X9_169 (c_X9_longestOf l G n r14.2 (150 : Int32) (0 : Int32) r16.1 r16.2 h17) ⟨Nat.le_of_ble_eq_true rfl, Nat.le_of_ble_eq_true rfl⟩ (by decide) rfl rfl rfl hl.1 rfl (Nat.le_of_ble_eq_true rfl) ⟨Nat.zero_le _, Nat.zero_le _⟩ dX9_digest_366 (fun H locs hP hS => ?_)
      refine lv_i2l hx hb dX9_digest_369 rfl ?_
      refine lv_ladd hx hb dX9_digest_370 ?_
      refine lv_lstore_n (lv' := [(1, .long (((31 : Int64) * (((31 : Int64) * (((31 : Int64) * a1) + r12.1)) + r14.1.toInt64)) + r16.1.toInt64)), (0, .ref (G.2.2 34)), (3, .int a3)]) hx hb dX9_digest_371 rfl hl (by decide) rfl (fun ls hl => ?_)
      refine lv_ldc2 hx hb hown (hts _ kw_861) dX9_digest_372 ?_
      refine lv_lload_n hx hb dX9_digest_375 rfl (lv_at hl 0 rfl) ?_
      refine lv_lmul hx hb dX9_digest_376 ?_
      refine lv_aload_n hx hb dX9_digest_377 rfl (lv_at hl 1 rfl) ?_
      refine lv_sipush (v := 150) hx hb dX9_digest_378 (by decide) ?_
      refine lv_iconst (v := 1) hx hb dX9_digest_381 (by decide) ?_
      obtain ⟨r18, h19, hf⟩ := xb_some hf
      refine x_cVi (As := [.int (150 : Int32), .int (1 : Int32)]) (rest := [.long ((31 : Int64) * (((31 : Int64) * (((31 : Int64) * (((31 : Int64) * a1) + r12.1)) + r14.1.toInt64)) + r16.1.toInt64))]) X hP hS kc_X9_169 (c_X9_longestOf l G n r16.2 (150 : Int32) (1 : Int32) r18.1 r18.2 h19) ⟨Nat.le_of_ble_eq_true rfl, Nat.le_of_ble_eq_true rfl⟩ (by decide) rfl rfl rfl hl.1 rfl (Nat.le_of_ble_eq_true rfl) ⟨Nat.zero_le _, Nat.zero_le _⟩ dX9_digest_382 (fun H locs hP hS => ?_)
      refine lv_i2l hx hb dX9_digest_385 rfl ?_
      refine lv_ladd hx hb dX9_digest_386 ?_
      refine lv_lstore_n (lv' := [(1, .long (((31 : Int64) * (((31 : Int64) * (((31 : Int64) * (((31 : Int64) * a1) + r12.1)) + r14.1.toInt64)) + r16.1.toInt64)) + r18.1.toInt64)), (0, .ref (G.2.2 34)), (3, .int a3)]) hx hb dX9_digest_387 rfl hl (by decide) rfl (fun ls hl => ?_)
      refine lv_ldc2 hx hb hown (hts _ kw_861) dX9_digest_388 ?_
      refine lv_lload_n hx hb dX9_digest_391 rfl (lv_at hl 0 rfl) ?_
      refine lv_lmul hx hb dX9_digest_392 ?_
      refine lv_aload_n hx hb dX9_digest_393 rfl (lv_at hl 1 rfl) ?_
      refine lv_sipush (v := 1023) hx hb dX9_digest_394 (by decide) ?_
      obtain ⟨r20, h21, hf⟩ := xb_some hf
      refine x_cVi (As := [.int (1023 : Int32)]) (rest := [.long ((31 : Int64) * (((31 : Int64) * (((31 : Int64) * (((31 : Int64) * (((31 : Int64) * a1) + r12.1)) + r14.1.toInt64)) + r16.1.toInt64)) + r18.1.toInt64))]) X hP hS kc_X9_172 (c_X9_mends l G n r18.2 (1023 : Int32) r20.1 r20.2 h21) ⟨Nat.le_of_ble_eq_true rfl, Nat.le_of_ble_eq_true rfl⟩ (by decide) rfl rfl rfl hl.1 rfl (Nat.le_of_ble_eq_true rfl) ⟨Nat.zero_le _, Nat.zero_le _⟩ dX9_digest_397 (fun H locs hP hS => ?_)
      refine lv_i2l hx hb dX9_digest_400 rfl ?_
      refine lv_ladd hx hb dX9_digest_401 ?_
      refine lv_lstore_n (lv' := [(1, .long (((31 : Int64) * (((31 : Int64) * (((31 : Int64) * (((31 : Int64) * (((31 : Int64) * a1) + r12.1)) + r14.1.toInt64)) + r16.1.toInt64)) + r18.1.toInt64)) + r20.1.toInt64)), (0, .ref (G.2.2 34)), (3, .int a3)]) hx hb dX9_digest_402 rfl hl (by decide) rfl (fun ls hl => ?_)
      refine lv_ldc2 hx hb hown (hts _ kw_861) dX9_digest_403 ?_
      refine lv_lload_n hx hb dX9_digest_406 rfl (lv_at hl 0 rfl) ?_
      refine lv_lmul hx hb dX9_digest_407 ?_
      refine lv_aload_n hx hb dX9_digest_408 rfl (lv_at hl 1 rfl) ?_
      refine lv_bipush (v := 100) hx hb dX9_digest_409 (by decide) ?_
      refine lv_iconst (v := 0) hx hb dX9_digest_411 (by decide) ?_
      obtain ⟨r22, h23, hf⟩ := xb_some hf
      refine x_cVi (As := [.int (100 : Int32), .int (0 : Int32)]) (rest := [.long ((31 : Int64) * (((31 : Int64) * (((31 : Int64) * (((31 : Int64) * (((31 : Int64) * (((31 : Int64) * a1) + r12.1)) + r14.1.toInt64)) + r16.1.toInt64)) + r18.1.toInt64)) + r20.1.toInt64))]) X hP hS kc_X9_176 (c_X9_nextOf l G n r20.2 (100 : Int32) (0 : Int32) r22.1 r22.2 h23) ⟨Nat.le_of_ble_eq_true rfl, Nat.le_of_ble_eq_true rfl⟩ (by decide) rfl rfl rfl hl.1 rfl (Nat.le_of_ble_eq_true rfl) ⟨Nat.zero_le _, Nat.zero_le _⟩ dX9_digest_412 (fun H locs hP hS => ?_)
      refine lv_i2l hx hb dX9_digest_415 rfl ?_
      refine lv_ladd hx hb dX9_digest_416 ?_
      refine lv_lstore_n (lv' := [(1, .long (((31 : Int64) * (((31 : Int64) * (((31 : Int64) * (((31 : Int64) * (((31 : Int64) * (((31 : Int64) * a1) + r12.1)) + r14.1.toInt64)) + r16.1.toInt64)) + r18.1.toInt64)) + r20.1.toInt64)) + r22.1.toInt64)), (0, .ref (G.2.2 34)), (3, .int a3)]) hx hb dX9_digest_417 rfl hl (by decide) rfl (fun ls hl => ?_)
      refine lv_ldc2 hx hb hown (hts _ kw_861) dX9_digest_418 ?_
      refine lv_lload_n hx hb dX9_digest_421 rfl (lv_at hl 0 rfl) ?_
      refine lv_lmul hx hb dX9_digest_422 ?_
      refine lv_aload_n hx hb dX9_digest_423 rfl (lv_at hl 1 rfl) ?_
      refine lv_bipush (v := 100) hx hb dX9_digest_424 (by decide) ?_
      refine lv_iconst (v := 1) hx hb dX9_digest_426 (by decide) ?_
      obtain ⟨r24, h25, hf⟩ := xb_some hf
      refine x_cVi (As := [.int (100 : Int32), .int (1 : Int32)]) (rest := [.long ((31 : Int64) * (((31 : Int64) * (((31 : Int64) * (((31 : Int64) * (((31 : Int64) * (((31 : Int64) * (((31 : Int64) * a1) + r12.1)) + r14.1.toInt64)) + r16.1.toInt64)) + r18.1.toInt64)) + r20.1.toInt64)) + r22.1.toInt64))]) X hP hS kc_X9_176 (c_X9_nextOf l G n r22.2 (100 : Int32) (1 : Int32) r24.1 r24.2 h25) ⟨Nat.le_of_ble_eq_true rfl, Nat.le_of_ble_eq_true rfl⟩ (by decide) rfl rfl rfl hl.1 rfl (Nat.le_of_ble_eq_true rfl) ⟨Nat.zero_le _, Nat.zero_le _⟩ dX9_digest_427 (fun H locs hP hS => ?_)
      refine lv_i2l hx hb dX9_digest_430 rfl ?_
      refine lv_ladd hx hb dX9_digest_431 ?_
      refine lv_lstore_n (lv' := [(1, .long (((31 : Int64) * (((31 : Int64) * (((31 : Int64) * (((31 : Int64) * (((31 : Int64) * (((31 : Int64) * (((31 : Int64) * a1) + r12.1)) + r14.1.toInt64)) + r16.1.toInt64)) + r18.1.toInt64)) + r20.1.toInt64)) + r22.1.toInt64)) + r24.1.toInt64)), (0, .ref (G.2.2 34)), (3, .int a3)]) hx hb dX9_digest_432 rfl hl (by decide) rfl (fun ls hl => ?_)
      refine lv_ldc2 hx hb hown (hts _ kw_861) dX9_digest_433 ?_
      refine lv_lload_n hx hb dX9_digest_436 rfl (lv_at hl 0 rfl) ?_
      refine lv_lmul hx hb dX9_digest_437 ?_
      refine lv_aload_n hx hb dX9_digest_438 rfl (lv_at hl 1 rfl) ?_
      obtain ⟨r26, h27, hf⟩ := xb_some hf
      refine x_cVi (As := []) (rest := [.long ((31 : Int64) * (((31 : Int64) * (((31 : Int64) * (((31 : Int64) * (((31 : Int64) * (((31 : Int64) * (((31 : Int64) * (((31 : Int64) * a1) + r12.1)) + r14.1.toInt64)) + r16.1.toInt64)) + r18.1.toInt64)) + r20.1.toInt64)) + r22.1.toInt64)) + r24.1.toInt64))]) X hP hS kc_X9_185 (c_X9_moreNow l G n r24.2  r26.1 r26.2 h27) ⟨Nat.le_of_ble_eq_true rfl, Nat.le_of_ble_eq_true rfl⟩ (by decide) rfl rfl rfl hl.1 rfl (Nat.le_of_ble_eq_true rfl) ⟨Nat.zero_le _, Nat.zero_le _⟩ dX9_digest_439 (fun H locs hP hS => ?_)
      refine lv_i2l hx hb dX9_digest_442 rfl ?_
      refine lv_ladd hx hb dX9_digest_443 ?_
      refine lv_lstore_n (lv' := [(1, .long (((31 : Int64) * (((31 : Int64) * (((31 : Int64) * (((31 : Int64) * (((31 : Int64) * (((31 : Int64) * (((31 : Int64) * (((31 : Int64) * a1) + r12.1)) + r14.1.toInt64)) + r16.1.toInt64)) + r18.1.toInt64)) + r20.1.toInt64)) + r22.1.toInt64)) + r24.1.toInt64)) + r26.1.toInt64)), (0, .ref (G.2.2 34)), (3, .int a3)]) hx hb dX9_digest_444 rfl hl (by decide) rfl (fun ls hl => ?_)
      refine lv_ldc2 hx hb hown (hts _ kw_861) dX9_digest_445 ?_
      refine lv_lload_n hx hb dX9_digest_448 rfl (lv_at hl 0 rfl) ?_
      refine lv_lmul hx hb dX9_digest_449 ?_
      refine lv_aload_n hx hb dX9_digest_450 rfl (lv_at hl 1 rfl) ?_
      refine lv_iconst (v := 0) hx hb dX9_digest_451 (by decide) ?_
      obtain ⟨r28, h29, hf⟩ := xb_some hf
      refine x_cVi (As := [.int (0 : Int32)]) (rest := [.long ((31 : Int64) * (((31 : Int64) * (((31 : Int64) * (((31 : Int64) * (((31 : Int64) * (((31 : Int64) * (((31 : Int64) * (((31 : Int64) * (((31 : Int64) * a1) + r12.1)) + r14.1.toInt64)) + r16.1.toInt64)) + r18.1.toInt64)) + r20.1.toInt64)) + r22.1.toInt64)) + r24.1.toInt64)) + r26.1.toInt64))]) X hP hS kc_X9_191 (c_X9_stonesOf l G n r26.2 (0 : Int32) r28.1 r28.2 h29) ⟨Nat.le_of_ble_eq_true rfl, Nat.le_of_ble_eq_true rfl⟩ (by decide) rfl rfl rfl hl.1 rfl (Nat.le_of_ble_eq_true rfl) ⟨Nat.zero_le _, Nat.zero_le _⟩ dX9_digest_452 (fun H locs hP hS => ?_)
      refine lv_i2l hx hb dX9_digest_455 rfl ?_
      refine lv_ladd hx hb dX9_digest_456 ?_
      refine lv_lstore_n (lv' := [(1, .long (((31 : Int64) * (((31 : Int64) * (((31 : Int64) * (((31 : Int64) * (((31 : Int64) * (((31 : Int64) * (((31 : Int64) * (((31 : Int64) * (((31 : Int64) * a1) + r12.1)) + r14.1.toInt64)) + r16.1.toInt64)) + r18.1.toInt64)) + r20.1.toInt64)) + r22.1.toInt64)) + r24.1.toInt64)) + r26.1.toInt64)) + r28.1.toInt64)), (0, .ref (G.2.2 34)), (3, .int a3)]) hx hb dX9_digest_457 rfl hl (by decide) rfl (fun ls hl => ?_)
      refine lv_ldc2 hx hb hown (hts _ kw_861) dX9_digest_458 ?_
      refine lv_lload_n hx hb dX9_digest_461 rfl (lv_at hl 0 rfl) ?_
      refine lv_lmul hx hb dX9_digest_462 ?_
      refine lv_aload_n hx hb dX9_digest_463 rfl (lv_at hl 1 rfl) ?_
      refine lv_iconst (v := 1) hx hb dX9_digest_464 (by decide) ?_
      obtain ⟨r30, h31, hf⟩ := xb_some hf
      refine x_cVi (As := [.int (1 : Int32)]) (rest := [.long ((31 : Int64) * (((31 : Int64) * (((31 : Int64) * (((31 : Int64) * (((31 : Int64) * (((31 : Int64) * (((31 : Int64) * (((31 : Int64) * (((31 : Int64) * (((31 : Int64) * a1) + r12.1)) + r14.1.toInt64)) + r16.1.toInt64)) + r18.1.toInt64)) + r20.1.toInt64)) + r22.1.toInt64)) + r24.1.toInt64)) + r26.1.toInt64)) + r28.1.toInt64))]) X hP hS kc_X9_191 (c_X9_stonesOf l G n r28.2 (1 : Int32) r30.1 r30.2 h31) ⟨Nat.le_of_ble_eq_true rfl, Nat.le_of_ble_eq_true rfl⟩ (by decide) rfl rfl rfl hl.1 rfl (Nat.le_of_ble_eq_true rfl) ⟨Nat.zero_le _, Nat.zero_le _⟩ dX9_digest_465 (fun H locs hP hS => ?_)
      refine lv_i2l hx hb dX9_digest_468 rfl ?_
      refine lv_ladd hx hb dX9_digest_469 ?_
      exact x_lret X hr hlk hP hS  ((Prod.mk.inj (Option.some.inj hf)).1) ((Prod.mk.inj (Option.some.inj hf)).2) dX9_digest_470
    · have hf := xif_f hf e11
      refine lv_iconst (v := 0) hx hb dX9_digest_276 (by decide) ?_
      refine lv_istore (lv' := [(4, .int (0 : Int32)), (0, .ref (G.2.2 34)), (1, .long a1), (3, .int a3)]) hx hb dX9_digest_277 hl (by decide) rfl (fun ls hl => ?_)
      exact t_X9_digest_279 X hr hlk  ih n S a1 a3 (0 : Int32) hf H locs ls hP hS (lv_sub hl [1, 2, 3, 0] rfl)
def b_X9_digest_190 (n : Nat) (k45 : xS → Int64 → Int32 → Option (Int64 × xS)) (k190 : xS → Int64 → Int32 → Int32 → Option (Int64 × xS)) (S : xS) (a1 : Int64) (a3 : Int32) (a4 : Int32) : Option (Int64 × xS) :=
  (if (3 : Int32) ≤ a4 then k45 S a1 (a3 + 1) else (f_X9_bearsOf n S a3 a4).bind fun r50 => (k190 S (((31 : Int64) * a1) + r50.toInt64) a3 (a4 + 1)))
def l_X9_digest_190 (n : Nat) (k45 : xS → Int64 → Int32 → Option (Int64 × xS)) : Nat → xS → Int64 → Int32 → Int32 → Option (Int64 × xS)
  | 0, _, _, _, _ => none
  | j + 1, S, a1, a3, a4 => b_X9_digest_190 n k45 (l_X9_digest_190 n k45 j) S a1 a3 a4
set_option maxHeartbeats 4000000 in
set_option maxRecDepth 100000 in
theorem t_X9_digest_190 {p : Program} {l : Launch} {e : Env} {s : State} {m : MethodId} {args : Array Value} {below : List Frame} {meth : Method} {c : Code} {G : xG} (X : xC p s m args c G RX9 cX9_digest 5) (hr : meth.sig.returnType = (some .long)) (hlk : meth.locks = false) {n : Nat} {r : Int64} {S' : xS} {k45 : xS → Int64 → Int32 → Option (Int64 × xS)} (hk45 : ∀ (S : xS) (a1 : Int64) (a3 : Int32), k45 S a1 a3 = some (r, S') → xGo p l e { frames := 7, cells := 0, slots := 0, locals := 167 } s m args below meth c G 5 0 0 (MQ below (xQl G r S') args s 0 0 (xA G)) S 45 [(0, .ref (G.2.2 34)), (1, .long a1), (3, .int a3)] []) : ∀ (j : Nat) (S : xS) (a1 : Int64) (a3 : Int32) (a4 : Int32), l_X9_digest_190 n k45 j S a1 a3 a4 = some (r, S') → xGo p l e { frames := 7, cells := 0, slots := 0, locals := 167 } s m args below meth c G 5 0 0 (MQ below (xQl G r S') args s 0 0 (xA G)) S 190 [(0, .ref (G.2.2 34)), (1, .long a1), (3, .int a3), (4, .int a4)] [] := by
  intro j
  induction j with
  | zero => intro S a1 a3 a4 hf; exact nomatch (show (none : Option (Int64 × xS)) = _ from hf)
  | succ j ih =>
    intro S a1 a3 a4 hf H locs ls hP hS hl
    have hf : b_X9_digest_190 n k45 (l_X9_digest_190 n k45 j) S a1 a3 a4 = some (r, S') := hf
    unfold b_X9_digest_190 at hf
    obtain ⟨hx, hb, hml, hown, hts, hE⟩ := id X
    refine lv_iload hx hb dX9_digest_190 (lv_at hl 3 rfl) ?_
    refine lv_iconst (v := 3) hx hb dX9_digest_192 (by decide) ?_
    refine lv_icmp_ge (tgt := 217) hx hb dX9_digest_193 (by decide) (fun e49 => ?_) (fun e49 => ?_)
    · have hf := xif_t hf e49
      refine lv_iinc (v := a3 + 1) (lv' := [(3, .int (a3 + 1)), (0, .ref (G.2.2 34)), (1, .long a1), (4, .int a4)]) hx hb dX9_digest_217 hl (k := 2) rfl rfl (by decide) rfl (fun ls hl => ?_)
      refine lv_goto (tgt := 45) hx hb dX9_digest_220 (by decide) ?_
      exact hk45 S a1 (a3 + 1) hf H locs ls hP hS (lv_sub hl [1, 2, 0] rfl)
    · have hf := xif_f hf e49
      refine lv_ldc2 hx hb hown (hts _ kw_861) dX9_digest_196 ?_
      refine lv_lload_n hx hb dX9_digest_199 rfl (lv_at hl 1 rfl) ?_
      refine lv_lmul hx hb dX9_digest_200 ?_
      refine lv_aload_n hx hb dX9_digest_201 rfl (lv_at hl 0 rfl) ?_
      refine lv_iload_n hx hb dX9_digest_202 rfl (lv_at hl 2 rfl) ?_
      refine lv_iload hx hb dX9_digest_203 (lv_at hl 3 rfl) ?_
      obtain ⟨r50, h51, hf⟩ := xb_some hf
      refine x_cVi (As := [.int a3, .int a4]) (rest := [.long ((31 : Int64) * a1)]) X hP hS kc_X9_179 (c_X9_bearsOf l G n S a3 a4 _ h51) ⟨Nat.le_of_ble_eq_true rfl, Nat.le_of_ble_eq_true rfl⟩ (by decide) rfl rfl rfl hl.1 rfl (Nat.le_of_ble_eq_true rfl) ⟨Nat.zero_le _, Nat.zero_le _⟩ dX9_digest_205 (fun H locs hP hS => ?_)
      refine lv_i2l hx hb dX9_digest_208 rfl ?_
      refine lv_ladd hx hb dX9_digest_209 ?_
      refine lv_lstore_n (lv' := [(1, .long (((31 : Int64) * a1) + r50.toInt64)), (0, .ref (G.2.2 34)), (3, .int a3), (4, .int a4)]) hx hb dX9_digest_210 rfl hl (by decide) rfl (fun ls hl => ?_)
      refine lv_iinc (v := a4 + 1) (lv' := [(4, .int (a4 + 1)), (1, .long (((31 : Int64) * a1) + r50.toInt64)), (0, .ref (G.2.2 34)), (3, .int a3)]) hx hb dX9_digest_211 hl (k := 3) rfl rfl (by decide) rfl (fun ls hl => ?_)
      refine lv_goto (tgt := 190) hx hb dX9_digest_214 (by decide) ?_
      exact ih S (((31 : Int64) * a1) + r50.toInt64) a3 (a4 + 1) hf H locs ls hP hS (lv_sub hl [2, 1, 3, 0] rfl)
def b_X9_digest_128 (n : Nat) (k45 : xS → Int64 → Int32 → Option (Int64 × xS)) (k128 : xS → Int64 → Int32 → Int32 → Option (Int64 × xS)) (S : xS) (a1 : Int64) (a3 : Int32) (a4 : Int32) : Option (Int64 × xS) :=
  (if (3 : Int32) ≤ a4 then (f_X9_oddsOf n S a3 (0 : Int32) (0 : Int32)).bind fun r45 => ((f_X9_oddsOf n r45.2 a3 (0 : Int32) (1 : Int32)).bind fun r47 => (l_X9_digest_190 n k45 n r47.2 (((31 : Int64) * (((31 : Int64) * a1) + r45.1)) + r47.1) a3 (0 : Int32))) else (f_X9_evenOf n S a3 (15 : Int32) (20 : Int32) a4).bind fun r52 => (k128 S (((31 : Int64) * a1) + r52.toInt64) a3 (a4 + 1)))
def l_X9_digest_128 (n : Nat) (k45 : xS → Int64 → Int32 → Option (Int64 × xS)) : Nat → xS → Int64 → Int32 → Int32 → Option (Int64 × xS)
  | 0, _, _, _, _ => none
  | j + 1, S, a1, a3, a4 => b_X9_digest_128 n k45 (l_X9_digest_128 n k45 j) S a1 a3 a4
set_option maxHeartbeats 4000000 in
set_option maxRecDepth 100000 in
theorem t_X9_digest_128 {p : Program} {l : Launch} {e : Env} {s : State} {m : MethodId} {args : Array Value} {below : List Frame} {meth : Method} {c : Code} {G : xG} (X : xC p s m args c G RX9 cX9_digest 5) (hr : meth.sig.returnType = (some .long)) (hlk : meth.locks = false) {n : Nat} {r : Int64} {S' : xS} {k45 : xS → Int64 → Int32 → Option (Int64 × xS)} (hk45 : ∀ (S : xS) (a1 : Int64) (a3 : Int32), k45 S a1 a3 = some (r, S') → xGo p l e { frames := 7, cells := 0, slots := 0, locals := 167 } s m args below meth c G 5 0 0 (MQ below (xQl G r S') args s 0 0 (xA G)) S 45 [(0, .ref (G.2.2 34)), (1, .long a1), (3, .int a3)] []) : ∀ (j : Nat) (S : xS) (a1 : Int64) (a3 : Int32) (a4 : Int32), l_X9_digest_128 n k45 j S a1 a3 a4 = some (r, S') → xGo p l e { frames := 7, cells := 0, slots := 0, locals := 167 } s m args below meth c G 5 0 0 (MQ below (xQl G r S') args s 0 0 (xA G)) S 128 [(0, .ref (G.2.2 34)), (1, .long a1), (3, .int a3), (4, .int a4)] [] := by
  intro j
  induction j with
  | zero => intro S a1 a3 a4 hf; exact nomatch (show (none : Option (Int64 × xS)) = _ from hf)
  | succ j ih =>
    intro S a1 a3 a4 hf H locs ls hP hS hl
    have hf : b_X9_digest_128 n k45 (l_X9_digest_128 n k45 j) S a1 a3 a4 = some (r, S') := hf
    unfold b_X9_digest_128 at hf
    obtain ⟨hx, hb, hml, hown, hts, hE⟩ := id X
    refine lv_iload hx hb dX9_digest_128 (lv_at hl 3 rfl) ?_
    refine lv_iconst (v := 3) hx hb dX9_digest_130 (by decide) ?_
    refine lv_icmp_ge (tgt := 159) hx hb dX9_digest_131 (by decide) (fun e44 => ?_) (fun e44 => ?_)
    · have hf := xif_t hf e44
      refine lv_ldc2 hx hb hown (hts _ kw_861) dX9_digest_159 ?_
      refine lv_lload_n hx hb dX9_digest_162 rfl (lv_at hl 1 rfl) ?_
      refine lv_lmul hx hb dX9_digest_163 ?_
      refine lv_aload_n hx hb dX9_digest_164 rfl (lv_at hl 0 rfl) ?_
      refine lv_iload_n hx hb dX9_digest_165 rfl (lv_at hl 2 rfl) ?_
      refine lv_iconst (v := 0) hx hb dX9_digest_166 (by decide) ?_
      refine lv_iconst (v := 0) hx hb dX9_digest_167 (by decide) ?_
      obtain ⟨r45, h46, hf⟩ := xb_some hf
      refine x_cVl (As := [.int a3, .int (0 : Int32), .int (0 : Int32)]) (rest := [.long ((31 : Int64) * a1)]) X hP hS kc_X9_160 (c_X9_oddsOf l G n S a3 (0 : Int32) (0 : Int32) r45.1 r45.2 h46) ⟨Nat.le_of_ble_eq_true rfl, Nat.le_of_ble_eq_true rfl⟩ (by decide) rfl rfl rfl hl.1 rfl (Nat.le_of_ble_eq_true rfl) ⟨Nat.zero_le _, Nat.zero_le _⟩ dX9_digest_168 (fun H locs hP hS => ?_)
      refine lv_ladd hx hb dX9_digest_171 ?_
      refine lv_lstore_n (lv' := [(1, .long (((31 : Int64) * a1) + r45.1)), (0, .ref (G.2.2 34)), (3, .int a3), (4, .int a4)]) hx hb dX9_digest_172 rfl hl (by decide) rfl (fun ls hl => ?_)
      refine lv_ldc2 hx hb hown (hts _ kw_861) dX9_digest_173 ?_
      refine lv_lload_n hx hb dX9_digest_176 rfl (lv_at hl 0 rfl) ?_
      refine lv_lmul hx hb dX9_digest_177 ?_
      refine lv_aload_n hx hb dX9_digest_178 rfl (lv_at hl 1 rfl) ?_
      refine lv_iload_n hx hb dX9_digest_179 rfl (lv_at hl 2 rfl) ?_
      refine lv_iconst (v := 0) hx hb dX9_digest_180 (by decide) ?_
      refine lv_iconst (v := 1) hx hb dX9_digest_181 (by decide) ?_
      obtain ⟨r47, h48, hf⟩ := xb_some hf
      refine x_cVl (As := [.int a3, .int (0 : Int32), .int (1 : Int32)]) (rest := [.long ((31 : Int64) * (((31 : Int64) * a1) + r45.1))]) X hP hS kc_X9_160 (c_X9_oddsOf l G n r45.2 a3 (0 : Int32) (1 : Int32) r47.1 r47.2 h48) ⟨Nat.le_of_ble_eq_true rfl, Nat.le_of_ble_eq_true rfl⟩ (by decide) rfl rfl rfl hl.1 rfl (Nat.le_of_ble_eq_true rfl) ⟨Nat.zero_le _, Nat.zero_le _⟩ dX9_digest_182 (fun H locs hP hS => ?_)
      refine lv_ladd hx hb dX9_digest_185 ?_
      refine lv_lstore_n (lv' := [(1, .long (((31 : Int64) * (((31 : Int64) * a1) + r45.1)) + r47.1)), (0, .ref (G.2.2 34)), (3, .int a3), (4, .int a4)]) hx hb dX9_digest_186 rfl hl (by decide) rfl (fun ls hl => ?_)
      refine lv_iconst (v := 0) hx hb dX9_digest_187 (by decide) ?_
      refine lv_istore (lv' := [(4, .int (0 : Int32)), (1, .long (((31 : Int64) * (((31 : Int64) * a1) + r45.1)) + r47.1)), (0, .ref (G.2.2 34)), (3, .int a3)]) hx hb dX9_digest_188 hl (by decide) rfl (fun ls hl => ?_)
      exact t_X9_digest_190 X hr hlk  hk45 n r47.2 (((31 : Int64) * (((31 : Int64) * a1) + r45.1)) + r47.1) a3 (0 : Int32) hf H locs ls hP hS (lv_sub hl [2, 1, 3, 0] rfl)
    · have hf := xif_f hf e44
      refine lv_ldc2 hx hb hown (hts _ kw_861) dX9_digest_134 ?_
      refine lv_lload_n hx hb dX9_digest_137 rfl (lv_at hl 1 rfl) ?_
      refine lv_lmul hx hb dX9_digest_138 ?_
      refine lv_aload_n hx hb dX9_digest_139 rfl (lv_at hl 0 rfl) ?_
      refine lv_iload_n hx hb dX9_digest_140 rfl (lv_at hl 2 rfl) ?_
      refine lv_bipush (v := 15) hx hb dX9_digest_141 (by decide) ?_
      refine lv_bipush (v := 20) hx hb dX9_digest_143 (by decide) ?_
      refine lv_iload hx hb dX9_digest_145 (lv_at hl 3 rfl) ?_
      obtain ⟨r52, h53, hf⟩ := xb_some hf
      refine x_cVi (As := [.int a3, .int (15 : Int32), .int (20 : Int32), .int a4]) (rest := [.long ((31 : Int64) * a1)]) X hP hS kc_X9_121 (c_X9_evenOf l G n S a3 (15 : Int32) (20 : Int32) a4 _ h53) ⟨Nat.le_of_ble_eq_true rfl, Nat.le_of_ble_eq_true rfl⟩ (by decide) rfl rfl rfl hl.1 rfl (Nat.le_of_ble_eq_true rfl) ⟨Nat.zero_le _, Nat.zero_le _⟩ dX9_digest_147 (fun H locs hP hS => ?_)
      refine lv_i2l hx hb dX9_digest_150 rfl ?_
      refine lv_ladd hx hb dX9_digest_151 ?_
      refine lv_lstore_n (lv' := [(1, .long (((31 : Int64) * a1) + r52.toInt64)), (0, .ref (G.2.2 34)), (3, .int a3), (4, .int a4)]) hx hb dX9_digest_152 rfl hl (by decide) rfl (fun ls hl => ?_)
      refine lv_iinc (v := a4 + 1) (lv' := [(4, .int (a4 + 1)), (1, .long (((31 : Int64) * a1) + r52.toInt64)), (0, .ref (G.2.2 34)), (3, .int a3)]) hx hb dX9_digest_153 hl (k := 3) rfl rfl (by decide) rfl (fun ls hl => ?_)
      refine lv_goto (tgt := 128) hx hb dX9_digest_156 (by decide) ?_
      exact ih S (((31 : Int64) * a1) + r52.toInt64) a3 (a4 + 1) hf H locs ls hP hS (lv_sub hl [2, 1, 3, 0] rfl)
def b_X9_digest_56 (n : Nat) (k45 : xS → Int64 → Int32 → Option (Int64 × xS)) (k56 : xS → Int64 → Int32 → Int32 → Option (Int64 × xS)) (S : xS) (a1 : Int64) (a3 : Int32) (a4 : Int32) : Option (Int64 × xS) :=
  (if (6 : Int32) ≤ a4 then (f_X9_sillOf n S a3 (0 : Int32)).bind fun r38 => ((f_X9_sillOf n S a3 (2 : Int32)).bind fun r40 => ((f_X9_fitsOf n S a3).bind fun r42 => (l_X9_digest_128 n k45 n S (((31 : Int64) * (((31 : Int64) * (((31 : Int64) * a1) + r38.toInt64)) + r40.toInt64)) + r42.toInt64) a3 (0 : Int32)))) else (f_X9_floorOf n S a3 a4).bind fun r54 => (k56 S (((31 : Int64) * a1) + r54.toInt64) a3 (a4 + 1)))
def l_X9_digest_56 (n : Nat) (k45 : xS → Int64 → Int32 → Option (Int64 × xS)) : Nat → xS → Int64 → Int32 → Int32 → Option (Int64 × xS)
  | 0, _, _, _, _ => none
  | j + 1, S, a1, a3, a4 => b_X9_digest_56 n k45 (l_X9_digest_56 n k45 j) S a1 a3 a4
set_option maxHeartbeats 4000000 in
set_option maxRecDepth 100000 in
theorem t_X9_digest_56 {p : Program} {l : Launch} {e : Env} {s : State} {m : MethodId} {args : Array Value} {below : List Frame} {meth : Method} {c : Code} {G : xG} (X : xC p s m args c G RX9 cX9_digest 5) (hr : meth.sig.returnType = (some .long)) (hlk : meth.locks = false) {n : Nat} {r : Int64} {S' : xS} {k45 : xS → Int64 → Int32 → Option (Int64 × xS)} (hk45 : ∀ (S : xS) (a1 : Int64) (a3 : Int32), k45 S a1 a3 = some (r, S') → xGo p l e { frames := 7, cells := 0, slots := 0, locals := 167 } s m args below meth c G 5 0 0 (MQ below (xQl G r S') args s 0 0 (xA G)) S 45 [(0, .ref (G.2.2 34)), (1, .long a1), (3, .int a3)] []) : ∀ (j : Nat) (S : xS) (a1 : Int64) (a3 : Int32) (a4 : Int32), l_X9_digest_56 n k45 j S a1 a3 a4 = some (r, S') → xGo p l e { frames := 7, cells := 0, slots := 0, locals := 167 } s m args below meth c G 5 0 0 (MQ below (xQl G r S') args s 0 0 (xA G)) S 56 [(0, .ref (G.2.2 34)), (1, .long a1), (3, .int a3), (4, .int a4)] [] := by
  intro j
  induction j with
  | zero => intro S a1 a3 a4 hf; exact nomatch (show (none : Option (Int64 × xS)) = _ from hf)
  | succ j ih =>
    intro S a1 a3 a4 hf H locs ls hP hS hl
    have hf : b_X9_digest_56 n k45 (l_X9_digest_56 n k45 j) S a1 a3 a4 = some (r, S') := hf
    unfold b_X9_digest_56 at hf
    obtain ⟨hx, hb, hml, hown, hts, hE⟩ := id X
    refine lv_iload hx hb dX9_digest_56 (lv_at hl 3 rfl) ?_
    refine lv_bipush (v := 6) hx hb dX9_digest_58 (by decide) ?_
    refine lv_icmp_ge (tgt := 84) hx hb dX9_digest_60 (by decide) (fun e37 => ?_) (fun e37 => ?_)
    · have hf := xif_t hf e37
      refine lv_ldc2 hx hb hown (hts _ kw_861) dX9_digest_84 ?_
      refine lv_lload_n hx hb dX9_digest_87 rfl (lv_at hl 1 rfl) ?_
      refine lv_lmul hx hb dX9_digest_88 ?_
      refine lv_aload_n hx hb dX9_digest_89 rfl (lv_at hl 0 rfl) ?_
      refine lv_iload_n hx hb dX9_digest_90 rfl (lv_at hl 2 rfl) ?_
      refine lv_iconst (v := 0) hx hb dX9_digest_91 (by decide) ?_
      obtain ⟨r38, h39, hf⟩ := xb_some hf
      refine x_cVi (As := [.int a3, .int (0 : Int32)]) (rest := [.long ((31 : Int64) * a1)]) X hP hS kc_X9_112 (c_X9_sillOf l G n S a3 (0 : Int32) _ h39) ⟨Nat.le_of_ble_eq_true rfl, Nat.le_of_ble_eq_true rfl⟩ (by decide) rfl rfl rfl hl.1 rfl (Nat.le_of_ble_eq_true rfl) ⟨Nat.zero_le _, Nat.zero_le _⟩ dX9_digest_92 (fun H locs hP hS => ?_)
      refine lv_i2l hx hb dX9_digest_95 rfl ?_
      refine lv_ladd hx hb dX9_digest_96 ?_
      refine lv_lstore_n (lv' := [(1, .long (((31 : Int64) * a1) + r38.toInt64)), (0, .ref (G.2.2 34)), (3, .int a3), (4, .int a4)]) hx hb dX9_digest_97 rfl hl (by decide) rfl (fun ls hl => ?_)
      refine lv_ldc2 hx hb hown (hts _ kw_861) dX9_digest_98 ?_
      refine lv_lload_n hx hb dX9_digest_101 rfl (lv_at hl 0 rfl) ?_
      refine lv_lmul hx hb dX9_digest_102 ?_
      refine lv_aload_n hx hb dX9_digest_103 rfl (lv_at hl 1 rfl) ?_
      refine lv_iload_n hx hb dX9_digest_104 rfl (lv_at hl 2 rfl) ?_
      refine lv_iconst (v := 2) hx hb dX9_digest_105 (by decide) ?_
      obtain ⟨r40, h41, hf⟩ := xb_some hf
      refine x_cVi (As := [.int a3, .int (2 : Int32)]) (rest := [.long ((31 : Int64) * (((31 : Int64) * a1) + r38.toInt64))]) X hP hS kc_X9_112 (c_X9_sillOf l G n S a3 (2 : Int32) _ h41) ⟨Nat.le_of_ble_eq_true rfl, Nat.le_of_ble_eq_true rfl⟩ (by decide) rfl rfl rfl hl.1 rfl (Nat.le_of_ble_eq_true rfl) ⟨Nat.zero_le _, Nat.zero_le _⟩ dX9_digest_106 (fun H locs hP hS => ?_)
      refine lv_i2l hx hb dX9_digest_109 rfl ?_
      refine lv_ladd hx hb dX9_digest_110 ?_
      refine lv_lstore_n (lv' := [(1, .long (((31 : Int64) * (((31 : Int64) * a1) + r38.toInt64)) + r40.toInt64)), (0, .ref (G.2.2 34)), (3, .int a3), (4, .int a4)]) hx hb dX9_digest_111 rfl hl (by decide) rfl (fun ls hl => ?_)
      refine lv_ldc2 hx hb hown (hts _ kw_861) dX9_digest_112 ?_
      refine lv_lload_n hx hb dX9_digest_115 rfl (lv_at hl 0 rfl) ?_
      refine lv_lmul hx hb dX9_digest_116 ?_
      refine lv_aload_n hx hb dX9_digest_117 rfl (lv_at hl 1 rfl) ?_
      refine lv_iload_n hx hb dX9_digest_118 rfl (lv_at hl 2 rfl) ?_
      obtain ⟨r42, h43, hf⟩ := xb_some hf
      refine x_cVi (As := [.int a3]) (rest := [.long ((31 : Int64) * (((31 : Int64) * (((31 : Int64) * a1) + r38.toInt64)) + r40.toInt64))]) X hP hS kc_X9_153 (c_X9_fitsOf l G n S a3 _ h43) ⟨Nat.le_of_ble_eq_true rfl, Nat.le_of_ble_eq_true rfl⟩ (by decide) rfl rfl rfl hl.1 rfl (Nat.le_of_ble_eq_true rfl) ⟨Nat.zero_le _, Nat.zero_le _⟩ dX9_digest_119 (fun H locs hP hS => ?_)
      refine lv_i2l hx hb dX9_digest_122 rfl ?_
      refine lv_ladd hx hb dX9_digest_123 ?_
      refine lv_lstore_n (lv' := [(1, .long (((31 : Int64) * (((31 : Int64) * (((31 : Int64) * a1) + r38.toInt64)) + r40.toInt64)) + r42.toInt64)), (0, .ref (G.2.2 34)), (3, .int a3), (4, .int a4)]) hx hb dX9_digest_124 rfl hl (by decide) rfl (fun ls hl => ?_)
      refine lv_iconst (v := 0) hx hb dX9_digest_125 (by decide) ?_
      refine lv_istore (lv' := [(4, .int (0 : Int32)), (1, .long (((31 : Int64) * (((31 : Int64) * (((31 : Int64) * a1) + r38.toInt64)) + r40.toInt64)) + r42.toInt64)), (0, .ref (G.2.2 34)), (3, .int a3)]) hx hb dX9_digest_126 hl (by decide) rfl (fun ls hl => ?_)
      exact t_X9_digest_128 X hr hlk  hk45 n S (((31 : Int64) * (((31 : Int64) * (((31 : Int64) * a1) + r38.toInt64)) + r40.toInt64)) + r42.toInt64) a3 (0 : Int32) hf H locs ls hP hS (lv_sub hl [2, 1, 3, 0] rfl)
    · have hf := xif_f hf e37
      refine lv_ldc2 hx hb hown (hts _ kw_861) dX9_digest_63 ?_
      refine lv_lload_n hx hb dX9_digest_66 rfl (lv_at hl 1 rfl) ?_
      refine lv_lmul hx hb dX9_digest_67 ?_
      refine lv_aload_n hx hb dX9_digest_68 rfl (lv_at hl 0 rfl) ?_
      refine lv_iload_n hx hb dX9_digest_69 rfl (lv_at hl 2 rfl) ?_
      refine lv_iload hx hb dX9_digest_70 (lv_at hl 3 rfl) ?_
      obtain ⟨r54, h55, hf⟩ := xb_some hf
      refine x_cVi (As := [.int a3, .int a4]) (rest := [.long ((31 : Int64) * a1)]) X hP hS kc_X9_107 (c_X9_floorOf l G n S a3 a4 _ h55) ⟨Nat.le_of_ble_eq_true rfl, Nat.le_of_ble_eq_true rfl⟩ (by decide) rfl rfl rfl hl.1 rfl (Nat.le_of_ble_eq_true rfl) ⟨Nat.zero_le _, Nat.zero_le _⟩ dX9_digest_72 (fun H locs hP hS => ?_)
      refine lv_i2l hx hb dX9_digest_75 rfl ?_
      refine lv_ladd hx hb dX9_digest_76 ?_
      refine lv_lstore_n (lv' := [(1, .long (((31 : Int64) * a1) + r54.toInt64)), (0, .ref (G.2.2 34)), (3, .int a3), (4, .int a4)]) hx hb dX9_digest_77 rfl hl (by decide) rfl (fun ls hl => ?_)
      refine lv_iinc (v := a4 + 1) (lv' := [(4, .int (a4 + 1)), (1, .long (((31 : Int64) * a1) + r54.toInt64)), (0, .ref (G.2.2 34)), (3, .int a3)]) hx hb dX9_digest_78 hl (k := 3) rfl rfl (by decide) rfl (fun ls hl => ?_)
      refine lv_goto (tgt := 56) hx hb dX9_digest_81 (by decide) ?_
      exact ih S (((31 : Int64) * a1) + r54.toInt64) a3 (a4 + 1) hf H locs ls hP hS (lv_sub hl [2, 1, 3, 0] rfl)
def b_X9_digest_45 (n : Nat) (k45 : xS → Int64 → Int32 → Option (Int64 × xS)) (S : xS) (a1 : Int64) (a3 : Int32) : Option (Int64 × xS) :=
  (if (S.1 34 5) ≤ a3 then (f_X9_sillOf n S (S.1 34 5) (0 : Int32)).bind fun r5 => ((f_X9_sillOf n S (S.1 34 5) (2 : Int32)).bind fun r7 => ((f_X9_worstNow n S).bind fun r9 => (l_X9_digest_271 n n r9.2 (((31 : Int64) * (((31 : Int64) * (((31 : Int64) * a1) + r5.toInt64)) + r7.toInt64)) + r9.1.toInt64) (0 : Int32)))) else l_X9_digest_56 n k45 n S a1 a3 (0 : Int32))
def l_X9_digest_45 (n : Nat) : Nat → xS → Int64 → Int32 → Option (Int64 × xS)
  | 0, _, _, _ => none
  | j + 1, S, a1, a3 => b_X9_digest_45 n (l_X9_digest_45 n j) S a1 a3
set_option maxHeartbeats 4000000 in
set_option maxRecDepth 100000 in
theorem t_X9_digest_45 {p : Program} {l : Launch} {e : Env} {s : State} {m : MethodId} {args : Array Value} {below : List Frame} {meth : Method} {c : Code} {G : xG} (X : xC p s m args c G RX9 cX9_digest 5) (hr : meth.sig.returnType = (some .long)) (hlk : meth.locks = false) {n : Nat} {r : Int64} {S' : xS} : ∀ (j : Nat) (S : xS) (a1 : Int64) (a3 : Int32), l_X9_digest_45 n j S a1 a3 = some (r, S') → xGo p l e { frames := 7, cells := 0, slots := 0, locals := 167 } s m args below meth c G 5 0 0 (MQ below (xQl G r S') args s 0 0 (xA G)) S 45 [(0, .ref (G.2.2 34)), (1, .long a1), (3, .int a3)] [] := by
  intro j
  induction j with
  | zero => intro S a1 a3 hf; exact nomatch (show (none : Option (Int64 × xS)) = _ from hf)
  | succ j ih =>
    intro S a1 a3 hf H locs ls hP hS hl
    have hf : b_X9_digest_45 n (l_X9_digest_45 n j) S a1 a3 = some (r, S') := hf
    unfold b_X9_digest_45 at hf
    obtain ⟨hx, hb, hml, hown, hts, hE⟩ := id X
    refine lv_iload_n hx hb dX9_digest_45 rfl (lv_at hl 2 rfl) ?_
    refine lv_aload_n hx hb dX9_digest_46 rfl (lv_at hl 0 rfl) ?_
    refine x_getI X hP fl_X9_83 (by decide) rfl rfl dX9_digest_47 ?_
    refine lv_icmp_ge (tgt := 223) hx hb dX9_digest_50 (by decide) (fun e4 => ?_) (fun e4 => ?_)
    · have hf := xif_t hf e4
      refine lv_ldc2 hx hb hown (hts _ kw_861) dX9_digest_223 ?_
      refine lv_lload_n hx hb dX9_digest_226 rfl (lv_at hl 1 rfl) ?_
      refine lv_lmul hx hb dX9_digest_227 ?_
      refine lv_aload_n hx hb dX9_digest_228 rfl (lv_at hl 0 rfl) ?_
      refine lv_aload_n hx hb dX9_digest_229 rfl (lv_at hl 0 rfl) ?_
      refine x_getI X hP fl_X9_83 (by decide) rfl rfl dX9_digest_230 ?_
      refine lv_iconst (v := 0) hx hb dX9_digest_233 (by decide) ?_
      obtain ⟨r5, h6, hf⟩ := xb_some hf
      refine x_cVi (As := [.int (S.1 34 5), .int (0 : Int32)]) (rest := [.long ((31 : Int64) * a1)]) X hP hS kc_X9_112 (c_X9_sillOf l G n S (S.1 34 5) (0 : Int32) _ h6) ⟨Nat.le_of_ble_eq_true rfl, Nat.le_of_ble_eq_true rfl⟩ (by decide) rfl rfl rfl hl.1 rfl (Nat.le_of_ble_eq_true rfl) ⟨Nat.zero_le _, Nat.zero_le _⟩ dX9_digest_234 (fun H locs hP hS => ?_)
      refine lv_i2l hx hb dX9_digest_237 rfl ?_
      refine lv_ladd hx hb dX9_digest_238 ?_
      refine lv_lstore_n (lv' := [(1, .long (((31 : Int64) * a1) + r5.toInt64)), (0, .ref (G.2.2 34)), (3, .int a3)]) hx hb dX9_digest_239 rfl hl (by decide) rfl (fun ls hl => ?_)
      refine lv_ldc2 hx hb hown (hts _ kw_861) dX9_digest_240 ?_
      refine lv_lload_n hx hb dX9_digest_243 rfl (lv_at hl 0 rfl) ?_
      refine lv_lmul hx hb dX9_digest_244 ?_
      refine lv_aload_n hx hb dX9_digest_245 rfl (lv_at hl 1 rfl) ?_
      refine lv_aload_n hx hb dX9_digest_246 rfl (lv_at hl 1 rfl) ?_
      refine x_getI X hP fl_X9_83 (by decide) rfl rfl dX9_digest_247 ?_
      refine lv_iconst (v := 2) hx hb dX9_digest_250 (by decide) ?_
      obtain ⟨r7, h8, hf⟩ := xb_some hf
      refine x_cVi (As := [.int (S.1 34 5), .int (2 : Int32)]) (rest := [.long ((31 : Int64) * (((31 : Int64) * a1) + r5.toInt64))]) X hP hS kc_X9_112 (c_X9_sillOf l G n S (S.1 34 5) (2 : Int32) _ h8) ⟨Nat.le_of_ble_eq_true rfl, Nat.le_of_ble_eq_true rfl⟩ (by decide) rfl rfl rfl hl.1 rfl (Nat.le_of_ble_eq_true rfl) ⟨Nat.zero_le _, Nat.zero_le _⟩ dX9_digest_251 (fun H locs hP hS => ?_)
      refine lv_i2l hx hb dX9_digest_254 rfl ?_
      refine lv_ladd hx hb dX9_digest_255 ?_
      refine lv_lstore_n (lv' := [(1, .long (((31 : Int64) * (((31 : Int64) * a1) + r5.toInt64)) + r7.toInt64)), (0, .ref (G.2.2 34)), (3, .int a3)]) hx hb dX9_digest_256 rfl hl (by decide) rfl (fun ls hl => ?_)
      refine lv_ldc2 hx hb hown (hts _ kw_861) dX9_digest_257 ?_
      refine lv_lload_n hx hb dX9_digest_260 rfl (lv_at hl 0 rfl) ?_
      refine lv_lmul hx hb dX9_digest_261 ?_
      refine lv_aload_n hx hb dX9_digest_262 rfl (lv_at hl 1 rfl) ?_
      obtain ⟨r9, h10, hf⟩ := xb_some hf
      refine x_cVi (As := []) (rest := [.long ((31 : Int64) * (((31 : Int64) * (((31 : Int64) * a1) + r5.toInt64)) + r7.toInt64))]) X hP hS kc_X9_118 (c_X9_worstNow l G n S  r9.1 r9.2 h10) ⟨Nat.le_of_ble_eq_true rfl, Nat.le_of_ble_eq_true rfl⟩ (by decide) rfl rfl rfl hl.1 rfl (Nat.le_of_ble_eq_true rfl) ⟨Nat.zero_le _, Nat.zero_le _⟩ dX9_digest_263 (fun H locs hP hS => ?_)
      refine lv_i2l hx hb dX9_digest_266 rfl ?_
      refine lv_ladd hx hb dX9_digest_267 ?_
      refine lv_lstore_n (lv' := [(1, .long (((31 : Int64) * (((31 : Int64) * (((31 : Int64) * a1) + r5.toInt64)) + r7.toInt64)) + r9.1.toInt64)), (0, .ref (G.2.2 34)), (3, .int a3)]) hx hb dX9_digest_268 rfl hl (by decide) rfl (fun ls hl => ?_)
      refine lv_iconst (v := 0) hx hb dX9_digest_269 (by decide) ?_
      refine lv_istore_n (lv' := [(3, .int (0 : Int32)), (1, .long (((31 : Int64) * (((31 : Int64) * (((31 : Int64) * a1) + r5.toInt64)) + r7.toInt64)) + r9.1.toInt64)), (0, .ref (G.2.2 34))]) hx hb dX9_digest_270 rfl hl (by decide) rfl (fun ls hl => ?_)
      exact t_X9_digest_271 X hr hlk   n r9.2 (((31 : Int64) * (((31 : Int64) * (((31 : Int64) * a1) + r5.toInt64)) + r7.toInt64)) + r9.1.toInt64) (0 : Int32) hf H locs ls hP hS (lv_sub hl [2, 1, 0] rfl)
    · have hf := xif_f hf e4
      refine lv_iconst (v := 0) hx hb dX9_digest_53 (by decide) ?_
      refine lv_istore (lv' := [(4, .int (0 : Int32)), (0, .ref (G.2.2 34)), (1, .long a1), (3, .int a3)]) hx hb dX9_digest_54 hl (by decide) rfl (fun ls hl => ?_)
      exact t_X9_digest_56 X hr hlk  ih n S a1 a3 (0 : Int32) hf H locs ls hP hS (lv_sub hl [1, 2, 3, 0] rfl)
def b_X9_digest_6 (n : Nat) (k6 : xS → Int64 → Int32 → Option (Int64 × xS)) (S : xS) (a1 : Int64) (a3 : Int32) : Option (Int64 × xS) :=
  (if (8 : Int32) ≤ a3 then (f_X9_reads n S).bind fun r2 => (l_X9_digest_45 n n r2.2 (((31 : Int64) * a1) + r2.1.toInt64) (0 : Int32)) else (f_X9_count n S a3).bind fun r56 => (k6 r56.2 (((31 : Int64) * a1) + r56.1.toInt64) (a3 + 1)))
def l_X9_digest_6 (n : Nat) : Nat → xS → Int64 → Int32 → Option (Int64 × xS)
  | 0, _, _, _ => none
  | j + 1, S, a1, a3 => b_X9_digest_6 n (l_X9_digest_6 n j) S a1 a3
set_option maxHeartbeats 4000000 in
set_option maxRecDepth 100000 in
theorem t_X9_digest_6 {p : Program} {l : Launch} {e : Env} {s : State} {m : MethodId} {args : Array Value} {below : List Frame} {meth : Method} {c : Code} {G : xG} (X : xC p s m args c G RX9 cX9_digest 5) (hr : meth.sig.returnType = (some .long)) (hlk : meth.locks = false) {n : Nat} {r : Int64} {S' : xS} : ∀ (j : Nat) (S : xS) (a1 : Int64) (a3 : Int32), l_X9_digest_6 n j S a1 a3 = some (r, S') → xGo p l e { frames := 7, cells := 0, slots := 0, locals := 167 } s m args below meth c G 5 0 0 (MQ below (xQl G r S') args s 0 0 (xA G)) S 6 [(0, .ref (G.2.2 34)), (1, .long a1), (3, .int a3)] [] := by
  intro j
  induction j with
  | zero => intro S a1 a3 hf; exact nomatch (show (none : Option (Int64 × xS)) = _ from hf)
  | succ j ih =>
    intro S a1 a3 hf H locs ls hP hS hl
    have hf : b_X9_digest_6 n (l_X9_digest_6 n j) S a1 a3 = some (r, S') := hf
    unfold b_X9_digest_6 at hf
    obtain ⟨hx, hb, hml, hown, hts, hE⟩ := id X
    refine lv_iload_n hx hb dX9_digest_6 rfl (lv_at hl 2 rfl) ?_
    refine lv_bipush (v := 8) hx hb dX9_digest_7 (by decide) ?_
    refine lv_icmp_ge (tgt := 31) hx hb dX9_digest_9 (by decide) (fun e1 => ?_) (fun e1 => ?_)
    · have hf := xif_t hf e1
      refine lv_ldc2 hx hb hown (hts _ kw_861) dX9_digest_31 ?_
      refine lv_lload_n hx hb dX9_digest_34 rfl (lv_at hl 1 rfl) ?_
      refine lv_lmul hx hb dX9_digest_35 ?_
      refine lv_aload_n hx hb dX9_digest_36 rfl (lv_at hl 0 rfl) ?_
      obtain ⟨r2, h3, hf⟩ := xb_some hf
      refine x_cVi (As := []) (rest := [.long ((31 : Int64) * a1)]) X hP hS kc_X9_89 (c_X9_reads l G n S  r2.1 r2.2 h3) ⟨Nat.le_of_ble_eq_true rfl, Nat.le_of_ble_eq_true rfl⟩ (by decide) rfl rfl rfl hl.1 rfl (Nat.le_of_ble_eq_true rfl) ⟨Nat.zero_le _, Nat.zero_le _⟩ dX9_digest_37 (fun H locs hP hS => ?_)
      refine lv_i2l hx hb dX9_digest_40 rfl ?_
      refine lv_ladd hx hb dX9_digest_41 ?_
      refine lv_lstore_n (lv' := [(1, .long (((31 : Int64) * a1) + r2.1.toInt64)), (0, .ref (G.2.2 34)), (3, .int a3)]) hx hb dX9_digest_42 rfl hl (by decide) rfl (fun ls hl => ?_)
      refine lv_iconst (v := 0) hx hb dX9_digest_43 (by decide) ?_
      refine lv_istore_n (lv' := [(3, .int (0 : Int32)), (1, .long (((31 : Int64) * a1) + r2.1.toInt64)), (0, .ref (G.2.2 34))]) hx hb dX9_digest_44 rfl hl (by decide) rfl (fun ls hl => ?_)
      exact t_X9_digest_45 X hr hlk   n r2.2 (((31 : Int64) * a1) + r2.1.toInt64) (0 : Int32) hf H locs ls hP hS (lv_sub hl [2, 1, 0] rfl)
    · have hf := xif_f hf e1
      refine lv_ldc2 hx hb hown (hts _ kw_861) dX9_digest_12 ?_
      refine lv_lload_n hx hb dX9_digest_15 rfl (lv_at hl 1 rfl) ?_
      refine lv_lmul hx hb dX9_digest_16 ?_
      refine lv_aload_n hx hb dX9_digest_17 rfl (lv_at hl 0 rfl) ?_
      refine lv_iload_n hx hb dX9_digest_18 rfl (lv_at hl 2 rfl) ?_
      obtain ⟨r56, h57, hf⟩ := xb_some hf
      refine x_cVi (As := [.int a3]) (rest := [.long ((31 : Int64) * a1)]) X hP hS kc_X9_213 (c_X9_count l G n S a3 r56.1 r56.2 h57) ⟨Nat.le_of_ble_eq_true rfl, Nat.le_of_ble_eq_true rfl⟩ (by decide) rfl rfl rfl hl.1 rfl (Nat.le_of_ble_eq_true rfl) ⟨Nat.zero_le _, Nat.zero_le _⟩ dX9_digest_19 (fun H locs hP hS => ?_)
      refine lv_i2l hx hb dX9_digest_22 rfl ?_
      refine lv_ladd hx hb dX9_digest_23 ?_
      refine lv_lstore_n (lv' := [(1, .long (((31 : Int64) * a1) + r56.1.toInt64)), (0, .ref (G.2.2 34)), (3, .int a3)]) hx hb dX9_digest_24 rfl hl (by decide) rfl (fun ls hl => ?_)
      refine lv_iinc (v := a3 + 1) (lv' := [(3, .int (a3 + 1)), (1, .long (((31 : Int64) * a1) + r56.1.toInt64)), (0, .ref (G.2.2 34))]) hx hb dX9_digest_25 hl (k := 2) rfl rfl (by decide) rfl (fun ls hl => ?_)
      refine lv_goto (tgt := 6) hx hb dX9_digest_28 (by decide) ?_
      exact ih r56.2 (((31 : Int64) * a1) + r56.1.toInt64) (a3 + 1) hf H locs ls hP hS (lv_sub hl [2, 1, 0] rfl)
def f_X9_digest (n : Nat) (S : xS)  : Option (Int64 × xS) :=
  l_X9_digest_6 n n S (17 : Int64) (0 : Int32)
set_option maxHeartbeats 4000000 in
set_option maxRecDepth 100000 in
theorem c_X9_digest (l : Launch) (G : xG) (n : Nat)  (S : xS)  (r : Int64) (S' : xS) (hf : f_X9_digest n S  = some (r, S')) : xMl l G yX9_digest cX9_digest 5 (some .long) 7 167 [.ref (G.2.2 34)] S r S' := by
  refine xMl_of (own := RX9) (by decide +kernel) rfl (Nat.le_of_ble_eq_true rfl) ?_
  intro p e s m args below meth c X hr hlk H locs ls hP hS hl
  have hl : lv_has ls 5 [(0, .ref (G.2.2 34))] := hl
  obtain ⟨hx, hb, hml, hown, hts, hE⟩ := id X
  unfold f_X9_digest at hf
  refine lv_ldc2 hx hb hown (hts _ kw_860) dX9_digest_0 ?_
  refine lv_lstore_n (lv' := [(1, .long (17 : Int64)), (0, .ref (G.2.2 34))]) hx hb dX9_digest_3 rfl hl (by decide) rfl (fun ls hl => ?_)
  refine lv_iconst (v := 0) hx hb dX9_digest_4 (by decide) ?_
  refine lv_istore_n (lv' := [(3, .int (0 : Int32)), (1, .long (17 : Int64)), (0, .ref (G.2.2 34))]) hx hb dX9_digest_5 rfl hl (by decide) rfl (fun ls hl => ?_)
  exact t_X9_digest_6 X hr hlk   n S (17 : Int64) (0 : Int32) hf H locs ls hP hS (lv_sub hl [2, 1, 0] rfl)
