section LAW
variable {p : Program} {l : Launch} {e : Env} {s : State} {m : MethodId} {below : List Frame} {meth : Method} {c : Code} {b L : Nat} {xs : Nat → Int32} {G : xG} {S : xS} {H : Heap} {locs : List Loc} {ls : Array Slot} {Q : State → Prop}
theorem law_10 (C0 : lw_At p s m meth c b L xs) (X : xC p s m #[Value.ref b] c G RL code 4) (hbA : ¬ xA G b) (hL : L ≤ 3072) {i : Nat} (hi : i + 6 ≤ L) (hI : Inv S) (hP : xP G S H) (hS : va_S (xA G) s.heap H locs) (hl : lv_has ls 4 (lawl b G i)) (kk : ∀ (S2 : xS) (H : Heap) (locs : List Loc), Inv S2 → xP G S2 H → va_S (xA G) s.heap H locs → W p l e room_1 s m #[Value.ref b] below meth c H locs 600000 7302250 Q (F0 m 1351 ls [])) : W p l e room_1 s m #[Value.ref b] below meth c H locs 600000 7302250 Q (F0 m 476 ls []) := by
  obtain ⟨hx, hb, hml, hown, hts, hE⟩ := id X
  obtain ⟨r, S2, h1, h2, h3⟩ := op_stairs (n := 200) hI (by decide) (xs (i + 1)) (xs (i + 2)) (xs (i + 3))
  refine lv_aload_n hx hb dL_law_476 rfl (lv_at hl 1 rfl) ?_
  refine law_ld (k := 1) C0 hbA hS hl hL hi (by decide) dL_law_477 dL_law_478 dL_law_479 (by decide) dL_law_480 dL_law_481 ?_
  refine law_ld (k := 2) C0 hbA hS hl hL hi (by decide) dL_law_482 dL_law_483 dL_law_484 (by decide) dL_law_485 dL_law_486 ?_
  refine law_ld (k := 3) C0 hbA hS hl hL hi (by decide) dL_law_487 dL_law_488 dL_law_489 (by decide) dL_law_490 dL_law_491 ?_
  refine x_cVi (As := [.int (xs (i + 1)), .int (xs (i + 2)), .int (xs (i + 3))]) (rest := []) X hP hS kc_L_57 (c_X8_stairs l G 200 S (xs (i + 1)) (xs (i + 2)) (xs (i + 3)) r h1) ⟨Nat.le_of_ble_eq_true rfl, Nat.le_of_ble_eq_true rfl⟩ (by decide) rfl rfl rfl hl.1 rfl (Nat.le_of_ble_eq_true rfl) ⟨Nat.le_of_ble_eq_true rfl, Nat.le_of_ble_eq_true rfl⟩ dL_law_492 (fun H locs hP hS => ?_)
  refine lv_aload_n hx hb dL_law_495 rfl (lv_at hl 2 rfl) ?_
  refine law_ld (k := 1) C0 hbA hS hl hL hi (by decide) dL_law_496 dL_law_497 dL_law_498 (by decide) dL_law_499 dL_law_500 ?_
  refine law_ld (k := 2) C0 hbA hS hl hL hi (by decide) dL_law_501 dL_law_502 dL_law_503 (by decide) dL_law_504 dL_law_505 ?_
  refine law_ld (k := 3) C0 hbA hS hl hL hi (by decide) dL_law_506 dL_law_507 dL_law_508 (by decide) dL_law_509 dL_law_510 ?_
  refine x_cVi (As := [.int (xs (i + 1)), .int (xs (i + 2)), .int (xs (i + 3))]) (rest := [.int r]) X hP hS kc_L_60 (c_X9_stairs l G 200 S (xs (i + 1)) (xs (i + 2)) (xs (i + 3)) r S2 h2) ⟨Nat.le_of_ble_eq_true rfl, Nat.le_of_ble_eq_true rfl⟩ (by decide) rfl rfl rfl hl.1 rfl (Nat.le_of_ble_eq_true rfl) ⟨Nat.le_of_ble_eq_true rfl, Nat.le_of_ble_eq_true rfl⟩ dL_law_511 (fun H locs hP hS => ?_)
  exact lv_icmp_eq (tgt := 1351) hx hb dL_law_514 (by decide) (fun _ => kk S2 H locs h3 hP hS) (fun e1 => absurd rfl e1)
theorem law_11 (C0 : lw_At p s m meth c b L xs) (X : xC p s m #[Value.ref b] c G RL code 4) (hbA : ¬ xA G b) (hL : L ≤ 3072) {i : Nat} (hi : i + 6 ≤ L) (hI : Inv S) (hP : xP G S H) (hS : va_S (xA G) s.heap H locs) (hl : lv_has ls 4 (lawl b G i)) (kk : ∀ (S2 : xS) (H : Heap) (locs : List Loc), Inv S2 → xP G S2 H → va_S (xA G) s.heap H locs → W p l e room_1 s m #[Value.ref b] below meth c H locs 600000 7302250 Q (F0 m 1351 ls [])) : W p l e room_1 s m #[Value.ref b] below meth c H locs 600000 7302250 Q (F0 m 519 ls []) := by
  obtain ⟨hx, hb, hml, hown, hts, hE⟩ := id X
  obtain ⟨r, S2, h1, h2, h3⟩ := op_even (n := 200) hI (by decide) (xs (i + 1)) (xs (i + 2)) (xs (i + 3)) (xs (i + 4))
  refine lv_aload_n hx hb dL_law_519 rfl (lv_at hl 1 rfl) ?_
  refine law_ld (k := 1) C0 hbA hS hl hL hi (by decide) dL_law_520 dL_law_521 dL_law_522 (by decide) dL_law_523 dL_law_524 ?_
  refine law_ld (k := 2) C0 hbA hS hl hL hi (by decide) dL_law_525 dL_law_526 dL_law_527 (by decide) dL_law_528 dL_law_529 ?_
  refine law_ld (k := 3) C0 hbA hS hl hL hi (by decide) dL_law_530 dL_law_531 dL_law_532 (by decide) dL_law_533 dL_law_534 ?_
  refine law_ld (k := 4) C0 hbA hS hl hL hi (by decide) dL_law_535 dL_law_536 dL_law_537 (by decide) dL_law_538 dL_law_539 ?_
  refine x_cVi (As := [.int (xs (i + 1)), .int (xs (i + 2)), .int (xs (i + 3)), .int (xs (i + 4))]) (rest := []) X hP hS kc_L_61 (c_X8_even l G 200 S (xs (i + 1)) (xs (i + 2)) (xs (i + 3)) (xs (i + 4)) r h1) ⟨Nat.le_of_ble_eq_true rfl, Nat.le_of_ble_eq_true rfl⟩ (by decide) rfl rfl rfl hl.1 rfl (Nat.le_of_ble_eq_true rfl) ⟨Nat.le_of_ble_eq_true rfl, Nat.le_of_ble_eq_true rfl⟩ dL_law_540 (fun H locs hP hS => ?_)
  refine lv_aload_n hx hb dL_law_543 rfl (lv_at hl 2 rfl) ?_
  refine law_ld (k := 1) C0 hbA hS hl hL hi (by decide) dL_law_544 dL_law_545 dL_law_546 (by decide) dL_law_547 dL_law_548 ?_
  refine law_ld (k := 2) C0 hbA hS hl hL hi (by decide) dL_law_549 dL_law_550 dL_law_551 (by decide) dL_law_552 dL_law_553 ?_
  refine law_ld (k := 3) C0 hbA hS hl hL hi (by decide) dL_law_554 dL_law_555 dL_law_556 (by decide) dL_law_557 dL_law_558 ?_
  refine law_ld (k := 4) C0 hbA hS hl hL hi (by decide) dL_law_559 dL_law_560 dL_law_561 (by decide) dL_law_562 dL_law_563 ?_
  refine x_cVi (As := [.int (xs (i + 1)), .int (xs (i + 2)), .int (xs (i + 3)), .int (xs (i + 4))]) (rest := [.int r]) X hP hS kc_L_65 (c_X9_even l G 200 S (xs (i + 1)) (xs (i + 2)) (xs (i + 3)) (xs (i + 4)) r S2 h2) ⟨Nat.le_of_ble_eq_true rfl, Nat.le_of_ble_eq_true rfl⟩ (by decide) rfl rfl rfl hl.1 rfl (Nat.le_of_ble_eq_true rfl) ⟨Nat.le_of_ble_eq_true rfl, Nat.le_of_ble_eq_true rfl⟩ dL_law_564 (fun H locs hP hS => ?_)
  exact lv_icmp_eq (tgt := 1351) hx hb dL_law_567 (by decide) (fun _ => kk S2 H locs h3 hP hS) (fun e1 => absurd rfl e1)
theorem law_12 (C0 : lw_At p s m meth c b L xs) (X : xC p s m #[Value.ref b] c G RL code 4) (hbA : ¬ xA G b) (hL : L ≤ 3072) {i : Nat} (hi : i + 6 ≤ L) (hI : Inv S) (hP : xP G S H) (hS : va_S (xA G) s.heap H locs) (hl : lv_has ls 4 (lawl b G i)) (kk : ∀ (S2 : xS) (H : Heap) (locs : List Loc), Inv S2 → xP G S2 H → va_S (xA G) s.heap H locs → W p l e room_1 s m #[Value.ref b] below meth c H locs 600000 7302250 Q (F0 m 1351 ls [])) : W p l e room_1 s m #[Value.ref b] below meth c H locs 600000 7302250 Q (F0 m 572 ls []) := by
  obtain ⟨hx, hb, hml, hown, hts, hE⟩ := id X
  obtain ⟨r, S2, h1, h2, h3⟩ := op_blame (n := 200) hI (by decide) (xs (i + 1)) (xs (i + 2)) (xs (i + 3))
  refine lv_aload_n hx hb dL_law_572 rfl (lv_at hl 1 rfl) ?_
  refine law_ld (k := 1) C0 hbA hS hl hL hi (by decide) dL_law_573 dL_law_574 dL_law_575 (by decide) dL_law_576 dL_law_577 ?_
  refine law_ld (k := 2) C0 hbA hS hl hL hi (by decide) dL_law_578 dL_law_579 dL_law_580 (by decide) dL_law_581 dL_law_582 ?_
  refine law_ld (k := 3) C0 hbA hS hl hL hi (by decide) dL_law_583 dL_law_584 dL_law_585 (by decide) dL_law_586 dL_law_587 ?_
  refine x_cVl (As := [.int (xs (i + 1)), .int (xs (i + 2)), .int (xs (i + 3))]) (rest := []) X hP hS kc_L_66 (c_X8_blame l G 200 S (xs (i + 1)) (xs (i + 2)) (xs (i + 3)) r h1) ⟨Nat.le_of_ble_eq_true rfl, Nat.le_of_ble_eq_true rfl⟩ (by decide) rfl rfl rfl hl.1 rfl (Nat.le_of_ble_eq_true rfl) ⟨Nat.le_of_ble_eq_true rfl, Nat.le_of_ble_eq_true rfl⟩ dL_law_588 (fun H locs hP hS => ?_)
  refine lv_aload_n hx hb dL_law_591 rfl (lv_at hl 2 rfl) ?_
  refine law_ld (k := 1) C0 hbA hS hl hL hi (by decide) dL_law_592 dL_law_593 dL_law_594 (by decide) dL_law_595 dL_law_596 ?_
  refine law_ld (k := 2) C0 hbA hS hl hL hi (by decide) dL_law_597 dL_law_598 dL_law_599 (by decide) dL_law_600 dL_law_601 ?_
  refine law_ld (k := 3) C0 hbA hS hl hL hi (by decide) dL_law_602 dL_law_603 dL_law_604 (by decide) dL_law_605 dL_law_606 ?_
  refine x_cVl (As := [.int (xs (i + 1)), .int (xs (i + 2)), .int (xs (i + 3))]) (rest := [.long r]) X hP hS kc_L_70 (c_X9_blame l G 200 S (xs (i + 1)) (xs (i + 2)) (xs (i + 3)) r S2 h2) ⟨Nat.le_of_ble_eq_true rfl, Nat.le_of_ble_eq_true rfl⟩ (by decide) rfl rfl rfl hl.1 rfl (Nat.le_of_ble_eq_true rfl) ⟨Nat.le_of_ble_eq_true rfl, Nat.le_of_ble_eq_true rfl⟩ dL_law_607 (fun H locs hP hS => ?_)
  refine W.lcmp hx hb dL_law_610 ?_
  exact lv_if_eq (tgt := 1351) hx hb dL_law_611 (by decide) (fun _ => kk S2 H locs h3 hP hS) (fun e1 => absurd ((lg_cmp_eq _ _).mpr rfl) e1)
theorem law_13 (C0 : lw_At p s m meth c b L xs) (X : xC p s m #[Value.ref b] c G RL code 4) (hbA : ¬ xA G b) (hL : L ≤ 3072) {i : Nat} (hi : i + 6 ≤ L) (hI : Inv S) (hP : xP G S H) (hS : va_S (xA G) s.heap H locs) (hl : lv_has ls 4 (lawl b G i)) (kk : ∀ (S2 : xS) (H : Heap) (locs : List Loc), Inv S2 → xP G S2 H → va_S (xA G) s.heap H locs → W p l e room_1 s m #[Value.ref b] below meth c H locs 600000 7302250 Q (F0 m 1351 ls [])) : W p l e room_1 s m #[Value.ref b] below meth c H locs 600000 7302250 Q (F0 m 616 ls []) := by
  obtain ⟨hx, hb, hml, hown, hts, hE⟩ := id X
  obtain ⟨r, S1, S2, h1, h2, h3⟩ := op_found (n := 200) hI (xs (i + 1)) (xs (i + 2))
  refine lv_aload_n hx hb dL_law_616 rfl (lv_at hl 1 rfl) ?_
  refine law_ld (k := 1) C0 hbA hS hl hL hi (by decide) dL_law_617 dL_law_618 dL_law_619 (by decide) dL_law_620 dL_law_621 ?_
  refine law_ld (k := 2) C0 hbA hS hl hL hi (by decide) dL_law_622 dL_law_623 dL_law_624 (by decide) dL_law_625 dL_law_626 ?_
  refine x_cVi (As := [.int (xs (i + 1)), .int (xs (i + 2))]) (rest := []) X hP hS kc_L_71 (c_X8_found l G 200 S (xs (i + 1)) (xs (i + 2)) r S1 h1) ⟨Nat.le_of_ble_eq_true rfl, Nat.le_of_ble_eq_true rfl⟩ (by decide) rfl rfl rfl hl.1 rfl (Nat.le_of_ble_eq_true rfl) ⟨Nat.le_of_ble_eq_true rfl, Nat.le_of_ble_eq_true rfl⟩ dL_law_627 (fun H locs hP hS => ?_)
  refine lv_aload_n hx hb dL_law_630 rfl (lv_at hl 2 rfl) ?_
  refine law_ld (k := 1) C0 hbA hS hl hL hi (by decide) dL_law_631 dL_law_632 dL_law_633 (by decide) dL_law_634 dL_law_635 ?_
  refine law_ld (k := 2) C0 hbA hS hl hL hi (by decide) dL_law_636 dL_law_637 dL_law_638 (by decide) dL_law_639 dL_law_640 ?_
  refine x_cVi (As := [.int (xs (i + 1)), .int (xs (i + 2))]) (rest := [.int r]) X hP hS kc_L_74 (c_X9_found l G 200 S1 (xs (i + 1)) (xs (i + 2)) r S2 h2) ⟨Nat.le_of_ble_eq_true rfl, Nat.le_of_ble_eq_true rfl⟩ (by decide) rfl rfl rfl hl.1 rfl (Nat.le_of_ble_eq_true rfl) ⟨Nat.le_of_ble_eq_true rfl, Nat.le_of_ble_eq_true rfl⟩ dL_law_641 (fun H locs hP hS => ?_)
  exact lv_icmp_eq (tgt := 1351) hx hb dL_law_644 (by decide) (fun _ => kk S2 H locs h3 hP hS) (fun e1 => absurd rfl e1)
theorem law_14 (C0 : lw_At p s m meth c b L xs) (X : xC p s m #[Value.ref b] c G RL code 4) (hbA : ¬ xA G b) (hL : L ≤ 3072) {i : Nat} (hi : i + 6 ≤ L) (hI : Inv S) (hP : xP G S H) (hS : va_S (xA G) s.heap H locs) (hl : lv_has ls 4 (lawl b G i)) (kk : ∀ (S2 : xS) (H : Heap) (locs : List Loc), Inv S2 → xP G S2 H → va_S (xA G) s.heap H locs → W p l e room_1 s m #[Value.ref b] below meth c H locs 600000 7302250 Q (F0 m 1351 ls [])) : W p l e room_1 s m #[Value.ref b] below meth c H locs 600000 7302250 Q (F0 m 649 ls []) := by
  obtain ⟨hx, hb, hml, hown, hts, hE⟩ := id X
  obtain ⟨r, S1, S2, h1, h2, h3⟩ := op_read (n := 200) hI (by decide) (xs (i + 1))
  refine lv_aload_n hx hb dL_law_649 rfl (lv_at hl 1 rfl) ?_
  refine law_ld (k := 1) C0 hbA hS hl hL hi (by decide) dL_law_650 dL_law_651 dL_law_652 (by decide) dL_law_653 dL_law_654 ?_
  refine x_cVi (As := [.int (xs (i + 1))]) (rest := []) X hP hS kc_L_75 (c_X8_read l G 200 S (xs (i + 1)) r S1 h1) ⟨Nat.le_of_ble_eq_true rfl, Nat.le_of_ble_eq_true rfl⟩ (by decide) rfl rfl rfl hl.1 rfl (Nat.le_of_ble_eq_true rfl) ⟨Nat.le_of_ble_eq_true rfl, Nat.le_of_ble_eq_true rfl⟩ dL_law_655 (fun H locs hP hS => ?_)
  refine lv_aload_n hx hb dL_law_658 rfl (lv_at hl 2 rfl) ?_
  refine law_ld (k := 1) C0 hbA hS hl hL hi (by decide) dL_law_659 dL_law_660 dL_law_661 (by decide) dL_law_662 dL_law_663 ?_
  refine x_cVi (As := [.int (xs (i + 1))]) (rest := [.int r]) X hP hS kc_L_78 (c_X9_read l G 200 S1 (xs (i + 1)) r S2 h2) ⟨Nat.le_of_ble_eq_true rfl, Nat.le_of_ble_eq_true rfl⟩ (by decide) rfl rfl rfl hl.1 rfl (Nat.le_of_ble_eq_true rfl) ⟨Nat.le_of_ble_eq_true rfl, Nat.le_of_ble_eq_true rfl⟩ dL_law_664 (fun H locs hP hS => ?_)
  exact lv_icmp_eq (tgt := 1351) hx hb dL_law_667 (by decide) (fun _ => kk S2 H locs h3 hP hS) (fun e1 => absurd rfl e1)
theorem law_15 (C0 : lw_At p s m meth c b L xs) (X : xC p s m #[Value.ref b] c G RL code 4) (hbA : ¬ xA G b) (hL : L ≤ 3072) {i : Nat} (hi : i + 6 ≤ L) (hI : Inv S) (hP : xP G S H) (hS : va_S (xA G) s.heap H locs) (hl : lv_has ls 4 (lawl b G i)) (kk : ∀ (S2 : xS) (H : Heap) (locs : List Loc), Inv S2 → xP G S2 H → va_S (xA G) s.heap H locs → W p l e room_1 s m #[Value.ref b] below meth c H locs 600000 7302250 Q (F0 m 1351 ls [])) : W p l e room_1 s m #[Value.ref b] below meth c H locs 600000 7302250 Q (F0 m 672 ls []) := by
  obtain ⟨hx, hb, hml, hown, hts, hE⟩ := id X
  obtain ⟨r, S2, h1, h2, h3⟩ := op_fits (n := 200) hI (by decide) (xs (i + 1))
  refine lv_aload_n hx hb dL_law_672 rfl (lv_at hl 1 rfl) ?_
  refine law_ld (k := 1) C0 hbA hS hl hL hi (by decide) dL_law_673 dL_law_674 dL_law_675 (by decide) dL_law_676 dL_law_677 ?_
  refine x_cVi (As := [.int (xs (i + 1))]) (rest := []) X hP hS kc_L_79 (c_X8_fits l G 200 S (xs (i + 1)) r h1) ⟨Nat.le_of_ble_eq_true rfl, Nat.le_of_ble_eq_true rfl⟩ (by decide) rfl rfl rfl hl.1 rfl (Nat.le_of_ble_eq_true rfl) ⟨Nat.le_of_ble_eq_true rfl, Nat.le_of_ble_eq_true rfl⟩ dL_law_678 (fun H locs hP hS => ?_)
  refine lv_aload_n hx hb dL_law_681 rfl (lv_at hl 2 rfl) ?_
  refine law_ld (k := 1) C0 hbA hS hl hL hi (by decide) dL_law_682 dL_law_683 dL_law_684 (by decide) dL_law_685 dL_law_686 ?_
  refine x_cVi (As := [.int (xs (i + 1))]) (rest := [.int r]) X hP hS kc_L_82 (c_X9_fits l G 200 S (xs (i + 1)) r S2 h2) ⟨Nat.le_of_ble_eq_true rfl, Nat.le_of_ble_eq_true rfl⟩ (by decide) rfl rfl rfl hl.1 rfl (Nat.le_of_ble_eq_true rfl) ⟨Nat.le_of_ble_eq_true rfl, Nat.le_of_ble_eq_true rfl⟩ dL_law_687 (fun H locs hP hS => ?_)
  exact lv_icmp_eq (tgt := 1351) hx hb dL_law_690 (by decide) (fun _ => kk S2 H locs h3 hP hS) (fun e1 => absurd rfl e1)
theorem law_16 (C0 : lw_At p s m meth c b L xs) (X : xC p s m #[Value.ref b] c G RL code 4) (hbA : ¬ xA G b) (hL : L ≤ 3072) {i : Nat} (hi : i + 6 ≤ L) (hI : Inv S) (hP : xP G S H) (hS : va_S (xA G) s.heap H locs) (hl : lv_has ls 4 (lawl b G i)) (kk : ∀ (S2 : xS) (H : Heap) (locs : List Loc), Inv S2 → xP G S2 H → va_S (xA G) s.heap H locs → W p l e room_1 s m #[Value.ref b] below meth c H locs 600000 7302250 Q (F0 m 1351 ls [])) : W p l e room_1 s m #[Value.ref b] below meth c H locs 600000 7302250 Q (F0 m 695 ls []) := by
  obtain ⟨hx, hb, hml, hown, hts, hE⟩ := id X
  obtain ⟨r, S1, S2, h1, h2, h3⟩ := op_worlds (n := 200) hI (by decide) 
  refine lv_aload_n hx hb dL_law_695 rfl (lv_at hl 1 rfl) ?_
  refine x_cVl (As := []) (rest := []) X hP hS kc_L_83 (c_X8_worlds l G 200 S  r S1 h1) ⟨Nat.le_of_ble_eq_true rfl, Nat.le_of_ble_eq_true rfl⟩ (by decide) rfl rfl rfl hl.1 rfl (Nat.le_of_ble_eq_true rfl) ⟨Nat.le_of_ble_eq_true rfl, Nat.le_of_ble_eq_true rfl⟩ dL_law_696 (fun H locs hP hS => ?_)
  refine lv_aload_n hx hb dL_law_699 rfl (lv_at hl 2 rfl) ?_
  refine x_cVl (As := []) (rest := [.long r]) X hP hS kc_L_87 (c_X9_worlds l G 200 S1  r S2 h2) ⟨Nat.le_of_ble_eq_true rfl, Nat.le_of_ble_eq_true rfl⟩ (by decide) rfl rfl rfl hl.1 rfl (Nat.le_of_ble_eq_true rfl) ⟨Nat.le_of_ble_eq_true rfl, Nat.le_of_ble_eq_true rfl⟩ dL_law_700 (fun H locs hP hS => ?_)
  refine W.lcmp hx hb dL_law_703 ?_
  exact lv_if_eq (tgt := 1351) hx hb dL_law_704 (by decide) (fun _ => kk S2 H locs h3 hP hS) (fun e1 => absurd ((lg_cmp_eq _ _).mpr rfl) e1)
theorem law_17 (C0 : lw_At p s m meth c b L xs) (X : xC p s m #[Value.ref b] c G RL code 4) (hbA : ¬ xA G b) (hL : L ≤ 3072) {i : Nat} (hi : i + 6 ≤ L) (hI : Inv S) (hP : xP G S H) (hS : va_S (xA G) s.heap H locs) (hl : lv_has ls 4 (lawl b G i)) (kk : ∀ (S2 : xS) (H : Heap) (locs : List Loc), Inv S2 → xP G S2 H → va_S (xA G) s.heap H locs → W p l e room_1 s m #[Value.ref b] below meth c H locs 600000 7302250 Q (F0 m 1351 ls [])) : W p l e room_1 s m #[Value.ref b] below meth c H locs 600000 7302250 Q (F0 m 709 ls []) := by
  obtain ⟨hx, hb, hml, hown, hts, hE⟩ := id X
  obtain ⟨r, S1, S2, h1, h2, h3⟩ := op_odds (n := 200) hI (by decide) (xs (i + 1)) (xs (i + 2)) (xs (i + 3))
  refine lv_aload_n hx hb dL_law_709 rfl (lv_at hl 1 rfl) ?_
  refine law_ld (k := 1) C0 hbA hS hl hL hi (by decide) dL_law_710 dL_law_711 dL_law_712 (by decide) dL_law_713 dL_law_714 ?_
  refine law_ld (k := 2) C0 hbA hS hl hL hi (by decide) dL_law_715 dL_law_716 dL_law_717 (by decide) dL_law_718 dL_law_719 ?_
  refine law_ld (k := 3) C0 hbA hS hl hL hi (by decide) dL_law_720 dL_law_721 dL_law_722 (by decide) dL_law_723 dL_law_724 ?_
  refine x_cVl (As := [.int (xs (i + 1)), .int (xs (i + 2)), .int (xs (i + 3))]) (rest := []) X hP hS kc_L_88 (c_X8_odds l G 200 S (xs (i + 1)) (xs (i + 2)) (xs (i + 3)) r S1 h1) ⟨Nat.le_of_ble_eq_true rfl, Nat.le_of_ble_eq_true rfl⟩ (by decide) rfl rfl rfl hl.1 rfl (Nat.le_of_ble_eq_true rfl) ⟨Nat.le_of_ble_eq_true rfl, Nat.le_of_ble_eq_true rfl⟩ dL_law_725 (fun H locs hP hS => ?_)
  refine lv_aload_n hx hb dL_law_728 rfl (lv_at hl 2 rfl) ?_
  refine law_ld (k := 1) C0 hbA hS hl hL hi (by decide) dL_law_729 dL_law_730 dL_law_731 (by decide) dL_law_732 dL_law_733 ?_
  refine law_ld (k := 2) C0 hbA hS hl hL hi (by decide) dL_law_734 dL_law_735 dL_law_736 (by decide) dL_law_737 dL_law_738 ?_
  refine law_ld (k := 3) C0 hbA hS hl hL hi (by decide) dL_law_739 dL_law_740 dL_law_741 (by decide) dL_law_742 dL_law_743 ?_
  refine x_cVl (As := [.int (xs (i + 1)), .int (xs (i + 2)), .int (xs (i + 3))]) (rest := [.long r]) X hP hS kc_L_91 (c_X9_odds l G 200 S1 (xs (i + 1)) (xs (i + 2)) (xs (i + 3)) r S2 h2) ⟨Nat.le_of_ble_eq_true rfl, Nat.le_of_ble_eq_true rfl⟩ (by decide) rfl rfl rfl hl.1 rfl (Nat.le_of_ble_eq_true rfl) ⟨Nat.le_of_ble_eq_true rfl, Nat.le_of_ble_eq_true rfl⟩ dL_law_744 (fun H locs hP hS => ?_)
  refine W.lcmp hx hb dL_law_747 ?_
  exact lv_if_eq (tgt := 1351) hx hb dL_law_748 (by decide) (fun _ => kk S2 H locs h3 hP hS) (fun e1 => absurd ((lg_cmp_eq _ _).mpr rfl) e1)
theorem law_18 (C0 : lw_At p s m meth c b L xs) (X : xC p s m #[Value.ref b] c G RL code 4) (hbA : ¬ xA G b) (hL : L ≤ 3072) {i : Nat} (hi : i + 6 ≤ L) (hI : Inv S) (hP : xP G S H) (hS : va_S (xA G) s.heap H locs) (hl : lv_has ls 4 (lawl b G i)) (kk : ∀ (S2 : xS) (H : Heap) (locs : List Loc), Inv S2 → xP G S2 H → va_S (xA G) s.heap H locs → W p l e room_1 s m #[Value.ref b] below meth c H locs 600000 7302250 Q (F0 m 1351 ls [])) : W p l e room_1 s m #[Value.ref b] below meth c H locs 600000 7302250 Q (F0 m 753 ls []) := by
  obtain ⟨hx, hb, hml, hown, hts, hE⟩ := id X
  obtain ⟨r, S1, S2, h1, h2, h3⟩ := op_lean (n := 200) hI (xs (i + 1)) (xs (i + 2))
  refine lv_aload_n hx hb dL_law_753 rfl (lv_at hl 1 rfl) ?_
  refine law_ld (k := 1) C0 hbA hS hl hL hi (by decide) dL_law_754 dL_law_755 dL_law_756 (by decide) dL_law_757 dL_law_758 ?_
  refine law_ld (k := 2) C0 hbA hS hl hL hi (by decide) dL_law_759 dL_law_760 dL_law_761 (by decide) dL_law_762 dL_law_763 ?_
  refine x_cVi (As := [.int (xs (i + 1)), .int (xs (i + 2))]) (rest := []) X hP hS kc_L_92 (c_X8_lean l G 200 S (xs (i + 1)) (xs (i + 2)) r S1 h1) ⟨Nat.le_of_ble_eq_true rfl, Nat.le_of_ble_eq_true rfl⟩ (by decide) rfl rfl rfl hl.1 rfl (Nat.le_of_ble_eq_true rfl) ⟨Nat.le_of_ble_eq_true rfl, Nat.le_of_ble_eq_true rfl⟩ dL_law_764 (fun H locs hP hS => ?_)
  refine lv_aload_n hx hb dL_law_767 rfl (lv_at hl 2 rfl) ?_
  refine law_ld (k := 1) C0 hbA hS hl hL hi (by decide) dL_law_768 dL_law_769 dL_law_770 (by decide) dL_law_771 dL_law_772 ?_
  refine law_ld (k := 2) C0 hbA hS hl hL hi (by decide) dL_law_773 dL_law_774 dL_law_775 (by decide) dL_law_776 dL_law_777 ?_
  refine x_cVi (As := [.int (xs (i + 1)), .int (xs (i + 2))]) (rest := [.int r]) X hP hS kc_L_95 (c_X9_lean l G 200 S1 (xs (i + 1)) (xs (i + 2)) r S2 h2) ⟨Nat.le_of_ble_eq_true rfl, Nat.le_of_ble_eq_true rfl⟩ (by decide) rfl rfl rfl hl.1 rfl (Nat.le_of_ble_eq_true rfl) ⟨Nat.le_of_ble_eq_true rfl, Nat.le_of_ble_eq_true rfl⟩ dL_law_778 (fun H locs hP hS => ?_)
  exact lv_icmp_eq (tgt := 1351) hx hb dL_law_781 (by decide) (fun _ => kk S2 H locs h3 hP hS) (fun e1 => absurd rfl e1)
theorem law_19 (C0 : lw_At p s m meth c b L xs) (X : xC p s m #[Value.ref b] c G RL code 4) (hbA : ¬ xA G b) (hL : L ≤ 3072) {i : Nat} (hi : i + 6 ≤ L) (hI : Inv S) (hP : xP G S H) (hS : va_S (xA G) s.heap H locs) (hl : lv_has ls 4 (lawl b G i)) (kk : ∀ (S2 : xS) (H : Heap) (locs : List Loc), Inv S2 → xP G S2 H → va_S (xA G) s.heap H locs → W p l e room_1 s m #[Value.ref b] below meth c H locs 600000 7302250 Q (F0 m 1351 ls [])) : W p l e room_1 s m #[Value.ref b] below meth c H locs 600000 7302250 Q (F0 m 786 ls []) := by
  obtain ⟨hx, hb, hml, hown, hts, hE⟩ := id X
  obtain ⟨r, S2, h1, h2, h3⟩ := op_runs (n := 200) hI (by decide) (xs (i + 1)) (xs (i + 2)) (xs (i + 3))
  refine lv_aload_n hx hb dL_law_786 rfl (lv_at hl 1 rfl) ?_
  refine law_ld (k := 1) C0 hbA hS hl hL hi (by decide) dL_law_787 dL_law_788 dL_law_789 (by decide) dL_law_790 dL_law_791 ?_
  refine law_ld (k := 2) C0 hbA hS hl hL hi (by decide) dL_law_792 dL_law_793 dL_law_794 (by decide) dL_law_795 dL_law_796 ?_
  refine law_ld (k := 3) C0 hbA hS hl hL hi (by decide) dL_law_797 dL_law_798 dL_law_799 (by decide) dL_law_800 dL_law_801 ?_
  refine x_cVi (As := [.int (xs (i + 1)), .int (xs (i + 2)), .int (xs (i + 3))]) (rest := []) X hP hS kc_L_96 (c_X8_runs l G 200 S (xs (i + 1)) (xs (i + 2)) (xs (i + 3)) r h1) ⟨Nat.le_of_ble_eq_true rfl, Nat.le_of_ble_eq_true rfl⟩ (by decide) rfl rfl rfl hl.1 rfl (Nat.le_of_ble_eq_true rfl) ⟨Nat.le_of_ble_eq_true rfl, Nat.le_of_ble_eq_true rfl⟩ dL_law_802 (fun H locs hP hS => ?_)
  refine lv_aload_n hx hb dL_law_805 rfl (lv_at hl 2 rfl) ?_
  refine law_ld (k := 1) C0 hbA hS hl hL hi (by decide) dL_law_806 dL_law_807 dL_law_808 (by decide) dL_law_809 dL_law_810 ?_
  refine law_ld (k := 2) C0 hbA hS hl hL hi (by decide) dL_law_811 dL_law_812 dL_law_813 (by decide) dL_law_814 dL_law_815 ?_
  refine law_ld (k := 3) C0 hbA hS hl hL hi (by decide) dL_law_816 dL_law_817 dL_law_818 (by decide) dL_law_819 dL_law_820 ?_
  refine x_cVi (As := [.int (xs (i + 1)), .int (xs (i + 2)), .int (xs (i + 3))]) (rest := [.int r]) X hP hS kc_L_99 (c_X9_runs l G 200 S (xs (i + 1)) (xs (i + 2)) (xs (i + 3)) r S2 h2) ⟨Nat.le_of_ble_eq_true rfl, Nat.le_of_ble_eq_true rfl⟩ (by decide) rfl rfl rfl hl.1 rfl (Nat.le_of_ble_eq_true rfl) ⟨Nat.le_of_ble_eq_true rfl, Nat.le_of_ble_eq_true rfl⟩ dL_law_821 (fun H locs hP hS => ?_)
  exact lv_icmp_eq (tgt := 1351) hx hb dL_law_824 (by decide) (fun _ => kk S2 H locs h3 hP hS) (fun e1 => absurd rfl e1)
end LAW
