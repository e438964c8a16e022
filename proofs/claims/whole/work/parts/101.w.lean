def f_X4_takeSign (n : Nat) (S : xS) (a1 : Int32) : Option (Int32 × xS) :=
  (f_X4_sign n S).bind fun r1 => ((if r1 = a1 then some ((1 : Int32), xst S 4 7 ((S.1 4 7) + (1 : Int32))) else some ((f_X4_fail S (S.1 4 7)).1, (f_X4_fail S (S.1 4 7)).2)))
set_option maxHeartbeats 4000000 in
set_option maxRecDepth 100000 in
theorem c_X4_takeSign (l : Launch) (G : xG) (n : Nat)  (S : xS) (a1 : Int32) (r : Int32) (S' : xS) (hf : f_X4_takeSign n S a1 = some (r, S')) : xMi l G yX4_takeSign cX4_takeSign 2 (some .boolean) 1 21 [.ref (G.2.2 4), .int a1] S r S' := by
  refine xMi_of (own := RX4) (by decide +kernel) rfl (Nat.le_of_ble_eq_true rfl) ?_
  intro p e s m args below meth c X hr hlk H locs ls hP hS hl
  have hl : lv_has ls 2 [(0, .ref (G.2.2 4)), (1, .int a1)] := hl
  obtain ⟨hx, hb, hml, hown, hts, hE⟩ := id X
  unfold f_X4_takeSign at hf
  refine lv_aload_n hx hb dX4_takeSign_0 rfl (lv_at hl 0 rfl) ?_
  obtain ⟨r1, h2, hf⟩ := xb_some hf
  refine x_cVi (As := []) (rest := []) X hP hS kc_X4_58 (c_X4_sign l G n S  _ h2) ⟨Nat.le_of_ble_eq_true rfl, Nat.le_of_ble_eq_true rfl⟩ (by decide) rfl rfl rfl hl.1 rfl (Nat.le_of_ble_eq_true rfl) ⟨Nat.zero_le _, Nat.zero_le _⟩ dX4_takeSign_1 (fun H locs hP hS => ?_)
  refine lv_iload_n hx hb dX4_takeSign_4 rfl (lv_at hl 1 rfl) ?_
  refine lv_icmp_eq (tgt := 17) hx hb dX4_takeSign_5 (by decide) (fun e3 => ?_) (fun e3 => ?_)
  · have hf := xif_t hf e3
    refine lv_aload_n hx hb dX4_takeSign_17 rfl (lv_at hl 0 rfl) ?_
    refine lv_dup hx hb dX4_takeSign_18 rfl ?_
    refine x_getI X hP fl_X4_34 (by decide) rfl rfl dX4_takeSign_19 ?_
    refine lv_iconst (v := 1) hx hb dX4_takeSign_22 (by decide) ?_
    refine lv_iadd hx hb dX4_takeSign_23 ?_
    refine x_putI X hP hS fp_X4_34 (by decide) rfl rfl dX4_takeSign_24 (fun H locs hP hS => ?_)
    refine lv_iconst (v := 1) hx hb dX4_takeSign_27 (by decide) ?_
    exact x_zret X hr hlk hP hS (Or.inr rfl) ((Prod.mk.inj (Option.some.inj hf)).1) ((Prod.mk.inj (Option.some.inj hf)).2) dX4_takeSign_28
  · have hf := xif_f hf e3
    refine lv_aload_n hx hb dX4_takeSign_8 rfl (lv_at hl 0 rfl) ?_
    refine lv_aload_n hx hb dX4_takeSign_9 rfl (lv_at hl 0 rfl) ?_
    refine x_getI X hP fl_X4_34 (by decide) rfl rfl dX4_takeSign_10 ?_
    refine x_cVi (As := [.int (S.1 4 7)]) (rest := []) X hP hS kc_X4_45 (c_X4_fail l G  S (S.1 4 7) (f_X4_fail S (S.1 4 7)).1 (f_X4_fail S (S.1 4 7)).2 rfl) ⟨Nat.le_of_ble_eq_true rfl, Nat.le_of_ble_eq_true rfl⟩ (by decide) rfl rfl rfl hl.1 rfl (Nat.le_of_ble_eq_true rfl) ⟨Nat.zero_le _, Nat.zero_le _⟩ dX4_takeSign_13 (fun H locs hP hS => ?_)
    exact x_zret X hr hlk hP hS (fb_X4_fail S (S.1 4 7)) ((Prod.mk.inj (Option.some.inj hf)).1) ((Prod.mk.inj (Option.some.inj hf)).2) dX4_takeSign_16
def f_X4_takeWay (n : Nat) (S : xS) (a1 : Int32) : Option (Int32 × xS) :=
  (f_X4_sign n S).bind fun r1 => ((if (f_X8_within (r1 - (48 : Int32)) (0 : Int32) (8 : Int32)) = 0 then some ((f_X4_fail S (S.1 4 7)).1, (f_X4_fail S (S.1 4 7)).2) else xg (xin a1 10) (some ((1 : Int32), xst (xst S 8 a1.toNatClampNeg (r1 - (48 : Int32))) 4 7 (((xst S 8 a1.toNatClampNeg (r1 - (48 : Int32))).1 4 7) + (1 : Int32))))))
set_option maxHeartbeats 4000000 in
set_option maxRecDepth 100000 in
theorem c_X4_takeWay (l : Launch) (G : xG) (n : Nat)  (S : xS) (a1 : Int32) (r : Int32) (S' : xS) (hf : f_X4_takeWay n S a1 = some (r, S')) : xMi l G yX4_takeWay cX4_takeWay 3 (some .boolean) 1 22 [.ref (G.2.2 4), .int a1] S r S' := by
  refine xMi_of (own := RX4) (by decide +kernel) rfl (Nat.le_of_ble_eq_true rfl) ?_
  intro p e s m args below meth c X hr hlk H locs ls hP hS hl
  have hl : lv_has ls 3 [(0, .ref (G.2.2 4)), (1, .int a1)] := hl
  obtain ⟨hx, hb, hml, hown, hts, hE⟩ := id X
  unfold f_X4_takeWay at hf
  refine lv_aload_n hx hb dX4_takeWay_0 rfl (lv_at hl 0 rfl) ?_
  obtain ⟨r1, h2, hf⟩ := xb_some hf
  refine x_cVi (As := []) (rest := []) X hP hS kc_X4_58 (c_X4_sign l G n S  _ h2) ⟨Nat.le_of_ble_eq_true rfl, Nat.le_of_ble_eq_true rfl⟩ (by decide) rfl rfl rfl hl.1 rfl (Nat.le_of_ble_eq_true rfl) ⟨Nat.zero_le _, Nat.zero_le _⟩ dX4_takeWay_1 (fun H locs hP hS => ?_)
  refine lv_bipush (v := 48) hx hb dX4_takeWay_4 (by decide) ?_
  refine lv_isub hx hb dX4_takeWay_6 ?_
  refine lv_istore_n (lv' := [(2, .int (r1 - (48 : Int32))), (0, .ref (G.2.2 4)), (1, .int a1)]) hx hb dX4_takeWay_7 rfl hl (by decide) rfl (fun ls hl => ?_)
  refine lv_iload_n hx hb dX4_takeWay_8 rfl (lv_at hl 0 rfl) ?_
  refine lv_iconst (v := 0) hx hb dX4_takeWay_9 (by decide) ?_
  refine lv_bipush (v := 8) hx hb dX4_takeWay_10 (by decide) ?_
  refine x_cNi (As := [.int (r1 - (48 : Int32)), .int (0 : Int32), .int (8 : Int32)]) (rest := []) X hP hS kc_X4_68 (c_X8_within l G  S (r1 - (48 : Int32)) (0 : Int32) (8 : Int32) _ rfl) ⟨Nat.le_of_ble_eq_true rfl, Nat.le_of_ble_eq_true rfl⟩ rfl hl.1 rfl (Nat.le_of_ble_eq_true rfl) ⟨Nat.zero_le _, Nat.zero_le _⟩ dX4_takeWay_12 (fun H locs hP hS => ?_)
  refine lv_if_ne (tgt := 27) hx hb dX4_takeWay_15 (by decide) (fun e3 => ?_) (fun e3 => ?_)
  · have hf := xif_f hf e3
    refine lv_aload_n hx hb dX4_takeWay_27 rfl (lv_at hl 1 rfl) ?_
    refine x_getR X hP fl_X4_25 (by decide) rfl rfl dX4_takeWay_28 ?_
    refine lv_iload_n hx hb dX4_takeWay_31 rfl (lv_at hl 2 rfl) ?_
    refine lv_iload_n hx hb dX4_takeWay_32 rfl (lv_at hl 0 rfl) ?_
    obtain ⟨g4, hf⟩ := xg_some hf
    refine x_iast X hP hS (by decide) rfl g4 dX4_takeWay_33 (fun H locs hP hS => ?_)
    refine lv_aload_n hx hb dX4_takeWay_34 rfl (lv_at hl 1 rfl) ?_
    refine lv_dup hx hb dX4_takeWay_35 rfl ?_
    refine x_getI X hP fl_X4_34 (by decide) rfl rfl dX4_takeWay_36 ?_
    refine lv_iconst (v := 1) hx hb dX4_takeWay_39 (by decide) ?_
    refine lv_iadd hx hb dX4_takeWay_40 ?_
    refine x_putI X hP hS fp_X4_34 (by decide) rfl rfl dX4_takeWay_41 (fun H locs hP hS => ?_)
    refine lv_iconst (v := 1) hx hb dX4_takeWay_44 (by decide) ?_
    exact x_zret X hr hlk hP hS (Or.inr rfl) ((Prod.mk.inj (Option.some.inj hf)).1) ((Prod.mk.inj (Option.some.inj hf)).2) dX4_takeWay_45
  · have hf := xif_t hf e3
    refine lv_aload_n hx hb dX4_takeWay_18 rfl (lv_at hl 1 rfl) ?_
    refine lv_aload_n hx hb dX4_takeWay_19 rfl (lv_at hl 1 rfl) ?_
    refine x_getI X hP fl_X4_34 (by decide) rfl rfl dX4_takeWay_20 ?_
    refine x_cVi (As := [.int (S.1 4 7)]) (rest := []) X hP hS kc_X4_45 (c_X4_fail l G  S (S.1 4 7) (f_X4_fail S (S.1 4 7)).1 (f_X4_fail S (S.1 4 7)).2 rfl) ⟨Nat.le_of_ble_eq_true rfl, Nat.le_of_ble_eq_true rfl⟩ (by decide) rfl rfl rfl hl.1 rfl (Nat.le_of_ble_eq_true rfl) ⟨Nat.zero_le _, Nat.zero_le _⟩ dX4_takeWay_23 (fun H locs hP hS => ?_)
    exact x_zret X hr hlk hP hS (fb_X4_fail S (S.1 4 7)) ((Prod.mk.inj (Option.some.inj hf)).1) ((Prod.mk.inj (Option.some.inj hf)).2) dX4_takeWay_26
def j_X4_takeFloor_50 (n : Nat) (S : xS) (a1 : Int32) (a2 : Int32) (a3 : Int32) : Option (Int32 × xS) :=
  (if a3 = (-1 : Int32) then some ((0 : Int32), S) else (f_X4_takeSign n S (61 : Int32)).bind fun r11 => ((if r11.1 = 0 then some ((0 : Int32), r11.2) else xg (xin a1 10) ((f_X4_takeWay n (xst r11.2 7 a1.toNatClampNeg (((12 : Int32) * a2) + a3)) a1).bind fun r15 => (xg (decide (r15.1 = 0 ∨ r15.1 = 1)) (some (r15.1, r15.2)))))))
set_option maxHeartbeats 4000000 in
set_option maxRecDepth 100000 in
theorem t_X4_takeFloor_50 {p : Program} {l : Launch} {e : Env} {s : State} {m : MethodId} {args : Array Value} {below : List Frame} {meth : Method} {c : Code} {G : xG} (X : xC p s m args c G RX4 cX4_takeFloor 4) (hr : meth.sig.returnType = (some .boolean)) (hlk : meth.locks = false) {n : Nat} {r : Int32} {S' : xS} : ∀ (S : xS) (a1 : Int32) (a2 : Int32) (a3 : Int32), j_X4_takeFloor_50 n S a1 a2 a3 = some (r, S') → xGo p l e { frames := 3, cells := 0, slots := 0, locals := 65 } s m args below meth c G 4 0 0 (MQ below (xQi G r S') args s 0 0 (xA G)) S 50 [(0, .ref (G.2.2 4)), (1, .int a1), (2, .int a2), (3, .int a3)] [] := by
  intro S a1 a2 a3 hf H locs ls hP hS hl
  unfold j_X4_takeFloor_50 at hf
  obtain ⟨hx, hb, hml, hown, hts, hE⟩ := id X
  refine lv_iload_n hx hb dX4_takeFloor_50 rfl (lv_at hl 3 rfl) ?_
  refine lv_iconst (v := (-1)) hx hb dX4_takeFloor_51 (by decide) ?_
  refine lv_icmp_eq (tgt := 64) hx hb dX4_takeFloor_52 (by decide) (fun e10 => ?_) (fun e10 => ?_)
  · have hf := xif_t hf e10
    refine lv_iconst (v := 0) hx hb dX4_takeFloor_64 (by decide) ?_
    exact x_zret X hr hlk hP hS (Or.inl rfl) ((Prod.mk.inj (Option.some.inj hf)).1) ((Prod.mk.inj (Option.some.inj hf)).2) dX4_takeFloor_65
  · have hf := xif_f hf e10
    refine lv_aload_n hx hb dX4_takeFloor_55 rfl (lv_at hl 0 rfl) ?_
    refine lv_bipush (v := 61) hx hb dX4_takeFloor_56 (by decide) ?_
    obtain ⟨r11, h12, hf⟩ := xb_some hf
    refine x_cVi (As := [.int (61 : Int32)]) (rest := []) X hP hS kc_X4_41 (c_X4_takeSign l G n S (61 : Int32) r11.1 r11.2 h12) ⟨Nat.le_of_ble_eq_true rfl, Nat.le_of_ble_eq_true rfl⟩ (by decide) rfl rfl rfl hl.1 rfl (Nat.le_of_ble_eq_true rfl) ⟨Nat.zero_le _, Nat.zero_le _⟩ dX4_takeFloor_58 (fun H locs hP hS => ?_)
    refine lv_if_ne (tgt := 66) hx hb dX4_takeFloor_61 (by decide) (fun e13 => ?_) (fun e13 => ?_)
    · have hf := xif_f hf e13
      refine lv_aload_n hx hb dX4_takeFloor_66 rfl (lv_at hl 0 rfl) ?_
      refine x_getR X hP fl_X4_22 (by decide) rfl rfl dX4_takeFloor_67 ?_
      refine lv_iload_n hx hb dX4_takeFloor_70 rfl (lv_at hl 1 rfl) ?_
      refine lv_bipush (v := 12) hx hb dX4_takeFloor_71 (by decide) ?_
      refine lv_iload_n hx hb dX4_takeFloor_73 rfl (lv_at hl 2 rfl) ?_
      refine lv_imul hx hb dX4_takeFloor_74 ?_
      refine lv_iload_n hx hb dX4_takeFloor_75 rfl (lv_at hl 3 rfl) ?_
      refine lv_iadd hx hb dX4_takeFloor_76 ?_
      obtain ⟨g14, hf⟩ := xg_some hf
      refine x_iast X hP hS (by decide) rfl g14 dX4_takeFloor_77 (fun H locs hP hS => ?_)
      refine lv_aload_n hx hb dX4_takeFloor_78 rfl (lv_at hl 0 rfl) ?_
      refine lv_iload_n hx hb dX4_takeFloor_79 rfl (lv_at hl 1 rfl) ?_
      obtain ⟨r15, h16, hf⟩ := xb_some hf
      refine x_cVi (As := [.int a1]) (rest := []) X hP hS kc_X4_62 (c_X4_takeWay l G n (xst r11.2 7 a1.toNatClampNeg (((12 : Int32) * a2) + a3)) a1 r15.1 r15.2 h16) ⟨Nat.le_of_ble_eq_true rfl, Nat.le_of_ble_eq_true rfl⟩ (by decide) rfl rfl rfl hl.1 rfl (Nat.le_of_ble_eq_true rfl) ⟨Nat.zero_le _, Nat.zero_le _⟩ dX4_takeFloor_80 (fun H locs hP hS => ?_)
      obtain ⟨g17, hf⟩ := xg_some hf
      exact x_zret X hr hlk hP hS (of_decide_eq_true g17) ((Prod.mk.inj (Option.some.inj hf)).1) ((Prod.mk.inj (Option.some.inj hf)).2) dX4_takeFloor_83
    · have hf := xif_t hf e13
      refine lv_iconst (v := 0) hx hb dX4_takeFloor_64 (by decide) ?_
      exact x_zret X hr hlk hP hS (Or.inl rfl) ((Prod.mk.inj (Option.some.inj hf)).1) ((Prod.mk.inj (Option.some.inj hf)).2) dX4_takeFloor_65
def f_X4_takeFloor (n : Nat) (S : xS) (a1 : Int32) : Option (Int32 × xS) :=
  (f_X4_takeNumber n S (99 : Int32)).bind fun r1 => ((if r1.1 = (-1 : Int32) then some ((0 : Int32), r1.2) else (f_X4_takeUnit n r1.2 a1).bind fun r4 => ((if r4.1 = 0 then some ((0 : Int32), r4.2) else (f_X4_sign n r4.2).bind fun r7 => ((if r7 = (43 : Int32) then (f_X4_takeNumber n (xst r4.2 4 7 ((r4.2.1 4 7) + (1 : Int32))) (11 : Int32)).bind fun r18 => (j_X4_takeFloor_50 n r18.2 a1 r1.1 r18.1) else j_X4_takeFloor_50 n r4.2 a1 r1.1 (0 : Int32)))))))
set_option maxHeartbeats 4000000 in
set_option maxRecDepth 100000 in
theorem c_X4_takeFloor (l : Launch) (G : xG) (n : Nat)  (S : xS) (a1 : Int32) (r : Int32) (S' : xS) (hf : f_X4_takeFloor n S a1 = some (r, S')) : xMi l G yX4_takeFloor cX4_takeFloor 4 (some .boolean) 3 65 [.ref (G.2.2 4), .int a1] S r S' := by
  refine xMi_of (own := RX4) (by decide +kernel) rfl (Nat.le_of_ble_eq_true rfl) ?_
  intro p e s m args below meth c X hr hlk H locs ls hP hS hl
  have hl : lv_has ls 4 [(0, .ref (G.2.2 4)), (1, .int a1)] := hl
  obtain ⟨hx, hb, hml, hown, hts, hE⟩ := id X
  unfold f_X4_takeFloor at hf
  refine lv_aload_n hx hb dX4_takeFloor_0 rfl (lv_at hl 0 rfl) ?_
  refine lv_bipush (v := 99) hx hb dX4_takeFloor_1 (by decide) ?_
  obtain ⟨r1, h2, hf⟩ := xb_some hf
  refine x_cVi (As := [.int (99 : Int32)]) (rest := []) X hP hS kc_X4_51 (c_X4_takeNumber l G n S (99 : Int32) r1.1 r1.2 h2) ⟨Nat.le_of_ble_eq_true rfl, Nat.le_of_ble_eq_true rfl⟩ (by decide) rfl rfl rfl hl.1 rfl (Nat.le_of_ble_eq_true rfl) ⟨Nat.zero_le _, Nat.zero_le _⟩ dX4_takeFloor_3 (fun H locs hP hS => ?_)
  refine lv_istore_n (lv' := [(2, .int r1.1), (0, .ref (G.2.2 4)), (1, .int a1)]) hx hb dX4_takeFloor_6 rfl hl (by decide) rfl (fun ls hl => ?_)
  refine lv_iload_n hx hb dX4_takeFloor_7 rfl (lv_at hl 0 rfl) ?_
  refine lv_iconst (v := (-1)) hx hb dX4_takeFloor_8 (by decide) ?_
  refine lv_icmp_eq (tgt := 20) hx hb dX4_takeFloor_9 (by decide) (fun e3 => ?_) (fun e3 => ?_)
  · have hf := xif_t hf e3
    refine lv_iconst (v := 0) hx hb dX4_takeFloor_20 (by decide) ?_
    exact x_zret X hr hlk hP hS (Or.inl rfl) ((Prod.mk.inj (Option.some.inj hf)).1) ((Prod.mk.inj (Option.some.inj hf)).2) dX4_takeFloor_21
  · have hf := xif_f hf e3
    refine lv_aload_n hx hb dX4_takeFloor_12 rfl (lv_at hl 1 rfl) ?_
    refine lv_iload_n hx hb dX4_takeFloor_13 rfl (lv_at hl 2 rfl) ?_
    obtain ⟨r4, h5, hf⟩ := xb_some hf
    refine x_cVi (As := [.int a1]) (rest := []) X hP hS kc_X4_55 (c_X4_takeUnit l G n r1.2 a1 r4.1 r4.2 h5) ⟨Nat.le_of_ble_eq_true rfl, Nat.le_of_ble_eq_true rfl⟩ (by decide) rfl rfl rfl hl.1 rfl (Nat.le_of_ble_eq_true rfl) ⟨Nat.zero_le _, Nat.zero_le _⟩ dX4_takeFloor_14 (fun H locs hP hS => ?_)
    refine lv_if_ne (tgt := 22) hx hb dX4_takeFloor_17 (by decide) (fun e6 => ?_) (fun e6 => ?_)
    · have hf := xif_f hf e6
      refine lv_iconst (v := 0) hx hb dX4_takeFloor_22 (by decide) ?_
      refine lv_istore_n (lv' := [(3, .int (0 : Int32)), (2, .int r1.1), (0, .ref (G.2.2 4)), (1, .int a1)]) hx hb dX4_takeFloor_23 rfl hl (by decide) rfl (fun ls hl => ?_)
      refine lv_aload_n hx hb dX4_takeFloor_24 rfl (lv_at hl 2 rfl) ?_
      obtain ⟨r7, h8, hf⟩ := xb_some hf
      refine x_cVi (As := []) (rest := []) X hP hS kc_X4_58 (c_X4_sign l G n r4.2  _ h8) ⟨Nat.le_of_ble_eq_true rfl, Nat.le_of_ble_eq_true rfl⟩ (by decide) rfl rfl rfl hl.1 rfl (Nat.le_of_ble_eq_true rfl) ⟨Nat.zero_le _, Nat.zero_le _⟩ dX4_takeFloor_25 (fun H locs hP hS => ?_)
      refine lv_bipush (v := 43) hx hb dX4_takeFloor_28 (by decide) ?_
      refine lv_icmp_ne (tgt := 50) hx hb dX4_takeFloor_30 (by decide) (fun e9 => ?_) (fun e9 => ?_)
      · have hf := xif_f hf e9
        exact t_X4_takeFloor_50 X hr hlk   r4.2 a1 r1.1 (0 : Int32) hf H locs ls hP hS (lv_sub hl [2, 3, 1, 0] rfl)
      · have hf := xif_t hf e9
        refine lv_aload_n hx hb dX4_takeFloor_33 rfl (lv_at hl 2 rfl) ?_
        refine lv_dup hx hb dX4_takeFloor_34 rfl ?_
        refine x_getI X hP fl_X4_34 (by decide) rfl rfl dX4_takeFloor_35 ?_
        refine lv_iconst (v := 1) hx hb dX4_takeFloor_38 (by decide) ?_
        refine lv_iadd hx hb dX4_takeFloor_39 ?_
        refine x_putI X hP hS fp_X4_34 (by decide) rfl rfl dX4_takeFloor_40 (fun H locs hP hS => ?_)
        refine lv_aload_n hx hb dX4_takeFloor_43 rfl (lv_at hl 2 rfl) ?_
        refine lv_bipush (v := 11) hx hb dX4_takeFloor_44 (by decide) ?_
        obtain ⟨r18, h19, hf⟩ := xb_some hf
        refine x_cVi (As := [.int (11 : Int32)]) (rest := []) X hP hS kc_X4_51 (c_X4_takeNumber l G n (xst r4.2 4 7 ((r4.2.1 4 7) + (1 : Int32))) (11 : Int32) r18.1 r18.2 h19) ⟨Nat.le_of_ble_eq_true rfl, Nat.le_of_ble_eq_true rfl⟩ (by decide) rfl rfl rfl hl.1 rfl (Nat.le_of_ble_eq_true rfl) ⟨Nat.zero_le _, Nat.zero_le _⟩ dX4_takeFloor_46 (fun H locs hP hS => ?_)
        refine lv_istore_n (lv' := [(3, .int r18.1), (2, .int r1.1), (0, .ref (G.2.2 4)), (1, .int a1)]) hx hb dX4_takeFloor_49 rfl hl (by decide) rfl (fun ls hl => ?_)
        exact t_X4_takeFloor_50 X hr hlk   r18.2 a1 r1.1 r18.1 hf H locs ls hP hS (lv_sub hl [2, 3, 1, 0] rfl)
    · have hf := xif_t hf e6
      refine lv_iconst (v := 0) hx hb dX4_takeFloor_20 (by decide) ?_
      exact x_zret X hr hlk hP hS (Or.inl rfl) ((Prod.mk.inj (Option.some.inj hf)).1) ((Prod.mk.inj (Option.some.inj hf)).2) dX4_takeFloor_21
def j_X4_scan_75 (n : Nat) (S : xS) (a1 : Int32) (a2 : Int32) : Option xS :=
  (if a2 = 0 then (if (S.1 4 2) = (-1 : Int32) then some (xst S 4 3 a1) else some (xst S 4 3 (0 : Int32))) else (if (((f_X4_fail S (S.1 4 7)).2).1 4 2) = (-1 : Int32) then some (xst ((f_X4_fail S (S.1 4 7)).2) 4 3 a1) else some (xst ((f_X4_fail S (S.1 4 7)).2) 4 3 (0 : Int32))))
set_option maxHeartbeats 4000000 in
set_option maxRecDepth 100000 in
theorem t_X4_scan_75 {p : Program} {l : Launch} {e : Env} {s : State} {m : MethodId} {args : Array Value} {below : List Frame} {meth : Method} {c : Code} {G : xG} (X : xC p s m args c G RX4 cX4_scan 3) (hr : meth.sig.returnType = none) (hlk : meth.locks = false) {n : Nat} {S' : xS} : ∀ (S : xS) (a1 : Int32) (a2 : Int32), j_X4_scan_75 n S a1 a2 = some S' → xGo p l e { frames := 4, cells := 0, slots := 0, locals := 88 } s m args below meth c G 3 0 0 (MQ below (xQv G S') args s 0 0 (xA G)) S 75 [(0, .ref (G.2.2 4)), (1, .int a1), (2, .int a2)] [] := by
  intro S a1 a2 hf H locs ls hP hS hl
  unfold j_X4_scan_75 at hf
  obtain ⟨hx, hb, hml, hown, hts, hE⟩ := id X
  refine lv_iload_n hx hb dX4_scan_75 rfl (lv_at hl 2 rfl) ?_
  refine lv_if_eq (tgt := 88) hx hb dX4_scan_76 (by decide) (fun e3 => ?_) (fun e3 => ?_)
  · have hf := xif_t hf e3
    refine lv_aload_n hx hb dX4_scan_88 rfl (lv_at hl 0 rfl) ?_
    refine lv_aload_n hx hb dX4_scan_89 rfl (lv_at hl 0 rfl) ?_
    refine x_getI X hP fl_X4_15 (by decide) rfl rfl dX4_scan_90 ?_
    refine lv_iconst (v := (-1)) hx hb dX4_scan_93 (by decide) ?_
    refine lv_icmp_ne (tgt := 101) hx hb dX4_scan_94 (by decide) (fun e4 => ?_) (fun e4 => ?_)
    · have hf := xif_f hf e4
      refine lv_iconst (v := 0) hx hb dX4_scan_101 (by decide) ?_
      refine x_putI X hP hS fp_X4_48 (by decide) rfl rfl dX4_scan_102 (fun H locs hP hS => ?_)
      exact x_vret X hr hlk hP hS (Option.some.inj hf) dX4_scan_105
    · have hf := xif_t hf e4
      refine lv_iload_n hx hb dX4_scan_97 rfl (lv_at hl 1 rfl) ?_
      refine lv_goto (tgt := 102) hx hb dX4_scan_98 (by decide) ?_
      refine x_putI X hP hS fp_X4_48 (by decide) rfl rfl dX4_scan_102 (fun H locs hP hS => ?_)
      exact x_vret X hr hlk hP hS (Option.some.inj hf) dX4_scan_105
  · have hf := xif_f hf e3
    refine lv_aload_n hx hb dX4_scan_79 rfl (lv_at hl 0 rfl) ?_
    refine lv_aload_n hx hb dX4_scan_80 rfl (lv_at hl 0 rfl) ?_
    refine x_getI X hP fl_X4_34 (by decide) rfl rfl dX4_scan_81 ?_
    refine x_cVi (As := [.int (S.1 4 7)]) (rest := []) X hP hS kc_X4_45 (c_X4_fail l G  S (S.1 4 7) (f_X4_fail S (S.1 4 7)).1 (f_X4_fail S (S.1 4 7)).2 rfl) ⟨Nat.le_of_ble_eq_true rfl, Nat.le_of_ble_eq_true rfl⟩ (by decide) rfl rfl rfl hl.1 rfl (Nat.le_of_ble_eq_true rfl) ⟨Nat.zero_le _, Nat.zero_le _⟩ dX4_scan_84 (fun H locs hP hS => ?_)
    refine lv_pop hx hb dX4_scan_87 rfl ?_
    refine lv_aload_n hx hb dX4_scan_88 rfl (lv_at hl 0 rfl) ?_
    refine lv_aload_n hx hb dX4_scan_89 rfl (lv_at hl 0 rfl) ?_
    refine x_getI X hP fl_X4_15 (by decide) rfl rfl dX4_scan_90 ?_
    refine lv_iconst (v := (-1)) hx hb dX4_scan_93 (by decide) ?_
    refine lv_icmp_ne (tgt := 101) hx hb dX4_scan_94 (by decide) (fun e5 => ?_) (fun e5 => ?_)
    · have hf := xif_f hf e5
      refine lv_iconst (v := 0) hx hb dX4_scan_101 (by decide) ?_
      refine x_putI X hP hS fp_X4_48 (by decide) rfl rfl dX4_scan_102 (fun H locs hP hS => ?_)
      exact x_vret X hr hlk hP hS (Option.some.inj hf) dX4_scan_105
    · have hf := xif_t hf e5
      refine lv_iload_n hx hb dX4_scan_97 rfl (lv_at hl 1 rfl) ?_
      refine lv_goto (tgt := 102) hx hb dX4_scan_98 (by decide) ?_
      refine x_putI X hP hS fp_X4_48 (by decide) rfl rfl dX4_scan_102 (fun H locs hP hS => ?_)
      exact x_vret X hr hlk hP hS (Option.some.inj hf) dX4_scan_105
def b_X4_scan_25 (n : Nat) (k25 : xS → Int32 → Int32 → Option xS) (S : xS) (a1 : Int32) (a2 : Int32) : Option xS :=
  (if a2 = 0 then j_X4_scan_75 n S a1 a2 else (if (10 : Int32) ≤ a1 then j_X4_scan_75 n S a1 a2 else (f_X4_takeFloor n S a1).bind fun r7 => ((if r7.1 = 0 then k25 r7.2 (a1 + 1) (0 : Int32) else (if (r7.2.1 4 1) ≤ (r7.2.1 4 7) then k25 r7.2 (a1 + 1) (0 : Int32) else (f_X4_takeSign n r7.2 (59 : Int32)).bind fun r11 => ((if r11.1 = 0 then k25 r11.2 (a1 + 1) (0 : Int32) else k25 r11.2 (a1 + 1) (1 : Int32))))))))
def l_X4_scan_25 (n : Nat) : Nat → xS → Int32 → Int32 → Option xS
  | 0, _, _, _ => none
  | j + 1, S, a1, a2 => b_X4_scan_25 n (l_X4_scan_25 n j) S a1 a2
set_option maxHeartbeats 4000000 in
set_option maxRecDepth 100000 in
theorem t_X4_scan_25 {p : Program} {l : Launch} {e : Env} {s : State} {m : MethodId} {args : Array Value} {below : List Frame} {meth : Method} {c : Code} {G : xG} (X : xC p s m args c G RX4 cX4_scan 3) (hr : meth.sig.returnType = none) (hlk : meth.locks = false) {n : Nat} {S' : xS} : ∀ (j : Nat) (S : xS) (a1 : Int32) (a2 : Int32), l_X4_scan_25 n j S a1 a2 = some S' → xGo p l e { frames := 4, cells := 0, slots := 0, locals := 88 } s m args below meth c G 3 0 0 (MQ below (xQv G S') args s 0 0 (xA G)) S 25 [(0, .ref (G.2.2 4)), (1, .int a1), (2, .int a2)] [] := by
  intro j
  induction j with
  | zero => intro S a1 a2 hf; exact nomatch (show (none : Option xS) = _ from hf)
  | succ j ih =>
    intro S a1 a2 hf H locs ls hP hS hl
    have hf : b_X4_scan_25 n (l_X4_scan_25 n j) S a1 a2 = some S' := hf
    unfold b_X4_scan_25 at hf
    obtain ⟨hx, hb, hml, hown, hts, hE⟩ := id X
    refine lv_iload_n hx hb dX4_scan_25 rfl (lv_at hl 2 rfl) ?_
    refine lv_if_eq (tgt := 75) hx hb dX4_scan_26 (by decide) (fun e2 => ?_) (fun e2 => ?_)
    · have hf := xif_t hf e2
      exact t_X4_scan_75 X hr hlk   S a1 a2 hf H locs ls hP hS (lv_sub hl [0, 1, 2] rfl)
    · have hf := xif_f hf e2
      refine lv_iload_n hx hb dX4_scan_29 rfl (lv_at hl 1 rfl) ?_
      refine lv_bipush (v := 10) hx hb dX4_scan_30 (by decide) ?_
      refine lv_icmp_ge (tgt := 75) hx hb dX4_scan_32 (by decide) (fun e6 => ?_) (fun e6 => ?_)
      · have hf := xif_t hf e6
        exact t_X4_scan_75 X hr hlk   S a1 a2 hf H locs ls hP hS (lv_sub hl [0, 1, 2] rfl)
      · have hf := xif_f hf e6
        refine lv_aload_n hx hb dX4_scan_35 rfl (lv_at hl 0 rfl) ?_
        refine lv_iload_n hx hb dX4_scan_36 rfl (lv_at hl 1 rfl) ?_
        obtain ⟨r7, h8, hf⟩ := xb_some hf
        refine x_cVi (As := [.int a1]) (rest := []) X hP hS kc_X4_37 (c_X4_takeFloor l G n S a1 r7.1 r7.2 h8) ⟨Nat.le_of_ble_eq_true rfl, Nat.le_of_ble_eq_true rfl⟩ (by decide) rfl rfl rfl hl.1 rfl (Nat.le_of_ble_eq_true rfl) ⟨Nat.zero_le _, Nat.zero_le _⟩ dX4_scan_37 (fun H locs hP hS => ?_)
        refine lv_if_eq (tgt := 67) hx hb dX4_scan_40 (by decide) (fun e9 => ?_) (fun e9 => ?_)
        · have hf := xif_t hf e9
          refine lv_iconst (v := 0) hx hb dX4_scan_67 (by decide) ?_
          refine lv_istore_n (lv' := [(2, .int (0 : Int32)), (0, .ref (G.2.2 4)), (1, .int a1)]) hx hb dX4_scan_68 rfl hl (by decide) rfl (fun ls hl => ?_)
          refine lv_iinc (v := a1 + 1) (lv' := [(1, .int (a1 + 1)), (2, .int (0 : Int32)), (0, .ref (G.2.2 4))]) hx hb dX4_scan_69 hl (k := 2) rfl rfl (by decide) rfl (fun ls hl => ?_)
          refine lv_goto (tgt := 25) hx hb dX4_scan_72 (by decide) ?_
          exact ih r7.2 (a1 + 1) (0 : Int32) hf H locs ls hP hS (lv_sub hl [2, 0, 1] rfl)
        · have hf := xif_f hf e9
          refine lv_aload_n hx hb dX4_scan_43 rfl (lv_at hl 0 rfl) ?_
          refine x_getI X hP fl_X4_34 (by decide) rfl rfl dX4_scan_44 ?_
          refine lv_aload_n hx hb dX4_scan_47 rfl (lv_at hl 0 rfl) ?_
          refine x_getI X hP fl_X4_28 (by decide) rfl rfl dX4_scan_48 ?_
          refine lv_icmp_ge (tgt := 67) hx hb dX4_scan_51 (by decide) (fun e10 => ?_) (fun e10 => ?_)
          · have hf := xif_t hf e10
            refine lv_iconst (v := 0) hx hb dX4_scan_67 (by decide) ?_
            refine lv_istore_n (lv' := [(2, .int (0 : Int32)), (0, .ref (G.2.2 4)), (1, .int a1)]) hx hb dX4_scan_68 rfl hl (by decide) rfl (fun ls hl => ?_)
            refine lv_iinc (v := a1 + 1) (lv' := [(1, .int (a1 + 1)), (2, .int (0 : Int32)), (0, .ref (G.2.2 4))]) hx hb dX4_scan_69 hl (k := 2) rfl rfl (by decide) rfl (fun ls hl => ?_)
            refine lv_goto (tgt := 25) hx hb dX4_scan_72 (by decide) ?_
            exact ih r7.2 (a1 + 1) (0 : Int32) hf H locs ls hP hS (lv_sub hl [2, 0, 1] rfl)
          · have hf := xif_f hf e10
            refine lv_aload_n hx hb dX4_scan_54 rfl (lv_at hl 0 rfl) ?_
            refine lv_bipush (v := 59) hx hb dX4_scan_55 (by decide) ?_
            obtain ⟨r11, h12, hf⟩ := xb_some hf
            refine x_cVi (As := [.int (59 : Int32)]) (rest := []) X hP hS kc_X4_41 (c_X4_takeSign l G n r7.2 (59 : Int32) r11.1 r11.2 h12) ⟨Nat.le_of_ble_eq_true rfl, Nat.le_of_ble_eq_true rfl⟩ (by decide) rfl rfl rfl hl.1 rfl (Nat.le_of_ble_eq_true rfl) ⟨Nat.zero_le _, Nat.zero_le _⟩ dX4_scan_57 (fun H locs hP hS => ?_)
            refine lv_if_eq (tgt := 67) hx hb dX4_scan_60 (by decide) (fun e13 => ?_) (fun e13 => ?_)
            · have hf := xif_t hf e13
              refine lv_iconst (v := 0) hx hb dX4_scan_67 (by decide) ?_
              refine lv_istore_n (lv' := [(2, .int (0 : Int32)), (0, .ref (G.2.2 4)), (1, .int a1)]) hx hb dX4_scan_68 rfl hl (by decide) rfl (fun ls hl => ?_)
              refine lv_iinc (v := a1 + 1) (lv' := [(1, .int (a1 + 1)), (2, .int (0 : Int32)), (0, .ref (G.2.2 4))]) hx hb dX4_scan_69 hl (k := 2) rfl rfl (by decide) rfl (fun ls hl => ?_)
              refine lv_goto (tgt := 25) hx hb dX4_scan_72 (by decide) ?_
              exact ih r11.2 (a1 + 1) (0 : Int32) hf H locs ls hP hS (lv_sub hl [2, 0, 1] rfl)
            · have hf := xif_f hf e13
              refine lv_iconst (v := 1) hx hb dX4_scan_63 (by decide) ?_
              refine lv_goto (tgt := 68) hx hb dX4_scan_64 (by decide) ?_
              refine lv_istore_n (lv' := [(2, .int (1 : Int32)), (0, .ref (G.2.2 4)), (1, .int a1)]) hx hb dX4_scan_68 rfl hl (by decide) rfl (fun ls hl => ?_)
              refine lv_iinc (v := a1 + 1) (lv' := [(1, .int (a1 + 1)), (2, .int (1 : Int32)), (0, .ref (G.2.2 4))]) hx hb dX4_scan_69 hl (k := 2) rfl rfl (by decide) rfl (fun ls hl => ?_)
              refine lv_goto (tgt := 25) hx hb dX4_scan_72 (by decide) ?_
              exact ih r11.2 (a1 + 1) (1 : Int32) hf H locs ls hP hS (lv_sub hl [2, 0, 1] rfl)
def f_X4_scan (n : Nat) (S : xS)  : Option xS :=
  (if ((xst (xst S 4 7 (0 : Int32)) 4 2 (-1 : Int32)).1 4 1) ≤ 0 then l_X4_scan_25 n n (xst (xst S 4 7 (0 : Int32)) 4 2 (-1 : Int32)) (0 : Int32) (0 : Int32) else l_X4_scan_25 n n (xst (xst S 4 7 (0 : Int32)) 4 2 (-1 : Int32)) (0 : Int32) (1 : Int32))
set_option maxHeartbeats 4000000 in
set_option maxRecDepth 100000 in
theorem c_X4_scan (l : Launch) (G : xG) (n : Nat)  (S : xS)  (S' : xS) (hf : f_X4_scan n S  = some S') : xMv l G yX4_scan cX4_scan 3 none 4 88 [.ref (G.2.2 4)] S S' := by
  refine xMv_of (own := RX4) (by decide +kernel) rfl (Nat.le_of_ble_eq_true rfl) ?_
  intro p e s m args below meth c X hr hlk H locs ls hP hS hl
  have hl : lv_has ls 3 [(0, .ref (G.2.2 4))] := hl
  obtain ⟨hx, hb, hml, hown, hts, hE⟩ := id X
  unfold f_X4_scan at hf
  refine lv_aload_n hx hb dX4_scan_0 rfl (lv_at hl 0 rfl) ?_
  refine lv_iconst (v := 0) hx hb dX4_scan_1 (by decide) ?_
  refine x_putI X hP hS fp_X4_34 (by decide) rfl rfl dX4_scan_2 (fun H locs hP hS => ?_)
  refine lv_aload_n hx hb dX4_scan_5 rfl (lv_at hl 0 rfl) ?_
  refine lv_iconst (v := (-1)) hx hb dX4_scan_6 (by decide) ?_
  refine x_putI X hP hS fp_X4_15 (by decide) rfl rfl dX4_scan_7 (fun H locs hP hS => ?_)
  refine lv_iconst (v := 0) hx hb dX4_scan_10 (by decide) ?_
  refine lv_istore_n (lv' := [(1, .int (0 : Int32)), (0, .ref (G.2.2 4))]) hx hb dX4_scan_11 rfl hl (by decide) rfl (fun ls hl => ?_)
  refine lv_aload_n hx hb dX4_scan_12 rfl (lv_at hl 1 rfl) ?_
  refine x_getI X hP fl_X4_28 (by decide) rfl rfl dX4_scan_13 ?_
  refine lv_if_le (tgt := 23) hx hb dX4_scan_16 (by decide) (fun e1 => ?_) (fun e1 => ?_)
  · have hf := xif_t hf e1
    refine lv_iconst (v := 0) hx hb dX4_scan_23 (by decide) ?_
    refine lv_istore_n (lv' := [(2, .int (0 : Int32)), (1, .int (0 : Int32)), (0, .ref (G.2.2 4))]) hx hb dX4_scan_24 rfl hl (by decide) rfl (fun ls hl => ?_)
    exact t_X4_scan_25 X hr hlk   n (xst (xst S 4 7 (0 : Int32)) 4 2 (-1 : Int32)) (0 : Int32) (0 : Int32) hf H locs ls hP hS (lv_sub hl [2, 1, 0] rfl)
  · have hf := xif_f hf e1
    refine lv_iconst (v := 1) hx hb dX4_scan_19 (by decide) ?_
    refine lv_goto (tgt := 24) hx hb dX4_scan_20 (by decide) ?_
    refine lv_istore_n (lv' := [(2, .int (1 : Int32)), (1, .int (0 : Int32)), (0, .ref (G.2.2 4))]) hx hb dX4_scan_24 rfl hl (by decide) rfl (fun ls hl => ?_)
    exact t_X4_scan_25 X hr hlk   n (xst (xst S 4 7 (0 : Int32)) 4 2 (-1 : Int32)) (0 : Int32) (1 : Int32) hf H locs ls hP hS (lv_sub hl [2, 1, 0] rfl)
def f_X4_append (n : Nat) (S : xS) (a1 : Int32) : Option xS :=
  (if (80 : Int32) ≤ (S.1 4 1) then some S else xg (xin (S.1 4 1) 80) ((f_X4_scan n (xst (xst S 5 (S.1 4 1).toNatClampNeg a1) 4 1 (((xst S 5 (S.1 4 1).toNatClampNeg a1).1 4 1) + (1 : Int32)))).bind fun r3 => (some r3)))
set_option maxHeartbeats 4000000 in
set_option maxRecDepth 100000 in
theorem c_X4_append (l : Launch) (G : xG) (n : Nat)  (S : xS) (a1 : Int32) (S' : xS) (hf : f_X4_append n S a1 = some S') : xMv l G yX4_append cX4_append 2 none 5 110 [.ref (G.2.2 4), .int a1] S S' := by
  refine xMv_of (own := RX4) (by decide +kernel) rfl (Nat.le_of_ble_eq_true rfl) ?_
  intro p e s m args below meth c X hr hlk H locs ls hP hS hl
  have hl : lv_has ls 2 [(0, .ref (G.2.2 4)), (1, .int a1)] := hl
  obtain ⟨hx, hb, hml, hown, hts, hE⟩ := id X
  unfold f_X4_append at hf
  refine lv_aload_n hx hb dX4_append_0 rfl (lv_at hl 0 rfl) ?_
  refine x_getI X hP fl_X4_28 (by decide) rfl rfl dX4_append_1 ?_
  refine lv_bipush (v := 80) hx hb dX4_append_4 (by decide) ?_
  refine lv_icmp_ge (tgt := 33) hx hb dX4_append_6 (by decide) (fun e1 => ?_) (fun e1 => ?_)
  · have hf := xif_t hf e1
    exact x_vret X hr hlk hP hS (Option.some.inj hf) dX4_append_33
  · have hf := xif_f hf e1
    refine lv_aload_n hx hb dX4_append_9 rfl (lv_at hl 0 rfl) ?_
    refine x_getR X hP fl_X4_9 (by decide) rfl rfl dX4_append_10 ?_
    refine lv_aload_n hx hb dX4_append_13 rfl (lv_at hl 0 rfl) ?_
    refine x_getI X hP fl_X4_28 (by decide) rfl rfl dX4_append_14 ?_
    refine lv_iload_n hx hb dX4_append_17 rfl (lv_at hl 1 rfl) ?_
    obtain ⟨g2, hf⟩ := xg_some hf
    refine x_iast X hP hS (by decide) rfl g2 dX4_append_18 (fun H locs hP hS => ?_)
    refine lv_aload_n hx hb dX4_append_19 rfl (lv_at hl 0 rfl) ?_
    refine lv_dup hx hb dX4_append_20 rfl ?_
    refine x_getI X hP fl_X4_28 (by decide) rfl rfl dX4_append_21 ?_
    refine lv_iconst (v := 1) hx hb dX4_append_24 (by decide) ?_
    refine lv_iadd hx hb dX4_append_25 ?_
    refine x_putI X hP hS fp_X4_28 (by decide) rfl rfl dX4_append_26 (fun H locs hP hS => ?_)
    refine lv_aload_n hx hb dX4_append_29 rfl (lv_at hl 0 rfl) ?_
    obtain ⟨r3, h4, hf⟩ := xb_some hf
    refine x_cVv (As := []) (rest := []) X hP hS kc_X4_31 (c_X4_scan l G n (xst (xst S 5 (S.1 4 1).toNatClampNeg a1) 4 1 (((xst S 5 (S.1 4 1).toNatClampNeg a1).1 4 1) + (1 : Int32)))  _ h4) ⟨Nat.le_of_ble_eq_true rfl, Nat.le_of_ble_eq_true rfl⟩ (by decide) rfl rfl rfl hl.1 rfl (Nat.le_of_ble_eq_true rfl) ⟨Nat.zero_le _, Nat.zero_le _⟩ dX4_append_30 (fun H locs hP hS => ?_)
    exact x_vret X hr hlk hP hS (Option.some.inj hf) dX4_append_33
def f_X8_type (n : Nat) (S : xS) (a1 : Int32) : Option (Int32 × xS) :=
  (if (f_X8_within a1 (0 : Int32) (255 : Int32)) = 0 then some ((-2 : Int32), S) else (if (S.1 4 1) < (80 : Int32) then (f_X4_append n S a1).bind fun r3 => ((f_X7_reckon n r3).bind fun r5 => (some (r5.1 4 1, r5))) else some ((-4 : Int32), S)))
set_option maxHeartbeats 4000000 in
set_option maxRecDepth 100000 in
theorem c_X8_type (l : Launch) (G : xG) (n : Nat)  (S : xS) (a1 : Int32) (r : Int32) (S' : xS) (hf : f_X8_type n S a1 = some (r, S')) : xMi l G yX8_type cX8_type 2 (some .int) 6 131 [.ref (G.2.2 0), .int a1] S r S' := by
  refine xMi_of (own := RX8) (by decide +kernel) rfl (Nat.le_of_ble_eq_true rfl) ?_
  intro p e s m args below meth c X hr hlk H locs ls hP hS hl
  have hl : lv_has ls 2 [(0, .ref (G.2.2 0)), (1, .int a1)] := hl
  obtain ⟨hx, hb, hml, hown, hts, hE⟩ := id X
  unfold f_X8_type at hf
  refine lv_iload_n hx hb dX8_type_0 rfl (lv_at hl 1 rfl) ?_
  refine lv_iconst (v := 0) hx hb dX8_type_1 (by decide) ?_
  refine lv_sipush (v := 255) hx hb dX8_type_2 (by decide) ?_
  refine x_cSi (As := [.int a1, .int (0 : Int32), .int (255 : Int32)]) (rest := []) X hP hS kc_X8_79 (c_X8_within l G  S a1 (0 : Int32) (255 : Int32) _ rfl) ⟨Nat.le_of_ble_eq_true rfl, Nat.le_of_ble_eq_true rfl⟩ rfl hl.1 rfl (Nat.le_of_ble_eq_true rfl) ⟨Nat.zero_le _, Nat.zero_le _⟩ dX8_type_5 (fun H locs hP hS => ?_)
  refine lv_if_ne (tgt := 14) hx hb dX8_type_8 (by decide) (fun e1 => ?_) (fun e1 => ?_)
  · have hf := xif_f hf e1
    refine lv_aload_n hx hb dX8_type_14 rfl (lv_at hl 0 rfl) ?_
    refine x_getR X hP fl_X8_23 (by decide) rfl rfl dX8_type_15 ?_
    refine x_getIN X hP fn_X8_90 (by decide) rfl rfl dX8_type_18 ?_
    refine lv_bipush (v := 80) hx hb dX8_type_21 (by decide) ?_
    refine lv_icmp_lt (tgt := 29) hx hb dX8_type_23 (by decide) (fun e2 => ?_) (fun e2 => ?_)
    · have hf := xif_t hf e2
      refine lv_aload_n hx hb dX8_type_29 rfl (lv_at hl 0 rfl) ?_
      refine x_getR X hP fl_X8_23 (by decide) rfl rfl dX8_type_30 ?_
      refine lv_iload_n hx hb dX8_type_33 rfl (lv_at hl 1 rfl) ?_
      obtain ⟨r3, h4, hf⟩ := xb_some hf
      refine x_cVv (As := [.int a1]) (rest := []) X hP hS kc_X8_94 (c_X4_append l G n S a1 _ h4) ⟨Nat.le_of_ble_eq_true rfl, Nat.le_of_ble_eq_true rfl⟩ (by decide) rfl rfl rfl hl.1 rfl (Nat.le_of_ble_eq_true rfl) ⟨Nat.zero_le _, Nat.zero_le _⟩ dX8_type_34 (fun H locs hP hS => ?_)
      refine lv_aload_n hx hb dX8_type_37 rfl (lv_at hl 0 rfl) ?_
      refine x_getR X hP fl_X8_32 (by decide) rfl rfl dX8_type_38 ?_
      obtain ⟨r5, h6, hf⟩ := xb_some hf
      refine x_cVv (As := []) (rest := []) X hP hS kc_X8_87 (c_X7_reckon l G n r3  _ h6) ⟨Nat.le_of_ble_eq_true rfl, Nat.le_of_ble_eq_true rfl⟩ (by decide) rfl rfl rfl hl.1 rfl (Nat.le_of_ble_eq_true rfl) ⟨Nat.zero_le _, Nat.zero_le _⟩ dX8_type_41 (fun H locs hP hS => ?_)
      refine lv_aload_n hx hb dX8_type_44 rfl (lv_at hl 0 rfl) ?_
      refine x_getR X hP fl_X8_23 (by decide) rfl rfl dX8_type_45 ?_
      refine x_getIN X hP fn_X8_90 (by decide) rfl rfl dX8_type_48 ?_
      exact x_iret X hr hlk hP hS  ((Prod.mk.inj (Option.some.inj hf)).1) ((Prod.mk.inj (Option.some.inj hf)).2) dX8_type_51
    · have hf := xif_f hf e2
      refine lv_bipush (v := (-4)) hx hb dX8_type_26 (by decide) ?_
      exact x_iret X hr hlk hP hS  ((Prod.mk.inj (Option.some.inj hf)).1) ((Prod.mk.inj (Option.some.inj hf)).2) dX8_type_28
  · have hf := xif_t hf e1
    refine lv_bipush (v := (-2)) hx hb dX8_type_11 (by decide) ?_
    exact x_iret X hr hlk hP hS  ((Prod.mk.inj (Option.some.inj hf)).1) ((Prod.mk.inj (Option.some.inj hf)).2) dX8_type_13
def f_X9_type (n : Nat) (S : xS) (a1 : Int32) : Option (Int32 × xS) :=
  (if (f_X9_in a1 (0 : Int32) (255 : Int32)) = 0 then some ((-2 : Int32), S) else (if (S.1 34 3) = (80 : Int32) then some ((-4 : Int32), S) else xg (xin (S.1 34 3) 80) (some ((xst (xst S 38 (S.1 34 3).toNatClampNeg a1) 34 3 (((xst S 38 (S.1 34 3).toNatClampNeg a1).1 34 3) + (1 : Int32))).1 34 3, xst (xst S 38 (S.1 34 3).toNatClampNeg a1) 34 3 (((xst S 38 (S.1 34 3).toNatClampNeg a1).1 34 3) + (1 : Int32))))))
set_option maxHeartbeats 4000000 in
set_option maxRecDepth 100000 in
theorem c_X9_type (l : Launch) (G : xG) (n : Nat)  (S : xS) (a1 : Int32) (r : Int32) (S' : xS) (hf : f_X9_type n S a1 = some (r, S')) : xMi l G yX9_type cX9_type 2 (some .int) 1 22 [.ref (G.2.2 34), .int a1] S r S' := by
  refine xMi_of (own := RX9) (by decide +kernel) rfl (Nat.le_of_ble_eq_true rfl) ?_
  intro p e s m args below meth c X hr hlk H locs ls hP hS hl
  have hl : lv_has ls 2 [(0, .ref (G.2.2 34)), (1, .int a1)] := hl
  obtain ⟨hx, hb, hml, hown, hts, hE⟩ := id X
  unfold f_X9_type at hf
  refine lv_iload_n hx hb dX9_type_0 rfl (lv_at hl 1 rfl) ?_
  refine lv_iconst (v := 0) hx hb dX9_type_1 (by decide) ?_
  refine lv_sipush (v := 255) hx hb dX9_type_2 (by decide) ?_
  refine x_cSi (As := [.int a1, .int (0 : Int32), .int (255 : Int32)]) (rest := []) X hP hS kc_X9_68 (c_X9_in l G  S a1 (0 : Int32) (255 : Int32) _ rfl) ⟨Nat.le_of_ble_eq_true rfl, Nat.le_of_ble_eq_true rfl⟩ rfl hl.1 rfl (Nat.le_of_ble_eq_true rfl) ⟨Nat.zero_le _, Nat.zero_le _⟩ dX9_type_5 (fun H locs hP hS => ?_)
  refine lv_if_ne (tgt := 14) hx hb dX9_type_8 (by decide) (fun e1 => ?_) (fun e1 => ?_)
  · have hf := xif_f hf e1
    refine lv_aload_n hx hb dX9_type_14 rfl (lv_at hl 0 rfl) ?_
    refine x_getI X hP fl_X9_72 (by decide) rfl rfl dX9_type_15 ?_
    refine lv_bipush (v := 80) hx hb dX9_type_18 (by decide) ?_
    refine lv_icmp_ne (tgt := 26) hx hb dX9_type_20 (by decide) (fun e2 => ?_) (fun e2 => ?_)
    · have hf := xif_f hf e2
      refine lv_aload_n hx hb dX9_type_26 rfl (lv_at hl 0 rfl) ?_
      refine x_getR X hP fl_X9_19 (by decide) rfl rfl dX9_type_27 ?_
      refine lv_aload_n hx hb dX9_type_30 rfl (lv_at hl 0 rfl) ?_
      refine x_getI X hP fl_X9_72 (by decide) rfl rfl dX9_type_31 ?_
      refine lv_iload_n hx hb dX9_type_34 rfl (lv_at hl 1 rfl) ?_
      obtain ⟨g3, hf⟩ := xg_some hf
      refine x_iast X hP hS (by decide) rfl g3 dX9_type_35 (fun H locs hP hS => ?_)
      refine lv_aload_n hx hb dX9_type_36 rfl (lv_at hl 0 rfl) ?_
      refine lv_dup hx hb dX9_type_37 rfl ?_
      refine x_getI X hP fl_X9_72 (by decide) rfl rfl dX9_type_38 ?_
      refine lv_iconst (v := 1) hx hb dX9_type_41 (by decide) ?_
      refine lv_iadd hx hb dX9_type_42 ?_
      refine x_putI X hP hS fp_X9_72 (by decide) rfl rfl dX9_type_43 (fun H locs hP hS => ?_)
      refine lv_aload_n hx hb dX9_type_46 rfl (lv_at hl 0 rfl) ?_
      refine x_getI X hP fl_X9_72 (by decide) rfl rfl dX9_type_47 ?_
      exact x_iret X hr hlk hP hS  ((Prod.mk.inj (Option.some.inj hf)).1) ((Prod.mk.inj (Option.some.inj hf)).2) dX9_type_50
    · have hf := xif_t hf e2
      refine lv_bipush (v := (-4)) hx hb dX9_type_23 (by decide) ?_
      exact x_iret X hr hlk hP hS  ((Prod.mk.inj (Option.some.inj hf)).1) ((Prod.mk.inj (Option.some.inj hf)).2) dX9_type_25
  · have hf := xif_t hf e1
    refine lv_bipush (v := (-2)) hx hb dX9_type_11 (by decide) ?_
    exact x_iret X hr hlk hP hS  ((Prod.mk.inj (Option.some.inj hf)).1) ((Prod.mk.inj (Option.some.inj hf)).2) dX9_type_13
def f_X4_clear (n : Nat) (S : xS)  : Option xS :=
  (f_X4_scan n (xst S 4 1 (0 : Int32))).bind fun r1 => (some r1)
set_option maxHeartbeats 4000000 in
set_option maxRecDepth 100000 in
theorem c_X4_clear (l : Launch) (G : xG) (n : Nat)  (S : xS)  (S' : xS) (hf : f_X4_clear n S  = some S') : xMv l G yX4_clear cX4_clear 1 none 5 110 [.ref (G.2.2 4)] S S' := by
  refine xMv_of (own := RX4) (by decide +kernel) rfl (Nat.le_of_ble_eq_true rfl) ?_
  intro p e s m args below meth c X hr hlk H locs ls hP hS hl
  have hl : lv_has ls 1 [(0, .ref (G.2.2 4))] := hl
  obtain ⟨hx, hb, hml, hown, hts, hE⟩ := id X
  unfold f_X4_clear at hf
  refine lv_aload_n hx hb dX4_clear_0 rfl (lv_at hl 0 rfl) ?_
  refine lv_iconst (v := 0) hx hb dX4_clear_1 (by decide) ?_
  refine x_putI X hP hS fp_X4_28 (by decide) rfl rfl dX4_clear_2 (fun H locs hP hS => ?_)
  refine lv_aload_n hx hb dX4_clear_5 rfl (lv_at hl 0 rfl) ?_
  obtain ⟨r1, h2, hf⟩ := xb_some hf
  refine x_cVv (As := []) (rest := []) X hP hS kc_X4_31 (c_X4_scan l G n (xst S 4 1 (0 : Int32))  _ h2) ⟨Nat.le_of_ble_eq_true rfl, Nat.le_of_ble_eq_true rfl⟩ (by decide) rfl rfl rfl hl.1 rfl (Nat.le_of_ble_eq_true rfl) ⟨Nat.zero_le _, Nat.zero_le _⟩ dX4_clear_6 (fun H locs hP hS => ?_)
  exact x_vret X hr hlk hP hS (Option.some.inj hf) dX4_clear_9
def f_X8_wipe (n : Nat) (S : xS)  : Option (Int32 × xS) :=
  (f_X4_clear n S).bind fun r1 => ((f_X7_reckon n r1).bind fun r3 => (some (S.1 4 1, r3)))
set_option maxHeartbeats 4000000 in
set_option maxRecDepth 100000 in
theorem c_X8_wipe (l : Launch) (G : xG) (n : Nat)  (S : xS)  (r : Int32) (S' : xS) (hf : f_X8_wipe n S  = some (r, S')) : xMi l G yX8_wipe cX8_wipe 2 (some .int) 6 130 [.ref (G.2.2 0)] S r S' := by
  refine xMi_of (own := RX8) (by decide +kernel) rfl (Nat.le_of_ble_eq_true rfl) ?_
  intro p e s m args below meth c X hr hlk H locs ls hP hS hl
  have hl : lv_has ls 2 [(0, .ref (G.2.2 0))] := hl
  obtain ⟨hx, hb, hml, hown, hts, hE⟩ := id X
  unfold f_X8_wipe at hf
  refine lv_aload_n hx hb dX8_wipe_0 rfl (lv_at hl 0 rfl) ?_
  refine x_getR X hP fl_X8_23 (by decide) rfl rfl dX8_wipe_1 ?_
  refine x_getIN X hP fn_X8_90 (by decide) rfl rfl dX8_wipe_4 ?_
  refine lv_istore_n (lv' := [(1, .int (S.1 4 1)), (0, .ref (G.2.2 0))]) hx hb dX8_wipe_7 rfl hl (by decide) rfl (fun ls hl => ?_)
  refine lv_aload_n hx hb dX8_wipe_8 rfl (lv_at hl 1 rfl) ?_
  refine x_getR X hP fl_X8_23 (by decide) rfl rfl dX8_wipe_9 ?_
  obtain ⟨r1, h2, hf⟩ := xb_some hf
  refine x_cVv (As := []) (rest := []) X hP hS kc_X8_98 (c_X4_clear l G n S  _ h2) ⟨Nat.le_of_ble_eq_true rfl, Nat.le_of_ble_eq_true rfl⟩ (by decide) rfl rfl rfl hl.1 rfl (Nat.le_of_ble_eq_true rfl) ⟨Nat.zero_le _, Nat.zero_le _⟩ dX8_wipe_12 (fun H locs hP hS => ?_)
  refine lv_aload_n hx hb dX8_wipe_15 rfl (lv_at hl 1 rfl) ?_
  refine x_getR X hP fl_X8_32 (by decide) rfl rfl dX8_wipe_16 ?_
  obtain ⟨r3, h4, hf⟩ := xb_some hf
  refine x_cVv (As := []) (rest := []) X hP hS kc_X8_87 (c_X7_reckon l G n r1  _ h4) ⟨Nat.le_of_ble_eq_true rfl, Nat.le_of_ble_eq_true rfl⟩ (by decide) rfl rfl rfl hl.1 rfl (Nat.le_of_ble_eq_true rfl) ⟨Nat.zero_le _, Nat.zero_le _⟩ dX8_wipe_19 (fun H locs hP hS => ?_)
  refine lv_iload_n hx hb dX8_wipe_22 rfl (lv_at hl 0 rfl) ?_
  exact x_iret X hr hlk hP hS  ((Prod.mk.inj (Option.some.inj hf)).1) ((Prod.mk.inj (Option.some.inj hf)).2) dX8_wipe_23
def f_X9_wipe (S : xS)  : Int32 × xS :=
  (S.1 34 3, xst S 34 3 (0 : Int32))
set_option maxHeartbeats 4000000 in
set_option maxRecDepth 100000 in
theorem c_X9_wipe (l : Launch) (G : xG)  (S : xS)  (r : Int32) (S' : xS) (hf : f_X9_wipe S  = (r, S')) : xMi l G yX9_wipe cX9_wipe 2 (some .int) 0 0 [.ref (G.2.2 34)] S r S' := by
  refine xMi_of (own := RX9) (by decide +kernel) rfl (Nat.le_of_ble_eq_true rfl) ?_
  intro p e s m args below meth c X hr hlk H locs ls hP hS hl
  have hl : lv_has ls 2 [(0, .ref (G.2.2 34))] := hl
  obtain ⟨hx, hb, hml, hown, hts, hE⟩ := id X
  unfold f_X9_wipe at hf
  refine lv_aload_n hx hb dX9_wipe_0 rfl (lv_at hl 0 rfl) ?_
  refine x_getI X hP fl_X9_72 (by decide) rfl rfl dX9_wipe_1 ?_
  refine lv_istore_n (lv' := [(1, .int (S.1 34 3)), (0, .ref (G.2.2 34))]) hx hb dX9_wipe_4 rfl hl (by decide) rfl (fun ls hl => ?_)
  refine lv_aload_n hx hb dX9_wipe_5 rfl (lv_at hl 1 rfl) ?_
  refine lv_iconst (v := 0) hx hb dX9_wipe_6 (by decide) ?_
  refine x_putI X hP hS fp_X9_72 (by decide) rfl rfl dX9_wipe_7 (fun H locs hP hS => ?_)
  refine lv_iload_n hx hb dX9_wipe_10 rfl (lv_at hl 0 rfl) ?_
  exact x_iret X hr hlk hP hS  ((Prod.mk.inj (hf)).1) ((Prod.mk.inj (hf)).2) dX9_wipe_11
def f_X8_fault (S : xS)  : Int32 :=
  S.1 4 2
set_option maxHeartbeats 4000000 in
set_option maxRecDepth 100000 in
theorem c_X8_fault (l : Launch) (G : xG)  (S : xS)  (r : Int32) (hf : f_X8_fault S  = r) : xMi l G yX8_fault cX8_fault 1 (some .int) 0 0 [.ref (G.2.2 0)] S r S := by
  refine xMi_of (own := RX8) (by decide +kernel) rfl (Nat.le_of_ble_eq_true rfl) ?_
  intro p e s m args below meth c X hr hlk H locs ls hP hS hl
  have hl : lv_has ls 1 [(0, .ref (G.2.2 0))] := hl
  obtain ⟨hx, hb, hml, hown, hts, hE⟩ := id X
  unfold f_X8_fault at hf
  refine lv_aload_n hx hb dX8_fault_0 rfl (lv_at hl 0 rfl) ?_
  refine x_getR X hP fl_X8_23 (by decide) rfl rfl dX8_fault_1 ?_
  refine x_getIN X hP fn_X8_101 (by decide) rfl rfl dX8_fault_4 ?_
  exact x_iret X hr hlk hP hS  (hf) (rfl) dX8_fault_7
def f_X9_byteAt (n : Nat) (S : xS) (a1 : Int32) : Option Int32 :=
  (if (S.1 34 3) ≤ a1 then some (-1 : Int32) else xg (xin a1 80) (some (S.1 38 a1.toNatClampNeg)))
set_option maxHeartbeats 4000000 in
set_option maxRecDepth 100000 in
theorem c_X9_byteAt (l : Launch) (G : xG) (n : Nat)  (S : xS) (a1 : Int32) (r : Int32) (hf : f_X9_byteAt n S a1 = some r) : xMi l G yX9_byteAt cX9_byteAt 2 (some .int) 0 0 [.ref (G.2.2 34), .int a1] S r S := by
  refine xMi_of (own := RX9) (by decide +kernel) rfl (Nat.le_of_ble_eq_true rfl) ?_
  intro p e s m args below meth c X hr hlk H locs ls hP hS hl
  have hl : lv_has ls 2 [(0, .ref (G.2.2 34)), (1, .int a1)] := hl
  obtain ⟨hx, hb, hml, hown, hts, hE⟩ := id X
  unfold f_X9_byteAt at hf
  refine lv_iload_n hx hb dX9_byteAt_0 rfl (lv_at hl 1 rfl) ?_
  refine lv_aload_n hx hb dX9_byteAt_1 rfl (lv_at hl 0 rfl) ?_
  refine x_getI X hP fl_X9_72 (by decide) rfl rfl dX9_byteAt_2 ?_
  refine lv_icmp_ge (tgt := 17) hx hb dX9_byteAt_5 (by decide) (fun e1 => ?_) (fun e1 => ?_)
  · have hf := xif_t hf e1
    refine lv_iconst (v := (-1)) hx hb dX9_byteAt_17 (by decide) ?_
    exact x_iret X hr hlk hP hS  (Option.some.inj hf) (rfl) dX9_byteAt_18
  · have hf := xif_f hf e1
    refine lv_aload_n hx hb dX9_byteAt_8 rfl (lv_at hl 0 rfl) ?_
    refine x_getR X hP fl_X9_19 (by decide) rfl rfl dX9_byteAt_9 ?_
    refine lv_iload_n hx hb dX9_byteAt_12 rfl (lv_at hl 1 rfl) ?_
    obtain ⟨g2, hf⟩ := xg_some hf
    refine x_iald X hP (by decide) rfl g2 dX9_byteAt_13 ?_
    refine lv_goto (tgt := 18) hx hb dX9_byteAt_14 (by decide) ?_
    exact x_iret X hr hlk hP hS  (Option.some.inj hf) (rfl) dX9_byteAt_18
def b_X9_figures_2 (n : Nat) (k2 : Int32 → Int32 → Option Int32) (S : xS) (a1 : Int32) (a2 : Int32) : Option Int32 :=
  (if (2 : Int32) ≤ a2 then some a2 else (f_X9_byteAt n S (a1 + a2)).bind fun r2 => ((if (f_X9_in r2 (48 : Int32) (57 : Int32)) = 0 then some a2 else k2 a1 (a2 + 1))))
def l_X9_figures_2 (n : Nat) (S : xS) : Nat → Int32 → Int32 → Option Int32
  | 0, _, _ => none
  | j + 1, a1, a2 => b_X9_figures_2 n (l_X9_figures_2 n S j) S a1 a2
set_option maxHeartbeats 4000000 in
set_option maxRecDepth 100000 in
theorem t_X9_figures_2 {p : Program} {l : Launch} {e : Env} {s : State} {m : MethodId} {args : Array Value} {below : List Frame} {meth : Method} {c : Code} {G : xG} (X : xC p s m args c G RX9 cX9_figures 3) (hr : meth.sig.returnType = (some .int)) (hlk : meth.locks = false) {n : Nat} {r : Int32} {S : xS} : ∀ (j : Nat) (a1 : Int32) (a2 : Int32), l_X9_figures_2 n S j a1 a2 = some r → xGo p l e { frames := 1, cells := 0, slots := 0, locals := 22 } s m args below meth c G 3 0 0 (MQ below (xQi G r S) args s 0 0 (xA G)) S 2 [(0, .ref (G.2.2 34)), (1, .int a1), (2, .int a2)] [] := by
  intro j
  induction j with
  | zero => intro a1 a2 hf; exact nomatch (show (none : Option Int32) = _ from hf)
  | succ j ih =>
    intro a1 a2 hf H locs ls hP hS hl
    have hf : b_X9_figures_2 n (l_X9_figures_2 n S j) S a1 a2 = some r := hf
    unfold b_X9_figures_2 at hf
    obtain ⟨hx, hb, hml, hown, hts, hE⟩ := id X
    refine lv_iload_n hx hb dX9_figures_2 rfl (lv_at hl 2 rfl) ?_
    refine lv_iconst (v := 2) hx hb dX9_figures_3 (by decide) ?_
    refine lv_icmp_ge (tgt := 30) hx hb dX9_figures_4 (by decide) (fun e1 => ?_) (fun e1 => ?_)
    · have hf := xif_t hf e1
      refine lv_iload_n hx hb dX9_figures_30 rfl (lv_at hl 2 rfl) ?_
      exact x_iret X hr hlk hP hS  (Option.some.inj hf) (rfl) dX9_figures_31
    · have hf := xif_f hf e1
      refine lv_aload_n hx hb dX9_figures_7 rfl (lv_at hl 0 rfl) ?_
      refine lv_iload_n hx hb dX9_figures_8 rfl (lv_at hl 1 rfl) ?_
      refine lv_iload_n hx hb dX9_figures_9 rfl (lv_at hl 2 rfl) ?_
      refine lv_iadd hx hb dX9_figures_10 ?_
      obtain ⟨r2, h3, hf⟩ := xb_some hf
      refine x_cVi (As := [.int (a1 + a2)]) (rest := []) X hP hS kc_X9_76 (c_X9_byteAt l G n S (a1 + a2) _ h3) ⟨Nat.le_of_ble_eq_true rfl, Nat.le_of_ble_eq_true rfl⟩ (by decide) rfl rfl rfl hl.1 rfl (Nat.le_of_ble_eq_true rfl) ⟨Nat.zero_le _, Nat.zero_le _⟩ dX9_figures_11 (fun H locs hP hS => ?_)
      refine lv_bipush (v := 48) hx hb dX9_figures_14 (by decide) ?_
      refine lv_bipush (v := 57) hx hb dX9_figures_16 (by decide) ?_
      refine x_cSi (As := [.int r2, .int (48 : Int32), .int (57 : Int32)]) (rest := []) X hP hS kc_X9_68 (c_X9_in l G  S r2 (48 : Int32) (57 : Int32) _ rfl) ⟨Nat.le_of_ble_eq_true rfl, Nat.le_of_ble_eq_true rfl⟩ rfl hl.1 rfl (Nat.le_of_ble_eq_true rfl) ⟨Nat.zero_le _, Nat.zero_le _⟩ dX9_figures_18 (fun H locs hP hS => ?_)
      refine lv_if_eq (tgt := 30) hx hb dX9_figures_21 (by decide) (fun e4 => ?_) (fun e4 => ?_)
      · have hf := xif_t hf e4
        refine lv_iload_n hx hb dX9_figures_30 rfl (lv_at hl 2 rfl) ?_
        exact x_iret X hr hlk hP hS  (Option.some.inj hf) (rfl) dX9_figures_31
      · have hf := xif_f hf e4
        refine lv_iinc (v := a2 + 1) (lv' := [(2, .int (a2 + 1)), (0, .ref (G.2.2 34)), (1, .int a1)]) hx hb dX9_figures_24 hl (k := 2) rfl rfl (by decide) rfl (fun ls hl => ?_)
        refine lv_goto (tgt := 2) hx hb dX9_figures_27 (by decide) ?_
        exact ih a1 (a2 + 1) hf H locs ls hP hS (lv_sub hl [1, 2, 0] rfl)
def f_X9_figures (n : Nat) (S : xS) (a1 : Int32) : Option Int32 :=
  l_X9_figures_2 n S n a1 (0 : Int32)
set_option maxHeartbeats 4000000 in
set_option maxRecDepth 100000 in
theorem c_X9_figures (l : Launch) (G : xG) (n : Nat)  (S : xS) (a1 : Int32) (r : Int32) (hf : f_X9_figures n S a1 = some r) : xMi l G yX9_figures cX9_figures 3 (some .int) 1 22 [.ref (G.2.2 34), .int a1] S r S := by
  refine xMi_of (own := RX9) (by decide +kernel) rfl (Nat.le_of_ble_eq_true rfl) ?_
  intro p e s m args below meth c X hr hlk H locs ls hP hS hl
  have hl : lv_has ls 3 [(0, .ref (G.2.2 34)), (1, .int a1)] := hl
  obtain ⟨hx, hb, hml, hown, hts, hE⟩ := id X
  unfold f_X9_figures at hf
  refine lv_iconst (v := 0) hx hb dX9_figures_0 (by decide) ?_
  refine lv_istore_n (lv' := [(2, .int (0 : Int32)), (0, .ref (G.2.2 34)), (1, .int a1)]) hx hb dX9_figures_1 rfl hl (by decide) rfl (fun ls hl => ?_)
  exact t_X9_figures_2 X hr hlk   n a1 (0 : Int32) hf H locs ls hP hS (lv_sub hl [1, 2, 0] rfl)
def f_X9_numberAt (n : Nat) (S : xS) (a1 : Int32) : Option Int32 :=
  (f_X9_figures n S a1).bind fun r1 => ((if r1 = 0 then some (-1 : Int32) else (if r1 = (1 : Int32) then (f_X9_byteAt n S a1).bind fun r9 => (some (r9 - (48 : Int32))) else (f_X9_byteAt n S a1).bind fun r5 => ((f_X9_byteAt n S (a1 + (1 : Int32))).bind fun r7 => (some ((((10 : Int32) * (r5 - (48 : Int32))) + r7) - (48 : Int32)))))))
set_option maxHeartbeats 4000000 in
set_option maxRecDepth 100000 in
theorem c_X9_numberAt (l : Launch) (G : xG) (n : Nat)  (S : xS) (a1 : Int32) (r : Int32) (hf : f_X9_numberAt n S a1 = some r) : xMi l G yX9_numberAt cX9_numberAt 3 (some .int) 2 44 [.ref (G.2.2 34), .int a1] S r S := by
  refine xMi_of (own := RX9) (by decide +kernel) rfl (Nat.le_of_ble_eq_true rfl) ?_
  intro p e s m args below meth c X hr hlk H locs ls hP hS hl
  have hl : lv_has ls 3 [(0, .ref (G.2.2 34)), (1, .int a1)] := hl
  obtain ⟨hx, hb, hml, hown, hts, hE⟩ := id X
  unfold f_X9_numberAt at hf
  refine lv_aload_n hx hb dX9_numberAt_0 rfl (lv_at hl 0 rfl) ?_
  refine lv_iload_n hx hb dX9_numberAt_1 rfl (lv_at hl 1 rfl) ?_
  obtain ⟨r1, h2, hf⟩ := xb_some hf
  refine x_cVi (As := [.int a1]) (rest := []) X hP hS kc_X9_80 (c_X9_figures l G n S a1 _ h2) ⟨Nat.le_of_ble_eq_true rfl, Nat.le_of_ble_eq_true rfl⟩ (by decide) rfl rfl rfl hl.1 rfl (Nat.le_of_ble_eq_true rfl) ⟨Nat.zero_le _, Nat.zero_le _⟩ dX9_numberAt_2 (fun H locs hP hS => ?_)
  refine lv_istore_n (lv' := [(2, .int r1), (0, .ref (G.2.2 34)), (1, .int a1)]) hx hb dX9_numberAt_5 rfl hl (by decide) rfl (fun ls hl => ?_)
  refine lv_iload_n hx hb dX9_numberAt_6 rfl (lv_at hl 0 rfl) ?_
  refine lv_if_ne (tgt := 14) hx hb dX9_numberAt_7 (by decide) (fun e3 => ?_) (fun e3 => ?_)
  · have hf := xif_f hf e3
    refine lv_iload_n hx hb dX9_numberAt_14 rfl (lv_at hl 0 rfl) ?_
    refine lv_iconst (v := 1) hx hb dX9_numberAt_15 (by decide) ?_
    refine lv_icmp_ne (tgt := 30) hx hb dX9_numberAt_16 (by decide) (fun e4 => ?_) (fun e4 => ?_)
    · have hf := xif_f hf e4
      refine lv_bipush (v := 10) hx hb dX9_numberAt_30 (by decide) ?_
      refine lv_aload_n hx hb dX9_numberAt_32 rfl (lv_at hl 1 rfl) ?_
      refine lv_iload_n hx hb dX9_numberAt_33 rfl (lv_at hl 2 rfl) ?_
      obtain ⟨r5, h6, hf⟩ := xb_some hf
      refine x_cVi (As := [.int a1]) (rest := [.int (10 : Int32)]) X hP hS kc_X9_76 (c_X9_byteAt l G n S a1 _ h6) ⟨Nat.le_of_ble_eq_true rfl, Nat.le_of_ble_eq_true rfl⟩ (by decide) rfl rfl rfl hl.1 rfl (Nat.le_of_ble_eq_true rfl) ⟨Nat.zero_le _, Nat.zero_le _⟩ dX9_numberAt_34 (fun H locs hP hS => ?_)
      refine lv_bipush (v := 48) hx hb dX9_numberAt_37 (by decide) ?_
      refine lv_isub hx hb dX9_numberAt_39 ?_
      refine lv_imul hx hb dX9_numberAt_40 ?_
      refine lv_aload_n hx hb dX9_numberAt_41 rfl (lv_at hl 1 rfl) ?_
      refine lv_iload_n hx hb dX9_numberAt_42 rfl (lv_at hl 2 rfl) ?_
      refine lv_iconst (v := 1) hx hb dX9_numberAt_43 (by decide) ?_
      refine lv_iadd hx hb dX9_numberAt_44 ?_
      obtain ⟨r7, h8, hf⟩ := xb_some hf
      refine x_cVi (As := [.int (a1 + (1 : Int32))]) (rest := [.int ((10 : Int32) * (r5 - (48 : Int32)))]) X hP hS kc_X9_76 (c_X9_byteAt l G n S (a1 + (1 : Int32)) _ h8) ⟨Nat.le_of_ble_eq_true rfl, Nat.le_of_ble_eq_true rfl⟩ (by decide) rfl rfl rfl hl.1 rfl (Nat.le_of_ble_eq_true rfl) ⟨Nat.zero_le _, Nat.zero_le _⟩ dX9_numberAt_45 (fun H locs hP hS => ?_)
      refine lv_iadd hx hb dX9_numberAt_48 ?_
      refine lv_bipush (v := 48) hx hb dX9_numberAt_49 (by decide) ?_
      refine lv_isub hx hb dX9_numberAt_51 ?_
      exact x_iret X hr hlk hP hS  (Option.some.inj hf) (rfl) dX9_numberAt_52
    · have hf := xif_t hf e4
      refine lv_aload_n hx hb dX9_numberAt_19 rfl (lv_at hl 1 rfl) ?_
      refine lv_iload_n hx hb dX9_numberAt_20 rfl (lv_at hl 2 rfl) ?_
      obtain ⟨r9, h10, hf⟩ := xb_some hf
      refine x_cVi (As := [.int a1]) (rest := []) X hP hS kc_X9_76 (c_X9_byteAt l G n S a1 _ h10) ⟨Nat.le_of_ble_eq_true rfl, Nat.le_of_ble_eq_true rfl⟩ (by decide) rfl rfl rfl hl.1 rfl (Nat.le_of_ble_eq_true rfl) ⟨Nat.zero_le _, Nat.zero_le _⟩ dX9_numberAt_21 (fun H locs hP hS => ?_)
      refine lv_bipush (v := 48) hx hb dX9_numberAt_24 (by decide) ?_
      refine lv_isub hx hb dX9_numberAt_26 ?_
      refine lv_goto (tgt := 52) hx hb dX9_numberAt_27 (by decide) ?_
      exact x_iret X hr hlk hP hS  (Option.some.inj hf) (rfl) dX9_numberAt_52
  · have hf := xif_t hf e3
    refine lv_iconst (v := (-1)) hx hb dX9_numberAt_10 (by decide) ?_
    refine lv_goto (tgt := 52) hx hb dX9_numberAt_11 (by decide) ?_
    exact x_iret X hr hlk hP hS  (Option.some.inj hf) (rfl) dX9_numberAt_52
def j_X9_reads_162 (n : Nat) (k9 : xS → Int32 → Int32 → Option (Int32 × xS)) (S : xS) (a1 : Int32) (a2 : Int32) (a3 : Int32) (a5 : Int32) (a6 : Int32) : Option (Int32 × xS) :=
  (f_X9_byteAt n S a2).bind fun r18 => ((if r18 = (61 : Int32) then (f_X9_byteAt n S (a2 + 1)).bind fun r21 => ((if (f_X9_in r21 (48 : Int32) (56 : Int32)) = 0 then some (a2 + 1, S) else (f_X9_byteAt n S (a2 + 1)).bind fun r24 => (xg (xin a1 11) (xg (xin a5 3) (xg (xin a1 11) ((if ((a2 + 1) + 1) = ((xst (xst S 40 a1.toNatClampNeg (r24 - (48 : Int32))) 39 a1.toNatClampNeg ((((xst S 40 a1.toNatClampNeg (r24 - (48 : Int32))).1 35 a5.toNatClampNeg) * (((12 : Int32) * a3) + a6)) / (12 : Int32))).1 34 3) then some ((-1 : Int32), xst (xst (xst S 40 a1.toNatClampNeg (r24 - (48 : Int32))) 39 a1.toNatClampNeg ((((xst S 40 a1.toNatClampNeg (r24 - (48 : Int32))).1 35 a5.toNatClampNeg) * (((12 : Int32) * a3) + a6)) / (12 : Int32))) 34 5 (a1 + 1)) else (f_X9_byteAt n (xst (xst S 40 a1.toNatClampNeg (r24 - (48 : Int32))) 39 a1.toNatClampNeg ((((xst S 40 a1.toNatClampNeg (r24 - (48 : Int32))).1 35 a5.toNatClampNeg) * (((12 : Int32) * a3) + a6)) / (12 : Int32))) ((a2 + 1) + 1)).bind fun r30 => ((if r30 = (59 : Int32) then k9 (xst (xst S 40 a1.toNatClampNeg (r24 - (48 : Int32))) 39 a1.toNatClampNeg ((((xst S 40 a1.toNatClampNeg (r24 - (48 : Int32))).1 35 a5.toNatClampNeg) * (((12 : Int32) * a3) + a6)) / (12 : Int32))) (a1 + 1) (((a2 + 1) + 1) + 1) else some ((a2 + 1) + 1, xst (xst S 40 a1.toNatClampNeg (r24 - (48 : Int32))) 39 a1.toNatClampNeg ((((xst S 40 a1.toNatClampNeg (r24 - (48 : Int32))).1 35 a5.toNatClampNeg) * (((12 : Int32) * a3) + a6)) / (12 : Int32)))))))))))) else some (a2, S)))
set_option maxHeartbeats 4000000 in
set_option maxRecDepth 100000 in
theorem t_X9_reads_162 {p : Program} {l : Launch} {e : Env} {s : State} {m : MethodId} {args : Array Value} {below : List Frame} {meth : Method} {c : Code} {G : xG} (X : xC p s m args c G RX9 cX9_reads 7) (hr : meth.sig.returnType = (some .int)) (hlk : meth.locks = false) {n : Nat} {r : Int32} {S' : xS} {k9 : xS → Int32 → Int32 → Option (Int32 × xS)} (hk9 : ∀ (S : xS) (a1 : Int32) (a2 : Int32), k9 S a1 a2 = some (r, S') → xGo p l e { frames := 3, cells := 0, slots := 0, locals := 66 } s m args below meth c G 7 0 0 (MQ below (xQi G r S') args s 0 0 (xA G)) S 9 [(0, .ref (G.2.2 34)), (1, .int a1), (2, .int a2)] []) : ∀ (S : xS) (a1 : Int32) (a2 : Int32) (a3 : Int32) (a5 : Int32) (a6 : Int32), j_X9_reads_162 n k9 S a1 a2 a3 a5 a6 = some (r, S') → xGo p l e { frames := 3, cells := 0, slots := 0, locals := 66 } s m args below meth c G 7 0 0 (MQ below (xQi G r S') args s 0 0 (xA G)) S 162 [(0, .ref (G.2.2 34)), (1, .int a1), (2, .int a2), (3, .int a3), (5, .int a5), (6, .int a6)] [] := by
  intro S a1 a2 a3 a5 a6 hf H locs ls hP hS hl
  unfold j_X9_reads_162 at hf
  obtain ⟨hx, hb, hml, hown, hts, hE⟩ := id X
  refine lv_aload_n hx hb dX9_reads_162 rfl (lv_at hl 0 rfl) ?_
  refine lv_iload_n hx hb dX9_reads_163 rfl (lv_at hl 2 rfl) ?_
  obtain ⟨r18, h19, hf⟩ := xb_some hf
  refine x_cVi (As := [.int a2]) (rest := []) X hP hS kc_X9_76 (c_X9_byteAt l G n S a2 _ h19) ⟨Nat.le_of_ble_eq_true rfl, Nat.le_of_ble_eq_true rfl⟩ (by decide) rfl rfl rfl hl.1 rfl (Nat.le_of_ble_eq_true rfl) ⟨Nat.zero_le _, Nat.zero_le _⟩ dX9_reads_164 (fun H locs hP hS => ?_)
  refine lv_bipush (v := 61) hx hb dX9_reads_167 (by decide) ?_
  refine lv_icmp_eq (tgt := 174) hx hb dX9_reads_169 (by decide) (fun e20 => ?_) (fun e20 => ?_)
  · have hf := xif_t hf e20
    refine lv_iinc (v := a2 + 1) (lv' := [(2, .int (a2 + 1)), (0, .ref (G.2.2 34)), (1, .int a1), (3, .int a3), (5, .int a5), (6, .int a6)]) hx hb dX9_reads_174 hl (k := 2) rfl rfl (by decide) rfl (fun ls hl => ?_)
    refine lv_aload_n hx hb dX9_reads_177 rfl (lv_at hl 1 rfl) ?_
    refine lv_iload_n hx hb dX9_reads_178 rfl (lv_at hl 0 rfl) ?_
    obtain ⟨r21, h22, hf⟩ := xb_some hf
    refine x_cVi (As := [.int (a2 + 1)]) (rest := []) X hP hS kc_X9_76 (c_X9_byteAt l G n S (a2 + 1) _ h22) ⟨Nat.le_of_ble_eq_true rfl, Nat.le_of_ble_eq_true rfl⟩ (by decide) rfl rfl rfl hl.1 rfl (Nat.le_of_ble_eq_true rfl) ⟨Nat.zero_le _, Nat.zero_le _⟩ dX9_reads_179 (fun H locs hP hS => ?_)
    refine lv_bipush (v := 48) hx hb dX9_reads_182 (by decide) ?_
    refine lv_bipush (v := 56) hx hb dX9_reads_184 (by decide) ?_
    refine x_cSi (As := [.int r21, .int (48 : Int32), .int (56 : Int32)]) (rest := []) X hP hS kc_X9_68 (c_X9_in l G  S r21 (48 : Int32) (56 : Int32) _ rfl) ⟨Nat.le_of_ble_eq_true rfl, Nat.le_of_ble_eq_true rfl⟩ rfl hl.1 rfl (Nat.le_of_ble_eq_true rfl) ⟨Nat.zero_le _, Nat.zero_le _⟩ dX9_reads_186 (fun H locs hP hS => ?_)
    refine lv_if_ne (tgt := 194) hx hb dX9_reads_189 (by decide) (fun e23 => ?_) (fun e23 => ?_)
    · have hf := xif_f hf e23
      refine lv_aload_n hx hb dX9_reads_194 rfl (lv_at hl 1 rfl) ?_
      refine x_getR X hP fl_X9_25 (by decide) rfl rfl dX9_reads_195 ?_
      refine lv_iload_n hx hb dX9_reads_198 rfl (lv_at hl 2 rfl) ?_
      refine lv_aload_n hx hb dX9_reads_199 rfl (lv_at hl 1 rfl) ?_
      refine lv_iload_n hx hb dX9_reads_200 rfl (lv_at hl 0 rfl) ?_
      obtain ⟨r24, h25, hf⟩ := xb_some hf
      refine x_cVi (As := [.int (a2 + 1)]) (rest := [.int a1, .ref (G.2.2 40)]) X hP hS kc_X9_76 (c_X9_byteAt l G n S (a2 + 1) _ h25) ⟨Nat.le_of_ble_eq_true rfl, Nat.le_of_ble_eq_true rfl⟩ (by decide) rfl rfl rfl hl.1 rfl (Nat.le_of_ble_eq_true rfl) ⟨Nat.zero_le _, Nat.zero_le _⟩ dX9_reads_201 (fun H locs hP hS => ?_)
      refine lv_bipush (v := 48) hx hb dX9_reads_204 (by decide) ?_
      refine lv_isub hx hb dX9_reads_206 ?_
      obtain ⟨g26, hf⟩ := xg_some hf
      refine x_iast X hP hS (by decide) rfl g26 dX9_reads_207 (fun H locs hP hS => ?_)
      refine lv_aload_n hx hb dX9_reads_208 rfl (lv_at hl 1 rfl) ?_
      refine x_getR X hP fl_X9_22 (by decide) rfl rfl dX9_reads_209 ?_
      refine lv_iload_n hx hb dX9_reads_212 rfl (lv_at hl 2 rfl) ?_
      refine lv_aload_n hx hb dX9_reads_213 rfl (lv_at hl 1 rfl) ?_
      refine x_getR X hP fl_X9_7 (by decide) rfl rfl dX9_reads_214 ?_
      refine lv_iload hx hb dX9_reads_217 (lv_at hl 4 rfl) ?_
      obtain ⟨g27, hf⟩ := xg_some hf
      refine x_iald X hP (by decide) rfl g27 dX9_reads_219 ?_
      refine lv_bipush (v := 12) hx hb dX9_reads_220 (by decide) ?_
      refine lv_iload_n hx hb dX9_reads_222 rfl (lv_at hl 3 rfl) ?_
      refine lv_imul hx hb dX9_reads_223 ?_
      refine lv_iload hx hb dX9_reads_224 (lv_at hl 5 rfl) ?_
      refine lv_iadd hx hb dX9_reads_226 ?_
      refine lv_imul hx hb dX9_reads_227 ?_
      refine lv_bipush (v := 12) hx hb dX9_reads_228 (by decide) ?_
      refine lv_idiv hx hb dX9_reads_230 (by decide) ?_
      obtain ⟨g28, hf⟩ := xg_some hf
      refine x_iast X hP hS (by decide) rfl g28 dX9_reads_231 (fun H locs hP hS => ?_)
      refine lv_iinc (v := a1 + 1) (lv' := [(1, .int (a1 + 1)), (2, .int (a2 + 1)), (0, .ref (G.2.2 34)), (3, .int a3), (5, .int a5), (6, .int a6)]) hx hb dX9_reads_232 hl (k := 2) rfl rfl (by decide) rfl (fun ls hl => ?_)
      refine lv_iinc (v := (a2 + 1) + 1) (lv' := [(2, .int ((a2 + 1) + 1)), (1, .int (a1 + 1)), (0, .ref (G.2.2 34)), (3, .int a3), (5, .int a5), (6, .int a6)]) hx hb dX9_reads_235 hl (k := 1) rfl rfl (by decide) rfl (fun ls hl => ?_)
      refine lv_iload_n hx hb dX9_reads_238 rfl (lv_at hl 0 rfl) ?_
      refine lv_aload_n hx hb dX9_reads_239 rfl (lv_at hl 2 rfl) ?_
      refine x_getI X hP fl_X9_72 (by decide) rfl rfl dX9_reads_240 ?_
      refine lv_icmp_ne (tgt := 253) hx hb dX9_reads_243 (by decide) (fun e29 => ?_) (fun e29 => ?_)
      · have hf := xif_f hf e29
        refine lv_aload_n hx hb dX9_reads_253 rfl (lv_at hl 2 rfl) ?_
        refine lv_iload_n hx hb dX9_reads_254 rfl (lv_at hl 0 rfl) ?_
        obtain ⟨r30, h31, hf⟩ := xb_some hf
        refine x_cVi (As := [.int ((a2 + 1) + 1)]) (rest := []) X hP hS kc_X9_76 (c_X9_byteAt l G n (xst (xst S 40 a1.toNatClampNeg (r24 - (48 : Int32))) 39 a1.toNatClampNeg ((((xst S 40 a1.toNatClampNeg (r24 - (48 : Int32))).1 35 a5.toNatClampNeg) * (((12 : Int32) * a3) + a6)) / (12 : Int32))) ((a2 + 1) + 1) _ h31) ⟨Nat.le_of_ble_eq_true rfl, Nat.le_of_ble_eq_true rfl⟩ (by decide) rfl rfl rfl hl.1 rfl (Nat.le_of_ble_eq_true rfl) ⟨Nat.zero_le _, Nat.zero_le _⟩ dX9_reads_255 (fun H locs hP hS => ?_)
        refine lv_bipush (v := 59) hx hb dX9_reads_258 (by decide) ?_
        refine lv_icmp_eq (tgt := 265) hx hb dX9_reads_260 (by decide) (fun e32 => ?_) (fun e32 => ?_)
        · have hf := xif_t hf e32
          refine lv_iinc (v := ((a2 + 1) + 1) + 1) (lv' := [(2, .int (((a2 + 1) + 1) + 1)), (1, .int (a1 + 1)), (0, .ref (G.2.2 34)), (3, .int a3), (5, .int a5), (6, .int a6)]) hx hb dX9_reads_265 hl (k := 0) rfl rfl (by decide) rfl (fun ls hl => ?_)
          refine lv_goto (tgt := 9) hx hb dX9_reads_268 (by decide) ?_
          exact hk9 (xst (xst S 40 a1.toNatClampNeg (r24 - (48 : Int32))) 39 a1.toNatClampNeg ((((xst S 40 a1.toNatClampNeg (r24 - (48 : Int32))).1 35 a5.toNatClampNeg) * (((12 : Int32) * a3) + a6)) / (12 : Int32))) (a1 + 1) (((a2 + 1) + 1) + 1) hf H locs ls hP hS (lv_sub hl [2, 1, 0] rfl)
        · have hf := xif_f hf e32
          refine lv_iload_n hx hb dX9_reads_263 rfl (lv_at hl 0 rfl) ?_
          exact x_iret X hr hlk hP hS  ((Prod.mk.inj (Option.some.inj hf)).1) ((Prod.mk.inj (Option.some.inj hf)).2) dX9_reads_264
      · have hf := xif_t hf e29
        refine lv_aload_n hx hb dX9_reads_246 rfl (lv_at hl 2 rfl) ?_
        refine lv_iload_n hx hb dX9_reads_247 rfl (lv_at hl 1 rfl) ?_
        refine x_putI X hP hS fp_X9_83 (by decide) rfl rfl dX9_reads_248 (fun H locs hP hS => ?_)
        refine lv_iconst (v := (-1)) hx hb dX9_reads_251 (by decide) ?_
        exact x_iret X hr hlk hP hS  ((Prod.mk.inj (Option.some.inj hf)).1) ((Prod.mk.inj (Option.some.inj hf)).2) dX9_reads_252
    · have hf := xif_t hf e23
      refine lv_iload_n hx hb dX9_reads_192 rfl (lv_at hl 0 rfl) ?_
      exact x_iret X hr hlk hP hS  ((Prod.mk.inj (Option.some.inj hf)).1) ((Prod.mk.inj (Option.some.inj hf)).2) dX9_reads_193
  · have hf := xif_f hf e20
    refine lv_iload_n hx hb dX9_reads_172 rfl (lv_at hl 2 rfl) ?_
    exact x_iret X hr hlk hP hS  ((Prod.mk.inj (Option.some.inj hf)).1) ((Prod.mk.inj (Option.some.inj hf)).2) dX9_reads_173
def j_X9_reads_110 (n : Nat) (k9 : xS → Int32 → Int32 → Option (Int32 × xS)) (S : xS) (a1 : Int32) (a2 : Int32) (a3 : Int32) (s0 : Int32) : Option (Int32 × xS) :=
  (f_X9_byteAt n S (a2 + 1)).bind fun r15 => ((if r15 = (43 : Int32) then (f_X9_numberAt n S ((a2 + 1) + 1)).bind fun r33 => ((if (f_X9_in r33 (1 : Int32) (11 : Int32)) = 0 then some ((a2 + 1) + 1, S) else (f_X9_numberAt n S ((a2 + 1) + 1)).bind fun r36 => ((f_X9_figures n S ((a2 + 1) + 1)).bind fun r38 => (j_X9_reads_162 n k9 S a1 (((a2 + 1) + 1) + r38) a3 s0 r36)))) else j_X9_reads_162 n k9 S a1 (a2 + 1) a3 s0 (0 : Int32)))
set_option maxHeartbeats 4000000 in
set_option maxRecDepth 100000 in
theorem t_X9_reads_110 {p : Program} {l : Launch} {e : Env} {s : State} {m : MethodId} {args : Array Value} {below : List Frame} {meth : Method} {c : Code} {G : xG} (X : xC p s m args c G RX9 cX9_reads 7) (hr : meth.sig.returnType = (some .int)) (hlk : meth.locks = false) {n : Nat} {r : Int32} {S' : xS} {k9 : xS → Int32 → Int32 → Option (Int32 × xS)} (hk9 : ∀ (S : xS) (a1 : Int32) (a2 : Int32), k9 S a1 a2 = some (r, S') → xGo p l e { frames := 3, cells := 0, slots := 0, locals := 66 } s m args below meth c G 7 0 0 (MQ below (xQi G r S') args s 0 0 (xA G)) S 9 [(0, .ref (G.2.2 34)), (1, .int a1), (2, .int a2)] []) : ∀ (S : xS) (a1 : Int32) (a2 : Int32) (a3 : Int32) (s0 : Int32), j_X9_reads_110 n k9 S a1 a2 a3 s0 = some (r, S') → xGo p l e { frames := 3, cells := 0, slots := 0, locals := 66 } s m args below meth c G 7 0 0 (MQ below (xQi G r S') args s 0 0 (xA G)) S 110 [(0, .ref (G.2.2 34)), (1, .int a1), (2, .int a2), (3, .int a3)] [.int s0] := by
  intro S a1 a2 a3 s0 hf H locs ls hP hS hl
  unfold j_X9_reads_110 at hf
  obtain ⟨hx, hb, hml, hown, hts, hE⟩ := id X
  refine lv_istore (lv' := [(5, .int s0), (0, .ref (G.2.2 34)), (1, .int a1), (2, .int a2), (3, .int a3)]) hx hb dX9_reads_110 hl (by decide) rfl (fun ls hl => ?_)
  refine lv_iinc (v := a2 + 1) (lv' := [(2, .int (a2 + 1)), (5, .int s0), (0, .ref (G.2.2 34)), (1, .int a1), (3, .int a3)]) hx hb dX9_reads_112 hl (k := 3) rfl rfl (by decide) rfl (fun ls hl => ?_)
  refine lv_iconst (v := 0) hx hb dX9_reads_115 (by decide) ?_
  refine lv_istore (lv' := [(6, .int (0 : Int32)), (2, .int (a2 + 1)), (5, .int s0), (0, .ref (G.2.2 34)), (1, .int a1), (3, .int a3)]) hx hb dX9_reads_116 hl (by decide) rfl (fun ls hl => ?_)
  refine lv_aload_n hx hb dX9_reads_118 rfl (lv_at hl 3 rfl) ?_
  refine lv_iload_n hx hb dX9_reads_119 rfl (lv_at hl 1 rfl) ?_
  obtain ⟨r15, h16, hf⟩ := xb_some hf
  refine x_cVi (As := [.int (a2 + 1)]) (rest := []) X hP hS kc_X9_76 (c_X9_byteAt l G n S (a2 + 1) _ h16) ⟨Nat.le_of_ble_eq_true rfl, Nat.le_of_ble_eq_true rfl⟩ (by decide) rfl rfl rfl hl.1 rfl (Nat.le_of_ble_eq_true rfl) ⟨Nat.zero_le _, Nat.zero_le _⟩ dX9_reads_120 (fun H locs hP hS => ?_)
  refine lv_bipush (v := 43) hx hb dX9_reads_123 (by decide) ?_
  refine lv_icmp_ne (tgt := 162) hx hb dX9_reads_125 (by decide) (fun e17 => ?_) (fun e17 => ?_)
  · have hf := xif_f hf e17
    exact t_X9_reads_162 X hr hlk  hk9 S a1 (a2 + 1) a3 s0 (0 : Int32) hf H locs ls hP hS (lv_sub hl [3, 4, 1, 5, 2, 0] rfl)
  · have hf := xif_t hf e17
    refine lv_iinc (v := (a2 + 1) + 1) (lv' := [(2, .int ((a2 + 1) + 1)), (6, .int (0 : Int32)), (5, .int s0), (0, .ref (G.2.2 34)), (1, .int a1), (3, .int a3)]) hx hb dX9_reads_128 hl (k := 1) rfl rfl (by decide) rfl (fun ls hl => ?_)
    refine lv_aload_n hx hb dX9_reads_131 rfl (lv_at hl 3 rfl) ?_
    refine lv_iload_n hx hb dX9_reads_132 rfl (lv_at hl 0 rfl) ?_
    obtain ⟨r33, h34, hf⟩ := xb_some hf
    refine x_cVi (As := [.int ((a2 + 1) + 1)]) (rest := []) X hP hS kc_X9_86 (c_X9_numberAt l G n S ((a2 + 1) + 1) _ h34) ⟨Nat.le_of_ble_eq_true rfl, Nat.le_of_ble_eq_true rfl⟩ (by decide) rfl rfl rfl hl.1 rfl (Nat.le_of_ble_eq_true rfl) ⟨Nat.zero_le _, Nat.zero_le _⟩ dX9_reads_133 (fun H locs hP hS => ?_)
    refine lv_iconst (v := 1) hx hb dX9_reads_136 (by decide) ?_
    refine lv_bipush (v := 11) hx hb dX9_reads_137 (by decide) ?_
    refine x_cSi (As := [.int r33, .int (1 : Int32), .int (11 : Int32)]) (rest := []) X hP hS kc_X9_68 (c_X9_in l G  S r33 (1 : Int32) (11 : Int32) _ rfl) ⟨Nat.le_of_ble_eq_true rfl, Nat.le_of_ble_eq_true rfl⟩ rfl hl.1 rfl (Nat.le_of_ble_eq_true rfl) ⟨Nat.zero_le _, Nat.zero_le _⟩ dX9_reads_139 (fun H locs hP hS => ?_)
    refine lv_if_ne (tgt := 147) hx hb dX9_reads_142 (by decide) (fun e35 => ?_) (fun e35 => ?_)
    · have hf := xif_f hf e35
      refine lv_aload_n hx hb dX9_reads_147 rfl (lv_at hl 3 rfl) ?_
      refine lv_iload_n hx hb dX9_reads_148 rfl (lv_at hl 0 rfl) ?_
      obtain ⟨r36, h37, hf⟩ := xb_some hf
      refine x_cVi (As := [.int ((a2 + 1) + 1)]) (rest := []) X hP hS kc_X9_86 (c_X9_numberAt l G n S ((a2 + 1) + 1) _ h37) ⟨Nat.le_of_ble_eq_true rfl, Nat.le_of_ble_eq_true rfl⟩ (by decide) rfl rfl rfl hl.1 rfl (Nat.le_of_ble_eq_true rfl) ⟨Nat.zero_le _, Nat.zero_le _⟩ dX9_reads_149 (fun H locs hP hS => ?_)
      refine lv_istore (lv' := [(6, .int r36), (2, .int ((a2 + 1) + 1)), (5, .int s0), (0, .ref (G.2.2 34)), (1, .int a1), (3, .int a3)]) hx hb dX9_reads_152 hl (by decide) rfl (fun ls hl => ?_)
      refine lv_iload_n hx hb dX9_reads_154 rfl (lv_at hl 1 rfl) ?_
      refine lv_aload_n hx hb dX9_reads_155 rfl (lv_at hl 3 rfl) ?_
      refine lv_iload_n hx hb dX9_reads_156 rfl (lv_at hl 1 rfl) ?_
      obtain ⟨r38, h39, hf⟩ := xb_some hf
      refine x_cVi (As := [.int ((a2 + 1) + 1)]) (rest := [.int ((a2 + 1) + 1)]) X hP hS kc_X9_80 (c_X9_figures l G n S ((a2 + 1) + 1) _ h39) ⟨Nat.le_of_ble_eq_true rfl, Nat.le_of_ble_eq_true rfl⟩ (by decide) rfl rfl rfl hl.1 rfl (Nat.le_of_ble_eq_true rfl) ⟨Nat.zero_le _, Nat.zero_le _⟩ dX9_reads_157 (fun H locs hP hS => ?_)
      refine lv_iadd hx hb dX9_reads_160 ?_
      refine lv_istore_n (lv' := [(2, .int (((a2 + 1) + 1) + r38)), (6, .int r36), (5, .int s0), (0, .ref (G.2.2 34)), (1, .int a1), (3, .int a3)]) hx hb dX9_reads_161 rfl hl (by decide) rfl (fun ls hl => ?_)
      exact t_X9_reads_162 X hr hlk  hk9 S a1 (((a2 + 1) + 1) + r38) a3 s0 r36 hf H locs ls hP hS (lv_sub hl [3, 4, 0, 5, 2, 1] rfl)
    · have hf := xif_t hf e35
      refine lv_iload_n hx hb dX9_reads_145 rfl (lv_at hl 0 rfl) ?_
      exact x_iret X hr hlk hP hS  ((Prod.mk.inj (Option.some.inj hf)).1) ((Prod.mk.inj (Option.some.inj hf)).2) dX9_reads_146
def j_X9_reads_87 (n : Nat) (k9 : xS → Int32 → Int32 → Option (Int32 × xS)) (S : xS) (a1 : Int32) (a2 : Int32) (a3 : Int32) (a4 : Int32) : Option (Int32 × xS) :=
  (if a4 = (102 : Int32) then j_X9_reads_110 n k9 S a1 a2 a3 (0 : Int32) else (if a4 = (101 : Int32) then j_X9_reads_110 n k9 S a1 a2 a3 (1 : Int32) else j_X9_reads_110 n k9 S a1 a2 a3 (2 : Int32)))
set_option maxHeartbeats 4000000 in
set_option maxRecDepth 100000 in
theorem t_X9_reads_87 {p : Program} {l : Launch} {e : Env} {s : State} {m : MethodId} {args : Array Value} {below : List Frame} {meth : Method} {c : Code} {G : xG} (X : xC p s m args c G RX9 cX9_reads 7) (hr : meth.sig.returnType = (some .int)) (hlk : meth.locks = false) {n : Nat} {r : Int32} {S' : xS} {k9 : xS → Int32 → Int32 → Option (Int32 × xS)} (hk9 : ∀ (S : xS) (a1 : Int32) (a2 : Int32), k9 S a1 a2 = some (r, S') → xGo p l e { frames := 3, cells := 0, slots := 0, locals := 66 } s m args below meth c G 7 0 0 (MQ below (xQi G r S') args s 0 0 (xA G)) S 9 [(0, .ref (G.2.2 34)), (1, .int a1), (2, .int a2)] []) : ∀ (S : xS) (a1 : Int32) (a2 : Int32) (a3 : Int32) (a4 : Int32), j_X9_reads_87 n k9 S a1 a2 a3 a4 = some (r, S') → xGo p l e { frames := 3, cells := 0, slots := 0, locals := 66 } s m args below meth c G 7 0 0 (MQ below (xQi G r S') args s 0 0 (xA G)) S 87 [(0, .ref (G.2.2 34)), (1, .int a1), (2, .int a2), (3, .int a3), (4, .int a4)] [] := by
  intro S a1 a2 a3 a4 hf H locs ls hP hS hl
  unfold j_X9_reads_87 at hf
  obtain ⟨hx, hb, hml, hown, hts, hE⟩ := id X
  refine lv_iload hx hb dX9_reads_87 (lv_at hl 4 rfl) ?_
  refine lv_bipush (v := 102) hx hb dX9_reads_89 (by decide) ?_
  refine lv_icmp_ne (tgt := 98) hx hb dX9_reads_91 (by decide) (fun e13 => ?_) (fun e13 => ?_)
  · have hf := xif_f hf e13
    refine lv_iload hx hb dX9_reads_98 (lv_at hl 4 rfl) ?_
    refine lv_bipush (v := 101) hx hb dX9_reads_100 (by decide) ?_
    refine lv_icmp_ne (tgt := 109) hx hb dX9_reads_102 (by decide) (fun e14 => ?_) (fun e14 => ?_)
    · have hf := xif_f hf e14
      refine lv_iconst (v := 2) hx hb dX9_reads_109 (by decide) ?_
      exact t_X9_reads_110 X hr hlk  hk9 S a1 a2 a3 (2 : Int32) hf H locs ls hP hS (lv_sub hl [0, 1, 2, 3] rfl)
    · have hf := xif_t hf e14
      refine lv_iconst (v := 1) hx hb dX9_reads_105 (by decide) ?_
      refine lv_goto (tgt := 110) hx hb dX9_reads_106 (by decide) ?_
      exact t_X9_reads_110 X hr hlk  hk9 S a1 a2 a3 (1 : Int32) hf H locs ls hP hS (lv_sub hl [0, 1, 2, 3] rfl)
  · have hf := xif_t hf e13
    refine lv_iconst (v := 0) hx hb dX9_reads_94 (by decide) ?_
    refine lv_goto (tgt := 110) hx hb dX9_reads_95 (by decide) ?_
    exact t_X9_reads_110 X hr hlk  hk9 S a1 a2 a3 (0 : Int32) hf H locs ls hP hS (lv_sub hl [0, 1, 2, 3] rfl)
def j_X9_reads_21 (n : Nat) (k9 : xS → Int32 → Int32 → Option (Int32 × xS)) (S : xS) (a1 : Int32) (a2 : Int32) : Option (Int32 × xS) :=
  (if a1 = (10 : Int32) then some (a2, S) else (f_X9_numberAt n S a2).bind fun r3 => ((if (f_X9_in r3 (1 : Int32) (99 : Int32)) = 0 then some (a2, S) else (f_X9_numberAt n S a2).bind fun r6 => ((f_X9_figures n S a2).bind fun r8 => ((f_X9_byteAt n S (a2 + r8)).bind fun r10 => ((if r10 = (102 : Int32) then j_X9_reads_87 n k9 S a1 (a2 + r8) r6 r10 else (if r10 = (101 : Int32) then j_X9_reads_87 n k9 S a1 (a2 + r8) r6 r10 else (if r10 = (115 : Int32) then j_X9_reads_87 n k9 S a1 (a2 + r8) r6 r10 else some (a2 + r8, S))))))))))
set_option maxHeartbeats 4000000 in
set_option maxRecDepth 100000 in
theorem t_X9_reads_21 {p : Program} {l : Launch} {e : Env} {s : State} {m : MethodId} {args : Array Value} {below : List Frame} {meth : Method} {c : Code} {G : xG} (X : xC p s m args c G RX9 cX9_reads 7) (hr : meth.sig.returnType = (some .int)) (hlk : meth.locks = false) {n : Nat} {r : Int32} {S' : xS} {k9 : xS → Int32 → Int32 → Option (Int32 × xS)} (hk9 : ∀ (S : xS) (a1 : Int32) (a2 : Int32), k9 S a1 a2 = some (r, S') → xGo p l e { frames := 3, cells := 0, slots := 0, locals := 66 } s m args below meth c G 7 0 0 (MQ below (xQi G r S') args s 0 0 (xA G)) S 9 [(0, .ref (G.2.2 34)), (1, .int a1), (2, .int a2)] []) : ∀ (S : xS) (a1 : Int32) (a2 : Int32), j_X9_reads_21 n k9 S a1 a2 = some (r, S') → xGo p l e { frames := 3, cells := 0, slots := 0, locals := 66 } s m args below meth c G 7 0 0 (MQ below (xQi G r S') args s 0 0 (xA G)) S 21 [(0, .ref (G.2.2 34)), (1, .int a1), (2, .int a2)] [] := by
  intro S a1 a2 hf H locs ls hP hS hl
  unfold j_X9_reads_21 at hf
  obtain ⟨hx, hb, hml, hown, hts, hE⟩ := id X
  refine lv_iload_n hx hb dX9_reads_21 rfl (lv_at hl 1 rfl) ?_
  refine lv_bipush (v := 10) hx hb dX9_reads_22 (by decide) ?_
  refine lv_icmp_eq (tgt := 41) hx hb dX9_reads_24 (by decide) (fun e2 => ?_) (fun e2 => ?_)
  · have hf := xif_t hf e2
    refine lv_iload_n hx hb dX9_reads_41 rfl (lv_at hl 2 rfl) ?_
    exact x_iret X hr hlk hP hS  ((Prod.mk.inj (Option.some.inj hf)).1) ((Prod.mk.inj (Option.some.inj hf)).2) dX9_reads_42
  · have hf := xif_f hf e2
    refine lv_aload_n hx hb dX9_reads_27 rfl (lv_at hl 0 rfl) ?_
    refine lv_iload_n hx hb dX9_reads_28 rfl (lv_at hl 2 rfl) ?_
    obtain ⟨r3, h4, hf⟩ := xb_some hf
    refine x_cVi (As := [.int a2]) (rest := []) X hP hS kc_X9_86 (c_X9_numberAt l G n S a2 _ h4) ⟨Nat.le_of_ble_eq_true rfl, Nat.le_of_ble_eq_true rfl⟩ (by decide) rfl rfl rfl hl.1 rfl (Nat.le_of_ble_eq_true rfl) ⟨Nat.zero_le _, Nat.zero_le _⟩ dX9_reads_29 (fun H locs hP hS => ?_)
    refine lv_iconst (v := 1) hx hb dX9_reads_32 (by decide) ?_
    refine lv_bipush (v := 99) hx hb dX9_reads_33 (by decide) ?_
    refine x_cSi (As := [.int r3, .int (1 : Int32), .int (99 : Int32)]) (rest := []) X hP hS kc_X9_68 (c_X9_in l G  S r3 (1 : Int32) (99 : Int32) _ rfl) ⟨Nat.le_of_ble_eq_true rfl, Nat.le_of_ble_eq_true rfl⟩ rfl hl.1 rfl (Nat.le_of_ble_eq_true rfl) ⟨Nat.zero_le _, Nat.zero_le _⟩ dX9_reads_35 (fun H locs hP hS => ?_)
    refine lv_if_ne (tgt := 43) hx hb dX9_reads_38 (by decide) (fun e5 => ?_) (fun e5 => ?_)
    · have hf := xif_f hf e5
      refine lv_aload_n hx hb dX9_reads_43 rfl (lv_at hl 0 rfl) ?_
      refine lv_iload_n hx hb dX9_reads_44 rfl (lv_at hl 2 rfl) ?_
      obtain ⟨r6, h7, hf⟩ := xb_some hf
      refine x_cVi (As := [.int a2]) (rest := []) X hP hS kc_X9_86 (c_X9_numberAt l G n S a2 _ h7) ⟨Nat.le_of_ble_eq_true rfl, Nat.le_of_ble_eq_true rfl⟩ (by decide) rfl rfl rfl hl.1 rfl (Nat.le_of_ble_eq_true rfl) ⟨Nat.zero_le _, Nat.zero_le _⟩ dX9_reads_45 (fun H locs hP hS => ?_)
      refine lv_istore_n (lv' := [(3, .int r6), (0, .ref (G.2.2 34)), (1, .int a1), (2, .int a2)]) hx hb dX9_reads_48 rfl hl (by decide) rfl (fun ls hl => ?_)
      refine lv_iload_n hx hb dX9_reads_49 rfl (lv_at hl 3 rfl) ?_
      refine lv_aload_n hx hb dX9_reads_50 rfl (lv_at hl 1 rfl) ?_
      refine lv_iload_n hx hb dX9_reads_51 rfl (lv_at hl 3 rfl) ?_
      obtain ⟨r8, h9, hf⟩ := xb_some hf
      refine x_cVi (As := [.int a2]) (rest := [.int a2]) X hP hS kc_X9_80 (c_X9_figures l G n S a2 _ h9) ⟨Nat.le_of_ble_eq_true rfl, Nat.le_of_ble_eq_true rfl⟩ (by decide) rfl rfl rfl hl.1 rfl (Nat.le_of_ble_eq_true rfl) ⟨Nat.zero_le _, Nat.zero_le _⟩ dX9_reads_52 (fun H locs hP hS => ?_)
      refine lv_iadd hx hb dX9_reads_55 ?_
      refine lv_istore_n (lv' := [(2, .int (a2 + r8)), (3, .int r6), (0, .ref (G.2.2 34)), (1, .int a1)]) hx hb dX9_reads_56 rfl hl (by decide) rfl (fun ls hl => ?_)
      refine lv_aload_n hx hb dX9_reads_57 rfl (lv_at hl 2 rfl) ?_
      refine lv_iload_n hx hb dX9_reads_58 rfl (lv_at hl 0 rfl) ?_
      obtain ⟨r10, h11, hf⟩ := xb_some hf
      refine x_cVi (As := [.int (a2 + r8)]) (rest := []) X hP hS kc_X9_76 (c_X9_byteAt l G n S (a2 + r8) _ h11) ⟨Nat.le_of_ble_eq_true rfl, Nat.le_of_ble_eq_true rfl⟩ (by decide) rfl rfl rfl hl.1 rfl (Nat.le_of_ble_eq_true rfl) ⟨Nat.zero_le _, Nat.zero_le _⟩ dX9_reads_59 (fun H locs hP hS => ?_)
      refine lv_istore (lv' := [(4, .int r10), (2, .int (a2 + r8)), (3, .int r6), (0, .ref (G.2.2 34)), (1, .int a1)]) hx hb dX9_reads_62 hl (by decide) rfl (fun ls hl => ?_)
      refine lv_iload hx hb dX9_reads_64 (lv_at hl 0 rfl) ?_
      refine lv_bipush (v := 102) hx hb dX9_reads_66 (by decide) ?_
      refine lv_icmp_eq (tgt := 87) hx hb dX9_reads_68 (by decide) (fun e12 => ?_) (fun e12 => ?_)
      · have hf := xif_t hf e12
        exact t_X9_reads_87 X hr hlk  hk9 S a1 (a2 + r8) r6 r10 hf H locs ls hP hS (lv_sub hl [3, 4, 1, 2, 0] rfl)
      · have hf := xif_f hf e12
        refine lv_iload hx hb dX9_reads_71 (lv_at hl 0 rfl) ?_
        refine lv_bipush (v := 101) hx hb dX9_reads_73 (by decide) ?_
        refine lv_icmp_eq (tgt := 87) hx hb dX9_reads_75 (by decide) (fun e40 => ?_) (fun e40 => ?_)
        · have hf := xif_t hf e40
          exact t_X9_reads_87 X hr hlk  hk9 S a1 (a2 + r8) r6 r10 hf H locs ls hP hS (lv_sub hl [3, 4, 1, 2, 0] rfl)
        · have hf := xif_f hf e40
          refine lv_iload hx hb dX9_reads_78 (lv_at hl 0 rfl) ?_
          refine lv_bipush (v := 115) hx hb dX9_reads_80 (by decide) ?_
          refine lv_icmp_eq (tgt := 87) hx hb dX9_reads_82 (by decide) (fun e41 => ?_) (fun e41 => ?_)
          · have hf := xif_t hf e41
            exact t_X9_reads_87 X hr hlk  hk9 S a1 (a2 + r8) r6 r10 hf H locs ls hP hS (lv_sub hl [3, 4, 1, 2, 0] rfl)
          · have hf := xif_f hf e41
            refine lv_iload_n hx hb dX9_reads_85 rfl (lv_at hl 1 rfl) ?_
            exact x_iret X hr hlk hP hS  ((Prod.mk.inj (Option.some.inj hf)).1) ((Prod.mk.inj (Option.some.inj hf)).2) dX9_reads_86
    · have hf := xif_t hf e5
      refine lv_iload_n hx hb dX9_reads_41 rfl (lv_at hl 2 rfl) ?_
      exact x_iret X hr hlk hP hS  ((Prod.mk.inj (Option.some.inj hf)).1) ((Prod.mk.inj (Option.some.inj hf)).2) dX9_reads_42
def b_X9_reads_9 (n : Nat) (k9 : xS → Int32 → Int32 → Option (Int32 × xS)) (S : xS) (a1 : Int32) (a2 : Int32) : Option (Int32 × xS) :=
  (if a2 < (S.1 34 3) then j_X9_reads_21 n k9 S a1 a2 else (if a2 ≤ 0 then some ((-1 : Int32), S) else j_X9_reads_21 n k9 S a1 a2))
def l_X9_reads_9 (n : Nat) : Nat → xS → Int32 → Int32 → Option (Int32 × xS)
  | 0, _, _, _ => none
  | j + 1, S, a1, a2 => b_X9_reads_9 n (l_X9_reads_9 n j) S a1 a2
set_option maxHeartbeats 4000000 in
set_option maxRecDepth 100000 in
theorem t_X9_reads_9 {p : Program} {l : Launch} {e : Env} {s : State} {m : MethodId} {args : Array Value} {below : List Frame} {meth : Method} {c : Code} {G : xG} (X : xC p s m args c G RX9 cX9_reads 7) (hr : meth.sig.returnType = (some .int)) (hlk : meth.locks = false) {n : Nat} {r : Int32} {S' : xS} : ∀ (j : Nat) (S : xS) (a1 : Int32) (a2 : Int32), l_X9_reads_9 n j S a1 a2 = some (r, S') → xGo p l e { frames := 3, cells := 0, slots := 0, locals := 66 } s m args below meth c G 7 0 0 (MQ below (xQi G r S') args s 0 0 (xA G)) S 9 [(0, .ref (G.2.2 34)), (1, .int a1), (2, .int a2)] [] := by
  intro j
  induction j with
  | zero => intro S a1 a2 hf; exact nomatch (show (none : Option (Int32 × xS)) = _ from hf)
  | succ j ih =>
    intro S a1 a2 hf H locs ls hP hS hl
    have hf : b_X9_reads_9 n (l_X9_reads_9 n j) S a1 a2 = some (r, S') := hf
    unfold b_X9_reads_9 at hf
    obtain ⟨hx, hb, hml, hown, hts, hE⟩ := id X
    refine lv_iload_n hx hb dX9_reads_9 rfl (lv_at hl 2 rfl) ?_
    refine lv_aload_n hx hb dX9_reads_10 rfl (lv_at hl 0 rfl) ?_
    refine x_getI X hP fl_X9_72 (by decide) rfl rfl dX9_reads_11 ?_
    refine lv_icmp_lt (tgt := 21) hx hb dX9_reads_14 (by decide) (fun e1 => ?_) (fun e1 => ?_)
    · have hf := xif_t hf e1
      exact t_X9_reads_21 X hr hlk  ih S a1 a2 hf H locs ls hP hS (lv_sub hl [0, 1, 2] rfl)
    · have hf := xif_f hf e1
      refine lv_iload_n hx hb dX9_reads_17 rfl (lv_at hl 2 rfl) ?_
      refine lv_if_le (tgt := 271) hx hb dX9_reads_18 (by decide) (fun e42 => ?_) (fun e42 => ?_)
      · have hf := xif_t hf e42
        refine lv_iconst (v := (-1)) hx hb dX9_reads_271 (by decide) ?_
        exact x_iret X hr hlk hP hS  ((Prod.mk.inj (Option.some.inj hf)).1) ((Prod.mk.inj (Option.some.inj hf)).2) dX9_reads_272
      · have hf := xif_f hf e42
        exact t_X9_reads_21 X hr hlk  ih S a1 a2 hf H locs ls hP hS (lv_sub hl [0, 1, 2] rfl)
def f_X9_reads (n : Nat) (S : xS)  : Option (Int32 × xS) :=
  l_X9_reads_9 n n (xst S 34 5 (0 : Int32)) (0 : Int32) (0 : Int32)
set_option maxHeartbeats 4000000 in
set_option maxRecDepth 100000 in
theorem c_X9_reads (l : Launch) (G : xG) (n : Nat)  (S : xS)  (r : Int32) (S' : xS) (hf : f_X9_reads n S  = some (r, S')) : xMi l G yX9_reads cX9_reads 7 (some .int) 3 66 [.ref (G.2.2 34)] S r S' := by
  refine xMi_of (own := RX9) (by decide +kernel) rfl (Nat.le_of_ble_eq_true rfl) ?_
  intro p e s m args below meth c X hr hlk H locs ls hP hS hl
  have hl : lv_has ls 7 [(0, .ref (G.2.2 34))] := hl
  obtain ⟨hx, hb, hml, hown, hts, hE⟩ := id X
  unfold f_X9_reads at hf
  refine lv_aload_n hx hb dX9_reads_0 rfl (lv_at hl 0 rfl) ?_
  refine lv_iconst (v := 0) hx hb dX9_reads_1 (by decide) ?_
  refine x_putI X hP hS fp_X9_83 (by decide) rfl rfl dX9_reads_2 (fun H locs hP hS => ?_)
  refine lv_iconst (v := 0) hx hb dX9_reads_5 (by decide) ?_
  refine lv_istore_n (lv' := [(1, .int (0 : Int32)), (0, .ref (G.2.2 34))]) hx hb dX9_reads_6 rfl hl (by decide) rfl (fun ls hl => ?_)
  refine lv_iconst (v := 0) hx hb dX9_reads_7 (by decide) ?_
  refine lv_istore_n (lv' := [(2, .int (0 : Int32)), (1, .int (0 : Int32)), (0, .ref (G.2.2 34))]) hx hb dX9_reads_8 rfl hl (by decide) rfl (fun ls hl => ?_)
  exact t_X9_reads_9 X hr hlk   n (xst S 34 5 (0 : Int32)) (0 : Int32) (0 : Int32) hf H locs ls hP hS (lv_sub hl [2, 1, 0] rfl)
