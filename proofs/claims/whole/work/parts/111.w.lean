def f_X8_refuseItem (n : Nat) (S : xS) (a1 : Int32) (a2 : Int32) (a3 : Int32) : Option (Int32 × xS) :=
  (if (f_X8_isForm a2) = 0 then some ((-2 : Int32), S) else (f_X8_refuseSheet n S a1).bind fun r2 => ((if r2.1 = 0 then xg (xin a1 4) ((if (r2.2.1 (25 + a1.toNatClampNeg) 1) = a2 then xg (xin a1 4) ((if (f_X8_within a3 (0 : Int32) ((r2.2.1 (25 + a1.toNatClampNeg) 2) - (1 : Int32))) = 0 then some ((f_X8_finding r2.2 (2 : Int32)).1, (f_X8_finding r2.2 (2 : Int32)).2) else some ((0 : Int32), r2.2))) else some ((f_X8_finding r2.2 (3 : Int32)).1, (f_X8_finding r2.2 (3 : Int32)).2))) else some (r2.1, r2.2))))
set_option maxHeartbeats 4000000 in
set_option maxRecDepth 100000 in
theorem c_X8_refuseItem (l : Launch) (G : xG) (n : Nat)  (S : xS) (a1 : Int32) (a2 : Int32) (a3 : Int32) (r : Int32) (S' : xS) (hf : f_X8_refuseItem n S a1 a2 a3 = some (r, S')) : xMi l G yX8_refuseItem cX8_refuseItem 5 (some .int) 3 63 [.ref (G.2.2 0), .int a1, .int a2, .int a3] S r S' := by
  refine xMi_of (own := RX8) (by decide +kernel) rfl (Nat.le_of_ble_eq_true rfl) ?_
  intro p e s m args below meth c X hr hlk H locs ls hP hS hl
  have hl : lv_has ls 5 [(0, .ref (G.2.2 0)), (1, .int a1), (2, .int a2), (3, .int a3)] := hl
  obtain ⟨hx, hb, hml, hown, hts, hE⟩ := id X
  unfold f_X8_refuseItem at hf
  refine lv_iload_n hx hb dX8_refuseItem_0 rfl (lv_at hl 2 rfl) ?_
  refine x_cSi (As := [.int a2]) (rest := []) X hP hS kc_X8_247 (c_X8_isForm l G  S a2 _ rfl) ⟨Nat.le_of_ble_eq_true rfl, Nat.le_of_ble_eq_true rfl⟩ rfl hl.1 rfl (Nat.le_of_ble_eq_true rfl) ⟨Nat.zero_le _, Nat.zero_le _⟩ dX8_refuseItem_1 (fun H locs hP hS => ?_)
  refine lv_if_ne (tgt := 10) hx hb dX8_refuseItem_4 (by decide) (fun e1 => ?_) (fun e1 => ?_)
  · have hf := xif_f hf e1
    refine lv_aload_n hx hb dX8_refuseItem_10 rfl (lv_at hl 0 rfl) ?_
    refine lv_iload_n hx hb dX8_refuseItem_11 rfl (lv_at hl 1 rfl) ?_
    obtain ⟨r2, h3, hf⟩ := xb_some hf
    refine x_cVi (As := [.int a1]) (rest := []) X hP hS kc_X8_181 (c_X8_refuseSheet l G n S a1 r2.1 r2.2 h3) ⟨Nat.le_of_ble_eq_true rfl, Nat.le_of_ble_eq_true rfl⟩ (by decide) rfl rfl rfl hl.1 rfl (Nat.le_of_ble_eq_true rfl) ⟨Nat.zero_le _, Nat.zero_le _⟩ dX8_refuseItem_12 (fun H locs hP hS => ?_)
    refine lv_istore (lv' := [(4, .int r2.1), (0, .ref (G.2.2 0)), (1, .int a1), (2, .int a2), (3, .int a3)]) hx hb dX8_refuseItem_15 hl (by decide) rfl (fun ls hl => ?_)
    refine lv_iload hx hb dX8_refuseItem_17 (lv_at hl 0 rfl) ?_
    refine lv_if_eq (tgt := 25) hx hb dX8_refuseItem_19 (by decide) (fun e4 => ?_) (fun e4 => ?_)
    · have hf := xif_t hf e4
      refine lv_aload_n hx hb dX8_refuseItem_25 rfl (lv_at hl 1 rfl) ?_
      refine x_getR X hP fl_X8_70 (by decide) rfl rfl dX8_refuseItem_26 ?_
      refine lv_iload_n hx hb dX8_refuseItem_29 rfl (lv_at hl 2 rfl) ?_
      obtain ⟨g5, hf⟩ := xg_some hf
      refine x_ash X hP g5 dX8_refuseItem_30 ?_
      refine x_getIN X hP fn_X8_268 (xsh_lt (xsh_of g5)) (xsh_lay (xsh_of g5)) rfl dX8_refuseItem_31 ?_
      refine lv_iload_n hx hb dX8_refuseItem_34 rfl (lv_at hl 3 rfl) ?_
      refine lv_icmp_eq (tgt := 44) hx hb dX8_refuseItem_35 (by decide) (fun e6 => ?_) (fun e6 => ?_)
      · have hf := xif_t hf e6
        refine lv_iload_n hx hb dX8_refuseItem_44 rfl (lv_at hl 4 rfl) ?_
        refine lv_iconst (v := 0) hx hb dX8_refuseItem_45 (by decide) ?_
        refine lv_aload_n hx hb dX8_refuseItem_46 rfl (lv_at hl 1 rfl) ?_
        refine x_getR X hP fl_X8_70 (by decide) rfl rfl dX8_refuseItem_47 ?_
        refine lv_iload_n hx hb dX8_refuseItem_50 rfl (lv_at hl 2 rfl) ?_
        obtain ⟨g7, hf⟩ := xg_some hf
        refine x_ash X hP g7 dX8_refuseItem_51 ?_
        refine x_getIN X hP fn_X8_184 (xsh_lt (xsh_of g7)) (xsh_lay (xsh_of g7)) rfl dX8_refuseItem_52 ?_
        refine lv_iconst (v := 1) hx hb dX8_refuseItem_55 (by decide) ?_
        refine lv_isub hx hb dX8_refuseItem_56 ?_
        refine x_cSi (As := [.int a3, .int (0 : Int32), .int ((r2.2.1 (25 + a1.toNatClampNeg) 2) - (1 : Int32))]) (rest := []) X hP hS kc_X8_79 (c_X8_within l G  r2.2 a3 (0 : Int32) ((r2.2.1 (25 + a1.toNatClampNeg) 2) - (1 : Int32)) _ rfl) ⟨Nat.le_of_ble_eq_true rfl, Nat.le_of_ble_eq_true rfl⟩ rfl hl.1 rfl (Nat.le_of_ble_eq_true rfl) ⟨Nat.zero_le _, Nat.zero_le _⟩ dX8_refuseItem_57 (fun H locs hP hS => ?_)
        refine lv_if_eq (tgt := 67) hx hb dX8_refuseItem_60 (by decide) (fun e8 => ?_) (fun e8 => ?_)
        · have hf := xif_t hf e8
          refine lv_aload_n hx hb dX8_refuseItem_67 rfl (lv_at hl 1 rfl) ?_
          refine lv_iconst (v := 2) hx hb dX8_refuseItem_68 (by decide) ?_
          refine x_cVi (As := [.int (2 : Int32)]) (rest := []) X hP hS kc_X8_250 (c_X8_finding l G  r2.2 (2 : Int32) (f_X8_finding r2.2 (2 : Int32)).1 (f_X8_finding r2.2 (2 : Int32)).2 rfl) ⟨Nat.le_of_ble_eq_true rfl, Nat.le_of_ble_eq_true rfl⟩ (by decide) rfl rfl rfl hl.1 rfl (Nat.le_of_ble_eq_true rfl) ⟨Nat.zero_le _, Nat.zero_le _⟩ dX8_refuseItem_69 (fun H locs hP hS => ?_)
          exact x_iret X hr hlk hP hS  ((Prod.mk.inj (Option.some.inj hf)).1) ((Prod.mk.inj (Option.some.inj hf)).2) dX8_refuseItem_72
        · have hf := xif_f hf e8
          refine lv_iconst (v := 0) hx hb dX8_refuseItem_63 (by decide) ?_
          refine lv_goto (tgt := 72) hx hb dX8_refuseItem_64 (by decide) ?_
          exact x_iret X hr hlk hP hS  ((Prod.mk.inj (Option.some.inj hf)).1) ((Prod.mk.inj (Option.some.inj hf)).2) dX8_refuseItem_72
      · have hf := xif_f hf e6
        refine lv_aload_n hx hb dX8_refuseItem_38 rfl (lv_at hl 1 rfl) ?_
        refine lv_iconst (v := 3) hx hb dX8_refuseItem_39 (by decide) ?_
        refine x_cVi (As := [.int (3 : Int32)]) (rest := []) X hP hS kc_X8_250 (c_X8_finding l G  r2.2 (3 : Int32) (f_X8_finding r2.2 (3 : Int32)).1 (f_X8_finding r2.2 (3 : Int32)).2 rfl) ⟨Nat.le_of_ble_eq_true rfl, Nat.le_of_ble_eq_true rfl⟩ (by decide) rfl rfl rfl hl.1 rfl (Nat.le_of_ble_eq_true rfl) ⟨Nat.zero_le _, Nat.zero_le _⟩ dX8_refuseItem_40 (fun H locs hP hS => ?_)
        exact x_iret X hr hlk hP hS  ((Prod.mk.inj (Option.some.inj hf)).1) ((Prod.mk.inj (Option.some.inj hf)).2) dX8_refuseItem_43
    · have hf := xif_f hf e4
      refine lv_iload hx hb dX8_refuseItem_22 (lv_at hl 0 rfl) ?_
      exact x_iret X hr hlk hP hS  ((Prod.mk.inj (Option.some.inj hf)).1) ((Prod.mk.inj (Option.some.inj hf)).2) dX8_refuseItem_24
  · have hf := xif_t hf e1
    refine lv_bipush (v := (-2)) hx hb dX8_refuseItem_7 (by decide) ?_
    exact x_iret X hr hlk hP hS  ((Prod.mk.inj (Option.some.inj hf)).1) ((Prod.mk.inj (Option.some.inj hf)).2) dX8_refuseItem_9
def f_X6_store (n : Nat) (q : Nat) (S : xS) (a1 : Int32) (a2 : Int32) : Option xS :=
  (if (f_X8_within a1 (0 : Int32) ((S.1 q 2) - (1 : Int32))) = 0 then some S else (if (S.1 q 1) = 0 then xg (xin a1 48) (some (xst S (q + 4) a1.toNatClampNeg a2.toInt8.toInt32)) else (if (S.1 q 1) = (1 : Int32) then xg (xin a1 48) (some (xst S (q + 4) a1.toNatClampNeg a2.toInt16.toInt32)) else xg (xin a1 48) (some (xst S (q + 4) a1.toNatClampNeg a2)))))
set_option maxHeartbeats 4000000 in
set_option maxRecDepth 100000 in
theorem c_X6_store (l : Launch) (G : xG) (n : Nat) (q : Nat)  (hq : xsh q = true) (S : xS) (a1 : Int32) (a2 : Int32) (S' : xS) (hf : f_X6_store n q S a1 a2 = some S') : xMv l G yX6_store cX6_store 3 none 1 22 [.ref (G.2.2 q), .int a1, .int a2] S S' := by
  refine xMv_of (own := RX6) (by decide +kernel) rfl (Nat.le_of_ble_eq_true rfl) ?_
  intro p e s m args below meth c X hr hlk H locs ls hP hS hl
  have hl : lv_has ls 3 [(0, .ref (G.2.2 q)), (1, .int a1), (2, .int a2)] := hl
  obtain ⟨hx, hb, hml, hown, hts, hE⟩ := id X
  unfold f_X6_store at hf
  refine lv_iload_n hx hb dX6_store_0 rfl (lv_at hl 1 rfl) ?_
  refine lv_iconst (v := 0) hx hb dX6_store_1 (by decide) ?_
  refine lv_aload_n hx hb dX6_store_2 rfl (lv_at hl 0 rfl) ?_
  refine x_getI X hP fl_X6_19 (xsh_lt hq) (xsh_lay hq) rfl dX6_store_3 ?_
  refine lv_iconst (v := 1) hx hb dX6_store_6 (by decide) ?_
  refine lv_isub hx hb dX6_store_7 ?_
  refine x_cNi (As := [.int a1, .int (0 : Int32), .int ((S.1 q 2) - (1 : Int32))]) (rest := []) X hP hS kc_X6_28 (c_X8_within l G  S a1 (0 : Int32) ((S.1 q 2) - (1 : Int32)) _ rfl) ⟨Nat.le_of_ble_eq_true rfl, Nat.le_of_ble_eq_true rfl⟩ rfl hl.1 rfl (Nat.le_of_ble_eq_true rfl) ⟨Nat.zero_le _, Nat.zero_le _⟩ dX6_store_8 (fun H locs hP hS => ?_)
  refine lv_if_eq (tgt := 46) hx hb dX6_store_11 (by decide) (fun e1 => ?_) (fun e1 => ?_)
  · have hf := xif_t hf e1
    exact x_vret X hr hlk hP hS (Option.some.inj hf) dX6_store_46
  · have hf := xif_f hf e1
    refine lv_aload_n hx hb dX6_store_14 rfl (lv_at hl 0 rfl) ?_
    refine x_getR X hP fl_X6_9 (xsh_lt hq) (xsh_lay hq) rfl dX6_store_15 ?_
    refine lv_iload_n hx hb dX6_store_18 rfl (lv_at hl 1 rfl) ?_
    refine lv_aload_n hx hb dX6_store_19 rfl (lv_at hl 0 rfl) ?_
    refine x_getI X hP fl_X6_15 (xsh_lt hq) (xsh_lay hq) rfl dX6_store_20 ?_
    refine lv_if_ne (tgt := 31) hx hb dX6_store_23 (by decide) (fun e2 => ?_) (fun e2 => ?_)
    · have hf := xif_f hf e2
      refine lv_aload_n hx hb dX6_store_31 rfl (lv_at hl 0 rfl) ?_
      refine x_getI X hP fl_X6_15 (xsh_lt hq) (xsh_lay hq) rfl dX6_store_32 ?_
      refine lv_iconst (v := 1) hx hb dX6_store_35 (by decide) ?_
      refine lv_icmp_ne (tgt := 44) hx hb dX6_store_36 (by decide) (fun e3 => ?_) (fun e3 => ?_)
      · have hf := xif_f hf e3
        refine lv_iload_n hx hb dX6_store_44 rfl (lv_at hl 2 rfl) ?_
        obtain ⟨g4, hf⟩ := xg_some hf
        refine x_iast X hP hS (xsh_lt4 hq) (xsh_it hq) g4 dX6_store_45 (fun H locs hP hS => ?_)
        exact x_vret X hr hlk hP hS (Option.some.inj hf) dX6_store_46
      · have hf := xif_t hf e3
        refine lv_iload_n hx hb dX6_store_39 rfl (lv_at hl 2 rfl) ?_
        refine lv_i2s hx hb dX6_store_40 rfl ?_
        refine lv_goto (tgt := 45) hx hb dX6_store_41 (by decide) ?_
        obtain ⟨g5, hf⟩ := xg_some hf
        refine x_iast X hP hS (xsh_lt4 hq) (xsh_it hq) g5 dX6_store_45 (fun H locs hP hS => ?_)
        exact x_vret X hr hlk hP hS (Option.some.inj hf) dX6_store_46
    · have hf := xif_t hf e2
      refine lv_iload_n hx hb dX6_store_26 rfl (lv_at hl 2 rfl) ?_
      refine lv_i2b hx hb dX6_store_27 rfl ?_
      refine lv_goto (tgt := 45) hx hb dX6_store_28 (by decide) ?_
      obtain ⟨g6, hf⟩ := xg_some hf
      refine x_iast X hP hS (xsh_lt4 hq) (xsh_it hq) g6 dX6_store_45 (fun H locs hP hS => ?_)
      exact x_vret X hr hlk hP hS (Option.some.inj hf) dX6_store_46
def f_X8_put (n : Nat) (S : xS) (a1 : Int32) (a2 : Int32) (a3 : Int32) (a4 : Int32) : Option (Int32 × xS) :=
  (f_X8_refuseItem n S a1 a2 a3).bind fun r1 => ((if r1.1 = 0 then xg (xin a1 4) ((f_X6_store n (25 + a1.toNatClampNeg) r1.2 a3 a4).bind fun r5 => (some ((1 : Int32), r5))) else some (r1.1, r1.2)))
set_option maxHeartbeats 4000000 in
set_option maxRecDepth 100000 in
theorem c_X8_put (l : Launch) (G : xG) (n : Nat)  (S : xS) (a1 : Int32) (a2 : Int32) (a3 : Int32) (a4 : Int32) (r : Int32) (S' : xS) (hf : f_X8_put n S a1 a2 a3 a4 = some (r, S')) : xMi l G yX8_put cX8_put 6 (some .int) 4 87 [.ref (G.2.2 0), .int a1, .int a2, .int a3, .int a4] S r S' := by
  refine xMi_of (own := RX8) (by decide +kernel) rfl (Nat.le_of_ble_eq_true rfl) ?_
  intro p e s m args below meth c X hr hlk H locs ls hP hS hl
  have hl : lv_has ls 6 [(0, .ref (G.2.2 0)), (1, .int a1), (2, .int a2), (3, .int a3), (4, .int a4)] := hl
  obtain ⟨hx, hb, hml, hown, hts, hE⟩ := id X
  unfold f_X8_put at hf
  refine lv_aload_n hx hb dX8_put_0 rfl (lv_at hl 0 rfl) ?_
  refine lv_iload_n hx hb dX8_put_1 rfl (lv_at hl 1 rfl) ?_
  refine lv_iload_n hx hb dX8_put_2 rfl (lv_at hl 2 rfl) ?_
  refine lv_iload_n hx hb dX8_put_3 rfl (lv_at hl 3 rfl) ?_
  obtain ⟨r1, h2, hf⟩ := xb_some hf
  refine x_cVi (As := [.int a1, .int a2, .int a3]) (rest := []) X hP hS kc_X8_257 (c_X8_refuseItem l G n S a1 a2 a3 r1.1 r1.2 h2) ⟨Nat.le_of_ble_eq_true rfl, Nat.le_of_ble_eq_true rfl⟩ (by decide) rfl rfl rfl hl.1 rfl (Nat.le_of_ble_eq_true rfl) ⟨Nat.zero_le _, Nat.zero_le _⟩ dX8_put_4 (fun H locs hP hS => ?_)
  refine lv_istore (lv' := [(5, .int r1.1), (0, .ref (G.2.2 0)), (1, .int a1), (2, .int a2), (3, .int a3), (4, .int a4)]) hx hb dX8_put_7 hl (by decide) rfl (fun ls hl => ?_)
  refine lv_iload hx hb dX8_put_9 (lv_at hl 0 rfl) ?_
  refine lv_if_eq (tgt := 17) hx hb dX8_put_11 (by decide) (fun e3 => ?_) (fun e3 => ?_)
  · have hf := xif_t hf e3
    refine lv_aload_n hx hb dX8_put_17 rfl (lv_at hl 1 rfl) ?_
    refine x_getR X hP fl_X8_70 (by decide) rfl rfl dX8_put_18 ?_
    refine lv_iload_n hx hb dX8_put_21 rfl (lv_at hl 2 rfl) ?_
    obtain ⟨g4, hf⟩ := xg_some hf
    refine x_ash X hP g4 dX8_put_22 ?_
    refine lv_iload_n hx hb dX8_put_23 rfl (lv_at hl 4 rfl) ?_
    refine lv_iload hx hb dX8_put_24 (lv_at hl 5 rfl) ?_
    obtain ⟨r5, h6, hf⟩ := xb_some hf
    refine x_cVv (As := [.int a3, .int a4]) (rest := []) X hP hS kc_X8_260 (c_X6_store l G n (25 + a1.toNatClampNeg) (xsh_of g4) r1.2 a3 a4 _ h6) ⟨Nat.le_of_ble_eq_true rfl, Nat.le_of_ble_eq_true rfl⟩ (xsh_lt (xsh_of g4)) (xsh_lay (xsh_of g4)) rfl rfl hl.1 rfl (Nat.le_of_ble_eq_true rfl) ⟨Nat.zero_le _, Nat.zero_le _⟩ dX8_put_26 (fun H locs hP hS => ?_)
    refine lv_iconst (v := 1) hx hb dX8_put_29 (by decide) ?_
    exact x_iret X hr hlk hP hS  ((Prod.mk.inj (Option.some.inj hf)).1) ((Prod.mk.inj (Option.some.inj hf)).2) dX8_put_30
  · have hf := xif_f hf e3
    refine lv_iload hx hb dX8_put_14 (lv_at hl 0 rfl) ?_
    exact x_iret X hr hlk hP hS  ((Prod.mk.inj (Option.some.inj hf)).1) ((Prod.mk.inj (Option.some.inj hf)).2) dX8_put_16
def f_X9_lacks (n : Nat) (S : xS) (a1 : Int32) (a2 : Int32) (a3 : Int32) : Option Int32 :=
  xg (xin a1 4) ((if (S.1 48 a1.toNatClampNeg) = 0 then some (1 : Int32) else xg (xin a1 4) ((if (S.1 49 a1.toNatClampNeg) = a2 then xg (xin a1 4) ((if (f_X9_in a3 (0 : Int32) ((S.1 50 a1.toNatClampNeg) - (1 : Int32))) = 0 then some (2 : Int32) else some (0 : Int32))) else some (3 : Int32)))))
set_option maxHeartbeats 4000000 in
set_option maxRecDepth 100000 in
theorem c_X9_lacks (l : Launch) (G : xG) (n : Nat)  (S : xS) (a1 : Int32) (a2 : Int32) (a3 : Int32) (r : Int32) (hf : f_X9_lacks n S a1 a2 a3 = some r) : xMi l G yX9_lacks cX9_lacks 4 (some .int) 1 22 [.ref (G.2.2 34), .int a1, .int a2, .int a3] S r S := by
  refine xMi_of (own := RX9) (by decide +kernel) rfl (Nat.le_of_ble_eq_true rfl) ?_
  intro p e s m args below meth c X hr hlk H locs ls hP hS hl
  have hl : lv_has ls 4 [(0, .ref (G.2.2 34)), (1, .int a1), (2, .int a2), (3, .int a3)] := hl
  obtain ⟨hx, hb, hml, hown, hts, hE⟩ := id X
  unfold f_X9_lacks at hf
  refine lv_aload_n hx hb dX9_lacks_0 rfl (lv_at hl 0 rfl) ?_
  refine x_getR X hP fl_X9_50 (by decide) rfl rfl dX9_lacks_1 ?_
  refine lv_iload_n hx hb dX9_lacks_4 rfl (lv_at hl 1 rfl) ?_
  obtain ⟨g1, hf⟩ := xg_some hf
  refine x_zald X hP (by decide) rfl g1 dX9_lacks_5 ?_
  refine lv_if_ne (tgt := 13) hx hb dX9_lacks_6 (by decide) (fun e2 => ?_) (fun e2 => ?_)
  · have hf := xif_f hf e2
    refine lv_aload_n hx hb dX9_lacks_13 rfl (lv_at hl 0 rfl) ?_
    refine x_getR X hP fl_X9_54 (by decide) rfl rfl dX9_lacks_14 ?_
    refine lv_iload_n hx hb dX9_lacks_17 rfl (lv_at hl 1 rfl) ?_
    obtain ⟨g3, hf⟩ := xg_some hf
    refine x_iald X hP (by decide) rfl g3 dX9_lacks_18 ?_
    refine lv_iload_n hx hb dX9_lacks_19 rfl (lv_at hl 2 rfl) ?_
    refine lv_icmp_eq (tgt := 27) hx hb dX9_lacks_20 (by decide) (fun e4 => ?_) (fun e4 => ?_)
    · have hf := xif_t hf e4
      refine lv_iload_n hx hb dX9_lacks_27 rfl (lv_at hl 3 rfl) ?_
      refine lv_iconst (v := 0) hx hb dX9_lacks_28 (by decide) ?_
      refine lv_aload_n hx hb dX9_lacks_29 rfl (lv_at hl 0 rfl) ?_
      refine x_getR X hP fl_X9_57 (by decide) rfl rfl dX9_lacks_30 ?_
      refine lv_iload_n hx hb dX9_lacks_33 rfl (lv_at hl 1 rfl) ?_
      obtain ⟨g5, hf⟩ := xg_some hf
      refine x_iald X hP (by decide) rfl g5 dX9_lacks_34 ?_
      refine lv_iconst (v := 1) hx hb dX9_lacks_35 (by decide) ?_
      refine lv_isub hx hb dX9_lacks_36 ?_
      refine x_cSi (As := [.int a3, .int (0 : Int32), .int ((S.1 50 a1.toNatClampNeg) - (1 : Int32))]) (rest := []) X hP hS kc_X9_68 (c_X9_in l G  S a3 (0 : Int32) ((S.1 50 a1.toNatClampNeg) - (1 : Int32)) _ rfl) ⟨Nat.le_of_ble_eq_true rfl, Nat.le_of_ble_eq_true rfl⟩ rfl hl.1 rfl (Nat.le_of_ble_eq_true rfl) ⟨Nat.zero_le _, Nat.zero_le _⟩ dX9_lacks_37 (fun H locs hP hS => ?_)
      refine lv_if_eq (tgt := 47) hx hb dX9_lacks_40 (by decide) (fun e6 => ?_) (fun e6 => ?_)
      · have hf := xif_t hf e6
        refine lv_iconst (v := 2) hx hb dX9_lacks_47 (by decide) ?_
        exact x_iret X hr hlk hP hS  (Option.some.inj hf) (rfl) dX9_lacks_48
      · have hf := xif_f hf e6
        refine lv_iconst (v := 0) hx hb dX9_lacks_43 (by decide) ?_
        refine lv_goto (tgt := 48) hx hb dX9_lacks_44 (by decide) ?_
        exact x_iret X hr hlk hP hS  (Option.some.inj hf) (rfl) dX9_lacks_48
    · have hf := xif_f hf e4
      refine lv_iconst (v := 3) hx hb dX9_lacks_23 (by decide) ?_
      refine lv_goto (tgt := 48) hx hb dX9_lacks_24 (by decide) ?_
      exact x_iret X hr hlk hP hS  (Option.some.inj hf) (rfl) dX9_lacks_48
  · have hf := xif_t hf e2
    refine lv_iconst (v := 1) hx hb dX9_lacks_9 (by decide) ?_
    refine lv_goto (tgt := 48) hx hb dX9_lacks_10 (by decide) ?_
    exact x_iret X hr hlk hP hS  (Option.some.inj hf) (rfl) dX9_lacks_48
def f_X9_keep (n : Nat) (S : xS) (a1 : Int32) (a2 : Int32) (a3 : Int32) : Option xS :=
  xg (xin a1 4) ((if (S.1 49 a1.toNatClampNeg) = 0 then xg (xin (((48 : Int32) * a1) + a2) 192) (some (xst S 51 (((48 : Int32) * a1) + a2).toNatClampNeg a3.toInt8.toInt32)) else xg (xin a1 4) ((if (S.1 49 a1.toNatClampNeg) = (1 : Int32) then xg (xin (((48 : Int32) * a1) + a2) 192) (some (xst S 51 (((48 : Int32) * a1) + a2).toNatClampNeg a3.toInt16.toInt32)) else xg (xin (((48 : Int32) * a1) + a2) 192) (some (xst S 51 (((48 : Int32) * a1) + a2).toNatClampNeg a3))))))
set_option maxHeartbeats 4000000 in
set_option maxRecDepth 100000 in
theorem c_X9_keep (l : Launch) (G : xG) (n : Nat)  (S : xS) (a1 : Int32) (a2 : Int32) (a3 : Int32) (S' : xS) (hf : f_X9_keep n S a1 a2 a3 = some S') : xMv l G yX9_keep cX9_keep 4 none 0 0 [.ref (G.2.2 34), .int a1, .int a2, .int a3] S S' := by
  refine xMv_of (own := RX9) (by decide +kernel) rfl (Nat.le_of_ble_eq_true rfl) ?_
  intro p e s m args below meth c X hr hlk H locs ls hP hS hl
  have hl : lv_has ls 4 [(0, .ref (G.2.2 34)), (1, .int a1), (2, .int a2), (3, .int a3)] := hl
  obtain ⟨hx, hb, hml, hown, hts, hE⟩ := id X
  unfold f_X9_keep at hf
  refine lv_aload_n hx hb dX9_keep_0 rfl (lv_at hl 0 rfl) ?_
  refine x_getR X hP fl_X9_60 (by decide) rfl rfl dX9_keep_1 ?_
  refine lv_bipush (v := 48) hx hb dX9_keep_4 (by decide) ?_
  refine lv_iload_n hx hb dX9_keep_6 rfl (lv_at hl 1 rfl) ?_
  refine lv_imul hx hb dX9_keep_7 ?_
  refine lv_iload_n hx hb dX9_keep_8 rfl (lv_at hl 2 rfl) ?_
  refine lv_iadd hx hb dX9_keep_9 ?_
  refine lv_aload_n hx hb dX9_keep_10 rfl (lv_at hl 0 rfl) ?_
  refine x_getR X hP fl_X9_54 (by decide) rfl rfl dX9_keep_11 ?_
  refine lv_iload_n hx hb dX9_keep_14 rfl (lv_at hl 1 rfl) ?_
  obtain ⟨g1, hf⟩ := xg_some hf
  refine x_iald X hP (by decide) rfl g1 dX9_keep_15 ?_
  refine lv_if_ne (tgt := 24) hx hb dX9_keep_16 (by decide) (fun e2 => ?_) (fun e2 => ?_)
  · have hf := xif_f hf e2
    refine lv_aload_n hx hb dX9_keep_24 rfl (lv_at hl 0 rfl) ?_
    refine x_getR X hP fl_X9_54 (by decide) rfl rfl dX9_keep_25 ?_
    refine lv_iload_n hx hb dX9_keep_28 rfl (lv_at hl 1 rfl) ?_
    obtain ⟨g3, hf⟩ := xg_some hf
    refine x_iald X hP (by decide) rfl g3 dX9_keep_29 ?_
    refine lv_iconst (v := 1) hx hb dX9_keep_30 (by decide) ?_
    refine lv_icmp_ne (tgt := 39) hx hb dX9_keep_31 (by decide) (fun e4 => ?_) (fun e4 => ?_)
    · have hf := xif_f hf e4
      refine lv_iload_n hx hb dX9_keep_39 rfl (lv_at hl 3 rfl) ?_
      obtain ⟨g5, hf⟩ := xg_some hf
      refine x_iast X hP hS (by decide) rfl g5 dX9_keep_40 (fun H locs hP hS => ?_)
      exact x_vret X hr hlk hP hS (Option.some.inj hf) dX9_keep_41
    · have hf := xif_t hf e4
      refine lv_iload_n hx hb dX9_keep_34 rfl (lv_at hl 3 rfl) ?_
      refine lv_i2s hx hb dX9_keep_35 rfl ?_
      refine lv_goto (tgt := 40) hx hb dX9_keep_36 (by decide) ?_
      obtain ⟨g6, hf⟩ := xg_some hf
      refine x_iast X hP hS (by decide) rfl g6 dX9_keep_40 (fun H locs hP hS => ?_)
      exact x_vret X hr hlk hP hS (Option.some.inj hf) dX9_keep_41
  · have hf := xif_t hf e2
    refine lv_iload_n hx hb dX9_keep_19 rfl (lv_at hl 3 rfl) ?_
    refine lv_i2b hx hb dX9_keep_20 rfl ?_
    refine lv_goto (tgt := 40) hx hb dX9_keep_21 (by decide) ?_
    obtain ⟨g7, hf⟩ := xg_some hf
    refine x_iast X hP hS (by decide) rfl g7 dX9_keep_40 (fun H locs hP hS => ?_)
    exact x_vret X hr hlk hP hS (Option.some.inj hf) dX9_keep_41
def f_X9_put (n : Nat) (S : xS) (a1 : Int32) (a2 : Int32) (a3 : Int32) (a4 : Int32) : Option (Int32 × xS) :=
  (if (f_X9_isSheet a1) = 0 then some ((-2 : Int32), S) else (if (f_X9_in a2 (0 : Int32) (2 : Int32)) = 0 then some ((-2 : Int32), S) else (f_X9_lacks n S a1 a2 a3).bind fun r3 => ((if r3 ≤ 0 then (f_X9_keep n S a1 a3 a4).bind fun r6 => (some ((1 : Int32), r6)) else some ((f_X9_meets S r3).1, (f_X9_meets S r3).2)))))
set_option maxHeartbeats 4000000 in
set_option maxRecDepth 100000 in
theorem c_X9_put (l : Launch) (G : xG) (n : Nat)  (S : xS) (a1 : Int32) (a2 : Int32) (a3 : Int32) (a4 : Int32) (r : Int32) (S' : xS) (hf : f_X9_put n S a1 a2 a3 a4 = some (r, S')) : xMi l G yX9_put cX9_put 6 (some .int) 2 45 [.ref (G.2.2 34), .int a1, .int a2, .int a3, .int a4] S r S' := by
  refine xMi_of (own := RX9) (by decide +kernel) rfl (Nat.le_of_ble_eq_true rfl) ?_
  intro p e s m args below meth c X hr hlk H locs ls hP hS hl
  have hl : lv_has ls 6 [(0, .ref (G.2.2 34)), (1, .int a1), (2, .int a2), (3, .int a3), (4, .int a4)] := hl
  obtain ⟨hx, hb, hml, hown, hts, hE⟩ := id X
  unfold f_X9_put at hf
  refine lv_iload_n hx hb dX9_put_0 rfl (lv_at hl 1 rfl) ?_
  refine x_cSi (As := [.int a1]) (rest := []) X hP hS kc_X9_143 (c_X9_isSheet l G  S a1 _ rfl) ⟨Nat.le_of_ble_eq_true rfl, Nat.le_of_ble_eq_true rfl⟩ rfl hl.1 rfl (Nat.le_of_ble_eq_true rfl) ⟨Nat.zero_le _, Nat.zero_le _⟩ dX9_put_1 (fun H locs hP hS => ?_)
  refine lv_if_eq (tgt := 16) hx hb dX9_put_4 (by decide) (fun e1 => ?_) (fun e1 => ?_)
  · have hf := xif_t hf e1
    refine lv_bipush (v := (-2)) hx hb dX9_put_16 (by decide) ?_
    exact x_iret X hr hlk hP hS  ((Prod.mk.inj (Option.some.inj hf)).1) ((Prod.mk.inj (Option.some.inj hf)).2) dX9_put_18
  · have hf := xif_f hf e1
    refine lv_iload_n hx hb dX9_put_7 rfl (lv_at hl 2 rfl) ?_
    refine lv_iconst (v := 0) hx hb dX9_put_8 (by decide) ?_
    refine lv_iconst (v := 2) hx hb dX9_put_9 (by decide) ?_
    refine x_cSi (As := [.int a2, .int (0 : Int32), .int (2 : Int32)]) (rest := []) X hP hS kc_X9_68 (c_X9_in l G  S a2 (0 : Int32) (2 : Int32) _ rfl) ⟨Nat.le_of_ble_eq_true rfl, Nat.le_of_ble_eq_true rfl⟩ rfl hl.1 rfl (Nat.le_of_ble_eq_true rfl) ⟨Nat.zero_le _, Nat.zero_le _⟩ dX9_put_10 (fun H locs hP hS => ?_)
    refine lv_if_ne (tgt := 19) hx hb dX9_put_13 (by decide) (fun e2 => ?_) (fun e2 => ?_)
    · have hf := xif_f hf e2
      refine lv_aload_n hx hb dX9_put_19 rfl (lv_at hl 0 rfl) ?_
      refine lv_iload_n hx hb dX9_put_20 rfl (lv_at hl 1 rfl) ?_
      refine lv_iload_n hx hb dX9_put_21 rfl (lv_at hl 2 rfl) ?_
      refine lv_iload_n hx hb dX9_put_22 rfl (lv_at hl 3 rfl) ?_
      obtain ⟨r3, h4, hf⟩ := xb_some hf
      refine x_cVi (As := [.int a1, .int a2, .int a3]) (rest := []) X hP hS kc_X9_197 (c_X9_lacks l G n S a1 a2 a3 _ h4) ⟨Nat.le_of_ble_eq_true rfl, Nat.le_of_ble_eq_true rfl⟩ (by decide) rfl rfl rfl hl.1 rfl (Nat.le_of_ble_eq_true rfl) ⟨Nat.zero_le _, Nat.zero_le _⟩ dX9_put_23 (fun H locs hP hS => ?_)
      refine lv_istore (lv' := [(5, .int r3), (0, .ref (G.2.2 34)), (1, .int a1), (2, .int a2), (3, .int a3), (4, .int a4)]) hx hb dX9_put_26 hl (by decide) rfl (fun ls hl => ?_)
      refine lv_iload hx hb dX9_put_28 (lv_at hl 0 rfl) ?_
      refine lv_if_le (tgt := 40) hx hb dX9_put_30 (by decide) (fun e5 => ?_) (fun e5 => ?_)
      · have hf := xif_t hf e5
        refine lv_aload_n hx hb dX9_put_40 rfl (lv_at hl 1 rfl) ?_
        refine lv_iload_n hx hb dX9_put_41 rfl (lv_at hl 2 rfl) ?_
        refine lv_iload_n hx hb dX9_put_42 rfl (lv_at hl 4 rfl) ?_
        refine lv_iload hx hb dX9_put_43 (lv_at hl 5 rfl) ?_
        obtain ⟨r6, h7, hf⟩ := xb_some hf
        refine x_cVv (As := [.int a1, .int a3, .int a4]) (rest := []) X hP hS kc_X9_201 (c_X9_keep l G n S a1 a3 a4 _ h7) ⟨Nat.le_of_ble_eq_true rfl, Nat.le_of_ble_eq_true rfl⟩ (by decide) rfl rfl rfl hl.1 rfl (Nat.le_of_ble_eq_true rfl) ⟨Nat.zero_le _, Nat.zero_le _⟩ dX9_put_45 (fun H locs hP hS => ?_)
        refine lv_iconst (v := 1) hx hb dX9_put_48 (by decide) ?_
        exact x_iret X hr hlk hP hS  ((Prod.mk.inj (Option.some.inj hf)).1) ((Prod.mk.inj (Option.some.inj hf)).2) dX9_put_49
      · have hf := xif_f hf e5
        refine lv_aload_n hx hb dX9_put_33 rfl (lv_at hl 1 rfl) ?_
        refine lv_iload hx hb dX9_put_34 (lv_at hl 0 rfl) ?_
        refine x_cVi (As := [.int r3]) (rest := []) X hP hS kc_X9_146 (c_X9_meets l G  S r3 (f_X9_meets S r3).1 (f_X9_meets S r3).2 rfl) ⟨Nat.le_of_ble_eq_true rfl, Nat.le_of_ble_eq_true rfl⟩ (by decide) rfl rfl rfl hl.1 rfl (Nat.le_of_ble_eq_true rfl) ⟨Nat.zero_le _, Nat.zero_le _⟩ dX9_put_36 (fun H locs hP hS => ?_)
        exact x_iret X hr hlk hP hS  ((Prod.mk.inj (Option.some.inj hf)).1) ((Prod.mk.inj (Option.some.inj hf)).2) dX9_put_39
    · have hf := xif_t hf e2
      refine lv_bipush (v := (-2)) hx hb dX9_put_16 (by decide) ?_
      exact x_iret X hr hlk hP hS  ((Prod.mk.inj (Option.some.inj hf)).1) ((Prod.mk.inj (Option.some.inj hf)).2) dX9_put_18
def f_X8_get (n : Nat) (S : xS) (a1 : Int32) (a2 : Int32) (a3 : Int32) : Option (Int32 × xS) :=
  (f_X8_refuseItem n S a1 a2 a3).bind fun r1 => ((if r1.1 = 0 then xg (xin a1 4) (xg (xin a3 48) (some (r1.2.1 ((25 + a1.toNatClampNeg) + 4) a3.toNatClampNeg, r1.2))) else some ((-2147483648 : Int32), r1.2)))
set_option maxHeartbeats 4000000 in
set_option maxRecDepth 100000 in
theorem c_X8_get (l : Launch) (G : xG) (n : Nat)  (S : xS) (a1 : Int32) (a2 : Int32) (a3 : Int32) (r : Int32) (S' : xS) (hf : f_X8_get n S a1 a2 a3 = some (r, S')) : xMi l G yX8_get cX8_get 4 (some .int) 4 87 [.ref (G.2.2 0), .int a1, .int a2, .int a3] S r S' := by
  refine xMi_of (own := RX8) (by decide +kernel) rfl (Nat.le_of_ble_eq_true rfl) ?_
  intro p e s m args below meth c X hr hlk H locs ls hP hS hl
  have hl : lv_has ls 4 [(0, .ref (G.2.2 0)), (1, .int a1), (2, .int a2), (3, .int a3)] := hl
  obtain ⟨hx, hb, hml, hown, hts, hE⟩ := id X
  unfold f_X8_get at hf
  refine lv_aload_n hx hb dX8_get_0 rfl (lv_at hl 0 rfl) ?_
  refine lv_iload_n hx hb dX8_get_1 rfl (lv_at hl 1 rfl) ?_
  refine lv_iload_n hx hb dX8_get_2 rfl (lv_at hl 2 rfl) ?_
  refine lv_iload_n hx hb dX8_get_3 rfl (lv_at hl 3 rfl) ?_
  obtain ⟨r1, h2, hf⟩ := xb_some hf
  refine x_cVi (As := [.int a1, .int a2, .int a3]) (rest := []) X hP hS kc_X8_257 (c_X8_refuseItem l G n S a1 a2 a3 r1.1 r1.2 h2) ⟨Nat.le_of_ble_eq_true rfl, Nat.le_of_ble_eq_true rfl⟩ (by decide) rfl rfl rfl hl.1 rfl (Nat.le_of_ble_eq_true rfl) ⟨Nat.zero_le _, Nat.zero_le _⟩ dX8_get_4 (fun H locs hP hS => ?_)
  refine lv_if_eq (tgt := 16) hx hb dX8_get_7 (by decide) (fun e3 => ?_) (fun e3 => ?_)
  · have hf := xif_t hf e3
    refine lv_aload_n hx hb dX8_get_16 rfl (lv_at hl 0 rfl) ?_
    refine x_getR X hP fl_X8_70 (by decide) rfl rfl dX8_get_17 ?_
    refine lv_iload_n hx hb dX8_get_20 rfl (lv_at hl 1 rfl) ?_
    obtain ⟨g4, hf⟩ := xg_some hf
    refine x_ash X hP g4 dX8_get_21 ?_
    refine x_getRN X hP fn_X8_191 (xsh_lt (xsh_of g4)) (xsh_lay (xsh_of g4)) rfl dX8_get_22 ?_
    refine lv_iload_n hx hb dX8_get_25 rfl (lv_at hl 3 rfl) ?_
    obtain ⟨g5, hf⟩ := xg_some hf
    refine x_iald X hP (xsh_lt4 (xsh_of g4)) (xsh_it (xsh_of g4)) g5 dX8_get_26 ?_
    exact x_iret X hr hlk hP hS  ((Prod.mk.inj (Option.some.inj hf)).1) ((Prod.mk.inj (Option.some.inj hf)).2) dX8_get_27
  · have hf := xif_f hf e3
    refine lv_ldcw hx hb hown (hts _ kw_776) dX8_get_10 ?_
    refine lv_goto (tgt := 27) hx hb dX8_get_13 (by decide) ?_
    exact x_iret X hr hlk hP hS  ((Prod.mk.inj (Option.some.inj hf)).1) ((Prod.mk.inj (Option.some.inj hf)).2) dX8_get_27
def f_X9_get (n : Nat) (S : xS) (a1 : Int32) (a2 : Int32) (a3 : Int32) : Option (Int32 × xS) :=
  (if (f_X9_isSheet a1) = 0 then some ((-2147483648 : Int32), S) else (if (f_X9_in a2 (0 : Int32) (2 : Int32)) = 0 then some ((-2147483648 : Int32), S) else (f_X9_lacks n S a1 a2 a3).bind fun r3 => ((if r3 ≤ 0 then xg (xin (((48 : Int32) * a1) + a3) 192) (some (S.1 51 (((48 : Int32) * a1) + a3).toNatClampNeg, S)) else some ((-2147483648 : Int32), xst S 34 20 r3)))))
set_option maxHeartbeats 4000000 in
set_option maxRecDepth 100000 in
theorem c_X9_get (l : Launch) (G : xG) (n : Nat)  (S : xS) (a1 : Int32) (a2 : Int32) (a3 : Int32) (r : Int32) (S' : xS) (hf : f_X9_get n S a1 a2 a3 = some (r, S')) : xMi l G yX9_get cX9_get 5 (some .int) 2 45 [.ref (G.2.2 34), .int a1, .int a2, .int a3] S r S' := by
  refine xMi_of (own := RX9) (by decide +kernel) rfl (Nat.le_of_ble_eq_true rfl) ?_
  intro p e s m args below meth c X hr hlk H locs ls hP hS hl
  have hl : lv_has ls 5 [(0, .ref (G.2.2 34)), (1, .int a1), (2, .int a2), (3, .int a3)] := hl
  obtain ⟨hx, hb, hml, hown, hts, hE⟩ := id X
  unfold f_X9_get at hf
  refine lv_iload_n hx hb dX9_get_0 rfl (lv_at hl 1 rfl) ?_
  refine x_cSi (As := [.int a1]) (rest := []) X hP hS kc_X9_143 (c_X9_isSheet l G  S a1 _ rfl) ⟨Nat.le_of_ble_eq_true rfl, Nat.le_of_ble_eq_true rfl⟩ rfl hl.1 rfl (Nat.le_of_ble_eq_true rfl) ⟨Nat.zero_le _, Nat.zero_le _⟩ dX9_get_1 (fun H locs hP hS => ?_)
  refine lv_if_eq (tgt := 16) hx hb dX9_get_4 (by decide) (fun e1 => ?_) (fun e1 => ?_)
  · have hf := xif_t hf e1
    refine lv_ldc hx hb hown (hts _ kw_781) dX9_get_16 ?_
    exact x_iret X hr hlk hP hS  ((Prod.mk.inj (Option.some.inj hf)).1) ((Prod.mk.inj (Option.some.inj hf)).2) dX9_get_18
  · have hf := xif_f hf e1
    refine lv_iload_n hx hb dX9_get_7 rfl (lv_at hl 2 rfl) ?_
    refine lv_iconst (v := 0) hx hb dX9_get_8 (by decide) ?_
    refine lv_iconst (v := 2) hx hb dX9_get_9 (by decide) ?_
    refine x_cSi (As := [.int a2, .int (0 : Int32), .int (2 : Int32)]) (rest := []) X hP hS kc_X9_68 (c_X9_in l G  S a2 (0 : Int32) (2 : Int32) _ rfl) ⟨Nat.le_of_ble_eq_true rfl, Nat.le_of_ble_eq_true rfl⟩ rfl hl.1 rfl (Nat.le_of_ble_eq_true rfl) ⟨Nat.zero_le _, Nat.zero_le _⟩ dX9_get_10 (fun H locs hP hS => ?_)
    refine lv_if_ne (tgt := 19) hx hb dX9_get_13 (by decide) (fun e2 => ?_) (fun e2 => ?_)
    · have hf := xif_f hf e2
      refine lv_aload_n hx hb dX9_get_19 rfl (lv_at hl 0 rfl) ?_
      refine lv_iload_n hx hb dX9_get_20 rfl (lv_at hl 1 rfl) ?_
      refine lv_iload_n hx hb dX9_get_21 rfl (lv_at hl 2 rfl) ?_
      refine lv_iload_n hx hb dX9_get_22 rfl (lv_at hl 3 rfl) ?_
      obtain ⟨r3, h4, hf⟩ := xb_some hf
      refine x_cVi (As := [.int a1, .int a2, .int a3]) (rest := []) X hP hS kc_X9_197 (c_X9_lacks l G n S a1 a2 a3 _ h4) ⟨Nat.le_of_ble_eq_true rfl, Nat.le_of_ble_eq_true rfl⟩ (by decide) rfl rfl rfl hl.1 rfl (Nat.le_of_ble_eq_true rfl) ⟨Nat.zero_le _, Nat.zero_le _⟩ dX9_get_23 (fun H locs hP hS => ?_)
      refine lv_istore (lv' := [(4, .int r3), (0, .ref (G.2.2 34)), (1, .int a1), (2, .int a2), (3, .int a3)]) hx hb dX9_get_26 hl (by decide) rfl (fun ls hl => ?_)
      refine lv_iload hx hb dX9_get_28 (lv_at hl 0 rfl) ?_
      refine lv_if_le (tgt := 42) hx hb dX9_get_30 (by decide) (fun e5 => ?_) (fun e5 => ?_)
      · have hf := xif_t hf e5
        refine lv_aload_n hx hb dX9_get_42 rfl (lv_at hl 1 rfl) ?_
        refine x_getR X hP fl_X9_60 (by decide) rfl rfl dX9_get_43 ?_
        refine lv_bipush (v := 48) hx hb dX9_get_46 (by decide) ?_
        refine lv_iload_n hx hb dX9_get_48 rfl (lv_at hl 2 rfl) ?_
        refine lv_imul hx hb dX9_get_49 ?_
        refine lv_iload_n hx hb dX9_get_50 rfl (lv_at hl 4 rfl) ?_
        refine lv_iadd hx hb dX9_get_51 ?_
        obtain ⟨g6, hf⟩ := xg_some hf
        refine x_iald X hP (by decide) rfl g6 dX9_get_52 ?_
        exact x_iret X hr hlk hP hS  ((Prod.mk.inj (Option.some.inj hf)).1) ((Prod.mk.inj (Option.some.inj hf)).2) dX9_get_53
      · have hf := xif_f hf e5
        refine lv_aload_n hx hb dX9_get_33 rfl (lv_at hl 1 rfl) ?_
        refine lv_iload hx hb dX9_get_34 (lv_at hl 0 rfl) ?_
        refine x_putI X hP hS fp_X9_194 (by decide) rfl rfl dX9_get_36 (fun H locs hP hS => ?_)
        refine lv_ldc hx hb hown (hts _ kw_781) dX9_get_39 ?_
        exact x_iret X hr hlk hP hS  ((Prod.mk.inj (Option.some.inj hf)).1) ((Prod.mk.inj (Option.some.inj hf)).2) dX9_get_41
    · have hf := xif_t hf e2
      refine lv_ldc hx hb hown (hts _ kw_781) dX9_get_16 ?_
      exact x_iret X hr hlk hP hS  ((Prod.mk.inj (Option.some.inj hf)).1) ((Prod.mk.inj (Option.some.inj hf)).2) dX9_get_18
def f_X6_hasRun (q : Nat) (S : xS) (a1 : Int32) (a2 : Int32) : Int32 :=
  (if a1 < 0 then (0 : Int32) else (if a2 < 0 then (0 : Int32) else (if ((S.1 q 2) - a1) < a2 then (0 : Int32) else (1 : Int32))))
theorem fb_X6_hasRun (q : Nat) (S : xS) (a1 : Int32) (a2 : Int32) : f_X6_hasRun q S a1 a2 = 0 ∨ f_X6_hasRun q S a1 a2 = 1 := by
  unfold f_X6_hasRun
  repeat' first | exact Or.inl rfl | exact Or.inr rfl | split
set_option maxHeartbeats 4000000 in
set_option maxRecDepth 100000 in
theorem c_X6_hasRun (l : Launch) (G : xG) (q : Nat)  (hq : xsh q = true) (S : xS) (a1 : Int32) (a2 : Int32) (r : Int32) (hf : f_X6_hasRun q S a1 a2 = r) : xMi l G yX6_hasRun cX6_hasRun 3 (some .boolean) 0 0 [.ref (G.2.2 q), .int a1, .int a2] S r S := by
  refine xMi_of (own := RX6) (by decide +kernel) rfl (Nat.le_of_ble_eq_true rfl) ?_
  intro p e s m args below meth c X hr hlk H locs ls hP hS hl
  have hl : lv_has ls 3 [(0, .ref (G.2.2 q)), (1, .int a1), (2, .int a2)] := hl
  obtain ⟨hx, hb, hml, hown, hts, hE⟩ := id X
  unfold f_X6_hasRun at hf
  refine lv_iload_n hx hb dX6_hasRun_0 rfl (lv_at hl 1 rfl) ?_
  refine lv_if_lt (tgt := 22) hx hb dX6_hasRun_1 (by decide) (fun e1 => ?_) (fun e1 => ?_)
  · have hf := xif_t hf e1
    refine lv_iconst (v := 0) hx hb dX6_hasRun_22 (by decide) ?_
    exact x_zret X hr hlk hP hS (Or.inl rfl) (hf) (rfl) dX6_hasRun_23
  · have hf := xif_f hf e1
    refine lv_iload_n hx hb dX6_hasRun_4 rfl (lv_at hl 2 rfl) ?_
    refine lv_if_lt (tgt := 22) hx hb dX6_hasRun_5 (by decide) (fun e2 => ?_) (fun e2 => ?_)
    · have hf := xif_t hf e2
      refine lv_iconst (v := 0) hx hb dX6_hasRun_22 (by decide) ?_
      exact x_zret X hr hlk hP hS (Or.inl rfl) (hf) (rfl) dX6_hasRun_23
    · have hf := xif_f hf e2
      refine lv_iload_n hx hb dX6_hasRun_8 rfl (lv_at hl 2 rfl) ?_
      refine lv_aload_n hx hb dX6_hasRun_9 rfl (lv_at hl 0 rfl) ?_
      refine x_getI X hP fl_X6_19 (xsh_lt hq) (xsh_lay hq) rfl dX6_hasRun_10 ?_
      refine lv_iload_n hx hb dX6_hasRun_13 rfl (lv_at hl 1 rfl) ?_
      refine lv_isub hx hb dX6_hasRun_14 ?_
      refine lv_icmp_gt (tgt := 22) hx hb dX6_hasRun_15 (by decide) (fun e3 => ?_) (fun e3 => ?_)
      · have hf := xif_t hf e3
        refine lv_iconst (v := 0) hx hb dX6_hasRun_22 (by decide) ?_
        exact x_zret X hr hlk hP hS (Or.inl rfl) (hf) (rfl) dX6_hasRun_23
      · have hf := xif_f hf e3
        refine lv_iconst (v := 1) hx hb dX6_hasRun_18 (by decide) ?_
        refine lv_goto (tgt := 23) hx hb dX6_hasRun_19 (by decide) ?_
        exact x_zret X hr hlk hP hS (Or.inr rfl) (hf) (rfl) dX6_hasRun_23
def f_X8_copy (n : Nat) (S : xS) (a1 : Int32) (a2 : Int32) (a3 : Int32) (a4 : Int32) (a5 : Int32) : Option (Int32 × xS) :=
  (if (f_X8_isSheet a1) = 0 then some ((-2 : Int32), S) else (if (f_X8_isSheet a3) = 0 then some ((-2 : Int32), S) else xg (xin a1 4) (xg (xin a3 4) ((if (f_X6_isLost (25 + a1.toNatClampNeg) S) = 0 then (if (f_X6_isLost (25 + a3.toNatClampNeg) S) = 0 then (if (S.1 (25 + a1.toNatClampNeg) 1) = (S.1 (25 + a3.toNatClampNeg) 1) then (if (f_X6_hasRun (25 + a1.toNatClampNeg) S a2 a5) = 0 then some ((f_X8_finding S (2 : Int32)).1, (f_X8_finding S (2 : Int32)).2) else (if (f_X6_hasRun (25 + a3.toNatClampNeg) S a4 a5) = 0 then some ((f_X8_finding S (2 : Int32)).1, (f_X8_finding S (2 : Int32)).2) else xg (xcp a2 a4 a5 48 48) (some ((1 : Int32), xcpS S ((25 + a1.toNatClampNeg) + 4) ((25 + a3.toNatClampNeg) + 4) a2 a4 a5)))) else some ((f_X8_finding S (4 : Int32)).1, (f_X8_finding S (4 : Int32)).2)) else some ((f_X8_finding S (1 : Int32)).1, (f_X8_finding S (1 : Int32)).2)) else some ((f_X8_finding S (1 : Int32)).1, (f_X8_finding S (1 : Int32)).2))))))
set_option maxHeartbeats 4000000 in
set_option maxRecDepth 100000 in
theorem c_X8_copy (l : Launch) (G : xG) (n : Nat)  (S : xS) (a1 : Int32) (a2 : Int32) (a3 : Int32) (a4 : Int32) (a5 : Int32) (r : Int32) (S' : xS) (hf : f_X8_copy n S a1 a2 a3 a4 a5 = some (r, S')) : xMi l G yX8_copy cX8_copy 8 (some .int) 2 42 [.ref (G.2.2 0), .int a1, .int a2, .int a3, .int a4, .int a5] S r S' := by
  refine xMi_of (own := RX8) (by decide +kernel) rfl (Nat.le_of_ble_eq_true rfl) ?_
  intro p e s m args below meth c X hr hlk H locs ls hP hS hl
  have hl : lv_has ls 8 [(0, .ref (G.2.2 0)), (1, .int a1), (2, .int a2), (3, .int a3), (4, .int a4), (5, .int a5)] := hl
  obtain ⟨hx, hb, hml, hown, hts, hE⟩ := id X
  unfold f_X8_copy at hf
  refine lv_iload_n hx hb dX8_copy_0 rfl (lv_at hl 1 rfl) ?_
  refine x_cSi (As := [.int a1]) (rest := []) X hP hS kc_X8_244 (c_X8_isSheet l G  S a1 _ rfl) ⟨Nat.le_of_ble_eq_true rfl, Nat.le_of_ble_eq_true rfl⟩ rfl hl.1 rfl (Nat.le_of_ble_eq_true rfl) ⟨Nat.zero_le _, Nat.zero_le _⟩ dX8_copy_1 (fun H locs hP hS => ?_)
  refine lv_if_eq (tgt := 14) hx hb dX8_copy_4 (by decide) (fun e1 => ?_) (fun e1 => ?_)
  · have hf := xif_t hf e1
    refine lv_bipush (v := (-2)) hx hb dX8_copy_14 (by decide) ?_
    exact x_iret X hr hlk hP hS  ((Prod.mk.inj (Option.some.inj hf)).1) ((Prod.mk.inj (Option.some.inj hf)).2) dX8_copy_16
  · have hf := xif_f hf e1
    refine lv_iload_n hx hb dX8_copy_7 rfl (lv_at hl 3 rfl) ?_
    refine x_cSi (As := [.int a3]) (rest := []) X hP hS kc_X8_244 (c_X8_isSheet l G  S a3 _ rfl) ⟨Nat.le_of_ble_eq_true rfl, Nat.le_of_ble_eq_true rfl⟩ rfl hl.1 rfl (Nat.le_of_ble_eq_true rfl) ⟨Nat.zero_le _, Nat.zero_le _⟩ dX8_copy_8 (fun H locs hP hS => ?_)
    refine lv_if_ne (tgt := 17) hx hb dX8_copy_11 (by decide) (fun e2 => ?_) (fun e2 => ?_)
    · have hf := xif_f hf e2
      refine lv_aload_n hx hb dX8_copy_17 rfl (lv_at hl 0 rfl) ?_
      refine x_getR X hP fl_X8_70 (by decide) rfl rfl dX8_copy_18 ?_
      refine lv_iload_n hx hb dX8_copy_21 rfl (lv_at hl 1 rfl) ?_
      obtain ⟨g3, hf⟩ := xg_some hf
      refine x_ash X hP g3 dX8_copy_22 ?_
      refine lv_astore (lv' := [(6, .ref (G.2.2 (25 + a1.toNatClampNeg))), (0, .ref (G.2.2 0)), (1, .int a1), (2, .int a2), (3, .int a3), (4, .int a4), (5, .int a5)]) hx hb dX8_copy_23 hl (by decide) rfl (fun ls hl => ?_)
      refine lv_aload_n hx hb dX8_copy_25 rfl (lv_at hl 1 rfl) ?_
      refine x_getR X hP fl_X8_70 (by decide) rfl rfl dX8_copy_26 ?_
      refine lv_iload_n hx hb dX8_copy_29 rfl (lv_at hl 4 rfl) ?_
      obtain ⟨g4, hf⟩ := xg_some hf
      refine x_ash X hP g4 dX8_copy_30 ?_
      refine lv_astore (lv' := [(7, .ref (G.2.2 (25 + a3.toNatClampNeg))), (6, .ref (G.2.2 (25 + a1.toNatClampNeg))), (0, .ref (G.2.2 0)), (1, .int a1), (2, .int a2), (3, .int a3), (4, .int a4), (5, .int a5)]) hx hb dX8_copy_31 hl (by decide) rfl (fun ls hl => ?_)
      refine lv_aload hx hb dX8_copy_33 (lv_at hl 1 rfl) ?_
      refine x_cVi (As := []) (rest := []) X hP hS kc_X8_264 (c_X6_isLost l G (25 + a1.toNatClampNeg) (xsh_of g3) S  _ rfl) ⟨Nat.le_of_ble_eq_true rfl, Nat.le_of_ble_eq_true rfl⟩ (xsh_lt (xsh_of g3)) (xsh_lay (xsh_of g3)) rfl rfl hl.1 rfl (Nat.le_of_ble_eq_true rfl) ⟨Nat.zero_le _, Nat.zero_le _⟩ dX8_copy_35 (fun H locs hP hS => ?_)
      refine lv_if_ne (tgt := 49) hx hb dX8_copy_38 (by decide) (fun e5 => ?_) (fun e5 => ?_)
      · have hf := xif_f hf e5
        refine lv_aload_n hx hb dX8_copy_49 rfl (lv_at hl 2 rfl) ?_
        refine lv_iconst (v := 1) hx hb dX8_copy_50 (by decide) ?_
        refine x_cVi (As := [.int (1 : Int32)]) (rest := []) X hP hS kc_X8_250 (c_X8_finding l G  S (1 : Int32) (f_X8_finding S (1 : Int32)).1 (f_X8_finding S (1 : Int32)).2 rfl) ⟨Nat.le_of_ble_eq_true rfl, Nat.le_of_ble_eq_true rfl⟩ (by decide) rfl rfl rfl hl.1 rfl (Nat.le_of_ble_eq_true rfl) ⟨Nat.zero_le _, Nat.zero_le _⟩ dX8_copy_51 (fun H locs hP hS => ?_)
        exact x_iret X hr hlk hP hS  ((Prod.mk.inj (Option.some.inj hf)).1) ((Prod.mk.inj (Option.some.inj hf)).2) dX8_copy_54
      · have hf := xif_t hf e5
        refine lv_aload hx hb dX8_copy_41 (lv_at hl 0 rfl) ?_
        refine x_cVi (As := []) (rest := []) X hP hS kc_X8_264 (c_X6_isLost l G (25 + a3.toNatClampNeg) (xsh_of g4) S  _ rfl) ⟨Nat.le_of_ble_eq_true rfl, Nat.le_of_ble_eq_true rfl⟩ (xsh_lt (xsh_of g4)) (xsh_lay (xsh_of g4)) rfl rfl hl.1 rfl (Nat.le_of_ble_eq_true rfl) ⟨Nat.zero_le _, Nat.zero_le _⟩ dX8_copy_43 (fun H locs hP hS => ?_)
        refine lv_if_eq (tgt := 55) hx hb dX8_copy_46 (by decide) (fun e6 => ?_) (fun e6 => ?_)
        · have hf := xif_t hf e6
          refine lv_aload hx hb dX8_copy_55 (lv_at hl 1 rfl) ?_
          refine x_getIN X hP fn_X8_268 (xsh_lt (xsh_of g3)) (xsh_lay (xsh_of g3)) rfl dX8_copy_57 ?_
          refine lv_aload hx hb dX8_copy_60 (lv_at hl 0 rfl) ?_
          refine x_getIN X hP fn_X8_268 (xsh_lt (xsh_of g4)) (xsh_lay (xsh_of g4)) rfl dX8_copy_62 ?_
          refine lv_icmp_eq (tgt := 74) hx hb dX8_copy_65 (by decide) (fun e7 => ?_) (fun e7 => ?_)
          · have hf := xif_t hf e7
            refine lv_aload hx hb dX8_copy_74 (lv_at hl 1 rfl) ?_
            refine lv_iload_n hx hb dX8_copy_76 rfl (lv_at hl 4 rfl) ?_
            refine lv_iload hx hb dX8_copy_77 (lv_at hl 7 rfl) ?_
            refine x_cVi (As := [.int a2, .int a5]) (rest := []) X hP hS kc_X8_271 (c_X6_hasRun l G (25 + a1.toNatClampNeg) (xsh_of g3) S a2 a5 _ rfl) ⟨Nat.le_of_ble_eq_true rfl, Nat.le_of_ble_eq_true rfl⟩ (xsh_lt (xsh_of g3)) (xsh_lay (xsh_of g3)) rfl rfl hl.1 rfl (Nat.le_of_ble_eq_true rfl) ⟨Nat.zero_le _, Nat.zero_le _⟩ dX8_copy_79 (fun H locs hP hS => ?_)
            refine lv_if_eq (tgt := 97) hx hb dX8_copy_82 (by decide) (fun e8 => ?_) (fun e8 => ?_)
            · have hf := xif_t hf e8
              refine lv_aload_n hx hb dX8_copy_97 rfl (lv_at hl 2 rfl) ?_
              refine lv_iconst (v := 2) hx hb dX8_copy_98 (by decide) ?_
              refine x_cVi (As := [.int (2 : Int32)]) (rest := []) X hP hS kc_X8_250 (c_X8_finding l G  S (2 : Int32) (f_X8_finding S (2 : Int32)).1 (f_X8_finding S (2 : Int32)).2 rfl) ⟨Nat.le_of_ble_eq_true rfl, Nat.le_of_ble_eq_true rfl⟩ (by decide) rfl rfl rfl hl.1 rfl (Nat.le_of_ble_eq_true rfl) ⟨Nat.zero_le _, Nat.zero_le _⟩ dX8_copy_99 (fun H locs hP hS => ?_)
              exact x_iret X hr hlk hP hS  ((Prod.mk.inj (Option.some.inj hf)).1) ((Prod.mk.inj (Option.some.inj hf)).2) dX8_copy_102
            · have hf := xif_f hf e8
              refine lv_aload hx hb dX8_copy_85 (lv_at hl 0 rfl) ?_
              refine lv_iload hx hb dX8_copy_87 (lv_at hl 6 rfl) ?_
              refine lv_iload hx hb dX8_copy_89 (lv_at hl 7 rfl) ?_
              refine x_cVi (As := [.int a4, .int a5]) (rest := []) X hP hS kc_X8_271 (c_X6_hasRun l G (25 + a3.toNatClampNeg) (xsh_of g4) S a4 a5 _ rfl) ⟨Nat.le_of_ble_eq_true rfl, Nat.le_of_ble_eq_true rfl⟩ (xsh_lt (xsh_of g4)) (xsh_lay (xsh_of g4)) rfl rfl hl.1 rfl (Nat.le_of_ble_eq_true rfl) ⟨Nat.zero_le _, Nat.zero_le _⟩ dX8_copy_91 (fun H locs hP hS => ?_)
              refine lv_if_ne (tgt := 103) hx hb dX8_copy_94 (by decide) (fun e9 => ?_) (fun e9 => ?_)
              · have hf := xif_f hf e9
                refine lv_aload hx hb dX8_copy_103 (lv_at hl 1 rfl) ?_
                refine x_getRN X hP fn_X8_191 (xsh_lt (xsh_of g3)) (xsh_lay (xsh_of g3)) rfl dX8_copy_105 ?_
                refine lv_iload_n hx hb dX8_copy_108 rfl (lv_at hl 4 rfl) ?_
                refine lv_aload hx hb dX8_copy_109 (lv_at hl 0 rfl) ?_
                refine x_getRN X hP fn_X8_191 (xsh_lt (xsh_of g4)) (xsh_lay (xsh_of g4)) rfl dX8_copy_111 ?_
                refine lv_iload hx hb dX8_copy_114 (lv_at hl 6 rfl) ?_
                refine lv_iload hx hb dX8_copy_116 (lv_at hl 7 rfl) ?_
                obtain ⟨g10, hf⟩ := xg_some hf
                refine x_copy X hP hS kw_786 hl.1 (xsh_lt4 (xsh_of g3)) (xsh_lt4 (xsh_of g4)) (xsh_it (xsh_of g3)) (xsh_it (xsh_of g4)) g10 ⟨Nat.le_of_ble_eq_true rfl, Nat.le_of_ble_eq_true rfl⟩ dX8_copy_118 (fun H locs hP hS => ?_)
                refine lv_iconst (v := 1) hx hb dX8_copy_121 (by decide) ?_
                exact x_iret X hr hlk hP hS  ((Prod.mk.inj (Option.some.inj hf)).1) ((Prod.mk.inj (Option.some.inj hf)).2) dX8_copy_122
              · have hf := xif_t hf e9
                refine lv_aload_n hx hb dX8_copy_97 rfl (lv_at hl 2 rfl) ?_
                refine lv_iconst (v := 2) hx hb dX8_copy_98 (by decide) ?_
                refine x_cVi (As := [.int (2 : Int32)]) (rest := []) X hP hS kc_X8_250 (c_X8_finding l G  S (2 : Int32) (f_X8_finding S (2 : Int32)).1 (f_X8_finding S (2 : Int32)).2 rfl) ⟨Nat.le_of_ble_eq_true rfl, Nat.le_of_ble_eq_true rfl⟩ (by decide) rfl rfl rfl hl.1 rfl (Nat.le_of_ble_eq_true rfl) ⟨Nat.zero_le _, Nat.zero_le _⟩ dX8_copy_99 (fun H locs hP hS => ?_)
                exact x_iret X hr hlk hP hS  ((Prod.mk.inj (Option.some.inj hf)).1) ((Prod.mk.inj (Option.some.inj hf)).2) dX8_copy_102
          · have hf := xif_f hf e7
            refine lv_aload_n hx hb dX8_copy_68 rfl (lv_at hl 2 rfl) ?_
            refine lv_iconst (v := 4) hx hb dX8_copy_69 (by decide) ?_
            refine x_cVi (As := [.int (4 : Int32)]) (rest := []) X hP hS kc_X8_250 (c_X8_finding l G  S (4 : Int32) (f_X8_finding S (4 : Int32)).1 (f_X8_finding S (4 : Int32)).2 rfl) ⟨Nat.le_of_ble_eq_true rfl, Nat.le_of_ble_eq_true rfl⟩ (by decide) rfl rfl rfl hl.1 rfl (Nat.le_of_ble_eq_true rfl) ⟨Nat.zero_le _, Nat.zero_le _⟩ dX8_copy_70 (fun H locs hP hS => ?_)
            exact x_iret X hr hlk hP hS  ((Prod.mk.inj (Option.some.inj hf)).1) ((Prod.mk.inj (Option.some.inj hf)).2) dX8_copy_73
        · have hf := xif_f hf e6
          refine lv_aload_n hx hb dX8_copy_49 rfl (lv_at hl 2 rfl) ?_
          refine lv_iconst (v := 1) hx hb dX8_copy_50 (by decide) ?_
          refine x_cVi (As := [.int (1 : Int32)]) (rest := []) X hP hS kc_X8_250 (c_X8_finding l G  S (1 : Int32) (f_X8_finding S (1 : Int32)).1 (f_X8_finding S (1 : Int32)).2 rfl) ⟨Nat.le_of_ble_eq_true rfl, Nat.le_of_ble_eq_true rfl⟩ (by decide) rfl rfl rfl hl.1 rfl (Nat.le_of_ble_eq_true rfl) ⟨Nat.zero_le _, Nat.zero_le _⟩ dX8_copy_51 (fun H locs hP hS => ?_)
          exact x_iret X hr hlk hP hS  ((Prod.mk.inj (Option.some.inj hf)).1) ((Prod.mk.inj (Option.some.inj hf)).2) dX8_copy_54
    · have hf := xif_t hf e2
      refine lv_bipush (v := (-2)) hx hb dX8_copy_14 (by decide) ?_
      exact x_iret X hr hlk hP hS  ((Prod.mk.inj (Option.some.inj hf)).1) ((Prod.mk.inj (Option.some.inj hf)).2) dX8_copy_16
def b_X9_copy_157 (n : Nat) (k157 : xS → Int32 → Int32 → Int32 → Int32 → Option (Int32 × xS)) (S : xS) (a3 : Int32) (a4 : Int32) (a5 : Int32) (a6 : Int32) : Option (Int32 × xS) :=
  (if a5 ≤ a6 then some ((1 : Int32), S) else xg (xin a6 48) (xg (xin ((((48 : Int32) * a3) + a4) + a6) 192) (k157 (xst S 51 ((((48 : Int32) * a3) + a4) + a6).toNatClampNeg (S.1 52 a6.toNatClampNeg)) a3 a4 a5 (a6 + 1))))
def l_X9_copy_157 (n : Nat) : Nat → xS → Int32 → Int32 → Int32 → Int32 → Option (Int32 × xS)
  | 0, _, _, _, _, _ => none
  | j + 1, S, a3, a4, a5, a6 => b_X9_copy_157 n (l_X9_copy_157 n j) S a3 a4 a5 a6
set_option maxHeartbeats 4000000 in
set_option maxRecDepth 100000 in
theorem t_X9_copy_157 {p : Program} {l : Launch} {e : Env} {s : State} {m : MethodId} {args : Array Value} {below : List Frame} {meth : Method} {c : Code} {G : xG} (X : xC p s m args c G RX9 cX9_copy 7) (hr : meth.sig.returnType = (some .int)) (hlk : meth.locks = false) {n : Nat} {r : Int32} {S' : xS} : ∀ (j : Nat) (S : xS) (a3 : Int32) (a4 : Int32) (a5 : Int32) (a6 : Int32), l_X9_copy_157 n j S a3 a4 a5 a6 = some (r, S') → xGo p l e { frames := 2, cells := 0, slots := 0, locals := 42 } s m args below meth c G 7 0 0 (MQ below (xQi G r S') args s 0 0 (xA G)) S 157 [(0, .ref (G.2.2 34)), (3, .int a3), (4, .int a4), (5, .int a5), (6, .int a6)] [] := by
  intro j
  induction j with
  | zero => intro S a3 a4 a5 a6 hf; exact nomatch (show (none : Option (Int32 × xS)) = _ from hf)
  | succ j ih =>
    intro S a3 a4 a5 a6 hf H locs ls hP hS hl
    have hf : b_X9_copy_157 n (l_X9_copy_157 n j) S a3 a4 a5 a6 = some (r, S') := hf
    unfold b_X9_copy_157 at hf
    obtain ⟨hx, hb, hml, hown, hts, hE⟩ := id X
    refine lv_iload hx hb dX9_copy_157 (lv_at hl 4 rfl) ?_
    refine lv_iload hx hb dX9_copy_159 (lv_at hl 3 rfl) ?_
    refine lv_icmp_ge (tgt := 192) hx hb dX9_copy_161 (by decide) (fun e18 => ?_) (fun e18 => ?_)
    · have hf := xif_t hf e18
      refine lv_iconst (v := 1) hx hb dX9_copy_192 (by decide) ?_
      exact x_iret X hr hlk hP hS  ((Prod.mk.inj (Option.some.inj hf)).1) ((Prod.mk.inj (Option.some.inj hf)).2) dX9_copy_193
    · have hf := xif_f hf e18
      refine lv_aload_n hx hb dX9_copy_164 rfl (lv_at hl 0 rfl) ?_
      refine x_getR X hP fl_X9_60 (by decide) rfl rfl dX9_copy_165 ?_
      refine lv_bipush (v := 48) hx hb dX9_copy_168 (by decide) ?_
      refine lv_iload_n hx hb dX9_copy_170 rfl (lv_at hl 1 rfl) ?_
      refine lv_imul hx hb dX9_copy_171 ?_
      refine lv_iload hx hb dX9_copy_172 (lv_at hl 2 rfl) ?_
      refine lv_iadd hx hb dX9_copy_174 ?_
      refine lv_iload hx hb dX9_copy_175 (lv_at hl 4 rfl) ?_
      refine lv_iadd hx hb dX9_copy_177 ?_
      refine lv_aload_n hx hb dX9_copy_178 rfl (lv_at hl 0 rfl) ?_
      refine x_getR X hP fl_X9_63 (by decide) rfl rfl dX9_copy_179 ?_
      refine lv_iload hx hb dX9_copy_182 (lv_at hl 4 rfl) ?_
      obtain ⟨g19, hf⟩ := xg_some hf
      refine x_iald X hP (by decide) rfl g19 dX9_copy_184 ?_
      obtain ⟨g20, hf⟩ := xg_some hf
      refine x_iast X hP hS (by decide) rfl g20 dX9_copy_185 (fun H locs hP hS => ?_)
      refine lv_iinc (v := a6 + 1) (lv' := [(6, .int (a6 + 1)), (0, .ref (G.2.2 34)), (3, .int a3), (4, .int a4), (5, .int a5)]) hx hb dX9_copy_186 hl (k := 4) rfl rfl (by decide) rfl (fun ls hl => ?_)
      refine lv_goto (tgt := 157) hx hb dX9_copy_189 (by decide) ?_
      exact ih (xst S 51 ((((48 : Int32) * a3) + a4) + a6).toNatClampNeg (S.1 52 a6.toNatClampNeg)) a3 a4 a5 (a6 + 1) hf H locs ls hP hS (lv_sub hl [1, 2, 3, 4, 0] rfl)
def b_X9_copy_120 (n : Nat) (k120 : xS → Int32 → Int32 → Int32 → Int32 → Int32 → Int32 → Option (Int32 × xS)) (S : xS) (a1 : Int32) (a2 : Int32) (a3 : Int32) (a4 : Int32) (a5 : Int32) (a6 : Int32) : Option (Int32 × xS) :=
  (if a5 ≤ a6 then l_X9_copy_157 n n S a3 a4 a5 (0 : Int32) else xg (xin ((((48 : Int32) * a1) + a2) + a6) 192) (xg (xin a6 48) (k120 (xst S 52 a6.toNatClampNeg (S.1 51 ((((48 : Int32) * a1) + a2) + a6).toNatClampNeg)) a1 a2 a3 a4 a5 (a6 + 1))))
def l_X9_copy_120 (n : Nat) : Nat → xS → Int32 → Int32 → Int32 → Int32 → Int32 → Int32 → Option (Int32 × xS)
  | 0, _, _, _, _, _, _, _ => none
  | j + 1, S, a1, a2, a3, a4, a5, a6 => b_X9_copy_120 n (l_X9_copy_120 n j) S a1 a2 a3 a4 a5 a6
set_option maxHeartbeats 4000000 in
set_option maxRecDepth 100000 in
theorem t_X9_copy_120 {p : Program} {l : Launch} {e : Env} {s : State} {m : MethodId} {args : Array Value} {below : List Frame} {meth : Method} {c : Code} {G : xG} (X : xC p s m args c G RX9 cX9_copy 7) (hr : meth.sig.returnType = (some .int)) (hlk : meth.locks = false) {n : Nat} {r : Int32} {S' : xS} : ∀ (j : Nat) (S : xS) (a1 : Int32) (a2 : Int32) (a3 : Int32) (a4 : Int32) (a5 : Int32) (a6 : Int32), l_X9_copy_120 n j S a1 a2 a3 a4 a5 a6 = some (r, S') → xGo p l e { frames := 2, cells := 0, slots := 0, locals := 42 } s m args below meth c G 7 0 0 (MQ below (xQi G r S') args s 0 0 (xA G)) S 120 [(0, .ref (G.2.2 34)), (1, .int a1), (2, .int a2), (3, .int a3), (4, .int a4), (5, .int a5), (6, .int a6)] [] := by
  intro j
  induction j with
  | zero => intro S a1 a2 a3 a4 a5 a6 hf; exact nomatch (show (none : Option (Int32 × xS)) = _ from hf)
  | succ j ih =>
    intro S a1 a2 a3 a4 a5 a6 hf H locs ls hP hS hl
    have hf : b_X9_copy_120 n (l_X9_copy_120 n j) S a1 a2 a3 a4 a5 a6 = some (r, S') := hf
    unfold b_X9_copy_120 at hf
    obtain ⟨hx, hb, hml, hown, hts, hE⟩ := id X
    refine lv_iload hx hb dX9_copy_120 (lv_at hl 6 rfl) ?_
    refine lv_iload hx hb dX9_copy_122 (lv_at hl 5 rfl) ?_
    refine lv_icmp_ge (tgt := 154) hx hb dX9_copy_124 (by decide) (fun e17 => ?_) (fun e17 => ?_)
    · have hf := xif_t hf e17
      refine lv_iconst (v := 0) hx hb dX9_copy_154 (by decide) ?_
      refine lv_istore (lv' := [(6, .int (0 : Int32)), (0, .ref (G.2.2 34)), (1, .int a1), (2, .int a2), (3, .int a3), (4, .int a4), (5, .int a5)]) hx hb dX9_copy_155 hl (by decide) rfl (fun ls hl => ?_)
      exact t_X9_copy_157 X hr hlk   n S a3 a4 a5 (0 : Int32) hf H locs ls hP hS (lv_sub hl [1, 4, 5, 6, 0] rfl)
    · have hf := xif_f hf e17
      refine lv_aload_n hx hb dX9_copy_127 rfl (lv_at hl 0 rfl) ?_
      refine x_getR X hP fl_X9_63 (by decide) rfl rfl dX9_copy_128 ?_
      refine lv_iload hx hb dX9_copy_131 (lv_at hl 6 rfl) ?_
      refine lv_aload_n hx hb dX9_copy_133 rfl (lv_at hl 0 rfl) ?_
      refine x_getR X hP fl_X9_60 (by decide) rfl rfl dX9_copy_134 ?_
      refine lv_bipush (v := 48) hx hb dX9_copy_137 (by decide) ?_
      refine lv_iload_n hx hb dX9_copy_139 rfl (lv_at hl 1 rfl) ?_
      refine lv_imul hx hb dX9_copy_140 ?_
      refine lv_iload_n hx hb dX9_copy_141 rfl (lv_at hl 2 rfl) ?_
      refine lv_iadd hx hb dX9_copy_142 ?_
      refine lv_iload hx hb dX9_copy_143 (lv_at hl 6 rfl) ?_
      refine lv_iadd hx hb dX9_copy_145 ?_
      obtain ⟨g21, hf⟩ := xg_some hf
      refine x_iald X hP (by decide) rfl g21 dX9_copy_146 ?_
      obtain ⟨g22, hf⟩ := xg_some hf
      refine x_iast X hP hS (by decide) rfl g22 dX9_copy_147 (fun H locs hP hS => ?_)
      refine lv_iinc (v := a6 + 1) (lv' := [(6, .int (a6 + 1)), (0, .ref (G.2.2 34)), (1, .int a1), (2, .int a2), (3, .int a3), (4, .int a4), (5, .int a5)]) hx hb dX9_copy_148 hl (k := 6) rfl rfl (by decide) rfl (fun ls hl => ?_)
      refine lv_goto (tgt := 120) hx hb dX9_copy_151 (by decide) ?_
      exact ih (xst S 52 a6.toNatClampNeg (S.1 51 ((((48 : Int32) * a1) + a2) + a6).toNatClampNeg)) a1 a2 a3 a4 a5 (a6 + 1) hf H locs ls hP hS (lv_sub hl [1, 2, 3, 4, 5, 6, 0] rfl)
def f_X9_copy (n : Nat) (S : xS) (a1 : Int32) (a2 : Int32) (a3 : Int32) (a4 : Int32) (a5 : Int32) : Option (Int32 × xS) :=
  (if (f_X9_isSheet a1) = 0 then some ((-2 : Int32), S) else (if (f_X9_isSheet a3) = 0 then some ((-2 : Int32), S) else xg (xin a1 4) ((if (S.1 48 a1.toNatClampNeg) = 0 then some ((f_X9_meets S (1 : Int32)).1, (f_X9_meets S (1 : Int32)).2) else xg (xin a3 4) ((if (S.1 48 a3.toNatClampNeg) = 0 then some ((f_X9_meets S (1 : Int32)).1, (f_X9_meets S (1 : Int32)).2) else xg (xin a1 4) (xg (xin a3 4) ((if (S.1 49 a1.toNatClampNeg) = (S.1 49 a3.toNatClampNeg) then (if a2 < 0 then some ((f_X9_meets S (2 : Int32)).1, (f_X9_meets S (2 : Int32)).2) else (if a4 < 0 then some ((f_X9_meets S (2 : Int32)).1, (f_X9_meets S (2 : Int32)).2) else (if a5 < 0 then some ((f_X9_meets S (2 : Int32)).1, (f_X9_meets S (2 : Int32)).2) else xg (xin a1 4) ((if 0 < (lg_cmp (a2.toInt64 + a5.toInt64) ((S.1 50 a1.toNatClampNeg).toInt64)) then some ((f_X9_meets S (2 : Int32)).1, (f_X9_meets S (2 : Int32)).2) else xg (xin a3 4) ((if (lg_cmp (a4.toInt64 + a5.toInt64) ((S.1 50 a3.toNatClampNeg).toInt64)) ≤ 0 then l_X9_copy_120 n n S a1 a2 a3 a4 a5 (0 : Int32) else some ((f_X9_meets S (2 : Int32)).1, (f_X9_meets S (2 : Int32)).2)))))))) else some ((f_X9_meets S (4 : Int32)).1, (f_X9_meets S (4 : Int32)).2))))))))))
set_option maxHeartbeats 4000000 in
set_option maxRecDepth 100000 in
theorem c_X9_copy (l : Launch) (G : xG) (n : Nat)  (S : xS) (a1 : Int32) (a2 : Int32) (a3 : Int32) (a4 : Int32) (a5 : Int32) (r : Int32) (S' : xS) (hf : f_X9_copy n S a1 a2 a3 a4 a5 = some (r, S')) : xMi l G yX9_copy cX9_copy 7 (some .int) 2 42 [.ref (G.2.2 34), .int a1, .int a2, .int a3, .int a4, .int a5] S r S' := by
  refine xMi_of (own := RX9) (by decide +kernel) rfl (Nat.le_of_ble_eq_true rfl) ?_
  intro p e s m args below meth c X hr hlk H locs ls hP hS hl
  have hl : lv_has ls 7 [(0, .ref (G.2.2 34)), (1, .int a1), (2, .int a2), (3, .int a3), (4, .int a4), (5, .int a5)] := hl
  obtain ⟨hx, hb, hml, hown, hts, hE⟩ := id X
  unfold f_X9_copy at hf
  refine lv_iload_n hx hb dX9_copy_0 rfl (lv_at hl 1 rfl) ?_
  refine x_cSi (As := [.int a1]) (rest := []) X hP hS kc_X9_143 (c_X9_isSheet l G  S a1 _ rfl) ⟨Nat.le_of_ble_eq_true rfl, Nat.le_of_ble_eq_true rfl⟩ rfl hl.1 rfl (Nat.le_of_ble_eq_true rfl) ⟨Nat.zero_le _, Nat.zero_le _⟩ dX9_copy_1 (fun H locs hP hS => ?_)
  refine lv_if_eq (tgt := 14) hx hb dX9_copy_4 (by decide) (fun e1 => ?_) (fun e1 => ?_)
  · have hf := xif_t hf e1
    refine lv_bipush (v := (-2)) hx hb dX9_copy_14 (by decide) ?_
    exact x_iret X hr hlk hP hS  ((Prod.mk.inj (Option.some.inj hf)).1) ((Prod.mk.inj (Option.some.inj hf)).2) dX9_copy_16
  · have hf := xif_f hf e1
    refine lv_iload_n hx hb dX9_copy_7 rfl (lv_at hl 3 rfl) ?_
    refine x_cSi (As := [.int a3]) (rest := []) X hP hS kc_X9_143 (c_X9_isSheet l G  S a3 _ rfl) ⟨Nat.le_of_ble_eq_true rfl, Nat.le_of_ble_eq_true rfl⟩ rfl hl.1 rfl (Nat.le_of_ble_eq_true rfl) ⟨Nat.zero_le _, Nat.zero_le _⟩ dX9_copy_8 (fun H locs hP hS => ?_)
    refine lv_if_ne (tgt := 17) hx hb dX9_copy_11 (by decide) (fun e2 => ?_) (fun e2 => ?_)
    · have hf := xif_f hf e2
      refine lv_aload_n hx hb dX9_copy_17 rfl (lv_at hl 0 rfl) ?_
      refine x_getR X hP fl_X9_50 (by decide) rfl rfl dX9_copy_18 ?_
      refine lv_iload_n hx hb dX9_copy_21 rfl (lv_at hl 1 rfl) ?_
      obtain ⟨g3, hf⟩ := xg_some hf
      refine x_zald X hP (by decide) rfl g3 dX9_copy_22 ?_
      refine lv_if_eq (tgt := 35) hx hb dX9_copy_23 (by decide) (fun e4 => ?_) (fun e4 => ?_)
      · have hf := xif_t hf e4
        refine lv_aload_n hx hb dX9_copy_35 rfl (lv_at hl 0 rfl) ?_
        refine lv_iconst (v := 1) hx hb dX9_copy_36 (by decide) ?_
        refine x_cVi (As := [.int (1 : Int32)]) (rest := []) X hP hS kc_X9_146 (c_X9_meets l G  S (1 : Int32) (f_X9_meets S (1 : Int32)).1 (f_X9_meets S (1 : Int32)).2 rfl) ⟨Nat.le_of_ble_eq_true rfl, Nat.le_of_ble_eq_true rfl⟩ (by decide) rfl rfl rfl hl.1 rfl (Nat.le_of_ble_eq_true rfl) ⟨Nat.zero_le _, Nat.zero_le _⟩ dX9_copy_37 (fun H locs hP hS => ?_)
        exact x_iret X hr hlk hP hS  ((Prod.mk.inj (Option.some.inj hf)).1) ((Prod.mk.inj (Option.some.inj hf)).2) dX9_copy_40
      · have hf := xif_f hf e4
        refine lv_aload_n hx hb dX9_copy_26 rfl (lv_at hl 0 rfl) ?_
        refine x_getR X hP fl_X9_50 (by decide) rfl rfl dX9_copy_27 ?_
        refine lv_iload_n hx hb dX9_copy_30 rfl (lv_at hl 3 rfl) ?_
        obtain ⟨g5, hf⟩ := xg_some hf
        refine x_zald X hP (by decide) rfl g5 dX9_copy_31 ?_
        refine lv_if_ne (tgt := 41) hx hb dX9_copy_32 (by decide) (fun e6 => ?_) (fun e6 => ?_)
        · have hf := xif_f hf e6
          refine lv_aload_n hx hb dX9_copy_41 rfl (lv_at hl 0 rfl) ?_
          refine x_getR X hP fl_X9_54 (by decide) rfl rfl dX9_copy_42 ?_
          refine lv_iload_n hx hb dX9_copy_45 rfl (lv_at hl 1 rfl) ?_
          obtain ⟨g7, hf⟩ := xg_some hf
          refine x_iald X hP (by decide) rfl g7 dX9_copy_46 ?_
          refine lv_aload_n hx hb dX9_copy_47 rfl (lv_at hl 0 rfl) ?_
          refine x_getR X hP fl_X9_54 (by decide) rfl rfl dX9_copy_48 ?_
          refine lv_iload_n hx hb dX9_copy_51 rfl (lv_at hl 3 rfl) ?_
          obtain ⟨g8, hf⟩ := xg_some hf
          refine x_iald X hP (by decide) rfl g8 dX9_copy_52 ?_
          refine lv_icmp_eq (tgt := 62) hx hb dX9_copy_53 (by decide) (fun e9 => ?_) (fun e9 => ?_)
          · have hf := xif_t hf e9
            refine lv_iload_n hx hb dX9_copy_62 rfl (lv_at hl 2 rfl) ?_
            refine lv_if_lt (tgt := 111) hx hb dX9_copy_63 (by decide) (fun e10 => ?_) (fun e10 => ?_)
            · have hf := xif_t hf e10
              refine lv_aload_n hx hb dX9_copy_111 rfl (lv_at hl 0 rfl) ?_
              refine lv_iconst (v := 2) hx hb dX9_copy_112 (by decide) ?_
              refine x_cVi (As := [.int (2 : Int32)]) (rest := []) X hP hS kc_X9_146 (c_X9_meets l G  S (2 : Int32) (f_X9_meets S (2 : Int32)).1 (f_X9_meets S (2 : Int32)).2 rfl) ⟨Nat.le_of_ble_eq_true rfl, Nat.le_of_ble_eq_true rfl⟩ (by decide) rfl rfl rfl hl.1 rfl (Nat.le_of_ble_eq_true rfl) ⟨Nat.zero_le _, Nat.zero_le _⟩ dX9_copy_113 (fun H locs hP hS => ?_)
              exact x_iret X hr hlk hP hS  ((Prod.mk.inj (Option.some.inj hf)).1) ((Prod.mk.inj (Option.some.inj hf)).2) dX9_copy_116
            · have hf := xif_f hf e10
              refine lv_iload hx hb dX9_copy_66 (lv_at hl 4 rfl) ?_
              refine lv_if_lt (tgt := 111) hx hb dX9_copy_68 (by decide) (fun e11 => ?_) (fun e11 => ?_)
              · have hf := xif_t hf e11
                refine lv_aload_n hx hb dX9_copy_111 rfl (lv_at hl 0 rfl) ?_
                refine lv_iconst (v := 2) hx hb dX9_copy_112 (by decide) ?_
                refine x_cVi (As := [.int (2 : Int32)]) (rest := []) X hP hS kc_X9_146 (c_X9_meets l G  S (2 : Int32) (f_X9_meets S (2 : Int32)).1 (f_X9_meets S (2 : Int32)).2 rfl) ⟨Nat.le_of_ble_eq_true rfl, Nat.le_of_ble_eq_true rfl⟩ (by decide) rfl rfl rfl hl.1 rfl (Nat.le_of_ble_eq_true rfl) ⟨Nat.zero_le _, Nat.zero_le _⟩ dX9_copy_113 (fun H locs hP hS => ?_)
                exact x_iret X hr hlk hP hS  ((Prod.mk.inj (Option.some.inj hf)).1) ((Prod.mk.inj (Option.some.inj hf)).2) dX9_copy_116
              · have hf := xif_f hf e11
                refine lv_iload hx hb dX9_copy_71 (lv_at hl 5 rfl) ?_
                refine lv_if_lt (tgt := 111) hx hb dX9_copy_73 (by decide) (fun e12 => ?_) (fun e12 => ?_)
                · have hf := xif_t hf e12
                  refine lv_aload_n hx hb dX9_copy_111 rfl (lv_at hl 0 rfl) ?_
                  refine lv_iconst (v := 2) hx hb dX9_copy_112 (by decide) ?_
                  refine x_cVi (As := [.int (2 : Int32)]) (rest := []) X hP hS kc_X9_146 (c_X9_meets l G  S (2 : Int32) (f_X9_meets S (2 : Int32)).1 (f_X9_meets S (2 : Int32)).2 rfl) ⟨Nat.le_of_ble_eq_true rfl, Nat.le_of_ble_eq_true rfl⟩ (by decide) rfl rfl rfl hl.1 rfl (Nat.le_of_ble_eq_true rfl) ⟨Nat.zero_le _, Nat.zero_le _⟩ dX9_copy_113 (fun H locs hP hS => ?_)
                  exact x_iret X hr hlk hP hS  ((Prod.mk.inj (Option.some.inj hf)).1) ((Prod.mk.inj (Option.some.inj hf)).2) dX9_copy_116
                · have hf := xif_f hf e12
                  refine lv_iload_n hx hb dX9_copy_76 rfl (lv_at hl 2 rfl) ?_
                  refine lv_i2l hx hb dX9_copy_77 rfl ?_
                  refine lv_iload hx hb dX9_copy_78 (lv_at hl 5 rfl) ?_
                  refine lv_i2l hx hb dX9_copy_80 rfl ?_
                  refine lv_ladd hx hb dX9_copy_81 ?_
                  refine lv_aload_n hx hb dX9_copy_82 rfl (lv_at hl 0 rfl) ?_
                  refine x_getR X hP fl_X9_57 (by decide) rfl rfl dX9_copy_83 ?_
                  refine lv_iload_n hx hb dX9_copy_86 rfl (lv_at hl 1 rfl) ?_
                  obtain ⟨g13, hf⟩ := xg_some hf
                  refine x_iald X hP (by decide) rfl g13 dX9_copy_87 ?_
                  refine lv_i2l hx hb dX9_copy_88 rfl ?_
                  refine W.lcmp hx hb dX9_copy_89 ?_
                  refine lv_if_gt (tgt := 111) hx hb dX9_copy_90 (by decide) (fun e14 => ?_) (fun e14 => ?_)
                  · have hf := xif_t hf e14
                    refine lv_aload_n hx hb dX9_copy_111 rfl (lv_at hl 0 rfl) ?_
                    refine lv_iconst (v := 2) hx hb dX9_copy_112 (by decide) ?_
                    refine x_cVi (As := [.int (2 : Int32)]) (rest := []) X hP hS kc_X9_146 (c_X9_meets l G  S (2 : Int32) (f_X9_meets S (2 : Int32)).1 (f_X9_meets S (2 : Int32)).2 rfl) ⟨Nat.le_of_ble_eq_true rfl, Nat.le_of_ble_eq_true rfl⟩ (by decide) rfl rfl rfl hl.1 rfl (Nat.le_of_ble_eq_true rfl) ⟨Nat.zero_le _, Nat.zero_le _⟩ dX9_copy_113 (fun H locs hP hS => ?_)
                    exact x_iret X hr hlk hP hS  ((Prod.mk.inj (Option.some.inj hf)).1) ((Prod.mk.inj (Option.some.inj hf)).2) dX9_copy_116
                  · have hf := xif_f hf e14
                    refine lv_iload hx hb dX9_copy_93 (lv_at hl 4 rfl) ?_
                    refine lv_i2l hx hb dX9_copy_95 rfl ?_
                    refine lv_iload hx hb dX9_copy_96 (lv_at hl 5 rfl) ?_
                    refine lv_i2l hx hb dX9_copy_98 rfl ?_
                    refine lv_ladd hx hb dX9_copy_99 ?_
                    refine lv_aload_n hx hb dX9_copy_100 rfl (lv_at hl 0 rfl) ?_
                    refine x_getR X hP fl_X9_57 (by decide) rfl rfl dX9_copy_101 ?_
                    refine lv_iload_n hx hb dX9_copy_104 rfl (lv_at hl 3 rfl) ?_
                    obtain ⟨g15, hf⟩ := xg_some hf
                    refine x_iald X hP (by decide) rfl g15 dX9_copy_105 ?_
                    refine lv_i2l hx hb dX9_copy_106 rfl ?_
                    refine W.lcmp hx hb dX9_copy_107 ?_
                    refine lv_if_le (tgt := 117) hx hb dX9_copy_108 (by decide) (fun e16 => ?_) (fun e16 => ?_)
                    · have hf := xif_t hf e16
                      refine lv_iconst (v := 0) hx hb dX9_copy_117 (by decide) ?_
                      refine lv_istore (lv' := [(6, .int (0 : Int32)), (0, .ref (G.2.2 34)), (1, .int a1), (2, .int a2), (3, .int a3), (4, .int a4), (5, .int a5)]) hx hb dX9_copy_118 hl (by decide) rfl (fun ls hl => ?_)
                      exact t_X9_copy_120 X hr hlk   n S a1 a2 a3 a4 a5 (0 : Int32) hf H locs ls hP hS (lv_sub hl [1, 2, 3, 4, 5, 6, 0] rfl)
                    · have hf := xif_f hf e16
                      refine lv_aload_n hx hb dX9_copy_111 rfl (lv_at hl 0 rfl) ?_
                      refine lv_iconst (v := 2) hx hb dX9_copy_112 (by decide) ?_
                      refine x_cVi (As := [.int (2 : Int32)]) (rest := []) X hP hS kc_X9_146 (c_X9_meets l G  S (2 : Int32) (f_X9_meets S (2 : Int32)).1 (f_X9_meets S (2 : Int32)).2 rfl) ⟨Nat.le_of_ble_eq_true rfl, Nat.le_of_ble_eq_true rfl⟩ (by decide) rfl rfl rfl hl.1 rfl (Nat.le_of_ble_eq_true rfl) ⟨Nat.zero_le _, Nat.zero_le _⟩ dX9_copy_113 (fun H locs hP hS => ?_)
                      exact x_iret X hr hlk hP hS  ((Prod.mk.inj (Option.some.inj hf)).1) ((Prod.mk.inj (Option.some.inj hf)).2) dX9_copy_116
          · have hf := xif_f hf e9
            refine lv_aload_n hx hb dX9_copy_56 rfl (lv_at hl 0 rfl) ?_
            refine lv_iconst (v := 4) hx hb dX9_copy_57 (by decide) ?_
            refine x_cVi (As := [.int (4 : Int32)]) (rest := []) X hP hS kc_X9_146 (c_X9_meets l G  S (4 : Int32) (f_X9_meets S (4 : Int32)).1 (f_X9_meets S (4 : Int32)).2 rfl) ⟨Nat.le_of_ble_eq_true rfl, Nat.le_of_ble_eq_true rfl⟩ (by decide) rfl rfl rfl hl.1 rfl (Nat.le_of_ble_eq_true rfl) ⟨Nat.zero_le _, Nat.zero_le _⟩ dX9_copy_58 (fun H locs hP hS => ?_)
            exact x_iret X hr hlk hP hS  ((Prod.mk.inj (Option.some.inj hf)).1) ((Prod.mk.inj (Option.some.inj hf)).2) dX9_copy_61
        · have hf := xif_t hf e6
          refine lv_aload_n hx hb dX9_copy_35 rfl (lv_at hl 0 rfl) ?_
          refine lv_iconst (v := 1) hx hb dX9_copy_36 (by decide) ?_
          refine x_cVi (As := [.int (1 : Int32)]) (rest := []) X hP hS kc_X9_146 (c_X9_meets l G  S (1 : Int32) (f_X9_meets S (1 : Int32)).1 (f_X9_meets S (1 : Int32)).2 rfl) ⟨Nat.le_of_ble_eq_true rfl, Nat.le_of_ble_eq_true rfl⟩ (by decide) rfl rfl rfl hl.1 rfl (Nat.le_of_ble_eq_true rfl) ⟨Nat.zero_le _, Nat.zero_le _⟩ dX9_copy_37 (fun H locs hP hS => ?_)
          exact x_iret X hr hlk hP hS  ((Prod.mk.inj (Option.some.inj hf)).1) ((Prod.mk.inj (Option.some.inj hf)).2) dX9_copy_40
    · have hf := xif_t hf e2
      refine lv_bipush (v := (-2)) hx hb dX9_copy_14 (by decide) ?_
      exact x_iret X hr hlk hP hS  ((Prod.mk.inj (Option.some.inj hf)).1) ((Prod.mk.inj (Option.some.inj hf)).2) dX9_copy_16
def b_X8_write_35 (n : Nat) (k35 : xS → Int32 → Int32 → Int32 → Option (Int32 × xS)) (S : xS) (a1 : Int32) (a3 : Int32) (a4 : Int32) : Option (Int32 × xS) :=
  (if a3 ≤ a4 then some (a3, S) else xg (xin a1 4) ((f_X7_built n S a4).bind fun r7 => ((f_X6_store n (25 + a1.toNatClampNeg) S a4 r7).bind fun r9 => (k35 r9 a1 a3 (a4 + 1)))))
def l_X8_write_35 (n : Nat) : Nat → xS → Int32 → Int32 → Int32 → Option (Int32 × xS)
  | 0, _, _, _, _ => none
  | j + 1, S, a1, a3, a4 => b_X8_write_35 n (l_X8_write_35 n j) S a1 a3 a4
set_option maxHeartbeats 4000000 in
set_option maxRecDepth 100000 in
theorem t_X8_write_35 {p : Program} {l : Launch} {e : Env} {s : State} {m : MethodId} {args : Array Value} {below : List Frame} {meth : Method} {c : Code} {G : xG} (X : xC p s m args c G RX8 cX8_write 5) (hr : meth.sig.returnType = (some .int)) (hlk : meth.locks = false) {n : Nat} {r : Int32} {S' : xS} : ∀ (j : Nat) (S : xS) (a1 : Int32) (a3 : Int32) (a4 : Int32), l_X8_write_35 n j S a1 a3 a4 = some (r, S') → xGo p l e { frames := 3, cells := 0, slots := 0, locals := 63 } s m args below meth c G 5 0 0 (MQ below (xQi G r S') args s 0 0 (xA G)) S 35 [(0, .ref (G.2.2 0)), (1, .int a1), (3, .int a3), (4, .int a4)] [] := by
  intro j
  induction j with
  | zero => intro S a1 a3 a4 hf; exact nomatch (show (none : Option (Int32 × xS)) = _ from hf)
  | succ j ih =>
    intro S a1 a3 a4 hf H locs ls hP hS hl
    have hf : b_X8_write_35 n (l_X8_write_35 n j) S a1 a3 a4 = some (r, S') := hf
    unfold b_X8_write_35 at hf
    obtain ⟨hx, hb, hml, hown, hts, hE⟩ := id X
    refine lv_iload hx hb dX8_write_35 (lv_at hl 3 rfl) ?_
    refine lv_iload_n hx hb dX8_write_37 rfl (lv_at hl 2 rfl) ?_
    refine lv_icmp_ge (tgt := 67) hx hb dX8_write_38 (by decide) (fun e5 => ?_) (fun e5 => ?_)
    · have hf := xif_t hf e5
      refine lv_iload_n hx hb dX8_write_67 rfl (lv_at hl 2 rfl) ?_
      exact x_iret X hr hlk hP hS  ((Prod.mk.inj (Option.some.inj hf)).1) ((Prod.mk.inj (Option.some.inj hf)).2) dX8_write_68
    · have hf := xif_f hf e5
      refine lv_aload_n hx hb dX8_write_41 rfl (lv_at hl 0 rfl) ?_
      refine x_getR X hP fl_X8_70 (by decide) rfl rfl dX8_write_42 ?_
      refine lv_iload_n hx hb dX8_write_45 rfl (lv_at hl 1 rfl) ?_
      obtain ⟨g6, hf⟩ := xg_some hf
      refine x_ash X hP g6 dX8_write_46 ?_
      refine lv_iload hx hb dX8_write_47 (lv_at hl 3 rfl) ?_
      refine lv_aload_n hx hb dX8_write_49 rfl (lv_at hl 0 rfl) ?_
      refine x_getR X hP fl_X8_32 (by decide) rfl rfl dX8_write_50 ?_
      refine lv_iload hx hb dX8_write_53 (lv_at hl 3 rfl) ?_
      obtain ⟨r7, h8, hf⟩ := xb_some hf
      refine x_cVi (As := [.int a4]) (rest := [.int a4, .ref (G.2.2 (25 + a1.toNatClampNeg))]) X hP hS kc_X8_111 (c_X7_built l G n S a4 _ h8) ⟨Nat.le_of_ble_eq_true rfl, Nat.le_of_ble_eq_true rfl⟩ (by decide) rfl rfl rfl hl.1 rfl (Nat.le_of_ble_eq_true rfl) ⟨Nat.zero_le _, Nat.zero_le _⟩ dX8_write_55 (fun H locs hP hS => ?_)
      obtain ⟨r9, h10, hf⟩ := xb_some hf
      refine x_cVv (As := [.int a4, .int r7]) (rest := []) X hP hS kc_X8_260 (c_X6_store l G n (25 + a1.toNatClampNeg) (xsh_of g6) S a4 r7 _ h10) ⟨Nat.le_of_ble_eq_true rfl, Nat.le_of_ble_eq_true rfl⟩ (xsh_lt (xsh_of g6)) (xsh_lay (xsh_of g6)) rfl rfl hl.1 rfl (Nat.le_of_ble_eq_true rfl) ⟨Nat.zero_le _, Nat.zero_le _⟩ dX8_write_58 (fun H locs hP hS => ?_)
      refine lv_iinc (v := a4 + 1) (lv' := [(4, .int (a4 + 1)), (0, .ref (G.2.2 0)), (1, .int a1), (3, .int a3)]) hx hb dX8_write_61 hl (k := 3) rfl rfl (by decide) rfl (fun ls hl => ?_)
      refine lv_goto (tgt := 35) hx hb dX8_write_64 (by decide) ?_
      exact ih r9 a1 a3 (a4 + 1) hf H locs ls hP hS (lv_sub hl [1, 2, 3, 0] rfl)
def f_X8_write (n : Nat) (S : xS) (a1 : Int32) : Option (Int32 × xS) :=
  (f_X8_refuseSheet n S a1).bind fun r1 => ((if r1.1 = 0 then xg (xin a1 4) (l_X8_write_35 n n r1.2 a1 (xmin (r1.2.1 (25 + a1.toNatClampNeg) 2) (r1.2.1 4 3)) (0 : Int32)) else some (r1.1, r1.2)))
set_option maxHeartbeats 4000000 in
set_option maxRecDepth 100000 in
theorem c_X8_write (l : Launch) (G : xG) (n : Nat)  (S : xS) (a1 : Int32) (r : Int32) (S' : xS) (hf : f_X8_write n S a1 = some (r, S')) : xMi l G yX8_write cX8_write 5 (some .int) 3 63 [.ref (G.2.2 0), .int a1] S r S' := by
  refine xMi_of (own := RX8) (by decide +kernel) rfl (Nat.le_of_ble_eq_true rfl) ?_
  intro p e s m args below meth c X hr hlk H locs ls hP hS hl
  have hl : lv_has ls 5 [(0, .ref (G.2.2 0)), (1, .int a1)] := hl
  obtain ⟨hx, hb, hml, hown, hts, hE⟩ := id X
  unfold f_X8_write at hf
  refine lv_aload_n hx hb dX8_write_0 rfl (lv_at hl 0 rfl) ?_
  refine lv_iload_n hx hb dX8_write_1 rfl (lv_at hl 1 rfl) ?_
  obtain ⟨r1, h2, hf⟩ := xb_some hf
  refine x_cVi (As := [.int a1]) (rest := []) X hP hS kc_X8_181 (c_X8_refuseSheet l G n S a1 r1.1 r1.2 h2) ⟨Nat.le_of_ble_eq_true rfl, Nat.le_of_ble_eq_true rfl⟩ (by decide) rfl rfl rfl hl.1 rfl (Nat.le_of_ble_eq_true rfl) ⟨Nat.zero_le _, Nat.zero_le _⟩ dX8_write_2 (fun H locs hP hS => ?_)
  refine lv_istore_n (lv' := [(2, .int r1.1), (0, .ref (G.2.2 0)), (1, .int a1)]) hx hb dX8_write_5 rfl hl (by decide) rfl (fun ls hl => ?_)
  refine lv_iload_n hx hb dX8_write_6 rfl (lv_at hl 0 rfl) ?_
  refine lv_if_eq (tgt := 12) hx hb dX8_write_7 (by decide) (fun e3 => ?_) (fun e3 => ?_)
  · have hf := xif_t hf e3
    refine lv_aload_n hx hb dX8_write_12 rfl (lv_at hl 1 rfl) ?_
    refine x_getR X hP fl_X8_70 (by decide) rfl rfl dX8_write_13 ?_
    refine lv_iload_n hx hb dX8_write_16 rfl (lv_at hl 2 rfl) ?_
    obtain ⟨g4, hf⟩ := xg_some hf
    refine x_ash X hP g4 dX8_write_17 ?_
    refine x_getIN X hP fn_X8_184 (xsh_lt (xsh_of g4)) (xsh_lay (xsh_of g4)) rfl dX8_write_18 ?_
    refine lv_aload_n hx hb dX8_write_21 rfl (lv_at hl 1 rfl) ?_
    refine x_getR X hP fl_X8_23 (by decide) rfl rfl dX8_write_22 ?_
    refine x_getIN X hP fn_X8_152 (by decide) rfl rfl dX8_write_25 ?_
    refine x_mmin X kw_380 hl.1 ⟨Nat.le_of_ble_eq_true rfl, Nat.le_of_ble_eq_true rfl⟩ ⟨Nat.zero_le _, Nat.zero_le _⟩ dX8_write_28 ?_
    refine lv_istore_n (lv' := [(3, .int (xmin (r1.2.1 (25 + a1.toNatClampNeg) 2) (r1.2.1 4 3))), (2, .int r1.1), (0, .ref (G.2.2 0)), (1, .int a1)]) hx hb dX8_write_31 rfl hl (by decide) rfl (fun ls hl => ?_)
    refine lv_iconst (v := 0) hx hb dX8_write_32 (by decide) ?_
    refine lv_istore (lv' := [(4, .int (0 : Int32)), (3, .int (xmin (r1.2.1 (25 + a1.toNatClampNeg) 2) (r1.2.1 4 3))), (2, .int r1.1), (0, .ref (G.2.2 0)), (1, .int a1)]) hx hb dX8_write_33 hl (by decide) rfl (fun ls hl => ?_)
    exact t_X8_write_35 X hr hlk   n r1.2 a1 (xmin (r1.2.1 (25 + a1.toNatClampNeg) 2) (r1.2.1 4 3)) (0 : Int32) hf H locs ls hP hS (lv_sub hl [3, 4, 1, 0] rfl)
  · have hf := xif_f hf e3
    refine lv_iload_n hx hb dX8_write_10 rfl (lv_at hl 0 rfl) ?_
    exact x_iret X hr hlk hP hS  ((Prod.mk.inj (Option.some.inj hf)).1) ((Prod.mk.inj (Option.some.inj hf)).2) dX8_write_11
