def f_X9_even (n : Nat) (S : xS) (a1 : Int32) (a2 : Int32) (a3 : Int32) (a4 : Int32) : Option (Int32 × xS) :=
  (f_X9_isFloor n S a1).bind fun r1 => ((if r1.1 = 0 then some ((-2 : Int32), r1.2) else (if (f_X9_in a2 (1 : Int32) (99 : Int32)) = 0 then some ((-2 : Int32), r1.2) else (if (f_X9_in a3 a2 (99 : Int32)) = 0 then some ((-2 : Int32), r1.2) else (if (f_X9_in a4 (0 : Int32) (2 : Int32)) = 0 then some ((-2 : Int32), r1.2) else (f_X9_evenOf n r1.2 a1 a2 a3 a4).bind fun r7 => (some (r7, r1.2)))))))
set_option maxHeartbeats 4000000 in
set_option maxRecDepth 100000 in
theorem c_X9_even (l : Launch) (G : xG) (n : Nat)  (S : xS) (a1 : Int32) (a2 : Int32) (a3 : Int32) (a4 : Int32) (r : Int32) (S' : xS) (hf : f_X9_even n S a1 a2 a3 a4 = some (r, S')) : xMi l G yX9_even cX9_even 5 (some .int) 6 134 [.ref (G.2.2 34), .int a1, .int a2, .int a3, .int a4] S r S' := by
  refine xMi_of (own := RX9) (by decide +kernel) rfl (Nat.le_of_ble_eq_true rfl) ?_
  intro p e s m args below meth c X hr hlk H locs ls hP hS hl
  have hl : lv_has ls 5 [(0, .ref (G.2.2 34)), (1, .int a1), (2, .int a2), (3, .int a3), (4, .int a4)] := hl
  obtain ⟨hx, hb, hml, hown, hts, hE⟩ := id X
  unfold f_X9_even at hf
  refine lv_aload_n hx hb dX9_even_0 rfl (lv_at hl 0 rfl) ?_
  refine lv_iload_n hx hb dX9_even_1 rfl (lv_at hl 1 rfl) ?_
  obtain ⟨r1, h2, hf⟩ := xb_some hf
  refine x_cVi (As := [.int a1]) (rest := []) X hP hS kc_X9_103 (c_X9_isFloor l G n S a1 r1.1 r1.2 h2) ⟨Nat.le_of_ble_eq_true rfl, Nat.le_of_ble_eq_true rfl⟩ (by decide) rfl rfl rfl hl.1 rfl (Nat.le_of_ble_eq_true rfl) ⟨Nat.zero_le _, Nat.zero_le _⟩ dX9_even_2 (fun H locs hP hS => ?_)
  refine lv_if_eq (tgt := 50) hx hb dX9_even_5 (by decide) (fun e3 => ?_) (fun e3 => ?_)
  · have hf := xif_t hf e3
    refine lv_bipush (v := (-2)) hx hb dX9_even_50 (by decide) ?_
    exact x_iret X hr hlk hP hS  ((Prod.mk.inj (Option.some.inj hf)).1) ((Prod.mk.inj (Option.some.inj hf)).2) dX9_even_52
  · have hf := xif_f hf e3
    refine lv_iload_n hx hb dX9_even_8 rfl (lv_at hl 2 rfl) ?_
    refine lv_iconst (v := 1) hx hb dX9_even_9 (by decide) ?_
    refine lv_bipush (v := 99) hx hb dX9_even_10 (by decide) ?_
    refine x_cSi (As := [.int a2, .int (1 : Int32), .int (99 : Int32)]) (rest := []) X hP hS kc_X9_68 (c_X9_in l G  r1.2 a2 (1 : Int32) (99 : Int32) _ rfl) ⟨Nat.le_of_ble_eq_true rfl, Nat.le_of_ble_eq_true rfl⟩ rfl hl.1 rfl (Nat.le_of_ble_eq_true rfl) ⟨Nat.zero_le _, Nat.zero_le _⟩ dX9_even_12 (fun H locs hP hS => ?_)
    refine lv_if_eq (tgt := 50) hx hb dX9_even_15 (by decide) (fun e4 => ?_) (fun e4 => ?_)
    · have hf := xif_t hf e4
      refine lv_bipush (v := (-2)) hx hb dX9_even_50 (by decide) ?_
      exact x_iret X hr hlk hP hS  ((Prod.mk.inj (Option.some.inj hf)).1) ((Prod.mk.inj (Option.some.inj hf)).2) dX9_even_52
    · have hf := xif_f hf e4
      refine lv_iload_n hx hb dX9_even_18 rfl (lv_at hl 3 rfl) ?_
      refine lv_iload_n hx hb dX9_even_19 rfl (lv_at hl 2 rfl) ?_
      refine lv_bipush (v := 99) hx hb dX9_even_20 (by decide) ?_
      refine x_cSi (As := [.int a3, .int a2, .int (99 : Int32)]) (rest := []) X hP hS kc_X9_68 (c_X9_in l G  r1.2 a3 a2 (99 : Int32) _ rfl) ⟨Nat.le_of_ble_eq_true rfl, Nat.le_of_ble_eq_true rfl⟩ rfl hl.1 rfl (Nat.le_of_ble_eq_true rfl) ⟨Nat.zero_le _, Nat.zero_le _⟩ dX9_even_22 (fun H locs hP hS => ?_)
      refine lv_if_eq (tgt := 50) hx hb dX9_even_25 (by decide) (fun e5 => ?_) (fun e5 => ?_)
      · have hf := xif_t hf e5
        refine lv_bipush (v := (-2)) hx hb dX9_even_50 (by decide) ?_
        exact x_iret X hr hlk hP hS  ((Prod.mk.inj (Option.some.inj hf)).1) ((Prod.mk.inj (Option.some.inj hf)).2) dX9_even_52
      · have hf := xif_f hf e5
        refine lv_iload hx hb dX9_even_28 (lv_at hl 4 rfl) ?_
        refine lv_iconst (v := 0) hx hb dX9_even_30 (by decide) ?_
        refine lv_iconst (v := 2) hx hb dX9_even_31 (by decide) ?_
        refine x_cSi (As := [.int a4, .int (0 : Int32), .int (2 : Int32)]) (rest := []) X hP hS kc_X9_68 (c_X9_in l G  r1.2 a4 (0 : Int32) (2 : Int32) _ rfl) ⟨Nat.le_of_ble_eq_true rfl, Nat.le_of_ble_eq_true rfl⟩ rfl hl.1 rfl (Nat.le_of_ble_eq_true rfl) ⟨Nat.zero_le _, Nat.zero_le _⟩ dX9_even_32 (fun H locs hP hS => ?_)
        refine lv_if_eq (tgt := 50) hx hb dX9_even_35 (by decide) (fun e6 => ?_) (fun e6 => ?_)
        · have hf := xif_t hf e6
          refine lv_bipush (v := (-2)) hx hb dX9_even_50 (by decide) ?_
          exact x_iret X hr hlk hP hS  ((Prod.mk.inj (Option.some.inj hf)).1) ((Prod.mk.inj (Option.some.inj hf)).2) dX9_even_52
        · have hf := xif_f hf e6
          refine lv_aload_n hx hb dX9_even_38 rfl (lv_at hl 0 rfl) ?_
          refine lv_iload_n hx hb dX9_even_39 rfl (lv_at hl 1 rfl) ?_
          refine lv_iload_n hx hb dX9_even_40 rfl (lv_at hl 2 rfl) ?_
          refine lv_iload_n hx hb dX9_even_41 rfl (lv_at hl 3 rfl) ?_
          refine lv_iload hx hb dX9_even_42 (lv_at hl 4 rfl) ?_
          obtain ⟨r7, h8, hf⟩ := xb_some hf
          refine x_cVi (As := [.int a1, .int a2, .int a3, .int a4]) (rest := []) X hP hS kc_X9_121 (c_X9_evenOf l G n r1.2 a1 a2 a3 a4 _ h8) ⟨Nat.le_of_ble_eq_true rfl, Nat.le_of_ble_eq_true rfl⟩ (by decide) rfl rfl rfl hl.1 rfl (Nat.le_of_ble_eq_true rfl) ⟨Nat.zero_le _, Nat.zero_le _⟩ dX9_even_44 (fun H locs hP hS => ?_)
          refine lv_goto (tgt := 52) hx hb dX9_even_47 (by decide) ?_
          exact x_iret X hr hlk hP hS  ((Prod.mk.inj (Option.some.inj hf)).1) ((Prod.mk.inj (Option.some.inj hf)).2) dX9_even_52
def f_X8_refuseLong (a0 : Int32) : Int64 :=
  (-9223372036854775808 : Int64) - a0.toInt64
set_option maxHeartbeats 4000000 in
set_option maxRecDepth 100000 in
theorem c_X8_refuseLong (l : Launch) (G : xG)  (S : xS) (a0 : Int32) (r : Int64) (hf : f_X8_refuseLong a0 = r) : xMl l G yX8_refuseLong cX8_refuseLong 1 (some .long) 0 0 [.int a0] S r S := by
  refine xMl_of (own := RX8) (by decide +kernel) rfl (Nat.le_of_ble_eq_true rfl) ?_
  intro p e s m args below meth c X hr hlk H locs ls hP hS hl
  have hl : lv_has ls 1 [(0, .int a0)] := hl
  obtain ⟨hx, hb, hml, hown, hts, hE⟩ := id X
  unfold f_X8_refuseLong at hf
  refine lv_ldc2 hx hb hown (hts _ kw_405) dX8_refuseLong_0 ?_
  refine lv_iload_n hx hb dX8_refuseLong_3 rfl (lv_at hl 0 rfl) ?_
  refine lv_i2l hx hb dX8_refuseLong_4 rfl ?_
  refine lv_lsub hx hb dX8_refuseLong_5 ?_
  exact x_lret X hr hlk hP hS  (hf) (rfl) dX8_refuseLong_6
def b_X7_missBy_4 (n : Nat) (k4 : Int32 → Int32 → Int32 → Option Int32) (S : xS) (a1 : Int32) (a2 : Int32) (a3 : Int32) : Option Int32 :=
  (if (S.1 4 3) ≤ a3 then some a2 else (f_X4_master n S a3).bind fun r2 => ((if r2 = a1 then xg (xin a3 10) (xg (xin a3 10) (k4 a1 (a2 + (xabs ((S.1 11 a3.toNatClampNeg) - (S.1 10 a3.toNatClampNeg)))) (a3 + 1))) else k4 a1 a2 (a3 + 1))))
def l_X7_missBy_4 (n : Nat) (S : xS) : Nat → Int32 → Int32 → Int32 → Option Int32
  | 0, _, _, _ => none
  | j + 1, a1, a2, a3 => b_X7_missBy_4 n (l_X7_missBy_4 n S j) S a1 a2 a3
set_option maxHeartbeats 4000000 in
set_option maxRecDepth 100000 in
theorem t_X7_missBy_4 {p : Program} {l : Launch} {e : Env} {s : State} {m : MethodId} {args : Array Value} {below : List Frame} {meth : Method} {c : Code} {G : xG} (X : xC p s m args c G RX7 cX7_missBy 4) (hr : meth.sig.returnType = (some .int)) (hlk : meth.locks = false) {n : Nat} {r : Int32} {S : xS} : ∀ (j : Nat) (a1 : Int32) (a2 : Int32) (a3 : Int32), l_X7_missBy_4 n S j a1 a2 a3 = some r → xGo p l e { frames := 1, cells := 0, slots := 0, locals := 21 } s m args below meth c G 4 0 0 (MQ below (xQi G r S) args s 0 0 (xA G)) S 4 [(0, .ref (G.2.2 9)), (1, .int a1), (2, .int a2), (3, .int a3)] [] := by
  intro j
  induction j with
  | zero => intro a1 a2 a3 hf; exact nomatch (show (none : Option Int32) = _ from hf)
  | succ j ih =>
    intro a1 a2 a3 hf H locs ls hP hS hl
    have hf : b_X7_missBy_4 n (l_X7_missBy_4 n S j) S a1 a2 a3 = some r := hf
    unfold b_X7_missBy_4 at hf
    obtain ⟨hx, hb, hml, hown, hts, hE⟩ := id X
    refine lv_iload_n hx hb dX7_missBy_4 rfl (lv_at hl 3 rfl) ?_
    refine lv_aload_n hx hb dX7_missBy_5 rfl (lv_at hl 0 rfl) ?_
    refine x_getR X hP fl_X7_31 (by decide) rfl rfl dX7_missBy_6 ?_
    refine x_getIN X hP fn_X7_35 (by decide) rfl rfl dX7_missBy_9 ?_
    refine lv_icmp_ge (tgt := 52) hx hb dX7_missBy_12 (by decide) (fun e1 => ?_) (fun e1 => ?_)
    · have hf := xif_t hf e1
      refine lv_iload_n hx hb dX7_missBy_52 rfl (lv_at hl 2 rfl) ?_
      exact x_iret X hr hlk hP hS  (Option.some.inj hf) (rfl) dX7_missBy_53
    · have hf := xif_f hf e1
      refine lv_aload_n hx hb dX7_missBy_15 rfl (lv_at hl 0 rfl) ?_
      refine x_getR X hP fl_X7_31 (by decide) rfl rfl dX7_missBy_16 ?_
      refine lv_iload_n hx hb dX7_missBy_19 rfl (lv_at hl 3 rfl) ?_
      obtain ⟨r2, h3, hf⟩ := xb_some hf
      refine x_cVi (As := [.int a3]) (rest := []) X hP hS kc_X7_52 (c_X4_master l G n S a3 _ h3) ⟨Nat.le_of_ble_eq_true rfl, Nat.le_of_ble_eq_true rfl⟩ (by decide) rfl rfl rfl hl.1 rfl (Nat.le_of_ble_eq_true rfl) ⟨Nat.zero_le _, Nat.zero_le _⟩ dX7_missBy_20 (fun H locs hP hS => ?_)
      refine lv_iload_n hx hb dX7_missBy_23 rfl (lv_at hl 1 rfl) ?_
      refine lv_icmp_ne (tgt := 46) hx hb dX7_missBy_24 (by decide) (fun e4 => ?_) (fun e4 => ?_)
      · have hf := xif_f hf e4
        refine lv_iinc (v := a3 + 1) (lv' := [(3, .int (a3 + 1)), (0, .ref (G.2.2 9)), (1, .int a1), (2, .int a2)]) hx hb dX7_missBy_46 hl (k := 3) rfl rfl (by decide) rfl (fun ls hl => ?_)
        refine lv_goto (tgt := 4) hx hb dX7_missBy_49 (by decide) ?_
        exact ih a1 a2 (a3 + 1) hf H locs ls hP hS (lv_sub hl [1, 2, 3, 0] rfl)
      · have hf := xif_t hf e4
        refine lv_iload_n hx hb dX7_missBy_27 rfl (lv_at hl 2 rfl) ?_
        refine lv_aload_n hx hb dX7_missBy_28 rfl (lv_at hl 0 rfl) ?_
        refine x_getR X hP fl_X7_15 (by decide) rfl rfl dX7_missBy_29 ?_
        refine lv_iload_n hx hb dX7_missBy_32 rfl (lv_at hl 3 rfl) ?_
        obtain ⟨g5, hf⟩ := xg_some hf
        refine x_iald X hP (by decide) rfl g5 dX7_missBy_33 ?_
        refine lv_aload_n hx hb dX7_missBy_34 rfl (lv_at hl 0 rfl) ?_
        refine x_getR X hP fl_X7_9 (by decide) rfl rfl dX7_missBy_35 ?_
        refine lv_iload_n hx hb dX7_missBy_38 rfl (lv_at hl 3 rfl) ?_
        obtain ⟨g6, hf⟩ := xg_some hf
        refine x_iald X hP (by decide) rfl g6 dX7_missBy_39 ?_
        refine lv_isub hx hb dX7_missBy_40 ?_
        refine x_mabs X kw_410 hl.1 ⟨Nat.le_of_ble_eq_true rfl, Nat.le_of_ble_eq_true rfl⟩ ⟨Nat.zero_le _, Nat.zero_le _⟩ dX7_missBy_41 ?_
        refine lv_iadd hx hb dX7_missBy_44 ?_
        refine lv_istore_n (lv' := [(2, .int (a2 + (xabs ((S.1 11 a3.toNatClampNeg) - (S.1 10 a3.toNatClampNeg))))), (0, .ref (G.2.2 9)), (1, .int a1), (3, .int a3)]) hx hb dX7_missBy_45 rfl hl (by decide) rfl (fun ls hl => ?_)
        refine lv_iinc (v := a3 + 1) (lv' := [(3, .int (a3 + 1)), (2, .int (a2 + (xabs ((S.1 11 a3.toNatClampNeg) - (S.1 10 a3.toNatClampNeg))))), (0, .ref (G.2.2 9)), (1, .int a1)]) hx hb dX7_missBy_46 hl (k := 3) rfl rfl (by decide) rfl (fun ls hl => ?_)
        refine lv_goto (tgt := 4) hx hb dX7_missBy_49 (by decide) ?_
        exact ih a1 (a2 + (xabs ((S.1 11 a3.toNatClampNeg) - (S.1 10 a3.toNatClampNeg)))) (a3 + 1) hf H locs ls hP hS (lv_sub hl [2, 3, 1, 0] rfl)
def f_X7_missBy (n : Nat) (S : xS) (a1 : Int32) : Option Int32 :=
  l_X7_missBy_4 n S n a1 (0 : Int32) (0 : Int32)
set_option maxHeartbeats 4000000 in
set_option maxRecDepth 100000 in
theorem c_X7_missBy (l : Launch) (G : xG) (n : Nat)  (S : xS) (a1 : Int32) (r : Int32) (hf : f_X7_missBy n S a1 = some r) : xMi l G yX7_missBy cX7_missBy 4 (some .int) 1 21 [.ref (G.2.2 9), .int a1] S r S := by
  refine xMi_of (own := RX7) (by decide +kernel) rfl (Nat.le_of_ble_eq_true rfl) ?_
  intro p e s m args below meth c X hr hlk H locs ls hP hS hl
  have hl : lv_has ls 4 [(0, .ref (G.2.2 9)), (1, .int a1)] := hl
  obtain ⟨hx, hb, hml, hown, hts, hE⟩ := id X
  unfold f_X7_missBy at hf
  refine lv_iconst (v := 0) hx hb dX7_missBy_0 (by decide) ?_
  refine lv_istore_n (lv' := [(2, .int (0 : Int32)), (0, .ref (G.2.2 9)), (1, .int a1)]) hx hb dX7_missBy_1 rfl hl (by decide) rfl (fun ls hl => ?_)
  refine lv_iconst (v := 0) hx hb dX7_missBy_2 (by decide) ?_
  refine lv_istore_n (lv' := [(3, .int (0 : Int32)), (2, .int (0 : Int32)), (0, .ref (G.2.2 9)), (1, .int a1)]) hx hb dX7_missBy_3 rfl hl (by decide) rfl (fun ls hl => ?_)
  exact t_X7_missBy_4 X hr hlk   n a1 (0 : Int32) (0 : Int32) hf H locs ls hP hS (lv_sub hl [2, 3, 1, 0] rfl)
def j_X8_inLowestTerms_45 (n : Nat) (a0 : Int64) (a2 : Int64) (a4 : Int32) (a5 : Int64) : Option Int64 :=
  (if a4 = 0 then (if (lg_cmp a5 (0 : Int64)) = 0 then some a0 else xg (!decide (a5 = 0)) (some (a0 / a5))) else (if (lg_cmp a5 (0 : Int64)) = 0 then some a2 else xg (!decide (a5 = 0)) (some (a2 / a5))))
set_option maxHeartbeats 4000000 in
set_option maxRecDepth 100000 in
theorem t_X8_inLowestTerms_45 {p : Program} {l : Launch} {e : Env} {s : State} {m : MethodId} {args : Array Value} {below : List Frame} {meth : Method} {c : Code} {G : xG} (X : xC p s m args c G RX8 cX8_inLowestTerms 12) (hr : meth.sig.returnType = (some .long)) (hlk : meth.locks = false) {n : Nat} {r : Int64} {S : xS} : ∀ (a0 : Int64) (a2 : Int64) (a4 : Int32) (a5 : Int64), j_X8_inLowestTerms_45 n a0 a2 a4 a5 = some r → xGo p l e { frames := 0, cells := 0, slots := 0, locals := 0 } s m args below meth c G 12 0 0 (MQ below (xQl G r S) args s 0 0 (xA G)) S 45 [(0, .long a0), (2, .long a2), (4, .int a4), (5, .long a5)] [] := by
  intro a0 a2 a4 a5 hf H locs ls hP hS hl
  unfold j_X8_inLowestTerms_45 at hf
  obtain ⟨hx, hb, hml, hown, hts, hE⟩ := id X
  refine lv_iload hx hb dX8_inLowestTerms_45 (lv_at hl 2 rfl) ?_
  refine lv_if_ne (tgt := 54) hx hb dX8_inLowestTerms_47 (by decide) (fun e2 => ?_) (fun e2 => ?_)
  · have hf := xif_f hf e2
    refine lv_lload_n hx hb dX8_inLowestTerms_54 rfl (lv_at hl 1 rfl) ?_
    refine lv_lstore (lv' := [(9, .long a2), (0, .long a0), (2, .long a2), (4, .int a4), (5, .long a5)]) hx hb dX8_inLowestTerms_55 hl (by decide) rfl (fun ls hl => ?_)
    refine lv_lload hx hb dX8_inLowestTerms_57 (lv_at hl 4 rfl) ?_
    refine lv_lconst (v := 0) hx hb dX8_inLowestTerms_59 (by decide) ?_
    refine W.lcmp hx hb dX8_inLowestTerms_60 ?_
    refine lv_if_ne (tgt := 69) hx hb dX8_inLowestTerms_61 (by decide) (fun e3 => ?_) (fun e3 => ?_)
    · have hf := xif_f hf e3
      refine lv_lload hx hb dX8_inLowestTerms_69 (lv_at hl 0 rfl) ?_
      refine lv_lload hx hb dX8_inLowestTerms_71 (lv_at hl 4 rfl) ?_
      obtain ⟨g4, hf⟩ := xg_some hf
      refine lv_ldiv hx hb dX8_inLowestTerms_73 (xneL_of g4) ?_
      exact x_lret X hr hlk hP hS  (Option.some.inj hf) (rfl) dX8_inLowestTerms_74
    · have hf := xif_t hf e3
      refine lv_lload hx hb dX8_inLowestTerms_64 (lv_at hl 0 rfl) ?_
      refine lv_goto (tgt := 74) hx hb dX8_inLowestTerms_66 (by decide) ?_
      exact x_lret X hr hlk hP hS  (Option.some.inj hf) (rfl) dX8_inLowestTerms_74
  · have hf := xif_t hf e2
    refine lv_lload_n hx hb dX8_inLowestTerms_50 rfl (lv_at hl 0 rfl) ?_
    refine lv_goto (tgt := 55) hx hb dX8_inLowestTerms_51 (by decide) ?_
    refine lv_lstore (lv' := [(9, .long a0), (0, .long a0), (2, .long a2), (4, .int a4), (5, .long a5)]) hx hb dX8_inLowestTerms_55 hl (by decide) rfl (fun ls hl => ?_)
    refine lv_lload hx hb dX8_inLowestTerms_57 (lv_at hl 4 rfl) ?_
    refine lv_lconst (v := 0) hx hb dX8_inLowestTerms_59 (by decide) ?_
    refine W.lcmp hx hb dX8_inLowestTerms_60 ?_
    refine lv_if_ne (tgt := 69) hx hb dX8_inLowestTerms_61 (by decide) (fun e5 => ?_) (fun e5 => ?_)
    · have hf := xif_f hf e5
      refine lv_lload hx hb dX8_inLowestTerms_69 (lv_at hl 0 rfl) ?_
      refine lv_lload hx hb dX8_inLowestTerms_71 (lv_at hl 4 rfl) ?_
      obtain ⟨g6, hf⟩ := xg_some hf
      refine lv_ldiv hx hb dX8_inLowestTerms_73 (xneL_of g6) ?_
      exact x_lret X hr hlk hP hS  (Option.some.inj hf) (rfl) dX8_inLowestTerms_74
    · have hf := xif_t hf e5
      refine lv_lload hx hb dX8_inLowestTerms_64 (lv_at hl 0 rfl) ?_
      refine lv_goto (tgt := 74) hx hb dX8_inLowestTerms_66 (by decide) ?_
      exact x_lret X hr hlk hP hS  (Option.some.inj hf) (rfl) dX8_inLowestTerms_74
def b_X8_inLowestTerms_9 (n : Nat) (k9 : Int64 → Int64 → Int32 → Int64 → Int64 → Int32 → Option Int64) (a0 : Int64) (a2 : Int64) (a4 : Int32) (a5 : Int64) (a7 : Int64) (a9 : Int32) : Option Int64 :=
  (if (128 : Int32) ≤ a9 then j_X8_inLowestTerms_45 n a0 a2 a4 a5 else (if (lg_cmp a7 (0 : Int64)) = 0 then j_X8_inLowestTerms_45 n a0 a2 a4 a5 else xg (!decide (a7 = 0)) (k9 a0 a2 a4 a7 (a5 - a5 / a7 * a7) (a9 + 1))))
def l_X8_inLowestTerms_9 (n : Nat) : Nat → Int64 → Int64 → Int32 → Int64 → Int64 → Int32 → Option Int64
  | 0, _, _, _, _, _, _ => none
  | j + 1, a0, a2, a4, a5, a7, a9 => b_X8_inLowestTerms_9 n (l_X8_inLowestTerms_9 n j) a0 a2 a4 a5 a7 a9
set_option maxHeartbeats 4000000 in
set_option maxRecDepth 100000 in
theorem t_X8_inLowestTerms_9 {p : Program} {l : Launch} {e : Env} {s : State} {m : MethodId} {args : Array Value} {below : List Frame} {meth : Method} {c : Code} {G : xG} (X : xC p s m args c G RX8 cX8_inLowestTerms 12) (hr : meth.sig.returnType = (some .long)) (hlk : meth.locks = false) {n : Nat} {r : Int64} {S : xS} : ∀ (j : Nat) (a0 : Int64) (a2 : Int64) (a4 : Int32) (a5 : Int64) (a7 : Int64) (a9 : Int32), l_X8_inLowestTerms_9 n j a0 a2 a4 a5 a7 a9 = some r → xGo p l e { frames := 0, cells := 0, slots := 0, locals := 0 } s m args below meth c G 12 0 0 (MQ below (xQl G r S) args s 0 0 (xA G)) S 9 [(0, .long a0), (2, .long a2), (4, .int a4), (5, .long a5), (7, .long a7), (9, .int a9)] [] := by
  intro j
  induction j with
  | zero => intro a0 a2 a4 a5 a7 a9 hf; exact nomatch (show (none : Option Int64) = _ from hf)
  | succ j ih =>
    intro a0 a2 a4 a5 a7 a9 hf H locs ls hP hS hl
    have hf : b_X8_inLowestTerms_9 n (l_X8_inLowestTerms_9 n j) a0 a2 a4 a5 a7 a9 = some r := hf
    unfold b_X8_inLowestTerms_9 at hf
    obtain ⟨hx, hb, hml, hown, hts, hE⟩ := id X
    refine lv_iload hx hb dX8_inLowestTerms_9 (lv_at hl 5 rfl) ?_
    refine lv_sipush (v := 128) hx hb dX8_inLowestTerms_11 (by decide) ?_
    refine lv_icmp_ge (tgt := 45) hx hb dX8_inLowestTerms_14 (by decide) (fun e1 => ?_) (fun e1 => ?_)
    · have hf := xif_t hf e1
      exact t_X8_inLowestTerms_45 X hr hlk   a0 a2 a4 a5 hf H locs ls hP hS (lv_sub hl [0, 1, 2, 3] rfl)
    · have hf := xif_f hf e1
      refine lv_lload hx hb dX8_inLowestTerms_17 (lv_at hl 4 rfl) ?_
      refine lv_lconst (v := 0) hx hb dX8_inLowestTerms_19 (by decide) ?_
      refine W.lcmp hx hb dX8_inLowestTerms_20 ?_
      refine lv_if_eq (tgt := 45) hx hb dX8_inLowestTerms_21 (by decide) (fun e7 => ?_) (fun e7 => ?_)
      · have hf := xif_t hf e7
        exact t_X8_inLowestTerms_45 X hr hlk   a0 a2 a4 a5 hf H locs ls hP hS (lv_sub hl [0, 1, 2, 3] rfl)
      · have hf := xif_f hf e7
        refine lv_lload hx hb dX8_inLowestTerms_24 (lv_at hl 3 rfl) ?_
        refine lv_lload hx hb dX8_inLowestTerms_26 (lv_at hl 4 rfl) ?_
        obtain ⟨g8, hf⟩ := xg_some hf
        refine lv_lrem hx hb dX8_inLowestTerms_28 (xneL_of g8) ?_
        refine lv_lstore (lv' := [(10, .long (a5 - a5 / a7 * a7)), (0, .long a0), (2, .long a2), (4, .int a4), (5, .long a5), (7, .long a7), (9, .int a9)]) hx hb dX8_inLowestTerms_29 hl (by decide) rfl (fun ls hl => ?_)
        refine lv_lload hx hb dX8_inLowestTerms_31 (lv_at hl 5 rfl) ?_
        refine lv_lstore (lv' := [(5, .long a7), (10, .long (a5 - a5 / a7 * a7)), (0, .long a0), (2, .long a2), (4, .int a4), (7, .long a7), (9, .int a9)]) hx hb dX8_inLowestTerms_33 hl (by decide) rfl (fun ls hl => ?_)
        refine lv_lload hx hb dX8_inLowestTerms_35 (lv_at hl 1 rfl) ?_
        refine lv_lstore (lv' := [(7, .long (a5 - a5 / a7 * a7)), (5, .long a7), (10, .long (a5 - a5 / a7 * a7)), (0, .long a0), (2, .long a2), (4, .int a4), (9, .int a9)]) hx hb dX8_inLowestTerms_37 hl (by decide) rfl (fun ls hl => ?_)
        refine lv_iinc (v := a9 + 1) (lv' := [(9, .int (a9 + 1)), (7, .long (a5 - a5 / a7 * a7)), (5, .long a7), (10, .long (a5 - a5 / a7 * a7)), (0, .long a0), (2, .long a2), (4, .int a4)]) hx hb dX8_inLowestTerms_39 hl (k := 6) rfl rfl (by decide) rfl (fun ls hl => ?_)
        refine lv_goto (tgt := 9) hx hb dX8_inLowestTerms_42 (by decide) ?_
        exact ih a0 a2 a4 a7 (a5 - a5 / a7 * a7) (a9 + 1) hf H locs ls hP hS (lv_sub hl [4, 5, 6, 2, 1, 0] rfl)
def f_X8_inLowestTerms (n : Nat) (a0 : Int64) (a2 : Int64) (a4 : Int32) : Option Int64 :=
  l_X8_inLowestTerms_9 n n a0 a2 a4 a2 a0 (0 : Int32)
set_option maxHeartbeats 4000000 in
set_option maxRecDepth 100000 in
theorem c_X8_inLowestTerms (l : Launch) (G : xG) (n : Nat)  (S : xS) (a0 : Int64) (a2 : Int64) (a4 : Int32) (r : Int64) (hf : f_X8_inLowestTerms n a0 a2 a4 = some r) : xMl l G yX8_inLowestTerms cX8_inLowestTerms 12 (some .long) 0 0 [.long a0, .long a2, .int a4] S r S := by
  refine xMl_of (own := RX8) (by decide +kernel) rfl (Nat.le_of_ble_eq_true rfl) ?_
  intro p e s m args below meth c X hr hlk H locs ls hP hS hl
  have hl : lv_has ls 12 [(0, .long a0), (2, .long a2), (4, .int a4)] := hl
  obtain ⟨hx, hb, hml, hown, hts, hE⟩ := id X
  unfold f_X8_inLowestTerms at hf
  refine lv_lload_n hx hb dX8_inLowestTerms_0 rfl (lv_at hl 1 rfl) ?_
  refine lv_lstore (lv' := [(5, .long a2), (0, .long a0), (2, .long a2), (4, .int a4)]) hx hb dX8_inLowestTerms_1 hl (by decide) rfl (fun ls hl => ?_)
  refine lv_lload_n hx hb dX8_inLowestTerms_3 rfl (lv_at hl 1 rfl) ?_
  refine lv_lstore (lv' := [(7, .long a0), (5, .long a2), (0, .long a0), (2, .long a2), (4, .int a4)]) hx hb dX8_inLowestTerms_4 hl (by decide) rfl (fun ls hl => ?_)
  refine lv_iconst (v := 0) hx hb dX8_inLowestTerms_6 (by decide) ?_
  refine lv_istore (lv' := [(9, .int (0 : Int32)), (7, .long a0), (5, .long a2), (0, .long a0), (2, .long a2), (4, .int a4)]) hx hb dX8_inLowestTerms_7 hl (by decide) rfl (fun ls hl => ?_)
  exact t_X8_inLowestTerms_9 X hr hlk   n a0 a2 a4 a2 a0 (0 : Int32) hf H locs ls hP hS (lv_sub hl [3, 4, 5, 2, 1, 0] rfl)
def b_X8_blame_63 (n : Nat) (k63 : Int32 → Int64 → Int64 → Int32 → Option Int64) (S : xS) (a3 : Int32) (a4 : Int64) (a6 : Int64) (a8 : Int32) : Option Int64 :=
  (if (3 : Int32) ≤ a8 then (if (lg_cmp a6 (0 : Int64)) = 0 then some (f_X8_refuseLong (-3 : Int32)) else (f_X8_inLowestTerms n a4 a6 a3).bind fun r9 => (some r9)) else (f_X7_missBy n S a8).bind fun r11 => (k63 a3 a4 (a6 + r11.toInt64) (a8 + 1)))
def l_X8_blame_63 (n : Nat) (S : xS) : Nat → Int32 → Int64 → Int64 → Int32 → Option Int64
  | 0, _, _, _, _ => none
  | j + 1, a3, a4, a6, a8 => b_X8_blame_63 n (l_X8_blame_63 n S j) S a3 a4 a6 a8
set_option maxHeartbeats 4000000 in
set_option maxRecDepth 100000 in
theorem t_X8_blame_63 {p : Program} {l : Launch} {e : Env} {s : State} {m : MethodId} {args : Array Value} {below : List Frame} {meth : Method} {c : Code} {G : xG} (X : xC p s m args c G RX8 cX8_blame 9) (hr : meth.sig.returnType = (some .long)) (hlk : meth.locks = false) {n : Nat} {r : Int64} {S : xS} : ∀ (j : Nat) (a3 : Int32) (a4 : Int64) (a6 : Int64) (a8 : Int32), l_X8_blame_63 n S j a3 a4 a6 a8 = some r → xGo p l e { frames := 2, cells := 0, slots := 0, locals := 44 } s m args below meth c G 9 0 0 (MQ below (xQl G r S) args s 0 0 (xA G)) S 63 [(0, .ref (G.2.2 0)), (3, .int a3), (4, .long a4), (6, .long a6), (8, .int a8)] [] := by
  intro j
  induction j with
  | zero => intro a3 a4 a6 a8 hf; exact nomatch (show (none : Option Int64) = _ from hf)
  | succ j ih =>
    intro a3 a4 a6 a8 hf H locs ls hP hS hl
    have hf : b_X8_blame_63 n (l_X8_blame_63 n S j) S a3 a4 a6 a8 = some r := hf
    unfold b_X8_blame_63 at hf
    obtain ⟨hx, hb, hml, hown, hts, hE⟩ := id X
    refine lv_iload hx hb dX8_blame_63 (lv_at hl 4 rfl) ?_
    refine lv_iconst (v := 3) hx hb dX8_blame_65 (by decide) ?_
    refine lv_icmp_ge (tgt := 90) hx hb dX8_blame_66 (by decide) (fun e7 => ?_) (fun e7 => ?_)
    · have hf := xif_t hf e7
      refine lv_lload hx hb dX8_blame_90 (lv_at hl 3 rfl) ?_
      refine lv_lconst (v := 0) hx hb dX8_blame_92 (by decide) ?_
      refine W.lcmp hx hb dX8_blame_93 ?_
      refine lv_if_ne (tgt := 105) hx hb dX8_blame_94 (by decide) (fun e8 => ?_) (fun e8 => ?_)
      · have hf := xif_f hf e8
        refine lv_lload hx hb dX8_blame_105 (lv_at hl 2 rfl) ?_
        refine lv_lload hx hb dX8_blame_107 (lv_at hl 3 rfl) ?_
        refine lv_iload_n hx hb dX8_blame_109 rfl (lv_at hl 1 rfl) ?_
        obtain ⟨r9, h10, hf⟩ := xb_some hf
        refine x_cSl (As := [.long a4, .long a6, .int a3]) (rest := []) X hP hS kc_X8_174 (c_X8_inLowestTerms l G n S a4 a6 a3 _ h10) ⟨Nat.le_of_ble_eq_true rfl, Nat.le_of_ble_eq_true rfl⟩ rfl hl.1 rfl (Nat.le_of_ble_eq_true rfl) ⟨Nat.zero_le _, Nat.zero_le _⟩ dX8_blame_110 (fun H locs hP hS => ?_)
        exact x_lret X hr hlk hP hS  (Option.some.inj hf) (rfl) dX8_blame_113
      · have hf := xif_t hf e8
        refine lv_bipush (v := (-3)) hx hb dX8_blame_97 (by decide) ?_
        refine x_cSl (As := [.int (-3 : Int32)]) (rest := []) X hP hS kc_X8_167 (c_X8_refuseLong l G  S (-3 : Int32) _ rfl) ⟨Nat.le_of_ble_eq_true rfl, Nat.le_of_ble_eq_true rfl⟩ rfl hl.1 rfl (Nat.le_of_ble_eq_true rfl) ⟨Nat.zero_le _, Nat.zero_le _⟩ dX8_blame_99 (fun H locs hP hS => ?_)
        refine lv_goto (tgt := 113) hx hb dX8_blame_102 (by decide) ?_
        exact x_lret X hr hlk hP hS  (Option.some.inj hf) (rfl) dX8_blame_113
    · have hf := xif_f hf e7
      refine lv_lload hx hb dX8_blame_69 (lv_at hl 3 rfl) ?_
      refine lv_aload_n hx hb dX8_blame_71 rfl (lv_at hl 0 rfl) ?_
      refine x_getR X hP fl_X8_32 (by decide) rfl rfl dX8_blame_72 ?_
      refine lv_iload hx hb dX8_blame_75 (lv_at hl 4 rfl) ?_
      obtain ⟨r11, h12, hf⟩ := xb_some hf
      refine x_cVi (As := [.int a8]) (rest := [.long a6]) X hP hS kc_X8_171 (c_X7_missBy l G n S a8 _ h12) ⟨Nat.le_of_ble_eq_true rfl, Nat.le_of_ble_eq_true rfl⟩ (by decide) rfl rfl rfl hl.1 rfl (Nat.le_of_ble_eq_true rfl) ⟨Nat.zero_le _, Nat.zero_le _⟩ dX8_blame_77 (fun H locs hP hS => ?_)
      refine lv_i2l hx hb dX8_blame_80 rfl ?_
      refine lv_ladd hx hb dX8_blame_81 ?_
      refine lv_lstore (lv' := [(6, .long (a6 + r11.toInt64)), (0, .ref (G.2.2 0)), (3, .int a3), (4, .long a4), (8, .int a8)]) hx hb dX8_blame_82 hl (by decide) rfl (fun ls hl => ?_)
      refine lv_iinc (v := a8 + 1) (lv' := [(8, .int (a8 + 1)), (6, .long (a6 + r11.toInt64)), (0, .ref (G.2.2 0)), (3, .int a3), (4, .long a4)]) hx hb dX8_blame_84 hl (k := 4) rfl rfl (by decide) rfl (fun ls hl => ?_)
      refine lv_goto (tgt := 63) hx hb dX8_blame_87 (by decide) ?_
      exact ih a3 a4 (a6 + r11.toInt64) (a8 + 1) hf H locs ls hP hS (lv_sub hl [2, 3, 4, 1, 0] rfl)
def f_X8_blame (n : Nat) (S : xS) (a1 : Int32) (a2 : Int32) (a3 : Int32) : Option Int64 :=
  (if (f_X8_isMaster a1) = 0 then some (f_X8_refuseLong (-2 : Int32)) else (if (f_X8_within a2 (0 : Int32) (1 : Int32)) = 0 then some (f_X8_refuseLong (-2 : Int32)) else (if (f_X8_within a3 (0 : Int32) (1 : Int32)) = 0 then some (f_X8_refuseLong (-2 : Int32)) else (f_X7_missBy n S a1).bind fun r4 => ((if a2 = 0 then (if a3 = 0 then some r4.toInt64 else some (1 : Int64)) else l_X8_blame_63 n S n a3 r4.toInt64 (0 : Int64) (0 : Int32))))))
set_option maxHeartbeats 4000000 in
set_option maxRecDepth 100000 in
theorem c_X8_blame (l : Launch) (G : xG) (n : Nat)  (S : xS) (a1 : Int32) (a2 : Int32) (a3 : Int32) (r : Int64) (hf : f_X8_blame n S a1 a2 a3 = some r) : xMl l G yX8_blame cX8_blame 9 (some .long) 2 44 [.ref (G.2.2 0), .int a1, .int a2, .int a3] S r S := by
  refine xMl_of (own := RX8) (by decide +kernel) rfl (Nat.le_of_ble_eq_true rfl) ?_
  intro p e s m args below meth c X hr hlk H locs ls hP hS hl
  have hl : lv_has ls 9 [(0, .ref (G.2.2 0)), (1, .int a1), (2, .int a2), (3, .int a3)] := hl
  obtain ⟨hx, hb, hml, hown, hts, hE⟩ := id X
  unfold f_X8_blame at hf
  refine lv_iload_n hx hb dX8_blame_0 rfl (lv_at hl 1 rfl) ?_
  refine x_cSi (As := [.int a1]) (rest := []) X hP hS kc_X8_75 (c_X8_isMaster l G  S a1 _ rfl) ⟨Nat.le_of_ble_eq_true rfl, Nat.le_of_ble_eq_true rfl⟩ rfl hl.1 rfl (Nat.le_of_ble_eq_true rfl) ⟨Nat.zero_le _, Nat.zero_le _⟩ dX8_blame_1 (fun H locs hP hS => ?_)
  refine lv_if_eq (tgt := 25) hx hb dX8_blame_4 (by decide) (fun e1 => ?_) (fun e1 => ?_)
  · have hf := xif_t hf e1
    refine lv_bipush (v := (-2)) hx hb dX8_blame_25 (by decide) ?_
    refine x_cSl (As := [.int (-2 : Int32)]) (rest := []) X hP hS kc_X8_167 (c_X8_refuseLong l G  S (-2 : Int32) _ rfl) ⟨Nat.le_of_ble_eq_true rfl, Nat.le_of_ble_eq_true rfl⟩ rfl hl.1 rfl (Nat.le_of_ble_eq_true rfl) ⟨Nat.zero_le _, Nat.zero_le _⟩ dX8_blame_27 (fun H locs hP hS => ?_)
    exact x_lret X hr hlk hP hS  (Option.some.inj hf) (rfl) dX8_blame_30
  · have hf := xif_f hf e1
    refine lv_iload_n hx hb dX8_blame_7 rfl (lv_at hl 2 rfl) ?_
    refine lv_iconst (v := 0) hx hb dX8_blame_8 (by decide) ?_
    refine lv_iconst (v := 1) hx hb dX8_blame_9 (by decide) ?_
    refine x_cSi (As := [.int a2, .int (0 : Int32), .int (1 : Int32)]) (rest := []) X hP hS kc_X8_79 (c_X8_within l G  S a2 (0 : Int32) (1 : Int32) _ rfl) ⟨Nat.le_of_ble_eq_true rfl, Nat.le_of_ble_eq_true rfl⟩ rfl hl.1 rfl (Nat.le_of_ble_eq_true rfl) ⟨Nat.zero_le _, Nat.zero_le _⟩ dX8_blame_10 (fun H locs hP hS => ?_)
    refine lv_if_eq (tgt := 25) hx hb dX8_blame_13 (by decide) (fun e2 => ?_) (fun e2 => ?_)
    · have hf := xif_t hf e2
      refine lv_bipush (v := (-2)) hx hb dX8_blame_25 (by decide) ?_
      refine x_cSl (As := [.int (-2 : Int32)]) (rest := []) X hP hS kc_X8_167 (c_X8_refuseLong l G  S (-2 : Int32) _ rfl) ⟨Nat.le_of_ble_eq_true rfl, Nat.le_of_ble_eq_true rfl⟩ rfl hl.1 rfl (Nat.le_of_ble_eq_true rfl) ⟨Nat.zero_le _, Nat.zero_le _⟩ dX8_blame_27 (fun H locs hP hS => ?_)
      exact x_lret X hr hlk hP hS  (Option.some.inj hf) (rfl) dX8_blame_30
    · have hf := xif_f hf e2
      refine lv_iload_n hx hb dX8_blame_16 rfl (lv_at hl 3 rfl) ?_
      refine lv_iconst (v := 0) hx hb dX8_blame_17 (by decide) ?_
      refine lv_iconst (v := 1) hx hb dX8_blame_18 (by decide) ?_
      refine x_cSi (As := [.int a3, .int (0 : Int32), .int (1 : Int32)]) (rest := []) X hP hS kc_X8_79 (c_X8_within l G  S a3 (0 : Int32) (1 : Int32) _ rfl) ⟨Nat.le_of_ble_eq_true rfl, Nat.le_of_ble_eq_true rfl⟩ rfl hl.1 rfl (Nat.le_of_ble_eq_true rfl) ⟨Nat.zero_le _, Nat.zero_le _⟩ dX8_blame_19 (fun H locs hP hS => ?_)
      refine lv_if_ne (tgt := 31) hx hb dX8_blame_22 (by decide) (fun e3 => ?_) (fun e3 => ?_)
      · have hf := xif_f hf e3
        refine lv_aload_n hx hb dX8_blame_31 rfl (lv_at hl 0 rfl) ?_
        refine x_getR X hP fl_X8_32 (by decide) rfl rfl dX8_blame_32 ?_
        refine lv_iload_n hx hb dX8_blame_35 rfl (lv_at hl 1 rfl) ?_
        obtain ⟨r4, h5, hf⟩ := xb_some hf
        refine x_cVi (As := [.int a1]) (rest := []) X hP hS kc_X8_171 (c_X7_missBy l G n S a1 _ h5) ⟨Nat.le_of_ble_eq_true rfl, Nat.le_of_ble_eq_true rfl⟩ (by decide) rfl rfl rfl hl.1 rfl (Nat.le_of_ble_eq_true rfl) ⟨Nat.zero_le _, Nat.zero_le _⟩ dX8_blame_36 (fun H locs hP hS => ?_)
        refine lv_i2l hx hb dX8_blame_39 rfl ?_
        refine lv_lstore (lv' := [(4, .long r4.toInt64), (0, .ref (G.2.2 0)), (1, .int a1), (2, .int a2), (3, .int a3)]) hx hb dX8_blame_40 hl (by decide) rfl (fun ls hl => ?_)
        refine lv_iload_n hx hb dX8_blame_42 rfl (lv_at hl 3 rfl) ?_
        refine lv_if_ne (tgt := 57) hx hb dX8_blame_43 (by decide) (fun e6 => ?_) (fun e6 => ?_)
        · have hf := xif_f hf e6
          refine lv_lconst (v := 0) hx hb dX8_blame_57 (by decide) ?_
          refine lv_lstore (lv' := [(6, .long (0 : Int64)), (4, .long r4.toInt64), (0, .ref (G.2.2 0)), (1, .int a1), (2, .int a2), (3, .int a3)]) hx hb dX8_blame_58 hl (by decide) rfl (fun ls hl => ?_)
          refine lv_iconst (v := 0) hx hb dX8_blame_60 (by decide) ?_
          refine lv_istore (lv' := [(8, .int (0 : Int32)), (6, .long (0 : Int64)), (4, .long r4.toInt64), (0, .ref (G.2.2 0)), (1, .int a1), (2, .int a2), (3, .int a3)]) hx hb dX8_blame_61 hl (by decide) rfl (fun ls hl => ?_)
          exact t_X8_blame_63 X hr hlk   n a3 r4.toInt64 (0 : Int64) (0 : Int32) hf H locs ls hP hS (lv_sub hl [3, 6, 2, 1, 0] rfl)
        · have hf := xif_t hf e6
          refine lv_iload_n hx hb dX8_blame_46 rfl (lv_at hl 4 rfl) ?_
          refine lv_if_ne (tgt := 55) hx hb dX8_blame_47 (by decide) (fun e13 => ?_) (fun e13 => ?_)
          · have hf := xif_f hf e13
            refine lv_lconst (v := 1) hx hb dX8_blame_55 (by decide) ?_
            exact x_lret X hr hlk hP hS  (Option.some.inj hf) (rfl) dX8_blame_56
          · have hf := xif_t hf e13
            refine lv_lload hx hb dX8_blame_50 (lv_at hl 0 rfl) ?_
            refine lv_goto (tgt := 56) hx hb dX8_blame_52 (by decide) ?_
            exact x_lret X hr hlk hP hS  (Option.some.inj hf) (rfl) dX8_blame_56
      · have hf := xif_t hf e3
        refine lv_bipush (v := (-2)) hx hb dX8_blame_25 (by decide) ?_
        refine x_cSl (As := [.int (-2 : Int32)]) (rest := []) X hP hS kc_X8_167 (c_X8_refuseLong l G  S (-2 : Int32) _ rfl) ⟨Nat.le_of_ble_eq_true rfl, Nat.le_of_ble_eq_true rfl⟩ rfl hl.1 rfl (Nat.le_of_ble_eq_true rfl) ⟨Nat.zero_le _, Nat.zero_le _⟩ dX8_blame_27 (fun H locs hP hS => ?_)
        exact x_lret X hr hlk hP hS  (Option.some.inj hf) (rfl) dX8_blame_30
def b_X9_blameBy_4 (n : Nat) (k4 : Int32 → Int32 → Int32 → Option Int32) (S : xS) (a1 : Int32) (a2 : Int32) (a3 : Int32) : Option Int32 :=
  (if (S.1 34 5) ≤ a3 then some a2 else xg (xin a3 11) ((if ((S.1 40 a3.toNatClampNeg) / (3 : Int32)) = a1 then xg (xin a3 11) (xg (xin a3 11) ((f_X9_cutBy n S (S.1 39 a3.toNatClampNeg) (S.1 40 a3.toNatClampNeg)).bind fun r6 => (xg (xin a3 11) (k4 a1 (a2 + (f_X9_amount (r6 - (S.1 39 a3.toNatClampNeg)))) (a3 + 1))))) else k4 a1 (a2 + (0 : Int32)) (a3 + 1))))
def l_X9_blameBy_4 (n : Nat) (S : xS) : Nat → Int32 → Int32 → Int32 → Option Int32
  | 0, _, _, _ => none
  | j + 1, a1, a2, a3 => b_X9_blameBy_4 n (l_X9_blameBy_4 n S j) S a1 a2 a3
set_option maxHeartbeats 4000000 in
set_option maxRecDepth 100000 in
theorem t_X9_blameBy_4 {p : Program} {l : Launch} {e : Env} {s : State} {m : MethodId} {args : Array Value} {below : List Frame} {meth : Method} {c : Code} {G : xG} (X : xC p s m args c G RX9 cX9_blameBy 4) (hr : meth.sig.returnType = (some .int)) (hlk : meth.locks = false) {n : Nat} {r : Int32} {S : xS} : ∀ (j : Nat) (a1 : Int32) (a2 : Int32) (a3 : Int32), l_X9_blameBy_4 n S j a1 a2 a3 = some r → xGo p l e { frames := 1, cells := 0, slots := 0, locals := 26 } s m args below meth c G 4 0 0 (MQ below (xQi G r S) args s 0 0 (xA G)) S 4 [(0, .ref (G.2.2 34)), (1, .int a1), (2, .int a2), (3, .int a3)] [] := by
  intro j
  induction j with
  | zero => intro a1 a2 a3 hf; exact nomatch (show (none : Option Int32) = _ from hf)
  | succ j ih =>
    intro a1 a2 a3 hf H locs ls hP hS hl
    have hf : b_X9_blameBy_4 n (l_X9_blameBy_4 n S j) S a1 a2 a3 = some r := hf
    unfold b_X9_blameBy_4 at hf
    obtain ⟨hx, hb, hml, hown, hts, hE⟩ := id X
    refine lv_iload_n hx hb dX9_blameBy_4 rfl (lv_at hl 3 rfl) ?_
    refine lv_aload_n hx hb dX9_blameBy_5 rfl (lv_at hl 0 rfl) ?_
    refine x_getI X hP fl_X9_83 (by decide) rfl rfl dX9_blameBy_6 ?_
    refine lv_icmp_ge (tgt := 63) hx hb dX9_blameBy_9 (by decide) (fun e1 => ?_) (fun e1 => ?_)
    · have hf := xif_t hf e1
      refine lv_iload_n hx hb dX9_blameBy_63 rfl (lv_at hl 2 rfl) ?_
      exact x_iret X hr hlk hP hS  (Option.some.inj hf) (rfl) dX9_blameBy_64
    · have hf := xif_f hf e1
      refine lv_iload_n hx hb dX9_blameBy_12 rfl (lv_at hl 2 rfl) ?_
      refine lv_aload_n hx hb dX9_blameBy_13 rfl (lv_at hl 0 rfl) ?_
      refine x_getR X hP fl_X9_25 (by decide) rfl rfl dX9_blameBy_14 ?_
      refine lv_iload_n hx hb dX9_blameBy_17 rfl (lv_at hl 3 rfl) ?_
      obtain ⟨g2, hf⟩ := xg_some hf
      refine x_iald X hP (by decide) rfl g2 dX9_blameBy_18 ?_
      refine lv_iconst (v := 3) hx hb dX9_blameBy_19 (by decide) ?_
      refine lv_idiv hx hb dX9_blameBy_20 (by decide) ?_
      refine lv_iload_n hx hb dX9_blameBy_21 rfl (lv_at hl 1 rfl) ?_
      refine lv_icmp_ne (tgt := 54) hx hb dX9_blameBy_22 (by decide) (fun e3 => ?_) (fun e3 => ?_)
      · have hf := xif_f hf e3
        refine lv_iconst (v := 0) hx hb dX9_blameBy_54 (by decide) ?_
        refine lv_iadd hx hb dX9_blameBy_55 ?_
        refine lv_istore_n (lv' := [(2, .int (a2 + (0 : Int32))), (0, .ref (G.2.2 34)), (1, .int a1), (3, .int a3)]) hx hb dX9_blameBy_56 rfl hl (by decide) rfl (fun ls hl => ?_)
        refine lv_iinc (v := a3 + 1) (lv' := [(3, .int (a3 + 1)), (2, .int (a2 + (0 : Int32))), (0, .ref (G.2.2 34)), (1, .int a1)]) hx hb dX9_blameBy_57 hl (k := 3) rfl rfl (by decide) rfl (fun ls hl => ?_)
        refine lv_goto (tgt := 4) hx hb dX9_blameBy_60 (by decide) ?_
        exact ih a1 (a2 + (0 : Int32)) (a3 + 1) hf H locs ls hP hS (lv_sub hl [2, 3, 1, 0] rfl)
      · have hf := xif_t hf e3
        refine lv_aload_n hx hb dX9_blameBy_25 rfl (lv_at hl 0 rfl) ?_
        refine lv_aload_n hx hb dX9_blameBy_26 rfl (lv_at hl 0 rfl) ?_
        refine x_getR X hP fl_X9_22 (by decide) rfl rfl dX9_blameBy_27 ?_
        refine lv_iload_n hx hb dX9_blameBy_30 rfl (lv_at hl 3 rfl) ?_
        obtain ⟨g4, hf⟩ := xg_some hf
        refine x_iald X hP (by decide) rfl g4 dX9_blameBy_31 ?_
        refine lv_aload_n hx hb dX9_blameBy_32 rfl (lv_at hl 0 rfl) ?_
        refine x_getR X hP fl_X9_25 (by decide) rfl rfl dX9_blameBy_33 ?_
        refine lv_iload_n hx hb dX9_blameBy_36 rfl (lv_at hl 3 rfl) ?_
        obtain ⟨g5, hf⟩ := xg_some hf
        refine x_iald X hP (by decide) rfl g5 dX9_blameBy_37 ?_
        obtain ⟨r6, h7, hf⟩ := xb_some hf
        refine x_cVi (As := [.int (S.1 39 a3.toNatClampNeg), .int (S.1 40 a3.toNatClampNeg)]) (rest := [.int a2]) X hP hS kc_X9_93 (c_X9_cutBy l G n S (S.1 39 a3.toNatClampNeg) (S.1 40 a3.toNatClampNeg) _ h7) ⟨Nat.le_of_ble_eq_true rfl, Nat.le_of_ble_eq_true rfl⟩ (by decide) rfl rfl rfl hl.1 rfl (Nat.le_of_ble_eq_true rfl) ⟨Nat.zero_le _, Nat.zero_le _⟩ dX9_blameBy_38 (fun H locs hP hS => ?_)
        refine lv_aload_n hx hb dX9_blameBy_41 rfl (lv_at hl 0 rfl) ?_
        refine x_getR X hP fl_X9_22 (by decide) rfl rfl dX9_blameBy_42 ?_
        refine lv_iload_n hx hb dX9_blameBy_45 rfl (lv_at hl 3 rfl) ?_
        obtain ⟨g8, hf⟩ := xg_some hf
        refine x_iald X hP (by decide) rfl g8 dX9_blameBy_46 ?_
        refine lv_isub hx hb dX9_blameBy_47 ?_
        refine x_cSi (As := [.int (r6 - (S.1 39 a3.toNatClampNeg))]) (rest := [.int a2]) X hP hS kc_X9_115 (c_X9_amount l G  S (r6 - (S.1 39 a3.toNatClampNeg)) _ rfl) ⟨Nat.le_of_ble_eq_true rfl, Nat.le_of_ble_eq_true rfl⟩ rfl hl.1 rfl (Nat.le_of_ble_eq_true rfl) ⟨Nat.zero_le _, Nat.zero_le _⟩ dX9_blameBy_48 (fun H locs hP hS => ?_)
        refine lv_goto (tgt := 55) hx hb dX9_blameBy_51 (by decide) ?_
        refine lv_iadd hx hb dX9_blameBy_55 ?_
        refine lv_istore_n (lv' := [(2, .int (a2 + (f_X9_amount (r6 - (S.1 39 a3.toNatClampNeg))))), (0, .ref (G.2.2 34)), (1, .int a1), (3, .int a3)]) hx hb dX9_blameBy_56 rfl hl (by decide) rfl (fun ls hl => ?_)
        refine lv_iinc (v := a3 + 1) (lv' := [(3, .int (a3 + 1)), (2, .int (a2 + (f_X9_amount (r6 - (S.1 39 a3.toNatClampNeg))))), (0, .ref (G.2.2 34)), (1, .int a1)]) hx hb dX9_blameBy_57 hl (k := 3) rfl rfl (by decide) rfl (fun ls hl => ?_)
        refine lv_goto (tgt := 4) hx hb dX9_blameBy_60 (by decide) ?_
        exact ih a1 (a2 + (f_X9_amount (r6 - (S.1 39 a3.toNatClampNeg)))) (a3 + 1) hf H locs ls hP hS (lv_sub hl [2, 3, 1, 0] rfl)
def f_X9_blameBy (n : Nat) (S : xS) (a1 : Int32) : Option Int32 :=
  l_X9_blameBy_4 n S n a1 (0 : Int32) (0 : Int32)
set_option maxHeartbeats 4000000 in
set_option maxRecDepth 100000 in
theorem c_X9_blameBy (l : Launch) (G : xG) (n : Nat)  (S : xS) (a1 : Int32) (r : Int32) (hf : f_X9_blameBy n S a1 = some r) : xMi l G yX9_blameBy cX9_blameBy 4 (some .int) 1 26 [.ref (G.2.2 34), .int a1] S r S := by
  refine xMi_of (own := RX9) (by decide +kernel) rfl (Nat.le_of_ble_eq_true rfl) ?_
  intro p e s m args below meth c X hr hlk H locs ls hP hS hl
  have hl : lv_has ls 4 [(0, .ref (G.2.2 34)), (1, .int a1)] := hl
  obtain ⟨hx, hb, hml, hown, hts, hE⟩ := id X
  unfold f_X9_blameBy at hf
  refine lv_iconst (v := 0) hx hb dX9_blameBy_0 (by decide) ?_
  refine lv_istore_n (lv' := [(2, .int (0 : Int32)), (0, .ref (G.2.2 34)), (1, .int a1)]) hx hb dX9_blameBy_1 rfl hl (by decide) rfl (fun ls hl => ?_)
  refine lv_iconst (v := 0) hx hb dX9_blameBy_2 (by decide) ?_
  refine lv_istore_n (lv' := [(3, .int (0 : Int32)), (2, .int (0 : Int32)), (0, .ref (G.2.2 34)), (1, .int a1)]) hx hb dX9_blameBy_3 rfl hl (by decide) rfl (fun ls hl => ?_)
  exact t_X9_blameBy_4 X hr hlk   n a1 (0 : Int32) (0 : Int32) hf H locs ls hP hS (lv_sub hl [2, 3, 1, 0] rfl)
def f_X9_no (a0 : Int32) : Int64 :=
  (-9223372036854775808 : Int64) - a0.toInt64
set_option maxHeartbeats 4000000 in
set_option maxRecDepth 100000 in
theorem c_X9_no (l : Launch) (G : xG)  (S : xS) (a0 : Int32) (r : Int64) (hf : f_X9_no a0 = r) : xMl l G yX9_no cX9_no 1 (some .long) 0 0 [.int a0] S r S := by
  refine xMl_of (own := RX9) (by decide +kernel) rfl (Nat.le_of_ble_eq_true rfl) ?_
  intro p e s m args below meth c X hr hlk H locs ls hP hS hl
  have hl : lv_has ls 1 [(0, .int a0)] := hl
  obtain ⟨hx, hb, hml, hown, hts, hE⟩ := id X
  unfold f_X9_no at hf
  refine lv_ldc2 hx hb hown (hts _ kw_429) dX9_no_0 ?_
  refine lv_iload_n hx hb dX9_no_3 rfl (lv_at hl 0 rfl) ?_
  refine lv_i2l hx hb dX9_no_4 rfl ?_
  refine lv_lsub hx hb dX9_no_5 ?_
  exact x_lret X hr hlk hP hS  (hf) (rfl) dX9_no_6
def b_X9_lowest_6 (n : Nat) (k6 : Int64 → Int64 → Int32 → Int64 → Int64 → Option Int64) (a0 : Int64) (a2 : Int64) (a4 : Int32) (a5 : Int64) (a7 : Int64) : Option Int64 :=
  (if (lg_cmp a7 (0 : Int64)) = 0 then (if a4 = 0 then xg (!decide (a5 = 0)) (some (a0 / a5)) else xg (!decide (a5 = 0)) (some (a2 / a5))) else xg (!decide (a7 = 0)) (k6 a0 a2 a4 a7 (a5 - a5 / a7 * a7)))
def l_X9_lowest_6 (n : Nat) : Nat → Int64 → Int64 → Int32 → Int64 → Int64 → Option Int64
  | 0, _, _, _, _, _ => none
  | j + 1, a0, a2, a4, a5, a7 => b_X9_lowest_6 n (l_X9_lowest_6 n j) a0 a2 a4 a5 a7
set_option maxHeartbeats 4000000 in
set_option maxRecDepth 100000 in
theorem t_X9_lowest_6 {p : Program} {l : Launch} {e : Env} {s : State} {m : MethodId} {args : Array Value} {below : List Frame} {meth : Method} {c : Code} {G : xG} (X : xC p s m args c G RX9 cX9_lowest 11) (hr : meth.sig.returnType = (some .long)) (hlk : meth.locks = false) {n : Nat} {r : Int64} {S : xS} : ∀ (j : Nat) (a0 : Int64) (a2 : Int64) (a4 : Int32) (a5 : Int64) (a7 : Int64), l_X9_lowest_6 n j a0 a2 a4 a5 a7 = some r → xGo p l e { frames := 0, cells := 0, slots := 0, locals := 0 } s m args below meth c G 11 0 0 (MQ below (xQl G r S) args s 0 0 (xA G)) S 6 [(0, .long a0), (2, .long a2), (4, .int a4), (5, .long a5), (7, .long a7)] [] := by
  intro j
  induction j with
  | zero => intro a0 a2 a4 a5 a7 hf; exact nomatch (show (none : Option Int64) = _ from hf)
  | succ j ih =>
    intro a0 a2 a4 a5 a7 hf H locs ls hP hS hl
    have hf : b_X9_lowest_6 n (l_X9_lowest_6 n j) a0 a2 a4 a5 a7 = some r := hf
    unfold b_X9_lowest_6 at hf
    obtain ⟨hx, hb, hml, hown, hts, hE⟩ := id X
    refine lv_lload hx hb dX9_lowest_6 (lv_at hl 4 rfl) ?_
    refine lv_lconst (v := 0) hx hb dX9_lowest_8 (by decide) ?_
    refine W.lcmp hx hb dX9_lowest_9 ?_
    refine lv_if_eq (tgt := 31) hx hb dX9_lowest_10 (by decide) (fun e1 => ?_) (fun e1 => ?_)
    · have hf := xif_t hf e1
      refine lv_iload hx hb dX9_lowest_31 (lv_at hl 2 rfl) ?_
      refine lv_if_ne (tgt := 43) hx hb dX9_lowest_33 (by decide) (fun e2 => ?_) (fun e2 => ?_)
      · have hf := xif_f hf e2
        refine lv_lload_n hx hb dX9_lowest_43 rfl (lv_at hl 1 rfl) ?_
        refine lv_lload hx hb dX9_lowest_44 (lv_at hl 3 rfl) ?_
        obtain ⟨g3, hf⟩ := xg_some hf
        refine lv_ldiv hx hb dX9_lowest_46 (xneL_of g3) ?_
        exact x_lret X hr hlk hP hS  (Option.some.inj hf) (rfl) dX9_lowest_47
      · have hf := xif_t hf e2
        refine lv_lload_n hx hb dX9_lowest_36 rfl (lv_at hl 0 rfl) ?_
        refine lv_lload hx hb dX9_lowest_37 (lv_at hl 3 rfl) ?_
        obtain ⟨g4, hf⟩ := xg_some hf
        refine lv_ldiv hx hb dX9_lowest_39 (xneL_of g4) ?_
        refine lv_goto (tgt := 47) hx hb dX9_lowest_40 (by decide) ?_
        exact x_lret X hr hlk hP hS  (Option.some.inj hf) (rfl) dX9_lowest_47
    · have hf := xif_f hf e1
      refine lv_lload hx hb dX9_lowest_13 (lv_at hl 3 rfl) ?_
      refine lv_lload hx hb dX9_lowest_15 (lv_at hl 4 rfl) ?_
      obtain ⟨g5, hf⟩ := xg_some hf
      refine lv_lrem hx hb dX9_lowest_17 (xneL_of g5) ?_
      refine lv_lstore (lv' := [(9, .long (a5 - a5 / a7 * a7)), (0, .long a0), (2, .long a2), (4, .int a4), (5, .long a5), (7, .long a7)]) hx hb dX9_lowest_18 hl (by decide) rfl (fun ls hl => ?_)
      refine lv_lload hx hb dX9_lowest_20 (lv_at hl 5 rfl) ?_
      refine lv_lstore (lv' := [(5, .long a7), (9, .long (a5 - a5 / a7 * a7)), (0, .long a0), (2, .long a2), (4, .int a4), (7, .long a7)]) hx hb dX9_lowest_22 hl (by decide) rfl (fun ls hl => ?_)
      refine lv_lload hx hb dX9_lowest_24 (lv_at hl 1 rfl) ?_
      refine lv_lstore (lv' := [(7, .long (a5 - a5 / a7 * a7)), (5, .long a7), (9, .long (a5 - a5 / a7 * a7)), (0, .long a0), (2, .long a2), (4, .int a4)]) hx hb dX9_lowest_26 hl (by decide) rfl (fun ls hl => ?_)
      refine lv_goto (tgt := 6) hx hb dX9_lowest_28 (by decide) ?_
      exact ih a0 a2 a4 a7 (a5 - a5 / a7 * a7) hf H locs ls hP hS (lv_sub hl [3, 4, 5, 1, 0] rfl)
def f_X9_lowest (n : Nat) (a0 : Int64) (a2 : Int64) (a4 : Int32) : Option Int64 :=
  l_X9_lowest_6 n n a0 a2 a4 a0 a2
set_option maxHeartbeats 4000000 in
set_option maxRecDepth 100000 in
theorem c_X9_lowest (l : Launch) (G : xG) (n : Nat)  (S : xS) (a0 : Int64) (a2 : Int64) (a4 : Int32) (r : Int64) (hf : f_X9_lowest n a0 a2 a4 = some r) : xMl l G yX9_lowest cX9_lowest 11 (some .long) 0 0 [.long a0, .long a2, .int a4] S r S := by
  refine xMl_of (own := RX9) (by decide +kernel) rfl (Nat.le_of_ble_eq_true rfl) ?_
  intro p e s m args below meth c X hr hlk H locs ls hP hS hl
  have hl : lv_has ls 11 [(0, .long a0), (2, .long a2), (4, .int a4)] := hl
  obtain ⟨hx, hb, hml, hown, hts, hE⟩ := id X
  unfold f_X9_lowest at hf
  refine lv_lload_n hx hb dX9_lowest_0 rfl (lv_at hl 0 rfl) ?_
  refine lv_lstore (lv' := [(5, .long a0), (0, .long a0), (2, .long a2), (4, .int a4)]) hx hb dX9_lowest_1 hl (by decide) rfl (fun ls hl => ?_)
  refine lv_lload_n hx hb dX9_lowest_3 rfl (lv_at hl 2 rfl) ?_
  refine lv_lstore (lv' := [(7, .long a2), (5, .long a0), (0, .long a0), (2, .long a2), (4, .int a4)]) hx hb dX9_lowest_4 hl (by decide) rfl (fun ls hl => ?_)
  exact t_X9_lowest_6 X hr hlk   n a0 a2 a4 a0 a2 hf H locs ls hP hS (lv_sub hl [2, 3, 4, 1, 0] rfl)
def f_X9_blameOf (n : Nat) (S : xS) (a1 : Int32) (a2 : Int32) (a3 : Int32) : Option (Int64 × xS) :=
  (f_X9_reads n S).bind fun r1 => ((f_X9_blameBy n r1.2 a1).bind fun r3 => ((f_X9_blameBy n r1.2 (0 : Int32)).bind fun r5 => ((f_X9_blameBy n r1.2 (1 : Int32)).bind fun r7 => ((f_X9_blameBy n r1.2 (2 : Int32)).bind fun r9 => ((if a2 = 0 then (if a3 = 0 then some (r3.toInt64, r1.2) else some ((1 : Int64), r1.2)) else (if ((r5 + r7) + r9) = 0 then some (f_X9_no (-3 : Int32), r1.2) else (f_X9_lowest n r3.toInt64 (((r5 + r7) + r9).toInt64) a3).bind fun r13 => (some (r13, r1.2)))))))))
set_option maxHeartbeats 4000000 in
set_option maxRecDepth 100000 in
theorem c_X9_blameOf (l : Launch) (G : xG) (n : Nat)  (S : xS) (a1 : Int32) (a2 : Int32) (a3 : Int32) (r : Int64) (S' : xS) (hf : f_X9_blameOf n S a1 a2 a3 = some (r, S')) : xMl l G yX9_blameOf cX9_blameOf 7 (some .long) 4 92 [.ref (G.2.2 34), .int a1, .int a2, .int a3] S r S' := by
  refine xMl_of (own := RX9) (by decide +kernel) rfl (Nat.le_of_ble_eq_true rfl) ?_
  intro p e s m args below meth c X hr hlk H locs ls hP hS hl
  have hl : lv_has ls 7 [(0, .ref (G.2.2 34)), (1, .int a1), (2, .int a2), (3, .int a3)] := hl
  obtain ⟨hx, hb, hml, hown, hts, hE⟩ := id X
  unfold f_X9_blameOf at hf
  refine lv_aload_n hx hb dX9_blameOf_0 rfl (lv_at hl 0 rfl) ?_
  obtain ⟨r1, h2, hf⟩ := xb_some hf
  refine x_cVi (As := []) (rest := []) X hP hS kc_X9_89 (c_X9_reads l G n S  r1.1 r1.2 h2) ⟨Nat.le_of_ble_eq_true rfl, Nat.le_of_ble_eq_true rfl⟩ (by decide) rfl rfl rfl hl.1 rfl (Nat.le_of_ble_eq_true rfl) ⟨Nat.zero_le _, Nat.zero_le _⟩ dX9_blameOf_1 (fun H locs hP hS => ?_)
  refine lv_istore (lv' := [(4, .int r1.1), (0, .ref (G.2.2 34)), (1, .int a1), (2, .int a2), (3, .int a3)]) hx hb dX9_blameOf_4 hl (by decide) rfl (fun ls hl => ?_)
  refine lv_aload_n hx hb dX9_blameOf_6 rfl (lv_at hl 1 rfl) ?_
  refine lv_iload_n hx hb dX9_blameOf_7 rfl (lv_at hl 2 rfl) ?_
  obtain ⟨r3, h4, hf⟩ := xb_some hf
  refine x_cVi (As := [.int a1]) (rest := []) X hP hS kc_X9_125 (c_X9_blameBy l G n r1.2 a1 _ h4) ⟨Nat.le_of_ble_eq_true rfl, Nat.le_of_ble_eq_true rfl⟩ (by decide) rfl rfl rfl hl.1 rfl (Nat.le_of_ble_eq_true rfl) ⟨Nat.zero_le _, Nat.zero_le _⟩ dX9_blameOf_8 (fun H locs hP hS => ?_)
  refine lv_istore (lv' := [(5, .int r3), (4, .int r1.1), (0, .ref (G.2.2 34)), (1, .int a1), (2, .int a2), (3, .int a3)]) hx hb dX9_blameOf_11 hl (by decide) rfl (fun ls hl => ?_)
  refine lv_aload_n hx hb dX9_blameOf_13 rfl (lv_at hl 2 rfl) ?_
  refine lv_iconst (v := 0) hx hb dX9_blameOf_14 (by decide) ?_
  obtain ⟨r5, h6, hf⟩ := xb_some hf
  refine x_cVi (As := [.int (0 : Int32)]) (rest := []) X hP hS kc_X9_125 (c_X9_blameBy l G n r1.2 (0 : Int32) _ h6) ⟨Nat.le_of_ble_eq_true rfl, Nat.le_of_ble_eq_true rfl⟩ (by decide) rfl rfl rfl hl.1 rfl (Nat.le_of_ble_eq_true rfl) ⟨Nat.zero_le _, Nat.zero_le _⟩ dX9_blameOf_15 (fun H locs hP hS => ?_)
  refine lv_aload_n hx hb dX9_blameOf_18 rfl (lv_at hl 2 rfl) ?_
  refine lv_iconst (v := 1) hx hb dX9_blameOf_19 (by decide) ?_
  obtain ⟨r7, h8, hf⟩ := xb_some hf
  refine x_cVi (As := [.int (1 : Int32)]) (rest := [.int r5]) X hP hS kc_X9_125 (c_X9_blameBy l G n r1.2 (1 : Int32) _ h8) ⟨Nat.le_of_ble_eq_true rfl, Nat.le_of_ble_eq_true rfl⟩ (by decide) rfl rfl rfl hl.1 rfl (Nat.le_of_ble_eq_true rfl) ⟨Nat.zero_le _, Nat.zero_le _⟩ dX9_blameOf_20 (fun H locs hP hS => ?_)
  refine lv_iadd hx hb dX9_blameOf_23 ?_
  refine lv_aload_n hx hb dX9_blameOf_24 rfl (lv_at hl 2 rfl) ?_
  refine lv_iconst (v := 2) hx hb dX9_blameOf_25 (by decide) ?_
  obtain ⟨r9, h10, hf⟩ := xb_some hf
  refine x_cVi (As := [.int (2 : Int32)]) (rest := [.int (r5 + r7)]) X hP hS kc_X9_125 (c_X9_blameBy l G n r1.2 (2 : Int32) _ h10) ⟨Nat.le_of_ble_eq_true rfl, Nat.le_of_ble_eq_true rfl⟩ (by decide) rfl rfl rfl hl.1 rfl (Nat.le_of_ble_eq_true rfl) ⟨Nat.zero_le _, Nat.zero_le _⟩ dX9_blameOf_26 (fun H locs hP hS => ?_)
  refine lv_iadd hx hb dX9_blameOf_29 ?_
  refine lv_istore (lv' := [(6, .int ((r5 + r7) + r9)), (5, .int r3), (4, .int r1.1), (0, .ref (G.2.2 34)), (1, .int a1), (2, .int a2), (3, .int a3)]) hx hb dX9_blameOf_30 hl (by decide) rfl (fun ls hl => ?_)
  refine lv_iload_n hx hb dX9_blameOf_32 rfl (lv_at hl 5 rfl) ?_
  refine lv_if_ne (tgt := 50) hx hb dX9_blameOf_33 (by decide) (fun e11 => ?_) (fun e11 => ?_)
  · have hf := xif_f hf e11
    refine lv_iload hx hb dX9_blameOf_50 (lv_at hl 0 rfl) ?_
    refine lv_if_ne (tgt := 63) hx hb dX9_blameOf_52 (by decide) (fun e12 => ?_) (fun e12 => ?_)
    · have hf := xif_f hf e12
      refine lv_iload hx hb dX9_blameOf_63 (lv_at hl 1 rfl) ?_
      refine lv_i2l hx hb dX9_blameOf_65 rfl ?_
      refine lv_iload hx hb dX9_blameOf_66 (lv_at hl 0 rfl) ?_
      refine lv_i2l hx hb dX9_blameOf_68 rfl ?_
      refine lv_iload_n hx hb dX9_blameOf_69 rfl (lv_at hl 6 rfl) ?_
      obtain ⟨r13, h14, hf⟩ := xb_some hf
      refine x_cSl (As := [.long r3.toInt64, .long (((r5 + r7) + r9).toInt64), .int a3]) (rest := []) X hP hS kc_X9_132 (c_X9_lowest l G n r1.2 r3.toInt64 (((r5 + r7) + r9).toInt64) a3 _ h14) ⟨Nat.le_of_ble_eq_true rfl, Nat.le_of_ble_eq_true rfl⟩ rfl hl.1 rfl (Nat.le_of_ble_eq_true rfl) ⟨Nat.zero_le _, Nat.zero_le _⟩ dX9_blameOf_70 (fun H locs hP hS => ?_)
      exact x_lret X hr hlk hP hS  ((Prod.mk.inj (Option.some.inj hf)).1) ((Prod.mk.inj (Option.some.inj hf)).2) dX9_blameOf_73
    · have hf := xif_t hf e12
      refine lv_bipush (v := (-3)) hx hb dX9_blameOf_55 (by decide) ?_
      refine x_cSl (As := [.int (-3 : Int32)]) (rest := []) X hP hS kc_X9_128 (c_X9_no l G  r1.2 (-3 : Int32) _ rfl) ⟨Nat.le_of_ble_eq_true rfl, Nat.le_of_ble_eq_true rfl⟩ rfl hl.1 rfl (Nat.le_of_ble_eq_true rfl) ⟨Nat.zero_le _, Nat.zero_le _⟩ dX9_blameOf_57 (fun H locs hP hS => ?_)
      refine lv_goto (tgt := 73) hx hb dX9_blameOf_60 (by decide) ?_
      exact x_lret X hr hlk hP hS  ((Prod.mk.inj (Option.some.inj hf)).1) ((Prod.mk.inj (Option.some.inj hf)).2) dX9_blameOf_73
  · have hf := xif_t hf e11
    refine lv_iload_n hx hb dX9_blameOf_36 rfl (lv_at hl 6 rfl) ?_
    refine lv_if_ne (tgt := 46) hx hb dX9_blameOf_37 (by decide) (fun e15 => ?_) (fun e15 => ?_)
    · have hf := xif_f hf e15
      refine lv_lconst (v := 1) hx hb dX9_blameOf_46 (by decide) ?_
      refine lv_goto (tgt := 73) hx hb dX9_blameOf_47 (by decide) ?_
      exact x_lret X hr hlk hP hS  ((Prod.mk.inj (Option.some.inj hf)).1) ((Prod.mk.inj (Option.some.inj hf)).2) dX9_blameOf_73
    · have hf := xif_t hf e15
      refine lv_iload hx hb dX9_blameOf_40 (lv_at hl 1 rfl) ?_
      refine lv_i2l hx hb dX9_blameOf_42 rfl ?_
      refine lv_goto (tgt := 73) hx hb dX9_blameOf_43 (by decide) ?_
      exact x_lret X hr hlk hP hS  ((Prod.mk.inj (Option.some.inj hf)).1) ((Prod.mk.inj (Option.some.inj hf)).2) dX9_blameOf_73
def f_X9_blame (n : Nat) (S : xS) (a1 : Int32) (a2 : Int32) (a3 : Int32) : Option (Int64 × xS) :=
  (if (f_X9_in a1 (0 : Int32) (2 : Int32)) = 0 then some (f_X9_no (-2 : Int32), S) else (if (f_X9_in a2 (0 : Int32) (1 : Int32)) = 0 then some (f_X9_no (-2 : Int32), S) else (if (f_X9_in a3 (0 : Int32) (1 : Int32)) = 0 then some (f_X9_no (-2 : Int32), S) else (f_X9_blameOf n S a1 a2 a3).bind fun r4 => (some (r4.1, r4.2)))))
set_option maxHeartbeats 4000000 in
set_option maxRecDepth 100000 in
theorem c_X9_blame (l : Launch) (G : xG) (n : Nat)  (S : xS) (a1 : Int32) (a2 : Int32) (a3 : Int32) (r : Int64) (S' : xS) (hf : f_X9_blame n S a1 a2 a3 = some (r, S')) : xMl l G yX9_blame cX9_blame 4 (some .long) 5 118 [.ref (G.2.2 34), .int a1, .int a2, .int a3] S r S' := by
  refine xMl_of (own := RX9) (by decide +kernel) rfl (Nat.le_of_ble_eq_true rfl) ?_
  intro p e s m args below meth c X hr hlk H locs ls hP hS hl
  have hl : lv_has ls 4 [(0, .ref (G.2.2 34)), (1, .int a1), (2, .int a2), (3, .int a3)] := hl
  obtain ⟨hx, hb, hml, hown, hts, hE⟩ := id X
  unfold f_X9_blame at hf
  refine lv_iload_n hx hb dX9_blame_0 rfl (lv_at hl 1 rfl) ?_
  refine lv_iconst (v := 0) hx hb dX9_blame_1 (by decide) ?_
  refine lv_iconst (v := 2) hx hb dX9_blame_2 (by decide) ?_
  refine x_cSi (As := [.int a1, .int (0 : Int32), .int (2 : Int32)]) (rest := []) X hP hS kc_X9_68 (c_X9_in l G  S a1 (0 : Int32) (2 : Int32) _ rfl) ⟨Nat.le_of_ble_eq_true rfl, Nat.le_of_ble_eq_true rfl⟩ rfl hl.1 rfl (Nat.le_of_ble_eq_true rfl) ⟨Nat.zero_le _, Nat.zero_le _⟩ dX9_blame_3 (fun H locs hP hS => ?_)
  refine lv_if_eq (tgt := 37) hx hb dX9_blame_6 (by decide) (fun e1 => ?_) (fun e1 => ?_)
  · have hf := xif_t hf e1
    refine lv_bipush (v := (-2)) hx hb dX9_blame_37 (by decide) ?_
    refine x_cSl (As := [.int (-2 : Int32)]) (rest := []) X hP hS kc_X9_128 (c_X9_no l G  S (-2 : Int32) _ rfl) ⟨Nat.le_of_ble_eq_true rfl, Nat.le_of_ble_eq_true rfl⟩ rfl hl.1 rfl (Nat.le_of_ble_eq_true rfl) ⟨Nat.zero_le _, Nat.zero_le _⟩ dX9_blame_39 (fun H locs hP hS => ?_)
    exact x_lret X hr hlk hP hS  ((Prod.mk.inj (Option.some.inj hf)).1) ((Prod.mk.inj (Option.some.inj hf)).2) dX9_blame_42
  · have hf := xif_f hf e1
    refine lv_iload_n hx hb dX9_blame_9 rfl (lv_at hl 2 rfl) ?_
    refine lv_iconst (v := 0) hx hb dX9_blame_10 (by decide) ?_
    refine lv_iconst (v := 1) hx hb dX9_blame_11 (by decide) ?_
    refine x_cSi (As := [.int a2, .int (0 : Int32), .int (1 : Int32)]) (rest := []) X hP hS kc_X9_68 (c_X9_in l G  S a2 (0 : Int32) (1 : Int32) _ rfl) ⟨Nat.le_of_ble_eq_true rfl, Nat.le_of_ble_eq_true rfl⟩ rfl hl.1 rfl (Nat.le_of_ble_eq_true rfl) ⟨Nat.zero_le _, Nat.zero_le _⟩ dX9_blame_12 (fun H locs hP hS => ?_)
    refine lv_if_eq (tgt := 37) hx hb dX9_blame_15 (by decide) (fun e2 => ?_) (fun e2 => ?_)
    · have hf := xif_t hf e2
      refine lv_bipush (v := (-2)) hx hb dX9_blame_37 (by decide) ?_
      refine x_cSl (As := [.int (-2 : Int32)]) (rest := []) X hP hS kc_X9_128 (c_X9_no l G  S (-2 : Int32) _ rfl) ⟨Nat.le_of_ble_eq_true rfl, Nat.le_of_ble_eq_true rfl⟩ rfl hl.1 rfl (Nat.le_of_ble_eq_true rfl) ⟨Nat.zero_le _, Nat.zero_le _⟩ dX9_blame_39 (fun H locs hP hS => ?_)
      exact x_lret X hr hlk hP hS  ((Prod.mk.inj (Option.some.inj hf)).1) ((Prod.mk.inj (Option.some.inj hf)).2) dX9_blame_42
    · have hf := xif_f hf e2
      refine lv_iload_n hx hb dX9_blame_18 rfl (lv_at hl 3 rfl) ?_
      refine lv_iconst (v := 0) hx hb dX9_blame_19 (by decide) ?_
      refine lv_iconst (v := 1) hx hb dX9_blame_20 (by decide) ?_
      refine x_cSi (As := [.int a3, .int (0 : Int32), .int (1 : Int32)]) (rest := []) X hP hS kc_X9_68 (c_X9_in l G  S a3 (0 : Int32) (1 : Int32) _ rfl) ⟨Nat.le_of_ble_eq_true rfl, Nat.le_of_ble_eq_true rfl⟩ rfl hl.1 rfl (Nat.le_of_ble_eq_true rfl) ⟨Nat.zero_le _, Nat.zero_le _⟩ dX9_blame_21 (fun H locs hP hS => ?_)
      refine lv_if_eq (tgt := 37) hx hb dX9_blame_24 (by decide) (fun e3 => ?_) (fun e3 => ?_)
      · have hf := xif_t hf e3
        refine lv_bipush (v := (-2)) hx hb dX9_blame_37 (by decide) ?_
        refine x_cSl (As := [.int (-2 : Int32)]) (rest := []) X hP hS kc_X9_128 (c_X9_no l G  S (-2 : Int32) _ rfl) ⟨Nat.le_of_ble_eq_true rfl, Nat.le_of_ble_eq_true rfl⟩ rfl hl.1 rfl (Nat.le_of_ble_eq_true rfl) ⟨Nat.zero_le _, Nat.zero_le _⟩ dX9_blame_39 (fun H locs hP hS => ?_)
        exact x_lret X hr hlk hP hS  ((Prod.mk.inj (Option.some.inj hf)).1) ((Prod.mk.inj (Option.some.inj hf)).2) dX9_blame_42
      · have hf := xif_f hf e3
        refine lv_aload_n hx hb dX9_blame_27 rfl (lv_at hl 0 rfl) ?_
        refine lv_iload_n hx hb dX9_blame_28 rfl (lv_at hl 1 rfl) ?_
        refine lv_iload_n hx hb dX9_blame_29 rfl (lv_at hl 2 rfl) ?_
        refine lv_iload_n hx hb dX9_blame_30 rfl (lv_at hl 3 rfl) ?_
        obtain ⟨r4, h5, hf⟩ := xb_some hf
        refine x_cVl (As := [.int a1, .int a2, .int a3]) (rest := []) X hP hS kc_X9_136 (c_X9_blameOf l G n S a1 a2 a3 r4.1 r4.2 h5) ⟨Nat.le_of_ble_eq_true rfl, Nat.le_of_ble_eq_true rfl⟩ (by decide) rfl rfl rfl hl.1 rfl (Nat.le_of_ble_eq_true rfl) ⟨Nat.zero_le _, Nat.zero_le _⟩ dX9_blame_31 (fun H locs hP hS => ?_)
        refine lv_goto (tgt := 42) hx hb dX9_blame_34 (by decide) ?_
        exact x_lret X hr hlk hP hS  ((Prod.mk.inj (Option.some.inj hf)).1) ((Prod.mk.inj (Option.some.inj hf)).2) dX9_blame_42
def f_X8_isHeight (a0 : Int32) : Int32 :=
  (if a0 = (-1 : Int32) then (1 : Int32) else (if (f_X8_within a0 (1 : Int32) (99999 : Int32)) = 0 then (0 : Int32) else (1 : Int32)))
theorem fb_X8_isHeight (a0 : Int32) : f_X8_isHeight a0 = 0 ∨ f_X8_isHeight a0 = 1 := by
  unfold f_X8_isHeight
  repeat' first | exact Or.inl rfl | exact Or.inr rfl | split
set_option maxHeartbeats 4000000 in
set_option maxRecDepth 100000 in
theorem c_X8_isHeight (l : Launch) (G : xG)  (S : xS) (a0 : Int32) (r : Int32) (hf : f_X8_isHeight a0 = r) : xMi l G yX8_isHeight cX8_isHeight 1 (some .boolean) 1 22 [.int a0] S r S := by
  refine xMi_of (own := RX8) (by decide +kernel) rfl (Nat.le_of_ble_eq_true rfl) ?_
  intro p e s m args below meth c X hr hlk H locs ls hP hS hl
  have hl : lv_has ls 1 [(0, .int a0)] := hl
  obtain ⟨hx, hb, hml, hown, hts, hE⟩ := id X
  unfold f_X8_isHeight at hf
  refine lv_iload_n hx hb dX8_isHeight_0 rfl (lv_at hl 0 rfl) ?_
  refine lv_iconst (v := (-1)) hx hb dX8_isHeight_1 (by decide) ?_
  refine lv_icmp_eq (tgt := 15) hx hb dX8_isHeight_2 (by decide) (fun e1 => ?_) (fun e1 => ?_)
  · have hf := xif_t hf e1
    refine lv_iconst (v := 1) hx hb dX8_isHeight_15 (by decide) ?_
    refine lv_goto (tgt := 20) hx hb dX8_isHeight_16 (by decide) ?_
    exact x_zret X hr hlk hP hS (Or.inr rfl) (hf) (rfl) dX8_isHeight_20
  · have hf := xif_f hf e1
    refine lv_iload_n hx hb dX8_isHeight_5 rfl (lv_at hl 0 rfl) ?_
    refine lv_iconst (v := 1) hx hb dX8_isHeight_6 (by decide) ?_
    refine lv_ldc hx hb hown (hts _ kw_295) dX8_isHeight_7 ?_
    refine x_cSi (As := [.int a0, .int (1 : Int32), .int (99999 : Int32)]) (rest := []) X hP hS kc_X8_79 (c_X8_within l G  S a0 (1 : Int32) (99999 : Int32) _ rfl) ⟨Nat.le_of_ble_eq_true rfl, Nat.le_of_ble_eq_true rfl⟩ rfl hl.1 rfl (Nat.le_of_ble_eq_true rfl) ⟨Nat.zero_le _, Nat.zero_le _⟩ dX8_isHeight_9 (fun H locs hP hS => ?_)
    refine lv_if_eq (tgt := 19) hx hb dX8_isHeight_12 (by decide) (fun e2 => ?_) (fun e2 => ?_)
    · have hf := xif_t hf e2
      refine lv_iconst (v := 0) hx hb dX8_isHeight_19 (by decide) ?_
      exact x_zret X hr hlk hP hS (Or.inl rfl) (hf) (rfl) dX8_isHeight_20
    · have hf := xif_f hf e2
      refine lv_iconst (v := 1) hx hb dX8_isHeight_15 (by decide) ?_
      refine lv_goto (tgt := 20) hx hb dX8_isHeight_16 (by decide) ?_
      exact x_zret X hr hlk hP hS (Or.inr rfl) (hf) (rfl) dX8_isHeight_20
def f_X8_found (n : Nat) (S : xS) (a1 : Int32) (a2 : Int32) : Option (Int32 × xS) :=
  (if (f_X8_isSpot a1) = 0 then some ((-5 : Int32), S) else (if (f_X8_isHeight a2) = 0 then some ((-5 : Int32), S) else xg (xin a1 10) (xg (xin a1 10) (some (S.1 16 a1.toNatClampNeg, xst S 16 a1.toNatClampNeg a2)))))
set_option maxHeartbeats 4000000 in
set_option maxRecDepth 100000 in
theorem c_X8_found (l : Launch) (G : xG) (n : Nat)  (S : xS) (a1 : Int32) (a2 : Int32) (r : Int32) (S' : xS) (hf : f_X8_found n S a1 a2 = some (r, S')) : xMi l G yX8_found cX8_found 4 (some .int) 2 42 [.ref (G.2.2 0), .int a1, .int a2] S r S' := by
  refine xMi_of (own := RX8) (by decide +kernel) rfl (Nat.le_of_ble_eq_true rfl) ?_
  intro p e s m args below meth c X hr hlk H locs ls hP hS hl
  have hl : lv_has ls 4 [(0, .ref (G.2.2 0)), (1, .int a1), (2, .int a2)] := hl
  obtain ⟨hx, hb, hml, hown, hts, hE⟩ := id X
  unfold f_X8_found at hf
  refine lv_iload_n hx hb dX8_found_0 rfl (lv_at hl 1 rfl) ?_
  refine x_cSi (As := [.int a1]) (rest := []) X hP hS kc_X8_131 (c_X8_isSpot l G  S a1 _ rfl) ⟨Nat.le_of_ble_eq_true rfl, Nat.le_of_ble_eq_true rfl⟩ rfl hl.1 rfl (Nat.le_of_ble_eq_true rfl) ⟨Nat.zero_le _, Nat.zero_le _⟩ dX8_found_1 (fun H locs hP hS => ?_)
  refine lv_if_eq (tgt := 14) hx hb dX8_found_4 (by decide) (fun e1 => ?_) (fun e1 => ?_)
  · have hf := xif_t hf e1
    refine lv_bipush (v := (-5)) hx hb dX8_found_14 (by decide) ?_
    exact x_iret X hr hlk hP hS  ((Prod.mk.inj (Option.some.inj hf)).1) ((Prod.mk.inj (Option.some.inj hf)).2) dX8_found_16
  · have hf := xif_f hf e1
    refine lv_iload_n hx hb dX8_found_7 rfl (lv_at hl 2 rfl) ?_
    refine x_cSi (As := [.int a2]) (rest := []) X hP hS kc_X8_178 (c_X8_isHeight l G  S a2 _ rfl) ⟨Nat.le_of_ble_eq_true rfl, Nat.le_of_ble_eq_true rfl⟩ rfl hl.1 rfl (Nat.le_of_ble_eq_true rfl) ⟨Nat.zero_le _, Nat.zero_le _⟩ dX8_found_8 (fun H locs hP hS => ?_)
    refine lv_if_ne (tgt := 17) hx hb dX8_found_11 (by decide) (fun e2 => ?_) (fun e2 => ?_)
    · have hf := xif_f hf e2
      refine lv_aload_n hx hb dX8_found_17 rfl (lv_at hl 0 rfl) ?_
      refine x_getR X hP fl_X8_41 (by decide) rfl rfl dX8_found_18 ?_
      refine x_getRN X hP fn_X8_121 (by decide) rfl rfl dX8_found_21 ?_
      refine lv_iload_n hx hb dX8_found_24 rfl (lv_at hl 1 rfl) ?_
      obtain ⟨g3, hf⟩ := xg_some hf
      refine x_iald X hP (by decide) rfl g3 dX8_found_25 ?_
      refine lv_istore_n (lv' := [(3, .int (S.1 16 a1.toNatClampNeg)), (0, .ref (G.2.2 0)), (1, .int a1), (2, .int a2)]) hx hb dX8_found_26 rfl hl (by decide) rfl (fun ls hl => ?_)
      refine lv_aload_n hx hb dX8_found_27 rfl (lv_at hl 1 rfl) ?_
      refine x_getR X hP fl_X8_41 (by decide) rfl rfl dX8_found_28 ?_
      refine x_getRN X hP fn_X8_121 (by decide) rfl rfl dX8_found_31 ?_
      refine lv_iload_n hx hb dX8_found_34 rfl (lv_at hl 2 rfl) ?_
      refine lv_iload_n hx hb dX8_found_35 rfl (lv_at hl 3 rfl) ?_
      obtain ⟨g4, hf⟩ := xg_some hf
      refine x_iast X hP hS (by decide) rfl g4 dX8_found_36 (fun H locs hP hS => ?_)
      refine lv_iload_n hx hb dX8_found_37 rfl (lv_at hl 0 rfl) ?_
      exact x_iret X hr hlk hP hS  ((Prod.mk.inj (Option.some.inj hf)).1) ((Prod.mk.inj (Option.some.inj hf)).2) dX8_found_38
    · have hf := xif_t hf e2
      refine lv_bipush (v := (-5)) hx hb dX8_found_14 (by decide) ?_
      exact x_iret X hr hlk hP hS  ((Prod.mk.inj (Option.some.inj hf)).1) ((Prod.mk.inj (Option.some.inj hf)).2) dX8_found_16
def f_X9_isFound (a0 : Int32) : Int32 :=
  (if a0 = (-1 : Int32) then (1 : Int32) else (if (f_X9_in a0 (1 : Int32) (99999 : Int32)) = 0 then (0 : Int32) else (1 : Int32)))
theorem fb_X9_isFound (a0 : Int32) : f_X9_isFound a0 = 0 ∨ f_X9_isFound a0 = 1 := by
  unfold f_X9_isFound
  repeat' first | exact Or.inl rfl | exact Or.inr rfl | split
set_option maxHeartbeats 4000000 in
set_option maxRecDepth 100000 in
theorem c_X9_isFound (l : Launch) (G : xG)  (S : xS) (a0 : Int32) (r : Int32) (hf : f_X9_isFound a0 = r) : xMi l G yX9_isFound cX9_isFound 1 (some .boolean) 1 22 [.int a0] S r S := by
  refine xMi_of (own := RX9) (by decide +kernel) rfl (Nat.le_of_ble_eq_true rfl) ?_
  intro p e s m args below meth c X hr hlk H locs ls hP hS hl
  have hl : lv_has ls 1 [(0, .int a0)] := hl
  obtain ⟨hx, hb, hml, hown, hts, hE⟩ := id X
  unfold f_X9_isFound at hf
  refine lv_iload_n hx hb dX9_isFound_0 rfl (lv_at hl 0 rfl) ?_
  refine lv_iconst (v := (-1)) hx hb dX9_isFound_1 (by decide) ?_
  refine lv_icmp_eq (tgt := 15) hx hb dX9_isFound_2 (by decide) (fun e1 => ?_) (fun e1 => ?_)
  · have hf := xif_t hf e1
    refine lv_iconst (v := 1) hx hb dX9_isFound_15 (by decide) ?_
    refine lv_goto (tgt := 20) hx hb dX9_isFound_16 (by decide) ?_
    exact x_zret X hr hlk hP hS (Or.inr rfl) (hf) (rfl) dX9_isFound_20
  · have hf := xif_f hf e1
    refine lv_iload_n hx hb dX9_isFound_5 rfl (lv_at hl 0 rfl) ?_
    refine lv_iconst (v := 1) hx hb dX9_isFound_6 (by decide) ?_
    refine lv_ldc hx hb hown (hts _ kw_301) dX9_isFound_7 ?_
    refine x_cSi (As := [.int a0, .int (1 : Int32), .int (99999 : Int32)]) (rest := []) X hP hS kc_X9_68 (c_X9_in l G  S a0 (1 : Int32) (99999 : Int32) _ rfl) ⟨Nat.le_of_ble_eq_true rfl, Nat.le_of_ble_eq_true rfl⟩ rfl hl.1 rfl (Nat.le_of_ble_eq_true rfl) ⟨Nat.zero_le _, Nat.zero_le _⟩ dX9_isFound_9 (fun H locs hP hS => ?_)
    refine lv_if_eq (tgt := 19) hx hb dX9_isFound_12 (by decide) (fun e2 => ?_) (fun e2 => ?_)
    · have hf := xif_t hf e2
      refine lv_iconst (v := 0) hx hb dX9_isFound_19 (by decide) ?_
      exact x_zret X hr hlk hP hS (Or.inl rfl) (hf) (rfl) dX9_isFound_20
    · have hf := xif_f hf e2
      refine lv_iconst (v := 1) hx hb dX9_isFound_15 (by decide) ?_
      refine lv_goto (tgt := 20) hx hb dX9_isFound_16 (by decide) ?_
      exact x_zret X hr hlk hP hS (Or.inr rfl) (hf) (rfl) dX9_isFound_20
def f_X9_found (n : Nat) (S : xS) (a1 : Int32) (a2 : Int32) : Option (Int32 × xS) :=
  (if (f_X9_in a1 (0 : Int32) (9 : Int32)) = 0 then some ((-5 : Int32), S) else (if (f_X9_isFound a2) = 0 then some ((-5 : Int32), S) else xg (xin a1 10) (xg (xin a1 10) (some (S.1 42 a1.toNatClampNeg, xst S 42 a1.toNatClampNeg a2)))))
set_option maxHeartbeats 4000000 in
set_option maxRecDepth 100000 in
theorem c_X9_found (l : Launch) (G : xG) (n : Nat)  (S : xS) (a1 : Int32) (a2 : Int32) (r : Int32) (S' : xS) (hf : f_X9_found n S a1 a2 = some (r, S')) : xMi l G yX9_found cX9_found 4 (some .int) 2 42 [.ref (G.2.2 34), .int a1, .int a2] S r S' := by
  refine xMi_of (own := RX9) (by decide +kernel) rfl (Nat.le_of_ble_eq_true rfl) ?_
  intro p e s m args below meth c X hr hlk H locs ls hP hS hl
  have hl : lv_has ls 4 [(0, .ref (G.2.2 34)), (1, .int a1), (2, .int a2)] := hl
  obtain ⟨hx, hb, hml, hown, hts, hE⟩ := id X
  unfold f_X9_found at hf
  refine lv_iload_n hx hb dX9_found_0 rfl (lv_at hl 1 rfl) ?_
  refine lv_iconst (v := 0) hx hb dX9_found_1 (by decide) ?_
  refine lv_bipush (v := 9) hx hb dX9_found_2 (by decide) ?_
  refine x_cSi (As := [.int a1, .int (0 : Int32), .int (9 : Int32)]) (rest := []) X hP hS kc_X9_68 (c_X9_in l G  S a1 (0 : Int32) (9 : Int32) _ rfl) ⟨Nat.le_of_ble_eq_true rfl, Nat.le_of_ble_eq_true rfl⟩ rfl hl.1 rfl (Nat.le_of_ble_eq_true rfl) ⟨Nat.zero_le _, Nat.zero_le _⟩ dX9_found_4 (fun H locs hP hS => ?_)
  refine lv_if_eq (tgt := 17) hx hb dX9_found_7 (by decide) (fun e1 => ?_) (fun e1 => ?_)
  · have hf := xif_t hf e1
    refine lv_bipush (v := (-5)) hx hb dX9_found_17 (by decide) ?_
    exact x_iret X hr hlk hP hS  ((Prod.mk.inj (Option.some.inj hf)).1) ((Prod.mk.inj (Option.some.inj hf)).2) dX9_found_19
  · have hf := xif_f hf e1
    refine lv_iload_n hx hb dX9_found_10 rfl (lv_at hl 2 rfl) ?_
    refine x_cSi (As := [.int a2]) (rest := []) X hP hS kc_X9_140 (c_X9_isFound l G  S a2 _ rfl) ⟨Nat.le_of_ble_eq_true rfl, Nat.le_of_ble_eq_true rfl⟩ rfl hl.1 rfl (Nat.le_of_ble_eq_true rfl) ⟨Nat.zero_le _, Nat.zero_le _⟩ dX9_found_11 (fun H locs hP hS => ?_)
    refine lv_if_ne (tgt := 20) hx hb dX9_found_14 (by decide) (fun e2 => ?_) (fun e2 => ?_)
    · have hf := xif_f hf e2
      refine lv_aload_n hx hb dX9_found_20 rfl (lv_at hl 0 rfl) ?_
      refine x_getR X hP fl_X9_31 (by decide) rfl rfl dX9_found_21 ?_
      refine lv_iload_n hx hb dX9_found_24 rfl (lv_at hl 1 rfl) ?_
      obtain ⟨g3, hf⟩ := xg_some hf
      refine x_iald X hP (by decide) rfl g3 dX9_found_25 ?_
      refine lv_istore_n (lv' := [(3, .int (S.1 42 a1.toNatClampNeg)), (0, .ref (G.2.2 34)), (1, .int a1), (2, .int a2)]) hx hb dX9_found_26 rfl hl (by decide) rfl (fun ls hl => ?_)
      refine lv_aload_n hx hb dX9_found_27 rfl (lv_at hl 1 rfl) ?_
      refine x_getR X hP fl_X9_31 (by decide) rfl rfl dX9_found_28 ?_
      refine lv_iload_n hx hb dX9_found_31 rfl (lv_at hl 2 rfl) ?_
      refine lv_iload_n hx hb dX9_found_32 rfl (lv_at hl 3 rfl) ?_
      obtain ⟨g4, hf⟩ := xg_some hf
      refine x_iast X hP hS (by decide) rfl g4 dX9_found_33 (fun H locs hP hS => ?_)
      refine lv_iload_n hx hb dX9_found_34 rfl (lv_at hl 0 rfl) ?_
      exact x_iret X hr hlk hP hS  ((Prod.mk.inj (Option.some.inj hf)).1) ((Prod.mk.inj (Option.some.inj hf)).2) dX9_found_35
    · have hf := xif_t hf e2
      refine lv_bipush (v := (-5)) hx hb dX9_found_17 (by decide) ?_
      exact x_iret X hr hlk hP hS  ((Prod.mk.inj (Option.some.inj hf)).1) ((Prod.mk.inj (Option.some.inj hf)).2) dX9_found_19
