def f_X8_offAfter (n : Nat) (S : xS) (a1 : Int32) (a2 : Int32) : Option Int32 :=
  (f_X7_off n S (S.1 4 3)).bind fun r1 => ((f_X2_toParts n S a1 (a2 / (3 : Int32)) (a2 - a2 / (3 : Int32) * (3 : Int32))).bind fun r3 => (some (xabs ((r1 + r3) - a1))))
set_option maxHeartbeats 4000000 in
set_option maxRecDepth 100000 in
theorem c_X8_offAfter (l : Launch) (G : xG) (n : Nat)  (S : xS) (a1 : Int32) (a2 : Int32) (r : Int32) (hf : f_X8_offAfter n S a1 a2 = some r) : xMi l G yX8_offAfter cX8_offAfter 3 (some .int) 1 27 [.ref (G.2.2 0), .int a1, .int a2] S r S := by
  refine xMi_of (own := RX8) (by decide +kernel) rfl (Nat.le_of_ble_eq_true rfl) ?_
  intro p e s m args below meth c X hr hlk H locs ls hP hS hl
  have hl : lv_has ls 3 [(0, .ref (G.2.2 0)), (1, .int a1), (2, .int a2)] := hl
  obtain ⟨hx, hb, hml, hown, hts, hE⟩ := id X
  unfold f_X8_offAfter at hf
  refine lv_aload_n hx hb dX8_offAfter_0 rfl (lv_at hl 0 rfl) ?_
  refine x_getR X hP fl_X8_32 (by decide) rfl rfl dX8_offAfter_1 ?_
  refine lv_aload_n hx hb dX8_offAfter_4 rfl (lv_at hl 0 rfl) ?_
  refine x_getR X hP fl_X8_23 (by decide) rfl rfl dX8_offAfter_5 ?_
  refine x_getIN X hP fn_X8_152 (by decide) rfl rfl dX8_offAfter_8 ?_
  obtain ⟨r1, h2, hf⟩ := xb_some hf
  refine x_cVi (As := [.int (S.1 4 3)]) (rest := []) X hP hS kc_X8_149 (c_X7_off l G n S (S.1 4 3) _ h2) ⟨Nat.le_of_ble_eq_true rfl, Nat.le_of_ble_eq_true rfl⟩ (by decide) rfl rfl rfl hl.1 rfl (Nat.le_of_ble_eq_true rfl) ⟨Nat.zero_le _, Nat.zero_le _⟩ dX8_offAfter_11 (fun H locs hP hS => ?_)
  refine lv_aload_n hx hb dX8_offAfter_14 rfl (lv_at hl 0 rfl) ?_
  refine x_getR X hP fl_X8_16 (by decide) rfl rfl dX8_offAfter_15 ?_
  refine lv_iload_n hx hb dX8_offAfter_18 rfl (lv_at hl 1 rfl) ?_
  refine lv_iload_n hx hb dX8_offAfter_19 rfl (lv_at hl 2 rfl) ?_
  refine lv_iconst (v := 3) hx hb dX8_offAfter_20 (by decide) ?_
  refine lv_idiv hx hb dX8_offAfter_21 (by decide) ?_
  refine lv_iload_n hx hb dX8_offAfter_22 rfl (lv_at hl 2 rfl) ?_
  refine lv_iconst (v := 3) hx hb dX8_offAfter_23 (by decide) ?_
  refine lv_irem hx hb dX8_offAfter_24 (by decide) ?_
  obtain ⟨r3, h4, hf⟩ := xb_some hf
  refine x_cVi (As := [.int a1, .int (a2 / (3 : Int32)), .int (a2 - a2 / (3 : Int32) * (3 : Int32))]) (rest := [.int r1]) X hP hS kc_X8_128 (c_X2_toParts l G n S a1 (a2 / (3 : Int32)) (a2 - a2 / (3 : Int32) * (3 : Int32)) _ h4) ⟨Nat.le_of_ble_eq_true rfl, Nat.le_of_ble_eq_true rfl⟩ (by decide) rfl rfl rfl hl.1 rfl (Nat.le_of_ble_eq_true rfl) ⟨Nat.zero_le _, Nat.zero_le _⟩ dX8_offAfter_25 (fun H locs hP hS => ?_)
  refine lv_iadd hx hb dX8_offAfter_28 ?_
  refine lv_iload_n hx hb dX8_offAfter_29 rfl (lv_at hl 1 rfl) ?_
  refine lv_isub hx hb dX8_offAfter_30 ?_
  refine x_mabs X kw_347 hl.1 ⟨Nat.le_of_ble_eq_true rfl, Nat.le_of_ble_eq_true rfl⟩ ⟨Nat.zero_le _, Nat.zero_le _⟩ dX8_offAfter_31 ?_
  exact x_iret X hr hlk hP hS  (Option.some.inj hf) (rfl) dX8_offAfter_34
def b_X8_next_28 (n : Nat) (k28 : Int32 → Int32 → Int32 → Int32 → Option Int32) (S : xS) (a1 : Int32) (a2 : Int32) (a3 : Int32) (a4 : Int32) : Option Int32 :=
  (if (9 : Int32) ≤ a4 then (if a2 = 0 then some a3 else (f_X8_offAfter n S a1 a3).bind fun r5 => (some r5)) else (f_X8_offAfter n S a1 a4).bind fun r7 => ((f_X8_offAfter n S a1 a3).bind fun r9 => ((if r9 ≤ r7 then k28 a1 a2 a3 (a4 + 1) else k28 a1 a2 a4 (a4 + 1)))))
def l_X8_next_28 (n : Nat) (S : xS) : Nat → Int32 → Int32 → Int32 → Int32 → Option Int32
  | 0, _, _, _, _ => none
  | j + 1, a1, a2, a3, a4 => b_X8_next_28 n (l_X8_next_28 n S j) S a1 a2 a3 a4
set_option maxHeartbeats 4000000 in
set_option maxRecDepth 100000 in
theorem t_X8_next_28 {p : Program} {l : Launch} {e : Env} {s : State} {m : MethodId} {args : Array Value} {below : List Frame} {meth : Method} {c : Code} {G : xG} (X : xC p s m args c G RX8 cX8_next 5) (hr : meth.sig.returnType = (some .int)) (hlk : meth.locks = false) {n : Nat} {r : Int32} {S : xS} : ∀ (j : Nat) (a1 : Int32) (a2 : Int32) (a3 : Int32) (a4 : Int32), l_X8_next_28 n S j a1 a2 a3 a4 = some r → xGo p l e { frames := 2, cells := 0, slots := 0, locals := 49 } s m args below meth c G 5 0 0 (MQ below (xQi G r S) args s 0 0 (xA G)) S 28 [(0, .ref (G.2.2 0)), (1, .int a1), (2, .int a2), (3, .int a3), (4, .int a4)] [] := by
  intro j
  induction j with
  | zero => intro a1 a2 a3 a4 hf; exact nomatch (show (none : Option Int32) = _ from hf)
  | succ j ih =>
    intro a1 a2 a3 a4 hf H locs ls hP hS hl
    have hf : b_X8_next_28 n (l_X8_next_28 n S j) S a1 a2 a3 a4 = some r := hf
    unfold b_X8_next_28 at hf
    obtain ⟨hx, hb, hml, hown, hts, hE⟩ := id X
    refine lv_iload hx hb dX8_next_28 (lv_at hl 4 rfl) ?_
    refine lv_bipush (v := 9) hx hb dX8_next_30 (by decide) ?_
    refine lv_icmp_ge (tgt := 60) hx hb dX8_next_32 (by decide) (fun e3 => ?_) (fun e3 => ?_)
    · have hf := xif_t hf e3
      refine lv_iload_n hx hb dX8_next_60 rfl (lv_at hl 2 rfl) ?_
      refine lv_if_ne (tgt := 68) hx hb dX8_next_61 (by decide) (fun e4 => ?_) (fun e4 => ?_)
      · have hf := xif_f hf e4
        refine lv_aload_n hx hb dX8_next_68 rfl (lv_at hl 0 rfl) ?_
        refine lv_iload_n hx hb dX8_next_69 rfl (lv_at hl 1 rfl) ?_
        refine lv_iload_n hx hb dX8_next_70 rfl (lv_at hl 3 rfl) ?_
        obtain ⟨r5, h6, hf⟩ := xb_some hf
        refine x_cVi (As := [.int a1, .int a3]) (rest := []) X hP hS kc_X8_225 (c_X8_offAfter l G n S a1 a3 _ h6) ⟨Nat.le_of_ble_eq_true rfl, Nat.le_of_ble_eq_true rfl⟩ (by decide) rfl rfl rfl hl.1 rfl (Nat.le_of_ble_eq_true rfl) ⟨Nat.zero_le _, Nat.zero_le _⟩ dX8_next_71 (fun H locs hP hS => ?_)
        exact x_iret X hr hlk hP hS  (Option.some.inj hf) (rfl) dX8_next_74
      · have hf := xif_t hf e4
        refine lv_iload_n hx hb dX8_next_64 rfl (lv_at hl 3 rfl) ?_
        refine lv_goto (tgt := 74) hx hb dX8_next_65 (by decide) ?_
        exact x_iret X hr hlk hP hS  (Option.some.inj hf) (rfl) dX8_next_74
    · have hf := xif_f hf e3
      refine lv_aload_n hx hb dX8_next_35 rfl (lv_at hl 0 rfl) ?_
      refine lv_iload_n hx hb dX8_next_36 rfl (lv_at hl 1 rfl) ?_
      refine lv_iload hx hb dX8_next_37 (lv_at hl 4 rfl) ?_
      obtain ⟨r7, h8, hf⟩ := xb_some hf
      refine x_cVi (As := [.int a1, .int a4]) (rest := []) X hP hS kc_X8_225 (c_X8_offAfter l G n S a1 a4 _ h8) ⟨Nat.le_of_ble_eq_true rfl, Nat.le_of_ble_eq_true rfl⟩ (by decide) rfl rfl rfl hl.1 rfl (Nat.le_of_ble_eq_true rfl) ⟨Nat.zero_le _, Nat.zero_le _⟩ dX8_next_39 (fun H locs hP hS => ?_)
      refine lv_aload_n hx hb dX8_next_42 rfl (lv_at hl 0 rfl) ?_
      refine lv_iload_n hx hb dX8_next_43 rfl (lv_at hl 1 rfl) ?_
      refine lv_iload_n hx hb dX8_next_44 rfl (lv_at hl 3 rfl) ?_
      obtain ⟨r9, h10, hf⟩ := xb_some hf
      refine x_cVi (As := [.int a1, .int a3]) (rest := [.int r7]) X hP hS kc_X8_225 (c_X8_offAfter l G n S a1 a3 _ h10) ⟨Nat.le_of_ble_eq_true rfl, Nat.le_of_ble_eq_true rfl⟩ (by decide) rfl rfl rfl hl.1 rfl (Nat.le_of_ble_eq_true rfl) ⟨Nat.zero_le _, Nat.zero_le _⟩ dX8_next_45 (fun H locs hP hS => ?_)
      refine lv_icmp_ge (tgt := 54) hx hb dX8_next_48 (by decide) (fun e11 => ?_) (fun e11 => ?_)
      · have hf := xif_t hf e11
        refine lv_iinc (v := a4 + 1) (lv' := [(4, .int (a4 + 1)), (0, .ref (G.2.2 0)), (1, .int a1), (2, .int a2), (3, .int a3)]) hx hb dX8_next_54 hl (k := 4) rfl rfl (by decide) rfl (fun ls hl => ?_)
        refine lv_goto (tgt := 28) hx hb dX8_next_57 (by decide) ?_
        exact ih a1 a2 a3 (a4 + 1) hf H locs ls hP hS (lv_sub hl [1, 2, 3, 4, 0] rfl)
      · have hf := xif_f hf e11
        refine lv_iload hx hb dX8_next_51 (lv_at hl 4 rfl) ?_
        refine lv_istore_n (lv' := [(3, .int a4), (0, .ref (G.2.2 0)), (1, .int a1), (2, .int a2), (4, .int a4)]) hx hb dX8_next_53 rfl hl (by decide) rfl (fun ls hl => ?_)
        refine lv_iinc (v := a4 + 1) (lv' := [(4, .int (a4 + 1)), (3, .int a4), (0, .ref (G.2.2 0)), (1, .int a1), (2, .int a2)]) hx hb dX8_next_54 hl (k := 4) rfl rfl (by decide) rfl (fun ls hl => ?_)
        refine lv_goto (tgt := 28) hx hb dX8_next_57 (by decide) ?_
        exact ih a1 a2 a4 (a4 + 1) hf H locs ls hP hS (lv_sub hl [2, 3, 4, 1, 0] rfl)
def f_X8_next (n : Nat) (S : xS) (a1 : Int32) (a2 : Int32) : Option Int32 :=
  (if (f_X8_within a1 (1 : Int32) (9999 : Int32)) = 0 then some (-2 : Int32) else (if (f_X8_within a2 (0 : Int32) (1 : Int32)) = 0 then some (-2 : Int32) else l_X8_next_28 n S n a1 a2 (0 : Int32) (1 : Int32)))
set_option maxHeartbeats 4000000 in
set_option maxRecDepth 100000 in
theorem c_X8_next (l : Launch) (G : xG) (n : Nat)  (S : xS) (a1 : Int32) (a2 : Int32) (r : Int32) (hf : f_X8_next n S a1 a2 = some r) : xMi l G yX8_next cX8_next 5 (some .int) 2 49 [.ref (G.2.2 0), .int a1, .int a2] S r S := by
  refine xMi_of (own := RX8) (by decide +kernel) rfl (Nat.le_of_ble_eq_true rfl) ?_
  intro p e s m args below meth c X hr hlk H locs ls hP hS hl
  have hl : lv_has ls 5 [(0, .ref (G.2.2 0)), (1, .int a1), (2, .int a2)] := hl
  obtain ⟨hx, hb, hml, hown, hts, hE⟩ := id X
  unfold f_X8_next at hf
  refine lv_iload_n hx hb dX8_next_0 rfl (lv_at hl 1 rfl) ?_
  refine lv_iconst (v := 1) hx hb dX8_next_1 (by decide) ?_
  refine lv_sipush (v := 9999) hx hb dX8_next_2 (by decide) ?_
  refine x_cSi (As := [.int a1, .int (1 : Int32), .int (9999 : Int32)]) (rest := []) X hP hS kc_X8_79 (c_X8_within l G  S a1 (1 : Int32) (9999 : Int32) _ rfl) ⟨Nat.le_of_ble_eq_true rfl, Nat.le_of_ble_eq_true rfl⟩ rfl hl.1 rfl (Nat.le_of_ble_eq_true rfl) ⟨Nat.zero_le _, Nat.zero_le _⟩ dX8_next_5 (fun H locs hP hS => ?_)
  refine lv_if_eq (tgt := 20) hx hb dX8_next_8 (by decide) (fun e1 => ?_) (fun e1 => ?_)
  · have hf := xif_t hf e1
    refine lv_bipush (v := (-2)) hx hb dX8_next_20 (by decide) ?_
    exact x_iret X hr hlk hP hS  (Option.some.inj hf) (rfl) dX8_next_22
  · have hf := xif_f hf e1
    refine lv_iload_n hx hb dX8_next_11 rfl (lv_at hl 2 rfl) ?_
    refine lv_iconst (v := 0) hx hb dX8_next_12 (by decide) ?_
    refine lv_iconst (v := 1) hx hb dX8_next_13 (by decide) ?_
    refine x_cSi (As := [.int a2, .int (0 : Int32), .int (1 : Int32)]) (rest := []) X hP hS kc_X8_79 (c_X8_within l G  S a2 (0 : Int32) (1 : Int32) _ rfl) ⟨Nat.le_of_ble_eq_true rfl, Nat.le_of_ble_eq_true rfl⟩ rfl hl.1 rfl (Nat.le_of_ble_eq_true rfl) ⟨Nat.zero_le _, Nat.zero_le _⟩ dX8_next_14 (fun H locs hP hS => ?_)
    refine lv_if_ne (tgt := 23) hx hb dX8_next_17 (by decide) (fun e2 => ?_) (fun e2 => ?_)
    · have hf := xif_f hf e2
      refine lv_iconst (v := 0) hx hb dX8_next_23 (by decide) ?_
      refine lv_istore_n (lv' := [(3, .int (0 : Int32)), (0, .ref (G.2.2 0)), (1, .int a1), (2, .int a2)]) hx hb dX8_next_24 rfl hl (by decide) rfl (fun ls hl => ?_)
      refine lv_iconst (v := 1) hx hb dX8_next_25 (by decide) ?_
      refine lv_istore (lv' := [(4, .int (1 : Int32)), (3, .int (0 : Int32)), (0, .ref (G.2.2 0)), (1, .int a1), (2, .int a2)]) hx hb dX8_next_26 hl (by decide) rfl (fun ls hl => ?_)
      exact t_X8_next_28 X hr hlk   n a1 a2 (0 : Int32) (1 : Int32) hf H locs ls hP hS (lv_sub hl [2, 3, 4, 1, 0] rfl)
    · have hf := xif_t hf e2
      refine lv_bipush (v := (-2)) hx hb dX8_next_20 (by decide) ?_
      exact x_iret X hr hlk hP hS  (Option.some.inj hf) (rfl) dX8_next_22
def j_X9_nextOf_68 (n : Nat) (k31 : xS → Int32 → Int32 → Int32 → Int32 → Int32 → Int32 → Option (Int32 × xS)) (S : xS) (a1 : Int32) (a2 : Int32) (a3 : Int32) (a5 : Int32) (a6 : Int32) (a7 : Int32) (s0 : Int32) : Option (Int32 × xS) :=
  (if a5 ≤ a7 then k31 S a1 a2 a3 s0 a5 (a6 + 1) else k31 S a1 a2 a3 s0 a7 (a6 + 1))
set_option maxHeartbeats 4000000 in
set_option maxRecDepth 100000 in
theorem t_X9_nextOf_68 {p : Program} {l : Launch} {e : Env} {s : State} {m : MethodId} {args : Array Value} {below : List Frame} {meth : Method} {c : Code} {G : xG} (X : xC p s m args c G RX9 cX9_nextOf 8) (hr : meth.sig.returnType = (some .int)) (hlk : meth.locks = false) {n : Nat} {r : Int32} {S' : xS} {k31 : xS → Int32 → Int32 → Int32 → Int32 → Int32 → Int32 → Option (Int32 × xS)} (hk31 : ∀ (S : xS) (a1 : Int32) (a2 : Int32) (a3 : Int32) (a4 : Int32) (a5 : Int32) (a6 : Int32), k31 S a1 a2 a3 a4 a5 a6 = some (r, S') → xGo p l e { frames := 5, cells := 0, slots := 0, locals := 113 } s m args below meth c G 8 0 0 (MQ below (xQi G r S') args s 0 0 (xA G)) S 31 [(0, .ref (G.2.2 34)), (1, .int a1), (2, .int a2), (3, .int a3), (4, .int a4), (5, .int a5), (6, .int a6)] []) : ∀ (S : xS) (a1 : Int32) (a2 : Int32) (a3 : Int32) (a5 : Int32) (a6 : Int32) (a7 : Int32) (s0 : Int32), j_X9_nextOf_68 n k31 S a1 a2 a3 a5 a6 a7 s0 = some (r, S') → xGo p l e { frames := 5, cells := 0, slots := 0, locals := 113 } s m args below meth c G 8 0 0 (MQ below (xQi G r S') args s 0 0 (xA G)) S 68 [(0, .ref (G.2.2 34)), (1, .int a1), (2, .int a2), (3, .int a3), (5, .int a5), (6, .int a6), (7, .int a7)] [.int s0] := by
  intro S a1 a2 a3 a5 a6 a7 s0 hf H locs ls hP hS hl
  unfold j_X9_nextOf_68 at hf
  obtain ⟨hx, hb, hml, hown, hts, hE⟩ := id X
  refine lv_istore (lv' := [(4, .int s0), (0, .ref (G.2.2 34)), (1, .int a1), (2, .int a2), (3, .int a3), (5, .int a5), (6, .int a6), (7, .int a7)]) hx hb dX9_nextOf_68 hl (by decide) rfl (fun ls hl => ?_)
  refine lv_iload hx hb dX9_nextOf_70 (lv_at hl 7 rfl) ?_
  refine lv_iload hx hb dX9_nextOf_72 (lv_at hl 5 rfl) ?_
  refine lv_icmp_ge (tgt := 82) hx hb dX9_nextOf_74 (by decide) (fun e12 => ?_) (fun e12 => ?_)
  · have hf := xif_t hf e12
    refine lv_iload hx hb dX9_nextOf_82 (lv_at hl 5 rfl) ?_
    refine lv_istore (lv' := [(5, .int a5), (4, .int s0), (0, .ref (G.2.2 34)), (1, .int a1), (2, .int a2), (3, .int a3), (6, .int a6), (7, .int a7)]) hx hb dX9_nextOf_84 hl (by decide) rfl (fun ls hl => ?_)
    refine lv_iinc (v := a6 + 1) (lv' := [(6, .int (a6 + 1)), (5, .int a5), (4, .int s0), (0, .ref (G.2.2 34)), (1, .int a1), (2, .int a2), (3, .int a3), (7, .int a7)]) hx hb dX9_nextOf_86 hl (k := 6) rfl rfl (by decide) rfl (fun ls hl => ?_)
    refine lv_goto (tgt := 31) hx hb dX9_nextOf_89 (by decide) ?_
    exact hk31 S a1 a2 a3 s0 a5 (a6 + 1) hf H locs ls hP hS (lv_sub hl [3, 4, 5, 6, 2, 1, 0] rfl)
  · have hf := xif_f hf e12
    refine lv_iload hx hb dX9_nextOf_77 (lv_at hl 7 rfl) ?_
    refine lv_goto (tgt := 84) hx hb dX9_nextOf_79 (by decide) ?_
    refine lv_istore (lv' := [(5, .int a7), (4, .int s0), (0, .ref (G.2.2 34)), (1, .int a1), (2, .int a2), (3, .int a3), (6, .int a6), (7, .int a7)]) hx hb dX9_nextOf_84 hl (by decide) rfl (fun ls hl => ?_)
    refine lv_iinc (v := a6 + 1) (lv' := [(6, .int (a6 + 1)), (5, .int a7), (4, .int s0), (0, .ref (G.2.2 34)), (1, .int a1), (2, .int a2), (3, .int a3), (7, .int a7)]) hx hb dX9_nextOf_86 hl (k := 6) rfl rfl (by decide) rfl (fun ls hl => ?_)
    refine lv_goto (tgt := 31) hx hb dX9_nextOf_89 (by decide) ?_
    exact hk31 S a1 a2 a3 s0 a7 (a6 + 1) hf H locs ls hP hS (lv_sub hl [3, 4, 5, 6, 2, 1, 0] rfl)
def b_X9_nextOf_31 (n : Nat) (k31 : xS → Int32 → Int32 → Int32 → Int32 → Int32 → Int32 → Option (Int32 × xS)) (S : xS) (a1 : Int32) (a2 : Int32) (a3 : Int32) (a4 : Int32) (a5 : Int32) (a6 : Int32) : Option (Int32 × xS) :=
  (if (9 : Int32) ≤ a6 then (if a2 = 0 then some (a4, S) else some (a5, S)) else (f_X9_cutBy n S a1 a6).bind fun r9 => ((if a5 ≤ (f_X9_amount ((a3 + r9) - a1)) then j_X9_nextOf_68 n k31 S a1 a2 a3 a5 a6 (f_X9_amount ((a3 + r9) - a1)) a4 else j_X9_nextOf_68 n k31 S a1 a2 a3 a5 a6 (f_X9_amount ((a3 + r9) - a1)) a6)))
def l_X9_nextOf_31 (n : Nat) : Nat → xS → Int32 → Int32 → Int32 → Int32 → Int32 → Int32 → Option (Int32 × xS)
  | 0, _, _, _, _, _, _, _ => none
  | j + 1, S, a1, a2, a3, a4, a5, a6 => b_X9_nextOf_31 n (l_X9_nextOf_31 n j) S a1 a2 a3 a4 a5 a6
set_option maxHeartbeats 4000000 in
set_option maxRecDepth 100000 in
theorem t_X9_nextOf_31 {p : Program} {l : Launch} {e : Env} {s : State} {m : MethodId} {args : Array Value} {below : List Frame} {meth : Method} {c : Code} {G : xG} (X : xC p s m args c G RX9 cX9_nextOf 8) (hr : meth.sig.returnType = (some .int)) (hlk : meth.locks = false) {n : Nat} {r : Int32} {S' : xS} : ∀ (j : Nat) (S : xS) (a1 : Int32) (a2 : Int32) (a3 : Int32) (a4 : Int32) (a5 : Int32) (a6 : Int32), l_X9_nextOf_31 n j S a1 a2 a3 a4 a5 a6 = some (r, S') → xGo p l e { frames := 5, cells := 0, slots := 0, locals := 113 } s m args below meth c G 8 0 0 (MQ below (xQi G r S') args s 0 0 (xA G)) S 31 [(0, .ref (G.2.2 34)), (1, .int a1), (2, .int a2), (3, .int a3), (4, .int a4), (5, .int a5), (6, .int a6)] [] := by
  intro j
  induction j with
  | zero => intro S a1 a2 a3 a4 a5 a6 hf; exact nomatch (show (none : Option (Int32 × xS)) = _ from hf)
  | succ j ih =>
    intro S a1 a2 a3 a4 a5 a6 hf H locs ls hP hS hl
    have hf : b_X9_nextOf_31 n (l_X9_nextOf_31 n j) S a1 a2 a3 a4 a5 a6 = some (r, S') := hf
    unfold b_X9_nextOf_31 at hf
    obtain ⟨hx, hb, hml, hown, hts, hE⟩ := id X
    refine lv_iload hx hb dX9_nextOf_31 (lv_at hl 6 rfl) ?_
    refine lv_bipush (v := 9) hx hb dX9_nextOf_33 (by decide) ?_
    refine lv_icmp_ge (tgt := 92) hx hb dX9_nextOf_35 (by decide) (fun e7 => ?_) (fun e7 => ?_)
    · have hf := xif_t hf e7
      refine lv_iload_n hx hb dX9_nextOf_92 rfl (lv_at hl 2 rfl) ?_
      refine lv_if_ne (tgt := 101) hx hb dX9_nextOf_93 (by decide) (fun e8 => ?_) (fun e8 => ?_)
      · have hf := xif_f hf e8
        refine lv_iload hx hb dX9_nextOf_101 (lv_at hl 5 rfl) ?_
        exact x_iret X hr hlk hP hS  ((Prod.mk.inj (Option.some.inj hf)).1) ((Prod.mk.inj (Option.some.inj hf)).2) dX9_nextOf_103
      · have hf := xif_t hf e8
        refine lv_iload hx hb dX9_nextOf_96 (lv_at hl 4 rfl) ?_
        refine lv_goto (tgt := 103) hx hb dX9_nextOf_98 (by decide) ?_
        exact x_iret X hr hlk hP hS  ((Prod.mk.inj (Option.some.inj hf)).1) ((Prod.mk.inj (Option.some.inj hf)).2) dX9_nextOf_103
    · have hf := xif_f hf e7
      refine lv_iload_n hx hb dX9_nextOf_38 rfl (lv_at hl 3 rfl) ?_
      refine lv_aload_n hx hb dX9_nextOf_39 rfl (lv_at hl 0 rfl) ?_
      refine lv_iload_n hx hb dX9_nextOf_40 rfl (lv_at hl 1 rfl) ?_
      refine lv_iload hx hb dX9_nextOf_41 (lv_at hl 6 rfl) ?_
      obtain ⟨r9, h10, hf⟩ := xb_some hf
      refine x_cVi (As := [.int a1, .int a6]) (rest := [.int a3]) X hP hS kc_X9_93 (c_X9_cutBy l G n S a1 a6 _ h10) ⟨Nat.le_of_ble_eq_true rfl, Nat.le_of_ble_eq_true rfl⟩ (by decide) rfl rfl rfl hl.1 rfl (Nat.le_of_ble_eq_true rfl) ⟨Nat.zero_le _, Nat.zero_le _⟩ dX9_nextOf_43 (fun H locs hP hS => ?_)
      refine lv_iadd hx hb dX9_nextOf_46 ?_
      refine lv_iload_n hx hb dX9_nextOf_47 rfl (lv_at hl 1 rfl) ?_
      refine lv_isub hx hb dX9_nextOf_48 ?_
      refine x_cSi (As := [.int ((a3 + r9) - a1)]) (rest := []) X hP hS kc_X9_115 (c_X9_amount l G  S ((a3 + r9) - a1) _ rfl) ⟨Nat.le_of_ble_eq_true rfl, Nat.le_of_ble_eq_true rfl⟩ rfl hl.1 rfl (Nat.le_of_ble_eq_true rfl) ⟨Nat.zero_le _, Nat.zero_le _⟩ dX9_nextOf_49 (fun H locs hP hS => ?_)
      refine lv_istore (lv' := [(7, .int (f_X9_amount ((a3 + r9) - a1))), (0, .ref (G.2.2 34)), (1, .int a1), (2, .int a2), (3, .int a3), (4, .int a4), (5, .int a5), (6, .int a6)]) hx hb dX9_nextOf_52 hl (by decide) rfl (fun ls hl => ?_)
      refine lv_iload hx hb dX9_nextOf_54 (lv_at hl 0 rfl) ?_
      refine lv_iload hx hb dX9_nextOf_56 (lv_at hl 6 rfl) ?_
      refine lv_icmp_ge (tgt := 66) hx hb dX9_nextOf_58 (by decide) (fun e11 => ?_) (fun e11 => ?_)
      · have hf := xif_t hf e11
        refine lv_iload hx hb dX9_nextOf_66 (lv_at hl 5 rfl) ?_
        exact t_X9_nextOf_68 X hr hlk  ih S a1 a2 a3 a5 a6 (f_X9_amount ((a3 + r9) - a1)) a4 hf H locs ls hP hS (lv_sub hl [1, 2, 3, 4, 6, 7, 0] rfl)
      · have hf := xif_f hf e11
        refine lv_iload hx hb dX9_nextOf_61 (lv_at hl 7 rfl) ?_
        refine lv_goto (tgt := 68) hx hb dX9_nextOf_63 (by decide) ?_
        exact t_X9_nextOf_68 X hr hlk  ih S a1 a2 a3 a5 a6 (f_X9_amount ((a3 + r9) - a1)) a6 hf H locs ls hP hS (lv_sub hl [1, 2, 3, 4, 6, 7, 0] rfl)
def f_X9_nextOf (n : Nat) (S : xS) (a1 : Int32) (a2 : Int32) : Option (Int32 × xS) :=
  (f_X9_floorsNow n S).bind fun r1 => ((f_X9_sillOf n r1.2 r1.1 (2 : Int32)).bind fun r3 => ((f_X9_cutBy n r1.2 a1 (0 : Int32)).bind fun r5 => (l_X9_nextOf_31 n n r1.2 a1 a2 r3 (0 : Int32) (f_X9_amount ((r3 + r5) - a1)) (1 : Int32))))
set_option maxHeartbeats 4000000 in
set_option maxRecDepth 100000 in
theorem c_X9_nextOf (l : Launch) (G : xG) (n : Nat)  (S : xS) (a1 : Int32) (a2 : Int32) (r : Int32) (S' : xS) (hf : f_X9_nextOf n S a1 a2 = some (r, S')) : xMi l G yX9_nextOf cX9_nextOf 8 (some .int) 5 113 [.ref (G.2.2 34), .int a1, .int a2] S r S' := by
  refine xMi_of (own := RX9) (by decide +kernel) rfl (Nat.le_of_ble_eq_true rfl) ?_
  intro p e s m args below meth c X hr hlk H locs ls hP hS hl
  have hl : lv_has ls 8 [(0, .ref (G.2.2 34)), (1, .int a1), (2, .int a2)] := hl
  obtain ⟨hx, hb, hml, hown, hts, hE⟩ := id X
  unfold f_X9_nextOf at hf
  refine lv_aload_n hx hb dX9_nextOf_0 rfl (lv_at hl 0 rfl) ?_
  refine lv_aload_n hx hb dX9_nextOf_1 rfl (lv_at hl 0 rfl) ?_
  obtain ⟨r1, h2, hf⟩ := xb_some hf
  refine x_cVi (As := []) (rest := [.ref (G.2.2 34)]) X hP hS kc_X9_97 (c_X9_floorsNow l G n S  r1.1 r1.2 h2) ⟨Nat.le_of_ble_eq_true rfl, Nat.le_of_ble_eq_true rfl⟩ (by decide) rfl rfl rfl hl.1 rfl (Nat.le_of_ble_eq_true rfl) ⟨Nat.zero_le _, Nat.zero_le _⟩ dX9_nextOf_2 (fun H locs hP hS => ?_)
  refine lv_iconst (v := 2) hx hb dX9_nextOf_5 (by decide) ?_
  obtain ⟨r3, h4, hf⟩ := xb_some hf
  refine x_cVi (As := [.int r1.1, .int (2 : Int32)]) (rest := []) X hP hS kc_X9_112 (c_X9_sillOf l G n r1.2 r1.1 (2 : Int32) _ h4) ⟨Nat.le_of_ble_eq_true rfl, Nat.le_of_ble_eq_true rfl⟩ (by decide) rfl rfl rfl hl.1 rfl (Nat.le_of_ble_eq_true rfl) ⟨Nat.zero_le _, Nat.zero_le _⟩ dX9_nextOf_6 (fun H locs hP hS => ?_)
  refine lv_istore_n (lv' := [(3, .int r3), (0, .ref (G.2.2 34)), (1, .int a1), (2, .int a2)]) hx hb dX9_nextOf_9 rfl hl (by decide) rfl (fun ls hl => ?_)
  refine lv_iconst (v := 0) hx hb dX9_nextOf_10 (by decide) ?_
  refine lv_istore (lv' := [(4, .int (0 : Int32)), (3, .int r3), (0, .ref (G.2.2 34)), (1, .int a1), (2, .int a2)]) hx hb dX9_nextOf_11 hl (by decide) rfl (fun ls hl => ?_)
  refine lv_iload_n hx hb dX9_nextOf_13 rfl (lv_at hl 1 rfl) ?_
  refine lv_aload_n hx hb dX9_nextOf_14 rfl (lv_at hl 2 rfl) ?_
  refine lv_iload_n hx hb dX9_nextOf_15 rfl (lv_at hl 3 rfl) ?_
  refine lv_iconst (v := 0) hx hb dX9_nextOf_16 (by decide) ?_
  obtain ⟨r5, h6, hf⟩ := xb_some hf
  refine x_cVi (As := [.int a1, .int (0 : Int32)]) (rest := [.int r3]) X hP hS kc_X9_93 (c_X9_cutBy l G n r1.2 a1 (0 : Int32) _ h6) ⟨Nat.le_of_ble_eq_true rfl, Nat.le_of_ble_eq_true rfl⟩ (by decide) rfl rfl rfl hl.1 rfl (Nat.le_of_ble_eq_true rfl) ⟨Nat.zero_le _, Nat.zero_le _⟩ dX9_nextOf_17 (fun H locs hP hS => ?_)
  refine lv_iadd hx hb dX9_nextOf_20 ?_
  refine lv_iload_n hx hb dX9_nextOf_21 rfl (lv_at hl 3 rfl) ?_
  refine lv_isub hx hb dX9_nextOf_22 ?_
  refine x_cSi (As := [.int ((r3 + r5) - a1)]) (rest := []) X hP hS kc_X9_115 (c_X9_amount l G  r1.2 ((r3 + r5) - a1) _ rfl) ⟨Nat.le_of_ble_eq_true rfl, Nat.le_of_ble_eq_true rfl⟩ rfl hl.1 rfl (Nat.le_of_ble_eq_true rfl) ⟨Nat.zero_le _, Nat.zero_le _⟩ dX9_nextOf_23 (fun H locs hP hS => ?_)
  refine lv_istore (lv' := [(5, .int (f_X9_amount ((r3 + r5) - a1))), (4, .int (0 : Int32)), (3, .int r3), (0, .ref (G.2.2 34)), (1, .int a1), (2, .int a2)]) hx hb dX9_nextOf_26 hl (by decide) rfl (fun ls hl => ?_)
  refine lv_iconst (v := 1) hx hb dX9_nextOf_28 (by decide) ?_
  refine lv_istore (lv' := [(6, .int (1 : Int32)), (5, .int (f_X9_amount ((r3 + r5) - a1))), (4, .int (0 : Int32)), (3, .int r3), (0, .ref (G.2.2 34)), (1, .int a1), (2, .int a2)]) hx hb dX9_nextOf_29 hl (by decide) rfl (fun ls hl => ?_)
  exact t_X9_nextOf_31 X hr hlk   n r1.2 a1 a2 r3 (0 : Int32) (f_X9_amount ((r3 + r5) - a1)) (1 : Int32) hf H locs ls hP hS (lv_sub hl [4, 5, 6, 3, 2, 1, 0] rfl)
def f_X9_next (n : Nat) (S : xS) (a1 : Int32) (a2 : Int32) : Option (Int32 × xS) :=
  (if (f_X9_in a1 (1 : Int32) (9999 : Int32)) = 0 then some ((-2 : Int32), S) else (if (f_X9_in a2 (0 : Int32) (1 : Int32)) = 0 then some ((-2 : Int32), S) else (f_X9_nextOf n S a1 a2).bind fun r3 => (some (r3.1, r3.2))))
set_option maxHeartbeats 4000000 in
set_option maxRecDepth 100000 in
theorem c_X9_next (l : Launch) (G : xG) (n : Nat)  (S : xS) (a1 : Int32) (a2 : Int32) (r : Int32) (S' : xS) (hf : f_X9_next n S a1 a2 = some (r, S')) : xMi l G yX9_next cX9_next 3 (some .int) 6 140 [.ref (G.2.2 34), .int a1, .int a2] S r S' := by
  refine xMi_of (own := RX9) (by decide +kernel) rfl (Nat.le_of_ble_eq_true rfl) ?_
  intro p e s m args below meth c X hr hlk H locs ls hP hS hl
  have hl : lv_has ls 3 [(0, .ref (G.2.2 34)), (1, .int a1), (2, .int a2)] := hl
  obtain ⟨hx, hb, hml, hown, hts, hE⟩ := id X
  unfold f_X9_next at hf
  refine lv_iload_n hx hb dX9_next_0 rfl (lv_at hl 1 rfl) ?_
  refine lv_iconst (v := 1) hx hb dX9_next_1 (by decide) ?_
  refine lv_sipush (v := 9999) hx hb dX9_next_2 (by decide) ?_
  refine x_cSi (As := [.int a1, .int (1 : Int32), .int (9999 : Int32)]) (rest := []) X hP hS kc_X9_68 (c_X9_in l G  S a1 (1 : Int32) (9999 : Int32) _ rfl) ⟨Nat.le_of_ble_eq_true rfl, Nat.le_of_ble_eq_true rfl⟩ rfl hl.1 rfl (Nat.le_of_ble_eq_true rfl) ⟨Nat.zero_le _, Nat.zero_le _⟩ dX9_next_5 (fun H locs hP hS => ?_)
  refine lv_if_eq (tgt := 29) hx hb dX9_next_8 (by decide) (fun e1 => ?_) (fun e1 => ?_)
  · have hf := xif_t hf e1
    refine lv_bipush (v := (-2)) hx hb dX9_next_29 (by decide) ?_
    exact x_iret X hr hlk hP hS  ((Prod.mk.inj (Option.some.inj hf)).1) ((Prod.mk.inj (Option.some.inj hf)).2) dX9_next_31
  · have hf := xif_f hf e1
    refine lv_iload_n hx hb dX9_next_11 rfl (lv_at hl 2 rfl) ?_
    refine lv_iconst (v := 0) hx hb dX9_next_12 (by decide) ?_
    refine lv_iconst (v := 1) hx hb dX9_next_13 (by decide) ?_
    refine x_cSi (As := [.int a2, .int (0 : Int32), .int (1 : Int32)]) (rest := []) X hP hS kc_X9_68 (c_X9_in l G  S a2 (0 : Int32) (1 : Int32) _ rfl) ⟨Nat.le_of_ble_eq_true rfl, Nat.le_of_ble_eq_true rfl⟩ rfl hl.1 rfl (Nat.le_of_ble_eq_true rfl) ⟨Nat.zero_le _, Nat.zero_le _⟩ dX9_next_14 (fun H locs hP hS => ?_)
    refine lv_if_eq (tgt := 29) hx hb dX9_next_17 (by decide) (fun e2 => ?_) (fun e2 => ?_)
    · have hf := xif_t hf e2
      refine lv_bipush (v := (-2)) hx hb dX9_next_29 (by decide) ?_
      exact x_iret X hr hlk hP hS  ((Prod.mk.inj (Option.some.inj hf)).1) ((Prod.mk.inj (Option.some.inj hf)).2) dX9_next_31
    · have hf := xif_f hf e2
      refine lv_aload_n hx hb dX9_next_20 rfl (lv_at hl 0 rfl) ?_
      refine lv_iload_n hx hb dX9_next_21 rfl (lv_at hl 1 rfl) ?_
      refine lv_iload_n hx hb dX9_next_22 rfl (lv_at hl 2 rfl) ?_
      obtain ⟨r3, h4, hf⟩ := xb_some hf
      refine x_cVi (As := [.int a1, .int a2]) (rest := []) X hP hS kc_X9_176 (c_X9_nextOf l G n S a1 a2 r3.1 r3.2 h4) ⟨Nat.le_of_ble_eq_true rfl, Nat.le_of_ble_eq_true rfl⟩ (by decide) rfl rfl rfl hl.1 rfl (Nat.le_of_ble_eq_true rfl) ⟨Nat.zero_le _, Nat.zero_le _⟩ dX9_next_23 (fun H locs hP hS => ?_)
      refine lv_goto (tgt := 31) hx hb dX9_next_26 (by decide) ?_
      exact x_iret X hr hlk hP hS  ((Prod.mk.inj (Option.some.inj hf)).1) ((Prod.mk.inj (Option.some.inj hf)).2) dX9_next_31
def f_X8_weigh (n : Nat) (S : xS) (a1 : Int32) (a2 : Int32) : Option (Int32 × xS) :=
  (if (f_X8_isSpot a1) = 0 then some ((-2 : Int32), S) else (if (f_X8_within a2 (0 : Int32) (99 : Int32)) = 0 then some ((-2 : Int32), S) else xg (xin a1 10) (xg (xin a1 10) (some (S.1 23 a1.toNatClampNeg, xst S 23 a1.toNatClampNeg a2)))))
set_option maxHeartbeats 4000000 in
set_option maxRecDepth 100000 in
theorem c_X8_weigh (l : Launch) (G : xG) (n : Nat)  (S : xS) (a1 : Int32) (a2 : Int32) (r : Int32) (S' : xS) (hf : f_X8_weigh n S a1 a2 = some (r, S')) : xMi l G yX8_weigh cX8_weigh 4 (some .int) 2 42 [.ref (G.2.2 0), .int a1, .int a2] S r S' := by
  refine xMi_of (own := RX8) (by decide +kernel) rfl (Nat.le_of_ble_eq_true rfl) ?_
  intro p e s m args below meth c X hr hlk H locs ls hP hS hl
  have hl : lv_has ls 4 [(0, .ref (G.2.2 0)), (1, .int a1), (2, .int a2)] := hl
  obtain ⟨hx, hb, hml, hown, hts, hE⟩ := id X
  unfold f_X8_weigh at hf
  refine lv_iload_n hx hb dX8_weigh_0 rfl (lv_at hl 1 rfl) ?_
  refine x_cSi (As := [.int a1]) (rest := []) X hP hS kc_X8_131 (c_X8_isSpot l G  S a1 _ rfl) ⟨Nat.le_of_ble_eq_true rfl, Nat.le_of_ble_eq_true rfl⟩ rfl hl.1 rfl (Nat.le_of_ble_eq_true rfl) ⟨Nat.zero_le _, Nat.zero_le _⟩ dX8_weigh_1 (fun H locs hP hS => ?_)
  refine lv_if_eq (tgt := 17) hx hb dX8_weigh_4 (by decide) (fun e1 => ?_) (fun e1 => ?_)
  · have hf := xif_t hf e1
    refine lv_bipush (v := (-2)) hx hb dX8_weigh_17 (by decide) ?_
    exact x_iret X hr hlk hP hS  ((Prod.mk.inj (Option.some.inj hf)).1) ((Prod.mk.inj (Option.some.inj hf)).2) dX8_weigh_19
  · have hf := xif_f hf e1
    refine lv_iload_n hx hb dX8_weigh_7 rfl (lv_at hl 2 rfl) ?_
    refine lv_iconst (v := 0) hx hb dX8_weigh_8 (by decide) ?_
    refine lv_bipush (v := 99) hx hb dX8_weigh_9 (by decide) ?_
    refine x_cSi (As := [.int a2, .int (0 : Int32), .int (99 : Int32)]) (rest := []) X hP hS kc_X8_79 (c_X8_within l G  S a2 (0 : Int32) (99 : Int32) _ rfl) ⟨Nat.le_of_ble_eq_true rfl, Nat.le_of_ble_eq_true rfl⟩ rfl hl.1 rfl (Nat.le_of_ble_eq_true rfl) ⟨Nat.zero_le _, Nat.zero_le _⟩ dX8_weigh_11 (fun H locs hP hS => ?_)
    refine lv_if_ne (tgt := 20) hx hb dX8_weigh_14 (by decide) (fun e2 => ?_) (fun e2 => ?_)
    · have hf := xif_f hf e2
      refine lv_aload_n hx hb dX8_weigh_20 rfl (lv_at hl 0 rfl) ?_
      refine x_getR X hP fl_X8_64 (by decide) rfl rfl dX8_weigh_21 ?_
      refine x_getRN X hP fn_X8_228 (by decide) rfl rfl dX8_weigh_24 ?_
      refine lv_iload_n hx hb dX8_weigh_27 rfl (lv_at hl 1 rfl) ?_
      obtain ⟨g3, hf⟩ := xg_some hf
      refine x_iald X hP (by decide) rfl g3 dX8_weigh_28 ?_
      refine lv_istore_n (lv' := [(3, .int (S.1 23 a1.toNatClampNeg)), (0, .ref (G.2.2 0)), (1, .int a1), (2, .int a2)]) hx hb dX8_weigh_29 rfl hl (by decide) rfl (fun ls hl => ?_)
      refine lv_aload_n hx hb dX8_weigh_30 rfl (lv_at hl 1 rfl) ?_
      refine x_getR X hP fl_X8_64 (by decide) rfl rfl dX8_weigh_31 ?_
      refine x_getRN X hP fn_X8_228 (by decide) rfl rfl dX8_weigh_34 ?_
      refine lv_iload_n hx hb dX8_weigh_37 rfl (lv_at hl 2 rfl) ?_
      refine lv_iload_n hx hb dX8_weigh_38 rfl (lv_at hl 3 rfl) ?_
      obtain ⟨g4, hf⟩ := xg_some hf
      refine x_iast X hP hS (by decide) rfl g4 dX8_weigh_39 (fun H locs hP hS => ?_)
      refine lv_iload_n hx hb dX8_weigh_40 rfl (lv_at hl 0 rfl) ?_
      exact x_iret X hr hlk hP hS  ((Prod.mk.inj (Option.some.inj hf)).1) ((Prod.mk.inj (Option.some.inj hf)).2) dX8_weigh_41
    · have hf := xif_t hf e2
      refine lv_bipush (v := (-2)) hx hb dX8_weigh_17 (by decide) ?_
      exact x_iret X hr hlk hP hS  ((Prod.mk.inj (Option.some.inj hf)).1) ((Prod.mk.inj (Option.some.inj hf)).2) dX8_weigh_19
def f_X9_weigh (n : Nat) (S : xS) (a1 : Int32) (a2 : Int32) : Option (Int32 × xS) :=
  (if (f_X9_in a1 (0 : Int32) (9 : Int32)) = 0 then some ((-2 : Int32), S) else (if (f_X9_in a2 (0 : Int32) (99 : Int32)) = 0 then some ((-2 : Int32), S) else xg (xin a1 10) (xg (xin a1 10) (some (S.1 44 a1.toNatClampNeg, xst S 44 a1.toNatClampNeg a2)))))
set_option maxHeartbeats 4000000 in
set_option maxRecDepth 100000 in
theorem c_X9_weigh (l : Launch) (G : xG) (n : Nat)  (S : xS) (a1 : Int32) (a2 : Int32) (r : Int32) (S' : xS) (hf : f_X9_weigh n S a1 a2 = some (r, S')) : xMi l G yX9_weigh cX9_weigh 4 (some .int) 1 22 [.ref (G.2.2 34), .int a1, .int a2] S r S' := by
  refine xMi_of (own := RX9) (by decide +kernel) rfl (Nat.le_of_ble_eq_true rfl) ?_
  intro p e s m args below meth c X hr hlk H locs ls hP hS hl
  have hl : lv_has ls 4 [(0, .ref (G.2.2 34)), (1, .int a1), (2, .int a2)] := hl
  obtain ⟨hx, hb, hml, hown, hts, hE⟩ := id X
  unfold f_X9_weigh at hf
  refine lv_iload_n hx hb dX9_weigh_0 rfl (lv_at hl 1 rfl) ?_
  refine lv_iconst (v := 0) hx hb dX9_weigh_1 (by decide) ?_
  refine lv_bipush (v := 9) hx hb dX9_weigh_2 (by decide) ?_
  refine x_cSi (As := [.int a1, .int (0 : Int32), .int (9 : Int32)]) (rest := []) X hP hS kc_X9_68 (c_X9_in l G  S a1 (0 : Int32) (9 : Int32) _ rfl) ⟨Nat.le_of_ble_eq_true rfl, Nat.le_of_ble_eq_true rfl⟩ rfl hl.1 rfl (Nat.le_of_ble_eq_true rfl) ⟨Nat.zero_le _, Nat.zero_le _⟩ dX9_weigh_4 (fun H locs hP hS => ?_)
  refine lv_if_eq (tgt := 20) hx hb dX9_weigh_7 (by decide) (fun e1 => ?_) (fun e1 => ?_)
  · have hf := xif_t hf e1
    refine lv_bipush (v := (-2)) hx hb dX9_weigh_20 (by decide) ?_
    exact x_iret X hr hlk hP hS  ((Prod.mk.inj (Option.some.inj hf)).1) ((Prod.mk.inj (Option.some.inj hf)).2) dX9_weigh_22
  · have hf := xif_f hf e1
    refine lv_iload_n hx hb dX9_weigh_10 rfl (lv_at hl 2 rfl) ?_
    refine lv_iconst (v := 0) hx hb dX9_weigh_11 (by decide) ?_
    refine lv_bipush (v := 99) hx hb dX9_weigh_12 (by decide) ?_
    refine x_cSi (As := [.int a2, .int (0 : Int32), .int (99 : Int32)]) (rest := []) X hP hS kc_X9_68 (c_X9_in l G  S a2 (0 : Int32) (99 : Int32) _ rfl) ⟨Nat.le_of_ble_eq_true rfl, Nat.le_of_ble_eq_true rfl⟩ rfl hl.1 rfl (Nat.le_of_ble_eq_true rfl) ⟨Nat.zero_le _, Nat.zero_le _⟩ dX9_weigh_14 (fun H locs hP hS => ?_)
    refine lv_if_ne (tgt := 23) hx hb dX9_weigh_17 (by decide) (fun e2 => ?_) (fun e2 => ?_)
    · have hf := xif_f hf e2
      refine lv_aload_n hx hb dX9_weigh_23 rfl (lv_at hl 0 rfl) ?_
      refine x_getR X hP fl_X9_37 (by decide) rfl rfl dX9_weigh_24 ?_
      refine lv_iload_n hx hb dX9_weigh_27 rfl (lv_at hl 1 rfl) ?_
      obtain ⟨g3, hf⟩ := xg_some hf
      refine x_iald X hP (by decide) rfl g3 dX9_weigh_28 ?_
      refine lv_istore_n (lv' := [(3, .int (S.1 44 a1.toNatClampNeg)), (0, .ref (G.2.2 34)), (1, .int a1), (2, .int a2)]) hx hb dX9_weigh_29 rfl hl (by decide) rfl (fun ls hl => ?_)
      refine lv_aload_n hx hb dX9_weigh_30 rfl (lv_at hl 1 rfl) ?_
      refine x_getR X hP fl_X9_37 (by decide) rfl rfl dX9_weigh_31 ?_
      refine lv_iload_n hx hb dX9_weigh_34 rfl (lv_at hl 2 rfl) ?_
      refine lv_iload_n hx hb dX9_weigh_35 rfl (lv_at hl 3 rfl) ?_
      obtain ⟨g4, hf⟩ := xg_some hf
      refine x_iast X hP hS (by decide) rfl g4 dX9_weigh_36 (fun H locs hP hS => ?_)
      refine lv_iload_n hx hb dX9_weigh_37 rfl (lv_at hl 0 rfl) ?_
      exact x_iret X hr hlk hP hS  ((Prod.mk.inj (Option.some.inj hf)).1) ((Prod.mk.inj (Option.some.inj hf)).2) dX9_weigh_38
    · have hf := xif_t hf e2
      refine lv_bipush (v := (-2)) hx hb dX9_weigh_20 (by decide) ?_
      exact x_iret X hr hlk hP hS  ((Prod.mk.inj (Option.some.inj hf)).1) ((Prod.mk.inj (Option.some.inj hf)).2) dX9_weigh_22
def f_X1_strength (n : Nat) (S : xS) (a1 : Int32) (a2 : Int32) : Option Int32 :=
  (f_X7_built n S a1).bind fun r1 => (some (((a2 + (2 : Int32)) * r1) / (10 : Int32)))
set_option maxHeartbeats 4000000 in
set_option maxRecDepth 100000 in
theorem c_X1_strength (l : Launch) (G : xG) (n : Nat)  (S : xS) (a1 : Int32) (a2 : Int32) (r : Int32) (hf : f_X1_strength n S a1 a2 = some r) : xMi l G yX1_strength cX1_strength 3 (some .int) 1 21 [.ref (G.2.2 22), .int a1, .int a2] S r S := by
  refine xMi_of (own := RX1) (by decide +kernel) rfl (Nat.le_of_ble_eq_true rfl) ?_
  intro p e s m args below meth c X hr hlk H locs ls hP hS hl
  have hl : lv_has ls 3 [(0, .ref (G.2.2 22)), (1, .int a1), (2, .int a2)] := hl
  obtain ⟨hx, hb, hml, hown, hts, hE⟩ := id X
  unfold f_X1_strength at hf
  refine lv_iload_n hx hb dX1_strength_0 rfl (lv_at hl 2 rfl) ?_
  refine lv_iconst (v := 2) hx hb dX1_strength_1 (by decide) ?_
  refine lv_iadd hx hb dX1_strength_2 ?_
  refine lv_aload_n hx hb dX1_strength_3 rfl (lv_at hl 0 rfl) ?_
  refine x_getR X hP fl_X1_15 (by decide) rfl rfl dX1_strength_4 ?_
  refine lv_iload_n hx hb dX1_strength_7 rfl (lv_at hl 1 rfl) ?_
  obtain ⟨r1, h2, hf⟩ := xb_some hf
  refine x_cVi (As := [.int a1]) (rest := [.int (a2 + (2 : Int32))]) X hP hS kc_X1_19 (c_X7_built l G n S a1 _ h2) ⟨Nat.le_of_ble_eq_true rfl, Nat.le_of_ble_eq_true rfl⟩ (by decide) rfl rfl rfl hl.1 rfl (Nat.le_of_ble_eq_true rfl) ⟨Nat.zero_le _, Nat.zero_le _⟩ dX1_strength_8 (fun H locs hP hS => ?_)
  refine lv_imul hx hb dX1_strength_11 ?_
  refine lv_bipush (v := 10) hx hb dX1_strength_12 (by decide) ?_
  refine lv_idiv hx hb dX1_strength_14 (by decide) ?_
  exact x_iret X hr hlk hP hS  (Option.some.inj hf) (rfl) dX1_strength_15
def f_X8_bears (n : Nat) (S : xS) (a1 : Int32) (a2 : Int32) : Option Int32 :=
  (if (f_X8_isFloor S a1) = 0 then some (-2 : Int32) else (if (f_X8_isMaster a2) = 0 then some (-2 : Int32) else (f_X1_strength n S a1 a2).bind fun r3 => (some r3)))
set_option maxHeartbeats 4000000 in
set_option maxRecDepth 100000 in
theorem c_X8_bears (l : Launch) (G : xG) (n : Nat)  (S : xS) (a1 : Int32) (a2 : Int32) (r : Int32) (hf : f_X8_bears n S a1 a2 = some r) : xMi l G yX8_bears cX8_bears 3 (some .int) 2 43 [.ref (G.2.2 0), .int a1, .int a2] S r S := by
  refine xMi_of (own := RX8) (by decide +kernel) rfl (Nat.le_of_ble_eq_true rfl) ?_
  intro p e s m args below meth c X hr hlk H locs ls hP hS hl
  have hl : lv_has ls 3 [(0, .ref (G.2.2 0)), (1, .int a1), (2, .int a2)] := hl
  obtain ⟨hx, hb, hml, hown, hts, hE⟩ := id X
  unfold f_X8_bears at hf
  refine lv_aload_n hx hb dX8_bears_0 rfl (lv_at hl 0 rfl) ?_
  refine lv_iload_n hx hb dX8_bears_1 rfl (lv_at hl 1 rfl) ?_
  refine x_cVi (As := [.int a1]) (rest := []) X hP hS kc_X8_104 (c_X8_isFloor l G  S a1 _ rfl) ⟨Nat.le_of_ble_eq_true rfl, Nat.le_of_ble_eq_true rfl⟩ (by decide) rfl rfl rfl hl.1 rfl (Nat.le_of_ble_eq_true rfl) ⟨Nat.zero_le _, Nat.zero_le _⟩ dX8_bears_2 (fun H locs hP hS => ?_)
  refine lv_if_eq (tgt := 27) hx hb dX8_bears_5 (by decide) (fun e1 => ?_) (fun e1 => ?_)
  · have hf := xif_t hf e1
    refine lv_bipush (v := (-2)) hx hb dX8_bears_27 (by decide) ?_
    exact x_iret X hr hlk hP hS  (Option.some.inj hf) (rfl) dX8_bears_29
  · have hf := xif_f hf e1
    refine lv_iload_n hx hb dX8_bears_8 rfl (lv_at hl 2 rfl) ?_
    refine x_cSi (As := [.int a2]) (rest := []) X hP hS kc_X8_75 (c_X8_isMaster l G  S a2 _ rfl) ⟨Nat.le_of_ble_eq_true rfl, Nat.le_of_ble_eq_true rfl⟩ rfl hl.1 rfl (Nat.le_of_ble_eq_true rfl) ⟨Nat.zero_le _, Nat.zero_le _⟩ dX8_bears_9 (fun H locs hP hS => ?_)
    refine lv_if_eq (tgt := 27) hx hb dX8_bears_12 (by decide) (fun e2 => ?_) (fun e2 => ?_)
    · have hf := xif_t hf e2
      refine lv_bipush (v := (-2)) hx hb dX8_bears_27 (by decide) ?_
      exact x_iret X hr hlk hP hS  (Option.some.inj hf) (rfl) dX8_bears_29
    · have hf := xif_f hf e2
      refine lv_aload_n hx hb dX8_bears_15 rfl (lv_at hl 0 rfl) ?_
      refine x_getR X hP fl_X8_64 (by decide) rfl rfl dX8_bears_16 ?_
      refine lv_iload_n hx hb dX8_bears_19 rfl (lv_at hl 1 rfl) ?_
      refine lv_iload_n hx hb dX8_bears_20 rfl (lv_at hl 2 rfl) ?_
      obtain ⟨r3, h4, hf⟩ := xb_some hf
      refine x_cVi (As := [.int a1, .int a2]) (rest := []) X hP hS kc_X8_231 (c_X1_strength l G n S a1 a2 _ h4) ⟨Nat.le_of_ble_eq_true rfl, Nat.le_of_ble_eq_true rfl⟩ (by decide) rfl rfl rfl hl.1 rfl (Nat.le_of_ble_eq_true rfl) ⟨Nat.zero_le _, Nat.zero_le _⟩ dX8_bears_21 (fun H locs hP hS => ?_)
      refine lv_goto (tgt := 29) hx hb dX8_bears_24 (by decide) ?_
      exact x_iret X hr hlk hP hS  (Option.some.inj hf) (rfl) dX8_bears_29
def f_X9_bearsOf (n : Nat) (S : xS) (a1 : Int32) (a2 : Int32) : Option Int32 :=
  (f_X9_builtOf n S a1).bind fun r1 => (some (((a2 + (2 : Int32)) * r1) / (10 : Int32)))
set_option maxHeartbeats 4000000 in
set_option maxRecDepth 100000 in
theorem c_X9_bearsOf (l : Launch) (G : xG) (n : Nat)  (S : xS) (a1 : Int32) (a2 : Int32) (r : Int32) (hf : f_X9_bearsOf n S a1 a2 = some r) : xMi l G yX9_bearsOf cX9_bearsOf 3 (some .int) 2 47 [.ref (G.2.2 34), .int a1, .int a2] S r S := by
  refine xMi_of (own := RX9) (by decide +kernel) rfl (Nat.le_of_ble_eq_true rfl) ?_
  intro p e s m args below meth c X hr hlk H locs ls hP hS hl
  have hl : lv_has ls 3 [(0, .ref (G.2.2 34)), (1, .int a1), (2, .int a2)] := hl
  obtain ⟨hx, hb, hml, hown, hts, hE⟩ := id X
  unfold f_X9_bearsOf at hf
  refine lv_iload_n hx hb dX9_bearsOf_0 rfl (lv_at hl 2 rfl) ?_
  refine lv_iconst (v := 2) hx hb dX9_bearsOf_1 (by decide) ?_
  refine lv_iadd hx hb dX9_bearsOf_2 ?_
  refine lv_aload_n hx hb dX9_bearsOf_3 rfl (lv_at hl 0 rfl) ?_
  refine lv_iload_n hx hb dX9_bearsOf_4 rfl (lv_at hl 1 rfl) ?_
  obtain ⟨r1, h2, hf⟩ := xb_some hf
  refine x_cVi (As := [.int a1]) (rest := [.int (a2 + (2 : Int32))]) X hP hS kc_X9_100 (c_X9_builtOf l G n S a1 _ h2) ⟨Nat.le_of_ble_eq_true rfl, Nat.le_of_ble_eq_true rfl⟩ (by decide) rfl rfl rfl hl.1 rfl (Nat.le_of_ble_eq_true rfl) ⟨Nat.zero_le _, Nat.zero_le _⟩ dX9_bearsOf_5 (fun H locs hP hS => ?_)
  refine lv_imul hx hb dX9_bearsOf_8 ?_
  refine lv_bipush (v := 10) hx hb dX9_bearsOf_9 (by decide) ?_
  refine lv_idiv hx hb dX9_bearsOf_11 (by decide) ?_
  exact x_iret X hr hlk hP hS  (Option.some.inj hf) (rfl) dX9_bearsOf_12
def f_X9_bears (n : Nat) (S : xS) (a1 : Int32) (a2 : Int32) : Option (Int32 × xS) :=
  (f_X9_isFloor n S a1).bind fun r1 => ((if r1.1 = 0 then some ((-2 : Int32), r1.2) else (if (f_X9_in a2 (0 : Int32) (2 : Int32)) = 0 then some ((-2 : Int32), r1.2) else (f_X9_bearsOf n r1.2 a1 a2).bind fun r5 => (some (r5, r1.2)))))
set_option maxHeartbeats 4000000 in
set_option maxRecDepth 100000 in
theorem c_X9_bears (l : Launch) (G : xG) (n : Nat)  (S : xS) (a1 : Int32) (a2 : Int32) (r : Int32) (S' : xS) (hf : f_X9_bears n S a1 a2 = some (r, S')) : xMi l G yX9_bears cX9_bears 3 (some .int) 6 134 [.ref (G.2.2 34), .int a1, .int a2] S r S' := by
  refine xMi_of (own := RX9) (by decide +kernel) rfl (Nat.le_of_ble_eq_true rfl) ?_
  intro p e s m args below meth c X hr hlk H locs ls hP hS hl
  have hl : lv_has ls 3 [(0, .ref (G.2.2 34)), (1, .int a1), (2, .int a2)] := hl
  obtain ⟨hx, hb, hml, hown, hts, hE⟩ := id X
  unfold f_X9_bears at hf
  refine lv_aload_n hx hb dX9_bears_0 rfl (lv_at hl 0 rfl) ?_
  refine lv_iload_n hx hb dX9_bears_1 rfl (lv_at hl 1 rfl) ?_
  obtain ⟨r1, h2, hf⟩ := xb_some hf
  refine x_cVi (As := [.int a1]) (rest := []) X hP hS kc_X9_103 (c_X9_isFloor l G n S a1 r1.1 r1.2 h2) ⟨Nat.le_of_ble_eq_true rfl, Nat.le_of_ble_eq_true rfl⟩ (by decide) rfl rfl rfl hl.1 rfl (Nat.le_of_ble_eq_true rfl) ⟨Nat.zero_le _, Nat.zero_le _⟩ dX9_bears_2 (fun H locs hP hS => ?_)
  refine lv_if_eq (tgt := 26) hx hb dX9_bears_5 (by decide) (fun e3 => ?_) (fun e3 => ?_)
  · have hf := xif_t hf e3
    refine lv_bipush (v := (-2)) hx hb dX9_bears_26 (by decide) ?_
    exact x_iret X hr hlk hP hS  ((Prod.mk.inj (Option.some.inj hf)).1) ((Prod.mk.inj (Option.some.inj hf)).2) dX9_bears_28
  · have hf := xif_f hf e3
    refine lv_iload_n hx hb dX9_bears_8 rfl (lv_at hl 2 rfl) ?_
    refine lv_iconst (v := 0) hx hb dX9_bears_9 (by decide) ?_
    refine lv_iconst (v := 2) hx hb dX9_bears_10 (by decide) ?_
    refine x_cSi (As := [.int a2, .int (0 : Int32), .int (2 : Int32)]) (rest := []) X hP hS kc_X9_68 (c_X9_in l G  r1.2 a2 (0 : Int32) (2 : Int32) _ rfl) ⟨Nat.le_of_ble_eq_true rfl, Nat.le_of_ble_eq_true rfl⟩ rfl hl.1 rfl (Nat.le_of_ble_eq_true rfl) ⟨Nat.zero_le _, Nat.zero_le _⟩ dX9_bears_11 (fun H locs hP hS => ?_)
    refine lv_if_eq (tgt := 26) hx hb dX9_bears_14 (by decide) (fun e4 => ?_) (fun e4 => ?_)
    · have hf := xif_t hf e4
      refine lv_bipush (v := (-2)) hx hb dX9_bears_26 (by decide) ?_
      exact x_iret X hr hlk hP hS  ((Prod.mk.inj (Option.some.inj hf)).1) ((Prod.mk.inj (Option.some.inj hf)).2) dX9_bears_28
    · have hf := xif_f hf e4
      refine lv_aload_n hx hb dX9_bears_17 rfl (lv_at hl 0 rfl) ?_
      refine lv_iload_n hx hb dX9_bears_18 rfl (lv_at hl 1 rfl) ?_
      refine lv_iload_n hx hb dX9_bears_19 rfl (lv_at hl 2 rfl) ?_
      obtain ⟨r5, h6, hf⟩ := xb_some hf
      refine x_cVi (As := [.int a1, .int a2]) (rest := []) X hP hS kc_X9_179 (c_X9_bearsOf l G n r1.2 a1 a2 _ h6) ⟨Nat.le_of_ble_eq_true rfl, Nat.le_of_ble_eq_true rfl⟩ (by decide) rfl rfl rfl hl.1 rfl (Nat.le_of_ble_eq_true rfl) ⟨Nat.zero_le _, Nat.zero_le _⟩ dX9_bears_20 (fun H locs hP hS => ?_)
      refine lv_goto (tgt := 28) hx hb dX9_bears_23 (by decide) ?_
      exact x_iret X hr hlk hP hS  ((Prod.mk.inj (Option.some.inj hf)).1) ((Prod.mk.inj (Option.some.inj hf)).2) dX9_bears_28
def b_X1_reserve_7 (n : Nat) (k7 : Int32 → Int32 → Int32 → Int32 → Option Int32) (S : xS) (a1 : Int32) (a2 : Int32) (a3 : Int32) (a4 : Int32) : Option Int32 :=
  (if (f_X7_floors S) ≤ a4 then (f_X1_strength n S a1 a2).bind fun r2 => (some (r2 - a3)) else xg (xin a4 10) (k7 a1 a2 (a3 + (S.1 23 a4.toNatClampNeg)) (a4 + 1)))
def l_X1_reserve_7 (n : Nat) (S : xS) : Nat → Int32 → Int32 → Int32 → Int32 → Option Int32
  | 0, _, _, _, _ => none
  | j + 1, a1, a2, a3, a4 => b_X1_reserve_7 n (l_X1_reserve_7 n S j) S a1 a2 a3 a4
set_option maxHeartbeats 4000000 in
set_option maxRecDepth 100000 in
theorem t_X1_reserve_7 {p : Program} {l : Launch} {e : Env} {s : State} {m : MethodId} {args : Array Value} {below : List Frame} {meth : Method} {c : Code} {G : xG} (X : xC p s m args c G RX1 cX1_reserve 5) (hr : meth.sig.returnType = (some .int)) (hlk : meth.locks = false) {n : Nat} {r : Int32} {S : xS} : ∀ (j : Nat) (a1 : Int32) (a2 : Int32) (a3 : Int32) (a4 : Int32), l_X1_reserve_7 n S j a1 a2 a3 a4 = some r → xGo p l e { frames := 2, cells := 0, slots := 0, locals := 43 } s m args below meth c G 5 0 0 (MQ below (xQi G r S) args s 0 0 (xA G)) S 7 [(0, .ref (G.2.2 22)), (1, .int a1), (2, .int a2), (3, .int a3), (4, .int a4)] [] := by
  intro j
  induction j with
  | zero => intro a1 a2 a3 a4 hf; exact nomatch (show (none : Option Int32) = _ from hf)
  | succ j ih =>
    intro a1 a2 a3 a4 hf H locs ls hP hS hl
    have hf : b_X1_reserve_7 n (l_X1_reserve_7 n S j) S a1 a2 a3 a4 = some r := hf
    unfold b_X1_reserve_7 at hf
    obtain ⟨hx, hb, hml, hown, hts, hE⟩ := id X
    refine lv_iload hx hb dX1_reserve_7 (lv_at hl 4 rfl) ?_
    refine lv_aload_n hx hb dX1_reserve_9 rfl (lv_at hl 0 rfl) ?_
    refine x_getR X hP fl_X1_15 (by decide) rfl rfl dX1_reserve_10 ?_
    refine x_cVi (As := []) (rest := [.int a4]) X hP hS kc_X1_25 (c_X7_floors l G  S  _ rfl) ⟨Nat.le_of_ble_eq_true rfl, Nat.le_of_ble_eq_true rfl⟩ (by decide) rfl rfl rfl hl.1 rfl (Nat.le_of_ble_eq_true rfl) ⟨Nat.zero_le _, Nat.zero_le _⟩ dX1_reserve_13 (fun H locs hP hS => ?_)
    refine lv_icmp_ge (tgt := 35) hx hb dX1_reserve_16 (by decide) (fun e1 => ?_) (fun e1 => ?_)
    · have hf := xif_t hf e1
      refine lv_aload_n hx hb dX1_reserve_35 rfl (lv_at hl 0 rfl) ?_
      refine lv_iload_n hx hb dX1_reserve_36 rfl (lv_at hl 1 rfl) ?_
      refine lv_iload_n hx hb dX1_reserve_37 rfl (lv_at hl 2 rfl) ?_
      obtain ⟨r2, h3, hf⟩ := xb_some hf
      refine x_cVi (As := [.int a1, .int a2]) (rest := []) X hP hS kc_X1_41 (c_X1_strength l G n S a1 a2 _ h3) ⟨Nat.le_of_ble_eq_true rfl, Nat.le_of_ble_eq_true rfl⟩ (by decide) rfl rfl rfl hl.1 rfl (Nat.le_of_ble_eq_true rfl) ⟨Nat.zero_le _, Nat.zero_le _⟩ dX1_reserve_38 (fun H locs hP hS => ?_)
      refine lv_iload_n hx hb dX1_reserve_41 rfl (lv_at hl 3 rfl) ?_
      refine lv_isub hx hb dX1_reserve_42 ?_
      exact x_iret X hr hlk hP hS  (Option.some.inj hf) (rfl) dX1_reserve_43
    · have hf := xif_f hf e1
      refine lv_iload_n hx hb dX1_reserve_19 rfl (lv_at hl 3 rfl) ?_
      refine lv_aload_n hx hb dX1_reserve_20 rfl (lv_at hl 0 rfl) ?_
      refine x_getR X hP fl_X1_9 (by decide) rfl rfl dX1_reserve_21 ?_
      refine lv_iload hx hb dX1_reserve_24 (lv_at hl 4 rfl) ?_
      obtain ⟨g4, hf⟩ := xg_some hf
      refine x_iald X hP (by decide) rfl g4 dX1_reserve_26 ?_
      refine lv_iadd hx hb dX1_reserve_27 ?_
      refine lv_istore_n (lv' := [(3, .int (a3 + (S.1 23 a4.toNatClampNeg))), (0, .ref (G.2.2 22)), (1, .int a1), (2, .int a2), (4, .int a4)]) hx hb dX1_reserve_28 rfl hl (by decide) rfl (fun ls hl => ?_)
      refine lv_iinc (v := a4 + 1) (lv' := [(4, .int (a4 + 1)), (3, .int (a3 + (S.1 23 a4.toNatClampNeg))), (0, .ref (G.2.2 22)), (1, .int a1), (2, .int a2)]) hx hb dX1_reserve_29 hl (k := 4) rfl rfl (by decide) rfl (fun ls hl => ?_)
      refine lv_goto (tgt := 7) hx hb dX1_reserve_32 (by decide) ?_
      exact ih a1 a2 (a3 + (S.1 23 a4.toNatClampNeg)) (a4 + 1) hf H locs ls hP hS (lv_sub hl [2, 3, 4, 1, 0] rfl)
def f_X1_reserve (n : Nat) (S : xS) (a1 : Int32) (a2 : Int32) : Option Int32 :=
  l_X1_reserve_7 n S n a1 a2 (0 : Int32) (a1 + (1 : Int32))
set_option maxHeartbeats 4000000 in
set_option maxRecDepth 100000 in
theorem c_X1_reserve (l : Launch) (G : xG) (n : Nat)  (S : xS) (a1 : Int32) (a2 : Int32) (r : Int32) (hf : f_X1_reserve n S a1 a2 = some r) : xMi l G yX1_reserve cX1_reserve 5 (some .int) 2 43 [.ref (G.2.2 22), .int a1, .int a2] S r S := by
  refine xMi_of (own := RX1) (by decide +kernel) rfl (Nat.le_of_ble_eq_true rfl) ?_
  intro p e s m args below meth c X hr hlk H locs ls hP hS hl
  have hl : lv_has ls 5 [(0, .ref (G.2.2 22)), (1, .int a1), (2, .int a2)] := hl
  obtain ⟨hx, hb, hml, hown, hts, hE⟩ := id X
  unfold f_X1_reserve at hf
  refine lv_iconst (v := 0) hx hb dX1_reserve_0 (by decide) ?_
  refine lv_istore_n (lv' := [(3, .int (0 : Int32)), (0, .ref (G.2.2 22)), (1, .int a1), (2, .int a2)]) hx hb dX1_reserve_1 rfl hl (by decide) rfl (fun ls hl => ?_)
  refine lv_iload_n hx hb dX1_reserve_2 rfl (lv_at hl 2 rfl) ?_
  refine lv_iconst (v := 1) hx hb dX1_reserve_3 (by decide) ?_
  refine lv_iadd hx hb dX1_reserve_4 ?_
  refine lv_istore (lv' := [(4, .int (a1 + (1 : Int32))), (3, .int (0 : Int32)), (0, .ref (G.2.2 22)), (1, .int a1), (2, .int a2)]) hx hb dX1_reserve_5 hl (by decide) rfl (fun ls hl => ?_)
  exact t_X1_reserve_7 X hr hlk   n a1 a2 (0 : Int32) (a1 + (1 : Int32)) hf H locs ls hP hS (lv_sub hl [2, 3, 4, 1, 0] rfl)
def b_X1_firstOverborne_2 (n : Nat) (k2 : Int32 → Int32 → Option Int32) (S : xS) (a1 : Int32) (a2 : Int32) : Option Int32 :=
  (if (f_X7_floors S) ≤ a2 then some (-1 : Int32) else (f_X1_reserve n S a2 a1).bind fun r2 => ((if 0 ≤ r2 then k2 a1 (a2 + 1) else some a2)))
def l_X1_firstOverborne_2 (n : Nat) (S : xS) : Nat → Int32 → Int32 → Option Int32
  | 0, _, _ => none
  | j + 1, a1, a2 => b_X1_firstOverborne_2 n (l_X1_firstOverborne_2 n S j) S a1 a2
set_option maxHeartbeats 4000000 in
set_option maxRecDepth 100000 in
theorem t_X1_firstOverborne_2 {p : Program} {l : Launch} {e : Env} {s : State} {m : MethodId} {args : Array Value} {below : List Frame} {meth : Method} {c : Code} {G : xG} (X : xC p s m args c G RX1 cX1_firstOverborne 3) (hr : meth.sig.returnType = (some .int)) (hlk : meth.locks = false) {n : Nat} {r : Int32} {S : xS} : ∀ (j : Nat) (a1 : Int32) (a2 : Int32), l_X1_firstOverborne_2 n S j a1 a2 = some r → xGo p l e { frames := 3, cells := 0, slots := 0, locals := 67 } s m args below meth c G 3 0 0 (MQ below (xQi G r S) args s 0 0 (xA G)) S 2 [(0, .ref (G.2.2 22)), (1, .int a1), (2, .int a2)] [] := by
  intro j
  induction j with
  | zero => intro a1 a2 hf; exact nomatch (show (none : Option Int32) = _ from hf)
  | succ j ih =>
    intro a1 a2 hf H locs ls hP hS hl
    have hf : b_X1_firstOverborne_2 n (l_X1_firstOverborne_2 n S j) S a1 a2 = some r := hf
    unfold b_X1_firstOverborne_2 at hf
    obtain ⟨hx, hb, hml, hown, hts, hE⟩ := id X
    refine lv_iload_n hx hb dX1_firstOverborne_2 rfl (lv_at hl 2 rfl) ?_
    refine lv_aload_n hx hb dX1_firstOverborne_3 rfl (lv_at hl 0 rfl) ?_
    refine x_getR X hP fl_X1_15 (by decide) rfl rfl dX1_firstOverborne_4 ?_
    refine x_cVi (As := []) (rest := [.int a2]) X hP hS kc_X1_25 (c_X7_floors l G  S  _ rfl) ⟨Nat.le_of_ble_eq_true rfl, Nat.le_of_ble_eq_true rfl⟩ (by decide) rfl rfl rfl hl.1 rfl (Nat.le_of_ble_eq_true rfl) ⟨Nat.zero_le _, Nat.zero_le _⟩ dX1_firstOverborne_7 (fun H locs hP hS => ?_)
    refine lv_icmp_ge (tgt := 30) hx hb dX1_firstOverborne_10 (by decide) (fun e1 => ?_) (fun e1 => ?_)
    · have hf := xif_t hf e1
      refine lv_iconst (v := (-1)) hx hb dX1_firstOverborne_30 (by decide) ?_
      exact x_iret X hr hlk hP hS  (Option.some.inj hf) (rfl) dX1_firstOverborne_31
    · have hf := xif_f hf e1
      refine lv_aload_n hx hb dX1_firstOverborne_13 rfl (lv_at hl 0 rfl) ?_
      refine lv_iload_n hx hb dX1_firstOverborne_14 rfl (lv_at hl 2 rfl) ?_
      refine lv_iload_n hx hb dX1_firstOverborne_15 rfl (lv_at hl 1 rfl) ?_
      obtain ⟨r2, h3, hf⟩ := xb_some hf
      refine x_cVi (As := [.int a2, .int a1]) (rest := []) X hP hS kc_X1_29 (c_X1_reserve l G n S a2 a1 _ h3) ⟨Nat.le_of_ble_eq_true rfl, Nat.le_of_ble_eq_true rfl⟩ (by decide) rfl rfl rfl hl.1 rfl (Nat.le_of_ble_eq_true rfl) ⟨Nat.zero_le _, Nat.zero_le _⟩ dX1_firstOverborne_16 (fun H locs hP hS => ?_)
      refine lv_if_ge (tgt := 24) hx hb dX1_firstOverborne_19 (by decide) (fun e4 => ?_) (fun e4 => ?_)
      · have hf := xif_t hf e4
        refine lv_iinc (v := a2 + 1) (lv' := [(2, .int (a2 + 1)), (0, .ref (G.2.2 22)), (1, .int a1)]) hx hb dX1_firstOverborne_24 hl (k := 2) rfl rfl (by decide) rfl (fun ls hl => ?_)
        refine lv_goto (tgt := 2) hx hb dX1_firstOverborne_27 (by decide) ?_
        exact ih a1 (a2 + 1) hf H locs ls hP hS (lv_sub hl [1, 2, 0] rfl)
      · have hf := xif_f hf e4
        refine lv_iload_n hx hb dX1_firstOverborne_22 rfl (lv_at hl 2 rfl) ?_
        exact x_iret X hr hlk hP hS  (Option.some.inj hf) (rfl) dX1_firstOverborne_23
def f_X1_firstOverborne (n : Nat) (S : xS) (a1 : Int32) : Option Int32 :=
  l_X1_firstOverborne_2 n S n a1 (0 : Int32)
set_option maxHeartbeats 4000000 in
set_option maxRecDepth 100000 in
theorem c_X1_firstOverborne (l : Launch) (G : xG) (n : Nat)  (S : xS) (a1 : Int32) (r : Int32) (hf : f_X1_firstOverborne n S a1 = some r) : xMi l G yX1_firstOverborne cX1_firstOverborne 3 (some .int) 3 67 [.ref (G.2.2 22), .int a1] S r S := by
  refine xMi_of (own := RX1) (by decide +kernel) rfl (Nat.le_of_ble_eq_true rfl) ?_
  intro p e s m args below meth c X hr hlk H locs ls hP hS hl
  have hl : lv_has ls 3 [(0, .ref (G.2.2 22)), (1, .int a1)] := hl
  obtain ⟨hx, hb, hml, hown, hts, hE⟩ := id X
  unfold f_X1_firstOverborne at hf
  refine lv_iconst (v := 0) hx hb dX1_firstOverborne_0 (by decide) ?_
  refine lv_istore_n (lv' := [(2, .int (0 : Int32)), (0, .ref (G.2.2 22)), (1, .int a1)]) hx hb dX1_firstOverborne_1 rfl hl (by decide) rfl (fun ls hl => ?_)
  exact t_X1_firstOverborne_2 X hr hlk   n a1 (0 : Int32) hf H locs ls hP hS (lv_sub hl [1, 2, 0] rfl)
def f_X8_safe (n : Nat) (S : xS) (a1 : Int32) : Option Int32 :=
  (if (f_X8_isMaster a1) = 0 then some (-2 : Int32) else (f_X1_firstOverborne n S a1).bind fun r2 => (some r2))
set_option maxHeartbeats 4000000 in
set_option maxRecDepth 100000 in
theorem c_X8_safe (l : Launch) (G : xG) (n : Nat)  (S : xS) (a1 : Int32) (r : Int32) (hf : f_X8_safe n S a1 = some r) : xMi l G yX8_safe cX8_safe 2 (some .int) 4 89 [.ref (G.2.2 0), .int a1] S r S := by
  refine xMi_of (own := RX8) (by decide +kernel) rfl (Nat.le_of_ble_eq_true rfl) ?_
  intro p e s m args below meth c X hr hlk H locs ls hP hS hl
  have hl : lv_has ls 2 [(0, .ref (G.2.2 0)), (1, .int a1)] := hl
  obtain ⟨hx, hb, hml, hown, hts, hE⟩ := id X
  unfold f_X8_safe at hf
  refine lv_iload_n hx hb dX8_safe_0 rfl (lv_at hl 1 rfl) ?_
  refine x_cSi (As := [.int a1]) (rest := []) X hP hS kc_X8_75 (c_X8_isMaster l G  S a1 _ rfl) ⟨Nat.le_of_ble_eq_true rfl, Nat.le_of_ble_eq_true rfl⟩ rfl hl.1 rfl (Nat.le_of_ble_eq_true rfl) ⟨Nat.zero_le _, Nat.zero_le _⟩ dX8_safe_1 (fun H locs hP hS => ?_)
  refine lv_if_eq (tgt := 18) hx hb dX8_safe_4 (by decide) (fun e1 => ?_) (fun e1 => ?_)
  · have hf := xif_t hf e1
    refine lv_bipush (v := (-2)) hx hb dX8_safe_18 (by decide) ?_
    exact x_iret X hr hlk hP hS  (Option.some.inj hf) (rfl) dX8_safe_20
  · have hf := xif_f hf e1
    refine lv_aload_n hx hb dX8_safe_7 rfl (lv_at hl 0 rfl) ?_
    refine x_getR X hP fl_X8_64 (by decide) rfl rfl dX8_safe_8 ?_
    refine lv_iload_n hx hb dX8_safe_11 rfl (lv_at hl 1 rfl) ?_
    obtain ⟨r2, h3, hf⟩ := xb_some hf
    refine x_cVi (As := [.int a1]) (rest := []) X hP hS kc_X8_234 (c_X1_firstOverborne l G n S a1 _ h3) ⟨Nat.le_of_ble_eq_true rfl, Nat.le_of_ble_eq_true rfl⟩ (by decide) rfl rfl rfl hl.1 rfl (Nat.le_of_ble_eq_true rfl) ⟨Nat.zero_le _, Nat.zero_le _⟩ dX8_safe_12 (fun H locs hP hS => ?_)
    refine lv_goto (tgt := 20) hx hb dX8_safe_15 (by decide) ?_
    exact x_iret X hr hlk hP hS  (Option.some.inj hf) (rfl) dX8_safe_20
def b_X9_safeBy_35 (n : Nat) (k8 : xS → Int32 → Int32 → Int32 → Int32 → Option (Int32 × xS)) (k35 : xS → Int32 → Int32 → Int32 → Int32 → Int32 → Int32 → Option (Int32 × xS)) (S : xS) (a1 : Int32) (a2 : Int32) (a3 : Int32) (a4 : Int32) (a5 : Int32) (a6 : Int32) : Option (Int32 × xS) :=
  (if a3 ≤ a6 then (f_X9_bearsOf n S a4 a1).bind fun r6 => ((if a5 ≤ r6 then k8 S a1 a2 a3 (a4 + 1) else some (a4, S))) else xg (xin a6 10) (k35 S a1 a2 a3 a4 (a5 + (S.1 44 a6.toNatClampNeg)) (a6 + 1)))
def l_X9_safeBy_35 (n : Nat) (k8 : xS → Int32 → Int32 → Int32 → Int32 → Option (Int32 × xS)) : Nat → xS → Int32 → Int32 → Int32 → Int32 → Int32 → Int32 → Option (Int32 × xS)
  | 0, _, _, _, _, _, _, _ => none
  | j + 1, S, a1, a2, a3, a4, a5, a6 => b_X9_safeBy_35 n k8 (l_X9_safeBy_35 n k8 j) S a1 a2 a3 a4 a5 a6
set_option maxHeartbeats 4000000 in
set_option maxRecDepth 100000 in
theorem t_X9_safeBy_35 {p : Program} {l : Launch} {e : Env} {s : State} {m : MethodId} {args : Array Value} {below : List Frame} {meth : Method} {c : Code} {G : xG} (X : xC p s m args c G RX9 cX9_safeBy 7) (hr : meth.sig.returnType = (some .int)) (hlk : meth.locks = false) {n : Nat} {r : Int32} {S' : xS} {k8 : xS → Int32 → Int32 → Int32 → Int32 → Option (Int32 × xS)} (hk8 : ∀ (S : xS) (a1 : Int32) (a2 : Int32) (a3 : Int32) (a4 : Int32), k8 S a1 a2 a3 a4 = some (r, S') → xGo p l e { frames := 5, cells := 0, slots := 0, locals := 113 } s m args below meth c G 7 0 0 (MQ below (xQi G r S') args s 0 0 (xA G)) S 8 [(0, .ref (G.2.2 34)), (1, .int a1), (2, .int a2), (3, .int a3), (4, .int a4)] []) : ∀ (j : Nat) (S : xS) (a1 : Int32) (a2 : Int32) (a3 : Int32) (a4 : Int32) (a5 : Int32) (a6 : Int32), l_X9_safeBy_35 n k8 j S a1 a2 a3 a4 a5 a6 = some (r, S') → xGo p l e { frames := 5, cells := 0, slots := 0, locals := 113 } s m args below meth c G 7 0 0 (MQ below (xQi G r S') args s 0 0 (xA G)) S 35 [(0, .ref (G.2.2 34)), (1, .int a1), (2, .int a2), (3, .int a3), (4, .int a4), (5, .int a5), (6, .int a6)] [] := by
  intro j
  induction j with
  | zero => intro S a1 a2 a3 a4 a5 a6 hf; exact nomatch (show (none : Option (Int32 × xS)) = _ from hf)
  | succ j ih =>
    intro S a1 a2 a3 a4 a5 a6 hf H locs ls hP hS hl
    have hf : b_X9_safeBy_35 n k8 (l_X9_safeBy_35 n k8 j) S a1 a2 a3 a4 a5 a6 = some (r, S') := hf
    unfold b_X9_safeBy_35 at hf
    obtain ⟨hx, hb, hml, hown, hts, hE⟩ := id X
    refine lv_iload hx hb dX9_safeBy_35 (lv_at hl 6 rfl) ?_
    refine lv_iload_n hx hb dX9_safeBy_37 rfl (lv_at hl 3 rfl) ?_
    refine lv_icmp_ge (tgt := 59) hx hb dX9_safeBy_38 (by decide) (fun e5 => ?_) (fun e5 => ?_)
    · have hf := xif_t hf e5
      refine lv_iload hx hb dX9_safeBy_59 (lv_at hl 5 rfl) ?_
      refine lv_aload_n hx hb dX9_safeBy_61 rfl (lv_at hl 0 rfl) ?_
      refine lv_iload hx hb dX9_safeBy_62 (lv_at hl 4 rfl) ?_
      refine lv_iload_n hx hb dX9_safeBy_64 rfl (lv_at hl 1 rfl) ?_
      obtain ⟨r6, h7, hf⟩ := xb_some hf
      refine x_cVi (As := [.int a4, .int a1]) (rest := [.int a5]) X hP hS kc_X9_179 (c_X9_bearsOf l G n S a4 a1 _ h7) ⟨Nat.le_of_ble_eq_true rfl, Nat.le_of_ble_eq_true rfl⟩ (by decide) rfl rfl rfl hl.1 rfl (Nat.le_of_ble_eq_true rfl) ⟨Nat.zero_le _, Nat.zero_le _⟩ dX9_safeBy_65 (fun H locs hP hS => ?_)
      refine lv_icmp_le (tgt := 74) hx hb dX9_safeBy_68 (by decide) (fun e8 => ?_) (fun e8 => ?_)
      · have hf := xif_t hf e8
        refine lv_iinc (v := a4 + 1) (lv' := [(4, .int (a4 + 1)), (0, .ref (G.2.2 34)), (1, .int a1), (2, .int a2), (3, .int a3), (5, .int a5), (6, .int a6)]) hx hb dX9_safeBy_74 hl (k := 4) rfl rfl (by decide) rfl (fun ls hl => ?_)
        refine lv_goto (tgt := 8) hx hb dX9_safeBy_77 (by decide) ?_
        exact hk8 S a1 a2 a3 (a4 + 1) hf H locs ls hP hS (lv_sub hl [1, 2, 3, 4, 0] rfl)
      · have hf := xif_f hf e8
        refine lv_iload hx hb dX9_safeBy_71 (lv_at hl 4 rfl) ?_
        exact x_iret X hr hlk hP hS  ((Prod.mk.inj (Option.some.inj hf)).1) ((Prod.mk.inj (Option.some.inj hf)).2) dX9_safeBy_73
    · have hf := xif_f hf e5
      refine lv_iload hx hb dX9_safeBy_41 (lv_at hl 5 rfl) ?_
      refine lv_aload_n hx hb dX9_safeBy_43 rfl (lv_at hl 0 rfl) ?_
      refine x_getR X hP fl_X9_37 (by decide) rfl rfl dX9_safeBy_44 ?_
      refine lv_iload hx hb dX9_safeBy_47 (lv_at hl 6 rfl) ?_
      obtain ⟨g9, hf⟩ := xg_some hf
      refine x_iald X hP (by decide) rfl g9 dX9_safeBy_49 ?_
      refine lv_iadd hx hb dX9_safeBy_50 ?_
      refine lv_istore (lv' := [(5, .int (a5 + (S.1 44 a6.toNatClampNeg))), (0, .ref (G.2.2 34)), (1, .int a1), (2, .int a2), (3, .int a3), (4, .int a4), (6, .int a6)]) hx hb dX9_safeBy_51 hl (by decide) rfl (fun ls hl => ?_)
      refine lv_iinc (v := a6 + 1) (lv' := [(6, .int (a6 + 1)), (5, .int (a5 + (S.1 44 a6.toNatClampNeg))), (0, .ref (G.2.2 34)), (1, .int a1), (2, .int a2), (3, .int a3), (4, .int a4)]) hx hb dX9_safeBy_53 hl (k := 6) rfl rfl (by decide) rfl (fun ls hl => ?_)
      refine lv_goto (tgt := 35) hx hb dX9_safeBy_56 (by decide) ?_
      exact ih S a1 a2 a3 a4 (a5 + (S.1 44 a6.toNatClampNeg)) (a6 + 1) hf H locs ls hP hS (lv_sub hl [2, 3, 4, 5, 6, 1, 0] rfl)
def b_X9_safeBy_8 (n : Nat) (k8 : xS → Int32 → Int32 → Int32 → Int32 → Option (Int32 × xS)) (S : xS) (a1 : Int32) (a2 : Int32) (a3 : Int32) (a4 : Int32) : Option (Int32 × xS) :=
  (if a3 ≤ a4 then some ((-1 : Int32), S) else (if (a3 - (1 : Int32)) ≤ a4 then l_X9_safeBy_35 n k8 n S a1 a2 a3 a4 (0 : Int32) (a4 + (1 : Int32)) else l_X9_safeBy_35 n k8 n S a1 a2 a3 a4 a2 (a4 + (1 : Int32))))
def l_X9_safeBy_8 (n : Nat) : Nat → xS → Int32 → Int32 → Int32 → Int32 → Option (Int32 × xS)
  | 0, _, _, _, _, _ => none
  | j + 1, S, a1, a2, a3, a4 => b_X9_safeBy_8 n (l_X9_safeBy_8 n j) S a1 a2 a3 a4
set_option maxHeartbeats 4000000 in
set_option maxRecDepth 100000 in
theorem t_X9_safeBy_8 {p : Program} {l : Launch} {e : Env} {s : State} {m : MethodId} {args : Array Value} {below : List Frame} {meth : Method} {c : Code} {G : xG} (X : xC p s m args c G RX9 cX9_safeBy 7) (hr : meth.sig.returnType = (some .int)) (hlk : meth.locks = false) {n : Nat} {r : Int32} {S' : xS} : ∀ (j : Nat) (S : xS) (a1 : Int32) (a2 : Int32) (a3 : Int32) (a4 : Int32), l_X9_safeBy_8 n j S a1 a2 a3 a4 = some (r, S') → xGo p l e { frames := 5, cells := 0, slots := 0, locals := 113 } s m args below meth c G 7 0 0 (MQ below (xQi G r S') args s 0 0 (xA G)) S 8 [(0, .ref (G.2.2 34)), (1, .int a1), (2, .int a2), (3, .int a3), (4, .int a4)] [] := by
  intro j
  induction j with
  | zero => intro S a1 a2 a3 a4 hf; exact nomatch (show (none : Option (Int32 × xS)) = _ from hf)
  | succ j ih =>
    intro S a1 a2 a3 a4 hf H locs ls hP hS hl
    have hf : b_X9_safeBy_8 n (l_X9_safeBy_8 n j) S a1 a2 a3 a4 = some (r, S') := hf
    unfold b_X9_safeBy_8 at hf
    obtain ⟨hx, hb, hml, hown, hts, hE⟩ := id X
    refine lv_iload hx hb dX9_safeBy_8 (lv_at hl 4 rfl) ?_
    refine lv_iload_n hx hb dX9_safeBy_10 rfl (lv_at hl 3 rfl) ?_
    refine lv_icmp_ge (tgt := 80) hx hb dX9_safeBy_11 (by decide) (fun e3 => ?_) (fun e3 => ?_)
    · have hf := xif_t hf e3
      refine lv_iconst (v := (-1)) hx hb dX9_safeBy_80 (by decide) ?_
      exact x_iret X hr hlk hP hS  ((Prod.mk.inj (Option.some.inj hf)).1) ((Prod.mk.inj (Option.some.inj hf)).2) dX9_safeBy_81
    · have hf := xif_f hf e3
      refine lv_iload hx hb dX9_safeBy_14 (lv_at hl 4 rfl) ?_
      refine lv_iload_n hx hb dX9_safeBy_16 rfl (lv_at hl 3 rfl) ?_
      refine lv_iconst (v := 1) hx hb dX9_safeBy_17 (by decide) ?_
      refine lv_isub hx hb dX9_safeBy_18 ?_
      refine lv_icmp_ge (tgt := 26) hx hb dX9_safeBy_19 (by decide) (fun e4 => ?_) (fun e4 => ?_)
      · have hf := xif_t hf e4
        refine lv_iconst (v := 0) hx hb dX9_safeBy_26 (by decide) ?_
        refine lv_istore (lv' := [(5, .int (0 : Int32)), (0, .ref (G.2.2 34)), (1, .int a1), (2, .int a2), (3, .int a3), (4, .int a4)]) hx hb dX9_safeBy_27 hl (by decide) rfl (fun ls hl => ?_)
        refine lv_iload hx hb dX9_safeBy_29 (lv_at hl 5 rfl) ?_
        refine lv_iconst (v := 1) hx hb dX9_safeBy_31 (by decide) ?_
        refine lv_iadd hx hb dX9_safeBy_32 ?_
        refine lv_istore (lv' := [(6, .int (a4 + (1 : Int32))), (5, .int (0 : Int32)), (0, .ref (G.2.2 34)), (1, .int a1), (2, .int a2), (3, .int a3), (4, .int a4)]) hx hb dX9_safeBy_33 hl (by decide) rfl (fun ls hl => ?_)
        exact t_X9_safeBy_35 X hr hlk  ih n S a1 a2 a3 a4 (0 : Int32) (a4 + (1 : Int32)) hf H locs ls hP hS (lv_sub hl [2, 3, 4, 5, 6, 1, 0] rfl)
      · have hf := xif_f hf e4
        refine lv_iload_n hx hb dX9_safeBy_22 rfl (lv_at hl 2 rfl) ?_
        refine lv_goto (tgt := 27) hx hb dX9_safeBy_23 (by decide) ?_
        refine lv_istore (lv' := [(5, .int a2), (0, .ref (G.2.2 34)), (1, .int a1), (2, .int a2), (3, .int a3), (4, .int a4)]) hx hb dX9_safeBy_27 hl (by decide) rfl (fun ls hl => ?_)
        refine lv_iload hx hb dX9_safeBy_29 (lv_at hl 5 rfl) ?_
        refine lv_iconst (v := 1) hx hb dX9_safeBy_31 (by decide) ?_
        refine lv_iadd hx hb dX9_safeBy_32 ?_
        refine lv_istore (lv' := [(6, .int (a4 + (1 : Int32))), (5, .int a2), (0, .ref (G.2.2 34)), (1, .int a1), (2, .int a2), (3, .int a3), (4, .int a4)]) hx hb dX9_safeBy_33 hl (by decide) rfl (fun ls hl => ?_)
        exact t_X9_safeBy_35 X hr hlk  ih n S a1 a2 a3 a4 a2 (a4 + (1 : Int32)) hf H locs ls hP hS (lv_sub hl [2, 3, 4, 5, 6, 1, 0] rfl)
def f_X9_safeBy (n : Nat) (S : xS) (a1 : Int32) (a2 : Int32) : Option (Int32 × xS) :=
  (f_X9_floorsNow n S).bind fun r1 => (l_X9_safeBy_8 n n r1.2 a1 a2 r1.1 (0 : Int32))
set_option maxHeartbeats 4000000 in
set_option maxRecDepth 100000 in
theorem c_X9_safeBy (l : Launch) (G : xG) (n : Nat)  (S : xS) (a1 : Int32) (a2 : Int32) (r : Int32) (S' : xS) (hf : f_X9_safeBy n S a1 a2 = some (r, S')) : xMi l G yX9_safeBy cX9_safeBy 7 (some .int) 5 113 [.ref (G.2.2 34), .int a1, .int a2] S r S' := by
  refine xMi_of (own := RX9) (by decide +kernel) rfl (Nat.le_of_ble_eq_true rfl) ?_
  intro p e s m args below meth c X hr hlk H locs ls hP hS hl
  have hl : lv_has ls 7 [(0, .ref (G.2.2 34)), (1, .int a1), (2, .int a2)] := hl
  obtain ⟨hx, hb, hml, hown, hts, hE⟩ := id X
  unfold f_X9_safeBy at hf
  refine lv_aload_n hx hb dX9_safeBy_0 rfl (lv_at hl 0 rfl) ?_
  obtain ⟨r1, h2, hf⟩ := xb_some hf
  refine x_cVi (As := []) (rest := []) X hP hS kc_X9_97 (c_X9_floorsNow l G n S  r1.1 r1.2 h2) ⟨Nat.le_of_ble_eq_true rfl, Nat.le_of_ble_eq_true rfl⟩ (by decide) rfl rfl rfl hl.1 rfl (Nat.le_of_ble_eq_true rfl) ⟨Nat.zero_le _, Nat.zero_le _⟩ dX9_safeBy_1 (fun H locs hP hS => ?_)
  refine lv_istore_n (lv' := [(3, .int r1.1), (0, .ref (G.2.2 34)), (1, .int a1), (2, .int a2)]) hx hb dX9_safeBy_4 rfl hl (by decide) rfl (fun ls hl => ?_)
  refine lv_iconst (v := 0) hx hb dX9_safeBy_5 (by decide) ?_
  refine lv_istore (lv' := [(4, .int (0 : Int32)), (3, .int r1.1), (0, .ref (G.2.2 34)), (1, .int a1), (2, .int a2)]) hx hb dX9_safeBy_6 hl (by decide) rfl (fun ls hl => ?_)
  exact t_X9_safeBy_8 X hr hlk   n r1.2 a1 a2 r1.1 (0 : Int32) hf H locs ls hP hS (lv_sub hl [2, 3, 4, 1, 0] rfl)
def f_X9_safe (n : Nat) (S : xS) (a1 : Int32) : Option (Int32 × xS) :=
  (if (f_X9_in a1 (0 : Int32) (2 : Int32)) = 0 then some ((-2 : Int32), S) else (f_X9_safeBy n S a1 (0 : Int32)).bind fun r2 => (some (r2.1, r2.2)))
set_option maxHeartbeats 4000000 in
set_option maxRecDepth 100000 in
theorem c_X9_safe (l : Launch) (G : xG) (n : Nat)  (S : xS) (a1 : Int32) (r : Int32) (S' : xS) (hf : f_X9_safe n S a1 = some (r, S')) : xMi l G yX9_safe cX9_safe 2 (some .int) 6 139 [.ref (G.2.2 34), .int a1] S r S' := by
  refine xMi_of (own := RX9) (by decide +kernel) rfl (Nat.le_of_ble_eq_true rfl) ?_
  intro p e s m args below meth c X hr hlk H locs ls hP hS hl
  have hl : lv_has ls 2 [(0, .ref (G.2.2 34)), (1, .int a1)] := hl
  obtain ⟨hx, hb, hml, hown, hts, hE⟩ := id X
  unfold f_X9_safe at hf
  refine lv_iload_n hx hb dX9_safe_0 rfl (lv_at hl 1 rfl) ?_
  refine lv_iconst (v := 0) hx hb dX9_safe_1 (by decide) ?_
  refine lv_iconst (v := 2) hx hb dX9_safe_2 (by decide) ?_
  refine x_cSi (As := [.int a1, .int (0 : Int32), .int (2 : Int32)]) (rest := []) X hP hS kc_X9_68 (c_X9_in l G  S a1 (0 : Int32) (2 : Int32) _ rfl) ⟨Nat.le_of_ble_eq_true rfl, Nat.le_of_ble_eq_true rfl⟩ rfl hl.1 rfl (Nat.le_of_ble_eq_true rfl) ⟨Nat.zero_le _, Nat.zero_le _⟩ dX9_safe_3 (fun H locs hP hS => ?_)
  refine lv_if_eq (tgt := 18) hx hb dX9_safe_6 (by decide) (fun e1 => ?_) (fun e1 => ?_)
  · have hf := xif_t hf e1
    refine lv_bipush (v := (-2)) hx hb dX9_safe_18 (by decide) ?_
    exact x_iret X hr hlk hP hS  ((Prod.mk.inj (Option.some.inj hf)).1) ((Prod.mk.inj (Option.some.inj hf)).2) dX9_safe_20
  · have hf := xif_f hf e1
    refine lv_aload_n hx hb dX9_safe_9 rfl (lv_at hl 0 rfl) ?_
    refine lv_iload_n hx hb dX9_safe_10 rfl (lv_at hl 1 rfl) ?_
    refine lv_iconst (v := 0) hx hb dX9_safe_11 (by decide) ?_
    obtain ⟨r2, h3, hf⟩ := xb_some hf
    refine x_cVi (As := [.int a1, .int (0 : Int32)]) (rest := []) X hP hS kc_X9_182 (c_X9_safeBy l G n S a1 (0 : Int32) r2.1 r2.2 h3) ⟨Nat.le_of_ble_eq_true rfl, Nat.le_of_ble_eq_true rfl⟩ (by decide) rfl rfl rfl hl.1 rfl (Nat.le_of_ble_eq_true rfl) ⟨Nat.zero_le _, Nat.zero_le _⟩ dX9_safe_12 (fun H locs hP hS => ?_)
    refine lv_goto (tgt := 20) hx hb dX9_safe_15 (by decide) ?_
    exact x_iret X hr hlk hP hS  ((Prod.mk.inj (Option.some.inj hf)).1) ((Prod.mk.inj (Option.some.inj hf)).2) dX9_safe_20
