def b_X1_spareOnTop_34 (n : Nat) (k15 : Int32 → Int32 → Int32 → Option Int32) (k34 : Int32 → Int32 → Int32 → Int32 → Option Int32) (S : xS) (a1 : Int32) (a2 : Int32) (a3 : Int32) (a4 : Int32) : Option Int32 :=
  (if a1 ≤ a4 then k15 a1 a2 (a3 + 1) else (f_X1_reserve n S a4 a3).bind fun r6 => (k34 a1 (xmin a2 r6) a3 (a4 + 1)))
def l_X1_spareOnTop_34 (n : Nat) (k15 : Int32 → Int32 → Int32 → Option Int32) (S : xS) : Nat → Int32 → Int32 → Int32 → Int32 → Option Int32
  | 0, _, _, _, _ => none
  | j + 1, a1, a2, a3, a4 => b_X1_spareOnTop_34 n k15 (l_X1_spareOnTop_34 n k15 S j) S a1 a2 a3 a4
set_option maxHeartbeats 4000000 in
set_option maxRecDepth 100000 in
theorem t_X1_spareOnTop_34 {p : Program} {l : Launch} {e : Env} {s : State} {m : MethodId} {args : Array Value} {below : List Frame} {meth : Method} {c : Code} {G : xG} (X : xC p s m args c G RX1 cX1_spareOnTop 5) (hr : meth.sig.returnType = (some .int)) (hlk : meth.locks = false) {n : Nat} {r : Int32} {S : xS} {k15 : Int32 → Int32 → Int32 → Option Int32} (hk15 : ∀ (a1 : Int32) (a2 : Int32) (a3 : Int32), k15 a1 a2 a3 = some r → xGo p l e { frames := 4, cells := 0, slots := 0, locals := 89 } s m args below meth c G 5 0 0 (MQ below (xQi G r S) args s 0 0 (xA G)) S 15 [(0, .ref (G.2.2 22)), (1, .int a1), (2, .int a2), (3, .int a3)] []) : ∀ (j : Nat) (a1 : Int32) (a2 : Int32) (a3 : Int32) (a4 : Int32), l_X1_spareOnTop_34 n k15 S j a1 a2 a3 a4 = some r → xGo p l e { frames := 4, cells := 0, slots := 0, locals := 89 } s m args below meth c G 5 0 0 (MQ below (xQi G r S) args s 0 0 (xA G)) S 34 [(0, .ref (G.2.2 22)), (1, .int a1), (2, .int a2), (3, .int a3), (4, .int a4)] [] := by
  intro j
  induction j with
  | zero => intro a1 a2 a3 a4 hf; exact nomatch (show (none : Option Int32) = _ from hf)
  | succ j ih =>
    intro a1 a2 a3 a4 hf H locs ls hP hS hl
    have hf : b_X1_spareOnTop_34 n k15 (l_X1_spareOnTop_34 n k15 S j) S a1 a2 a3 a4 = some r := hf
    unfold b_X1_spareOnTop_34 at hf
    obtain ⟨hx, hb, hml, hown, hts, hE⟩ := id X
    refine lv_iload hx hb dX1_spareOnTop_34 (lv_at hl 4 rfl) ?_
    refine lv_iload_n hx hb dX1_spareOnTop_36 rfl (lv_at hl 1 rfl) ?_
    refine lv_icmp_ge (tgt := 58) hx hb dX1_spareOnTop_37 (by decide) (fun e5 => ?_) (fun e5 => ?_)
    · have hf := xif_t hf e5
      refine lv_iinc (v := a3 + 1) (lv' := [(3, .int (a3 + 1)), (0, .ref (G.2.2 22)), (1, .int a1), (2, .int a2), (4, .int a4)]) hx hb dX1_spareOnTop_58 hl (k := 3) rfl rfl (by decide) rfl (fun ls hl => ?_)
      refine lv_goto (tgt := 15) hx hb dX1_spareOnTop_61 (by decide) ?_
      exact hk15 a1 a2 (a3 + 1) hf H locs ls hP hS (lv_sub hl [1, 2, 3, 0] rfl)
    · have hf := xif_f hf e5
      refine lv_iload_n hx hb dX1_spareOnTop_40 rfl (lv_at hl 2 rfl) ?_
      refine lv_aload_n hx hb dX1_spareOnTop_41 rfl (lv_at hl 0 rfl) ?_
      refine lv_iload hx hb dX1_spareOnTop_42 (lv_at hl 4 rfl) ?_
      refine lv_iload_n hx hb dX1_spareOnTop_44 rfl (lv_at hl 3 rfl) ?_
      obtain ⟨r6, h7, hf⟩ := xb_some hf
      refine x_cVi (As := [.int a4, .int a3]) (rest := [.int a2]) X hP hS kc_X1_29 (c_X1_reserve l G n S a4 a3 _ h7) ⟨Nat.le_of_ble_eq_true rfl, Nat.le_of_ble_eq_true rfl⟩ (by decide) rfl rfl rfl hl.1 rfl (Nat.le_of_ble_eq_true rfl) ⟨Nat.zero_le _, Nat.zero_le _⟩ dX1_spareOnTop_45 (fun H locs hP hS => ?_)
      refine x_mmin X kw_695 hl.1 ⟨Nat.le_of_ble_eq_true rfl, Nat.le_of_ble_eq_true rfl⟩ ⟨Nat.zero_le _, Nat.zero_le _⟩ dX1_spareOnTop_48 ?_
      refine lv_istore_n (lv' := [(2, .int (xmin a2 r6)), (0, .ref (G.2.2 22)), (1, .int a1), (3, .int a3), (4, .int a4)]) hx hb dX1_spareOnTop_51 rfl hl (by decide) rfl (fun ls hl => ?_)
      refine lv_iinc (v := a4 + 1) (lv' := [(4, .int (a4 + 1)), (2, .int (xmin a2 r6)), (0, .ref (G.2.2 22)), (1, .int a1), (3, .int a3)]) hx hb dX1_spareOnTop_52 hl (k := 4) rfl rfl (by decide) rfl (fun ls hl => ?_)
      refine lv_goto (tgt := 34) hx hb dX1_spareOnTop_55 (by decide) ?_
      exact ih a1 (xmin a2 r6) a3 (a4 + 1) hf H locs ls hP hS (lv_sub hl [2, 3, 1, 4, 0] rfl)
def b_X1_spareOnTop_15 (n : Nat) (k15 : Int32 → Int32 → Int32 → Option Int32) (S : xS) (a1 : Int32) (a2 : Int32) (a3 : Int32) : Option Int32 :=
  (if (3 : Int32) ≤ a3 then some a2 else (f_X1_firstOverborne n S a3).bind fun r2 => ((if r2 = (-1 : Int32) then l_X1_spareOnTop_34 n k15 S n a1 a2 a3 (0 : Int32) else some (-1 : Int32))))
def l_X1_spareOnTop_15 (n : Nat) (S : xS) : Nat → Int32 → Int32 → Int32 → Option Int32
  | 0, _, _, _ => none
  | j + 1, a1, a2, a3 => b_X1_spareOnTop_15 n (l_X1_spareOnTop_15 n S j) S a1 a2 a3
set_option maxHeartbeats 4000000 in
set_option maxRecDepth 100000 in
theorem t_X1_spareOnTop_15 {p : Program} {l : Launch} {e : Env} {s : State} {m : MethodId} {args : Array Value} {below : List Frame} {meth : Method} {c : Code} {G : xG} (X : xC p s m args c G RX1 cX1_spareOnTop 5) (hr : meth.sig.returnType = (some .int)) (hlk : meth.locks = false) {n : Nat} {r : Int32} {S : xS} : ∀ (j : Nat) (a1 : Int32) (a2 : Int32) (a3 : Int32), l_X1_spareOnTop_15 n S j a1 a2 a3 = some r → xGo p l e { frames := 4, cells := 0, slots := 0, locals := 89 } s m args below meth c G 5 0 0 (MQ below (xQi G r S) args s 0 0 (xA G)) S 15 [(0, .ref (G.2.2 22)), (1, .int a1), (2, .int a2), (3, .int a3)] [] := by
  intro j
  induction j with
  | zero => intro a1 a2 a3 hf; exact nomatch (show (none : Option Int32) = _ from hf)
  | succ j ih =>
    intro a1 a2 a3 hf H locs ls hP hS hl
    have hf : b_X1_spareOnTop_15 n (l_X1_spareOnTop_15 n S j) S a1 a2 a3 = some r := hf
    unfold b_X1_spareOnTop_15 at hf
    obtain ⟨hx, hb, hml, hown, hts, hE⟩ := id X
    refine lv_iload_n hx hb dX1_spareOnTop_15 rfl (lv_at hl 3 rfl) ?_
    refine lv_iconst (v := 3) hx hb dX1_spareOnTop_16 (by decide) ?_
    refine lv_icmp_ge (tgt := 64) hx hb dX1_spareOnTop_17 (by decide) (fun e1 => ?_) (fun e1 => ?_)
    · have hf := xif_t hf e1
      refine lv_iload_n hx hb dX1_spareOnTop_64 rfl (lv_at hl 2 rfl) ?_
      exact x_iret X hr hlk hP hS  (Option.some.inj hf) (rfl) dX1_spareOnTop_65
    · have hf := xif_f hf e1
      refine lv_aload_n hx hb dX1_spareOnTop_20 rfl (lv_at hl 0 rfl) ?_
      refine lv_iload_n hx hb dX1_spareOnTop_21 rfl (lv_at hl 3 rfl) ?_
      obtain ⟨r2, h3, hf⟩ := xb_some hf
      refine x_cVi (As := [.int a3]) (rest := []) X hP hS kc_X1_33 (c_X1_firstOverborne l G n S a3 _ h3) ⟨Nat.le_of_ble_eq_true rfl, Nat.le_of_ble_eq_true rfl⟩ (by decide) rfl rfl rfl hl.1 rfl (Nat.le_of_ble_eq_true rfl) ⟨Nat.zero_le _, Nat.zero_le _⟩ dX1_spareOnTop_22 (fun H locs hP hS => ?_)
      refine lv_iconst (v := (-1)) hx hb dX1_spareOnTop_25 (by decide) ?_
      refine lv_icmp_eq (tgt := 31) hx hb dX1_spareOnTop_26 (by decide) (fun e4 => ?_) (fun e4 => ?_)
      · have hf := xif_t hf e4
        refine lv_iconst (v := 0) hx hb dX1_spareOnTop_31 (by decide) ?_
        refine lv_istore (lv' := [(4, .int (0 : Int32)), (0, .ref (G.2.2 22)), (1, .int a1), (2, .int a2), (3, .int a3)]) hx hb dX1_spareOnTop_32 hl (by decide) rfl (fun ls hl => ?_)
        exact t_X1_spareOnTop_34 X hr hlk  ih n a1 a2 a3 (0 : Int32) hf H locs ls hP hS (lv_sub hl [1, 2, 3, 4, 0] rfl)
      · have hf := xif_f hf e4
        refine lv_iconst (v := (-1)) hx hb dX1_spareOnTop_29 (by decide) ?_
        exact x_iret X hr hlk hP hS  (Option.some.inj hf) (rfl) dX1_spareOnTop_30
def f_X1_spareOnTop (n : Nat) (S : xS)  : Option Int32 :=
  l_X1_spareOnTop_15 n S n ((f_X7_floors S) - (1 : Int32)) (99 : Int32) (0 : Int32)
set_option maxHeartbeats 4000000 in
set_option maxRecDepth 100000 in
theorem c_X1_spareOnTop (l : Launch) (G : xG) (n : Nat)  (S : xS)  (r : Int32) (hf : f_X1_spareOnTop n S  = some r) : xMi l G yX1_spareOnTop cX1_spareOnTop 5 (some .int) 4 89 [.ref (G.2.2 22)] S r S := by
  refine xMi_of (own := RX1) (by decide +kernel) rfl (Nat.le_of_ble_eq_true rfl) ?_
  intro p e s m args below meth c X hr hlk H locs ls hP hS hl
  have hl : lv_has ls 5 [(0, .ref (G.2.2 22))] := hl
  obtain ⟨hx, hb, hml, hown, hts, hE⟩ := id X
  unfold f_X1_spareOnTop at hf
  refine lv_aload_n hx hb dX1_spareOnTop_0 rfl (lv_at hl 0 rfl) ?_
  refine x_getR X hP fl_X1_15 (by decide) rfl rfl dX1_spareOnTop_1 ?_
  refine x_cVi (As := []) (rest := []) X hP hS kc_X1_25 (c_X7_floors l G  S  _ rfl) ⟨Nat.le_of_ble_eq_true rfl, Nat.le_of_ble_eq_true rfl⟩ (by decide) rfl rfl rfl hl.1 rfl (Nat.le_of_ble_eq_true rfl) ⟨Nat.zero_le _, Nat.zero_le _⟩ dX1_spareOnTop_4 (fun H locs hP hS => ?_)
  refine lv_iconst (v := 1) hx hb dX1_spareOnTop_7 (by decide) ?_
  refine lv_isub hx hb dX1_spareOnTop_8 ?_
  refine lv_istore_n (lv' := [(1, .int ((f_X7_floors S) - (1 : Int32))), (0, .ref (G.2.2 22))]) hx hb dX1_spareOnTop_9 rfl hl (by decide) rfl (fun ls hl => ?_)
  refine lv_bipush (v := 99) hx hb dX1_spareOnTop_10 (by decide) ?_
  refine lv_istore_n (lv' := [(2, .int (99 : Int32)), (1, .int ((f_X7_floors S) - (1 : Int32))), (0, .ref (G.2.2 22))]) hx hb dX1_spareOnTop_12 rfl hl (by decide) rfl (fun ls hl => ?_)
  refine lv_iconst (v := 0) hx hb dX1_spareOnTop_13 (by decide) ?_
  refine lv_istore_n (lv' := [(3, .int (0 : Int32)), (2, .int (99 : Int32)), (1, .int ((f_X7_floors S) - (1 : Int32))), (0, .ref (G.2.2 22))]) hx hb dX1_spareOnTop_14 rfl hl (by decide) rfl (fun ls hl => ?_)
  exact t_X1_spareOnTop_15 X hr hlk   n ((f_X7_floors S) - (1 : Int32)) (99 : Int32) (0 : Int32) hf H locs ls hP hS (lv_sub hl [3, 2, 1, 0] rfl)
def f_X8_more (n : Nat) (S : xS)  : Option Int32 :=
  (if (S.1 4 3) = 0 then some (-1 : Int32) else (f_X1_spareOnTop n S).bind fun r2 => (some r2))
set_option maxHeartbeats 4000000 in
set_option maxRecDepth 100000 in
theorem c_X8_more (l : Launch) (G : xG) (n : Nat)  (S : xS)  (r : Int32) (hf : f_X8_more n S  = some r) : xMi l G yX8_more cX8_more 1 (some .int) 5 113 [.ref (G.2.2 0)] S r S := by
  refine xMi_of (own := RX8) (by decide +kernel) rfl (Nat.le_of_ble_eq_true rfl) ?_
  intro p e s m args below meth c X hr hlk H locs ls hP hS hl
  have hl : lv_has ls 1 [(0, .ref (G.2.2 0))] := hl
  obtain ⟨hx, hb, hml, hown, hts, hE⟩ := id X
  unfold f_X8_more at hf
  refine lv_aload_n hx hb dX8_more_0 rfl (lv_at hl 0 rfl) ?_
  refine x_getR X hP fl_X8_23 (by decide) rfl rfl dX8_more_1 ?_
  refine x_getIN X hP fn_X8_152 (by decide) rfl rfl dX8_more_4 ?_
  refine lv_if_ne (tgt := 14) hx hb dX8_more_7 (by decide) (fun e1 => ?_) (fun e1 => ?_)
  · have hf := xif_f hf e1
    refine lv_aload_n hx hb dX8_more_14 rfl (lv_at hl 0 rfl) ?_
    refine x_getR X hP fl_X8_64 (by decide) rfl rfl dX8_more_15 ?_
    obtain ⟨r2, h3, hf⟩ := xb_some hf
    refine x_cVi (As := []) (rest := []) X hP hS kc_X8_237 (c_X1_spareOnTop l G n S  _ h3) ⟨Nat.le_of_ble_eq_true rfl, Nat.le_of_ble_eq_true rfl⟩ (by decide) rfl rfl rfl hl.1 rfl (Nat.le_of_ble_eq_true rfl) ⟨Nat.zero_le _, Nat.zero_le _⟩ dX8_more_18 (fun H locs hP hS => ?_)
    exact x_iret X hr hlk hP hS  (Option.some.inj hf) (rfl) dX8_more_21
  · have hf := xif_t hf e1
    refine lv_iconst (v := (-1)) hx hb dX8_more_10 (by decide) ?_
    refine lv_goto (tgt := 21) hx hb dX8_more_11 (by decide) ?_
    exact x_iret X hr hlk hP hS  (Option.some.inj hf) (rfl) dX8_more_21
def j_X9_moreNow_52 (n : Nat) (k4 : xS → Int32 → Int32 → Option (Int32 × xS)) (S : xS) (a1 : Int32) (a2 : Int32) (s0 : Int32) : Option (Int32 × xS) :=
  (if s0 = 0 then k4 S a1 (a2 + 1) else k4 S a2 (a2 + 1))
set_option maxHeartbeats 4000000 in
set_option maxRecDepth 100000 in
theorem t_X9_moreNow_52 {p : Program} {l : Launch} {e : Env} {s : State} {m : MethodId} {args : Array Value} {below : List Frame} {meth : Method} {c : Code} {G : xG} (X : xC p s m args c G RX9 cX9_moreNow 4) (hr : meth.sig.returnType = (some .int)) (hlk : meth.locks = false) {n : Nat} {r : Int32} {S' : xS} {k4 : xS → Int32 → Int32 → Option (Int32 × xS)} (hk4 : ∀ (S : xS) (a1 : Int32) (a2 : Int32), k4 S a1 a2 = some (r, S') → xGo p l e { frames := 6, cells := 0, slots := 0, locals := 139 } s m args below meth c G 4 0 0 (MQ below (xQi G r S') args s 0 0 (xA G)) S 4 [(0, .ref (G.2.2 34)), (1, .int a1), (2, .int a2)] []) : ∀ (S : xS) (a1 : Int32) (a2 : Int32) (s0 : Int32), j_X9_moreNow_52 n k4 S a1 a2 s0 = some (r, S') → xGo p l e { frames := 6, cells := 0, slots := 0, locals := 139 } s m args below meth c G 4 0 0 (MQ below (xQi G r S') args s 0 0 (xA G)) S 52 [(0, .ref (G.2.2 34)), (1, .int a1), (2, .int a2)] [.int s0] := by
  intro S a1 a2 s0 hf H locs ls hP hS hl
  unfold j_X9_moreNow_52 at hf
  obtain ⟨hx, hb, hml, hown, hts, hE⟩ := id X
  refine lv_istore_n (lv' := [(3, .int s0), (0, .ref (G.2.2 34)), (1, .int a1), (2, .int a2)]) hx hb dX9_moreNow_52 rfl hl (by decide) rfl (fun ls hl => ?_)
  refine lv_iload_n hx hb dX9_moreNow_53 rfl (lv_at hl 0 rfl) ?_
  refine lv_if_eq (tgt := 61) hx hb dX9_moreNow_54 (by decide) (fun e8 => ?_) (fun e8 => ?_)
  · have hf := xif_t hf e8
    refine lv_iload_n hx hb dX9_moreNow_61 rfl (lv_at hl 2 rfl) ?_
    refine lv_istore_n (lv' := [(1, .int a1), (3, .int s0), (0, .ref (G.2.2 34)), (2, .int a2)]) hx hb dX9_moreNow_62 rfl hl (by decide) rfl (fun ls hl => ?_)
    refine lv_iinc (v := a2 + 1) (lv' := [(2, .int (a2 + 1)), (1, .int a1), (3, .int s0), (0, .ref (G.2.2 34))]) hx hb dX9_moreNow_63 hl (k := 3) rfl rfl (by decide) rfl (fun ls hl => ?_)
    refine lv_goto (tgt := 4) hx hb dX9_moreNow_66 (by decide) ?_
    exact hk4 S a1 (a2 + 1) hf H locs ls hP hS (lv_sub hl [3, 1, 0] rfl)
  · have hf := xif_f hf e8
    refine lv_iload_n hx hb dX9_moreNow_57 rfl (lv_at hl 3 rfl) ?_
    refine lv_goto (tgt := 62) hx hb dX9_moreNow_58 (by decide) ?_
    refine lv_istore_n (lv' := [(1, .int a2), (3, .int s0), (0, .ref (G.2.2 34)), (2, .int a2)]) hx hb dX9_moreNow_62 rfl hl (by decide) rfl (fun ls hl => ?_)
    refine lv_iinc (v := a2 + 1) (lv' := [(2, .int (a2 + 1)), (1, .int a2), (3, .int s0), (0, .ref (G.2.2 34))]) hx hb dX9_moreNow_63 hl (k := 3) rfl rfl (by decide) rfl (fun ls hl => ?_)
    refine lv_goto (tgt := 4) hx hb dX9_moreNow_66 (by decide) ?_
    exact hk4 S a2 (a2 + 1) hf H locs ls hP hS (lv_sub hl [3, 1, 0] rfl)
def j_X9_moreNow_51 (n : Nat) (k4 : xS → Int32 → Int32 → Option (Int32 × xS)) (S : xS) (a1 : Int32) (a2 : Int32) : Option (Int32 × xS) :=
  j_X9_moreNow_52 n k4 S a1 a2 (0 : Int32)
set_option maxHeartbeats 4000000 in
set_option maxRecDepth 100000 in
theorem t_X9_moreNow_51 {p : Program} {l : Launch} {e : Env} {s : State} {m : MethodId} {args : Array Value} {below : List Frame} {meth : Method} {c : Code} {G : xG} (X : xC p s m args c G RX9 cX9_moreNow 4) (hr : meth.sig.returnType = (some .int)) (hlk : meth.locks = false) {n : Nat} {r : Int32} {S' : xS} {k4 : xS → Int32 → Int32 → Option (Int32 × xS)} (hk4 : ∀ (S : xS) (a1 : Int32) (a2 : Int32), k4 S a1 a2 = some (r, S') → xGo p l e { frames := 6, cells := 0, slots := 0, locals := 139 } s m args below meth c G 4 0 0 (MQ below (xQi G r S') args s 0 0 (xA G)) S 4 [(0, .ref (G.2.2 34)), (1, .int a1), (2, .int a2)] []) : ∀ (S : xS) (a1 : Int32) (a2 : Int32), j_X9_moreNow_51 n k4 S a1 a2 = some (r, S') → xGo p l e { frames := 6, cells := 0, slots := 0, locals := 139 } s m args below meth c G 4 0 0 (MQ below (xQi G r S') args s 0 0 (xA G)) S 51 [(0, .ref (G.2.2 34)), (1, .int a1), (2, .int a2)] [] := by
  intro S a1 a2 hf H locs ls hP hS hl
  unfold j_X9_moreNow_51 at hf
  obtain ⟨hx, hb, hml, hown, hts, hE⟩ := id X
  refine lv_iconst (v := 0) hx hb dX9_moreNow_51 (by decide) ?_
  exact t_X9_moreNow_52 X hr hlk  hk4 S a1 a2 (0 : Int32) hf H locs ls hP hS (lv_sub hl [0, 1, 2] rfl)
def b_X9_moreNow_4 (n : Nat) (k4 : xS → Int32 → Int32 → Option (Int32 × xS)) (S : xS) (a1 : Int32) (a2 : Int32) : Option (Int32 × xS) :=
  (if (100 : Int32) ≤ a2 then some (a1, S) else (f_X9_floorsNow n S).bind fun r2 => ((if r2.1 ≤ 0 then some (a1, r2.2) else (f_X9_safeBy n r2.2 (0 : Int32) a2).bind fun r5 => ((if r5.1 = (-1 : Int32) then (f_X9_safeBy n r5.2 (1 : Int32) a2).bind fun r9 => ((if r9.1 = (-1 : Int32) then (f_X9_safeBy n r9.2 (2 : Int32) a2).bind fun r12 => ((if r12.1 = (-1 : Int32) then j_X9_moreNow_52 n k4 r12.2 a1 a2 (1 : Int32) else j_X9_moreNow_51 n k4 r12.2 a1 a2)) else j_X9_moreNow_51 n k4 r9.2 a1 a2)) else j_X9_moreNow_51 n k4 r5.2 a1 a2)))))
def l_X9_moreNow_4 (n : Nat) : Nat → xS → Int32 → Int32 → Option (Int32 × xS)
  | 0, _, _, _ => none
  | j + 1, S, a1, a2 => b_X9_moreNow_4 n (l_X9_moreNow_4 n j) S a1 a2
set_option maxHeartbeats 4000000 in
set_option maxRecDepth 100000 in
theorem t_X9_moreNow_4 {p : Program} {l : Launch} {e : Env} {s : State} {m : MethodId} {args : Array Value} {below : List Frame} {meth : Method} {c : Code} {G : xG} (X : xC p s m args c G RX9 cX9_moreNow 4) (hr : meth.sig.returnType = (some .int)) (hlk : meth.locks = false) {n : Nat} {r : Int32} {S' : xS} : ∀ (j : Nat) (S : xS) (a1 : Int32) (a2 : Int32), l_X9_moreNow_4 n j S a1 a2 = some (r, S') → xGo p l e { frames := 6, cells := 0, slots := 0, locals := 139 } s m args below meth c G 4 0 0 (MQ below (xQi G r S') args s 0 0 (xA G)) S 4 [(0, .ref (G.2.2 34)), (1, .int a1), (2, .int a2)] [] := by
  intro j
  induction j with
  | zero => intro S a1 a2 hf; exact nomatch (show (none : Option (Int32 × xS)) = _ from hf)
  | succ j ih =>
    intro S a1 a2 hf H locs ls hP hS hl
    have hf : b_X9_moreNow_4 n (l_X9_moreNow_4 n j) S a1 a2 = some (r, S') := hf
    unfold b_X9_moreNow_4 at hf
    obtain ⟨hx, hb, hml, hown, hts, hE⟩ := id X
    refine lv_iload_n hx hb dX9_moreNow_4 rfl (lv_at hl 2 rfl) ?_
    refine lv_bipush (v := 100) hx hb dX9_moreNow_5 (by decide) ?_
    refine lv_icmp_ge (tgt := 69) hx hb dX9_moreNow_7 (by decide) (fun e1 => ?_) (fun e1 => ?_)
    · have hf := xif_t hf e1
      refine lv_iload_n hx hb dX9_moreNow_69 rfl (lv_at hl 1 rfl) ?_
      exact x_iret X hr hlk hP hS  ((Prod.mk.inj (Option.some.inj hf)).1) ((Prod.mk.inj (Option.some.inj hf)).2) dX9_moreNow_70
    · have hf := xif_f hf e1
      refine lv_aload_n hx hb dX9_moreNow_10 rfl (lv_at hl 0 rfl) ?_
      obtain ⟨r2, h3, hf⟩ := xb_some hf
      refine x_cVi (As := []) (rest := []) X hP hS kc_X9_97 (c_X9_floorsNow l G n S  r2.1 r2.2 h3) ⟨Nat.le_of_ble_eq_true rfl, Nat.le_of_ble_eq_true rfl⟩ (by decide) rfl rfl rfl hl.1 rfl (Nat.le_of_ble_eq_true rfl) ⟨Nat.zero_le _, Nat.zero_le _⟩ dX9_moreNow_11 (fun H locs hP hS => ?_)
      refine lv_if_le (tgt := 69) hx hb dX9_moreNow_14 (by decide) (fun e4 => ?_) (fun e4 => ?_)
      · have hf := xif_t hf e4
        refine lv_iload_n hx hb dX9_moreNow_69 rfl (lv_at hl 1 rfl) ?_
        exact x_iret X hr hlk hP hS  ((Prod.mk.inj (Option.some.inj hf)).1) ((Prod.mk.inj (Option.some.inj hf)).2) dX9_moreNow_70
      · have hf := xif_f hf e4
        refine lv_aload_n hx hb dX9_moreNow_17 rfl (lv_at hl 0 rfl) ?_
        refine lv_iconst (v := 0) hx hb dX9_moreNow_18 (by decide) ?_
        refine lv_iload_n hx hb dX9_moreNow_19 rfl (lv_at hl 2 rfl) ?_
        obtain ⟨r5, h6, hf⟩ := xb_some hf
        refine x_cVi (As := [.int (0 : Int32), .int a2]) (rest := []) X hP hS kc_X9_182 (c_X9_safeBy l G n r2.2 (0 : Int32) a2 r5.1 r5.2 h6) ⟨Nat.le_of_ble_eq_true rfl, Nat.le_of_ble_eq_true rfl⟩ (by decide) rfl rfl rfl hl.1 rfl (Nat.le_of_ble_eq_true rfl) ⟨Nat.zero_le _, Nat.zero_le _⟩ dX9_moreNow_20 (fun H locs hP hS => ?_)
        refine lv_iconst (v := (-1)) hx hb dX9_moreNow_23 (by decide) ?_
        refine lv_icmp_ne (tgt := 51) hx hb dX9_moreNow_24 (by decide) (fun e7 => ?_) (fun e7 => ?_)
        · have hf := xif_f hf e7
          exact t_X9_moreNow_51 X hr hlk  ih r5.2 a1 a2 hf H locs ls hP hS (lv_sub hl [0, 1, 2] rfl)
        · have hf := xif_t hf e7
          refine lv_aload_n hx hb dX9_moreNow_27 rfl (lv_at hl 0 rfl) ?_
          refine lv_iconst (v := 1) hx hb dX9_moreNow_28 (by decide) ?_
          refine lv_iload_n hx hb dX9_moreNow_29 rfl (lv_at hl 2 rfl) ?_
          obtain ⟨r9, h10, hf⟩ := xb_some hf
          refine x_cVi (As := [.int (1 : Int32), .int a2]) (rest := []) X hP hS kc_X9_182 (c_X9_safeBy l G n r5.2 (1 : Int32) a2 r9.1 r9.2 h10) ⟨Nat.le_of_ble_eq_true rfl, Nat.le_of_ble_eq_true rfl⟩ (by decide) rfl rfl rfl hl.1 rfl (Nat.le_of_ble_eq_true rfl) ⟨Nat.zero_le _, Nat.zero_le _⟩ dX9_moreNow_30 (fun H locs hP hS => ?_)
          refine lv_iconst (v := (-1)) hx hb dX9_moreNow_33 (by decide) ?_
          refine lv_icmp_ne (tgt := 51) hx hb dX9_moreNow_34 (by decide) (fun e11 => ?_) (fun e11 => ?_)
          · have hf := xif_f hf e11
            exact t_X9_moreNow_51 X hr hlk  ih r9.2 a1 a2 hf H locs ls hP hS (lv_sub hl [0, 1, 2] rfl)
          · have hf := xif_t hf e11
            refine lv_aload_n hx hb dX9_moreNow_37 rfl (lv_at hl 0 rfl) ?_
            refine lv_iconst (v := 2) hx hb dX9_moreNow_38 (by decide) ?_
            refine lv_iload_n hx hb dX9_moreNow_39 rfl (lv_at hl 2 rfl) ?_
            obtain ⟨r12, h13, hf⟩ := xb_some hf
            refine x_cVi (As := [.int (2 : Int32), .int a2]) (rest := []) X hP hS kc_X9_182 (c_X9_safeBy l G n r9.2 (2 : Int32) a2 r12.1 r12.2 h13) ⟨Nat.le_of_ble_eq_true rfl, Nat.le_of_ble_eq_true rfl⟩ (by decide) rfl rfl rfl hl.1 rfl (Nat.le_of_ble_eq_true rfl) ⟨Nat.zero_le _, Nat.zero_le _⟩ dX9_moreNow_40 (fun H locs hP hS => ?_)
            refine lv_iconst (v := (-1)) hx hb dX9_moreNow_43 (by decide) ?_
            refine lv_icmp_ne (tgt := 51) hx hb dX9_moreNow_44 (by decide) (fun e14 => ?_) (fun e14 => ?_)
            · have hf := xif_f hf e14
              exact t_X9_moreNow_51 X hr hlk  ih r12.2 a1 a2 hf H locs ls hP hS (lv_sub hl [0, 1, 2] rfl)
            · have hf := xif_t hf e14
              refine lv_iconst (v := 1) hx hb dX9_moreNow_47 (by decide) ?_
              refine lv_goto (tgt := 52) hx hb dX9_moreNow_48 (by decide) ?_
              exact t_X9_moreNow_52 X hr hlk  ih r12.2 a1 a2 (1 : Int32) hf H locs ls hP hS (lv_sub hl [0, 1, 2] rfl)
def f_X9_moreNow (n : Nat) (S : xS)  : Option (Int32 × xS) :=
  l_X9_moreNow_4 n n S (-1 : Int32) (0 : Int32)
set_option maxHeartbeats 4000000 in
set_option maxRecDepth 100000 in
theorem c_X9_moreNow (l : Launch) (G : xG) (n : Nat)  (S : xS)  (r : Int32) (S' : xS) (hf : f_X9_moreNow n S  = some (r, S')) : xMi l G yX9_moreNow cX9_moreNow 4 (some .int) 6 139 [.ref (G.2.2 34)] S r S' := by
  refine xMi_of (own := RX9) (by decide +kernel) rfl (Nat.le_of_ble_eq_true rfl) ?_
  intro p e s m args below meth c X hr hlk H locs ls hP hS hl
  have hl : lv_has ls 4 [(0, .ref (G.2.2 34))] := hl
  obtain ⟨hx, hb, hml, hown, hts, hE⟩ := id X
  unfold f_X9_moreNow at hf
  refine lv_iconst (v := (-1)) hx hb dX9_moreNow_0 (by decide) ?_
  refine lv_istore_n (lv' := [(1, .int (-1 : Int32)), (0, .ref (G.2.2 34))]) hx hb dX9_moreNow_1 rfl hl (by decide) rfl (fun ls hl => ?_)
  refine lv_iconst (v := 0) hx hb dX9_moreNow_2 (by decide) ?_
  refine lv_istore_n (lv' := [(2, .int (0 : Int32)), (1, .int (-1 : Int32)), (0, .ref (G.2.2 34))]) hx hb dX9_moreNow_3 rfl hl (by decide) rfl (fun ls hl => ?_)
  exact t_X9_moreNow_4 X hr hlk   n S (-1 : Int32) (0 : Int32) hf H locs ls hP hS (lv_sub hl [2, 1, 0] rfl)
def f_X9_more (n : Nat) (S : xS)  : Option (Int32 × xS) :=
  (f_X9_moreNow n S).bind fun r1 => (some (r1.1, r1.2))
set_option maxHeartbeats 4000000 in
set_option maxRecDepth 100000 in
theorem c_X9_more (l : Launch) (G : xG) (n : Nat)  (S : xS)  (r : Int32) (S' : xS) (hf : f_X9_more n S  = some (r, S')) : xMi l G yX9_more cX9_more 1 (some .int) 7 162 [.ref (G.2.2 34)] S r S' := by
  refine xMi_of (own := RX9) (by decide +kernel) rfl (Nat.le_of_ble_eq_true rfl) ?_
  intro p e s m args below meth c X hr hlk H locs ls hP hS hl
  have hl : lv_has ls 1 [(0, .ref (G.2.2 34))] := hl
  obtain ⟨hx, hb, hml, hown, hts, hE⟩ := id X
  unfold f_X9_more at hf
  refine lv_aload_n hx hb dX9_more_0 rfl (lv_at hl 0 rfl) ?_
  obtain ⟨r1, h2, hf⟩ := xb_some hf
  refine x_cVi (As := []) (rest := []) X hP hS kc_X9_185 (c_X9_moreNow l G n S  r1.1 r1.2 h2) ⟨Nat.le_of_ble_eq_true rfl, Nat.le_of_ble_eq_true rfl⟩ (by decide) rfl rfl rfl hl.1 rfl (Nat.le_of_ble_eq_true rfl) ⟨Nat.zero_le _, Nat.zero_le _⟩ dX9_more_1 (fun H locs hP hS => ?_)
  exact x_iret X hr hlk hP hS  ((Prod.mk.inj (Option.some.inj hf)).1) ((Prod.mk.inj (Option.some.inj hf)).2) dX9_more_4
def f_X8_stonesFor (n : Nat) (a0 : Int32) : Option Int32 :=
  (f_J9_floorDiv_7cf53 n (-a0) (10 : Int32)).bind fun r1 => (some (-r1))
set_option maxHeartbeats 4000000 in
set_option maxRecDepth 100000 in
theorem c_X8_stonesFor (l : Launch) (G : xG) (n : Nat)  (S : xS) (a0 : Int32) (r : Int32) (hf : f_X8_stonesFor n a0 = some r) : xMi l G yX8_stonesFor cX8_stonesFor 1 (some .int) 1 22 [.int a0] S r S := by
  refine xMi_of (own := RX8) (by decide +kernel) rfl (Nat.le_of_ble_eq_true rfl) ?_
  intro p e s m args below meth c X hr hlk H locs ls hP hS hl
  have hl : lv_has ls 1 [(0, .int a0)] := hl
  obtain ⟨hx, hb, hml, hown, hts, hE⟩ := id X
  unfold f_X8_stonesFor at hf
  refine lv_iload_n hx hb dX8_stonesFor_0 rfl (lv_at hl 0 rfl) ?_
  refine lv_ineg hx hb dX8_stonesFor_1 ?_
  refine lv_bipush (v := 10) hx hb dX8_stonesFor_2 (by decide) ?_
  obtain ⟨r1, h2, hf⟩ := xb_some hf
  refine x_cSi (As := [.int (-a0), .int (10 : Int32)]) (rest := []) X hP hS kc_X8_354 (c_J9_floorDiv_7cf53 l G n S (-a0) (10 : Int32) _ h2) ⟨Nat.le_of_ble_eq_true rfl, Nat.le_of_ble_eq_true rfl⟩ rfl hl.1 rfl (Nat.le_of_ble_eq_true rfl) ⟨Nat.zero_le _, Nat.zero_le _⟩ dX8_stonesFor_4 (fun H locs hP hS => ?_)
  refine lv_ineg hx hb dX8_stonesFor_7 ?_
  exact x_iret X hr hlk hP hS  (Option.some.inj hf) (rfl) dX8_stonesFor_8
def b_X8_stones_16 (n : Nat) (k16 : Int32 → Int32 → Int32 → Option Int32) (S : xS) (a1 : Int32) (a2 : Int32) (a3 : Int32) : Option Int32 :=
  (if (S.1 4 3) ≤ a3 then some a2 else xg (xin a3 10) ((f_X8_stonesFor n (S.1 10 a3.toNatClampNeg)).bind fun r4 => ((f_X7_built n S a3).bind fun r6 => ((f_X8_stonesFor n r6).bind fun r8 => ((if a1 = 0 then k16 a1 (a2 + (xmax (0 : Int32) (r4 - r8))) (a3 + 1) else k16 a1 (a2 + (xmax (0 : Int32) (-(r4 - r8)))) (a3 + 1)))))))
def l_X8_stones_16 (n : Nat) (S : xS) : Nat → Int32 → Int32 → Int32 → Option Int32
  | 0, _, _, _ => none
  | j + 1, a1, a2, a3 => b_X8_stones_16 n (l_X8_stones_16 n S j) S a1 a2 a3
set_option maxHeartbeats 4000000 in
set_option maxRecDepth 100000 in
theorem t_X8_stones_16 {p : Program} {l : Launch} {e : Env} {s : State} {m : MethodId} {args : Array Value} {below : List Frame} {meth : Method} {c : Code} {G : xG} (X : xC p s m args c G RX8 cX8_stones 5) (hr : meth.sig.returnType = (some .int)) (hlk : meth.locks = false) {n : Nat} {r : Int32} {S : xS} : ∀ (j : Nat) (a1 : Int32) (a2 : Int32) (a3 : Int32), l_X8_stones_16 n S j a1 a2 a3 = some r → xGo p l e { frames := 2, cells := 0, slots := 0, locals := 42 } s m args below meth c G 5 0 0 (MQ below (xQi G r S) args s 0 0 (xA G)) S 16 [(0, .ref (G.2.2 0)), (1, .int a1), (2, .int a2), (3, .int a3)] [] := by
  intro j
  induction j with
  | zero => intro a1 a2 a3 hf; exact nomatch (show (none : Option Int32) = _ from hf)
  | succ j ih =>
    intro a1 a2 a3 hf H locs ls hP hS hl
    have hf : b_X8_stones_16 n (l_X8_stones_16 n S j) S a1 a2 a3 = some r := hf
    unfold b_X8_stones_16 at hf
    obtain ⟨hx, hb, hml, hown, hts, hE⟩ := id X
    refine lv_iload_n hx hb dX8_stones_16 rfl (lv_at hl 3 rfl) ?_
    refine lv_aload_n hx hb dX8_stones_17 rfl (lv_at hl 0 rfl) ?_
    refine x_getR X hP fl_X8_23 (by decide) rfl rfl dX8_stones_18 ?_
    refine x_getIN X hP fn_X8_152 (by decide) rfl rfl dX8_stones_21 ?_
    refine lv_icmp_ge (tgt := 78) hx hb dX8_stones_24 (by decide) (fun e2 => ?_) (fun e2 => ?_)
    · have hf := xif_t hf e2
      refine lv_iload_n hx hb dX8_stones_78 rfl (lv_at hl 2 rfl) ?_
      exact x_iret X hr hlk hP hS  (Option.some.inj hf) (rfl) dX8_stones_79
    · have hf := xif_f hf e2
      refine lv_aload_n hx hb dX8_stones_27 rfl (lv_at hl 0 rfl) ?_
      refine x_getR X hP fl_X8_32 (by decide) rfl rfl dX8_stones_28 ?_
      refine x_getRN X hP fn_X8_108 (by decide) rfl rfl dX8_stones_31 ?_
      refine lv_iload_n hx hb dX8_stones_34 rfl (lv_at hl 3 rfl) ?_
      obtain ⟨g3, hf⟩ := xg_some hf
      refine x_iald X hP (by decide) rfl g3 dX8_stones_35 ?_
      obtain ⟨r4, h5, hf⟩ := xb_some hf
      refine x_cSi (As := [.int (S.1 10 a3.toNatClampNeg)]) (rest := []) X hP hS kc_X8_241 (c_X8_stonesFor l G n S (S.1 10 a3.toNatClampNeg) _ h5) ⟨Nat.le_of_ble_eq_true rfl, Nat.le_of_ble_eq_true rfl⟩ rfl hl.1 rfl (Nat.le_of_ble_eq_true rfl) ⟨Nat.zero_le _, Nat.zero_le _⟩ dX8_stones_36 (fun H locs hP hS => ?_)
      refine lv_aload_n hx hb dX8_stones_39 rfl (lv_at hl 0 rfl) ?_
      refine x_getR X hP fl_X8_32 (by decide) rfl rfl dX8_stones_40 ?_
      refine lv_iload_n hx hb dX8_stones_43 rfl (lv_at hl 3 rfl) ?_
      obtain ⟨r6, h7, hf⟩ := xb_some hf
      refine x_cVi (As := [.int a3]) (rest := [.int r4]) X hP hS kc_X8_111 (c_X7_built l G n S a3 _ h7) ⟨Nat.le_of_ble_eq_true rfl, Nat.le_of_ble_eq_true rfl⟩ (by decide) rfl rfl rfl hl.1 rfl (Nat.le_of_ble_eq_true rfl) ⟨Nat.zero_le _, Nat.zero_le _⟩ dX8_stones_44 (fun H locs hP hS => ?_)
      obtain ⟨r8, h9, hf⟩ := xb_some hf
      refine x_cSi (As := [.int r6]) (rest := [.int r4]) X hP hS kc_X8_241 (c_X8_stonesFor l G n S r6 _ h9) ⟨Nat.le_of_ble_eq_true rfl, Nat.le_of_ble_eq_true rfl⟩ rfl hl.1 rfl (Nat.le_of_ble_eq_true rfl) ⟨Nat.zero_le _, Nat.zero_le _⟩ dX8_stones_47 (fun H locs hP hS => ?_)
      refine lv_isub hx hb dX8_stones_50 ?_
      refine lv_istore (lv' := [(4, .int (r4 - r8)), (0, .ref (G.2.2 0)), (1, .int a1), (2, .int a2), (3, .int a3)]) hx hb dX8_stones_51 hl (by decide) rfl (fun ls hl => ?_)
      refine lv_iload_n hx hb dX8_stones_53 rfl (lv_at hl 3 rfl) ?_
      refine lv_iconst (v := 0) hx hb dX8_stones_54 (by decide) ?_
      refine lv_iload_n hx hb dX8_stones_55 rfl (lv_at hl 2 rfl) ?_
      refine lv_if_ne (tgt := 64) hx hb dX8_stones_56 (by decide) (fun e10 => ?_) (fun e10 => ?_)
      · have hf := xif_f hf e10
        refine lv_iload hx hb dX8_stones_64 (lv_at hl 0 rfl) ?_
        refine lv_ineg hx hb dX8_stones_66 ?_
        refine x_mmax X kw_383 hl.1 ⟨Nat.le_of_ble_eq_true rfl, Nat.le_of_ble_eq_true rfl⟩ ⟨Nat.zero_le _, Nat.zero_le _⟩ dX8_stones_67 ?_
        refine lv_iadd hx hb dX8_stones_70 ?_
        refine lv_istore_n (lv' := [(2, .int (a2 + (xmax (0 : Int32) (-(r4 - r8))))), (4, .int (r4 - r8)), (0, .ref (G.2.2 0)), (1, .int a1), (3, .int a3)]) hx hb dX8_stones_71 rfl hl (by decide) rfl (fun ls hl => ?_)
        refine lv_iinc (v := a3 + 1) (lv' := [(3, .int (a3 + 1)), (2, .int (a2 + (xmax (0 : Int32) (-(r4 - r8))))), (4, .int (r4 - r8)), (0, .ref (G.2.2 0)), (1, .int a1)]) hx hb dX8_stones_72 hl (k := 4) rfl rfl (by decide) rfl (fun ls hl => ?_)
        refine lv_goto (tgt := 16) hx hb dX8_stones_75 (by decide) ?_
        exact ih a1 (a2 + (xmax (0 : Int32) (-(r4 - r8)))) (a3 + 1) hf H locs ls hP hS (lv_sub hl [3, 4, 1, 0] rfl)
      · have hf := xif_t hf e10
        refine lv_iload hx hb dX8_stones_59 (lv_at hl 0 rfl) ?_
        refine lv_goto (tgt := 67) hx hb dX8_stones_61 (by decide) ?_
        refine x_mmax X kw_383 hl.1 ⟨Nat.le_of_ble_eq_true rfl, Nat.le_of_ble_eq_true rfl⟩ ⟨Nat.zero_le _, Nat.zero_le _⟩ dX8_stones_67 ?_
        refine lv_iadd hx hb dX8_stones_70 ?_
        refine lv_istore_n (lv' := [(2, .int (a2 + (xmax (0 : Int32) (r4 - r8)))), (4, .int (r4 - r8)), (0, .ref (G.2.2 0)), (1, .int a1), (3, .int a3)]) hx hb dX8_stones_71 rfl hl (by decide) rfl (fun ls hl => ?_)
        refine lv_iinc (v := a3 + 1) (lv' := [(3, .int (a3 + 1)), (2, .int (a2 + (xmax (0 : Int32) (r4 - r8)))), (4, .int (r4 - r8)), (0, .ref (G.2.2 0)), (1, .int a1)]) hx hb dX8_stones_72 hl (k := 4) rfl rfl (by decide) rfl (fun ls hl => ?_)
        refine lv_goto (tgt := 16) hx hb dX8_stones_75 (by decide) ?_
        exact ih a1 (a2 + (xmax (0 : Int32) (r4 - r8))) (a3 + 1) hf H locs ls hP hS (lv_sub hl [3, 4, 1, 0] rfl)
def f_X8_stones (n : Nat) (S : xS) (a1 : Int32) : Option Int32 :=
  (if (f_X8_within a1 (0 : Int32) (1 : Int32)) = 0 then some (-2 : Int32) else l_X8_stones_16 n S n a1 (0 : Int32) (0 : Int32))
set_option maxHeartbeats 4000000 in
set_option maxRecDepth 100000 in
theorem c_X8_stones (l : Launch) (G : xG) (n : Nat)  (S : xS) (a1 : Int32) (r : Int32) (hf : f_X8_stones n S a1 = some r) : xMi l G yX8_stones cX8_stones 5 (some .int) 2 42 [.ref (G.2.2 0), .int a1] S r S := by
  refine xMi_of (own := RX8) (by decide +kernel) rfl (Nat.le_of_ble_eq_true rfl) ?_
  intro p e s m args below meth c X hr hlk H locs ls hP hS hl
  have hl : lv_has ls 5 [(0, .ref (G.2.2 0)), (1, .int a1)] := hl
  obtain ⟨hx, hb, hml, hown, hts, hE⟩ := id X
  unfold f_X8_stones at hf
  refine lv_iload_n hx hb dX8_stones_0 rfl (lv_at hl 1 rfl) ?_
  refine lv_iconst (v := 0) hx hb dX8_stones_1 (by decide) ?_
  refine lv_iconst (v := 1) hx hb dX8_stones_2 (by decide) ?_
  refine x_cSi (As := [.int a1, .int (0 : Int32), .int (1 : Int32)]) (rest := []) X hP hS kc_X8_79 (c_X8_within l G  S a1 (0 : Int32) (1 : Int32) _ rfl) ⟨Nat.le_of_ble_eq_true rfl, Nat.le_of_ble_eq_true rfl⟩ rfl hl.1 rfl (Nat.le_of_ble_eq_true rfl) ⟨Nat.zero_le _, Nat.zero_le _⟩ dX8_stones_3 (fun H locs hP hS => ?_)
  refine lv_if_ne (tgt := 12) hx hb dX8_stones_6 (by decide) (fun e1 => ?_) (fun e1 => ?_)
  · have hf := xif_f hf e1
    refine lv_iconst (v := 0) hx hb dX8_stones_12 (by decide) ?_
    refine lv_istore_n (lv' := [(2, .int (0 : Int32)), (0, .ref (G.2.2 0)), (1, .int a1)]) hx hb dX8_stones_13 rfl hl (by decide) rfl (fun ls hl => ?_)
    refine lv_iconst (v := 0) hx hb dX8_stones_14 (by decide) ?_
    refine lv_istore_n (lv' := [(3, .int (0 : Int32)), (2, .int (0 : Int32)), (0, .ref (G.2.2 0)), (1, .int a1)]) hx hb dX8_stones_15 rfl hl (by decide) rfl (fun ls hl => ?_)
    exact t_X8_stones_16 X hr hlk   n a1 (0 : Int32) (0 : Int32) hf H locs ls hP hS (lv_sub hl [2, 3, 1, 0] rfl)
  · have hf := xif_t hf e1
    refine lv_bipush (v := (-2)) hx hb dX8_stones_9 (by decide) ?_
    exact x_iret X hr hlk hP hS  (Option.some.inj hf) (rfl) dX8_stones_11
def f_X9_up (a0 : Int32) : Int32 :=
  (if a0 ≤ 0 then a0 / (10 : Int32) else (a0 + (9 : Int32)) / (10 : Int32))
set_option maxHeartbeats 4000000 in
set_option maxRecDepth 100000 in
theorem c_X9_up (l : Launch) (G : xG)  (S : xS) (a0 : Int32) (r : Int32) (hf : f_X9_up a0 = r) : xMi l G yX9_up cX9_up 1 (some .int) 0 0 [.int a0] S r S := by
  refine xMi_of (own := RX9) (by decide +kernel) rfl (Nat.le_of_ble_eq_true rfl) ?_
  intro p e s m args below meth c X hr hlk H locs ls hP hS hl
  have hl : lv_has ls 1 [(0, .int a0)] := hl
  obtain ⟨hx, hb, hml, hown, hts, hE⟩ := id X
  unfold f_X9_up at hf
  refine lv_iload_n hx hb dX9_up_0 rfl (lv_at hl 0 rfl) ?_
  refine lv_if_le (tgt := 14) hx hb dX9_up_1 (by decide) (fun e1 => ?_) (fun e1 => ?_)
  · have hf := xif_t hf e1
    refine lv_iload_n hx hb dX9_up_14 rfl (lv_at hl 0 rfl) ?_
    refine lv_bipush (v := 10) hx hb dX9_up_15 (by decide) ?_
    refine lv_idiv hx hb dX9_up_17 (by decide) ?_
    exact x_iret X hr hlk hP hS  (hf) (rfl) dX9_up_18
  · have hf := xif_f hf e1
    refine lv_iload_n hx hb dX9_up_4 rfl (lv_at hl 0 rfl) ?_
    refine lv_bipush (v := 9) hx hb dX9_up_5 (by decide) ?_
    refine lv_iadd hx hb dX9_up_7 ?_
    refine lv_bipush (v := 10) hx hb dX9_up_8 (by decide) ?_
    refine lv_idiv hx hb dX9_up_10 (by decide) ?_
    refine lv_goto (tgt := 18) hx hb dX9_up_11 (by decide) ?_
    exact x_iret X hr hlk hP hS  (hf) (rfl) dX9_up_18
def j_X9_stonesOf_50 (n : Nat) (k7 : xS → Int32 → Int32 → Int32 → Int32 → Option (Int32 × xS)) (S : xS) (a1 : Int32) (a3 : Int32) (a4 : Int32) (a5 : Int32) (s0 : Int32) (s1 : Int32) : Option (Int32 × xS) :=
  (if 0 ≤ a5 then k7 S a1 (s1 + s0) (a3 + (0 : Int32)) (a4 + 1) else k7 S a1 (s1 + s0) (a3 + (-a5)) (a4 + 1))
set_option maxHeartbeats 4000000 in
set_option maxRecDepth 100000 in
theorem t_X9_stonesOf_50 {p : Program} {l : Launch} {e : Env} {s : State} {m : MethodId} {args : Array Value} {below : List Frame} {meth : Method} {c : Code} {G : xG} (X : xC p s m args c G RX9 cX9_stonesOf 6) (hr : meth.sig.returnType = (some .int)) (hlk : meth.locks = false) {n : Nat} {r : Int32} {S' : xS} {k7 : xS → Int32 → Int32 → Int32 → Int32 → Option (Int32 × xS)} (hk7 : ∀ (S : xS) (a1 : Int32) (a2 : Int32) (a3 : Int32) (a4 : Int32), k7 S a1 a2 a3 a4 = some (r, S') → xGo p l e { frames := 5, cells := 0, slots := 0, locals := 113 } s m args below meth c G 6 0 0 (MQ below (xQi G r S') args s 0 0 (xA G)) S 7 [(0, .ref (G.2.2 34)), (1, .int a1), (2, .int a2), (3, .int a3), (4, .int a4)] []) : ∀ (S : xS) (a1 : Int32) (a3 : Int32) (a4 : Int32) (a5 : Int32) (s0 : Int32) (s1 : Int32), j_X9_stonesOf_50 n k7 S a1 a3 a4 a5 s0 s1 = some (r, S') → xGo p l e { frames := 5, cells := 0, slots := 0, locals := 113 } s m args below meth c G 6 0 0 (MQ below (xQi G r S') args s 0 0 (xA G)) S 50 [(0, .ref (G.2.2 34)), (1, .int a1), (3, .int a3), (4, .int a4), (5, .int a5)] [.int s0, .int s1] := by
  intro S a1 a3 a4 a5 s0 s1 hf H locs ls hP hS hl
  unfold j_X9_stonesOf_50 at hf
  obtain ⟨hx, hb, hml, hown, hts, hE⟩ := id X
  refine lv_iadd hx hb dX9_stonesOf_50 ?_
  refine lv_istore_n (lv' := [(2, .int (s1 + s0)), (0, .ref (G.2.2 34)), (1, .int a1), (3, .int a3), (4, .int a4), (5, .int a5)]) hx hb dX9_stonesOf_51 rfl hl (by decide) rfl (fun ls hl => ?_)
  refine lv_iload_n hx hb dX9_stonesOf_52 rfl (lv_at hl 3 rfl) ?_
  refine lv_iload hx hb dX9_stonesOf_53 (lv_at hl 5 rfl) ?_
  refine lv_if_ge (tgt := 64) hx hb dX9_stonesOf_55 (by decide) (fun e9 => ?_) (fun e9 => ?_)
  · have hf := xif_t hf e9
    refine lv_iconst (v := 0) hx hb dX9_stonesOf_64 (by decide) ?_
    refine lv_iadd hx hb dX9_stonesOf_65 ?_
    refine lv_istore_n (lv' := [(3, .int (a3 + (0 : Int32))), (2, .int (s1 + s0)), (0, .ref (G.2.2 34)), (1, .int a1), (4, .int a4), (5, .int a5)]) hx hb dX9_stonesOf_66 rfl hl (by decide) rfl (fun ls hl => ?_)
    refine lv_iinc (v := a4 + 1) (lv' := [(4, .int (a4 + 1)), (3, .int (a3 + (0 : Int32))), (2, .int (s1 + s0)), (0, .ref (G.2.2 34)), (1, .int a1), (5, .int a5)]) hx hb dX9_stonesOf_67 hl (k := 4) rfl rfl (by decide) rfl (fun ls hl => ?_)
    refine lv_goto (tgt := 7) hx hb dX9_stonesOf_70 (by decide) ?_
    exact hk7 S a1 (s1 + s0) (a3 + (0 : Int32)) (a4 + 1) hf H locs ls hP hS (lv_sub hl [3, 4, 2, 1, 0] rfl)
  · have hf := xif_f hf e9
    refine lv_iload hx hb dX9_stonesOf_58 (lv_at hl 5 rfl) ?_
    refine lv_ineg hx hb dX9_stonesOf_60 ?_
    refine lv_goto (tgt := 65) hx hb dX9_stonesOf_61 (by decide) ?_
    refine lv_iadd hx hb dX9_stonesOf_65 ?_
    refine lv_istore_n (lv' := [(3, .int (a3 + (-a5))), (2, .int (s1 + s0)), (0, .ref (G.2.2 34)), (1, .int a1), (4, .int a4), (5, .int a5)]) hx hb dX9_stonesOf_66 rfl hl (by decide) rfl (fun ls hl => ?_)
    refine lv_iinc (v := a4 + 1) (lv' := [(4, .int (a4 + 1)), (3, .int (a3 + (-a5))), (2, .int (s1 + s0)), (0, .ref (G.2.2 34)), (1, .int a1), (5, .int a5)]) hx hb dX9_stonesOf_67 hl (k := 4) rfl rfl (by decide) rfl (fun ls hl => ?_)
    refine lv_goto (tgt := 7) hx hb dX9_stonesOf_70 (by decide) ?_
    exact hk7 S a1 (s1 + s0) (a3 + (-a5)) (a4 + 1) hf H locs ls hP hS (lv_sub hl [3, 4, 2, 1, 0] rfl)
def b_X9_stonesOf_7 (n : Nat) (k7 : xS → Int32 → Int32 → Int32 → Int32 → Option (Int32 × xS)) (S : xS) (a1 : Int32) (a2 : Int32) (a3 : Int32) (a4 : Int32) : Option (Int32 × xS) :=
  (f_X9_floorsNow n S).bind fun r1 => ((if r1.1 ≤ a4 then (if a1 = 0 then some (a2, r1.2) else some (a3, r1.2)) else xg (xin a4 11) ((f_X9_builtOf n r1.2 a4).bind fun r6 => ((if ((f_X9_up (r1.2.1 39 a4.toNatClampNeg)) - (f_X9_up r6)) ≤ 0 then j_X9_stonesOf_50 n k7 r1.2 a1 a3 a4 ((f_X9_up (r1.2.1 39 a4.toNatClampNeg)) - (f_X9_up r6)) (0 : Int32) a2 else j_X9_stonesOf_50 n k7 r1.2 a1 a3 a4 ((f_X9_up (r1.2.1 39 a4.toNatClampNeg)) - (f_X9_up r6)) ((f_X9_up (r1.2.1 39 a4.toNatClampNeg)) - (f_X9_up r6)) a2)))))
def l_X9_stonesOf_7 (n : Nat) : Nat → xS → Int32 → Int32 → Int32 → Int32 → Option (Int32 × xS)
  | 0, _, _, _, _, _ => none
  | j + 1, S, a1, a2, a3, a4 => b_X9_stonesOf_7 n (l_X9_stonesOf_7 n j) S a1 a2 a3 a4
set_option maxHeartbeats 4000000 in
set_option maxRecDepth 100000 in
theorem t_X9_stonesOf_7 {p : Program} {l : Launch} {e : Env} {s : State} {m : MethodId} {args : Array Value} {below : List Frame} {meth : Method} {c : Code} {G : xG} (X : xC p s m args c G RX9 cX9_stonesOf 6) (hr : meth.sig.returnType = (some .int)) (hlk : meth.locks = false) {n : Nat} {r : Int32} {S' : xS} : ∀ (j : Nat) (S : xS) (a1 : Int32) (a2 : Int32) (a3 : Int32) (a4 : Int32), l_X9_stonesOf_7 n j S a1 a2 a3 a4 = some (r, S') → xGo p l e { frames := 5, cells := 0, slots := 0, locals := 113 } s m args below meth c G 6 0 0 (MQ below (xQi G r S') args s 0 0 (xA G)) S 7 [(0, .ref (G.2.2 34)), (1, .int a1), (2, .int a2), (3, .int a3), (4, .int a4)] [] := by
  intro j
  induction j with
  | zero => intro S a1 a2 a3 a4 hf; exact nomatch (show (none : Option (Int32 × xS)) = _ from hf)
  | succ j ih =>
    intro S a1 a2 a3 a4 hf H locs ls hP hS hl
    have hf : b_X9_stonesOf_7 n (l_X9_stonesOf_7 n j) S a1 a2 a3 a4 = some (r, S') := hf
    unfold b_X9_stonesOf_7 at hf
    obtain ⟨hx, hb, hml, hown, hts, hE⟩ := id X
    refine lv_iload hx hb dX9_stonesOf_7 (lv_at hl 4 rfl) ?_
    refine lv_aload_n hx hb dX9_stonesOf_9 rfl (lv_at hl 0 rfl) ?_
    obtain ⟨r1, h2, hf⟩ := xb_some hf
    refine x_cVi (As := []) (rest := [.int a4]) X hP hS kc_X9_97 (c_X9_floorsNow l G n S  r1.1 r1.2 h2) ⟨Nat.le_of_ble_eq_true rfl, Nat.le_of_ble_eq_true rfl⟩ (by decide) rfl rfl rfl hl.1 rfl (Nat.le_of_ble_eq_true rfl) ⟨Nat.zero_le _, Nat.zero_le _⟩ dX9_stonesOf_10 (fun H locs hP hS => ?_)
    refine lv_icmp_ge (tgt := 73) hx hb dX9_stonesOf_13 (by decide) (fun e3 => ?_) (fun e3 => ?_)
    · have hf := xif_t hf e3
      refine lv_iload_n hx hb dX9_stonesOf_73 rfl (lv_at hl 1 rfl) ?_
      refine lv_if_ne (tgt := 81) hx hb dX9_stonesOf_74 (by decide) (fun e4 => ?_) (fun e4 => ?_)
      · have hf := xif_f hf e4
        refine lv_iload_n hx hb dX9_stonesOf_81 rfl (lv_at hl 3 rfl) ?_
        exact x_iret X hr hlk hP hS  ((Prod.mk.inj (Option.some.inj hf)).1) ((Prod.mk.inj (Option.some.inj hf)).2) dX9_stonesOf_82
      · have hf := xif_t hf e4
        refine lv_iload_n hx hb dX9_stonesOf_77 rfl (lv_at hl 2 rfl) ?_
        refine lv_goto (tgt := 82) hx hb dX9_stonesOf_78 (by decide) ?_
        exact x_iret X hr hlk hP hS  ((Prod.mk.inj (Option.some.inj hf)).1) ((Prod.mk.inj (Option.some.inj hf)).2) dX9_stonesOf_82
    · have hf := xif_f hf e3
      refine lv_aload_n hx hb dX9_stonesOf_16 rfl (lv_at hl 0 rfl) ?_
      refine x_getR X hP fl_X9_22 (by decide) rfl rfl dX9_stonesOf_17 ?_
      refine lv_iload hx hb dX9_stonesOf_20 (lv_at hl 4 rfl) ?_
      obtain ⟨g5, hf⟩ := xg_some hf
      refine x_iald X hP (by decide) rfl g5 dX9_stonesOf_22 ?_
      refine x_cSi (As := [.int (r1.2.1 39 a4.toNatClampNeg)]) (rest := []) X hP hS kc_X9_188 (c_X9_up l G  r1.2 (r1.2.1 39 a4.toNatClampNeg) _ rfl) ⟨Nat.le_of_ble_eq_true rfl, Nat.le_of_ble_eq_true rfl⟩ rfl hl.1 rfl (Nat.le_of_ble_eq_true rfl) ⟨Nat.zero_le _, Nat.zero_le _⟩ dX9_stonesOf_23 (fun H locs hP hS => ?_)
      refine lv_aload_n hx hb dX9_stonesOf_26 rfl (lv_at hl 0 rfl) ?_
      refine lv_iload hx hb dX9_stonesOf_27 (lv_at hl 4 rfl) ?_
      obtain ⟨r6, h7, hf⟩ := xb_some hf
      refine x_cVi (As := [.int a4]) (rest := [.int (f_X9_up (r1.2.1 39 a4.toNatClampNeg))]) X hP hS kc_X9_100 (c_X9_builtOf l G n r1.2 a4 _ h7) ⟨Nat.le_of_ble_eq_true rfl, Nat.le_of_ble_eq_true rfl⟩ (by decide) rfl rfl rfl hl.1 rfl (Nat.le_of_ble_eq_true rfl) ⟨Nat.zero_le _, Nat.zero_le _⟩ dX9_stonesOf_29 (fun H locs hP hS => ?_)
      refine x_cSi (As := [.int r6]) (rest := [.int (f_X9_up (r1.2.1 39 a4.toNatClampNeg))]) X hP hS kc_X9_188 (c_X9_up l G  r1.2 r6 _ rfl) ⟨Nat.le_of_ble_eq_true rfl, Nat.le_of_ble_eq_true rfl⟩ rfl hl.1 rfl (Nat.le_of_ble_eq_true rfl) ⟨Nat.zero_le _, Nat.zero_le _⟩ dX9_stonesOf_32 (fun H locs hP hS => ?_)
      refine lv_isub hx hb dX9_stonesOf_35 ?_
      refine lv_istore (lv' := [(5, .int ((f_X9_up (r1.2.1 39 a4.toNatClampNeg)) - (f_X9_up r6))), (0, .ref (G.2.2 34)), (1, .int a1), (2, .int a2), (3, .int a3), (4, .int a4)]) hx hb dX9_stonesOf_36 hl (by decide) rfl (fun ls hl => ?_)
      refine lv_iload_n hx hb dX9_stonesOf_38 rfl (lv_at hl 3 rfl) ?_
      refine lv_iload hx hb dX9_stonesOf_39 (lv_at hl 0 rfl) ?_
      refine lv_if_le (tgt := 49) hx hb dX9_stonesOf_41 (by decide) (fun e8 => ?_) (fun e8 => ?_)
      · have hf := xif_t hf e8
        refine lv_iconst (v := 0) hx hb dX9_stonesOf_49 (by decide) ?_
        exact t_X9_stonesOf_50 X hr hlk  ih r1.2 a1 a3 a4 ((f_X9_up (r1.2.1 39 a4.toNatClampNeg)) - (f_X9_up r6)) (0 : Int32) a2 hf H locs ls hP hS (lv_sub hl [1, 2, 4, 5, 0] rfl)
      · have hf := xif_f hf e8
        refine lv_iload hx hb dX9_stonesOf_44 (lv_at hl 0 rfl) ?_
        refine lv_goto (tgt := 50) hx hb dX9_stonesOf_46 (by decide) ?_
        exact t_X9_stonesOf_50 X hr hlk  ih r1.2 a1 a3 a4 ((f_X9_up (r1.2.1 39 a4.toNatClampNeg)) - (f_X9_up r6)) ((f_X9_up (r1.2.1 39 a4.toNatClampNeg)) - (f_X9_up r6)) a2 hf H locs ls hP hS (lv_sub hl [1, 2, 4, 5, 0] rfl)
def f_X9_stonesOf (n : Nat) (S : xS) (a1 : Int32) : Option (Int32 × xS) :=
  l_X9_stonesOf_7 n n S a1 (0 : Int32) (0 : Int32) (0 : Int32)
set_option maxHeartbeats 4000000 in
set_option maxRecDepth 100000 in
theorem c_X9_stonesOf (l : Launch) (G : xG) (n : Nat)  (S : xS) (a1 : Int32) (r : Int32) (S' : xS) (hf : f_X9_stonesOf n S a1 = some (r, S')) : xMi l G yX9_stonesOf cX9_stonesOf 6 (some .int) 5 113 [.ref (G.2.2 34), .int a1] S r S' := by
  refine xMi_of (own := RX9) (by decide +kernel) rfl (Nat.le_of_ble_eq_true rfl) ?_
  intro p e s m args below meth c X hr hlk H locs ls hP hS hl
  have hl : lv_has ls 6 [(0, .ref (G.2.2 34)), (1, .int a1)] := hl
  obtain ⟨hx, hb, hml, hown, hts, hE⟩ := id X
  unfold f_X9_stonesOf at hf
  refine lv_iconst (v := 0) hx hb dX9_stonesOf_0 (by decide) ?_
  refine lv_istore_n (lv' := [(2, .int (0 : Int32)), (0, .ref (G.2.2 34)), (1, .int a1)]) hx hb dX9_stonesOf_1 rfl hl (by decide) rfl (fun ls hl => ?_)
  refine lv_iconst (v := 0) hx hb dX9_stonesOf_2 (by decide) ?_
  refine lv_istore_n (lv' := [(3, .int (0 : Int32)), (2, .int (0 : Int32)), (0, .ref (G.2.2 34)), (1, .int a1)]) hx hb dX9_stonesOf_3 rfl hl (by decide) rfl (fun ls hl => ?_)
  refine lv_iconst (v := 0) hx hb dX9_stonesOf_4 (by decide) ?_
  refine lv_istore (lv' := [(4, .int (0 : Int32)), (3, .int (0 : Int32)), (2, .int (0 : Int32)), (0, .ref (G.2.2 34)), (1, .int a1)]) hx hb dX9_stonesOf_5 hl (by decide) rfl (fun ls hl => ?_)
  exact t_X9_stonesOf_7 X hr hlk   n S a1 (0 : Int32) (0 : Int32) (0 : Int32) hf H locs ls hP hS (lv_sub hl [3, 4, 2, 1, 0] rfl)
def f_X9_stones (n : Nat) (S : xS) (a1 : Int32) : Option (Int32 × xS) :=
  (if (f_X9_in a1 (0 : Int32) (1 : Int32)) = 0 then some ((-2 : Int32), S) else (f_X9_stonesOf n S a1).bind fun r2 => (some (r2.1, r2.2)))
set_option maxHeartbeats 4000000 in
set_option maxRecDepth 100000 in
theorem c_X9_stones (l : Launch) (G : xG) (n : Nat)  (S : xS) (a1 : Int32) (r : Int32) (S' : xS) (hf : f_X9_stones n S a1 = some (r, S')) : xMi l G yX9_stones cX9_stones 2 (some .int) 6 138 [.ref (G.2.2 34), .int a1] S r S' := by
  refine xMi_of (own := RX9) (by decide +kernel) rfl (Nat.le_of_ble_eq_true rfl) ?_
  intro p e s m args below meth c X hr hlk H locs ls hP hS hl
  have hl : lv_has ls 2 [(0, .ref (G.2.2 34)), (1, .int a1)] := hl
  obtain ⟨hx, hb, hml, hown, hts, hE⟩ := id X
  unfold f_X9_stones at hf
  refine lv_iload_n hx hb dX9_stones_0 rfl (lv_at hl 1 rfl) ?_
  refine lv_iconst (v := 0) hx hb dX9_stones_1 (by decide) ?_
  refine lv_iconst (v := 1) hx hb dX9_stones_2 (by decide) ?_
  refine x_cSi (As := [.int a1, .int (0 : Int32), .int (1 : Int32)]) (rest := []) X hP hS kc_X9_68 (c_X9_in l G  S a1 (0 : Int32) (1 : Int32) _ rfl) ⟨Nat.le_of_ble_eq_true rfl, Nat.le_of_ble_eq_true rfl⟩ rfl hl.1 rfl (Nat.le_of_ble_eq_true rfl) ⟨Nat.zero_le _, Nat.zero_le _⟩ dX9_stones_3 (fun H locs hP hS => ?_)
  refine lv_if_eq (tgt := 17) hx hb dX9_stones_6 (by decide) (fun e1 => ?_) (fun e1 => ?_)
  · have hf := xif_t hf e1
    refine lv_bipush (v := (-2)) hx hb dX9_stones_17 (by decide) ?_
    exact x_iret X hr hlk hP hS  ((Prod.mk.inj (Option.some.inj hf)).1) ((Prod.mk.inj (Option.some.inj hf)).2) dX9_stones_19
  · have hf := xif_f hf e1
    refine lv_aload_n hx hb dX9_stones_9 rfl (lv_at hl 0 rfl) ?_
    refine lv_iload_n hx hb dX9_stones_10 rfl (lv_at hl 1 rfl) ?_
    obtain ⟨r2, h3, hf⟩ := xb_some hf
    refine x_cVi (As := [.int a1]) (rest := []) X hP hS kc_X9_191 (c_X9_stonesOf l G n S a1 r2.1 r2.2 h3) ⟨Nat.le_of_ble_eq_true rfl, Nat.le_of_ble_eq_true rfl⟩ (by decide) rfl rfl rfl hl.1 rfl (Nat.le_of_ble_eq_true rfl) ⟨Nat.zero_le _, Nat.zero_le _⟩ dX9_stones_11 (fun H locs hP hS => ?_)
    refine lv_goto (tgt := 19) hx hb dX9_stones_14 (by decide) ?_
    exact x_iret X hr hlk hP hS  ((Prod.mk.inj (Option.some.inj hf)).1) ((Prod.mk.inj (Option.some.inj hf)).2) dX9_stones_19
def f_X8_isForm (a0 : Int32) : Int32 :=
  f_X8_within a0 (0 : Int32) (2 : Int32)
theorem fb_X8_isForm (a0 : Int32) : f_X8_isForm a0 = 0 ∨ f_X8_isForm a0 = 1 := by
  unfold f_X8_isForm
  exact fb_X8_within a0 (0 : Int32) (2 : Int32)
set_option maxHeartbeats 4000000 in
set_option maxRecDepth 100000 in
theorem c_X8_isForm (l : Launch) (G : xG)  (S : xS) (a0 : Int32) (r : Int32) (hf : f_X8_isForm a0 = r) : xMi l G yX8_isForm cX8_isForm 1 (some .boolean) 1 22 [.int a0] S r S := by
  refine xMi_of (own := RX8) (by decide +kernel) rfl (Nat.le_of_ble_eq_true rfl) ?_
  intro p e s m args below meth c X hr hlk H locs ls hP hS hl
  have hl : lv_has ls 1 [(0, .int a0)] := hl
  obtain ⟨hx, hb, hml, hown, hts, hE⟩ := id X
  unfold f_X8_isForm at hf
  refine lv_iload_n hx hb dX8_isForm_0 rfl (lv_at hl 0 rfl) ?_
  refine lv_iconst (v := 0) hx hb dX8_isForm_1 (by decide) ?_
  refine lv_iconst (v := 2) hx hb dX8_isForm_2 (by decide) ?_
  refine x_cSi (As := [.int a0, .int (0 : Int32), .int (2 : Int32)]) (rest := []) X hP hS kc_X8_79 (c_X8_within l G  S a0 (0 : Int32) (2 : Int32) _ rfl) ⟨Nat.le_of_ble_eq_true rfl, Nat.le_of_ble_eq_true rfl⟩ rfl hl.1 rfl (Nat.le_of_ble_eq_true rfl) ⟨Nat.zero_le _, Nat.zero_le _⟩ dX8_isForm_3 (fun H locs hP hS => ?_)
  exact x_zret X hr hlk hP hS (fb_X8_within a0 (0 : Int32) (2 : Int32)) (hf) (rfl) dX8_isForm_6
def f_X6_renew (n : Nat) (q : Nat) (S : xS) (a1 : Int32) (a2 : Int32) : Option xS :=
  (f_J7_fill_53178 n (q + 4) 48 (xst (xst S q 1 a1) q 2 a2) (0 : Int32)).bind fun r1 => (some r1)
set_option maxHeartbeats 4000000 in
set_option maxRecDepth 100000 in
theorem c_X6_renew (l : Launch) (G : xG) (n : Nat) (q : Nat)  (hq : xsh q = true) (S : xS) (a1 : Int32) (a2 : Int32) (S' : xS) (hf : f_X6_renew n q S a1 a2 = some S') : xMv l G yX6_renew cX6_renew 3 none 1 23 [.ref (G.2.2 q), .int a1, .int a2] S S' := by
  refine xMv_of (own := RX6) (by decide +kernel) rfl (Nat.le_of_ble_eq_true rfl) ?_
  intro p e s m args below meth c X hr hlk H locs ls hP hS hl
  have hl : lv_has ls 3 [(0, .ref (G.2.2 q)), (1, .int a1), (2, .int a2)] := hl
  obtain ⟨hx, hb, hml, hown, hts, hE⟩ := id X
  unfold f_X6_renew at hf
  refine lv_aload_n hx hb dX6_renew_0 rfl (lv_at hl 0 rfl) ?_
  refine lv_iload_n hx hb dX6_renew_1 rfl (lv_at hl 1 rfl) ?_
  refine x_putI X hP hS fp_X6_15 (xsh_lt hq) (xsh_lay hq) rfl dX6_renew_2 (fun H locs hP hS => ?_)
  refine lv_aload_n hx hb dX6_renew_5 rfl (lv_at hl 0 rfl) ?_
  refine lv_iload_n hx hb dX6_renew_6 rfl (lv_at hl 2 rfl) ?_
  refine x_putI X hP hS fp_X6_19 (xsh_lt hq) (xsh_lay hq) rfl dX6_renew_7 (fun H locs hP hS => ?_)
  refine lv_aload_n hx hb dX6_renew_10 rfl (lv_at hl 0 rfl) ?_
  refine x_getR X hP fl_X6_9 (xsh_lt hq) (xsh_lay hq) rfl dX6_renew_11 ?_
  refine lv_iconst (v := 0) hx hb dX6_renew_14 (by decide) ?_
  obtain ⟨r1, h2, hf⟩ := xb_some hf
  refine x_cSv (As := [.ref (G.2.2 (q + 4)), .int (0 : Int32)]) (rest := []) X hP hS kc_X6_22 (c_J7_fill_53178 l G n (q + 4) 48 (xsh_lt4 hq) (xsh_it hq) (xst (xst S q 1 a1) q 2 a2) (0 : Int32) _ h2) ⟨Nat.le_of_ble_eq_true rfl, Nat.le_of_ble_eq_true rfl⟩ rfl hl.1 rfl (Nat.le_of_ble_eq_true rfl) ⟨Nat.zero_le _, Nat.zero_le _⟩ dX6_renew_15 (fun H locs hP hS => ?_)
  exact x_vret X hr hlk hP hS (Option.some.inj hf) dX6_renew_18
def f_X8_sheet (n : Nat) (S : xS) (a1 : Int32) (a2 : Int32) (a3 : Int32) : Option (Int32 × xS) :=
  (if (f_X8_isSheet a1) = 0 then some ((-2 : Int32), S) else (if (f_X8_isForm a2) = 0 then some ((-2 : Int32), S) else (if a3 ≤ (48 : Int32) then (if 0 ≤ a3 then xg (xin a1 4) ((f_X6_renew n (25 + a1.toNatClampNeg) S a2 a3).bind fun r6 => (some (a3, r6))) else some ((f_X8_finding S (5 : Int32)).1, (f_X8_finding S (5 : Int32)).2)) else some ((-2 : Int32), S))))
set_option maxHeartbeats 4000000 in
set_option maxRecDepth 100000 in
theorem c_X8_sheet (l : Launch) (G : xG) (n : Nat)  (S : xS) (a1 : Int32) (a2 : Int32) (a3 : Int32) (r : Int32) (S' : xS) (hf : f_X8_sheet n S a1 a2 a3 = some (r, S')) : xMi l G yX8_sheet cX8_sheet 4 (some .int) 2 45 [.ref (G.2.2 0), .int a1, .int a2, .int a3] S r S' := by
  refine xMi_of (own := RX8) (by decide +kernel) rfl (Nat.le_of_ble_eq_true rfl) ?_
  intro p e s m args below meth c X hr hlk H locs ls hP hS hl
  have hl : lv_has ls 4 [(0, .ref (G.2.2 0)), (1, .int a1), (2, .int a2), (3, .int a3)] := hl
  obtain ⟨hx, hb, hml, hown, hts, hE⟩ := id X
  unfold f_X8_sheet at hf
  refine lv_iload_n hx hb dX8_sheet_0 rfl (lv_at hl 1 rfl) ?_
  refine x_cSi (As := [.int a1]) (rest := []) X hP hS kc_X8_244 (c_X8_isSheet l G  S a1 _ rfl) ⟨Nat.le_of_ble_eq_true rfl, Nat.le_of_ble_eq_true rfl⟩ rfl hl.1 rfl (Nat.le_of_ble_eq_true rfl) ⟨Nat.zero_le _, Nat.zero_le _⟩ dX8_sheet_1 (fun H locs hP hS => ?_)
  refine lv_if_eq (tgt := 20) hx hb dX8_sheet_4 (by decide) (fun e1 => ?_) (fun e1 => ?_)
  · have hf := xif_t hf e1
    refine lv_bipush (v := (-2)) hx hb dX8_sheet_20 (by decide) ?_
    exact x_iret X hr hlk hP hS  ((Prod.mk.inj (Option.some.inj hf)).1) ((Prod.mk.inj (Option.some.inj hf)).2) dX8_sheet_22
  · have hf := xif_f hf e1
    refine lv_iload_n hx hb dX8_sheet_7 rfl (lv_at hl 2 rfl) ?_
    refine x_cSi (As := [.int a2]) (rest := []) X hP hS kc_X8_247 (c_X8_isForm l G  S a2 _ rfl) ⟨Nat.le_of_ble_eq_true rfl, Nat.le_of_ble_eq_true rfl⟩ rfl hl.1 rfl (Nat.le_of_ble_eq_true rfl) ⟨Nat.zero_le _, Nat.zero_le _⟩ dX8_sheet_8 (fun H locs hP hS => ?_)
    refine lv_if_eq (tgt := 20) hx hb dX8_sheet_11 (by decide) (fun e2 => ?_) (fun e2 => ?_)
    · have hf := xif_t hf e2
      refine lv_bipush (v := (-2)) hx hb dX8_sheet_20 (by decide) ?_
      exact x_iret X hr hlk hP hS  ((Prod.mk.inj (Option.some.inj hf)).1) ((Prod.mk.inj (Option.some.inj hf)).2) dX8_sheet_22
    · have hf := xif_f hf e2
      refine lv_iload_n hx hb dX8_sheet_14 rfl (lv_at hl 3 rfl) ?_
      refine lv_bipush (v := 48) hx hb dX8_sheet_15 (by decide) ?_
      refine lv_icmp_le (tgt := 23) hx hb dX8_sheet_17 (by decide) (fun e3 => ?_) (fun e3 => ?_)
      · have hf := xif_t hf e3
        refine lv_iload_n hx hb dX8_sheet_23 rfl (lv_at hl 3 rfl) ?_
        refine lv_if_ge (tgt := 33) hx hb dX8_sheet_24 (by decide) (fun e4 => ?_) (fun e4 => ?_)
        · have hf := xif_t hf e4
          refine lv_aload_n hx hb dX8_sheet_33 rfl (lv_at hl 0 rfl) ?_
          refine x_getR X hP fl_X8_70 (by decide) rfl rfl dX8_sheet_34 ?_
          refine lv_iload_n hx hb dX8_sheet_37 rfl (lv_at hl 1 rfl) ?_
          obtain ⟨g5, hf⟩ := xg_some hf
          refine x_ash X hP g5 dX8_sheet_38 ?_
          refine lv_iload_n hx hb dX8_sheet_39 rfl (lv_at hl 2 rfl) ?_
          refine lv_iload_n hx hb dX8_sheet_40 rfl (lv_at hl 3 rfl) ?_
          obtain ⟨r6, h7, hf⟩ := xb_some hf
          refine x_cVv (As := [.int a2, .int a3]) (rest := []) X hP hS kc_X8_253 (c_X6_renew l G n (25 + a1.toNatClampNeg) (xsh_of g5) S a2 a3 _ h7) ⟨Nat.le_of_ble_eq_true rfl, Nat.le_of_ble_eq_true rfl⟩ (xsh_lt (xsh_of g5)) (xsh_lay (xsh_of g5)) rfl rfl hl.1 rfl (Nat.le_of_ble_eq_true rfl) ⟨Nat.zero_le _, Nat.zero_le _⟩ dX8_sheet_41 (fun H locs hP hS => ?_)
          refine lv_iload_n hx hb dX8_sheet_44 rfl (lv_at hl 3 rfl) ?_
          exact x_iret X hr hlk hP hS  ((Prod.mk.inj (Option.some.inj hf)).1) ((Prod.mk.inj (Option.some.inj hf)).2) dX8_sheet_45
        · have hf := xif_f hf e4
          refine lv_aload_n hx hb dX8_sheet_27 rfl (lv_at hl 0 rfl) ?_
          refine lv_iconst (v := 5) hx hb dX8_sheet_28 (by decide) ?_
          refine x_cVi (As := [.int (5 : Int32)]) (rest := []) X hP hS kc_X8_250 (c_X8_finding l G  S (5 : Int32) (f_X8_finding S (5 : Int32)).1 (f_X8_finding S (5 : Int32)).2 rfl) ⟨Nat.le_of_ble_eq_true rfl, Nat.le_of_ble_eq_true rfl⟩ (by decide) rfl rfl rfl hl.1 rfl (Nat.le_of_ble_eq_true rfl) ⟨Nat.zero_le _, Nat.zero_le _⟩ dX8_sheet_29 (fun H locs hP hS => ?_)
          exact x_iret X hr hlk hP hS  ((Prod.mk.inj (Option.some.inj hf)).1) ((Prod.mk.inj (Option.some.inj hf)).2) dX8_sheet_32
      · have hf := xif_f hf e3
        refine lv_bipush (v := (-2)) hx hb dX8_sheet_20 (by decide) ?_
        exact x_iret X hr hlk hP hS  ((Prod.mk.inj (Option.some.inj hf)).1) ((Prod.mk.inj (Option.some.inj hf)).2) dX8_sheet_22
def b_X9_sheet_59 (n : Nat) (k59 : xS → Int32 → Int32 → Int32 → Option (Int32 × xS)) (S : xS) (a1 : Int32) (a3 : Int32) (a4 : Int32) : Option (Int32 × xS) :=
  (if (48 : Int32) ≤ a4 then some (a3, S) else xg (xin (((48 : Int32) * a1) + a4) 192) (k59 (xst S 51 (((48 : Int32) * a1) + a4).toNatClampNeg (0 : Int32)) a1 a3 (a4 + 1)))
def l_X9_sheet_59 (n : Nat) : Nat → xS → Int32 → Int32 → Int32 → Option (Int32 × xS)
  | 0, _, _, _, _ => none
  | j + 1, S, a1, a3, a4 => b_X9_sheet_59 n (l_X9_sheet_59 n j) S a1 a3 a4
set_option maxHeartbeats 4000000 in
set_option maxRecDepth 100000 in
theorem t_X9_sheet_59 {p : Program} {l : Launch} {e : Env} {s : State} {m : MethodId} {args : Array Value} {below : List Frame} {meth : Method} {c : Code} {G : xG} (X : xC p s m args c G RX9 cX9_sheet 5) (hr : meth.sig.returnType = (some .int)) (hlk : meth.locks = false) {n : Nat} {r : Int32} {S' : xS} : ∀ (j : Nat) (S : xS) (a1 : Int32) (a3 : Int32) (a4 : Int32), l_X9_sheet_59 n j S a1 a3 a4 = some (r, S') → xGo p l e { frames := 2, cells := 0, slots := 0, locals := 42 } s m args below meth c G 5 0 0 (MQ below (xQi G r S') args s 0 0 (xA G)) S 59 [(0, .ref (G.2.2 34)), (1, .int a1), (3, .int a3), (4, .int a4)] [] := by
  intro j
  induction j with
  | zero => intro S a1 a3 a4 hf; exact nomatch (show (none : Option (Int32 × xS)) = _ from hf)
  | succ j ih =>
    intro S a1 a3 a4 hf H locs ls hP hS hl
    have hf : b_X9_sheet_59 n (l_X9_sheet_59 n j) S a1 a3 a4 = some (r, S') := hf
    unfold b_X9_sheet_59 at hf
    obtain ⟨hx, hb, hml, hown, hts, hE⟩ := id X
    refine lv_iload hx hb dX9_sheet_59 (lv_at hl 3 rfl) ?_
    refine lv_bipush (v := 48) hx hb dX9_sheet_61 (by decide) ?_
    refine lv_icmp_ge (tgt := 85) hx hb dX9_sheet_63 (by decide) (fun e8 => ?_) (fun e8 => ?_)
    · have hf := xif_t hf e8
      refine lv_iload_n hx hb dX9_sheet_85 rfl (lv_at hl 2 rfl) ?_
      exact x_iret X hr hlk hP hS  ((Prod.mk.inj (Option.some.inj hf)).1) ((Prod.mk.inj (Option.some.inj hf)).2) dX9_sheet_86
    · have hf := xif_f hf e8
      refine lv_aload_n hx hb dX9_sheet_66 rfl (lv_at hl 0 rfl) ?_
      refine x_getR X hP fl_X9_60 (by decide) rfl rfl dX9_sheet_67 ?_
      refine lv_bipush (v := 48) hx hb dX9_sheet_70 (by decide) ?_
      refine lv_iload_n hx hb dX9_sheet_72 rfl (lv_at hl 1 rfl) ?_
      refine lv_imul hx hb dX9_sheet_73 ?_
      refine lv_iload hx hb dX9_sheet_74 (lv_at hl 3 rfl) ?_
      refine lv_iadd hx hb dX9_sheet_76 ?_
      refine lv_iconst (v := 0) hx hb dX9_sheet_77 (by decide) ?_
      obtain ⟨g9, hf⟩ := xg_some hf
      refine x_iast X hP hS (by decide) rfl g9 dX9_sheet_78 (fun H locs hP hS => ?_)
      refine lv_iinc (v := a4 + 1) (lv' := [(4, .int (a4 + 1)), (0, .ref (G.2.2 34)), (1, .int a1), (3, .int a3)]) hx hb dX9_sheet_79 hl (k := 3) rfl rfl (by decide) rfl (fun ls hl => ?_)
      refine lv_goto (tgt := 59) hx hb dX9_sheet_82 (by decide) ?_
      exact ih (xst S 51 (((48 : Int32) * a1) + a4).toNatClampNeg (0 : Int32)) a1 a3 (a4 + 1) hf H locs ls hP hS (lv_sub hl [1, 2, 3, 0] rfl)
def f_X9_sheet (n : Nat) (S : xS) (a1 : Int32) (a2 : Int32) (a3 : Int32) : Option (Int32 × xS) :=
  (if (f_X9_isSheet a1) = 0 then some ((-2 : Int32), S) else (if (f_X9_in a2 (0 : Int32) (2 : Int32)) = 0 then some ((-2 : Int32), S) else (if a3 ≤ (48 : Int32) then (if 0 ≤ a3 then xg (xin a1 4) (xg (xin a1 4) (xg (xin a1 4) (l_X9_sheet_59 n n (xst (xst (xst S 48 a1.toNatClampNeg (1 : Int32)) 49 a1.toNatClampNeg a2) 50 a1.toNatClampNeg a3) a1 a3 (0 : Int32)))) else some ((f_X9_meets S (5 : Int32)).1, (f_X9_meets S (5 : Int32)).2)) else some ((-2 : Int32), S))))
set_option maxHeartbeats 4000000 in
set_option maxRecDepth 100000 in
theorem c_X9_sheet (l : Launch) (G : xG) (n : Nat)  (S : xS) (a1 : Int32) (a2 : Int32) (a3 : Int32) (r : Int32) (S' : xS) (hf : f_X9_sheet n S a1 a2 a3 = some (r, S')) : xMi l G yX9_sheet cX9_sheet 5 (some .int) 2 42 [.ref (G.2.2 34), .int a1, .int a2, .int a3] S r S' := by
  refine xMi_of (own := RX9) (by decide +kernel) rfl (Nat.le_of_ble_eq_true rfl) ?_
  intro p e s m args below meth c X hr hlk H locs ls hP hS hl
  have hl : lv_has ls 5 [(0, .ref (G.2.2 34)), (1, .int a1), (2, .int a2), (3, .int a3)] := hl
  obtain ⟨hx, hb, hml, hown, hts, hE⟩ := id X
  unfold f_X9_sheet at hf
  refine lv_iload_n hx hb dX9_sheet_0 rfl (lv_at hl 1 rfl) ?_
  refine x_cSi (As := [.int a1]) (rest := []) X hP hS kc_X9_143 (c_X9_isSheet l G  S a1 _ rfl) ⟨Nat.le_of_ble_eq_true rfl, Nat.le_of_ble_eq_true rfl⟩ rfl hl.1 rfl (Nat.le_of_ble_eq_true rfl) ⟨Nat.zero_le _, Nat.zero_le _⟩ dX9_sheet_1 (fun H locs hP hS => ?_)
  refine lv_if_eq (tgt := 22) hx hb dX9_sheet_4 (by decide) (fun e1 => ?_) (fun e1 => ?_)
  · have hf := xif_t hf e1
    refine lv_bipush (v := (-2)) hx hb dX9_sheet_22 (by decide) ?_
    exact x_iret X hr hlk hP hS  ((Prod.mk.inj (Option.some.inj hf)).1) ((Prod.mk.inj (Option.some.inj hf)).2) dX9_sheet_24
  · have hf := xif_f hf e1
    refine lv_iload_n hx hb dX9_sheet_7 rfl (lv_at hl 2 rfl) ?_
    refine lv_iconst (v := 0) hx hb dX9_sheet_8 (by decide) ?_
    refine lv_iconst (v := 2) hx hb dX9_sheet_9 (by decide) ?_
    refine x_cSi (As := [.int a2, .int (0 : Int32), .int (2 : Int32)]) (rest := []) X hP hS kc_X9_68 (c_X9_in l G  S a2 (0 : Int32) (2 : Int32) _ rfl) ⟨Nat.le_of_ble_eq_true rfl, Nat.le_of_ble_eq_true rfl⟩ rfl hl.1 rfl (Nat.le_of_ble_eq_true rfl) ⟨Nat.zero_le _, Nat.zero_le _⟩ dX9_sheet_10 (fun H locs hP hS => ?_)
    refine lv_if_eq (tgt := 22) hx hb dX9_sheet_13 (by decide) (fun e2 => ?_) (fun e2 => ?_)
    · have hf := xif_t hf e2
      refine lv_bipush (v := (-2)) hx hb dX9_sheet_22 (by decide) ?_
      exact x_iret X hr hlk hP hS  ((Prod.mk.inj (Option.some.inj hf)).1) ((Prod.mk.inj (Option.some.inj hf)).2) dX9_sheet_24
    · have hf := xif_f hf e2
      refine lv_iload_n hx hb dX9_sheet_16 rfl (lv_at hl 3 rfl) ?_
      refine lv_bipush (v := 48) hx hb dX9_sheet_17 (by decide) ?_
      refine lv_icmp_le (tgt := 25) hx hb dX9_sheet_19 (by decide) (fun e3 => ?_) (fun e3 => ?_)
      · have hf := xif_t hf e3
        refine lv_iload_n hx hb dX9_sheet_25 rfl (lv_at hl 3 rfl) ?_
        refine lv_if_ge (tgt := 35) hx hb dX9_sheet_26 (by decide) (fun e4 => ?_) (fun e4 => ?_)
        · have hf := xif_t hf e4
          refine lv_aload_n hx hb dX9_sheet_35 rfl (lv_at hl 0 rfl) ?_
          refine x_getR X hP fl_X9_50 (by decide) rfl rfl dX9_sheet_36 ?_
          refine lv_iload_n hx hb dX9_sheet_39 rfl (lv_at hl 1 rfl) ?_
          refine lv_iconst (v := 1) hx hb dX9_sheet_40 (by decide) ?_
          obtain ⟨g5, hf⟩ := xg_some hf
          refine x_zast X hP hS (by decide) rfl g5 rfl dX9_sheet_41 (fun H locs hP hS => ?_)
          refine lv_aload_n hx hb dX9_sheet_42 rfl (lv_at hl 0 rfl) ?_
          refine x_getR X hP fl_X9_54 (by decide) rfl rfl dX9_sheet_43 ?_
          refine lv_iload_n hx hb dX9_sheet_46 rfl (lv_at hl 1 rfl) ?_
          refine lv_iload_n hx hb dX9_sheet_47 rfl (lv_at hl 2 rfl) ?_
          obtain ⟨g6, hf⟩ := xg_some hf
          refine x_iast X hP hS (by decide) rfl g6 dX9_sheet_48 (fun H locs hP hS => ?_)
          refine lv_aload_n hx hb dX9_sheet_49 rfl (lv_at hl 0 rfl) ?_
          refine x_getR X hP fl_X9_57 (by decide) rfl rfl dX9_sheet_50 ?_
          refine lv_iload_n hx hb dX9_sheet_53 rfl (lv_at hl 1 rfl) ?_
          refine lv_iload_n hx hb dX9_sheet_54 rfl (lv_at hl 3 rfl) ?_
          obtain ⟨g7, hf⟩ := xg_some hf
          refine x_iast X hP hS (by decide) rfl g7 dX9_sheet_55 (fun H locs hP hS => ?_)
          refine lv_iconst (v := 0) hx hb dX9_sheet_56 (by decide) ?_
          refine lv_istore (lv' := [(4, .int (0 : Int32)), (0, .ref (G.2.2 34)), (1, .int a1), (2, .int a2), (3, .int a3)]) hx hb dX9_sheet_57 hl (by decide) rfl (fun ls hl => ?_)
          exact t_X9_sheet_59 X hr hlk   n (xst (xst (xst S 48 a1.toNatClampNeg (1 : Int32)) 49 a1.toNatClampNeg a2) 50 a1.toNatClampNeg a3) a1 a3 (0 : Int32) hf H locs ls hP hS (lv_sub hl [1, 2, 4, 0] rfl)
        · have hf := xif_f hf e4
          refine lv_aload_n hx hb dX9_sheet_29 rfl (lv_at hl 0 rfl) ?_
          refine lv_iconst (v := 5) hx hb dX9_sheet_30 (by decide) ?_
          refine x_cVi (As := [.int (5 : Int32)]) (rest := []) X hP hS kc_X9_146 (c_X9_meets l G  S (5 : Int32) (f_X9_meets S (5 : Int32)).1 (f_X9_meets S (5 : Int32)).2 rfl) ⟨Nat.le_of_ble_eq_true rfl, Nat.le_of_ble_eq_true rfl⟩ (by decide) rfl rfl rfl hl.1 rfl (Nat.le_of_ble_eq_true rfl) ⟨Nat.zero_le _, Nat.zero_le _⟩ dX9_sheet_31 (fun H locs hP hS => ?_)
          exact x_iret X hr hlk hP hS  ((Prod.mk.inj (Option.some.inj hf)).1) ((Prod.mk.inj (Option.some.inj hf)).2) dX9_sheet_34
      · have hf := xif_f hf e3
        refine lv_bipush (v := (-2)) hx hb dX9_sheet_22 (by decide) ?_
        exact x_iret X hr hlk hP hS  ((Prod.mk.inj (Option.some.inj hf)).1) ((Prod.mk.inj (Option.some.inj hf)).2) dX9_sheet_24
def f_X8_lose (n : Nat) (S : xS) (a1 : Int32) : Option (Int32 × xS) :=
  (f_X8_refuseSheet n S a1).bind fun r1 => ((if r1.1 = 0 then xg (xin a1 4) (xg (xin a1 4) ((f_X6_renew n (25 + a1.toNatClampNeg) r1.2 (-1 : Int32) (0 : Int32)).bind fun r6 => (some (r1.2.1 (25 + a1.toNatClampNeg) 2, r6)))) else some (r1.1, r1.2)))
set_option maxHeartbeats 4000000 in
set_option maxRecDepth 100000 in
theorem c_X8_lose (l : Launch) (G : xG) (n : Nat)  (S : xS) (a1 : Int32) (r : Int32) (S' : xS) (hf : f_X8_lose n S a1 = some (r, S')) : xMi l G yX8_lose cX8_lose 4 (some .int) 3 63 [.ref (G.2.2 0), .int a1] S r S' := by
  refine xMi_of (own := RX8) (by decide +kernel) rfl (Nat.le_of_ble_eq_true rfl) ?_
  intro p e s m args below meth c X hr hlk H locs ls hP hS hl
  have hl : lv_has ls 4 [(0, .ref (G.2.2 0)), (1, .int a1)] := hl
  obtain ⟨hx, hb, hml, hown, hts, hE⟩ := id X
  unfold f_X8_lose at hf
  refine lv_aload_n hx hb dX8_lose_0 rfl (lv_at hl 0 rfl) ?_
  refine lv_iload_n hx hb dX8_lose_1 rfl (lv_at hl 1 rfl) ?_
  obtain ⟨r1, h2, hf⟩ := xb_some hf
  refine x_cVi (As := [.int a1]) (rest := []) X hP hS kc_X8_181 (c_X8_refuseSheet l G n S a1 r1.1 r1.2 h2) ⟨Nat.le_of_ble_eq_true rfl, Nat.le_of_ble_eq_true rfl⟩ (by decide) rfl rfl rfl hl.1 rfl (Nat.le_of_ble_eq_true rfl) ⟨Nat.zero_le _, Nat.zero_le _⟩ dX8_lose_2 (fun H locs hP hS => ?_)
  refine lv_istore_n (lv' := [(2, .int r1.1), (0, .ref (G.2.2 0)), (1, .int a1)]) hx hb dX8_lose_5 rfl hl (by decide) rfl (fun ls hl => ?_)
  refine lv_iload_n hx hb dX8_lose_6 rfl (lv_at hl 0 rfl) ?_
  refine lv_if_eq (tgt := 12) hx hb dX8_lose_7 (by decide) (fun e3 => ?_) (fun e3 => ?_)
  · have hf := xif_t hf e3
    refine lv_aload_n hx hb dX8_lose_12 rfl (lv_at hl 1 rfl) ?_
    refine x_getR X hP fl_X8_70 (by decide) rfl rfl dX8_lose_13 ?_
    refine lv_iload_n hx hb dX8_lose_16 rfl (lv_at hl 2 rfl) ?_
    obtain ⟨g4, hf⟩ := xg_some hf
    refine x_ash X hP g4 dX8_lose_17 ?_
    refine x_getIN X hP fn_X8_184 (xsh_lt (xsh_of g4)) (xsh_lay (xsh_of g4)) rfl dX8_lose_18 ?_
    refine lv_istore_n (lv' := [(3, .int (r1.2.1 (25 + a1.toNatClampNeg) 2)), (2, .int r1.1), (0, .ref (G.2.2 0)), (1, .int a1)]) hx hb dX8_lose_21 rfl hl (by decide) rfl (fun ls hl => ?_)
    refine lv_aload_n hx hb dX8_lose_22 rfl (lv_at hl 2 rfl) ?_
    refine x_getR X hP fl_X8_70 (by decide) rfl rfl dX8_lose_23 ?_
    refine lv_iload_n hx hb dX8_lose_26 rfl (lv_at hl 3 rfl) ?_
    obtain ⟨g5, hf⟩ := xg_some hf
    refine x_ash X hP g5 dX8_lose_27 ?_
    refine lv_iconst (v := (-1)) hx hb dX8_lose_28 (by decide) ?_
    refine lv_iconst (v := 0) hx hb dX8_lose_29 (by decide) ?_
    obtain ⟨r6, h7, hf⟩ := xb_some hf
    refine x_cVv (As := [.int (-1 : Int32), .int (0 : Int32)]) (rest := []) X hP hS kc_X8_253 (c_X6_renew l G n (25 + a1.toNatClampNeg) (xsh_of g5) r1.2 (-1 : Int32) (0 : Int32) _ h7) ⟨Nat.le_of_ble_eq_true rfl, Nat.le_of_ble_eq_true rfl⟩ (xsh_lt (xsh_of g5)) (xsh_lay (xsh_of g5)) rfl rfl hl.1 rfl (Nat.le_of_ble_eq_true rfl) ⟨Nat.zero_le _, Nat.zero_le _⟩ dX8_lose_30 (fun H locs hP hS => ?_)
    refine lv_iload_n hx hb dX8_lose_33 rfl (lv_at hl 0 rfl) ?_
    exact x_iret X hr hlk hP hS  ((Prod.mk.inj (Option.some.inj hf)).1) ((Prod.mk.inj (Option.some.inj hf)).2) dX8_lose_34
  · have hf := xif_f hf e3
    refine lv_iload_n hx hb dX8_lose_10 rfl (lv_at hl 0 rfl) ?_
    exact x_iret X hr hlk hP hS  ((Prod.mk.inj (Option.some.inj hf)).1) ((Prod.mk.inj (Option.some.inj hf)).2) dX8_lose_11
def f_X9_lose (n : Nat) (S : xS) (a1 : Int32) : Option (Int32 × xS) :=
  (if (f_X9_isSheet a1) = 0 then some ((-2 : Int32), S) else xg (xin a1 4) ((if (S.1 48 a1.toNatClampNeg) = 0 then some ((f_X9_meets S (1 : Int32)).1, (f_X9_meets S (1 : Int32)).2) else xg (xin a1 4) (xg (xin a1 4) (some ((xst S 48 a1.toNatClampNeg (0 : Int32)).1 50 a1.toNatClampNeg, xst S 48 a1.toNatClampNeg (0 : Int32)))))))
set_option maxHeartbeats 4000000 in
set_option maxRecDepth 100000 in
theorem c_X9_lose (l : Launch) (G : xG) (n : Nat)  (S : xS) (a1 : Int32) (r : Int32) (S' : xS) (hf : f_X9_lose n S a1 = some (r, S')) : xMi l G yX9_lose cX9_lose 2 (some .int) 2 42 [.ref (G.2.2 34), .int a1] S r S' := by
  refine xMi_of (own := RX9) (by decide +kernel) rfl (Nat.le_of_ble_eq_true rfl) ?_
  intro p e s m args below meth c X hr hlk H locs ls hP hS hl
  have hl : lv_has ls 2 [(0, .ref (G.2.2 34)), (1, .int a1)] := hl
  obtain ⟨hx, hb, hml, hown, hts, hE⟩ := id X
  unfold f_X9_lose at hf
  refine lv_iload_n hx hb dX9_lose_0 rfl (lv_at hl 1 rfl) ?_
  refine x_cSi (As := [.int a1]) (rest := []) X hP hS kc_X9_143 (c_X9_isSheet l G  S a1 _ rfl) ⟨Nat.le_of_ble_eq_true rfl, Nat.le_of_ble_eq_true rfl⟩ rfl hl.1 rfl (Nat.le_of_ble_eq_true rfl) ⟨Nat.zero_le _, Nat.zero_le _⟩ dX9_lose_1 (fun H locs hP hS => ?_)
  refine lv_if_ne (tgt := 10) hx hb dX9_lose_4 (by decide) (fun e1 => ?_) (fun e1 => ?_)
  · have hf := xif_f hf e1
    refine lv_aload_n hx hb dX9_lose_10 rfl (lv_at hl 0 rfl) ?_
    refine x_getR X hP fl_X9_50 (by decide) rfl rfl dX9_lose_11 ?_
    refine lv_iload_n hx hb dX9_lose_14 rfl (lv_at hl 1 rfl) ?_
    obtain ⟨g2, hf⟩ := xg_some hf
    refine x_zald X hP (by decide) rfl g2 dX9_lose_15 ?_
    refine lv_if_ne (tgt := 25) hx hb dX9_lose_16 (by decide) (fun e3 => ?_) (fun e3 => ?_)
    · have hf := xif_f hf e3
      refine lv_aload_n hx hb dX9_lose_25 rfl (lv_at hl 0 rfl) ?_
      refine x_getR X hP fl_X9_50 (by decide) rfl rfl dX9_lose_26 ?_
      refine lv_iload_n hx hb dX9_lose_29 rfl (lv_at hl 1 rfl) ?_
      refine lv_iconst (v := 0) hx hb dX9_lose_30 (by decide) ?_
      obtain ⟨g4, hf⟩ := xg_some hf
      refine x_zast X hP hS (by decide) rfl g4 rfl dX9_lose_31 (fun H locs hP hS => ?_)
      refine lv_aload_n hx hb dX9_lose_32 rfl (lv_at hl 0 rfl) ?_
      refine x_getR X hP fl_X9_57 (by decide) rfl rfl dX9_lose_33 ?_
      refine lv_iload_n hx hb dX9_lose_36 rfl (lv_at hl 1 rfl) ?_
      obtain ⟨g5, hf⟩ := xg_some hf
      refine x_iald X hP (by decide) rfl g5 dX9_lose_37 ?_
      exact x_iret X hr hlk hP hS  ((Prod.mk.inj (Option.some.inj hf)).1) ((Prod.mk.inj (Option.some.inj hf)).2) dX9_lose_38
    · have hf := xif_t hf e3
      refine lv_aload_n hx hb dX9_lose_19 rfl (lv_at hl 0 rfl) ?_
      refine lv_iconst (v := 1) hx hb dX9_lose_20 (by decide) ?_
      refine x_cVi (As := [.int (1 : Int32)]) (rest := []) X hP hS kc_X9_146 (c_X9_meets l G  S (1 : Int32) (f_X9_meets S (1 : Int32)).1 (f_X9_meets S (1 : Int32)).2 rfl) ⟨Nat.le_of_ble_eq_true rfl, Nat.le_of_ble_eq_true rfl⟩ (by decide) rfl rfl rfl hl.1 rfl (Nat.le_of_ble_eq_true rfl) ⟨Nat.zero_le _, Nat.zero_le _⟩ dX9_lose_21 (fun H locs hP hS => ?_)
      exact x_iret X hr hlk hP hS  ((Prod.mk.inj (Option.some.inj hf)).1) ((Prod.mk.inj (Option.some.inj hf)).2) dX9_lose_24
  · have hf := xif_t hf e1
    refine lv_bipush (v := (-2)) hx hb dX9_lose_7 (by decide) ?_
    exact x_iret X hr hlk hP hS  ((Prod.mk.inj (Option.some.inj hf)).1) ((Prod.mk.inj (Option.some.inj hf)).2) dX9_lose_9
