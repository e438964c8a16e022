def b_X9_sillOf_8 (n : Nat) (k8 : Int32 → Int32 → Int32 → Int32 → Int32 → Option Int32) (S : xS) (a1 : Int32) (a2 : Int32) (a3 : Int32) (a4 : Int32) (a5 : Int32) : Option Int32 :=
  (if a1 ≤ a5 then (if a2 = 0 then some a3 else (if a2 = (1 : Int32) then some a4 else some (a3 - a4))) else (f_X9_builtOf n S a5).bind fun r4 => (xg (xin a5 11) (k8 a1 a2 (a3 + r4) (a4 + (S.1 39 a5.toNatClampNeg)) (a5 + 1))))
def l_X9_sillOf_8 (n : Nat) (S : xS) : Nat → Int32 → Int32 → Int32 → Int32 → Int32 → Option Int32
  | 0, _, _, _, _, _ => none
  | j + 1, a1, a2, a3, a4, a5 => b_X9_sillOf_8 n (l_X9_sillOf_8 n S j) S a1 a2 a3 a4 a5
set_option maxHeartbeats 4000000 in
set_option maxRecDepth 100000 in
theorem t_X9_sillOf_8 {p : Program} {l : Launch} {e : Env} {s : State} {m : MethodId} {args : Array Value} {below : List Frame} {meth : Method} {c : Code} {G : xG} (X : xC p s m args c G RX9 cX9_sillOf 6) (hr : meth.sig.returnType = (some .int)) (hlk : meth.locks = false) {n : Nat} {r : Int32} {S : xS} : ∀ (j : Nat) (a1 : Int32) (a2 : Int32) (a3 : Int32) (a4 : Int32) (a5 : Int32), l_X9_sillOf_8 n S j a1 a2 a3 a4 a5 = some r → xGo p l e { frames := 2, cells := 0, slots := 0, locals := 47 } s m args below meth c G 6 0 0 (MQ below (xQi G r S) args s 0 0 (xA G)) S 8 [(0, .ref (G.2.2 34)), (1, .int a1), (2, .int a2), (3, .int a3), (4, .int a4), (5, .int a5)] [] := by
  intro j
  induction j with
  | zero => intro a1 a2 a3 a4 a5 hf; exact nomatch (show (none : Option Int32) = _ from hf)
  | succ j ih =>
    intro a1 a2 a3 a4 a5 hf H locs ls hP hS hl
    have hf : b_X9_sillOf_8 n (l_X9_sillOf_8 n S j) S a1 a2 a3 a4 a5 = some r := hf
    unfold b_X9_sillOf_8 at hf
    obtain ⟨hx, hb, hml, hown, hts, hE⟩ := id X
    refine lv_iload hx hb dX9_sillOf_8 (lv_at hl 5 rfl) ?_
    refine lv_iload_n hx hb dX9_sillOf_10 rfl (lv_at hl 1 rfl) ?_
    refine lv_icmp_ge (tgt := 41) hx hb dX9_sillOf_11 (by decide) (fun e1 => ?_) (fun e1 => ?_)
    · have hf := xif_t hf e1
      refine lv_iload_n hx hb dX9_sillOf_41 rfl (lv_at hl 2 rfl) ?_
      refine lv_if_ne (tgt := 49) hx hb dX9_sillOf_42 (by decide) (fun e2 => ?_) (fun e2 => ?_)
      · have hf := xif_f hf e2
        refine lv_iload_n hx hb dX9_sillOf_49 rfl (lv_at hl 2 rfl) ?_
        refine lv_iconst (v := 1) hx hb dX9_sillOf_50 (by decide) ?_
        refine lv_icmp_ne (tgt := 59) hx hb dX9_sillOf_51 (by decide) (fun e3 => ?_) (fun e3 => ?_)
        · have hf := xif_f hf e3
          refine lv_iload_n hx hb dX9_sillOf_59 rfl (lv_at hl 3 rfl) ?_
          refine lv_iload hx hb dX9_sillOf_60 (lv_at hl 4 rfl) ?_
          refine lv_isub hx hb dX9_sillOf_62 ?_
          exact x_iret X hr hlk hP hS  (Option.some.inj hf) (rfl) dX9_sillOf_63
        · have hf := xif_t hf e3
          refine lv_iload hx hb dX9_sillOf_54 (lv_at hl 4 rfl) ?_
          refine lv_goto (tgt := 63) hx hb dX9_sillOf_56 (by decide) ?_
          exact x_iret X hr hlk hP hS  (Option.some.inj hf) (rfl) dX9_sillOf_63
      · have hf := xif_t hf e2
        refine lv_iload_n hx hb dX9_sillOf_45 rfl (lv_at hl 3 rfl) ?_
        refine lv_goto (tgt := 63) hx hb dX9_sillOf_46 (by decide) ?_
        exact x_iret X hr hlk hP hS  (Option.some.inj hf) (rfl) dX9_sillOf_63
    · have hf := xif_f hf e1
      refine lv_iload_n hx hb dX9_sillOf_14 rfl (lv_at hl 3 rfl) ?_
      refine lv_aload_n hx hb dX9_sillOf_15 rfl (lv_at hl 0 rfl) ?_
      refine lv_iload hx hb dX9_sillOf_16 (lv_at hl 5 rfl) ?_
      obtain ⟨r4, h5, hf⟩ := xb_some hf
      refine x_cVi (As := [.int a5]) (rest := [.int a3]) X hP hS kc_X9_100 (c_X9_builtOf l G n S a5 _ h5) ⟨Nat.le_of_ble_eq_true rfl, Nat.le_of_ble_eq_true rfl⟩ (by decide) rfl rfl rfl hl.1 rfl (Nat.le_of_ble_eq_true rfl) ⟨Nat.zero_le _, Nat.zero_le _⟩ dX9_sillOf_18 (fun H locs hP hS => ?_)
      refine lv_iadd hx hb dX9_sillOf_21 ?_
      refine lv_istore_n (lv' := [(3, .int (a3 + r4)), (0, .ref (G.2.2 34)), (1, .int a1), (2, .int a2), (4, .int a4), (5, .int a5)]) hx hb dX9_sillOf_22 rfl hl (by decide) rfl (fun ls hl => ?_)
      refine lv_iload hx hb dX9_sillOf_23 (lv_at hl 4 rfl) ?_
      refine lv_aload_n hx hb dX9_sillOf_25 rfl (lv_at hl 1 rfl) ?_
      refine x_getR X hP fl_X9_22 (by decide) rfl rfl dX9_sillOf_26 ?_
      refine lv_iload hx hb dX9_sillOf_29 (lv_at hl 5 rfl) ?_
      obtain ⟨g6, hf⟩ := xg_some hf
      refine x_iald X hP (by decide) rfl g6 dX9_sillOf_31 ?_
      refine lv_iadd hx hb dX9_sillOf_32 ?_
      refine lv_istore (lv' := [(4, .int (a4 + (S.1 39 a5.toNatClampNeg))), (3, .int (a3 + r4)), (0, .ref (G.2.2 34)), (1, .int a1), (2, .int a2), (5, .int a5)]) hx hb dX9_sillOf_33 hl (by decide) rfl (fun ls hl => ?_)
      refine lv_iinc (v := a5 + 1) (lv' := [(5, .int (a5 + 1)), (4, .int (a4 + (S.1 39 a5.toNatClampNeg))), (3, .int (a3 + r4)), (0, .ref (G.2.2 34)), (1, .int a1), (2, .int a2)]) hx hb dX9_sillOf_35 hl (k := 5) rfl rfl (by decide) rfl (fun ls hl => ?_)
      refine lv_goto (tgt := 8) hx hb dX9_sillOf_38 (by decide) ?_
      exact ih a1 a2 (a3 + r4) (a4 + (S.1 39 a5.toNatClampNeg)) (a5 + 1) hf H locs ls hP hS (lv_sub hl [3, 4, 5, 2, 1, 0] rfl)
def f_X9_sillOf (n : Nat) (S : xS) (a1 : Int32) (a2 : Int32) : Option Int32 :=
  l_X9_sillOf_8 n S n a1 a2 (0 : Int32) (0 : Int32) (0 : Int32)
set_option maxHeartbeats 4000000 in
set_option maxRecDepth 100000 in
theorem c_X9_sillOf (l : Launch) (G : xG) (n : Nat)  (S : xS) (a1 : Int32) (a2 : Int32) (r : Int32) (hf : f_X9_sillOf n S a1 a2 = some r) : xMi l G yX9_sillOf cX9_sillOf 6 (some .int) 2 47 [.ref (G.2.2 34), .int a1, .int a2] S r S := by
  refine xMi_of (own := RX9) (by decide +kernel) rfl (Nat.le_of_ble_eq_true rfl) ?_
  intro p e s m args below meth c X hr hlk H locs ls hP hS hl
  have hl : lv_has ls 6 [(0, .ref (G.2.2 34)), (1, .int a1), (2, .int a2)] := hl
  obtain ⟨hx, hb, hml, hown, hts, hE⟩ := id X
  unfold f_X9_sillOf at hf
  refine lv_iconst (v := 0) hx hb dX9_sillOf_0 (by decide) ?_
  refine lv_istore_n (lv' := [(3, .int (0 : Int32)), (0, .ref (G.2.2 34)), (1, .int a1), (2, .int a2)]) hx hb dX9_sillOf_1 rfl hl (by decide) rfl (fun ls hl => ?_)
  refine lv_iconst (v := 0) hx hb dX9_sillOf_2 (by decide) ?_
  refine lv_istore (lv' := [(4, .int (0 : Int32)), (3, .int (0 : Int32)), (0, .ref (G.2.2 34)), (1, .int a1), (2, .int a2)]) hx hb dX9_sillOf_3 hl (by decide) rfl (fun ls hl => ?_)
  refine lv_iconst (v := 0) hx hb dX9_sillOf_5 (by decide) ?_
  refine lv_istore (lv' := [(5, .int (0 : Int32)), (4, .int (0 : Int32)), (3, .int (0 : Int32)), (0, .ref (G.2.2 34)), (1, .int a1), (2, .int a2)]) hx hb dX9_sillOf_6 hl (by decide) rfl (fun ls hl => ?_)
  exact t_X9_sillOf_8 X hr hlk   n a1 a2 (0 : Int32) (0 : Int32) (0 : Int32) hf H locs ls hP hS (lv_sub hl [3, 4, 5, 2, 1, 0] rfl)
def f_X9_sill (n : Nat) (S : xS) (a1 : Int32) (a2 : Int32) : Option (Int32 × xS) :=
  (f_X9_floorsNow n S).bind fun r1 => ((if (f_X9_in a1 (0 : Int32) r1.1) = 0 then some ((-100002 : Int32), r1.2) else (if (f_X9_in a2 (0 : Int32) (2 : Int32)) = 0 then some ((-100002 : Int32), r1.2) else (f_X9_sillOf n r1.2 a1 a2).bind fun r5 => (some (r5, r1.2)))))
set_option maxHeartbeats 4000000 in
set_option maxRecDepth 100000 in
theorem c_X9_sill (l : Launch) (G : xG) (n : Nat)  (S : xS) (a1 : Int32) (a2 : Int32) (r : Int32) (S' : xS) (hf : f_X9_sill n S a1 a2 = some (r, S')) : xMi l G yX9_sill cX9_sill 3 (some .int) 5 113 [.ref (G.2.2 34), .int a1, .int a2] S r S' := by
  refine xMi_of (own := RX9) (by decide +kernel) rfl (Nat.le_of_ble_eq_true rfl) ?_
  intro p e s m args below meth c X hr hlk H locs ls hP hS hl
  have hl : lv_has ls 3 [(0, .ref (G.2.2 34)), (1, .int a1), (2, .int a2)] := hl
  obtain ⟨hx, hb, hml, hown, hts, hE⟩ := id X
  unfold f_X9_sill at hf
  refine lv_iload_n hx hb dX9_sill_0 rfl (lv_at hl 1 rfl) ?_
  refine lv_iconst (v := 0) hx hb dX9_sill_1 (by decide) ?_
  refine lv_aload_n hx hb dX9_sill_2 rfl (lv_at hl 0 rfl) ?_
  obtain ⟨r1, h2, hf⟩ := xb_some hf
  refine x_cVi (As := []) (rest := [.int (0 : Int32), .int a1]) X hP hS kc_X9_97 (c_X9_floorsNow l G n S  r1.1 r1.2 h2) ⟨Nat.le_of_ble_eq_true rfl, Nat.le_of_ble_eq_true rfl⟩ (by decide) rfl rfl rfl hl.1 rfl (Nat.le_of_ble_eq_true rfl) ⟨Nat.zero_le _, Nat.zero_le _⟩ dX9_sill_3 (fun H locs hP hS => ?_)
  refine x_cSi (As := [.int a1, .int (0 : Int32), .int r1.1]) (rest := []) X hP hS kc_X9_68 (c_X9_in l G  r1.2 a1 (0 : Int32) r1.1 _ rfl) ⟨Nat.le_of_ble_eq_true rfl, Nat.le_of_ble_eq_true rfl⟩ rfl hl.1 rfl (Nat.le_of_ble_eq_true rfl) ⟨Nat.zero_le _, Nat.zero_le _⟩ dX9_sill_6 (fun H locs hP hS => ?_)
  refine lv_if_eq (tgt := 30) hx hb dX9_sill_9 (by decide) (fun e3 => ?_) (fun e3 => ?_)
  · have hf := xif_t hf e3
    refine lv_ldc hx hb hown (hts _ kw_270) dX9_sill_30 ?_
    exact x_iret X hr hlk hP hS  ((Prod.mk.inj (Option.some.inj hf)).1) ((Prod.mk.inj (Option.some.inj hf)).2) dX9_sill_32
  · have hf := xif_f hf e3
    refine lv_iload_n hx hb dX9_sill_12 rfl (lv_at hl 2 rfl) ?_
    refine lv_iconst (v := 0) hx hb dX9_sill_13 (by decide) ?_
    refine lv_iconst (v := 2) hx hb dX9_sill_14 (by decide) ?_
    refine x_cSi (As := [.int a2, .int (0 : Int32), .int (2 : Int32)]) (rest := []) X hP hS kc_X9_68 (c_X9_in l G  r1.2 a2 (0 : Int32) (2 : Int32) _ rfl) ⟨Nat.le_of_ble_eq_true rfl, Nat.le_of_ble_eq_true rfl⟩ rfl hl.1 rfl (Nat.le_of_ble_eq_true rfl) ⟨Nat.zero_le _, Nat.zero_le _⟩ dX9_sill_15 (fun H locs hP hS => ?_)
    refine lv_if_eq (tgt := 30) hx hb dX9_sill_18 (by decide) (fun e4 => ?_) (fun e4 => ?_)
    · have hf := xif_t hf e4
      refine lv_ldc hx hb hown (hts _ kw_270) dX9_sill_30 ?_
      exact x_iret X hr hlk hP hS  ((Prod.mk.inj (Option.some.inj hf)).1) ((Prod.mk.inj (Option.some.inj hf)).2) dX9_sill_32
    · have hf := xif_f hf e4
      refine lv_aload_n hx hb dX9_sill_21 rfl (lv_at hl 0 rfl) ?_
      refine lv_iload_n hx hb dX9_sill_22 rfl (lv_at hl 1 rfl) ?_
      refine lv_iload_n hx hb dX9_sill_23 rfl (lv_at hl 2 rfl) ?_
      obtain ⟨r5, h6, hf⟩ := xb_some hf
      refine x_cVi (As := [.int a1, .int a2]) (rest := []) X hP hS kc_X9_112 (c_X9_sillOf l G n r1.2 a1 a2 _ h6) ⟨Nat.le_of_ble_eq_true rfl, Nat.le_of_ble_eq_true rfl⟩ (by decide) rfl rfl rfl hl.1 rfl (Nat.le_of_ble_eq_true rfl) ⟨Nat.zero_le _, Nat.zero_le _⟩ dX9_sill_24 (fun H locs hP hS => ?_)
      refine lv_goto (tgt := 32) hx hb dX9_sill_27 (by decide) ?_
      exact x_iret X hr hlk hP hS  ((Prod.mk.inj (Option.some.inj hf)).1) ((Prod.mk.inj (Option.some.inj hf)).2) dX9_sill_32
def b_X8_worst_4 (n : Nat) (k4 : Int32 → Int32 → Option Int32) (S : xS) (a1 : Int32) (a2 : Int32) : Option Int32 :=
  (if (S.1 4 3) < a2 then some a1 else (f_X7_off n S a2).bind fun r2 => ((f_X7_off n S a1).bind fun r4 => ((if (xabs r2) ≤ (xabs r4) then k4 a1 (a2 + 1) else k4 a2 (a2 + 1)))))
def l_X8_worst_4 (n : Nat) (S : xS) : Nat → Int32 → Int32 → Option Int32
  | 0, _, _ => none
  | j + 1, a1, a2 => b_X8_worst_4 n (l_X8_worst_4 n S j) S a1 a2
set_option maxHeartbeats 4000000 in
set_option maxRecDepth 100000 in
theorem t_X8_worst_4 {p : Program} {l : Launch} {e : Env} {s : State} {m : MethodId} {args : Array Value} {below : List Frame} {meth : Method} {c : Code} {G : xG} (X : xC p s m args c G RX8 cX8_worst 3) (hr : meth.sig.returnType = (some .int)) (hlk : meth.locks = false) {n : Nat} {r : Int32} {S : xS} : ∀ (j : Nat) (a1 : Int32) (a2 : Int32), l_X8_worst_4 n S j a1 a2 = some r → xGo p l e { frames := 1, cells := 0, slots := 0, locals := 21 } s m args below meth c G 3 0 0 (MQ below (xQi G r S) args s 0 0 (xA G)) S 4 [(0, .ref (G.2.2 0)), (1, .int a1), (2, .int a2)] [] := by
  intro j
  induction j with
  | zero => intro a1 a2 hf; exact nomatch (show (none : Option Int32) = _ from hf)
  | succ j ih =>
    intro a1 a2 hf H locs ls hP hS hl
    have hf : b_X8_worst_4 n (l_X8_worst_4 n S j) S a1 a2 = some r := hf
    unfold b_X8_worst_4 at hf
    obtain ⟨hx, hb, hml, hown, hts, hE⟩ := id X
    refine lv_iload_n hx hb dX8_worst_4 rfl (lv_at hl 2 rfl) ?_
    refine lv_aload_n hx hb dX8_worst_5 rfl (lv_at hl 0 rfl) ?_
    refine x_getR X hP fl_X8_23 (by decide) rfl rfl dX8_worst_6 ?_
    refine x_getIN X hP fn_X8_152 (by decide) rfl rfl dX8_worst_9 ?_
    refine lv_icmp_gt (tgt := 48) hx hb dX8_worst_12 (by decide) (fun e1 => ?_) (fun e1 => ?_)
    · have hf := xif_t hf e1
      refine lv_iload_n hx hb dX8_worst_48 rfl (lv_at hl 1 rfl) ?_
      exact x_iret X hr hlk hP hS  (Option.some.inj hf) (rfl) dX8_worst_49
    · have hf := xif_f hf e1
      refine lv_aload_n hx hb dX8_worst_15 rfl (lv_at hl 0 rfl) ?_
      refine x_getR X hP fl_X8_32 (by decide) rfl rfl dX8_worst_16 ?_
      refine lv_iload_n hx hb dX8_worst_19 rfl (lv_at hl 2 rfl) ?_
      obtain ⟨r2, h3, hf⟩ := xb_some hf
      refine x_cVi (As := [.int a2]) (rest := []) X hP hS kc_X8_149 (c_X7_off l G n S a2 _ h3) ⟨Nat.le_of_ble_eq_true rfl, Nat.le_of_ble_eq_true rfl⟩ (by decide) rfl rfl rfl hl.1 rfl (Nat.le_of_ble_eq_true rfl) ⟨Nat.zero_le _, Nat.zero_le _⟩ dX8_worst_20 (fun H locs hP hS => ?_)
      refine x_mabs X kw_347 hl.1 ⟨Nat.le_of_ble_eq_true rfl, Nat.le_of_ble_eq_true rfl⟩ ⟨Nat.zero_le _, Nat.zero_le _⟩ dX8_worst_23 ?_
      refine lv_aload_n hx hb dX8_worst_26 rfl (lv_at hl 0 rfl) ?_
      refine x_getR X hP fl_X8_32 (by decide) rfl rfl dX8_worst_27 ?_
      refine lv_iload_n hx hb dX8_worst_30 rfl (lv_at hl 1 rfl) ?_
      obtain ⟨r4, h5, hf⟩ := xb_some hf
      refine x_cVi (As := [.int a1]) (rest := [.int (xabs r2)]) X hP hS kc_X8_149 (c_X7_off l G n S a1 _ h5) ⟨Nat.le_of_ble_eq_true rfl, Nat.le_of_ble_eq_true rfl⟩ (by decide) rfl rfl rfl hl.1 rfl (Nat.le_of_ble_eq_true rfl) ⟨Nat.zero_le _, Nat.zero_le _⟩ dX8_worst_31 (fun H locs hP hS => ?_)
      refine x_mabs X kw_347 hl.1 ⟨Nat.le_of_ble_eq_true rfl, Nat.le_of_ble_eq_true rfl⟩ ⟨Nat.zero_le _, Nat.zero_le _⟩ dX8_worst_34 ?_
      refine lv_icmp_le (tgt := 42) hx hb dX8_worst_37 (by decide) (fun e6 => ?_) (fun e6 => ?_)
      · have hf := xif_t hf e6
        refine lv_iinc (v := a2 + 1) (lv' := [(2, .int (a2 + 1)), (0, .ref (G.2.2 0)), (1, .int a1)]) hx hb dX8_worst_42 hl (k := 2) rfl rfl (by decide) rfl (fun ls hl => ?_)
        refine lv_goto (tgt := 4) hx hb dX8_worst_45 (by decide) ?_
        exact ih a1 (a2 + 1) hf H locs ls hP hS (lv_sub hl [1, 2, 0] rfl)
      · have hf := xif_f hf e6
        refine lv_iload_n hx hb dX8_worst_40 rfl (lv_at hl 2 rfl) ?_
        refine lv_istore_n (lv' := [(1, .int a2), (0, .ref (G.2.2 0)), (2, .int a2)]) hx hb dX8_worst_41 rfl hl (by decide) rfl (fun ls hl => ?_)
        refine lv_iinc (v := a2 + 1) (lv' := [(2, .int (a2 + 1)), (1, .int a2), (0, .ref (G.2.2 0))]) hx hb dX8_worst_42 hl (k := 2) rfl rfl (by decide) rfl (fun ls hl => ?_)
        refine lv_goto (tgt := 4) hx hb dX8_worst_45 (by decide) ?_
        exact ih a2 (a2 + 1) hf H locs ls hP hS (lv_sub hl [2, 1, 0] rfl)
def f_X8_worst (n : Nat) (S : xS)  : Option Int32 :=
  l_X8_worst_4 n S n (0 : Int32) (1 : Int32)
set_option maxHeartbeats 4000000 in
set_option maxRecDepth 100000 in
theorem c_X8_worst (l : Launch) (G : xG) (n : Nat)  (S : xS)  (r : Int32) (hf : f_X8_worst n S  = some r) : xMi l G yX8_worst cX8_worst 3 (some .int) 1 21 [.ref (G.2.2 0)] S r S := by
  refine xMi_of (own := RX8) (by decide +kernel) rfl (Nat.le_of_ble_eq_true rfl) ?_
  intro p e s m args below meth c X hr hlk H locs ls hP hS hl
  have hl : lv_has ls 3 [(0, .ref (G.2.2 0))] := hl
  obtain ⟨hx, hb, hml, hown, hts, hE⟩ := id X
  unfold f_X8_worst at hf
  refine lv_iconst (v := 0) hx hb dX8_worst_0 (by decide) ?_
  refine lv_istore_n (lv' := [(1, .int (0 : Int32)), (0, .ref (G.2.2 0))]) hx hb dX8_worst_1 rfl hl (by decide) rfl (fun ls hl => ?_)
  refine lv_iconst (v := 1) hx hb dX8_worst_2 (by decide) ?_
  refine lv_istore_n (lv' := [(2, .int (1 : Int32)), (1, .int (0 : Int32)), (0, .ref (G.2.2 0))]) hx hb dX8_worst_3 rfl hl (by decide) rfl (fun ls hl => ?_)
  exact t_X8_worst_4 X hr hlk   n (0 : Int32) (1 : Int32) hf H locs ls hP hS (lv_sub hl [2, 1, 0] rfl)
def f_X9_amount (a0 : Int32) : Int32 :=
  (if 0 ≤ a0 then a0 else -a0)
set_option maxHeartbeats 4000000 in
set_option maxRecDepth 100000 in
theorem c_X9_amount (l : Launch) (G : xG)  (S : xS) (a0 : Int32) (r : Int32) (hf : f_X9_amount a0 = r) : xMi l G yX9_amount cX9_amount 1 (some .int) 0 0 [.int a0] S r S := by
  refine xMi_of (own := RX9) (by decide +kernel) rfl (Nat.le_of_ble_eq_true rfl) ?_
  intro p e s m args below meth c X hr hlk H locs ls hP hS hl
  have hl : lv_has ls 1 [(0, .int a0)] := hl
  obtain ⟨hx, hb, hml, hown, hts, hE⟩ := id X
  unfold f_X9_amount at hf
  refine lv_iload_n hx hb dX9_amount_0 rfl (lv_at hl 0 rfl) ?_
  refine lv_if_ge (tgt := 9) hx hb dX9_amount_1 (by decide) (fun e1 => ?_) (fun e1 => ?_)
  · have hf := xif_t hf e1
    refine lv_iload_n hx hb dX9_amount_9 rfl (lv_at hl 0 rfl) ?_
    exact x_iret X hr hlk hP hS  (hf) (rfl) dX9_amount_10
  · have hf := xif_f hf e1
    refine lv_iload_n hx hb dX9_amount_4 rfl (lv_at hl 0 rfl) ?_
    refine lv_ineg hx hb dX9_amount_5 ?_
    refine lv_goto (tgt := 10) hx hb dX9_amount_6 (by decide) ?_
    exact x_iret X hr hlk hP hS  (hf) (rfl) dX9_amount_10
def b_X9_worstNow_4 (n : Nat) (k4 : xS → Int32 → Int32 → Option (Int32 × xS)) (S : xS) (a1 : Int32) (a2 : Int32) : Option (Int32 × xS) :=
  (f_X9_floorsNow n S).bind fun r1 => ((if r1.1 < a2 then some (a1, r1.2) else (f_X9_sillOf n r1.2 a2 (2 : Int32)).bind fun r4 => ((f_X9_sillOf n r1.2 a1 (2 : Int32)).bind fun r6 => ((if (f_X9_amount r4) ≤ (f_X9_amount r6) then k4 r1.2 a1 (a2 + 1) else k4 r1.2 a2 (a2 + 1))))))
def l_X9_worstNow_4 (n : Nat) : Nat → xS → Int32 → Int32 → Option (Int32 × xS)
  | 0, _, _, _ => none
  | j + 1, S, a1, a2 => b_X9_worstNow_4 n (l_X9_worstNow_4 n j) S a1 a2
set_option maxHeartbeats 4000000 in
set_option maxRecDepth 100000 in
theorem t_X9_worstNow_4 {p : Program} {l : Launch} {e : Env} {s : State} {m : MethodId} {args : Array Value} {below : List Frame} {meth : Method} {c : Code} {G : xG} (X : xC p s m args c G RX9 cX9_worstNow 3) (hr : meth.sig.returnType = (some .int)) (hlk : meth.locks = false) {n : Nat} {r : Int32} {S' : xS} : ∀ (j : Nat) (S : xS) (a1 : Int32) (a2 : Int32), l_X9_worstNow_4 n j S a1 a2 = some (r, S') → xGo p l e { frames := 5, cells := 0, slots := 0, locals := 113 } s m args below meth c G 3 0 0 (MQ below (xQi G r S') args s 0 0 (xA G)) S 4 [(0, .ref (G.2.2 34)), (1, .int a1), (2, .int a2)] [] := by
  intro j
  induction j with
  | zero => intro S a1 a2 hf; exact nomatch (show (none : Option (Int32 × xS)) = _ from hf)
  | succ j ih =>
    intro S a1 a2 hf H locs ls hP hS hl
    have hf : b_X9_worstNow_4 n (l_X9_worstNow_4 n j) S a1 a2 = some (r, S') := hf
    unfold b_X9_worstNow_4 at hf
    obtain ⟨hx, hb, hml, hown, hts, hE⟩ := id X
    refine lv_iload_n hx hb dX9_worstNow_4 rfl (lv_at hl 2 rfl) ?_
    refine lv_aload_n hx hb dX9_worstNow_5 rfl (lv_at hl 0 rfl) ?_
    obtain ⟨r1, h2, hf⟩ := xb_some hf
    refine x_cVi (As := []) (rest := [.int a2]) X hP hS kc_X9_97 (c_X9_floorsNow l G n S  r1.1 r1.2 h2) ⟨Nat.le_of_ble_eq_true rfl, Nat.le_of_ble_eq_true rfl⟩ (by decide) rfl rfl rfl hl.1 rfl (Nat.le_of_ble_eq_true rfl) ⟨Nat.zero_le _, Nat.zero_le _⟩ dX9_worstNow_6 (fun H locs hP hS => ?_)
    refine lv_icmp_gt (tgt := 45) hx hb dX9_worstNow_9 (by decide) (fun e3 => ?_) (fun e3 => ?_)
    · have hf := xif_t hf e3
      refine lv_iload_n hx hb dX9_worstNow_45 rfl (lv_at hl 1 rfl) ?_
      exact x_iret X hr hlk hP hS  ((Prod.mk.inj (Option.some.inj hf)).1) ((Prod.mk.inj (Option.some.inj hf)).2) dX9_worstNow_46
    · have hf := xif_f hf e3
      refine lv_aload_n hx hb dX9_worstNow_12 rfl (lv_at hl 0 rfl) ?_
      refine lv_iload_n hx hb dX9_worstNow_13 rfl (lv_at hl 2 rfl) ?_
      refine lv_iconst (v := 2) hx hb dX9_worstNow_14 (by decide) ?_
      obtain ⟨r4, h5, hf⟩ := xb_some hf
      refine x_cVi (As := [.int a2, .int (2 : Int32)]) (rest := []) X hP hS kc_X9_112 (c_X9_sillOf l G n r1.2 a2 (2 : Int32) _ h5) ⟨Nat.le_of_ble_eq_true rfl, Nat.le_of_ble_eq_true rfl⟩ (by decide) rfl rfl rfl hl.1 rfl (Nat.le_of_ble_eq_true rfl) ⟨Nat.zero_le _, Nat.zero_le _⟩ dX9_worstNow_15 (fun H locs hP hS => ?_)
      refine x_cSi (As := [.int r4]) (rest := []) X hP hS kc_X9_115 (c_X9_amount l G  r1.2 r4 _ rfl) ⟨Nat.le_of_ble_eq_true rfl, Nat.le_of_ble_eq_true rfl⟩ rfl hl.1 rfl (Nat.le_of_ble_eq_true rfl) ⟨Nat.zero_le _, Nat.zero_le _⟩ dX9_worstNow_18 (fun H locs hP hS => ?_)
      refine lv_aload_n hx hb dX9_worstNow_21 rfl (lv_at hl 0 rfl) ?_
      refine lv_iload_n hx hb dX9_worstNow_22 rfl (lv_at hl 1 rfl) ?_
      refine lv_iconst (v := 2) hx hb dX9_worstNow_23 (by decide) ?_
      obtain ⟨r6, h7, hf⟩ := xb_some hf
      refine x_cVi (As := [.int a1, .int (2 : Int32)]) (rest := [.int (f_X9_amount r4)]) X hP hS kc_X9_112 (c_X9_sillOf l G n r1.2 a1 (2 : Int32) _ h7) ⟨Nat.le_of_ble_eq_true rfl, Nat.le_of_ble_eq_true rfl⟩ (by decide) rfl rfl rfl hl.1 rfl (Nat.le_of_ble_eq_true rfl) ⟨Nat.zero_le _, Nat.zero_le _⟩ dX9_worstNow_24 (fun H locs hP hS => ?_)
      refine x_cSi (As := [.int r6]) (rest := [.int (f_X9_amount r4)]) X hP hS kc_X9_115 (c_X9_amount l G  r1.2 r6 _ rfl) ⟨Nat.le_of_ble_eq_true rfl, Nat.le_of_ble_eq_true rfl⟩ rfl hl.1 rfl (Nat.le_of_ble_eq_true rfl) ⟨Nat.zero_le _, Nat.zero_le _⟩ dX9_worstNow_27 (fun H locs hP hS => ?_)
      refine lv_icmp_le (tgt := 37) hx hb dX9_worstNow_30 (by decide) (fun e8 => ?_) (fun e8 => ?_)
      · have hf := xif_t hf e8
        refine lv_iload_n hx hb dX9_worstNow_37 rfl (lv_at hl 1 rfl) ?_
        refine lv_istore_n (lv' := [(1, .int a1), (0, .ref (G.2.2 34)), (2, .int a2)]) hx hb dX9_worstNow_38 rfl hl (by decide) rfl (fun ls hl => ?_)
        refine lv_iinc (v := a2 + 1) (lv' := [(2, .int (a2 + 1)), (1, .int a1), (0, .ref (G.2.2 34))]) hx hb dX9_worstNow_39 hl (k := 2) rfl rfl (by decide) rfl (fun ls hl => ?_)
        refine lv_goto (tgt := 4) hx hb dX9_worstNow_42 (by decide) ?_
        exact ih r1.2 a1 (a2 + 1) hf H locs ls hP hS (lv_sub hl [2, 1, 0] rfl)
      · have hf := xif_f hf e8
        refine lv_iload_n hx hb dX9_worstNow_33 rfl (lv_at hl 2 rfl) ?_
        refine lv_goto (tgt := 38) hx hb dX9_worstNow_34 (by decide) ?_
        refine lv_istore_n (lv' := [(1, .int a2), (0, .ref (G.2.2 34)), (2, .int a2)]) hx hb dX9_worstNow_38 rfl hl (by decide) rfl (fun ls hl => ?_)
        refine lv_iinc (v := a2 + 1) (lv' := [(2, .int (a2 + 1)), (1, .int a2), (0, .ref (G.2.2 34))]) hx hb dX9_worstNow_39 hl (k := 2) rfl rfl (by decide) rfl (fun ls hl => ?_)
        refine lv_goto (tgt := 4) hx hb dX9_worstNow_42 (by decide) ?_
        exact ih r1.2 a2 (a2 + 1) hf H locs ls hP hS (lv_sub hl [2, 1, 0] rfl)
def f_X9_worstNow (n : Nat) (S : xS)  : Option (Int32 × xS) :=
  l_X9_worstNow_4 n n S (0 : Int32) (1 : Int32)
set_option maxHeartbeats 4000000 in
set_option maxRecDepth 100000 in
theorem c_X9_worstNow (l : Launch) (G : xG) (n : Nat)  (S : xS)  (r : Int32) (S' : xS) (hf : f_X9_worstNow n S  = some (r, S')) : xMi l G yX9_worstNow cX9_worstNow 3 (some .int) 5 113 [.ref (G.2.2 34)] S r S' := by
  refine xMi_of (own := RX9) (by decide +kernel) rfl (Nat.le_of_ble_eq_true rfl) ?_
  intro p e s m args below meth c X hr hlk H locs ls hP hS hl
  have hl : lv_has ls 3 [(0, .ref (G.2.2 34))] := hl
  obtain ⟨hx, hb, hml, hown, hts, hE⟩ := id X
  unfold f_X9_worstNow at hf
  refine lv_iconst (v := 0) hx hb dX9_worstNow_0 (by decide) ?_
  refine lv_istore_n (lv' := [(1, .int (0 : Int32)), (0, .ref (G.2.2 34))]) hx hb dX9_worstNow_1 rfl hl (by decide) rfl (fun ls hl => ?_)
  refine lv_iconst (v := 1) hx hb dX9_worstNow_2 (by decide) ?_
  refine lv_istore_n (lv' := [(2, .int (1 : Int32)), (1, .int (0 : Int32)), (0, .ref (G.2.2 34))]) hx hb dX9_worstNow_3 rfl hl (by decide) rfl (fun ls hl => ?_)
  exact t_X9_worstNow_4 X hr hlk   n S (0 : Int32) (1 : Int32) hf H locs ls hP hS (lv_sub hl [2, 1, 0] rfl)
def f_X9_worst (n : Nat) (S : xS)  : Option (Int32 × xS) :=
  (f_X9_worstNow n S).bind fun r1 => (some (r1.1, r1.2))
set_option maxHeartbeats 4000000 in
set_option maxRecDepth 100000 in
theorem c_X9_worst (l : Launch) (G : xG) (n : Nat)  (S : xS)  (r : Int32) (S' : xS) (hf : f_X9_worst n S  = some (r, S')) : xMi l G yX9_worst cX9_worst 1 (some .int) 6 135 [.ref (G.2.2 34)] S r S' := by
  refine xMi_of (own := RX9) (by decide +kernel) rfl (Nat.le_of_ble_eq_true rfl) ?_
  intro p e s m args below meth c X hr hlk H locs ls hP hS hl
  have hl : lv_has ls 1 [(0, .ref (G.2.2 34))] := hl
  obtain ⟨hx, hb, hml, hown, hts, hE⟩ := id X
  unfold f_X9_worst at hf
  refine lv_aload_n hx hb dX9_worst_0 rfl (lv_at hl 0 rfl) ?_
  obtain ⟨r1, h2, hf⟩ := xb_some hf
  refine x_cVi (As := []) (rest := []) X hP hS kc_X9_118 (c_X9_worstNow l G n S  r1.1 r1.2 h2) ⟨Nat.le_of_ble_eq_true rfl, Nat.le_of_ble_eq_true rfl⟩ (by decide) rfl rfl rfl hl.1 rfl (Nat.le_of_ble_eq_true rfl) ⟨Nat.zero_le _, Nat.zero_le _⟩ dX9_worst_1 (fun H locs hP hS => ?_)
  exact x_iret X hr hlk hP hS  ((Prod.mk.inj (Option.some.inj hf)).1) ((Prod.mk.inj (Option.some.inj hf)).2) dX9_worst_4
def f_X8_stairs (n : Nat) (S : xS) (a1 : Int32) (a2 : Int32) (a3 : Int32) : Option Int32 :=
  (if (f_X8_isFloor S a1) = 0 then some (-100002 : Int32) else (if (f_X8_within a2 (1 : Int32) (40 : Int32)) = 0 then some (-100002 : Int32) else (if (f_X8_within a3 (1 : Int32) (99 : Int32)) = 0 then some (-100002 : Int32) else (f_X7_built n S a1).bind fun r4 => (some (r4 - (a2 * a3))))))
set_option maxHeartbeats 4000000 in
set_option maxRecDepth 100000 in
theorem c_X8_stairs (l : Launch) (G : xG) (n : Nat)  (S : xS) (a1 : Int32) (a2 : Int32) (a3 : Int32) (r : Int32) (hf : f_X8_stairs n S a1 a2 a3 = some r) : xMi l G yX8_stairs cX8_stairs 4 (some .int) 2 43 [.ref (G.2.2 0), .int a1, .int a2, .int a3] S r S := by
  refine xMi_of (own := RX8) (by decide +kernel) rfl (Nat.le_of_ble_eq_true rfl) ?_
  intro p e s m args below meth c X hr hlk H locs ls hP hS hl
  have hl : lv_has ls 4 [(0, .ref (G.2.2 0)), (1, .int a1), (2, .int a2), (3, .int a3)] := hl
  obtain ⟨hx, hb, hml, hown, hts, hE⟩ := id X
  unfold f_X8_stairs at hf
  refine lv_aload_n hx hb dX8_stairs_0 rfl (lv_at hl 0 rfl) ?_
  refine lv_iload_n hx hb dX8_stairs_1 rfl (lv_at hl 1 rfl) ?_
  refine x_cVi (As := [.int a1]) (rest := []) X hP hS kc_X8_104 (c_X8_isFloor l G  S a1 _ rfl) ⟨Nat.le_of_ble_eq_true rfl, Nat.le_of_ble_eq_true rfl⟩ (by decide) rfl rfl rfl hl.1 rfl (Nat.le_of_ble_eq_true rfl) ⟨Nat.zero_le _, Nat.zero_le _⟩ dX8_stairs_2 (fun H locs hP hS => ?_)
  refine lv_if_eq (tgt := 28) hx hb dX8_stairs_5 (by decide) (fun e1 => ?_) (fun e1 => ?_)
  · have hf := xif_t hf e1
    refine lv_ldc hx hb hown (hts _ kw_258) dX8_stairs_28 ?_
    exact x_iret X hr hlk hP hS  (Option.some.inj hf) (rfl) dX8_stairs_30
  · have hf := xif_f hf e1
    refine lv_iload_n hx hb dX8_stairs_8 rfl (lv_at hl 2 rfl) ?_
    refine lv_iconst (v := 1) hx hb dX8_stairs_9 (by decide) ?_
    refine lv_bipush (v := 40) hx hb dX8_stairs_10 (by decide) ?_
    refine x_cSi (As := [.int a2, .int (1 : Int32), .int (40 : Int32)]) (rest := []) X hP hS kc_X8_79 (c_X8_within l G  S a2 (1 : Int32) (40 : Int32) _ rfl) ⟨Nat.le_of_ble_eq_true rfl, Nat.le_of_ble_eq_true rfl⟩ rfl hl.1 rfl (Nat.le_of_ble_eq_true rfl) ⟨Nat.zero_le _, Nat.zero_le _⟩ dX8_stairs_12 (fun H locs hP hS => ?_)
    refine lv_if_eq (tgt := 28) hx hb dX8_stairs_15 (by decide) (fun e2 => ?_) (fun e2 => ?_)
    · have hf := xif_t hf e2
      refine lv_ldc hx hb hown (hts _ kw_258) dX8_stairs_28 ?_
      exact x_iret X hr hlk hP hS  (Option.some.inj hf) (rfl) dX8_stairs_30
    · have hf := xif_f hf e2
      refine lv_iload_n hx hb dX8_stairs_18 rfl (lv_at hl 3 rfl) ?_
      refine lv_iconst (v := 1) hx hb dX8_stairs_19 (by decide) ?_
      refine lv_bipush (v := 99) hx hb dX8_stairs_20 (by decide) ?_
      refine x_cSi (As := [.int a3, .int (1 : Int32), .int (99 : Int32)]) (rest := []) X hP hS kc_X8_79 (c_X8_within l G  S a3 (1 : Int32) (99 : Int32) _ rfl) ⟨Nat.le_of_ble_eq_true rfl, Nat.le_of_ble_eq_true rfl⟩ rfl hl.1 rfl (Nat.le_of_ble_eq_true rfl) ⟨Nat.zero_le _, Nat.zero_le _⟩ dX8_stairs_22 (fun H locs hP hS => ?_)
      refine lv_if_ne (tgt := 31) hx hb dX8_stairs_25 (by decide) (fun e3 => ?_) (fun e3 => ?_)
      · have hf := xif_f hf e3
        refine lv_aload_n hx hb dX8_stairs_31 rfl (lv_at hl 0 rfl) ?_
        refine x_getR X hP fl_X8_32 (by decide) rfl rfl dX8_stairs_32 ?_
        refine lv_iload_n hx hb dX8_stairs_35 rfl (lv_at hl 1 rfl) ?_
        obtain ⟨r4, h5, hf⟩ := xb_some hf
        refine x_cVi (As := [.int a1]) (rest := []) X hP hS kc_X8_111 (c_X7_built l G n S a1 _ h5) ⟨Nat.le_of_ble_eq_true rfl, Nat.le_of_ble_eq_true rfl⟩ (by decide) rfl rfl rfl hl.1 rfl (Nat.le_of_ble_eq_true rfl) ⟨Nat.zero_le _, Nat.zero_le _⟩ dX8_stairs_36 (fun H locs hP hS => ?_)
        refine lv_iload_n hx hb dX8_stairs_39 rfl (lv_at hl 2 rfl) ?_
        refine lv_iload_n hx hb dX8_stairs_40 rfl (lv_at hl 3 rfl) ?_
        refine lv_imul hx hb dX8_stairs_41 ?_
        refine lv_isub hx hb dX8_stairs_42 ?_
        exact x_iret X hr hlk hP hS  (Option.some.inj hf) (rfl) dX8_stairs_43
      · have hf := xif_t hf e3
        refine lv_ldc hx hb hown (hts _ kw_258) dX8_stairs_28 ?_
        exact x_iret X hr hlk hP hS  (Option.some.inj hf) (rfl) dX8_stairs_30
def f_X9_stairs (n : Nat) (S : xS) (a1 : Int32) (a2 : Int32) (a3 : Int32) : Option (Int32 × xS) :=
  (f_X9_isFloor n S a1).bind fun r1 => ((if r1.1 = 0 then some ((-100002 : Int32), r1.2) else (if (f_X9_in a2 (1 : Int32) (40 : Int32)) = 0 then some ((-100002 : Int32), r1.2) else (if (f_X9_in a3 (1 : Int32) (99 : Int32)) = 0 then some ((-100002 : Int32), r1.2) else (f_X9_builtOf n r1.2 a1).bind fun r6 => (some (r6 - (a2 * a3), r1.2))))))
set_option maxHeartbeats 4000000 in
set_option maxRecDepth 100000 in
theorem c_X9_stairs (l : Launch) (G : xG) (n : Nat)  (S : xS) (a1 : Int32) (a2 : Int32) (a3 : Int32) (r : Int32) (S' : xS) (hf : f_X9_stairs n S a1 a2 a3 = some (r, S')) : xMi l G yX9_stairs cX9_stairs 4 (some .int) 6 134 [.ref (G.2.2 34), .int a1, .int a2, .int a3] S r S' := by
  refine xMi_of (own := RX9) (by decide +kernel) rfl (Nat.le_of_ble_eq_true rfl) ?_
  intro p e s m args below meth c X hr hlk H locs ls hP hS hl
  have hl : lv_has ls 4 [(0, .ref (G.2.2 34)), (1, .int a1), (2, .int a2), (3, .int a3)] := hl
  obtain ⟨hx, hb, hml, hown, hts, hE⟩ := id X
  unfold f_X9_stairs at hf
  refine lv_aload_n hx hb dX9_stairs_0 rfl (lv_at hl 0 rfl) ?_
  refine lv_iload_n hx hb dX9_stairs_1 rfl (lv_at hl 1 rfl) ?_
  obtain ⟨r1, h2, hf⟩ := xb_some hf
  refine x_cVi (As := [.int a1]) (rest := []) X hP hS kc_X9_103 (c_X9_isFloor l G n S a1 r1.1 r1.2 h2) ⟨Nat.le_of_ble_eq_true rfl, Nat.le_of_ble_eq_true rfl⟩ (by decide) rfl rfl rfl hl.1 rfl (Nat.le_of_ble_eq_true rfl) ⟨Nat.zero_le _, Nat.zero_le _⟩ dX9_stairs_2 (fun H locs hP hS => ?_)
  refine lv_if_eq (tgt := 40) hx hb dX9_stairs_5 (by decide) (fun e3 => ?_) (fun e3 => ?_)
  · have hf := xif_t hf e3
    refine lv_ldc hx hb hown (hts _ kw_270) dX9_stairs_40 ?_
    exact x_iret X hr hlk hP hS  ((Prod.mk.inj (Option.some.inj hf)).1) ((Prod.mk.inj (Option.some.inj hf)).2) dX9_stairs_42
  · have hf := xif_f hf e3
    refine lv_iload_n hx hb dX9_stairs_8 rfl (lv_at hl 2 rfl) ?_
    refine lv_iconst (v := 1) hx hb dX9_stairs_9 (by decide) ?_
    refine lv_bipush (v := 40) hx hb dX9_stairs_10 (by decide) ?_
    refine x_cSi (As := [.int a2, .int (1 : Int32), .int (40 : Int32)]) (rest := []) X hP hS kc_X9_68 (c_X9_in l G  r1.2 a2 (1 : Int32) (40 : Int32) _ rfl) ⟨Nat.le_of_ble_eq_true rfl, Nat.le_of_ble_eq_true rfl⟩ rfl hl.1 rfl (Nat.le_of_ble_eq_true rfl) ⟨Nat.zero_le _, Nat.zero_le _⟩ dX9_stairs_12 (fun H locs hP hS => ?_)
    refine lv_if_eq (tgt := 40) hx hb dX9_stairs_15 (by decide) (fun e4 => ?_) (fun e4 => ?_)
    · have hf := xif_t hf e4
      refine lv_ldc hx hb hown (hts _ kw_270) dX9_stairs_40 ?_
      exact x_iret X hr hlk hP hS  ((Prod.mk.inj (Option.some.inj hf)).1) ((Prod.mk.inj (Option.some.inj hf)).2) dX9_stairs_42
    · have hf := xif_f hf e4
      refine lv_iload_n hx hb dX9_stairs_18 rfl (lv_at hl 3 rfl) ?_
      refine lv_iconst (v := 1) hx hb dX9_stairs_19 (by decide) ?_
      refine lv_bipush (v := 99) hx hb dX9_stairs_20 (by decide) ?_
      refine x_cSi (As := [.int a3, .int (1 : Int32), .int (99 : Int32)]) (rest := []) X hP hS kc_X9_68 (c_X9_in l G  r1.2 a3 (1 : Int32) (99 : Int32) _ rfl) ⟨Nat.le_of_ble_eq_true rfl, Nat.le_of_ble_eq_true rfl⟩ rfl hl.1 rfl (Nat.le_of_ble_eq_true rfl) ⟨Nat.zero_le _, Nat.zero_le _⟩ dX9_stairs_22 (fun H locs hP hS => ?_)
      refine lv_if_eq (tgt := 40) hx hb dX9_stairs_25 (by decide) (fun e5 => ?_) (fun e5 => ?_)
      · have hf := xif_t hf e5
        refine lv_ldc hx hb hown (hts _ kw_270) dX9_stairs_40 ?_
        exact x_iret X hr hlk hP hS  ((Prod.mk.inj (Option.some.inj hf)).1) ((Prod.mk.inj (Option.some.inj hf)).2) dX9_stairs_42
      · have hf := xif_f hf e5
        refine lv_aload_n hx hb dX9_stairs_28 rfl (lv_at hl 0 rfl) ?_
        refine lv_iload_n hx hb dX9_stairs_29 rfl (lv_at hl 1 rfl) ?_
        obtain ⟨r6, h7, hf⟩ := xb_some hf
        refine x_cVi (As := [.int a1]) (rest := []) X hP hS kc_X9_100 (c_X9_builtOf l G n r1.2 a1 _ h7) ⟨Nat.le_of_ble_eq_true rfl, Nat.le_of_ble_eq_true rfl⟩ (by decide) rfl rfl rfl hl.1 rfl (Nat.le_of_ble_eq_true rfl) ⟨Nat.zero_le _, Nat.zero_le _⟩ dX9_stairs_30 (fun H locs hP hS => ?_)
        refine lv_iload_n hx hb dX9_stairs_33 rfl (lv_at hl 2 rfl) ?_
        refine lv_iload_n hx hb dX9_stairs_34 rfl (lv_at hl 3 rfl) ?_
        refine lv_imul hx hb dX9_stairs_35 ?_
        refine lv_isub hx hb dX9_stairs_36 ?_
        refine lv_goto (tgt := 42) hx hb dX9_stairs_37 (by decide) ?_
        exact x_iret X hr hlk hP hS  ((Prod.mk.inj (Option.some.inj hf)).1) ((Prod.mk.inj (Option.some.inj hf)).2) dX9_stairs_42
def f_J9_floorDiv_7cf53 (n : Nat) (a0 : Int32) (a1 : Int32) : Option Int32 :=
  xg (!decide (a1 = 0)) ((if 0 ≤ (a0 ^^^ a1) then some (a0 / a1) else (if ((a0 / a1) * a1) = a0 then some (a0 / a1) else some ((a0 / a1) - (1 : Int32)))))
set_option maxHeartbeats 4000000 in
set_option maxRecDepth 100000 in
theorem c_J9_floorDiv_7cf53 (l : Launch) (G : xG) (n : Nat)  (S : xS) (a0 : Int32) (a1 : Int32) (r : Int32) (hf : f_J9_floorDiv_7cf53 n a0 a1 = some r) : xMi l G yJ9_floorDiv_7cf53 cJ9_floorDiv_7cf53 3 (some .int) 0 0 [.int a0, .int a1] S r S := by
  refine xMiF_of (own := RJ9) (by decide +kernel) rfl (Nat.le_of_ble_eq_true rfl) ?_
  intro p e s m args below meth c X hr hlk H locs ls hP hS hl
  have hl : lv_has ls 3 [(0, .int a0), (1, .int a1)] := hl
  obtain ⟨hx, hb, hml, hown, hts, hE⟩ := id X
  unfold f_J9_floorDiv_7cf53 at hf
  refine lv_iload_n hx hb dJ9_floorDiv_7cf53_0 rfl (lv_at hl 0 rfl) ?_
  refine lv_iload_n hx hb dJ9_floorDiv_7cf53_1 rfl (lv_at hl 1 rfl) ?_
  obtain ⟨g1, hf⟩ := xg_some hf
  refine lv_idiv hx hb dJ9_floorDiv_7cf53_2 (xne_of g1) ?_
  refine lv_istore_n (lv' := [(2, .int (a0 / a1)), (0, .int a0), (1, .int a1)]) hx hb dJ9_floorDiv_7cf53_3 rfl hl (by decide) rfl (fun ls hl => ?_)
  refine lv_iload_n hx hb dJ9_floorDiv_7cf53_4 rfl (lv_at hl 1 rfl) ?_
  refine lv_iload_n hx hb dJ9_floorDiv_7cf53_5 rfl (lv_at hl 2 rfl) ?_
  refine lv_ixor hx hb dJ9_floorDiv_7cf53_6 ?_
  refine lv_if_ge (tgt := 21) hx hb dJ9_floorDiv_7cf53_7 (by decide) (fun e2 => ?_) (fun e2 => ?_)
  · have hf := xif_t hf e2
    refine lv_iload_n hx hb dJ9_floorDiv_7cf53_21 rfl (lv_at hl 0 rfl) ?_
    exact x_iret X hr hlk hP hS  (Option.some.inj hf) (rfl) dJ9_floorDiv_7cf53_22
  · have hf := xif_f hf e2
    refine lv_iload_n hx hb dJ9_floorDiv_7cf53_10 rfl (lv_at hl 0 rfl) ?_
    refine lv_iload_n hx hb dJ9_floorDiv_7cf53_11 rfl (lv_at hl 2 rfl) ?_
    refine lv_imul hx hb dJ9_floorDiv_7cf53_12 ?_
    refine lv_iload_n hx hb dJ9_floorDiv_7cf53_13 rfl (lv_at hl 1 rfl) ?_
    refine lv_icmp_eq (tgt := 21) hx hb dJ9_floorDiv_7cf53_14 (by decide) (fun e3 => ?_) (fun e3 => ?_)
    · have hf := xif_t hf e3
      refine lv_iload_n hx hb dJ9_floorDiv_7cf53_21 rfl (lv_at hl 0 rfl) ?_
      exact x_iret X hr hlk hP hS  (Option.some.inj hf) (rfl) dJ9_floorDiv_7cf53_22
    · have hf := xif_f hf e3
      refine lv_iload_n hx hb dJ9_floorDiv_7cf53_17 rfl (lv_at hl 0 rfl) ?_
      refine lv_iconst (v := 1) hx hb dJ9_floorDiv_7cf53_18 (by decide) ?_
      refine lv_isub hx hb dJ9_floorDiv_7cf53_19 ?_
      exact x_iret X hr hlk hP hS  (Option.some.inj hf) (rfl) dJ9_floorDiv_7cf53_20
def j_X8_evenHeight_21 (n : Nat) (a0 : Int32) (a1 : Int32) (a3 : Int32) (s0 : Int32) : Option Int32 :=
  (if (xabs (a0 - (a1 * s0))) ≤ (xabs (a0 - (a1 * (xmin a3 (s0 + (1 : Int32)))))) then some s0 else some (xmin a3 (s0 + (1 : Int32))))
set_option maxHeartbeats 4000000 in
set_option maxRecDepth 100000 in
theorem t_X8_evenHeight_21 {p : Program} {l : Launch} {e : Env} {s : State} {m : MethodId} {args : Array Value} {below : List Frame} {meth : Method} {c : Code} {G : xG} (X : xC p s m args c G RX8 cX8_evenHeight 6) (hr : meth.sig.returnType = (some .int)) (hlk : meth.locks = false) {n : Nat} {r : Int32} {S : xS} : ∀ (a0 : Int32) (a1 : Int32) (a3 : Int32) (s0 : Int32), j_X8_evenHeight_21 n a0 a1 a3 s0 = some r → xGo p l e { frames := 1, cells := 0, slots := 0, locals := 22 } s m args below meth c G 6 0 0 (MQ below (xQi G r S) args s 0 0 (xA G)) S 21 [(0, .int a0), (1, .int a1), (3, .int a3)] [.int s0] := by
  intro a0 a1 a3 s0 hf H locs ls hP hS hl
  unfold j_X8_evenHeight_21 at hf
  obtain ⟨hx, hb, hml, hown, hts, hE⟩ := id X
  refine lv_istore (lv' := [(4, .int s0), (0, .int a0), (1, .int a1), (3, .int a3)]) hx hb dX8_evenHeight_21 hl (by decide) rfl (fun ls hl => ?_)
  refine lv_iload_n hx hb dX8_evenHeight_23 rfl (lv_at hl 3 rfl) ?_
  refine lv_iload hx hb dX8_evenHeight_24 (lv_at hl 0 rfl) ?_
  refine lv_iconst (v := 1) hx hb dX8_evenHeight_26 (by decide) ?_
  refine lv_iadd hx hb dX8_evenHeight_27 ?_
  refine x_mmin X kw_380 hl.1 ⟨Nat.le_of_ble_eq_true rfl, Nat.le_of_ble_eq_true rfl⟩ ⟨Nat.zero_le _, Nat.zero_le _⟩ dX8_evenHeight_28 ?_
  refine lv_istore (lv' := [(5, .int (xmin a3 (s0 + (1 : Int32)))), (4, .int s0), (0, .int a0), (1, .int a1), (3, .int a3)]) hx hb dX8_evenHeight_31 hl (by decide) rfl (fun ls hl => ?_)
  refine lv_iload_n hx hb dX8_evenHeight_33 rfl (lv_at hl 2 rfl) ?_
  refine lv_iload_n hx hb dX8_evenHeight_34 rfl (lv_at hl 3 rfl) ?_
  refine lv_iload hx hb dX8_evenHeight_35 (lv_at hl 0 rfl) ?_
  refine lv_imul hx hb dX8_evenHeight_37 ?_
  refine lv_isub hx hb dX8_evenHeight_38 ?_
  refine x_mabs X kw_347 hl.1 ⟨Nat.le_of_ble_eq_true rfl, Nat.le_of_ble_eq_true rfl⟩ ⟨Nat.zero_le _, Nat.zero_le _⟩ dX8_evenHeight_39 ?_
  refine lv_iload_n hx hb dX8_evenHeight_42 rfl (lv_at hl 2 rfl) ?_
  refine lv_iload_n hx hb dX8_evenHeight_43 rfl (lv_at hl 3 rfl) ?_
  refine lv_iload hx hb dX8_evenHeight_44 (lv_at hl 1 rfl) ?_
  refine lv_imul hx hb dX8_evenHeight_46 ?_
  refine lv_isub hx hb dX8_evenHeight_47 ?_
  refine x_mabs X kw_347 hl.1 ⟨Nat.le_of_ble_eq_true rfl, Nat.le_of_ble_eq_true rfl⟩ ⟨Nat.zero_le _, Nat.zero_le _⟩ dX8_evenHeight_48 ?_
  refine lv_icmp_ge (tgt := 59) hx hb dX8_evenHeight_51 (by decide) (fun e4 => ?_) (fun e4 => ?_)
  · have hf := xif_t hf e4
    refine lv_iload hx hb dX8_evenHeight_59 (lv_at hl 1 rfl) ?_
    exact x_iret X hr hlk hP hS  (Option.some.inj hf) (rfl) dX8_evenHeight_61
  · have hf := xif_f hf e4
    refine lv_iload hx hb dX8_evenHeight_54 (lv_at hl 0 rfl) ?_
    refine lv_goto (tgt := 61) hx hb dX8_evenHeight_56 (by decide) ?_
    exact x_iret X hr hlk hP hS  (Option.some.inj hf) (rfl) dX8_evenHeight_61
def f_X8_evenHeight (n : Nat) (a0 : Int32) (a1 : Int32) (a2 : Int32) (a3 : Int32) : Option Int32 :=
  (if 0 < a1 then (f_J9_floorDiv_7cf53 n a0 a1).bind fun r2 => (j_X8_evenHeight_21 n a0 a1 a3 (xmax a2 (xmin a3 r2))) else j_X8_evenHeight_21 n a0 a1 a3 a2)
set_option maxHeartbeats 4000000 in
set_option maxRecDepth 100000 in
theorem c_X8_evenHeight (l : Launch) (G : xG) (n : Nat)  (S : xS) (a0 : Int32) (a1 : Int32) (a2 : Int32) (a3 : Int32) (r : Int32) (hf : f_X8_evenHeight n a0 a1 a2 a3 = some r) : xMi l G yX8_evenHeight cX8_evenHeight 6 (some .int) 1 22 [.int a0, .int a1, .int a2, .int a3] S r S := by
  refine xMi_of (own := RX8) (by decide +kernel) rfl (Nat.le_of_ble_eq_true rfl) ?_
  intro p e s m args below meth c X hr hlk H locs ls hP hS hl
  have hl : lv_has ls 6 [(0, .int a0), (1, .int a1), (2, .int a2), (3, .int a3)] := hl
  obtain ⟨hx, hb, hml, hown, hts, hE⟩ := id X
  unfold f_X8_evenHeight at hf
  refine lv_iload_n hx hb dX8_evenHeight_0 rfl (lv_at hl 1 rfl) ?_
  refine lv_if_gt (tgt := 8) hx hb dX8_evenHeight_1 (by decide) (fun e1 => ?_) (fun e1 => ?_)
  · have hf := xif_t hf e1
    refine lv_iload_n hx hb dX8_evenHeight_8 rfl (lv_at hl 2 rfl) ?_
    refine lv_iload_n hx hb dX8_evenHeight_9 rfl (lv_at hl 3 rfl) ?_
    refine lv_iload_n hx hb dX8_evenHeight_10 rfl (lv_at hl 0 rfl) ?_
    refine lv_iload_n hx hb dX8_evenHeight_11 rfl (lv_at hl 1 rfl) ?_
    obtain ⟨r2, h3, hf⟩ := xb_some hf
    refine x_cSi (As := [.int a0, .int a1]) (rest := [.int a3, .int a2]) X hP hS kc_X8_354 (c_J9_floorDiv_7cf53 l G n S a0 a1 _ h3) ⟨Nat.le_of_ble_eq_true rfl, Nat.le_of_ble_eq_true rfl⟩ rfl hl.1 rfl (Nat.le_of_ble_eq_true rfl) ⟨Nat.zero_le _, Nat.zero_le _⟩ dX8_evenHeight_12 (fun H locs hP hS => ?_)
    refine x_mmin X kw_380 hl.1 ⟨Nat.le_of_ble_eq_true rfl, Nat.le_of_ble_eq_true rfl⟩ ⟨Nat.zero_le _, Nat.zero_le _⟩ dX8_evenHeight_15 ?_
    refine x_mmax X kw_383 hl.1 ⟨Nat.le_of_ble_eq_true rfl, Nat.le_of_ble_eq_true rfl⟩ ⟨Nat.zero_le _, Nat.zero_le _⟩ dX8_evenHeight_18 ?_
    exact t_X8_evenHeight_21 X hr hlk   a0 a1 a3 (xmax a2 (xmin a3 r2)) hf H locs ls hP hS (lv_sub hl [0, 1, 3] rfl)
  · have hf := xif_f hf e1
    refine lv_iload_n hx hb dX8_evenHeight_4 rfl (lv_at hl 2 rfl) ?_
    refine lv_goto (tgt := 21) hx hb dX8_evenHeight_5 (by decide) ?_
    exact t_X8_evenHeight_21 X hr hlk   a0 a1 a3 a2 hf H locs ls hP hS (lv_sub hl [0, 1, 3] rfl)
def b_X8_evenSteps_19 (n : Nat) (k19 : Int32 → Int32 → Int32 → Int32 → Int32 → Int32 → Option Int32) (a0 : Int32) (a1 : Int32) (a2 : Int32) (a3 : Int32) (a4 : Int32) (a5 : Int32) : Option Int32 :=
  (if (40 : Int32) < a5 then some a3 else (f_X8_evenHeight n a0 a5 a1 a2).bind fun r4 => ((if a4 ≤ (xabs (a0 - (a5 * r4))) then k19 a0 a1 a2 a3 a4 (a5 + 1) else k19 a0 a1 a2 a5 (xabs (a0 - (a5 * r4))) (a5 + 1))))
def l_X8_evenSteps_19 (n : Nat) : Nat → Int32 → Int32 → Int32 → Int32 → Int32 → Int32 → Option Int32
  | 0, _, _, _, _, _, _ => none
  | j + 1, a0, a1, a2, a3, a4, a5 => b_X8_evenSteps_19 n (l_X8_evenSteps_19 n j) a0 a1 a2 a3 a4 a5
set_option maxHeartbeats 4000000 in
set_option maxRecDepth 100000 in
theorem t_X8_evenSteps_19 {p : Program} {l : Launch} {e : Env} {s : State} {m : MethodId} {args : Array Value} {below : List Frame} {meth : Method} {c : Code} {G : xG} (X : xC p s m args c G RX8 cX8_evenSteps 7) (hr : meth.sig.returnType = (some .int)) (hlk : meth.locks = false) {n : Nat} {r : Int32} {S : xS} : ∀ (j : Nat) (a0 : Int32) (a1 : Int32) (a2 : Int32) (a3 : Int32) (a4 : Int32) (a5 : Int32), l_X8_evenSteps_19 n j a0 a1 a2 a3 a4 a5 = some r → xGo p l e { frames := 2, cells := 0, slots := 0, locals := 47 } s m args below meth c G 7 0 0 (MQ below (xQi G r S) args s 0 0 (xA G)) S 19 [(0, .int a0), (1, .int a1), (2, .int a2), (3, .int a3), (4, .int a4), (5, .int a5)] [] := by
  intro j
  induction j with
  | zero => intro a0 a1 a2 a3 a4 a5 hf; exact nomatch (show (none : Option Int32) = _ from hf)
  | succ j ih =>
    intro a0 a1 a2 a3 a4 a5 hf H locs ls hP hS hl
    have hf : b_X8_evenSteps_19 n (l_X8_evenSteps_19 n j) a0 a1 a2 a3 a4 a5 = some r := hf
    unfold b_X8_evenSteps_19 at hf
    obtain ⟨hx, hb, hml, hown, hts, hE⟩ := id X
    refine lv_iload hx hb dX8_evenSteps_19 (lv_at hl 5 rfl) ?_
    refine lv_bipush (v := 40) hx hb dX8_evenSteps_21 (by decide) ?_
    refine lv_icmp_gt (tgt := 64) hx hb dX8_evenSteps_23 (by decide) (fun e3 => ?_) (fun e3 => ?_)
    · have hf := xif_t hf e3
      refine lv_iload_n hx hb dX8_evenSteps_64 rfl (lv_at hl 3 rfl) ?_
      exact x_iret X hr hlk hP hS  (Option.some.inj hf) (rfl) dX8_evenSteps_65
    · have hf := xif_f hf e3
      refine lv_iload_n hx hb dX8_evenSteps_26 rfl (lv_at hl 0 rfl) ?_
      refine lv_iload hx hb dX8_evenSteps_27 (lv_at hl 5 rfl) ?_
      refine lv_iload_n hx hb dX8_evenSteps_29 rfl (lv_at hl 0 rfl) ?_
      refine lv_iload hx hb dX8_evenSteps_30 (lv_at hl 5 rfl) ?_
      refine lv_iload_n hx hb dX8_evenSteps_32 rfl (lv_at hl 1 rfl) ?_
      refine lv_iload_n hx hb dX8_evenSteps_33 rfl (lv_at hl 2 rfl) ?_
      obtain ⟨r4, h5, hf⟩ := xb_some hf
      refine x_cSi (As := [.int a0, .int a5, .int a1, .int a2]) (rest := [.int a5, .int a0]) X hP hS kc_X8_163 (c_X8_evenHeight l G n S a0 a5 a1 a2 _ h5) ⟨Nat.le_of_ble_eq_true rfl, Nat.le_of_ble_eq_true rfl⟩ rfl hl.1 rfl (Nat.le_of_ble_eq_true rfl) ⟨Nat.zero_le _, Nat.zero_le _⟩ dX8_evenSteps_34 (fun H locs hP hS => ?_)
      refine lv_imul hx hb dX8_evenSteps_37 ?_
      refine lv_isub hx hb dX8_evenSteps_38 ?_
      refine x_mabs X kw_347 hl.1 ⟨Nat.le_of_ble_eq_true rfl, Nat.le_of_ble_eq_true rfl⟩ ⟨Nat.zero_le _, Nat.zero_le _⟩ dX8_evenSteps_39 ?_
      refine lv_istore (lv' := [(6, .int (xabs (a0 - (a5 * r4)))), (0, .int a0), (1, .int a1), (2, .int a2), (3, .int a3), (4, .int a4), (5, .int a5)]) hx hb dX8_evenSteps_42 hl (by decide) rfl (fun ls hl => ?_)
      refine lv_iload hx hb dX8_evenSteps_44 (lv_at hl 0 rfl) ?_
      refine lv_iload hx hb dX8_evenSteps_46 (lv_at hl 5 rfl) ?_
      refine lv_icmp_ge (tgt := 58) hx hb dX8_evenSteps_48 (by decide) (fun e6 => ?_) (fun e6 => ?_)
      · have hf := xif_t hf e6
        refine lv_iinc (v := a5 + 1) (lv' := [(5, .int (a5 + 1)), (6, .int (xabs (a0 - (a5 * r4)))), (0, .int a0), (1, .int a1), (2, .int a2), (3, .int a3), (4, .int a4)]) hx hb dX8_evenSteps_58 hl (k := 6) rfl rfl (by decide) rfl (fun ls hl => ?_)
        refine lv_goto (tgt := 19) hx hb dX8_evenSteps_61 (by decide) ?_
        exact ih a0 a1 a2 a3 a4 (a5 + 1) hf H locs ls hP hS (lv_sub hl [2, 3, 4, 5, 6, 0] rfl)
      · have hf := xif_f hf e6
        refine lv_iload hx hb dX8_evenSteps_51 (lv_at hl 0 rfl) ?_
        refine lv_istore (lv' := [(4, .int (xabs (a0 - (a5 * r4)))), (6, .int (xabs (a0 - (a5 * r4)))), (0, .int a0), (1, .int a1), (2, .int a2), (3, .int a3), (5, .int a5)]) hx hb dX8_evenSteps_53 hl (by decide) rfl (fun ls hl => ?_)
        refine lv_iload hx hb dX8_evenSteps_55 (lv_at hl 6 rfl) ?_
        refine lv_istore_n (lv' := [(3, .int a5), (4, .int (xabs (a0 - (a5 * r4)))), (6, .int (xabs (a0 - (a5 * r4)))), (0, .int a0), (1, .int a1), (2, .int a2), (5, .int a5)]) hx hb dX8_evenSteps_57 rfl hl (by decide) rfl (fun ls hl => ?_)
        refine lv_iinc (v := a5 + 1) (lv' := [(5, .int (a5 + 1)), (3, .int a5), (4, .int (xabs (a0 - (a5 * r4)))), (6, .int (xabs (a0 - (a5 * r4)))), (0, .int a0), (1, .int a1), (2, .int a2)]) hx hb dX8_evenSteps_58 hl (k := 6) rfl rfl (by decide) rfl (fun ls hl => ?_)
        refine lv_goto (tgt := 19) hx hb dX8_evenSteps_61 (by decide) ?_
        exact ih a0 a1 a2 a5 (xabs (a0 - (a5 * r4))) (a5 + 1) hf H locs ls hP hS (lv_sub hl [4, 5, 6, 1, 2, 0] rfl)
def f_X8_evenSteps (n : Nat) (a0 : Int32) (a1 : Int32) (a2 : Int32) : Option Int32 :=
  (f_X8_evenHeight n a0 (1 : Int32) a1 a2).bind fun r1 => (l_X8_evenSteps_19 n n a0 a1 a2 (1 : Int32) (xabs (a0 - r1)) (2 : Int32))
set_option maxHeartbeats 4000000 in
set_option maxRecDepth 100000 in
theorem c_X8_evenSteps (l : Launch) (G : xG) (n : Nat)  (S : xS) (a0 : Int32) (a1 : Int32) (a2 : Int32) (r : Int32) (hf : f_X8_evenSteps n a0 a1 a2 = some r) : xMi l G yX8_evenSteps cX8_evenSteps 7 (some .int) 2 47 [.int a0, .int a1, .int a2] S r S := by
  refine xMi_of (own := RX8) (by decide +kernel) rfl (Nat.le_of_ble_eq_true rfl) ?_
  intro p e s m args below meth c X hr hlk H locs ls hP hS hl
  have hl : lv_has ls 7 [(0, .int a0), (1, .int a1), (2, .int a2)] := hl
  obtain ⟨hx, hb, hml, hown, hts, hE⟩ := id X
  unfold f_X8_evenSteps at hf
  refine lv_iconst (v := 1) hx hb dX8_evenSteps_0 (by decide) ?_
  refine lv_istore_n (lv' := [(3, .int (1 : Int32)), (0, .int a0), (1, .int a1), (2, .int a2)]) hx hb dX8_evenSteps_1 rfl hl (by decide) rfl (fun ls hl => ?_)
  refine lv_iload_n hx hb dX8_evenSteps_2 rfl (lv_at hl 1 rfl) ?_
  refine lv_iload_n hx hb dX8_evenSteps_3 rfl (lv_at hl 1 rfl) ?_
  refine lv_iconst (v := 1) hx hb dX8_evenSteps_4 (by decide) ?_
  refine lv_iload_n hx hb dX8_evenSteps_5 rfl (lv_at hl 2 rfl) ?_
  refine lv_iload_n hx hb dX8_evenSteps_6 rfl (lv_at hl 3 rfl) ?_
  obtain ⟨r1, h2, hf⟩ := xb_some hf
  refine x_cSi (As := [.int a0, .int (1 : Int32), .int a1, .int a2]) (rest := [.int a0]) X hP hS kc_X8_163 (c_X8_evenHeight l G n S a0 (1 : Int32) a1 a2 _ h2) ⟨Nat.le_of_ble_eq_true rfl, Nat.le_of_ble_eq_true rfl⟩ rfl hl.1 rfl (Nat.le_of_ble_eq_true rfl) ⟨Nat.zero_le _, Nat.zero_le _⟩ dX8_evenSteps_7 (fun H locs hP hS => ?_)
  refine lv_isub hx hb dX8_evenSteps_10 ?_
  refine x_mabs X kw_347 hl.1 ⟨Nat.le_of_ble_eq_true rfl, Nat.le_of_ble_eq_true rfl⟩ ⟨Nat.zero_le _, Nat.zero_le _⟩ dX8_evenSteps_11 ?_
  refine lv_istore (lv' := [(4, .int (xabs (a0 - r1))), (3, .int (1 : Int32)), (0, .int a0), (1, .int a1), (2, .int a2)]) hx hb dX8_evenSteps_14 hl (by decide) rfl (fun ls hl => ?_)
  refine lv_iconst (v := 2) hx hb dX8_evenSteps_16 (by decide) ?_
  refine lv_istore (lv' := [(5, .int (2 : Int32)), (4, .int (xabs (a0 - r1))), (3, .int (1 : Int32)), (0, .int a0), (1, .int a1), (2, .int a2)]) hx hb dX8_evenSteps_17 hl (by decide) rfl (fun ls hl => ?_)
  exact t_X8_evenSteps_19 X hr hlk   n a0 a1 a2 (1 : Int32) (xabs (a0 - r1)) (2 : Int32) hf H locs ls hP hS (lv_sub hl [3, 4, 5, 2, 1, 0] rfl)
def f_X8_even (n : Nat) (S : xS) (a1 : Int32) (a2 : Int32) (a3 : Int32) (a4 : Int32) : Option Int32 :=
  (if (f_X8_isFloor S a1) = 0 then some (-2 : Int32) else (if (f_X8_within a2 (1 : Int32) (99 : Int32)) = 0 then some (-2 : Int32) else (if (f_X8_within a3 a2 (99 : Int32)) = 0 then some (-2 : Int32) else (if (f_X8_within a4 (0 : Int32) (2 : Int32)) = 0 then some (-2 : Int32) else (f_X7_built n S a1).bind fun r5 => ((f_X8_evenSteps n r5 a2 a3).bind fun r7 => ((f_X8_evenHeight n r5 r7 a2 a3).bind fun r9 => ((if a4 = 0 then some r9 else (if a4 = 1 then some r7 else some (xabs (r5 - (r7 * r9))))))))))))
set_option maxHeartbeats 4000000 in
set_option maxRecDepth 100000 in
theorem c_X8_even (l : Launch) (G : xG) (n : Nat)  (S : xS) (a1 : Int32) (a2 : Int32) (a3 : Int32) (a4 : Int32) (r : Int32) (hf : f_X8_even n S a1 a2 a3 a4 = some r) : xMi l G yX8_even cX8_even 8 (some .int) 3 73 [.ref (G.2.2 0), .int a1, .int a2, .int a3, .int a4] S r S := by
  refine xMi_of (own := RX8) (by decide +kernel) rfl (Nat.le_of_ble_eq_true rfl) ?_
  intro p e s m args below meth c X hr hlk H locs ls hP hS hl
  have hl : lv_has ls 8 [(0, .ref (G.2.2 0)), (1, .int a1), (2, .int a2), (3, .int a3), (4, .int a4)] := hl
  obtain ⟨hx, hb, hml, hown, hts, hE⟩ := id X
  unfold f_X8_even at hf
  refine lv_aload_n hx hb dX8_even_0 rfl (lv_at hl 0 rfl) ?_
  refine lv_iload_n hx hb dX8_even_1 rfl (lv_at hl 1 rfl) ?_
  refine x_cVi (As := [.int a1]) (rest := []) X hP hS kc_X8_104 (c_X8_isFloor l G  S a1 _ rfl) ⟨Nat.le_of_ble_eq_true rfl, Nat.le_of_ble_eq_true rfl⟩ (by decide) rfl rfl rfl hl.1 rfl (Nat.le_of_ble_eq_true rfl) ⟨Nat.zero_le _, Nat.zero_le _⟩ dX8_even_2 (fun H locs hP hS => ?_)
  refine lv_if_eq (tgt := 38) hx hb dX8_even_5 (by decide) (fun e1 => ?_) (fun e1 => ?_)
  · have hf := xif_t hf e1
    refine lv_bipush (v := (-2)) hx hb dX8_even_38 (by decide) ?_
    exact x_iret X hr hlk hP hS  (Option.some.inj hf) (rfl) dX8_even_40
  · have hf := xif_f hf e1
    refine lv_iload_n hx hb dX8_even_8 rfl (lv_at hl 2 rfl) ?_
    refine lv_iconst (v := 1) hx hb dX8_even_9 (by decide) ?_
    refine lv_bipush (v := 99) hx hb dX8_even_10 (by decide) ?_
    refine x_cSi (As := [.int a2, .int (1 : Int32), .int (99 : Int32)]) (rest := []) X hP hS kc_X8_79 (c_X8_within l G  S a2 (1 : Int32) (99 : Int32) _ rfl) ⟨Nat.le_of_ble_eq_true rfl, Nat.le_of_ble_eq_true rfl⟩ rfl hl.1 rfl (Nat.le_of_ble_eq_true rfl) ⟨Nat.zero_le _, Nat.zero_le _⟩ dX8_even_12 (fun H locs hP hS => ?_)
    refine lv_if_eq (tgt := 38) hx hb dX8_even_15 (by decide) (fun e2 => ?_) (fun e2 => ?_)
    · have hf := xif_t hf e2
      refine lv_bipush (v := (-2)) hx hb dX8_even_38 (by decide) ?_
      exact x_iret X hr hlk hP hS  (Option.some.inj hf) (rfl) dX8_even_40
    · have hf := xif_f hf e2
      refine lv_iload_n hx hb dX8_even_18 rfl (lv_at hl 3 rfl) ?_
      refine lv_iload_n hx hb dX8_even_19 rfl (lv_at hl 2 rfl) ?_
      refine lv_bipush (v := 99) hx hb dX8_even_20 (by decide) ?_
      refine x_cSi (As := [.int a3, .int a2, .int (99 : Int32)]) (rest := []) X hP hS kc_X8_79 (c_X8_within l G  S a3 a2 (99 : Int32) _ rfl) ⟨Nat.le_of_ble_eq_true rfl, Nat.le_of_ble_eq_true rfl⟩ rfl hl.1 rfl (Nat.le_of_ble_eq_true rfl) ⟨Nat.zero_le _, Nat.zero_le _⟩ dX8_even_22 (fun H locs hP hS => ?_)
      refine lv_if_eq (tgt := 38) hx hb dX8_even_25 (by decide) (fun e3 => ?_) (fun e3 => ?_)
      · have hf := xif_t hf e3
        refine lv_bipush (v := (-2)) hx hb dX8_even_38 (by decide) ?_
        exact x_iret X hr hlk hP hS  (Option.some.inj hf) (rfl) dX8_even_40
      · have hf := xif_f hf e3
        refine lv_iload hx hb dX8_even_28 (lv_at hl 4 rfl) ?_
        refine lv_iconst (v := 0) hx hb dX8_even_30 (by decide) ?_
        refine lv_iconst (v := 2) hx hb dX8_even_31 (by decide) ?_
        refine x_cSi (As := [.int a4, .int (0 : Int32), .int (2 : Int32)]) (rest := []) X hP hS kc_X8_79 (c_X8_within l G  S a4 (0 : Int32) (2 : Int32) _ rfl) ⟨Nat.le_of_ble_eq_true rfl, Nat.le_of_ble_eq_true rfl⟩ rfl hl.1 rfl (Nat.le_of_ble_eq_true rfl) ⟨Nat.zero_le _, Nat.zero_le _⟩ dX8_even_32 (fun H locs hP hS => ?_)
        refine lv_if_ne (tgt := 41) hx hb dX8_even_35 (by decide) (fun e4 => ?_) (fun e4 => ?_)
        · have hf := xif_f hf e4
          refine lv_aload_n hx hb dX8_even_41 rfl (lv_at hl 0 rfl) ?_
          refine x_getR X hP fl_X8_32 (by decide) rfl rfl dX8_even_42 ?_
          refine lv_iload_n hx hb dX8_even_45 rfl (lv_at hl 1 rfl) ?_
          obtain ⟨r5, h6, hf⟩ := xb_some hf
          refine x_cVi (As := [.int a1]) (rest := []) X hP hS kc_X8_111 (c_X7_built l G n S a1 _ h6) ⟨Nat.le_of_ble_eq_true rfl, Nat.le_of_ble_eq_true rfl⟩ (by decide) rfl rfl rfl hl.1 rfl (Nat.le_of_ble_eq_true rfl) ⟨Nat.zero_le _, Nat.zero_le _⟩ dX8_even_46 (fun H locs hP hS => ?_)
          refine lv_istore (lv' := [(5, .int r5), (0, .ref (G.2.2 0)), (1, .int a1), (2, .int a2), (3, .int a3), (4, .int a4)]) hx hb dX8_even_49 hl (by decide) rfl (fun ls hl => ?_)
          refine lv_iload hx hb dX8_even_51 (lv_at hl 0 rfl) ?_
          refine lv_iload_n hx hb dX8_even_53 rfl (lv_at hl 3 rfl) ?_
          refine lv_iload_n hx hb dX8_even_54 rfl (lv_at hl 4 rfl) ?_
          obtain ⟨r7, h8, hf⟩ := xb_some hf
          refine x_cSi (As := [.int r5, .int a2, .int a3]) (rest := []) X hP hS kc_X8_160 (c_X8_evenSteps l G n S r5 a2 a3 _ h8) ⟨Nat.le_of_ble_eq_true rfl, Nat.le_of_ble_eq_true rfl⟩ rfl hl.1 rfl (Nat.le_of_ble_eq_true rfl) ⟨Nat.zero_le _, Nat.zero_le _⟩ dX8_even_55 (fun H locs hP hS => ?_)
          refine lv_istore (lv' := [(6, .int r7), (5, .int r5), (0, .ref (G.2.2 0)), (1, .int a1), (2, .int a2), (3, .int a3), (4, .int a4)]) hx hb dX8_even_58 hl (by decide) rfl (fun ls hl => ?_)
          refine lv_iload hx hb dX8_even_60 (lv_at hl 1 rfl) ?_
          refine lv_iload hx hb dX8_even_62 (lv_at hl 0 rfl) ?_
          refine lv_iload_n hx hb dX8_even_64 rfl (lv_at hl 4 rfl) ?_
          refine lv_iload_n hx hb dX8_even_65 rfl (lv_at hl 5 rfl) ?_
          obtain ⟨r9, h10, hf⟩ := xb_some hf
          refine x_cSi (As := [.int r5, .int r7, .int a2, .int a3]) (rest := []) X hP hS kc_X8_163 (c_X8_evenHeight l G n S r5 r7 a2 a3 _ h10) ⟨Nat.le_of_ble_eq_true rfl, Nat.le_of_ble_eq_true rfl⟩ rfl hl.1 rfl (Nat.le_of_ble_eq_true rfl) ⟨Nat.zero_le _, Nat.zero_le _⟩ dX8_even_66 (fun H locs hP hS => ?_)
          refine lv_istore (lv' := [(7, .int r9), (6, .int r7), (5, .int r5), (0, .ref (G.2.2 0)), (1, .int a1), (2, .int a2), (3, .int a3), (4, .int a4)]) hx hb dX8_even_69 hl (by decide) rfl (fun ls hl => ?_)
          refine lv_iload hx hb dX8_even_71 (lv_at hl 7 rfl) ?_
          by_cases v0 : a4 = 0
          · have hf := xif_t hf v0
            refine lv_lookup (tgt := 100) (off := 27) hx hb dX8_even_73 (by decide) (by rw [v0]; rfl) (by decide) ?_
            refine lv_iload hx hb dX8_even_100 (lv_at hl 0 rfl) ?_
            exact x_iret X hr hlk hP hS  (Option.some.inj hf) (rfl) dX8_even_102
          · have hf := xif_f hf v0
            by_cases v1 : a4 = 1
            · have hf := xif_t hf v1
              refine lv_lookup (tgt := 103) (off := 30) hx hb dX8_even_73 (by decide) (by rw [v1]; rfl) (by decide) ?_
              refine lv_iload hx hb dX8_even_103 (lv_at hl 1 rfl) ?_
              exact x_iret X hr hlk hP hS  (Option.some.inj hf) (rfl) dX8_even_105
            · have hf := xif_f hf v1
              refine lv_lookup (tgt := 106) (off := 33) hx hb dX8_even_73 (by decide) (by rw [lv_osw v0 (by decide)]; rw [lv_osw v1 (by decide)]; rfl) (by decide) ?_
              refine lv_iload hx hb dX8_even_106 (lv_at hl 2 rfl) ?_
              refine lv_iload hx hb dX8_even_108 (lv_at hl 1 rfl) ?_
              refine lv_iload hx hb dX8_even_110 (lv_at hl 0 rfl) ?_
              refine lv_imul hx hb dX8_even_112 ?_
              refine lv_isub hx hb dX8_even_113 ?_
              refine x_mabs X kw_347 hl.1 ⟨Nat.le_of_ble_eq_true rfl, Nat.le_of_ble_eq_true rfl⟩ ⟨Nat.zero_le _, Nat.zero_le _⟩ dX8_even_114 ?_
              exact x_iret X hr hlk hP hS  (Option.some.inj hf) (rfl) dX8_even_117
        · have hf := xif_t hf e4
          refine lv_bipush (v := (-2)) hx hb dX8_even_38 (by decide) ?_
          exact x_iret X hr hlk hP hS  (Option.some.inj hf) (rfl) dX8_even_40
def b_X9_evenOf_31 (n : Nat) (k21 : Int32 → Int32 → Int32 → Int32 → Int32 → Int32 → Int32 → Int32 → Option Int32) (k31 : Int32 → Int32 → Int32 → Int32 → Int32 → Int32 → Int32 → Int32 → Int32 → Option Int32) (S : xS) (a1 : Int32) (a2 : Int32) (a3 : Int32) (a4 : Int32) (a5 : Int32) (a6 : Int32) (a7 : Int32) (a8 : Int32) (a9 : Int32) : Option Int32 :=
  (if a3 < a9 then k21 a1 a2 a3 a4 a5 a6 a7 (a8 + 1) else (f_X9_builtOf n S a1).bind fun r7 => ((if a7 ≤ (f_X9_amount (r7 - (a8 * a9))) then k31 a1 a2 a3 a4 a5 a6 a7 a8 (a9 + 1) else k31 a1 a2 a3 a4 a9 a8 (f_X9_amount (r7 - (a8 * a9))) a8 (a9 + 1))))
def l_X9_evenOf_31 (n : Nat) (k21 : Int32 → Int32 → Int32 → Int32 → Int32 → Int32 → Int32 → Int32 → Option Int32) (S : xS) : Nat → Int32 → Int32 → Int32 → Int32 → Int32 → Int32 → Int32 → Int32 → Int32 → Option Int32
  | 0, _, _, _, _, _, _, _, _, _ => none
  | j + 1, a1, a2, a3, a4, a5, a6, a7, a8, a9 => b_X9_evenOf_31 n k21 (l_X9_evenOf_31 n k21 S j) S a1 a2 a3 a4 a5 a6 a7 a8 a9
set_option maxHeartbeats 4000000 in
set_option maxRecDepth 100000 in
theorem t_X9_evenOf_31 {p : Program} {l : Launch} {e : Env} {s : State} {m : MethodId} {args : Array Value} {below : List Frame} {meth : Method} {c : Code} {G : xG} (X : xC p s m args c G RX9 cX9_evenOf 11) (hr : meth.sig.returnType = (some .int)) (hlk : meth.locks = false) {n : Nat} {r : Int32} {S : xS} {k21 : Int32 → Int32 → Int32 → Int32 → Int32 → Int32 → Int32 → Int32 → Option Int32} (hk21 : ∀ (a1 : Int32) (a2 : Int32) (a3 : Int32) (a4 : Int32) (a5 : Int32) (a6 : Int32) (a7 : Int32) (a8 : Int32), k21 a1 a2 a3 a4 a5 a6 a7 a8 = some r → xGo p l e { frames := 2, cells := 0, slots := 0, locals := 47 } s m args below meth c G 11 0 0 (MQ below (xQi G r S) args s 0 0 (xA G)) S 21 [(0, .ref (G.2.2 34)), (1, .int a1), (2, .int a2), (3, .int a3), (4, .int a4), (5, .int a5), (6, .int a6), (7, .int a7), (8, .int a8)] []) : ∀ (j : Nat) (a1 : Int32) (a2 : Int32) (a3 : Int32) (a4 : Int32) (a5 : Int32) (a6 : Int32) (a7 : Int32) (a8 : Int32) (a9 : Int32), l_X9_evenOf_31 n k21 S j a1 a2 a3 a4 a5 a6 a7 a8 a9 = some r → xGo p l e { frames := 2, cells := 0, slots := 0, locals := 47 } s m args below meth c G 11 0 0 (MQ below (xQi G r S) args s 0 0 (xA G)) S 31 [(0, .ref (G.2.2 34)), (1, .int a1), (2, .int a2), (3, .int a3), (4, .int a4), (5, .int a5), (6, .int a6), (7, .int a7), (8, .int a8), (9, .int a9)] [] := by
  intro j
  induction j with
  | zero => intro a1 a2 a3 a4 a5 a6 a7 a8 a9 hf; exact nomatch (show (none : Option Int32) = _ from hf)
  | succ j ih =>
    intro a1 a2 a3 a4 a5 a6 a7 a8 a9 hf H locs ls hP hS hl
    have hf : b_X9_evenOf_31 n k21 (l_X9_evenOf_31 n k21 S j) S a1 a2 a3 a4 a5 a6 a7 a8 a9 = some r := hf
    unfold b_X9_evenOf_31 at hf
    obtain ⟨hx, hb, hml, hown, hts, hE⟩ := id X
    refine lv_iload hx hb dX9_evenOf_31 (lv_at hl 9 rfl) ?_
    refine lv_iload_n hx hb dX9_evenOf_33 rfl (lv_at hl 3 rfl) ?_
    refine lv_icmp_gt (tgt := 78) hx hb dX9_evenOf_34 (by decide) (fun e6 => ?_) (fun e6 => ?_)
    · have hf := xif_t hf e6
      refine lv_iinc (v := a8 + 1) (lv' := [(8, .int (a8 + 1)), (0, .ref (G.2.2 34)), (1, .int a1), (2, .int a2), (3, .int a3), (4, .int a4), (5, .int a5), (6, .int a6), (7, .int a7), (9, .int a9)]) hx hb dX9_evenOf_78 hl (k := 8) rfl rfl (by decide) rfl (fun ls hl => ?_)
      refine lv_goto (tgt := 21) hx hb dX9_evenOf_81 (by decide) ?_
      exact hk21 a1 a2 a3 a4 a5 a6 a7 (a8 + 1) hf H locs ls hP hS (lv_sub hl [1, 2, 3, 4, 5, 6, 7, 8, 0] rfl)
    · have hf := xif_f hf e6
      refine lv_aload_n hx hb dX9_evenOf_37 rfl (lv_at hl 0 rfl) ?_
      refine lv_iload_n hx hb dX9_evenOf_38 rfl (lv_at hl 1 rfl) ?_
      obtain ⟨r7, h8, hf⟩ := xb_some hf
      refine x_cVi (As := [.int a1]) (rest := []) X hP hS kc_X9_100 (c_X9_builtOf l G n S a1 _ h8) ⟨Nat.le_of_ble_eq_true rfl, Nat.le_of_ble_eq_true rfl⟩ (by decide) rfl rfl rfl hl.1 rfl (Nat.le_of_ble_eq_true rfl) ⟨Nat.zero_le _, Nat.zero_le _⟩ dX9_evenOf_39 (fun H locs hP hS => ?_)
      refine lv_iload hx hb dX9_evenOf_42 (lv_at hl 8 rfl) ?_
      refine lv_iload hx hb dX9_evenOf_44 (lv_at hl 9 rfl) ?_
      refine lv_imul hx hb dX9_evenOf_46 ?_
      refine lv_isub hx hb dX9_evenOf_47 ?_
      refine x_cSi (As := [.int (r7 - (a8 * a9))]) (rest := []) X hP hS kc_X9_115 (c_X9_amount l G  S (r7 - (a8 * a9)) _ rfl) ⟨Nat.le_of_ble_eq_true rfl, Nat.le_of_ble_eq_true rfl⟩ rfl hl.1 rfl (Nat.le_of_ble_eq_true rfl) ⟨Nat.zero_le _, Nat.zero_le _⟩ dX9_evenOf_48 (fun H locs hP hS => ?_)
      refine lv_istore (lv' := [(10, .int (f_X9_amount (r7 - (a8 * a9)))), (0, .ref (G.2.2 34)), (1, .int a1), (2, .int a2), (3, .int a3), (4, .int a4), (5, .int a5), (6, .int a6), (7, .int a7), (8, .int a8), (9, .int a9)]) hx hb dX9_evenOf_51 hl (by decide) rfl (fun ls hl => ?_)
      refine lv_iload hx hb dX9_evenOf_53 (lv_at hl 0 rfl) ?_
      refine lv_iload hx hb dX9_evenOf_55 (lv_at hl 8 rfl) ?_
      refine lv_icmp_ge (tgt := 72) hx hb dX9_evenOf_57 (by decide) (fun e9 => ?_) (fun e9 => ?_)
      · have hf := xif_t hf e9
        refine lv_iinc (v := a9 + 1) (lv' := [(9, .int (a9 + 1)), (10, .int (f_X9_amount (r7 - (a8 * a9)))), (0, .ref (G.2.2 34)), (1, .int a1), (2, .int a2), (3, .int a3), (4, .int a4), (5, .int a5), (6, .int a6), (7, .int a7), (8, .int a8)]) hx hb dX9_evenOf_72 hl (k := 10) rfl rfl (by decide) rfl (fun ls hl => ?_)
        refine lv_goto (tgt := 31) hx hb dX9_evenOf_75 (by decide) ?_
        exact ih a1 a2 a3 a4 a5 a6 a7 a8 (a9 + 1) hf H locs ls hP hS (lv_sub hl [2, 3, 4, 5, 6, 7, 8, 9, 10, 0] rfl)
      · have hf := xif_f hf e9
        refine lv_iload hx hb dX9_evenOf_60 (lv_at hl 0 rfl) ?_
        refine lv_istore (lv' := [(7, .int (f_X9_amount (r7 - (a8 * a9)))), (10, .int (f_X9_amount (r7 - (a8 * a9)))), (0, .ref (G.2.2 34)), (1, .int a1), (2, .int a2), (3, .int a3), (4, .int a4), (5, .int a5), (6, .int a6), (8, .int a8), (9, .int a9)]) hx hb dX9_evenOf_62 hl (by decide) rfl (fun ls hl => ?_)
        refine lv_iload hx hb dX9_evenOf_64 (lv_at hl 10 rfl) ?_
        refine lv_istore (lv' := [(5, .int a9), (7, .int (f_X9_amount (r7 - (a8 * a9)))), (10, .int (f_X9_amount (r7 - (a8 * a9)))), (0, .ref (G.2.2 34)), (1, .int a1), (2, .int a2), (3, .int a3), (4, .int a4), (6, .int a6), (8, .int a8), (9, .int a9)]) hx hb dX9_evenOf_66 hl (by decide) rfl (fun ls hl => ?_)
        refine lv_iload hx hb dX9_evenOf_68 (lv_at hl 9 rfl) ?_
        refine lv_istore (lv' := [(6, .int a8), (5, .int a9), (7, .int (f_X9_amount (r7 - (a8 * a9)))), (10, .int (f_X9_amount (r7 - (a8 * a9)))), (0, .ref (G.2.2 34)), (1, .int a1), (2, .int a2), (3, .int a3), (4, .int a4), (8, .int a8), (9, .int a9)]) hx hb dX9_evenOf_70 hl (by decide) rfl (fun ls hl => ?_)
        refine lv_iinc (v := a9 + 1) (lv' := [(9, .int (a9 + 1)), (6, .int a8), (5, .int a9), (7, .int (f_X9_amount (r7 - (a8 * a9)))), (10, .int (f_X9_amount (r7 - (a8 * a9)))), (0, .ref (G.2.2 34)), (1, .int a1), (2, .int a2), (3, .int a3), (4, .int a4), (8, .int a8)]) hx hb dX9_evenOf_72 hl (k := 10) rfl rfl (by decide) rfl (fun ls hl => ?_)
        refine lv_goto (tgt := 31) hx hb dX9_evenOf_75 (by decide) ?_
        exact ih a1 a2 a3 a4 a9 a8 (f_X9_amount (r7 - (a8 * a9))) a8 (a9 + 1) hf H locs ls hP hS (lv_sub hl [5, 6, 7, 8, 9, 2, 1, 3, 10, 0] rfl)
def b_X9_evenOf_21 (n : Nat) (k21 : Int32 → Int32 → Int32 → Int32 → Int32 → Int32 → Int32 → Int32 → Option Int32) (S : xS) (a1 : Int32) (a2 : Int32) (a3 : Int32) (a4 : Int32) (a5 : Int32) (a6 : Int32) (a7 : Int32) (a8 : Int32) : Option Int32 :=
  (if (41 : Int32) ≤ a8 then (if a4 = 0 then some a5 else (if a4 = (1 : Int32) then some a6 else some a7)) else l_X9_evenOf_31 n k21 S n a1 a2 a3 a4 a5 a6 a7 a8 a2)
def l_X9_evenOf_21 (n : Nat) (S : xS) : Nat → Int32 → Int32 → Int32 → Int32 → Int32 → Int32 → Int32 → Int32 → Option Int32
  | 0, _, _, _, _, _, _, _, _ => none
  | j + 1, a1, a2, a3, a4, a5, a6, a7, a8 => b_X9_evenOf_21 n (l_X9_evenOf_21 n S j) S a1 a2 a3 a4 a5 a6 a7 a8
set_option maxHeartbeats 4000000 in
set_option maxRecDepth 100000 in
theorem t_X9_evenOf_21 {p : Program} {l : Launch} {e : Env} {s : State} {m : MethodId} {args : Array Value} {below : List Frame} {meth : Method} {c : Code} {G : xG} (X : xC p s m args c G RX9 cX9_evenOf 11) (hr : meth.sig.returnType = (some .int)) (hlk : meth.locks = false) {n : Nat} {r : Int32} {S : xS} : ∀ (j : Nat) (a1 : Int32) (a2 : Int32) (a3 : Int32) (a4 : Int32) (a5 : Int32) (a6 : Int32) (a7 : Int32) (a8 : Int32), l_X9_evenOf_21 n S j a1 a2 a3 a4 a5 a6 a7 a8 = some r → xGo p l e { frames := 2, cells := 0, slots := 0, locals := 47 } s m args below meth c G 11 0 0 (MQ below (xQi G r S) args s 0 0 (xA G)) S 21 [(0, .ref (G.2.2 34)), (1, .int a1), (2, .int a2), (3, .int a3), (4, .int a4), (5, .int a5), (6, .int a6), (7, .int a7), (8, .int a8)] [] := by
  intro j
  induction j with
  | zero => intro a1 a2 a3 a4 a5 a6 a7 a8 hf; exact nomatch (show (none : Option Int32) = _ from hf)
  | succ j ih =>
    intro a1 a2 a3 a4 a5 a6 a7 a8 hf H locs ls hP hS hl
    have hf : b_X9_evenOf_21 n (l_X9_evenOf_21 n S j) S a1 a2 a3 a4 a5 a6 a7 a8 = some r := hf
    unfold b_X9_evenOf_21 at hf
    obtain ⟨hx, hb, hml, hown, hts, hE⟩ := id X
    refine lv_iload hx hb dX9_evenOf_21 (lv_at hl 8 rfl) ?_
    refine lv_bipush (v := 41) hx hb dX9_evenOf_23 (by decide) ?_
    refine lv_icmp_ge (tgt := 84) hx hb dX9_evenOf_25 (by decide) (fun e3 => ?_) (fun e3 => ?_)
    · have hf := xif_t hf e3
      refine lv_iload hx hb dX9_evenOf_84 (lv_at hl 4 rfl) ?_
      refine lv_if_ne (tgt := 94) hx hb dX9_evenOf_86 (by decide) (fun e4 => ?_) (fun e4 => ?_)
      · have hf := xif_f hf e4
        refine lv_iload hx hb dX9_evenOf_94 (lv_at hl 4 rfl) ?_
        refine lv_iconst (v := 1) hx hb dX9_evenOf_96 (by decide) ?_
        refine lv_icmp_ne (tgt := 105) hx hb dX9_evenOf_97 (by decide) (fun e5 => ?_) (fun e5 => ?_)
        · have hf := xif_f hf e5
          refine lv_iload hx hb dX9_evenOf_105 (lv_at hl 7 rfl) ?_
          exact x_iret X hr hlk hP hS  (Option.some.inj hf) (rfl) dX9_evenOf_107
        · have hf := xif_t hf e5
          refine lv_iload hx hb dX9_evenOf_100 (lv_at hl 6 rfl) ?_
          refine lv_goto (tgt := 107) hx hb dX9_evenOf_102 (by decide) ?_
          exact x_iret X hr hlk hP hS  (Option.some.inj hf) (rfl) dX9_evenOf_107
      · have hf := xif_t hf e4
        refine lv_iload hx hb dX9_evenOf_89 (lv_at hl 5 rfl) ?_
        refine lv_goto (tgt := 107) hx hb dX9_evenOf_91 (by decide) ?_
        exact x_iret X hr hlk hP hS  (Option.some.inj hf) (rfl) dX9_evenOf_107
    · have hf := xif_f hf e3
      refine lv_iload_n hx hb dX9_evenOf_28 rfl (lv_at hl 2 rfl) ?_
      refine lv_istore (lv' := [(9, .int a2), (0, .ref (G.2.2 34)), (1, .int a1), (2, .int a2), (3, .int a3), (4, .int a4), (5, .int a5), (6, .int a6), (7, .int a7), (8, .int a8)]) hx hb dX9_evenOf_29 hl (by decide) rfl (fun ls hl => ?_)
      exact t_X9_evenOf_31 X hr hlk  ih n a1 a2 a3 a4 a5 a6 a7 a8 a2 hf H locs ls hP hS (lv_sub hl [1, 2, 3, 4, 5, 6, 7, 8, 9, 0] rfl)
def f_X9_evenOf (n : Nat) (S : xS) (a1 : Int32) (a2 : Int32) (a3 : Int32) (a4 : Int32) : Option Int32 :=
  (f_X9_builtOf n S a1).bind fun r1 => (l_X9_evenOf_21 n S n a1 a2 a3 a4 a2 (1 : Int32) (f_X9_amount (r1 - a2)) (1 : Int32))
set_option maxHeartbeats 4000000 in
set_option maxRecDepth 100000 in
theorem c_X9_evenOf (l : Launch) (G : xG) (n : Nat)  (S : xS) (a1 : Int32) (a2 : Int32) (a3 : Int32) (a4 : Int32) (r : Int32) (hf : f_X9_evenOf n S a1 a2 a3 a4 = some r) : xMi l G yX9_evenOf cX9_evenOf 11 (some .int) 2 47 [.ref (G.2.2 34), .int a1, .int a2, .int a3, .int a4] S r S := by
  refine xMi_of (own := RX9) (by decide +kernel) rfl (Nat.le_of_ble_eq_true rfl) ?_
  intro p e s m args below meth c X hr hlk H locs ls hP hS hl
  have hl : lv_has ls 11 [(0, .ref (G.2.2 34)), (1, .int a1), (2, .int a2), (3, .int a3), (4, .int a4)] := hl
  obtain ⟨hx, hb, hml, hown, hts, hE⟩ := id X
  unfold f_X9_evenOf at hf
  refine lv_iload_n hx hb dX9_evenOf_0 rfl (lv_at hl 2 rfl) ?_
  refine lv_istore (lv' := [(5, .int a2), (0, .ref (G.2.2 34)), (1, .int a1), (2, .int a2), (3, .int a3), (4, .int a4)]) hx hb dX9_evenOf_1 hl (by decide) rfl (fun ls hl => ?_)
  refine lv_iconst (v := 1) hx hb dX9_evenOf_3 (by decide) ?_
  refine lv_istore (lv' := [(6, .int (1 : Int32)), (5, .int a2), (0, .ref (G.2.2 34)), (1, .int a1), (2, .int a2), (3, .int a3), (4, .int a4)]) hx hb dX9_evenOf_4 hl (by decide) rfl (fun ls hl => ?_)
  refine lv_aload_n hx hb dX9_evenOf_6 rfl (lv_at hl 2 rfl) ?_
  refine lv_iload_n hx hb dX9_evenOf_7 rfl (lv_at hl 3 rfl) ?_
  obtain ⟨r1, h2, hf⟩ := xb_some hf
  refine x_cVi (As := [.int a1]) (rest := []) X hP hS kc_X9_100 (c_X9_builtOf l G n S a1 _ h2) ⟨Nat.le_of_ble_eq_true rfl, Nat.le_of_ble_eq_true rfl⟩ (by decide) rfl rfl rfl hl.1 rfl (Nat.le_of_ble_eq_true rfl) ⟨Nat.zero_le _, Nat.zero_le _⟩ dX9_evenOf_8 (fun H locs hP hS => ?_)
  refine lv_iload_n hx hb dX9_evenOf_11 rfl (lv_at hl 4 rfl) ?_
  refine lv_isub hx hb dX9_evenOf_12 ?_
  refine x_cSi (As := [.int (r1 - a2)]) (rest := []) X hP hS kc_X9_115 (c_X9_amount l G  S (r1 - a2) _ rfl) ⟨Nat.le_of_ble_eq_true rfl, Nat.le_of_ble_eq_true rfl⟩ rfl hl.1 rfl (Nat.le_of_ble_eq_true rfl) ⟨Nat.zero_le _, Nat.zero_le _⟩ dX9_evenOf_13 (fun H locs hP hS => ?_)
  refine lv_istore (lv' := [(7, .int (f_X9_amount (r1 - a2))), (6, .int (1 : Int32)), (5, .int a2), (0, .ref (G.2.2 34)), (1, .int a1), (2, .int a2), (3, .int a3), (4, .int a4)]) hx hb dX9_evenOf_16 hl (by decide) rfl (fun ls hl => ?_)
  refine lv_iconst (v := 1) hx hb dX9_evenOf_18 (by decide) ?_
  refine lv_istore (lv' := [(8, .int (1 : Int32)), (7, .int (f_X9_amount (r1 - a2))), (6, .int (1 : Int32)), (5, .int a2), (0, .ref (G.2.2 34)), (1, .int a1), (2, .int a2), (3, .int a3), (4, .int a4)]) hx hb dX9_evenOf_19 hl (by decide) rfl (fun ls hl => ?_)
  exact t_X9_evenOf_21 X hr hlk   n a1 a2 a3 a4 a2 (1 : Int32) (f_X9_amount (r1 - a2)) (1 : Int32) hf H locs ls hP hS (lv_sub hl [4, 5, 6, 7, 8, 3, 2, 1, 0] rfl)
