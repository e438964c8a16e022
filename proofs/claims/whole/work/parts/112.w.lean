def b_X9_write_27 (n : Nat) (k27 : xS → Int32 → Int32 → Option (Int32 × xS)) (S : xS) (a1 : Int32) (a2 : Int32) : Option (Int32 × xS) :=
  (f_X9_floorsNow n S).bind fun r4 => ((if r4.1 ≤ a2 then some (a2, r4.2) else xg (xin a1 4) ((if (r4.2.1 50 a1.toNatClampNeg) ≤ a2 then some (a2, r4.2) else (f_X9_builtOf n r4.2 a2).bind fun r9 => ((f_X9_keep n r4.2 a1 a2 r9).bind fun r11 => (k27 r11 a1 (a2 + 1)))))))
def l_X9_write_27 (n : Nat) : Nat → xS → Int32 → Int32 → Option (Int32 × xS)
  | 0, _, _, _ => none
  | j + 1, S, a1, a2 => b_X9_write_27 n (l_X9_write_27 n j) S a1 a2
set_option maxHeartbeats 4000000 in
set_option maxRecDepth 100000 in
theorem t_X9_write_27 {p : Program} {l : Launch} {e : Env} {s : State} {m : MethodId} {args : Array Value} {below : List Frame} {meth : Method} {c : Code} {G : xG} (X : xC p s m args c G RX9 cX9_write 3) (hr : meth.sig.returnType = (some .int)) (hlk : meth.locks = false) {n : Nat} {r : Int32} {S' : xS} : ∀ (j : Nat) (S : xS) (a1 : Int32) (a2 : Int32), l_X9_write_27 n j S a1 a2 = some (r, S') → xGo p l e { frames := 5, cells := 0, slots := 0, locals := 113 } s m args below meth c G 3 0 0 (MQ below (xQi G r S') args s 0 0 (xA G)) S 27 [(0, .ref (G.2.2 34)), (1, .int a1), (2, .int a2)] [] := by
  intro j
  induction j with
  | zero => intro S a1 a2 hf; exact nomatch (show (none : Option (Int32 × xS)) = _ from hf)
  | succ j ih =>
    intro S a1 a2 hf H locs ls hP hS hl
    have hf : b_X9_write_27 n (l_X9_write_27 n j) S a1 a2 = some (r, S') := hf
    unfold b_X9_write_27 at hf
    obtain ⟨hx, hb, hml, hown, hts, hE⟩ := id X
    refine lv_iload_n hx hb dX9_write_27 rfl (lv_at hl 2 rfl) ?_
    refine lv_aload_n hx hb dX9_write_28 rfl (lv_at hl 0 rfl) ?_
    obtain ⟨r4, h5, hf⟩ := xb_some hf
    refine x_cVi (As := []) (rest := [.int a2]) X hP hS kc_X9_97 (c_X9_floorsNow l G n S  r4.1 r4.2 h5) ⟨Nat.le_of_ble_eq_true rfl, Nat.le_of_ble_eq_true rfl⟩ (by decide) rfl rfl rfl hl.1 rfl (Nat.le_of_ble_eq_true rfl) ⟨Nat.zero_le _, Nat.zero_le _⟩ dX9_write_29 (fun H locs hP hS => ?_)
    refine lv_icmp_ge (tgt := 62) hx hb dX9_write_32 (by decide) (fun e6 => ?_) (fun e6 => ?_)
    · have hf := xif_t hf e6
      refine lv_iload_n hx hb dX9_write_62 rfl (lv_at hl 2 rfl) ?_
      exact x_iret X hr hlk hP hS  ((Prod.mk.inj (Option.some.inj hf)).1) ((Prod.mk.inj (Option.some.inj hf)).2) dX9_write_63
    · have hf := xif_f hf e6
      refine lv_iload_n hx hb dX9_write_35 rfl (lv_at hl 2 rfl) ?_
      refine lv_aload_n hx hb dX9_write_36 rfl (lv_at hl 0 rfl) ?_
      refine x_getR X hP fl_X9_57 (by decide) rfl rfl dX9_write_37 ?_
      refine lv_iload_n hx hb dX9_write_40 rfl (lv_at hl 1 rfl) ?_
      obtain ⟨g7, hf⟩ := xg_some hf
      refine x_iald X hP (by decide) rfl g7 dX9_write_41 ?_
      refine lv_icmp_ge (tgt := 62) hx hb dX9_write_42 (by decide) (fun e8 => ?_) (fun e8 => ?_)
      · have hf := xif_t hf e8
        refine lv_iload_n hx hb dX9_write_62 rfl (lv_at hl 2 rfl) ?_
        exact x_iret X hr hlk hP hS  ((Prod.mk.inj (Option.some.inj hf)).1) ((Prod.mk.inj (Option.some.inj hf)).2) dX9_write_63
      · have hf := xif_f hf e8
        refine lv_aload_n hx hb dX9_write_45 rfl (lv_at hl 0 rfl) ?_
        refine lv_iload_n hx hb dX9_write_46 rfl (lv_at hl 1 rfl) ?_
        refine lv_iload_n hx hb dX9_write_47 rfl (lv_at hl 2 rfl) ?_
        refine lv_aload_n hx hb dX9_write_48 rfl (lv_at hl 0 rfl) ?_
        refine lv_iload_n hx hb dX9_write_49 rfl (lv_at hl 2 rfl) ?_
        obtain ⟨r9, h10, hf⟩ := xb_some hf
        refine x_cVi (As := [.int a2]) (rest := [.int a2, .int a1, .ref (G.2.2 34)]) X hP hS kc_X9_100 (c_X9_builtOf l G n r4.2 a2 _ h10) ⟨Nat.le_of_ble_eq_true rfl, Nat.le_of_ble_eq_true rfl⟩ (by decide) rfl rfl rfl hl.1 rfl (Nat.le_of_ble_eq_true rfl) ⟨Nat.zero_le _, Nat.zero_le _⟩ dX9_write_50 (fun H locs hP hS => ?_)
        obtain ⟨r11, h12, hf⟩ := xb_some hf
        refine x_cVv (As := [.int a1, .int a2, .int r9]) (rest := []) X hP hS kc_X9_201 (c_X9_keep l G n r4.2 a1 a2 r9 _ h12) ⟨Nat.le_of_ble_eq_true rfl, Nat.le_of_ble_eq_true rfl⟩ (by decide) rfl rfl rfl hl.1 rfl (Nat.le_of_ble_eq_true rfl) ⟨Nat.zero_le _, Nat.zero_le _⟩ dX9_write_53 (fun H locs hP hS => ?_)
        refine lv_iinc (v := a2 + 1) (lv' := [(2, .int (a2 + 1)), (0, .ref (G.2.2 34)), (1, .int a1)]) hx hb dX9_write_56 hl (k := 2) rfl rfl (by decide) rfl (fun ls hl => ?_)
        refine lv_goto (tgt := 27) hx hb dX9_write_59 (by decide) ?_
        exact ih r11 a1 (a2 + 1) hf H locs ls hP hS (lv_sub hl [1, 2, 0] rfl)
def f_X9_write (n : Nat) (S : xS) (a1 : Int32) : Option (Int32 × xS) :=
  (if (f_X9_isSheet a1) = 0 then some ((-2 : Int32), S) else xg (xin a1 4) ((if (S.1 48 a1.toNatClampNeg) = 0 then some ((f_X9_meets S (1 : Int32)).1, (f_X9_meets S (1 : Int32)).2) else l_X9_write_27 n n S a1 (0 : Int32))))
set_option maxHeartbeats 4000000 in
set_option maxRecDepth 100000 in
theorem c_X9_write (l : Launch) (G : xG) (n : Nat)  (S : xS) (a1 : Int32) (r : Int32) (S' : xS) (hf : f_X9_write n S a1 = some (r, S')) : xMi l G yX9_write cX9_write 3 (some .int) 5 113 [.ref (G.2.2 34), .int a1] S r S' := by
  refine xMi_of (own := RX9) (by decide +kernel) rfl (Nat.le_of_ble_eq_true rfl) ?_
  intro p e s m args below meth c X hr hlk H locs ls hP hS hl
  have hl : lv_has ls 3 [(0, .ref (G.2.2 34)), (1, .int a1)] := hl
  obtain ⟨hx, hb, hml, hown, hts, hE⟩ := id X
  unfold f_X9_write at hf
  refine lv_iload_n hx hb dX9_write_0 rfl (lv_at hl 1 rfl) ?_
  refine x_cSi (As := [.int a1]) (rest := []) X hP hS kc_X9_143 (c_X9_isSheet l G  S a1 _ rfl) ⟨Nat.le_of_ble_eq_true rfl, Nat.le_of_ble_eq_true rfl⟩ rfl hl.1 rfl (Nat.le_of_ble_eq_true rfl) ⟨Nat.zero_le _, Nat.zero_le _⟩ dX9_write_1 (fun H locs hP hS => ?_)
  refine lv_if_ne (tgt := 10) hx hb dX9_write_4 (by decide) (fun e1 => ?_) (fun e1 => ?_)
  · have hf := xif_f hf e1
    refine lv_aload_n hx hb dX9_write_10 rfl (lv_at hl 0 rfl) ?_
    refine x_getR X hP fl_X9_50 (by decide) rfl rfl dX9_write_11 ?_
    refine lv_iload_n hx hb dX9_write_14 rfl (lv_at hl 1 rfl) ?_
    obtain ⟨g2, hf⟩ := xg_some hf
    refine x_zald X hP (by decide) rfl g2 dX9_write_15 ?_
    refine lv_if_ne (tgt := 25) hx hb dX9_write_16 (by decide) (fun e3 => ?_) (fun e3 => ?_)
    · have hf := xif_f hf e3
      refine lv_iconst (v := 0) hx hb dX9_write_25 (by decide) ?_
      refine lv_istore_n (lv' := [(2, .int (0 : Int32)), (0, .ref (G.2.2 34)), (1, .int a1)]) hx hb dX9_write_26 rfl hl (by decide) rfl (fun ls hl => ?_)
      exact t_X9_write_27 X hr hlk   n S a1 (0 : Int32) hf H locs ls hP hS (lv_sub hl [1, 2, 0] rfl)
    · have hf := xif_t hf e3
      refine lv_aload_n hx hb dX9_write_19 rfl (lv_at hl 0 rfl) ?_
      refine lv_iconst (v := 1) hx hb dX9_write_20 (by decide) ?_
      refine x_cVi (As := [.int (1 : Int32)]) (rest := []) X hP hS kc_X9_146 (c_X9_meets l G  S (1 : Int32) (f_X9_meets S (1 : Int32)).1 (f_X9_meets S (1 : Int32)).2 rfl) ⟨Nat.le_of_ble_eq_true rfl, Nat.le_of_ble_eq_true rfl⟩ (by decide) rfl rfl rfl hl.1 rfl (Nat.le_of_ble_eq_true rfl) ⟨Nat.zero_le _, Nat.zero_le _⟩ dX9_write_21 (fun H locs hP hS => ?_)
      exact x_iret X hr hlk hP hS  ((Prod.mk.inj (Option.some.inj hf)).1) ((Prod.mk.inj (Option.some.inj hf)).2) dX9_write_24
  · have hf := xif_t hf e1
    refine lv_bipush (v := (-2)) hx hb dX9_write_7 (by decide) ?_
    exact x_iret X hr hlk hP hS  ((Prod.mk.inj (Option.some.inj hf)).1) ((Prod.mk.inj (Option.some.inj hf)).2) dX9_write_9
def b_X0_howMany_4 (n : Nat) (k4 : Int32 → Int32 → Option Int32) (S : xS) (a1 : Int32) (a2 : Int32) : Option Int32 :=
  (if (10 : Int32) ≤ a2 then some a1 else xg (xin a2 10) ((if (S.1 16 a2.toNatClampNeg) = (-1 : Int32) then k4 a1 (a2 + 1) else k4 (a1 + 1) (a2 + 1))))
def l_X0_howMany_4 (n : Nat) (S : xS) : Nat → Int32 → Int32 → Option Int32
  | 0, _, _ => none
  | j + 1, a1, a2 => b_X0_howMany_4 n (l_X0_howMany_4 n S j) S a1 a2
set_option maxHeartbeats 4000000 in
set_option maxRecDepth 100000 in
theorem t_X0_howMany_4 {p : Program} {l : Launch} {e : Env} {s : State} {m : MethodId} {args : Array Value} {below : List Frame} {meth : Method} {c : Code} {G : xG} (X : xC p s m args c G RX0 cX0_howMany 3) (hr : meth.sig.returnType = (some .int)) (hlk : meth.locks = false) {n : Nat} {r : Int32} {S : xS} : ∀ (j : Nat) (a1 : Int32) (a2 : Int32), l_X0_howMany_4 n S j a1 a2 = some r → xGo p l e { frames := 0, cells := 0, slots := 0, locals := 0 } s m args below meth c G 3 0 0 (MQ below (xQi G r S) args s 0 0 (xA G)) S 4 [(0, .ref (G.2.2 15)), (1, .int a1), (2, .int a2)] [] := by
  intro j
  induction j with
  | zero => intro a1 a2 hf; exact nomatch (show (none : Option Int32) = _ from hf)
  | succ j ih =>
    intro a1 a2 hf H locs ls hP hS hl
    have hf : b_X0_howMany_4 n (l_X0_howMany_4 n S j) S a1 a2 = some r := hf
    unfold b_X0_howMany_4 at hf
    obtain ⟨hx, hb, hml, hown, hts, hE⟩ := id X
    refine lv_iload_n hx hb dX0_howMany_4 rfl (lv_at hl 2 rfl) ?_
    refine lv_bipush (v := 10) hx hb dX0_howMany_5 (by decide) ?_
    refine lv_icmp_ge (tgt := 29) hx hb dX0_howMany_7 (by decide) (fun e1 => ?_) (fun e1 => ?_)
    · have hf := xif_t hf e1
      refine lv_iload_n hx hb dX0_howMany_29 rfl (lv_at hl 1 rfl) ?_
      exact x_iret X hr hlk hP hS  (Option.some.inj hf) (rfl) dX0_howMany_30
    · have hf := xif_f hf e1
      refine lv_aload_n hx hb dX0_howMany_10 rfl (lv_at hl 0 rfl) ?_
      refine x_getR X hP fl_X0_9 (by decide) rfl rfl dX0_howMany_11 ?_
      refine lv_iload_n hx hb dX0_howMany_14 rfl (lv_at hl 2 rfl) ?_
      obtain ⟨g2, hf⟩ := xg_some hf
      refine x_iald X hP (by decide) rfl g2 dX0_howMany_15 ?_
      refine lv_iconst (v := (-1)) hx hb dX0_howMany_16 (by decide) ?_
      refine lv_icmp_eq (tgt := 23) hx hb dX0_howMany_17 (by decide) (fun e3 => ?_) (fun e3 => ?_)
      · have hf := xif_t hf e3
        refine lv_iinc (v := a2 + 1) (lv' := [(2, .int (a2 + 1)), (0, .ref (G.2.2 15)), (1, .int a1)]) hx hb dX0_howMany_23 hl (k := 2) rfl rfl (by decide) rfl (fun ls hl => ?_)
        refine lv_goto (tgt := 4) hx hb dX0_howMany_26 (by decide) ?_
        exact ih a1 (a2 + 1) hf H locs ls hP hS (lv_sub hl [1, 2, 0] rfl)
      · have hf := xif_f hf e3
        refine lv_iinc (v := a1 + 1) (lv' := [(1, .int (a1 + 1)), (0, .ref (G.2.2 15)), (2, .int a2)]) hx hb dX0_howMany_20 hl (k := 1) rfl rfl (by decide) rfl (fun ls hl => ?_)
        refine lv_iinc (v := a2 + 1) (lv' := [(2, .int (a2 + 1)), (1, .int (a1 + 1)), (0, .ref (G.2.2 15))]) hx hb dX0_howMany_23 hl (k := 2) rfl rfl (by decide) rfl (fun ls hl => ?_)
        refine lv_goto (tgt := 4) hx hb dX0_howMany_26 (by decide) ?_
        exact ih (a1 + 1) (a2 + 1) hf H locs ls hP hS (lv_sub hl [2, 1, 0] rfl)
def f_X0_howMany (n : Nat) (S : xS)  : Option Int32 :=
  l_X0_howMany_4 n S n (0 : Int32) (0 : Int32)
set_option maxHeartbeats 4000000 in
set_option maxRecDepth 100000 in
theorem c_X0_howMany (l : Launch) (G : xG) (n : Nat)  (S : xS)  (r : Int32) (hf : f_X0_howMany n S  = some r) : xMi l G yX0_howMany cX0_howMany 3 (some .int) 0 0 [.ref (G.2.2 15)] S r S := by
  refine xMi_of (own := RX0) (by decide +kernel) rfl (Nat.le_of_ble_eq_true rfl) ?_
  intro p e s m args below meth c X hr hlk H locs ls hP hS hl
  have hl : lv_has ls 3 [(0, .ref (G.2.2 15))] := hl
  obtain ⟨hx, hb, hml, hown, hts, hE⟩ := id X
  unfold f_X0_howMany at hf
  refine lv_iconst (v := 0) hx hb dX0_howMany_0 (by decide) ?_
  refine lv_istore_n (lv' := [(1, .int (0 : Int32)), (0, .ref (G.2.2 15))]) hx hb dX0_howMany_1 rfl hl (by decide) rfl (fun ls hl => ?_)
  refine lv_iconst (v := 0) hx hb dX0_howMany_2 (by decide) ?_
  refine lv_istore_n (lv' := [(2, .int (0 : Int32)), (1, .int (0 : Int32)), (0, .ref (G.2.2 15))]) hx hb dX0_howMany_3 rfl hl (by decide) rfl (fun ls hl => ?_)
  exact t_X0_howMany_4 X hr hlk   n (0 : Int32) (0 : Int32) hf H locs ls hP hS (lv_sub hl [2, 1, 0] rfl)
def f_X8_count (n : Nat) (S : xS) (a1 : Int32) : Option Int32 :=
  (if a1 = 0 then some (S.1 4 3) else (if a1 = 1 then some (S.1 4 1) else (if a1 = 2 then xg (xin (S.1 4 3) 11) (some (S.1 14 (S.1 4 3).toNatClampNeg)) else (if a1 = 3 then (f_X0_howMany n S).bind fun r2 => (some r2) else (if a1 = 4 then some (S.1 33 (0 : Int32).toNatClampNeg) else (if a1 = 5 then some (S.1 33 (1 : Int32).toNatClampNeg) else (if a1 = 6 then some (S.1 33 (2 : Int32).toNatClampNeg) else (if a1 = 7 then some (S.1 33 (3 : Int32).toNatClampNeg) else (if a1 = 8 then some (S.1 0 9) else some (-2 : Int32))))))))))
set_option maxHeartbeats 4000000 in
set_option maxRecDepth 100000 in
theorem c_X8_count (l : Launch) (G : xG) (n : Nat)  (S : xS) (a1 : Int32) (r : Int32) (hf : f_X8_count n S a1 = some r) : xMi l G yX8_count cX8_count 2 (some .int) 1 22 [.ref (G.2.2 0), .int a1] S r S := by
  refine xMi_of (own := RX8) (by decide +kernel) rfl (Nat.le_of_ble_eq_true rfl) ?_
  intro p e s m args below meth c X hr hlk H locs ls hP hS hl
  have hl : lv_has ls 2 [(0, .ref (G.2.2 0)), (1, .int a1)] := hl
  obtain ⟨hx, hb, hml, hown, hts, hE⟩ := id X
  unfold f_X8_count at hf
  refine lv_iload_n hx hb dX8_count_0 rfl (lv_at hl 1 rfl) ?_
  by_cases v0 : a1 = 0
  · have hf := xif_t hf v0
    refine lv_tableIn (tgt := 52) (off := 51) hx hb dX8_count_1 (by rw [v0]; decide) (by rw [v0]; decide) (by rw [v0]; rfl) (by decide) ?_
    refine lv_aload_n hx hb dX8_count_52 rfl (lv_at hl 0 rfl) ?_
    refine x_getR X hP fl_X8_23 (by decide) rfl rfl dX8_count_53 ?_
    refine x_getIN X hP fn_X8_152 (by decide) rfl rfl dX8_count_56 ?_
    exact x_iret X hr hlk hP hS  (Option.some.inj hf) (rfl) dX8_count_59
  · have hf := xif_f hf v0
    by_cases v1 : a1 = 1
    · have hf := xif_t hf v1
      refine lv_tableIn (tgt := 60) (off := 59) hx hb dX8_count_1 (by rw [v1]; decide) (by rw [v1]; decide) (by rw [v1]; rfl) (by decide) ?_
      refine lv_aload_n hx hb dX8_count_60 rfl (lv_at hl 0 rfl) ?_
      refine x_getR X hP fl_X8_23 (by decide) rfl rfl dX8_count_61 ?_
      refine x_getIN X hP fn_X8_90 (by decide) rfl rfl dX8_count_64 ?_
      exact x_iret X hr hlk hP hS  (Option.some.inj hf) (rfl) dX8_count_67
    · have hf := xif_f hf v1
      by_cases v2 : a1 = 2
      · have hf := xif_t hf v2
        refine lv_tableIn (tgt := 68) (off := 67) hx hb dX8_count_1 (by rw [v2]; decide) (by rw [v2]; decide) (by rw [v2]; rfl) (by decide) ?_
        refine lv_aload_n hx hb dX8_count_68 rfl (lv_at hl 0 rfl) ?_
        refine x_getR X hP fl_X8_32 (by decide) rfl rfl dX8_count_69 ?_
        refine x_getRN X hP fn_X8_146 (by decide) rfl rfl dX8_count_72 ?_
        refine lv_aload_n hx hb dX8_count_75 rfl (lv_at hl 0 rfl) ?_
        refine x_getR X hP fl_X8_23 (by decide) rfl rfl dX8_count_76 ?_
        refine x_getIN X hP fn_X8_152 (by decide) rfl rfl dX8_count_79 ?_
        obtain ⟨g1, hf⟩ := xg_some hf
        refine x_iald X hP (by decide) rfl g1 dX8_count_82 ?_
        exact x_iret X hr hlk hP hS  (Option.some.inj hf) (rfl) dX8_count_83
      · have hf := xif_f hf v2
        by_cases v3 : a1 = 3
        · have hf := xif_t hf v3
          refine lv_tableIn (tgt := 84) (off := 83) hx hb dX8_count_1 (by rw [v3]; decide) (by rw [v3]; decide) (by rw [v3]; rfl) (by decide) ?_
          refine lv_aload_n hx hb dX8_count_84 rfl (lv_at hl 0 rfl) ?_
          refine x_getR X hP fl_X8_41 (by decide) rfl rfl dX8_count_85 ?_
          obtain ⟨r2, h3, hf⟩ := xb_some hf
          refine x_cVi (As := []) (rest := []) X hP hS kc_X8_281 (c_X0_howMany l G n S  _ h3) ⟨Nat.le_of_ble_eq_true rfl, Nat.le_of_ble_eq_true rfl⟩ (by decide) rfl rfl rfl hl.1 rfl (Nat.le_of_ble_eq_true rfl) ⟨Nat.zero_le _, Nat.zero_le _⟩ dX8_count_88 (fun H locs hP hS => ?_)
          exact x_iret X hr hlk hP hS  (Option.some.inj hf) (rfl) dX8_count_91
        · have hf := xif_f hf v3
          by_cases v4 : a1 = 4
          · have hf := xif_t hf v4
            refine lv_tableIn (tgt := 92) (off := 91) hx hb dX8_count_1 (by rw [v4]; decide) (by rw [v4]; decide) (by rw [v4]; rfl) (by decide) ?_
            refine lv_aload_n hx hb dX8_count_92 rfl (lv_at hl 0 rfl) ?_
            refine x_getR X hP fl_X8_7 (by decide) rfl rfl dX8_count_93 ?_
            refine lv_iconst (v := 0) hx hb dX8_count_96 (by decide) ?_
            refine x_iald X hP (by decide) rfl (by decide) dX8_count_97 ?_
            exact x_iret X hr hlk hP hS  (Option.some.inj hf) (rfl) dX8_count_98
          · have hf := xif_f hf v4
            by_cases v5 : a1 = 5
            · have hf := xif_t hf v5
              refine lv_tableIn (tgt := 99) (off := 98) hx hb dX8_count_1 (by rw [v5]; decide) (by rw [v5]; decide) (by rw [v5]; rfl) (by decide) ?_
              refine lv_aload_n hx hb dX8_count_99 rfl (lv_at hl 0 rfl) ?_
              refine x_getR X hP fl_X8_7 (by decide) rfl rfl dX8_count_100 ?_
              refine lv_iconst (v := 1) hx hb dX8_count_103 (by decide) ?_
              refine x_iald X hP (by decide) rfl (by decide) dX8_count_104 ?_
              exact x_iret X hr hlk hP hS  (Option.some.inj hf) (rfl) dX8_count_105
            · have hf := xif_f hf v5
              by_cases v6 : a1 = 6
              · have hf := xif_t hf v6
                refine lv_tableIn (tgt := 106) (off := 105) hx hb dX8_count_1 (by rw [v6]; decide) (by rw [v6]; decide) (by rw [v6]; rfl) (by decide) ?_
                refine lv_aload_n hx hb dX8_count_106 rfl (lv_at hl 0 rfl) ?_
                refine x_getR X hP fl_X8_7 (by decide) rfl rfl dX8_count_107 ?_
                refine lv_iconst (v := 2) hx hb dX8_count_110 (by decide) ?_
                refine x_iald X hP (by decide) rfl (by decide) dX8_count_111 ?_
                exact x_iret X hr hlk hP hS  (Option.some.inj hf) (rfl) dX8_count_112
              · have hf := xif_f hf v6
                by_cases v7 : a1 = 7
                · have hf := xif_t hf v7
                  refine lv_tableIn (tgt := 113) (off := 112) hx hb dX8_count_1 (by rw [v7]; decide) (by rw [v7]; decide) (by rw [v7]; rfl) (by decide) ?_
                  refine lv_aload_n hx hb dX8_count_113 rfl (lv_at hl 0 rfl) ?_
                  refine x_getR X hP fl_X8_7 (by decide) rfl rfl dX8_count_114 ?_
                  refine lv_iconst (v := 3) hx hb dX8_count_117 (by decide) ?_
                  refine x_iald X hP (by decide) rfl (by decide) dX8_count_118 ?_
                  exact x_iret X hr hlk hP hS  (Option.some.inj hf) (rfl) dX8_count_119
                · have hf := xif_f hf v7
                  by_cases v8 : a1 = 8
                  · have hf := xif_t hf v8
                    refine lv_tableIn (tgt := 120) (off := 119) hx hb dX8_count_1 (by rw [v8]; decide) (by rw [v8]; decide) (by rw [v8]; rfl) (by decide) ?_
                    refine lv_aload_n hx hb dX8_count_120 rfl (lv_at hl 0 rfl) ?_
                    refine x_getI X hP fl_X8_284 (by decide) rfl rfl dX8_count_121 ?_
                    exact x_iret X hr hlk hP hS  (Option.some.inj hf) (rfl) dX8_count_124
                  · have hf := xif_f hf v8
                    refine lv_tableOut (tgt := 125) hx hb dX8_count_1 (by have z0 := lv_neT v0 (show (0 : Int32).toInt = 0 from by decide); have z1 := lv_neT v1 (show (1 : Int32).toInt = 1 from by decide); have z2 := lv_neT v2 (show (2 : Int32).toInt = 2 from by decide); have z3 := lv_neT v3 (show (3 : Int32).toInt = 3 from by decide); have z4 := lv_neT v4 (show (4 : Int32).toInt = 4 from by decide); have z5 := lv_neT v5 (show (5 : Int32).toInt = 5 from by decide); have z6 := lv_neT v6 (show (6 : Int32).toInt = 6 from by decide); have z7 := lv_neT v7 (show (7 : Int32).toInt = 7 from by decide); have z8 := lv_neT v8 (show (8 : Int32).toInt = 8 from by decide); omega) (by decide) ?_
                    refine lv_bipush (v := (-2)) hx hb dX8_count_125 (by decide) ?_
                    exact x_iret X hr hlk hP hS  (Option.some.inj hf) (rfl) dX8_count_127
def b_X9_sumOf_34 (n : Nat) (k34 : xS → Int32 → Int32 → Int32 → Option (Int32 × xS)) (S : xS) (a1 : Int32) (a2 : Int32) (a3 : Int32) : Option (Int32 × xS) :=
  (if (10 : Int32) ≤ a3 then some (a2, S) else (if a1 = (3 : Int32) then xg (xin a3 10) ((if (S.1 42 a3.toNatClampNeg) = (-1 : Int32) then k34 S a1 (a2 + (0 : Int32)) (a3 + 1) else k34 S a1 (a2 + (1 : Int32)) (a3 + 1))) else some (a2, S)))
def l_X9_sumOf_34 (n : Nat) : Nat → xS → Int32 → Int32 → Int32 → Option (Int32 × xS)
  | 0, _, _, _, _ => none
  | j + 1, S, a1, a2, a3 => b_X9_sumOf_34 n (l_X9_sumOf_34 n j) S a1 a2 a3
set_option maxHeartbeats 4000000 in
set_option maxRecDepth 100000 in
theorem t_X9_sumOf_34 {p : Program} {l : Launch} {e : Env} {s : State} {m : MethodId} {args : Array Value} {below : List Frame} {meth : Method} {c : Code} {G : xG} (X : xC p s m args c G RX9 cX9_sumOf 4) (hr : meth.sig.returnType = (some .int)) (hlk : meth.locks = false) {n : Nat} {r : Int32} {S' : xS} : ∀ (j : Nat) (S : xS) (a1 : Int32) (a2 : Int32) (a3 : Int32), l_X9_sumOf_34 n j S a1 a2 a3 = some (r, S') → xGo p l e { frames := 5, cells := 0, slots := 0, locals := 113 } s m args below meth c G 4 0 0 (MQ below (xQi G r S') args s 0 0 (xA G)) S 34 [(0, .ref (G.2.2 34)), (1, .int a1), (2, .int a2), (3, .int a3)] [] := by
  intro j
  induction j with
  | zero => intro S a1 a2 a3 hf; exact nomatch (show (none : Option (Int32 × xS)) = _ from hf)
  | succ j ih =>
    intro S a1 a2 a3 hf H locs ls hP hS hl
    have hf : b_X9_sumOf_34 n (l_X9_sumOf_34 n j) S a1 a2 a3 = some (r, S') := hf
    unfold b_X9_sumOf_34 at hf
    obtain ⟨hx, hb, hml, hown, hts, hE⟩ := id X
    refine lv_iload_n hx hb dX9_sumOf_34 rfl (lv_at hl 3 rfl) ?_
    refine lv_bipush (v := 10) hx hb dX9_sumOf_35 (by decide) ?_
    refine lv_icmp_ge (tgt := 69) hx hb dX9_sumOf_37 (by decide) (fun e4 => ?_) (fun e4 => ?_)
    · have hf := xif_t hf e4
      refine lv_iload_n hx hb dX9_sumOf_69 rfl (lv_at hl 2 rfl) ?_
      exact x_iret X hr hlk hP hS  ((Prod.mk.inj (Option.some.inj hf)).1) ((Prod.mk.inj (Option.some.inj hf)).2) dX9_sumOf_70
    · have hf := xif_f hf e4
      refine lv_iload_n hx hb dX9_sumOf_40 rfl (lv_at hl 1 rfl) ?_
      refine lv_iconst (v := 3) hx hb dX9_sumOf_41 (by decide) ?_
      refine lv_icmp_ne (tgt := 69) hx hb dX9_sumOf_42 (by decide) (fun e5 => ?_) (fun e5 => ?_)
      · have hf := xif_f hf e5
        refine lv_iload_n hx hb dX9_sumOf_69 rfl (lv_at hl 2 rfl) ?_
        exact x_iret X hr hlk hP hS  ((Prod.mk.inj (Option.some.inj hf)).1) ((Prod.mk.inj (Option.some.inj hf)).2) dX9_sumOf_70
      · have hf := xif_t hf e5
        refine lv_iload_n hx hb dX9_sumOf_45 rfl (lv_at hl 2 rfl) ?_
        refine lv_aload_n hx hb dX9_sumOf_46 rfl (lv_at hl 0 rfl) ?_
        refine x_getR X hP fl_X9_31 (by decide) rfl rfl dX9_sumOf_47 ?_
        refine lv_iload_n hx hb dX9_sumOf_50 rfl (lv_at hl 3 rfl) ?_
        obtain ⟨g6, hf⟩ := xg_some hf
        refine x_iald X hP (by decide) rfl g6 dX9_sumOf_51 ?_
        refine lv_iconst (v := (-1)) hx hb dX9_sumOf_52 (by decide) ?_
        refine lv_icmp_ne (tgt := 60) hx hb dX9_sumOf_53 (by decide) (fun e7 => ?_) (fun e7 => ?_)
        · have hf := xif_f hf e7
          refine lv_iconst (v := 1) hx hb dX9_sumOf_60 (by decide) ?_
          refine lv_iadd hx hb dX9_sumOf_61 ?_
          refine lv_istore_n (lv' := [(2, .int (a2 + (1 : Int32))), (0, .ref (G.2.2 34)), (1, .int a1), (3, .int a3)]) hx hb dX9_sumOf_62 rfl hl (by decide) rfl (fun ls hl => ?_)
          refine lv_iinc (v := a3 + 1) (lv' := [(3, .int (a3 + 1)), (2, .int (a2 + (1 : Int32))), (0, .ref (G.2.2 34)), (1, .int a1)]) hx hb dX9_sumOf_63 hl (k := 3) rfl rfl (by decide) rfl (fun ls hl => ?_)
          refine lv_goto (tgt := 34) hx hb dX9_sumOf_66 (by decide) ?_
          exact ih S a1 (a2 + (1 : Int32)) (a3 + 1) hf H locs ls hP hS (lv_sub hl [2, 3, 1, 0] rfl)
        · have hf := xif_t hf e7
          refine lv_iconst (v := 0) hx hb dX9_sumOf_56 (by decide) ?_
          refine lv_goto (tgt := 61) hx hb dX9_sumOf_57 (by decide) ?_
          refine lv_iadd hx hb dX9_sumOf_61 ?_
          refine lv_istore_n (lv' := [(2, .int (a2 + (0 : Int32))), (0, .ref (G.2.2 34)), (1, .int a1), (3, .int a3)]) hx hb dX9_sumOf_62 rfl hl (by decide) rfl (fun ls hl => ?_)
          refine lv_iinc (v := a3 + 1) (lv' := [(3, .int (a3 + 1)), (2, .int (a2 + (0 : Int32))), (0, .ref (G.2.2 34)), (1, .int a1)]) hx hb dX9_sumOf_63 hl (k := 3) rfl rfl (by decide) rfl (fun ls hl => ?_)
          refine lv_goto (tgt := 34) hx hb dX9_sumOf_66 (by decide) ?_
          exact ih S a1 (a2 + (0 : Int32)) (a3 + 1) hf H locs ls hP hS (lv_sub hl [2, 3, 1, 0] rfl)
def b_X9_sumOf_4 (n : Nat) (k4 : xS → Int32 → Int32 → Int32 → Option (Int32 × xS)) (S : xS) (a1 : Int32) (a2 : Int32) (a3 : Int32) : Option (Int32 × xS) :=
  (f_X9_floorsNow n S).bind fun r1 => ((if r1.1 ≤ a3 then l_X9_sumOf_34 n n r1.2 a1 a2 (0 : Int32) else (if a1 = (2 : Int32) then xg (xin a3 11) (k4 r1.2 a1 (a2 + (r1.2.1 39 a3.toNatClampNeg)) (a3 + 1)) else l_X9_sumOf_34 n n r1.2 a1 a2 (0 : Int32))))
def l_X9_sumOf_4 (n : Nat) : Nat → xS → Int32 → Int32 → Int32 → Option (Int32 × xS)
  | 0, _, _, _, _ => none
  | j + 1, S, a1, a2, a3 => b_X9_sumOf_4 n (l_X9_sumOf_4 n j) S a1 a2 a3
set_option maxHeartbeats 4000000 in
set_option maxRecDepth 100000 in
theorem t_X9_sumOf_4 {p : Program} {l : Launch} {e : Env} {s : State} {m : MethodId} {args : Array Value} {below : List Frame} {meth : Method} {c : Code} {G : xG} (X : xC p s m args c G RX9 cX9_sumOf 4) (hr : meth.sig.returnType = (some .int)) (hlk : meth.locks = false) {n : Nat} {r : Int32} {S' : xS} : ∀ (j : Nat) (S : xS) (a1 : Int32) (a2 : Int32) (a3 : Int32), l_X9_sumOf_4 n j S a1 a2 a3 = some (r, S') → xGo p l e { frames := 5, cells := 0, slots := 0, locals := 113 } s m args below meth c G 4 0 0 (MQ below (xQi G r S') args s 0 0 (xA G)) S 4 [(0, .ref (G.2.2 34)), (1, .int a1), (2, .int a2), (3, .int a3)] [] := by
  intro j
  induction j with
  | zero => intro S a1 a2 a3 hf; exact nomatch (show (none : Option (Int32 × xS)) = _ from hf)
  | succ j ih =>
    intro S a1 a2 a3 hf H locs ls hP hS hl
    have hf : b_X9_sumOf_4 n (l_X9_sumOf_4 n j) S a1 a2 a3 = some (r, S') := hf
    unfold b_X9_sumOf_4 at hf
    obtain ⟨hx, hb, hml, hown, hts, hE⟩ := id X
    refine lv_iload_n hx hb dX9_sumOf_4 rfl (lv_at hl 3 rfl) ?_
    refine lv_aload_n hx hb dX9_sumOf_5 rfl (lv_at hl 0 rfl) ?_
    obtain ⟨r1, h2, hf⟩ := xb_some hf
    refine x_cVi (As := []) (rest := [.int a3]) X hP hS kc_X9_97 (c_X9_floorsNow l G n S  r1.1 r1.2 h2) ⟨Nat.le_of_ble_eq_true rfl, Nat.le_of_ble_eq_true rfl⟩ (by decide) rfl rfl rfl hl.1 rfl (Nat.le_of_ble_eq_true rfl) ⟨Nat.zero_le _, Nat.zero_le _⟩ dX9_sumOf_6 (fun H locs hP hS => ?_)
    refine lv_icmp_ge (tgt := 32) hx hb dX9_sumOf_9 (by decide) (fun e3 => ?_) (fun e3 => ?_)
    · have hf := xif_t hf e3
      refine lv_iconst (v := 0) hx hb dX9_sumOf_32 (by decide) ?_
      refine lv_istore_n (lv' := [(3, .int (0 : Int32)), (0, .ref (G.2.2 34)), (1, .int a1), (2, .int a2)]) hx hb dX9_sumOf_33 rfl hl (by decide) rfl (fun ls hl => ?_)
      exact t_X9_sumOf_34 X hr hlk   n r1.2 a1 a2 (0 : Int32) hf H locs ls hP hS (lv_sub hl [1, 2, 3, 0] rfl)
    · have hf := xif_f hf e3
      refine lv_iload_n hx hb dX9_sumOf_12 rfl (lv_at hl 1 rfl) ?_
      refine lv_iconst (v := 2) hx hb dX9_sumOf_13 (by decide) ?_
      refine lv_icmp_ne (tgt := 32) hx hb dX9_sumOf_14 (by decide) (fun e8 => ?_) (fun e8 => ?_)
      · have hf := xif_f hf e8
        refine lv_iconst (v := 0) hx hb dX9_sumOf_32 (by decide) ?_
        refine lv_istore_n (lv' := [(3, .int (0 : Int32)), (0, .ref (G.2.2 34)), (1, .int a1), (2, .int a2)]) hx hb dX9_sumOf_33 rfl hl (by decide) rfl (fun ls hl => ?_)
        exact t_X9_sumOf_34 X hr hlk   n r1.2 a1 a2 (0 : Int32) hf H locs ls hP hS (lv_sub hl [1, 2, 3, 0] rfl)
      · have hf := xif_t hf e8
        refine lv_iload_n hx hb dX9_sumOf_17 rfl (lv_at hl 2 rfl) ?_
        refine lv_aload_n hx hb dX9_sumOf_18 rfl (lv_at hl 0 rfl) ?_
        refine x_getR X hP fl_X9_22 (by decide) rfl rfl dX9_sumOf_19 ?_
        refine lv_iload_n hx hb dX9_sumOf_22 rfl (lv_at hl 3 rfl) ?_
        obtain ⟨g9, hf⟩ := xg_some hf
        refine x_iald X hP (by decide) rfl g9 dX9_sumOf_23 ?_
        refine lv_iadd hx hb dX9_sumOf_24 ?_
        refine lv_istore_n (lv' := [(2, .int (a2 + (r1.2.1 39 a3.toNatClampNeg))), (0, .ref (G.2.2 34)), (1, .int a1), (3, .int a3)]) hx hb dX9_sumOf_25 rfl hl (by decide) rfl (fun ls hl => ?_)
        refine lv_iinc (v := a3 + 1) (lv' := [(3, .int (a3 + 1)), (2, .int (a2 + (r1.2.1 39 a3.toNatClampNeg))), (0, .ref (G.2.2 34)), (1, .int a1)]) hx hb dX9_sumOf_26 hl (k := 3) rfl rfl (by decide) rfl (fun ls hl => ?_)
        refine lv_goto (tgt := 4) hx hb dX9_sumOf_29 (by decide) ?_
        exact ih r1.2 a1 (a2 + (r1.2.1 39 a3.toNatClampNeg)) (a3 + 1) hf H locs ls hP hS (lv_sub hl [2, 3, 1, 0] rfl)
def f_X9_sumOf (n : Nat) (S : xS) (a1 : Int32) : Option (Int32 × xS) :=
  l_X9_sumOf_4 n n S a1 (0 : Int32) (0 : Int32)
set_option maxHeartbeats 4000000 in
set_option maxRecDepth 100000 in
theorem c_X9_sumOf (l : Launch) (G : xG) (n : Nat)  (S : xS) (a1 : Int32) (r : Int32) (S' : xS) (hf : f_X9_sumOf n S a1 = some (r, S')) : xMi l G yX9_sumOf cX9_sumOf 4 (some .int) 5 113 [.ref (G.2.2 34), .int a1] S r S' := by
  refine xMi_of (own := RX9) (by decide +kernel) rfl (Nat.le_of_ble_eq_true rfl) ?_
  intro p e s m args below meth c X hr hlk H locs ls hP hS hl
  have hl : lv_has ls 4 [(0, .ref (G.2.2 34)), (1, .int a1)] := hl
  obtain ⟨hx, hb, hml, hown, hts, hE⟩ := id X
  unfold f_X9_sumOf at hf
  refine lv_iconst (v := 0) hx hb dX9_sumOf_0 (by decide) ?_
  refine lv_istore_n (lv' := [(2, .int (0 : Int32)), (0, .ref (G.2.2 34)), (1, .int a1)]) hx hb dX9_sumOf_1 rfl hl (by decide) rfl (fun ls hl => ?_)
  refine lv_iconst (v := 0) hx hb dX9_sumOf_2 (by decide) ?_
  refine lv_istore_n (lv' := [(3, .int (0 : Int32)), (2, .int (0 : Int32)), (0, .ref (G.2.2 34)), (1, .int a1)]) hx hb dX9_sumOf_3 rfl hl (by decide) rfl (fun ls hl => ?_)
  exact t_X9_sumOf_4 X hr hlk   n S a1 (0 : Int32) (0 : Int32) hf H locs ls hP hS (lv_sub hl [2, 3, 1, 0] rfl)
def f_X9_count (n : Nat) (S : xS) (a1 : Int32) : Option (Int32 × xS) :=
  (if a1 = 0 then (f_X9_floorsNow n S).bind fun r1 => (some (r1.1, r1.2)) else (if a1 = 1 then some (S.1 34 3, S) else (if a1 = 2 then (f_X9_sumOf n S a1).bind fun r3 => (some (r3.1, r3.2)) else (if a1 = 3 then (f_X9_sumOf n S a1).bind fun r5 => (some (r5.1, r5.2)) else (if a1 = 4 then xg (xin (a1 - (4 : Int32)) 4) (some (S.1 37 (a1 - (4 : Int32)).toNatClampNeg, S)) else (if a1 = 5 then xg (xin (a1 - (4 : Int32)) 4) (some (S.1 37 (a1 - (4 : Int32)).toNatClampNeg, S)) else (if a1 = 6 then xg (xin (a1 - (4 : Int32)) 4) (some (S.1 37 (a1 - (4 : Int32)).toNatClampNeg, S)) else (if a1 = 7 then xg (xin (a1 - (4 : Int32)) 4) (some (S.1 37 (a1 - (4 : Int32)).toNatClampNeg, S)) else (if a1 = 8 then some (S.1 34 20, S) else some ((-2 : Int32), S))))))))))
set_option maxHeartbeats 4000000 in
set_option maxRecDepth 100000 in
theorem c_X9_count (l : Launch) (G : xG) (n : Nat)  (S : xS) (a1 : Int32) (r : Int32) (S' : xS) (hf : f_X9_count n S a1 = some (r, S')) : xMi l G yX9_count cX9_count 2 (some .int) 6 136 [.ref (G.2.2 34), .int a1] S r S' := by
  refine xMi_of (own := RX9) (by decide +kernel) rfl (Nat.le_of_ble_eq_true rfl) ?_
  intro p e s m args below meth c X hr hlk H locs ls hP hS hl
  have hl : lv_has ls 2 [(0, .ref (G.2.2 34)), (1, .int a1)] := hl
  obtain ⟨hx, hb, hml, hown, hts, hE⟩ := id X
  unfold f_X9_count at hf
  refine lv_iload_n hx hb dX9_count_0 rfl (lv_at hl 1 rfl) ?_
  by_cases v0 : a1 = 0
  · have hf := xif_t hf v0
    refine lv_tableIn (tgt := 52) (off := 51) hx hb dX9_count_1 (by rw [v0]; decide) (by rw [v0]; decide) (by rw [v0]; rfl) (by decide) ?_
    refine lv_aload_n hx hb dX9_count_52 rfl (lv_at hl 0 rfl) ?_
    obtain ⟨r1, h2, hf⟩ := xb_some hf
    refine x_cVi (As := []) (rest := []) X hP hS kc_X9_97 (c_X9_floorsNow l G n S  r1.1 r1.2 h2) ⟨Nat.le_of_ble_eq_true rfl, Nat.le_of_ble_eq_true rfl⟩ (by decide) rfl rfl rfl hl.1 rfl (Nat.le_of_ble_eq_true rfl) ⟨Nat.zero_le _, Nat.zero_le _⟩ dX9_count_53 (fun H locs hP hS => ?_)
    exact x_iret X hr hlk hP hS  ((Prod.mk.inj (Option.some.inj hf)).1) ((Prod.mk.inj (Option.some.inj hf)).2) dX9_count_56
  · have hf := xif_f hf v0
    by_cases v1 : a1 = 1
    · have hf := xif_t hf v1
      refine lv_tableIn (tgt := 57) (off := 56) hx hb dX9_count_1 (by rw [v1]; decide) (by rw [v1]; decide) (by rw [v1]; rfl) (by decide) ?_
      refine lv_aload_n hx hb dX9_count_57 rfl (lv_at hl 0 rfl) ?_
      refine x_getI X hP fl_X9_72 (by decide) rfl rfl dX9_count_58 ?_
      exact x_iret X hr hlk hP hS  ((Prod.mk.inj (Option.some.inj hf)).1) ((Prod.mk.inj (Option.some.inj hf)).2) dX9_count_61
    · have hf := xif_f hf v1
      by_cases v2 : a1 = 2
      · have hf := xif_t hf v2
        refine lv_tableIn (tgt := 62) (off := 61) hx hb dX9_count_1 (by rw [v2]; decide) (by rw [v2]; decide) (by rw [v2]; rfl) (by decide) ?_
        refine lv_aload_n hx hb dX9_count_62 rfl (lv_at hl 0 rfl) ?_
        refine lv_iload_n hx hb dX9_count_63 rfl (lv_at hl 1 rfl) ?_
        obtain ⟨r3, h4, hf⟩ := xb_some hf
        refine x_cVi (As := [.int a1]) (rest := []) X hP hS kc_X9_206 (c_X9_sumOf l G n S a1 r3.1 r3.2 h4) ⟨Nat.le_of_ble_eq_true rfl, Nat.le_of_ble_eq_true rfl⟩ (by decide) rfl rfl rfl hl.1 rfl (Nat.le_of_ble_eq_true rfl) ⟨Nat.zero_le _, Nat.zero_le _⟩ dX9_count_64 (fun H locs hP hS => ?_)
        exact x_iret X hr hlk hP hS  ((Prod.mk.inj (Option.some.inj hf)).1) ((Prod.mk.inj (Option.some.inj hf)).2) dX9_count_67
      · have hf := xif_f hf v2
        by_cases v3 : a1 = 3
        · have hf := xif_t hf v3
          refine lv_tableIn (tgt := 62) (off := 61) hx hb dX9_count_1 (by rw [v3]; decide) (by rw [v3]; decide) (by rw [v3]; rfl) (by decide) ?_
          refine lv_aload_n hx hb dX9_count_62 rfl (lv_at hl 0 rfl) ?_
          refine lv_iload_n hx hb dX9_count_63 rfl (lv_at hl 1 rfl) ?_
          obtain ⟨r5, h6, hf⟩ := xb_some hf
          refine x_cVi (As := [.int a1]) (rest := []) X hP hS kc_X9_206 (c_X9_sumOf l G n S a1 r5.1 r5.2 h6) ⟨Nat.le_of_ble_eq_true rfl, Nat.le_of_ble_eq_true rfl⟩ (by decide) rfl rfl rfl hl.1 rfl (Nat.le_of_ble_eq_true rfl) ⟨Nat.zero_le _, Nat.zero_le _⟩ dX9_count_64 (fun H locs hP hS => ?_)
          exact x_iret X hr hlk hP hS  ((Prod.mk.inj (Option.some.inj hf)).1) ((Prod.mk.inj (Option.some.inj hf)).2) dX9_count_67
        · have hf := xif_f hf v3
          by_cases v4 : a1 = 4
          · have hf := xif_t hf v4
            refine lv_tableIn (tgt := 68) (off := 67) hx hb dX9_count_1 (by rw [v4]; decide) (by rw [v4]; decide) (by rw [v4]; rfl) (by decide) ?_
            refine lv_aload_n hx hb dX9_count_68 rfl (lv_at hl 0 rfl) ?_
            refine x_getR X hP fl_X9_16 (by decide) rfl rfl dX9_count_69 ?_
            refine lv_iload_n hx hb dX9_count_72 rfl (lv_at hl 1 rfl) ?_
            refine lv_iconst (v := 4) hx hb dX9_count_73 (by decide) ?_
            refine lv_isub hx hb dX9_count_74 ?_
            obtain ⟨g7, hf⟩ := xg_some hf
            refine x_iald X hP (by decide) rfl g7 dX9_count_75 ?_
            exact x_iret X hr hlk hP hS  ((Prod.mk.inj (Option.some.inj hf)).1) ((Prod.mk.inj (Option.some.inj hf)).2) dX9_count_76
          · have hf := xif_f hf v4
            by_cases v5 : a1 = 5
            · have hf := xif_t hf v5
              refine lv_tableIn (tgt := 68) (off := 67) hx hb dX9_count_1 (by rw [v5]; decide) (by rw [v5]; decide) (by rw [v5]; rfl) (by decide) ?_
              refine lv_aload_n hx hb dX9_count_68 rfl (lv_at hl 0 rfl) ?_
              refine x_getR X hP fl_X9_16 (by decide) rfl rfl dX9_count_69 ?_
              refine lv_iload_n hx hb dX9_count_72 rfl (lv_at hl 1 rfl) ?_
              refine lv_iconst (v := 4) hx hb dX9_count_73 (by decide) ?_
              refine lv_isub hx hb dX9_count_74 ?_
              obtain ⟨g8, hf⟩ := xg_some hf
              refine x_iald X hP (by decide) rfl g8 dX9_count_75 ?_
              exact x_iret X hr hlk hP hS  ((Prod.mk.inj (Option.some.inj hf)).1) ((Prod.mk.inj (Option.some.inj hf)).2) dX9_count_76
            · have hf := xif_f hf v5
              by_cases v6 : a1 = 6
              · have hf := xif_t hf v6
                refine lv_tableIn (tgt := 68) (off := 67) hx hb dX9_count_1 (by rw [v6]; decide) (by rw [v6]; decide) (by rw [v6]; rfl) (by decide) ?_
                refine lv_aload_n hx hb dX9_count_68 rfl (lv_at hl 0 rfl) ?_
                refine x_getR X hP fl_X9_16 (by decide) rfl rfl dX9_count_69 ?_
                refine lv_iload_n hx hb dX9_count_72 rfl (lv_at hl 1 rfl) ?_
                refine lv_iconst (v := 4) hx hb dX9_count_73 (by decide) ?_
                refine lv_isub hx hb dX9_count_74 ?_
                obtain ⟨g9, hf⟩ := xg_some hf
                refine x_iald X hP (by decide) rfl g9 dX9_count_75 ?_
                exact x_iret X hr hlk hP hS  ((Prod.mk.inj (Option.some.inj hf)).1) ((Prod.mk.inj (Option.some.inj hf)).2) dX9_count_76
              · have hf := xif_f hf v6
                by_cases v7 : a1 = 7
                · have hf := xif_t hf v7
                  refine lv_tableIn (tgt := 68) (off := 67) hx hb dX9_count_1 (by rw [v7]; decide) (by rw [v7]; decide) (by rw [v7]; rfl) (by decide) ?_
                  refine lv_aload_n hx hb dX9_count_68 rfl (lv_at hl 0 rfl) ?_
                  refine x_getR X hP fl_X9_16 (by decide) rfl rfl dX9_count_69 ?_
                  refine lv_iload_n hx hb dX9_count_72 rfl (lv_at hl 1 rfl) ?_
                  refine lv_iconst (v := 4) hx hb dX9_count_73 (by decide) ?_
                  refine lv_isub hx hb dX9_count_74 ?_
                  obtain ⟨g10, hf⟩ := xg_some hf
                  refine x_iald X hP (by decide) rfl g10 dX9_count_75 ?_
                  exact x_iret X hr hlk hP hS  ((Prod.mk.inj (Option.some.inj hf)).1) ((Prod.mk.inj (Option.some.inj hf)).2) dX9_count_76
                · have hf := xif_f hf v7
                  by_cases v8 : a1 = 8
                  · have hf := xif_t hf v8
                    refine lv_tableIn (tgt := 77) (off := 76) hx hb dX9_count_1 (by rw [v8]; decide) (by rw [v8]; decide) (by rw [v8]; rfl) (by decide) ?_
                    refine lv_aload_n hx hb dX9_count_77 rfl (lv_at hl 0 rfl) ?_
                    refine x_getI X hP fl_X9_194 (by decide) rfl rfl dX9_count_78 ?_
                    exact x_iret X hr hlk hP hS  ((Prod.mk.inj (Option.some.inj hf)).1) ((Prod.mk.inj (Option.some.inj hf)).2) dX9_count_81
                  · have hf := xif_f hf v8
                    refine lv_tableOut (tgt := 82) hx hb dX9_count_1 (by have z0 := lv_neT v0 (show (0 : Int32).toInt = 0 from by decide); have z1 := lv_neT v1 (show (1 : Int32).toInt = 1 from by decide); have z2 := lv_neT v2 (show (2 : Int32).toInt = 2 from by decide); have z3 := lv_neT v3 (show (3 : Int32).toInt = 3 from by decide); have z4 := lv_neT v4 (show (4 : Int32).toInt = 4 from by decide); have z5 := lv_neT v5 (show (5 : Int32).toInt = 5 from by decide); have z6 := lv_neT v6 (show (6 : Int32).toInt = 6 from by decide); have z7 := lv_neT v7 (show (7 : Int32).toInt = 7 from by decide); have z8 := lv_neT v8 (show (8 : Int32).toInt = 8 from by decide); omega) (by decide) ?_
                    refine lv_bipush (v := (-2)) hx hb dX9_count_82 (by decide) ?_
                    exact x_iret X hr hlk hP hS  ((Prod.mk.inj (Option.some.inj hf)).1) ((Prod.mk.inj (Option.some.inj hf)).2) dX9_count_84
def f_X8_mix (a0 : Int64) (a2 : Int64) : Int64 :=
  ((31 : Int64) * a0) + a2
set_option maxHeartbeats 4000000 in
set_option maxRecDepth 100000 in
theorem c_X8_mix (l : Launch) (G : xG)  (S : xS) (a0 : Int64) (a2 : Int64) (r : Int64) (hf : f_X8_mix a0 a2 = r) : xMl l G yX8_mix cX8_mix 4 (some .long) 0 0 [.long a0, .long a2] S r S := by
  refine xMl_of (own := RX8) (by decide +kernel) rfl (Nat.le_of_ble_eq_true rfl) ?_
  intro p e s m args below meth c X hr hlk H locs ls hP hS hl
  have hl : lv_has ls 4 [(0, .long a0), (2, .long a2)] := hl
  obtain ⟨hx, hb, hml, hown, hts, hE⟩ := id X
  unfold f_X8_mix at hf
  refine lv_ldc2 hx hb hown (hts _ kw_831) dX8_mix_0 ?_
  refine lv_lload_n hx hb dX8_mix_3 rfl (lv_at hl 0 rfl) ?_
  refine lv_lmul hx hb dX8_mix_4 ?_
  refine lv_lload_n hx hb dX8_mix_5 rfl (lv_at hl 1 rfl) ?_
  refine lv_ladd hx hb dX8_mix_6 ?_
  exact x_lret X hr hlk hP hS  (hf) (rfl) dX8_mix_7
def b_X8_mixFloor_139 (n : Nat) (k139 : xS → Int32 → Int64 → Int32 → Option (Int64 × xS)) (S : xS) (a3 : Int32) (a4 : Int64) (a6 : Int32) : Option (Int64 × xS) :=
  (if (3 : Int32) ≤ a6 then some (a4, S) else (f_X8_bears n S a3 a6).bind fun r14 => (k139 S a3 (f_X8_mix a4 r14.toInt64) (a6 + 1)))
def l_X8_mixFloor_139 (n : Nat) : Nat → xS → Int32 → Int64 → Int32 → Option (Int64 × xS)
  | 0, _, _, _, _ => none
  | j + 1, S, a3, a4, a6 => b_X8_mixFloor_139 n (l_X8_mixFloor_139 n j) S a3 a4 a6
set_option maxHeartbeats 4000000 in
set_option maxRecDepth 100000 in
theorem t_X8_mixFloor_139 {p : Program} {l : Launch} {e : Env} {s : State} {m : MethodId} {args : Array Value} {below : List Frame} {meth : Method} {c : Code} {G : xG} (X : xC p s m args c G RX8 cX8_mixFloor 7) (hr : meth.sig.returnType = (some .long)) (hlk : meth.locks = false) {n : Nat} {r : Int64} {S' : xS} : ∀ (j : Nat) (S : xS) (a3 : Int32) (a4 : Int64) (a6 : Int32), l_X8_mixFloor_139 n j S a3 a4 a6 = some (r, S') → xGo p l e { frames := 5, cells := 0, slots := 0, locals := 124 } s m args below meth c G 7 0 0 (MQ below (xQl G r S') args s 0 0 (xA G)) S 139 [(0, .ref (G.2.2 0)), (3, .int a3), (4, .long a4), (6, .int a6)] [] := by
  intro j
  induction j with
  | zero => intro S a3 a4 a6 hf; exact nomatch (show (none : Option (Int64 × xS)) = _ from hf)
  | succ j ih =>
    intro S a3 a4 a6 hf H locs ls hP hS hl
    have hf : b_X8_mixFloor_139 n (l_X8_mixFloor_139 n j) S a3 a4 a6 = some (r, S') := hf
    unfold b_X8_mixFloor_139 at hf
    obtain ⟨hx, hb, hml, hown, hts, hE⟩ := id X
    refine lv_iload hx hb dX8_mixFloor_139 (lv_at hl 3 rfl) ?_
    refine lv_iconst (v := 3) hx hb dX8_mixFloor_141 (by decide) ?_
    refine lv_icmp_ge (tgt := 166) hx hb dX8_mixFloor_142 (by decide) (fun e13 => ?_) (fun e13 => ?_)
    · have hf := xif_t hf e13
      refine lv_lload hx hb dX8_mixFloor_166 (lv_at hl 2 rfl) ?_
      exact x_lret X hr hlk hP hS  ((Prod.mk.inj (Option.some.inj hf)).1) ((Prod.mk.inj (Option.some.inj hf)).2) dX8_mixFloor_168
    · have hf := xif_f hf e13
      refine lv_lload hx hb dX8_mixFloor_145 (lv_at hl 2 rfl) ?_
      refine lv_aload_n hx hb dX8_mixFloor_147 rfl (lv_at hl 0 rfl) ?_
      refine lv_iload_n hx hb dX8_mixFloor_148 rfl (lv_at hl 1 rfl) ?_
      refine lv_iload hx hb dX8_mixFloor_149 (lv_at hl 3 rfl) ?_
      obtain ⟨r14, h15, hf⟩ := xb_some hf
      refine x_cVi (As := [.int a3, .int a6]) (rest := [.long a4]) X hP hS kc_X8_341 (c_X8_bears l G n S a3 a6 _ h15) ⟨Nat.le_of_ble_eq_true rfl, Nat.le_of_ble_eq_true rfl⟩ (by decide) rfl rfl rfl hl.1 rfl (Nat.le_of_ble_eq_true rfl) ⟨Nat.zero_le _, Nat.zero_le _⟩ dX8_mixFloor_151 (fun H locs hP hS => ?_)
      refine lv_i2l hx hb dX8_mixFloor_154 rfl ?_
      refine x_cSl (As := [.long a4, .long r14.toInt64]) (rest := []) X hP hS kc_X8_292 (c_X8_mix l G  S a4 r14.toInt64 _ rfl) ⟨Nat.le_of_ble_eq_true rfl, Nat.le_of_ble_eq_true rfl⟩ rfl hl.1 rfl (Nat.le_of_ble_eq_true rfl) ⟨Nat.zero_le _, Nat.zero_le _⟩ dX8_mixFloor_155 (fun H locs hP hS => ?_)
      refine lv_lstore (lv' := [(4, .long (f_X8_mix a4 r14.toInt64)), (0, .ref (G.2.2 0)), (3, .int a3), (6, .int a6)]) hx hb dX8_mixFloor_158 hl (by decide) rfl (fun ls hl => ?_)
      refine lv_iinc (v := a6 + 1) (lv' := [(6, .int (a6 + 1)), (4, .long (f_X8_mix a4 r14.toInt64)), (0, .ref (G.2.2 0)), (3, .int a3)]) hx hb dX8_mixFloor_160 hl (k := 3) rfl rfl (by decide) rfl (fun ls hl => ?_)
      refine lv_goto (tgt := 139) hx hb dX8_mixFloor_163 (by decide) ?_
      exact ih S a3 (f_X8_mix a4 r14.toInt64) (a6 + 1) hf H locs ls hP hS (lv_sub hl [2, 3, 1, 0] rfl)
def b_X8_mixFloor_77 (n : Nat) (k77 : xS → Int32 → Int64 → Int32 → Option (Int64 × xS)) (S : xS) (a3 : Int32) (a4 : Int64) (a6 : Int32) : Option (Int64 × xS) :=
  (if (2 : Int32) < a6 then (f_X8_odds n S a3 (0 : Int32) (0 : Int32)).bind fun r9 => ((f_X8_odds n r9.2 a3 (0 : Int32) (1 : Int32)).bind fun r11 => (l_X8_mixFloor_139 n n r11.2 a3 (f_X8_mix (f_X8_mix a4 r9.1) r11.1) (0 : Int32))) else (f_X8_even n S a3 (15 : Int32) (20 : Int32) a6).bind fun r16 => (k77 S a3 (f_X8_mix a4 r16.toInt64) (a6 + 1)))
def l_X8_mixFloor_77 (n : Nat) : Nat → xS → Int32 → Int64 → Int32 → Option (Int64 × xS)
  | 0, _, _, _, _ => none
  | j + 1, S, a3, a4, a6 => b_X8_mixFloor_77 n (l_X8_mixFloor_77 n j) S a3 a4 a6
set_option maxHeartbeats 4000000 in
set_option maxRecDepth 100000 in
theorem t_X8_mixFloor_77 {p : Program} {l : Launch} {e : Env} {s : State} {m : MethodId} {args : Array Value} {below : List Frame} {meth : Method} {c : Code} {G : xG} (X : xC p s m args c G RX8 cX8_mixFloor 7) (hr : meth.sig.returnType = (some .long)) (hlk : meth.locks = false) {n : Nat} {r : Int64} {S' : xS} : ∀ (j : Nat) (S : xS) (a3 : Int32) (a4 : Int64) (a6 : Int32), l_X8_mixFloor_77 n j S a3 a4 a6 = some (r, S') → xGo p l e { frames := 5, cells := 0, slots := 0, locals := 124 } s m args below meth c G 7 0 0 (MQ below (xQl G r S') args s 0 0 (xA G)) S 77 [(0, .ref (G.2.2 0)), (3, .int a3), (4, .long a4), (6, .int a6)] [] := by
  intro j
  induction j with
  | zero => intro S a3 a4 a6 hf; exact nomatch (show (none : Option (Int64 × xS)) = _ from hf)
  | succ j ih =>
    intro S a3 a4 a6 hf H locs ls hP hS hl
    have hf : b_X8_mixFloor_77 n (l_X8_mixFloor_77 n j) S a3 a4 a6 = some (r, S') := hf
    unfold b_X8_mixFloor_77 at hf
    obtain ⟨hx, hb, hml, hown, hts, hE⟩ := id X
    refine lv_iload hx hb dX8_mixFloor_77 (lv_at hl 3 rfl) ?_
    refine lv_iconst (v := 2) hx hb dX8_mixFloor_79 (by decide) ?_
    refine lv_icmp_gt (tgt := 108) hx hb dX8_mixFloor_80 (by decide) (fun e8 => ?_) (fun e8 => ?_)
    · have hf := xif_t hf e8
      refine lv_lload hx hb dX8_mixFloor_108 (lv_at hl 2 rfl) ?_
      refine lv_aload_n hx hb dX8_mixFloor_110 rfl (lv_at hl 0 rfl) ?_
      refine lv_iload_n hx hb dX8_mixFloor_111 rfl (lv_at hl 1 rfl) ?_
      refine lv_iconst (v := 0) hx hb dX8_mixFloor_112 (by decide) ?_
      refine lv_iconst (v := 0) hx hb dX8_mixFloor_113 (by decide) ?_
      obtain ⟨r9, h10, hf⟩ := xb_some hf
      refine x_cVl (As := [.int a3, .int (0 : Int32), .int (0 : Int32)]) (rest := [.long a4]) X hP hS kc_X8_338 (c_X8_odds l G n S a3 (0 : Int32) (0 : Int32) r9.1 r9.2 h10) ⟨Nat.le_of_ble_eq_true rfl, Nat.le_of_ble_eq_true rfl⟩ (by decide) rfl rfl rfl hl.1 rfl (Nat.le_of_ble_eq_true rfl) ⟨Nat.zero_le _, Nat.zero_le _⟩ dX8_mixFloor_114 (fun H locs hP hS => ?_)
      refine x_cSl (As := [.long a4, .long r9.1]) (rest := []) X hP hS kc_X8_292 (c_X8_mix l G  r9.2 a4 r9.1 _ rfl) ⟨Nat.le_of_ble_eq_true rfl, Nat.le_of_ble_eq_true rfl⟩ rfl hl.1 rfl (Nat.le_of_ble_eq_true rfl) ⟨Nat.zero_le _, Nat.zero_le _⟩ dX8_mixFloor_117 (fun H locs hP hS => ?_)
      refine lv_lstore (lv' := [(4, .long (f_X8_mix a4 r9.1)), (0, .ref (G.2.2 0)), (3, .int a3), (6, .int a6)]) hx hb dX8_mixFloor_120 hl (by decide) rfl (fun ls hl => ?_)
      refine lv_lload hx hb dX8_mixFloor_122 (lv_at hl 0 rfl) ?_
      refine lv_aload_n hx hb dX8_mixFloor_124 rfl (lv_at hl 1 rfl) ?_
      refine lv_iload_n hx hb dX8_mixFloor_125 rfl (lv_at hl 2 rfl) ?_
      refine lv_iconst (v := 0) hx hb dX8_mixFloor_126 (by decide) ?_
      refine lv_iconst (v := 1) hx hb dX8_mixFloor_127 (by decide) ?_
      obtain ⟨r11, h12, hf⟩ := xb_some hf
      refine x_cVl (As := [.int a3, .int (0 : Int32), .int (1 : Int32)]) (rest := [.long (f_X8_mix a4 r9.1)]) X hP hS kc_X8_338 (c_X8_odds l G n r9.2 a3 (0 : Int32) (1 : Int32) r11.1 r11.2 h12) ⟨Nat.le_of_ble_eq_true rfl, Nat.le_of_ble_eq_true rfl⟩ (by decide) rfl rfl rfl hl.1 rfl (Nat.le_of_ble_eq_true rfl) ⟨Nat.zero_le _, Nat.zero_le _⟩ dX8_mixFloor_128 (fun H locs hP hS => ?_)
      refine x_cSl (As := [.long (f_X8_mix a4 r9.1), .long r11.1]) (rest := []) X hP hS kc_X8_292 (c_X8_mix l G  r11.2 (f_X8_mix a4 r9.1) r11.1 _ rfl) ⟨Nat.le_of_ble_eq_true rfl, Nat.le_of_ble_eq_true rfl⟩ rfl hl.1 rfl (Nat.le_of_ble_eq_true rfl) ⟨Nat.zero_le _, Nat.zero_le _⟩ dX8_mixFloor_131 (fun H locs hP hS => ?_)
      refine lv_lstore (lv' := [(4, .long (f_X8_mix (f_X8_mix a4 r9.1) r11.1)), (0, .ref (G.2.2 0)), (3, .int a3), (6, .int a6)]) hx hb dX8_mixFloor_134 hl (by decide) rfl (fun ls hl => ?_)
      refine lv_iconst (v := 0) hx hb dX8_mixFloor_136 (by decide) ?_
      refine lv_istore (lv' := [(6, .int (0 : Int32)), (4, .long (f_X8_mix (f_X8_mix a4 r9.1) r11.1)), (0, .ref (G.2.2 0)), (3, .int a3)]) hx hb dX8_mixFloor_137 hl (by decide) rfl (fun ls hl => ?_)
      exact t_X8_mixFloor_139 X hr hlk   n r11.2 a3 (f_X8_mix (f_X8_mix a4 r9.1) r11.1) (0 : Int32) hf H locs ls hP hS (lv_sub hl [2, 3, 1, 0] rfl)
    · have hf := xif_f hf e8
      refine lv_lload hx hb dX8_mixFloor_83 (lv_at hl 2 rfl) ?_
      refine lv_aload_n hx hb dX8_mixFloor_85 rfl (lv_at hl 0 rfl) ?_
      refine lv_iload_n hx hb dX8_mixFloor_86 rfl (lv_at hl 1 rfl) ?_
      refine lv_bipush (v := 15) hx hb dX8_mixFloor_87 (by decide) ?_
      refine lv_bipush (v := 20) hx hb dX8_mixFloor_89 (by decide) ?_
      refine lv_iload hx hb dX8_mixFloor_91 (lv_at hl 3 rfl) ?_
      obtain ⟨r16, h17, hf⟩ := xb_some hf
      refine x_cVi (As := [.int a3, .int (15 : Int32), .int (20 : Int32), .int a6]) (rest := [.long a4]) X hP hS kc_X8_335 (c_X8_even l G n S a3 (15 : Int32) (20 : Int32) a6 _ h17) ⟨Nat.le_of_ble_eq_true rfl, Nat.le_of_ble_eq_true rfl⟩ (by decide) rfl rfl rfl hl.1 rfl (Nat.le_of_ble_eq_true rfl) ⟨Nat.zero_le _, Nat.zero_le _⟩ dX8_mixFloor_93 (fun H locs hP hS => ?_)
      refine lv_i2l hx hb dX8_mixFloor_96 rfl ?_
      refine x_cSl (As := [.long a4, .long r16.toInt64]) (rest := []) X hP hS kc_X8_292 (c_X8_mix l G  S a4 r16.toInt64 _ rfl) ⟨Nat.le_of_ble_eq_true rfl, Nat.le_of_ble_eq_true rfl⟩ rfl hl.1 rfl (Nat.le_of_ble_eq_true rfl) ⟨Nat.zero_le _, Nat.zero_le _⟩ dX8_mixFloor_97 (fun H locs hP hS => ?_)
      refine lv_lstore (lv' := [(4, .long (f_X8_mix a4 r16.toInt64)), (0, .ref (G.2.2 0)), (3, .int a3), (6, .int a6)]) hx hb dX8_mixFloor_100 hl (by decide) rfl (fun ls hl => ?_)
      refine lv_iinc (v := a6 + 1) (lv' := [(6, .int (a6 + 1)), (4, .long (f_X8_mix a4 r16.toInt64)), (0, .ref (G.2.2 0)), (3, .int a3)]) hx hb dX8_mixFloor_102 hl (k := 3) rfl rfl (by decide) rfl (fun ls hl => ?_)
      refine lv_goto (tgt := 77) hx hb dX8_mixFloor_105 (by decide) ?_
      exact ih S a3 (f_X8_mix a4 r16.toInt64) (a6 + 1) hf H locs ls hP hS (lv_sub hl [2, 3, 1, 0] rfl)
def b_X8_mixFloor_6 (n : Nat) (k6 : xS → Int32 → Int64 → Int32 → Option (Int64 × xS)) (S : xS) (a3 : Int32) (a4 : Int64) (a6 : Int32) : Option (Int64 × xS) :=
  (if (5 : Int32) < a6 then (f_X8_sill n S a3 (0 : Int32)).bind fun r2 => ((f_X8_sill n S a3 (2 : Int32)).bind fun r4 => ((f_X8_fits n S a3).bind fun r6 => (l_X8_mixFloor_77 n n S a3 (f_X8_mix (f_X8_mix (f_X8_mix a4 r2.toInt64) r4.toInt64) r6.toInt64) (0 : Int32)))) else (f_X8_floor n S a3 a6).bind fun r18 => (k6 S a3 (f_X8_mix a4 r18.toInt64) (a6 + 1)))
def l_X8_mixFloor_6 (n : Nat) : Nat → xS → Int32 → Int64 → Int32 → Option (Int64 × xS)
  | 0, _, _, _, _ => none
  | j + 1, S, a3, a4, a6 => b_X8_mixFloor_6 n (l_X8_mixFloor_6 n j) S a3 a4 a6
set_option maxHeartbeats 4000000 in
set_option maxRecDepth 100000 in
theorem t_X8_mixFloor_6 {p : Program} {l : Launch} {e : Env} {s : State} {m : MethodId} {args : Array Value} {below : List Frame} {meth : Method} {c : Code} {G : xG} (X : xC p s m args c G RX8 cX8_mixFloor 7) (hr : meth.sig.returnType = (some .long)) (hlk : meth.locks = false) {n : Nat} {r : Int64} {S' : xS} : ∀ (j : Nat) (S : xS) (a3 : Int32) (a4 : Int64) (a6 : Int32), l_X8_mixFloor_6 n j S a3 a4 a6 = some (r, S') → xGo p l e { frames := 5, cells := 0, slots := 0, locals := 124 } s m args below meth c G 7 0 0 (MQ below (xQl G r S') args s 0 0 (xA G)) S 6 [(0, .ref (G.2.2 0)), (3, .int a3), (4, .long a4), (6, .int a6)] [] := by
  intro j
  induction j with
  | zero => intro S a3 a4 a6 hf; exact nomatch (show (none : Option (Int64 × xS)) = _ from hf)
  | succ j ih =>
    intro S a3 a4 a6 hf H locs ls hP hS hl
    have hf : b_X8_mixFloor_6 n (l_X8_mixFloor_6 n j) S a3 a4 a6 = some (r, S') := hf
    unfold b_X8_mixFloor_6 at hf
    obtain ⟨hx, hb, hml, hown, hts, hE⟩ := id X
    refine lv_iload hx hb dX8_mixFloor_6 (lv_at hl 3 rfl) ?_
    refine lv_iconst (v := 5) hx hb dX8_mixFloor_8 (by decide) ?_
    refine lv_icmp_gt (tgt := 33) hx hb dX8_mixFloor_9 (by decide) (fun e1 => ?_) (fun e1 => ?_)
    · have hf := xif_t hf e1
      refine lv_lload hx hb dX8_mixFloor_33 (lv_at hl 2 rfl) ?_
      refine lv_aload_n hx hb dX8_mixFloor_35 rfl (lv_at hl 0 rfl) ?_
      refine lv_iload_n hx hb dX8_mixFloor_36 rfl (lv_at hl 1 rfl) ?_
      refine lv_iconst (v := 0) hx hb dX8_mixFloor_37 (by decide) ?_
      obtain ⟨r2, h3, hf⟩ := xb_some hf
      refine x_cVi (As := [.int a3, .int (0 : Int32)]) (rest := [.long a4]) X hP hS kc_X8_302 (c_X8_sill l G n S a3 (0 : Int32) _ h3) ⟨Nat.le_of_ble_eq_true rfl, Nat.le_of_ble_eq_true rfl⟩ (by decide) rfl rfl rfl hl.1 rfl (Nat.le_of_ble_eq_true rfl) ⟨Nat.zero_le _, Nat.zero_le _⟩ dX8_mixFloor_38 (fun H locs hP hS => ?_)
      refine lv_i2l hx hb dX8_mixFloor_41 rfl ?_
      refine x_cSl (As := [.long a4, .long r2.toInt64]) (rest := []) X hP hS kc_X8_292 (c_X8_mix l G  S a4 r2.toInt64 _ rfl) ⟨Nat.le_of_ble_eq_true rfl, Nat.le_of_ble_eq_true rfl⟩ rfl hl.1 rfl (Nat.le_of_ble_eq_true rfl) ⟨Nat.zero_le _, Nat.zero_le _⟩ dX8_mixFloor_42 (fun H locs hP hS => ?_)
      refine lv_lstore (lv' := [(4, .long (f_X8_mix a4 r2.toInt64)), (0, .ref (G.2.2 0)), (3, .int a3), (6, .int a6)]) hx hb dX8_mixFloor_45 hl (by decide) rfl (fun ls hl => ?_)
      refine lv_lload hx hb dX8_mixFloor_47 (lv_at hl 0 rfl) ?_
      refine lv_aload_n hx hb dX8_mixFloor_49 rfl (lv_at hl 1 rfl) ?_
      refine lv_iload_n hx hb dX8_mixFloor_50 rfl (lv_at hl 2 rfl) ?_
      refine lv_iconst (v := 2) hx hb dX8_mixFloor_51 (by decide) ?_
      obtain ⟨r4, h5, hf⟩ := xb_some hf
      refine x_cVi (As := [.int a3, .int (2 : Int32)]) (rest := [.long (f_X8_mix a4 r2.toInt64)]) X hP hS kc_X8_302 (c_X8_sill l G n S a3 (2 : Int32) _ h5) ⟨Nat.le_of_ble_eq_true rfl, Nat.le_of_ble_eq_true rfl⟩ (by decide) rfl rfl rfl hl.1 rfl (Nat.le_of_ble_eq_true rfl) ⟨Nat.zero_le _, Nat.zero_le _⟩ dX8_mixFloor_52 (fun H locs hP hS => ?_)
      refine lv_i2l hx hb dX8_mixFloor_55 rfl ?_
      refine x_cSl (As := [.long (f_X8_mix a4 r2.toInt64), .long r4.toInt64]) (rest := []) X hP hS kc_X8_292 (c_X8_mix l G  S (f_X8_mix a4 r2.toInt64) r4.toInt64 _ rfl) ⟨Nat.le_of_ble_eq_true rfl, Nat.le_of_ble_eq_true rfl⟩ rfl hl.1 rfl (Nat.le_of_ble_eq_true rfl) ⟨Nat.zero_le _, Nat.zero_le _⟩ dX8_mixFloor_56 (fun H locs hP hS => ?_)
      refine lv_lstore (lv' := [(4, .long (f_X8_mix (f_X8_mix a4 r2.toInt64) r4.toInt64)), (0, .ref (G.2.2 0)), (3, .int a3), (6, .int a6)]) hx hb dX8_mixFloor_59 hl (by decide) rfl (fun ls hl => ?_)
      refine lv_lload hx hb dX8_mixFloor_61 (lv_at hl 0 rfl) ?_
      refine lv_aload_n hx hb dX8_mixFloor_63 rfl (lv_at hl 1 rfl) ?_
      refine lv_iload_n hx hb dX8_mixFloor_64 rfl (lv_at hl 2 rfl) ?_
      obtain ⟨r6, h7, hf⟩ := xb_some hf
      refine x_cVi (As := [.int a3]) (rest := [.long (f_X8_mix (f_X8_mix a4 r2.toInt64) r4.toInt64)]) X hP hS kc_X8_332 (c_X8_fits l G n S a3 _ h7) ⟨Nat.le_of_ble_eq_true rfl, Nat.le_of_ble_eq_true rfl⟩ (by decide) rfl rfl rfl hl.1 rfl (Nat.le_of_ble_eq_true rfl) ⟨Nat.zero_le _, Nat.zero_le _⟩ dX8_mixFloor_65 (fun H locs hP hS => ?_)
      refine lv_i2l hx hb dX8_mixFloor_68 rfl ?_
      refine x_cSl (As := [.long (f_X8_mix (f_X8_mix a4 r2.toInt64) r4.toInt64), .long r6.toInt64]) (rest := []) X hP hS kc_X8_292 (c_X8_mix l G  S (f_X8_mix (f_X8_mix a4 r2.toInt64) r4.toInt64) r6.toInt64 _ rfl) ⟨Nat.le_of_ble_eq_true rfl, Nat.le_of_ble_eq_true rfl⟩ rfl hl.1 rfl (Nat.le_of_ble_eq_true rfl) ⟨Nat.zero_le _, Nat.zero_le _⟩ dX8_mixFloor_69 (fun H locs hP hS => ?_)
      refine lv_lstore (lv' := [(4, .long (f_X8_mix (f_X8_mix (f_X8_mix a4 r2.toInt64) r4.toInt64) r6.toInt64)), (0, .ref (G.2.2 0)), (3, .int a3), (6, .int a6)]) hx hb dX8_mixFloor_72 hl (by decide) rfl (fun ls hl => ?_)
      refine lv_iconst (v := 0) hx hb dX8_mixFloor_74 (by decide) ?_
      refine lv_istore (lv' := [(6, .int (0 : Int32)), (4, .long (f_X8_mix (f_X8_mix (f_X8_mix a4 r2.toInt64) r4.toInt64) r6.toInt64)), (0, .ref (G.2.2 0)), (3, .int a3)]) hx hb dX8_mixFloor_75 hl (by decide) rfl (fun ls hl => ?_)
      exact t_X8_mixFloor_77 X hr hlk   n S a3 (f_X8_mix (f_X8_mix (f_X8_mix a4 r2.toInt64) r4.toInt64) r6.toInt64) (0 : Int32) hf H locs ls hP hS (lv_sub hl [2, 3, 1, 0] rfl)
    · have hf := xif_f hf e1
      refine lv_lload hx hb dX8_mixFloor_12 (lv_at hl 2 rfl) ?_
      refine lv_aload_n hx hb dX8_mixFloor_14 rfl (lv_at hl 0 rfl) ?_
      refine lv_iload_n hx hb dX8_mixFloor_15 rfl (lv_at hl 1 rfl) ?_
      refine lv_iload hx hb dX8_mixFloor_16 (lv_at hl 3 rfl) ?_
      obtain ⟨r18, h19, hf⟩ := xb_some hf
      refine x_cVi (As := [.int a3, .int a6]) (rest := [.long a4]) X hP hS kc_X8_329 (c_X8_floor l G n S a3 a6 _ h19) ⟨Nat.le_of_ble_eq_true rfl, Nat.le_of_ble_eq_true rfl⟩ (by decide) rfl rfl rfl hl.1 rfl (Nat.le_of_ble_eq_true rfl) ⟨Nat.zero_le _, Nat.zero_le _⟩ dX8_mixFloor_18 (fun H locs hP hS => ?_)
      refine lv_i2l hx hb dX8_mixFloor_21 rfl ?_
      refine x_cSl (As := [.long a4, .long r18.toInt64]) (rest := []) X hP hS kc_X8_292 (c_X8_mix l G  S a4 r18.toInt64 _ rfl) ⟨Nat.le_of_ble_eq_true rfl, Nat.le_of_ble_eq_true rfl⟩ rfl hl.1 rfl (Nat.le_of_ble_eq_true rfl) ⟨Nat.zero_le _, Nat.zero_le _⟩ dX8_mixFloor_22 (fun H locs hP hS => ?_)
      refine lv_lstore (lv' := [(4, .long (f_X8_mix a4 r18.toInt64)), (0, .ref (G.2.2 0)), (3, .int a3), (6, .int a6)]) hx hb dX8_mixFloor_25 hl (by decide) rfl (fun ls hl => ?_)
      refine lv_iinc (v := a6 + 1) (lv' := [(6, .int (a6 + 1)), (4, .long (f_X8_mix a4 r18.toInt64)), (0, .ref (G.2.2 0)), (3, .int a3)]) hx hb dX8_mixFloor_27 hl (k := 3) rfl rfl (by decide) rfl (fun ls hl => ?_)
      refine lv_goto (tgt := 6) hx hb dX8_mixFloor_30 (by decide) ?_
      exact ih S a3 (f_X8_mix a4 r18.toInt64) (a6 + 1) hf H locs ls hP hS (lv_sub hl [2, 3, 1, 0] rfl)
def f_X8_mixFloor (n : Nat) (S : xS) (a1 : Int64) (a3 : Int32) : Option (Int64 × xS) :=
  l_X8_mixFloor_6 n n S a3 a1 (0 : Int32)
set_option maxHeartbeats 4000000 in
set_option maxRecDepth 100000 in
theorem c_X8_mixFloor (l : Launch) (G : xG) (n : Nat)  (S : xS) (a1 : Int64) (a3 : Int32) (r : Int64) (S' : xS) (hf : f_X8_mixFloor n S a1 a3 = some (r, S')) : xMl l G yX8_mixFloor cX8_mixFloor 7 (some .long) 5 124 [.ref (G.2.2 0), .long a1, .int a3] S r S' := by
  refine xMl_of (own := RX8) (by decide +kernel) rfl (Nat.le_of_ble_eq_true rfl) ?_
  intro p e s m args below meth c X hr hlk H locs ls hP hS hl
  have hl : lv_has ls 7 [(0, .ref (G.2.2 0)), (1, .long a1), (3, .int a3)] := hl
  obtain ⟨hx, hb, hml, hown, hts, hE⟩ := id X
  unfold f_X8_mixFloor at hf
  refine lv_lload_n hx hb dX8_mixFloor_0 rfl (lv_at hl 1 rfl) ?_
  refine lv_lstore (lv' := [(4, .long a1), (0, .ref (G.2.2 0)), (1, .long a1), (3, .int a3)]) hx hb dX8_mixFloor_1 hl (by decide) rfl (fun ls hl => ?_)
  refine lv_iconst (v := 0) hx hb dX8_mixFloor_3 (by decide) ?_
  refine lv_istore (lv' := [(6, .int (0 : Int32)), (4, .long a1), (0, .ref (G.2.2 0)), (1, .long a1), (3, .int a3)]) hx hb dX8_mixFloor_4 hl (by decide) rfl (fun ls hl => ?_)
  exact t_X8_mixFloor_6 X hr hlk   n S a3 a1 (0 : Int32) hf H locs ls hP hS (lv_sub hl [2, 4, 1, 0] rfl)
def f_X8_mixMaster (n : Nat) (S : xS) (a1 : Int64) (a3 : Int32) : Option Int64 :=
  (f_X8_blame n S a3 (0 : Int32) (0 : Int32)).bind fun r1 => ((f_X8_blame n S a3 (0 : Int32) (1 : Int32)).bind fun r3 => ((f_X8_blame n S a3 (1 : Int32) (0 : Int32)).bind fun r5 => ((f_X8_blame n S a3 (1 : Int32) (1 : Int32)).bind fun r7 => ((f_X8_safe n S a3).bind fun r9 => (some (f_X8_mix (f_X8_mix (f_X8_mix (f_X8_mix (f_X8_mix a1 r1) r3) r5) r7) r9.toInt64))))))
set_option maxHeartbeats 4000000 in
set_option maxRecDepth 100000 in
theorem c_X8_mixMaster (l : Launch) (G : xG) (n : Nat)  (S : xS) (a1 : Int64) (a3 : Int32) (r : Int64) (hf : f_X8_mixMaster n S a1 a3 = some r) : xMl l G yX8_mixMaster cX8_mixMaster 6 (some .long) 5 110 [.ref (G.2.2 0), .long a1, .int a3] S r S := by
  refine xMl_of (own := RX8) (by decide +kernel) rfl (Nat.le_of_ble_eq_true rfl) ?_
  intro p e s m args below meth c X hr hlk H locs ls hP hS hl
  have hl : lv_has ls 6 [(0, .ref (G.2.2 0)), (1, .long a1), (3, .int a3)] := hl
  obtain ⟨hx, hb, hml, hown, hts, hE⟩ := id X
  unfold f_X8_mixMaster at hf
  refine lv_lload_n hx hb dX8_mixMaster_0 rfl (lv_at hl 1 rfl) ?_
  refine lv_aload_n hx hb dX8_mixMaster_1 rfl (lv_at hl 0 rfl) ?_
  refine lv_iload_n hx hb dX8_mixMaster_2 rfl (lv_at hl 2 rfl) ?_
  refine lv_iconst (v := 0) hx hb dX8_mixMaster_3 (by decide) ?_
  refine lv_iconst (v := 0) hx hb dX8_mixMaster_4 (by decide) ?_
  obtain ⟨r1, h2, hf⟩ := xb_some hf
  refine x_cVl (As := [.int a3, .int (0 : Int32), .int (0 : Int32)]) (rest := [.long a1]) X hP hS kc_X8_344 (c_X8_blame l G n S a3 (0 : Int32) (0 : Int32) _ h2) ⟨Nat.le_of_ble_eq_true rfl, Nat.le_of_ble_eq_true rfl⟩ (by decide) rfl rfl rfl hl.1 rfl (Nat.le_of_ble_eq_true rfl) ⟨Nat.zero_le _, Nat.zero_le _⟩ dX8_mixMaster_5 (fun H locs hP hS => ?_)
  refine x_cSl (As := [.long a1, .long r1]) (rest := []) X hP hS kc_X8_292 (c_X8_mix l G  S a1 r1 _ rfl) ⟨Nat.le_of_ble_eq_true rfl, Nat.le_of_ble_eq_true rfl⟩ rfl hl.1 rfl (Nat.le_of_ble_eq_true rfl) ⟨Nat.zero_le _, Nat.zero_le _⟩ dX8_mixMaster_8 (fun H locs hP hS => ?_)
  refine lv_lstore (lv' := [(4, .long (f_X8_mix a1 r1)), (0, .ref (G.2.2 0)), (1, .long a1), (3, .int a3)]) hx hb dX8_mixMaster_11 hl (by decide) rfl (fun ls hl => ?_)
  refine lv_lload hx hb dX8_mixMaster_13 (lv_at hl 0 rfl) ?_
  refine lv_aload_n hx hb dX8_mixMaster_15 rfl (lv_at hl 1 rfl) ?_
  refine lv_iload_n hx hb dX8_mixMaster_16 rfl (lv_at hl 3 rfl) ?_
  refine lv_iconst (v := 0) hx hb dX8_mixMaster_17 (by decide) ?_
  refine lv_iconst (v := 1) hx hb dX8_mixMaster_18 (by decide) ?_
  obtain ⟨r3, h4, hf⟩ := xb_some hf
  refine x_cVl (As := [.int a3, .int (0 : Int32), .int (1 : Int32)]) (rest := [.long (f_X8_mix a1 r1)]) X hP hS kc_X8_344 (c_X8_blame l G n S a3 (0 : Int32) (1 : Int32) _ h4) ⟨Nat.le_of_ble_eq_true rfl, Nat.le_of_ble_eq_true rfl⟩ (by decide) rfl rfl rfl hl.1 rfl (Nat.le_of_ble_eq_true rfl) ⟨Nat.zero_le _, Nat.zero_le _⟩ dX8_mixMaster_19 (fun H locs hP hS => ?_)
  refine x_cSl (As := [.long (f_X8_mix a1 r1), .long r3]) (rest := []) X hP hS kc_X8_292 (c_X8_mix l G  S (f_X8_mix a1 r1) r3 _ rfl) ⟨Nat.le_of_ble_eq_true rfl, Nat.le_of_ble_eq_true rfl⟩ rfl hl.1 rfl (Nat.le_of_ble_eq_true rfl) ⟨Nat.zero_le _, Nat.zero_le _⟩ dX8_mixMaster_22 (fun H locs hP hS => ?_)
  refine lv_lstore (lv' := [(4, .long (f_X8_mix (f_X8_mix a1 r1) r3)), (0, .ref (G.2.2 0)), (1, .long a1), (3, .int a3)]) hx hb dX8_mixMaster_25 hl (by decide) rfl (fun ls hl => ?_)
  refine lv_lload hx hb dX8_mixMaster_27 (lv_at hl 0 rfl) ?_
  refine lv_aload_n hx hb dX8_mixMaster_29 rfl (lv_at hl 1 rfl) ?_
  refine lv_iload_n hx hb dX8_mixMaster_30 rfl (lv_at hl 3 rfl) ?_
  refine lv_iconst (v := 1) hx hb dX8_mixMaster_31 (by decide) ?_
  refine lv_iconst (v := 0) hx hb dX8_mixMaster_32 (by decide) ?_
  obtain ⟨r5, h6, hf⟩ := xb_some hf
  refine x_cVl (As := [.int a3, .int (1 : Int32), .int (0 : Int32)]) (rest := [.long (f_X8_mix (f_X8_mix a1 r1) r3)]) X hP hS kc_X8_344 (c_X8_blame l G n S a3 (1 : Int32) (0 : Int32) _ h6) ⟨Nat.le_of_ble_eq_true rfl, Nat.le_of_ble_eq_true rfl⟩ (by decide) rfl rfl rfl hl.1 rfl (Nat.le_of_ble_eq_true rfl) ⟨Nat.zero_le _, Nat.zero_le _⟩ dX8_mixMaster_33 (fun H locs hP hS => ?_)
  refine x_cSl (As := [.long (f_X8_mix (f_X8_mix a1 r1) r3), .long r5]) (rest := []) X hP hS kc_X8_292 (c_X8_mix l G  S (f_X8_mix (f_X8_mix a1 r1) r3) r5 _ rfl) ⟨Nat.le_of_ble_eq_true rfl, Nat.le_of_ble_eq_true rfl⟩ rfl hl.1 rfl (Nat.le_of_ble_eq_true rfl) ⟨Nat.zero_le _, Nat.zero_le _⟩ dX8_mixMaster_36 (fun H locs hP hS => ?_)
  refine lv_lstore (lv' := [(4, .long (f_X8_mix (f_X8_mix (f_X8_mix a1 r1) r3) r5)), (0, .ref (G.2.2 0)), (1, .long a1), (3, .int a3)]) hx hb dX8_mixMaster_39 hl (by decide) rfl (fun ls hl => ?_)
  refine lv_lload hx hb dX8_mixMaster_41 (lv_at hl 0 rfl) ?_
  refine lv_aload_n hx hb dX8_mixMaster_43 rfl (lv_at hl 1 rfl) ?_
  refine lv_iload_n hx hb dX8_mixMaster_44 rfl (lv_at hl 3 rfl) ?_
  refine lv_iconst (v := 1) hx hb dX8_mixMaster_45 (by decide) ?_
  refine lv_iconst (v := 1) hx hb dX8_mixMaster_46 (by decide) ?_
  obtain ⟨r7, h8, hf⟩ := xb_some hf
  refine x_cVl (As := [.int a3, .int (1 : Int32), .int (1 : Int32)]) (rest := [.long (f_X8_mix (f_X8_mix (f_X8_mix a1 r1) r3) r5)]) X hP hS kc_X8_344 (c_X8_blame l G n S a3 (1 : Int32) (1 : Int32) _ h8) ⟨Nat.le_of_ble_eq_true rfl, Nat.le_of_ble_eq_true rfl⟩ (by decide) rfl rfl rfl hl.1 rfl (Nat.le_of_ble_eq_true rfl) ⟨Nat.zero_le _, Nat.zero_le _⟩ dX8_mixMaster_47 (fun H locs hP hS => ?_)
  refine x_cSl (As := [.long (f_X8_mix (f_X8_mix (f_X8_mix a1 r1) r3) r5), .long r7]) (rest := []) X hP hS kc_X8_292 (c_X8_mix l G  S (f_X8_mix (f_X8_mix (f_X8_mix a1 r1) r3) r5) r7 _ rfl) ⟨Nat.le_of_ble_eq_true rfl, Nat.le_of_ble_eq_true rfl⟩ rfl hl.1 rfl (Nat.le_of_ble_eq_true rfl) ⟨Nat.zero_le _, Nat.zero_le _⟩ dX8_mixMaster_50 (fun H locs hP hS => ?_)
  refine lv_lstore (lv' := [(4, .long (f_X8_mix (f_X8_mix (f_X8_mix (f_X8_mix a1 r1) r3) r5) r7)), (0, .ref (G.2.2 0)), (1, .long a1), (3, .int a3)]) hx hb dX8_mixMaster_53 hl (by decide) rfl (fun ls hl => ?_)
  refine lv_lload hx hb dX8_mixMaster_55 (lv_at hl 0 rfl) ?_
  refine lv_aload_n hx hb dX8_mixMaster_57 rfl (lv_at hl 1 rfl) ?_
  refine lv_iload_n hx hb dX8_mixMaster_58 rfl (lv_at hl 3 rfl) ?_
  obtain ⟨r9, h10, hf⟩ := xb_some hf
  refine x_cVi (As := [.int a3]) (rest := [.long (f_X8_mix (f_X8_mix (f_X8_mix (f_X8_mix a1 r1) r3) r5) r7)]) X hP hS kc_X8_347 (c_X8_safe l G n S a3 _ h10) ⟨Nat.le_of_ble_eq_true rfl, Nat.le_of_ble_eq_true rfl⟩ (by decide) rfl rfl rfl hl.1 rfl (Nat.le_of_ble_eq_true rfl) ⟨Nat.zero_le _, Nat.zero_le _⟩ dX8_mixMaster_59 (fun H locs hP hS => ?_)
  refine lv_i2l hx hb dX8_mixMaster_62 rfl ?_
  refine x_cSl (As := [.long (f_X8_mix (f_X8_mix (f_X8_mix (f_X8_mix a1 r1) r3) r5) r7), .long r9.toInt64]) (rest := []) X hP hS kc_X8_292 (c_X8_mix l G  S (f_X8_mix (f_X8_mix (f_X8_mix (f_X8_mix a1 r1) r3) r5) r7) r9.toInt64 _ rfl) ⟨Nat.le_of_ble_eq_true rfl, Nat.le_of_ble_eq_true rfl⟩ rfl hl.1 rfl (Nat.le_of_ble_eq_true rfl) ⟨Nat.zero_le _, Nat.zero_le _⟩ dX8_mixMaster_63 (fun H locs hP hS => ?_)
  exact x_lret X hr hlk hP hS  (Option.some.inj hf) (rfl) dX8_mixMaster_66
def b_X8_digest_113 (n : Nat) (k113 : xS → Int64 → Int32 → Option (Int64 × xS)) (S : xS) (a1 : Int64) (a3 : Int32) : Option (Int64 × xS) :=
  (if (3 : Int32) ≤ a3 then (f_X8_worlds n S).bind fun r10 => ((f_X8_lifts n r10.2).bind fun r12 => ((f_X8_longest n r10.2 (150 : Int32) (0 : Int32)).bind fun r14 => ((f_X8_longest n r10.2 (150 : Int32) (1 : Int32)).bind fun r16 => ((f_X8_mended n r10.2 (1023 : Int32) (-1 : Int32)).bind fun r18 => ((f_X8_next n r18.2 (100 : Int32) (0 : Int32)).bind fun r20 => ((f_X8_next n r18.2 (100 : Int32) (1 : Int32)).bind fun r22 => ((f_X8_more n r18.2).bind fun r24 => ((f_X8_stones n r18.2 (0 : Int32)).bind fun r26 => ((f_X8_stones n r18.2 (1 : Int32)).bind fun r28 => (some (f_X8_mix (f_X8_mix (f_X8_mix (f_X8_mix (f_X8_mix (f_X8_mix (f_X8_mix (f_X8_mix (f_X8_mix (f_X8_mix a1 r10.1) r12.toInt64) r14.toInt64) r16.toInt64) r18.1.toInt64) r20.toInt64) r22.toInt64) r24.toInt64) r26.toInt64) r28.toInt64, r18.2))))))))))) else (f_X8_mixMaster n S a1 a3).bind fun r30 => (k113 S r30 (a3 + 1)))
def l_X8_digest_113 (n : Nat) : Nat → xS → Int64 → Int32 → Option (Int64 × xS)
  | 0, _, _, _ => none
  | j + 1, S, a1, a3 => b_X8_digest_113 n (l_X8_digest_113 n j) S a1 a3
set_option maxHeartbeats 4000000 in
set_option maxRecDepth 100000 in
theorem t_X8_digest_113 {p : Program} {l : Launch} {e : Env} {s : State} {m : MethodId} {args : Array Value} {below : List Frame} {meth : Method} {c : Code} {G : xG} (X : xC p s m args c G RX8 cX8_digest 4) (hr : meth.sig.returnType = (some .long)) (hlk : meth.locks = false) {n : Nat} {r : Int64} {S' : xS} : ∀ (j : Nat) (S : xS) (a1 : Int64) (a3 : Int32), l_X8_digest_113 n j S a1 a3 = some (r, S') → xGo p l e { frames := 6, cells := 0, slots := 0, locals := 150 } s m args below meth c G 4 0 0 (MQ below (xQl G r S') args s 0 0 (xA G)) S 113 [(0, .ref (G.2.2 0)), (1, .long a1), (3, .int a3)] [] := by
  intro j
  induction j with
  | zero => intro S a1 a3 hf; exact nomatch (show (none : Option (Int64 × xS)) = _ from hf)
  | succ j ih =>
    intro S a1 a3 hf H locs ls hP hS hl
    have hf : b_X8_digest_113 n (l_X8_digest_113 n j) S a1 a3 = some (r, S') := hf
    unfold b_X8_digest_113 at hf
    obtain ⟨hx, hb, hml, hown, hts, hE⟩ := id X
    refine lv_iload_n hx hb dX8_digest_113 rfl (lv_at hl 2 rfl) ?_
    refine lv_iconst (v := 3) hx hb dX8_digest_114 (by decide) ?_
    refine lv_icmp_ge (tgt := 131) hx hb dX8_digest_115 (by decide) (fun e9 => ?_) (fun e9 => ?_)
    · have hf := xif_t hf e9
      refine lv_lload_n hx hb dX8_digest_131 rfl (lv_at hl 1 rfl) ?_
      refine lv_aload_n hx hb dX8_digest_132 rfl (lv_at hl 0 rfl) ?_
      obtain ⟨r10, h11, hf⟩ := xb_some hf
      refine x_cVl (As := []) (rest := [.long a1]) X hP hS kc_X8_201 (c_X8_worlds l G n S  r10.1 r10.2 h11) ⟨Nat.le_of_ble_eq_true rfl, Nat.le_of_ble_eq_true rfl⟩ (by decide) rfl rfl rfl hl.1 rfl (Nat.le_of_ble_eq_true rfl) ⟨Nat.zero_le _, Nat.zero_le _⟩ dX8_digest_133 (fun H locs hP hS => ?_)
      refine x_cSl (As := [.long a1, .long r10.1]) (rest := []) X hP hS kc_X8_292 (c_X8_mix l G  r10.2 a1 r10.1 _ rfl) ⟨Nat.le_of_ble_eq_true rfl, Nat.le_of_ble_eq_true rfl⟩ rfl hl.1 rfl (Nat.le_of_ble_eq_true rfl) ⟨Nat.zero_le _, Nat.zero_le _⟩ dX8_digest_136 (fun H locs hP hS => ?_)
      refine lv_lstore_n (lv' := [(1, .long (f_X8_mix a1 r10.1)), (0, .ref (G.2.2 0)), (3, .int a3)]) hx hb dX8_digest_139 rfl hl (by decide) rfl (fun ls hl => ?_)
      refine lv_lload_n hx hb dX8_digest_140 rfl (lv_at hl 0 rfl) ?_
      refine lv_aload_n hx hb dX8_digest_141 rfl (lv_at hl 1 rfl) ?_
      obtain ⟨r12, h13, hf⟩ := xb_some hf
      refine x_cVi (As := []) (rest := [.long (f_X8_mix a1 r10.1)]) X hP hS kc_X8_311 (c_X8_lifts l G n r10.2  _ h13) ⟨Nat.le_of_ble_eq_true rfl, Nat.le_of_ble_eq_true rfl⟩ (by decide) rfl rfl rfl hl.1 rfl (Nat.le_of_ble_eq_true rfl) ⟨Nat.zero_le _, Nat.zero_le _⟩ dX8_digest_142 (fun H locs hP hS => ?_)
      refine lv_i2l hx hb dX8_digest_145 rfl ?_
      refine x_cSl (As := [.long (f_X8_mix a1 r10.1), .long r12.toInt64]) (rest := []) X hP hS kc_X8_292 (c_X8_mix l G  r10.2 (f_X8_mix a1 r10.1) r12.toInt64 _ rfl) ⟨Nat.le_of_ble_eq_true rfl, Nat.le_of_ble_eq_true rfl⟩ rfl hl.1 rfl (Nat.le_of_ble_eq_true rfl) ⟨Nat.zero_le _, Nat.zero_le _⟩ dX8_digest_146 (fun H locs hP hS => ?_)
      refine lv_lstore_n (lv' := [(1, .long (f_X8_mix (f_X8_mix a1 r10.1) r12.toInt64)), (0, .ref (G.2.2 0)), (3, .int a3)]) hx hb dX8_digest_149 rfl hl (by decide) rfl (fun ls hl => ?_)
      refine lv_lload_n hx hb dX8_digest_150 rfl (lv_at hl 0 rfl) ?_
      refine lv_aload_n hx hb dX8_digest_151 rfl (lv_at hl 1 rfl) ?_
      refine lv_sipush (v := 150) hx hb dX8_digest_152 (by decide) ?_
      refine lv_iconst (v := 0) hx hb dX8_digest_155 (by decide) ?_
      obtain ⟨r14, h15, hf⟩ := xb_some hf
      refine x_cVi (As := [.int (150 : Int32), .int (0 : Int32)]) (rest := [.long (f_X8_mix (f_X8_mix a1 r10.1) r12.toInt64)]) X hP hS kc_X8_314 (c_X8_longest l G n r10.2 (150 : Int32) (0 : Int32) _ h15) ⟨Nat.le_of_ble_eq_true rfl, Nat.le_of_ble_eq_true rfl⟩ (by decide) rfl rfl rfl hl.1 rfl (Nat.le_of_ble_eq_true rfl) ⟨Nat.zero_le _, Nat.zero_le _⟩ dX8_digest_156 (fun H locs hP hS => ?_)
      refine lv_i2l hx hb dX8_digest_159 rfl ?_
      refine x_cSl (As := [.long (f_X8_mix (f_X8_mix a1 r10.1) r12.toInt64), .long r14.toInt64]) (rest := []) X hP hS kc_X8_292 (c_X8_mix l G  r10.2 (f_X8_mix (f_X8_mix a1 r10.1) r12.toInt64) r14.toInt64 _ rfl) ⟨Nat.le_of_ble_eq_true rfl, Nat.le_of_ble_eq_true rfl⟩ rfl hl.1 rfl (Nat.le_of_ble_eq_true rfl) ⟨Nat.zero_le _, Nat.zero_le _⟩ dX8_digest_160 (fun H locs hP hS => ?_)
      refine lv_lstore_n (lv' := [(1, .long (f_X8_mix (f_X8_mix (f_X8_mix a1 r10.1) r12.toInt64) r14.toInt64)), (0, .ref (G.2.2 0)), (3, .int a3)]) hx hb dX8_digest_163 rfl hl (by decide) rfl (fun ls hl => ?_)
      refine lv_lload_n hx hb dX8_digest_164 rfl (lv_at hl 0 rfl) ?_
      refine lv_aload_n hx hb dX8_digest_165 rfl (lv_at hl 1 rfl) ?_
      refine lv_sipush (v := 150) hx hb dX8_digest_166 (by decide) ?_
      refine lv_iconst (v := 1) hx hb dX8_digest_169 (by decide) ?_
      obtain ⟨r16, h17, hf⟩ := xb_some hf
      refine x_cVi (As := [.int (150 : Int32), .int (1 : Int32)]) (rest := [.long (f_X8_mix (f_X8_mix (f_X8_mix a1 r10.1) r12.toInt64) r14.toInt64)]) X hP hS kc_X8_314 (c_X8_longest l G n r10.2 (150 : Int32) (1 : Int32) _ h17) ⟨Nat.le_of_ble_eq_true rfl, Nat.le_of_ble_eq_true rfl⟩ (by decide) rfl rfl rfl hl.1 rfl (Nat.le_of_ble_eq_true rfl) ⟨Nat.zero_le _, Nat.zero_le _⟩ dX8_digest_170 (fun H locs hP hS => ?_)
      refine lv_i2l hx hb dX8_digest_173 rfl ?_
      refine x_cSl (As := [.long (f_X8_mix (f_X8_mix (f_X8_mix a1 r10.1) r12.toInt64) r14.toInt64), .long r16.toInt64]) (rest := []) X hP hS kc_X8_292 (c_X8_mix l G  r10.2 (f_X8_mix (f_X8_mix (f_X8_mix a1 r10.1) r12.toInt64) r14.toInt64) r16.toInt64 _ rfl) ⟨Nat.le_of_ble_eq_true rfl, Nat.le_of_ble_eq_true rfl⟩ rfl hl.1 rfl (Nat.le_of_ble_eq_true rfl) ⟨Nat.zero_le _, Nat.zero_le _⟩ dX8_digest_174 (fun H locs hP hS => ?_)
      refine lv_lstore_n (lv' := [(1, .long (f_X8_mix (f_X8_mix (f_X8_mix (f_X8_mix a1 r10.1) r12.toInt64) r14.toInt64) r16.toInt64)), (0, .ref (G.2.2 0)), (3, .int a3)]) hx hb dX8_digest_177 rfl hl (by decide) rfl (fun ls hl => ?_)
      refine lv_lload_n hx hb dX8_digest_178 rfl (lv_at hl 0 rfl) ?_
      refine lv_aload_n hx hb dX8_digest_179 rfl (lv_at hl 1 rfl) ?_
      refine lv_sipush (v := 1023) hx hb dX8_digest_180 (by decide) ?_
      refine lv_iconst (v := (-1)) hx hb dX8_digest_183 (by decide) ?_
      obtain ⟨r18, h19, hf⟩ := xb_some hf
      refine x_cVi (As := [.int (1023 : Int32), .int (-1 : Int32)]) (rest := [.long (f_X8_mix (f_X8_mix (f_X8_mix (f_X8_mix a1 r10.1) r12.toInt64) r14.toInt64) r16.toInt64)]) X hP hS kc_X8_317 (c_X8_mended l G n r10.2 (1023 : Int32) (-1 : Int32) r18.1 r18.2 h19) ⟨Nat.le_of_ble_eq_true rfl, Nat.le_of_ble_eq_true rfl⟩ (by decide) rfl rfl rfl hl.1 rfl (Nat.le_of_ble_eq_true rfl) ⟨Nat.zero_le _, Nat.zero_le _⟩ dX8_digest_184 (fun H locs hP hS => ?_)
      refine lv_i2l hx hb dX8_digest_187 rfl ?_
      refine x_cSl (As := [.long (f_X8_mix (f_X8_mix (f_X8_mix (f_X8_mix a1 r10.1) r12.toInt64) r14.toInt64) r16.toInt64), .long r18.1.toInt64]) (rest := []) X hP hS kc_X8_292 (c_X8_mix l G  r18.2 (f_X8_mix (f_X8_mix (f_X8_mix (f_X8_mix a1 r10.1) r12.toInt64) r14.toInt64) r16.toInt64) r18.1.toInt64 _ rfl) ⟨Nat.le_of_ble_eq_true rfl, Nat.le_of_ble_eq_true rfl⟩ rfl hl.1 rfl (Nat.le_of_ble_eq_true rfl) ⟨Nat.zero_le _, Nat.zero_le _⟩ dX8_digest_188 (fun H locs hP hS => ?_)
      refine lv_lstore_n (lv' := [(1, .long (f_X8_mix (f_X8_mix (f_X8_mix (f_X8_mix (f_X8_mix a1 r10.1) r12.toInt64) r14.toInt64) r16.toInt64) r18.1.toInt64)), (0, .ref (G.2.2 0)), (3, .int a3)]) hx hb dX8_digest_191 rfl hl (by decide) rfl (fun ls hl => ?_)
      refine lv_lload_n hx hb dX8_digest_192 rfl (lv_at hl 0 rfl) ?_
      refine lv_aload_n hx hb dX8_digest_193 rfl (lv_at hl 1 rfl) ?_
      refine lv_bipush (v := 100) hx hb dX8_digest_194 (by decide) ?_
      refine lv_iconst (v := 0) hx hb dX8_digest_196 (by decide) ?_
      obtain ⟨r20, h21, hf⟩ := xb_some hf
      refine x_cVi (As := [.int (100 : Int32), .int (0 : Int32)]) (rest := [.long (f_X8_mix (f_X8_mix (f_X8_mix (f_X8_mix (f_X8_mix a1 r10.1) r12.toInt64) r14.toInt64) r16.toInt64) r18.1.toInt64)]) X hP hS kc_X8_320 (c_X8_next l G n r18.2 (100 : Int32) (0 : Int32) _ h21) ⟨Nat.le_of_ble_eq_true rfl, Nat.le_of_ble_eq_true rfl⟩ (by decide) rfl rfl rfl hl.1 rfl (Nat.le_of_ble_eq_true rfl) ⟨Nat.zero_le _, Nat.zero_le _⟩ dX8_digest_197 (fun H locs hP hS => ?_)
      refine lv_i2l hx hb dX8_digest_200 rfl ?_
      refine x_cSl (As := [.long (f_X8_mix (f_X8_mix (f_X8_mix (f_X8_mix (f_X8_mix a1 r10.1) r12.toInt64) r14.toInt64) r16.toInt64) r18.1.toInt64), .long r20.toInt64]) (rest := []) X hP hS kc_X8_292 (c_X8_mix l G  r18.2 (f_X8_mix (f_X8_mix (f_X8_mix (f_X8_mix (f_X8_mix a1 r10.1) r12.toInt64) r14.toInt64) r16.toInt64) r18.1.toInt64) r20.toInt64 _ rfl) ⟨Nat.le_of_ble_eq_true rfl, Nat.le_of_ble_eq_true rfl⟩ rfl hl.1 rfl (Nat.le_of_ble_eq_true rfl) ⟨Nat.zero_le _, Nat.zero_le _⟩ dX8_digest_201 (fun H locs hP hS => ?_)
      refine lv_lstore_n (lv' := [(1, .long (f_X8_mix (f_X8_mix (f_X8_mix (f_X8_mix (f_X8_mix (f_X8_mix a1 r10.1) r12.toInt64) r14.toInt64) r16.toInt64) r18.1.toInt64) r20.toInt64)), (0, .ref (G.2.2 0)), (3, .int a3)]) hx hb dX8_digest_204 rfl hl (by decide) rfl (fun ls hl => ?_)
      refine lv_lload_n hx hb dX8_digest_205 rfl (lv_at hl 0 rfl) ?_
      refine lv_aload_n hx hb dX8_digest_206 rfl (lv_at hl 1 rfl) ?_
      refine lv_bipush (v := 100) hx hb dX8_digest_207 (by decide) ?_
      refine lv_iconst (v := 1) hx hb dX8_digest_209 (by decide) ?_
      obtain ⟨r22, h23, hf⟩ := xb_some hf
      refine x_cVi (As := [.int (100 : Int32), .int (1 : Int32)]) (rest := [.long (f_X8_mix (f_X8_mix (f_X8_mix (f_X8_mix (f_X8_mix (f_X8_mix a1 r10.1) r12.toInt64) r14.toInt64) r16.toInt64) r18.1.toInt64) r20.toInt64)]) X hP hS kc_X8_320 (c_X8_next l G n r18.2 (100 : Int32) (1 : Int32) _ h23) ⟨Nat.le_of_ble_eq_true rfl, Nat.le_of_ble_eq_true rfl⟩ (by decide) rfl rfl rfl hl.1 rfl (Nat.le_of_ble_eq_true rfl) ⟨Nat.zero_le _, Nat.zero_le _⟩ dX8_digest_210 (fun H locs hP hS => ?_)
      refine lv_i2l hx hb dX8_digest_213 rfl ?_
      refine x_cSl (As := [.long (f_X8_mix (f_X8_mix (f_X8_mix (f_X8_mix (f_X8_mix (f_X8_mix a1 r10.1) r12.toInt64) r14.toInt64) r16.toInt64) r18.1.toInt64) r20.toInt64), .long r22.toInt64]) (rest := []) X hP hS kc_X8_292 (c_X8_mix l G  r18.2 (f_X8_mix (f_X8_mix (f_X8_mix (f_X8_mix (f_X8_mix (f_X8_mix a1 r10.1) r12.toInt64) r14.toInt64) r16.toInt64) r18.1.toInt64) r20.toInt64) r22.toInt64 _ rfl) ⟨Nat.le_of_ble_eq_true rfl, Nat.le_of_ble_eq_true rfl⟩ rfl hl.1 rfl (Nat.le_of_ble_eq_true rfl) ⟨Nat.zero_le _, Nat.zero_le _⟩ dX8_digest_214 (fun H locs hP hS => ?_)
      refine lv_lstore_n (lv' := [(1, .long (f_X8_mix (f_X8_mix (f_X8_mix (f_X8_mix (f_X8_mix (f_X8_mix (f_X8_mix a1 r10.1) r12.toInt64) r14.toInt64) r16.toInt64) r18.1.toInt64) r20.toInt64) r22.toInt64)), (0, .ref (G.2.2 0)), (3, .int a3)]) hx hb dX8_digest_217 rfl hl (by decide) rfl (fun ls hl => ?_)
      refine lv_lload_n hx hb dX8_digest_218 rfl (lv_at hl 0 rfl) ?_
      refine lv_aload_n hx hb dX8_digest_219 rfl (lv_at hl 1 rfl) ?_
      obtain ⟨r24, h25, hf⟩ := xb_some hf
      refine x_cVi (As := []) (rest := [.long (f_X8_mix (f_X8_mix (f_X8_mix (f_X8_mix (f_X8_mix (f_X8_mix (f_X8_mix a1 r10.1) r12.toInt64) r14.toInt64) r16.toInt64) r18.1.toInt64) r20.toInt64) r22.toInt64)]) X hP hS kc_X8_323 (c_X8_more l G n r18.2  _ h25) ⟨Nat.le_of_ble_eq_true rfl, Nat.le_of_ble_eq_true rfl⟩ (by decide) rfl rfl rfl hl.1 rfl (Nat.le_of_ble_eq_true rfl) ⟨Nat.zero_le _, Nat.zero_le _⟩ dX8_digest_220 (fun H locs hP hS => ?_)
      refine lv_i2l hx hb dX8_digest_223 rfl ?_
      refine x_cSl (As := [.long (f_X8_mix (f_X8_mix (f_X8_mix (f_X8_mix (f_X8_mix (f_X8_mix (f_X8_mix a1 r10.1) r12.toInt64) r14.toInt64) r16.toInt64) r18.1.toInt64) r20.toInt64) r22.toInt64), .long r24.toInt64]) (rest := []) X hP hS kc_X8_292 (c_X8_mix l G  r18.2 (f_X8_mix (f_X8_mix (f_X8_mix (f_X8_mix (f_X8_mix (f_X8_mix (f_X8_mix a1 r10.1) r12.toInt64) r14.toInt64) r16.toInt64) r18.1.toInt64) r20.toInt64) r22.toInt64) r24.toInt64 _ rfl) ⟨Nat.le_of_ble_eq_true rfl, Nat.le_of_ble_eq_true rfl⟩ rfl hl.1 rfl (Nat.le_of_ble_eq_true rfl) ⟨Nat.zero_le _, Nat.zero_le _⟩ dX8_digest_224 (fun H locs hP hS => ?_)
      refine lv_lstore_n (lv' := [(1, .long (f_X8_mix (f_X8_mix (f_X8_mix (f_X8_mix (f_X8_mix (f_X8_mix (f_X8_mix (f_X8_mix a1 r10.1) r12.toInt64) r14.toInt64) r16.toInt64) r18.1.toInt64) r20.toInt64) r22.toInt64) r24.toInt64)), (0, .ref (G.2.2 0)), (3, .int a3)]) hx hb dX8_digest_227 rfl hl (by decide) rfl (fun ls hl => ?_)
      refine lv_lload_n hx hb dX8_digest_228 rfl (lv_at hl 0 rfl) ?_
      refine lv_aload_n hx hb dX8_digest_229 rfl (lv_at hl 1 rfl) ?_
      refine lv_iconst (v := 0) hx hb dX8_digest_230 (by decide) ?_
      obtain ⟨r26, h27, hf⟩ := xb_some hf
      refine x_cVi (As := [.int (0 : Int32)]) (rest := [.long (f_X8_mix (f_X8_mix (f_X8_mix (f_X8_mix (f_X8_mix (f_X8_mix (f_X8_mix (f_X8_mix a1 r10.1) r12.toInt64) r14.toInt64) r16.toInt64) r18.1.toInt64) r20.toInt64) r22.toInt64) r24.toInt64)]) X hP hS kc_X8_326 (c_X8_stones l G n r18.2 (0 : Int32) _ h27) ⟨Nat.le_of_ble_eq_true rfl, Nat.le_of_ble_eq_true rfl⟩ (by decide) rfl rfl rfl hl.1 rfl (Nat.le_of_ble_eq_true rfl) ⟨Nat.zero_le _, Nat.zero_le _⟩ dX8_digest_231 (fun H locs hP hS => ?_)
      refine lv_i2l hx hb dX8_digest_234 rfl ?_
      refine x_cSl (As := [.long (f_X8_mix (f_X8_mix (f_X8_mix (f_X8_mix (f_X8_mix (f_X8_mix (f_X8_mix (f_X8_mix a1 r10.1) r12.toInt64) r14.toInt64) r16.toInt64) r18.1.toInt64) r20.toInt64) r22.toInt64) r24.toInt64), .long r26.toInt64]) (rest := []) X hP hS kc_X8_292 (c_X8_mix l G  r18.2 (f_X8_mix (f_X8_mix (f_X8_mix (f_X8_mix (f_X8_mix (f_X8_mix (f_X8_mix (f_X8_mix a1 r10.1) r12.toInt64) r14.toInt64) r16.toInt64) r18.1.toInt64) r20.toInt64) r22.toInt64) r24.toInt64) r26.toInt64 _ rfl) ⟨Nat.le_of_ble_eq_true rfl, Nat.le_of_ble_eq_true rfl⟩ rfl hl.1 rfl (Nat.le_of_ble_eq_true rfl) ⟨Nat.zero_le _, Nat.zero_le _⟩ dX8_digest_235 (fun H locs hP hS => ?_)
      refine lv_lstore_n (lv' := [(1, .long (f_X8_mix (f_X8_mix (f_X8_mix (f_X8_mix (f_X8_mix (f_X8_mix (f_X8_mix (f_X8_mix (f_X8_mix a1 r10.1) r12.toInt64) r14.toInt64) r16.toInt64) r18.1.toInt64) r20.toInt64) r22.toInt64) r24.toInt64) r26.toInt64)), (0, .ref (G.2.2 0)), (3, .int a3)]) hx hb dX8_digest_238 rfl hl (by decide) rfl (fun ls hl => ?_)
      refine lv_lload_n hx hb dX8_digest_239 rfl (lv_at hl 0 rfl) ?_
      refine lv_aload_n hx hb dX8_digest_240 rfl (lv_at hl 1 rfl) ?_
      refine lv_iconst (v := 1) hx hb dX8_digest_241 (by decide) ?_
      obtain ⟨r28, h29, hf⟩ := xb_some hf
      refine x_cVi (As := [.int (1 : Int32)]) (rest := [.long (f_X8_mix (f_X8_mix (f_X8_mix (f_X8_mix (f_X8_mix (f_X8_mix (f_X8_mix (f_X8_mix (f_X8_mix a1 r10.1) r12.toInt64) r14.toInt64) r16.toInt64) r18.1.toInt64) r20.toInt64) r22.toInt64) r24.toInt64) r26.toInt64)]) X hP hS kc_X8_326 (c_X8_stones l G n r18.2 (1 : Int32) _ h29) ⟨Nat.le_of_ble_eq_true rfl, Nat.le_of_ble_eq_true rfl⟩ (by decide) rfl rfl rfl hl.1 rfl (Nat.le_of_ble_eq_true rfl) ⟨Nat.zero_le _, Nat.zero_le _⟩ dX8_digest_242 (fun H locs hP hS => ?_)
      refine lv_i2l hx hb dX8_digest_245 rfl ?_
      refine x_cSl (As := [.long (f_X8_mix (f_X8_mix (f_X8_mix (f_X8_mix (f_X8_mix (f_X8_mix (f_X8_mix (f_X8_mix (f_X8_mix a1 r10.1) r12.toInt64) r14.toInt64) r16.toInt64) r18.1.toInt64) r20.toInt64) r22.toInt64) r24.toInt64) r26.toInt64), .long r28.toInt64]) (rest := []) X hP hS kc_X8_292 (c_X8_mix l G  r18.2 (f_X8_mix (f_X8_mix (f_X8_mix (f_X8_mix (f_X8_mix (f_X8_mix (f_X8_mix (f_X8_mix (f_X8_mix a1 r10.1) r12.toInt64) r14.toInt64) r16.toInt64) r18.1.toInt64) r20.toInt64) r22.toInt64) r24.toInt64) r26.toInt64) r28.toInt64 _ rfl) ⟨Nat.le_of_ble_eq_true rfl, Nat.le_of_ble_eq_true rfl⟩ rfl hl.1 rfl (Nat.le_of_ble_eq_true rfl) ⟨Nat.zero_le _, Nat.zero_le _⟩ dX8_digest_246 (fun H locs hP hS => ?_)
      exact x_lret X hr hlk hP hS  ((Prod.mk.inj (Option.some.inj hf)).1) ((Prod.mk.inj (Option.some.inj hf)).2) dX8_digest_249
    · have hf := xif_f hf e9
      refine lv_aload_n hx hb dX8_digest_118 rfl (lv_at hl 0 rfl) ?_
      refine lv_lload_n hx hb dX8_digest_119 rfl (lv_at hl 1 rfl) ?_
      refine lv_iload_n hx hb dX8_digest_120 rfl (lv_at hl 2 rfl) ?_
      obtain ⟨r30, h31, hf⟩ := xb_some hf
      refine x_cVl (As := [.long a1, .int a3]) (rest := []) X hP hS kc_X8_308 (c_X8_mixMaster l G n S a1 a3 _ h31) ⟨Nat.le_of_ble_eq_true rfl, Nat.le_of_ble_eq_true rfl⟩ (by decide) rfl rfl rfl hl.1 rfl (Nat.le_of_ble_eq_true rfl) ⟨Nat.zero_le _, Nat.zero_le _⟩ dX8_digest_121 (fun H locs hP hS => ?_)
      refine lv_lstore_n (lv' := [(1, .long r30), (0, .ref (G.2.2 0)), (3, .int a3)]) hx hb dX8_digest_124 rfl hl (by decide) rfl (fun ls hl => ?_)
      refine lv_iinc (v := a3 + 1) (lv' := [(3, .int (a3 + 1)), (1, .long r30), (0, .ref (G.2.2 0))]) hx hb dX8_digest_125 hl (k := 2) rfl rfl (by decide) rfl (fun ls hl => ?_)
      refine lv_goto (tgt := 113) hx hb dX8_digest_128 (by decide) ?_
      exact ih S r30 (a3 + 1) hf H locs ls hP hS (lv_sub hl [2, 1, 0] rfl)
def b_X8_digest_41 (n : Nat) (k41 : xS → Int64 → Int32 → Option (Int64 × xS)) (S : xS) (a1 : Int64) (a3 : Int32) : Option (Int64 × xS) :=
  (if (S.1 4 3) ≤ a3 then (f_X8_sill n S (S.1 4 3) (0 : Int32)).bind fun r3 => ((f_X8_sill n S (S.1 4 3) (2 : Int32)).bind fun r5 => ((f_X8_worst n S).bind fun r7 => (l_X8_digest_113 n n S (f_X8_mix (f_X8_mix (f_X8_mix a1 r3.toInt64) r5.toInt64) r7.toInt64) (0 : Int32)))) else (f_X8_mixFloor n S a1 a3).bind fun r32 => (k41 r32.2 r32.1 (a3 + 1)))
def l_X8_digest_41 (n : Nat) : Nat → xS → Int64 → Int32 → Option (Int64 × xS)
  | 0, _, _, _ => none
  | j + 1, S, a1, a3 => b_X8_digest_41 n (l_X8_digest_41 n j) S a1 a3
set_option maxHeartbeats 4000000 in
set_option maxRecDepth 100000 in
theorem t_X8_digest_41 {p : Program} {l : Launch} {e : Env} {s : State} {m : MethodId} {args : Array Value} {below : List Frame} {meth : Method} {c : Code} {G : xG} (X : xC p s m args c G RX8 cX8_digest 4) (hr : meth.sig.returnType = (some .long)) (hlk : meth.locks = false) {n : Nat} {r : Int64} {S' : xS} : ∀ (j : Nat) (S : xS) (a1 : Int64) (a3 : Int32), l_X8_digest_41 n j S a1 a3 = some (r, S') → xGo p l e { frames := 6, cells := 0, slots := 0, locals := 150 } s m args below meth c G 4 0 0 (MQ below (xQl G r S') args s 0 0 (xA G)) S 41 [(0, .ref (G.2.2 0)), (1, .long a1), (3, .int a3)] [] := by
  intro j
  induction j with
  | zero => intro S a1 a3 hf; exact nomatch (show (none : Option (Int64 × xS)) = _ from hf)
  | succ j ih =>
    intro S a1 a3 hf H locs ls hP hS hl
    have hf : b_X8_digest_41 n (l_X8_digest_41 n j) S a1 a3 = some (r, S') := hf
    unfold b_X8_digest_41 at hf
    obtain ⟨hx, hb, hml, hown, hts, hE⟩ := id X
    refine lv_iload_n hx hb dX8_digest_41 rfl (lv_at hl 2 rfl) ?_
    refine lv_aload_n hx hb dX8_digest_42 rfl (lv_at hl 0 rfl) ?_
    refine x_getR X hP fl_X8_23 (by decide) rfl rfl dX8_digest_43 ?_
    refine x_getIN X hP fn_X8_152 (by decide) rfl rfl dX8_digest_46 ?_
    refine lv_icmp_ge (tgt := 65) hx hb dX8_digest_49 (by decide) (fun e2 => ?_) (fun e2 => ?_)
    · have hf := xif_t hf e2
      refine lv_lload_n hx hb dX8_digest_65 rfl (lv_at hl 1 rfl) ?_
      refine lv_aload_n hx hb dX8_digest_66 rfl (lv_at hl 0 rfl) ?_
      refine lv_aload_n hx hb dX8_digest_67 rfl (lv_at hl 0 rfl) ?_
      refine x_getR X hP fl_X8_23 (by decide) rfl rfl dX8_digest_68 ?_
      refine x_getIN X hP fn_X8_152 (by decide) rfl rfl dX8_digest_71 ?_
      refine lv_iconst (v := 0) hx hb dX8_digest_74 (by decide) ?_
      obtain ⟨r3, h4, hf⟩ := xb_some hf
      refine x_cVi (As := [.int (S.1 4 3), .int (0 : Int32)]) (rest := [.long a1]) X hP hS kc_X8_302 (c_X8_sill l G n S (S.1 4 3) (0 : Int32) _ h4) ⟨Nat.le_of_ble_eq_true rfl, Nat.le_of_ble_eq_true rfl⟩ (by decide) rfl rfl rfl hl.1 rfl (Nat.le_of_ble_eq_true rfl) ⟨Nat.zero_le _, Nat.zero_le _⟩ dX8_digest_75 (fun H locs hP hS => ?_)
      refine lv_i2l hx hb dX8_digest_78 rfl ?_
      refine x_cSl (As := [.long a1, .long r3.toInt64]) (rest := []) X hP hS kc_X8_292 (c_X8_mix l G  S a1 r3.toInt64 _ rfl) ⟨Nat.le_of_ble_eq_true rfl, Nat.le_of_ble_eq_true rfl⟩ rfl hl.1 rfl (Nat.le_of_ble_eq_true rfl) ⟨Nat.zero_le _, Nat.zero_le _⟩ dX8_digest_79 (fun H locs hP hS => ?_)
      refine lv_lstore_n (lv' := [(1, .long (f_X8_mix a1 r3.toInt64)), (0, .ref (G.2.2 0)), (3, .int a3)]) hx hb dX8_digest_82 rfl hl (by decide) rfl (fun ls hl => ?_)
      refine lv_lload_n hx hb dX8_digest_83 rfl (lv_at hl 0 rfl) ?_
      refine lv_aload_n hx hb dX8_digest_84 rfl (lv_at hl 1 rfl) ?_
      refine lv_aload_n hx hb dX8_digest_85 rfl (lv_at hl 1 rfl) ?_
      refine x_getR X hP fl_X8_23 (by decide) rfl rfl dX8_digest_86 ?_
      refine x_getIN X hP fn_X8_152 (by decide) rfl rfl dX8_digest_89 ?_
      refine lv_iconst (v := 2) hx hb dX8_digest_92 (by decide) ?_
      obtain ⟨r5, h6, hf⟩ := xb_some hf
      refine x_cVi (As := [.int (S.1 4 3), .int (2 : Int32)]) (rest := [.long (f_X8_mix a1 r3.toInt64)]) X hP hS kc_X8_302 (c_X8_sill l G n S (S.1 4 3) (2 : Int32) _ h6) ⟨Nat.le_of_ble_eq_true rfl, Nat.le_of_ble_eq_true rfl⟩ (by decide) rfl rfl rfl hl.1 rfl (Nat.le_of_ble_eq_true rfl) ⟨Nat.zero_le _, Nat.zero_le _⟩ dX8_digest_93 (fun H locs hP hS => ?_)
      refine lv_i2l hx hb dX8_digest_96 rfl ?_
      refine x_cSl (As := [.long (f_X8_mix a1 r3.toInt64), .long r5.toInt64]) (rest := []) X hP hS kc_X8_292 (c_X8_mix l G  S (f_X8_mix a1 r3.toInt64) r5.toInt64 _ rfl) ⟨Nat.le_of_ble_eq_true rfl, Nat.le_of_ble_eq_true rfl⟩ rfl hl.1 rfl (Nat.le_of_ble_eq_true rfl) ⟨Nat.zero_le _, Nat.zero_le _⟩ dX8_digest_97 (fun H locs hP hS => ?_)
      refine lv_lstore_n (lv' := [(1, .long (f_X8_mix (f_X8_mix a1 r3.toInt64) r5.toInt64)), (0, .ref (G.2.2 0)), (3, .int a3)]) hx hb dX8_digest_100 rfl hl (by decide) rfl (fun ls hl => ?_)
      refine lv_lload_n hx hb dX8_digest_101 rfl (lv_at hl 0 rfl) ?_
      refine lv_aload_n hx hb dX8_digest_102 rfl (lv_at hl 1 rfl) ?_
      obtain ⟨r7, h8, hf⟩ := xb_some hf
      refine x_cVi (As := []) (rest := [.long (f_X8_mix (f_X8_mix a1 r3.toInt64) r5.toInt64)]) X hP hS kc_X8_305 (c_X8_worst l G n S  _ h8) ⟨Nat.le_of_ble_eq_true rfl, Nat.le_of_ble_eq_true rfl⟩ (by decide) rfl rfl rfl hl.1 rfl (Nat.le_of_ble_eq_true rfl) ⟨Nat.zero_le _, Nat.zero_le _⟩ dX8_digest_103 (fun H locs hP hS => ?_)
      refine lv_i2l hx hb dX8_digest_106 rfl ?_
      refine x_cSl (As := [.long (f_X8_mix (f_X8_mix a1 r3.toInt64) r5.toInt64), .long r7.toInt64]) (rest := []) X hP hS kc_X8_292 (c_X8_mix l G  S (f_X8_mix (f_X8_mix a1 r3.toInt64) r5.toInt64) r7.toInt64 _ rfl) ⟨Nat.le_of_ble_eq_true rfl, Nat.le_of_ble_eq_true rfl⟩ rfl hl.1 rfl (Nat.le_of_ble_eq_true rfl) ⟨Nat.zero_le _, Nat.zero_le _⟩ dX8_digest_107 (fun H locs hP hS => ?_)
      refine lv_lstore_n (lv' := [(1, .long (f_X8_mix (f_X8_mix (f_X8_mix a1 r3.toInt64) r5.toInt64) r7.toInt64)), (0, .ref (G.2.2 0)), (3, .int a3)]) hx hb dX8_digest_110 rfl hl (by decide) rfl (fun ls hl => ?_)
      refine lv_iconst (v := 0) hx hb dX8_digest_111 (by decide) ?_
      refine lv_istore_n (lv' := [(3, .int (0 : Int32)), (1, .long (f_X8_mix (f_X8_mix (f_X8_mix a1 r3.toInt64) r5.toInt64) r7.toInt64)), (0, .ref (G.2.2 0))]) hx hb dX8_digest_112 rfl hl (by decide) rfl (fun ls hl => ?_)
      exact t_X8_digest_113 X hr hlk   n S (f_X8_mix (f_X8_mix (f_X8_mix a1 r3.toInt64) r5.toInt64) r7.toInt64) (0 : Int32) hf H locs ls hP hS (lv_sub hl [2, 1, 0] rfl)
    · have hf := xif_f hf e2
      refine lv_aload_n hx hb dX8_digest_52 rfl (lv_at hl 0 rfl) ?_
      refine lv_lload_n hx hb dX8_digest_53 rfl (lv_at hl 1 rfl) ?_
      refine lv_iload_n hx hb dX8_digest_54 rfl (lv_at hl 2 rfl) ?_
      obtain ⟨r32, h33, hf⟩ := xb_some hf
      refine x_cVl (As := [.long a1, .int a3]) (rest := []) X hP hS kc_X8_298 (c_X8_mixFloor l G n S a1 a3 r32.1 r32.2 h33) ⟨Nat.le_of_ble_eq_true rfl, Nat.le_of_ble_eq_true rfl⟩ (by decide) rfl rfl rfl hl.1 rfl (Nat.le_of_ble_eq_true rfl) ⟨Nat.zero_le _, Nat.zero_le _⟩ dX8_digest_55 (fun H locs hP hS => ?_)
      refine lv_lstore_n (lv' := [(1, .long r32.1), (0, .ref (G.2.2 0)), (3, .int a3)]) hx hb dX8_digest_58 rfl hl (by decide) rfl (fun ls hl => ?_)
      refine lv_iinc (v := a3 + 1) (lv' := [(3, .int (a3 + 1)), (1, .long r32.1), (0, .ref (G.2.2 0))]) hx hb dX8_digest_59 hl (k := 2) rfl rfl (by decide) rfl (fun ls hl => ?_)
      refine lv_goto (tgt := 41) hx hb dX8_digest_62 (by decide) ?_
      exact ih r32.2 r32.1 (a3 + 1) hf H locs ls hP hS (lv_sub hl [2, 1, 0] rfl)
def b_X8_digest_6 (n : Nat) (k6 : xS → Int64 → Int32 → Option (Int64 × xS)) (S : xS) (a1 : Int64) (a3 : Int32) : Option (Int64 × xS) :=
  (if (7 : Int32) < a3 then l_X8_digest_41 n n S (f_X8_mix a1 ((f_X8_fault S).toInt64)) (0 : Int32) else (f_X8_count n S a3).bind fun r34 => (k6 S (f_X8_mix a1 r34.toInt64) (a3 + 1)))
def l_X8_digest_6 (n : Nat) : Nat → xS → Int64 → Int32 → Option (Int64 × xS)
  | 0, _, _, _ => none
  | j + 1, S, a1, a3 => b_X8_digest_6 n (l_X8_digest_6 n j) S a1 a3
set_option maxHeartbeats 4000000 in
set_option maxRecDepth 100000 in
theorem t_X8_digest_6 {p : Program} {l : Launch} {e : Env} {s : State} {m : MethodId} {args : Array Value} {below : List Frame} {meth : Method} {c : Code} {G : xG} (X : xC p s m args c G RX8 cX8_digest 4) (hr : meth.sig.returnType = (some .long)) (hlk : meth.locks = false) {n : Nat} {r : Int64} {S' : xS} : ∀ (j : Nat) (S : xS) (a1 : Int64) (a3 : Int32), l_X8_digest_6 n j S a1 a3 = some (r, S') → xGo p l e { frames := 6, cells := 0, slots := 0, locals := 150 } s m args below meth c G 4 0 0 (MQ below (xQl G r S') args s 0 0 (xA G)) S 6 [(0, .ref (G.2.2 0)), (1, .long a1), (3, .int a3)] [] := by
  intro j
  induction j with
  | zero => intro S a1 a3 hf; exact nomatch (show (none : Option (Int64 × xS)) = _ from hf)
  | succ j ih =>
    intro S a1 a3 hf H locs ls hP hS hl
    have hf : b_X8_digest_6 n (l_X8_digest_6 n j) S a1 a3 = some (r, S') := hf
    unfold b_X8_digest_6 at hf
    obtain ⟨hx, hb, hml, hown, hts, hE⟩ := id X
    refine lv_iload_n hx hb dX8_digest_6 rfl (lv_at hl 2 rfl) ?_
    refine lv_bipush (v := 7) hx hb dX8_digest_7 (by decide) ?_
    refine lv_icmp_gt (tgt := 29) hx hb dX8_digest_9 (by decide) (fun e1 => ?_) (fun e1 => ?_)
    · have hf := xif_t hf e1
      refine lv_lload_n hx hb dX8_digest_29 rfl (lv_at hl 1 rfl) ?_
      refine lv_aload_n hx hb dX8_digest_30 rfl (lv_at hl 0 rfl) ?_
      refine x_cVi (As := []) (rest := [.long a1]) X hP hS kc_X8_296 (c_X8_fault l G  S  _ rfl) ⟨Nat.le_of_ble_eq_true rfl, Nat.le_of_ble_eq_true rfl⟩ (by decide) rfl rfl rfl hl.1 rfl (Nat.le_of_ble_eq_true rfl) ⟨Nat.zero_le _, Nat.zero_le _⟩ dX8_digest_31 (fun H locs hP hS => ?_)
      refine lv_i2l hx hb dX8_digest_34 rfl ?_
      refine x_cSl (As := [.long a1, .long ((f_X8_fault S).toInt64)]) (rest := []) X hP hS kc_X8_292 (c_X8_mix l G  S a1 ((f_X8_fault S).toInt64) _ rfl) ⟨Nat.le_of_ble_eq_true rfl, Nat.le_of_ble_eq_true rfl⟩ rfl hl.1 rfl (Nat.le_of_ble_eq_true rfl) ⟨Nat.zero_le _, Nat.zero_le _⟩ dX8_digest_35 (fun H locs hP hS => ?_)
      refine lv_lstore_n (lv' := [(1, .long (f_X8_mix a1 ((f_X8_fault S).toInt64))), (0, .ref (G.2.2 0)), (3, .int a3)]) hx hb dX8_digest_38 rfl hl (by decide) rfl (fun ls hl => ?_)
      refine lv_iconst (v := 0) hx hb dX8_digest_39 (by decide) ?_
      refine lv_istore_n (lv' := [(3, .int (0 : Int32)), (1, .long (f_X8_mix a1 ((f_X8_fault S).toInt64))), (0, .ref (G.2.2 0))]) hx hb dX8_digest_40 rfl hl (by decide) rfl (fun ls hl => ?_)
      exact t_X8_digest_41 X hr hlk   n S (f_X8_mix a1 ((f_X8_fault S).toInt64)) (0 : Int32) hf H locs ls hP hS (lv_sub hl [2, 1, 0] rfl)
    · have hf := xif_f hf e1
      refine lv_lload_n hx hb dX8_digest_12 rfl (lv_at hl 1 rfl) ?_
      refine lv_aload_n hx hb dX8_digest_13 rfl (lv_at hl 0 rfl) ?_
      refine lv_iload_n hx hb dX8_digest_14 rfl (lv_at hl 2 rfl) ?_
      obtain ⟨r34, h35, hf⟩ := xb_some hf
      refine x_cVi (As := [.int a3]) (rest := [.long a1]) X hP hS kc_X8_289 (c_X8_count l G n S a3 _ h35) ⟨Nat.le_of_ble_eq_true rfl, Nat.le_of_ble_eq_true rfl⟩ (by decide) rfl rfl rfl hl.1 rfl (Nat.le_of_ble_eq_true rfl) ⟨Nat.zero_le _, Nat.zero_le _⟩ dX8_digest_15 (fun H locs hP hS => ?_)
      refine lv_i2l hx hb dX8_digest_18 rfl ?_
      refine x_cSl (As := [.long a1, .long r34.toInt64]) (rest := []) X hP hS kc_X8_292 (c_X8_mix l G  S a1 r34.toInt64 _ rfl) ⟨Nat.le_of_ble_eq_true rfl, Nat.le_of_ble_eq_true rfl⟩ rfl hl.1 rfl (Nat.le_of_ble_eq_true rfl) ⟨Nat.zero_le _, Nat.zero_le _⟩ dX8_digest_19 (fun H locs hP hS => ?_)
      refine lv_lstore_n (lv' := [(1, .long (f_X8_mix a1 r34.toInt64)), (0, .ref (G.2.2 0)), (3, .int a3)]) hx hb dX8_digest_22 rfl hl (by decide) rfl (fun ls hl => ?_)
      refine lv_iinc (v := a3 + 1) (lv' := [(3, .int (a3 + 1)), (1, .long (f_X8_mix a1 r34.toInt64)), (0, .ref (G.2.2 0))]) hx hb dX8_digest_23 hl (k := 2) rfl rfl (by decide) rfl (fun ls hl => ?_)
      refine lv_goto (tgt := 6) hx hb dX8_digest_26 (by decide) ?_
      exact ih S (f_X8_mix a1 r34.toInt64) (a3 + 1) hf H locs ls hP hS (lv_sub hl [2, 1, 0] rfl)
def f_X8_digest (n : Nat) (S : xS)  : Option (Int64 × xS) :=
  l_X8_digest_6 n n S (17 : Int64) (0 : Int32)
set_option maxHeartbeats 4000000 in
set_option maxRecDepth 100000 in
theorem c_X8_digest (l : Launch) (G : xG) (n : Nat)  (S : xS)  (r : Int64) (S' : xS) (hf : f_X8_digest n S  = some (r, S')) : xMl l G yX8_digest cX8_digest 4 (some .long) 6 150 [.ref (G.2.2 0)] S r S' := by
  refine xMl_of (own := RX8) (by decide +kernel) rfl (Nat.le_of_ble_eq_true rfl) ?_
  intro p e s m args below meth c X hr hlk H locs ls hP hS hl
  have hl : lv_has ls 4 [(0, .ref (G.2.2 0))] := hl
  obtain ⟨hx, hb, hml, hown, hts, hE⟩ := id X
  unfold f_X8_digest at hf
  refine lv_ldc2 hx hb hown (hts _ kw_826) dX8_digest_0 ?_
  refine lv_lstore_n (lv' := [(1, .long (17 : Int64)), (0, .ref (G.2.2 0))]) hx hb dX8_digest_3 rfl hl (by decide) rfl (fun ls hl => ?_)
  refine lv_iconst (v := 0) hx hb dX8_digest_4 (by decide) ?_
  refine lv_istore_n (lv' := [(3, .int (0 : Int32)), (1, .long (17 : Int64)), (0, .ref (G.2.2 0))]) hx hb dX8_digest_5 rfl hl (by decide) rfl (fun ls hl => ?_)
  exact t_X8_digest_6 X hr hlk   n S (17 : Int64) (0 : Int32) hf H locs ls hP hS (lv_sub hl [2, 1, 0] rfl)
