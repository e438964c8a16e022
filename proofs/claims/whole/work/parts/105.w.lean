def f_X8_isSheet (a0 : Int32) : Int32 :=
  f_X8_within a0 (0 : Int32) (3 : Int32)
theorem fb_X8_isSheet (a0 : Int32) : f_X8_isSheet a0 = 0 ∨ f_X8_isSheet a0 = 1 := by
  unfold f_X8_isSheet
  exact fb_X8_within a0 (0 : Int32) (3 : Int32)
set_option maxHeartbeats 4000000 in
set_option maxRecDepth 100000 in
theorem c_X8_isSheet (l : Launch) (G : xG)  (S : xS) (a0 : Int32) (r : Int32) (hf : f_X8_isSheet a0 = r) : xMi l G yX8_isSheet cX8_isSheet 1 (some .boolean) 1 22 [.int a0] S r S := by
  refine xMi_of (own := RX8) (by decide +kernel) rfl (Nat.le_of_ble_eq_true rfl) ?_
  intro p e s m args below meth c X hr hlk H locs ls hP hS hl
  have hl : lv_has ls 1 [(0, .int a0)] := hl
  obtain ⟨hx, hb, hml, hown, hts, hE⟩ := id X
  unfold f_X8_isSheet at hf
  refine lv_iload_n hx hb dX8_isSheet_0 rfl (lv_at hl 0 rfl) ?_
  refine lv_iconst (v := 0) hx hb dX8_isSheet_1 (by decide) ?_
  refine lv_iconst (v := 3) hx hb dX8_isSheet_2 (by decide) ?_
  refine x_cSi (As := [.int a0, .int (0 : Int32), .int (3 : Int32)]) (rest := []) X hP hS kc_X8_79 (c_X8_within l G  S a0 (0 : Int32) (3 : Int32) _ rfl) ⟨Nat.le_of_ble_eq_true rfl, Nat.le_of_ble_eq_true rfl⟩ rfl hl.1 rfl (Nat.le_of_ble_eq_true rfl) ⟨Nat.zero_le _, Nat.zero_le _⟩ dX8_isSheet_3 (fun H locs hP hS => ?_)
  exact x_zret X hr hlk hP hS (fb_X8_within a0 (0 : Int32) (3 : Int32)) (hf) (rfl) dX8_isSheet_6
def f_X6_isLost (q : Nat) (S : xS)  : Int32 :=
  (if (S.1 q 1) = (-1 : Int32) then (1 : Int32) else (0 : Int32))
theorem fb_X6_isLost (q : Nat) (S : xS)  : f_X6_isLost q S  = 0 ∨ f_X6_isLost q S  = 1 := by
  unfold f_X6_isLost
  repeat' first | exact Or.inl rfl | exact Or.inr rfl | split
set_option maxHeartbeats 4000000 in
set_option maxRecDepth 100000 in
theorem c_X6_isLost (l : Launch) (G : xG) (q : Nat)  (hq : xsh q = true) (S : xS)  (r : Int32) (hf : f_X6_isLost q S  = r) : xMi l G yX6_isLost cX6_isLost 1 (some .boolean) 0 0 [.ref (G.2.2 q)] S r S := by
  refine xMi_of (own := RX6) (by decide +kernel) rfl (Nat.le_of_ble_eq_true rfl) ?_
  intro p e s m args below meth c X hr hlk H locs ls hP hS hl
  have hl : lv_has ls 1 [(0, .ref (G.2.2 q))] := hl
  obtain ⟨hx, hb, hml, hown, hts, hE⟩ := id X
  unfold f_X6_isLost at hf
  refine lv_aload_n hx hb dX6_isLost_0 rfl (lv_at hl 0 rfl) ?_
  refine x_getI X hP fl_X6_15 (xsh_lt hq) (xsh_lay hq) rfl dX6_isLost_1 ?_
  refine lv_iconst (v := (-1)) hx hb dX6_isLost_4 (by decide) ?_
  refine lv_icmp_ne (tgt := 12) hx hb dX6_isLost_5 (by decide) (fun e1 => ?_) (fun e1 => ?_)
  · have hf := xif_f hf e1
    refine lv_iconst (v := 0) hx hb dX6_isLost_12 (by decide) ?_
    exact x_zret X hr hlk hP hS (Or.inl rfl) (hf) (rfl) dX6_isLost_13
  · have hf := xif_t hf e1
    refine lv_iconst (v := 1) hx hb dX6_isLost_8 (by decide) ?_
    refine lv_goto (tgt := 13) hx hb dX6_isLost_9 (by decide) ?_
    exact x_zret X hr hlk hP hS (Or.inr rfl) (hf) (rfl) dX6_isLost_13
def f_X8_finding (S : xS) (a1 : Int32) : Int32 × xS :=
  ((-10 : Int32) - a1, xst S 0 9 a1)
set_option maxHeartbeats 4000000 in
set_option maxRecDepth 100000 in
theorem c_X8_finding (l : Launch) (G : xG)  (S : xS) (a1 : Int32) (r : Int32) (S' : xS) (hf : f_X8_finding S a1 = (r, S')) : xMi l G yX8_finding cX8_finding 2 (some .int) 0 0 [.ref (G.2.2 0), .int a1] S r S' := by
  refine xMi_of (own := RX8) (by decide +kernel) rfl (Nat.le_of_ble_eq_true rfl) ?_
  intro p e s m args below meth c X hr hlk H locs ls hP hS hl
  have hl : lv_has ls 2 [(0, .ref (G.2.2 0)), (1, .int a1)] := hl
  obtain ⟨hx, hb, hml, hown, hts, hE⟩ := id X
  unfold f_X8_finding at hf
  refine lv_aload_n hx hb dX8_finding_0 rfl (lv_at hl 0 rfl) ?_
  refine lv_iload_n hx hb dX8_finding_1 rfl (lv_at hl 1 rfl) ?_
  refine x_putI X hP hS fp_X8_284 (by decide) rfl rfl dX8_finding_2 (fun H locs hP hS => ?_)
  refine lv_bipush (v := (-10)) hx hb dX8_finding_5 (by decide) ?_
  refine lv_iload_n hx hb dX8_finding_7 rfl (lv_at hl 1 rfl) ?_
  refine lv_isub hx hb dX8_finding_8 ?_
  exact x_iret X hr hlk hP hS  ((Prod.mk.inj (hf)).1) ((Prod.mk.inj (hf)).2) dX8_finding_9
def f_X8_refuseSheet (n : Nat) (S : xS) (a1 : Int32) : Option (Int32 × xS) :=
  (if (f_X8_isSheet a1) = 0 then some ((-2 : Int32), S) else xg (xin a1 4) ((if (f_X6_isLost (25 + a1.toNatClampNeg) S) = 0 then some ((0 : Int32), S) else some ((f_X8_finding S (1 : Int32)).1, (f_X8_finding S (1 : Int32)).2))))
set_option maxHeartbeats 4000000 in
set_option maxRecDepth 100000 in
theorem c_X8_refuseSheet (l : Launch) (G : xG) (n : Nat)  (S : xS) (a1 : Int32) (r : Int32) (S' : xS) (hf : f_X8_refuseSheet n S a1 = some (r, S')) : xMi l G yX8_refuseSheet cX8_refuseSheet 2 (some .int) 2 42 [.ref (G.2.2 0), .int a1] S r S' := by
  refine xMi_of (own := RX8) (by decide +kernel) rfl (Nat.le_of_ble_eq_true rfl) ?_
  intro p e s m args below meth c X hr hlk H locs ls hP hS hl
  have hl : lv_has ls 2 [(0, .ref (G.2.2 0)), (1, .int a1)] := hl
  obtain ⟨hx, hb, hml, hown, hts, hE⟩ := id X
  unfold f_X8_refuseSheet at hf
  refine lv_iload_n hx hb dX8_refuseSheet_0 rfl (lv_at hl 1 rfl) ?_
  refine x_cSi (As := [.int a1]) (rest := []) X hP hS kc_X8_244 (c_X8_isSheet l G  S a1 _ rfl) ⟨Nat.le_of_ble_eq_true rfl, Nat.le_of_ble_eq_true rfl⟩ rfl hl.1 rfl (Nat.le_of_ble_eq_true rfl) ⟨Nat.zero_le _, Nat.zero_le _⟩ dX8_refuseSheet_1 (fun H locs hP hS => ?_)
  refine lv_if_ne (tgt := 10) hx hb dX8_refuseSheet_4 (by decide) (fun e1 => ?_) (fun e1 => ?_)
  · have hf := xif_f hf e1
    refine lv_aload_n hx hb dX8_refuseSheet_10 rfl (lv_at hl 0 rfl) ?_
    refine x_getR X hP fl_X8_70 (by decide) rfl rfl dX8_refuseSheet_11 ?_
    refine lv_iload_n hx hb dX8_refuseSheet_14 rfl (lv_at hl 1 rfl) ?_
    obtain ⟨g2, hf⟩ := xg_some hf
    refine x_ash X hP g2 dX8_refuseSheet_15 ?_
    refine x_cVi (As := []) (rest := []) X hP hS kc_X8_264 (c_X6_isLost l G (25 + a1.toNatClampNeg) (xsh_of g2) S  _ rfl) ⟨Nat.le_of_ble_eq_true rfl, Nat.le_of_ble_eq_true rfl⟩ (xsh_lt (xsh_of g2)) (xsh_lay (xsh_of g2)) rfl rfl hl.1 rfl (Nat.le_of_ble_eq_true rfl) ⟨Nat.zero_le _, Nat.zero_le _⟩ dX8_refuseSheet_16 (fun H locs hP hS => ?_)
    refine lv_if_eq (tgt := 30) hx hb dX8_refuseSheet_19 (by decide) (fun e3 => ?_) (fun e3 => ?_)
    · have hf := xif_t hf e3
      refine lv_iconst (v := 0) hx hb dX8_refuseSheet_30 (by decide) ?_
      exact x_iret X hr hlk hP hS  ((Prod.mk.inj (Option.some.inj hf)).1) ((Prod.mk.inj (Option.some.inj hf)).2) dX8_refuseSheet_31
    · have hf := xif_f hf e3
      refine lv_aload_n hx hb dX8_refuseSheet_22 rfl (lv_at hl 0 rfl) ?_
      refine lv_iconst (v := 1) hx hb dX8_refuseSheet_23 (by decide) ?_
      refine x_cVi (As := [.int (1 : Int32)]) (rest := []) X hP hS kc_X8_250 (c_X8_finding l G  S (1 : Int32) (f_X8_finding S (1 : Int32)).1 (f_X8_finding S (1 : Int32)).2 rfl) ⟨Nat.le_of_ble_eq_true rfl, Nat.le_of_ble_eq_true rfl⟩ (by decide) rfl rfl rfl hl.1 rfl (Nat.le_of_ble_eq_true rfl) ⟨Nat.zero_le _, Nat.zero_le _⟩ dX8_refuseSheet_24 (fun H locs hP hS => ?_)
      refine lv_goto (tgt := 31) hx hb dX8_refuseSheet_27 (by decide) ?_
      exact x_iret X hr hlk hP hS  ((Prod.mk.inj (Option.some.inj hf)).1) ((Prod.mk.inj (Option.some.inj hf)).2) dX8_refuseSheet_31
  · have hf := xif_t hf e1
    refine lv_bipush (v := (-2)) hx hb dX8_refuseSheet_7 (by decide) ?_
    exact x_iret X hr hlk hP hS  ((Prod.mk.inj (Option.some.inj hf)).1) ((Prod.mk.inj (Option.some.inj hf)).2) dX8_refuseSheet_9
def b_X8_read_33 (n : Nat) (k33 : xS → Nat → Int32 → Int32 → Option (Int32 × xS)) (S : xS) (q3 : Nat) (a4 : Int32) (a5 : Int32) : Option (Int32 × xS) :=
  xg (xsh q3) ((if a4 ≤ a5 then some (a5, S) else xg (xin a5 48) ((if (f_X8_isHeight (S.1 (q3 + 4) a5.toNatClampNeg)) = 0 then some (a5, S) else xg (xin a5 48) (xg (xin a5 10) (k33 (xst S 16 a5.toNatClampNeg (S.1 (q3 + 4) a5.toNatClampNeg)) q3 a4 (a5 + 1)))))))
def l_X8_read_33 (n : Nat) : Nat → xS → Nat → Int32 → Int32 → Option (Int32 × xS)
  | 0, _, _, _, _ => none
  | j + 1, S, q3, a4, a5 => b_X8_read_33 n (l_X8_read_33 n j) S q3 a4 a5
set_option maxHeartbeats 4000000 in
set_option maxRecDepth 100000 in
theorem t_X8_read_33 {p : Program} {l : Launch} {e : Env} {s : State} {m : MethodId} {args : Array Value} {below : List Frame} {meth : Method} {c : Code} {G : xG} (X : xC p s m args c G RX8 cX8_read 6) (hr : meth.sig.returnType = (some .int)) (hlk : meth.locks = false) {n : Nat} {r : Int32} {S' : xS} : ∀ (j : Nat) (S : xS) (q3 : Nat) (a4 : Int32) (a5 : Int32), l_X8_read_33 n j S q3 a4 a5 = some (r, S') → xGo p l e { frames := 3, cells := 0, slots := 0, locals := 63 } s m args below meth c G 6 0 0 (MQ below (xQi G r S') args s 0 0 (xA G)) S 33 [(0, .ref (G.2.2 0)), (3, .ref (G.2.2 q3)), (4, .int a4), (5, .int a5)] [] := by
  intro j
  induction j with
  | zero => intro S q3 a4 a5 hf; exact nomatch (show (none : Option (Int32 × xS)) = _ from hf)
  | succ j ih =>
    intro S q3 a4 a5 hf H locs ls hP hS hl
    have hf : b_X8_read_33 n (l_X8_read_33 n j) S q3 a4 a5 = some (r, S') := hf
    unfold b_X8_read_33 at hf
    obtain ⟨hx, hb, hml, hown, hts, hE⟩ := id X
    obtain ⟨hq3, hf⟩ := xg_some hf
    refine lv_iload hx hb dX8_read_33 (lv_at hl 3 rfl) ?_
    refine lv_iload hx hb dX8_read_35 (lv_at hl 2 rfl) ?_
    refine lv_icmp_ge (tgt := 76) hx hb dX8_read_37 (by decide) (fun e5 => ?_) (fun e5 => ?_)
    · have hf := xif_t hf e5
      refine lv_iload hx hb dX8_read_76 (lv_at hl 3 rfl) ?_
      exact x_iret X hr hlk hP hS  ((Prod.mk.inj (Option.some.inj hf)).1) ((Prod.mk.inj (Option.some.inj hf)).2) dX8_read_78
    · have hf := xif_f hf e5
      refine lv_aload_n hx hb dX8_read_40 rfl (lv_at hl 1 rfl) ?_
      refine x_getRN X hP fn_X8_191 (xsh_lt hq3) (xsh_lay hq3) rfl dX8_read_41 ?_
      refine lv_iload hx hb dX8_read_44 (lv_at hl 3 rfl) ?_
      obtain ⟨g6, hf⟩ := xg_some hf
      refine x_iald X hP (xsh_lt4 hq3) (xsh_it hq3) g6 dX8_read_46 ?_
      refine x_cSi (As := [.int (S.1 (q3 + 4) a5.toNatClampNeg)]) (rest := []) X hP hS kc_X8_178 (c_X8_isHeight l G  S (S.1 (q3 + 4) a5.toNatClampNeg) _ rfl) ⟨Nat.le_of_ble_eq_true rfl, Nat.le_of_ble_eq_true rfl⟩ rfl hl.1 rfl (Nat.le_of_ble_eq_true rfl) ⟨Nat.zero_le _, Nat.zero_le _⟩ dX8_read_47 (fun H locs hP hS => ?_)
      refine lv_if_eq (tgt := 76) hx hb dX8_read_50 (by decide) (fun e7 => ?_) (fun e7 => ?_)
      · have hf := xif_t hf e7
        refine lv_iload hx hb dX8_read_76 (lv_at hl 3 rfl) ?_
        exact x_iret X hr hlk hP hS  ((Prod.mk.inj (Option.some.inj hf)).1) ((Prod.mk.inj (Option.some.inj hf)).2) dX8_read_78
      · have hf := xif_f hf e7
        refine lv_aload_n hx hb dX8_read_53 rfl (lv_at hl 0 rfl) ?_
        refine x_getR X hP fl_X8_41 (by decide) rfl rfl dX8_read_54 ?_
        refine x_getRN X hP fn_X8_121 (by decide) rfl rfl dX8_read_57 ?_
        refine lv_iload hx hb dX8_read_60 (lv_at hl 3 rfl) ?_
        refine lv_aload_n hx hb dX8_read_62 rfl (lv_at hl 1 rfl) ?_
        refine x_getRN X hP fn_X8_191 (xsh_lt hq3) (xsh_lay hq3) rfl dX8_read_63 ?_
        refine lv_iload hx hb dX8_read_66 (lv_at hl 3 rfl) ?_
        obtain ⟨g8, hf⟩ := xg_some hf
        refine x_iald X hP (xsh_lt4 hq3) (xsh_it hq3) g8 dX8_read_68 ?_
        obtain ⟨g9, hf⟩ := xg_some hf
        refine x_iast X hP hS (by decide) rfl g9 dX8_read_69 (fun H locs hP hS => ?_)
        refine lv_iinc (v := a5 + 1) (lv' := [(5, .int (a5 + 1)), (0, .ref (G.2.2 0)), (3, .ref (G.2.2 q3)), (4, .int a4)]) hx hb dX8_read_70 hl (k := 3) rfl rfl (by decide) rfl (fun ls hl => ?_)
        refine lv_goto (tgt := 33) hx hb dX8_read_73 (by decide) ?_
        exact ih (xst S 16 a5.toNatClampNeg (S.1 (q3 + 4) a5.toNatClampNeg)) q3 a4 (a5 + 1) hf H locs ls hP hS (lv_sub hl [1, 2, 3, 0] rfl)
def f_X8_read (n : Nat) (S : xS) (a1 : Int32) : Option (Int32 × xS) :=
  (f_X8_refuseSheet n S a1).bind fun r1 => ((if r1.1 = 0 then xg (xin a1 4) (l_X8_read_33 n n r1.2 (25 + a1.toNatClampNeg) (xmin (r1.2.1 (25 + a1.toNatClampNeg) 2) (10 : Int32)) (0 : Int32)) else some (r1.1, r1.2)))
set_option maxHeartbeats 4000000 in
set_option maxRecDepth 100000 in
theorem c_X8_read (l : Launch) (G : xG) (n : Nat)  (S : xS) (a1 : Int32) (r : Int32) (S' : xS) (hf : f_X8_read n S a1 = some (r, S')) : xMi l G yX8_read cX8_read 6 (some .int) 3 63 [.ref (G.2.2 0), .int a1] S r S' := by
  refine xMi_of (own := RX8) (by decide +kernel) rfl (Nat.le_of_ble_eq_true rfl) ?_
  intro p e s m args below meth c X hr hlk H locs ls hP hS hl
  have hl : lv_has ls 6 [(0, .ref (G.2.2 0)), (1, .int a1)] := hl
  obtain ⟨hx, hb, hml, hown, hts, hE⟩ := id X
  unfold f_X8_read at hf
  refine lv_aload_n hx hb dX8_read_0 rfl (lv_at hl 0 rfl) ?_
  refine lv_iload_n hx hb dX8_read_1 rfl (lv_at hl 1 rfl) ?_
  obtain ⟨r1, h2, hf⟩ := xb_some hf
  refine x_cVi (As := [.int a1]) (rest := []) X hP hS kc_X8_181 (c_X8_refuseSheet l G n S a1 r1.1 r1.2 h2) ⟨Nat.le_of_ble_eq_true rfl, Nat.le_of_ble_eq_true rfl⟩ (by decide) rfl rfl rfl hl.1 rfl (Nat.le_of_ble_eq_true rfl) ⟨Nat.zero_le _, Nat.zero_le _⟩ dX8_read_2 (fun H locs hP hS => ?_)
  refine lv_istore_n (lv' := [(2, .int r1.1), (0, .ref (G.2.2 0)), (1, .int a1)]) hx hb dX8_read_5 rfl hl (by decide) rfl (fun ls hl => ?_)
  refine lv_iload_n hx hb dX8_read_6 rfl (lv_at hl 0 rfl) ?_
  refine lv_if_eq (tgt := 12) hx hb dX8_read_7 (by decide) (fun e3 => ?_) (fun e3 => ?_)
  · have hf := xif_t hf e3
    refine lv_aload_n hx hb dX8_read_12 rfl (lv_at hl 1 rfl) ?_
    refine x_getR X hP fl_X8_70 (by decide) rfl rfl dX8_read_13 ?_
    refine lv_iload_n hx hb dX8_read_16 rfl (lv_at hl 2 rfl) ?_
    obtain ⟨g4, hf⟩ := xg_some hf
    refine x_ash X hP g4 dX8_read_17 ?_
    refine lv_astore_n (lv' := [(3, .ref (G.2.2 (25 + a1.toNatClampNeg))), (2, .int r1.1), (0, .ref (G.2.2 0)), (1, .int a1)]) hx hb dX8_read_18 rfl hl (by decide) rfl (fun ls hl => ?_)
    refine lv_aload_n hx hb dX8_read_19 rfl (lv_at hl 0 rfl) ?_
    refine x_getIN X hP fn_X8_184 (xsh_lt (xsh_of g4)) (xsh_lay (xsh_of g4)) rfl dX8_read_20 ?_
    refine lv_bipush (v := 10) hx hb dX8_read_23 (by decide) ?_
    refine x_mmin X kw_380 hl.1 ⟨Nat.le_of_ble_eq_true rfl, Nat.le_of_ble_eq_true rfl⟩ ⟨Nat.zero_le _, Nat.zero_le _⟩ dX8_read_25 ?_
    refine lv_istore (lv' := [(4, .int (xmin (r1.2.1 (25 + a1.toNatClampNeg) 2) (10 : Int32))), (3, .ref (G.2.2 (25 + a1.toNatClampNeg))), (2, .int r1.1), (0, .ref (G.2.2 0)), (1, .int a1)]) hx hb dX8_read_28 hl (by decide) rfl (fun ls hl => ?_)
    refine lv_iconst (v := 0) hx hb dX8_read_30 (by decide) ?_
    refine lv_istore (lv' := [(5, .int (0 : Int32)), (4, .int (xmin (r1.2.1 (25 + a1.toNatClampNeg) 2) (10 : Int32))), (3, .ref (G.2.2 (25 + a1.toNatClampNeg))), (2, .int r1.1), (0, .ref (G.2.2 0)), (1, .int a1)]) hx hb dX8_read_31 hl (by decide) rfl (fun ls hl => ?_)
    exact t_X8_read_33 X hr hlk   n r1.2 (25 + a1.toNatClampNeg) (xmin (r1.2.1 (25 + a1.toNatClampNeg) 2) (10 : Int32)) (0 : Int32) hf H locs ls hP hS (lv_sub hl [4, 2, 1, 0] rfl)
  · have hf := xif_f hf e3
    refine lv_iload_n hx hb dX8_read_10 rfl (lv_at hl 0 rfl) ?_
    exact x_iret X hr hlk hP hS  ((Prod.mk.inj (Option.some.inj hf)).1) ((Prod.mk.inj (Option.some.inj hf)).2) dX8_read_11
def f_X9_isSheet (a0 : Int32) : Int32 :=
  f_X9_in a0 (0 : Int32) (3 : Int32)
theorem fb_X9_isSheet (a0 : Int32) : f_X9_isSheet a0 = 0 ∨ f_X9_isSheet a0 = 1 := by
  unfold f_X9_isSheet
  exact fb_X9_in a0 (0 : Int32) (3 : Int32)
set_option maxHeartbeats 4000000 in
set_option maxRecDepth 100000 in
theorem c_X9_isSheet (l : Launch) (G : xG)  (S : xS) (a0 : Int32) (r : Int32) (hf : f_X9_isSheet a0 = r) : xMi l G yX9_isSheet cX9_isSheet 1 (some .boolean) 1 22 [.int a0] S r S := by
  refine xMi_of (own := RX9) (by decide +kernel) rfl (Nat.le_of_ble_eq_true rfl) ?_
  intro p e s m args below meth c X hr hlk H locs ls hP hS hl
  have hl : lv_has ls 1 [(0, .int a0)] := hl
  obtain ⟨hx, hb, hml, hown, hts, hE⟩ := id X
  unfold f_X9_isSheet at hf
  refine lv_iload_n hx hb dX9_isSheet_0 rfl (lv_at hl 0 rfl) ?_
  refine lv_iconst (v := 0) hx hb dX9_isSheet_1 (by decide) ?_
  refine lv_iconst (v := 3) hx hb dX9_isSheet_2 (by decide) ?_
  refine x_cSi (As := [.int a0, .int (0 : Int32), .int (3 : Int32)]) (rest := []) X hP hS kc_X9_68 (c_X9_in l G  S a0 (0 : Int32) (3 : Int32) _ rfl) ⟨Nat.le_of_ble_eq_true rfl, Nat.le_of_ble_eq_true rfl⟩ rfl hl.1 rfl (Nat.le_of_ble_eq_true rfl) ⟨Nat.zero_le _, Nat.zero_le _⟩ dX9_isSheet_3 (fun H locs hP hS => ?_)
  exact x_zret X hr hlk hP hS (fb_X9_in a0 (0 : Int32) (3 : Int32)) (hf) (rfl) dX9_isSheet_6
def f_X9_meets (S : xS) (a1 : Int32) : Int32 × xS :=
  ((-10 : Int32) - a1, xst S 34 20 a1)
set_option maxHeartbeats 4000000 in
set_option maxRecDepth 100000 in
theorem c_X9_meets (l : Launch) (G : xG)  (S : xS) (a1 : Int32) (r : Int32) (S' : xS) (hf : f_X9_meets S a1 = (r, S')) : xMi l G yX9_meets cX9_meets 2 (some .int) 0 0 [.ref (G.2.2 34), .int a1] S r S' := by
  refine xMi_of (own := RX9) (by decide +kernel) rfl (Nat.le_of_ble_eq_true rfl) ?_
  intro p e s m args below meth c X hr hlk H locs ls hP hS hl
  have hl : lv_has ls 2 [(0, .ref (G.2.2 34)), (1, .int a1)] := hl
  obtain ⟨hx, hb, hml, hown, hts, hE⟩ := id X
  unfold f_X9_meets at hf
  refine lv_aload_n hx hb dX9_meets_0 rfl (lv_at hl 0 rfl) ?_
  refine lv_iload_n hx hb dX9_meets_1 rfl (lv_at hl 1 rfl) ?_
  refine x_putI X hP hS fp_X9_194 (by decide) rfl rfl dX9_meets_2 (fun H locs hP hS => ?_)
  refine lv_bipush (v := (-10)) hx hb dX9_meets_5 (by decide) ?_
  refine lv_iload_n hx hb dX9_meets_7 rfl (lv_at hl 1 rfl) ?_
  refine lv_isub hx hb dX9_meets_8 ?_
  exact x_iret X hr hlk hP hS  ((Prod.mk.inj (hf)).1) ((Prod.mk.inj (hf)).2) dX9_meets_9
def b_X9_read_27 (n : Nat) (k27 : xS → Int32 → Int32 → Option (Int32 × xS)) (S : xS) (a1 : Int32) (a2 : Int32) : Option (Int32 × xS) :=
  xg (xin a1 4) ((if (S.1 50 a1.toNatClampNeg) ≤ a2 then some (a2, S) else (if (10 : Int32) ≤ a2 then some (a2, S) else xg (xin (((48 : Int32) * a1) + a2) 192) ((if (f_X9_isFound (S.1 51 (((48 : Int32) * a1) + a2).toNatClampNeg)) = 0 then some (a2, S) else xg (xin (((48 : Int32) * a1) + a2) 192) (xg (xin a2 10) (k27 (xst S 42 a2.toNatClampNeg (S.1 51 (((48 : Int32) * a1) + a2).toNatClampNeg)) a1 (a2 + 1))))))))
def l_X9_read_27 (n : Nat) : Nat → xS → Int32 → Int32 → Option (Int32 × xS)
  | 0, _, _, _ => none
  | j + 1, S, a1, a2 => b_X9_read_27 n (l_X9_read_27 n j) S a1 a2
set_option maxHeartbeats 4000000 in
set_option maxRecDepth 100000 in
theorem t_X9_read_27 {p : Program} {l : Launch} {e : Env} {s : State} {m : MethodId} {args : Array Value} {below : List Frame} {meth : Method} {c : Code} {G : xG} (X : xC p s m args c G RX9 cX9_read 3) (hr : meth.sig.returnType = (some .int)) (hlk : meth.locks = false) {n : Nat} {r : Int32} {S' : xS} : ∀ (j : Nat) (S : xS) (a1 : Int32) (a2 : Int32), l_X9_read_27 n j S a1 a2 = some (r, S') → xGo p l e { frames := 2, cells := 0, slots := 0, locals := 42 } s m args below meth c G 3 0 0 (MQ below (xQi G r S') args s 0 0 (xA G)) S 27 [(0, .ref (G.2.2 34)), (1, .int a1), (2, .int a2)] [] := by
  intro j
  induction j with
  | zero => intro S a1 a2 hf; exact nomatch (show (none : Option (Int32 × xS)) = _ from hf)
  | succ j ih =>
    intro S a1 a2 hf H locs ls hP hS hl
    have hf : b_X9_read_27 n (l_X9_read_27 n j) S a1 a2 = some (r, S') := hf
    unfold b_X9_read_27 at hf
    obtain ⟨hx, hb, hml, hown, hts, hE⟩ := id X
    refine lv_iload_n hx hb dX9_read_27 rfl (lv_at hl 2 rfl) ?_
    refine lv_aload_n hx hb dX9_read_28 rfl (lv_at hl 0 rfl) ?_
    refine x_getR X hP fl_X9_57 (by decide) rfl rfl dX9_read_29 ?_
    refine lv_iload_n hx hb dX9_read_32 rfl (lv_at hl 1 rfl) ?_
    obtain ⟨g4, hf⟩ := xg_some hf
    refine x_iald X hP (by decide) rfl g4 dX9_read_33 ?_
    refine lv_icmp_ge (tgt := 83) hx hb dX9_read_34 (by decide) (fun e5 => ?_) (fun e5 => ?_)
    · have hf := xif_t hf e5
      refine lv_iload_n hx hb dX9_read_83 rfl (lv_at hl 2 rfl) ?_
      exact x_iret X hr hlk hP hS  ((Prod.mk.inj (Option.some.inj hf)).1) ((Prod.mk.inj (Option.some.inj hf)).2) dX9_read_84
    · have hf := xif_f hf e5
      refine lv_iload_n hx hb dX9_read_37 rfl (lv_at hl 2 rfl) ?_
      refine lv_bipush (v := 10) hx hb dX9_read_38 (by decide) ?_
      refine lv_icmp_ge (tgt := 83) hx hb dX9_read_40 (by decide) (fun e6 => ?_) (fun e6 => ?_)
      · have hf := xif_t hf e6
        refine lv_iload_n hx hb dX9_read_83 rfl (lv_at hl 2 rfl) ?_
        exact x_iret X hr hlk hP hS  ((Prod.mk.inj (Option.some.inj hf)).1) ((Prod.mk.inj (Option.some.inj hf)).2) dX9_read_84
      · have hf := xif_f hf e6
        refine lv_aload_n hx hb dX9_read_43 rfl (lv_at hl 0 rfl) ?_
        refine x_getR X hP fl_X9_60 (by decide) rfl rfl dX9_read_44 ?_
        refine lv_bipush (v := 48) hx hb dX9_read_47 (by decide) ?_
        refine lv_iload_n hx hb dX9_read_49 rfl (lv_at hl 1 rfl) ?_
        refine lv_imul hx hb dX9_read_50 ?_
        refine lv_iload_n hx hb dX9_read_51 rfl (lv_at hl 2 rfl) ?_
        refine lv_iadd hx hb dX9_read_52 ?_
        obtain ⟨g7, hf⟩ := xg_some hf
        refine x_iald X hP (by decide) rfl g7 dX9_read_53 ?_
        refine x_cSi (As := [.int (S.1 51 (((48 : Int32) * a1) + a2).toNatClampNeg)]) (rest := []) X hP hS kc_X9_140 (c_X9_isFound l G  S (S.1 51 (((48 : Int32) * a1) + a2).toNatClampNeg) _ rfl) ⟨Nat.le_of_ble_eq_true rfl, Nat.le_of_ble_eq_true rfl⟩ rfl hl.1 rfl (Nat.le_of_ble_eq_true rfl) ⟨Nat.zero_le _, Nat.zero_le _⟩ dX9_read_54 (fun H locs hP hS => ?_)
        refine lv_if_eq (tgt := 83) hx hb dX9_read_57 (by decide) (fun e8 => ?_) (fun e8 => ?_)
        · have hf := xif_t hf e8
          refine lv_iload_n hx hb dX9_read_83 rfl (lv_at hl 2 rfl) ?_
          exact x_iret X hr hlk hP hS  ((Prod.mk.inj (Option.some.inj hf)).1) ((Prod.mk.inj (Option.some.inj hf)).2) dX9_read_84
        · have hf := xif_f hf e8
          refine lv_aload_n hx hb dX9_read_60 rfl (lv_at hl 0 rfl) ?_
          refine x_getR X hP fl_X9_31 (by decide) rfl rfl dX9_read_61 ?_
          refine lv_iload_n hx hb dX9_read_64 rfl (lv_at hl 2 rfl) ?_
          refine lv_aload_n hx hb dX9_read_65 rfl (lv_at hl 0 rfl) ?_
          refine x_getR X hP fl_X9_60 (by decide) rfl rfl dX9_read_66 ?_
          refine lv_bipush (v := 48) hx hb dX9_read_69 (by decide) ?_
          refine lv_iload_n hx hb dX9_read_71 rfl (lv_at hl 1 rfl) ?_
          refine lv_imul hx hb dX9_read_72 ?_
          refine lv_iload_n hx hb dX9_read_73 rfl (lv_at hl 2 rfl) ?_
          refine lv_iadd hx hb dX9_read_74 ?_
          obtain ⟨g9, hf⟩ := xg_some hf
          refine x_iald X hP (by decide) rfl g9 dX9_read_75 ?_
          obtain ⟨g10, hf⟩ := xg_some hf
          refine x_iast X hP hS (by decide) rfl g10 dX9_read_76 (fun H locs hP hS => ?_)
          refine lv_iinc (v := a2 + 1) (lv' := [(2, .int (a2 + 1)), (0, .ref (G.2.2 34)), (1, .int a1)]) hx hb dX9_read_77 hl (k := 2) rfl rfl (by decide) rfl (fun ls hl => ?_)
          refine lv_goto (tgt := 27) hx hb dX9_read_80 (by decide) ?_
          exact ih (xst S 42 a2.toNatClampNeg (S.1 51 (((48 : Int32) * a1) + a2).toNatClampNeg)) a1 (a2 + 1) hf H locs ls hP hS (lv_sub hl [1, 2, 0] rfl)
def f_X9_read (n : Nat) (S : xS) (a1 : Int32) : Option (Int32 × xS) :=
  (if (f_X9_isSheet a1) = 0 then some ((-2 : Int32), S) else xg (xin a1 4) ((if (S.1 48 a1.toNatClampNeg) = 0 then some ((f_X9_meets S (1 : Int32)).1, (f_X9_meets S (1 : Int32)).2) else l_X9_read_27 n n S a1 (0 : Int32))))
set_option maxHeartbeats 4000000 in
set_option maxRecDepth 100000 in
theorem c_X9_read (l : Launch) (G : xG) (n : Nat)  (S : xS) (a1 : Int32) (r : Int32) (S' : xS) (hf : f_X9_read n S a1 = some (r, S')) : xMi l G yX9_read cX9_read 3 (some .int) 2 42 [.ref (G.2.2 34), .int a1] S r S' := by
  refine xMi_of (own := RX9) (by decide +kernel) rfl (Nat.le_of_ble_eq_true rfl) ?_
  intro p e s m args below meth c X hr hlk H locs ls hP hS hl
  have hl : lv_has ls 3 [(0, .ref (G.2.2 34)), (1, .int a1)] := hl
  obtain ⟨hx, hb, hml, hown, hts, hE⟩ := id X
  unfold f_X9_read at hf
  refine lv_iload_n hx hb dX9_read_0 rfl (lv_at hl 1 rfl) ?_
  refine x_cSi (As := [.int a1]) (rest := []) X hP hS kc_X9_143 (c_X9_isSheet l G  S a1 _ rfl) ⟨Nat.le_of_ble_eq_true rfl, Nat.le_of_ble_eq_true rfl⟩ rfl hl.1 rfl (Nat.le_of_ble_eq_true rfl) ⟨Nat.zero_le _, Nat.zero_le _⟩ dX9_read_1 (fun H locs hP hS => ?_)
  refine lv_if_ne (tgt := 10) hx hb dX9_read_4 (by decide) (fun e1 => ?_) (fun e1 => ?_)
  · have hf := xif_f hf e1
    refine lv_aload_n hx hb dX9_read_10 rfl (lv_at hl 0 rfl) ?_
    refine x_getR X hP fl_X9_50 (by decide) rfl rfl dX9_read_11 ?_
    refine lv_iload_n hx hb dX9_read_14 rfl (lv_at hl 1 rfl) ?_
    obtain ⟨g2, hf⟩ := xg_some hf
    refine x_zald X hP (by decide) rfl g2 dX9_read_15 ?_
    refine lv_if_ne (tgt := 25) hx hb dX9_read_16 (by decide) (fun e3 => ?_) (fun e3 => ?_)
    · have hf := xif_f hf e3
      refine lv_iconst (v := 0) hx hb dX9_read_25 (by decide) ?_
      refine lv_istore_n (lv' := [(2, .int (0 : Int32)), (0, .ref (G.2.2 34)), (1, .int a1)]) hx hb dX9_read_26 rfl hl (by decide) rfl (fun ls hl => ?_)
      exact t_X9_read_27 X hr hlk   n S a1 (0 : Int32) hf H locs ls hP hS (lv_sub hl [1, 2, 0] rfl)
    · have hf := xif_t hf e3
      refine lv_aload_n hx hb dX9_read_19 rfl (lv_at hl 0 rfl) ?_
      refine lv_iconst (v := 1) hx hb dX9_read_20 (by decide) ?_
      refine x_cVi (As := [.int (1 : Int32)]) (rest := []) X hP hS kc_X9_146 (c_X9_meets l G  S (1 : Int32) (f_X9_meets S (1 : Int32)).1 (f_X9_meets S (1 : Int32)).2 rfl) ⟨Nat.le_of_ble_eq_true rfl, Nat.le_of_ble_eq_true rfl⟩ (by decide) rfl rfl rfl hl.1 rfl (Nat.le_of_ble_eq_true rfl) ⟨Nat.zero_le _, Nat.zero_le _⟩ dX9_read_21 (fun H locs hP hS => ?_)
      exact x_iret X hr hlk hP hS  ((Prod.mk.inj (Option.some.inj hf)).1) ((Prod.mk.inj (Option.some.inj hf)).2) dX9_read_24
  · have hf := xif_t hf e1
    refine lv_bipush (v := (-2)) hx hb dX9_read_7 (by decide) ?_
    exact x_iret X hr hlk hP hS  ((Prod.mk.inj (Option.some.inj hf)).1) ((Prod.mk.inj (Option.some.inj hf)).2) dX9_read_9
def b_X0_fitBits_5 (n : Nat) (k5 : Int32 → Int32 → Int32 → Int32 → Option Int32) (S : xS) (a1 : Int32) (a2 : Int32) (a3 : Int32) (a4 : Int32) : Option Int32 :=
  (if (9 : Int32) ≤ a4 then some a3 else xg (xin a1 10) ((f_X2_toParts n S (S.1 10 a1.toNatClampNeg) (a4 / (3 : Int32)) (a4 - a4 / (3 : Int32) * (3 : Int32))).bind fun r3 => (xg (xin a1 10) ((if (S.1 16 a1.toNatClampNeg) = (-1 : Int32) then k5 a1 a2 (a3 ||| ((1 : Int32) <<< (a4 &&& 31))) (a4 + 1) else xg (xin a1 10) ((if a2 < (xabs (r3 - (S.1 16 a1.toNatClampNeg))) then k5 a1 a2 a3 (a4 + 1) else k5 a1 a2 (a3 ||| ((1 : Int32) <<< (a4 &&& 31))) (a4 + 1))))))))
def l_X0_fitBits_5 (n : Nat) (S : xS) : Nat → Int32 → Int32 → Int32 → Int32 → Option Int32
  | 0, _, _, _, _ => none
  | j + 1, a1, a2, a3, a4 => b_X0_fitBits_5 n (l_X0_fitBits_5 n S j) S a1 a2 a3 a4
set_option maxHeartbeats 4000000 in
set_option maxRecDepth 100000 in
theorem t_X0_fitBits_5 {p : Program} {l : Launch} {e : Env} {s : State} {m : MethodId} {args : Array Value} {below : List Frame} {meth : Method} {c : Code} {G : xG} (X : xC p s m args c G RX0 cX0_fitBits 6) (hr : meth.sig.returnType = (some .int)) (hlk : meth.locks = false) {n : Nat} {r : Int32} {S : xS} : ∀ (j : Nat) (a1 : Int32) (a2 : Int32) (a3 : Int32) (a4 : Int32), l_X0_fitBits_5 n S j a1 a2 a3 a4 = some r → xGo p l e { frames := 1, cells := 0, slots := 0, locals := 27 } s m args below meth c G 6 0 0 (MQ below (xQi G r S) args s 0 0 (xA G)) S 5 [(0, .ref (G.2.2 15)), (1, .int a1), (2, .int a2), (3, .int a3), (4, .int a4)] [] := by
  intro j
  induction j with
  | zero => intro a1 a2 a3 a4 hf; exact nomatch (show (none : Option Int32) = _ from hf)
  | succ j ih =>
    intro a1 a2 a3 a4 hf H locs ls hP hS hl
    have hf : b_X0_fitBits_5 n (l_X0_fitBits_5 n S j) S a1 a2 a3 a4 = some r := hf
    unfold b_X0_fitBits_5 at hf
    obtain ⟨hx, hb, hml, hown, hts, hE⟩ := id X
    refine lv_iload hx hb dX0_fitBits_5 (lv_at hl 4 rfl) ?_
    refine lv_bipush (v := 9) hx hb dX0_fitBits_7 (by decide) ?_
    refine lv_icmp_ge (tgt := 77) hx hb dX0_fitBits_9 (by decide) (fun e1 => ?_) (fun e1 => ?_)
    · have hf := xif_t hf e1
      refine lv_iload_n hx hb dX0_fitBits_77 rfl (lv_at hl 3 rfl) ?_
      exact x_iret X hr hlk hP hS  (Option.some.inj hf) (rfl) dX0_fitBits_78
    · have hf := xif_f hf e1
      refine lv_aload_n hx hb dX0_fitBits_12 rfl (lv_at hl 0 rfl) ?_
      refine x_getR X hP fl_X0_19 (by decide) rfl rfl dX0_fitBits_13 ?_
      refine lv_aload_n hx hb dX0_fitBits_16 rfl (lv_at hl 0 rfl) ?_
      refine x_getR X hP fl_X0_23 (by decide) rfl rfl dX0_fitBits_17 ?_
      refine x_getRN X hP fn_X0_33 (by decide) rfl rfl dX0_fitBits_20 ?_
      refine lv_iload_n hx hb dX0_fitBits_23 rfl (lv_at hl 1 rfl) ?_
      obtain ⟨g2, hf⟩ := xg_some hf
      refine x_iald X hP (by decide) rfl g2 dX0_fitBits_24 ?_
      refine lv_iload hx hb dX0_fitBits_25 (lv_at hl 4 rfl) ?_
      refine lv_iconst (v := 3) hx hb dX0_fitBits_27 (by decide) ?_
      refine lv_idiv hx hb dX0_fitBits_28 (by decide) ?_
      refine lv_iload hx hb dX0_fitBits_29 (lv_at hl 4 rfl) ?_
      refine lv_iconst (v := 3) hx hb dX0_fitBits_31 (by decide) ?_
      refine lv_irem hx hb dX0_fitBits_32 (by decide) ?_
      obtain ⟨r3, h4, hf⟩ := xb_some hf
      refine x_cVi (As := [.int (S.1 10 a1.toNatClampNeg), .int (a4 / (3 : Int32)), .int (a4 - a4 / (3 : Int32) * (3 : Int32))]) (rest := []) X hP hS kc_X0_38 (c_X2_toParts l G n S (S.1 10 a1.toNatClampNeg) (a4 / (3 : Int32)) (a4 - a4 / (3 : Int32) * (3 : Int32)) _ h4) ⟨Nat.le_of_ble_eq_true rfl, Nat.le_of_ble_eq_true rfl⟩ (by decide) rfl rfl rfl hl.1 rfl (Nat.le_of_ble_eq_true rfl) ⟨Nat.zero_le _, Nat.zero_le _⟩ dX0_fitBits_33 (fun H locs hP hS => ?_)
      refine lv_istore (lv' := [(5, .int r3), (0, .ref (G.2.2 15)), (1, .int a1), (2, .int a2), (3, .int a3), (4, .int a4)]) hx hb dX0_fitBits_36 hl (by decide) rfl (fun ls hl => ?_)
      refine lv_aload_n hx hb dX0_fitBits_38 rfl (lv_at hl 1 rfl) ?_
      refine x_getR X hP fl_X0_9 (by decide) rfl rfl dX0_fitBits_39 ?_
      refine lv_iload_n hx hb dX0_fitBits_42 rfl (lv_at hl 2 rfl) ?_
      obtain ⟨g5, hf⟩ := xg_some hf
      refine x_iald X hP (by decide) rfl g5 dX0_fitBits_43 ?_
      refine lv_iconst (v := (-1)) hx hb dX0_fitBits_44 (by decide) ?_
      refine lv_icmp_eq (tgt := 64) hx hb dX0_fitBits_45 (by decide) (fun e6 => ?_) (fun e6 => ?_)
      · have hf := xif_t hf e6
        refine lv_iload_n hx hb dX0_fitBits_64 rfl (lv_at hl 4 rfl) ?_
        refine lv_iconst (v := 1) hx hb dX0_fitBits_65 (by decide) ?_
        refine lv_iload hx hb dX0_fitBits_66 (lv_at hl 5 rfl) ?_
        refine lv_ishl hx hb dX0_fitBits_68 ?_
        refine lv_ior hx hb dX0_fitBits_69 ?_
        refine lv_istore_n (lv' := [(3, .int (a3 ||| ((1 : Int32) <<< (a4 &&& 31)))), (5, .int r3), (0, .ref (G.2.2 15)), (1, .int a1), (2, .int a2), (4, .int a4)]) hx hb dX0_fitBits_70 rfl hl (by decide) rfl (fun ls hl => ?_)
        refine lv_iinc (v := a4 + 1) (lv' := [(4, .int (a4 + 1)), (3, .int (a3 ||| ((1 : Int32) <<< (a4 &&& 31)))), (5, .int r3), (0, .ref (G.2.2 15)), (1, .int a1), (2, .int a2)]) hx hb dX0_fitBits_71 hl (k := 5) rfl rfl (by decide) rfl (fun ls hl => ?_)
        refine lv_goto (tgt := 5) hx hb dX0_fitBits_74 (by decide) ?_
        exact ih a1 a2 (a3 ||| ((1 : Int32) <<< (a4 &&& 31))) (a4 + 1) hf H locs ls hP hS (lv_sub hl [3, 4, 5, 1, 0] rfl)
      · have hf := xif_f hf e6
        refine lv_iload hx hb dX0_fitBits_48 (lv_at hl 0 rfl) ?_
        refine lv_aload_n hx hb dX0_fitBits_50 rfl (lv_at hl 1 rfl) ?_
        refine x_getR X hP fl_X0_9 (by decide) rfl rfl dX0_fitBits_51 ?_
        refine lv_iload_n hx hb dX0_fitBits_54 rfl (lv_at hl 2 rfl) ?_
        obtain ⟨g7, hf⟩ := xg_some hf
        refine x_iald X hP (by decide) rfl g7 dX0_fitBits_55 ?_
        refine lv_isub hx hb dX0_fitBits_56 ?_
        refine x_mabs X kw_487 hl.1 ⟨Nat.le_of_ble_eq_true rfl, Nat.le_of_ble_eq_true rfl⟩ ⟨Nat.zero_le _, Nat.zero_le _⟩ dX0_fitBits_57 ?_
        refine lv_iload_n hx hb dX0_fitBits_60 rfl (lv_at hl 3 rfl) ?_
        refine lv_icmp_gt (tgt := 71) hx hb dX0_fitBits_61 (by decide) (fun e8 => ?_) (fun e8 => ?_)
        · have hf := xif_t hf e8
          refine lv_iinc (v := a4 + 1) (lv' := [(4, .int (a4 + 1)), (5, .int r3), (0, .ref (G.2.2 15)), (1, .int a1), (2, .int a2), (3, .int a3)]) hx hb dX0_fitBits_71 hl (k := 5) rfl rfl (by decide) rfl (fun ls hl => ?_)
          refine lv_goto (tgt := 5) hx hb dX0_fitBits_74 (by decide) ?_
          exact ih a1 a2 a3 (a4 + 1) hf H locs ls hP hS (lv_sub hl [2, 3, 4, 5, 0] rfl)
        · have hf := xif_f hf e8
          refine lv_iload_n hx hb dX0_fitBits_64 rfl (lv_at hl 4 rfl) ?_
          refine lv_iconst (v := 1) hx hb dX0_fitBits_65 (by decide) ?_
          refine lv_iload hx hb dX0_fitBits_66 (lv_at hl 5 rfl) ?_
          refine lv_ishl hx hb dX0_fitBits_68 ?_
          refine lv_ior hx hb dX0_fitBits_69 ?_
          refine lv_istore_n (lv' := [(3, .int (a3 ||| ((1 : Int32) <<< (a4 &&& 31)))), (5, .int r3), (0, .ref (G.2.2 15)), (1, .int a1), (2, .int a2), (4, .int a4)]) hx hb dX0_fitBits_70 rfl hl (by decide) rfl (fun ls hl => ?_)
          refine lv_iinc (v := a4 + 1) (lv' := [(4, .int (a4 + 1)), (3, .int (a3 ||| ((1 : Int32) <<< (a4 &&& 31)))), (5, .int r3), (0, .ref (G.2.2 15)), (1, .int a1), (2, .int a2)]) hx hb dX0_fitBits_71 hl (k := 5) rfl rfl (by decide) rfl (fun ls hl => ?_)
          refine lv_goto (tgt := 5) hx hb dX0_fitBits_74 (by decide) ?_
          exact ih a1 a2 (a3 ||| ((1 : Int32) <<< (a4 &&& 31))) (a4 + 1) hf H locs ls hP hS (lv_sub hl [3, 4, 5, 1, 0] rfl)
def f_X0_fitBits (n : Nat) (S : xS) (a1 : Int32) (a2 : Int32) : Option Int32 :=
  l_X0_fitBits_5 n S n a1 a2 (0 : Int32) (0 : Int32)
set_option maxHeartbeats 4000000 in
set_option maxRecDepth 100000 in
theorem c_X0_fitBits (l : Launch) (G : xG) (n : Nat)  (S : xS) (a1 : Int32) (a2 : Int32) (r : Int32) (hf : f_X0_fitBits n S a1 a2 = some r) : xMi l G yX0_fitBits cX0_fitBits 6 (some .int) 1 27 [.ref (G.2.2 15), .int a1, .int a2] S r S := by
  refine xMi_of (own := RX0) (by decide +kernel) rfl (Nat.le_of_ble_eq_true rfl) ?_
  intro p e s m args below meth c X hr hlk H locs ls hP hS hl
  have hl : lv_has ls 6 [(0, .ref (G.2.2 15)), (1, .int a1), (2, .int a2)] := hl
  obtain ⟨hx, hb, hml, hown, hts, hE⟩ := id X
  unfold f_X0_fitBits at hf
  refine lv_iconst (v := 0) hx hb dX0_fitBits_0 (by decide) ?_
  refine lv_istore_n (lv' := [(3, .int (0 : Int32)), (0, .ref (G.2.2 15)), (1, .int a1), (2, .int a2)]) hx hb dX0_fitBits_1 rfl hl (by decide) rfl (fun ls hl => ?_)
  refine lv_iconst (v := 0) hx hb dX0_fitBits_2 (by decide) ?_
  refine lv_istore (lv' := [(4, .int (0 : Int32)), (3, .int (0 : Int32)), (0, .ref (G.2.2 15)), (1, .int a1), (2, .int a2)]) hx hb dX0_fitBits_3 hl (by decide) rfl (fun ls hl => ?_)
  exact t_X0_fitBits_5 X hr hlk   n a1 a2 (0 : Int32) (0 : Int32) hf H locs ls hP hS (lv_sub hl [2, 3, 4, 1, 0] rfl)
def f_X8_fits (n : Nat) (S : xS) (a1 : Int32) : Option Int32 :=
  (if (f_X8_isFloor S a1) = 0 then some (-2 : Int32) else (f_X0_fitBits n S a1 (S.1 33 (0 : Int32).toNatClampNeg)).bind fun r2 => (some r2))
set_option maxHeartbeats 4000000 in
set_option maxRecDepth 100000 in
theorem c_X8_fits (l : Launch) (G : xG) (n : Nat)  (S : xS) (a1 : Int32) (r : Int32) (hf : f_X8_fits n S a1 = some r) : xMi l G yX8_fits cX8_fits 2 (some .int) 2 52 [.ref (G.2.2 0), .int a1] S r S := by
  refine xMi_of (own := RX8) (by decide +kernel) rfl (Nat.le_of_ble_eq_true rfl) ?_
  intro p e s m args below meth c X hr hlk H locs ls hP hS hl
  have hl : lv_has ls 2 [(0, .ref (G.2.2 0)), (1, .int a1)] := hl
  obtain ⟨hx, hb, hml, hown, hts, hE⟩ := id X
  unfold f_X8_fits at hf
  refine lv_aload_n hx hb dX8_fits_0 rfl (lv_at hl 0 rfl) ?_
  refine lv_iload_n hx hb dX8_fits_1 rfl (lv_at hl 1 rfl) ?_
  refine x_cVi (As := [.int a1]) (rest := []) X hP hS kc_X8_104 (c_X8_isFloor l G  S a1 _ rfl) ⟨Nat.le_of_ble_eq_true rfl, Nat.le_of_ble_eq_true rfl⟩ (by decide) rfl rfl rfl hl.1 rfl (Nat.le_of_ble_eq_true rfl) ⟨Nat.zero_le _, Nat.zero_le _⟩ dX8_fits_2 (fun H locs hP hS => ?_)
  refine lv_if_eq (tgt := 25) hx hb dX8_fits_5 (by decide) (fun e1 => ?_) (fun e1 => ?_)
  · have hf := xif_t hf e1
    refine lv_bipush (v := (-2)) hx hb dX8_fits_25 (by decide) ?_
    exact x_iret X hr hlk hP hS  (Option.some.inj hf) (rfl) dX8_fits_27
  · have hf := xif_f hf e1
    refine lv_aload_n hx hb dX8_fits_8 rfl (lv_at hl 0 rfl) ?_
    refine x_getR X hP fl_X8_41 (by decide) rfl rfl dX8_fits_9 ?_
    refine lv_iload_n hx hb dX8_fits_12 rfl (lv_at hl 1 rfl) ?_
    refine lv_aload_n hx hb dX8_fits_13 rfl (lv_at hl 0 rfl) ?_
    refine x_getR X hP fl_X8_7 (by decide) rfl rfl dX8_fits_14 ?_
    refine lv_iconst (v := 0) hx hb dX8_fits_17 (by decide) ?_
    refine x_iald X hP (by decide) rfl (by decide) dX8_fits_18 ?_
    obtain ⟨r2, h3, hf⟩ := xb_some hf
    refine x_cVi (As := [.int a1, .int (S.1 33 (0 : Int32).toNatClampNeg)]) (rest := []) X hP hS kc_X8_194 (c_X0_fitBits l G n S a1 (S.1 33 (0 : Int32).toNatClampNeg) _ h3) ⟨Nat.le_of_ble_eq_true rfl, Nat.le_of_ble_eq_true rfl⟩ (by decide) rfl rfl rfl hl.1 rfl (Nat.le_of_ble_eq_true rfl) ⟨Nat.zero_le _, Nat.zero_le _⟩ dX8_fits_19 (fun H locs hP hS => ?_)
    refine lv_goto (tgt := 27) hx hb dX8_fits_22 (by decide) ?_
    exact x_iret X hr hlk hP hS  (Option.some.inj hf) (rfl) dX8_fits_27
def f_X9_isFit (n : Nat) (S : xS) (a1 : Int32) (a2 : Int32) : Option Int32 :=
  xg (xin a1 10) ((if (S.1 42 a1.toNatClampNeg) = (-1 : Int32) then some (1 : Int32) else xg (xin a1 11) ((f_X9_cutBy n S (S.1 39 a1.toNatClampNeg) a2).bind fun r4 => (xg (xin a1 10) ((if (S.1 37 (0 : Int32).toNatClampNeg) < (f_X9_amount (r4 - (S.1 42 a1.toNatClampNeg))) then some (0 : Int32) else some (1 : Int32)))))))
set_option maxHeartbeats 4000000 in
set_option maxRecDepth 100000 in
theorem c_X9_isFit (l : Launch) (G : xG) (n : Nat)  (S : xS) (a1 : Int32) (a2 : Int32) (r : Int32) (hf : f_X9_isFit n S a1 a2 = some r) : xMi l G yX9_isFit cX9_isFit 3 (some .boolean) 1 26 [.ref (G.2.2 34), .int a1, .int a2] S r S := by
  refine xMi_of (own := RX9) (by decide +kernel) rfl (Nat.le_of_ble_eq_true rfl) ?_
  intro p e s m args below meth c X hr hlk H locs ls hP hS hl
  have hl : lv_has ls 3 [(0, .ref (G.2.2 34)), (1, .int a1), (2, .int a2)] := hl
  obtain ⟨hx, hb, hml, hown, hts, hE⟩ := id X
  unfold f_X9_isFit at hf
  refine lv_aload_n hx hb dX9_isFit_0 rfl (lv_at hl 0 rfl) ?_
  refine x_getR X hP fl_X9_31 (by decide) rfl rfl dX9_isFit_1 ?_
  refine lv_iload_n hx hb dX9_isFit_4 rfl (lv_at hl 1 rfl) ?_
  obtain ⟨g1, hf⟩ := xg_some hf
  refine x_iald X hP (by decide) rfl g1 dX9_isFit_5 ?_
  refine lv_iconst (v := (-1)) hx hb dX9_isFit_6 (by decide) ?_
  refine lv_icmp_eq (tgt := 40) hx hb dX9_isFit_7 (by decide) (fun e2 => ?_) (fun e2 => ?_)
  · have hf := xif_t hf e2
    refine lv_iconst (v := 1) hx hb dX9_isFit_40 (by decide) ?_
    refine lv_goto (tgt := 45) hx hb dX9_isFit_41 (by decide) ?_
    exact x_zret X hr hlk hP hS (Or.inr rfl) (Option.some.inj hf) (rfl) dX9_isFit_45
  · have hf := xif_f hf e2
    refine lv_aload_n hx hb dX9_isFit_10 rfl (lv_at hl 0 rfl) ?_
    refine lv_aload_n hx hb dX9_isFit_11 rfl (lv_at hl 0 rfl) ?_
    refine x_getR X hP fl_X9_22 (by decide) rfl rfl dX9_isFit_12 ?_
    refine lv_iload_n hx hb dX9_isFit_15 rfl (lv_at hl 1 rfl) ?_
    obtain ⟨g3, hf⟩ := xg_some hf
    refine x_iald X hP (by decide) rfl g3 dX9_isFit_16 ?_
    refine lv_iload_n hx hb dX9_isFit_17 rfl (lv_at hl 2 rfl) ?_
    obtain ⟨r4, h5, hf⟩ := xb_some hf
    refine x_cVi (As := [.int (S.1 39 a1.toNatClampNeg), .int a2]) (rest := []) X hP hS kc_X9_93 (c_X9_cutBy l G n S (S.1 39 a1.toNatClampNeg) a2 _ h5) ⟨Nat.le_of_ble_eq_true rfl, Nat.le_of_ble_eq_true rfl⟩ (by decide) rfl rfl rfl hl.1 rfl (Nat.le_of_ble_eq_true rfl) ⟨Nat.zero_le _, Nat.zero_le _⟩ dX9_isFit_18 (fun H locs hP hS => ?_)
    refine lv_aload_n hx hb dX9_isFit_21 rfl (lv_at hl 0 rfl) ?_
    refine x_getR X hP fl_X9_31 (by decide) rfl rfl dX9_isFit_22 ?_
    refine lv_iload_n hx hb dX9_isFit_25 rfl (lv_at hl 1 rfl) ?_
    obtain ⟨g6, hf⟩ := xg_some hf
    refine x_iald X hP (by decide) rfl g6 dX9_isFit_26 ?_
    refine lv_isub hx hb dX9_isFit_27 ?_
    refine x_cSi (As := [.int (r4 - (S.1 42 a1.toNatClampNeg))]) (rest := []) X hP hS kc_X9_115 (c_X9_amount l G  S (r4 - (S.1 42 a1.toNatClampNeg)) _ rfl) ⟨Nat.le_of_ble_eq_true rfl, Nat.le_of_ble_eq_true rfl⟩ rfl hl.1 rfl (Nat.le_of_ble_eq_true rfl) ⟨Nat.zero_le _, Nat.zero_le _⟩ dX9_isFit_28 (fun H locs hP hS => ?_)
    refine lv_aload_n hx hb dX9_isFit_31 rfl (lv_at hl 0 rfl) ?_
    refine x_getR X hP fl_X9_16 (by decide) rfl rfl dX9_isFit_32 ?_
    refine lv_iconst (v := 0) hx hb dX9_isFit_35 (by decide) ?_
    refine x_iald X hP (by decide) rfl (by decide) dX9_isFit_36 ?_
    refine lv_icmp_gt (tgt := 44) hx hb dX9_isFit_37 (by decide) (fun e7 => ?_) (fun e7 => ?_)
    · have hf := xif_t hf e7
      refine lv_iconst (v := 0) hx hb dX9_isFit_44 (by decide) ?_
      exact x_zret X hr hlk hP hS (Or.inl rfl) (Option.some.inj hf) (rfl) dX9_isFit_45
    · have hf := xif_f hf e7
      refine lv_iconst (v := 1) hx hb dX9_isFit_40 (by decide) ?_
      refine lv_goto (tgt := 45) hx hb dX9_isFit_41 (by decide) ?_
      exact x_zret X hr hlk hP hS (Or.inr rfl) (Option.some.inj hf) (rfl) dX9_isFit_45
def b_X9_fitsOf_4 (n : Nat) (k4 : Int32 → Int32 → Int32 → Option Int32) (S : xS) (a1 : Int32) (a2 : Int32) (a3 : Int32) : Option Int32 :=
  (if (9 : Int32) ≤ a3 then some a2 else (f_X9_isFit n S a1 a3).bind fun r2 => ((if r2 = 0 then k4 a1 (a2 ||| (0 : Int32)) (a3 + 1) else k4 a1 (a2 ||| ((1 : Int32) <<< (a3 &&& 31))) (a3 + 1))))
def l_X9_fitsOf_4 (n : Nat) (S : xS) : Nat → Int32 → Int32 → Int32 → Option Int32
  | 0, _, _, _ => none
  | j + 1, a1, a2, a3 => b_X9_fitsOf_4 n (l_X9_fitsOf_4 n S j) S a1 a2 a3
set_option maxHeartbeats 4000000 in
set_option maxRecDepth 100000 in
theorem t_X9_fitsOf_4 {p : Program} {l : Launch} {e : Env} {s : State} {m : MethodId} {args : Array Value} {below : List Frame} {meth : Method} {c : Code} {G : xG} (X : xC p s m args c G RX9 cX9_fitsOf 4) (hr : meth.sig.returnType = (some .int)) (hlk : meth.locks = false) {n : Nat} {r : Int32} {S : xS} : ∀ (j : Nat) (a1 : Int32) (a2 : Int32) (a3 : Int32), l_X9_fitsOf_4 n S j a1 a2 a3 = some r → xGo p l e { frames := 2, cells := 0, slots := 0, locals := 48 } s m args below meth c G 4 0 0 (MQ below (xQi G r S) args s 0 0 (xA G)) S 4 [(0, .ref (G.2.2 34)), (1, .int a1), (2, .int a2), (3, .int a3)] [] := by
  intro j
  induction j with
  | zero => intro a1 a2 a3 hf; exact nomatch (show (none : Option Int32) = _ from hf)
  | succ j ih =>
    intro a1 a2 a3 hf H locs ls hP hS hl
    have hf : b_X9_fitsOf_4 n (l_X9_fitsOf_4 n S j) S a1 a2 a3 = some r := hf
    unfold b_X9_fitsOf_4 at hf
    obtain ⟨hx, hb, hml, hown, hts, hE⟩ := id X
    refine lv_iload_n hx hb dX9_fitsOf_4 rfl (lv_at hl 3 rfl) ?_
    refine lv_bipush (v := 9) hx hb dX9_fitsOf_5 (by decide) ?_
    refine lv_icmp_ge (tgt := 35) hx hb dX9_fitsOf_7 (by decide) (fun e1 => ?_) (fun e1 => ?_)
    · have hf := xif_t hf e1
      refine lv_iload_n hx hb dX9_fitsOf_35 rfl (lv_at hl 2 rfl) ?_
      exact x_iret X hr hlk hP hS  (Option.some.inj hf) (rfl) dX9_fitsOf_36
    · have hf := xif_f hf e1
      refine lv_iload_n hx hb dX9_fitsOf_10 rfl (lv_at hl 2 rfl) ?_
      refine lv_aload_n hx hb dX9_fitsOf_11 rfl (lv_at hl 0 rfl) ?_
      refine lv_iload_n hx hb dX9_fitsOf_12 rfl (lv_at hl 1 rfl) ?_
      refine lv_iload_n hx hb dX9_fitsOf_13 rfl (lv_at hl 3 rfl) ?_
      obtain ⟨r2, h3, hf⟩ := xb_some hf
      refine x_cVi (As := [.int a1, .int a3]) (rest := [.int a2]) X hP hS kc_X9_149 (c_X9_isFit l G n S a1 a3 _ h3) ⟨Nat.le_of_ble_eq_true rfl, Nat.le_of_ble_eq_true rfl⟩ (by decide) rfl rfl rfl hl.1 rfl (Nat.le_of_ble_eq_true rfl) ⟨Nat.zero_le _, Nat.zero_le _⟩ dX9_fitsOf_14 (fun H locs hP hS => ?_)
      refine lv_if_eq (tgt := 26) hx hb dX9_fitsOf_17 (by decide) (fun e4 => ?_) (fun e4 => ?_)
      · have hf := xif_t hf e4
        refine lv_iconst (v := 0) hx hb dX9_fitsOf_26 (by decide) ?_
        refine lv_ior hx hb dX9_fitsOf_27 ?_
        refine lv_istore_n (lv' := [(2, .int (a2 ||| (0 : Int32))), (0, .ref (G.2.2 34)), (1, .int a1), (3, .int a3)]) hx hb dX9_fitsOf_28 rfl hl (by decide) rfl (fun ls hl => ?_)
        refine lv_iinc (v := a3 + 1) (lv' := [(3, .int (a3 + 1)), (2, .int (a2 ||| (0 : Int32))), (0, .ref (G.2.2 34)), (1, .int a1)]) hx hb dX9_fitsOf_29 hl (k := 3) rfl rfl (by decide) rfl (fun ls hl => ?_)
        refine lv_goto (tgt := 4) hx hb dX9_fitsOf_32 (by decide) ?_
        exact ih a1 (a2 ||| (0 : Int32)) (a3 + 1) hf H locs ls hP hS (lv_sub hl [2, 3, 1, 0] rfl)
      · have hf := xif_f hf e4
        refine lv_iconst (v := 1) hx hb dX9_fitsOf_20 (by decide) ?_
        refine lv_iload_n hx hb dX9_fitsOf_21 rfl (lv_at hl 3 rfl) ?_
        refine lv_ishl hx hb dX9_fitsOf_22 ?_
        refine lv_goto (tgt := 27) hx hb dX9_fitsOf_23 (by decide) ?_
        refine lv_ior hx hb dX9_fitsOf_27 ?_
        refine lv_istore_n (lv' := [(2, .int (a2 ||| ((1 : Int32) <<< (a3 &&& 31)))), (0, .ref (G.2.2 34)), (1, .int a1), (3, .int a3)]) hx hb dX9_fitsOf_28 rfl hl (by decide) rfl (fun ls hl => ?_)
        refine lv_iinc (v := a3 + 1) (lv' := [(3, .int (a3 + 1)), (2, .int (a2 ||| ((1 : Int32) <<< (a3 &&& 31)))), (0, .ref (G.2.2 34)), (1, .int a1)]) hx hb dX9_fitsOf_29 hl (k := 3) rfl rfl (by decide) rfl (fun ls hl => ?_)
        refine lv_goto (tgt := 4) hx hb dX9_fitsOf_32 (by decide) ?_
        exact ih a1 (a2 ||| ((1 : Int32) <<< (a3 &&& 31))) (a3 + 1) hf H locs ls hP hS (lv_sub hl [2, 3, 1, 0] rfl)
def f_X9_fitsOf (n : Nat) (S : xS) (a1 : Int32) : Option Int32 :=
  l_X9_fitsOf_4 n S n a1 (0 : Int32) (0 : Int32)
set_option maxHeartbeats 4000000 in
set_option maxRecDepth 100000 in
theorem c_X9_fitsOf (l : Launch) (G : xG) (n : Nat)  (S : xS) (a1 : Int32) (r : Int32) (hf : f_X9_fitsOf n S a1 = some r) : xMi l G yX9_fitsOf cX9_fitsOf 4 (some .int) 2 48 [.ref (G.2.2 34), .int a1] S r S := by
  refine xMi_of (own := RX9) (by decide +kernel) rfl (Nat.le_of_ble_eq_true rfl) ?_
  intro p e s m args below meth c X hr hlk H locs ls hP hS hl
  have hl : lv_has ls 4 [(0, .ref (G.2.2 34)), (1, .int a1)] := hl
  obtain ⟨hx, hb, hml, hown, hts, hE⟩ := id X
  unfold f_X9_fitsOf at hf
  refine lv_iconst (v := 0) hx hb dX9_fitsOf_0 (by decide) ?_
  refine lv_istore_n (lv' := [(2, .int (0 : Int32)), (0, .ref (G.2.2 34)), (1, .int a1)]) hx hb dX9_fitsOf_1 rfl hl (by decide) rfl (fun ls hl => ?_)
  refine lv_iconst (v := 0) hx hb dX9_fitsOf_2 (by decide) ?_
  refine lv_istore_n (lv' := [(3, .int (0 : Int32)), (2, .int (0 : Int32)), (0, .ref (G.2.2 34)), (1, .int a1)]) hx hb dX9_fitsOf_3 rfl hl (by decide) rfl (fun ls hl => ?_)
  exact t_X9_fitsOf_4 X hr hlk   n a1 (0 : Int32) (0 : Int32) hf H locs ls hP hS (lv_sub hl [2, 3, 1, 0] rfl)
def f_X9_fits (n : Nat) (S : xS) (a1 : Int32) : Option (Int32 × xS) :=
  (f_X9_isFloor n S a1).bind fun r1 => ((if r1.1 = 0 then some ((-2 : Int32), r1.2) else (f_X9_fitsOf n r1.2 a1).bind fun r4 => (some (r4, r1.2))))
set_option maxHeartbeats 4000000 in
set_option maxRecDepth 100000 in
theorem c_X9_fits (l : Launch) (G : xG) (n : Nat)  (S : xS) (a1 : Int32) (r : Int32) (S' : xS) (hf : f_X9_fits n S a1 = some (r, S')) : xMi l G yX9_fits cX9_fits 2 (some .int) 6 134 [.ref (G.2.2 34), .int a1] S r S' := by
  refine xMi_of (own := RX9) (by decide +kernel) rfl (Nat.le_of_ble_eq_true rfl) ?_
  intro p e s m args below meth c X hr hlk H locs ls hP hS hl
  have hl : lv_has ls 2 [(0, .ref (G.2.2 34)), (1, .int a1)] := hl
  obtain ⟨hx, hb, hml, hown, hts, hE⟩ := id X
  unfold f_X9_fits at hf
  refine lv_aload_n hx hb dX9_fits_0 rfl (lv_at hl 0 rfl) ?_
  refine lv_iload_n hx hb dX9_fits_1 rfl (lv_at hl 1 rfl) ?_
  obtain ⟨r1, h2, hf⟩ := xb_some hf
  refine x_cVi (As := [.int a1]) (rest := []) X hP hS kc_X9_103 (c_X9_isFloor l G n S a1 r1.1 r1.2 h2) ⟨Nat.le_of_ble_eq_true rfl, Nat.le_of_ble_eq_true rfl⟩ (by decide) rfl rfl rfl hl.1 rfl (Nat.le_of_ble_eq_true rfl) ⟨Nat.zero_le _, Nat.zero_le _⟩ dX9_fits_2 (fun H locs hP hS => ?_)
  refine lv_if_eq (tgt := 16) hx hb dX9_fits_5 (by decide) (fun e3 => ?_) (fun e3 => ?_)
  · have hf := xif_t hf e3
    refine lv_bipush (v := (-2)) hx hb dX9_fits_16 (by decide) ?_
    exact x_iret X hr hlk hP hS  ((Prod.mk.inj (Option.some.inj hf)).1) ((Prod.mk.inj (Option.some.inj hf)).2) dX9_fits_18
  · have hf := xif_f hf e3
    refine lv_aload_n hx hb dX9_fits_8 rfl (lv_at hl 0 rfl) ?_
    refine lv_iload_n hx hb dX9_fits_9 rfl (lv_at hl 1 rfl) ?_
    obtain ⟨r4, h5, hf⟩ := xb_some hf
    refine x_cVi (As := [.int a1]) (rest := []) X hP hS kc_X9_153 (c_X9_fitsOf l G n r1.2 a1 _ h5) ⟨Nat.le_of_ble_eq_true rfl, Nat.le_of_ble_eq_true rfl⟩ (by decide) rfl rfl rfl hl.1 rfl (Nat.le_of_ble_eq_true rfl) ⟨Nat.zero_le _, Nat.zero_le _⟩ dX9_fits_10 (fun H locs hP hS => ?_)
    refine lv_goto (tgt := 18) hx hb dX9_fits_13 (by decide) ?_
    exact x_iret X hr hlk hP hS  ((Prod.mk.inj (Option.some.inj hf)).1) ((Prod.mk.inj (Option.some.inj hf)).2) dX9_fits_18
def b_J7_fill_d0a16_6 (n : Nat) (q : Nat) (w : Nat) (k6 : xS → Int64 → Int32 → Int32 → Option xS) (S : xS) (a1 : Int64) (a3 : Int32) (a4 : Int32) : Option xS :=
  (if a4 ≤ a3 then some S else xg (xin a3 w) (k6 (xsl S q a3.toNatClampNeg a1) a1 (a3 + 1) a4))
def l_J7_fill_d0a16_6 (n : Nat) (q : Nat) (w : Nat) : Nat → xS → Int64 → Int32 → Int32 → Option xS
  | 0, _, _, _, _ => none
  | j + 1, S, a1, a3, a4 => b_J7_fill_d0a16_6 n q w (l_J7_fill_d0a16_6 n q w j) S a1 a3 a4
set_option maxHeartbeats 4000000 in
set_option maxRecDepth 100000 in
theorem t_J7_fill_d0a16_6 {p : Program} {l : Launch} {e : Env} {s : State} {m : MethodId} {args : Array Value} {below : List Frame} {meth : Method} {c : Code} {G : xG} (X : xC p s m args c G RJ7 cJ7_fill_d0a16 5) (hr : meth.sig.returnType = none) (hlk : meth.locks = false) {n : Nat} {q : Nat} {w : Nat} (hq : q < 53) (hL : xlay q = (1, w, [])) {S' : xS} : ∀ (j : Nat) (S : xS) (a1 : Int64) (a3 : Int32) (a4 : Int32), l_J7_fill_d0a16_6 n q w j S a1 a3 a4 = some S' → xGo p l e { frames := 0, cells := 0, slots := 0, locals := 0 } s m args below meth c G 5 0 0 (MQ below (xQv G S') args s 0 0 (xA G)) S 6 [(0, .ref (G.2.2 q)), (1, .long a1), (3, .int a3), (4, .int a4)] [] := by
  intro j
  induction j with
  | zero => intro S a1 a3 a4 hf; exact nomatch (show (none : Option xS) = _ from hf)
  | succ j ih =>
    intro S a1 a3 a4 hf H locs ls hP hS hl
    have hf : b_J7_fill_d0a16_6 n q w (l_J7_fill_d0a16_6 n q w j) S a1 a3 a4 = some S' := hf
    unfold b_J7_fill_d0a16_6 at hf
    obtain ⟨hx, hb, hml, hown, hts, hE⟩ := id X
    refine lv_iload_n hx hb dJ7_fill_d0a16_6 rfl (lv_at hl 2 rfl) ?_
    refine lv_iload hx hb dJ7_fill_d0a16_7 (lv_at hl 3 rfl) ?_
    refine lv_icmp_ge (tgt := 22) hx hb dJ7_fill_d0a16_9 (by decide) (fun e1 => ?_) (fun e1 => ?_)
    · have hf := xif_t hf e1
      exact x_vret X hr hlk hP hS (Option.some.inj hf) dJ7_fill_d0a16_22
    · have hf := xif_f hf e1
      refine lv_aload_n hx hb dJ7_fill_d0a16_12 rfl (lv_at hl 0 rfl) ?_
      refine lv_iload_n hx hb dJ7_fill_d0a16_13 rfl (lv_at hl 2 rfl) ?_
      refine lv_lload_n hx hb dJ7_fill_d0a16_14 rfl (lv_at hl 1 rfl) ?_
      obtain ⟨g2, hf⟩ := xg_some hf
      refine x_last X hP hS hq hL g2 dJ7_fill_d0a16_15 (fun H locs hP hS => ?_)
      refine lv_iinc (v := a3 + 1) (lv' := [(3, .int (a3 + 1)), (0, .ref (G.2.2 q)), (1, .long a1), (4, .int a4)]) hx hb dJ7_fill_d0a16_16 hl (k := 2) rfl rfl (by decide) rfl (fun ls hl => ?_)
      refine lv_goto (tgt := 6) hx hb dJ7_fill_d0a16_19 (by decide) ?_
      exact ih (xsl S q a3.toNatClampNeg a1) a1 (a3 + 1) a4 hf H locs ls hP hS (lv_sub hl [1, 2, 0, 3] rfl)
def f_J7_fill_d0a16 (n : Nat) (q : Nat) (w : Nat) (S : xS) (a1 : Int64) : Option xS :=
  l_J7_fill_d0a16_6 n q w n S a1 (0 : Int32) (Int32.ofNat w)
set_option maxHeartbeats 4000000 in
set_option maxRecDepth 100000 in
theorem c_J7_fill_d0a16 (l : Launch) (G : xG) (n : Nat) (q : Nat) (w : Nat)  (hq : q < 53) (hL : xlay q = (1, w, [])) (S : xS) (a1 : Int64) (S' : xS) (hf : f_J7_fill_d0a16 n q w S a1 = some S') : xMv l G yJ7_fill_d0a16 cJ7_fill_d0a16 5 none 0 0 [.ref (G.2.2 q), .long a1] S S' := by
  refine xMv_of (own := RJ7) (by decide +kernel) rfl (Nat.le_of_ble_eq_true rfl) ?_
  intro p e s m args below meth c X hr hlk H locs ls hP hS hl
  have hl : lv_has ls 5 [(0, .ref (G.2.2 q)), (1, .long a1)] := hl
  obtain ⟨hx, hb, hml, hown, hts, hE⟩ := id X
  unfold f_J7_fill_d0a16 at hf
  refine lv_iconst (v := 0) hx hb dJ7_fill_d0a16_0 (by decide) ?_
  refine lv_istore_n (lv' := [(3, .int (0 : Int32)), (0, .ref (G.2.2 q)), (1, .long a1)]) hx hb dJ7_fill_d0a16_1 rfl hl (by decide) rfl (fun ls hl => ?_)
  refine lv_aload_n hx hb dJ7_fill_d0a16_2 rfl (lv_at hl 1 rfl) ?_
  refine x_alenL X hP hq hL dJ7_fill_d0a16_3 ?_
  refine lv_istore (lv' := [(4, .int (Int32.ofNat w)), (3, .int (0 : Int32)), (0, .ref (G.2.2 q)), (1, .long a1)]) hx hb dJ7_fill_d0a16_4 hl (by decide) rfl (fun ls hl => ?_)
  exact t_J7_fill_d0a16_6 X hr hlk hq hL  n S a1 (0 : Int32) (Int32.ofNat w) hf H locs ls hP hS (lv_sub hl [2, 3, 1, 0] rfl)
def f_X7_floors (S : xS)  : Int32 :=
  S.1 4 3
set_option maxHeartbeats 4000000 in
set_option maxRecDepth 100000 in
theorem c_X7_floors (l : Launch) (G : xG)  (S : xS)  (r : Int32) (hf : f_X7_floors S  = r) : xMi l G yX7_floors cX7_floors 1 (some .int) 0 0 [.ref (G.2.2 9)] S r S := by
  refine xMi_of (own := RX7) (by decide +kernel) rfl (Nat.le_of_ble_eq_true rfl) ?_
  intro p e s m args below meth c X hr hlk H locs ls hP hS hl
  have hl : lv_has ls 1 [(0, .ref (G.2.2 9))] := hl
  obtain ⟨hx, hb, hml, hown, hts, hE⟩ := id X
  unfold f_X7_floors at hf
  refine lv_aload_n hx hb dX7_floors_0 rfl (lv_at hl 0 rfl) ?_
  refine x_getR X hP fl_X7_31 (by decide) rfl rfl dX7_floors_1 ?_
  refine x_getIN X hP fn_X7_35 (by decide) rfl rfl dX7_floors_4 ?_
  exact x_iret X hr hlk hP hS  (hf) (rfl) dX7_floors_7
def b_X0_addFloor_48 (n : Nat) (k6 : xS → Int32 → Int64 → Int64 → Int32 → Option (Int64 × xS)) (k48 : xS → Int32 → Int64 → Int64 → Int32 → Int64 → Int32 → Option (Int64 × xS)) (S : xS) (a1 : Int32) (a2 : Int64) (a4 : Int64) (a6 : Int32) (a7 : Int64) (a9 : Int32) : Option (Int64 × xS) :=
  (if (a6 + (3 : Int32)) ≤ a9 then k6 S a1 a2 a4 (a6 + 3) else (if ((a1 >>> (a9 &&& 31)) &&& (1 : Int32)) = 0 then xg (xin a9 9) (xg (xin a9 9) (k48 (xsl S 17 a9.toNatClampNeg (0 : Int64)) a1 a2 (a4 + ((xsl S 17 a9.toNatClampNeg (0 : Int64)).2 17 a9.toNatClampNeg)) a6 a7 (a9 + 1))) else xg (xin a9 9) (xg (xin a9 9) (xg (xin a9 9) (k48 (xsl S 17 a9.toNatClampNeg (a7 + (S.2 17 a9.toNatClampNeg))) a1 a2 (a4 + ((xsl S 17 a9.toNatClampNeg (a7 + (S.2 17 a9.toNatClampNeg))).2 17 a9.toNatClampNeg)) a6 a7 (a9 + 1))))))
def l_X0_addFloor_48 (n : Nat) (k6 : xS → Int32 → Int64 → Int64 → Int32 → Option (Int64 × xS)) : Nat → xS → Int32 → Int64 → Int64 → Int32 → Int64 → Int32 → Option (Int64 × xS)
  | 0, _, _, _, _, _, _, _ => none
  | j + 1, S, a1, a2, a4, a6, a7, a9 => b_X0_addFloor_48 n k6 (l_X0_addFloor_48 n k6 j) S a1 a2 a4 a6 a7 a9
set_option maxHeartbeats 4000000 in
set_option maxRecDepth 100000 in
theorem t_X0_addFloor_48 {p : Program} {l : Launch} {e : Env} {s : State} {m : MethodId} {args : Array Value} {below : List Frame} {meth : Method} {c : Code} {G : xG} (X : xC p s m args c G RX0 cX0_addFloor 10) (hr : meth.sig.returnType = (some .long)) (hlk : meth.locks = false) {n : Nat} {r : Int64} {S' : xS} {k6 : xS → Int32 → Int64 → Int64 → Int32 → Option (Int64 × xS)} (hk6 : ∀ (S : xS) (a1 : Int32) (a2 : Int64) (a4 : Int64) (a6 : Int32), k6 S a1 a2 a4 a6 = some (r, S') → xGo p l e { frames := 0, cells := 0, slots := 0, locals := 0 } s m args below meth c G 10 0 0 (MQ below (xQl G r S') args s 0 0 (xA G)) S 6 [(0, .ref (G.2.2 15)), (1, .int a1), (2, .long a2), (4, .long a4), (6, .int a6)] []) : ∀ (j : Nat) (S : xS) (a1 : Int32) (a2 : Int64) (a4 : Int64) (a6 : Int32) (a7 : Int64) (a9 : Int32), l_X0_addFloor_48 n k6 j S a1 a2 a4 a6 a7 a9 = some (r, S') → xGo p l e { frames := 0, cells := 0, slots := 0, locals := 0 } s m args below meth c G 10 0 0 (MQ below (xQl G r S') args s 0 0 (xA G)) S 48 [(0, .ref (G.2.2 15)), (1, .int a1), (2, .long a2), (4, .long a4), (6, .int a6), (7, .long a7), (9, .int a9)] [] := by
  intro j
  induction j with
  | zero => intro S a1 a2 a4 a6 a7 a9 hf; exact nomatch (show (none : Option (Int64 × xS)) = _ from hf)
  | succ j ih =>
    intro S a1 a2 a4 a6 a7 a9 hf H locs ls hP hS hl
    have hf : b_X0_addFloor_48 n k6 (l_X0_addFloor_48 n k6 j) S a1 a2 a4 a6 a7 a9 = some (r, S') := hf
    unfold b_X0_addFloor_48 at hf
    obtain ⟨hx, hb, hml, hown, hts, hE⟩ := id X
    refine lv_iload hx hb dX0_addFloor_48 (lv_at hl 6 rfl) ?_
    refine lv_iload hx hb dX0_addFloor_50 (lv_at hl 4 rfl) ?_
    refine lv_iconst (v := 3) hx hb dX0_addFloor_52 (by decide) ?_
    refine lv_iadd hx hb dX0_addFloor_53 ?_
    refine lv_icmp_ge (tgt := 105) hx hb dX0_addFloor_54 (by decide) (fun e5 => ?_) (fun e5 => ?_)
    · have hf := xif_t hf e5
      refine lv_iinc (v := a6 + 3) (lv' := [(6, .int (a6 + 3)), (0, .ref (G.2.2 15)), (1, .int a1), (2, .long a2), (4, .long a4), (7, .long a7), (9, .int a9)]) hx hb dX0_addFloor_105 hl (k := 4) rfl rfl (by decide) rfl (fun ls hl => ?_)
      refine lv_goto (tgt := 6) hx hb dX0_addFloor_108 (by decide) ?_
      exact hk6 S a1 a2 a4 (a6 + 3) hf H locs ls hP hS (lv_sub hl [1, 2, 3, 4, 0] rfl)
    · have hf := xif_f hf e5
      refine lv_aload_n hx hb dX0_addFloor_57 rfl (lv_at hl 0 rfl) ?_
      refine x_getR X hP fl_X0_15 (by decide) rfl rfl dX0_addFloor_58 ?_
      refine lv_iload hx hb dX0_addFloor_61 (lv_at hl 6 rfl) ?_
      refine lv_iload_n hx hb dX0_addFloor_63 rfl (lv_at hl 1 rfl) ?_
      refine lv_iload hx hb dX0_addFloor_64 (lv_at hl 6 rfl) ?_
      refine lv_ishr hx hb dX0_addFloor_66 ?_
      refine lv_iconst (v := 1) hx hb dX0_addFloor_67 (by decide) ?_
      refine lv_iand hx hb dX0_addFloor_68 ?_
      refine lv_if_ne (tgt := 76) hx hb dX0_addFloor_69 (by decide) (fun e6 => ?_) (fun e6 => ?_)
      · have hf := xif_f hf e6
        refine lv_lload hx hb dX0_addFloor_76 (lv_at hl 5 rfl) ?_
        refine lv_aload_n hx hb dX0_addFloor_78 rfl (lv_at hl 0 rfl) ?_
        refine x_getR X hP fl_X0_15 (by decide) rfl rfl dX0_addFloor_79 ?_
        refine lv_iload hx hb dX0_addFloor_82 (lv_at hl 6 rfl) ?_
        obtain ⟨g7, hf⟩ := xg_some hf
        refine x_lald X hP (by decide) rfl g7 dX0_addFloor_84 ?_
        refine lv_ladd hx hb dX0_addFloor_85 ?_
        obtain ⟨g8, hf⟩ := xg_some hf
        refine x_last X hP hS (by decide) rfl g8 dX0_addFloor_86 (fun H locs hP hS => ?_)
        refine lv_lload hx hb dX0_addFloor_87 (lv_at hl 3 rfl) ?_
        refine lv_aload_n hx hb dX0_addFloor_89 rfl (lv_at hl 0 rfl) ?_
        refine x_getR X hP fl_X0_15 (by decide) rfl rfl dX0_addFloor_90 ?_
        refine lv_iload hx hb dX0_addFloor_93 (lv_at hl 6 rfl) ?_
        obtain ⟨g9, hf⟩ := xg_some hf
        refine x_lald X hP (by decide) rfl g9 dX0_addFloor_95 ?_
        refine lv_ladd hx hb dX0_addFloor_96 ?_
        refine lv_lstore (lv' := [(4, .long (a4 + ((xsl S 17 a9.toNatClampNeg (a7 + (S.2 17 a9.toNatClampNeg))).2 17 a9.toNatClampNeg))), (0, .ref (G.2.2 15)), (1, .int a1), (2, .long a2), (6, .int a6), (7, .long a7), (9, .int a9)]) hx hb dX0_addFloor_97 hl (by decide) rfl (fun ls hl => ?_)
        refine lv_iinc (v := a9 + 1) (lv' := [(9, .int (a9 + 1)), (4, .long (a4 + ((xsl S 17 a9.toNatClampNeg (a7 + (S.2 17 a9.toNatClampNeg))).2 17 a9.toNatClampNeg))), (0, .ref (G.2.2 15)), (1, .int a1), (2, .long a2), (6, .int a6), (7, .long a7)]) hx hb dX0_addFloor_99 hl (k := 6) rfl rfl (by decide) rfl (fun ls hl => ?_)
        refine lv_goto (tgt := 48) hx hb dX0_addFloor_102 (by decide) ?_
        exact ih (xsl S 17 a9.toNatClampNeg (a7 + (S.2 17 a9.toNatClampNeg))) a1 a2 (a4 + ((xsl S 17 a9.toNatClampNeg (a7 + (S.2 17 a9.toNatClampNeg))).2 17 a9.toNatClampNeg)) a6 a7 (a9 + 1) hf H locs ls hP hS (lv_sub hl [2, 3, 4, 1, 5, 6, 0] rfl)
      · have hf := xif_t hf e6
        refine lv_lconst (v := 0) hx hb dX0_addFloor_72 (by decide) ?_
        refine lv_goto (tgt := 86) hx hb dX0_addFloor_73 (by decide) ?_
        obtain ⟨g10, hf⟩ := xg_some hf
        refine x_last X hP hS (by decide) rfl g10 dX0_addFloor_86 (fun H locs hP hS => ?_)
        refine lv_lload hx hb dX0_addFloor_87 (lv_at hl 3 rfl) ?_
        refine lv_aload_n hx hb dX0_addFloor_89 rfl (lv_at hl 0 rfl) ?_
        refine x_getR X hP fl_X0_15 (by decide) rfl rfl dX0_addFloor_90 ?_
        refine lv_iload hx hb dX0_addFloor_93 (lv_at hl 6 rfl) ?_
        obtain ⟨g11, hf⟩ := xg_some hf
        refine x_lald X hP (by decide) rfl g11 dX0_addFloor_95 ?_
        refine lv_ladd hx hb dX0_addFloor_96 ?_
        refine lv_lstore (lv' := [(4, .long (a4 + ((xsl S 17 a9.toNatClampNeg (0 : Int64)).2 17 a9.toNatClampNeg))), (0, .ref (G.2.2 15)), (1, .int a1), (2, .long a2), (6, .int a6), (7, .long a7), (9, .int a9)]) hx hb dX0_addFloor_97 hl (by decide) rfl (fun ls hl => ?_)
        refine lv_iinc (v := a9 + 1) (lv' := [(9, .int (a9 + 1)), (4, .long (a4 + ((xsl S 17 a9.toNatClampNeg (0 : Int64)).2 17 a9.toNatClampNeg))), (0, .ref (G.2.2 15)), (1, .int a1), (2, .long a2), (6, .int a6), (7, .long a7)]) hx hb dX0_addFloor_99 hl (k := 6) rfl rfl (by decide) rfl (fun ls hl => ?_)
        refine lv_goto (tgt := 48) hx hb dX0_addFloor_102 (by decide) ?_
        exact ih (xsl S 17 a9.toNatClampNeg (0 : Int64)) a1 a2 (a4 + ((xsl S 17 a9.toNatClampNeg (0 : Int64)).2 17 a9.toNatClampNeg)) a6 a7 (a9 + 1) hf H locs ls hP hS (lv_sub hl [2, 3, 4, 1, 5, 6, 0] rfl)
def b_X0_addFloor_6 (n : Nat) (k6 : xS → Int32 → Int64 → Int64 → Int32 → Option (Int64 × xS)) (S : xS) (a1 : Int32) (a2 : Int64) (a4 : Int64) (a6 : Int32) : Option (Int64 × xS) :=
  (if (9 : Int32) ≤ a6 then some (a4, S) else xg (xin a6 9) (xg (xin (a6 + (1 : Int32)) 9) (xg (xin (a6 + (2 : Int32)) 9) (l_X0_addFloor_48 n k6 n S a1 a2 a4 a6 (((a2 - (S.2 17 a6.toNatClampNeg)) - (S.2 17 (a6 + (1 : Int32)).toNatClampNeg)) - (S.2 17 (a6 + (2 : Int32)).toNatClampNeg)) a6))))
def l_X0_addFloor_6 (n : Nat) : Nat → xS → Int32 → Int64 → Int64 → Int32 → Option (Int64 × xS)
  | 0, _, _, _, _, _ => none
  | j + 1, S, a1, a2, a4, a6 => b_X0_addFloor_6 n (l_X0_addFloor_6 n j) S a1 a2 a4 a6
set_option maxHeartbeats 4000000 in
set_option maxRecDepth 100000 in
theorem t_X0_addFloor_6 {p : Program} {l : Launch} {e : Env} {s : State} {m : MethodId} {args : Array Value} {below : List Frame} {meth : Method} {c : Code} {G : xG} (X : xC p s m args c G RX0 cX0_addFloor 10) (hr : meth.sig.returnType = (some .long)) (hlk : meth.locks = false) {n : Nat} {r : Int64} {S' : xS} : ∀ (j : Nat) (S : xS) (a1 : Int32) (a2 : Int64) (a4 : Int64) (a6 : Int32), l_X0_addFloor_6 n j S a1 a2 a4 a6 = some (r, S') → xGo p l e { frames := 0, cells := 0, slots := 0, locals := 0 } s m args below meth c G 10 0 0 (MQ below (xQl G r S') args s 0 0 (xA G)) S 6 [(0, .ref (G.2.2 15)), (1, .int a1), (2, .long a2), (4, .long a4), (6, .int a6)] [] := by
  intro j
  induction j with
  | zero => intro S a1 a2 a4 a6 hf; exact nomatch (show (none : Option (Int64 × xS)) = _ from hf)
  | succ j ih =>
    intro S a1 a2 a4 a6 hf H locs ls hP hS hl
    have hf : b_X0_addFloor_6 n (l_X0_addFloor_6 n j) S a1 a2 a4 a6 = some (r, S') := hf
    unfold b_X0_addFloor_6 at hf
    obtain ⟨hx, hb, hml, hown, hts, hE⟩ := id X
    refine lv_iload hx hb dX0_addFloor_6 (lv_at hl 4 rfl) ?_
    refine lv_bipush (v := 9) hx hb dX0_addFloor_8 (by decide) ?_
    refine lv_icmp_ge (tgt := 111) hx hb dX0_addFloor_10 (by decide) (fun e1 => ?_) (fun e1 => ?_)
    · have hf := xif_t hf e1
      refine lv_lload hx hb dX0_addFloor_111 (lv_at hl 3 rfl) ?_
      exact x_lret X hr hlk hP hS  ((Prod.mk.inj (Option.some.inj hf)).1) ((Prod.mk.inj (Option.some.inj hf)).2) dX0_addFloor_113
    · have hf := xif_f hf e1
      refine lv_lload_n hx hb dX0_addFloor_13 rfl (lv_at hl 2 rfl) ?_
      refine lv_aload_n hx hb dX0_addFloor_14 rfl (lv_at hl 0 rfl) ?_
      refine x_getR X hP fl_X0_15 (by decide) rfl rfl dX0_addFloor_15 ?_
      refine lv_iload hx hb dX0_addFloor_18 (lv_at hl 4 rfl) ?_
      obtain ⟨g2, hf⟩ := xg_some hf
      refine x_lald X hP (by decide) rfl g2 dX0_addFloor_20 ?_
      refine lv_lsub hx hb dX0_addFloor_21 ?_
      refine lv_aload_n hx hb dX0_addFloor_22 rfl (lv_at hl 0 rfl) ?_
      refine x_getR X hP fl_X0_15 (by decide) rfl rfl dX0_addFloor_23 ?_
      refine lv_iload hx hb dX0_addFloor_26 (lv_at hl 4 rfl) ?_
      refine lv_iconst (v := 1) hx hb dX0_addFloor_28 (by decide) ?_
      refine lv_iadd hx hb dX0_addFloor_29 ?_
      obtain ⟨g3, hf⟩ := xg_some hf
      refine x_lald X hP (by decide) rfl g3 dX0_addFloor_30 ?_
      refine lv_lsub hx hb dX0_addFloor_31 ?_
      refine lv_aload_n hx hb dX0_addFloor_32 rfl (lv_at hl 0 rfl) ?_
      refine x_getR X hP fl_X0_15 (by decide) rfl rfl dX0_addFloor_33 ?_
      refine lv_iload hx hb dX0_addFloor_36 (lv_at hl 4 rfl) ?_
      refine lv_iconst (v := 2) hx hb dX0_addFloor_38 (by decide) ?_
      refine lv_iadd hx hb dX0_addFloor_39 ?_
      obtain ⟨g4, hf⟩ := xg_some hf
      refine x_lald X hP (by decide) rfl g4 dX0_addFloor_40 ?_
      refine lv_lsub hx hb dX0_addFloor_41 ?_
      refine lv_lstore (lv' := [(7, .long (((a2 - (S.2 17 a6.toNatClampNeg)) - (S.2 17 (a6 + (1 : Int32)).toNatClampNeg)) - (S.2 17 (a6 + (2 : Int32)).toNatClampNeg))), (0, .ref (G.2.2 15)), (1, .int a1), (2, .long a2), (4, .long a4), (6, .int a6)]) hx hb dX0_addFloor_42 hl (by decide) rfl (fun ls hl => ?_)
      refine lv_iload hx hb dX0_addFloor_44 (lv_at hl 5 rfl) ?_
      refine lv_istore (lv' := [(9, .int a6), (7, .long (((a2 - (S.2 17 a6.toNatClampNeg)) - (S.2 17 (a6 + (1 : Int32)).toNatClampNeg)) - (S.2 17 (a6 + (2 : Int32)).toNatClampNeg))), (0, .ref (G.2.2 15)), (1, .int a1), (2, .long a2), (4, .long a4), (6, .int a6)]) hx hb dX0_addFloor_46 hl (by decide) rfl (fun ls hl => ?_)
      exact t_X0_addFloor_48 X hr hlk  ih n S a1 a2 a4 a6 (((a2 - (S.2 17 a6.toNatClampNeg)) - (S.2 17 (a6 + (1 : Int32)).toNatClampNeg)) - (S.2 17 (a6 + (2 : Int32)).toNatClampNeg)) a6 hf H locs ls hP hS (lv_sub hl [2, 3, 4, 5, 6, 1, 0] rfl)
def f_X0_addFloor (n : Nat) (S : xS) (a1 : Int32) (a2 : Int64) : Option (Int64 × xS) :=
  l_X0_addFloor_6 n n S a1 a2 (0 : Int64) (0 : Int32)
set_option maxHeartbeats 4000000 in
set_option maxRecDepth 100000 in
theorem c_X0_addFloor (l : Launch) (G : xG) (n : Nat)  (S : xS) (a1 : Int32) (a2 : Int64) (r : Int64) (S' : xS) (hf : f_X0_addFloor n S a1 a2 = some (r, S')) : xMl l G yX0_addFloor cX0_addFloor 10 (some .long) 0 0 [.ref (G.2.2 15), .int a1, .long a2] S r S' := by
  refine xMl_of (own := RX0) (by decide +kernel) rfl (Nat.le_of_ble_eq_true rfl) ?_
  intro p e s m args below meth c X hr hlk H locs ls hP hS hl
  have hl : lv_has ls 10 [(0, .ref (G.2.2 15)), (1, .int a1), (2, .long a2)] := hl
  obtain ⟨hx, hb, hml, hown, hts, hE⟩ := id X
  unfold f_X0_addFloor at hf
  refine lv_lconst (v := 0) hx hb dX0_addFloor_0 (by decide) ?_
  refine lv_lstore (lv' := [(4, .long (0 : Int64)), (0, .ref (G.2.2 15)), (1, .int a1), (2, .long a2)]) hx hb dX0_addFloor_1 hl (by decide) rfl (fun ls hl => ?_)
  refine lv_iconst (v := 0) hx hb dX0_addFloor_3 (by decide) ?_
  refine lv_istore (lv' := [(6, .int (0 : Int32)), (4, .long (0 : Int64)), (0, .ref (G.2.2 15)), (1, .int a1), (2, .long a2)]) hx hb dX0_addFloor_4 hl (by decide) rfl (fun ls hl => ?_)
  exact t_X0_addFloor_6 X hr hlk   n S a1 a2 (0 : Int64) (0 : Int32) hf H locs ls hP hS (lv_sub hl [2, 3, 4, 1, 0] rfl)
def j_X0_countWorlds_44 (n : Nat) (k14 : xS → Int32 → Int32 → Int32 → Int64 → Int32 → Option (Int64 × xS)) (S : xS) (a1 : Int32) (a2 : Int32) (a3 : Int32) (a4 : Int64) (a6 : Int32) (s0 : Int32) : Option (Int64 × xS) :=
  (f_X0_fitBits n S a6 a1).bind fun r5 => ((f_X0_addFloor n S (r5 &&& s0) a4).bind fun r7 => (k14 r7.2 a1 a2 a3 r7.1 (a6 + 1)))
set_option maxHeartbeats 4000000 in
set_option maxRecDepth 100000 in
theorem t_X0_countWorlds_44 {p : Program} {l : Launch} {e : Env} {s : State} {m : MethodId} {args : Array Value} {below : List Frame} {meth : Method} {c : Code} {G : xG} (X : xC p s m args c G RX0 cX0_countWorlds 8) (hr : meth.sig.returnType = (some .long)) (hlk : meth.locks = false) {n : Nat} {r : Int64} {S' : xS} {k14 : xS → Int32 → Int32 → Int32 → Int64 → Int32 → Option (Int64 × xS)} (hk14 : ∀ (S : xS) (a1 : Int32) (a2 : Int32) (a3 : Int32) (a4 : Int64) (a6 : Int32), k14 S a1 a2 a3 a4 a6 = some (r, S') → xGo p l e { frames := 2, cells := 0, slots := 0, locals := 52 } s m args below meth c G 8 0 0 (MQ below (xQl G r S') args s 0 0 (xA G)) S 14 [(0, .ref (G.2.2 15)), (1, .int a1), (2, .int a2), (3, .int a3), (4, .long a4), (6, .int a6)] []) : ∀ (S : xS) (a1 : Int32) (a2 : Int32) (a3 : Int32) (a4 : Int64) (a6 : Int32) (s0 : Int32), j_X0_countWorlds_44 n k14 S a1 a2 a3 a4 a6 s0 = some (r, S') → xGo p l e { frames := 2, cells := 0, slots := 0, locals := 52 } s m args below meth c G 8 0 0 (MQ below (xQl G r S') args s 0 0 (xA G)) S 44 [(0, .ref (G.2.2 15)), (1, .int a1), (2, .int a2), (3, .int a3), (4, .long a4), (6, .int a6)] [.int s0] := by
  intro S a1 a2 a3 a4 a6 s0 hf H locs ls hP hS hl
  unfold j_X0_countWorlds_44 at hf
  obtain ⟨hx, hb, hml, hown, hts, hE⟩ := id X
  refine lv_istore (lv' := [(7, .int s0), (0, .ref (G.2.2 15)), (1, .int a1), (2, .int a2), (3, .int a3), (4, .long a4), (6, .int a6)]) hx hb dX0_countWorlds_44 hl (by decide) rfl (fun ls hl => ?_)
  refine lv_aload_n hx hb dX0_countWorlds_46 rfl (lv_at hl 1 rfl) ?_
  refine lv_aload_n hx hb dX0_countWorlds_47 rfl (lv_at hl 1 rfl) ?_
  refine lv_iload hx hb dX0_countWorlds_48 (lv_at hl 6 rfl) ?_
  refine lv_iload_n hx hb dX0_countWorlds_50 rfl (lv_at hl 2 rfl) ?_
  obtain ⟨r5, h6, hf⟩ := xb_some hf
  refine x_cVi (As := [.int a6, .int a1]) (rest := [.ref (G.2.2 15)]) X hP hS kc_X0_57 (c_X0_fitBits l G n S a6 a1 _ h6) ⟨Nat.le_of_ble_eq_true rfl, Nat.le_of_ble_eq_true rfl⟩ (by decide) rfl rfl rfl hl.1 rfl (Nat.le_of_ble_eq_true rfl) ⟨Nat.zero_le _, Nat.zero_le _⟩ dX0_countWorlds_51 (fun H locs hP hS => ?_)
  refine lv_iload hx hb dX0_countWorlds_54 (lv_at hl 0 rfl) ?_
  refine lv_iand hx hb dX0_countWorlds_56 ?_
  refine lv_lload hx hb dX0_countWorlds_57 (lv_at hl 5 rfl) ?_
  obtain ⟨r7, h8, hf⟩ := xb_some hf
  refine x_cVl (As := [.int (r5 &&& s0), .long a4]) (rest := []) X hP hS kc_X0_61 (c_X0_addFloor l G n S (r5 &&& s0) a4 r7.1 r7.2 h8) ⟨Nat.le_of_ble_eq_true rfl, Nat.le_of_ble_eq_true rfl⟩ (by decide) rfl rfl rfl hl.1 rfl (Nat.le_of_ble_eq_true rfl) ⟨Nat.zero_le _, Nat.zero_le _⟩ dX0_countWorlds_59 (fun H locs hP hS => ?_)
  refine lv_lstore (lv' := [(4, .long r7.1), (7, .int s0), (0, .ref (G.2.2 15)), (1, .int a1), (2, .int a2), (3, .int a3), (6, .int a6)]) hx hb dX0_countWorlds_62 hl (by decide) rfl (fun ls hl => ?_)
  refine lv_iinc (v := a6 + 1) (lv' := [(6, .int (a6 + 1)), (4, .long r7.1), (7, .int s0), (0, .ref (G.2.2 15)), (1, .int a1), (2, .int a2), (3, .int a3)]) hx hb dX0_countWorlds_64 hl (k := 6) rfl rfl (by decide) rfl (fun ls hl => ?_)
  refine lv_goto (tgt := 14) hx hb dX0_countWorlds_67 (by decide) ?_
  exact hk14 r7.2 a1 a2 a3 r7.1 (a6 + 1) hf H locs ls hP hS (lv_sub hl [3, 4, 5, 6, 1, 0] rfl)
def b_X0_countWorlds_14 (n : Nat) (k14 : xS → Int32 → Int32 → Int32 → Int64 → Int32 → Option (Int64 × xS)) (S : xS) (a1 : Int32) (a2 : Int32) (a3 : Int32) (a4 : Int64) (a6 : Int32) : Option (Int64 × xS) :=
  (if (f_X7_floors S) ≤ a6 then some (a4, S) else (if a6 = a2 then j_X0_countWorlds_44 n k14 S a1 a2 a3 a4 a6 ((7 : Int32) <<< (((3 : Int32) * a3) &&& 31)) else j_X0_countWorlds_44 n k14 S a1 a2 a3 a4 a6 (511 : Int32)))
def l_X0_countWorlds_14 (n : Nat) : Nat → xS → Int32 → Int32 → Int32 → Int64 → Int32 → Option (Int64 × xS)
  | 0, _, _, _, _, _, _ => none
  | j + 1, S, a1, a2, a3, a4, a6 => b_X0_countWorlds_14 n (l_X0_countWorlds_14 n j) S a1 a2 a3 a4 a6
set_option maxHeartbeats 4000000 in
set_option maxRecDepth 100000 in
theorem t_X0_countWorlds_14 {p : Program} {l : Launch} {e : Env} {s : State} {m : MethodId} {args : Array Value} {below : List Frame} {meth : Method} {c : Code} {G : xG} (X : xC p s m args c G RX0 cX0_countWorlds 8) (hr : meth.sig.returnType = (some .long)) (hlk : meth.locks = false) {n : Nat} {r : Int64} {S' : xS} : ∀ (j : Nat) (S : xS) (a1 : Int32) (a2 : Int32) (a3 : Int32) (a4 : Int64) (a6 : Int32), l_X0_countWorlds_14 n j S a1 a2 a3 a4 a6 = some (r, S') → xGo p l e { frames := 2, cells := 0, slots := 0, locals := 52 } s m args below meth c G 8 0 0 (MQ below (xQl G r S') args s 0 0 (xA G)) S 14 [(0, .ref (G.2.2 15)), (1, .int a1), (2, .int a2), (3, .int a3), (4, .long a4), (6, .int a6)] [] := by
  intro j
  induction j with
  | zero => intro S a1 a2 a3 a4 a6 hf; exact nomatch (show (none : Option (Int64 × xS)) = _ from hf)
  | succ j ih =>
    intro S a1 a2 a3 a4 a6 hf H locs ls hP hS hl
    have hf : b_X0_countWorlds_14 n (l_X0_countWorlds_14 n j) S a1 a2 a3 a4 a6 = some (r, S') := hf
    unfold b_X0_countWorlds_14 at hf
    obtain ⟨hx, hb, hml, hown, hts, hE⟩ := id X
    refine lv_iload hx hb dX0_countWorlds_14 (lv_at hl 5 rfl) ?_
    refine lv_aload_n hx hb dX0_countWorlds_16 rfl (lv_at hl 0 rfl) ?_
    refine x_getR X hP fl_X0_23 (by decide) rfl rfl dX0_countWorlds_17 ?_
    refine x_cVi (As := []) (rest := [.int a6]) X hP hS kc_X0_53 (c_X7_floors l G  S  _ rfl) ⟨Nat.le_of_ble_eq_true rfl, Nat.le_of_ble_eq_true rfl⟩ (by decide) rfl rfl rfl hl.1 rfl (Nat.le_of_ble_eq_true rfl) ⟨Nat.zero_le _, Nat.zero_le _⟩ dX0_countWorlds_20 (fun H locs hP hS => ?_)
    refine lv_icmp_ge (tgt := 70) hx hb dX0_countWorlds_23 (by decide) (fun e3 => ?_) (fun e3 => ?_)
    · have hf := xif_t hf e3
      refine lv_lload hx hb dX0_countWorlds_70 (lv_at hl 4 rfl) ?_
      exact x_lret X hr hlk hP hS  ((Prod.mk.inj (Option.some.inj hf)).1) ((Prod.mk.inj (Option.some.inj hf)).2) dX0_countWorlds_72
    · have hf := xif_f hf e3
      refine lv_iload hx hb dX0_countWorlds_26 (lv_at hl 5 rfl) ?_
      refine lv_iload_n hx hb dX0_countWorlds_28 rfl (lv_at hl 2 rfl) ?_
      refine lv_icmp_ne (tgt := 41) hx hb dX0_countWorlds_29 (by decide) (fun e4 => ?_) (fun e4 => ?_)
      · have hf := xif_f hf e4
        refine lv_sipush (v := 511) hx hb dX0_countWorlds_41 (by decide) ?_
        exact t_X0_countWorlds_44 X hr hlk  ih S a1 a2 a3 a4 a6 (511 : Int32) hf H locs ls hP hS (lv_sub hl [0, 1, 2, 3, 4, 5] rfl)
      · have hf := xif_t hf e4
        refine lv_bipush (v := 7) hx hb dX0_countWorlds_32 (by decide) ?_
        refine lv_iconst (v := 3) hx hb dX0_countWorlds_34 (by decide) ?_
        refine lv_iload_n hx hb dX0_countWorlds_35 rfl (lv_at hl 3 rfl) ?_
        refine lv_imul hx hb dX0_countWorlds_36 ?_
        refine lv_ishl hx hb dX0_countWorlds_37 ?_
        refine lv_goto (tgt := 44) hx hb dX0_countWorlds_38 (by decide) ?_
        exact t_X0_countWorlds_44 X hr hlk  ih S a1 a2 a3 a4 a6 ((7 : Int32) <<< (((3 : Int32) * a3) &&& 31)) hf H locs ls hP hS (lv_sub hl [0, 1, 2, 3, 4, 5] rfl)
def f_X0_countWorlds (n : Nat) (S : xS) (a1 : Int32) (a2 : Int32) (a3 : Int32) : Option (Int64 × xS) :=
  (f_J7_fill_d0a16 n 17 9 S (0 : Int64)).bind fun r1 => (l_X0_countWorlds_14 n n r1 a1 a2 a3 (1 : Int64) (0 : Int32))
set_option maxHeartbeats 4000000 in
set_option maxRecDepth 100000 in
theorem c_X0_countWorlds (l : Launch) (G : xG) (n : Nat)  (S : xS) (a1 : Int32) (a2 : Int32) (a3 : Int32) (r : Int64) (S' : xS) (hf : f_X0_countWorlds n S a1 a2 a3 = some (r, S')) : xMl l G yX0_countWorlds cX0_countWorlds 8 (some .long) 2 52 [.ref (G.2.2 15), .int a1, .int a2, .int a3] S r S' := by
  refine xMl_of (own := RX0) (by decide +kernel) rfl (Nat.le_of_ble_eq_true rfl) ?_
  intro p e s m args below meth c X hr hlk H locs ls hP hS hl
  have hl : lv_has ls 8 [(0, .ref (G.2.2 15)), (1, .int a1), (2, .int a2), (3, .int a3)] := hl
  obtain ⟨hx, hb, hml, hown, hts, hE⟩ := id X
  unfold f_X0_countWorlds at hf
  refine lv_aload_n hx hb dX0_countWorlds_0 rfl (lv_at hl 0 rfl) ?_
  refine x_getR X hP fl_X0_15 (by decide) rfl rfl dX0_countWorlds_1 ?_
  refine lv_lconst (v := 0) hx hb dX0_countWorlds_4 (by decide) ?_
  obtain ⟨r1, h2, hf⟩ := xb_some hf
  refine x_cSv (As := [.ref (G.2.2 17), .long (0 : Int64)]) (rest := []) X hP hS kc_X0_50 (c_J7_fill_d0a16 l G n 17 9 (by decide) rfl S (0 : Int64) _ h2) ⟨Nat.le_of_ble_eq_true rfl, Nat.le_of_ble_eq_true rfl⟩ rfl hl.1 rfl (Nat.le_of_ble_eq_true rfl) ⟨Nat.zero_le _, Nat.zero_le _⟩ dX0_countWorlds_5 (fun H locs hP hS => ?_)
  refine lv_lconst (v := 1) hx hb dX0_countWorlds_8 (by decide) ?_
  refine lv_lstore (lv' := [(4, .long (1 : Int64)), (0, .ref (G.2.2 15)), (1, .int a1), (2, .int a2), (3, .int a3)]) hx hb dX0_countWorlds_9 hl (by decide) rfl (fun ls hl => ?_)
  refine lv_iconst (v := 0) hx hb dX0_countWorlds_11 (by decide) ?_
  refine lv_istore (lv' := [(6, .int (0 : Int32)), (4, .long (1 : Int64)), (0, .ref (G.2.2 15)), (1, .int a1), (2, .int a2), (3, .int a3)]) hx hb dX0_countWorlds_12 hl (by decide) rfl (fun ls hl => ?_)
  exact t_X0_countWorlds_14 X hr hlk   n r1 a1 a2 a3 (1 : Int64) (0 : Int32) hf H locs ls hP hS (lv_sub hl [2, 3, 4, 5, 1, 0] rfl)
