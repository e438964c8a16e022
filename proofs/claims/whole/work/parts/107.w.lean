def f_X8_runs (n : Nat) (S : xS) (a1 : Int32) (a2 : Int32) (a3 : Int32) : Option Int32 :=
  (if (f_X8_within a1 (1 : Int32) (999 : Int32)) = 0 then some (-2 : Int32) else (if (f_X8_isSill S a2) = 0 then some (-2 : Int32) else (if (f_X8_isSill S a3) = 0 then some (-2 : Int32) else (if a2 ≤ a3 then (f_X5_spread n S a2 a3).bind fun r5 => ((if ((S.1 33 (1 : Int32).toNatClampNeg) - a1) < r5 then some (0 : Int32) else some (1 : Int32))) else some (-2 : Int32)))))
set_option maxHeartbeats 4000000 in
set_option maxRecDepth 100000 in
theorem c_X8_runs (l : Launch) (G : xG) (n : Nat)  (S : xS) (a1 : Int32) (a2 : Int32) (a3 : Int32) (r : Int32) (hf : f_X8_runs n S a1 a2 a3 = some r) : xMi l G yX8_runs cX8_runs 4 (some .int) 2 46 [.ref (G.2.2 0), .int a1, .int a2, .int a3] S r S := by
  refine xMi_of (own := RX8) (by decide +kernel) rfl (Nat.le_of_ble_eq_true rfl) ?_
  intro p e s m args below meth c X hr hlk H locs ls hP hS hl
  have hl : lv_has ls 4 [(0, .ref (G.2.2 0)), (1, .int a1), (2, .int a2), (3, .int a3)] := hl
  obtain ⟨hx, hb, hml, hown, hts, hE⟩ := id X
  unfold f_X8_runs at hf
  refine lv_iload_n hx hb dX8_runs_0 rfl (lv_at hl 1 rfl) ?_
  refine lv_iconst (v := 1) hx hb dX8_runs_1 (by decide) ?_
  refine lv_sipush (v := 999) hx hb dX8_runs_2 (by decide) ?_
  refine x_cSi (As := [.int a1, .int (1 : Int32), .int (999 : Int32)]) (rest := []) X hP hS kc_X8_79 (c_X8_within l G  S a1 (1 : Int32) (999 : Int32) _ rfl) ⟨Nat.le_of_ble_eq_true rfl, Nat.le_of_ble_eq_true rfl⟩ rfl hl.1 rfl (Nat.le_of_ble_eq_true rfl) ⟨Nat.zero_le _, Nat.zero_le _⟩ dX8_runs_5 (fun H locs hP hS => ?_)
  refine lv_if_eq (tgt := 32) hx hb dX8_runs_8 (by decide) (fun e1 => ?_) (fun e1 => ?_)
  · have hf := xif_t hf e1
    refine lv_bipush (v := (-2)) hx hb dX8_runs_32 (by decide) ?_
    exact x_iret X hr hlk hP hS  (Option.some.inj hf) (rfl) dX8_runs_34
  · have hf := xif_f hf e1
    refine lv_aload_n hx hb dX8_runs_11 rfl (lv_at hl 0 rfl) ?_
    refine lv_iload_n hx hb dX8_runs_12 rfl (lv_at hl 2 rfl) ?_
    refine x_cVi (As := [.int a2]) (rest := []) X hP hS kc_X8_140 (c_X8_isSill l G  S a2 _ rfl) ⟨Nat.le_of_ble_eq_true rfl, Nat.le_of_ble_eq_true rfl⟩ (by decide) rfl rfl rfl hl.1 rfl (Nat.le_of_ble_eq_true rfl) ⟨Nat.zero_le _, Nat.zero_le _⟩ dX8_runs_13 (fun H locs hP hS => ?_)
    refine lv_if_eq (tgt := 32) hx hb dX8_runs_16 (by decide) (fun e2 => ?_) (fun e2 => ?_)
    · have hf := xif_t hf e2
      refine lv_bipush (v := (-2)) hx hb dX8_runs_32 (by decide) ?_
      exact x_iret X hr hlk hP hS  (Option.some.inj hf) (rfl) dX8_runs_34
    · have hf := xif_f hf e2
      refine lv_aload_n hx hb dX8_runs_19 rfl (lv_at hl 0 rfl) ?_
      refine lv_iload_n hx hb dX8_runs_20 rfl (lv_at hl 3 rfl) ?_
      refine x_cVi (As := [.int a3]) (rest := []) X hP hS kc_X8_140 (c_X8_isSill l G  S a3 _ rfl) ⟨Nat.le_of_ble_eq_true rfl, Nat.le_of_ble_eq_true rfl⟩ (by decide) rfl rfl rfl hl.1 rfl (Nat.le_of_ble_eq_true rfl) ⟨Nat.zero_le _, Nat.zero_le _⟩ dX8_runs_21 (fun H locs hP hS => ?_)
      refine lv_if_eq (tgt := 32) hx hb dX8_runs_24 (by decide) (fun e3 => ?_) (fun e3 => ?_)
      · have hf := xif_t hf e3
        refine lv_bipush (v := (-2)) hx hb dX8_runs_32 (by decide) ?_
        exact x_iret X hr hlk hP hS  (Option.some.inj hf) (rfl) dX8_runs_34
      · have hf := xif_f hf e3
        refine lv_iload_n hx hb dX8_runs_27 rfl (lv_at hl 3 rfl) ?_
        refine lv_iload_n hx hb dX8_runs_28 rfl (lv_at hl 2 rfl) ?_
        refine lv_icmp_ge (tgt := 35) hx hb dX8_runs_29 (by decide) (fun e4 => ?_) (fun e4 => ?_)
        · have hf := xif_t hf e4
          refine lv_aload_n hx hb dX8_runs_35 rfl (lv_at hl 0 rfl) ?_
          refine x_getR X hP fl_X8_48 (by decide) rfl rfl dX8_runs_36 ?_
          refine lv_iload_n hx hb dX8_runs_39 rfl (lv_at hl 2 rfl) ?_
          refine lv_iload_n hx hb dX8_runs_40 rfl (lv_at hl 3 rfl) ?_
          obtain ⟨r5, h6, hf⟩ := xb_some hf
          refine x_cVi (As := [.int a2, .int a3]) (rest := []) X hP hS kc_X8_208 (c_X5_spread l G n S a2 a3 _ h6) ⟨Nat.le_of_ble_eq_true rfl, Nat.le_of_ble_eq_true rfl⟩ (by decide) rfl rfl rfl hl.1 rfl (Nat.le_of_ble_eq_true rfl) ⟨Nat.zero_le _, Nat.zero_le _⟩ dX8_runs_41 (fun H locs hP hS => ?_)
          refine lv_aload_n hx hb dX8_runs_44 rfl (lv_at hl 0 rfl) ?_
          refine x_getR X hP fl_X8_7 (by decide) rfl rfl dX8_runs_45 ?_
          refine lv_iconst (v := 1) hx hb dX8_runs_48 (by decide) ?_
          refine x_iald X hP (by decide) rfl (by decide) dX8_runs_49 ?_
          refine lv_iload_n hx hb dX8_runs_50 rfl (lv_at hl 1 rfl) ?_
          refine lv_isub hx hb dX8_runs_51 ?_
          refine lv_icmp_gt (tgt := 59) hx hb dX8_runs_52 (by decide) (fun e7 => ?_) (fun e7 => ?_)
          · have hf := xif_t hf e7
            refine lv_iconst (v := 0) hx hb dX8_runs_59 (by decide) ?_
            exact x_iret X hr hlk hP hS  (Option.some.inj hf) (rfl) dX8_runs_60
          · have hf := xif_f hf e7
            refine lv_iconst (v := 1) hx hb dX8_runs_55 (by decide) ?_
            refine lv_goto (tgt := 60) hx hb dX8_runs_56 (by decide) ?_
            exact x_iret X hr hlk hP hS  (Option.some.inj hf) (rfl) dX8_runs_60
        · have hf := xif_f hf e4
          refine lv_bipush (v := (-2)) hx hb dX8_runs_32 (by decide) ?_
          exact x_iret X hr hlk hP hS  (Option.some.inj hf) (rfl) dX8_runs_34
def j_X9_spread_46 (n : Nat) (k18 : Int32 → Int32 → Int32 → Int32 → Option Int32) (S : xS) (a2 : Int32) (a4 : Int32) (a5 : Int32) (s0 : Int32) : Option Int32 :=
  xg (xin a5 11) ((if (S.1 43 a5.toNatClampNeg) ≤ a4 then k18 a2 s0 a4 (a5 + 1) else xg (xin a5 11) (k18 a2 s0 (S.1 43 a5.toNatClampNeg) (a5 + 1))))
set_option maxHeartbeats 4000000 in
set_option maxRecDepth 100000 in
theorem t_X9_spread_46 {p : Program} {l : Launch} {e : Env} {s : State} {m : MethodId} {args : Array Value} {below : List Frame} {meth : Method} {c : Code} {G : xG} (X : xC p s m args c G RX9 cX9_spread 6) (hr : meth.sig.returnType = (some .int)) (hlk : meth.locks = false) {n : Nat} {r : Int32} {S : xS} {k18 : Int32 → Int32 → Int32 → Int32 → Option Int32} (hk18 : ∀ (a2 : Int32) (a3 : Int32) (a4 : Int32) (a5 : Int32), k18 a2 a3 a4 a5 = some r → xGo p l e { frames := 0, cells := 0, slots := 0, locals := 0 } s m args below meth c G 6 0 0 (MQ below (xQi G r S) args s 0 0 (xA G)) S 18 [(0, .ref (G.2.2 34)), (2, .int a2), (3, .int a3), (4, .int a4), (5, .int a5)] []) : ∀ (a2 : Int32) (a4 : Int32) (a5 : Int32) (s0 : Int32), j_X9_spread_46 n k18 S a2 a4 a5 s0 = some r → xGo p l e { frames := 0, cells := 0, slots := 0, locals := 0 } s m args below meth c G 6 0 0 (MQ below (xQi G r S) args s 0 0 (xA G)) S 46 [(0, .ref (G.2.2 34)), (2, .int a2), (4, .int a4), (5, .int a5)] [.int s0] := by
  intro a2 a4 a5 s0 hf H locs ls hP hS hl
  unfold j_X9_spread_46 at hf
  obtain ⟨hx, hb, hml, hown, hts, hE⟩ := id X
  refine lv_istore_n (lv' := [(3, .int s0), (0, .ref (G.2.2 34)), (2, .int a2), (4, .int a4), (5, .int a5)]) hx hb dX9_spread_46 rfl hl (by decide) rfl (fun ls hl => ?_)
  refine lv_aload_n hx hb dX9_spread_47 rfl (lv_at hl 1 rfl) ?_
  refine x_getR X hP fl_X9_34 (by decide) rfl rfl dX9_spread_48 ?_
  refine lv_iload hx hb dX9_spread_51 (lv_at hl 4 rfl) ?_
  obtain ⟨g6, hf⟩ := xg_some hf
  refine x_iald X hP (by decide) rfl g6 dX9_spread_53 ?_
  refine lv_iload hx hb dX9_spread_54 (lv_at hl 3 rfl) ?_
  refine lv_icmp_le (tgt := 69) hx hb dX9_spread_56 (by decide) (fun e7 => ?_) (fun e7 => ?_)
  · have hf := xif_t hf e7
    refine lv_iload hx hb dX9_spread_69 (lv_at hl 3 rfl) ?_
    refine lv_istore (lv' := [(4, .int a4), (3, .int s0), (0, .ref (G.2.2 34)), (2, .int a2), (5, .int a5)]) hx hb dX9_spread_71 hl (by decide) rfl (fun ls hl => ?_)
    refine lv_iinc (v := a5 + 1) (lv' := [(5, .int (a5 + 1)), (4, .int a4), (3, .int s0), (0, .ref (G.2.2 34)), (2, .int a2)]) hx hb dX9_spread_73 hl (k := 4) rfl rfl (by decide) rfl (fun ls hl => ?_)
    refine lv_goto (tgt := 18) hx hb dX9_spread_76 (by decide) ?_
    exact hk18 a2 s0 a4 (a5 + 1) hf H locs ls hP hS (lv_sub hl [3, 4, 2, 1, 0] rfl)
  · have hf := xif_f hf e7
    refine lv_aload_n hx hb dX9_spread_59 rfl (lv_at hl 1 rfl) ?_
    refine x_getR X hP fl_X9_34 (by decide) rfl rfl dX9_spread_60 ?_
    refine lv_iload hx hb dX9_spread_63 (lv_at hl 4 rfl) ?_
    obtain ⟨g8, hf⟩ := xg_some hf
    refine x_iald X hP (by decide) rfl g8 dX9_spread_65 ?_
    refine lv_goto (tgt := 71) hx hb dX9_spread_66 (by decide) ?_
    refine lv_istore (lv' := [(4, .int (S.1 43 a5.toNatClampNeg)), (3, .int s0), (0, .ref (G.2.2 34)), (2, .int a2), (5, .int a5)]) hx hb dX9_spread_71 hl (by decide) rfl (fun ls hl => ?_)
    refine lv_iinc (v := a5 + 1) (lv' := [(5, .int (a5 + 1)), (4, .int (S.1 43 a5.toNatClampNeg)), (3, .int s0), (0, .ref (G.2.2 34)), (2, .int a2)]) hx hb dX9_spread_73 hl (k := 4) rfl rfl (by decide) rfl (fun ls hl => ?_)
    refine lv_goto (tgt := 18) hx hb dX9_spread_76 (by decide) ?_
    exact hk18 a2 s0 (S.1 43 a5.toNatClampNeg) (a5 + 1) hf H locs ls hP hS (lv_sub hl [3, 4, 2, 1, 0] rfl)
def b_X9_spread_18 (n : Nat) (k18 : Int32 → Int32 → Int32 → Int32 → Option Int32) (S : xS) (a2 : Int32) (a3 : Int32) (a4 : Int32) (a5 : Int32) : Option Int32 :=
  (if a2 < a5 then some (a4 - a3) else xg (xin a5 11) ((if a3 ≤ (S.1 43 a5.toNatClampNeg) then j_X9_spread_46 n k18 S a2 a4 a5 a3 else xg (xin a5 11) (j_X9_spread_46 n k18 S a2 a4 a5 (S.1 43 a5.toNatClampNeg)))))
def l_X9_spread_18 (n : Nat) (S : xS) : Nat → Int32 → Int32 → Int32 → Int32 → Option Int32
  | 0, _, _, _, _ => none
  | j + 1, a2, a3, a4, a5 => b_X9_spread_18 n (l_X9_spread_18 n S j) S a2 a3 a4 a5
set_option maxHeartbeats 4000000 in
set_option maxRecDepth 100000 in
theorem t_X9_spread_18 {p : Program} {l : Launch} {e : Env} {s : State} {m : MethodId} {args : Array Value} {below : List Frame} {meth : Method} {c : Code} {G : xG} (X : xC p s m args c G RX9 cX9_spread 6) (hr : meth.sig.returnType = (some .int)) (hlk : meth.locks = false) {n : Nat} {r : Int32} {S : xS} : ∀ (j : Nat) (a2 : Int32) (a3 : Int32) (a4 : Int32) (a5 : Int32), l_X9_spread_18 n S j a2 a3 a4 a5 = some r → xGo p l e { frames := 0, cells := 0, slots := 0, locals := 0 } s m args below meth c G 6 0 0 (MQ below (xQi G r S) args s 0 0 (xA G)) S 18 [(0, .ref (G.2.2 34)), (2, .int a2), (3, .int a3), (4, .int a4), (5, .int a5)] [] := by
  intro j
  induction j with
  | zero => intro a2 a3 a4 a5 hf; exact nomatch (show (none : Option Int32) = _ from hf)
  | succ j ih =>
    intro a2 a3 a4 a5 hf H locs ls hP hS hl
    have hf : b_X9_spread_18 n (l_X9_spread_18 n S j) S a2 a3 a4 a5 = some r := hf
    unfold b_X9_spread_18 at hf
    obtain ⟨hx, hb, hml, hown, hts, hE⟩ := id X
    refine lv_iload hx hb dX9_spread_18 (lv_at hl 4 rfl) ?_
    refine lv_iload_n hx hb dX9_spread_20 rfl (lv_at hl 1 rfl) ?_
    refine lv_icmp_gt (tgt := 79) hx hb dX9_spread_21 (by decide) (fun e3 => ?_) (fun e3 => ?_)
    · have hf := xif_t hf e3
      refine lv_iload hx hb dX9_spread_79 (lv_at hl 3 rfl) ?_
      refine lv_iload_n hx hb dX9_spread_81 rfl (lv_at hl 2 rfl) ?_
      refine lv_isub hx hb dX9_spread_82 ?_
      exact x_iret X hr hlk hP hS  (Option.some.inj hf) (rfl) dX9_spread_83
    · have hf := xif_f hf e3
      refine lv_aload_n hx hb dX9_spread_24 rfl (lv_at hl 0 rfl) ?_
      refine x_getR X hP fl_X9_34 (by decide) rfl rfl dX9_spread_25 ?_
      refine lv_iload hx hb dX9_spread_28 (lv_at hl 4 rfl) ?_
      obtain ⟨g4, hf⟩ := xg_some hf
      refine x_iald X hP (by decide) rfl g4 dX9_spread_30 ?_
      refine lv_iload_n hx hb dX9_spread_31 rfl (lv_at hl 2 rfl) ?_
      refine lv_icmp_ge (tgt := 45) hx hb dX9_spread_32 (by decide) (fun e5 => ?_) (fun e5 => ?_)
      · have hf := xif_t hf e5
        refine lv_iload_n hx hb dX9_spread_45 rfl (lv_at hl 2 rfl) ?_
        exact t_X9_spread_46 X hr hlk  ih a2 a4 a5 a3 hf H locs ls hP hS (lv_sub hl [0, 1, 3, 4] rfl)
      · have hf := xif_f hf e5
        refine lv_aload_n hx hb dX9_spread_35 rfl (lv_at hl 0 rfl) ?_
        refine x_getR X hP fl_X9_34 (by decide) rfl rfl dX9_spread_36 ?_
        refine lv_iload hx hb dX9_spread_39 (lv_at hl 4 rfl) ?_
        obtain ⟨g9, hf⟩ := xg_some hf
        refine x_iald X hP (by decide) rfl g9 dX9_spread_41 ?_
        refine lv_goto (tgt := 46) hx hb dX9_spread_42 (by decide) ?_
        exact t_X9_spread_46 X hr hlk  ih a2 a4 a5 (S.1 43 a5.toNatClampNeg) hf H locs ls hP hS (lv_sub hl [0, 1, 3, 4] rfl)
def f_X9_spread (n : Nat) (S : xS) (a1 : Int32) (a2 : Int32) : Option Int32 :=
  xg (xin a1 11) (xg (xin a1 11) (l_X9_spread_18 n S n a2 (S.1 43 a1.toNatClampNeg) (S.1 43 a1.toNatClampNeg) a1))
set_option maxHeartbeats 4000000 in
set_option maxRecDepth 100000 in
theorem c_X9_spread (l : Launch) (G : xG) (n : Nat)  (S : xS) (a1 : Int32) (a2 : Int32) (r : Int32) (hf : f_X9_spread n S a1 a2 = some r) : xMi l G yX9_spread cX9_spread 6 (some .int) 0 0 [.ref (G.2.2 34), .int a1, .int a2] S r S := by
  refine xMi_of (own := RX9) (by decide +kernel) rfl (Nat.le_of_ble_eq_true rfl) ?_
  intro p e s m args below meth c X hr hlk H locs ls hP hS hl
  have hl : lv_has ls 6 [(0, .ref (G.2.2 34)), (1, .int a1), (2, .int a2)] := hl
  obtain ⟨hx, hb, hml, hown, hts, hE⟩ := id X
  unfold f_X9_spread at hf
  refine lv_aload_n hx hb dX9_spread_0 rfl (lv_at hl 0 rfl) ?_
  refine x_getR X hP fl_X9_34 (by decide) rfl rfl dX9_spread_1 ?_
  refine lv_iload_n hx hb dX9_spread_4 rfl (lv_at hl 1 rfl) ?_
  obtain ⟨g1, hf⟩ := xg_some hf
  refine x_iald X hP (by decide) rfl g1 dX9_spread_5 ?_
  refine lv_istore_n (lv' := [(3, .int (S.1 43 a1.toNatClampNeg)), (0, .ref (G.2.2 34)), (1, .int a1), (2, .int a2)]) hx hb dX9_spread_6 rfl hl (by decide) rfl (fun ls hl => ?_)
  refine lv_aload_n hx hb dX9_spread_7 rfl (lv_at hl 1 rfl) ?_
  refine x_getR X hP fl_X9_34 (by decide) rfl rfl dX9_spread_8 ?_
  refine lv_iload_n hx hb dX9_spread_11 rfl (lv_at hl 2 rfl) ?_
  obtain ⟨g2, hf⟩ := xg_some hf
  refine x_iald X hP (by decide) rfl g2 dX9_spread_12 ?_
  refine lv_istore (lv' := [(4, .int (S.1 43 a1.toNatClampNeg)), (3, .int (S.1 43 a1.toNatClampNeg)), (0, .ref (G.2.2 34)), (1, .int a1), (2, .int a2)]) hx hb dX9_spread_13 hl (by decide) rfl (fun ls hl => ?_)
  refine lv_iload_n hx hb dX9_spread_15 rfl (lv_at hl 3 rfl) ?_
  refine lv_istore (lv' := [(5, .int a1), (4, .int (S.1 43 a1.toNatClampNeg)), (3, .int (S.1 43 a1.toNatClampNeg)), (0, .ref (G.2.2 34)), (1, .int a1), (2, .int a2)]) hx hb dX9_spread_16 hl (by decide) rfl (fun ls hl => ?_)
  exact t_X9_spread_18 X hr hlk   n a2 (S.1 43 a1.toNatClampNeg) (S.1 43 a1.toNatClampNeg) a1 hf H locs ls hP hS (lv_sub hl [3, 5, 2, 1, 0] rfl)
def f_X9_runs (n : Nat) (S : xS) (a1 : Int32) (a2 : Int32) (a3 : Int32) : Option (Int32 × xS) :=
  (if (f_X9_in a1 (1 : Int32) (999 : Int32)) = 0 then some ((-2 : Int32), S) else (if a2 < 0 then some ((-2 : Int32), S) else (f_X9_floorsNow n S).bind fun r3 => ((if (f_X9_in a3 a2 r3.1) = 0 then some ((-2 : Int32), r3.2) else (f_X9_spread n r3.2 a2 a3).bind fun r6 => ((if ((r3.2.1 37 (1 : Int32).toNatClampNeg) - a1) < r6 then some ((0 : Int32), r3.2) else some ((1 : Int32), r3.2)))))))
set_option maxHeartbeats 4000000 in
set_option maxRecDepth 100000 in
theorem c_X9_runs (l : Launch) (G : xG) (n : Nat)  (S : xS) (a1 : Int32) (a2 : Int32) (a3 : Int32) (r : Int32) (S' : xS) (hf : f_X9_runs n S a1 a2 a3 = some (r, S')) : xMi l G yX9_runs cX9_runs 4 (some .int) 5 113 [.ref (G.2.2 34), .int a1, .int a2, .int a3] S r S' := by
  refine xMi_of (own := RX9) (by decide +kernel) rfl (Nat.le_of_ble_eq_true rfl) ?_
  intro p e s m args below meth c X hr hlk H locs ls hP hS hl
  have hl : lv_has ls 4 [(0, .ref (G.2.2 34)), (1, .int a1), (2, .int a2), (3, .int a3)] := hl
  obtain ⟨hx, hb, hml, hown, hts, hE⟩ := id X
  unfold f_X9_runs at hf
  refine lv_iload_n hx hb dX9_runs_0 rfl (lv_at hl 1 rfl) ?_
  refine lv_iconst (v := 1) hx hb dX9_runs_1 (by decide) ?_
  refine lv_sipush (v := 999) hx hb dX9_runs_2 (by decide) ?_
  refine x_cSi (As := [.int a1, .int (1 : Int32), .int (999 : Int32)]) (rest := []) X hP hS kc_X9_68 (c_X9_in l G  S a1 (1 : Int32) (999 : Int32) _ rfl) ⟨Nat.le_of_ble_eq_true rfl, Nat.le_of_ble_eq_true rfl⟩ rfl hl.1 rfl (Nat.le_of_ble_eq_true rfl) ⟨Nat.zero_le _, Nat.zero_le _⟩ dX9_runs_5 (fun H locs hP hS => ?_)
  refine lv_if_eq (tgt := 27) hx hb dX9_runs_8 (by decide) (fun e1 => ?_) (fun e1 => ?_)
  · have hf := xif_t hf e1
    refine lv_bipush (v := (-2)) hx hb dX9_runs_27 (by decide) ?_
    exact x_iret X hr hlk hP hS  ((Prod.mk.inj (Option.some.inj hf)).1) ((Prod.mk.inj (Option.some.inj hf)).2) dX9_runs_29
  · have hf := xif_f hf e1
    refine lv_iload_n hx hb dX9_runs_11 rfl (lv_at hl 2 rfl) ?_
    refine lv_if_lt (tgt := 27) hx hb dX9_runs_12 (by decide) (fun e2 => ?_) (fun e2 => ?_)
    · have hf := xif_t hf e2
      refine lv_bipush (v := (-2)) hx hb dX9_runs_27 (by decide) ?_
      exact x_iret X hr hlk hP hS  ((Prod.mk.inj (Option.some.inj hf)).1) ((Prod.mk.inj (Option.some.inj hf)).2) dX9_runs_29
    · have hf := xif_f hf e2
      refine lv_iload_n hx hb dX9_runs_15 rfl (lv_at hl 3 rfl) ?_
      refine lv_iload_n hx hb dX9_runs_16 rfl (lv_at hl 2 rfl) ?_
      refine lv_aload_n hx hb dX9_runs_17 rfl (lv_at hl 0 rfl) ?_
      obtain ⟨r3, h4, hf⟩ := xb_some hf
      refine x_cVi (As := []) (rest := [.int a2, .int a3]) X hP hS kc_X9_97 (c_X9_floorsNow l G n S  r3.1 r3.2 h4) ⟨Nat.le_of_ble_eq_true rfl, Nat.le_of_ble_eq_true rfl⟩ (by decide) rfl rfl rfl hl.1 rfl (Nat.le_of_ble_eq_true rfl) ⟨Nat.zero_le _, Nat.zero_le _⟩ dX9_runs_18 (fun H locs hP hS => ?_)
      refine x_cSi (As := [.int a3, .int a2, .int r3.1]) (rest := []) X hP hS kc_X9_68 (c_X9_in l G  r3.2 a3 a2 r3.1 _ rfl) ⟨Nat.le_of_ble_eq_true rfl, Nat.le_of_ble_eq_true rfl⟩ rfl hl.1 rfl (Nat.le_of_ble_eq_true rfl) ⟨Nat.zero_le _, Nat.zero_le _⟩ dX9_runs_21 (fun H locs hP hS => ?_)
      refine lv_if_ne (tgt := 30) hx hb dX9_runs_24 (by decide) (fun e5 => ?_) (fun e5 => ?_)
      · have hf := xif_f hf e5
        refine lv_aload_n hx hb dX9_runs_30 rfl (lv_at hl 0 rfl) ?_
        refine lv_iload_n hx hb dX9_runs_31 rfl (lv_at hl 2 rfl) ?_
        refine lv_iload_n hx hb dX9_runs_32 rfl (lv_at hl 3 rfl) ?_
        obtain ⟨r6, h7, hf⟩ := xb_some hf
        refine x_cVi (As := [.int a2, .int a3]) (rest := []) X hP hS kc_X9_163 (c_X9_spread l G n r3.2 a2 a3 _ h7) ⟨Nat.le_of_ble_eq_true rfl, Nat.le_of_ble_eq_true rfl⟩ (by decide) rfl rfl rfl hl.1 rfl (Nat.le_of_ble_eq_true rfl) ⟨Nat.zero_le _, Nat.zero_le _⟩ dX9_runs_33 (fun H locs hP hS => ?_)
        refine lv_aload_n hx hb dX9_runs_36 rfl (lv_at hl 0 rfl) ?_
        refine x_getR X hP fl_X9_16 (by decide) rfl rfl dX9_runs_37 ?_
        refine lv_iconst (v := 1) hx hb dX9_runs_40 (by decide) ?_
        refine x_iald X hP (by decide) rfl (by decide) dX9_runs_41 ?_
        refine lv_iload_n hx hb dX9_runs_42 rfl (lv_at hl 1 rfl) ?_
        refine lv_isub hx hb dX9_runs_43 ?_
        refine lv_icmp_gt (tgt := 51) hx hb dX9_runs_44 (by decide) (fun e8 => ?_) (fun e8 => ?_)
        · have hf := xif_t hf e8
          refine lv_iconst (v := 0) hx hb dX9_runs_51 (by decide) ?_
          exact x_iret X hr hlk hP hS  ((Prod.mk.inj (Option.some.inj hf)).1) ((Prod.mk.inj (Option.some.inj hf)).2) dX9_runs_52
        · have hf := xif_f hf e8
          refine lv_iconst (v := 1) hx hb dX9_runs_47 (by decide) ?_
          refine lv_goto (tgt := 52) hx hb dX9_runs_48 (by decide) ?_
          exact x_iret X hr hlk hP hS  ((Prod.mk.inj (Option.some.inj hf)).1) ((Prod.mk.inj (Option.some.inj hf)).2) dX9_runs_52
      · have hf := xif_t hf e5
        refine lv_bipush (v := (-2)) hx hb dX9_runs_27 (by decide) ?_
        exact x_iret X hr hlk hP hS  ((Prod.mk.inj (Option.some.inj hf)).1) ((Prod.mk.inj (Option.some.inj hf)).2) dX9_runs_29
def f_X8_lifts (n : Nat) (S : xS)  : Option Int32 :=
  (f_X5_spread n S (0 : Int32) (S.1 4 3)).bind fun r1 => (some (xmax (0 : Int32) ((S.1 33 (1 : Int32).toNatClampNeg) - r1)))
set_option maxHeartbeats 4000000 in
set_option maxRecDepth 100000 in
theorem c_X8_lifts (l : Launch) (G : xG) (n : Nat)  (S : xS)  (r : Int32) (hf : f_X8_lifts n S  = some r) : xMi l G yX8_lifts cX8_lifts 1 (some .int) 2 46 [.ref (G.2.2 0)] S r S := by
  refine xMi_of (own := RX8) (by decide +kernel) rfl (Nat.le_of_ble_eq_true rfl) ?_
  intro p e s m args below meth c X hr hlk H locs ls hP hS hl
  have hl : lv_has ls 1 [(0, .ref (G.2.2 0))] := hl
  obtain ⟨hx, hb, hml, hown, hts, hE⟩ := id X
  unfold f_X8_lifts at hf
  refine lv_iconst (v := 0) hx hb dX8_lifts_0 (by decide) ?_
  refine lv_aload_n hx hb dX8_lifts_1 rfl (lv_at hl 0 rfl) ?_
  refine x_getR X hP fl_X8_7 (by decide) rfl rfl dX8_lifts_2 ?_
  refine lv_iconst (v := 1) hx hb dX8_lifts_5 (by decide) ?_
  refine x_iald X hP (by decide) rfl (by decide) dX8_lifts_6 ?_
  refine lv_aload_n hx hb dX8_lifts_7 rfl (lv_at hl 0 rfl) ?_
  refine x_getR X hP fl_X8_48 (by decide) rfl rfl dX8_lifts_8 ?_
  refine lv_iconst (v := 0) hx hb dX8_lifts_11 (by decide) ?_
  refine lv_aload_n hx hb dX8_lifts_12 rfl (lv_at hl 0 rfl) ?_
  refine x_getR X hP fl_X8_23 (by decide) rfl rfl dX8_lifts_13 ?_
  refine x_getIN X hP fn_X8_152 (by decide) rfl rfl dX8_lifts_16 ?_
  obtain ⟨r1, h2, hf⟩ := xb_some hf
  refine x_cVi (As := [.int (0 : Int32), .int (S.1 4 3)]) (rest := [.int (S.1 33 (1 : Int32).toNatClampNeg), .int (0 : Int32)]) X hP hS kc_X8_208 (c_X5_spread l G n S (0 : Int32) (S.1 4 3) _ h2) ⟨Nat.le_of_ble_eq_true rfl, Nat.le_of_ble_eq_true rfl⟩ (by decide) rfl rfl rfl hl.1 rfl (Nat.le_of_ble_eq_true rfl) ⟨Nat.zero_le _, Nat.zero_le _⟩ dX8_lifts_19 (fun H locs hP hS => ?_)
  refine lv_isub hx hb dX8_lifts_22 ?_
  refine x_mmax X kw_383 hl.1 ⟨Nat.le_of_ble_eq_true rfl, Nat.le_of_ble_eq_true rfl⟩ ⟨Nat.zero_le _, Nat.zero_le _⟩ dX8_lifts_23 ?_
  exact x_iret X hr hlk hP hS  (Option.some.inj hf) (rfl) dX8_lifts_26
def f_X9_liftsNow (n : Nat) (S : xS)  : Option (Int32 × xS) :=
  (f_X9_floorsNow n S).bind fun r1 => ((f_X9_spread n r1.2 (0 : Int32) r1.1).bind fun r3 => ((if 0 ≤ ((S.1 37 (1 : Int32).toNatClampNeg) - r3) then some ((S.1 37 (1 : Int32).toNatClampNeg) - r3, r1.2) else some ((0 : Int32), r1.2))))
set_option maxHeartbeats 4000000 in
set_option maxRecDepth 100000 in
theorem c_X9_liftsNow (l : Launch) (G : xG) (n : Nat)  (S : xS)  (r : Int32) (S' : xS) (hf : f_X9_liftsNow n S  = some (r, S')) : xMi l G yX9_liftsNow cX9_liftsNow 2 (some .int) 5 113 [.ref (G.2.2 34)] S r S' := by
  refine xMi_of (own := RX9) (by decide +kernel) rfl (Nat.le_of_ble_eq_true rfl) ?_
  intro p e s m args below meth c X hr hlk H locs ls hP hS hl
  have hl : lv_has ls 2 [(0, .ref (G.2.2 34))] := hl
  obtain ⟨hx, hb, hml, hown, hts, hE⟩ := id X
  unfold f_X9_liftsNow at hf
  refine lv_aload_n hx hb dX9_liftsNow_0 rfl (lv_at hl 0 rfl) ?_
  refine x_getR X hP fl_X9_16 (by decide) rfl rfl dX9_liftsNow_1 ?_
  refine lv_iconst (v := 1) hx hb dX9_liftsNow_4 (by decide) ?_
  refine x_iald X hP (by decide) rfl (by decide) dX9_liftsNow_5 ?_
  refine lv_aload_n hx hb dX9_liftsNow_6 rfl (lv_at hl 0 rfl) ?_
  refine lv_iconst (v := 0) hx hb dX9_liftsNow_7 (by decide) ?_
  refine lv_aload_n hx hb dX9_liftsNow_8 rfl (lv_at hl 0 rfl) ?_
  obtain ⟨r1, h2, hf⟩ := xb_some hf
  refine x_cVi (As := []) (rest := [.int (0 : Int32), .ref (G.2.2 34), .int (S.1 37 (1 : Int32).toNatClampNeg)]) X hP hS kc_X9_97 (c_X9_floorsNow l G n S  r1.1 r1.2 h2) ⟨Nat.le_of_ble_eq_true rfl, Nat.le_of_ble_eq_true rfl⟩ (by decide) rfl rfl rfl hl.1 rfl (Nat.le_of_ble_eq_true rfl) ⟨Nat.zero_le _, Nat.zero_le _⟩ dX9_liftsNow_9 (fun H locs hP hS => ?_)
  obtain ⟨r3, h4, hf⟩ := xb_some hf
  refine x_cVi (As := [.int (0 : Int32), .int r1.1]) (rest := [.int (S.1 37 (1 : Int32).toNatClampNeg)]) X hP hS kc_X9_163 (c_X9_spread l G n r1.2 (0 : Int32) r1.1 _ h4) ⟨Nat.le_of_ble_eq_true rfl, Nat.le_of_ble_eq_true rfl⟩ (by decide) rfl rfl rfl hl.1 rfl (Nat.le_of_ble_eq_true rfl) ⟨Nat.zero_le _, Nat.zero_le _⟩ dX9_liftsNow_12 (fun H locs hP hS => ?_)
  refine lv_isub hx hb dX9_liftsNow_15 ?_
  refine lv_istore_n (lv' := [(1, .int ((S.1 37 (1 : Int32).toNatClampNeg) - r3)), (0, .ref (G.2.2 34))]) hx hb dX9_liftsNow_16 rfl hl (by decide) rfl (fun ls hl => ?_)
  refine lv_iload_n hx hb dX9_liftsNow_17 rfl (lv_at hl 0 rfl) ?_
  refine lv_if_ge (tgt := 25) hx hb dX9_liftsNow_18 (by decide) (fun e5 => ?_) (fun e5 => ?_)
  · have hf := xif_t hf e5
    refine lv_iload_n hx hb dX9_liftsNow_25 rfl (lv_at hl 0 rfl) ?_
    exact x_iret X hr hlk hP hS  ((Prod.mk.inj (Option.some.inj hf)).1) ((Prod.mk.inj (Option.some.inj hf)).2) dX9_liftsNow_26
  · have hf := xif_f hf e5
    refine lv_iconst (v := 0) hx hb dX9_liftsNow_21 (by decide) ?_
    refine lv_goto (tgt := 26) hx hb dX9_liftsNow_22 (by decide) ?_
    exact x_iret X hr hlk hP hS  ((Prod.mk.inj (Option.some.inj hf)).1) ((Prod.mk.inj (Option.some.inj hf)).2) dX9_liftsNow_26
def f_X9_lifts (n : Nat) (S : xS)  : Option (Int32 × xS) :=
  (f_X9_liftsNow n S).bind fun r1 => (some (r1.1, r1.2))
set_option maxHeartbeats 4000000 in
set_option maxRecDepth 100000 in
theorem c_X9_lifts (l : Launch) (G : xG) (n : Nat)  (S : xS)  (r : Int32) (S' : xS) (hf : f_X9_lifts n S  = some (r, S')) : xMi l G yX9_lifts cX9_lifts 1 (some .int) 6 134 [.ref (G.2.2 34)] S r S' := by
  refine xMi_of (own := RX9) (by decide +kernel) rfl (Nat.le_of_ble_eq_true rfl) ?_
  intro p e s m args below meth c X hr hlk H locs ls hP hS hl
  have hl : lv_has ls 1 [(0, .ref (G.2.2 34))] := hl
  obtain ⟨hx, hb, hml, hown, hts, hE⟩ := id X
  unfold f_X9_lifts at hf
  refine lv_aload_n hx hb dX9_lifts_0 rfl (lv_at hl 0 rfl) ?_
  obtain ⟨r1, h2, hf⟩ := xb_some hf
  refine x_cVi (As := []) (rest := []) X hP hS kc_X9_166 (c_X9_liftsNow l G n S  r1.1 r1.2 h2) ⟨Nat.le_of_ble_eq_true rfl, Nat.le_of_ble_eq_true rfl⟩ (by decide) rfl rfl rfl hl.1 rfl (Nat.le_of_ble_eq_true rfl) ⟨Nat.zero_le _, Nat.zero_le _⟩ dX9_lifts_1 (fun H locs hP hS => ?_)
  exact x_iret X hr hlk hP hS  ((Prod.mk.inj (Option.some.inj hf)).1) ((Prod.mk.inj (Option.some.inj hf)).2) dX9_lifts_4
def b_X5_lengthFrom_3 (n : Nat) (k3 : Int32 → Int32 → Int32 → Int32 → Option Int32) (S : xS) (a1 : Int32) (a2 : Int32) (a3 : Int32) (a4 : Int32) : Option Int32 :=
  (if a2 < a4 then some (a4 - a1) else (f_X5_spread n S a1 a4).bind fun r2 => ((if a3 < r2 then some (a4 - a1) else k3 a1 a2 a3 (a4 + 1))))
def l_X5_lengthFrom_3 (n : Nat) (S : xS) : Nat → Int32 → Int32 → Int32 → Int32 → Option Int32
  | 0, _, _, _, _ => none
  | j + 1, a1, a2, a3, a4 => b_X5_lengthFrom_3 n (l_X5_lengthFrom_3 n S j) S a1 a2 a3 a4
set_option maxHeartbeats 4000000 in
set_option maxRecDepth 100000 in
theorem t_X5_lengthFrom_3 {p : Program} {l : Launch} {e : Env} {s : State} {m : MethodId} {args : Array Value} {below : List Frame} {meth : Method} {c : Code} {G : xG} (X : xC p s m args c G RX5 cX5_lengthFrom 5) (hr : meth.sig.returnType = (some .int)) (hlk : meth.locks = false) {n : Nat} {r : Int32} {S : xS} : ∀ (j : Nat) (a1 : Int32) (a2 : Int32) (a3 : Int32) (a4 : Int32), l_X5_lengthFrom_3 n S j a1 a2 a3 a4 = some r → xGo p l e { frames := 2, cells := 0, slots := 0, locals := 46 } s m args below meth c G 5 0 0 (MQ below (xQi G r S) args s 0 0 (xA G)) S 3 [(0, .ref (G.2.2 18)), (1, .int a1), (2, .int a2), (3, .int a3), (4, .int a4)] [] := by
  intro j
  induction j with
  | zero => intro a1 a2 a3 a4 hf; exact nomatch (show (none : Option Int32) = _ from hf)
  | succ j ih =>
    intro a1 a2 a3 a4 hf H locs ls hP hS hl
    have hf : b_X5_lengthFrom_3 n (l_X5_lengthFrom_3 n S j) S a1 a2 a3 a4 = some r := hf
    unfold b_X5_lengthFrom_3 at hf
    obtain ⟨hx, hb, hml, hown, hts, hE⟩ := id X
    refine lv_iload hx hb dX5_lengthFrom_3 (lv_at hl 4 rfl) ?_
    refine lv_iload_n hx hb dX5_lengthFrom_5 rfl (lv_at hl 2 rfl) ?_
    refine lv_icmp_gt (tgt := 26) hx hb dX5_lengthFrom_6 (by decide) (fun e1 => ?_) (fun e1 => ?_)
    · have hf := xif_t hf e1
      refine lv_iload hx hb dX5_lengthFrom_26 (lv_at hl 4 rfl) ?_
      refine lv_iload_n hx hb dX5_lengthFrom_28 rfl (lv_at hl 1 rfl) ?_
      refine lv_isub hx hb dX5_lengthFrom_29 ?_
      exact x_iret X hr hlk hP hS  (Option.some.inj hf) (rfl) dX5_lengthFrom_30
    · have hf := xif_f hf e1
      refine lv_aload_n hx hb dX5_lengthFrom_9 rfl (lv_at hl 0 rfl) ?_
      refine lv_iload_n hx hb dX5_lengthFrom_10 rfl (lv_at hl 1 rfl) ?_
      refine lv_iload hx hb dX5_lengthFrom_11 (lv_at hl 4 rfl) ?_
      obtain ⟨r2, h3, hf⟩ := xb_some hf
      refine x_cVi (As := [.int a1, .int a4]) (rest := []) X hP hS kc_X5_24 (c_X5_spread l G n S a1 a4 _ h3) ⟨Nat.le_of_ble_eq_true rfl, Nat.le_of_ble_eq_true rfl⟩ (by decide) rfl rfl rfl hl.1 rfl (Nat.le_of_ble_eq_true rfl) ⟨Nat.zero_le _, Nat.zero_le _⟩ dX5_lengthFrom_13 (fun H locs hP hS => ?_)
      refine lv_iload_n hx hb dX5_lengthFrom_16 rfl (lv_at hl 3 rfl) ?_
      refine lv_icmp_gt (tgt := 26) hx hb dX5_lengthFrom_17 (by decide) (fun e4 => ?_) (fun e4 => ?_)
      · have hf := xif_t hf e4
        refine lv_iload hx hb dX5_lengthFrom_26 (lv_at hl 4 rfl) ?_
        refine lv_iload_n hx hb dX5_lengthFrom_28 rfl (lv_at hl 1 rfl) ?_
        refine lv_isub hx hb dX5_lengthFrom_29 ?_
        exact x_iret X hr hlk hP hS  (Option.some.inj hf) (rfl) dX5_lengthFrom_30
      · have hf := xif_f hf e4
        refine lv_iinc (v := a4 + 1) (lv' := [(4, .int (a4 + 1)), (0, .ref (G.2.2 18)), (1, .int a1), (2, .int a2), (3, .int a3)]) hx hb dX5_lengthFrom_20 hl (k := 4) rfl rfl (by decide) rfl (fun ls hl => ?_)
        refine lv_goto (tgt := 3) hx hb dX5_lengthFrom_23 (by decide) ?_
        exact ih a1 a2 a3 (a4 + 1) hf H locs ls hP hS (lv_sub hl [1, 2, 3, 4, 0] rfl)
def f_X5_lengthFrom (n : Nat) (S : xS) (a1 : Int32) (a2 : Int32) (a3 : Int32) : Option Int32 :=
  l_X5_lengthFrom_3 n S n a1 a2 a3 a1
set_option maxHeartbeats 4000000 in
set_option maxRecDepth 100000 in
theorem c_X5_lengthFrom (l : Launch) (G : xG) (n : Nat)  (S : xS) (a1 : Int32) (a2 : Int32) (a3 : Int32) (r : Int32) (hf : f_X5_lengthFrom n S a1 a2 a3 = some r) : xMi l G yX5_lengthFrom cX5_lengthFrom 5 (some .int) 2 46 [.ref (G.2.2 18), .int a1, .int a2, .int a3] S r S := by
  refine xMi_of (own := RX5) (by decide +kernel) rfl (Nat.le_of_ble_eq_true rfl) ?_
  intro p e s m args below meth c X hr hlk H locs ls hP hS hl
  have hl : lv_has ls 5 [(0, .ref (G.2.2 18)), (1, .int a1), (2, .int a2), (3, .int a3)] := hl
  obtain ⟨hx, hb, hml, hown, hts, hE⟩ := id X
  unfold f_X5_lengthFrom at hf
  refine lv_iload_n hx hb dX5_lengthFrom_0 rfl (lv_at hl 1 rfl) ?_
  refine lv_istore (lv' := [(4, .int a1), (0, .ref (G.2.2 18)), (1, .int a1), (2, .int a2), (3, .int a3)]) hx hb dX5_lengthFrom_1 hl (by decide) rfl (fun ls hl => ?_)
  exact t_X5_lengthFrom_3 X hr hlk   n a1 a2 a3 a1 hf H locs ls hP hS (lv_sub hl [1, 2, 3, 4, 0] rfl)
def b_X8_longest_31 (n : Nat) (k31 : Int32 → Int32 → Int32 → Int32 → Int32 → Option Int32) (S : xS) (a1 : Int32) (a2 : Int32) (a3 : Int32) (a4 : Int32) (a5 : Int32) : Option Int32 :=
  (if (S.1 4 3) < a5 then (if a2 = 0 then some a3 else some a4) else (f_X5_lengthFrom n S a5 (S.1 4 3) ((S.1 33 (1 : Int32).toNatClampNeg) - a1)).bind fun r5 => ((if r5 ≤ a3 then k31 a1 a2 a3 a4 (a5 + 1) else k31 a1 a2 r5 a5 (a5 + 1))))
def l_X8_longest_31 (n : Nat) (S : xS) : Nat → Int32 → Int32 → Int32 → Int32 → Int32 → Option Int32
  | 0, _, _, _, _, _ => none
  | j + 1, a1, a2, a3, a4, a5 => b_X8_longest_31 n (l_X8_longest_31 n S j) S a1 a2 a3 a4 a5
set_option maxHeartbeats 4000000 in
set_option maxRecDepth 100000 in
theorem t_X8_longest_31 {p : Program} {l : Launch} {e : Env} {s : State} {m : MethodId} {args : Array Value} {below : List Frame} {meth : Method} {c : Code} {G : xG} (X : xC p s m args c G RX8 cX8_longest 7) (hr : meth.sig.returnType = (some .int)) (hlk : meth.locks = false) {n : Nat} {r : Int32} {S : xS} : ∀ (j : Nat) (a1 : Int32) (a2 : Int32) (a3 : Int32) (a4 : Int32) (a5 : Int32), l_X8_longest_31 n S j a1 a2 a3 a4 a5 = some r → xGo p l e { frames := 3, cells := 0, slots := 0, locals := 70 } s m args below meth c G 7 0 0 (MQ below (xQi G r S) args s 0 0 (xA G)) S 31 [(0, .ref (G.2.2 0)), (1, .int a1), (2, .int a2), (3, .int a3), (4, .int a4), (5, .int a5)] [] := by
  intro j
  induction j with
  | zero => intro a1 a2 a3 a4 a5 hf; exact nomatch (show (none : Option Int32) = _ from hf)
  | succ j ih =>
    intro a1 a2 a3 a4 a5 hf H locs ls hP hS hl
    have hf : b_X8_longest_31 n (l_X8_longest_31 n S j) S a1 a2 a3 a4 a5 = some r := hf
    unfold b_X8_longest_31 at hf
    obtain ⟨hx, hb, hml, hown, hts, hE⟩ := id X
    refine lv_iload hx hb dX8_longest_31 (lv_at hl 5 rfl) ?_
    refine lv_aload_n hx hb dX8_longest_33 rfl (lv_at hl 0 rfl) ?_
    refine x_getR X hP fl_X8_23 (by decide) rfl rfl dX8_longest_34 ?_
    refine x_getIN X hP fn_X8_152 (by decide) rfl rfl dX8_longest_37 ?_
    refine lv_icmp_gt (tgt := 88) hx hb dX8_longest_40 (by decide) (fun e3 => ?_) (fun e3 => ?_)
    · have hf := xif_t hf e3
      refine lv_iload_n hx hb dX8_longest_88 rfl (lv_at hl 2 rfl) ?_
      refine lv_if_ne (tgt := 96) hx hb dX8_longest_89 (by decide) (fun e4 => ?_) (fun e4 => ?_)
      · have hf := xif_f hf e4
        refine lv_iload hx hb dX8_longest_96 (lv_at hl 4 rfl) ?_
        exact x_iret X hr hlk hP hS  (Option.some.inj hf) (rfl) dX8_longest_98
      · have hf := xif_t hf e4
        refine lv_iload_n hx hb dX8_longest_92 rfl (lv_at hl 3 rfl) ?_
        refine lv_goto (tgt := 98) hx hb dX8_longest_93 (by decide) ?_
        exact x_iret X hr hlk hP hS  (Option.some.inj hf) (rfl) dX8_longest_98
    · have hf := xif_f hf e3
      refine lv_aload_n hx hb dX8_longest_43 rfl (lv_at hl 0 rfl) ?_
      refine x_getR X hP fl_X8_48 (by decide) rfl rfl dX8_longest_44 ?_
      refine lv_iload hx hb dX8_longest_47 (lv_at hl 5 rfl) ?_
      refine lv_aload_n hx hb dX8_longest_49 rfl (lv_at hl 0 rfl) ?_
      refine x_getR X hP fl_X8_23 (by decide) rfl rfl dX8_longest_50 ?_
      refine x_getIN X hP fn_X8_152 (by decide) rfl rfl dX8_longest_53 ?_
      refine lv_aload_n hx hb dX8_longest_56 rfl (lv_at hl 0 rfl) ?_
      refine x_getR X hP fl_X8_7 (by decide) rfl rfl dX8_longest_57 ?_
      refine lv_iconst (v := 1) hx hb dX8_longest_60 (by decide) ?_
      refine x_iald X hP (by decide) rfl (by decide) dX8_longest_61 ?_
      refine lv_iload_n hx hb dX8_longest_62 rfl (lv_at hl 1 rfl) ?_
      refine lv_isub hx hb dX8_longest_63 ?_
      obtain ⟨r5, h6, hf⟩ := xb_some hf
      refine x_cVi (As := [.int a5, .int (S.1 4 3), .int ((S.1 33 (1 : Int32).toNatClampNeg) - a1)]) (rest := []) X hP hS kc_X8_214 (c_X5_lengthFrom l G n S a5 (S.1 4 3) ((S.1 33 (1 : Int32).toNatClampNeg) - a1) _ h6) ⟨Nat.le_of_ble_eq_true rfl, Nat.le_of_ble_eq_true rfl⟩ (by decide) rfl rfl rfl hl.1 rfl (Nat.le_of_ble_eq_true rfl) ⟨Nat.zero_le _, Nat.zero_le _⟩ dX8_longest_64 (fun H locs hP hS => ?_)
      refine lv_istore (lv' := [(6, .int r5), (0, .ref (G.2.2 0)), (1, .int a1), (2, .int a2), (3, .int a3), (4, .int a4), (5, .int a5)]) hx hb dX8_longest_67 hl (by decide) rfl (fun ls hl => ?_)
      refine lv_iload hx hb dX8_longest_69 (lv_at hl 0 rfl) ?_
      refine lv_iload_n hx hb dX8_longest_71 rfl (lv_at hl 4 rfl) ?_
      refine lv_icmp_le (tgt := 82) hx hb dX8_longest_72 (by decide) (fun e7 => ?_) (fun e7 => ?_)
      · have hf := xif_t hf e7
        refine lv_iinc (v := a5 + 1) (lv' := [(5, .int (a5 + 1)), (6, .int r5), (0, .ref (G.2.2 0)), (1, .int a1), (2, .int a2), (3, .int a3), (4, .int a4)]) hx hb dX8_longest_82 hl (k := 6) rfl rfl (by decide) rfl (fun ls hl => ?_)
        refine lv_goto (tgt := 31) hx hb dX8_longest_85 (by decide) ?_
        exact ih a1 a2 a3 a4 (a5 + 1) hf H locs ls hP hS (lv_sub hl [2, 3, 4, 5, 6, 0] rfl)
      · have hf := xif_f hf e7
        refine lv_iload hx hb dX8_longest_75 (lv_at hl 0 rfl) ?_
        refine lv_istore_n (lv' := [(3, .int r5), (6, .int r5), (0, .ref (G.2.2 0)), (1, .int a1), (2, .int a2), (4, .int a4), (5, .int a5)]) hx hb dX8_longest_77 rfl hl (by decide) rfl (fun ls hl => ?_)
        refine lv_iload hx hb dX8_longest_78 (lv_at hl 6 rfl) ?_
        refine lv_istore (lv' := [(4, .int a5), (3, .int r5), (6, .int r5), (0, .ref (G.2.2 0)), (1, .int a1), (2, .int a2), (5, .int a5)]) hx hb dX8_longest_80 hl (by decide) rfl (fun ls hl => ?_)
        refine lv_iinc (v := a5 + 1) (lv' := [(5, .int (a5 + 1)), (4, .int a5), (3, .int r5), (6, .int r5), (0, .ref (G.2.2 0)), (1, .int a1), (2, .int a2)]) hx hb dX8_longest_82 hl (k := 6) rfl rfl (by decide) rfl (fun ls hl => ?_)
        refine lv_goto (tgt := 31) hx hb dX8_longest_85 (by decide) ?_
        exact ih a1 a2 r5 a5 (a5 + 1) hf H locs ls hP hS (lv_sub hl [4, 5, 6, 2, 1, 0] rfl)
def f_X8_longest (n : Nat) (S : xS) (a1 : Int32) (a2 : Int32) : Option Int32 :=
  (if (f_X8_within a1 (1 : Int32) (999 : Int32)) = 0 then some (-2 : Int32) else (if (f_X8_within a2 (0 : Int32) (1 : Int32)) = 0 then some (-2 : Int32) else l_X8_longest_31 n S n a1 a2 (0 : Int32) (-1 : Int32) (0 : Int32)))
set_option maxHeartbeats 4000000 in
set_option maxRecDepth 100000 in
theorem c_X8_longest (l : Launch) (G : xG) (n : Nat)  (S : xS) (a1 : Int32) (a2 : Int32) (r : Int32) (hf : f_X8_longest n S a1 a2 = some r) : xMi l G yX8_longest cX8_longest 7 (some .int) 3 70 [.ref (G.2.2 0), .int a1, .int a2] S r S := by
  refine xMi_of (own := RX8) (by decide +kernel) rfl (Nat.le_of_ble_eq_true rfl) ?_
  intro p e s m args below meth c X hr hlk H locs ls hP hS hl
  have hl : lv_has ls 7 [(0, .ref (G.2.2 0)), (1, .int a1), (2, .int a2)] := hl
  obtain ⟨hx, hb, hml, hown, hts, hE⟩ := id X
  unfold f_X8_longest at hf
  refine lv_iload_n hx hb dX8_longest_0 rfl (lv_at hl 1 rfl) ?_
  refine lv_iconst (v := 1) hx hb dX8_longest_1 (by decide) ?_
  refine lv_sipush (v := 999) hx hb dX8_longest_2 (by decide) ?_
  refine x_cSi (As := [.int a1, .int (1 : Int32), .int (999 : Int32)]) (rest := []) X hP hS kc_X8_79 (c_X8_within l G  S a1 (1 : Int32) (999 : Int32) _ rfl) ⟨Nat.le_of_ble_eq_true rfl, Nat.le_of_ble_eq_true rfl⟩ rfl hl.1 rfl (Nat.le_of_ble_eq_true rfl) ⟨Nat.zero_le _, Nat.zero_le _⟩ dX8_longest_5 (fun H locs hP hS => ?_)
  refine lv_if_eq (tgt := 20) hx hb dX8_longest_8 (by decide) (fun e1 => ?_) (fun e1 => ?_)
  · have hf := xif_t hf e1
    refine lv_bipush (v := (-2)) hx hb dX8_longest_20 (by decide) ?_
    exact x_iret X hr hlk hP hS  (Option.some.inj hf) (rfl) dX8_longest_22
  · have hf := xif_f hf e1
    refine lv_iload_n hx hb dX8_longest_11 rfl (lv_at hl 2 rfl) ?_
    refine lv_iconst (v := 0) hx hb dX8_longest_12 (by decide) ?_
    refine lv_iconst (v := 1) hx hb dX8_longest_13 (by decide) ?_
    refine x_cSi (As := [.int a2, .int (0 : Int32), .int (1 : Int32)]) (rest := []) X hP hS kc_X8_79 (c_X8_within l G  S a2 (0 : Int32) (1 : Int32) _ rfl) ⟨Nat.le_of_ble_eq_true rfl, Nat.le_of_ble_eq_true rfl⟩ rfl hl.1 rfl (Nat.le_of_ble_eq_true rfl) ⟨Nat.zero_le _, Nat.zero_le _⟩ dX8_longest_14 (fun H locs hP hS => ?_)
    refine lv_if_ne (tgt := 23) hx hb dX8_longest_17 (by decide) (fun e2 => ?_) (fun e2 => ?_)
    · have hf := xif_f hf e2
      refine lv_iconst (v := 0) hx hb dX8_longest_23 (by decide) ?_
      refine lv_istore_n (lv' := [(3, .int (0 : Int32)), (0, .ref (G.2.2 0)), (1, .int a1), (2, .int a2)]) hx hb dX8_longest_24 rfl hl (by decide) rfl (fun ls hl => ?_)
      refine lv_iconst (v := (-1)) hx hb dX8_longest_25 (by decide) ?_
      refine lv_istore (lv' := [(4, .int (-1 : Int32)), (3, .int (0 : Int32)), (0, .ref (G.2.2 0)), (1, .int a1), (2, .int a2)]) hx hb dX8_longest_26 hl (by decide) rfl (fun ls hl => ?_)
      refine lv_iconst (v := 0) hx hb dX8_longest_28 (by decide) ?_
      refine lv_istore (lv' := [(5, .int (0 : Int32)), (4, .int (-1 : Int32)), (3, .int (0 : Int32)), (0, .ref (G.2.2 0)), (1, .int a1), (2, .int a2)]) hx hb dX8_longest_29 hl (by decide) rfl (fun ls hl => ?_)
      exact t_X8_longest_31 X hr hlk   n a1 a2 (0 : Int32) (-1 : Int32) (0 : Int32) hf H locs ls hP hS (lv_sub hl [3, 4, 5, 2, 1, 0] rfl)
    · have hf := xif_t hf e2
      refine lv_bipush (v := (-2)) hx hb dX8_longest_20 (by decide) ?_
      exact x_iret X hr hlk hP hS  (Option.some.inj hf) (rfl) dX8_longest_22
def j_X9_longestOf_80 (n : Nat) (k14 : xS → Int32 → Int32 → Int32 → Int32 → Int32 → Int32 → Option (Int32 × xS)) (k24 : xS → Int32 → Int32 → Int32 → Int32 → Int32 → Int32 → Int32 → Option (Int32 × xS)) (S : xS) (a1 : Int32) (a2 : Int32) (a3 : Int32) (a5 : Int32) (a6 : Int32) (a7 : Int32) (a8 : Int32) (s0 : Int32) : Option (Int32 × xS) :=
  (if a8 = 0 then k24 S a1 a2 a3 s0 a5 a6 (a7 + 1) else k24 S a1 a2 a3 s0 ((a7 - a6) + (1 : Int32)) a6 (a7 + 1))
set_option maxHeartbeats 4000000 in
set_option maxRecDepth 100000 in
theorem t_X9_longestOf_80 {p : Program} {l : Launch} {e : Env} {s : State} {m : MethodId} {args : Array Value} {below : List Frame} {meth : Method} {c : Code} {G : xG} (X : xC p s m args c G RX9 cX9_longestOf 9) (hr : meth.sig.returnType = (some .int)) (hlk : meth.locks = false) {n : Nat} {r : Int32} {S' : xS} {k14 : xS → Int32 → Int32 → Int32 → Int32 → Int32 → Int32 → Option (Int32 × xS)} (hk14 : ∀ (S : xS) (a1 : Int32) (a2 : Int32) (a3 : Int32) (a4 : Int32) (a5 : Int32) (a6 : Int32), k14 S a1 a2 a3 a4 a5 a6 = some (r, S') → xGo p l e { frames := 5, cells := 0, slots := 0, locals := 113 } s m args below meth c G 9 0 0 (MQ below (xQi G r S') args s 0 0 (xA G)) S 14 [(0, .ref (G.2.2 34)), (1, .int a1), (2, .int a2), (3, .int a3), (4, .int a4), (5, .int a5), (6, .int a6)] []) {k24 : xS → Int32 → Int32 → Int32 → Int32 → Int32 → Int32 → Int32 → Option (Int32 × xS)} (hk24 : ∀ (S : xS) (a1 : Int32) (a2 : Int32) (a3 : Int32) (a4 : Int32) (a5 : Int32) (a6 : Int32) (a7 : Int32), k24 S a1 a2 a3 a4 a5 a6 a7 = some (r, S') → xGo p l e { frames := 5, cells := 0, slots := 0, locals := 113 } s m args below meth c G 9 0 0 (MQ below (xQi G r S') args s 0 0 (xA G)) S 24 [(0, .ref (G.2.2 34)), (1, .int a1), (2, .int a2), (3, .int a3), (4, .int a4), (5, .int a5), (6, .int a6), (7, .int a7)] []) : ∀ (S : xS) (a1 : Int32) (a2 : Int32) (a3 : Int32) (a5 : Int32) (a6 : Int32) (a7 : Int32) (a8 : Int32) (s0 : Int32), j_X9_longestOf_80 n k14 k24 S a1 a2 a3 a5 a6 a7 a8 s0 = some (r, S') → xGo p l e { frames := 5, cells := 0, slots := 0, locals := 113 } s m args below meth c G 9 0 0 (MQ below (xQi G r S') args s 0 0 (xA G)) S 80 [(0, .ref (G.2.2 34)), (1, .int a1), (2, .int a2), (3, .int a3), (5, .int a5), (6, .int a6), (7, .int a7), (8, .int a8)] [.int s0] := by
  intro S a1 a2 a3 a5 a6 a7 a8 s0 hf H locs ls hP hS hl
  unfold j_X9_longestOf_80 at hf
  obtain ⟨hx, hb, hml, hown, hts, hE⟩ := id X
  refine lv_istore (lv' := [(4, .int s0), (0, .ref (G.2.2 34)), (1, .int a1), (2, .int a2), (3, .int a3), (5, .int a5), (6, .int a6), (7, .int a7), (8, .int a8)]) hx hb dX9_longestOf_80 hl (by decide) rfl (fun ls hl => ?_)
  refine lv_iload hx hb dX9_longestOf_82 (lv_at hl 8 rfl) ?_
  refine lv_if_eq (tgt := 97) hx hb dX9_longestOf_84 (by decide) (fun e10 => ?_) (fun e10 => ?_)
  · have hf := xif_t hf e10
    refine lv_iload hx hb dX9_longestOf_97 (lv_at hl 5 rfl) ?_
    refine lv_istore (lv' := [(5, .int a5), (4, .int s0), (0, .ref (G.2.2 34)), (1, .int a1), (2, .int a2), (3, .int a3), (6, .int a6), (7, .int a7), (8, .int a8)]) hx hb dX9_longestOf_99 hl (by decide) rfl (fun ls hl => ?_)
    refine lv_iinc (v := a7 + 1) (lv' := [(7, .int (a7 + 1)), (5, .int a5), (4, .int s0), (0, .ref (G.2.2 34)), (1, .int a1), (2, .int a2), (3, .int a3), (6, .int a6), (8, .int a8)]) hx hb dX9_longestOf_101 hl (k := 7) rfl rfl (by decide) rfl (fun ls hl => ?_)
    refine lv_goto (tgt := 24) hx hb dX9_longestOf_104 (by decide) ?_
    exact hk24 S a1 a2 a3 s0 a5 a6 (a7 + 1) hf H locs ls hP hS (lv_sub hl [3, 4, 5, 6, 2, 1, 7, 0] rfl)
  · have hf := xif_f hf e10
    refine lv_iload hx hb dX9_longestOf_87 (lv_at hl 7 rfl) ?_
    refine lv_iload hx hb dX9_longestOf_89 (lv_at hl 6 rfl) ?_
    refine lv_isub hx hb dX9_longestOf_91 ?_
    refine lv_iconst (v := 1) hx hb dX9_longestOf_92 (by decide) ?_
    refine lv_iadd hx hb dX9_longestOf_93 ?_
    refine lv_goto (tgt := 99) hx hb dX9_longestOf_94 (by decide) ?_
    refine lv_istore (lv' := [(5, .int ((a7 - a6) + (1 : Int32))), (4, .int s0), (0, .ref (G.2.2 34)), (1, .int a1), (2, .int a2), (3, .int a3), (6, .int a6), (7, .int a7), (8, .int a8)]) hx hb dX9_longestOf_99 hl (by decide) rfl (fun ls hl => ?_)
    refine lv_iinc (v := a7 + 1) (lv' := [(7, .int (a7 + 1)), (5, .int ((a7 - a6) + (1 : Int32))), (4, .int s0), (0, .ref (G.2.2 34)), (1, .int a1), (2, .int a2), (3, .int a3), (6, .int a6), (8, .int a8)]) hx hb dX9_longestOf_101 hl (k := 7) rfl rfl (by decide) rfl (fun ls hl => ?_)
    refine lv_goto (tgt := 24) hx hb dX9_longestOf_104 (by decide) ?_
    exact hk24 S a1 a2 a3 s0 ((a7 - a6) + (1 : Int32)) a6 (a7 + 1) hf H locs ls hP hS (lv_sub hl [3, 4, 5, 6, 2, 1, 7, 0] rfl)
def j_X9_longestOf_66 (n : Nat) (k14 : xS → Int32 → Int32 → Int32 → Int32 → Int32 → Int32 → Option (Int32 × xS)) (k24 : xS → Int32 → Int32 → Int32 → Int32 → Int32 → Int32 → Int32 → Option (Int32 × xS)) (S : xS) (a1 : Int32) (a2 : Int32) (a3 : Int32) (a4 : Int32) (a5 : Int32) (a6 : Int32) (a7 : Int32) (s0 : Int32) : Option (Int32 × xS) :=
  (if s0 = 0 then j_X9_longestOf_80 n k14 k24 S a1 a2 a3 a5 a6 a7 s0 a4 else j_X9_longestOf_80 n k14 k24 S a1 a2 a3 a5 a6 a7 s0 a6)
set_option maxHeartbeats 4000000 in
set_option maxRecDepth 100000 in
theorem t_X9_longestOf_66 {p : Program} {l : Launch} {e : Env} {s : State} {m : MethodId} {args : Array Value} {below : List Frame} {meth : Method} {c : Code} {G : xG} (X : xC p s m args c G RX9 cX9_longestOf 9) (hr : meth.sig.returnType = (some .int)) (hlk : meth.locks = false) {n : Nat} {r : Int32} {S' : xS} {k14 : xS → Int32 → Int32 → Int32 → Int32 → Int32 → Int32 → Option (Int32 × xS)} (hk14 : ∀ (S : xS) (a1 : Int32) (a2 : Int32) (a3 : Int32) (a4 : Int32) (a5 : Int32) (a6 : Int32), k14 S a1 a2 a3 a4 a5 a6 = some (r, S') → xGo p l e { frames := 5, cells := 0, slots := 0, locals := 113 } s m args below meth c G 9 0 0 (MQ below (xQi G r S') args s 0 0 (xA G)) S 14 [(0, .ref (G.2.2 34)), (1, .int a1), (2, .int a2), (3, .int a3), (4, .int a4), (5, .int a5), (6, .int a6)] []) {k24 : xS → Int32 → Int32 → Int32 → Int32 → Int32 → Int32 → Int32 → Option (Int32 × xS)} (hk24 : ∀ (S : xS) (a1 : Int32) (a2 : Int32) (a3 : Int32) (a4 : Int32) (a5 : Int32) (a6 : Int32) (a7 : Int32), k24 S a1 a2 a3 a4 a5 a6 a7 = some (r, S') → xGo p l e { frames := 5, cells := 0, slots := 0, locals := 113 } s m args below meth c G 9 0 0 (MQ below (xQi G r S') args s 0 0 (xA G)) S 24 [(0, .ref (G.2.2 34)), (1, .int a1), (2, .int a2), (3, .int a3), (4, .int a4), (5, .int a5), (6, .int a6), (7, .int a7)] []) : ∀ (S : xS) (a1 : Int32) (a2 : Int32) (a3 : Int32) (a4 : Int32) (a5 : Int32) (a6 : Int32) (a7 : Int32) (s0 : Int32), j_X9_longestOf_66 n k14 k24 S a1 a2 a3 a4 a5 a6 a7 s0 = some (r, S') → xGo p l e { frames := 5, cells := 0, slots := 0, locals := 113 } s m args below meth c G 9 0 0 (MQ below (xQi G r S') args s 0 0 (xA G)) S 66 [(0, .ref (G.2.2 34)), (1, .int a1), (2, .int a2), (3, .int a3), (4, .int a4), (5, .int a5), (6, .int a6), (7, .int a7)] [.int s0] := by
  intro S a1 a2 a3 a4 a5 a6 a7 s0 hf H locs ls hP hS hl
  unfold j_X9_longestOf_66 at hf
  obtain ⟨hx, hb, hml, hown, hts, hE⟩ := id X
  refine lv_istore (lv' := [(8, .int s0), (0, .ref (G.2.2 34)), (1, .int a1), (2, .int a2), (3, .int a3), (4, .int a4), (5, .int a5), (6, .int a6), (7, .int a7)]) hx hb dX9_longestOf_66 hl (by decide) rfl (fun ls hl => ?_)
  refine lv_iload hx hb dX9_longestOf_68 (lv_at hl 0 rfl) ?_
  refine lv_if_eq (tgt := 78) hx hb dX9_longestOf_70 (by decide) (fun e9 => ?_) (fun e9 => ?_)
  · have hf := xif_t hf e9
    refine lv_iload hx hb dX9_longestOf_78 (lv_at hl 5 rfl) ?_
    exact t_X9_longestOf_80 X hr hlk  hk14 hk24 S a1 a2 a3 a5 a6 a7 s0 a4 hf H locs ls hP hS (lv_sub hl [1, 2, 3, 4, 6, 7, 8, 0] rfl)
  · have hf := xif_f hf e9
    refine lv_iload hx hb dX9_longestOf_73 (lv_at hl 7 rfl) ?_
    refine lv_goto (tgt := 80) hx hb dX9_longestOf_75 (by decide) ?_
    exact t_X9_longestOf_80 X hr hlk  hk14 hk24 S a1 a2 a3 a5 a6 a7 s0 a6 hf H locs ls hP hS (lv_sub hl [1, 2, 3, 4, 6, 7, 8, 0] rfl)
def j_X9_longestOf_65 (n : Nat) (k14 : xS → Int32 → Int32 → Int32 → Int32 → Int32 → Int32 → Option (Int32 × xS)) (k24 : xS → Int32 → Int32 → Int32 → Int32 → Int32 → Int32 → Int32 → Option (Int32 × xS)) (S : xS) (a1 : Int32) (a2 : Int32) (a3 : Int32) (a4 : Int32) (a5 : Int32) (a6 : Int32) (a7 : Int32) : Option (Int32 × xS) :=
  j_X9_longestOf_66 n k14 k24 S a1 a2 a3 a4 a5 a6 a7 (0 : Int32)
set_option maxHeartbeats 4000000 in
set_option maxRecDepth 100000 in
theorem t_X9_longestOf_65 {p : Program} {l : Launch} {e : Env} {s : State} {m : MethodId} {args : Array Value} {below : List Frame} {meth : Method} {c : Code} {G : xG} (X : xC p s m args c G RX9 cX9_longestOf 9) (hr : meth.sig.returnType = (some .int)) (hlk : meth.locks = false) {n : Nat} {r : Int32} {S' : xS} {k14 : xS → Int32 → Int32 → Int32 → Int32 → Int32 → Int32 → Option (Int32 × xS)} (hk14 : ∀ (S : xS) (a1 : Int32) (a2 : Int32) (a3 : Int32) (a4 : Int32) (a5 : Int32) (a6 : Int32), k14 S a1 a2 a3 a4 a5 a6 = some (r, S') → xGo p l e { frames := 5, cells := 0, slots := 0, locals := 113 } s m args below meth c G 9 0 0 (MQ below (xQi G r S') args s 0 0 (xA G)) S 14 [(0, .ref (G.2.2 34)), (1, .int a1), (2, .int a2), (3, .int a3), (4, .int a4), (5, .int a5), (6, .int a6)] []) {k24 : xS → Int32 → Int32 → Int32 → Int32 → Int32 → Int32 → Int32 → Option (Int32 × xS)} (hk24 : ∀ (S : xS) (a1 : Int32) (a2 : Int32) (a3 : Int32) (a4 : Int32) (a5 : Int32) (a6 : Int32) (a7 : Int32), k24 S a1 a2 a3 a4 a5 a6 a7 = some (r, S') → xGo p l e { frames := 5, cells := 0, slots := 0, locals := 113 } s m args below meth c G 9 0 0 (MQ below (xQi G r S') args s 0 0 (xA G)) S 24 [(0, .ref (G.2.2 34)), (1, .int a1), (2, .int a2), (3, .int a3), (4, .int a4), (5, .int a5), (6, .int a6), (7, .int a7)] []) : ∀ (S : xS) (a1 : Int32) (a2 : Int32) (a3 : Int32) (a4 : Int32) (a5 : Int32) (a6 : Int32) (a7 : Int32), j_X9_longestOf_65 n k14 k24 S a1 a2 a3 a4 a5 a6 a7 = some (r, S') → xGo p l e { frames := 5, cells := 0, slots := 0, locals := 113 } s m args below meth c G 9 0 0 (MQ below (xQi G r S') args s 0 0 (xA G)) S 65 [(0, .ref (G.2.2 34)), (1, .int a1), (2, .int a2), (3, .int a3), (4, .int a4), (5, .int a5), (6, .int a6), (7, .int a7)] [] := by
  intro S a1 a2 a3 a4 a5 a6 a7 hf H locs ls hP hS hl
  unfold j_X9_longestOf_65 at hf
  obtain ⟨hx, hb, hml, hown, hts, hE⟩ := id X
  refine lv_iconst (v := 0) hx hb dX9_longestOf_65 (by decide) ?_
  exact t_X9_longestOf_66 X hr hlk  hk14 hk24 S a1 a2 a3 a4 a5 a6 a7 (0 : Int32) hf H locs ls hP hS (lv_sub hl [0, 1, 2, 3, 4, 5, 6, 7] rfl)
def b_X9_longestOf_24 (n : Nat) (k14 : xS → Int32 → Int32 → Int32 → Int32 → Int32 → Int32 → Option (Int32 × xS)) (k24 : xS → Int32 → Int32 → Int32 → Int32 → Int32 → Int32 → Int32 → Option (Int32 × xS)) (S : xS) (a1 : Int32) (a2 : Int32) (a3 : Int32) (a4 : Int32) (a5 : Int32) (a6 : Int32) (a7 : Int32) : Option (Int32 × xS) :=
  (if a3 < a7 then k14 S a1 a2 a3 a4 a5 (a6 + 1) else (f_X9_spread n S a6 a7).bind fun r6 => ((if ((S.1 37 (1 : Int32).toNatClampNeg) - a1) < r6 then j_X9_longestOf_65 n k14 k24 S a1 a2 a3 a4 a5 a6 a7 else (if ((a7 - a6) + (1 : Int32)) ≤ a5 then j_X9_longestOf_65 n k14 k24 S a1 a2 a3 a4 a5 a6 a7 else j_X9_longestOf_66 n k14 k24 S a1 a2 a3 a4 a5 a6 a7 (1 : Int32)))))
def l_X9_longestOf_24 (n : Nat) (k14 : xS → Int32 → Int32 → Int32 → Int32 → Int32 → Int32 → Option (Int32 × xS)) : Nat → xS → Int32 → Int32 → Int32 → Int32 → Int32 → Int32 → Int32 → Option (Int32 × xS)
  | 0, _, _, _, _, _, _, _, _ => none
  | j + 1, S, a1, a2, a3, a4, a5, a6, a7 => b_X9_longestOf_24 n k14 (l_X9_longestOf_24 n k14 j) S a1 a2 a3 a4 a5 a6 a7
set_option maxHeartbeats 4000000 in
set_option maxRecDepth 100000 in
theorem t_X9_longestOf_24 {p : Program} {l : Launch} {e : Env} {s : State} {m : MethodId} {args : Array Value} {below : List Frame} {meth : Method} {c : Code} {G : xG} (X : xC p s m args c G RX9 cX9_longestOf 9) (hr : meth.sig.returnType = (some .int)) (hlk : meth.locks = false) {n : Nat} {r : Int32} {S' : xS} {k14 : xS → Int32 → Int32 → Int32 → Int32 → Int32 → Int32 → Option (Int32 × xS)} (hk14 : ∀ (S : xS) (a1 : Int32) (a2 : Int32) (a3 : Int32) (a4 : Int32) (a5 : Int32) (a6 : Int32), k14 S a1 a2 a3 a4 a5 a6 = some (r, S') → xGo p l e { frames := 5, cells := 0, slots := 0, locals := 113 } s m args below meth c G 9 0 0 (MQ below (xQi G r S') args s 0 0 (xA G)) S 14 [(0, .ref (G.2.2 34)), (1, .int a1), (2, .int a2), (3, .int a3), (4, .int a4), (5, .int a5), (6, .int a6)] []) : ∀ (j : Nat) (S : xS) (a1 : Int32) (a2 : Int32) (a3 : Int32) (a4 : Int32) (a5 : Int32) (a6 : Int32) (a7 : Int32), l_X9_longestOf_24 n k14 j S a1 a2 a3 a4 a5 a6 a7 = some (r, S') → xGo p l e { frames := 5, cells := 0, slots := 0, locals := 113 } s m args below meth c G 9 0 0 (MQ below (xQi G r S') args s 0 0 (xA G)) S 24 [(0, .ref (G.2.2 34)), (1, .int a1), (2, .int a2), (3, .int a3), (4, .int a4), (5, .int a5), (6, .int a6), (7, .int a7)] [] := by
  intro j
  induction j with
  | zero => intro S a1 a2 a3 a4 a5 a6 a7 hf; exact nomatch (show (none : Option (Int32 × xS)) = _ from hf)
  | succ j ih =>
    intro S a1 a2 a3 a4 a5 a6 a7 hf H locs ls hP hS hl
    have hf : b_X9_longestOf_24 n k14 (l_X9_longestOf_24 n k14 j) S a1 a2 a3 a4 a5 a6 a7 = some (r, S') := hf
    unfold b_X9_longestOf_24 at hf
    obtain ⟨hx, hb, hml, hown, hts, hE⟩ := id X
    refine lv_iload hx hb dX9_longestOf_24 (lv_at hl 7 rfl) ?_
    refine lv_iload_n hx hb dX9_longestOf_26 rfl (lv_at hl 3 rfl) ?_
    refine lv_icmp_gt (tgt := 107) hx hb dX9_longestOf_27 (by decide) (fun e5 => ?_) (fun e5 => ?_)
    · have hf := xif_t hf e5
      refine lv_iinc (v := a6 + 1) (lv' := [(6, .int (a6 + 1)), (0, .ref (G.2.2 34)), (1, .int a1), (2, .int a2), (3, .int a3), (4, .int a4), (5, .int a5), (7, .int a7)]) hx hb dX9_longestOf_107 hl (k := 6) rfl rfl (by decide) rfl (fun ls hl => ?_)
      refine lv_goto (tgt := 14) hx hb dX9_longestOf_110 (by decide) ?_
      exact hk14 S a1 a2 a3 a4 a5 (a6 + 1) hf H locs ls hP hS (lv_sub hl [1, 2, 3, 4, 5, 6, 0] rfl)
    · have hf := xif_f hf e5
      refine lv_aload_n hx hb dX9_longestOf_30 rfl (lv_at hl 0 rfl) ?_
      refine lv_iload hx hb dX9_longestOf_31 (lv_at hl 6 rfl) ?_
      refine lv_iload hx hb dX9_longestOf_33 (lv_at hl 7 rfl) ?_
      obtain ⟨r6, h7, hf⟩ := xb_some hf
      refine x_cVi (As := [.int a6, .int a7]) (rest := []) X hP hS kc_X9_163 (c_X9_spread l G n S a6 a7 _ h7) ⟨Nat.le_of_ble_eq_true rfl, Nat.le_of_ble_eq_true rfl⟩ (by decide) rfl rfl rfl hl.1 rfl (Nat.le_of_ble_eq_true rfl) ⟨Nat.zero_le _, Nat.zero_le _⟩ dX9_longestOf_35 (fun H locs hP hS => ?_)
      refine lv_aload_n hx hb dX9_longestOf_38 rfl (lv_at hl 0 rfl) ?_
      refine x_getR X hP fl_X9_16 (by decide) rfl rfl dX9_longestOf_39 ?_
      refine lv_iconst (v := 1) hx hb dX9_longestOf_42 (by decide) ?_
      refine x_iald X hP (by decide) rfl (by decide) dX9_longestOf_43 ?_
      refine lv_iload_n hx hb dX9_longestOf_44 rfl (lv_at hl 1 rfl) ?_
      refine lv_isub hx hb dX9_longestOf_45 ?_
      refine lv_icmp_gt (tgt := 65) hx hb dX9_longestOf_46 (by decide) (fun e8 => ?_) (fun e8 => ?_)
      · have hf := xif_t hf e8
        exact t_X9_longestOf_65 X hr hlk  hk14 ih S a1 a2 a3 a4 a5 a6 a7 hf H locs ls hP hS (lv_sub hl [0, 1, 2, 3, 4, 5, 6, 7] rfl)
      · have hf := xif_f hf e8
        refine lv_iload hx hb dX9_longestOf_49 (lv_at hl 7 rfl) ?_
        refine lv_iload hx hb dX9_longestOf_51 (lv_at hl 6 rfl) ?_
        refine lv_isub hx hb dX9_longestOf_53 ?_
        refine lv_iconst (v := 1) hx hb dX9_longestOf_54 (by decide) ?_
        refine lv_iadd hx hb dX9_longestOf_55 ?_
        refine lv_iload hx hb dX9_longestOf_56 (lv_at hl 5 rfl) ?_
        refine lv_icmp_le (tgt := 65) hx hb dX9_longestOf_58 (by decide) (fun e11 => ?_) (fun e11 => ?_)
        · have hf := xif_t hf e11
          exact t_X9_longestOf_65 X hr hlk  hk14 ih S a1 a2 a3 a4 a5 a6 a7 hf H locs ls hP hS (lv_sub hl [0, 1, 2, 3, 4, 5, 6, 7] rfl)
        · have hf := xif_f hf e11
          refine lv_iconst (v := 1) hx hb dX9_longestOf_61 (by decide) ?_
          refine lv_goto (tgt := 66) hx hb dX9_longestOf_62 (by decide) ?_
          exact t_X9_longestOf_66 X hr hlk  hk14 ih S a1 a2 a3 a4 a5 a6 a7 (1 : Int32) hf H locs ls hP hS (lv_sub hl [0, 1, 2, 3, 4, 5, 6, 7] rfl)
def b_X9_longestOf_14 (n : Nat) (k14 : xS → Int32 → Int32 → Int32 → Int32 → Int32 → Int32 → Option (Int32 × xS)) (S : xS) (a1 : Int32) (a2 : Int32) (a3 : Int32) (a4 : Int32) (a5 : Int32) (a6 : Int32) : Option (Int32 × xS) :=
  (if a3 < a6 then (if a2 = 0 then some (a5, S) else some (a4, S)) else l_X9_longestOf_24 n k14 n S a1 a2 a3 a4 a5 a6 a6)
def l_X9_longestOf_14 (n : Nat) : Nat → xS → Int32 → Int32 → Int32 → Int32 → Int32 → Int32 → Option (Int32 × xS)
  | 0, _, _, _, _, _, _, _ => none
  | j + 1, S, a1, a2, a3, a4, a5, a6 => b_X9_longestOf_14 n (l_X9_longestOf_14 n j) S a1 a2 a3 a4 a5 a6
set_option maxHeartbeats 4000000 in
set_option maxRecDepth 100000 in
theorem t_X9_longestOf_14 {p : Program} {l : Launch} {e : Env} {s : State} {m : MethodId} {args : Array Value} {below : List Frame} {meth : Method} {c : Code} {G : xG} (X : xC p s m args c G RX9 cX9_longestOf 9) (hr : meth.sig.returnType = (some .int)) (hlk : meth.locks = false) {n : Nat} {r : Int32} {S' : xS} : ∀ (j : Nat) (S : xS) (a1 : Int32) (a2 : Int32) (a3 : Int32) (a4 : Int32) (a5 : Int32) (a6 : Int32), l_X9_longestOf_14 n j S a1 a2 a3 a4 a5 a6 = some (r, S') → xGo p l e { frames := 5, cells := 0, slots := 0, locals := 113 } s m args below meth c G 9 0 0 (MQ below (xQi G r S') args s 0 0 (xA G)) S 14 [(0, .ref (G.2.2 34)), (1, .int a1), (2, .int a2), (3, .int a3), (4, .int a4), (5, .int a5), (6, .int a6)] [] := by
  intro j
  induction j with
  | zero => intro S a1 a2 a3 a4 a5 a6 hf; exact nomatch (show (none : Option (Int32 × xS)) = _ from hf)
  | succ j ih =>
    intro S a1 a2 a3 a4 a5 a6 hf H locs ls hP hS hl
    have hf : b_X9_longestOf_14 n (l_X9_longestOf_14 n j) S a1 a2 a3 a4 a5 a6 = some (r, S') := hf
    unfold b_X9_longestOf_14 at hf
    obtain ⟨hx, hb, hml, hown, hts, hE⟩ := id X
    refine lv_iload hx hb dX9_longestOf_14 (lv_at hl 6 rfl) ?_
    refine lv_iload_n hx hb dX9_longestOf_16 rfl (lv_at hl 3 rfl) ?_
    refine lv_icmp_gt (tgt := 113) hx hb dX9_longestOf_17 (by decide) (fun e3 => ?_) (fun e3 => ?_)
    · have hf := xif_t hf e3
      refine lv_iload_n hx hb dX9_longestOf_113 rfl (lv_at hl 2 rfl) ?_
      refine lv_if_ne (tgt := 122) hx hb dX9_longestOf_114 (by decide) (fun e4 => ?_) (fun e4 => ?_)
      · have hf := xif_f hf e4
        refine lv_iload hx hb dX9_longestOf_122 (lv_at hl 4 rfl) ?_
        exact x_iret X hr hlk hP hS  ((Prod.mk.inj (Option.some.inj hf)).1) ((Prod.mk.inj (Option.some.inj hf)).2) dX9_longestOf_124
      · have hf := xif_t hf e4
        refine lv_iload hx hb dX9_longestOf_117 (lv_at hl 5 rfl) ?_
        refine lv_goto (tgt := 124) hx hb dX9_longestOf_119 (by decide) ?_
        exact x_iret X hr hlk hP hS  ((Prod.mk.inj (Option.some.inj hf)).1) ((Prod.mk.inj (Option.some.inj hf)).2) dX9_longestOf_124
    · have hf := xif_f hf e3
      refine lv_iload hx hb dX9_longestOf_20 (lv_at hl 6 rfl) ?_
      refine lv_istore (lv' := [(7, .int a6), (0, .ref (G.2.2 34)), (1, .int a1), (2, .int a2), (3, .int a3), (4, .int a4), (5, .int a5), (6, .int a6)]) hx hb dX9_longestOf_22 hl (by decide) rfl (fun ls hl => ?_)
      exact t_X9_longestOf_24 X hr hlk  ih n S a1 a2 a3 a4 a5 a6 a6 hf H locs ls hP hS (lv_sub hl [1, 2, 3, 4, 5, 6, 7, 0] rfl)
def f_X9_longestOf (n : Nat) (S : xS) (a1 : Int32) (a2 : Int32) : Option (Int32 × xS) :=
  (f_X9_floorsNow n S).bind fun r1 => (l_X9_longestOf_14 n n r1.2 a1 a2 r1.1 (-1 : Int32) (0 : Int32) (0 : Int32))
set_option maxHeartbeats 4000000 in
set_option maxRecDepth 100000 in
theorem c_X9_longestOf (l : Launch) (G : xG) (n : Nat)  (S : xS) (a1 : Int32) (a2 : Int32) (r : Int32) (S' : xS) (hf : f_X9_longestOf n S a1 a2 = some (r, S')) : xMi l G yX9_longestOf cX9_longestOf 9 (some .int) 5 113 [.ref (G.2.2 34), .int a1, .int a2] S r S' := by
  refine xMi_of (own := RX9) (by decide +kernel) rfl (Nat.le_of_ble_eq_true rfl) ?_
  intro p e s m args below meth c X hr hlk H locs ls hP hS hl
  have hl : lv_has ls 9 [(0, .ref (G.2.2 34)), (1, .int a1), (2, .int a2)] := hl
  obtain ⟨hx, hb, hml, hown, hts, hE⟩ := id X
  unfold f_X9_longestOf at hf
  refine lv_aload_n hx hb dX9_longestOf_0 rfl (lv_at hl 0 rfl) ?_
  obtain ⟨r1, h2, hf⟩ := xb_some hf
  refine x_cVi (As := []) (rest := []) X hP hS kc_X9_97 (c_X9_floorsNow l G n S  r1.1 r1.2 h2) ⟨Nat.le_of_ble_eq_true rfl, Nat.le_of_ble_eq_true rfl⟩ (by decide) rfl rfl rfl hl.1 rfl (Nat.le_of_ble_eq_true rfl) ⟨Nat.zero_le _, Nat.zero_le _⟩ dX9_longestOf_1 (fun H locs hP hS => ?_)
  refine lv_istore_n (lv' := [(3, .int r1.1), (0, .ref (G.2.2 34)), (1, .int a1), (2, .int a2)]) hx hb dX9_longestOf_4 rfl hl (by decide) rfl (fun ls hl => ?_)
  refine lv_iconst (v := (-1)) hx hb dX9_longestOf_5 (by decide) ?_
  refine lv_istore (lv' := [(4, .int (-1 : Int32)), (3, .int r1.1), (0, .ref (G.2.2 34)), (1, .int a1), (2, .int a2)]) hx hb dX9_longestOf_6 hl (by decide) rfl (fun ls hl => ?_)
  refine lv_iconst (v := 0) hx hb dX9_longestOf_8 (by decide) ?_
  refine lv_istore (lv' := [(5, .int (0 : Int32)), (4, .int (-1 : Int32)), (3, .int r1.1), (0, .ref (G.2.2 34)), (1, .int a1), (2, .int a2)]) hx hb dX9_longestOf_9 hl (by decide) rfl (fun ls hl => ?_)
  refine lv_iconst (v := 0) hx hb dX9_longestOf_11 (by decide) ?_
  refine lv_istore (lv' := [(6, .int (0 : Int32)), (5, .int (0 : Int32)), (4, .int (-1 : Int32)), (3, .int r1.1), (0, .ref (G.2.2 34)), (1, .int a1), (2, .int a2)]) hx hb dX9_longestOf_12 hl (by decide) rfl (fun ls hl => ?_)
  exact t_X9_longestOf_14 X hr hlk   n r1.2 a1 a2 r1.1 (-1 : Int32) (0 : Int32) (0 : Int32) hf H locs ls hP hS (lv_sub hl [4, 5, 6, 3, 2, 1, 0] rfl)
def f_X9_longest (n : Nat) (S : xS) (a1 : Int32) (a2 : Int32) : Option (Int32 × xS) :=
  (if (f_X9_in a1 (1 : Int32) (999 : Int32)) = 0 then some ((-2 : Int32), S) else (if (f_X9_in a2 (0 : Int32) (1 : Int32)) = 0 then some ((-2 : Int32), S) else (f_X9_longestOf n S a1 a2).bind fun r3 => (some (r3.1, r3.2))))
set_option maxHeartbeats 4000000 in
set_option maxRecDepth 100000 in
theorem c_X9_longest (l : Launch) (G : xG) (n : Nat)  (S : xS) (a1 : Int32) (a2 : Int32) (r : Int32) (S' : xS) (hf : f_X9_longest n S a1 a2 = some (r, S')) : xMi l G yX9_longest cX9_longest 3 (some .int) 6 141 [.ref (G.2.2 34), .int a1, .int a2] S r S' := by
  refine xMi_of (own := RX9) (by decide +kernel) rfl (Nat.le_of_ble_eq_true rfl) ?_
  intro p e s m args below meth c X hr hlk H locs ls hP hS hl
  have hl : lv_has ls 3 [(0, .ref (G.2.2 34)), (1, .int a1), (2, .int a2)] := hl
  obtain ⟨hx, hb, hml, hown, hts, hE⟩ := id X
  unfold f_X9_longest at hf
  refine lv_iload_n hx hb dX9_longest_0 rfl (lv_at hl 1 rfl) ?_
  refine lv_iconst (v := 1) hx hb dX9_longest_1 (by decide) ?_
  refine lv_sipush (v := 999) hx hb dX9_longest_2 (by decide) ?_
  refine x_cSi (As := [.int a1, .int (1 : Int32), .int (999 : Int32)]) (rest := []) X hP hS kc_X9_68 (c_X9_in l G  S a1 (1 : Int32) (999 : Int32) _ rfl) ⟨Nat.le_of_ble_eq_true rfl, Nat.le_of_ble_eq_true rfl⟩ rfl hl.1 rfl (Nat.le_of_ble_eq_true rfl) ⟨Nat.zero_le _, Nat.zero_le _⟩ dX9_longest_5 (fun H locs hP hS => ?_)
  refine lv_if_eq (tgt := 29) hx hb dX9_longest_8 (by decide) (fun e1 => ?_) (fun e1 => ?_)
  · have hf := xif_t hf e1
    refine lv_bipush (v := (-2)) hx hb dX9_longest_29 (by decide) ?_
    exact x_iret X hr hlk hP hS  ((Prod.mk.inj (Option.some.inj hf)).1) ((Prod.mk.inj (Option.some.inj hf)).2) dX9_longest_31
  · have hf := xif_f hf e1
    refine lv_iload_n hx hb dX9_longest_11 rfl (lv_at hl 2 rfl) ?_
    refine lv_iconst (v := 0) hx hb dX9_longest_12 (by decide) ?_
    refine lv_iconst (v := 1) hx hb dX9_longest_13 (by decide) ?_
    refine x_cSi (As := [.int a2, .int (0 : Int32), .int (1 : Int32)]) (rest := []) X hP hS kc_X9_68 (c_X9_in l G  S a2 (0 : Int32) (1 : Int32) _ rfl) ⟨Nat.le_of_ble_eq_true rfl, Nat.le_of_ble_eq_true rfl⟩ rfl hl.1 rfl (Nat.le_of_ble_eq_true rfl) ⟨Nat.zero_le _, Nat.zero_le _⟩ dX9_longest_14 (fun H locs hP hS => ?_)
    refine lv_if_eq (tgt := 29) hx hb dX9_longest_17 (by decide) (fun e2 => ?_) (fun e2 => ?_)
    · have hf := xif_t hf e2
      refine lv_bipush (v := (-2)) hx hb dX9_longest_29 (by decide) ?_
      exact x_iret X hr hlk hP hS  ((Prod.mk.inj (Option.some.inj hf)).1) ((Prod.mk.inj (Option.some.inj hf)).2) dX9_longest_31
    · have hf := xif_f hf e2
      refine lv_aload_n hx hb dX9_longest_20 rfl (lv_at hl 0 rfl) ?_
      refine lv_iload_n hx hb dX9_longest_21 rfl (lv_at hl 1 rfl) ?_
      refine lv_iload_n hx hb dX9_longest_22 rfl (lv_at hl 2 rfl) ?_
      obtain ⟨r3, h4, hf⟩ := xb_some hf
      refine x_cVi (As := [.int a1, .int a2]) (rest := []) X hP hS kc_X9_169 (c_X9_longestOf l G n S a1 a2 r3.1 r3.2 h4) ⟨Nat.le_of_ble_eq_true rfl, Nat.le_of_ble_eq_true rfl⟩ (by decide) rfl rfl rfl hl.1 rfl (Nat.le_of_ble_eq_true rfl) ⟨Nat.zero_le _, Nat.zero_le _⟩ dX9_longest_23 (fun H locs hP hS => ?_)
      refine lv_goto (tgt := 31) hx hb dX9_longest_26 (by decide) ?_
      exact x_iret X hr hlk hP hS  ((Prod.mk.inj (Option.some.inj hf)).1) ((Prod.mk.inj (Option.some.inj hf)).2) dX9_longest_31
def b_X3_share_40 (n : Nat) (k40 : xS → Int32 → Int32 → Int32 → Int32 → Int32 → Option xS) (S : xS) (a3 : Int32) (a5 : Int32) (a6 : Int32) (a7 : Int32) (a8 : Int32) : Option xS :=
  (if a3 ≤ a8 then some S else xg (xin a8 10) (xg (xin a8 10) (k40 (xst S 21 a8.toNatClampNeg (xmax a5 (a7 - (a6 * ((a3 - a8) - (1 : Int32)))))) a3 a5 a6 (a7 - ((xst S 21 a8.toNatClampNeg (xmax a5 (a7 - (a6 * ((a3 - a8) - (1 : Int32)))))).1 21 a8.toNatClampNeg)) (a8 + 1))))
def l_X3_share_40 (n : Nat) : Nat → xS → Int32 → Int32 → Int32 → Int32 → Int32 → Option xS
  | 0, _, _, _, _, _, _ => none
  | j + 1, S, a3, a5, a6, a7, a8 => b_X3_share_40 n (l_X3_share_40 n j) S a3 a5 a6 a7 a8
set_option maxHeartbeats 4000000 in
set_option maxRecDepth 100000 in
theorem t_X3_share_40 {p : Program} {l : Launch} {e : Env} {s : State} {m : MethodId} {args : Array Value} {below : List Frame} {meth : Method} {c : Code} {G : xG} (X : xC p s m args c G RX3 cX3_share 9) (hr : meth.sig.returnType = none) (hlk : meth.locks = false) {n : Nat} {S' : xS} : ∀ (j : Nat) (S : xS) (a3 : Int32) (a5 : Int32) (a6 : Int32) (a7 : Int32) (a8 : Int32), l_X3_share_40 n j S a3 a5 a6 a7 a8 = some S' → xGo p l e { frames := 1, cells := 0, slots := 0, locals := 21 } s m args below meth c G 9 0 0 (MQ below (xQv G S') args s 0 0 (xA G)) S 40 [(0, .ref (G.2.2 20)), (3, .int a3), (5, .int a5), (6, .int a6), (7, .int a7), (8, .int a8)] [] := by
  intro j
  induction j with
  | zero => intro S a3 a5 a6 a7 a8 hf; exact nomatch (show (none : Option xS) = _ from hf)
  | succ j ih =>
    intro S a3 a5 a6 a7 a8 hf H locs ls hP hS hl
    have hf : b_X3_share_40 n (l_X3_share_40 n j) S a3 a5 a6 a7 a8 = some S' := hf
    unfold b_X3_share_40 at hf
    obtain ⟨hx, hb, hml, hown, hts, hE⟩ := id X
    refine lv_iload hx hb dX3_share_40 (lv_at hl 5 rfl) ?_
    refine lv_iload_n hx hb dX3_share_42 rfl (lv_at hl 1 rfl) ?_
    refine lv_icmp_ge (tgt := 88) hx hb dX3_share_43 (by decide) (fun e3 => ?_) (fun e3 => ?_)
    · have hf := xif_t hf e3
      exact x_vret X hr hlk hP hS (Option.some.inj hf) dX3_share_88
    · have hf := xif_f hf e3
      refine lv_aload_n hx hb dX3_share_46 rfl (lv_at hl 0 rfl) ?_
      refine x_getR X hP fl_X3_9 (by decide) rfl rfl dX3_share_47 ?_
      refine lv_iload hx hb dX3_share_50 (lv_at hl 5 rfl) ?_
      refine lv_iload hx hb dX3_share_52 (lv_at hl 2 rfl) ?_
      refine lv_iload hx hb dX3_share_54 (lv_at hl 4 rfl) ?_
      refine lv_iload hx hb dX3_share_56 (lv_at hl 3 rfl) ?_
      refine lv_iload_n hx hb dX3_share_58 rfl (lv_at hl 1 rfl) ?_
      refine lv_iload hx hb dX3_share_59 (lv_at hl 5 rfl) ?_
      refine lv_isub hx hb dX3_share_61 ?_
      refine lv_iconst (v := 1) hx hb dX3_share_62 (by decide) ?_
      refine lv_isub hx hb dX3_share_63 ?_
      refine lv_imul hx hb dX3_share_64 ?_
      refine lv_isub hx hb dX3_share_65 ?_
      refine x_mmax X kw_614 hl.1 ⟨Nat.le_of_ble_eq_true rfl, Nat.le_of_ble_eq_true rfl⟩ ⟨Nat.zero_le _, Nat.zero_le _⟩ dX3_share_66 ?_
      obtain ⟨g4, hf⟩ := xg_some hf
      refine x_iast X hP hS (by decide) rfl g4 dX3_share_69 (fun H locs hP hS => ?_)
      refine lv_iload hx hb dX3_share_70 (lv_at hl 4 rfl) ?_
      refine lv_aload_n hx hb dX3_share_72 rfl (lv_at hl 0 rfl) ?_
      refine x_getR X hP fl_X3_9 (by decide) rfl rfl dX3_share_73 ?_
      refine lv_iload hx hb dX3_share_76 (lv_at hl 5 rfl) ?_
      obtain ⟨g5, hf⟩ := xg_some hf
      refine x_iald X hP (by decide) rfl g5 dX3_share_78 ?_
      refine lv_isub hx hb dX3_share_79 ?_
      refine lv_istore (lv' := [(7, .int (a7 - ((xst S 21 a8.toNatClampNeg (xmax a5 (a7 - (a6 * ((a3 - a8) - (1 : Int32)))))).1 21 a8.toNatClampNeg))), (0, .ref (G.2.2 20)), (3, .int a3), (5, .int a5), (6, .int a6), (8, .int a8)]) hx hb dX3_share_80 hl (by decide) rfl (fun ls hl => ?_)
      refine lv_iinc (v := a8 + 1) (lv' := [(8, .int (a8 + 1)), (7, .int (a7 - ((xst S 21 a8.toNatClampNeg (xmax a5 (a7 - (a6 * ((a3 - a8) - (1 : Int32)))))).1 21 a8.toNatClampNeg))), (0, .ref (G.2.2 20)), (3, .int a3), (5, .int a5), (6, .int a6)]) hx hb dX3_share_82 hl (k := 5) rfl rfl (by decide) rfl (fun ls hl => ?_)
      refine lv_goto (tgt := 40) hx hb dX3_share_85 (by decide) ?_
      exact ih (xst S 21 a8.toNatClampNeg (xmax a5 (a7 - (a6 * ((a3 - a8) - (1 : Int32)))))) a3 a5 a6 (a7 - ((xst S 21 a8.toNatClampNeg (xmax a5 (a7 - (a6 * ((a3 - a8) - (1 : Int32)))))).1 21 a8.toNatClampNeg)) (a8 + 1) hf H locs ls hP hS (lv_sub hl [2, 3, 4, 5, 1, 0] rfl)
def j_X3_share_15 (n : Nat) (S : xS) (a1 : Int32) (a2 : Int32) (a3 : Int32) (a4 : Int32) (s0 : Int32) : Option xS :=
  (if a4 = 0 then (if a1 ≤ 0 then l_X3_share_40 n n S a3 s0 (0 : Int32) a1 a2 else l_X3_share_40 n n S a3 s0 (99 : Int32) a1 a2) else l_X3_share_40 n n S a3 s0 (99 : Int32) a1 a2)
set_option maxHeartbeats 4000000 in
set_option maxRecDepth 100000 in
theorem t_X3_share_15 {p : Program} {l : Launch} {e : Env} {s : State} {m : MethodId} {args : Array Value} {below : List Frame} {meth : Method} {c : Code} {G : xG} (X : xC p s m args c G RX3 cX3_share 9) (hr : meth.sig.returnType = none) (hlk : meth.locks = false) {n : Nat} {S' : xS} : ∀ (S : xS) (a1 : Int32) (a2 : Int32) (a3 : Int32) (a4 : Int32) (s0 : Int32), j_X3_share_15 n S a1 a2 a3 a4 s0 = some S' → xGo p l e { frames := 1, cells := 0, slots := 0, locals := 21 } s m args below meth c G 9 0 0 (MQ below (xQv G S') args s 0 0 (xA G)) S 15 [(0, .ref (G.2.2 20)), (1, .int a1), (2, .int a2), (3, .int a3), (4, .int a4)] [.int s0] := by
  intro S a1 a2 a3 a4 s0 hf H locs ls hP hS hl
  unfold j_X3_share_15 at hf
  obtain ⟨hx, hb, hml, hown, hts, hE⟩ := id X
  refine lv_istore (lv' := [(5, .int s0), (0, .ref (G.2.2 20)), (1, .int a1), (2, .int a2), (3, .int a3), (4, .int a4)]) hx hb dX3_share_15 hl (by decide) rfl (fun ls hl => ?_)
  refine lv_iload hx hb dX3_share_17 (lv_at hl 5 rfl) ?_
  refine lv_if_ne (tgt := 26) hx hb dX3_share_19 (by decide) (fun e2 => ?_) (fun e2 => ?_)
  · have hf := xif_f hf e2
    refine lv_bipush (v := 99) hx hb dX3_share_26 (by decide) ?_
    refine lv_goto (tgt := 32) hx hb dX3_share_28 (by decide) ?_
    refine lv_istore (lv' := [(6, .int (99 : Int32)), (5, .int s0), (0, .ref (G.2.2 20)), (1, .int a1), (2, .int a2), (3, .int a3), (4, .int a4)]) hx hb dX3_share_32 hl (by decide) rfl (fun ls hl => ?_)
    refine lv_iload_n hx hb dX3_share_34 rfl (lv_at hl 3 rfl) ?_
    refine lv_istore (lv' := [(7, .int a1), (6, .int (99 : Int32)), (5, .int s0), (0, .ref (G.2.2 20)), (1, .int a1), (2, .int a2), (3, .int a3), (4, .int a4)]) hx hb dX3_share_35 hl (by decide) rfl (fun ls hl => ?_)
    refine lv_iload_n hx hb dX3_share_37 rfl (lv_at hl 5 rfl) ?_
    refine lv_istore (lv' := [(8, .int a2), (7, .int a1), (6, .int (99 : Int32)), (5, .int s0), (0, .ref (G.2.2 20)), (1, .int a1), (2, .int a2), (3, .int a3), (4, .int a4)]) hx hb dX3_share_38 hl (by decide) rfl (fun ls hl => ?_)
    exact t_X3_share_40 X hr hlk   n S a3 s0 (99 : Int32) a1 a2 hf H locs ls hP hS (lv_sub hl [4, 7, 3, 2, 1, 0] rfl)
  · have hf := xif_t hf e2
    refine lv_iload_n hx hb dX3_share_22 rfl (lv_at hl 2 rfl) ?_
    refine lv_if_le (tgt := 31) hx hb dX3_share_23 (by decide) (fun e6 => ?_) (fun e6 => ?_)
    · have hf := xif_t hf e6
      refine lv_iconst (v := 0) hx hb dX3_share_31 (by decide) ?_
      refine lv_istore (lv' := [(6, .int (0 : Int32)), (5, .int s0), (0, .ref (G.2.2 20)), (1, .int a1), (2, .int a2), (3, .int a3), (4, .int a4)]) hx hb dX3_share_32 hl (by decide) rfl (fun ls hl => ?_)
      refine lv_iload_n hx hb dX3_share_34 rfl (lv_at hl 3 rfl) ?_
      refine lv_istore (lv' := [(7, .int a1), (6, .int (0 : Int32)), (5, .int s0), (0, .ref (G.2.2 20)), (1, .int a1), (2, .int a2), (3, .int a3), (4, .int a4)]) hx hb dX3_share_35 hl (by decide) rfl (fun ls hl => ?_)
      refine lv_iload_n hx hb dX3_share_37 rfl (lv_at hl 5 rfl) ?_
      refine lv_istore (lv' := [(8, .int a2), (7, .int a1), (6, .int (0 : Int32)), (5, .int s0), (0, .ref (G.2.2 20)), (1, .int a1), (2, .int a2), (3, .int a3), (4, .int a4)]) hx hb dX3_share_38 hl (by decide) rfl (fun ls hl => ?_)
      exact t_X3_share_40 X hr hlk   n S a3 s0 (0 : Int32) a1 a2 hf H locs ls hP hS (lv_sub hl [4, 7, 3, 2, 1, 0] rfl)
    · have hf := xif_f hf e6
      refine lv_bipush (v := 99) hx hb dX3_share_26 (by decide) ?_
      refine lv_goto (tgt := 32) hx hb dX3_share_28 (by decide) ?_
      refine lv_istore (lv' := [(6, .int (99 : Int32)), (5, .int s0), (0, .ref (G.2.2 20)), (1, .int a1), (2, .int a2), (3, .int a3), (4, .int a4)]) hx hb dX3_share_32 hl (by decide) rfl (fun ls hl => ?_)
      refine lv_iload_n hx hb dX3_share_34 rfl (lv_at hl 3 rfl) ?_
      refine lv_istore (lv' := [(7, .int a1), (6, .int (99 : Int32)), (5, .int s0), (0, .ref (G.2.2 20)), (1, .int a1), (2, .int a2), (3, .int a3), (4, .int a4)]) hx hb dX3_share_35 hl (by decide) rfl (fun ls hl => ?_)
      refine lv_iload_n hx hb dX3_share_37 rfl (lv_at hl 5 rfl) ?_
      refine lv_istore (lv' := [(8, .int a2), (7, .int a1), (6, .int (99 : Int32)), (5, .int s0), (0, .ref (G.2.2 20)), (1, .int a1), (2, .int a2), (3, .int a3), (4, .int a4)]) hx hb dX3_share_38 hl (by decide) rfl (fun ls hl => ?_)
      exact t_X3_share_40 X hr hlk   n S a3 s0 (99 : Int32) a1 a2 hf H locs ls hP hS (lv_sub hl [4, 7, 3, 2, 1, 0] rfl)
def j_X3_share_9 (n : Nat) (S : xS) (a1 : Int32) (a2 : Int32) (a3 : Int32) (a4 : Int32) : Option xS :=
  j_X3_share_15 n S a1 a2 a3 a4 (-99 : Int32)
set_option maxHeartbeats 4000000 in
set_option maxRecDepth 100000 in
theorem t_X3_share_9 {p : Program} {l : Launch} {e : Env} {s : State} {m : MethodId} {args : Array Value} {below : List Frame} {meth : Method} {c : Code} {G : xG} (X : xC p s m args c G RX3 cX3_share 9) (hr : meth.sig.returnType = none) (hlk : meth.locks = false) {n : Nat} {S' : xS} : ∀ (S : xS) (a1 : Int32) (a2 : Int32) (a3 : Int32) (a4 : Int32), j_X3_share_9 n S a1 a2 a3 a4 = some S' → xGo p l e { frames := 1, cells := 0, slots := 0, locals := 21 } s m args below meth c G 9 0 0 (MQ below (xQv G S') args s 0 0 (xA G)) S 9 [(0, .ref (G.2.2 20)), (1, .int a1), (2, .int a2), (3, .int a3), (4, .int a4)] [] := by
  intro S a1 a2 a3 a4 hf H locs ls hP hS hl
  unfold j_X3_share_9 at hf
  obtain ⟨hx, hb, hml, hown, hts, hE⟩ := id X
  refine lv_bipush (v := (-99)) hx hb dX3_share_9 (by decide) ?_
  refine lv_goto (tgt := 15) hx hb dX3_share_11 (by decide) ?_
  exact t_X3_share_15 X hr hlk   S a1 a2 a3 a4 (-99 : Int32) hf H locs ls hP hS (lv_sub hl [0, 1, 2, 3, 4] rfl)
def f_X3_share (n : Nat) (S : xS) (a1 : Int32) (a2 : Int32) (a3 : Int32) (a4 : Int32) : Option xS :=
  (if a4 = 0 then (if 0 ≤ a1 then j_X3_share_15 n S a1 a2 a3 a4 (0 : Int32) else j_X3_share_9 n S a1 a2 a3 a4) else j_X3_share_9 n S a1 a2 a3 a4)
set_option maxHeartbeats 4000000 in
set_option maxRecDepth 100000 in
theorem c_X3_share (l : Launch) (G : xG) (n : Nat)  (S : xS) (a1 : Int32) (a2 : Int32) (a3 : Int32) (a4 : Int32) (S' : xS) (hf : f_X3_share n S a1 a2 a3 a4 = some S') : xMv l G yX3_share cX3_share 9 none 1 21 [.ref (G.2.2 20), .int a1, .int a2, .int a3, .int a4] S S' := by
  refine xMv_of (own := RX3) (by decide +kernel) rfl (Nat.le_of_ble_eq_true rfl) ?_
  intro p e s m args below meth c X hr hlk H locs ls hP hS hl
  have hl : lv_has ls 9 [(0, .ref (G.2.2 20)), (1, .int a1), (2, .int a2), (3, .int a3), (4, .int a4)] := hl
  obtain ⟨hx, hb, hml, hown, hts, hE⟩ := id X
  unfold f_X3_share at hf
  refine lv_iload hx hb dX3_share_0 (lv_at hl 4 rfl) ?_
  refine lv_if_ne (tgt := 9) hx hb dX3_share_2 (by decide) (fun e1 => ?_) (fun e1 => ?_)
  · have hf := xif_f hf e1
    exact t_X3_share_9 X hr hlk   S a1 a2 a3 a4 hf H locs ls hP hS (lv_sub hl [0, 1, 2, 3, 4] rfl)
  · have hf := xif_t hf e1
    refine lv_iload_n hx hb dX3_share_5 rfl (lv_at hl 1 rfl) ?_
    refine lv_if_ge (tgt := 14) hx hb dX3_share_6 (by decide) (fun e7 => ?_) (fun e7 => ?_)
    · have hf := xif_t hf e7
      refine lv_iconst (v := 0) hx hb dX3_share_14 (by decide) ?_
      exact t_X3_share_15 X hr hlk   S a1 a2 a3 a4 (0 : Int32) hf H locs ls hP hS (lv_sub hl [0, 1, 2, 3, 4] rfl)
    · have hf := xif_f hf e7
      exact t_X3_share_9 X hr hlk   S a1 a2 a3 a4 hf H locs ls hP hS (lv_sub hl [0, 1, 2, 3, 4] rfl)
