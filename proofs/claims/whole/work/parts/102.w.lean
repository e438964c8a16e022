def f_X9_fault (n : Nat) (S : xS)  : Option (Int32 × xS) :=
  (f_X9_reads n S).bind fun r1 => (some (r1.1, r1.2))
set_option maxHeartbeats 4000000 in
set_option maxRecDepth 100000 in
theorem c_X9_fault (l : Launch) (G : xG) (n : Nat)  (S : xS)  (r : Int32) (S' : xS) (hf : f_X9_fault n S  = some (r, S')) : xMi l G yX9_fault cX9_fault 1 (some .int) 4 92 [.ref (G.2.2 34)] S r S' := by
  refine xMi_of (own := RX9) (by decide +kernel) rfl (Nat.le_of_ble_eq_true rfl) ?_
  intro p e s m args below meth c X hr hlk H locs ls hP hS hl
  have hl : lv_has ls 1 [(0, .ref (G.2.2 34))] := hl
  obtain ⟨hx, hb, hml, hown, hts, hE⟩ := id X
  unfold f_X9_fault at hf
  refine lv_aload_n hx hb dX9_fault_0 rfl (lv_at hl 0 rfl) ?_
  obtain ⟨r1, h2, hf⟩ := xb_some hf
  refine x_cVi (As := []) (rest := []) X hP hS kc_X9_89 (c_X9_reads l G n S  r1.1 r1.2 h2) ⟨Nat.le_of_ble_eq_true rfl, Nat.le_of_ble_eq_true rfl⟩ (by decide) rfl rfl rfl hl.1 rfl (Nat.le_of_ble_eq_true rfl) ⟨Nat.zero_le _, Nat.zero_le _⟩ dX9_fault_1 (fun H locs hP hS => ?_)
  exact x_iret X hr hlk hP hS  ((Prod.mk.inj (Option.some.inj hf)).1) ((Prod.mk.inj (Option.some.inj hf)).2) dX9_fault_4
def f_X8_isFloor (S : xS) (a1 : Int32) : Int32 :=
  f_X8_within a1 (0 : Int32) ((S.1 4 3) - (1 : Int32))
theorem fb_X8_isFloor (S : xS) (a1 : Int32) : f_X8_isFloor S a1 = 0 ∨ f_X8_isFloor S a1 = 1 := by
  unfold f_X8_isFloor
  exact fb_X8_within a1 (0 : Int32) ((S.1 4 3) - (1 : Int32))
set_option maxHeartbeats 4000000 in
set_option maxRecDepth 100000 in
theorem c_X8_isFloor (l : Launch) (G : xG)  (S : xS) (a1 : Int32) (r : Int32) (hf : f_X8_isFloor S a1 = r) : xMi l G yX8_isFloor cX8_isFloor 2 (some .boolean) 1 22 [.ref (G.2.2 0), .int a1] S r S := by
  refine xMi_of (own := RX8) (by decide +kernel) rfl (Nat.le_of_ble_eq_true rfl) ?_
  intro p e s m args below meth c X hr hlk H locs ls hP hS hl
  have hl : lv_has ls 2 [(0, .ref (G.2.2 0)), (1, .int a1)] := hl
  obtain ⟨hx, hb, hml, hown, hts, hE⟩ := id X
  unfold f_X8_isFloor at hf
  refine lv_iload_n hx hb dX8_isFloor_0 rfl (lv_at hl 1 rfl) ?_
  refine lv_iconst (v := 0) hx hb dX8_isFloor_1 (by decide) ?_
  refine lv_aload_n hx hb dX8_isFloor_2 rfl (lv_at hl 0 rfl) ?_
  refine x_getR X hP fl_X8_23 (by decide) rfl rfl dX8_isFloor_3 ?_
  refine x_getIN X hP fn_X8_152 (by decide) rfl rfl dX8_isFloor_6 ?_
  refine lv_iconst (v := 1) hx hb dX8_isFloor_9 (by decide) ?_
  refine lv_isub hx hb dX8_isFloor_10 ?_
  refine x_cSi (As := [.int a1, .int (0 : Int32), .int ((S.1 4 3) - (1 : Int32))]) (rest := []) X hP hS kc_X8_79 (c_X8_within l G  S a1 (0 : Int32) ((S.1 4 3) - (1 : Int32)) _ rfl) ⟨Nat.le_of_ble_eq_true rfl, Nat.le_of_ble_eq_true rfl⟩ rfl hl.1 rfl (Nat.le_of_ble_eq_true rfl) ⟨Nat.zero_le _, Nat.zero_le _⟩ dX8_isFloor_11 (fun H locs hP hS => ?_)
  exact x_zret X hr hlk hP hS (fb_X8_within a1 (0 : Int32) ((S.1 4 3) - (1 : Int32))) (hf) (rfl) dX8_isFloor_14
def f_X8_floor (n : Nat) (S : xS) (a1 : Int32) (a2 : Int32) : Option Int32 :=
  (if (f_X8_isFloor S a1) = 0 then some (-100002 : Int32) else (if a2 = 0 then xg (xin a1 10) (some (S.1 10 a1.toNatClampNeg)) else (if a2 = 1 then (f_X7_built n S a1).bind fun r3 => (some r3) else (if a2 = 2 then (f_X4_master n S a1).bind fun r5 => (some r5) else (if a2 = 3 then (f_X4_habit n S a1).bind fun r7 => (some r7) else (if a2 = 4 then xg (xin a1 10) (some (S.1 16 a1.toNatClampNeg)) else (if a2 = 5 then xg (xin a1 10) (some (S.1 12 a1.toNatClampNeg)) else some (-100002 : Int32))))))))
set_option maxHeartbeats 4000000 in
set_option maxRecDepth 100000 in
theorem c_X8_floor (l : Launch) (G : xG) (n : Nat)  (S : xS) (a1 : Int32) (a2 : Int32) (r : Int32) (hf : f_X8_floor n S a1 a2 = some r) : xMi l G yX8_floor cX8_floor 3 (some .int) 2 43 [.ref (G.2.2 0), .int a1, .int a2] S r S := by
  refine xMi_of (own := RX8) (by decide +kernel) rfl (Nat.le_of_ble_eq_true rfl) ?_
  intro p e s m args below meth c X hr hlk H locs ls hP hS hl
  have hl : lv_has ls 3 [(0, .ref (G.2.2 0)), (1, .int a1), (2, .int a2)] := hl
  obtain ⟨hx, hb, hml, hown, hts, hE⟩ := id X
  unfold f_X8_floor at hf
  refine lv_aload_n hx hb dX8_floor_0 rfl (lv_at hl 0 rfl) ?_
  refine lv_iload_n hx hb dX8_floor_1 rfl (lv_at hl 1 rfl) ?_
  refine x_cVi (As := [.int a1]) (rest := []) X hP hS kc_X8_104 (c_X8_isFloor l G  S a1 _ rfl) ⟨Nat.le_of_ble_eq_true rfl, Nat.le_of_ble_eq_true rfl⟩ (by decide) rfl rfl rfl hl.1 rfl (Nat.le_of_ble_eq_true rfl) ⟨Nat.zero_le _, Nat.zero_le _⟩ dX8_floor_2 (fun H locs hP hS => ?_)
  refine lv_if_ne (tgt := 11) hx hb dX8_floor_5 (by decide) (fun e1 => ?_) (fun e1 => ?_)
  · have hf := xif_f hf e1
    refine lv_iload_n hx hb dX8_floor_11 rfl (lv_at hl 2 rfl) ?_
    by_cases v0 : a2 = 0
    · have hf := xif_t hf v0
      refine lv_tableIn (tgt := 52) (off := 40) hx hb dX8_floor_12 (by rw [v0]; decide) (by rw [v0]; decide) (by rw [v0]; rfl) (by decide) ?_
      refine lv_aload_n hx hb dX8_floor_52 rfl (lv_at hl 0 rfl) ?_
      refine x_getR X hP fl_X8_32 (by decide) rfl rfl dX8_floor_53 ?_
      refine x_getRN X hP fn_X8_108 (by decide) rfl rfl dX8_floor_56 ?_
      refine lv_iload_n hx hb dX8_floor_59 rfl (lv_at hl 1 rfl) ?_
      obtain ⟨g2, hf⟩ := xg_some hf
      refine x_iald X hP (by decide) rfl g2 dX8_floor_60 ?_
      exact x_iret X hr hlk hP hS  (Option.some.inj hf) (rfl) dX8_floor_61
    · have hf := xif_f hf v0
      by_cases v1 : a2 = 1
      · have hf := xif_t hf v1
        refine lv_tableIn (tgt := 62) (off := 50) hx hb dX8_floor_12 (by rw [v1]; decide) (by rw [v1]; decide) (by rw [v1]; rfl) (by decide) ?_
        refine lv_aload_n hx hb dX8_floor_62 rfl (lv_at hl 0 rfl) ?_
        refine x_getR X hP fl_X8_32 (by decide) rfl rfl dX8_floor_63 ?_
        refine lv_iload_n hx hb dX8_floor_66 rfl (lv_at hl 1 rfl) ?_
        obtain ⟨r3, h4, hf⟩ := xb_some hf
        refine x_cVi (As := [.int a1]) (rest := []) X hP hS kc_X8_111 (c_X7_built l G n S a1 _ h4) ⟨Nat.le_of_ble_eq_true rfl, Nat.le_of_ble_eq_true rfl⟩ (by decide) rfl rfl rfl hl.1 rfl (Nat.le_of_ble_eq_true rfl) ⟨Nat.zero_le _, Nat.zero_le _⟩ dX8_floor_67 (fun H locs hP hS => ?_)
        exact x_iret X hr hlk hP hS  (Option.some.inj hf) (rfl) dX8_floor_70
      · have hf := xif_f hf v1
        by_cases v2 : a2 = 2
        · have hf := xif_t hf v2
          refine lv_tableIn (tgt := 71) (off := 59) hx hb dX8_floor_12 (by rw [v2]; decide) (by rw [v2]; decide) (by rw [v2]; rfl) (by decide) ?_
          refine lv_aload_n hx hb dX8_floor_71 rfl (lv_at hl 0 rfl) ?_
          refine x_getR X hP fl_X8_23 (by decide) rfl rfl dX8_floor_72 ?_
          refine lv_iload_n hx hb dX8_floor_75 rfl (lv_at hl 1 rfl) ?_
          obtain ⟨r5, h6, hf⟩ := xb_some hf
          refine x_cVi (As := [.int a1]) (rest := []) X hP hS kc_X8_115 (c_X4_master l G n S a1 _ h6) ⟨Nat.le_of_ble_eq_true rfl, Nat.le_of_ble_eq_true rfl⟩ (by decide) rfl rfl rfl hl.1 rfl (Nat.le_of_ble_eq_true rfl) ⟨Nat.zero_le _, Nat.zero_le _⟩ dX8_floor_76 (fun H locs hP hS => ?_)
          exact x_iret X hr hlk hP hS  (Option.some.inj hf) (rfl) dX8_floor_79
        · have hf := xif_f hf v2
          by_cases v3 : a2 = 3
          · have hf := xif_t hf v3
            refine lv_tableIn (tgt := 80) (off := 68) hx hb dX8_floor_12 (by rw [v3]; decide) (by rw [v3]; decide) (by rw [v3]; rfl) (by decide) ?_
            refine lv_aload_n hx hb dX8_floor_80 rfl (lv_at hl 0 rfl) ?_
            refine x_getR X hP fl_X8_23 (by decide) rfl rfl dX8_floor_81 ?_
            refine lv_iload_n hx hb dX8_floor_84 rfl (lv_at hl 1 rfl) ?_
            obtain ⟨r7, h8, hf⟩ := xb_some hf
            refine x_cVi (As := [.int a1]) (rest := []) X hP hS kc_X8_118 (c_X4_habit l G n S a1 _ h8) ⟨Nat.le_of_ble_eq_true rfl, Nat.le_of_ble_eq_true rfl⟩ (by decide) rfl rfl rfl hl.1 rfl (Nat.le_of_ble_eq_true rfl) ⟨Nat.zero_le _, Nat.zero_le _⟩ dX8_floor_85 (fun H locs hP hS => ?_)
            exact x_iret X hr hlk hP hS  (Option.some.inj hf) (rfl) dX8_floor_88
          · have hf := xif_f hf v3
            by_cases v4 : a2 = 4
            · have hf := xif_t hf v4
              refine lv_tableIn (tgt := 89) (off := 77) hx hb dX8_floor_12 (by rw [v4]; decide) (by rw [v4]; decide) (by rw [v4]; rfl) (by decide) ?_
              refine lv_aload_n hx hb dX8_floor_89 rfl (lv_at hl 0 rfl) ?_
              refine x_getR X hP fl_X8_41 (by decide) rfl rfl dX8_floor_90 ?_
              refine x_getRN X hP fn_X8_121 (by decide) rfl rfl dX8_floor_93 ?_
              refine lv_iload_n hx hb dX8_floor_96 rfl (lv_at hl 1 rfl) ?_
              obtain ⟨g9, hf⟩ := xg_some hf
              refine x_iald X hP (by decide) rfl g9 dX8_floor_97 ?_
              exact x_iret X hr hlk hP hS  (Option.some.inj hf) (rfl) dX8_floor_98
            · have hf := xif_f hf v4
              by_cases v5 : a2 = 5
              · have hf := xif_t hf v5
                refine lv_tableIn (tgt := 99) (off := 87) hx hb dX8_floor_12 (by rw [v5]; decide) (by rw [v5]; decide) (by rw [v5]; rfl) (by decide) ?_
                refine lv_aload_n hx hb dX8_floor_99 rfl (lv_at hl 0 rfl) ?_
                refine x_getR X hP fl_X8_32 (by decide) rfl rfl dX8_floor_100 ?_
                refine x_getRN X hP fn_X8_124 (by decide) rfl rfl dX8_floor_103 ?_
                refine lv_iload_n hx hb dX8_floor_106 rfl (lv_at hl 1 rfl) ?_
                obtain ⟨g10, hf⟩ := xg_some hf
                refine x_iald X hP (by decide) rfl g10 dX8_floor_107 ?_
                exact x_iret X hr hlk hP hS  (Option.some.inj hf) (rfl) dX8_floor_108
              · have hf := xif_f hf v5
                refine lv_tableOut (tgt := 109) hx hb dX8_floor_12 (by have z0 := lv_neT v0 (show (0 : Int32).toInt = 0 from by decide); have z1 := lv_neT v1 (show (1 : Int32).toInt = 1 from by decide); have z2 := lv_neT v2 (show (2 : Int32).toInt = 2 from by decide); have z3 := lv_neT v3 (show (3 : Int32).toInt = 3 from by decide); have z4 := lv_neT v4 (show (4 : Int32).toInt = 4 from by decide); have z5 := lv_neT v5 (show (5 : Int32).toInt = 5 from by decide); omega) (by decide) ?_
                refine lv_ldc hx hb hown (hts _ kw_258) dX8_floor_109 ?_
                exact x_iret X hr hlk hP hS  (Option.some.inj hf) (rfl) dX8_floor_111
  · have hf := xif_t hf e1
    refine lv_ldc hx hb hown (hts _ kw_258) dX8_floor_8 ?_
    exact x_iret X hr hlk hP hS  (Option.some.inj hf) (rfl) dX8_floor_10
def f_X9_floorsNow (n : Nat) (S : xS)  : Option (Int32 × xS) :=
  (f_X9_reads n S).bind fun r1 => (some (r1.2.1 34 5, r1.2))
set_option maxHeartbeats 4000000 in
set_option maxRecDepth 100000 in
theorem c_X9_floorsNow (l : Launch) (G : xG) (n : Nat)  (S : xS)  (r : Int32) (S' : xS) (hf : f_X9_floorsNow n S  = some (r, S')) : xMi l G yX9_floorsNow cX9_floorsNow 2 (some .int) 4 92 [.ref (G.2.2 34)] S r S' := by
  refine xMi_of (own := RX9) (by decide +kernel) rfl (Nat.le_of_ble_eq_true rfl) ?_
  intro p e s m args below meth c X hr hlk H locs ls hP hS hl
  have hl : lv_has ls 2 [(0, .ref (G.2.2 34))] := hl
  obtain ⟨hx, hb, hml, hown, hts, hE⟩ := id X
  unfold f_X9_floorsNow at hf
  refine lv_aload_n hx hb dX9_floorsNow_0 rfl (lv_at hl 0 rfl) ?_
  obtain ⟨r1, h2, hf⟩ := xb_some hf
  refine x_cVi (As := []) (rest := []) X hP hS kc_X9_89 (c_X9_reads l G n S  r1.1 r1.2 h2) ⟨Nat.le_of_ble_eq_true rfl, Nat.le_of_ble_eq_true rfl⟩ (by decide) rfl rfl rfl hl.1 rfl (Nat.le_of_ble_eq_true rfl) ⟨Nat.zero_le _, Nat.zero_le _⟩ dX9_floorsNow_1 (fun H locs hP hS => ?_)
  refine lv_istore_n (lv' := [(1, .int r1.1), (0, .ref (G.2.2 34))]) hx hb dX9_floorsNow_4 rfl hl (by decide) rfl (fun ls hl => ?_)
  refine lv_aload_n hx hb dX9_floorsNow_5 rfl (lv_at hl 1 rfl) ?_
  refine x_getI X hP fl_X9_83 (by decide) rfl rfl dX9_floorsNow_6 ?_
  exact x_iret X hr hlk hP hS  ((Prod.mk.inj (Option.some.inj hf)).1) ((Prod.mk.inj (Option.some.inj hf)).2) dX9_floorsNow_9
def f_X9_isFloor (n : Nat) (S : xS) (a1 : Int32) : Option (Int32 × xS) :=
  (f_X9_floorsNow n S).bind fun r1 => (some (f_X9_in a1 (0 : Int32) (r1.1 - (1 : Int32)), r1.2))
set_option maxHeartbeats 4000000 in
set_option maxRecDepth 100000 in
theorem c_X9_isFloor (l : Launch) (G : xG) (n : Nat)  (S : xS) (a1 : Int32) (r : Int32) (S' : xS) (hf : f_X9_isFloor n S a1 = some (r, S')) : xMi l G yX9_isFloor cX9_isFloor 2 (some .boolean) 5 113 [.ref (G.2.2 34), .int a1] S r S' := by
  refine xMi_of (own := RX9) (by decide +kernel) rfl (Nat.le_of_ble_eq_true rfl) ?_
  intro p e s m args below meth c X hr hlk H locs ls hP hS hl
  have hl : lv_has ls 2 [(0, .ref (G.2.2 34)), (1, .int a1)] := hl
  obtain ⟨hx, hb, hml, hown, hts, hE⟩ := id X
  unfold f_X9_isFloor at hf
  refine lv_iload_n hx hb dX9_isFloor_0 rfl (lv_at hl 1 rfl) ?_
  refine lv_iconst (v := 0) hx hb dX9_isFloor_1 (by decide) ?_
  refine lv_aload_n hx hb dX9_isFloor_2 rfl (lv_at hl 0 rfl) ?_
  obtain ⟨r1, h2, hf⟩ := xb_some hf
  refine x_cVi (As := []) (rest := [.int (0 : Int32), .int a1]) X hP hS kc_X9_97 (c_X9_floorsNow l G n S  r1.1 r1.2 h2) ⟨Nat.le_of_ble_eq_true rfl, Nat.le_of_ble_eq_true rfl⟩ (by decide) rfl rfl rfl hl.1 rfl (Nat.le_of_ble_eq_true rfl) ⟨Nat.zero_le _, Nat.zero_le _⟩ dX9_isFloor_3 (fun H locs hP hS => ?_)
  refine lv_iconst (v := 1) hx hb dX9_isFloor_6 (by decide) ?_
  refine lv_isub hx hb dX9_isFloor_7 ?_
  refine x_cSi (As := [.int a1, .int (0 : Int32), .int (r1.1 - (1 : Int32))]) (rest := []) X hP hS kc_X9_68 (c_X9_in l G  r1.2 a1 (0 : Int32) (r1.1 - (1 : Int32)) _ rfl) ⟨Nat.le_of_ble_eq_true rfl, Nat.le_of_ble_eq_true rfl⟩ rfl hl.1 rfl (Nat.le_of_ble_eq_true rfl) ⟨Nat.zero_le _, Nat.zero_le _⟩ dX9_isFloor_8 (fun H locs hP hS => ?_)
  exact x_zret X hr hlk hP hS (fb_X9_in a1 (0 : Int32) (r1.1 - (1 : Int32))) ((Prod.mk.inj (Option.some.inj hf)).1) ((Prod.mk.inj (Option.some.inj hf)).2) dX9_isFloor_11
def f_X9_cutBy (n : Nat) (S : xS) (a1 : Int32) (a2 : Int32) : Option Int32 :=
  xg (xin (a2 / (3 : Int32)) 3) (xg (xin (a2 / (3 : Int32)) 3) ((if (a2 - a2 / (3 : Int32) * (3 : Int32)) = 0 then xg (!decide ((S.1 35 (a2 / (3 : Int32)).toNatClampNeg) = 0)) (xg (!decide ((S.1 36 (a2 / (3 : Int32)).toNatClampNeg) = 0)) (some ((((a1 * (S.1 36 (a2 / (3 : Int32)).toNatClampNeg)) / (S.1 35 (a2 / (3 : Int32)).toNatClampNeg)) * (S.1 35 (a2 / (3 : Int32)).toNatClampNeg)) / (S.1 36 (a2 / (3 : Int32)).toNatClampNeg)))) else (if (a2 - a2 / (3 : Int32) * (3 : Int32)) = (1 : Int32) then xg (!decide ((S.1 35 (a2 / (3 : Int32)).toNatClampNeg) = 0)) (xg (!decide ((S.1 36 (a2 / (3 : Int32)).toNatClampNeg) = 0)) (some ((((((a1 * (S.1 36 (a2 / (3 : Int32)).toNatClampNeg)) + (S.1 35 (a2 / (3 : Int32)).toNatClampNeg)) - (1 : Int32)) / (S.1 35 (a2 / (3 : Int32)).toNatClampNeg)) * (S.1 35 (a2 / (3 : Int32)).toNatClampNeg)) / (S.1 36 (a2 / (3 : Int32)).toNatClampNeg)))) else xg (!decide (((2 : Int32) * (S.1 35 (a2 / (3 : Int32)).toNatClampNeg)) = 0)) (xg (!decide ((S.1 36 (a2 / (3 : Int32)).toNatClampNeg) = 0)) (some (((((((2 : Int32) * (a1 * (S.1 36 (a2 / (3 : Int32)).toNatClampNeg))) + (S.1 35 (a2 / (3 : Int32)).toNatClampNeg)) - (1 : Int32)) / ((2 : Int32) * (S.1 35 (a2 / (3 : Int32)).toNatClampNeg))) * (S.1 35 (a2 / (3 : Int32)).toNatClampNeg)) / (S.1 36 (a2 / (3 : Int32)).toNatClampNeg))))))))
set_option maxHeartbeats 4000000 in
set_option maxRecDepth 100000 in
theorem c_X9_cutBy (l : Launch) (G : xG) (n : Nat)  (S : xS) (a1 : Int32) (a2 : Int32) (r : Int32) (hf : f_X9_cutBy n S a1 a2 = some r) : xMi l G yX9_cutBy cX9_cutBy 7 (some .int) 0 0 [.ref (G.2.2 34), .int a1, .int a2] S r S := by
  refine xMi_of (own := RX9) (by decide +kernel) rfl (Nat.le_of_ble_eq_true rfl) ?_
  intro p e s m args below meth c X hr hlk H locs ls hP hS hl
  have hl : lv_has ls 7 [(0, .ref (G.2.2 34)), (1, .int a1), (2, .int a2)] := hl
  obtain ⟨hx, hb, hml, hown, hts, hE⟩ := id X
  unfold f_X9_cutBy at hf
  refine lv_aload_n hx hb dX9_cutBy_0 rfl (lv_at hl 0 rfl) ?_
  refine x_getR X hP fl_X9_7 (by decide) rfl rfl dX9_cutBy_1 ?_
  refine lv_iload_n hx hb dX9_cutBy_4 rfl (lv_at hl 2 rfl) ?_
  refine lv_iconst (v := 3) hx hb dX9_cutBy_5 (by decide) ?_
  refine lv_idiv hx hb dX9_cutBy_6 (by decide) ?_
  obtain ⟨g1, hf⟩ := xg_some hf
  refine x_iald X hP (by decide) rfl g1 dX9_cutBy_7 ?_
  refine lv_istore_n (lv' := [(3, .int (S.1 35 (a2 / (3 : Int32)).toNatClampNeg)), (0, .ref (G.2.2 34)), (1, .int a1), (2, .int a2)]) hx hb dX9_cutBy_8 rfl hl (by decide) rfl (fun ls hl => ?_)
  refine lv_aload_n hx hb dX9_cutBy_9 rfl (lv_at hl 1 rfl) ?_
  refine x_getR X hP fl_X9_13 (by decide) rfl rfl dX9_cutBy_10 ?_
  refine lv_iload_n hx hb dX9_cutBy_13 rfl (lv_at hl 3 rfl) ?_
  refine lv_iconst (v := 3) hx hb dX9_cutBy_14 (by decide) ?_
  refine lv_idiv hx hb dX9_cutBy_15 (by decide) ?_
  obtain ⟨g2, hf⟩ := xg_some hf
  refine x_iald X hP (by decide) rfl g2 dX9_cutBy_16 ?_
  refine lv_istore (lv' := [(4, .int (S.1 36 (a2 / (3 : Int32)).toNatClampNeg)), (3, .int (S.1 35 (a2 / (3 : Int32)).toNatClampNeg)), (0, .ref (G.2.2 34)), (1, .int a1), (2, .int a2)]) hx hb dX9_cutBy_17 hl (by decide) rfl (fun ls hl => ?_)
  refine lv_iload_n hx hb dX9_cutBy_19 rfl (lv_at hl 3 rfl) ?_
  refine lv_iload hx hb dX9_cutBy_20 (lv_at hl 0 rfl) ?_
  refine lv_imul hx hb dX9_cutBy_22 ?_
  refine lv_istore (lv' := [(5, .int (a1 * (S.1 36 (a2 / (3 : Int32)).toNatClampNeg))), (4, .int (S.1 36 (a2 / (3 : Int32)).toNatClampNeg)), (3, .int (S.1 35 (a2 / (3 : Int32)).toNatClampNeg)), (0, .ref (G.2.2 34)), (1, .int a1), (2, .int a2)]) hx hb dX9_cutBy_23 hl (by decide) rfl (fun ls hl => ?_)
  refine lv_iload_n hx hb dX9_cutBy_25 rfl (lv_at hl 5 rfl) ?_
  refine lv_iconst (v := 3) hx hb dX9_cutBy_26 (by decide) ?_
  refine lv_irem hx hb dX9_cutBy_27 (by decide) ?_
  refine lv_if_ne (tgt := 38) hx hb dX9_cutBy_28 (by decide) (fun e3 => ?_) (fun e3 => ?_)
  · have hf := xif_f hf e3
    refine lv_iload_n hx hb dX9_cutBy_38 rfl (lv_at hl 5 rfl) ?_
    refine lv_iconst (v := 3) hx hb dX9_cutBy_39 (by decide) ?_
    refine lv_irem hx hb dX9_cutBy_40 (by decide) ?_
    refine lv_iconst (v := 1) hx hb dX9_cutBy_41 (by decide) ?_
    refine lv_icmp_ne (tgt := 56) hx hb dX9_cutBy_42 (by decide) (fun e4 => ?_) (fun e4 => ?_)
    · have hf := xif_f hf e4
      refine lv_iconst (v := 2) hx hb dX9_cutBy_56 (by decide) ?_
      refine lv_iload hx hb dX9_cutBy_57 (lv_at hl 0 rfl) ?_
      refine lv_imul hx hb dX9_cutBy_59 ?_
      refine lv_iload_n hx hb dX9_cutBy_60 rfl (lv_at hl 2 rfl) ?_
      refine lv_iadd hx hb dX9_cutBy_61 ?_
      refine lv_iconst (v := 1) hx hb dX9_cutBy_62 (by decide) ?_
      refine lv_isub hx hb dX9_cutBy_63 ?_
      refine lv_iconst (v := 2) hx hb dX9_cutBy_64 (by decide) ?_
      refine lv_iload_n hx hb dX9_cutBy_65 rfl (lv_at hl 2 rfl) ?_
      refine lv_imul hx hb dX9_cutBy_66 ?_
      obtain ⟨g5, hf⟩ := xg_some hf
      refine lv_idiv hx hb dX9_cutBy_67 (xne_of g5) ?_
      refine lv_istore (lv' := [(6, .int (((((2 : Int32) * (a1 * (S.1 36 (a2 / (3 : Int32)).toNatClampNeg))) + (S.1 35 (a2 / (3 : Int32)).toNatClampNeg)) - (1 : Int32)) / ((2 : Int32) * (S.1 35 (a2 / (3 : Int32)).toNatClampNeg)))), (5, .int (a1 * (S.1 36 (a2 / (3 : Int32)).toNatClampNeg))), (4, .int (S.1 36 (a2 / (3 : Int32)).toNatClampNeg)), (3, .int (S.1 35 (a2 / (3 : Int32)).toNatClampNeg)), (0, .ref (G.2.2 34)), (1, .int a1), (2, .int a2)]) hx hb dX9_cutBy_68 hl (by decide) rfl (fun ls hl => ?_)
      refine lv_iload hx hb dX9_cutBy_70 (lv_at hl 0 rfl) ?_
      refine lv_iload_n hx hb dX9_cutBy_72 rfl (lv_at hl 3 rfl) ?_
      refine lv_imul hx hb dX9_cutBy_73 ?_
      refine lv_iload hx hb dX9_cutBy_74 (lv_at hl 2 rfl) ?_
      obtain ⟨g6, hf⟩ := xg_some hf
      refine lv_idiv hx hb dX9_cutBy_76 (xne_of g6) ?_
      exact x_iret X hr hlk hP hS  (Option.some.inj hf) (rfl) dX9_cutBy_77
    · have hf := xif_t hf e4
      refine lv_iload hx hb dX9_cutBy_45 (lv_at hl 0 rfl) ?_
      refine lv_iload_n hx hb dX9_cutBy_47 rfl (lv_at hl 2 rfl) ?_
      refine lv_iadd hx hb dX9_cutBy_48 ?_
      refine lv_iconst (v := 1) hx hb dX9_cutBy_49 (by decide) ?_
      refine lv_isub hx hb dX9_cutBy_50 ?_
      refine lv_iload_n hx hb dX9_cutBy_51 rfl (lv_at hl 2 rfl) ?_
      obtain ⟨g7, hf⟩ := xg_some hf
      refine lv_idiv hx hb dX9_cutBy_52 (xne_of g7) ?_
      refine lv_goto (tgt := 68) hx hb dX9_cutBy_53 (by decide) ?_
      refine lv_istore (lv' := [(6, .int ((((a1 * (S.1 36 (a2 / (3 : Int32)).toNatClampNeg)) + (S.1 35 (a2 / (3 : Int32)).toNatClampNeg)) - (1 : Int32)) / (S.1 35 (a2 / (3 : Int32)).toNatClampNeg))), (5, .int (a1 * (S.1 36 (a2 / (3 : Int32)).toNatClampNeg))), (4, .int (S.1 36 (a2 / (3 : Int32)).toNatClampNeg)), (3, .int (S.1 35 (a2 / (3 : Int32)).toNatClampNeg)), (0, .ref (G.2.2 34)), (1, .int a1), (2, .int a2)]) hx hb dX9_cutBy_68 hl (by decide) rfl (fun ls hl => ?_)
      refine lv_iload hx hb dX9_cutBy_70 (lv_at hl 0 rfl) ?_
      refine lv_iload_n hx hb dX9_cutBy_72 rfl (lv_at hl 3 rfl) ?_
      refine lv_imul hx hb dX9_cutBy_73 ?_
      refine lv_iload hx hb dX9_cutBy_74 (lv_at hl 2 rfl) ?_
      obtain ⟨g8, hf⟩ := xg_some hf
      refine lv_idiv hx hb dX9_cutBy_76 (xne_of g8) ?_
      exact x_iret X hr hlk hP hS  (Option.some.inj hf) (rfl) dX9_cutBy_77
  · have hf := xif_t hf e3
    refine lv_iload hx hb dX9_cutBy_31 (lv_at hl 0 rfl) ?_
    refine lv_iload_n hx hb dX9_cutBy_33 rfl (lv_at hl 2 rfl) ?_
    obtain ⟨g9, hf⟩ := xg_some hf
    refine lv_idiv hx hb dX9_cutBy_34 (xne_of g9) ?_
    refine lv_goto (tgt := 68) hx hb dX9_cutBy_35 (by decide) ?_
    refine lv_istore (lv' := [(6, .int ((a1 * (S.1 36 (a2 / (3 : Int32)).toNatClampNeg)) / (S.1 35 (a2 / (3 : Int32)).toNatClampNeg))), (5, .int (a1 * (S.1 36 (a2 / (3 : Int32)).toNatClampNeg))), (4, .int (S.1 36 (a2 / (3 : Int32)).toNatClampNeg)), (3, .int (S.1 35 (a2 / (3 : Int32)).toNatClampNeg)), (0, .ref (G.2.2 34)), (1, .int a1), (2, .int a2)]) hx hb dX9_cutBy_68 hl (by decide) rfl (fun ls hl => ?_)
    refine lv_iload hx hb dX9_cutBy_70 (lv_at hl 0 rfl) ?_
    refine lv_iload_n hx hb dX9_cutBy_72 rfl (lv_at hl 3 rfl) ?_
    refine lv_imul hx hb dX9_cutBy_73 ?_
    refine lv_iload hx hb dX9_cutBy_74 (lv_at hl 2 rfl) ?_
    obtain ⟨g10, hf⟩ := xg_some hf
    refine lv_idiv hx hb dX9_cutBy_76 (xne_of g10) ?_
    exact x_iret X hr hlk hP hS  (Option.some.inj hf) (rfl) dX9_cutBy_77
def f_X9_builtOf (n : Nat) (S : xS) (a1 : Int32) : Option Int32 :=
  xg (xin a1 11) (xg (xin a1 11) ((f_X9_cutBy n S (S.1 39 a1.toNatClampNeg) (S.1 40 a1.toNatClampNeg)).bind fun r3 => (xg (xin a1 10) (some (r3 + (S.1 41 a1.toNatClampNeg))))))
set_option maxHeartbeats 4000000 in
set_option maxRecDepth 100000 in
theorem c_X9_builtOf (l : Launch) (G : xG) (n : Nat)  (S : xS) (a1 : Int32) (r : Int32) (hf : f_X9_builtOf n S a1 = some r) : xMi l G yX9_builtOf cX9_builtOf 2 (some .int) 1 26 [.ref (G.2.2 34), .int a1] S r S := by
  refine xMi_of (own := RX9) (by decide +kernel) rfl (Nat.le_of_ble_eq_true rfl) ?_
  intro p e s m args below meth c X hr hlk H locs ls hP hS hl
  have hl : lv_has ls 2 [(0, .ref (G.2.2 34)), (1, .int a1)] := hl
  obtain ⟨hx, hb, hml, hown, hts, hE⟩ := id X
  unfold f_X9_builtOf at hf
  refine lv_aload_n hx hb dX9_builtOf_0 rfl (lv_at hl 0 rfl) ?_
  refine lv_aload_n hx hb dX9_builtOf_1 rfl (lv_at hl 0 rfl) ?_
  refine x_getR X hP fl_X9_22 (by decide) rfl rfl dX9_builtOf_2 ?_
  refine lv_iload_n hx hb dX9_builtOf_5 rfl (lv_at hl 1 rfl) ?_
  obtain ⟨g1, hf⟩ := xg_some hf
  refine x_iald X hP (by decide) rfl g1 dX9_builtOf_6 ?_
  refine lv_aload_n hx hb dX9_builtOf_7 rfl (lv_at hl 0 rfl) ?_
  refine x_getR X hP fl_X9_25 (by decide) rfl rfl dX9_builtOf_8 ?_
  refine lv_iload_n hx hb dX9_builtOf_11 rfl (lv_at hl 1 rfl) ?_
  obtain ⟨g2, hf⟩ := xg_some hf
  refine x_iald X hP (by decide) rfl g2 dX9_builtOf_12 ?_
  obtain ⟨r3, h4, hf⟩ := xb_some hf
  refine x_cVi (As := [.int (S.1 39 a1.toNatClampNeg), .int (S.1 40 a1.toNatClampNeg)]) (rest := []) X hP hS kc_X9_93 (c_X9_cutBy l G n S (S.1 39 a1.toNatClampNeg) (S.1 40 a1.toNatClampNeg) _ h4) ⟨Nat.le_of_ble_eq_true rfl, Nat.le_of_ble_eq_true rfl⟩ (by decide) rfl rfl rfl hl.1 rfl (Nat.le_of_ble_eq_true rfl) ⟨Nat.zero_le _, Nat.zero_le _⟩ dX9_builtOf_13 (fun H locs hP hS => ?_)
  refine lv_aload_n hx hb dX9_builtOf_16 rfl (lv_at hl 0 rfl) ?_
  refine x_getR X hP fl_X9_28 (by decide) rfl rfl dX9_builtOf_17 ?_
  refine lv_iload_n hx hb dX9_builtOf_20 rfl (lv_at hl 1 rfl) ?_
  obtain ⟨g5, hf⟩ := xg_some hf
  refine x_iald X hP (by decide) rfl g5 dX9_builtOf_21 ?_
  refine lv_iadd hx hb dX9_builtOf_22 ?_
  exact x_iret X hr hlk hP hS  (Option.some.inj hf) (rfl) dX9_builtOf_23
def f_X9_floorOf (n : Nat) (S : xS) (a1 : Int32) (a2 : Int32) : Option Int32 :=
  (if a2 = 0 then xg (xin a1 11) (some (S.1 39 a1.toNatClampNeg)) else (if a2 = (1 : Int32) then (f_X9_builtOf n S a1).bind fun r10 => (some r10) else (if a2 = (2 : Int32) then xg (xin a1 11) (some ((S.1 40 a1.toNatClampNeg) / (3 : Int32))) else (if a2 = (3 : Int32) then xg (xin a1 11) (some ((S.1 40 a1.toNatClampNeg) - (S.1 40 a1.toNatClampNeg) / (3 : Int32) * (3 : Int32))) else (if a2 = (4 : Int32) then xg (xin a1 10) (some (S.1 42 a1.toNatClampNeg)) else xg (xin a1 10) (some (S.1 41 a1.toNatClampNeg)))))))
set_option maxHeartbeats 4000000 in
set_option maxRecDepth 100000 in
theorem c_X9_floorOf (l : Launch) (G : xG) (n : Nat)  (S : xS) (a1 : Int32) (a2 : Int32) (r : Int32) (hf : f_X9_floorOf n S a1 a2 = some r) : xMi l G yX9_floorOf cX9_floorOf 3 (some .int) 2 47 [.ref (G.2.2 34), .int a1, .int a2] S r S := by
  refine xMi_of (own := RX9) (by decide +kernel) rfl (Nat.le_of_ble_eq_true rfl) ?_
  intro p e s m args below meth c X hr hlk H locs ls hP hS hl
  have hl : lv_has ls 3 [(0, .ref (G.2.2 34)), (1, .int a1), (2, .int a2)] := hl
  obtain ⟨hx, hb, hml, hown, hts, hE⟩ := id X
  unfold f_X9_floorOf at hf
  refine lv_iload_n hx hb dX9_floorOf_0 rfl (lv_at hl 2 rfl) ?_
  refine lv_if_ne (tgt := 13) hx hb dX9_floorOf_1 (by decide) (fun e1 => ?_) (fun e1 => ?_)
  · have hf := xif_f hf e1
    refine lv_iload_n hx hb dX9_floorOf_13 rfl (lv_at hl 2 rfl) ?_
    refine lv_iconst (v := 1) hx hb dX9_floorOf_14 (by decide) ?_
    refine lv_icmp_ne (tgt := 26) hx hb dX9_floorOf_15 (by decide) (fun e2 => ?_) (fun e2 => ?_)
    · have hf := xif_f hf e2
      refine lv_iload_n hx hb dX9_floorOf_26 rfl (lv_at hl 2 rfl) ?_
      refine lv_iconst (v := 2) hx hb dX9_floorOf_27 (by decide) ?_
      refine lv_icmp_ne (tgt := 42) hx hb dX9_floorOf_28 (by decide) (fun e3 => ?_) (fun e3 => ?_)
      · have hf := xif_f hf e3
        refine lv_iload_n hx hb dX9_floorOf_42 rfl (lv_at hl 2 rfl) ?_
        refine lv_iconst (v := 3) hx hb dX9_floorOf_43 (by decide) ?_
        refine lv_icmp_ne (tgt := 58) hx hb dX9_floorOf_44 (by decide) (fun e4 => ?_) (fun e4 => ?_)
        · have hf := xif_f hf e4
          refine lv_iload_n hx hb dX9_floorOf_58 rfl (lv_at hl 2 rfl) ?_
          refine lv_iconst (v := 4) hx hb dX9_floorOf_59 (by decide) ?_
          refine lv_icmp_ne (tgt := 72) hx hb dX9_floorOf_60 (by decide) (fun e5 => ?_) (fun e5 => ?_)
          · have hf := xif_f hf e5
            refine lv_aload_n hx hb dX9_floorOf_72 rfl (lv_at hl 0 rfl) ?_
            refine x_getR X hP fl_X9_28 (by decide) rfl rfl dX9_floorOf_73 ?_
            refine lv_iload_n hx hb dX9_floorOf_76 rfl (lv_at hl 1 rfl) ?_
            obtain ⟨g6, hf⟩ := xg_some hf
            refine x_iald X hP (by decide) rfl g6 dX9_floorOf_77 ?_
            exact x_iret X hr hlk hP hS  (Option.some.inj hf) (rfl) dX9_floorOf_78
          · have hf := xif_t hf e5
            refine lv_aload_n hx hb dX9_floorOf_63 rfl (lv_at hl 0 rfl) ?_
            refine x_getR X hP fl_X9_31 (by decide) rfl rfl dX9_floorOf_64 ?_
            refine lv_iload_n hx hb dX9_floorOf_67 rfl (lv_at hl 1 rfl) ?_
            obtain ⟨g7, hf⟩ := xg_some hf
            refine x_iald X hP (by decide) rfl g7 dX9_floorOf_68 ?_
            refine lv_goto (tgt := 78) hx hb dX9_floorOf_69 (by decide) ?_
            exact x_iret X hr hlk hP hS  (Option.some.inj hf) (rfl) dX9_floorOf_78
        · have hf := xif_t hf e4
          refine lv_aload_n hx hb dX9_floorOf_47 rfl (lv_at hl 0 rfl) ?_
          refine x_getR X hP fl_X9_25 (by decide) rfl rfl dX9_floorOf_48 ?_
          refine lv_iload_n hx hb dX9_floorOf_51 rfl (lv_at hl 1 rfl) ?_
          obtain ⟨g8, hf⟩ := xg_some hf
          refine x_iald X hP (by decide) rfl g8 dX9_floorOf_52 ?_
          refine lv_iconst (v := 3) hx hb dX9_floorOf_53 (by decide) ?_
          refine lv_irem hx hb dX9_floorOf_54 (by decide) ?_
          refine lv_goto (tgt := 78) hx hb dX9_floorOf_55 (by decide) ?_
          exact x_iret X hr hlk hP hS  (Option.some.inj hf) (rfl) dX9_floorOf_78
      · have hf := xif_t hf e3
        refine lv_aload_n hx hb dX9_floorOf_31 rfl (lv_at hl 0 rfl) ?_
        refine x_getR X hP fl_X9_25 (by decide) rfl rfl dX9_floorOf_32 ?_
        refine lv_iload_n hx hb dX9_floorOf_35 rfl (lv_at hl 1 rfl) ?_
        obtain ⟨g9, hf⟩ := xg_some hf
        refine x_iald X hP (by decide) rfl g9 dX9_floorOf_36 ?_
        refine lv_iconst (v := 3) hx hb dX9_floorOf_37 (by decide) ?_
        refine lv_idiv hx hb dX9_floorOf_38 (by decide) ?_
        refine lv_goto (tgt := 78) hx hb dX9_floorOf_39 (by decide) ?_
        exact x_iret X hr hlk hP hS  (Option.some.inj hf) (rfl) dX9_floorOf_78
    · have hf := xif_t hf e2
      refine lv_aload_n hx hb dX9_floorOf_18 rfl (lv_at hl 0 rfl) ?_
      refine lv_iload_n hx hb dX9_floorOf_19 rfl (lv_at hl 1 rfl) ?_
      obtain ⟨r10, h11, hf⟩ := xb_some hf
      refine x_cVi (As := [.int a1]) (rest := []) X hP hS kc_X9_100 (c_X9_builtOf l G n S a1 _ h11) ⟨Nat.le_of_ble_eq_true rfl, Nat.le_of_ble_eq_true rfl⟩ (by decide) rfl rfl rfl hl.1 rfl (Nat.le_of_ble_eq_true rfl) ⟨Nat.zero_le _, Nat.zero_le _⟩ dX9_floorOf_20 (fun H locs hP hS => ?_)
      refine lv_goto (tgt := 78) hx hb dX9_floorOf_23 (by decide) ?_
      exact x_iret X hr hlk hP hS  (Option.some.inj hf) (rfl) dX9_floorOf_78
  · have hf := xif_t hf e1
    refine lv_aload_n hx hb dX9_floorOf_4 rfl (lv_at hl 0 rfl) ?_
    refine x_getR X hP fl_X9_22 (by decide) rfl rfl dX9_floorOf_5 ?_
    refine lv_iload_n hx hb dX9_floorOf_8 rfl (lv_at hl 1 rfl) ?_
    obtain ⟨g12, hf⟩ := xg_some hf
    refine x_iald X hP (by decide) rfl g12 dX9_floorOf_9 ?_
    refine lv_goto (tgt := 78) hx hb dX9_floorOf_10 (by decide) ?_
    exact x_iret X hr hlk hP hS  (Option.some.inj hf) (rfl) dX9_floorOf_78
def f_X9_floor (n : Nat) (S : xS) (a1 : Int32) (a2 : Int32) : Option (Int32 × xS) :=
  (f_X9_isFloor n S a1).bind fun r1 => ((if r1.1 = 0 then some ((-100002 : Int32), r1.2) else (if (f_X9_in a2 (0 : Int32) (5 : Int32)) = 0 then some ((-100002 : Int32), r1.2) else (f_X9_floorOf n r1.2 a1 a2).bind fun r5 => (some (r5, r1.2)))))
set_option maxHeartbeats 4000000 in
set_option maxRecDepth 100000 in
theorem c_X9_floor (l : Launch) (G : xG) (n : Nat)  (S : xS) (a1 : Int32) (a2 : Int32) (r : Int32) (S' : xS) (hf : f_X9_floor n S a1 a2 = some (r, S')) : xMi l G yX9_floor cX9_floor 3 (some .int) 6 134 [.ref (G.2.2 34), .int a1, .int a2] S r S' := by
  refine xMi_of (own := RX9) (by decide +kernel) rfl (Nat.le_of_ble_eq_true rfl) ?_
  intro p e s m args below meth c X hr hlk H locs ls hP hS hl
  have hl : lv_has ls 3 [(0, .ref (G.2.2 34)), (1, .int a1), (2, .int a2)] := hl
  obtain ⟨hx, hb, hml, hown, hts, hE⟩ := id X
  unfold f_X9_floor at hf
  refine lv_aload_n hx hb dX9_floor_0 rfl (lv_at hl 0 rfl) ?_
  refine lv_iload_n hx hb dX9_floor_1 rfl (lv_at hl 1 rfl) ?_
  obtain ⟨r1, h2, hf⟩ := xb_some hf
  refine x_cVi (As := [.int a1]) (rest := []) X hP hS kc_X9_103 (c_X9_isFloor l G n S a1 r1.1 r1.2 h2) ⟨Nat.le_of_ble_eq_true rfl, Nat.le_of_ble_eq_true rfl⟩ (by decide) rfl rfl rfl hl.1 rfl (Nat.le_of_ble_eq_true rfl) ⟨Nat.zero_le _, Nat.zero_le _⟩ dX9_floor_2 (fun H locs hP hS => ?_)
  refine lv_if_eq (tgt := 26) hx hb dX9_floor_5 (by decide) (fun e3 => ?_) (fun e3 => ?_)
  · have hf := xif_t hf e3
    refine lv_ldc hx hb hown (hts _ kw_270) dX9_floor_26 ?_
    exact x_iret X hr hlk hP hS  ((Prod.mk.inj (Option.some.inj hf)).1) ((Prod.mk.inj (Option.some.inj hf)).2) dX9_floor_28
  · have hf := xif_f hf e3
    refine lv_iload_n hx hb dX9_floor_8 rfl (lv_at hl 2 rfl) ?_
    refine lv_iconst (v := 0) hx hb dX9_floor_9 (by decide) ?_
    refine lv_iconst (v := 5) hx hb dX9_floor_10 (by decide) ?_
    refine x_cSi (As := [.int a2, .int (0 : Int32), .int (5 : Int32)]) (rest := []) X hP hS kc_X9_68 (c_X9_in l G  r1.2 a2 (0 : Int32) (5 : Int32) _ rfl) ⟨Nat.le_of_ble_eq_true rfl, Nat.le_of_ble_eq_true rfl⟩ rfl hl.1 rfl (Nat.le_of_ble_eq_true rfl) ⟨Nat.zero_le _, Nat.zero_le _⟩ dX9_floor_11 (fun H locs hP hS => ?_)
    refine lv_if_eq (tgt := 26) hx hb dX9_floor_14 (by decide) (fun e4 => ?_) (fun e4 => ?_)
    · have hf := xif_t hf e4
      refine lv_ldc hx hb hown (hts _ kw_270) dX9_floor_26 ?_
      exact x_iret X hr hlk hP hS  ((Prod.mk.inj (Option.some.inj hf)).1) ((Prod.mk.inj (Option.some.inj hf)).2) dX9_floor_28
    · have hf := xif_f hf e4
      refine lv_aload_n hx hb dX9_floor_17 rfl (lv_at hl 0 rfl) ?_
      refine lv_iload_n hx hb dX9_floor_18 rfl (lv_at hl 1 rfl) ?_
      refine lv_iload_n hx hb dX9_floor_19 rfl (lv_at hl 2 rfl) ?_
      obtain ⟨r5, h6, hf⟩ := xb_some hf
      refine x_cVi (As := [.int a1, .int a2]) (rest := []) X hP hS kc_X9_107 (c_X9_floorOf l G n r1.2 a1 a2 _ h6) ⟨Nat.le_of_ble_eq_true rfl, Nat.le_of_ble_eq_true rfl⟩ (by decide) rfl rfl rfl hl.1 rfl (Nat.le_of_ble_eq_true rfl) ⟨Nat.zero_le _, Nat.zero_le _⟩ dX9_floor_20 (fun H locs hP hS => ?_)
      refine lv_goto (tgt := 28) hx hb dX9_floor_23 (by decide) ?_
      exact x_iret X hr hlk hP hS  ((Prod.mk.inj (Option.some.inj hf)).1) ((Prod.mk.inj (Option.some.inj hf)).2) dX9_floor_28
def f_X8_cut (n : Nat) (S : xS) (a1 : Int32) (a2 : Int32) (a3 : Int32) : Option Int32 :=
  (if (f_X8_within a1 (0 : Int32) (99999 : Int32)) = 0 then some (-2 : Int32) else (if (f_X8_isMaster a2) = 0 then some (-2 : Int32) else (if (f_X8_within a3 (0 : Int32) (2 : Int32)) = 0 then some (-2 : Int32) else (f_X2_toParts n S a1 a2 a3).bind fun r4 => (some r4))))
set_option maxHeartbeats 4000000 in
set_option maxRecDepth 100000 in
theorem c_X8_cut (l : Launch) (G : xG) (n : Nat)  (S : xS) (a1 : Int32) (a2 : Int32) (a3 : Int32) (r : Int32) (hf : f_X8_cut n S a1 a2 a3 = some r) : xMi l G yX8_cut cX8_cut 4 (some .int) 2 42 [.ref (G.2.2 0), .int a1, .int a2, .int a3] S r S := by
  refine xMi_of (own := RX8) (by decide +kernel) rfl (Nat.le_of_ble_eq_true rfl) ?_
  intro p e s m args below meth c X hr hlk H locs ls hP hS hl
  have hl : lv_has ls 4 [(0, .ref (G.2.2 0)), (1, .int a1), (2, .int a2), (3, .int a3)] := hl
  obtain ⟨hx, hb, hml, hown, hts, hE⟩ := id X
  unfold f_X8_cut at hf
  refine lv_iload_n hx hb dX8_cut_0 rfl (lv_at hl 1 rfl) ?_
  refine lv_iconst (v := 0) hx hb dX8_cut_1 (by decide) ?_
  refine lv_ldc hx hb hown (hts _ kw_295) dX8_cut_2 ?_
  refine x_cSi (As := [.int a1, .int (0 : Int32), .int (99999 : Int32)]) (rest := []) X hP hS kc_X8_79 (c_X8_within l G  S a1 (0 : Int32) (99999 : Int32) _ rfl) ⟨Nat.le_of_ble_eq_true rfl, Nat.le_of_ble_eq_true rfl⟩ rfl hl.1 rfl (Nat.le_of_ble_eq_true rfl) ⟨Nat.zero_le _, Nat.zero_le _⟩ dX8_cut_4 (fun H locs hP hS => ?_)
  refine lv_if_eq (tgt := 26) hx hb dX8_cut_7 (by decide) (fun e1 => ?_) (fun e1 => ?_)
  · have hf := xif_t hf e1
    refine lv_bipush (v := (-2)) hx hb dX8_cut_26 (by decide) ?_
    exact x_iret X hr hlk hP hS  (Option.some.inj hf) (rfl) dX8_cut_28
  · have hf := xif_f hf e1
    refine lv_iload_n hx hb dX8_cut_10 rfl (lv_at hl 2 rfl) ?_
    refine x_cSi (As := [.int a2]) (rest := []) X hP hS kc_X8_75 (c_X8_isMaster l G  S a2 _ rfl) ⟨Nat.le_of_ble_eq_true rfl, Nat.le_of_ble_eq_true rfl⟩ rfl hl.1 rfl (Nat.le_of_ble_eq_true rfl) ⟨Nat.zero_le _, Nat.zero_le _⟩ dX8_cut_11 (fun H locs hP hS => ?_)
    refine lv_if_eq (tgt := 26) hx hb dX8_cut_14 (by decide) (fun e2 => ?_) (fun e2 => ?_)
    · have hf := xif_t hf e2
      refine lv_bipush (v := (-2)) hx hb dX8_cut_26 (by decide) ?_
      exact x_iret X hr hlk hP hS  (Option.some.inj hf) (rfl) dX8_cut_28
    · have hf := xif_f hf e2
      refine lv_iload_n hx hb dX8_cut_17 rfl (lv_at hl 3 rfl) ?_
      refine lv_iconst (v := 0) hx hb dX8_cut_18 (by decide) ?_
      refine lv_iconst (v := 2) hx hb dX8_cut_19 (by decide) ?_
      refine x_cSi (As := [.int a3, .int (0 : Int32), .int (2 : Int32)]) (rest := []) X hP hS kc_X8_79 (c_X8_within l G  S a3 (0 : Int32) (2 : Int32) _ rfl) ⟨Nat.le_of_ble_eq_true rfl, Nat.le_of_ble_eq_true rfl⟩ rfl hl.1 rfl (Nat.le_of_ble_eq_true rfl) ⟨Nat.zero_le _, Nat.zero_le _⟩ dX8_cut_20 (fun H locs hP hS => ?_)
      refine lv_if_ne (tgt := 29) hx hb dX8_cut_23 (by decide) (fun e3 => ?_) (fun e3 => ?_)
      · have hf := xif_f hf e3
        refine lv_aload_n hx hb dX8_cut_29 rfl (lv_at hl 0 rfl) ?_
        refine x_getR X hP fl_X8_16 (by decide) rfl rfl dX8_cut_30 ?_
        refine lv_iload_n hx hb dX8_cut_33 rfl (lv_at hl 1 rfl) ?_
        refine lv_iload_n hx hb dX8_cut_34 rfl (lv_at hl 2 rfl) ?_
        refine lv_iload_n hx hb dX8_cut_35 rfl (lv_at hl 3 rfl) ?_
        obtain ⟨r4, h5, hf⟩ := xb_some hf
        refine x_cVi (As := [.int a1, .int a2, .int a3]) (rest := []) X hP hS kc_X8_128 (c_X2_toParts l G n S a1 a2 a3 _ h5) ⟨Nat.le_of_ble_eq_true rfl, Nat.le_of_ble_eq_true rfl⟩ (by decide) rfl rfl rfl hl.1 rfl (Nat.le_of_ble_eq_true rfl) ⟨Nat.zero_le _, Nat.zero_le _⟩ dX8_cut_36 (fun H locs hP hS => ?_)
        exact x_iret X hr hlk hP hS  (Option.some.inj hf) (rfl) dX8_cut_39
      · have hf := xif_t hf e3
        refine lv_bipush (v := (-2)) hx hb dX8_cut_26 (by decide) ?_
        exact x_iret X hr hlk hP hS  (Option.some.inj hf) (rfl) dX8_cut_28
def f_X9_cut (n : Nat) (S : xS) (a1 : Int32) (a2 : Int32) (a3 : Int32) : Option Int32 :=
  (if (f_X9_in a1 (0 : Int32) (99999 : Int32)) = 0 then some (-2 : Int32) else (if (f_X9_in a2 (0 : Int32) (2 : Int32)) = 0 then some (-2 : Int32) else (if (f_X9_in a3 (0 : Int32) (2 : Int32)) = 0 then some (-2 : Int32) else (f_X9_cutBy n S a1 (((3 : Int32) * a2) + a3)).bind fun r4 => (some r4))))
set_option maxHeartbeats 4000000 in
set_option maxRecDepth 100000 in
theorem c_X9_cut (l : Launch) (G : xG) (n : Nat)  (S : xS) (a1 : Int32) (a2 : Int32) (a3 : Int32) (r : Int32) (hf : f_X9_cut n S a1 a2 a3 = some r) : xMi l G yX9_cut cX9_cut 4 (some .int) 1 26 [.ref (G.2.2 34), .int a1, .int a2, .int a3] S r S := by
  refine xMi_of (own := RX9) (by decide +kernel) rfl (Nat.le_of_ble_eq_true rfl) ?_
  intro p e s m args below meth c X hr hlk H locs ls hP hS hl
  have hl : lv_has ls 4 [(0, .ref (G.2.2 34)), (1, .int a1), (2, .int a2), (3, .int a3)] := hl
  obtain ⟨hx, hb, hml, hown, hts, hE⟩ := id X
  unfold f_X9_cut at hf
  refine lv_iload_n hx hb dX9_cut_0 rfl (lv_at hl 1 rfl) ?_
  refine lv_iconst (v := 0) hx hb dX9_cut_1 (by decide) ?_
  refine lv_ldc hx hb hown (hts _ kw_301) dX9_cut_2 ?_
  refine x_cSi (As := [.int a1, .int (0 : Int32), .int (99999 : Int32)]) (rest := []) X hP hS kc_X9_68 (c_X9_in l G  S a1 (0 : Int32) (99999 : Int32) _ rfl) ⟨Nat.le_of_ble_eq_true rfl, Nat.le_of_ble_eq_true rfl⟩ rfl hl.1 rfl (Nat.le_of_ble_eq_true rfl) ⟨Nat.zero_le _, Nat.zero_le _⟩ dX9_cut_4 (fun H locs hP hS => ?_)
  refine lv_if_eq (tgt := 41) hx hb dX9_cut_7 (by decide) (fun e1 => ?_) (fun e1 => ?_)
  · have hf := xif_t hf e1
    refine lv_bipush (v := (-2)) hx hb dX9_cut_41 (by decide) ?_
    exact x_iret X hr hlk hP hS  (Option.some.inj hf) (rfl) dX9_cut_43
  · have hf := xif_f hf e1
    refine lv_iload_n hx hb dX9_cut_10 rfl (lv_at hl 2 rfl) ?_
    refine lv_iconst (v := 0) hx hb dX9_cut_11 (by decide) ?_
    refine lv_iconst (v := 2) hx hb dX9_cut_12 (by decide) ?_
    refine x_cSi (As := [.int a2, .int (0 : Int32), .int (2 : Int32)]) (rest := []) X hP hS kc_X9_68 (c_X9_in l G  S a2 (0 : Int32) (2 : Int32) _ rfl) ⟨Nat.le_of_ble_eq_true rfl, Nat.le_of_ble_eq_true rfl⟩ rfl hl.1 rfl (Nat.le_of_ble_eq_true rfl) ⟨Nat.zero_le _, Nat.zero_le _⟩ dX9_cut_13 (fun H locs hP hS => ?_)
    refine lv_if_eq (tgt := 41) hx hb dX9_cut_16 (by decide) (fun e2 => ?_) (fun e2 => ?_)
    · have hf := xif_t hf e2
      refine lv_bipush (v := (-2)) hx hb dX9_cut_41 (by decide) ?_
      exact x_iret X hr hlk hP hS  (Option.some.inj hf) (rfl) dX9_cut_43
    · have hf := xif_f hf e2
      refine lv_iload_n hx hb dX9_cut_19 rfl (lv_at hl 3 rfl) ?_
      refine lv_iconst (v := 0) hx hb dX9_cut_20 (by decide) ?_
      refine lv_iconst (v := 2) hx hb dX9_cut_21 (by decide) ?_
      refine x_cSi (As := [.int a3, .int (0 : Int32), .int (2 : Int32)]) (rest := []) X hP hS kc_X9_68 (c_X9_in l G  S a3 (0 : Int32) (2 : Int32) _ rfl) ⟨Nat.le_of_ble_eq_true rfl, Nat.le_of_ble_eq_true rfl⟩ rfl hl.1 rfl (Nat.le_of_ble_eq_true rfl) ⟨Nat.zero_le _, Nat.zero_le _⟩ dX9_cut_22 (fun H locs hP hS => ?_)
      refine lv_if_eq (tgt := 41) hx hb dX9_cut_25 (by decide) (fun e3 => ?_) (fun e3 => ?_)
      · have hf := xif_t hf e3
        refine lv_bipush (v := (-2)) hx hb dX9_cut_41 (by decide) ?_
        exact x_iret X hr hlk hP hS  (Option.some.inj hf) (rfl) dX9_cut_43
      · have hf := xif_f hf e3
        refine lv_aload_n hx hb dX9_cut_28 rfl (lv_at hl 0 rfl) ?_
        refine lv_iload_n hx hb dX9_cut_29 rfl (lv_at hl 1 rfl) ?_
        refine lv_iconst (v := 3) hx hb dX9_cut_30 (by decide) ?_
        refine lv_iload_n hx hb dX9_cut_31 rfl (lv_at hl 2 rfl) ?_
        refine lv_imul hx hb dX9_cut_32 ?_
        refine lv_iload_n hx hb dX9_cut_33 rfl (lv_at hl 3 rfl) ?_
        refine lv_iadd hx hb dX9_cut_34 ?_
        obtain ⟨r4, h5, hf⟩ := xb_some hf
        refine x_cVi (As := [.int a1, .int (((3 : Int32) * a2) + a3)]) (rest := []) X hP hS kc_X9_93 (c_X9_cutBy l G n S a1 (((3 : Int32) * a2) + a3) _ h5) ⟨Nat.le_of_ble_eq_true rfl, Nat.le_of_ble_eq_true rfl⟩ (by decide) rfl rfl rfl hl.1 rfl (Nat.le_of_ble_eq_true rfl) ⟨Nat.zero_le _, Nat.zero_le _⟩ dX9_cut_35 (fun H locs hP hS => ?_)
        refine lv_goto (tgt := 43) hx hb dX9_cut_38 (by decide) ?_
        exact x_iret X hr hlk hP hS  (Option.some.inj hf) (rfl) dX9_cut_43
def f_X8_isSpot (a0 : Int32) : Int32 :=
  f_X8_within a0 (0 : Int32) (9 : Int32)
theorem fb_X8_isSpot (a0 : Int32) : f_X8_isSpot a0 = 0 ∨ f_X8_isSpot a0 = 1 := by
  unfold f_X8_isSpot
  exact fb_X8_within a0 (0 : Int32) (9 : Int32)
set_option maxHeartbeats 4000000 in
set_option maxRecDepth 100000 in
theorem c_X8_isSpot (l : Launch) (G : xG)  (S : xS) (a0 : Int32) (r : Int32) (hf : f_X8_isSpot a0 = r) : xMi l G yX8_isSpot cX8_isSpot 1 (some .boolean) 1 22 [.int a0] S r S := by
  refine xMi_of (own := RX8) (by decide +kernel) rfl (Nat.le_of_ble_eq_true rfl) ?_
  intro p e s m args below meth c X hr hlk H locs ls hP hS hl
  have hl : lv_has ls 1 [(0, .int a0)] := hl
  obtain ⟨hx, hb, hml, hown, hts, hE⟩ := id X
  unfold f_X8_isSpot at hf
  refine lv_iload_n hx hb dX8_isSpot_0 rfl (lv_at hl 0 rfl) ?_
  refine lv_iconst (v := 0) hx hb dX8_isSpot_1 (by decide) ?_
  refine lv_bipush (v := 9) hx hb dX8_isSpot_2 (by decide) ?_
  refine x_cSi (As := [.int a0, .int (0 : Int32), .int (9 : Int32)]) (rest := []) X hP hS kc_X8_79 (c_X8_within l G  S a0 (0 : Int32) (9 : Int32) _ rfl) ⟨Nat.le_of_ble_eq_true rfl, Nat.le_of_ble_eq_true rfl⟩ rfl hl.1 rfl (Nat.le_of_ble_eq_true rfl) ⟨Nat.zero_le _, Nat.zero_le _⟩ dX8_isSpot_4 (fun H locs hP hS => ?_)
  exact x_zret X hr hlk hP hS (fb_X8_within a0 (0 : Int32) (9 : Int32)) (hf) (rfl) dX8_isSpot_7
def f_X8_shim (n : Nat) (S : xS) (a1 : Int32) (a2 : Int32) : Option (Int32 × xS) :=
  (if (f_X8_isSpot a1) = 0 then some ((-100002 : Int32), S) else (if (f_X8_within a2 (-99 : Int32) (99 : Int32)) = 0 then some ((-100002 : Int32), S) else xg (xin a1 10) (xg (xin a1 10) ((f_X7_reckon n (xst S 12 a1.toNatClampNeg a2)).bind fun r5 => (some (S.1 12 a1.toNatClampNeg, r5))))))
set_option maxHeartbeats 4000000 in
set_option maxRecDepth 100000 in
theorem c_X8_shim (l : Launch) (G : xG) (n : Nat)  (S : xS) (a1 : Int32) (a2 : Int32) (r : Int32) (S' : xS) (hf : f_X8_shim n S a1 a2 = some (r, S')) : xMi l G yX8_shim cX8_shim 4 (some .int) 2 48 [.ref (G.2.2 0), .int a1, .int a2] S r S' := by
  refine xMi_of (own := RX8) (by decide +kernel) rfl (Nat.le_of_ble_eq_true rfl) ?_
  intro p e s m args below meth c X hr hlk H locs ls hP hS hl
  have hl : lv_has ls 4 [(0, .ref (G.2.2 0)), (1, .int a1), (2, .int a2)] := hl
  obtain ⟨hx, hb, hml, hown, hts, hE⟩ := id X
  unfold f_X8_shim at hf
  refine lv_iload_n hx hb dX8_shim_0 rfl (lv_at hl 1 rfl) ?_
  refine x_cSi (As := [.int a1]) (rest := []) X hP hS kc_X8_131 (c_X8_isSpot l G  S a1 _ rfl) ⟨Nat.le_of_ble_eq_true rfl, Nat.le_of_ble_eq_true rfl⟩ rfl hl.1 rfl (Nat.le_of_ble_eq_true rfl) ⟨Nat.zero_le _, Nat.zero_le _⟩ dX8_shim_1 (fun H locs hP hS => ?_)
  refine lv_if_eq (tgt := 18) hx hb dX8_shim_4 (by decide) (fun e1 => ?_) (fun e1 => ?_)
  · have hf := xif_t hf e1
    refine lv_ldc hx hb hown (hts _ kw_258) dX8_shim_18 ?_
    exact x_iret X hr hlk hP hS  ((Prod.mk.inj (Option.some.inj hf)).1) ((Prod.mk.inj (Option.some.inj hf)).2) dX8_shim_20
  · have hf := xif_f hf e1
    refine lv_iload_n hx hb dX8_shim_7 rfl (lv_at hl 2 rfl) ?_
    refine lv_bipush (v := (-99)) hx hb dX8_shim_8 (by decide) ?_
    refine lv_bipush (v := 99) hx hb dX8_shim_10 (by decide) ?_
    refine x_cSi (As := [.int a2, .int (-99 : Int32), .int (99 : Int32)]) (rest := []) X hP hS kc_X8_79 (c_X8_within l G  S a2 (-99 : Int32) (99 : Int32) _ rfl) ⟨Nat.le_of_ble_eq_true rfl, Nat.le_of_ble_eq_true rfl⟩ rfl hl.1 rfl (Nat.le_of_ble_eq_true rfl) ⟨Nat.zero_le _, Nat.zero_le _⟩ dX8_shim_12 (fun H locs hP hS => ?_)
    refine lv_if_ne (tgt := 21) hx hb dX8_shim_15 (by decide) (fun e2 => ?_) (fun e2 => ?_)
    · have hf := xif_f hf e2
      refine lv_aload_n hx hb dX8_shim_21 rfl (lv_at hl 0 rfl) ?_
      refine x_getR X hP fl_X8_32 (by decide) rfl rfl dX8_shim_22 ?_
      refine x_getRN X hP fn_X8_124 (by decide) rfl rfl dX8_shim_25 ?_
      refine lv_iload_n hx hb dX8_shim_28 rfl (lv_at hl 1 rfl) ?_
      obtain ⟨g3, hf⟩ := xg_some hf
      refine x_iald X hP (by decide) rfl g3 dX8_shim_29 ?_
      refine lv_istore_n (lv' := [(3, .int (S.1 12 a1.toNatClampNeg)), (0, .ref (G.2.2 0)), (1, .int a1), (2, .int a2)]) hx hb dX8_shim_30 rfl hl (by decide) rfl (fun ls hl => ?_)
      refine lv_aload_n hx hb dX8_shim_31 rfl (lv_at hl 1 rfl) ?_
      refine x_getR X hP fl_X8_32 (by decide) rfl rfl dX8_shim_32 ?_
      refine x_getRN X hP fn_X8_124 (by decide) rfl rfl dX8_shim_35 ?_
      refine lv_iload_n hx hb dX8_shim_38 rfl (lv_at hl 2 rfl) ?_
      refine lv_iload_n hx hb dX8_shim_39 rfl (lv_at hl 3 rfl) ?_
      obtain ⟨g4, hf⟩ := xg_some hf
      refine x_iast X hP hS (by decide) rfl g4 dX8_shim_40 (fun H locs hP hS => ?_)
      refine lv_aload_n hx hb dX8_shim_41 rfl (lv_at hl 1 rfl) ?_
      refine x_getR X hP fl_X8_32 (by decide) rfl rfl dX8_shim_42 ?_
      obtain ⟨r5, h6, hf⟩ := xb_some hf
      refine x_cVv (As := []) (rest := []) X hP hS kc_X8_87 (c_X7_reckon l G n (xst S 12 a1.toNatClampNeg a2)  _ h6) ⟨Nat.le_of_ble_eq_true rfl, Nat.le_of_ble_eq_true rfl⟩ (by decide) rfl rfl rfl hl.1 rfl (Nat.le_of_ble_eq_true rfl) ⟨Nat.zero_le _, Nat.zero_le _⟩ dX8_shim_45 (fun H locs hP hS => ?_)
      refine lv_iload_n hx hb dX8_shim_48 rfl (lv_at hl 0 rfl) ?_
      exact x_iret X hr hlk hP hS  ((Prod.mk.inj (Option.some.inj hf)).1) ((Prod.mk.inj (Option.some.inj hf)).2) dX8_shim_49
    · have hf := xif_t hf e2
      refine lv_ldc hx hb hown (hts _ kw_258) dX8_shim_18 ?_
      exact x_iret X hr hlk hP hS  ((Prod.mk.inj (Option.some.inj hf)).1) ((Prod.mk.inj (Option.some.inj hf)).2) dX8_shim_20
def f_X9_shim (n : Nat) (S : xS) (a1 : Int32) (a2 : Int32) : Option (Int32 × xS) :=
  (if (f_X9_in a1 (0 : Int32) (9 : Int32)) = 0 then some ((-100002 : Int32), S) else (if (f_X9_in a2 (-99 : Int32) (99 : Int32)) = 0 then some ((-100002 : Int32), S) else xg (xin a1 10) (xg (xin a1 10) (some (S.1 41 a1.toNatClampNeg, xst S 41 a1.toNatClampNeg a2)))))
set_option maxHeartbeats 4000000 in
set_option maxRecDepth 100000 in
theorem c_X9_shim (l : Launch) (G : xG) (n : Nat)  (S : xS) (a1 : Int32) (a2 : Int32) (r : Int32) (S' : xS) (hf : f_X9_shim n S a1 a2 = some (r, S')) : xMi l G yX9_shim cX9_shim 4 (some .int) 1 22 [.ref (G.2.2 34), .int a1, .int a2] S r S' := by
  refine xMi_of (own := RX9) (by decide +kernel) rfl (Nat.le_of_ble_eq_true rfl) ?_
  intro p e s m args below meth c X hr hlk H locs ls hP hS hl
  have hl : lv_has ls 4 [(0, .ref (G.2.2 34)), (1, .int a1), (2, .int a2)] := hl
  obtain ⟨hx, hb, hml, hown, hts, hE⟩ := id X
  unfold f_X9_shim at hf
  refine lv_iload_n hx hb dX9_shim_0 rfl (lv_at hl 1 rfl) ?_
  refine lv_iconst (v := 0) hx hb dX9_shim_1 (by decide) ?_
  refine lv_bipush (v := 9) hx hb dX9_shim_2 (by decide) ?_
  refine x_cSi (As := [.int a1, .int (0 : Int32), .int (9 : Int32)]) (rest := []) X hP hS kc_X9_68 (c_X9_in l G  S a1 (0 : Int32) (9 : Int32) _ rfl) ⟨Nat.le_of_ble_eq_true rfl, Nat.le_of_ble_eq_true rfl⟩ rfl hl.1 rfl (Nat.le_of_ble_eq_true rfl) ⟨Nat.zero_le _, Nat.zero_le _⟩ dX9_shim_4 (fun H locs hP hS => ?_)
  refine lv_if_eq (tgt := 21) hx hb dX9_shim_7 (by decide) (fun e1 => ?_) (fun e1 => ?_)
  · have hf := xif_t hf e1
    refine lv_ldc hx hb hown (hts _ kw_270) dX9_shim_21 ?_
    exact x_iret X hr hlk hP hS  ((Prod.mk.inj (Option.some.inj hf)).1) ((Prod.mk.inj (Option.some.inj hf)).2) dX9_shim_23
  · have hf := xif_f hf e1
    refine lv_iload_n hx hb dX9_shim_10 rfl (lv_at hl 2 rfl) ?_
    refine lv_bipush (v := (-99)) hx hb dX9_shim_11 (by decide) ?_
    refine lv_bipush (v := 99) hx hb dX9_shim_13 (by decide) ?_
    refine x_cSi (As := [.int a2, .int (-99 : Int32), .int (99 : Int32)]) (rest := []) X hP hS kc_X9_68 (c_X9_in l G  S a2 (-99 : Int32) (99 : Int32) _ rfl) ⟨Nat.le_of_ble_eq_true rfl, Nat.le_of_ble_eq_true rfl⟩ rfl hl.1 rfl (Nat.le_of_ble_eq_true rfl) ⟨Nat.zero_le _, Nat.zero_le _⟩ dX9_shim_15 (fun H locs hP hS => ?_)
    refine lv_if_ne (tgt := 24) hx hb dX9_shim_18 (by decide) (fun e2 => ?_) (fun e2 => ?_)
    · have hf := xif_f hf e2
      refine lv_aload_n hx hb dX9_shim_24 rfl (lv_at hl 0 rfl) ?_
      refine x_getR X hP fl_X9_28 (by decide) rfl rfl dX9_shim_25 ?_
      refine lv_iload_n hx hb dX9_shim_28 rfl (lv_at hl 1 rfl) ?_
      obtain ⟨g3, hf⟩ := xg_some hf
      refine x_iald X hP (by decide) rfl g3 dX9_shim_29 ?_
      refine lv_istore_n (lv' := [(3, .int (S.1 41 a1.toNatClampNeg)), (0, .ref (G.2.2 34)), (1, .int a1), (2, .int a2)]) hx hb dX9_shim_30 rfl hl (by decide) rfl (fun ls hl => ?_)
      refine lv_aload_n hx hb dX9_shim_31 rfl (lv_at hl 1 rfl) ?_
      refine x_getR X hP fl_X9_28 (by decide) rfl rfl dX9_shim_32 ?_
      refine lv_iload_n hx hb dX9_shim_35 rfl (lv_at hl 2 rfl) ?_
      refine lv_iload_n hx hb dX9_shim_36 rfl (lv_at hl 3 rfl) ?_
      obtain ⟨g4, hf⟩ := xg_some hf
      refine x_iast X hP hS (by decide) rfl g4 dX9_shim_37 (fun H locs hP hS => ?_)
      refine lv_iload_n hx hb dX9_shim_38 rfl (lv_at hl 0 rfl) ?_
      exact x_iret X hr hlk hP hS  ((Prod.mk.inj (Option.some.inj hf)).1) ((Prod.mk.inj (Option.some.inj hf)).2) dX9_shim_39
    · have hf := xif_t hf e2
      refine lv_ldc hx hb hown (hts _ kw_270) dX9_shim_21 ?_
      exact x_iret X hr hlk hP hS  ((Prod.mk.inj (Option.some.inj hf)).1) ((Prod.mk.inj (Option.some.inj hf)).2) dX9_shim_23
def f_X8_set (n : Nat) (S : xS) (a1 : Int32) (a2 : Int32) : Option (Int32 × xS) :=
  (if (f_X8_within a1 (0 : Int32) (3 : Int32)) = 0 then some ((-2 : Int32), S) else xg (xin a1 4) (xg (xin a1 4) ((if (f_X8_within a2 (xLS a1.toNatClampNeg) (xMS a1.toNatClampNeg)) = 0 then some ((-2 : Int32), S) else xg (xin a1 4) (xg (xin a1 4) (some (S.1 33 a1.toNatClampNeg, xst S 33 a1.toNatClampNeg a2)))))))
set_option maxHeartbeats 4000000 in
set_option maxRecDepth 100000 in
theorem c_X8_set (l : Launch) (G : xG) (n : Nat)  (S : xS) (a1 : Int32) (a2 : Int32) (r : Int32) (S' : xS) (hf : f_X8_set n S a1 a2 = some (r, S')) : xMi l G yX8_set cX8_set 4 (some .int) 1 22 [.ref (G.2.2 0), .int a1, .int a2] S r S' := by
  refine xMi_of (own := RX8) (by decide +kernel) rfl (Nat.le_of_ble_eq_true rfl) ?_
  intro p e s m args below meth c X hr hlk H locs ls hP hS hl
  have hl : lv_has ls 4 [(0, .ref (G.2.2 0)), (1, .int a1), (2, .int a2)] := hl
  obtain ⟨hx, hb, hml, hown, hts, hE⟩ := id X
  unfold f_X8_set at hf
  refine lv_iload_n hx hb dX8_set_0 rfl (lv_at hl 1 rfl) ?_
  refine lv_iconst (v := 0) hx hb dX8_set_1 (by decide) ?_
  refine lv_iconst (v := 3) hx hb dX8_set_2 (by decide) ?_
  refine x_cSi (As := [.int a1, .int (0 : Int32), .int (3 : Int32)]) (rest := []) X hP hS kc_X8_79 (c_X8_within l G  S a1 (0 : Int32) (3 : Int32) _ rfl) ⟨Nat.le_of_ble_eq_true rfl, Nat.le_of_ble_eq_true rfl⟩ rfl hl.1 rfl (Nat.le_of_ble_eq_true rfl) ⟨Nat.zero_le _, Nat.zero_le _⟩ dX8_set_3 (fun H locs hP hS => ?_)
  refine lv_if_eq (tgt := 26) hx hb dX8_set_6 (by decide) (fun e1 => ?_) (fun e1 => ?_)
  · have hf := xif_t hf e1
    refine lv_bipush (v := (-2)) hx hb dX8_set_26 (by decide) ?_
    exact x_iret X hr hlk hP hS  ((Prod.mk.inj (Option.some.inj hf)).1) ((Prod.mk.inj (Option.some.inj hf)).2) dX8_set_28
  · have hf := xif_f hf e1
    refine lv_iload_n hx hb dX8_set_9 rfl (lv_at hl 2 rfl) ?_
    refine x_gsL X hS kw_317 dX8_set_10 ?_
    refine lv_iload_n hx hb dX8_set_13 rfl (lv_at hl 1 rfl) ?_
    obtain ⟨g2, hf⟩ := xg_some hf
    refine x_tiL X hS g2 dX8_set_14 ?_
    refine x_gsM X hS kw_318 dX8_set_15 ?_
    refine lv_iload_n hx hb dX8_set_18 rfl (lv_at hl 1 rfl) ?_
    obtain ⟨g3, hf⟩ := xg_some hf
    refine x_tiM X hS g3 dX8_set_19 ?_
    refine x_cSi (As := [.int a2, .int (xLS a1.toNatClampNeg), .int (xMS a1.toNatClampNeg)]) (rest := []) X hP hS kc_X8_79 (c_X8_within l G  S a2 (xLS a1.toNatClampNeg) (xMS a1.toNatClampNeg) _ rfl) ⟨Nat.le_of_ble_eq_true rfl, Nat.le_of_ble_eq_true rfl⟩ rfl hl.1 rfl (Nat.le_of_ble_eq_true rfl) ⟨Nat.zero_le _, Nat.zero_le _⟩ dX8_set_20 (fun H locs hP hS => ?_)
    refine lv_if_ne (tgt := 29) hx hb dX8_set_23 (by decide) (fun e4 => ?_) (fun e4 => ?_)
    · have hf := xif_f hf e4
      refine lv_aload_n hx hb dX8_set_29 rfl (lv_at hl 0 rfl) ?_
      refine x_getR X hP fl_X8_7 (by decide) rfl rfl dX8_set_30 ?_
      refine lv_iload_n hx hb dX8_set_33 rfl (lv_at hl 1 rfl) ?_
      obtain ⟨g5, hf⟩ := xg_some hf
      refine x_iald X hP (by decide) rfl g5 dX8_set_34 ?_
      refine lv_istore_n (lv' := [(3, .int (S.1 33 a1.toNatClampNeg)), (0, .ref (G.2.2 0)), (1, .int a1), (2, .int a2)]) hx hb dX8_set_35 rfl hl (by decide) rfl (fun ls hl => ?_)
      refine lv_aload_n hx hb dX8_set_36 rfl (lv_at hl 1 rfl) ?_
      refine x_getR X hP fl_X8_7 (by decide) rfl rfl dX8_set_37 ?_
      refine lv_iload_n hx hb dX8_set_40 rfl (lv_at hl 2 rfl) ?_
      refine lv_iload_n hx hb dX8_set_41 rfl (lv_at hl 3 rfl) ?_
      obtain ⟨g6, hf⟩ := xg_some hf
      refine x_iast X hP hS (by decide) rfl g6 dX8_set_42 (fun H locs hP hS => ?_)
      refine lv_iload_n hx hb dX8_set_43 rfl (lv_at hl 0 rfl) ?_
      exact x_iret X hr hlk hP hS  ((Prod.mk.inj (Option.some.inj hf)).1) ((Prod.mk.inj (Option.some.inj hf)).2) dX8_set_44
    · have hf := xif_t hf e4
      refine lv_bipush (v := (-2)) hx hb dX8_set_26 (by decide) ?_
      exact x_iret X hr hlk hP hS  ((Prod.mk.inj (Option.some.inj hf)).1) ((Prod.mk.inj (Option.some.inj hf)).2) dX8_set_28
def j_X9_set_42 (n : Nat) (S : xS) (a1 : Int32) (a2 : Int32) (s0 : Int32) (s1 : Int32) (s2 : Int32) : Option (Int32 × xS) :=
  (if (f_X9_in s2 s1 s0) = 0 then some ((-2 : Int32), S) else xg (xin a1 4) (xg (xin a1 4) (some (S.1 37 a1.toNatClampNeg, xst S 37 a1.toNatClampNeg a2))))
set_option maxHeartbeats 4000000 in
set_option maxRecDepth 100000 in
theorem t_X9_set_42 {p : Program} {l : Launch} {e : Env} {s : State} {m : MethodId} {args : Array Value} {below : List Frame} {meth : Method} {c : Code} {G : xG} (X : xC p s m args c G RX9 cX9_set 4) (hr : meth.sig.returnType = (some .int)) (hlk : meth.locks = false) {n : Nat} {r : Int32} {S' : xS} : ∀ (S : xS) (a1 : Int32) (a2 : Int32) (s0 : Int32) (s1 : Int32) (s2 : Int32), j_X9_set_42 n S a1 a2 s0 s1 s2 = some (r, S') → xGo p l e { frames := 1, cells := 0, slots := 0, locals := 22 } s m args below meth c G 4 0 0 (MQ below (xQi G r S') args s 0 0 (xA G)) S 42 [(0, .ref (G.2.2 34)), (1, .int a1), (2, .int a2)] [.int s0, .int s1, .int s2] := by
  intro S a1 a2 s0 s1 s2 hf H locs ls hP hS hl
  unfold j_X9_set_42 at hf
  obtain ⟨hx, hb, hml, hown, hts, hE⟩ := id X
  refine x_cSi (As := [.int s2, .int s1, .int s0]) (rest := []) X hP hS kc_X9_68 (c_X9_in l G  S s2 s1 s0 _ rfl) ⟨Nat.le_of_ble_eq_true rfl, Nat.le_of_ble_eq_true rfl⟩ rfl hl.1 rfl (Nat.le_of_ble_eq_true rfl) ⟨Nat.zero_le _, Nat.zero_le _⟩ dX9_set_42 (fun H locs hP hS => ?_)
  refine lv_if_ne (tgt := 51) hx hb dX9_set_45 (by decide) (fun e5 => ?_) (fun e5 => ?_)
  · have hf := xif_f hf e5
    refine lv_aload_n hx hb dX9_set_51 rfl (lv_at hl 0 rfl) ?_
    refine x_getR X hP fl_X9_16 (by decide) rfl rfl dX9_set_52 ?_
    refine lv_iload_n hx hb dX9_set_55 rfl (lv_at hl 1 rfl) ?_
    obtain ⟨g6, hf⟩ := xg_some hf
    refine x_iald X hP (by decide) rfl g6 dX9_set_56 ?_
    refine lv_istore_n (lv' := [(3, .int (S.1 37 a1.toNatClampNeg)), (0, .ref (G.2.2 34)), (1, .int a1), (2, .int a2)]) hx hb dX9_set_57 rfl hl (by decide) rfl (fun ls hl => ?_)
    refine lv_aload_n hx hb dX9_set_58 rfl (lv_at hl 1 rfl) ?_
    refine x_getR X hP fl_X9_16 (by decide) rfl rfl dX9_set_59 ?_
    refine lv_iload_n hx hb dX9_set_62 rfl (lv_at hl 2 rfl) ?_
    refine lv_iload_n hx hb dX9_set_63 rfl (lv_at hl 3 rfl) ?_
    obtain ⟨g7, hf⟩ := xg_some hf
    refine x_iast X hP hS (by decide) rfl g7 dX9_set_64 (fun H locs hP hS => ?_)
    refine lv_iload_n hx hb dX9_set_65 rfl (lv_at hl 0 rfl) ?_
    exact x_iret X hr hlk hP hS  ((Prod.mk.inj (Option.some.inj hf)).1) ((Prod.mk.inj (Option.some.inj hf)).2) dX9_set_66
  · have hf := xif_t hf e5
    refine lv_bipush (v := (-2)) hx hb dX9_set_48 (by decide) ?_
    exact x_iret X hr hlk hP hS  ((Prod.mk.inj (Option.some.inj hf)).1) ((Prod.mk.inj (Option.some.inj hf)).2) dX9_set_50
def j_X9_set_20 (n : Nat) (S : xS) (a1 : Int32) (a2 : Int32) (s0 : Int32) (s1 : Int32) : Option (Int32 × xS) :=
  (if a1 = 0 then j_X9_set_42 n S a1 a2 (99 : Int32) s0 s1 else (if a1 = (1 : Int32) then j_X9_set_42 n S a1 a2 (999 : Int32) s0 s1 else j_X9_set_42 n S a1 a2 (9 : Int32) s0 s1))
set_option maxHeartbeats 4000000 in
set_option maxRecDepth 100000 in
theorem t_X9_set_20 {p : Program} {l : Launch} {e : Env} {s : State} {m : MethodId} {args : Array Value} {below : List Frame} {meth : Method} {c : Code} {G : xG} (X : xC p s m args c G RX9 cX9_set 4) (hr : meth.sig.returnType = (some .int)) (hlk : meth.locks = false) {n : Nat} {r : Int32} {S' : xS} : ∀ (S : xS) (a1 : Int32) (a2 : Int32) (s0 : Int32) (s1 : Int32), j_X9_set_20 n S a1 a2 s0 s1 = some (r, S') → xGo p l e { frames := 1, cells := 0, slots := 0, locals := 22 } s m args below meth c G 4 0 0 (MQ below (xQi G r S') args s 0 0 (xA G)) S 20 [(0, .ref (G.2.2 34)), (1, .int a1), (2, .int a2)] [.int s0, .int s1] := by
  intro S a1 a2 s0 s1 hf H locs ls hP hS hl
  unfold j_X9_set_20 at hf
  obtain ⟨hx, hb, hml, hown, hts, hE⟩ := id X
  refine lv_iload_n hx hb dX9_set_20 rfl (lv_at hl 1 rfl) ?_
  refine lv_if_ne (tgt := 29) hx hb dX9_set_21 (by decide) (fun e3 => ?_) (fun e3 => ?_)
  · have hf := xif_f hf e3
    refine lv_iload_n hx hb dX9_set_29 rfl (lv_at hl 1 rfl) ?_
    refine lv_iconst (v := 1) hx hb dX9_set_30 (by decide) ?_
    refine lv_icmp_ne (tgt := 40) hx hb dX9_set_31 (by decide) (fun e4 => ?_) (fun e4 => ?_)
    · have hf := xif_f hf e4
      refine lv_bipush (v := 9) hx hb dX9_set_40 (by decide) ?_
      exact t_X9_set_42 X hr hlk   S a1 a2 (9 : Int32) s0 s1 hf H locs ls hP hS (lv_sub hl [0, 1, 2] rfl)
    · have hf := xif_t hf e4
      refine lv_sipush (v := 999) hx hb dX9_set_34 (by decide) ?_
      refine lv_goto (tgt := 42) hx hb dX9_set_37 (by decide) ?_
      exact t_X9_set_42 X hr hlk   S a1 a2 (999 : Int32) s0 s1 hf H locs ls hP hS (lv_sub hl [0, 1, 2] rfl)
  · have hf := xif_t hf e3
    refine lv_bipush (v := 99) hx hb dX9_set_24 (by decide) ?_
    refine lv_goto (tgt := 42) hx hb dX9_set_26 (by decide) ?_
    exact t_X9_set_42 X hr hlk   S a1 a2 (99 : Int32) s0 s1 hf H locs ls hP hS (lv_sub hl [0, 1, 2] rfl)
def f_X9_set (n : Nat) (S : xS) (a1 : Int32) (a2 : Int32) : Option (Int32 × xS) :=
  (if (f_X9_in a1 (0 : Int32) (3 : Int32)) = 0 then some ((-2 : Int32), S) else (if a1 = (1 : Int32) then j_X9_set_20 n S a1 a2 (1 : Int32) a2 else j_X9_set_20 n S a1 a2 (0 : Int32) a2))
set_option maxHeartbeats 4000000 in
set_option maxRecDepth 100000 in
theorem c_X9_set (l : Launch) (G : xG) (n : Nat)  (S : xS) (a1 : Int32) (a2 : Int32) (r : Int32) (S' : xS) (hf : f_X9_set n S a1 a2 = some (r, S')) : xMi l G yX9_set cX9_set 4 (some .int) 1 22 [.ref (G.2.2 34), .int a1, .int a2] S r S' := by
  refine xMi_of (own := RX9) (by decide +kernel) rfl (Nat.le_of_ble_eq_true rfl) ?_
  intro p e s m args below meth c X hr hlk H locs ls hP hS hl
  have hl : lv_has ls 4 [(0, .ref (G.2.2 34)), (1, .int a1), (2, .int a2)] := hl
  obtain ⟨hx, hb, hml, hown, hts, hE⟩ := id X
  unfold f_X9_set at hf
  refine lv_iload_n hx hb dX9_set_0 rfl (lv_at hl 1 rfl) ?_
  refine lv_iconst (v := 0) hx hb dX9_set_1 (by decide) ?_
  refine lv_iconst (v := 3) hx hb dX9_set_2 (by decide) ?_
  refine x_cSi (As := [.int a1, .int (0 : Int32), .int (3 : Int32)]) (rest := []) X hP hS kc_X9_68 (c_X9_in l G  S a1 (0 : Int32) (3 : Int32) _ rfl) ⟨Nat.le_of_ble_eq_true rfl, Nat.le_of_ble_eq_true rfl⟩ rfl hl.1 rfl (Nat.le_of_ble_eq_true rfl) ⟨Nat.zero_le _, Nat.zero_le _⟩ dX9_set_3 (fun H locs hP hS => ?_)
  refine lv_if_eq (tgt := 48) hx hb dX9_set_6 (by decide) (fun e1 => ?_) (fun e1 => ?_)
  · have hf := xif_t hf e1
    refine lv_bipush (v := (-2)) hx hb dX9_set_48 (by decide) ?_
    exact x_iret X hr hlk hP hS  ((Prod.mk.inj (Option.some.inj hf)).1) ((Prod.mk.inj (Option.some.inj hf)).2) dX9_set_50
  · have hf := xif_f hf e1
    refine lv_iload_n hx hb dX9_set_9 rfl (lv_at hl 2 rfl) ?_
    refine lv_iload_n hx hb dX9_set_10 rfl (lv_at hl 1 rfl) ?_
    refine lv_iconst (v := 1) hx hb dX9_set_11 (by decide) ?_
    refine lv_icmp_ne (tgt := 19) hx hb dX9_set_12 (by decide) (fun e2 => ?_) (fun e2 => ?_)
    · have hf := xif_f hf e2
      refine lv_iconst (v := 0) hx hb dX9_set_19 (by decide) ?_
      exact t_X9_set_20 X hr hlk   S a1 a2 (0 : Int32) a2 hf H locs ls hP hS (lv_sub hl [0, 1, 2] rfl)
    · have hf := xif_t hf e2
      refine lv_iconst (v := 1) hx hb dX9_set_15 (by decide) ?_
      refine lv_goto (tgt := 20) hx hb dX9_set_16 (by decide) ?_
      exact t_X9_set_20 X hr hlk   S a1 a2 (1 : Int32) a2 hf H locs ls hP hS (lv_sub hl [0, 1, 2] rfl)
def f_X8_isSill (S : xS) (a1 : Int32) : Int32 :=
  f_X8_within a1 (0 : Int32) (S.1 4 3)
theorem fb_X8_isSill (S : xS) (a1 : Int32) : f_X8_isSill S a1 = 0 ∨ f_X8_isSill S a1 = 1 := by
  unfold f_X8_isSill
  exact fb_X8_within a1 (0 : Int32) (S.1 4 3)
set_option maxHeartbeats 4000000 in
set_option maxRecDepth 100000 in
theorem c_X8_isSill (l : Launch) (G : xG)  (S : xS) (a1 : Int32) (r : Int32) (hf : f_X8_isSill S a1 = r) : xMi l G yX8_isSill cX8_isSill 2 (some .boolean) 1 22 [.ref (G.2.2 0), .int a1] S r S := by
  refine xMi_of (own := RX8) (by decide +kernel) rfl (Nat.le_of_ble_eq_true rfl) ?_
  intro p e s m args below meth c X hr hlk H locs ls hP hS hl
  have hl : lv_has ls 2 [(0, .ref (G.2.2 0)), (1, .int a1)] := hl
  obtain ⟨hx, hb, hml, hown, hts, hE⟩ := id X
  unfold f_X8_isSill at hf
  refine lv_iload_n hx hb dX8_isSill_0 rfl (lv_at hl 1 rfl) ?_
  refine lv_iconst (v := 0) hx hb dX8_isSill_1 (by decide) ?_
  refine lv_aload_n hx hb dX8_isSill_2 rfl (lv_at hl 0 rfl) ?_
  refine x_getR X hP fl_X8_23 (by decide) rfl rfl dX8_isSill_3 ?_
  refine x_getIN X hP fn_X8_152 (by decide) rfl rfl dX8_isSill_6 ?_
  refine x_cSi (As := [.int a1, .int (0 : Int32), .int (S.1 4 3)]) (rest := []) X hP hS kc_X8_79 (c_X8_within l G  S a1 (0 : Int32) (S.1 4 3) _ rfl) ⟨Nat.le_of_ble_eq_true rfl, Nat.le_of_ble_eq_true rfl⟩ rfl hl.1 rfl (Nat.le_of_ble_eq_true rfl) ⟨Nat.zero_le _, Nat.zero_le _⟩ dX8_isSill_9 (fun H locs hP hS => ?_)
  exact x_zret X hr hlk hP hS (fb_X8_within a1 (0 : Int32) (S.1 4 3)) (hf) (rfl) dX8_isSill_12
def f_X7_off (n : Nat) (S : xS) (a1 : Int32) : Option Int32 :=
  xg (xin a1 11) (xg (xin a1 11) (some ((S.1 13 a1.toNatClampNeg) - (S.1 14 a1.toNatClampNeg))))
set_option maxHeartbeats 4000000 in
set_option maxRecDepth 100000 in
theorem c_X7_off (l : Launch) (G : xG) (n : Nat)  (S : xS) (a1 : Int32) (r : Int32) (hf : f_X7_off n S a1 = some r) : xMi l G yX7_off cX7_off 2 (some .int) 0 0 [.ref (G.2.2 9), .int a1] S r S := by
  refine xMi_of (own := RX7) (by decide +kernel) rfl (Nat.le_of_ble_eq_true rfl) ?_
  intro p e s m args below meth c X hr hlk H locs ls hP hS hl
  have hl : lv_has ls 2 [(0, .ref (G.2.2 9)), (1, .int a1)] := hl
  obtain ⟨hx, hb, hml, hown, hts, hE⟩ := id X
  unfold f_X7_off at hf
  refine lv_aload_n hx hb dX7_off_0 rfl (lv_at hl 0 rfl) ?_
  refine x_getR X hP fl_X7_21 (by decide) rfl rfl dX7_off_1 ?_
  refine lv_iload_n hx hb dX7_off_4 rfl (lv_at hl 1 rfl) ?_
  obtain ⟨g1, hf⟩ := xg_some hf
  refine x_iald X hP (by decide) rfl g1 dX7_off_5 ?_
  refine lv_aload_n hx hb dX7_off_6 rfl (lv_at hl 0 rfl) ?_
  refine x_getR X hP fl_X7_24 (by decide) rfl rfl dX7_off_7 ?_
  refine lv_iload_n hx hb dX7_off_10 rfl (lv_at hl 1 rfl) ?_
  obtain ⟨g2, hf⟩ := xg_some hf
  refine x_iald X hP (by decide) rfl g2 dX7_off_11 ?_
  refine lv_isub hx hb dX7_off_12 ?_
  exact x_iret X hr hlk hP hS  (Option.some.inj hf) (rfl) dX7_off_13
def f_X8_sill (n : Nat) (S : xS) (a1 : Int32) (a2 : Int32) : Option Int32 :=
  (if (f_X8_isSill S a1) = 0 then some (-100002 : Int32) else (if a2 = 0 then xg (xin a1 11) (some (S.1 13 a1.toNatClampNeg)) else (if a2 = 1 then xg (xin a1 11) (some (S.1 14 a1.toNatClampNeg)) else (if a2 = 2 then (f_X7_off n S a1).bind fun r4 => (some r4) else some (-100002 : Int32)))))
set_option maxHeartbeats 4000000 in
set_option maxRecDepth 100000 in
theorem c_X8_sill (l : Launch) (G : xG) (n : Nat)  (S : xS) (a1 : Int32) (a2 : Int32) (r : Int32) (hf : f_X8_sill n S a1 a2 = some r) : xMi l G yX8_sill cX8_sill 3 (some .int) 2 43 [.ref (G.2.2 0), .int a1, .int a2] S r S := by
  refine xMi_of (own := RX8) (by decide +kernel) rfl (Nat.le_of_ble_eq_true rfl) ?_
  intro p e s m args below meth c X hr hlk H locs ls hP hS hl
  have hl : lv_has ls 3 [(0, .ref (G.2.2 0)), (1, .int a1), (2, .int a2)] := hl
  obtain ⟨hx, hb, hml, hown, hts, hE⟩ := id X
  unfold f_X8_sill at hf
  refine lv_aload_n hx hb dX8_sill_0 rfl (lv_at hl 0 rfl) ?_
  refine lv_iload_n hx hb dX8_sill_1 rfl (lv_at hl 1 rfl) ?_
  refine x_cVi (As := [.int a1]) (rest := []) X hP hS kc_X8_140 (c_X8_isSill l G  S a1 _ rfl) ⟨Nat.le_of_ble_eq_true rfl, Nat.le_of_ble_eq_true rfl⟩ (by decide) rfl rfl rfl hl.1 rfl (Nat.le_of_ble_eq_true rfl) ⟨Nat.zero_le _, Nat.zero_le _⟩ dX8_sill_2 (fun H locs hP hS => ?_)
  refine lv_if_ne (tgt := 11) hx hb dX8_sill_5 (by decide) (fun e1 => ?_) (fun e1 => ?_)
  · have hf := xif_f hf e1
    refine lv_iload_n hx hb dX8_sill_11 rfl (lv_at hl 2 rfl) ?_
    by_cases v0 : a2 = 0
    · have hf := xif_t hf v0
      refine lv_tableIn (tgt := 40) (off := 28) hx hb dX8_sill_12 (by rw [v0]; decide) (by rw [v0]; decide) (by rw [v0]; rfl) (by decide) ?_
      refine lv_aload_n hx hb dX8_sill_40 rfl (lv_at hl 0 rfl) ?_
      refine x_getR X hP fl_X8_32 (by decide) rfl rfl dX8_sill_41 ?_
      refine x_getRN X hP fn_X8_143 (by decide) rfl rfl dX8_sill_44 ?_
      refine lv_iload_n hx hb dX8_sill_47 rfl (lv_at hl 1 rfl) ?_
      obtain ⟨g2, hf⟩ := xg_some hf
      refine x_iald X hP (by decide) rfl g2 dX8_sill_48 ?_
      exact x_iret X hr hlk hP hS  (Option.some.inj hf) (rfl) dX8_sill_49
    · have hf := xif_f hf v0
      by_cases v1 : a2 = 1
      · have hf := xif_t hf v1
        refine lv_tableIn (tgt := 50) (off := 38) hx hb dX8_sill_12 (by rw [v1]; decide) (by rw [v1]; decide) (by rw [v1]; rfl) (by decide) ?_
        refine lv_aload_n hx hb dX8_sill_50 rfl (lv_at hl 0 rfl) ?_
        refine x_getR X hP fl_X8_32 (by decide) rfl rfl dX8_sill_51 ?_
        refine x_getRN X hP fn_X8_146 (by decide) rfl rfl dX8_sill_54 ?_
        refine lv_iload_n hx hb dX8_sill_57 rfl (lv_at hl 1 rfl) ?_
        obtain ⟨g3, hf⟩ := xg_some hf
        refine x_iald X hP (by decide) rfl g3 dX8_sill_58 ?_
        exact x_iret X hr hlk hP hS  (Option.some.inj hf) (rfl) dX8_sill_59
      · have hf := xif_f hf v1
        by_cases v2 : a2 = 2
        · have hf := xif_t hf v2
          refine lv_tableIn (tgt := 60) (off := 48) hx hb dX8_sill_12 (by rw [v2]; decide) (by rw [v2]; decide) (by rw [v2]; rfl) (by decide) ?_
          refine lv_aload_n hx hb dX8_sill_60 rfl (lv_at hl 0 rfl) ?_
          refine x_getR X hP fl_X8_32 (by decide) rfl rfl dX8_sill_61 ?_
          refine lv_iload_n hx hb dX8_sill_64 rfl (lv_at hl 1 rfl) ?_
          obtain ⟨r4, h5, hf⟩ := xb_some hf
          refine x_cVi (As := [.int a1]) (rest := []) X hP hS kc_X8_149 (c_X7_off l G n S a1 _ h5) ⟨Nat.le_of_ble_eq_true rfl, Nat.le_of_ble_eq_true rfl⟩ (by decide) rfl rfl rfl hl.1 rfl (Nat.le_of_ble_eq_true rfl) ⟨Nat.zero_le _, Nat.zero_le _⟩ dX8_sill_65 (fun H locs hP hS => ?_)
          exact x_iret X hr hlk hP hS  (Option.some.inj hf) (rfl) dX8_sill_68
        · have hf := xif_f hf v2
          refine lv_tableOut (tgt := 69) hx hb dX8_sill_12 (by have z0 := lv_neT v0 (show (0 : Int32).toInt = 0 from by decide); have z1 := lv_neT v1 (show (1 : Int32).toInt = 1 from by decide); have z2 := lv_neT v2 (show (2 : Int32).toInt = 2 from by decide); omega) (by decide) ?_
          refine lv_ldc hx hb hown (hts _ kw_258) dX8_sill_69 ?_
          exact x_iret X hr hlk hP hS  (Option.some.inj hf) (rfl) dX8_sill_71
  · have hf := xif_t hf e1
    refine lv_ldc hx hb hown (hts _ kw_258) dX8_sill_8 ?_
    exact x_iret X hr hlk hP hS  (Option.some.inj hf) (rfl) dX8_sill_10
