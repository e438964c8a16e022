def j_X3_work_109 (n : Nat) (k33 : xS → Int32 → Int32 → Int32 → Int32 → Int32 → Int32 → Int32 → Option (Int32 × xS)) (S : xS) (a2 : Int32) (a3 : Int32) (a4 : Int32) (a5 : Int32) (a7 : Int32) (a8 : Int32) (a9 : Int32) (s0 : Int32) (s1 : Int32) : Option (Int32 × xS) :=
  (f_X3_share n S a9 a7 a8 a5).bind fun r12 => (k33 r12 a2 a3 a4 a5 (s1 + s0) a8 (a8 + 1))
set_option maxHeartbeats 4000000 in
set_option maxRecDepth 100000 in
theorem t_X3_work_109 {p : Program} {l : Launch} {e : Env} {s : State} {m : MethodId} {args : Array Value} {below : List Frame} {meth : Method} {c : Code} {G : xG} (X : xC p s m args c G RX3 cX3_work 10) (hr : meth.sig.returnType = (some .int)) (hlk : meth.locks = false) {n : Nat} {r : Int32} {S' : xS} {k33 : xS → Int32 → Int32 → Int32 → Int32 → Int32 → Int32 → Int32 → Option (Int32 × xS)} (hk33 : ∀ (S : xS) (a2 : Int32) (a3 : Int32) (a4 : Int32) (a5 : Int32) (a6 : Int32) (a7 : Int32) (a8 : Int32), k33 S a2 a3 a4 a5 a6 a7 a8 = some (r, S') → xGo p l e { frames := 2, cells := 0, slots := 0, locals := 49 } s m args below meth c G 10 0 0 (MQ below (xQi G r S') args s 0 0 (xA G)) S 33 [(0, .ref (G.2.2 20)), (1, .ref (G.2.2 9)), (2, .int a2), (3, .int a3), (4, .int a4), (5, .int a5), (6, .int a6), (7, .int a7), (8, .int a8)] []) : ∀ (S : xS) (a2 : Int32) (a3 : Int32) (a4 : Int32) (a5 : Int32) (a7 : Int32) (a8 : Int32) (a9 : Int32) (s0 : Int32) (s1 : Int32), j_X3_work_109 n k33 S a2 a3 a4 a5 a7 a8 a9 s0 s1 = some (r, S') → xGo p l e { frames := 2, cells := 0, slots := 0, locals := 49 } s m args below meth c G 10 0 0 (MQ below (xQi G r S') args s 0 0 (xA G)) S 109 [(0, .ref (G.2.2 20)), (1, .ref (G.2.2 9)), (2, .int a2), (3, .int a3), (4, .int a4), (5, .int a5), (7, .int a7), (8, .int a8), (9, .int a9)] [.int s0, .int s1] := by
  intro S a2 a3 a4 a5 a7 a8 a9 s0 s1 hf H locs ls hP hS hl
  unfold j_X3_work_109 at hf
  obtain ⟨hx, hb, hml, hown, hts, hE⟩ := id X
  refine lv_iadd hx hb dX3_work_109 ?_
  refine lv_istore (lv' := [(6, .int (s1 + s0)), (0, .ref (G.2.2 20)), (1, .ref (G.2.2 9)), (2, .int a2), (3, .int a3), (4, .int a4), (5, .int a5), (7, .int a7), (8, .int a8), (9, .int a9)]) hx hb dX3_work_110 hl (by decide) rfl (fun ls hl => ?_)
  refine lv_aload_n hx hb dX3_work_112 rfl (lv_at hl 1 rfl) ?_
  refine lv_iload hx hb dX3_work_113 (lv_at hl 9 rfl) ?_
  refine lv_iload hx hb dX3_work_115 (lv_at hl 7 rfl) ?_
  refine lv_iload hx hb dX3_work_117 (lv_at hl 8 rfl) ?_
  refine lv_iload hx hb dX3_work_119 (lv_at hl 6 rfl) ?_
  obtain ⟨r12, h13, hf⟩ := xb_some hf
  refine x_cVv (As := [.int a9, .int a7, .int a8, .int a5]) (rest := []) X hP hS kc_X3_36 (c_X3_share l G n S a9 a7 a8 a5 _ h13) ⟨Nat.le_of_ble_eq_true rfl, Nat.le_of_ble_eq_true rfl⟩ (by decide) rfl rfl rfl hl.1 rfl (Nat.le_of_ble_eq_true rfl) ⟨Nat.zero_le _, Nat.zero_le _⟩ dX3_work_121 (fun H locs hP hS => ?_)
  refine lv_iload hx hb dX3_work_124 (lv_at hl 8 rfl) ?_
  refine lv_istore (lv' := [(7, .int a8), (6, .int (s1 + s0)), (0, .ref (G.2.2 20)), (1, .ref (G.2.2 9)), (2, .int a2), (3, .int a3), (4, .int a4), (5, .int a5), (8, .int a8), (9, .int a9)]) hx hb dX3_work_126 hl (by decide) rfl (fun ls hl => ?_)
  refine lv_iinc (v := a8 + 1) (lv' := [(8, .int (a8 + 1)), (7, .int a8), (6, .int (s1 + s0)), (0, .ref (G.2.2 20)), (1, .ref (G.2.2 9)), (2, .int a2), (3, .int a3), (4, .int a4), (5, .int a5), (9, .int a9)]) hx hb dX3_work_128 hl (k := 8) rfl rfl (by decide) rfl (fun ls hl => ?_)
  refine lv_goto (tgt := 33) hx hb dX3_work_131 (by decide) ?_
  exact hk33 r12 a2 a3 a4 a5 (s1 + s0) a8 (a8 + 1) hf H locs ls hP hS (lv_sub hl [3, 4, 5, 6, 7, 8, 2, 1, 0] rfl)
def b_X3_work_33 (n : Nat) (k33 : xS → Int32 → Int32 → Int32 → Int32 → Int32 → Int32 → Int32 → Option (Int32 × xS)) (S : xS) (a2 : Int32) (a3 : Int32) (a4 : Int32) (a5 : Int32) (a6 : Int32) (a7 : Int32) (a8 : Int32) : Option (Int32 × xS) :=
  (if (f_X7_floors S) < a8 then some (a6, S) else (if ((a2 >>> ((a8 - (1 : Int32)) &&& 31)) &&& (1 : Int32)) = 0 then k33 S a2 a3 a4 a5 a6 a7 (a8 + 1) else (f_X7_off n S a7).bind fun r6 => ((f_X7_off n S a8).bind fun r8 => ((if (xabs (r6 - r8)) ≤ ((99 : Int32) * (a8 - a7)) then (if (r6 - r8) ≤ 0 then j_X3_work_109 n k33 S a2 a3 a4 a5 a7 a8 (r6 - r8) ((-(r6 - r8)) * a4) a6 else j_X3_work_109 n k33 S a2 a3 a4 a5 a7 a8 (r6 - r8) ((r6 - r8) * a3) a6) else some ((-1 : Int32), S))))))
def l_X3_work_33 (n : Nat) : Nat → xS → Int32 → Int32 → Int32 → Int32 → Int32 → Int32 → Int32 → Option (Int32 × xS)
  | 0, _, _, _, _, _, _, _, _ => none
  | j + 1, S, a2, a3, a4, a5, a6, a7, a8 => b_X3_work_33 n (l_X3_work_33 n j) S a2 a3 a4 a5 a6 a7 a8
set_option maxHeartbeats 4000000 in
set_option maxRecDepth 100000 in
theorem t_X3_work_33 {p : Program} {l : Launch} {e : Env} {s : State} {m : MethodId} {args : Array Value} {below : List Frame} {meth : Method} {c : Code} {G : xG} (X : xC p s m args c G RX3 cX3_work 10) (hr : meth.sig.returnType = (some .int)) (hlk : meth.locks = false) {n : Nat} {r : Int32} {S' : xS} : ∀ (j : Nat) (S : xS) (a2 : Int32) (a3 : Int32) (a4 : Int32) (a5 : Int32) (a6 : Int32) (a7 : Int32) (a8 : Int32), l_X3_work_33 n j S a2 a3 a4 a5 a6 a7 a8 = some (r, S') → xGo p l e { frames := 2, cells := 0, slots := 0, locals := 49 } s m args below meth c G 10 0 0 (MQ below (xQi G r S') args s 0 0 (xA G)) S 33 [(0, .ref (G.2.2 20)), (1, .ref (G.2.2 9)), (2, .int a2), (3, .int a3), (4, .int a4), (5, .int a5), (6, .int a6), (7, .int a7), (8, .int a8)] [] := by
  intro j
  induction j with
  | zero => intro S a2 a3 a4 a5 a6 a7 a8 hf; exact nomatch (show (none : Option (Int32 × xS)) = _ from hf)
  | succ j ih =>
    intro S a2 a3 a4 a5 a6 a7 a8 hf H locs ls hP hS hl
    have hf : b_X3_work_33 n (l_X3_work_33 n j) S a2 a3 a4 a5 a6 a7 a8 = some (r, S') := hf
    unfold b_X3_work_33 at hf
    obtain ⟨hx, hb, hml, hown, hts, hE⟩ := id X
    refine lv_iload hx hb dX3_work_33 (lv_at hl 8 rfl) ?_
    refine lv_aload_n hx hb dX3_work_35 rfl (lv_at hl 1 rfl) ?_
    refine x_cVi (As := []) (rest := [.int a8]) X hP hS kc_X3_21 (c_X7_floors l G  S  _ rfl) ⟨Nat.le_of_ble_eq_true rfl, Nat.le_of_ble_eq_true rfl⟩ (by decide) rfl rfl rfl hl.1 rfl (Nat.le_of_ble_eq_true rfl) ⟨Nat.zero_le _, Nat.zero_le _⟩ dX3_work_36 (fun H locs hP hS => ?_)
    refine lv_icmp_gt (tgt := 134) hx hb dX3_work_39 (by decide) (fun e4 => ?_) (fun e4 => ?_)
    · have hf := xif_t hf e4
      refine lv_iload hx hb dX3_work_134 (lv_at hl 6 rfl) ?_
      exact x_iret X hr hlk hP hS  ((Prod.mk.inj (Option.some.inj hf)).1) ((Prod.mk.inj (Option.some.inj hf)).2) dX3_work_136
    · have hf := xif_f hf e4
      refine lv_iload_n hx hb dX3_work_42 rfl (lv_at hl 2 rfl) ?_
      refine lv_iload hx hb dX3_work_43 (lv_at hl 8 rfl) ?_
      refine lv_iconst (v := 1) hx hb dX3_work_45 (by decide) ?_
      refine lv_isub hx hb dX3_work_46 ?_
      refine lv_ishr hx hb dX3_work_47 ?_
      refine lv_iconst (v := 1) hx hb dX3_work_48 (by decide) ?_
      refine lv_iand hx hb dX3_work_49 ?_
      refine lv_if_ne (tgt := 56) hx hb dX3_work_50 (by decide) (fun e5 => ?_) (fun e5 => ?_)
      · have hf := xif_f hf e5
        refine lv_aload_n hx hb dX3_work_56 rfl (lv_at hl 1 rfl) ?_
        refine lv_iload hx hb dX3_work_57 (lv_at hl 7 rfl) ?_
        obtain ⟨r6, h7, hf⟩ := xb_some hf
        refine x_cVi (As := [.int a7]) (rest := []) X hP hS kc_X3_27 (c_X7_off l G n S a7 _ h7) ⟨Nat.le_of_ble_eq_true rfl, Nat.le_of_ble_eq_true rfl⟩ (by decide) rfl rfl rfl hl.1 rfl (Nat.le_of_ble_eq_true rfl) ⟨Nat.zero_le _, Nat.zero_le _⟩ dX3_work_59 (fun H locs hP hS => ?_)
        refine lv_aload_n hx hb dX3_work_62 rfl (lv_at hl 1 rfl) ?_
        refine lv_iload hx hb dX3_work_63 (lv_at hl 8 rfl) ?_
        obtain ⟨r8, h9, hf⟩ := xb_some hf
        refine x_cVi (As := [.int a8]) (rest := [.int r6]) X hP hS kc_X3_27 (c_X7_off l G n S a8 _ h9) ⟨Nat.le_of_ble_eq_true rfl, Nat.le_of_ble_eq_true rfl⟩ (by decide) rfl rfl rfl hl.1 rfl (Nat.le_of_ble_eq_true rfl) ⟨Nat.zero_le _, Nat.zero_le _⟩ dX3_work_65 (fun H locs hP hS => ?_)
        refine lv_isub hx hb dX3_work_68 ?_
        refine lv_istore (lv' := [(9, .int (r6 - r8)), (0, .ref (G.2.2 20)), (1, .ref (G.2.2 9)), (2, .int a2), (3, .int a3), (4, .int a4), (5, .int a5), (6, .int a6), (7, .int a7), (8, .int a8)]) hx hb dX3_work_69 hl (by decide) rfl (fun ls hl => ?_)
        refine lv_iload hx hb dX3_work_71 (lv_at hl 0 rfl) ?_
        refine x_mabs X kw_606 hl.1 ⟨Nat.le_of_ble_eq_true rfl, Nat.le_of_ble_eq_true rfl⟩ ⟨Nat.zero_le _, Nat.zero_le _⟩ dX3_work_73 ?_
        refine lv_bipush (v := 99) hx hb dX3_work_76 (by decide) ?_
        refine lv_iload hx hb dX3_work_78 (lv_at hl 9 rfl) ?_
        refine lv_iload hx hb dX3_work_80 (lv_at hl 8 rfl) ?_
        refine lv_isub hx hb dX3_work_82 ?_
        refine lv_imul hx hb dX3_work_83 ?_
        refine lv_icmp_le (tgt := 89) hx hb dX3_work_84 (by decide) (fun e10 => ?_) (fun e10 => ?_)
        · have hf := xif_t hf e10
          refine lv_iload hx hb dX3_work_89 (lv_at hl 7 rfl) ?_
          refine lv_iload hx hb dX3_work_91 (lv_at hl 0 rfl) ?_
          refine lv_if_le (tgt := 103) hx hb dX3_work_93 (by decide) (fun e11 => ?_) (fun e11 => ?_)
          · have hf := xif_t hf e11
            refine lv_iload hx hb dX3_work_103 (lv_at hl 0 rfl) ?_
            refine lv_ineg hx hb dX3_work_105 ?_
            refine lv_iload hx hb dX3_work_106 (lv_at hl 5 rfl) ?_
            refine lv_imul hx hb dX3_work_108 ?_
            exact t_X3_work_109 X hr hlk  ih S a2 a3 a4 a5 a7 a8 (r6 - r8) ((-(r6 - r8)) * a4) a6 hf H locs ls hP hS (lv_sub hl [1, 2, 3, 4, 5, 6, 8, 9, 0] rfl)
          · have hf := xif_f hf e11
            refine lv_iload hx hb dX3_work_96 (lv_at hl 0 rfl) ?_
            refine lv_iload_n hx hb dX3_work_98 rfl (lv_at hl 4 rfl) ?_
            refine lv_imul hx hb dX3_work_99 ?_
            refine lv_goto (tgt := 109) hx hb dX3_work_100 (by decide) ?_
            exact t_X3_work_109 X hr hlk  ih S a2 a3 a4 a5 a7 a8 (r6 - r8) ((r6 - r8) * a3) a6 hf H locs ls hP hS (lv_sub hl [1, 2, 3, 4, 5, 6, 8, 9, 0] rfl)
        · have hf := xif_f hf e10
          refine lv_iconst (v := (-1)) hx hb dX3_work_87 (by decide) ?_
          exact x_iret X hr hlk hP hS  ((Prod.mk.inj (Option.some.inj hf)).1) ((Prod.mk.inj (Option.some.inj hf)).2) dX3_work_88
      · have hf := xif_t hf e5
        refine lv_goto (tgt := 128) hx hb dX3_work_53 (by decide) ?_
        refine lv_iinc (v := a8 + 1) (lv' := [(8, .int (a8 + 1)), (0, .ref (G.2.2 20)), (1, .ref (G.2.2 9)), (2, .int a2), (3, .int a3), (4, .int a4), (5, .int a5), (6, .int a6), (7, .int a7)]) hx hb dX3_work_128 hl (k := 8) rfl rfl (by decide) rfl (fun ls hl => ?_)
        refine lv_goto (tgt := 33) hx hb dX3_work_131 (by decide) ?_
        exact ih S a2 a3 a4 a5 a6 a7 (a8 + 1) hf H locs ls hP hS (lv_sub hl [1, 2, 3, 4, 5, 6, 7, 8, 0] rfl)
def f_X3_work (n : Nat) (S : xS) (a2 : Int32) (a3 : Int32) (a4 : Int32) : Option (Int32 × xS) :=
  (f_J7_fill_53178 n 21 10 S (0 : Int32)).bind fun r1 => ((if a3 = 0 then (if a4 = 0 then l_X3_work_33 n n r1 a2 a3 a4 (1 : Int32) (0 : Int32) (0 : Int32) (1 : Int32) else l_X3_work_33 n n r1 a2 a3 a4 (0 : Int32) (0 : Int32) (0 : Int32) (1 : Int32)) else l_X3_work_33 n n r1 a2 a3 a4 (0 : Int32) (0 : Int32) (0 : Int32) (1 : Int32)))
set_option maxHeartbeats 4000000 in
set_option maxRecDepth 100000 in
theorem c_X3_work (l : Launch) (G : xG) (n : Nat)  (S : xS) (a2 : Int32) (a3 : Int32) (a4 : Int32) (r : Int32) (S' : xS) (hf : f_X3_work n S a2 a3 a4 = some (r, S')) : xMi l G yX3_work cX3_work 10 (some .int) 2 49 [.ref (G.2.2 20), .ref (G.2.2 9), .int a2, .int a3, .int a4] S r S' := by
  refine xMi_of (own := RX3) (by decide +kernel) rfl (Nat.le_of_ble_eq_true rfl) ?_
  intro p e s m args below meth c X hr hlk H locs ls hP hS hl
  have hl : lv_has ls 10 [(0, .ref (G.2.2 20)), (1, .ref (G.2.2 9)), (2, .int a2), (3, .int a3), (4, .int a4)] := hl
  obtain ⟨hx, hb, hml, hown, hts, hE⟩ := id X
  unfold f_X3_work at hf
  refine lv_aload_n hx hb dX3_work_0 rfl (lv_at hl 0 rfl) ?_
  refine x_getR X hP fl_X3_9 (by decide) rfl rfl dX3_work_1 ?_
  refine lv_iconst (v := 0) hx hb dX3_work_4 (by decide) ?_
  obtain ⟨r1, h2, hf⟩ := xb_some hf
  refine x_cSv (As := [.ref (G.2.2 21), .int (0 : Int32)]) (rest := []) X hP hS kc_X3_15 (c_J7_fill_53178 l G n 21 10 (by decide) rfl S (0 : Int32) _ h2) ⟨Nat.le_of_ble_eq_true rfl, Nat.le_of_ble_eq_true rfl⟩ rfl hl.1 rfl (Nat.le_of_ble_eq_true rfl) ⟨Nat.zero_le _, Nat.zero_le _⟩ dX3_work_5 (fun H locs hP hS => ?_)
  refine lv_iload_n hx hb dX3_work_8 rfl (lv_at hl 3 rfl) ?_
  refine lv_if_ne (tgt := 21) hx hb dX3_work_9 (by decide) (fun e3 => ?_) (fun e3 => ?_)
  · have hf := xif_f hf e3
    refine lv_iconst (v := 0) hx hb dX3_work_21 (by decide) ?_
    refine lv_istore (lv' := [(5, .int (0 : Int32)), (0, .ref (G.2.2 20)), (1, .ref (G.2.2 9)), (2, .int a2), (3, .int a3), (4, .int a4)]) hx hb dX3_work_22 hl (by decide) rfl (fun ls hl => ?_)
    refine lv_iconst (v := 0) hx hb dX3_work_24 (by decide) ?_
    refine lv_istore (lv' := [(6, .int (0 : Int32)), (5, .int (0 : Int32)), (0, .ref (G.2.2 20)), (1, .ref (G.2.2 9)), (2, .int a2), (3, .int a3), (4, .int a4)]) hx hb dX3_work_25 hl (by decide) rfl (fun ls hl => ?_)
    refine lv_iconst (v := 0) hx hb dX3_work_27 (by decide) ?_
    refine lv_istore (lv' := [(7, .int (0 : Int32)), (6, .int (0 : Int32)), (5, .int (0 : Int32)), (0, .ref (G.2.2 20)), (1, .ref (G.2.2 9)), (2, .int a2), (3, .int a3), (4, .int a4)]) hx hb dX3_work_28 hl (by decide) rfl (fun ls hl => ?_)
    refine lv_iconst (v := 1) hx hb dX3_work_30 (by decide) ?_
    refine lv_istore (lv' := [(8, .int (1 : Int32)), (7, .int (0 : Int32)), (6, .int (0 : Int32)), (5, .int (0 : Int32)), (0, .ref (G.2.2 20)), (1, .ref (G.2.2 9)), (2, .int a2), (3, .int a3), (4, .int a4)]) hx hb dX3_work_31 hl (by decide) rfl (fun ls hl => ?_)
    exact t_X3_work_33 X hr hlk   n r1 a2 a3 a4 (0 : Int32) (0 : Int32) (0 : Int32) (1 : Int32) hf H locs ls hP hS (lv_sub hl [4, 5, 6, 7, 8, 3, 2, 1, 0] rfl)
  · have hf := xif_t hf e3
    refine lv_iload hx hb dX3_work_12 (lv_at hl 4 rfl) ?_
    refine lv_if_ne (tgt := 21) hx hb dX3_work_14 (by decide) (fun e14 => ?_) (fun e14 => ?_)
    · have hf := xif_f hf e14
      refine lv_iconst (v := 0) hx hb dX3_work_21 (by decide) ?_
      refine lv_istore (lv' := [(5, .int (0 : Int32)), (0, .ref (G.2.2 20)), (1, .ref (G.2.2 9)), (2, .int a2), (3, .int a3), (4, .int a4)]) hx hb dX3_work_22 hl (by decide) rfl (fun ls hl => ?_)
      refine lv_iconst (v := 0) hx hb dX3_work_24 (by decide) ?_
      refine lv_istore (lv' := [(6, .int (0 : Int32)), (5, .int (0 : Int32)), (0, .ref (G.2.2 20)), (1, .ref (G.2.2 9)), (2, .int a2), (3, .int a3), (4, .int a4)]) hx hb dX3_work_25 hl (by decide) rfl (fun ls hl => ?_)
      refine lv_iconst (v := 0) hx hb dX3_work_27 (by decide) ?_
      refine lv_istore (lv' := [(7, .int (0 : Int32)), (6, .int (0 : Int32)), (5, .int (0 : Int32)), (0, .ref (G.2.2 20)), (1, .ref (G.2.2 9)), (2, .int a2), (3, .int a3), (4, .int a4)]) hx hb dX3_work_28 hl (by decide) rfl (fun ls hl => ?_)
      refine lv_iconst (v := 1) hx hb dX3_work_30 (by decide) ?_
      refine lv_istore (lv' := [(8, .int (1 : Int32)), (7, .int (0 : Int32)), (6, .int (0 : Int32)), (5, .int (0 : Int32)), (0, .ref (G.2.2 20)), (1, .ref (G.2.2 9)), (2, .int a2), (3, .int a3), (4, .int a4)]) hx hb dX3_work_31 hl (by decide) rfl (fun ls hl => ?_)
      exact t_X3_work_33 X hr hlk   n r1 a2 a3 a4 (0 : Int32) (0 : Int32) (0 : Int32) (1 : Int32) hf H locs ls hP hS (lv_sub hl [4, 5, 6, 7, 8, 3, 2, 1, 0] rfl)
    · have hf := xif_t hf e14
      refine lv_iconst (v := 1) hx hb dX3_work_17 (by decide) ?_
      refine lv_goto (tgt := 22) hx hb dX3_work_18 (by decide) ?_
      refine lv_istore (lv' := [(5, .int (1 : Int32)), (0, .ref (G.2.2 20)), (1, .ref (G.2.2 9)), (2, .int a2), (3, .int a3), (4, .int a4)]) hx hb dX3_work_22 hl (by decide) rfl (fun ls hl => ?_)
      refine lv_iconst (v := 0) hx hb dX3_work_24 (by decide) ?_
      refine lv_istore (lv' := [(6, .int (0 : Int32)), (5, .int (1 : Int32)), (0, .ref (G.2.2 20)), (1, .ref (G.2.2 9)), (2, .int a2), (3, .int a3), (4, .int a4)]) hx hb dX3_work_25 hl (by decide) rfl (fun ls hl => ?_)
      refine lv_iconst (v := 0) hx hb dX3_work_27 (by decide) ?_
      refine lv_istore (lv' := [(7, .int (0 : Int32)), (6, .int (0 : Int32)), (5, .int (1 : Int32)), (0, .ref (G.2.2 20)), (1, .ref (G.2.2 9)), (2, .int a2), (3, .int a3), (4, .int a4)]) hx hb dX3_work_28 hl (by decide) rfl (fun ls hl => ?_)
      refine lv_iconst (v := 1) hx hb dX3_work_30 (by decide) ?_
      refine lv_istore (lv' := [(8, .int (1 : Int32)), (7, .int (0 : Int32)), (6, .int (0 : Int32)), (5, .int (1 : Int32)), (0, .ref (G.2.2 20)), (1, .ref (G.2.2 9)), (2, .int a2), (3, .int a3), (4, .int a4)]) hx hb dX3_work_31 hl (by decide) rfl (fun ls hl => ?_)
      exact t_X3_work_33 X hr hlk   n r1 a2 a3 a4 (1 : Int32) (0 : Int32) (0 : Int32) (1 : Int32) hf H locs ls hP hS (lv_sub hl [4, 5, 6, 7, 8, 3, 2, 1, 0] rfl)
def j_X8_mended_27 (n : Nat) (S : xS) (a1 : Int32) (a2 : Int32) : Option (Int32 × xS) :=
  (f_X3_work n S a1 (S.1 33 (2 : Int32).toNatClampNeg) (S.1 33 (3 : Int32).toNatClampNeg)).bind fun r3 => ((if a2 = (-1 : Int32) then some (r3.1, r3.2) else (if r3.1 = (-1 : Int32) then some ((-100003 : Int32), r3.2) else xg (xin a2 10) (some (r3.2.1 21 a2.toNatClampNeg, r3.2)))))
set_option maxHeartbeats 4000000 in
set_option maxRecDepth 100000 in
theorem t_X8_mended_27 {p : Program} {l : Launch} {e : Env} {s : State} {m : MethodId} {args : Array Value} {below : List Frame} {meth : Method} {c : Code} {G : xG} (X : xC p s m args c G RX8 cX8_mended 4) (hr : meth.sig.returnType = (some .int)) (hlk : meth.locks = false) {n : Nat} {r : Int32} {S' : xS} : ∀ (S : xS) (a1 : Int32) (a2 : Int32), j_X8_mended_27 n S a1 a2 = some (r, S') → xGo p l e { frames := 3, cells := 0, slots := 0, locals := 78 } s m args below meth c G 4 0 0 (MQ below (xQi G r S') args s 0 0 (xA G)) S 27 [(0, .ref (G.2.2 0)), (1, .int a1), (2, .int a2)] [] := by
  intro S a1 a2 hf H locs ls hP hS hl
  unfold j_X8_mended_27 at hf
  obtain ⟨hx, hb, hml, hown, hts, hE⟩ := id X
  refine lv_aload_n hx hb dX8_mended_27 rfl (lv_at hl 0 rfl) ?_
  refine x_getR X hP fl_X8_55 (by decide) rfl rfl dX8_mended_28 ?_
  refine lv_aload_n hx hb dX8_mended_31 rfl (lv_at hl 0 rfl) ?_
  refine x_getR X hP fl_X8_32 (by decide) rfl rfl dX8_mended_32 ?_
  refine lv_iload_n hx hb dX8_mended_35 rfl (lv_at hl 1 rfl) ?_
  refine lv_aload_n hx hb dX8_mended_36 rfl (lv_at hl 0 rfl) ?_
  refine x_getR X hP fl_X8_7 (by decide) rfl rfl dX8_mended_37 ?_
  refine lv_iconst (v := 2) hx hb dX8_mended_40 (by decide) ?_
  refine x_iald X hP (by decide) rfl (by decide) dX8_mended_41 ?_
  refine lv_aload_n hx hb dX8_mended_42 rfl (lv_at hl 0 rfl) ?_
  refine x_getR X hP fl_X8_7 (by decide) rfl rfl dX8_mended_43 ?_
  refine lv_iconst (v := 3) hx hb dX8_mended_46 (by decide) ?_
  refine x_iald X hP (by decide) rfl (by decide) dX8_mended_47 ?_
  obtain ⟨r3, h4, hf⟩ := xb_some hf
  refine x_cVi (As := [.ref (G.2.2 9), .int a1, .int (S.1 33 (2 : Int32).toNatClampNeg), .int (S.1 33 (3 : Int32).toNatClampNeg)]) (rest := []) X hP hS kc_X8_217 (c_X3_work l G n S a1 (S.1 33 (2 : Int32).toNatClampNeg) (S.1 33 (3 : Int32).toNatClampNeg) r3.1 r3.2 h4) ⟨Nat.le_of_ble_eq_true rfl, Nat.le_of_ble_eq_true rfl⟩ (by decide) rfl rfl rfl hl.1 rfl (Nat.le_of_ble_eq_true rfl) ⟨Nat.zero_le _, Nat.zero_le _⟩ dX8_mended_48 (fun H locs hP hS => ?_)
  refine lv_istore_n (lv' := [(3, .int r3.1), (0, .ref (G.2.2 0)), (1, .int a1), (2, .int a2)]) hx hb dX8_mended_51 rfl hl (by decide) rfl (fun ls hl => ?_)
  refine lv_iload_n hx hb dX8_mended_52 rfl (lv_at hl 3 rfl) ?_
  refine lv_iconst (v := (-1)) hx hb dX8_mended_53 (by decide) ?_
  refine lv_icmp_ne (tgt := 59) hx hb dX8_mended_54 (by decide) (fun e5 => ?_) (fun e5 => ?_)
  · have hf := xif_f hf e5
    refine lv_iload_n hx hb dX8_mended_59 rfl (lv_at hl 0 rfl) ?_
    refine lv_iconst (v := (-1)) hx hb dX8_mended_60 (by decide) ?_
    refine lv_icmp_ne (tgt := 69) hx hb dX8_mended_61 (by decide) (fun e6 => ?_) (fun e6 => ?_)
    · have hf := xif_f hf e6
      refine lv_aload_n hx hb dX8_mended_69 rfl (lv_at hl 1 rfl) ?_
      refine x_getR X hP fl_X8_55 (by decide) rfl rfl dX8_mended_70 ?_
      refine x_getRN X hP fn_X8_222 (by decide) rfl rfl dX8_mended_73 ?_
      refine lv_iload_n hx hb dX8_mended_76 rfl (lv_at hl 3 rfl) ?_
      obtain ⟨g7, hf⟩ := xg_some hf
      refine x_iald X hP (by decide) rfl g7 dX8_mended_77 ?_
      exact x_iret X hr hlk hP hS  ((Prod.mk.inj (Option.some.inj hf)).1) ((Prod.mk.inj (Option.some.inj hf)).2) dX8_mended_78
    · have hf := xif_t hf e6
      refine lv_ldc hx hb hown (hts _ kw_601) dX8_mended_64 ?_
      refine lv_goto (tgt := 78) hx hb dX8_mended_66 (by decide) ?_
      exact x_iret X hr hlk hP hS  ((Prod.mk.inj (Option.some.inj hf)).1) ((Prod.mk.inj (Option.some.inj hf)).2) dX8_mended_78
  · have hf := xif_t hf e5
    refine lv_iload_n hx hb dX8_mended_57 rfl (lv_at hl 0 rfl) ?_
    exact x_iret X hr hlk hP hS  ((Prod.mk.inj (Option.some.inj hf)).1) ((Prod.mk.inj (Option.some.inj hf)).2) dX8_mended_58
def f_X8_mended (n : Nat) (S : xS) (a1 : Int32) (a2 : Int32) : Option (Int32 × xS) :=
  (if (f_X8_within a1 (0 : Int32) (1023 : Int32)) = 0 then some ((-100002 : Int32), S) else (if a2 = (-1 : Int32) then j_X8_mended_27 n S a1 a2 else (if (f_X8_isFloor S a2) = 0 then some ((-100002 : Int32), S) else j_X8_mended_27 n S a1 a2)))
set_option maxHeartbeats 4000000 in
set_option maxRecDepth 100000 in
theorem c_X8_mended (l : Launch) (G : xG) (n : Nat)  (S : xS) (a1 : Int32) (a2 : Int32) (r : Int32) (S' : xS) (hf : f_X8_mended n S a1 a2 = some (r, S')) : xMi l G yX8_mended cX8_mended 4 (some .int) 3 78 [.ref (G.2.2 0), .int a1, .int a2] S r S' := by
  refine xMi_of (own := RX8) (by decide +kernel) rfl (Nat.le_of_ble_eq_true rfl) ?_
  intro p e s m args below meth c X hr hlk H locs ls hP hS hl
  have hl : lv_has ls 4 [(0, .ref (G.2.2 0)), (1, .int a1), (2, .int a2)] := hl
  obtain ⟨hx, hb, hml, hown, hts, hE⟩ := id X
  unfold f_X8_mended at hf
  refine lv_iload_n hx hb dX8_mended_0 rfl (lv_at hl 1 rfl) ?_
  refine lv_iconst (v := 0) hx hb dX8_mended_1 (by decide) ?_
  refine lv_sipush (v := 1023) hx hb dX8_mended_2 (by decide) ?_
  refine x_cSi (As := [.int a1, .int (0 : Int32), .int (1023 : Int32)]) (rest := []) X hP hS kc_X8_79 (c_X8_within l G  S a1 (0 : Int32) (1023 : Int32) _ rfl) ⟨Nat.le_of_ble_eq_true rfl, Nat.le_of_ble_eq_true rfl⟩ rfl hl.1 rfl (Nat.le_of_ble_eq_true rfl) ⟨Nat.zero_le _, Nat.zero_le _⟩ dX8_mended_5 (fun H locs hP hS => ?_)
  refine lv_if_eq (tgt := 24) hx hb dX8_mended_8 (by decide) (fun e1 => ?_) (fun e1 => ?_)
  · have hf := xif_t hf e1
    refine lv_ldc hx hb hown (hts _ kw_258) dX8_mended_24 ?_
    exact x_iret X hr hlk hP hS  ((Prod.mk.inj (Option.some.inj hf)).1) ((Prod.mk.inj (Option.some.inj hf)).2) dX8_mended_26
  · have hf := xif_f hf e1
    refine lv_iload_n hx hb dX8_mended_11 rfl (lv_at hl 2 rfl) ?_
    refine lv_iconst (v := (-1)) hx hb dX8_mended_12 (by decide) ?_
    refine lv_icmp_eq (tgt := 27) hx hb dX8_mended_13 (by decide) (fun e2 => ?_) (fun e2 => ?_)
    · have hf := xif_t hf e2
      exact t_X8_mended_27 X hr hlk   S a1 a2 hf H locs ls hP hS (lv_sub hl [0, 1, 2] rfl)
    · have hf := xif_f hf e2
      refine lv_aload_n hx hb dX8_mended_16 rfl (lv_at hl 0 rfl) ?_
      refine lv_iload_n hx hb dX8_mended_17 rfl (lv_at hl 2 rfl) ?_
      refine x_cVi (As := [.int a2]) (rest := []) X hP hS kc_X8_104 (c_X8_isFloor l G  S a2 _ rfl) ⟨Nat.le_of_ble_eq_true rfl, Nat.le_of_ble_eq_true rfl⟩ (by decide) rfl rfl rfl hl.1 rfl (Nat.le_of_ble_eq_true rfl) ⟨Nat.zero_le _, Nat.zero_le _⟩ dX8_mended_18 (fun H locs hP hS => ?_)
      refine lv_if_ne (tgt := 27) hx hb dX8_mended_21 (by decide) (fun e8 => ?_) (fun e8 => ?_)
      · have hf := xif_f hf e8
        exact t_X8_mended_27 X hr hlk   S a1 a2 hf H locs ls hP hS (lv_sub hl [0, 1, 2] rfl)
      · have hf := xif_t hf e8
        refine lv_ldc hx hb hown (hts _ kw_258) dX8_mended_24 ?_
        exact x_iret X hr hlk hP hS  ((Prod.mk.inj (Option.some.inj hf)).1) ((Prod.mk.inj (Option.some.inj hf)).2) dX8_mended_26
def b_X9_mends_161 (n : Nat) (k37 : xS → Int32 → Int32 → Int32 → Int32 → Int32 → Int32 → Option (Int32 × xS)) (k161 : xS → Int32 → Int32 → Int32 → Int32 → Int32 → Int32 → Int32 → Int32 → Int32 → Int32 → Option (Int32 × xS)) (S : xS) (a1 : Int32) (a2 : Int32) (a3 : Int32) (a5 : Int32) (a6 : Int32) (a7 : Int32) (a9 : Int32) (a10 : Int32) (a11 : Int32) (a12 : Int32) : Option (Int32 × xS) :=
  (if a6 ≤ a12 then (if 0 ≤ a7 then k37 S a1 a2 (a3 + (a7 * (S.1 37 (2 : Int32).toNatClampNeg))) a6 (a5 + a7) (a6 + 1) else k37 S a1 a2 (a3 + ((-a7) * (S.1 37 (3 : Int32).toNatClampNeg))) a6 (a5 + a7) (a6 + 1)) else (if a9 ≤ (a11 - (a10 * ((a6 - a12) - (1 : Int32)))) then xg (xin a12 10) (xg (xin a12 10) (k161 (xst S 47 a12.toNatClampNeg (a11 - (a10 * ((a6 - a12) - (1 : Int32))))) a1 a2 a3 a5 a6 a7 a9 a10 (a11 - ((xst S 47 a12.toNatClampNeg (a11 - (a10 * ((a6 - a12) - (1 : Int32))))).1 47 a12.toNatClampNeg)) (a12 + 1))) else xg (xin a12 10) (xg (xin a12 10) (k161 (xst S 47 a12.toNatClampNeg a9) a1 a2 a3 a5 a6 a7 a9 a10 (a11 - ((xst S 47 a12.toNatClampNeg a9).1 47 a12.toNatClampNeg)) (a12 + 1)))))
def l_X9_mends_161 (n : Nat) (k37 : xS → Int32 → Int32 → Int32 → Int32 → Int32 → Int32 → Option (Int32 × xS)) : Nat → xS → Int32 → Int32 → Int32 → Int32 → Int32 → Int32 → Int32 → Int32 → Int32 → Int32 → Option (Int32 × xS)
  | 0, _, _, _, _, _, _, _, _, _, _, _ => none
  | j + 1, S, a1, a2, a3, a5, a6, a7, a9, a10, a11, a12 => b_X9_mends_161 n k37 (l_X9_mends_161 n k37 j) S a1 a2 a3 a5 a6 a7 a9 a10 a11 a12
set_option maxHeartbeats 4000000 in
set_option maxRecDepth 100000 in
theorem t_X9_mends_161 {p : Program} {l : Launch} {e : Env} {s : State} {m : MethodId} {args : Array Value} {below : List Frame} {meth : Method} {c : Code} {G : xG} (X : xC p s m args c G RX9 cX9_mends 14) (hr : meth.sig.returnType = (some .int)) (hlk : meth.locks = false) {n : Nat} {r : Int32} {S' : xS} {k37 : xS → Int32 → Int32 → Int32 → Int32 → Int32 → Int32 → Option (Int32 × xS)} (hk37 : ∀ (S : xS) (a1 : Int32) (a2 : Int32) (a3 : Int32) (a4 : Int32) (a5 : Int32) (a6 : Int32), k37 S a1 a2 a3 a4 a5 a6 = some (r, S') → xGo p l e { frames := 5, cells := 0, slots := 0, locals := 113 } s m args below meth c G 14 0 0 (MQ below (xQi G r S') args s 0 0 (xA G)) S 37 [(0, .ref (G.2.2 34)), (1, .int a1), (2, .int a2), (3, .int a3), (4, .int a4), (5, .int a5), (6, .int a6)] []) : ∀ (j : Nat) (S : xS) (a1 : Int32) (a2 : Int32) (a3 : Int32) (a5 : Int32) (a6 : Int32) (a7 : Int32) (a9 : Int32) (a10 : Int32) (a11 : Int32) (a12 : Int32), l_X9_mends_161 n k37 j S a1 a2 a3 a5 a6 a7 a9 a10 a11 a12 = some (r, S') → xGo p l e { frames := 5, cells := 0, slots := 0, locals := 113 } s m args below meth c G 14 0 0 (MQ below (xQi G r S') args s 0 0 (xA G)) S 161 [(0, .ref (G.2.2 34)), (1, .int a1), (2, .int a2), (3, .int a3), (5, .int a5), (6, .int a6), (7, .int a7), (9, .int a9), (10, .int a10), (11, .int a11), (12, .int a12)] [] := by
  intro j
  induction j with
  | zero => intro S a1 a2 a3 a5 a6 a7 a9 a10 a11 a12 hf; exact nomatch (show (none : Option (Int32 × xS)) = _ from hf)
  | succ j ih =>
    intro S a1 a2 a3 a5 a6 a7 a9 a10 a11 a12 hf H locs ls hP hS hl
    have hf : b_X9_mends_161 n k37 (l_X9_mends_161 n k37 j) S a1 a2 a3 a5 a6 a7 a9 a10 a11 a12 = some (r, S') := hf
    unfold b_X9_mends_161 at hf
    obtain ⟨hx, hb, hml, hown, hts, hE⟩ := id X
    refine lv_iload hx hb dX9_mends_161 (lv_at hl 10 rfl) ?_
    refine lv_iload hx hb dX9_mends_163 (lv_at hl 5 rfl) ?_
    refine lv_icmp_ge (tgt := 222) hx hb dX9_mends_165 (by decide) (fun e12 => ?_) (fun e12 => ?_)
    · have hf := xif_t hf e12
      refine lv_iload_n hx hb dX9_mends_222 rfl (lv_at hl 3 rfl) ?_
      refine lv_iload hx hb dX9_mends_223 (lv_at hl 6 rfl) ?_
      refine lv_if_ge (tgt := 241) hx hb dX9_mends_225 (by decide) (fun e13 => ?_) (fun e13 => ?_)
      · have hf := xif_t hf e13
        refine lv_iload hx hb dX9_mends_241 (lv_at hl 6 rfl) ?_
        refine lv_aload_n hx hb dX9_mends_243 rfl (lv_at hl 0 rfl) ?_
        refine x_getR X hP fl_X9_16 (by decide) rfl rfl dX9_mends_244 ?_
        refine lv_iconst (v := 2) hx hb dX9_mends_247 (by decide) ?_
        refine x_iald X hP (by decide) rfl (by decide) dX9_mends_248 ?_
        refine lv_imul hx hb dX9_mends_249 ?_
        refine lv_iadd hx hb dX9_mends_250 ?_
        refine lv_istore_n (lv' := [(3, .int (a3 + (a7 * (S.1 37 (2 : Int32).toNatClampNeg)))), (0, .ref (G.2.2 34)), (1, .int a1), (2, .int a2), (5, .int a5), (6, .int a6), (7, .int a7), (9, .int a9), (10, .int a10), (11, .int a11), (12, .int a12)]) hx hb dX9_mends_251 rfl hl (by decide) rfl (fun ls hl => ?_)
        refine lv_iload hx hb dX9_mends_252 (lv_at hl 4 rfl) ?_
        refine lv_iload hx hb dX9_mends_254 (lv_at hl 6 rfl) ?_
        refine lv_iadd hx hb dX9_mends_256 ?_
        refine lv_istore (lv' := [(5, .int (a5 + a7)), (3, .int (a3 + (a7 * (S.1 37 (2 : Int32).toNatClampNeg)))), (0, .ref (G.2.2 34)), (1, .int a1), (2, .int a2), (6, .int a6), (7, .int a7), (9, .int a9), (10, .int a10), (11, .int a11), (12, .int a12)]) hx hb dX9_mends_257 hl (by decide) rfl (fun ls hl => ?_)
        refine lv_iload hx hb dX9_mends_259 (lv_at hl 5 rfl) ?_
        refine lv_istore (lv' := [(4, .int a6), (5, .int (a5 + a7)), (3, .int (a3 + (a7 * (S.1 37 (2 : Int32).toNatClampNeg)))), (0, .ref (G.2.2 34)), (1, .int a1), (2, .int a2), (6, .int a6), (7, .int a7), (9, .int a9), (10, .int a10), (11, .int a11), (12, .int a12)]) hx hb dX9_mends_261 hl (by decide) rfl (fun ls hl => ?_)
        refine lv_iinc (v := a6 + 1) (lv' := [(6, .int (a6 + 1)), (4, .int a6), (5, .int (a5 + a7)), (3, .int (a3 + (a7 * (S.1 37 (2 : Int32).toNatClampNeg)))), (0, .ref (G.2.2 34)), (1, .int a1), (2, .int a2), (7, .int a7), (9, .int a9), (10, .int a10), (11, .int a11), (12, .int a12)]) hx hb dX9_mends_263 hl (k := 6) rfl rfl (by decide) rfl (fun ls hl => ?_)
        refine lv_goto (tgt := 37) hx hb dX9_mends_266 (by decide) ?_
        exact hk37 S a1 a2 (a3 + (a7 * (S.1 37 (2 : Int32).toNatClampNeg))) a6 (a5 + a7) (a6 + 1) hf H locs ls hP hS (lv_sub hl [4, 5, 6, 3, 1, 2, 0] rfl)
      · have hf := xif_f hf e13
        refine lv_iload hx hb dX9_mends_228 (lv_at hl 6 rfl) ?_
        refine lv_ineg hx hb dX9_mends_230 ?_
        refine lv_aload_n hx hb dX9_mends_231 rfl (lv_at hl 0 rfl) ?_
        refine x_getR X hP fl_X9_16 (by decide) rfl rfl dX9_mends_232 ?_
        refine lv_iconst (v := 3) hx hb dX9_mends_235 (by decide) ?_
        refine x_iald X hP (by decide) rfl (by decide) dX9_mends_236 ?_
        refine lv_imul hx hb dX9_mends_237 ?_
        refine lv_goto (tgt := 250) hx hb dX9_mends_238 (by decide) ?_
        refine lv_iadd hx hb dX9_mends_250 ?_
        refine lv_istore_n (lv' := [(3, .int (a3 + ((-a7) * (S.1 37 (3 : Int32).toNatClampNeg)))), (0, .ref (G.2.2 34)), (1, .int a1), (2, .int a2), (5, .int a5), (6, .int a6), (7, .int a7), (9, .int a9), (10, .int a10), (11, .int a11), (12, .int a12)]) hx hb dX9_mends_251 rfl hl (by decide) rfl (fun ls hl => ?_)
        refine lv_iload hx hb dX9_mends_252 (lv_at hl 4 rfl) ?_
        refine lv_iload hx hb dX9_mends_254 (lv_at hl 6 rfl) ?_
        refine lv_iadd hx hb dX9_mends_256 ?_
        refine lv_istore (lv' := [(5, .int (a5 + a7)), (3, .int (a3 + ((-a7) * (S.1 37 (3 : Int32).toNatClampNeg)))), (0, .ref (G.2.2 34)), (1, .int a1), (2, .int a2), (6, .int a6), (7, .int a7), (9, .int a9), (10, .int a10), (11, .int a11), (12, .int a12)]) hx hb dX9_mends_257 hl (by decide) rfl (fun ls hl => ?_)
        refine lv_iload hx hb dX9_mends_259 (lv_at hl 5 rfl) ?_
        refine lv_istore (lv' := [(4, .int a6), (5, .int (a5 + a7)), (3, .int (a3 + ((-a7) * (S.1 37 (3 : Int32).toNatClampNeg)))), (0, .ref (G.2.2 34)), (1, .int a1), (2, .int a2), (6, .int a6), (7, .int a7), (9, .int a9), (10, .int a10), (11, .int a11), (12, .int a12)]) hx hb dX9_mends_261 hl (by decide) rfl (fun ls hl => ?_)
        refine lv_iinc (v := a6 + 1) (lv' := [(6, .int (a6 + 1)), (4, .int a6), (5, .int (a5 + a7)), (3, .int (a3 + ((-a7) * (S.1 37 (3 : Int32).toNatClampNeg)))), (0, .ref (G.2.2 34)), (1, .int a1), (2, .int a2), (7, .int a7), (9, .int a9), (10, .int a10), (11, .int a11), (12, .int a12)]) hx hb dX9_mends_263 hl (k := 6) rfl rfl (by decide) rfl (fun ls hl => ?_)
        refine lv_goto (tgt := 37) hx hb dX9_mends_266 (by decide) ?_
        exact hk37 S a1 a2 (a3 + ((-a7) * (S.1 37 (3 : Int32).toNatClampNeg))) a6 (a5 + a7) (a6 + 1) hf H locs ls hP hS (lv_sub hl [4, 5, 6, 3, 1, 2, 0] rfl)
    · have hf := xif_f hf e12
      refine lv_iload hx hb dX9_mends_168 (lv_at hl 9 rfl) ?_
      refine lv_iload hx hb dX9_mends_170 (lv_at hl 8 rfl) ?_
      refine lv_iload hx hb dX9_mends_172 (lv_at hl 5 rfl) ?_
      refine lv_iload hx hb dX9_mends_174 (lv_at hl 10 rfl) ?_
      refine lv_isub hx hb dX9_mends_176 ?_
      refine lv_iconst (v := 1) hx hb dX9_mends_177 (by decide) ?_
      refine lv_isub hx hb dX9_mends_178 ?_
      refine lv_imul hx hb dX9_mends_179 ?_
      refine lv_isub hx hb dX9_mends_180 ?_
      refine lv_istore (lv' := [(13, .int (a11 - (a10 * ((a6 - a12) - (1 : Int32))))), (0, .ref (G.2.2 34)), (1, .int a1), (2, .int a2), (3, .int a3), (5, .int a5), (6, .int a6), (7, .int a7), (9, .int a9), (10, .int a10), (11, .int a11), (12, .int a12)]) hx hb dX9_mends_181 hl (by decide) rfl (fun ls hl => ?_)
      refine lv_aload_n hx hb dX9_mends_183 rfl (lv_at hl 1 rfl) ?_
      refine x_getR X hP fl_X9_47 (by decide) rfl rfl dX9_mends_184 ?_
      refine lv_iload hx hb dX9_mends_187 (lv_at hl 11 rfl) ?_
      refine lv_iload hx hb dX9_mends_189 (lv_at hl 0 rfl) ?_
      refine lv_iload hx hb dX9_mends_191 (lv_at hl 8 rfl) ?_
      refine lv_icmp_ge (tgt := 201) hx hb dX9_mends_193 (by decide) (fun e14 => ?_) (fun e14 => ?_)
      · have hf := xif_t hf e14
        refine lv_iload hx hb dX9_mends_201 (lv_at hl 0 rfl) ?_
        obtain ⟨g15, hf⟩ := xg_some hf
        refine x_iast X hP hS (by decide) rfl g15 dX9_mends_203 (fun H locs hP hS => ?_)
        refine lv_iload hx hb dX9_mends_204 (lv_at hl 10 rfl) ?_
        refine lv_aload_n hx hb dX9_mends_206 rfl (lv_at hl 1 rfl) ?_
        refine x_getR X hP fl_X9_47 (by decide) rfl rfl dX9_mends_207 ?_
        refine lv_iload hx hb dX9_mends_210 (lv_at hl 11 rfl) ?_
        obtain ⟨g16, hf⟩ := xg_some hf
        refine x_iald X hP (by decide) rfl g16 dX9_mends_212 ?_
        refine lv_isub hx hb dX9_mends_213 ?_
        refine lv_istore (lv' := [(11, .int (a11 - ((xst S 47 a12.toNatClampNeg (a11 - (a10 * ((a6 - a12) - (1 : Int32))))).1 47 a12.toNatClampNeg))), (13, .int (a11 - (a10 * ((a6 - a12) - (1 : Int32))))), (0, .ref (G.2.2 34)), (1, .int a1), (2, .int a2), (3, .int a3), (5, .int a5), (6, .int a6), (7, .int a7), (9, .int a9), (10, .int a10), (12, .int a12)]) hx hb dX9_mends_214 hl (by decide) rfl (fun ls hl => ?_)
        refine lv_iinc (v := a12 + 1) (lv' := [(12, .int (a12 + 1)), (11, .int (a11 - ((xst S 47 a12.toNatClampNeg (a11 - (a10 * ((a6 - a12) - (1 : Int32))))).1 47 a12.toNatClampNeg))), (13, .int (a11 - (a10 * ((a6 - a12) - (1 : Int32))))), (0, .ref (G.2.2 34)), (1, .int a1), (2, .int a2), (3, .int a3), (5, .int a5), (6, .int a6), (7, .int a7), (9, .int a9), (10, .int a10)]) hx hb dX9_mends_216 hl (k := 11) rfl rfl (by decide) rfl (fun ls hl => ?_)
        refine lv_goto (tgt := 161) hx hb dX9_mends_219 (by decide) ?_
        exact ih (xst S 47 a12.toNatClampNeg (a11 - (a10 * ((a6 - a12) - (1 : Int32))))) a1 a2 a3 a5 a6 a7 a9 a10 (a11 - ((xst S 47 a12.toNatClampNeg (a11 - (a10 * ((a6 - a12) - (1 : Int32))))).1 47 a12.toNatClampNeg)) (a12 + 1) hf H locs ls hP hS (lv_sub hl [3, 4, 5, 6, 7, 8, 9, 10, 11, 1, 0] rfl)
      · have hf := xif_f hf e14
        refine lv_iload hx hb dX9_mends_196 (lv_at hl 8 rfl) ?_
        refine lv_goto (tgt := 203) hx hb dX9_mends_198 (by decide) ?_
        obtain ⟨g17, hf⟩ := xg_some hf
        refine x_iast X hP hS (by decide) rfl g17 dX9_mends_203 (fun H locs hP hS => ?_)
        refine lv_iload hx hb dX9_mends_204 (lv_at hl 10 rfl) ?_
        refine lv_aload_n hx hb dX9_mends_206 rfl (lv_at hl 1 rfl) ?_
        refine x_getR X hP fl_X9_47 (by decide) rfl rfl dX9_mends_207 ?_
        refine lv_iload hx hb dX9_mends_210 (lv_at hl 11 rfl) ?_
        obtain ⟨g18, hf⟩ := xg_some hf
        refine x_iald X hP (by decide) rfl g18 dX9_mends_212 ?_
        refine lv_isub hx hb dX9_mends_213 ?_
        refine lv_istore (lv' := [(11, .int (a11 - ((xst S 47 a12.toNatClampNeg a9).1 47 a12.toNatClampNeg))), (13, .int (a11 - (a10 * ((a6 - a12) - (1 : Int32))))), (0, .ref (G.2.2 34)), (1, .int a1), (2, .int a2), (3, .int a3), (5, .int a5), (6, .int a6), (7, .int a7), (9, .int a9), (10, .int a10), (12, .int a12)]) hx hb dX9_mends_214 hl (by decide) rfl (fun ls hl => ?_)
        refine lv_iinc (v := a12 + 1) (lv' := [(12, .int (a12 + 1)), (11, .int (a11 - ((xst S 47 a12.toNatClampNeg a9).1 47 a12.toNatClampNeg))), (13, .int (a11 - (a10 * ((a6 - a12) - (1 : Int32))))), (0, .ref (G.2.2 34)), (1, .int a1), (2, .int a2), (3, .int a3), (5, .int a5), (6, .int a6), (7, .int a7), (9, .int a9), (10, .int a10)]) hx hb dX9_mends_216 hl (k := 11) rfl rfl (by decide) rfl (fun ls hl => ?_)
        refine lv_goto (tgt := 161) hx hb dX9_mends_219 (by decide) ?_
        exact ih (xst S 47 a12.toNatClampNeg a9) a1 a2 a3 a5 a6 a7 a9 a10 (a11 - ((xst S 47 a12.toNatClampNeg a9).1 47 a12.toNatClampNeg)) (a12 + 1) hf H locs ls hP hS (lv_sub hl [3, 4, 5, 6, 7, 8, 9, 10, 11, 1, 0] rfl)
def j_X9_mends_125 (n : Nat) (k37 : xS → Int32 → Int32 → Int32 → Int32 → Int32 → Int32 → Option (Int32 × xS)) (S : xS) (a1 : Int32) (a2 : Int32) (a3 : Int32) (a4 : Int32) (a5 : Int32) (a6 : Int32) (a7 : Int32) (a9 : Int32) (s0 : Int32) : Option (Int32 × xS) :=
  (if (f_X9_in a7 (a9 * (a6 - a4)) (s0 * (a6 - a4))) = 0 then some ((-1 : Int32), S) else l_X9_mends_161 n k37 n S a1 a2 a3 a5 a6 a7 a9 s0 a7 a4)
set_option maxHeartbeats 4000000 in
set_option maxRecDepth 100000 in
theorem t_X9_mends_125 {p : Program} {l : Launch} {e : Env} {s : State} {m : MethodId} {args : Array Value} {below : List Frame} {meth : Method} {c : Code} {G : xG} (X : xC p s m args c G RX9 cX9_mends 14) (hr : meth.sig.returnType = (some .int)) (hlk : meth.locks = false) {n : Nat} {r : Int32} {S' : xS} {k37 : xS → Int32 → Int32 → Int32 → Int32 → Int32 → Int32 → Option (Int32 × xS)} (hk37 : ∀ (S : xS) (a1 : Int32) (a2 : Int32) (a3 : Int32) (a4 : Int32) (a5 : Int32) (a6 : Int32), k37 S a1 a2 a3 a4 a5 a6 = some (r, S') → xGo p l e { frames := 5, cells := 0, slots := 0, locals := 113 } s m args below meth c G 14 0 0 (MQ below (xQi G r S') args s 0 0 (xA G)) S 37 [(0, .ref (G.2.2 34)), (1, .int a1), (2, .int a2), (3, .int a3), (4, .int a4), (5, .int a5), (6, .int a6)] []) : ∀ (S : xS) (a1 : Int32) (a2 : Int32) (a3 : Int32) (a4 : Int32) (a5 : Int32) (a6 : Int32) (a7 : Int32) (a9 : Int32) (s0 : Int32), j_X9_mends_125 n k37 S a1 a2 a3 a4 a5 a6 a7 a9 s0 = some (r, S') → xGo p l e { frames := 5, cells := 0, slots := 0, locals := 113 } s m args below meth c G 14 0 0 (MQ below (xQi G r S') args s 0 0 (xA G)) S 125 [(0, .ref (G.2.2 34)), (1, .int a1), (2, .int a2), (3, .int a3), (4, .int a4), (5, .int a5), (6, .int a6), (7, .int a7), (9, .int a9)] [.int s0] := by
  intro S a1 a2 a3 a4 a5 a6 a7 a9 s0 hf H locs ls hP hS hl
  unfold j_X9_mends_125 at hf
  obtain ⟨hx, hb, hml, hown, hts, hE⟩ := id X
  refine lv_istore (lv' := [(10, .int s0), (0, .ref (G.2.2 34)), (1, .int a1), (2, .int a2), (3, .int a3), (4, .int a4), (5, .int a5), (6, .int a6), (7, .int a7), (9, .int a9)]) hx hb dX9_mends_125 hl (by decide) rfl (fun ls hl => ?_)
  refine lv_iload hx hb dX9_mends_127 (lv_at hl 8 rfl) ?_
  refine lv_iload hx hb dX9_mends_129 (lv_at hl 9 rfl) ?_
  refine lv_iload hx hb dX9_mends_131 (lv_at hl 7 rfl) ?_
  refine lv_iload hx hb dX9_mends_133 (lv_at hl 5 rfl) ?_
  refine lv_isub hx hb dX9_mends_135 ?_
  refine lv_imul hx hb dX9_mends_136 ?_
  refine lv_iload hx hb dX9_mends_137 (lv_at hl 0 rfl) ?_
  refine lv_iload hx hb dX9_mends_139 (lv_at hl 7 rfl) ?_
  refine lv_iload hx hb dX9_mends_141 (lv_at hl 5 rfl) ?_
  refine lv_isub hx hb dX9_mends_143 ?_
  refine lv_imul hx hb dX9_mends_144 ?_
  refine x_cSi (As := [.int a7, .int (a9 * (a6 - a4)), .int (s0 * (a6 - a4))]) (rest := []) X hP hS kc_X9_68 (c_X9_in l G  S a7 (a9 * (a6 - a4)) (s0 * (a6 - a4)) _ rfl) ⟨Nat.le_of_ble_eq_true rfl, Nat.le_of_ble_eq_true rfl⟩ rfl hl.1 rfl (Nat.le_of_ble_eq_true rfl) ⟨Nat.zero_le _, Nat.zero_le _⟩ dX9_mends_145 (fun H locs hP hS => ?_)
  refine lv_if_ne (tgt := 153) hx hb dX9_mends_148 (by decide) (fun e11 => ?_) (fun e11 => ?_)
  · have hf := xif_f hf e11
    refine lv_iload hx hb dX9_mends_153 (lv_at hl 8 rfl) ?_
    refine lv_istore (lv' := [(11, .int a7), (10, .int s0), (0, .ref (G.2.2 34)), (1, .int a1), (2, .int a2), (3, .int a3), (4, .int a4), (5, .int a5), (6, .int a6), (7, .int a7), (9, .int a9)]) hx hb dX9_mends_155 hl (by decide) rfl (fun ls hl => ?_)
    refine lv_iload hx hb dX9_mends_157 (lv_at hl 6 rfl) ?_
    refine lv_istore (lv' := [(12, .int a4), (11, .int a7), (10, .int s0), (0, .ref (G.2.2 34)), (1, .int a1), (2, .int a2), (3, .int a3), (4, .int a4), (5, .int a5), (6, .int a6), (7, .int a7), (9, .int a9)]) hx hb dX9_mends_159 hl (by decide) rfl (fun ls hl => ?_)
    exact t_X9_mends_161 X hr hlk  hk37 n S a1 a2 a3 a5 a6 a7 a9 s0 a7 a4 hf H locs ls hP hS (lv_sub hl [3, 4, 5, 6, 8, 9, 10, 11, 2, 1, 0] rfl)
  · have hf := xif_t hf e11
    refine lv_iconst (v := (-1)) hx hb dX9_mends_151 (by decide) ?_
    exact x_iret X hr hlk hP hS  ((Prod.mk.inj (Option.some.inj hf)).1) ((Prod.mk.inj (Option.some.inj hf)).2) dX9_mends_152
def j_X9_mends_119 (n : Nat) (k37 : xS → Int32 → Int32 → Int32 → Int32 → Int32 → Int32 → Option (Int32 × xS)) (S : xS) (a1 : Int32) (a2 : Int32) (a3 : Int32) (a4 : Int32) (a5 : Int32) (a6 : Int32) (a7 : Int32) (a9 : Int32) : Option (Int32 × xS) :=
  j_X9_mends_125 n k37 S a1 a2 a3 a4 a5 a6 a7 a9 (99 : Int32)
set_option maxHeartbeats 4000000 in
set_option maxRecDepth 100000 in
theorem t_X9_mends_119 {p : Program} {l : Launch} {e : Env} {s : State} {m : MethodId} {args : Array Value} {below : List Frame} {meth : Method} {c : Code} {G : xG} (X : xC p s m args c G RX9 cX9_mends 14) (hr : meth.sig.returnType = (some .int)) (hlk : meth.locks = false) {n : Nat} {r : Int32} {S' : xS} {k37 : xS → Int32 → Int32 → Int32 → Int32 → Int32 → Int32 → Option (Int32 × xS)} (hk37 : ∀ (S : xS) (a1 : Int32) (a2 : Int32) (a3 : Int32) (a4 : Int32) (a5 : Int32) (a6 : Int32), k37 S a1 a2 a3 a4 a5 a6 = some (r, S') → xGo p l e { frames := 5, cells := 0, slots := 0, locals := 113 } s m args below meth c G 14 0 0 (MQ below (xQi G r S') args s 0 0 (xA G)) S 37 [(0, .ref (G.2.2 34)), (1, .int a1), (2, .int a2), (3, .int a3), (4, .int a4), (5, .int a5), (6, .int a6)] []) : ∀ (S : xS) (a1 : Int32) (a2 : Int32) (a3 : Int32) (a4 : Int32) (a5 : Int32) (a6 : Int32) (a7 : Int32) (a9 : Int32), j_X9_mends_119 n k37 S a1 a2 a3 a4 a5 a6 a7 a9 = some (r, S') → xGo p l e { frames := 5, cells := 0, slots := 0, locals := 113 } s m args below meth c G 14 0 0 (MQ below (xQi G r S') args s 0 0 (xA G)) S 119 [(0, .ref (G.2.2 34)), (1, .int a1), (2, .int a2), (3, .int a3), (4, .int a4), (5, .int a5), (6, .int a6), (7, .int a7), (9, .int a9)] [] := by
  intro S a1 a2 a3 a4 a5 a6 a7 a9 hf H locs ls hP hS hl
  unfold j_X9_mends_119 at hf
  obtain ⟨hx, hb, hml, hown, hts, hE⟩ := id X
  refine lv_bipush (v := 99) hx hb dX9_mends_119 (by decide) ?_
  refine lv_goto (tgt := 125) hx hb dX9_mends_121 (by decide) ?_
  exact t_X9_mends_125 X hr hlk  hk37 S a1 a2 a3 a4 a5 a6 a7 a9 (99 : Int32) hf H locs ls hP hS (lv_sub hl [0, 1, 2, 3, 4, 5, 6, 7, 8] rfl)
def j_X9_mends_107 (n : Nat) (k37 : xS → Int32 → Int32 → Int32 → Int32 → Int32 → Int32 → Option (Int32 × xS)) (S : xS) (a1 : Int32) (a2 : Int32) (a3 : Int32) (a4 : Int32) (a5 : Int32) (a6 : Int32) (a7 : Int32) (a8 : Int32) (s0 : Int32) : Option (Int32 × xS) :=
  (if a8 = 0 then (if a7 < 0 then j_X9_mends_125 n k37 S a1 a2 a3 a4 a5 a6 a7 s0 (0 : Int32) else j_X9_mends_119 n k37 S a1 a2 a3 a4 a5 a6 a7 s0) else j_X9_mends_119 n k37 S a1 a2 a3 a4 a5 a6 a7 s0)
set_option maxHeartbeats 4000000 in
set_option maxRecDepth 100000 in
theorem t_X9_mends_107 {p : Program} {l : Launch} {e : Env} {s : State} {m : MethodId} {args : Array Value} {below : List Frame} {meth : Method} {c : Code} {G : xG} (X : xC p s m args c G RX9 cX9_mends 14) (hr : meth.sig.returnType = (some .int)) (hlk : meth.locks = false) {n : Nat} {r : Int32} {S' : xS} {k37 : xS → Int32 → Int32 → Int32 → Int32 → Int32 → Int32 → Option (Int32 × xS)} (hk37 : ∀ (S : xS) (a1 : Int32) (a2 : Int32) (a3 : Int32) (a4 : Int32) (a5 : Int32) (a6 : Int32), k37 S a1 a2 a3 a4 a5 a6 = some (r, S') → xGo p l e { frames := 5, cells := 0, slots := 0, locals := 113 } s m args below meth c G 14 0 0 (MQ below (xQi G r S') args s 0 0 (xA G)) S 37 [(0, .ref (G.2.2 34)), (1, .int a1), (2, .int a2), (3, .int a3), (4, .int a4), (5, .int a5), (6, .int a6)] []) : ∀ (S : xS) (a1 : Int32) (a2 : Int32) (a3 : Int32) (a4 : Int32) (a5 : Int32) (a6 : Int32) (a7 : Int32) (a8 : Int32) (s0 : Int32), j_X9_mends_107 n k37 S a1 a2 a3 a4 a5 a6 a7 a8 s0 = some (r, S') → xGo p l e { frames := 5, cells := 0, slots := 0, locals := 113 } s m args below meth c G 14 0 0 (MQ below (xQi G r S') args s 0 0 (xA G)) S 107 [(0, .ref (G.2.2 34)), (1, .int a1), (2, .int a2), (3, .int a3), (4, .int a4), (5, .int a5), (6, .int a6), (7, .int a7), (8, .int a8)] [.int s0] := by
  intro S a1 a2 a3 a4 a5 a6 a7 a8 s0 hf H locs ls hP hS hl
  unfold j_X9_mends_107 at hf
  obtain ⟨hx, hb, hml, hown, hts, hE⟩ := id X
  refine lv_istore (lv' := [(9, .int s0), (0, .ref (G.2.2 34)), (1, .int a1), (2, .int a2), (3, .int a3), (4, .int a4), (5, .int a5), (6, .int a6), (7, .int a7), (8, .int a8)]) hx hb dX9_mends_107 hl (by decide) rfl (fun ls hl => ?_)
  refine lv_iload hx hb dX9_mends_109 (lv_at hl 9 rfl) ?_
  refine lv_if_ne (tgt := 119) hx hb dX9_mends_111 (by decide) (fun e10 => ?_) (fun e10 => ?_)
  · have hf := xif_f hf e10
    exact t_X9_mends_119 X hr hlk  hk37 S a1 a2 a3 a4 a5 a6 a7 s0 hf H locs ls hP hS (lv_sub hl [1, 2, 3, 4, 5, 6, 7, 8, 0] rfl)
  · have hf := xif_t hf e10
    refine lv_iload hx hb dX9_mends_114 (lv_at hl 8 rfl) ?_
    refine lv_if_lt (tgt := 124) hx hb dX9_mends_116 (by decide) (fun e19 => ?_) (fun e19 => ?_)
    · have hf := xif_t hf e19
      refine lv_iconst (v := 0) hx hb dX9_mends_124 (by decide) ?_
      exact t_X9_mends_125 X hr hlk  hk37 S a1 a2 a3 a4 a5 a6 a7 s0 (0 : Int32) hf H locs ls hP hS (lv_sub hl [1, 2, 3, 4, 5, 6, 7, 8, 0] rfl)
    · have hf := xif_f hf e19
      exact t_X9_mends_119 X hr hlk  hk37 S a1 a2 a3 a4 a5 a6 a7 s0 hf H locs ls hP hS (lv_sub hl [1, 2, 3, 4, 5, 6, 7, 8, 0] rfl)
def j_X9_mends_101 (n : Nat) (k37 : xS → Int32 → Int32 → Int32 → Int32 → Int32 → Int32 → Option (Int32 × xS)) (S : xS) (a1 : Int32) (a2 : Int32) (a3 : Int32) (a4 : Int32) (a5 : Int32) (a6 : Int32) (a7 : Int32) (a8 : Int32) : Option (Int32 × xS) :=
  j_X9_mends_107 n k37 S a1 a2 a3 a4 a5 a6 a7 a8 (-99 : Int32)
set_option maxHeartbeats 4000000 in
set_option maxRecDepth 100000 in
theorem t_X9_mends_101 {p : Program} {l : Launch} {e : Env} {s : State} {m : MethodId} {args : Array Value} {below : List Frame} {meth : Method} {c : Code} {G : xG} (X : xC p s m args c G RX9 cX9_mends 14) (hr : meth.sig.returnType = (some .int)) (hlk : meth.locks = false) {n : Nat} {r : Int32} {S' : xS} {k37 : xS → Int32 → Int32 → Int32 → Int32 → Int32 → Int32 → Option (Int32 × xS)} (hk37 : ∀ (S : xS) (a1 : Int32) (a2 : Int32) (a3 : Int32) (a4 : Int32) (a5 : Int32) (a6 : Int32), k37 S a1 a2 a3 a4 a5 a6 = some (r, S') → xGo p l e { frames := 5, cells := 0, slots := 0, locals := 113 } s m args below meth c G 14 0 0 (MQ below (xQi G r S') args s 0 0 (xA G)) S 37 [(0, .ref (G.2.2 34)), (1, .int a1), (2, .int a2), (3, .int a3), (4, .int a4), (5, .int a5), (6, .int a6)] []) : ∀ (S : xS) (a1 : Int32) (a2 : Int32) (a3 : Int32) (a4 : Int32) (a5 : Int32) (a6 : Int32) (a7 : Int32) (a8 : Int32), j_X9_mends_101 n k37 S a1 a2 a3 a4 a5 a6 a7 a8 = some (r, S') → xGo p l e { frames := 5, cells := 0, slots := 0, locals := 113 } s m args below meth c G 14 0 0 (MQ below (xQi G r S') args s 0 0 (xA G)) S 101 [(0, .ref (G.2.2 34)), (1, .int a1), (2, .int a2), (3, .int a3), (4, .int a4), (5, .int a5), (6, .int a6), (7, .int a7), (8, .int a8)] [] := by
  intro S a1 a2 a3 a4 a5 a6 a7 a8 hf H locs ls hP hS hl
  unfold j_X9_mends_101 at hf
  obtain ⟨hx, hb, hml, hown, hts, hE⟩ := id X
  refine lv_bipush (v := (-99)) hx hb dX9_mends_101 (by decide) ?_
  refine lv_goto (tgt := 107) hx hb dX9_mends_103 (by decide) ?_
  exact t_X9_mends_107 X hr hlk  hk37 S a1 a2 a3 a4 a5 a6 a7 a8 (-99 : Int32) hf H locs ls hP hS (lv_sub hl [0, 1, 2, 3, 4, 5, 6, 7, 8] rfl)
def j_X9_mends_89 (n : Nat) (k37 : xS → Int32 → Int32 → Int32 → Int32 → Int32 → Int32 → Option (Int32 × xS)) (S : xS) (a1 : Int32) (a2 : Int32) (a3 : Int32) (a4 : Int32) (a5 : Int32) (a6 : Int32) (a7 : Int32) (s0 : Int32) : Option (Int32 × xS) :=
  (if s0 = 0 then (if 0 ≤ a7 then j_X9_mends_107 n k37 S a1 a2 a3 a4 a5 a6 a7 s0 (0 : Int32) else j_X9_mends_101 n k37 S a1 a2 a3 a4 a5 a6 a7 s0) else j_X9_mends_101 n k37 S a1 a2 a3 a4 a5 a6 a7 s0)
set_option maxHeartbeats 4000000 in
set_option maxRecDepth 100000 in
theorem t_X9_mends_89 {p : Program} {l : Launch} {e : Env} {s : State} {m : MethodId} {args : Array Value} {below : List Frame} {meth : Method} {c : Code} {G : xG} (X : xC p s m args c G RX9 cX9_mends 14) (hr : meth.sig.returnType = (some .int)) (hlk : meth.locks = false) {n : Nat} {r : Int32} {S' : xS} {k37 : xS → Int32 → Int32 → Int32 → Int32 → Int32 → Int32 → Option (Int32 × xS)} (hk37 : ∀ (S : xS) (a1 : Int32) (a2 : Int32) (a3 : Int32) (a4 : Int32) (a5 : Int32) (a6 : Int32), k37 S a1 a2 a3 a4 a5 a6 = some (r, S') → xGo p l e { frames := 5, cells := 0, slots := 0, locals := 113 } s m args below meth c G 14 0 0 (MQ below (xQi G r S') args s 0 0 (xA G)) S 37 [(0, .ref (G.2.2 34)), (1, .int a1), (2, .int a2), (3, .int a3), (4, .int a4), (5, .int a5), (6, .int a6)] []) : ∀ (S : xS) (a1 : Int32) (a2 : Int32) (a3 : Int32) (a4 : Int32) (a5 : Int32) (a6 : Int32) (a7 : Int32) (s0 : Int32), j_X9_mends_89 n k37 S a1 a2 a3 a4 a5 a6 a7 s0 = some (r, S') → xGo p l e { frames := 5, cells := 0, slots := 0, locals := 113 } s m args below meth c G 14 0 0 (MQ below (xQi G r S') args s 0 0 (xA G)) S 89 [(0, .ref (G.2.2 34)), (1, .int a1), (2, .int a2), (3, .int a3), (4, .int a4), (5, .int a5), (6, .int a6), (7, .int a7)] [.int s0] := by
  intro S a1 a2 a3 a4 a5 a6 a7 s0 hf H locs ls hP hS hl
  unfold j_X9_mends_89 at hf
  obtain ⟨hx, hb, hml, hown, hts, hE⟩ := id X
  refine lv_istore (lv' := [(8, .int s0), (0, .ref (G.2.2 34)), (1, .int a1), (2, .int a2), (3, .int a3), (4, .int a4), (5, .int a5), (6, .int a6), (7, .int a7)]) hx hb dX9_mends_89 hl (by decide) rfl (fun ls hl => ?_)
  refine lv_iload hx hb dX9_mends_91 (lv_at hl 0 rfl) ?_
  refine lv_if_ne (tgt := 101) hx hb dX9_mends_93 (by decide) (fun e9 => ?_) (fun e9 => ?_)
  · have hf := xif_f hf e9
    exact t_X9_mends_101 X hr hlk  hk37 S a1 a2 a3 a4 a5 a6 a7 s0 hf H locs ls hP hS (lv_sub hl [1, 2, 3, 4, 5, 6, 7, 8, 0] rfl)
  · have hf := xif_t hf e9
    refine lv_iload hx hb dX9_mends_96 (lv_at hl 8 rfl) ?_
    refine lv_if_ge (tgt := 106) hx hb dX9_mends_98 (by decide) (fun e20 => ?_) (fun e20 => ?_)
    · have hf := xif_t hf e20
      refine lv_iconst (v := 0) hx hb dX9_mends_106 (by decide) ?_
      exact t_X9_mends_107 X hr hlk  hk37 S a1 a2 a3 a4 a5 a6 a7 s0 (0 : Int32) hf H locs ls hP hS (lv_sub hl [1, 2, 3, 4, 5, 6, 7, 8, 0] rfl)
    · have hf := xif_f hf e20
      exact t_X9_mends_101 X hr hlk  hk37 S a1 a2 a3 a4 a5 a6 a7 s0 hf H locs ls hP hS (lv_sub hl [1, 2, 3, 4, 5, 6, 7, 8, 0] rfl)
def b_X9_mends_37 (n : Nat) (k37 : xS → Int32 → Int32 → Int32 → Int32 → Int32 → Int32 → Option (Int32 × xS)) (S : xS) (a1 : Int32) (a2 : Int32) (a3 : Int32) (a4 : Int32) (a5 : Int32) (a6 : Int32) : Option (Int32 × xS) :=
  (if a2 < a6 then some (a3, S) else (if ((a1 >>> ((a6 - (1 : Int32)) &&& 31)) &&& (1 : Int32)) = (1 : Int32) then (f_X9_sillOf n S a6 (2 : Int32)).bind fun r6 => ((if ((S.1 37 (2 : Int32).toNatClampNeg) + (S.1 37 (3 : Int32).toNatClampNeg)) = 0 then j_X9_mends_89 n k37 S a1 a2 a3 a4 a5 a6 ((-r6) - a5) (1 : Int32) else j_X9_mends_89 n k37 S a1 a2 a3 a4 a5 a6 ((-r6) - a5) (0 : Int32))) else k37 S a1 a2 a3 a4 a5 (a6 + 1)))
def l_X9_mends_37 (n : Nat) : Nat → xS → Int32 → Int32 → Int32 → Int32 → Int32 → Int32 → Option (Int32 × xS)
  | 0, _, _, _, _, _, _, _ => none
  | j + 1, S, a1, a2, a3, a4, a5, a6 => b_X9_mends_37 n (l_X9_mends_37 n j) S a1 a2 a3 a4 a5 a6
set_option maxHeartbeats 4000000 in
set_option maxRecDepth 100000 in
theorem t_X9_mends_37 {p : Program} {l : Launch} {e : Env} {s : State} {m : MethodId} {args : Array Value} {below : List Frame} {meth : Method} {c : Code} {G : xG} (X : xC p s m args c G RX9 cX9_mends 14) (hr : meth.sig.returnType = (some .int)) (hlk : meth.locks = false) {n : Nat} {r : Int32} {S' : xS} : ∀ (j : Nat) (S : xS) (a1 : Int32) (a2 : Int32) (a3 : Int32) (a4 : Int32) (a5 : Int32) (a6 : Int32), l_X9_mends_37 n j S a1 a2 a3 a4 a5 a6 = some (r, S') → xGo p l e { frames := 5, cells := 0, slots := 0, locals := 113 } s m args below meth c G 14 0 0 (MQ below (xQi G r S') args s 0 0 (xA G)) S 37 [(0, .ref (G.2.2 34)), (1, .int a1), (2, .int a2), (3, .int a3), (4, .int a4), (5, .int a5), (6, .int a6)] [] := by
  intro j
  induction j with
  | zero => intro S a1 a2 a3 a4 a5 a6 hf; exact nomatch (show (none : Option (Int32 × xS)) = _ from hf)
  | succ j ih =>
    intro S a1 a2 a3 a4 a5 a6 hf H locs ls hP hS hl
    have hf : b_X9_mends_37 n (l_X9_mends_37 n j) S a1 a2 a3 a4 a5 a6 = some (r, S') := hf
    unfold b_X9_mends_37 at hf
    obtain ⟨hx, hb, hml, hown, hts, hE⟩ := id X
    refine lv_iload hx hb dX9_mends_37 (lv_at hl 6 rfl) ?_
    refine lv_iload_n hx hb dX9_mends_39 rfl (lv_at hl 2 rfl) ?_
    refine lv_icmp_gt (tgt := 269) hx hb dX9_mends_40 (by decide) (fun e4 => ?_) (fun e4 => ?_)
    · have hf := xif_t hf e4
      refine lv_iload_n hx hb dX9_mends_269 rfl (lv_at hl 3 rfl) ?_
      exact x_iret X hr hlk hP hS  ((Prod.mk.inj (Option.some.inj hf)).1) ((Prod.mk.inj (Option.some.inj hf)).2) dX9_mends_270
    · have hf := xif_f hf e4
      refine lv_iload_n hx hb dX9_mends_43 rfl (lv_at hl 1 rfl) ?_
      refine lv_iload hx hb dX9_mends_44 (lv_at hl 6 rfl) ?_
      refine lv_iconst (v := 1) hx hb dX9_mends_46 (by decide) ?_
      refine lv_isub hx hb dX9_mends_47 ?_
      refine lv_ishr hx hb dX9_mends_48 ?_
      refine lv_iconst (v := 1) hx hb dX9_mends_49 (by decide) ?_
      refine lv_iand hx hb dX9_mends_50 ?_
      refine lv_iconst (v := 1) hx hb dX9_mends_51 (by decide) ?_
      refine lv_icmp_ne (tgt := 263) hx hb dX9_mends_52 (by decide) (fun e5 => ?_) (fun e5 => ?_)
      · have hf := xif_f hf e5
        refine lv_iinc (v := a6 + 1) (lv' := [(6, .int (a6 + 1)), (0, .ref (G.2.2 34)), (1, .int a1), (2, .int a2), (3, .int a3), (4, .int a4), (5, .int a5)]) hx hb dX9_mends_263 hl (k := 6) rfl rfl (by decide) rfl (fun ls hl => ?_)
        refine lv_goto (tgt := 37) hx hb dX9_mends_266 (by decide) ?_
        exact ih S a1 a2 a3 a4 a5 (a6 + 1) hf H locs ls hP hS (lv_sub hl [1, 2, 3, 4, 5, 6, 0] rfl)
      · have hf := xif_t hf e5
        refine lv_aload_n hx hb dX9_mends_55 rfl (lv_at hl 0 rfl) ?_
        refine lv_iload hx hb dX9_mends_56 (lv_at hl 6 rfl) ?_
        refine lv_iconst (v := 2) hx hb dX9_mends_58 (by decide) ?_
        obtain ⟨r6, h7, hf⟩ := xb_some hf
        refine x_cVi (As := [.int a6, .int (2 : Int32)]) (rest := []) X hP hS kc_X9_112 (c_X9_sillOf l G n S a6 (2 : Int32) _ h7) ⟨Nat.le_of_ble_eq_true rfl, Nat.le_of_ble_eq_true rfl⟩ (by decide) rfl rfl rfl hl.1 rfl (Nat.le_of_ble_eq_true rfl) ⟨Nat.zero_le _, Nat.zero_le _⟩ dX9_mends_59 (fun H locs hP hS => ?_)
        refine lv_ineg hx hb dX9_mends_62 ?_
        refine lv_iload hx hb dX9_mends_63 (lv_at hl 5 rfl) ?_
        refine lv_isub hx hb dX9_mends_65 ?_
        refine lv_istore (lv' := [(7, .int ((-r6) - a5)), (0, .ref (G.2.2 34)), (1, .int a1), (2, .int a2), (3, .int a3), (4, .int a4), (5, .int a5), (6, .int a6)]) hx hb dX9_mends_66 hl (by decide) rfl (fun ls hl => ?_)
        refine lv_aload_n hx hb dX9_mends_68 rfl (lv_at hl 1 rfl) ?_
        refine x_getR X hP fl_X9_16 (by decide) rfl rfl dX9_mends_69 ?_
        refine lv_iconst (v := 2) hx hb dX9_mends_72 (by decide) ?_
        refine x_iald X hP (by decide) rfl (by decide) dX9_mends_73 ?_
        refine lv_aload_n hx hb dX9_mends_74 rfl (lv_at hl 1 rfl) ?_
        refine x_getR X hP fl_X9_16 (by decide) rfl rfl dX9_mends_75 ?_
        refine lv_iconst (v := 3) hx hb dX9_mends_78 (by decide) ?_
        refine x_iald X hP (by decide) rfl (by decide) dX9_mends_79 ?_
        refine lv_iadd hx hb dX9_mends_80 ?_
        refine lv_if_ne (tgt := 88) hx hb dX9_mends_81 (by decide) (fun e8 => ?_) (fun e8 => ?_)
        · have hf := xif_f hf e8
          refine lv_iconst (v := 0) hx hb dX9_mends_88 (by decide) ?_
          exact t_X9_mends_89 X hr hlk  ih S a1 a2 a3 a4 a5 a6 ((-r6) - a5) (0 : Int32) hf H locs ls hP hS (lv_sub hl [1, 2, 3, 4, 5, 6, 7, 0] rfl)
        · have hf := xif_t hf e8
          refine lv_iconst (v := 1) hx hb dX9_mends_84 (by decide) ?_
          refine lv_goto (tgt := 89) hx hb dX9_mends_85 (by decide) ?_
          exact t_X9_mends_89 X hr hlk  ih S a1 a2 a3 a4 a5 a6 ((-r6) - a5) (1 : Int32) hf H locs ls hP hS (lv_sub hl [1, 2, 3, 4, 5, 6, 7, 0] rfl)
def b_X9_mends_7 (n : Nat) (k7 : xS → Int32 → Int32 → Int32 → Option (Int32 × xS)) (S : xS) (a1 : Int32) (a2 : Int32) (a3 : Int32) : Option (Int32 × xS) :=
  (if (10 : Int32) ≤ a3 then l_X9_mends_37 n n S a1 a2 (0 : Int32) (0 : Int32) (0 : Int32) (1 : Int32) else xg (xin a3 10) (k7 (xst S 47 a3.toNatClampNeg (0 : Int32)) a1 a2 (a3 + 1)))
def l_X9_mends_7 (n : Nat) : Nat → xS → Int32 → Int32 → Int32 → Option (Int32 × xS)
  | 0, _, _, _, _ => none
  | j + 1, S, a1, a2, a3 => b_X9_mends_7 n (l_X9_mends_7 n j) S a1 a2 a3
set_option maxHeartbeats 4000000 in
set_option maxRecDepth 100000 in
theorem t_X9_mends_7 {p : Program} {l : Launch} {e : Env} {s : State} {m : MethodId} {args : Array Value} {below : List Frame} {meth : Method} {c : Code} {G : xG} (X : xC p s m args c G RX9 cX9_mends 14) (hr : meth.sig.returnType = (some .int)) (hlk : meth.locks = false) {n : Nat} {r : Int32} {S' : xS} : ∀ (j : Nat) (S : xS) (a1 : Int32) (a2 : Int32) (a3 : Int32), l_X9_mends_7 n j S a1 a2 a3 = some (r, S') → xGo p l e { frames := 5, cells := 0, slots := 0, locals := 113 } s m args below meth c G 14 0 0 (MQ below (xQi G r S') args s 0 0 (xA G)) S 7 [(0, .ref (G.2.2 34)), (1, .int a1), (2, .int a2), (3, .int a3)] [] := by
  intro j
  induction j with
  | zero => intro S a1 a2 a3 hf; exact nomatch (show (none : Option (Int32 × xS)) = _ from hf)
  | succ j ih =>
    intro S a1 a2 a3 hf H locs ls hP hS hl
    have hf : b_X9_mends_7 n (l_X9_mends_7 n j) S a1 a2 a3 = some (r, S') := hf
    unfold b_X9_mends_7 at hf
    obtain ⟨hx, hb, hml, hown, hts, hE⟩ := id X
    refine lv_iload_n hx hb dX9_mends_7 rfl (lv_at hl 3 rfl) ?_
    refine lv_bipush (v := 10) hx hb dX9_mends_8 (by decide) ?_
    refine lv_icmp_ge (tgt := 26) hx hb dX9_mends_10 (by decide) (fun e3 => ?_) (fun e3 => ?_)
    · have hf := xif_t hf e3
      refine lv_iconst (v := 0) hx hb dX9_mends_26 (by decide) ?_
      refine lv_istore_n (lv' := [(3, .int (0 : Int32)), (0, .ref (G.2.2 34)), (1, .int a1), (2, .int a2)]) hx hb dX9_mends_27 rfl hl (by decide) rfl (fun ls hl => ?_)
      refine lv_iconst (v := 0) hx hb dX9_mends_28 (by decide) ?_
      refine lv_istore (lv' := [(4, .int (0 : Int32)), (3, .int (0 : Int32)), (0, .ref (G.2.2 34)), (1, .int a1), (2, .int a2)]) hx hb dX9_mends_29 hl (by decide) rfl (fun ls hl => ?_)
      refine lv_iconst (v := 0) hx hb dX9_mends_31 (by decide) ?_
      refine lv_istore (lv' := [(5, .int (0 : Int32)), (4, .int (0 : Int32)), (3, .int (0 : Int32)), (0, .ref (G.2.2 34)), (1, .int a1), (2, .int a2)]) hx hb dX9_mends_32 hl (by decide) rfl (fun ls hl => ?_)
      refine lv_iconst (v := 1) hx hb dX9_mends_34 (by decide) ?_
      refine lv_istore (lv' := [(6, .int (1 : Int32)), (5, .int (0 : Int32)), (4, .int (0 : Int32)), (3, .int (0 : Int32)), (0, .ref (G.2.2 34)), (1, .int a1), (2, .int a2)]) hx hb dX9_mends_35 hl (by decide) rfl (fun ls hl => ?_)
      exact t_X9_mends_37 X hr hlk   n S a1 a2 (0 : Int32) (0 : Int32) (0 : Int32) (1 : Int32) hf H locs ls hP hS (lv_sub hl [4, 5, 6, 3, 2, 1, 0] rfl)
    · have hf := xif_f hf e3
      refine lv_aload_n hx hb dX9_mends_13 rfl (lv_at hl 0 rfl) ?_
      refine x_getR X hP fl_X9_47 (by decide) rfl rfl dX9_mends_14 ?_
      refine lv_iload_n hx hb dX9_mends_17 rfl (lv_at hl 3 rfl) ?_
      refine lv_iconst (v := 0) hx hb dX9_mends_18 (by decide) ?_
      obtain ⟨g21, hf⟩ := xg_some hf
      refine x_iast X hP hS (by decide) rfl g21 dX9_mends_19 (fun H locs hP hS => ?_)
      refine lv_iinc (v := a3 + 1) (lv' := [(3, .int (a3 + 1)), (0, .ref (G.2.2 34)), (1, .int a1), (2, .int a2)]) hx hb dX9_mends_20 hl (k := 3) rfl rfl (by decide) rfl (fun ls hl => ?_)
      refine lv_goto (tgt := 7) hx hb dX9_mends_23 (by decide) ?_
      exact ih (xst S 47 a3.toNatClampNeg (0 : Int32)) a1 a2 (a3 + 1) hf H locs ls hP hS (lv_sub hl [1, 2, 3, 0] rfl)
def f_X9_mends (n : Nat) (S : xS) (a1 : Int32) : Option (Int32 × xS) :=
  (f_X9_floorsNow n S).bind fun r1 => (l_X9_mends_7 n n r1.2 a1 r1.1 (0 : Int32))
set_option maxHeartbeats 4000000 in
set_option maxRecDepth 100000 in
theorem c_X9_mends (l : Launch) (G : xG) (n : Nat)  (S : xS) (a1 : Int32) (r : Int32) (S' : xS) (hf : f_X9_mends n S a1 = some (r, S')) : xMi l G yX9_mends cX9_mends 14 (some .int) 5 113 [.ref (G.2.2 34), .int a1] S r S' := by
  refine xMi_of (own := RX9) (by decide +kernel) rfl (Nat.le_of_ble_eq_true rfl) ?_
  intro p e s m args below meth c X hr hlk H locs ls hP hS hl
  have hl : lv_has ls 14 [(0, .ref (G.2.2 34)), (1, .int a1)] := hl
  obtain ⟨hx, hb, hml, hown, hts, hE⟩ := id X
  unfold f_X9_mends at hf
  refine lv_aload_n hx hb dX9_mends_0 rfl (lv_at hl 0 rfl) ?_
  obtain ⟨r1, h2, hf⟩ := xb_some hf
  refine x_cVi (As := []) (rest := []) X hP hS kc_X9_97 (c_X9_floorsNow l G n S  r1.1 r1.2 h2) ⟨Nat.le_of_ble_eq_true rfl, Nat.le_of_ble_eq_true rfl⟩ (by decide) rfl rfl rfl hl.1 rfl (Nat.le_of_ble_eq_true rfl) ⟨Nat.zero_le _, Nat.zero_le _⟩ dX9_mends_1 (fun H locs hP hS => ?_)
  refine lv_istore_n (lv' := [(2, .int r1.1), (0, .ref (G.2.2 34)), (1, .int a1)]) hx hb dX9_mends_4 rfl hl (by decide) rfl (fun ls hl => ?_)
  refine lv_iconst (v := 0) hx hb dX9_mends_5 (by decide) ?_
  refine lv_istore_n (lv' := [(3, .int (0 : Int32)), (2, .int r1.1), (0, .ref (G.2.2 34)), (1, .int a1)]) hx hb dX9_mends_6 rfl hl (by decide) rfl (fun ls hl => ?_)
  exact t_X9_mends_7 X hr hlk   n r1.2 a1 r1.1 (0 : Int32) hf H locs ls hP hS (lv_sub hl [2, 3, 1, 0] rfl)
def j_X9_mended_27 (n : Nat) (S : xS) (a1 : Int32) (a2 : Int32) : Option (Int32 × xS) :=
  (f_X9_mends n S a1).bind fun r3 => ((if a2 = (-1 : Int32) then some (r3.1, r3.2) else (if r3.1 = (-1 : Int32) then some ((-100003 : Int32), r3.2) else xg (xin a2 10) (some (r3.2.1 47 a2.toNatClampNeg, r3.2)))))
set_option maxHeartbeats 4000000 in
set_option maxRecDepth 100000 in
theorem t_X9_mended_27 {p : Program} {l : Launch} {e : Env} {s : State} {m : MethodId} {args : Array Value} {below : List Frame} {meth : Method} {c : Code} {G : xG} (X : xC p s m args c G RX9 cX9_mended 4) (hr : meth.sig.returnType = (some .int)) (hlk : meth.locks = false) {n : Nat} {r : Int32} {S' : xS} : ∀ (S : xS) (a1 : Int32) (a2 : Int32), j_X9_mended_27 n S a1 a2 = some (r, S') → xGo p l e { frames := 6, cells := 0, slots := 0, locals := 146 } s m args below meth c G 4 0 0 (MQ below (xQi G r S') args s 0 0 (xA G)) S 27 [(0, .ref (G.2.2 34)), (1, .int a1), (2, .int a2)] [] := by
  intro S a1 a2 hf H locs ls hP hS hl
  unfold j_X9_mended_27 at hf
  obtain ⟨hx, hb, hml, hown, hts, hE⟩ := id X
  refine lv_aload_n hx hb dX9_mended_27 rfl (lv_at hl 0 rfl) ?_
  refine lv_iload_n hx hb dX9_mended_28 rfl (lv_at hl 1 rfl) ?_
  obtain ⟨r3, h4, hf⟩ := xb_some hf
  refine x_cVi (As := [.int a1]) (rest := []) X hP hS kc_X9_172 (c_X9_mends l G n S a1 r3.1 r3.2 h4) ⟨Nat.le_of_ble_eq_true rfl, Nat.le_of_ble_eq_true rfl⟩ (by decide) rfl rfl rfl hl.1 rfl (Nat.le_of_ble_eq_true rfl) ⟨Nat.zero_le _, Nat.zero_le _⟩ dX9_mended_29 (fun H locs hP hS => ?_)
  refine lv_istore_n (lv' := [(3, .int r3.1), (0, .ref (G.2.2 34)), (1, .int a1), (2, .int a2)]) hx hb dX9_mended_32 rfl hl (by decide) rfl (fun ls hl => ?_)
  refine lv_iload_n hx hb dX9_mended_33 rfl (lv_at hl 3 rfl) ?_
  refine lv_iconst (v := (-1)) hx hb dX9_mended_34 (by decide) ?_
  refine lv_icmp_ne (tgt := 42) hx hb dX9_mended_35 (by decide) (fun e5 => ?_) (fun e5 => ?_)
  · have hf := xif_f hf e5
    refine lv_iload_n hx hb dX9_mended_42 rfl (lv_at hl 0 rfl) ?_
    refine lv_iconst (v := (-1)) hx hb dX9_mended_43 (by decide) ?_
    refine lv_icmp_ne (tgt := 52) hx hb dX9_mended_44 (by decide) (fun e6 => ?_) (fun e6 => ?_)
    · have hf := xif_f hf e6
      refine lv_aload_n hx hb dX9_mended_52 rfl (lv_at hl 1 rfl) ?_
      refine x_getR X hP fl_X9_47 (by decide) rfl rfl dX9_mended_53 ?_
      refine lv_iload_n hx hb dX9_mended_56 rfl (lv_at hl 3 rfl) ?_
      obtain ⟨g7, hf⟩ := xg_some hf
      refine x_iald X hP (by decide) rfl g7 dX9_mended_57 ?_
      exact x_iret X hr hlk hP hS  ((Prod.mk.inj (Option.some.inj hf)).1) ((Prod.mk.inj (Option.some.inj hf)).2) dX9_mended_58
    · have hf := xif_t hf e6
      refine lv_ldc hx hb hown (hts _ kw_619) dX9_mended_47 ?_
      refine lv_goto (tgt := 58) hx hb dX9_mended_49 (by decide) ?_
      exact x_iret X hr hlk hP hS  ((Prod.mk.inj (Option.some.inj hf)).1) ((Prod.mk.inj (Option.some.inj hf)).2) dX9_mended_58
  · have hf := xif_t hf e5
    refine lv_iload_n hx hb dX9_mended_38 rfl (lv_at hl 0 rfl) ?_
    refine lv_goto (tgt := 58) hx hb dX9_mended_39 (by decide) ?_
    exact x_iret X hr hlk hP hS  ((Prod.mk.inj (Option.some.inj hf)).1) ((Prod.mk.inj (Option.some.inj hf)).2) dX9_mended_58
def f_X9_mended (n : Nat) (S : xS) (a1 : Int32) (a2 : Int32) : Option (Int32 × xS) :=
  (if (f_X9_in a1 (0 : Int32) (1023 : Int32)) = 0 then some ((-100002 : Int32), S) else (if a2 = (-1 : Int32) then j_X9_mended_27 n S a1 a2 else (f_X9_isFloor n S a2).bind fun r8 => ((if r8.1 = 0 then some ((-100002 : Int32), r8.2) else j_X9_mended_27 n r8.2 a1 a2))))
set_option maxHeartbeats 4000000 in
set_option maxRecDepth 100000 in
theorem c_X9_mended (l : Launch) (G : xG) (n : Nat)  (S : xS) (a1 : Int32) (a2 : Int32) (r : Int32) (S' : xS) (hf : f_X9_mended n S a1 a2 = some (r, S')) : xMi l G yX9_mended cX9_mended 4 (some .int) 6 146 [.ref (G.2.2 34), .int a1, .int a2] S r S' := by
  refine xMi_of (own := RX9) (by decide +kernel) rfl (Nat.le_of_ble_eq_true rfl) ?_
  intro p e s m args below meth c X hr hlk H locs ls hP hS hl
  have hl : lv_has ls 4 [(0, .ref (G.2.2 34)), (1, .int a1), (2, .int a2)] := hl
  obtain ⟨hx, hb, hml, hown, hts, hE⟩ := id X
  unfold f_X9_mended at hf
  refine lv_iload_n hx hb dX9_mended_0 rfl (lv_at hl 1 rfl) ?_
  refine lv_iconst (v := 0) hx hb dX9_mended_1 (by decide) ?_
  refine lv_sipush (v := 1023) hx hb dX9_mended_2 (by decide) ?_
  refine x_cSi (As := [.int a1, .int (0 : Int32), .int (1023 : Int32)]) (rest := []) X hP hS kc_X9_68 (c_X9_in l G  S a1 (0 : Int32) (1023 : Int32) _ rfl) ⟨Nat.le_of_ble_eq_true rfl, Nat.le_of_ble_eq_true rfl⟩ rfl hl.1 rfl (Nat.le_of_ble_eq_true rfl) ⟨Nat.zero_le _, Nat.zero_le _⟩ dX9_mended_5 (fun H locs hP hS => ?_)
  refine lv_if_eq (tgt := 24) hx hb dX9_mended_8 (by decide) (fun e1 => ?_) (fun e1 => ?_)
  · have hf := xif_t hf e1
    refine lv_ldc hx hb hown (hts _ kw_270) dX9_mended_24 ?_
    exact x_iret X hr hlk hP hS  ((Prod.mk.inj (Option.some.inj hf)).1) ((Prod.mk.inj (Option.some.inj hf)).2) dX9_mended_26
  · have hf := xif_f hf e1
    refine lv_iload_n hx hb dX9_mended_11 rfl (lv_at hl 2 rfl) ?_
    refine lv_iconst (v := (-1)) hx hb dX9_mended_12 (by decide) ?_
    refine lv_icmp_eq (tgt := 27) hx hb dX9_mended_13 (by decide) (fun e2 => ?_) (fun e2 => ?_)
    · have hf := xif_t hf e2
      exact t_X9_mended_27 X hr hlk   S a1 a2 hf H locs ls hP hS (lv_sub hl [0, 1, 2] rfl)
    · have hf := xif_f hf e2
      refine lv_aload_n hx hb dX9_mended_16 rfl (lv_at hl 0 rfl) ?_
      refine lv_iload_n hx hb dX9_mended_17 rfl (lv_at hl 2 rfl) ?_
      obtain ⟨r8, h9, hf⟩ := xb_some hf
      refine x_cVi (As := [.int a2]) (rest := []) X hP hS kc_X9_103 (c_X9_isFloor l G n S a2 r8.1 r8.2 h9) ⟨Nat.le_of_ble_eq_true rfl, Nat.le_of_ble_eq_true rfl⟩ (by decide) rfl rfl rfl hl.1 rfl (Nat.le_of_ble_eq_true rfl) ⟨Nat.zero_le _, Nat.zero_le _⟩ dX9_mended_18 (fun H locs hP hS => ?_)
      refine lv_if_ne (tgt := 27) hx hb dX9_mended_21 (by decide) (fun e10 => ?_) (fun e10 => ?_)
      · have hf := xif_f hf e10
        exact t_X9_mended_27 X hr hlk   r8.2 a1 a2 hf H locs ls hP hS (lv_sub hl [0, 1, 2] rfl)
      · have hf := xif_t hf e10
        refine lv_ldc hx hb hown (hts _ kw_270) dX9_mended_24 ?_
        exact x_iret X hr hlk hP hS  ((Prod.mk.inj (Option.some.inj hf)).1) ((Prod.mk.inj (Option.some.inj hf)).2) dX9_mended_26
