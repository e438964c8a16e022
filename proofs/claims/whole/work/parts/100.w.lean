def b_J7_fill_53178_5 (n : Nat) (q : Nat) (w : Nat) (k5 : xS → Int32 → Int32 → Int32 → Option xS) (S : xS) (a1 : Int32) (a2 : Int32) (a3 : Int32) : Option xS :=
  (if a3 ≤ a2 then some S else xg (xin a2 w) (k5 (xst S q a2.toNatClampNeg a1) a1 (a2 + 1) a3))
def l_J7_fill_53178_5 (n : Nat) (q : Nat) (w : Nat) : Nat → xS → Int32 → Int32 → Int32 → Option xS
  | 0, _, _, _, _ => none
  | j + 1, S, a1, a2, a3 => b_J7_fill_53178_5 n q w (l_J7_fill_53178_5 n q w j) S a1 a2 a3
set_option maxHeartbeats 4000000 in
set_option maxRecDepth 100000 in
theorem t_J7_fill_53178_5 {p : Program} {l : Launch} {e : Env} {s : State} {m : MethodId} {args : Array Value} {below : List Frame} {meth : Method} {c : Code} {G : xG} (X : xC p s m args c G RJ7 cJ7_fill_53178 4) (hr : meth.sig.returnType = none) (hlk : meth.locks = false) {n : Nat} {q : Nat} {w : Nat} (hq : q < 53) (hL : xlay q = (0, w, [])) {S' : xS} : ∀ (j : Nat) (S : xS) (a1 : Int32) (a2 : Int32) (a3 : Int32), l_J7_fill_53178_5 n q w j S a1 a2 a3 = some S' → xGo p l e { frames := 0, cells := 0, slots := 0, locals := 0 } s m args below meth c G 4 0 0 (MQ below (xQv G S') args s 0 0 (xA G)) S 5 [(0, .ref (G.2.2 q)), (1, .int a1), (2, .int a2), (3, .int a3)] [] := by
  intro j
  induction j with
  | zero => intro S a1 a2 a3 hf; exact nomatch (show (none : Option xS) = _ from hf)
  | succ j ih =>
    intro S a1 a2 a3 hf H locs ls hP hS hl
    have hf : b_J7_fill_53178_5 n q w (l_J7_fill_53178_5 n q w j) S a1 a2 a3 = some S' := hf
    unfold b_J7_fill_53178_5 at hf
    obtain ⟨hx, hb, hml, hown, hts, hE⟩ := id X
    refine lv_iload_n hx hb dJ7_fill_53178_5 rfl (lv_at hl 2 rfl) ?_
    refine lv_iload_n hx hb dJ7_fill_53178_6 rfl (lv_at hl 3 rfl) ?_
    refine lv_icmp_ge (tgt := 20) hx hb dJ7_fill_53178_7 (by decide) (fun e1 => ?_) (fun e1 => ?_)
    · have hf := xif_t hf e1
      exact x_vret X hr hlk hP hS (Option.some.inj hf) dJ7_fill_53178_20
    · have hf := xif_f hf e1
      refine lv_aload_n hx hb dJ7_fill_53178_10 rfl (lv_at hl 0 rfl) ?_
      refine lv_iload_n hx hb dJ7_fill_53178_11 rfl (lv_at hl 2 rfl) ?_
      refine lv_iload_n hx hb dJ7_fill_53178_12 rfl (lv_at hl 1 rfl) ?_
      obtain ⟨g2, hf⟩ := xg_some hf
      refine x_iast X hP hS hq hL g2 dJ7_fill_53178_13 (fun H locs hP hS => ?_)
      refine lv_iinc (v := a2 + 1) (lv' := [(2, .int (a2 + 1)), (0, .ref (G.2.2 q)), (1, .int a1), (3, .int a3)]) hx hb dJ7_fill_53178_14 hl (k := 2) rfl rfl (by decide) rfl (fun ls hl => ?_)
      refine lv_goto (tgt := 5) hx hb dJ7_fill_53178_17 (by decide) ?_
      exact ih (xst S q a2.toNatClampNeg a1) a1 (a2 + 1) a3 hf H locs ls hP hS (lv_sub hl [1, 2, 0, 3] rfl)
def f_J7_fill_53178 (n : Nat) (q : Nat) (w : Nat) (S : xS) (a1 : Int32) : Option xS :=
  l_J7_fill_53178_5 n q w n S a1 (0 : Int32) (Int32.ofNat w)
set_option maxHeartbeats 4000000 in
set_option maxRecDepth 100000 in
theorem c_J7_fill_53178 (l : Launch) (G : xG) (n : Nat) (q : Nat) (w : Nat)  (hq : q < 53) (hL : xlay q = (0, w, [])) (S : xS) (a1 : Int32) (S' : xS) (hf : f_J7_fill_53178 n q w S a1 = some S') : xMv l G yJ7_fill_53178 cJ7_fill_53178 4 none 0 0 [.ref (G.2.2 q), .int a1] S S' := by
  refine xMv_of (own := RJ7) (by decide +kernel) rfl (Nat.le_of_ble_eq_true rfl) ?_
  intro p e s m args below meth c X hr hlk H locs ls hP hS hl
  have hl : lv_has ls 4 [(0, .ref (G.2.2 q)), (1, .int a1)] := hl
  obtain ⟨hx, hb, hml, hown, hts, hE⟩ := id X
  unfold f_J7_fill_53178 at hf
  refine lv_iconst (v := 0) hx hb dJ7_fill_53178_0 (by decide) ?_
  refine lv_istore_n (lv' := [(2, .int (0 : Int32)), (0, .ref (G.2.2 q)), (1, .int a1)]) hx hb dJ7_fill_53178_1 rfl hl (by decide) rfl (fun ls hl => ?_)
  refine lv_aload_n hx hb dJ7_fill_53178_2 rfl (lv_at hl 1 rfl) ?_
  refine x_alenI X hP hq hL dJ7_fill_53178_3 ?_
  refine lv_istore_n (lv' := [(3, .int (Int32.ofNat w)), (2, .int (0 : Int32)), (0, .ref (G.2.2 q)), (1, .int a1)]) hx hb dJ7_fill_53178_4 rfl hl (by decide) rfl (fun ls hl => ?_)
  exact t_J7_fill_53178_5 X hr hlk hq hL  n S a1 (0 : Int32) (Int32.ofNat w) hf H locs ls hP hS (lv_sub hl [2, 3, 1, 0] rfl)
def f_X8_within (a0 : Int32) (a1 : Int32) (a2 : Int32) : Int32 :=
  (if a0 < a1 then (0 : Int32) else (if a2 < a0 then (0 : Int32) else (1 : Int32)))
theorem fb_X8_within (a0 : Int32) (a1 : Int32) (a2 : Int32) : f_X8_within a0 a1 a2 = 0 ∨ f_X8_within a0 a1 a2 = 1 := by
  unfold f_X8_within
  repeat' first | exact Or.inl rfl | exact Or.inr rfl | split
set_option maxHeartbeats 4000000 in
set_option maxRecDepth 100000 in
theorem c_X8_within (l : Launch) (G : xG)  (S : xS) (a0 : Int32) (a1 : Int32) (a2 : Int32) (r : Int32) (hf : f_X8_within a0 a1 a2 = r) : xMi l G yX8_within cX8_within 3 (some .boolean) 0 0 [.int a0, .int a1, .int a2] S r S := by
  refine xMi_of (own := RX8) (by decide +kernel) rfl (Nat.le_of_ble_eq_true rfl) ?_
  intro p e s m args below meth c X hr hlk H locs ls hP hS hl
  have hl : lv_has ls 3 [(0, .int a0), (1, .int a1), (2, .int a2)] := hl
  obtain ⟨hx, hb, hml, hown, hts, hE⟩ := id X
  unfold f_X8_within at hf
  refine lv_iload_n hx hb dX8_within_0 rfl (lv_at hl 0 rfl) ?_
  refine lv_iload_n hx hb dX8_within_1 rfl (lv_at hl 1 rfl) ?_
  refine lv_icmp_lt (tgt := 14) hx hb dX8_within_2 (by decide) (fun e1 => ?_) (fun e1 => ?_)
  · have hf := xif_t hf e1
    refine lv_iconst (v := 0) hx hb dX8_within_14 (by decide) ?_
    exact x_zret X hr hlk hP hS (Or.inl rfl) (hf) (rfl) dX8_within_15
  · have hf := xif_f hf e1
    refine lv_iload_n hx hb dX8_within_5 rfl (lv_at hl 0 rfl) ?_
    refine lv_iload_n hx hb dX8_within_6 rfl (lv_at hl 2 rfl) ?_
    refine lv_icmp_gt (tgt := 14) hx hb dX8_within_7 (by decide) (fun e2 => ?_) (fun e2 => ?_)
    · have hf := xif_t hf e2
      refine lv_iconst (v := 0) hx hb dX8_within_14 (by decide) ?_
      exact x_zret X hr hlk hP hS (Or.inl rfl) (hf) (rfl) dX8_within_15
    · have hf := xif_f hf e2
      refine lv_iconst (v := 1) hx hb dX8_within_10 (by decide) ?_
      refine lv_goto (tgt := 15) hx hb dX8_within_11 (by decide) ?_
      exact x_zret X hr hlk hP hS (Or.inr rfl) (hf) (rfl) dX8_within_15
def f_X8_isMaster (a0 : Int32) : Int32 :=
  f_X8_within a0 (0 : Int32) (2 : Int32)
theorem fb_X8_isMaster (a0 : Int32) : f_X8_isMaster a0 = 0 ∨ f_X8_isMaster a0 = 1 := by
  unfold f_X8_isMaster
  exact fb_X8_within a0 (0 : Int32) (2 : Int32)
set_option maxHeartbeats 4000000 in
set_option maxRecDepth 100000 in
theorem c_X8_isMaster (l : Launch) (G : xG)  (S : xS) (a0 : Int32) (r : Int32) (hf : f_X8_isMaster a0 = r) : xMi l G yX8_isMaster cX8_isMaster 1 (some .boolean) 1 22 [.int a0] S r S := by
  refine xMi_of (own := RX8) (by decide +kernel) rfl (Nat.le_of_ble_eq_true rfl) ?_
  intro p e s m args below meth c X hr hlk H locs ls hP hS hl
  have hl : lv_has ls 1 [(0, .int a0)] := hl
  obtain ⟨hx, hb, hml, hown, hts, hE⟩ := id X
  unfold f_X8_isMaster at hf
  refine lv_iload_n hx hb dX8_isMaster_0 rfl (lv_at hl 0 rfl) ?_
  refine lv_iconst (v := 0) hx hb dX8_isMaster_1 (by decide) ?_
  refine lv_iconst (v := 2) hx hb dX8_isMaster_2 (by decide) ?_
  refine x_cSi (As := [.int a0, .int (0 : Int32), .int (2 : Int32)]) (rest := []) X hP hS kc_X8_79 (c_X8_within l G  S a0 (0 : Int32) (2 : Int32) _ rfl) ⟨Nat.le_of_ble_eq_true rfl, Nat.le_of_ble_eq_true rfl⟩ rfl hl.1 rfl (Nat.le_of_ble_eq_true rfl) ⟨Nat.zero_le _, Nat.zero_le _⟩ dX8_isMaster_3 (fun H locs hP hS => ?_)
  exact x_zret X hr hlk hP hS (fb_X8_within a0 (0 : Int32) (2 : Int32)) (hf) (rfl) dX8_isMaster_6
def f_X2_exchange (n : Nat) (S : xS) (a1 : Int32) (a2 : Int32) (a3 : Int32) : Option (Int32 × xS) :=
  (if a2 = 0 then xg (xin a1 3) (xg (xin a1 3) (some (S.1 2 a1.toNatClampNeg, xst S 2 a1.toNatClampNeg a3))) else xg (xin a1 3) (xg (xin a1 3) (some (S.1 3 a1.toNatClampNeg, xst S 3 a1.toNatClampNeg a3))))
set_option maxHeartbeats 4000000 in
set_option maxRecDepth 100000 in
theorem c_X2_exchange (l : Launch) (G : xG) (n : Nat)  (S : xS) (a1 : Int32) (a2 : Int32) (a3 : Int32) (r : Int32) (S' : xS) (hf : f_X2_exchange n S a1 a2 a3 = some (r, S')) : xMi l G yX2_exchange cX2_exchange 6 (some .int) 0 0 [.ref (G.2.2 1), .int a1, .int a2, .int a3] S r S' := by
  refine xMi_of (own := RX2) (by decide +kernel) rfl (Nat.le_of_ble_eq_true rfl) ?_
  intro p e s m args below meth c X hr hlk H locs ls hP hS hl
  have hl : lv_has ls 6 [(0, .ref (G.2.2 1)), (1, .int a1), (2, .int a2), (3, .int a3)] := hl
  obtain ⟨hx, hb, hml, hown, hts, hE⟩ := id X
  unfold f_X2_exchange at hf
  refine lv_iload_n hx hb dX2_exchange_0 rfl (lv_at hl 2 rfl) ?_
  refine lv_if_ne (tgt := 11) hx hb dX2_exchange_1 (by decide) (fun e1 => ?_) (fun e1 => ?_)
  · have hf := xif_f hf e1
    refine lv_aload_n hx hb dX2_exchange_11 rfl (lv_at hl 0 rfl) ?_
    refine x_getR X hP fl_X2_13 (by decide) rfl rfl dX2_exchange_12 ?_
    refine lv_astore (lv' := [(4, .ref (G.2.2 3)), (0, .ref (G.2.2 1)), (1, .int a1), (2, .int a2), (3, .int a3)]) hx hb dX2_exchange_15 hl (by decide) rfl (fun ls hl => ?_)
    refine lv_aload hx hb dX2_exchange_17 (lv_at hl 0 rfl) ?_
    refine lv_iload_n hx hb dX2_exchange_19 rfl (lv_at hl 2 rfl) ?_
    obtain ⟨g2, hf⟩ := xg_some hf
    refine x_iald X hP (by decide) rfl g2 dX2_exchange_20 ?_
    refine lv_istore (lv' := [(5, .int (S.1 3 a1.toNatClampNeg)), (4, .ref (G.2.2 3)), (0, .ref (G.2.2 1)), (1, .int a1), (2, .int a2), (3, .int a3)]) hx hb dX2_exchange_21 hl (by decide) rfl (fun ls hl => ?_)
    refine lv_aload hx hb dX2_exchange_23 (lv_at hl 1 rfl) ?_
    refine lv_iload_n hx hb dX2_exchange_25 rfl (lv_at hl 3 rfl) ?_
    refine lv_iload_n hx hb dX2_exchange_26 rfl (lv_at hl 5 rfl) ?_
    obtain ⟨g3, hf⟩ := xg_some hf
    refine x_iast X hP hS (by decide) rfl g3 dX2_exchange_27 (fun H locs hP hS => ?_)
    refine lv_iload hx hb dX2_exchange_28 (lv_at hl 0 rfl) ?_
    exact x_iret X hr hlk hP hS  ((Prod.mk.inj (Option.some.inj hf)).1) ((Prod.mk.inj (Option.some.inj hf)).2) dX2_exchange_30
  · have hf := xif_t hf e1
    refine lv_aload_n hx hb dX2_exchange_4 rfl (lv_at hl 0 rfl) ?_
    refine x_getR X hP fl_X2_7 (by decide) rfl rfl dX2_exchange_5 ?_
    refine lv_goto (tgt := 15) hx hb dX2_exchange_8 (by decide) ?_
    refine lv_astore (lv' := [(4, .ref (G.2.2 2)), (0, .ref (G.2.2 1)), (1, .int a1), (2, .int a2), (3, .int a3)]) hx hb dX2_exchange_15 hl (by decide) rfl (fun ls hl => ?_)
    refine lv_aload hx hb dX2_exchange_17 (lv_at hl 0 rfl) ?_
    refine lv_iload_n hx hb dX2_exchange_19 rfl (lv_at hl 2 rfl) ?_
    obtain ⟨g4, hf⟩ := xg_some hf
    refine x_iald X hP (by decide) rfl g4 dX2_exchange_20 ?_
    refine lv_istore (lv' := [(5, .int (S.1 2 a1.toNatClampNeg)), (4, .ref (G.2.2 2)), (0, .ref (G.2.2 1)), (1, .int a1), (2, .int a2), (3, .int a3)]) hx hb dX2_exchange_21 hl (by decide) rfl (fun ls hl => ?_)
    refine lv_aload hx hb dX2_exchange_23 (lv_at hl 1 rfl) ?_
    refine lv_iload_n hx hb dX2_exchange_25 rfl (lv_at hl 3 rfl) ?_
    refine lv_iload_n hx hb dX2_exchange_26 rfl (lv_at hl 5 rfl) ?_
    obtain ⟨g5, hf⟩ := xg_some hf
    refine x_iast X hP hS (by decide) rfl g5 dX2_exchange_27 (fun H locs hP hS => ?_)
    refine lv_iload hx hb dX2_exchange_28 (lv_at hl 0 rfl) ?_
    exact x_iret X hr hlk hP hS  ((Prod.mk.inj (Option.some.inj hf)).1) ((Prod.mk.inj (Option.some.inj hf)).2) dX2_exchange_30
def f_X4_master (n : Nat) (S : xS) (a1 : Int32) : Option Int32 :=
  xg (xin a1 10) (some ((S.1 8 a1.toNatClampNeg) / (3 : Int32)))
set_option maxHeartbeats 4000000 in
set_option maxRecDepth 100000 in
theorem c_X4_master (l : Launch) (G : xG) (n : Nat)  (S : xS) (a1 : Int32) (r : Int32) (hf : f_X4_master n S a1 = some r) : xMi l G yX4_master cX4_master 2 (some .int) 0 0 [.ref (G.2.2 4), .int a1] S r S := by
  refine xMi_of (own := RX4) (by decide +kernel) rfl (Nat.le_of_ble_eq_true rfl) ?_
  intro p e s m args below meth c X hr hlk H locs ls hP hS hl
  have hl : lv_has ls 2 [(0, .ref (G.2.2 4)), (1, .int a1)] := hl
  obtain ⟨hx, hb, hml, hown, hts, hE⟩ := id X
  unfold f_X4_master at hf
  refine lv_aload_n hx hb dX4_master_0 rfl (lv_at hl 0 rfl) ?_
  refine x_getR X hP fl_X4_25 (by decide) rfl rfl dX4_master_1 ?_
  refine lv_iload_n hx hb dX4_master_4 rfl (lv_at hl 1 rfl) ?_
  obtain ⟨g1, hf⟩ := xg_some hf
  refine x_iald X hP (by decide) rfl g1 dX4_master_5 ?_
  refine lv_iconst (v := 3) hx hb dX4_master_6 (by decide) ?_
  refine lv_idiv hx hb dX4_master_7 (by decide) ?_
  exact x_iret X hr hlk hP hS  (Option.some.inj hf) (rfl) dX4_master_8
def f_X4_habit (n : Nat) (S : xS) (a1 : Int32) : Option Int32 :=
  xg (xin a1 10) (some ((S.1 8 a1.toNatClampNeg) - (S.1 8 a1.toNatClampNeg) / (3 : Int32) * (3 : Int32)))
set_option maxHeartbeats 4000000 in
set_option maxRecDepth 100000 in
theorem c_X4_habit (l : Launch) (G : xG) (n : Nat)  (S : xS) (a1 : Int32) (r : Int32) (hf : f_X4_habit n S a1 = some r) : xMi l G yX4_habit cX4_habit 2 (some .int) 0 0 [.ref (G.2.2 4), .int a1] S r S := by
  refine xMi_of (own := RX4) (by decide +kernel) rfl (Nat.le_of_ble_eq_true rfl) ?_
  intro p e s m args below meth c X hr hlk H locs ls hP hS hl
  have hl : lv_has ls 2 [(0, .ref (G.2.2 4)), (1, .int a1)] := hl
  obtain ⟨hx, hb, hml, hown, hts, hE⟩ := id X
  unfold f_X4_habit at hf
  refine lv_aload_n hx hb dX4_habit_0 rfl (lv_at hl 0 rfl) ?_
  refine x_getR X hP fl_X4_25 (by decide) rfl rfl dX4_habit_1 ?_
  refine lv_iload_n hx hb dX4_habit_4 rfl (lv_at hl 1 rfl) ?_
  obtain ⟨g1, hf⟩ := xg_some hf
  refine x_iald X hP (by decide) rfl g1 dX4_habit_5 ?_
  refine lv_iconst (v := 3) hx hb dX4_habit_6 (by decide) ?_
  refine lv_irem hx hb dX4_habit_7 (by decide) ?_
  exact x_iret X hr hlk hP hS  (Option.some.inj hf) (rfl) dX4_habit_8
def f_X2_toParts (n : Nat) (S : xS) (a1 : Int32) (a2 : Int32) (a3 : Int32) : Option Int32 :=
  xg (xin a2 3) (xg (xin a2 3) ((if (S.1 2 a2.toNatClampNeg) < (1 : Int32) then some a1 else (if (1 : Int32) ≤ (S.1 3 a2.toNatClampNeg) then (if a3 = 0 then xg (!decide ((S.1 2 a2.toNatClampNeg) = 0)) (xg (!decide ((S.1 3 a2.toNatClampNeg) = 0)) (some ((((a1 * (S.1 3 a2.toNatClampNeg)) / (S.1 2 a2.toNatClampNeg)) * (S.1 2 a2.toNatClampNeg)) / (S.1 3 a2.toNatClampNeg)))) else (if a3 = (1 : Int32) then xg (!decide ((S.1 2 a2.toNatClampNeg) = 0)) (xg (!decide ((S.1 3 a2.toNatClampNeg) = 0)) (some ((((((a1 * (S.1 3 a2.toNatClampNeg)) + (S.1 2 a2.toNatClampNeg)) - (1 : Int32)) / (S.1 2 a2.toNatClampNeg)) * (S.1 2 a2.toNatClampNeg)) / (S.1 3 a2.toNatClampNeg)))) else xg (!decide (((2 : Int32) * (S.1 2 a2.toNatClampNeg)) = 0)) (xg (!decide ((S.1 3 a2.toNatClampNeg) = 0)) (some (((((((2 : Int32) * (a1 * (S.1 3 a2.toNatClampNeg))) + (S.1 2 a2.toNatClampNeg)) - (1 : Int32)) / ((2 : Int32) * (S.1 2 a2.toNatClampNeg))) * (S.1 2 a2.toNatClampNeg)) / (S.1 3 a2.toNatClampNeg)))))) else some a1))))
set_option maxHeartbeats 4000000 in
set_option maxRecDepth 100000 in
theorem c_X2_toParts (l : Launch) (G : xG) (n : Nat)  (S : xS) (a1 : Int32) (a2 : Int32) (a3 : Int32) (r : Int32) (hf : f_X2_toParts n S a1 a2 a3 = some r) : xMi l G yX2_toParts cX2_toParts 8 (some .int) 0 0 [.ref (G.2.2 1), .int a1, .int a2, .int a3] S r S := by
  refine xMi_of (own := RX2) (by decide +kernel) rfl (Nat.le_of_ble_eq_true rfl) ?_
  intro p e s m args below meth c X hr hlk H locs ls hP hS hl
  have hl : lv_has ls 8 [(0, .ref (G.2.2 1)), (1, .int a1), (2, .int a2), (3, .int a3)] := hl
  obtain ⟨hx, hb, hml, hown, hts, hE⟩ := id X
  unfold f_X2_toParts at hf
  refine lv_aload_n hx hb dX2_toParts_0 rfl (lv_at hl 0 rfl) ?_
  refine x_getR X hP fl_X2_7 (by decide) rfl rfl dX2_toParts_1 ?_
  refine lv_iload_n hx hb dX2_toParts_4 rfl (lv_at hl 2 rfl) ?_
  obtain ⟨g1, hf⟩ := xg_some hf
  refine x_iald X hP (by decide) rfl g1 dX2_toParts_5 ?_
  refine lv_istore (lv' := [(4, .int (S.1 2 a2.toNatClampNeg)), (0, .ref (G.2.2 1)), (1, .int a1), (2, .int a2), (3, .int a3)]) hx hb dX2_toParts_6 hl (by decide) rfl (fun ls hl => ?_)
  refine lv_aload_n hx hb dX2_toParts_8 rfl (lv_at hl 1 rfl) ?_
  refine x_getR X hP fl_X2_13 (by decide) rfl rfl dX2_toParts_9 ?_
  refine lv_iload_n hx hb dX2_toParts_12 rfl (lv_at hl 3 rfl) ?_
  obtain ⟨g2, hf⟩ := xg_some hf
  refine x_iald X hP (by decide) rfl g2 dX2_toParts_13 ?_
  refine lv_istore (lv' := [(5, .int (S.1 3 a2.toNatClampNeg)), (4, .int (S.1 2 a2.toNatClampNeg)), (0, .ref (G.2.2 1)), (1, .int a1), (2, .int a2), (3, .int a3)]) hx hb dX2_toParts_14 hl (by decide) rfl (fun ls hl => ?_)
  refine lv_iload hx hb dX2_toParts_16 (lv_at hl 1 rfl) ?_
  refine lv_iconst (v := 1) hx hb dX2_toParts_18 (by decide) ?_
  refine lv_icmp_lt (tgt := 28) hx hb dX2_toParts_19 (by decide) (fun e3 => ?_) (fun e3 => ?_)
  · have hf := xif_t hf e3
    refine lv_iload_n hx hb dX2_toParts_28 rfl (lv_at hl 3 rfl) ?_
    exact x_iret X hr hlk hP hS  (Option.some.inj hf) (rfl) dX2_toParts_29
  · have hf := xif_f hf e3
    refine lv_iload hx hb dX2_toParts_22 (lv_at hl 0 rfl) ?_
    refine lv_iconst (v := 1) hx hb dX2_toParts_24 (by decide) ?_
    refine lv_icmp_ge (tgt := 30) hx hb dX2_toParts_25 (by decide) (fun e4 => ?_) (fun e4 => ?_)
    · have hf := xif_t hf e4
      refine lv_iload_n hx hb dX2_toParts_30 rfl (lv_at hl 3 rfl) ?_
      refine lv_iload hx hb dX2_toParts_31 (lv_at hl 0 rfl) ?_
      refine lv_imul hx hb dX2_toParts_33 ?_
      refine lv_istore (lv' := [(6, .int (a1 * (S.1 3 a2.toNatClampNeg))), (5, .int (S.1 3 a2.toNatClampNeg)), (4, .int (S.1 2 a2.toNatClampNeg)), (0, .ref (G.2.2 1)), (1, .int a1), (2, .int a2), (3, .int a3)]) hx hb dX2_toParts_34 hl (by decide) rfl (fun ls hl => ?_)
      refine lv_iload_n hx hb dX2_toParts_36 rfl (lv_at hl 6 rfl) ?_
      refine lv_if_ne (tgt := 50) hx hb dX2_toParts_37 (by decide) (fun e5 => ?_) (fun e5 => ?_)
      · have hf := xif_f hf e5
        refine lv_iload_n hx hb dX2_toParts_50 rfl (lv_at hl 6 rfl) ?_
        refine lv_iconst (v := 1) hx hb dX2_toParts_51 (by decide) ?_
        refine lv_icmp_ne (tgt := 70) hx hb dX2_toParts_52 (by decide) (fun e6 => ?_) (fun e6 => ?_)
        · have hf := xif_f hf e6
          refine lv_iconst (v := 2) hx hb dX2_toParts_70 (by decide) ?_
          refine lv_iload hx hb dX2_toParts_71 (lv_at hl 0 rfl) ?_
          refine lv_imul hx hb dX2_toParts_73 ?_
          refine lv_iload hx hb dX2_toParts_74 (lv_at hl 2 rfl) ?_
          refine lv_iadd hx hb dX2_toParts_76 ?_
          refine lv_iconst (v := 1) hx hb dX2_toParts_77 (by decide) ?_
          refine lv_isub hx hb dX2_toParts_78 ?_
          refine lv_iconst (v := 2) hx hb dX2_toParts_79 (by decide) ?_
          refine lv_iload hx hb dX2_toParts_80 (lv_at hl 2 rfl) ?_
          refine lv_imul hx hb dX2_toParts_82 ?_
          obtain ⟨g7, hf⟩ := xg_some hf
          refine lv_idiv hx hb dX2_toParts_83 (xne_of g7) ?_
          refine lv_istore (lv' := [(7, .int (((((2 : Int32) * (a1 * (S.1 3 a2.toNatClampNeg))) + (S.1 2 a2.toNatClampNeg)) - (1 : Int32)) / ((2 : Int32) * (S.1 2 a2.toNatClampNeg)))), (6, .int (a1 * (S.1 3 a2.toNatClampNeg))), (5, .int (S.1 3 a2.toNatClampNeg)), (4, .int (S.1 2 a2.toNatClampNeg)), (0, .ref (G.2.2 1)), (1, .int a1), (2, .int a2), (3, .int a3)]) hx hb dX2_toParts_84 hl (by decide) rfl (fun ls hl => ?_)
          refine lv_iload hx hb dX2_toParts_86 (lv_at hl 0 rfl) ?_
          refine lv_iload hx hb dX2_toParts_88 (lv_at hl 3 rfl) ?_
          refine lv_imul hx hb dX2_toParts_90 ?_
          refine lv_iload hx hb dX2_toParts_91 (lv_at hl 2 rfl) ?_
          obtain ⟨g8, hf⟩ := xg_some hf
          refine lv_idiv hx hb dX2_toParts_93 (xne_of g8) ?_
          exact x_iret X hr hlk hP hS  (Option.some.inj hf) (rfl) dX2_toParts_94
        · have hf := xif_t hf e6
          refine lv_iload hx hb dX2_toParts_55 (lv_at hl 0 rfl) ?_
          refine lv_iload hx hb dX2_toParts_57 (lv_at hl 2 rfl) ?_
          refine lv_iadd hx hb dX2_toParts_59 ?_
          refine lv_iconst (v := 1) hx hb dX2_toParts_60 (by decide) ?_
          refine lv_isub hx hb dX2_toParts_61 ?_
          refine lv_iload hx hb dX2_toParts_62 (lv_at hl 2 rfl) ?_
          obtain ⟨g9, hf⟩ := xg_some hf
          refine lv_idiv hx hb dX2_toParts_64 (xne_of g9) ?_
          refine lv_istore (lv' := [(7, .int ((((a1 * (S.1 3 a2.toNatClampNeg)) + (S.1 2 a2.toNatClampNeg)) - (1 : Int32)) / (S.1 2 a2.toNatClampNeg))), (6, .int (a1 * (S.1 3 a2.toNatClampNeg))), (5, .int (S.1 3 a2.toNatClampNeg)), (4, .int (S.1 2 a2.toNatClampNeg)), (0, .ref (G.2.2 1)), (1, .int a1), (2, .int a2), (3, .int a3)]) hx hb dX2_toParts_65 hl (by decide) rfl (fun ls hl => ?_)
          refine lv_goto (tgt := 86) hx hb dX2_toParts_67 (by decide) ?_
          refine lv_iload hx hb dX2_toParts_86 (lv_at hl 0 rfl) ?_
          refine lv_iload hx hb dX2_toParts_88 (lv_at hl 3 rfl) ?_
          refine lv_imul hx hb dX2_toParts_90 ?_
          refine lv_iload hx hb dX2_toParts_91 (lv_at hl 2 rfl) ?_
          obtain ⟨g10, hf⟩ := xg_some hf
          refine lv_idiv hx hb dX2_toParts_93 (xne_of g10) ?_
          exact x_iret X hr hlk hP hS  (Option.some.inj hf) (rfl) dX2_toParts_94
      · have hf := xif_t hf e5
        refine lv_iload hx hb dX2_toParts_40 (lv_at hl 0 rfl) ?_
        refine lv_iload hx hb dX2_toParts_42 (lv_at hl 2 rfl) ?_
        obtain ⟨g11, hf⟩ := xg_some hf
        refine lv_idiv hx hb dX2_toParts_44 (xne_of g11) ?_
        refine lv_istore (lv' := [(7, .int ((a1 * (S.1 3 a2.toNatClampNeg)) / (S.1 2 a2.toNatClampNeg))), (6, .int (a1 * (S.1 3 a2.toNatClampNeg))), (5, .int (S.1 3 a2.toNatClampNeg)), (4, .int (S.1 2 a2.toNatClampNeg)), (0, .ref (G.2.2 1)), (1, .int a1), (2, .int a2), (3, .int a3)]) hx hb dX2_toParts_45 hl (by decide) rfl (fun ls hl => ?_)
        refine lv_goto (tgt := 86) hx hb dX2_toParts_47 (by decide) ?_
        refine lv_iload hx hb dX2_toParts_86 (lv_at hl 0 rfl) ?_
        refine lv_iload hx hb dX2_toParts_88 (lv_at hl 3 rfl) ?_
        refine lv_imul hx hb dX2_toParts_90 ?_
        refine lv_iload hx hb dX2_toParts_91 (lv_at hl 2 rfl) ?_
        obtain ⟨g12, hf⟩ := xg_some hf
        refine lv_idiv hx hb dX2_toParts_93 (xne_of g12) ?_
        exact x_iret X hr hlk hP hS  (Option.some.inj hf) (rfl) dX2_toParts_94
    · have hf := xif_f hf e4
      refine lv_iload_n hx hb dX2_toParts_28 rfl (lv_at hl 3 rfl) ?_
      exact x_iret X hr hlk hP hS  (Option.some.inj hf) (rfl) dX2_toParts_29
def f_X7_built (n : Nat) (S : xS) (a1 : Int32) : Option Int32 :=
  xg (xin a1 10) (xg (xin a1 10) (some ((S.1 11 a1.toNatClampNeg) + (S.1 12 a1.toNatClampNeg))))
set_option maxHeartbeats 4000000 in
set_option maxRecDepth 100000 in
theorem c_X7_built (l : Launch) (G : xG) (n : Nat)  (S : xS) (a1 : Int32) (r : Int32) (hf : f_X7_built n S a1 = some r) : xMi l G yX7_built cX7_built 2 (some .int) 0 0 [.ref (G.2.2 9), .int a1] S r S := by
  refine xMi_of (own := RX7) (by decide +kernel) rfl (Nat.le_of_ble_eq_true rfl) ?_
  intro p e s m args below meth c X hr hlk H locs ls hP hS hl
  have hl : lv_has ls 2 [(0, .ref (G.2.2 9)), (1, .int a1)] := hl
  obtain ⟨hx, hb, hml, hown, hts, hE⟩ := id X
  unfold f_X7_built at hf
  refine lv_aload_n hx hb dX7_built_0 rfl (lv_at hl 0 rfl) ?_
  refine x_getR X hP fl_X7_15 (by decide) rfl rfl dX7_built_1 ?_
  refine lv_iload_n hx hb dX7_built_4 rfl (lv_at hl 1 rfl) ?_
  obtain ⟨g1, hf⟩ := xg_some hf
  refine x_iald X hP (by decide) rfl g1 dX7_built_5 ?_
  refine lv_aload_n hx hb dX7_built_6 rfl (lv_at hl 0 rfl) ?_
  refine x_getR X hP fl_X7_18 (by decide) rfl rfl dX7_built_7 ?_
  refine lv_iload_n hx hb dX7_built_10 rfl (lv_at hl 1 rfl) ?_
  obtain ⟨g2, hf⟩ := xg_some hf
  refine x_iald X hP (by decide) rfl g2 dX7_built_11 ?_
  refine lv_iadd hx hb dX7_built_12 ?_
  exact x_iret X hr hlk hP hS  (Option.some.inj hf) (rfl) dX7_built_13
def b_X7_reckon_2 (n : Nat) (k2 : xS → Int32 → Option xS) (S : xS) (a1 : Int32) : Option xS :=
  (if (S.1 4 3) ≤ a1 then some S else xg (xin a1 10) (xg (xin (S.1 6 a1.toNatClampNeg) 3) (xg (xin a1 10) (xg (xin a1 10) (xg (xin a1 10) ((f_X4_master n (xst S 10 a1.toNatClampNeg (((S.1 2 (S.1 6 a1.toNatClampNeg).toNatClampNeg) * (S.1 7 a1.toNatClampNeg)) / (12 : Int32))) a1).bind fun r7 => ((f_X4_habit n (xst S 10 a1.toNatClampNeg (((S.1 2 (S.1 6 a1.toNatClampNeg).toNatClampNeg) * (S.1 7 a1.toNatClampNeg)) / (12 : Int32))) a1).bind fun r9 => ((f_X2_toParts n (xst S 10 a1.toNatClampNeg (((S.1 2 (S.1 6 a1.toNatClampNeg).toNatClampNeg) * (S.1 7 a1.toNatClampNeg)) / (12 : Int32))) ((xst S 10 a1.toNatClampNeg (((S.1 2 (S.1 6 a1.toNatClampNeg).toNatClampNeg) * (S.1 7 a1.toNatClampNeg)) / (12 : Int32))).1 10 a1.toNatClampNeg) r7 r9).bind fun r11 => (xg (xin a1 10) (xg (xin a1 11) ((f_X7_built n (xst (xst S 10 a1.toNatClampNeg (((S.1 2 (S.1 6 a1.toNatClampNeg).toNatClampNeg) * (S.1 7 a1.toNatClampNeg)) / (12 : Int32))) 11 a1.toNatClampNeg r11) a1).bind fun r15 => (xg (xin (a1 + (1 : Int32)) 11) (xg (xin a1 11) (xg (xin a1 10) (xg (xin (a1 + (1 : Int32)) 11) (k2 (xst (xst (xst (xst S 10 a1.toNatClampNeg (((S.1 2 (S.1 6 a1.toNatClampNeg).toNatClampNeg) * (S.1 7 a1.toNatClampNeg)) / (12 : Int32))) 11 a1.toNatClampNeg r11) 13 (a1 + (1 : Int32)).toNatClampNeg (((xst (xst S 10 a1.toNatClampNeg (((S.1 2 (S.1 6 a1.toNatClampNeg).toNatClampNeg) * (S.1 7 a1.toNatClampNeg)) / (12 : Int32))) 11 a1.toNatClampNeg r11).1 13 a1.toNatClampNeg) + r15)) 14 (a1 + (1 : Int32)).toNatClampNeg (((xst (xst (xst S 10 a1.toNatClampNeg (((S.1 2 (S.1 6 a1.toNatClampNeg).toNatClampNeg) * (S.1 7 a1.toNatClampNeg)) / (12 : Int32))) 11 a1.toNatClampNeg r11) 13 (a1 + (1 : Int32)).toNatClampNeg (((xst (xst S 10 a1.toNatClampNeg (((S.1 2 (S.1 6 a1.toNatClampNeg).toNatClampNeg) * (S.1 7 a1.toNatClampNeg)) / (12 : Int32))) 11 a1.toNatClampNeg r11).1 13 a1.toNatClampNeg) + r15)).1 14 a1.toNatClampNeg) + ((xst (xst (xst S 10 a1.toNatClampNeg (((S.1 2 (S.1 6 a1.toNatClampNeg).toNatClampNeg) * (S.1 7 a1.toNatClampNeg)) / (12 : Int32))) 11 a1.toNatClampNeg r11) 13 (a1 + (1 : Int32)).toNatClampNeg (((xst (xst S 10 a1.toNatClampNeg (((S.1 2 (S.1 6 a1.toNatClampNeg).toNatClampNeg) * (S.1 7 a1.toNatClampNeg)) / (12 : Int32))) 11 a1.toNatClampNeg r11).1 13 a1.toNatClampNeg) + r15)).1 10 a1.toNatClampNeg))) (a1 + 1)))))))))))))))))
def l_X7_reckon_2 (n : Nat) : Nat → xS → Int32 → Option xS
  | 0, _, _ => none
  | j + 1, S, a1 => b_X7_reckon_2 n (l_X7_reckon_2 n j) S a1
set_option maxHeartbeats 4000000 in
set_option maxRecDepth 100000 in
theorem t_X7_reckon_2 {p : Program} {l : Launch} {e : Env} {s : State} {m : MethodId} {args : Array Value} {below : List Frame} {meth : Method} {c : Code} {G : xG} (X : xC p s m args c G RX7 cX7_reckon 2) (hr : meth.sig.returnType = none) (hlk : meth.locks = false) {n : Nat} {S' : xS} : ∀ (j : Nat) (S : xS) (a1 : Int32), l_X7_reckon_2 n j S a1 = some S' → xGo p l e { frames := 1, cells := 0, slots := 0, locals := 27 } s m args below meth c G 2 0 0 (MQ below (xQv G S') args s 0 0 (xA G)) S 2 [(0, .ref (G.2.2 9)), (1, .int a1)] [] := by
  intro j
  induction j with
  | zero => intro S a1 hf; exact nomatch (show (none : Option xS) = _ from hf)
  | succ j ih =>
    intro S a1 hf H locs ls hP hS hl
    have hf : b_X7_reckon_2 n (l_X7_reckon_2 n j) S a1 = some S' := hf
    unfold b_X7_reckon_2 at hf
    obtain ⟨hx, hb, hml, hown, hts, hE⟩ := id X
    refine lv_iload_n hx hb dX7_reckon_2 rfl (lv_at hl 1 rfl) ?_
    refine lv_aload_n hx hb dX7_reckon_3 rfl (lv_at hl 0 rfl) ?_
    refine x_getR X hP fl_X7_31 (by decide) rfl rfl dX7_reckon_4 ?_
    refine x_getIN X hP fn_X7_35 (by decide) rfl rfl dX7_reckon_7 ?_
    refine lv_icmp_ge (tgt := 131) hx hb dX7_reckon_10 (by decide) (fun e1 => ?_) (fun e1 => ?_)
    · have hf := xif_t hf e1
      exact x_vret X hr hlk hP hS (Option.some.inj hf) dX7_reckon_131
    · have hf := xif_f hf e1
      refine lv_aload_n hx hb dX7_reckon_13 rfl (lv_at hl 0 rfl) ?_
      refine x_getR X hP fl_X7_9 (by decide) rfl rfl dX7_reckon_14 ?_
      refine lv_iload_n hx hb dX7_reckon_17 rfl (lv_at hl 1 rfl) ?_
      refine lv_aload_n hx hb dX7_reckon_18 rfl (lv_at hl 0 rfl) ?_
      refine x_getR X hP fl_X7_27 (by decide) rfl rfl dX7_reckon_19 ?_
      refine x_getRN X hP fn_X7_41 (by decide) rfl rfl dX7_reckon_22 ?_
      refine lv_aload_n hx hb dX7_reckon_25 rfl (lv_at hl 0 rfl) ?_
      refine x_getR X hP fl_X7_31 (by decide) rfl rfl dX7_reckon_26 ?_
      refine x_getRN X hP fn_X7_46 (by decide) rfl rfl dX7_reckon_29 ?_
      refine lv_iload_n hx hb dX7_reckon_32 rfl (lv_at hl 1 rfl) ?_
      obtain ⟨g2, hf⟩ := xg_some hf
      refine x_iald X hP (by decide) rfl g2 dX7_reckon_33 ?_
      obtain ⟨g3, hf⟩ := xg_some hf
      refine x_iald X hP (by decide) rfl g3 dX7_reckon_34 ?_
      refine lv_aload_n hx hb dX7_reckon_35 rfl (lv_at hl 0 rfl) ?_
      refine x_getR X hP fl_X7_31 (by decide) rfl rfl dX7_reckon_36 ?_
      refine x_getRN X hP fn_X7_49 (by decide) rfl rfl dX7_reckon_39 ?_
      refine lv_iload_n hx hb dX7_reckon_42 rfl (lv_at hl 1 rfl) ?_
      obtain ⟨g4, hf⟩ := xg_some hf
      refine x_iald X hP (by decide) rfl g4 dX7_reckon_43 ?_
      refine lv_imul hx hb dX7_reckon_44 ?_
      refine lv_bipush (v := 12) hx hb dX7_reckon_45 (by decide) ?_
      refine lv_idiv hx hb dX7_reckon_47 (by decide) ?_
      obtain ⟨g5, hf⟩ := xg_some hf
      refine x_iast X hP hS (by decide) rfl g5 dX7_reckon_48 (fun H locs hP hS => ?_)
      refine lv_aload_n hx hb dX7_reckon_49 rfl (lv_at hl 0 rfl) ?_
      refine x_getR X hP fl_X7_15 (by decide) rfl rfl dX7_reckon_50 ?_
      refine lv_iload_n hx hb dX7_reckon_53 rfl (lv_at hl 1 rfl) ?_
      refine lv_aload_n hx hb dX7_reckon_54 rfl (lv_at hl 0 rfl) ?_
      refine x_getR X hP fl_X7_27 (by decide) rfl rfl dX7_reckon_55 ?_
      refine lv_aload_n hx hb dX7_reckon_58 rfl (lv_at hl 0 rfl) ?_
      refine x_getR X hP fl_X7_9 (by decide) rfl rfl dX7_reckon_59 ?_
      refine lv_iload_n hx hb dX7_reckon_62 rfl (lv_at hl 1 rfl) ?_
      obtain ⟨g6, hf⟩ := xg_some hf
      refine x_iald X hP (by decide) rfl g6 dX7_reckon_63 ?_
      refine lv_aload_n hx hb dX7_reckon_64 rfl (lv_at hl 0 rfl) ?_
      refine x_getR X hP fl_X7_31 (by decide) rfl rfl dX7_reckon_65 ?_
      refine lv_iload_n hx hb dX7_reckon_68 rfl (lv_at hl 1 rfl) ?_
      obtain ⟨r7, h8, hf⟩ := xb_some hf
      refine x_cVi (As := [.int a1]) (rest := [.int ((xst S 10 a1.toNatClampNeg (((S.1 2 (S.1 6 a1.toNatClampNeg).toNatClampNeg) * (S.1 7 a1.toNatClampNeg)) / (12 : Int32))).1 10 a1.toNatClampNeg), .ref (G.2.2 1), .int a1, .ref (G.2.2 11)]) X hP hS kc_X7_52 (c_X4_master l G n (xst S 10 a1.toNatClampNeg (((S.1 2 (S.1 6 a1.toNatClampNeg).toNatClampNeg) * (S.1 7 a1.toNatClampNeg)) / (12 : Int32))) a1 _ h8) ⟨Nat.le_of_ble_eq_true rfl, Nat.le_of_ble_eq_true rfl⟩ (by decide) rfl rfl rfl hl.1 rfl (Nat.le_of_ble_eq_true rfl) ⟨Nat.zero_le _, Nat.zero_le _⟩ dX7_reckon_69 (fun H locs hP hS => ?_)
      refine lv_aload_n hx hb dX7_reckon_72 rfl (lv_at hl 0 rfl) ?_
      refine x_getR X hP fl_X7_31 (by decide) rfl rfl dX7_reckon_73 ?_
      refine lv_iload_n hx hb dX7_reckon_76 rfl (lv_at hl 1 rfl) ?_
      obtain ⟨r9, h10, hf⟩ := xb_some hf
      refine x_cVi (As := [.int a1]) (rest := [.int r7, .int ((xst S 10 a1.toNatClampNeg (((S.1 2 (S.1 6 a1.toNatClampNeg).toNatClampNeg) * (S.1 7 a1.toNatClampNeg)) / (12 : Int32))).1 10 a1.toNatClampNeg), .ref (G.2.2 1), .int a1, .ref (G.2.2 11)]) X hP hS kc_X7_56 (c_X4_habit l G n (xst S 10 a1.toNatClampNeg (((S.1 2 (S.1 6 a1.toNatClampNeg).toNatClampNeg) * (S.1 7 a1.toNatClampNeg)) / (12 : Int32))) a1 _ h10) ⟨Nat.le_of_ble_eq_true rfl, Nat.le_of_ble_eq_true rfl⟩ (by decide) rfl rfl rfl hl.1 rfl (Nat.le_of_ble_eq_true rfl) ⟨Nat.zero_le _, Nat.zero_le _⟩ dX7_reckon_77 (fun H locs hP hS => ?_)
      obtain ⟨r11, h12, hf⟩ := xb_some hf
      refine x_cVi (As := [.int ((xst S 10 a1.toNatClampNeg (((S.1 2 (S.1 6 a1.toNatClampNeg).toNatClampNeg) * (S.1 7 a1.toNatClampNeg)) / (12 : Int32))).1 10 a1.toNatClampNeg), .int r7, .int r9]) (rest := [.int a1, .ref (G.2.2 11)]) X hP hS kc_X7_59 (c_X2_toParts l G n (xst S 10 a1.toNatClampNeg (((S.1 2 (S.1 6 a1.toNatClampNeg).toNatClampNeg) * (S.1 7 a1.toNatClampNeg)) / (12 : Int32))) ((xst S 10 a1.toNatClampNeg (((S.1 2 (S.1 6 a1.toNatClampNeg).toNatClampNeg) * (S.1 7 a1.toNatClampNeg)) / (12 : Int32))).1 10 a1.toNatClampNeg) r7 r9 _ h12) ⟨Nat.le_of_ble_eq_true rfl, Nat.le_of_ble_eq_true rfl⟩ (by decide) rfl rfl rfl hl.1 rfl (Nat.le_of_ble_eq_true rfl) ⟨Nat.zero_le _, Nat.zero_le _⟩ dX7_reckon_80 (fun H locs hP hS => ?_)
      obtain ⟨g13, hf⟩ := xg_some hf
      refine x_iast X hP hS (by decide) rfl g13 dX7_reckon_83 (fun H locs hP hS => ?_)
      refine lv_aload_n hx hb dX7_reckon_84 rfl (lv_at hl 0 rfl) ?_
      refine x_getR X hP fl_X7_21 (by decide) rfl rfl dX7_reckon_85 ?_
      refine lv_iload_n hx hb dX7_reckon_88 rfl (lv_at hl 1 rfl) ?_
      refine lv_iconst (v := 1) hx hb dX7_reckon_89 (by decide) ?_
      refine lv_iadd hx hb dX7_reckon_90 ?_
      refine lv_aload_n hx hb dX7_reckon_91 rfl (lv_at hl 0 rfl) ?_
      refine x_getR X hP fl_X7_21 (by decide) rfl rfl dX7_reckon_92 ?_
      refine lv_iload_n hx hb dX7_reckon_95 rfl (lv_at hl 1 rfl) ?_
      obtain ⟨g14, hf⟩ := xg_some hf
      refine x_iald X hP (by decide) rfl g14 dX7_reckon_96 ?_
      refine lv_aload_n hx hb dX7_reckon_97 rfl (lv_at hl 0 rfl) ?_
      refine lv_iload_n hx hb dX7_reckon_98 rfl (lv_at hl 1 rfl) ?_
      obtain ⟨r15, h16, hf⟩ := xb_some hf
      refine x_cVi (As := [.int a1]) (rest := [.int ((xst (xst S 10 a1.toNatClampNeg (((S.1 2 (S.1 6 a1.toNatClampNeg).toNatClampNeg) * (S.1 7 a1.toNatClampNeg)) / (12 : Int32))) 11 a1.toNatClampNeg r11).1 13 a1.toNatClampNeg), .int (a1 + (1 : Int32)), .ref (G.2.2 13)]) X hP hS kc_X7_63 (c_X7_built l G n (xst (xst S 10 a1.toNatClampNeg (((S.1 2 (S.1 6 a1.toNatClampNeg).toNatClampNeg) * (S.1 7 a1.toNatClampNeg)) / (12 : Int32))) 11 a1.toNatClampNeg r11) a1 _ h16) ⟨Nat.le_of_ble_eq_true rfl, Nat.le_of_ble_eq_true rfl⟩ (by decide) rfl rfl rfl hl.1 rfl (Nat.le_of_ble_eq_true rfl) ⟨Nat.zero_le _, Nat.zero_le _⟩ dX7_reckon_99 (fun H locs hP hS => ?_)
      refine lv_iadd hx hb dX7_reckon_102 ?_
      obtain ⟨g17, hf⟩ := xg_some hf
      refine x_iast X hP hS (by decide) rfl g17 dX7_reckon_103 (fun H locs hP hS => ?_)
      refine lv_aload_n hx hb dX7_reckon_104 rfl (lv_at hl 0 rfl) ?_
      refine x_getR X hP fl_X7_24 (by decide) rfl rfl dX7_reckon_105 ?_
      refine lv_iload_n hx hb dX7_reckon_108 rfl (lv_at hl 1 rfl) ?_
      refine lv_iconst (v := 1) hx hb dX7_reckon_109 (by decide) ?_
      refine lv_iadd hx hb dX7_reckon_110 ?_
      refine lv_aload_n hx hb dX7_reckon_111 rfl (lv_at hl 0 rfl) ?_
      refine x_getR X hP fl_X7_24 (by decide) rfl rfl dX7_reckon_112 ?_
      refine lv_iload_n hx hb dX7_reckon_115 rfl (lv_at hl 1 rfl) ?_
      obtain ⟨g18, hf⟩ := xg_some hf
      refine x_iald X hP (by decide) rfl g18 dX7_reckon_116 ?_
      refine lv_aload_n hx hb dX7_reckon_117 rfl (lv_at hl 0 rfl) ?_
      refine x_getR X hP fl_X7_9 (by decide) rfl rfl dX7_reckon_118 ?_
      refine lv_iload_n hx hb dX7_reckon_121 rfl (lv_at hl 1 rfl) ?_
      obtain ⟨g19, hf⟩ := xg_some hf
      refine x_iald X hP (by decide) rfl g19 dX7_reckon_122 ?_
      refine lv_iadd hx hb dX7_reckon_123 ?_
      obtain ⟨g20, hf⟩ := xg_some hf
      refine x_iast X hP hS (by decide) rfl g20 dX7_reckon_124 (fun H locs hP hS => ?_)
      refine lv_iinc (v := a1 + 1) (lv' := [(1, .int (a1 + 1)), (0, .ref (G.2.2 9))]) hx hb dX7_reckon_125 hl (k := 1) rfl rfl (by decide) rfl (fun ls hl => ?_)
      refine lv_goto (tgt := 2) hx hb dX7_reckon_128 (by decide) ?_
      exact ih (xst (xst (xst (xst S 10 a1.toNatClampNeg (((S.1 2 (S.1 6 a1.toNatClampNeg).toNatClampNeg) * (S.1 7 a1.toNatClampNeg)) / (12 : Int32))) 11 a1.toNatClampNeg r11) 13 (a1 + (1 : Int32)).toNatClampNeg (((xst (xst S 10 a1.toNatClampNeg (((S.1 2 (S.1 6 a1.toNatClampNeg).toNatClampNeg) * (S.1 7 a1.toNatClampNeg)) / (12 : Int32))) 11 a1.toNatClampNeg r11).1 13 a1.toNatClampNeg) + r15)) 14 (a1 + (1 : Int32)).toNatClampNeg (((xst (xst (xst S 10 a1.toNatClampNeg (((S.1 2 (S.1 6 a1.toNatClampNeg).toNatClampNeg) * (S.1 7 a1.toNatClampNeg)) / (12 : Int32))) 11 a1.toNatClampNeg r11) 13 (a1 + (1 : Int32)).toNatClampNeg (((xst (xst S 10 a1.toNatClampNeg (((S.1 2 (S.1 6 a1.toNatClampNeg).toNatClampNeg) * (S.1 7 a1.toNatClampNeg)) / (12 : Int32))) 11 a1.toNatClampNeg r11).1 13 a1.toNatClampNeg) + r15)).1 14 a1.toNatClampNeg) + ((xst (xst (xst S 10 a1.toNatClampNeg (((S.1 2 (S.1 6 a1.toNatClampNeg).toNatClampNeg) * (S.1 7 a1.toNatClampNeg)) / (12 : Int32))) 11 a1.toNatClampNeg r11) 13 (a1 + (1 : Int32)).toNatClampNeg (((xst (xst S 10 a1.toNatClampNeg (((S.1 2 (S.1 6 a1.toNatClampNeg).toNatClampNeg) * (S.1 7 a1.toNatClampNeg)) / (12 : Int32))) 11 a1.toNatClampNeg r11).1 13 a1.toNatClampNeg) + r15)).1 10 a1.toNatClampNeg))) (a1 + 1) hf H locs ls hP hS (lv_sub hl [1, 0] rfl)
def f_X7_reckon (n : Nat) (S : xS)  : Option xS :=
  l_X7_reckon_2 n n S (0 : Int32)
set_option maxHeartbeats 4000000 in
set_option maxRecDepth 100000 in
theorem c_X7_reckon (l : Launch) (G : xG) (n : Nat)  (S : xS)  (S' : xS) (hf : f_X7_reckon n S  = some S') : xMv l G yX7_reckon cX7_reckon 2 none 1 27 [.ref (G.2.2 9)] S S' := by
  refine xMv_of (own := RX7) (by decide +kernel) rfl (Nat.le_of_ble_eq_true rfl) ?_
  intro p e s m args below meth c X hr hlk H locs ls hP hS hl
  have hl : lv_has ls 2 [(0, .ref (G.2.2 9))] := hl
  obtain ⟨hx, hb, hml, hown, hts, hE⟩ := id X
  unfold f_X7_reckon at hf
  refine lv_iconst (v := 0) hx hb dX7_reckon_0 (by decide) ?_
  refine lv_istore_n (lv' := [(1, .int (0 : Int32)), (0, .ref (G.2.2 9))]) hx hb dX7_reckon_1 rfl hl (by decide) rfl (fun ls hl => ?_)
  exact t_X7_reckon_2 X hr hlk   n S (0 : Int32) hf H locs ls hP hS (lv_sub hl [1, 0] rfl)
def j_X8_measure_30 (n : Nat) (S : xS) (a1 : Int32) (a2 : Int32) (a3 : Int32) (s0 : Int32) (s1 : Int32) (s2 : Int32) : Option (Int32 × xS) :=
  (if (f_X8_within s2 s1 s0) = 0 then some ((-2 : Int32), S) else (f_X2_exchange n S a1 a2 a3).bind fun r5 => ((f_X7_reckon n r5.2).bind fun r7 => (some (r5.1, r7))))
set_option maxHeartbeats 4000000 in
set_option maxRecDepth 100000 in
theorem t_X8_measure_30 {p : Program} {l : Launch} {e : Env} {s : State} {m : MethodId} {args : Array Value} {below : List Frame} {meth : Method} {c : Code} {G : xG} (X : xC p s m args c G RX8 cX8_measure 5) (hr : meth.sig.returnType = (some .int)) (hlk : meth.locks = false) {n : Nat} {r : Int32} {S' : xS} : ∀ (S : xS) (a1 : Int32) (a2 : Int32) (a3 : Int32) (s0 : Int32) (s1 : Int32) (s2 : Int32), j_X8_measure_30 n S a1 a2 a3 s0 s1 s2 = some (r, S') → xGo p l e { frames := 2, cells := 0, slots := 0, locals := 48 } s m args below meth c G 5 0 0 (MQ below (xQi G r S') args s 0 0 (xA G)) S 30 [(0, .ref (G.2.2 0)), (1, .int a1), (2, .int a2), (3, .int a3)] [.int s0, .int s1, .int s2] := by
  intro S a1 a2 a3 s0 s1 s2 hf H locs ls hP hS hl
  unfold j_X8_measure_30 at hf
  obtain ⟨hx, hb, hml, hown, hts, hE⟩ := id X
  refine x_cSi (As := [.int s2, .int s1, .int s0]) (rest := []) X hP hS kc_X8_79 (c_X8_within l G  S s2 s1 s0 _ rfl) ⟨Nat.le_of_ble_eq_true rfl, Nat.le_of_ble_eq_true rfl⟩ rfl hl.1 rfl (Nat.le_of_ble_eq_true rfl) ⟨Nat.zero_le _, Nat.zero_le _⟩ dX8_measure_30 (fun H locs hP hS => ?_)
  refine lv_if_ne (tgt := 39) hx hb dX8_measure_33 (by decide) (fun e4 => ?_) (fun e4 => ?_)
  · have hf := xif_f hf e4
    refine lv_aload_n hx hb dX8_measure_39 rfl (lv_at hl 0 rfl) ?_
    refine x_getR X hP fl_X8_16 (by decide) rfl rfl dX8_measure_40 ?_
    refine lv_iload_n hx hb dX8_measure_43 rfl (lv_at hl 1 rfl) ?_
    refine lv_iload_n hx hb dX8_measure_44 rfl (lv_at hl 2 rfl) ?_
    refine lv_iload_n hx hb dX8_measure_45 rfl (lv_at hl 3 rfl) ?_
    obtain ⟨r5, h6, hf⟩ := xb_some hf
    refine x_cVi (As := [.int a1, .int a2, .int a3]) (rest := []) X hP hS kc_X8_83 (c_X2_exchange l G n S a1 a2 a3 r5.1 r5.2 h6) ⟨Nat.le_of_ble_eq_true rfl, Nat.le_of_ble_eq_true rfl⟩ (by decide) rfl rfl rfl hl.1 rfl (Nat.le_of_ble_eq_true rfl) ⟨Nat.zero_le _, Nat.zero_le _⟩ dX8_measure_46 (fun H locs hP hS => ?_)
    refine lv_istore (lv' := [(4, .int r5.1), (0, .ref (G.2.2 0)), (1, .int a1), (2, .int a2), (3, .int a3)]) hx hb dX8_measure_49 hl (by decide) rfl (fun ls hl => ?_)
    refine lv_aload_n hx hb dX8_measure_51 rfl (lv_at hl 1 rfl) ?_
    refine x_getR X hP fl_X8_32 (by decide) rfl rfl dX8_measure_52 ?_
    obtain ⟨r7, h8, hf⟩ := xb_some hf
    refine x_cVv (As := []) (rest := []) X hP hS kc_X8_87 (c_X7_reckon l G n r5.2  _ h8) ⟨Nat.le_of_ble_eq_true rfl, Nat.le_of_ble_eq_true rfl⟩ (by decide) rfl rfl rfl hl.1 rfl (Nat.le_of_ble_eq_true rfl) ⟨Nat.zero_le _, Nat.zero_le _⟩ dX8_measure_55 (fun H locs hP hS => ?_)
    refine lv_iload hx hb dX8_measure_58 (lv_at hl 0 rfl) ?_
    exact x_iret X hr hlk hP hS  ((Prod.mk.inj (Option.some.inj hf)).1) ((Prod.mk.inj (Option.some.inj hf)).2) dX8_measure_60
  · have hf := xif_t hf e4
    refine lv_bipush (v := (-2)) hx hb dX8_measure_36 (by decide) ?_
    exact x_iret X hr hlk hP hS  ((Prod.mk.inj (Option.some.inj hf)).1) ((Prod.mk.inj (Option.some.inj hf)).2) dX8_measure_38
def f_X8_measure (n : Nat) (S : xS) (a1 : Int32) (a2 : Int32) (a3 : Int32) : Option (Int32 × xS) :=
  (if (f_X8_isMaster a1) = 0 then some ((-2 : Int32), S) else (if (f_X8_within a2 (0 : Int32) (1 : Int32)) = 0 then some ((-2 : Int32), S) else (if a2 = 0 then j_X8_measure_30 n S a1 a2 a3 (999 : Int32) (1 : Int32) a3 else j_X8_measure_30 n S a1 a2 a3 (9 : Int32) (1 : Int32) a3)))
set_option maxHeartbeats 4000000 in
set_option maxRecDepth 100000 in
theorem c_X8_measure (l : Launch) (G : xG) (n : Nat)  (S : xS) (a1 : Int32) (a2 : Int32) (a3 : Int32) (r : Int32) (S' : xS) (hf : f_X8_measure n S a1 a2 a3 = some (r, S')) : xMi l G yX8_measure cX8_measure 5 (some .int) 2 48 [.ref (G.2.2 0), .int a1, .int a2, .int a3] S r S' := by
  refine xMi_of (own := RX8) (by decide +kernel) rfl (Nat.le_of_ble_eq_true rfl) ?_
  intro p e s m args below meth c X hr hlk H locs ls hP hS hl
  have hl : lv_has ls 5 [(0, .ref (G.2.2 0)), (1, .int a1), (2, .int a2), (3, .int a3)] := hl
  obtain ⟨hx, hb, hml, hown, hts, hE⟩ := id X
  unfold f_X8_measure at hf
  refine lv_iload_n hx hb dX8_measure_0 rfl (lv_at hl 1 rfl) ?_
  refine x_cSi (As := [.int a1]) (rest := []) X hP hS kc_X8_75 (c_X8_isMaster l G  S a1 _ rfl) ⟨Nat.le_of_ble_eq_true rfl, Nat.le_of_ble_eq_true rfl⟩ rfl hl.1 rfl (Nat.le_of_ble_eq_true rfl) ⟨Nat.zero_le _, Nat.zero_le _⟩ dX8_measure_1 (fun H locs hP hS => ?_)
  refine lv_if_eq (tgt := 36) hx hb dX8_measure_4 (by decide) (fun e1 => ?_) (fun e1 => ?_)
  · have hf := xif_t hf e1
    refine lv_bipush (v := (-2)) hx hb dX8_measure_36 (by decide) ?_
    exact x_iret X hr hlk hP hS  ((Prod.mk.inj (Option.some.inj hf)).1) ((Prod.mk.inj (Option.some.inj hf)).2) dX8_measure_38
  · have hf := xif_f hf e1
    refine lv_iload_n hx hb dX8_measure_7 rfl (lv_at hl 2 rfl) ?_
    refine lv_iconst (v := 0) hx hb dX8_measure_8 (by decide) ?_
    refine lv_iconst (v := 1) hx hb dX8_measure_9 (by decide) ?_
    refine x_cSi (As := [.int a2, .int (0 : Int32), .int (1 : Int32)]) (rest := []) X hP hS kc_X8_79 (c_X8_within l G  S a2 (0 : Int32) (1 : Int32) _ rfl) ⟨Nat.le_of_ble_eq_true rfl, Nat.le_of_ble_eq_true rfl⟩ rfl hl.1 rfl (Nat.le_of_ble_eq_true rfl) ⟨Nat.zero_le _, Nat.zero_le _⟩ dX8_measure_10 (fun H locs hP hS => ?_)
    refine lv_if_eq (tgt := 36) hx hb dX8_measure_13 (by decide) (fun e2 => ?_) (fun e2 => ?_)
    · have hf := xif_t hf e2
      refine lv_bipush (v := (-2)) hx hb dX8_measure_36 (by decide) ?_
      exact x_iret X hr hlk hP hS  ((Prod.mk.inj (Option.some.inj hf)).1) ((Prod.mk.inj (Option.some.inj hf)).2) dX8_measure_38
    · have hf := xif_f hf e2
      refine lv_iload_n hx hb dX8_measure_16 rfl (lv_at hl 3 rfl) ?_
      refine lv_iconst (v := 1) hx hb dX8_measure_17 (by decide) ?_
      refine lv_iload_n hx hb dX8_measure_18 rfl (lv_at hl 2 rfl) ?_
      refine lv_if_ne (tgt := 28) hx hb dX8_measure_19 (by decide) (fun e3 => ?_) (fun e3 => ?_)
      · have hf := xif_f hf e3
        refine lv_bipush (v := 9) hx hb dX8_measure_28 (by decide) ?_
        exact t_X8_measure_30 X hr hlk   S a1 a2 a3 (9 : Int32) (1 : Int32) a3 hf H locs ls hP hS (lv_sub hl [0, 1, 2, 3] rfl)
      · have hf := xif_t hf e3
        refine lv_sipush (v := 999) hx hb dX8_measure_22 (by decide) ?_
        refine lv_goto (tgt := 30) hx hb dX8_measure_25 (by decide) ?_
        exact t_X8_measure_30 X hr hlk   S a1 a2 a3 (999 : Int32) (1 : Int32) a3 hf H locs ls hP hS (lv_sub hl [0, 1, 2, 3] rfl)
def f_X9_in (a0 : Int32) (a1 : Int32) (a2 : Int32) : Int32 :=
  (if a0 < a1 then (0 : Int32) else (if a2 < a0 then (0 : Int32) else (1 : Int32)))
theorem fb_X9_in (a0 : Int32) (a1 : Int32) (a2 : Int32) : f_X9_in a0 a1 a2 = 0 ∨ f_X9_in a0 a1 a2 = 1 := by
  unfold f_X9_in
  repeat' first | exact Or.inl rfl | exact Or.inr rfl | split
set_option maxHeartbeats 4000000 in
set_option maxRecDepth 100000 in
theorem c_X9_in (l : Launch) (G : xG)  (S : xS) (a0 : Int32) (a1 : Int32) (a2 : Int32) (r : Int32) (hf : f_X9_in a0 a1 a2 = r) : xMi l G yX9_in cX9_in 3 (some .boolean) 0 0 [.int a0, .int a1, .int a2] S r S := by
  refine xMi_of (own := RX9) (by decide +kernel) rfl (Nat.le_of_ble_eq_true rfl) ?_
  intro p e s m args below meth c X hr hlk H locs ls hP hS hl
  have hl : lv_has ls 3 [(0, .int a0), (1, .int a1), (2, .int a2)] := hl
  obtain ⟨hx, hb, hml, hown, hts, hE⟩ := id X
  unfold f_X9_in at hf
  refine lv_iload_n hx hb dX9_in_0 rfl (lv_at hl 0 rfl) ?_
  refine lv_iload_n hx hb dX9_in_1 rfl (lv_at hl 1 rfl) ?_
  refine lv_icmp_lt (tgt := 14) hx hb dX9_in_2 (by decide) (fun e1 => ?_) (fun e1 => ?_)
  · have hf := xif_t hf e1
    refine lv_iconst (v := 0) hx hb dX9_in_14 (by decide) ?_
    exact x_zret X hr hlk hP hS (Or.inl rfl) (hf) (rfl) dX9_in_15
  · have hf := xif_f hf e1
    refine lv_iload_n hx hb dX9_in_5 rfl (lv_at hl 0 rfl) ?_
    refine lv_iload_n hx hb dX9_in_6 rfl (lv_at hl 2 rfl) ?_
    refine lv_icmp_gt (tgt := 14) hx hb dX9_in_7 (by decide) (fun e2 => ?_) (fun e2 => ?_)
    · have hf := xif_t hf e2
      refine lv_iconst (v := 0) hx hb dX9_in_14 (by decide) ?_
      exact x_zret X hr hlk hP hS (Or.inl rfl) (hf) (rfl) dX9_in_15
    · have hf := xif_f hf e2
      refine lv_iconst (v := 1) hx hb dX9_in_10 (by decide) ?_
      refine lv_goto (tgt := 15) hx hb dX9_in_11 (by decide) ?_
      exact x_zret X hr hlk hP hS (Or.inr rfl) (hf) (rfl) dX9_in_15
def j_X9_measure_60 (n : Nat) (S : xS) (a1 : Int32) (a2 : Int32) (a3 : Int32) (s0 : Int32) : Option (Int32 × xS) :=
  (if a2 = 0 then xg (xin a1 3) (some (s0, xst S 35 a1.toNatClampNeg a3)) else xg (xin a1 3) (some (s0, xst S 36 a1.toNatClampNeg a3)))
set_option maxHeartbeats 4000000 in
set_option maxRecDepth 100000 in
theorem t_X9_measure_60 {p : Program} {l : Launch} {e : Env} {s : State} {m : MethodId} {args : Array Value} {below : List Frame} {meth : Method} {c : Code} {G : xG} (X : xC p s m args c G RX9 cX9_measure 5) (hr : meth.sig.returnType = (some .int)) (hlk : meth.locks = false) {n : Nat} {r : Int32} {S' : xS} : ∀ (S : xS) (a1 : Int32) (a2 : Int32) (a3 : Int32) (s0 : Int32), j_X9_measure_60 n S a1 a2 a3 s0 = some (r, S') → xGo p l e { frames := 1, cells := 0, slots := 0, locals := 22 } s m args below meth c G 5 0 0 (MQ below (xQi G r S') args s 0 0 (xA G)) S 60 [(0, .ref (G.2.2 34)), (1, .int a1), (2, .int a2), (3, .int a3)] [.int s0] := by
  intro S a1 a2 a3 s0 hf H locs ls hP hS hl
  unfold j_X9_measure_60 at hf
  obtain ⟨hx, hb, hml, hown, hts, hE⟩ := id X
  refine lv_istore (lv' := [(4, .int s0), (0, .ref (G.2.2 34)), (1, .int a1), (2, .int a2), (3, .int a3)]) hx hb dX9_measure_60 hl (by decide) rfl (fun ls hl => ?_)
  refine lv_iload_n hx hb dX9_measure_62 rfl (lv_at hl 3 rfl) ?_
  refine lv_if_ne (tgt := 76) hx hb dX9_measure_63 (by decide) (fun e7 => ?_) (fun e7 => ?_)
  · have hf := xif_f hf e7
    refine lv_aload_n hx hb dX9_measure_76 rfl (lv_at hl 1 rfl) ?_
    refine x_getR X hP fl_X9_13 (by decide) rfl rfl dX9_measure_77 ?_
    refine lv_iload_n hx hb dX9_measure_80 rfl (lv_at hl 2 rfl) ?_
    refine lv_iload_n hx hb dX9_measure_81 rfl (lv_at hl 4 rfl) ?_
    obtain ⟨g8, hf⟩ := xg_some hf
    refine x_iast X hP hS (by decide) rfl g8 dX9_measure_82 (fun H locs hP hS => ?_)
    refine lv_iload hx hb dX9_measure_83 (lv_at hl 0 rfl) ?_
    exact x_iret X hr hlk hP hS  ((Prod.mk.inj (Option.some.inj hf)).1) ((Prod.mk.inj (Option.some.inj hf)).2) dX9_measure_85
  · have hf := xif_t hf e7
    refine lv_aload_n hx hb dX9_measure_66 rfl (lv_at hl 1 rfl) ?_
    refine x_getR X hP fl_X9_7 (by decide) rfl rfl dX9_measure_67 ?_
    refine lv_iload_n hx hb dX9_measure_70 rfl (lv_at hl 2 rfl) ?_
    refine lv_iload_n hx hb dX9_measure_71 rfl (lv_at hl 4 rfl) ?_
    obtain ⟨g9, hf⟩ := xg_some hf
    refine x_iast X hP hS (by decide) rfl g9 dX9_measure_72 (fun H locs hP hS => ?_)
    refine lv_goto (tgt := 83) hx hb dX9_measure_73 (by decide) ?_
    refine lv_iload hx hb dX9_measure_83 (lv_at hl 0 rfl) ?_
    exact x_iret X hr hlk hP hS  ((Prod.mk.inj (Option.some.inj hf)).1) ((Prod.mk.inj (Option.some.inj hf)).2) dX9_measure_85
def j_X9_measure_32 (n : Nat) (S : xS) (a1 : Int32) (a2 : Int32) (a3 : Int32) (s0 : Int32) (s1 : Int32) (s2 : Int32) : Option (Int32 × xS) :=
  (if (f_X9_in s2 s1 s0) = 0 then some ((-2 : Int32), S) else (if a2 = 0 then xg (xin a1 3) (j_X9_measure_60 n S a1 a2 a3 (S.1 35 a1.toNatClampNeg)) else xg (xin a1 3) (j_X9_measure_60 n S a1 a2 a3 (S.1 36 a1.toNatClampNeg))))
set_option maxHeartbeats 4000000 in
set_option maxRecDepth 100000 in
theorem t_X9_measure_32 {p : Program} {l : Launch} {e : Env} {s : State} {m : MethodId} {args : Array Value} {below : List Frame} {meth : Method} {c : Code} {G : xG} (X : xC p s m args c G RX9 cX9_measure 5) (hr : meth.sig.returnType = (some .int)) (hlk : meth.locks = false) {n : Nat} {r : Int32} {S' : xS} : ∀ (S : xS) (a1 : Int32) (a2 : Int32) (a3 : Int32) (s0 : Int32) (s1 : Int32) (s2 : Int32), j_X9_measure_32 n S a1 a2 a3 s0 s1 s2 = some (r, S') → xGo p l e { frames := 1, cells := 0, slots := 0, locals := 22 } s m args below meth c G 5 0 0 (MQ below (xQi G r S') args s 0 0 (xA G)) S 32 [(0, .ref (G.2.2 34)), (1, .int a1), (2, .int a2), (3, .int a3)] [.int s0, .int s1, .int s2] := by
  intro S a1 a2 a3 s0 s1 s2 hf H locs ls hP hS hl
  unfold j_X9_measure_32 at hf
  obtain ⟨hx, hb, hml, hown, hts, hE⟩ := id X
  refine x_cSi (As := [.int s2, .int s1, .int s0]) (rest := []) X hP hS kc_X9_68 (c_X9_in l G  S s2 s1 s0 _ rfl) ⟨Nat.le_of_ble_eq_true rfl, Nat.le_of_ble_eq_true rfl⟩ rfl hl.1 rfl (Nat.le_of_ble_eq_true rfl) ⟨Nat.zero_le _, Nat.zero_le _⟩ dX9_measure_32 (fun H locs hP hS => ?_)
  refine lv_if_ne (tgt := 41) hx hb dX9_measure_35 (by decide) (fun e4 => ?_) (fun e4 => ?_)
  · have hf := xif_f hf e4
    refine lv_iload_n hx hb dX9_measure_41 rfl (lv_at hl 2 rfl) ?_
    refine lv_if_ne (tgt := 54) hx hb dX9_measure_42 (by decide) (fun e5 => ?_) (fun e5 => ?_)
    · have hf := xif_f hf e5
      refine lv_aload_n hx hb dX9_measure_54 rfl (lv_at hl 0 rfl) ?_
      refine x_getR X hP fl_X9_13 (by decide) rfl rfl dX9_measure_55 ?_
      refine lv_iload_n hx hb dX9_measure_58 rfl (lv_at hl 1 rfl) ?_
      obtain ⟨g6, hf⟩ := xg_some hf
      refine x_iald X hP (by decide) rfl g6 dX9_measure_59 ?_
      exact t_X9_measure_60 X hr hlk   S a1 a2 a3 (S.1 36 a1.toNatClampNeg) hf H locs ls hP hS (lv_sub hl [0, 1, 2, 3] rfl)
    · have hf := xif_t hf e5
      refine lv_aload_n hx hb dX9_measure_45 rfl (lv_at hl 0 rfl) ?_
      refine x_getR X hP fl_X9_7 (by decide) rfl rfl dX9_measure_46 ?_
      refine lv_iload_n hx hb dX9_measure_49 rfl (lv_at hl 1 rfl) ?_
      obtain ⟨g10, hf⟩ := xg_some hf
      refine x_iald X hP (by decide) rfl g10 dX9_measure_50 ?_
      refine lv_goto (tgt := 60) hx hb dX9_measure_51 (by decide) ?_
      exact t_X9_measure_60 X hr hlk   S a1 a2 a3 (S.1 35 a1.toNatClampNeg) hf H locs ls hP hS (lv_sub hl [0, 1, 2, 3] rfl)
  · have hf := xif_t hf e4
    refine lv_bipush (v := (-2)) hx hb dX9_measure_38 (by decide) ?_
    exact x_iret X hr hlk hP hS  ((Prod.mk.inj (Option.some.inj hf)).1) ((Prod.mk.inj (Option.some.inj hf)).2) dX9_measure_40
def f_X9_measure (n : Nat) (S : xS) (a1 : Int32) (a2 : Int32) (a3 : Int32) : Option (Int32 × xS) :=
  (if (f_X9_in a1 (0 : Int32) (2 : Int32)) = 0 then some ((-2 : Int32), S) else (if (f_X9_in a2 (0 : Int32) (1 : Int32)) = 0 then some ((-2 : Int32), S) else (if a2 = 0 then j_X9_measure_32 n S a1 a2 a3 (999 : Int32) (1 : Int32) a3 else j_X9_measure_32 n S a1 a2 a3 (9 : Int32) (1 : Int32) a3)))
set_option maxHeartbeats 4000000 in
set_option maxRecDepth 100000 in
theorem c_X9_measure (l : Launch) (G : xG) (n : Nat)  (S : xS) (a1 : Int32) (a2 : Int32) (a3 : Int32) (r : Int32) (S' : xS) (hf : f_X9_measure n S a1 a2 a3 = some (r, S')) : xMi l G yX9_measure cX9_measure 5 (some .int) 1 22 [.ref (G.2.2 34), .int a1, .int a2, .int a3] S r S' := by
  refine xMi_of (own := RX9) (by decide +kernel) rfl (Nat.le_of_ble_eq_true rfl) ?_
  intro p e s m args below meth c X hr hlk H locs ls hP hS hl
  have hl : lv_has ls 5 [(0, .ref (G.2.2 34)), (1, .int a1), (2, .int a2), (3, .int a3)] := hl
  obtain ⟨hx, hb, hml, hown, hts, hE⟩ := id X
  unfold f_X9_measure at hf
  refine lv_iload_n hx hb dX9_measure_0 rfl (lv_at hl 1 rfl) ?_
  refine lv_iconst (v := 0) hx hb dX9_measure_1 (by decide) ?_
  refine lv_iconst (v := 2) hx hb dX9_measure_2 (by decide) ?_
  refine x_cSi (As := [.int a1, .int (0 : Int32), .int (2 : Int32)]) (rest := []) X hP hS kc_X9_68 (c_X9_in l G  S a1 (0 : Int32) (2 : Int32) _ rfl) ⟨Nat.le_of_ble_eq_true rfl, Nat.le_of_ble_eq_true rfl⟩ rfl hl.1 rfl (Nat.le_of_ble_eq_true rfl) ⟨Nat.zero_le _, Nat.zero_le _⟩ dX9_measure_3 (fun H locs hP hS => ?_)
  refine lv_if_eq (tgt := 38) hx hb dX9_measure_6 (by decide) (fun e1 => ?_) (fun e1 => ?_)
  · have hf := xif_t hf e1
    refine lv_bipush (v := (-2)) hx hb dX9_measure_38 (by decide) ?_
    exact x_iret X hr hlk hP hS  ((Prod.mk.inj (Option.some.inj hf)).1) ((Prod.mk.inj (Option.some.inj hf)).2) dX9_measure_40
  · have hf := xif_f hf e1
    refine lv_iload_n hx hb dX9_measure_9 rfl (lv_at hl 2 rfl) ?_
    refine lv_iconst (v := 0) hx hb dX9_measure_10 (by decide) ?_
    refine lv_iconst (v := 1) hx hb dX9_measure_11 (by decide) ?_
    refine x_cSi (As := [.int a2, .int (0 : Int32), .int (1 : Int32)]) (rest := []) X hP hS kc_X9_68 (c_X9_in l G  S a2 (0 : Int32) (1 : Int32) _ rfl) ⟨Nat.le_of_ble_eq_true rfl, Nat.le_of_ble_eq_true rfl⟩ rfl hl.1 rfl (Nat.le_of_ble_eq_true rfl) ⟨Nat.zero_le _, Nat.zero_le _⟩ dX9_measure_12 (fun H locs hP hS => ?_)
    refine lv_if_eq (tgt := 38) hx hb dX9_measure_15 (by decide) (fun e2 => ?_) (fun e2 => ?_)
    · have hf := xif_t hf e2
      refine lv_bipush (v := (-2)) hx hb dX9_measure_38 (by decide) ?_
      exact x_iret X hr hlk hP hS  ((Prod.mk.inj (Option.some.inj hf)).1) ((Prod.mk.inj (Option.some.inj hf)).2) dX9_measure_40
    · have hf := xif_f hf e2
      refine lv_iload_n hx hb dX9_measure_18 rfl (lv_at hl 3 rfl) ?_
      refine lv_iconst (v := 1) hx hb dX9_measure_19 (by decide) ?_
      refine lv_iload_n hx hb dX9_measure_20 rfl (lv_at hl 2 rfl) ?_
      refine lv_if_ne (tgt := 30) hx hb dX9_measure_21 (by decide) (fun e3 => ?_) (fun e3 => ?_)
      · have hf := xif_f hf e3
        refine lv_bipush (v := 9) hx hb dX9_measure_30 (by decide) ?_
        exact t_X9_measure_32 X hr hlk   S a1 a2 a3 (9 : Int32) (1 : Int32) a3 hf H locs ls hP hS (lv_sub hl [0, 1, 2, 3] rfl)
      · have hf := xif_t hf e3
        refine lv_sipush (v := 999) hx hb dX9_measure_24 (by decide) ?_
        refine lv_goto (tgt := 32) hx hb dX9_measure_27 (by decide) ?_
        exact t_X9_measure_32 X hr hlk   S a1 a2 a3 (999 : Int32) (1 : Int32) a3 hf H locs ls hP hS (lv_sub hl [0, 1, 2, 3] rfl)
def f_X4_sign (n : Nat) (S : xS)  : Option Int32 :=
  (if (S.1 4 1) ≤ (S.1 4 7) then some (-1 : Int32) else xg (xin (S.1 4 7) 80) (some (S.1 5 (S.1 4 7).toNatClampNeg)))
set_option maxHeartbeats 4000000 in
set_option maxRecDepth 100000 in
theorem c_X4_sign (l : Launch) (G : xG) (n : Nat)  (S : xS)  (r : Int32) (hf : f_X4_sign n S  = some r) : xMi l G yX4_sign cX4_sign 1 (some .int) 0 0 [.ref (G.2.2 4)] S r S := by
  refine xMi_of (own := RX4) (by decide +kernel) rfl (Nat.le_of_ble_eq_true rfl) ?_
  intro p e s m args below meth c X hr hlk H locs ls hP hS hl
  have hl : lv_has ls 1 [(0, .ref (G.2.2 4))] := hl
  obtain ⟨hx, hb, hml, hown, hts, hE⟩ := id X
  unfold f_X4_sign at hf
  refine lv_aload_n hx hb dX4_sign_0 rfl (lv_at hl 0 rfl) ?_
  refine x_getI X hP fl_X4_34 (by decide) rfl rfl dX4_sign_1 ?_
  refine lv_aload_n hx hb dX4_sign_4 rfl (lv_at hl 0 rfl) ?_
  refine x_getI X hP fl_X4_28 (by decide) rfl rfl dX4_sign_5 ?_
  refine lv_icmp_ge (tgt := 23) hx hb dX4_sign_8 (by decide) (fun e1 => ?_) (fun e1 => ?_)
  · have hf := xif_t hf e1
    refine lv_iconst (v := (-1)) hx hb dX4_sign_23 (by decide) ?_
    exact x_iret X hr hlk hP hS  (Option.some.inj hf) (rfl) dX4_sign_24
  · have hf := xif_f hf e1
    refine lv_aload_n hx hb dX4_sign_11 rfl (lv_at hl 0 rfl) ?_
    refine x_getR X hP fl_X4_9 (by decide) rfl rfl dX4_sign_12 ?_
    refine lv_aload_n hx hb dX4_sign_15 rfl (lv_at hl 0 rfl) ?_
    refine x_getI X hP fl_X4_34 (by decide) rfl rfl dX4_sign_16 ?_
    obtain ⟨g2, hf⟩ := xg_some hf
    refine x_iald X hP (by decide) rfl g2 dX4_sign_19 ?_
    refine lv_goto (tgt := 24) hx hb dX4_sign_20 (by decide) ?_
    exact x_iret X hr hlk hP hS  (Option.some.inj hf) (rfl) dX4_sign_24
def f_X4_isFigure (a0 : Int32) : Int32 :=
  f_X8_within a0 (48 : Int32) (57 : Int32)
theorem fb_X4_isFigure (a0 : Int32) : f_X4_isFigure a0 = 0 ∨ f_X4_isFigure a0 = 1 := by
  unfold f_X4_isFigure
  exact fb_X8_within a0 (48 : Int32) (57 : Int32)
set_option maxHeartbeats 4000000 in
set_option maxRecDepth 100000 in
theorem c_X4_isFigure (l : Launch) (G : xG)  (S : xS) (a0 : Int32) (r : Int32) (hf : f_X4_isFigure a0 = r) : xMi l G yX4_isFigure cX4_isFigure 1 (some .boolean) 1 22 [.int a0] S r S := by
  refine xMi_of (own := RX4) (by decide +kernel) rfl (Nat.le_of_ble_eq_true rfl) ?_
  intro p e s m args below meth c X hr hlk H locs ls hP hS hl
  have hl : lv_has ls 1 [(0, .int a0)] := hl
  obtain ⟨hx, hb, hml, hown, hts, hE⟩ := id X
  unfold f_X4_isFigure at hf
  refine lv_iload_n hx hb dX4_isFigure_0 rfl (lv_at hl 0 rfl) ?_
  refine lv_bipush (v := 48) hx hb dX4_isFigure_1 (by decide) ?_
  refine lv_bipush (v := 57) hx hb dX4_isFigure_3 (by decide) ?_
  refine x_cNi (As := [.int a0, .int (48 : Int32), .int (57 : Int32)]) (rest := []) X hP hS kc_X4_68 (c_X8_within l G  S a0 (48 : Int32) (57 : Int32) _ rfl) ⟨Nat.le_of_ble_eq_true rfl, Nat.le_of_ble_eq_true rfl⟩ rfl hl.1 rfl (Nat.le_of_ble_eq_true rfl) ⟨Nat.zero_le _, Nat.zero_le _⟩ dX4_isFigure_5 (fun H locs hP hS => ?_)
  exact x_zret X hr hlk hP hS (fb_X8_within a0 (48 : Int32) (57 : Int32)) (hf) (rfl) dX4_isFigure_8
def f_X4_fail (S : xS) (a1 : Int32) : Int32 × xS :=
  ((0 : Int32), xst S 4 2 a1)
theorem fb_X4_fail (S : xS) (a1 : Int32) : (f_X4_fail S a1).1 = 0 ∨ (f_X4_fail S a1).1 = 1 := by
  unfold f_X4_fail
  repeat' first | exact Or.inl rfl | exact Or.inr rfl | split
set_option maxHeartbeats 4000000 in
set_option maxRecDepth 100000 in
theorem c_X4_fail (l : Launch) (G : xG)  (S : xS) (a1 : Int32) (r : Int32) (S' : xS) (hf : f_X4_fail S a1 = (r, S')) : xMi l G yX4_fail cX4_fail 2 (some .boolean) 0 0 [.ref (G.2.2 4), .int a1] S r S' := by
  refine xMi_of (own := RX4) (by decide +kernel) rfl (Nat.le_of_ble_eq_true rfl) ?_
  intro p e s m args below meth c X hr hlk H locs ls hP hS hl
  have hl : lv_has ls 2 [(0, .ref (G.2.2 4)), (1, .int a1)] := hl
  obtain ⟨hx, hb, hml, hown, hts, hE⟩ := id X
  unfold f_X4_fail at hf
  refine lv_aload_n hx hb dX4_fail_0 rfl (lv_at hl 0 rfl) ?_
  refine lv_iload_n hx hb dX4_fail_1 rfl (lv_at hl 1 rfl) ?_
  refine x_putI X hP hS fp_X4_15 (by decide) rfl rfl dX4_fail_2 (fun H locs hP hS => ?_)
  refine lv_iconst (v := 0) hx hb dX4_fail_5 (by decide) ?_
  exact x_zret X hr hlk hP hS (Or.inl rfl) ((Prod.mk.inj (hf)).1) ((Prod.mk.inj (hf)).2) dX4_fail_6
def b_X4_takeNumber_7 (n : Nat) (k7 : xS → Int32 → Int32 → Int32 → Option (Int32 × xS)) (S : xS) (a1 : Int32) (a2 : Int32) (a3 : Int32) : Option (Int32 × xS) :=
  (if (a2 + (2 : Int32)) ≤ (S.1 4 7) then (if (f_X8_within a3 (1 : Int32) a1) = 0 then some ((-1 : Int32), (f_X4_fail S a2).2) else some (a3, S)) else (f_X4_sign n S).bind fun r3 => ((if (f_X4_isFigure r3) = 0 then (if (f_X8_within a3 (1 : Int32) a1) = 0 then some ((-1 : Int32), (f_X4_fail S a2).2) else some (a3, S)) else (f_X4_sign n S).bind fun r7 => (k7 (xst S 4 7 ((S.1 4 7) + (1 : Int32))) a1 a2 ((((10 : Int32) * a3) + r7) - (48 : Int32))))))
def l_X4_takeNumber_7 (n : Nat) : Nat → xS → Int32 → Int32 → Int32 → Option (Int32 × xS)
  | 0, _, _, _, _ => none
  | j + 1, S, a1, a2, a3 => b_X4_takeNumber_7 n (l_X4_takeNumber_7 n j) S a1 a2 a3
set_option maxHeartbeats 4000000 in
set_option maxRecDepth 100000 in
theorem t_X4_takeNumber_7 {p : Program} {l : Launch} {e : Env} {s : State} {m : MethodId} {args : Array Value} {below : List Frame} {meth : Method} {c : Code} {G : xG} (X : xC p s m args c G RX4 cX4_takeNumber 4) (hr : meth.sig.returnType = (some .int)) (hlk : meth.locks = false) {n : Nat} {r : Int32} {S' : xS} : ∀ (j : Nat) (S : xS) (a1 : Int32) (a2 : Int32) (a3 : Int32), l_X4_takeNumber_7 n j S a1 a2 a3 = some (r, S') → xGo p l e { frames := 2, cells := 0, slots := 0, locals := 42 } s m args below meth c G 4 0 0 (MQ below (xQi G r S') args s 0 0 (xA G)) S 7 [(0, .ref (G.2.2 4)), (1, .int a1), (2, .int a2), (3, .int a3)] [] := by
  intro j
  induction j with
  | zero => intro S a1 a2 a3 hf; exact nomatch (show (none : Option (Int32 × xS)) = _ from hf)
  | succ j ih =>
    intro S a1 a2 a3 hf H locs ls hP hS hl
    have hf : b_X4_takeNumber_7 n (l_X4_takeNumber_7 n j) S a1 a2 a3 = some (r, S') := hf
    unfold b_X4_takeNumber_7 at hf
    obtain ⟨hx, hb, hml, hown, hts, hE⟩ := id X
    refine lv_aload_n hx hb dX4_takeNumber_7 rfl (lv_at hl 0 rfl) ?_
    refine x_getI X hP fl_X4_34 (by decide) rfl rfl dX4_takeNumber_8 ?_
    refine lv_iload_n hx hb dX4_takeNumber_11 rfl (lv_at hl 2 rfl) ?_
    refine lv_iconst (v := 2) hx hb dX4_takeNumber_12 (by decide) ?_
    refine lv_iadd hx hb dX4_takeNumber_13 ?_
    refine lv_icmp_ge (tgt := 53) hx hb dX4_takeNumber_14 (by decide) (fun e1 => ?_) (fun e1 => ?_)
    · have hf := xif_t hf e1
      refine lv_iload_n hx hb dX4_takeNumber_53 rfl (lv_at hl 3 rfl) ?_
      refine lv_iconst (v := 1) hx hb dX4_takeNumber_54 (by decide) ?_
      refine lv_iload_n hx hb dX4_takeNumber_55 rfl (lv_at hl 1 rfl) ?_
      refine x_cNi (As := [.int a3, .int (1 : Int32), .int a1]) (rest := []) X hP hS kc_X4_68 (c_X8_within l G  S a3 (1 : Int32) a1 _ rfl) ⟨Nat.le_of_ble_eq_true rfl, Nat.le_of_ble_eq_true rfl⟩ rfl hl.1 rfl (Nat.le_of_ble_eq_true rfl) ⟨Nat.zero_le _, Nat.zero_le _⟩ dX4_takeNumber_56 (fun H locs hP hS => ?_)
      refine lv_if_ne (tgt := 70) hx hb dX4_takeNumber_59 (by decide) (fun e2 => ?_) (fun e2 => ?_)
      · have hf := xif_f hf e2
        refine lv_iload_n hx hb dX4_takeNumber_70 rfl (lv_at hl 3 rfl) ?_
        exact x_iret X hr hlk hP hS  ((Prod.mk.inj (Option.some.inj hf)).1) ((Prod.mk.inj (Option.some.inj hf)).2) dX4_takeNumber_71
      · have hf := xif_t hf e2
        refine lv_aload_n hx hb dX4_takeNumber_62 rfl (lv_at hl 0 rfl) ?_
        refine lv_iload_n hx hb dX4_takeNumber_63 rfl (lv_at hl 2 rfl) ?_
        refine x_cVi (As := [.int a2]) (rest := []) X hP hS kc_X4_45 (c_X4_fail l G  S a2 (f_X4_fail S a2).1 (f_X4_fail S a2).2 rfl) ⟨Nat.le_of_ble_eq_true rfl, Nat.le_of_ble_eq_true rfl⟩ (by decide) rfl rfl rfl hl.1 rfl (Nat.le_of_ble_eq_true rfl) ⟨Nat.zero_le _, Nat.zero_le _⟩ dX4_takeNumber_64 (fun H locs hP hS => ?_)
        refine lv_pop hx hb dX4_takeNumber_67 rfl ?_
        refine lv_iconst (v := (-1)) hx hb dX4_takeNumber_68 (by decide) ?_
        exact x_iret X hr hlk hP hS  ((Prod.mk.inj (Option.some.inj hf)).1) ((Prod.mk.inj (Option.some.inj hf)).2) dX4_takeNumber_69
    · have hf := xif_f hf e1
      refine lv_aload_n hx hb dX4_takeNumber_17 rfl (lv_at hl 0 rfl) ?_
      obtain ⟨r3, h4, hf⟩ := xb_some hf
      refine x_cVi (As := []) (rest := []) X hP hS kc_X4_58 (c_X4_sign l G n S  _ h4) ⟨Nat.le_of_ble_eq_true rfl, Nat.le_of_ble_eq_true rfl⟩ (by decide) rfl rfl rfl hl.1 rfl (Nat.le_of_ble_eq_true rfl) ⟨Nat.zero_le _, Nat.zero_le _⟩ dX4_takeNumber_18 (fun H locs hP hS => ?_)
      refine x_cSi (As := [.int r3]) (rest := []) X hP hS kc_X4_65 (c_X4_isFigure l G  S r3 _ rfl) ⟨Nat.le_of_ble_eq_true rfl, Nat.le_of_ble_eq_true rfl⟩ rfl hl.1 rfl (Nat.le_of_ble_eq_true rfl) ⟨Nat.zero_le _, Nat.zero_le _⟩ dX4_takeNumber_21 (fun H locs hP hS => ?_)
      refine lv_if_eq (tgt := 53) hx hb dX4_takeNumber_24 (by decide) (fun e5 => ?_) (fun e5 => ?_)
      · have hf := xif_t hf e5
        refine lv_iload_n hx hb dX4_takeNumber_53 rfl (lv_at hl 3 rfl) ?_
        refine lv_iconst (v := 1) hx hb dX4_takeNumber_54 (by decide) ?_
        refine lv_iload_n hx hb dX4_takeNumber_55 rfl (lv_at hl 1 rfl) ?_
        refine x_cNi (As := [.int a3, .int (1 : Int32), .int a1]) (rest := []) X hP hS kc_X4_68 (c_X8_within l G  S a3 (1 : Int32) a1 _ rfl) ⟨Nat.le_of_ble_eq_true rfl, Nat.le_of_ble_eq_true rfl⟩ rfl hl.1 rfl (Nat.le_of_ble_eq_true rfl) ⟨Nat.zero_le _, Nat.zero_le _⟩ dX4_takeNumber_56 (fun H locs hP hS => ?_)
        refine lv_if_ne (tgt := 70) hx hb dX4_takeNumber_59 (by decide) (fun e6 => ?_) (fun e6 => ?_)
        · have hf := xif_f hf e6
          refine lv_iload_n hx hb dX4_takeNumber_70 rfl (lv_at hl 3 rfl) ?_
          exact x_iret X hr hlk hP hS  ((Prod.mk.inj (Option.some.inj hf)).1) ((Prod.mk.inj (Option.some.inj hf)).2) dX4_takeNumber_71
        · have hf := xif_t hf e6
          refine lv_aload_n hx hb dX4_takeNumber_62 rfl (lv_at hl 0 rfl) ?_
          refine lv_iload_n hx hb dX4_takeNumber_63 rfl (lv_at hl 2 rfl) ?_
          refine x_cVi (As := [.int a2]) (rest := []) X hP hS kc_X4_45 (c_X4_fail l G  S a2 (f_X4_fail S a2).1 (f_X4_fail S a2).2 rfl) ⟨Nat.le_of_ble_eq_true rfl, Nat.le_of_ble_eq_true rfl⟩ (by decide) rfl rfl rfl hl.1 rfl (Nat.le_of_ble_eq_true rfl) ⟨Nat.zero_le _, Nat.zero_le _⟩ dX4_takeNumber_64 (fun H locs hP hS => ?_)
          refine lv_pop hx hb dX4_takeNumber_67 rfl ?_
          refine lv_iconst (v := (-1)) hx hb dX4_takeNumber_68 (by decide) ?_
          exact x_iret X hr hlk hP hS  ((Prod.mk.inj (Option.some.inj hf)).1) ((Prod.mk.inj (Option.some.inj hf)).2) dX4_takeNumber_69
      · have hf := xif_f hf e5
        refine lv_bipush (v := 10) hx hb dX4_takeNumber_27 (by decide) ?_
        refine lv_iload_n hx hb dX4_takeNumber_29 rfl (lv_at hl 3 rfl) ?_
        refine lv_imul hx hb dX4_takeNumber_30 ?_
        refine lv_aload_n hx hb dX4_takeNumber_31 rfl (lv_at hl 0 rfl) ?_
        obtain ⟨r7, h8, hf⟩ := xb_some hf
        refine x_cVi (As := []) (rest := [.int ((10 : Int32) * a3)]) X hP hS kc_X4_58 (c_X4_sign l G n S  _ h8) ⟨Nat.le_of_ble_eq_true rfl, Nat.le_of_ble_eq_true rfl⟩ (by decide) rfl rfl rfl hl.1 rfl (Nat.le_of_ble_eq_true rfl) ⟨Nat.zero_le _, Nat.zero_le _⟩ dX4_takeNumber_32 (fun H locs hP hS => ?_)
        refine lv_iadd hx hb dX4_takeNumber_35 ?_
        refine lv_bipush (v := 48) hx hb dX4_takeNumber_36 (by decide) ?_
        refine lv_isub hx hb dX4_takeNumber_38 ?_
        refine lv_istore_n (lv' := [(3, .int ((((10 : Int32) * a3) + r7) - (48 : Int32))), (0, .ref (G.2.2 4)), (1, .int a1), (2, .int a2)]) hx hb dX4_takeNumber_39 rfl hl (by decide) rfl (fun ls hl => ?_)
        refine lv_aload_n hx hb dX4_takeNumber_40 rfl (lv_at hl 1 rfl) ?_
        refine lv_dup hx hb dX4_takeNumber_41 rfl ?_
        refine x_getI X hP fl_X4_34 (by decide) rfl rfl dX4_takeNumber_42 ?_
        refine lv_iconst (v := 1) hx hb dX4_takeNumber_45 (by decide) ?_
        refine lv_iadd hx hb dX4_takeNumber_46 ?_
        refine x_putI X hP hS fp_X4_34 (by decide) rfl rfl dX4_takeNumber_47 (fun H locs hP hS => ?_)
        refine lv_goto (tgt := 7) hx hb dX4_takeNumber_50 (by decide) ?_
        exact ih (xst S 4 7 ((S.1 4 7) + (1 : Int32))) a1 a2 ((((10 : Int32) * a3) + r7) - (48 : Int32)) hf H locs ls hP hS (lv_sub hl [1, 2, 3, 0] rfl)
def f_X4_takeNumber (n : Nat) (S : xS) (a1 : Int32) : Option (Int32 × xS) :=
  l_X4_takeNumber_7 n n S a1 (S.1 4 7) (0 : Int32)
set_option maxHeartbeats 4000000 in
set_option maxRecDepth 100000 in
theorem c_X4_takeNumber (l : Launch) (G : xG) (n : Nat)  (S : xS) (a1 : Int32) (r : Int32) (S' : xS) (hf : f_X4_takeNumber n S a1 = some (r, S')) : xMi l G yX4_takeNumber cX4_takeNumber 4 (some .int) 2 42 [.ref (G.2.2 4), .int a1] S r S' := by
  refine xMi_of (own := RX4) (by decide +kernel) rfl (Nat.le_of_ble_eq_true rfl) ?_
  intro p e s m args below meth c X hr hlk H locs ls hP hS hl
  have hl : lv_has ls 4 [(0, .ref (G.2.2 4)), (1, .int a1)] := hl
  obtain ⟨hx, hb, hml, hown, hts, hE⟩ := id X
  unfold f_X4_takeNumber at hf
  refine lv_aload_n hx hb dX4_takeNumber_0 rfl (lv_at hl 0 rfl) ?_
  refine x_getI X hP fl_X4_34 (by decide) rfl rfl dX4_takeNumber_1 ?_
  refine lv_istore_n (lv' := [(2, .int (S.1 4 7)), (0, .ref (G.2.2 4)), (1, .int a1)]) hx hb dX4_takeNumber_4 rfl hl (by decide) rfl (fun ls hl => ?_)
  refine lv_iconst (v := 0) hx hb dX4_takeNumber_5 (by decide) ?_
  refine lv_istore_n (lv' := [(3, .int (0 : Int32)), (2, .int (S.1 4 7)), (0, .ref (G.2.2 4)), (1, .int a1)]) hx hb dX4_takeNumber_6 rfl hl (by decide) rfl (fun ls hl => ?_)
  exact t_X4_takeNumber_7 X hr hlk   n S a1 (S.1 4 7) (0 : Int32) hf H locs ls hP hS (lv_sub hl [2, 3, 1, 0] rfl)
def j_X4_takeUnit_32 (n : Nat) (S : xS) (a1 : Int32) (a2 : Int32) : Option (Int32 × xS) :=
  (if a2 = (102 : Int32) then xg (xin a1 10) (some ((1 : Int32), xst (xst S 6 a1.toNatClampNeg (0 : Int32)) 4 7 (((xst S 6 a1.toNatClampNeg (0 : Int32)).1 4 7) + (1 : Int32)))) else (if a2 = (101 : Int32) then xg (xin a1 10) (some ((1 : Int32), xst (xst S 6 a1.toNatClampNeg (1 : Int32)) 4 7 (((xst S 6 a1.toNatClampNeg (1 : Int32)).1 4 7) + (1 : Int32)))) else xg (xin a1 10) (some ((1 : Int32), xst (xst S 6 a1.toNatClampNeg (2 : Int32)) 4 7 (((xst S 6 a1.toNatClampNeg (2 : Int32)).1 4 7) + (1 : Int32))))))
set_option maxHeartbeats 4000000 in
set_option maxRecDepth 100000 in
theorem t_X4_takeUnit_32 {p : Program} {l : Launch} {e : Env} {s : State} {m : MethodId} {args : Array Value} {below : List Frame} {meth : Method} {c : Code} {G : xG} (X : xC p s m args c G RX4 cX4_takeUnit 3) (hr : meth.sig.returnType = (some .boolean)) (hlk : meth.locks = false) {n : Nat} {r : Int32} {S' : xS} : ∀ (S : xS) (a1 : Int32) (a2 : Int32), j_X4_takeUnit_32 n S a1 a2 = some (r, S') → xGo p l e { frames := 1, cells := 0, slots := 0, locals := 21 } s m args below meth c G 3 0 0 (MQ below (xQi G r S') args s 0 0 (xA G)) S 32 [(0, .ref (G.2.2 4)), (1, .int a1), (2, .int a2)] [] := by
  intro S a1 a2 hf H locs ls hP hS hl
  unfold j_X4_takeUnit_32 at hf
  obtain ⟨hx, hb, hml, hown, hts, hE⟩ := id X
  refine lv_aload_n hx hb dX4_takeUnit_32 rfl (lv_at hl 0 rfl) ?_
  refine x_getR X hP fl_X4_19 (by decide) rfl rfl dX4_takeUnit_33 ?_
  refine lv_iload_n hx hb dX4_takeUnit_36 rfl (lv_at hl 1 rfl) ?_
  refine lv_iload_n hx hb dX4_takeUnit_37 rfl (lv_at hl 2 rfl) ?_
  refine lv_bipush (v := 102) hx hb dX4_takeUnit_38 (by decide) ?_
  refine lv_icmp_ne (tgt := 47) hx hb dX4_takeUnit_40 (by decide) (fun e4 => ?_) (fun e4 => ?_)
  · have hf := xif_f hf e4
    refine lv_iload_n hx hb dX4_takeUnit_47 rfl (lv_at hl 2 rfl) ?_
    refine lv_bipush (v := 101) hx hb dX4_takeUnit_48 (by decide) ?_
    refine lv_icmp_ne (tgt := 57) hx hb dX4_takeUnit_50 (by decide) (fun e5 => ?_) (fun e5 => ?_)
    · have hf := xif_f hf e5
      refine lv_iconst (v := 2) hx hb dX4_takeUnit_57 (by decide) ?_
      obtain ⟨g6, hf⟩ := xg_some hf
      refine x_iast X hP hS (by decide) rfl g6 dX4_takeUnit_58 (fun H locs hP hS => ?_)
      refine lv_aload_n hx hb dX4_takeUnit_59 rfl (lv_at hl 0 rfl) ?_
      refine lv_dup hx hb dX4_takeUnit_60 rfl ?_
      refine x_getI X hP fl_X4_34 (by decide) rfl rfl dX4_takeUnit_61 ?_
      refine lv_iconst (v := 1) hx hb dX4_takeUnit_64 (by decide) ?_
      refine lv_iadd hx hb dX4_takeUnit_65 ?_
      refine x_putI X hP hS fp_X4_34 (by decide) rfl rfl dX4_takeUnit_66 (fun H locs hP hS => ?_)
      refine lv_iconst (v := 1) hx hb dX4_takeUnit_69 (by decide) ?_
      exact x_zret X hr hlk hP hS (Or.inr rfl) ((Prod.mk.inj (Option.some.inj hf)).1) ((Prod.mk.inj (Option.some.inj hf)).2) dX4_takeUnit_70
    · have hf := xif_t hf e5
      refine lv_iconst (v := 1) hx hb dX4_takeUnit_53 (by decide) ?_
      refine lv_goto (tgt := 58) hx hb dX4_takeUnit_54 (by decide) ?_
      obtain ⟨g7, hf⟩ := xg_some hf
      refine x_iast X hP hS (by decide) rfl g7 dX4_takeUnit_58 (fun H locs hP hS => ?_)
      refine lv_aload_n hx hb dX4_takeUnit_59 rfl (lv_at hl 0 rfl) ?_
      refine lv_dup hx hb dX4_takeUnit_60 rfl ?_
      refine x_getI X hP fl_X4_34 (by decide) rfl rfl dX4_takeUnit_61 ?_
      refine lv_iconst (v := 1) hx hb dX4_takeUnit_64 (by decide) ?_
      refine lv_iadd hx hb dX4_takeUnit_65 ?_
      refine x_putI X hP hS fp_X4_34 (by decide) rfl rfl dX4_takeUnit_66 (fun H locs hP hS => ?_)
      refine lv_iconst (v := 1) hx hb dX4_takeUnit_69 (by decide) ?_
      exact x_zret X hr hlk hP hS (Or.inr rfl) ((Prod.mk.inj (Option.some.inj hf)).1) ((Prod.mk.inj (Option.some.inj hf)).2) dX4_takeUnit_70
  · have hf := xif_t hf e4
    refine lv_iconst (v := 0) hx hb dX4_takeUnit_43 (by decide) ?_
    refine lv_goto (tgt := 58) hx hb dX4_takeUnit_44 (by decide) ?_
    obtain ⟨g8, hf⟩ := xg_some hf
    refine x_iast X hP hS (by decide) rfl g8 dX4_takeUnit_58 (fun H locs hP hS => ?_)
    refine lv_aload_n hx hb dX4_takeUnit_59 rfl (lv_at hl 0 rfl) ?_
    refine lv_dup hx hb dX4_takeUnit_60 rfl ?_
    refine x_getI X hP fl_X4_34 (by decide) rfl rfl dX4_takeUnit_61 ?_
    refine lv_iconst (v := 1) hx hb dX4_takeUnit_64 (by decide) ?_
    refine lv_iadd hx hb dX4_takeUnit_65 ?_
    refine x_putI X hP hS fp_X4_34 (by decide) rfl rfl dX4_takeUnit_66 (fun H locs hP hS => ?_)
    refine lv_iconst (v := 1) hx hb dX4_takeUnit_69 (by decide) ?_
    exact x_zret X hr hlk hP hS (Or.inr rfl) ((Prod.mk.inj (Option.some.inj hf)).1) ((Prod.mk.inj (Option.some.inj hf)).2) dX4_takeUnit_70
def f_X4_takeUnit (n : Nat) (S : xS) (a1 : Int32) : Option (Int32 × xS) :=
  (f_X4_sign n S).bind fun r1 => ((if r1 = (102 : Int32) then j_X4_takeUnit_32 n S a1 r1 else (if r1 = (101 : Int32) then j_X4_takeUnit_32 n S a1 r1 else (if r1 = (115 : Int32) then j_X4_takeUnit_32 n S a1 r1 else some ((f_X4_fail S (S.1 4 7)).1, (f_X4_fail S (S.1 4 7)).2)))))
set_option maxHeartbeats 4000000 in
set_option maxRecDepth 100000 in
theorem c_X4_takeUnit (l : Launch) (G : xG) (n : Nat)  (S : xS) (a1 : Int32) (r : Int32) (S' : xS) (hf : f_X4_takeUnit n S a1 = some (r, S')) : xMi l G yX4_takeUnit cX4_takeUnit 3 (some .boolean) 1 21 [.ref (G.2.2 4), .int a1] S r S' := by
  refine xMi_of (own := RX4) (by decide +kernel) rfl (Nat.le_of_ble_eq_true rfl) ?_
  intro p e s m args below meth c X hr hlk H locs ls hP hS hl
  have hl : lv_has ls 3 [(0, .ref (G.2.2 4)), (1, .int a1)] := hl
  obtain ⟨hx, hb, hml, hown, hts, hE⟩ := id X
  unfold f_X4_takeUnit at hf
  refine lv_aload_n hx hb dX4_takeUnit_0 rfl (lv_at hl 0 rfl) ?_
  obtain ⟨r1, h2, hf⟩ := xb_some hf
  refine x_cVi (As := []) (rest := []) X hP hS kc_X4_58 (c_X4_sign l G n S  _ h2) ⟨Nat.le_of_ble_eq_true rfl, Nat.le_of_ble_eq_true rfl⟩ (by decide) rfl rfl rfl hl.1 rfl (Nat.le_of_ble_eq_true rfl) ⟨Nat.zero_le _, Nat.zero_le _⟩ dX4_takeUnit_1 (fun H locs hP hS => ?_)
  refine lv_istore_n (lv' := [(2, .int r1), (0, .ref (G.2.2 4)), (1, .int a1)]) hx hb dX4_takeUnit_4 rfl hl (by decide) rfl (fun ls hl => ?_)
  refine lv_iload_n hx hb dX4_takeUnit_5 rfl (lv_at hl 0 rfl) ?_
  refine lv_bipush (v := 102) hx hb dX4_takeUnit_6 (by decide) ?_
  refine lv_icmp_eq (tgt := 32) hx hb dX4_takeUnit_8 (by decide) (fun e3 => ?_) (fun e3 => ?_)
  · have hf := xif_t hf e3
    exact t_X4_takeUnit_32 X hr hlk   S a1 r1 hf H locs ls hP hS (lv_sub hl [1, 2, 0] rfl)
  · have hf := xif_f hf e3
    refine lv_iload_n hx hb dX4_takeUnit_11 rfl (lv_at hl 0 rfl) ?_
    refine lv_bipush (v := 101) hx hb dX4_takeUnit_12 (by decide) ?_
    refine lv_icmp_eq (tgt := 32) hx hb dX4_takeUnit_14 (by decide) (fun e9 => ?_) (fun e9 => ?_)
    · have hf := xif_t hf e9
      exact t_X4_takeUnit_32 X hr hlk   S a1 r1 hf H locs ls hP hS (lv_sub hl [1, 2, 0] rfl)
    · have hf := xif_f hf e9
      refine lv_iload_n hx hb dX4_takeUnit_17 rfl (lv_at hl 0 rfl) ?_
      refine lv_bipush (v := 115) hx hb dX4_takeUnit_18 (by decide) ?_
      refine lv_icmp_eq (tgt := 32) hx hb dX4_takeUnit_20 (by decide) (fun e10 => ?_) (fun e10 => ?_)
      · have hf := xif_t hf e10
        exact t_X4_takeUnit_32 X hr hlk   S a1 r1 hf H locs ls hP hS (lv_sub hl [1, 2, 0] rfl)
      · have hf := xif_f hf e10
        refine lv_aload_n hx hb dX4_takeUnit_23 rfl (lv_at hl 1 rfl) ?_
        refine lv_aload_n hx hb dX4_takeUnit_24 rfl (lv_at hl 1 rfl) ?_
        refine x_getI X hP fl_X4_34 (by decide) rfl rfl dX4_takeUnit_25 ?_
        refine x_cVi (As := [.int (S.1 4 7)]) (rest := []) X hP hS kc_X4_45 (c_X4_fail l G  S (S.1 4 7) (f_X4_fail S (S.1 4 7)).1 (f_X4_fail S (S.1 4 7)).2 rfl) ⟨Nat.le_of_ble_eq_true rfl, Nat.le_of_ble_eq_true rfl⟩ (by decide) rfl rfl rfl hl.1 rfl (Nat.le_of_ble_eq_true rfl) ⟨Nat.zero_le _, Nat.zero_le _⟩ dX4_takeUnit_28 (fun H locs hP hS => ?_)
        exact x_zret X hr hlk hP hS (fb_X4_fail S (S.1 4 7)) ((Prod.mk.inj (Option.some.inj hf)).1) ((Prod.mk.inj (Option.some.inj hf)).2) dX4_takeUnit_31
