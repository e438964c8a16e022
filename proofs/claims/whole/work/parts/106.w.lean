def f_X8_worlds (n : Nat) (S : xS)  : Option (Int64 × xS) :=
  (f_X0_countWorlds n S (S.1 33 (0 : Int32).toNatClampNeg) (-1 : Int32) (0 : Int32)).bind fun r1 => (some (r1.1, r1.2))
set_option maxHeartbeats 4000000 in
set_option maxRecDepth 100000 in
theorem c_X8_worlds (l : Launch) (G : xG) (n : Nat)  (S : xS)  (r : Int64) (S' : xS) (hf : f_X8_worlds n S  = some (r, S')) : xMl l G yX8_worlds cX8_worlds 1 (some .long) 3 79 [.ref (G.2.2 0)] S r S' := by
  refine xMl_of (own := RX8) (by decide +kernel) rfl (Nat.le_of_ble_eq_true rfl) ?_
  intro p e s m args below meth c X hr hlk H locs ls hP hS hl
  have hl : lv_has ls 1 [(0, .ref (G.2.2 0))] := hl
  obtain ⟨hx, hb, hml, hown, hts, hE⟩ := id X
  unfold f_X8_worlds at hf
  refine lv_aload_n hx hb dX8_worlds_0 rfl (lv_at hl 0 rfl) ?_
  refine x_getR X hP fl_X8_41 (by decide) rfl rfl dX8_worlds_1 ?_
  refine lv_aload_n hx hb dX8_worlds_4 rfl (lv_at hl 0 rfl) ?_
  refine x_getR X hP fl_X8_7 (by decide) rfl rfl dX8_worlds_5 ?_
  refine lv_iconst (v := 0) hx hb dX8_worlds_8 (by decide) ?_
  refine x_iald X hP (by decide) rfl (by decide) dX8_worlds_9 ?_
  refine lv_iconst (v := (-1)) hx hb dX8_worlds_10 (by decide) ?_
  refine lv_iconst (v := 0) hx hb dX8_worlds_11 (by decide) ?_
  obtain ⟨r1, h2, hf⟩ := xb_some hf
  refine x_cVl (As := [.int (S.1 33 (0 : Int32).toNatClampNeg), .int (-1 : Int32), .int (0 : Int32)]) (rest := []) X hP hS kc_X8_197 (c_X0_countWorlds l G n S (S.1 33 (0 : Int32).toNatClampNeg) (-1 : Int32) (0 : Int32) r1.1 r1.2 h2) ⟨Nat.le_of_ble_eq_true rfl, Nat.le_of_ble_eq_true rfl⟩ (by decide) rfl rfl rfl hl.1 rfl (Nat.le_of_ble_eq_true rfl) ⟨Nat.zero_le _, Nat.zero_le _⟩ dX8_worlds_12 (fun H locs hP hS => ?_)
  exact x_lret X hr hlk hP hS  ((Prod.mk.inj (Option.some.inj hf)).1) ((Prod.mk.inj (Option.some.inj hf)).2) dX8_worlds_15
def b_X9_worldsBy_197 (n : Nat) (k197 : xS → Int32 → Int64 → Int32 → Option (Int64 × xS)) (S : xS) (a3 : Int32) (a4 : Int64) (a6 : Int32) : Option (Int64 × xS) :=
  (if (9 : Int32) ≤ a6 then some (a4, S) else (if a3 ≤ 0 then some (a4, S) else xg (xin a6 9) (k197 S a3 (a4 + (S.2 45 a6.toNatClampNeg)) (a6 + 1))))
def l_X9_worldsBy_197 (n : Nat) : Nat → xS → Int32 → Int64 → Int32 → Option (Int64 × xS)
  | 0, _, _, _, _ => none
  | j + 1, S, a3, a4, a6 => b_X9_worldsBy_197 n (l_X9_worldsBy_197 n j) S a3 a4 a6
set_option maxHeartbeats 4000000 in
set_option maxRecDepth 100000 in
theorem t_X9_worldsBy_197 {p : Program} {l : Launch} {e : Env} {s : State} {m : MethodId} {args : Array Value} {below : List Frame} {meth : Method} {c : Code} {G : xG} (X : xC p s m args c G RX9 cX9_worldsBy 10) (hr : meth.sig.returnType = (some .long)) (hlk : meth.locks = false) {n : Nat} {r : Int64} {S' : xS} : ∀ (j : Nat) (S : xS) (a3 : Int32) (a4 : Int64) (a6 : Int32), l_X9_worldsBy_197 n j S a3 a4 a6 = some (r, S') → xGo p l e { frames := 5, cells := 0, slots := 0, locals := 113 } s m args below meth c G 10 0 0 (MQ below (xQl G r S') args s 0 0 (xA G)) S 197 [(0, .ref (G.2.2 34)), (3, .int a3), (4, .long a4), (6, .int a6)] [] := by
  intro j
  induction j with
  | zero => intro S a3 a4 a6 hf; exact nomatch (show (none : Option (Int64 × xS)) = _ from hf)
  | succ j ih =>
    intro S a3 a4 a6 hf H locs ls hP hS hl
    have hf : b_X9_worldsBy_197 n (l_X9_worldsBy_197 n j) S a3 a4 a6 = some (r, S') := hf
    unfold b_X9_worldsBy_197 at hf
    obtain ⟨hx, hb, hml, hown, hts, hE⟩ := id X
    refine lv_iload hx hb dX9_worldsBy_197 (lv_at hl 3 rfl) ?_
    refine lv_bipush (v := 9) hx hb dX9_worldsBy_199 (by decide) ?_
    refine lv_icmp_ge (tgt := 226) hx hb dX9_worldsBy_201 (by decide) (fun e5 => ?_) (fun e5 => ?_)
    · have hf := xif_t hf e5
      refine lv_lload hx hb dX9_worldsBy_226 (lv_at hl 2 rfl) ?_
      exact x_lret X hr hlk hP hS  ((Prod.mk.inj (Option.some.inj hf)).1) ((Prod.mk.inj (Option.some.inj hf)).2) dX9_worldsBy_228
    · have hf := xif_f hf e5
      refine lv_iload_n hx hb dX9_worldsBy_204 rfl (lv_at hl 1 rfl) ?_
      refine lv_if_le (tgt := 226) hx hb dX9_worldsBy_205 (by decide) (fun e6 => ?_) (fun e6 => ?_)
      · have hf := xif_t hf e6
        refine lv_lload hx hb dX9_worldsBy_226 (lv_at hl 2 rfl) ?_
        exact x_lret X hr hlk hP hS  ((Prod.mk.inj (Option.some.inj hf)).1) ((Prod.mk.inj (Option.some.inj hf)).2) dX9_worldsBy_228
      · have hf := xif_f hf e6
        refine lv_lload hx hb dX9_worldsBy_208 (lv_at hl 2 rfl) ?_
        refine lv_aload_n hx hb dX9_worldsBy_210 rfl (lv_at hl 0 rfl) ?_
        refine x_getR X hP fl_X9_40 (by decide) rfl rfl dX9_worldsBy_211 ?_
        refine lv_iload hx hb dX9_worldsBy_214 (lv_at hl 3 rfl) ?_
        obtain ⟨g7, hf⟩ := xg_some hf
        refine x_lald X hP (by decide) rfl g7 dX9_worldsBy_216 ?_
        refine lv_ladd hx hb dX9_worldsBy_217 ?_
        refine lv_lstore (lv' := [(4, .long (a4 + (S.2 45 a6.toNatClampNeg))), (0, .ref (G.2.2 34)), (3, .int a3), (6, .int a6)]) hx hb dX9_worldsBy_218 hl (by decide) rfl (fun ls hl => ?_)
        refine lv_iinc (v := a6 + 1) (lv' := [(6, .int (a6 + 1)), (4, .long (a4 + (S.2 45 a6.toNatClampNeg))), (0, .ref (G.2.2 34)), (3, .int a3)]) hx hb dX9_worldsBy_220 hl (k := 3) rfl rfl (by decide) rfl (fun ls hl => ?_)
        refine lv_goto (tgt := 197) hx hb dX9_worldsBy_223 (by decide) ?_
        exact ih S a3 (a4 + (S.2 45 a6.toNatClampNeg)) (a6 + 1) hf H locs ls hP hS (lv_sub hl [2, 3, 1, 0] rfl)
def b_X9_worldsBy_150 (n : Nat) (k8 : xS → Int32 → Int32 → Int32 → Int32 → Option (Int64 × xS)) (k150 : xS → Int32 → Int32 → Int32 → Int32 → Int32 → Option (Int64 × xS)) (S : xS) (a1 : Int32) (a2 : Int32) (a3 : Int32) (a4 : Int32) (a5 : Int32) : Option (Int64 × xS) :=
  (if (9 : Int32) ≤ a5 then k8 S a1 a2 a3 (a4 + 1) else xg (xin a5 9) (xg (xin a5 9) (k150 (xsl S 45 a5.toNatClampNeg (S.2 46 a5.toNatClampNeg)) a1 a2 a3 a4 (a5 + 1))))
def l_X9_worldsBy_150 (n : Nat) (k8 : xS → Int32 → Int32 → Int32 → Int32 → Option (Int64 × xS)) : Nat → xS → Int32 → Int32 → Int32 → Int32 → Int32 → Option (Int64 × xS)
  | 0, _, _, _, _, _, _ => none
  | j + 1, S, a1, a2, a3, a4, a5 => b_X9_worldsBy_150 n k8 (l_X9_worldsBy_150 n k8 j) S a1 a2 a3 a4 a5
set_option maxHeartbeats 4000000 in
set_option maxRecDepth 100000 in
theorem t_X9_worldsBy_150 {p : Program} {l : Launch} {e : Env} {s : State} {m : MethodId} {args : Array Value} {below : List Frame} {meth : Method} {c : Code} {G : xG} (X : xC p s m args c G RX9 cX9_worldsBy 10) (hr : meth.sig.returnType = (some .long)) (hlk : meth.locks = false) {n : Nat} {r : Int64} {S' : xS} {k8 : xS → Int32 → Int32 → Int32 → Int32 → Option (Int64 × xS)} (hk8 : ∀ (S : xS) (a1 : Int32) (a2 : Int32) (a3 : Int32) (a4 : Int32), k8 S a1 a2 a3 a4 = some (r, S') → xGo p l e { frames := 5, cells := 0, slots := 0, locals := 113 } s m args below meth c G 10 0 0 (MQ below (xQl G r S') args s 0 0 (xA G)) S 8 [(0, .ref (G.2.2 34)), (1, .int a1), (2, .int a2), (3, .int a3), (4, .int a4)] []) : ∀ (j : Nat) (S : xS) (a1 : Int32) (a2 : Int32) (a3 : Int32) (a4 : Int32) (a5 : Int32), l_X9_worldsBy_150 n k8 j S a1 a2 a3 a4 a5 = some (r, S') → xGo p l e { frames := 5, cells := 0, slots := 0, locals := 113 } s m args below meth c G 10 0 0 (MQ below (xQl G r S') args s 0 0 (xA G)) S 150 [(0, .ref (G.2.2 34)), (1, .int a1), (2, .int a2), (3, .int a3), (4, .int a4), (5, .int a5)] [] := by
  intro j
  induction j with
  | zero => intro S a1 a2 a3 a4 a5 hf; exact nomatch (show (none : Option (Int64 × xS)) = _ from hf)
  | succ j ih =>
    intro S a1 a2 a3 a4 a5 hf H locs ls hP hS hl
    have hf : b_X9_worldsBy_150 n k8 (l_X9_worldsBy_150 n k8 j) S a1 a2 a3 a4 a5 = some (r, S') := hf
    unfold b_X9_worldsBy_150 at hf
    obtain ⟨hx, hb, hml, hown, hts, hE⟩ := id X
    refine lv_iload hx hb dX9_worldsBy_150 (lv_at hl 5 rfl) ?_
    refine lv_bipush (v := 9) hx hb dX9_worldsBy_152 (by decide) ?_
    refine lv_icmp_ge (tgt := 177) hx hb dX9_worldsBy_154 (by decide) (fun e9 => ?_) (fun e9 => ?_)
    · have hf := xif_t hf e9
      refine lv_iinc (v := a4 + 1) (lv' := [(4, .int (a4 + 1)), (0, .ref (G.2.2 34)), (1, .int a1), (2, .int a2), (3, .int a3), (5, .int a5)]) hx hb dX9_worldsBy_177 hl (k := 4) rfl rfl (by decide) rfl (fun ls hl => ?_)
      refine lv_goto (tgt := 8) hx hb dX9_worldsBy_180 (by decide) ?_
      exact hk8 S a1 a2 a3 (a4 + 1) hf H locs ls hP hS (lv_sub hl [1, 2, 3, 4, 0] rfl)
    · have hf := xif_f hf e9
      refine lv_aload_n hx hb dX9_worldsBy_157 rfl (lv_at hl 0 rfl) ?_
      refine x_getR X hP fl_X9_40 (by decide) rfl rfl dX9_worldsBy_158 ?_
      refine lv_iload hx hb dX9_worldsBy_161 (lv_at hl 5 rfl) ?_
      refine lv_aload_n hx hb dX9_worldsBy_163 rfl (lv_at hl 0 rfl) ?_
      refine x_getR X hP fl_X9_44 (by decide) rfl rfl dX9_worldsBy_164 ?_
      refine lv_iload hx hb dX9_worldsBy_167 (lv_at hl 5 rfl) ?_
      obtain ⟨g10, hf⟩ := xg_some hf
      refine x_lald X hP (by decide) rfl g10 dX9_worldsBy_169 ?_
      obtain ⟨g11, hf⟩ := xg_some hf
      refine x_last X hP hS (by decide) rfl g11 dX9_worldsBy_170 (fun H locs hP hS => ?_)
      refine lv_iinc (v := a5 + 1) (lv' := [(5, .int (a5 + 1)), (0, .ref (G.2.2 34)), (1, .int a1), (2, .int a2), (3, .int a3), (4, .int a4)]) hx hb dX9_worldsBy_171 hl (k := 5) rfl rfl (by decide) rfl (fun ls hl => ?_)
      refine lv_goto (tgt := 150) hx hb dX9_worldsBy_174 (by decide) ?_
      exact ih (xsl S 45 a5.toNatClampNeg (S.2 46 a5.toNatClampNeg)) a1 a2 a3 a4 (a5 + 1) hf H locs ls hP hS (lv_sub hl [1, 2, 3, 4, 5, 0] rfl)
def j_X9_worldsBy_123 (n : Nat) (k8 : xS → Int32 → Int32 → Int32 → Int32 → Option (Int64 × xS)) (k17 : xS → Int32 → Int32 → Int32 → Int32 → Int32 → Option (Int64 × xS)) (S : xS) (a1 : Int32) (a2 : Int32) (a3 : Int32) (a4 : Int32) (a5 : Int32) (a6 : Int32) (a7 : Int64) : Option (Int64 × xS) :=
  (if a6 = 0 then xg (xin a5 9) (k17 (xsl S 46 a5.toNatClampNeg (0 : Int64)) a1 a2 a3 a4 (a5 + 1)) else xg (xin a5 9) (k17 (xsl S 46 a5.toNatClampNeg a7) a1 a2 a3 a4 (a5 + 1)))
set_option maxHeartbeats 4000000 in
set_option maxRecDepth 100000 in
theorem t_X9_worldsBy_123 {p : Program} {l : Launch} {e : Env} {s : State} {m : MethodId} {args : Array Value} {below : List Frame} {meth : Method} {c : Code} {G : xG} (X : xC p s m args c G RX9 cX9_worldsBy 10) (hr : meth.sig.returnType = (some .long)) (hlk : meth.locks = false) {n : Nat} {r : Int64} {S' : xS} {k8 : xS → Int32 → Int32 → Int32 → Int32 → Option (Int64 × xS)} (hk8 : ∀ (S : xS) (a1 : Int32) (a2 : Int32) (a3 : Int32) (a4 : Int32), k8 S a1 a2 a3 a4 = some (r, S') → xGo p l e { frames := 5, cells := 0, slots := 0, locals := 113 } s m args below meth c G 10 0 0 (MQ below (xQl G r S') args s 0 0 (xA G)) S 8 [(0, .ref (G.2.2 34)), (1, .int a1), (2, .int a2), (3, .int a3), (4, .int a4)] []) {k17 : xS → Int32 → Int32 → Int32 → Int32 → Int32 → Option (Int64 × xS)} (hk17 : ∀ (S : xS) (a1 : Int32) (a2 : Int32) (a3 : Int32) (a4 : Int32) (a5 : Int32), k17 S a1 a2 a3 a4 a5 = some (r, S') → xGo p l e { frames := 5, cells := 0, slots := 0, locals := 113 } s m args below meth c G 10 0 0 (MQ below (xQl G r S') args s 0 0 (xA G)) S 17 [(0, .ref (G.2.2 34)), (1, .int a1), (2, .int a2), (3, .int a3), (4, .int a4), (5, .int a5)] []) : ∀ (S : xS) (a1 : Int32) (a2 : Int32) (a3 : Int32) (a4 : Int32) (a5 : Int32) (a6 : Int32) (a7 : Int64), j_X9_worldsBy_123 n k8 k17 S a1 a2 a3 a4 a5 a6 a7 = some (r, S') → xGo p l e { frames := 5, cells := 0, slots := 0, locals := 113 } s m args below meth c G 10 0 0 (MQ below (xQl G r S') args s 0 0 (xA G)) S 123 [(0, .ref (G.2.2 34)), (1, .int a1), (2, .int a2), (3, .int a3), (4, .int a4), (5, .int a5), (6, .int a6), (7, .long a7)] [] := by
  intro S a1 a2 a3 a4 a5 a6 a7 hf H locs ls hP hS hl
  unfold j_X9_worldsBy_123 at hf
  obtain ⟨hx, hb, hml, hown, hts, hE⟩ := id X
  refine lv_aload_n hx hb dX9_worldsBy_123 rfl (lv_at hl 0 rfl) ?_
  refine x_getR X hP fl_X9_44 (by decide) rfl rfl dX9_worldsBy_124 ?_
  refine lv_iload hx hb dX9_worldsBy_127 (lv_at hl 5 rfl) ?_
  refine lv_iload hx hb dX9_worldsBy_129 (lv_at hl 6 rfl) ?_
  refine lv_if_eq (tgt := 139) hx hb dX9_worldsBy_131 (by decide) (fun e17 => ?_) (fun e17 => ?_)
  · have hf := xif_t hf e17
    refine lv_lconst (v := 0) hx hb dX9_worldsBy_139 (by decide) ?_
    obtain ⟨g18, hf⟩ := xg_some hf
    refine x_last X hP hS (by decide) rfl g18 dX9_worldsBy_140 (fun H locs hP hS => ?_)
    refine lv_iinc (v := a5 + 1) (lv' := [(5, .int (a5 + 1)), (0, .ref (G.2.2 34)), (1, .int a1), (2, .int a2), (3, .int a3), (4, .int a4), (6, .int a6), (7, .long a7)]) hx hb dX9_worldsBy_141 hl (k := 5) rfl rfl (by decide) rfl (fun ls hl => ?_)
    refine lv_goto (tgt := 17) hx hb dX9_worldsBy_144 (by decide) ?_
    exact hk17 (xsl S 46 a5.toNatClampNeg (0 : Int64)) a1 a2 a3 a4 (a5 + 1) hf H locs ls hP hS (lv_sub hl [1, 2, 3, 4, 5, 0] rfl)
  · have hf := xif_f hf e17
    refine lv_lload hx hb dX9_worldsBy_134 (lv_at hl 7 rfl) ?_
    refine lv_goto (tgt := 140) hx hb dX9_worldsBy_136 (by decide) ?_
    obtain ⟨g19, hf⟩ := xg_some hf
    refine x_last X hP hS (by decide) rfl g19 dX9_worldsBy_140 (fun H locs hP hS => ?_)
    refine lv_iinc (v := a5 + 1) (lv' := [(5, .int (a5 + 1)), (0, .ref (G.2.2 34)), (1, .int a1), (2, .int a2), (3, .int a3), (4, .int a4), (6, .int a6), (7, .long a7)]) hx hb dX9_worldsBy_141 hl (k := 5) rfl rfl (by decide) rfl (fun ls hl => ?_)
    refine lv_goto (tgt := 17) hx hb dX9_worldsBy_144 (by decide) ?_
    exact hk17 (xsl S 46 a5.toNatClampNeg a7) a1 a2 a3 a4 (a5 + 1) hf H locs ls hP hS (lv_sub hl [1, 2, 3, 4, 5, 0] rfl)
def b_X9_worldsBy_71 (n : Nat) (k8 : xS → Int32 → Int32 → Int32 → Int32 → Option (Int64 × xS)) (k17 : xS → Int32 → Int32 → Int32 → Int32 → Int32 → Option (Int64 × xS)) (k71 : xS → Int32 → Int32 → Int32 → Int32 → Int32 → Int32 → Int64 → Int32 → Option (Int64 × xS)) (S : xS) (a1 : Int32) (a2 : Int32) (a3 : Int32) (a4 : Int32) (a5 : Int32) (a6 : Int32) (a7 : Int64) (a9 : Int32) : Option (Int64 × xS) :=
  (if (9 : Int32) ≤ a9 then j_X9_worldsBy_123 n k8 k17 S a1 a2 a3 a4 a5 a6 a7 else (if a4 ≤ 0 then j_X9_worldsBy_123 n k8 k17 S a1 a2 a3 a4 a5 a6 a7 else (if a9 = a5 then xg (xin a9 9) (k71 S a1 a2 a3 a4 a5 a6 (a7 + (S.2 45 a9.toNatClampNeg)) (a9 + 1)) else (if (a9 / (3 : Int32)) = (a5 / (3 : Int32)) then k71 S a1 a2 a3 a4 a5 a6 (a7 + (0 : Int64)) (a9 + 1) else xg (xin a9 9) (k71 S a1 a2 a3 a4 a5 a6 (a7 + (S.2 45 a9.toNatClampNeg)) (a9 + 1))))))
def l_X9_worldsBy_71 (n : Nat) (k8 : xS → Int32 → Int32 → Int32 → Int32 → Option (Int64 × xS)) (k17 : xS → Int32 → Int32 → Int32 → Int32 → Int32 → Option (Int64 × xS)) : Nat → xS → Int32 → Int32 → Int32 → Int32 → Int32 → Int32 → Int64 → Int32 → Option (Int64 × xS)
  | 0, _, _, _, _, _, _, _, _, _ => none
  | j + 1, S, a1, a2, a3, a4, a5, a6, a7, a9 => b_X9_worldsBy_71 n k8 k17 (l_X9_worldsBy_71 n k8 k17 j) S a1 a2 a3 a4 a5 a6 a7 a9
set_option maxHeartbeats 4000000 in
set_option maxRecDepth 100000 in
theorem t_X9_worldsBy_71 {p : Program} {l : Launch} {e : Env} {s : State} {m : MethodId} {args : Array Value} {below : List Frame} {meth : Method} {c : Code} {G : xG} (X : xC p s m args c G RX9 cX9_worldsBy 10) (hr : meth.sig.returnType = (some .long)) (hlk : meth.locks = false) {n : Nat} {r : Int64} {S' : xS} {k8 : xS → Int32 → Int32 → Int32 → Int32 → Option (Int64 × xS)} (hk8 : ∀ (S : xS) (a1 : Int32) (a2 : Int32) (a3 : Int32) (a4 : Int32), k8 S a1 a2 a3 a4 = some (r, S') → xGo p l e { frames := 5, cells := 0, slots := 0, locals := 113 } s m args below meth c G 10 0 0 (MQ below (xQl G r S') args s 0 0 (xA G)) S 8 [(0, .ref (G.2.2 34)), (1, .int a1), (2, .int a2), (3, .int a3), (4, .int a4)] []) {k17 : xS → Int32 → Int32 → Int32 → Int32 → Int32 → Option (Int64 × xS)} (hk17 : ∀ (S : xS) (a1 : Int32) (a2 : Int32) (a3 : Int32) (a4 : Int32) (a5 : Int32), k17 S a1 a2 a3 a4 a5 = some (r, S') → xGo p l e { frames := 5, cells := 0, slots := 0, locals := 113 } s m args below meth c G 10 0 0 (MQ below (xQl G r S') args s 0 0 (xA G)) S 17 [(0, .ref (G.2.2 34)), (1, .int a1), (2, .int a2), (3, .int a3), (4, .int a4), (5, .int a5)] []) : ∀ (j : Nat) (S : xS) (a1 : Int32) (a2 : Int32) (a3 : Int32) (a4 : Int32) (a5 : Int32) (a6 : Int32) (a7 : Int64) (a9 : Int32), l_X9_worldsBy_71 n k8 k17 j S a1 a2 a3 a4 a5 a6 a7 a9 = some (r, S') → xGo p l e { frames := 5, cells := 0, slots := 0, locals := 113 } s m args below meth c G 10 0 0 (MQ below (xQl G r S') args s 0 0 (xA G)) S 71 [(0, .ref (G.2.2 34)), (1, .int a1), (2, .int a2), (3, .int a3), (4, .int a4), (5, .int a5), (6, .int a6), (7, .long a7), (9, .int a9)] [] := by
  intro j
  induction j with
  | zero => intro S a1 a2 a3 a4 a5 a6 a7 a9 hf; exact nomatch (show (none : Option (Int64 × xS)) = _ from hf)
  | succ j ih =>
    intro S a1 a2 a3 a4 a5 a6 a7 a9 hf H locs ls hP hS hl
    have hf : b_X9_worldsBy_71 n k8 k17 (l_X9_worldsBy_71 n k8 k17 j) S a1 a2 a3 a4 a5 a6 a7 a9 = some (r, S') := hf
    unfold b_X9_worldsBy_71 at hf
    obtain ⟨hx, hb, hml, hown, hts, hE⟩ := id X
    refine lv_iload hx hb dX9_worldsBy_71 (lv_at hl 8 rfl) ?_
    refine lv_bipush (v := 9) hx hb dX9_worldsBy_73 (by decide) ?_
    refine lv_icmp_ge (tgt := 123) hx hb dX9_worldsBy_75 (by decide) (fun e16 => ?_) (fun e16 => ?_)
    · have hf := xif_t hf e16
      exact t_X9_worldsBy_123 X hr hlk  hk8 hk17 S a1 a2 a3 a4 a5 a6 a7 hf H locs ls hP hS (lv_sub hl [0, 1, 2, 3, 4, 5, 6, 7] rfl)
    · have hf := xif_f hf e16
      refine lv_iload hx hb dX9_worldsBy_78 (lv_at hl 4 rfl) ?_
      refine lv_if_le (tgt := 123) hx hb dX9_worldsBy_80 (by decide) (fun e20 => ?_) (fun e20 => ?_)
      · have hf := xif_t hf e20
        exact t_X9_worldsBy_123 X hr hlk  hk8 hk17 S a1 a2 a3 a4 a5 a6 a7 hf H locs ls hP hS (lv_sub hl [0, 1, 2, 3, 4, 5, 6, 7] rfl)
      · have hf := xif_f hf e20
        refine lv_lload hx hb dX9_worldsBy_83 (lv_at hl 7 rfl) ?_
        refine lv_iload hx hb dX9_worldsBy_85 (lv_at hl 8 rfl) ?_
        refine lv_iload hx hb dX9_worldsBy_87 (lv_at hl 5 rfl) ?_
        refine lv_icmp_eq (tgt := 103) hx hb dX9_worldsBy_89 (by decide) (fun e21 => ?_) (fun e21 => ?_)
        · have hf := xif_t hf e21
          refine lv_aload_n hx hb dX9_worldsBy_103 rfl (lv_at hl 0 rfl) ?_
          refine x_getR X hP fl_X9_40 (by decide) rfl rfl dX9_worldsBy_104 ?_
          refine lv_iload hx hb dX9_worldsBy_107 (lv_at hl 8 rfl) ?_
          obtain ⟨g22, hf⟩ := xg_some hf
          refine x_lald X hP (by decide) rfl g22 dX9_worldsBy_109 ?_
          refine lv_goto (tgt := 114) hx hb dX9_worldsBy_110 (by decide) ?_
          refine lv_ladd hx hb dX9_worldsBy_114 ?_
          refine lv_lstore (lv' := [(7, .long (a7 + (S.2 45 a9.toNatClampNeg))), (0, .ref (G.2.2 34)), (1, .int a1), (2, .int a2), (3, .int a3), (4, .int a4), (5, .int a5), (6, .int a6), (9, .int a9)]) hx hb dX9_worldsBy_115 hl (by decide) rfl (fun ls hl => ?_)
          refine lv_iinc (v := a9 + 1) (lv' := [(9, .int (a9 + 1)), (7, .long (a7 + (S.2 45 a9.toNatClampNeg))), (0, .ref (G.2.2 34)), (1, .int a1), (2, .int a2), (3, .int a3), (4, .int a4), (5, .int a5), (6, .int a6)]) hx hb dX9_worldsBy_117 hl (k := 8) rfl rfl (by decide) rfl (fun ls hl => ?_)
          refine lv_goto (tgt := 71) hx hb dX9_worldsBy_120 (by decide) ?_
          exact ih S a1 a2 a3 a4 a5 a6 (a7 + (S.2 45 a9.toNatClampNeg)) (a9 + 1) hf H locs ls hP hS (lv_sub hl [2, 3, 4, 5, 6, 7, 8, 1, 0] rfl)
        · have hf := xif_f hf e21
          refine lv_iload hx hb dX9_worldsBy_92 (lv_at hl 8 rfl) ?_
          refine lv_iconst (v := 3) hx hb dX9_worldsBy_94 (by decide) ?_
          refine lv_idiv hx hb dX9_worldsBy_95 (by decide) ?_
          refine lv_iload hx hb dX9_worldsBy_96 (lv_at hl 5 rfl) ?_
          refine lv_iconst (v := 3) hx hb dX9_worldsBy_98 (by decide) ?_
          refine lv_idiv hx hb dX9_worldsBy_99 (by decide) ?_
          refine lv_icmp_eq (tgt := 113) hx hb dX9_worldsBy_100 (by decide) (fun e23 => ?_) (fun e23 => ?_)
          · have hf := xif_t hf e23
            refine lv_lconst (v := 0) hx hb dX9_worldsBy_113 (by decide) ?_
            refine lv_ladd hx hb dX9_worldsBy_114 ?_
            refine lv_lstore (lv' := [(7, .long (a7 + (0 : Int64))), (0, .ref (G.2.2 34)), (1, .int a1), (2, .int a2), (3, .int a3), (4, .int a4), (5, .int a5), (6, .int a6), (9, .int a9)]) hx hb dX9_worldsBy_115 hl (by decide) rfl (fun ls hl => ?_)
            refine lv_iinc (v := a9 + 1) (lv' := [(9, .int (a9 + 1)), (7, .long (a7 + (0 : Int64))), (0, .ref (G.2.2 34)), (1, .int a1), (2, .int a2), (3, .int a3), (4, .int a4), (5, .int a5), (6, .int a6)]) hx hb dX9_worldsBy_117 hl (k := 8) rfl rfl (by decide) rfl (fun ls hl => ?_)
            refine lv_goto (tgt := 71) hx hb dX9_worldsBy_120 (by decide) ?_
            exact ih S a1 a2 a3 a4 a5 a6 (a7 + (0 : Int64)) (a9 + 1) hf H locs ls hP hS (lv_sub hl [2, 3, 4, 5, 6, 7, 8, 1, 0] rfl)
          · have hf := xif_f hf e23
            refine lv_aload_n hx hb dX9_worldsBy_103 rfl (lv_at hl 0 rfl) ?_
            refine x_getR X hP fl_X9_40 (by decide) rfl rfl dX9_worldsBy_104 ?_
            refine lv_iload hx hb dX9_worldsBy_107 (lv_at hl 8 rfl) ?_
            obtain ⟨g24, hf⟩ := xg_some hf
            refine x_lald X hP (by decide) rfl g24 dX9_worldsBy_109 ?_
            refine lv_goto (tgt := 114) hx hb dX9_worldsBy_110 (by decide) ?_
            refine lv_ladd hx hb dX9_worldsBy_114 ?_
            refine lv_lstore (lv' := [(7, .long (a7 + (S.2 45 a9.toNatClampNeg))), (0, .ref (G.2.2 34)), (1, .int a1), (2, .int a2), (3, .int a3), (4, .int a4), (5, .int a5), (6, .int a6), (9, .int a9)]) hx hb dX9_worldsBy_115 hl (by decide) rfl (fun ls hl => ?_)
            refine lv_iinc (v := a9 + 1) (lv' := [(9, .int (a9 + 1)), (7, .long (a7 + (S.2 45 a9.toNatClampNeg))), (0, .ref (G.2.2 34)), (1, .int a1), (2, .int a2), (3, .int a3), (4, .int a4), (5, .int a5), (6, .int a6)]) hx hb dX9_worldsBy_117 hl (k := 8) rfl rfl (by decide) rfl (fun ls hl => ?_)
            refine lv_goto (tgt := 71) hx hb dX9_worldsBy_120 (by decide) ?_
            exact ih S a1 a2 a3 a4 a5 a6 (a7 + (S.2 45 a9.toNatClampNeg)) (a9 + 1) hf H locs ls hP hS (lv_sub hl [2, 3, 4, 5, 6, 7, 8, 1, 0] rfl)
def j_X9_worldsBy_54 (n : Nat) (k8 : xS → Int32 → Int32 → Int32 → Int32 → Option (Int64 × xS)) (k17 : xS → Int32 → Int32 → Int32 → Int32 → Int32 → Option (Int64 × xS)) (S : xS) (a1 : Int32) (a2 : Int32) (a3 : Int32) (a4 : Int32) (a5 : Int32) (s0 : Int32) : Option (Int64 × xS) :=
  (if a4 = 0 then l_X9_worldsBy_71 n k8 k17 n S a1 a2 a3 a4 a5 s0 (1 : Int64) (0 : Int32) else l_X9_worldsBy_71 n k8 k17 n S a1 a2 a3 a4 a5 s0 (0 : Int64) (0 : Int32))
set_option maxHeartbeats 4000000 in
set_option maxRecDepth 100000 in
theorem t_X9_worldsBy_54 {p : Program} {l : Launch} {e : Env} {s : State} {m : MethodId} {args : Array Value} {below : List Frame} {meth : Method} {c : Code} {G : xG} (X : xC p s m args c G RX9 cX9_worldsBy 10) (hr : meth.sig.returnType = (some .long)) (hlk : meth.locks = false) {n : Nat} {r : Int64} {S' : xS} {k8 : xS → Int32 → Int32 → Int32 → Int32 → Option (Int64 × xS)} (hk8 : ∀ (S : xS) (a1 : Int32) (a2 : Int32) (a3 : Int32) (a4 : Int32), k8 S a1 a2 a3 a4 = some (r, S') → xGo p l e { frames := 5, cells := 0, slots := 0, locals := 113 } s m args below meth c G 10 0 0 (MQ below (xQl G r S') args s 0 0 (xA G)) S 8 [(0, .ref (G.2.2 34)), (1, .int a1), (2, .int a2), (3, .int a3), (4, .int a4)] []) {k17 : xS → Int32 → Int32 → Int32 → Int32 → Int32 → Option (Int64 × xS)} (hk17 : ∀ (S : xS) (a1 : Int32) (a2 : Int32) (a3 : Int32) (a4 : Int32) (a5 : Int32), k17 S a1 a2 a3 a4 a5 = some (r, S') → xGo p l e { frames := 5, cells := 0, slots := 0, locals := 113 } s m args below meth c G 10 0 0 (MQ below (xQl G r S') args s 0 0 (xA G)) S 17 [(0, .ref (G.2.2 34)), (1, .int a1), (2, .int a2), (3, .int a3), (4, .int a4), (5, .int a5)] []) : ∀ (S : xS) (a1 : Int32) (a2 : Int32) (a3 : Int32) (a4 : Int32) (a5 : Int32) (s0 : Int32), j_X9_worldsBy_54 n k8 k17 S a1 a2 a3 a4 a5 s0 = some (r, S') → xGo p l e { frames := 5, cells := 0, slots := 0, locals := 113 } s m args below meth c G 10 0 0 (MQ below (xQl G r S') args s 0 0 (xA G)) S 54 [(0, .ref (G.2.2 34)), (1, .int a1), (2, .int a2), (3, .int a3), (4, .int a4), (5, .int a5)] [.int s0] := by
  intro S a1 a2 a3 a4 a5 s0 hf H locs ls hP hS hl
  unfold j_X9_worldsBy_54 at hf
  obtain ⟨hx, hb, hml, hown, hts, hE⟩ := id X
  refine lv_istore (lv' := [(6, .int s0), (0, .ref (G.2.2 34)), (1, .int a1), (2, .int a2), (3, .int a3), (4, .int a4), (5, .int a5)]) hx hb dX9_worldsBy_54 hl (by decide) rfl (fun ls hl => ?_)
  refine lv_iload hx hb dX9_worldsBy_56 (lv_at hl 5 rfl) ?_
  refine lv_if_ne (tgt := 65) hx hb dX9_worldsBy_58 (by decide) (fun e15 => ?_) (fun e15 => ?_)
  · have hf := xif_f hf e15
    refine lv_lconst (v := 0) hx hb dX9_worldsBy_65 (by decide) ?_
    refine lv_lstore (lv' := [(7, .long (0 : Int64)), (6, .int s0), (0, .ref (G.2.2 34)), (1, .int a1), (2, .int a2), (3, .int a3), (4, .int a4), (5, .int a5)]) hx hb dX9_worldsBy_66 hl (by decide) rfl (fun ls hl => ?_)
    refine lv_iconst (v := 0) hx hb dX9_worldsBy_68 (by decide) ?_
    refine lv_istore (lv' := [(9, .int (0 : Int32)), (7, .long (0 : Int64)), (6, .int s0), (0, .ref (G.2.2 34)), (1, .int a1), (2, .int a2), (3, .int a3), (4, .int a4), (5, .int a5)]) hx hb dX9_worldsBy_69 hl (by decide) rfl (fun ls hl => ?_)
    exact t_X9_worldsBy_71 X hr hlk  hk8 hk17 n S a1 a2 a3 a4 a5 s0 (0 : Int64) (0 : Int32) hf H locs ls hP hS (lv_sub hl [3, 4, 5, 6, 7, 8, 2, 1, 0] rfl)
  · have hf := xif_t hf e15
    refine lv_lconst (v := 1) hx hb dX9_worldsBy_61 (by decide) ?_
    refine lv_goto (tgt := 66) hx hb dX9_worldsBy_62 (by decide) ?_
    refine lv_lstore (lv' := [(7, .long (1 : Int64)), (6, .int s0), (0, .ref (G.2.2 34)), (1, .int a1), (2, .int a2), (3, .int a3), (4, .int a4), (5, .int a5)]) hx hb dX9_worldsBy_66 hl (by decide) rfl (fun ls hl => ?_)
    refine lv_iconst (v := 0) hx hb dX9_worldsBy_68 (by decide) ?_
    refine lv_istore (lv' := [(9, .int (0 : Int32)), (7, .long (1 : Int64)), (6, .int s0), (0, .ref (G.2.2 34)), (1, .int a1), (2, .int a2), (3, .int a3), (4, .int a4), (5, .int a5)]) hx hb dX9_worldsBy_69 hl (by decide) rfl (fun ls hl => ?_)
    exact t_X9_worldsBy_71 X hr hlk  hk8 hk17 n S a1 a2 a3 a4 a5 s0 (1 : Int64) (0 : Int32) hf H locs ls hP hS (lv_sub hl [3, 4, 5, 6, 7, 8, 2, 1, 0] rfl)
def j_X9_worldsBy_53 (n : Nat) (k8 : xS → Int32 → Int32 → Int32 → Int32 → Option (Int64 × xS)) (k17 : xS → Int32 → Int32 → Int32 → Int32 → Int32 → Option (Int64 × xS)) (S : xS) (a1 : Int32) (a2 : Int32) (a3 : Int32) (a4 : Int32) (a5 : Int32) : Option (Int64 × xS) :=
  j_X9_worldsBy_54 n k8 k17 S a1 a2 a3 a4 a5 (0 : Int32)
set_option maxHeartbeats 4000000 in
set_option maxRecDepth 100000 in
theorem t_X9_worldsBy_53 {p : Program} {l : Launch} {e : Env} {s : State} {m : MethodId} {args : Array Value} {below : List Frame} {meth : Method} {c : Code} {G : xG} (X : xC p s m args c G RX9 cX9_worldsBy 10) (hr : meth.sig.returnType = (some .long)) (hlk : meth.locks = false) {n : Nat} {r : Int64} {S' : xS} {k8 : xS → Int32 → Int32 → Int32 → Int32 → Option (Int64 × xS)} (hk8 : ∀ (S : xS) (a1 : Int32) (a2 : Int32) (a3 : Int32) (a4 : Int32), k8 S a1 a2 a3 a4 = some (r, S') → xGo p l e { frames := 5, cells := 0, slots := 0, locals := 113 } s m args below meth c G 10 0 0 (MQ below (xQl G r S') args s 0 0 (xA G)) S 8 [(0, .ref (G.2.2 34)), (1, .int a1), (2, .int a2), (3, .int a3), (4, .int a4)] []) {k17 : xS → Int32 → Int32 → Int32 → Int32 → Int32 → Option (Int64 × xS)} (hk17 : ∀ (S : xS) (a1 : Int32) (a2 : Int32) (a3 : Int32) (a4 : Int32) (a5 : Int32), k17 S a1 a2 a3 a4 a5 = some (r, S') → xGo p l e { frames := 5, cells := 0, slots := 0, locals := 113 } s m args below meth c G 10 0 0 (MQ below (xQl G r S') args s 0 0 (xA G)) S 17 [(0, .ref (G.2.2 34)), (1, .int a1), (2, .int a2), (3, .int a3), (4, .int a4), (5, .int a5)] []) : ∀ (S : xS) (a1 : Int32) (a2 : Int32) (a3 : Int32) (a4 : Int32) (a5 : Int32), j_X9_worldsBy_53 n k8 k17 S a1 a2 a3 a4 a5 = some (r, S') → xGo p l e { frames := 5, cells := 0, slots := 0, locals := 113 } s m args below meth c G 10 0 0 (MQ below (xQl G r S') args s 0 0 (xA G)) S 53 [(0, .ref (G.2.2 34)), (1, .int a1), (2, .int a2), (3, .int a3), (4, .int a4), (5, .int a5)] [] := by
  intro S a1 a2 a3 a4 a5 hf H locs ls hP hS hl
  unfold j_X9_worldsBy_53 at hf
  obtain ⟨hx, hb, hml, hown, hts, hE⟩ := id X
  refine lv_iconst (v := 0) hx hb dX9_worldsBy_53 (by decide) ?_
  exact t_X9_worldsBy_54 X hr hlk  hk8 hk17 S a1 a2 a3 a4 a5 (0 : Int32) hf H locs ls hP hS (lv_sub hl [0, 1, 2, 3, 4, 5] rfl)
def j_X9_worldsBy_49 (n : Nat) (k8 : xS → Int32 → Int32 → Int32 → Int32 → Option (Int64 × xS)) (k17 : xS → Int32 → Int32 → Int32 → Int32 → Int32 → Option (Int64 × xS)) (S : xS) (a1 : Int32) (a2 : Int32) (a3 : Int32) (a4 : Int32) (a5 : Int32) : Option (Int64 × xS) :=
  j_X9_worldsBy_54 n k8 k17 S a1 a2 a3 a4 a5 (1 : Int32)
set_option maxHeartbeats 4000000 in
set_option maxRecDepth 100000 in
theorem t_X9_worldsBy_49 {p : Program} {l : Launch} {e : Env} {s : State} {m : MethodId} {args : Array Value} {below : List Frame} {meth : Method} {c : Code} {G : xG} (X : xC p s m args c G RX9 cX9_worldsBy 10) (hr : meth.sig.returnType = (some .long)) (hlk : meth.locks = false) {n : Nat} {r : Int64} {S' : xS} {k8 : xS → Int32 → Int32 → Int32 → Int32 → Option (Int64 × xS)} (hk8 : ∀ (S : xS) (a1 : Int32) (a2 : Int32) (a3 : Int32) (a4 : Int32), k8 S a1 a2 a3 a4 = some (r, S') → xGo p l e { frames := 5, cells := 0, slots := 0, locals := 113 } s m args below meth c G 10 0 0 (MQ below (xQl G r S') args s 0 0 (xA G)) S 8 [(0, .ref (G.2.2 34)), (1, .int a1), (2, .int a2), (3, .int a3), (4, .int a4)] []) {k17 : xS → Int32 → Int32 → Int32 → Int32 → Int32 → Option (Int64 × xS)} (hk17 : ∀ (S : xS) (a1 : Int32) (a2 : Int32) (a3 : Int32) (a4 : Int32) (a5 : Int32), k17 S a1 a2 a3 a4 a5 = some (r, S') → xGo p l e { frames := 5, cells := 0, slots := 0, locals := 113 } s m args below meth c G 10 0 0 (MQ below (xQl G r S') args s 0 0 (xA G)) S 17 [(0, .ref (G.2.2 34)), (1, .int a1), (2, .int a2), (3, .int a3), (4, .int a4), (5, .int a5)] []) : ∀ (S : xS) (a1 : Int32) (a2 : Int32) (a3 : Int32) (a4 : Int32) (a5 : Int32), j_X9_worldsBy_49 n k8 k17 S a1 a2 a3 a4 a5 = some (r, S') → xGo p l e { frames := 5, cells := 0, slots := 0, locals := 113 } s m args below meth c G 10 0 0 (MQ below (xQl G r S') args s 0 0 (xA G)) S 49 [(0, .ref (G.2.2 34)), (1, .int a1), (2, .int a2), (3, .int a3), (4, .int a4), (5, .int a5)] [] := by
  intro S a1 a2 a3 a4 a5 hf H locs ls hP hS hl
  unfold j_X9_worldsBy_49 at hf
  obtain ⟨hx, hb, hml, hown, hts, hE⟩ := id X
  refine lv_iconst (v := 1) hx hb dX9_worldsBy_49 (by decide) ?_
  refine lv_goto (tgt := 54) hx hb dX9_worldsBy_50 (by decide) ?_
  exact t_X9_worldsBy_54 X hr hlk  hk8 hk17 S a1 a2 a3 a4 a5 (1 : Int32) hf H locs ls hP hS (lv_sub hl [0, 1, 2, 3, 4, 5] rfl)
def b_X9_worldsBy_17 (n : Nat) (k8 : xS → Int32 → Int32 → Int32 → Int32 → Option (Int64 × xS)) (k17 : xS → Int32 → Int32 → Int32 → Int32 → Int32 → Option (Int64 × xS)) (S : xS) (a1 : Int32) (a2 : Int32) (a3 : Int32) (a4 : Int32) (a5 : Int32) : Option (Int64 × xS) :=
  (if (9 : Int32) ≤ a5 then l_X9_worldsBy_150 n k8 n S a1 a2 a3 a4 (0 : Int32) else (f_X9_isFit n S a4 a5).bind fun r12 => ((if r12 = 0 then j_X9_worldsBy_53 n k8 k17 S a1 a2 a3 a4 a5 else (if a4 = a1 then (if (a5 / (3 : Int32)) = a2 then j_X9_worldsBy_49 n k8 k17 S a1 a2 a3 a4 a5 else j_X9_worldsBy_53 n k8 k17 S a1 a2 a3 a4 a5) else j_X9_worldsBy_49 n k8 k17 S a1 a2 a3 a4 a5))))
def l_X9_worldsBy_17 (n : Nat) (k8 : xS → Int32 → Int32 → Int32 → Int32 → Option (Int64 × xS)) : Nat → xS → Int32 → Int32 → Int32 → Int32 → Int32 → Option (Int64 × xS)
  | 0, _, _, _, _, _, _ => none
  | j + 1, S, a1, a2, a3, a4, a5 => b_X9_worldsBy_17 n k8 (l_X9_worldsBy_17 n k8 j) S a1 a2 a3 a4 a5
set_option maxHeartbeats 4000000 in
set_option maxRecDepth 100000 in
theorem t_X9_worldsBy_17 {p : Program} {l : Launch} {e : Env} {s : State} {m : MethodId} {args : Array Value} {below : List Frame} {meth : Method} {c : Code} {G : xG} (X : xC p s m args c G RX9 cX9_worldsBy 10) (hr : meth.sig.returnType = (some .long)) (hlk : meth.locks = false) {n : Nat} {r : Int64} {S' : xS} {k8 : xS → Int32 → Int32 → Int32 → Int32 → Option (Int64 × xS)} (hk8 : ∀ (S : xS) (a1 : Int32) (a2 : Int32) (a3 : Int32) (a4 : Int32), k8 S a1 a2 a3 a4 = some (r, S') → xGo p l e { frames := 5, cells := 0, slots := 0, locals := 113 } s m args below meth c G 10 0 0 (MQ below (xQl G r S') args s 0 0 (xA G)) S 8 [(0, .ref (G.2.2 34)), (1, .int a1), (2, .int a2), (3, .int a3), (4, .int a4)] []) : ∀ (j : Nat) (S : xS) (a1 : Int32) (a2 : Int32) (a3 : Int32) (a4 : Int32) (a5 : Int32), l_X9_worldsBy_17 n k8 j S a1 a2 a3 a4 a5 = some (r, S') → xGo p l e { frames := 5, cells := 0, slots := 0, locals := 113 } s m args below meth c G 10 0 0 (MQ below (xQl G r S') args s 0 0 (xA G)) S 17 [(0, .ref (G.2.2 34)), (1, .int a1), (2, .int a2), (3, .int a3), (4, .int a4), (5, .int a5)] [] := by
  intro j
  induction j with
  | zero => intro S a1 a2 a3 a4 a5 hf; exact nomatch (show (none : Option (Int64 × xS)) = _ from hf)
  | succ j ih =>
    intro S a1 a2 a3 a4 a5 hf H locs ls hP hS hl
    have hf : b_X9_worldsBy_17 n k8 (l_X9_worldsBy_17 n k8 j) S a1 a2 a3 a4 a5 = some (r, S') := hf
    unfold b_X9_worldsBy_17 at hf
    obtain ⟨hx, hb, hml, hown, hts, hE⟩ := id X
    refine lv_iload hx hb dX9_worldsBy_17 (lv_at hl 5 rfl) ?_
    refine lv_bipush (v := 9) hx hb dX9_worldsBy_19 (by decide) ?_
    refine lv_icmp_ge (tgt := 147) hx hb dX9_worldsBy_21 (by decide) (fun e8 => ?_) (fun e8 => ?_)
    · have hf := xif_t hf e8
      refine lv_iconst (v := 0) hx hb dX9_worldsBy_147 (by decide) ?_
      refine lv_istore (lv' := [(5, .int (0 : Int32)), (0, .ref (G.2.2 34)), (1, .int a1), (2, .int a2), (3, .int a3), (4, .int a4)]) hx hb dX9_worldsBy_148 hl (by decide) rfl (fun ls hl => ?_)
      exact t_X9_worldsBy_150 X hr hlk  hk8 n S a1 a2 a3 a4 (0 : Int32) hf H locs ls hP hS (lv_sub hl [1, 2, 3, 4, 5, 0] rfl)
    · have hf := xif_f hf e8
      refine lv_aload_n hx hb dX9_worldsBy_24 rfl (lv_at hl 0 rfl) ?_
      refine lv_iload hx hb dX9_worldsBy_25 (lv_at hl 4 rfl) ?_
      refine lv_iload hx hb dX9_worldsBy_27 (lv_at hl 5 rfl) ?_
      obtain ⟨r12, h13, hf⟩ := xb_some hf
      refine x_cVi (As := [.int a4, .int a5]) (rest := []) X hP hS kc_X9_149 (c_X9_isFit l G n S a4 a5 _ h13) ⟨Nat.le_of_ble_eq_true rfl, Nat.le_of_ble_eq_true rfl⟩ (by decide) rfl rfl rfl hl.1 rfl (Nat.le_of_ble_eq_true rfl) ⟨Nat.zero_le _, Nat.zero_le _⟩ dX9_worldsBy_29 (fun H locs hP hS => ?_)
      refine lv_if_eq (tgt := 53) hx hb dX9_worldsBy_32 (by decide) (fun e14 => ?_) (fun e14 => ?_)
      · have hf := xif_t hf e14
        exact t_X9_worldsBy_53 X hr hlk  hk8 ih S a1 a2 a3 a4 a5 hf H locs ls hP hS (lv_sub hl [0, 1, 2, 3, 4, 5] rfl)
      · have hf := xif_f hf e14
        refine lv_iload hx hb dX9_worldsBy_35 (lv_at hl 4 rfl) ?_
        refine lv_iload_n hx hb dX9_worldsBy_37 rfl (lv_at hl 1 rfl) ?_
        refine lv_icmp_ne (tgt := 49) hx hb dX9_worldsBy_38 (by decide) (fun e25 => ?_) (fun e25 => ?_)
        · have hf := xif_f hf e25
          exact t_X9_worldsBy_49 X hr hlk  hk8 ih S a1 a2 a3 a4 a5 hf H locs ls hP hS (lv_sub hl [0, 1, 2, 3, 4, 5] rfl)
        · have hf := xif_t hf e25
          refine lv_iload hx hb dX9_worldsBy_41 (lv_at hl 5 rfl) ?_
          refine lv_iconst (v := 3) hx hb dX9_worldsBy_43 (by decide) ?_
          refine lv_idiv hx hb dX9_worldsBy_44 (by decide) ?_
          refine lv_iload_n hx hb dX9_worldsBy_45 rfl (lv_at hl 2 rfl) ?_
          refine lv_icmp_ne (tgt := 53) hx hb dX9_worldsBy_46 (by decide) (fun e26 => ?_) (fun e26 => ?_)
          · have hf := xif_f hf e26
            exact t_X9_worldsBy_53 X hr hlk  hk8 ih S a1 a2 a3 a4 a5 hf H locs ls hP hS (lv_sub hl [0, 1, 2, 3, 4, 5] rfl)
          · have hf := xif_t hf e26
            exact t_X9_worldsBy_49 X hr hlk  hk8 ih S a1 a2 a3 a4 a5 hf H locs ls hP hS (lv_sub hl [0, 1, 2, 3, 4, 5] rfl)
def b_X9_worldsBy_8 (n : Nat) (k8 : xS → Int32 → Int32 → Int32 → Int32 → Option (Int64 × xS)) (S : xS) (a1 : Int32) (a2 : Int32) (a3 : Int32) (a4 : Int32) : Option (Int64 × xS) :=
  (if a3 ≤ a4 then (if a3 = 0 then l_X9_worldsBy_197 n n S a3 (1 : Int64) (0 : Int32) else l_X9_worldsBy_197 n n S a3 (0 : Int64) (0 : Int32)) else l_X9_worldsBy_17 n k8 n S a1 a2 a3 a4 (0 : Int32))
def l_X9_worldsBy_8 (n : Nat) : Nat → xS → Int32 → Int32 → Int32 → Int32 → Option (Int64 × xS)
  | 0, _, _, _, _, _ => none
  | j + 1, S, a1, a2, a3, a4 => b_X9_worldsBy_8 n (l_X9_worldsBy_8 n j) S a1 a2 a3 a4
set_option maxHeartbeats 4000000 in
set_option maxRecDepth 100000 in
theorem t_X9_worldsBy_8 {p : Program} {l : Launch} {e : Env} {s : State} {m : MethodId} {args : Array Value} {below : List Frame} {meth : Method} {c : Code} {G : xG} (X : xC p s m args c G RX9 cX9_worldsBy 10) (hr : meth.sig.returnType = (some .long)) (hlk : meth.locks = false) {n : Nat} {r : Int64} {S' : xS} : ∀ (j : Nat) (S : xS) (a1 : Int32) (a2 : Int32) (a3 : Int32) (a4 : Int32), l_X9_worldsBy_8 n j S a1 a2 a3 a4 = some (r, S') → xGo p l e { frames := 5, cells := 0, slots := 0, locals := 113 } s m args below meth c G 10 0 0 (MQ below (xQl G r S') args s 0 0 (xA G)) S 8 [(0, .ref (G.2.2 34)), (1, .int a1), (2, .int a2), (3, .int a3), (4, .int a4)] [] := by
  intro j
  induction j with
  | zero => intro S a1 a2 a3 a4 hf; exact nomatch (show (none : Option (Int64 × xS)) = _ from hf)
  | succ j ih =>
    intro S a1 a2 a3 a4 hf H locs ls hP hS hl
    have hf : b_X9_worldsBy_8 n (l_X9_worldsBy_8 n j) S a1 a2 a3 a4 = some (r, S') := hf
    unfold b_X9_worldsBy_8 at hf
    obtain ⟨hx, hb, hml, hown, hts, hE⟩ := id X
    refine lv_iload hx hb dX9_worldsBy_8 (lv_at hl 4 rfl) ?_
    refine lv_iload_n hx hb dX9_worldsBy_10 rfl (lv_at hl 3 rfl) ?_
    refine lv_icmp_ge (tgt := 183) hx hb dX9_worldsBy_11 (by decide) (fun e3 => ?_) (fun e3 => ?_)
    · have hf := xif_t hf e3
      refine lv_iload_n hx hb dX9_worldsBy_183 rfl (lv_at hl 3 rfl) ?_
      refine lv_if_ne (tgt := 191) hx hb dX9_worldsBy_184 (by decide) (fun e4 => ?_) (fun e4 => ?_)
      · have hf := xif_f hf e4
        refine lv_lconst (v := 0) hx hb dX9_worldsBy_191 (by decide) ?_
        refine lv_lstore (lv' := [(4, .long (0 : Int64)), (0, .ref (G.2.2 34)), (1, .int a1), (2, .int a2), (3, .int a3)]) hx hb dX9_worldsBy_192 hl (by decide) rfl (fun ls hl => ?_)
        refine lv_iconst (v := 0) hx hb dX9_worldsBy_194 (by decide) ?_
        refine lv_istore (lv' := [(6, .int (0 : Int32)), (4, .long (0 : Int64)), (0, .ref (G.2.2 34)), (1, .int a1), (2, .int a2), (3, .int a3)]) hx hb dX9_worldsBy_195 hl (by decide) rfl (fun ls hl => ?_)
        exact t_X9_worldsBy_197 X hr hlk   n S a3 (0 : Int64) (0 : Int32) hf H locs ls hP hS (lv_sub hl [2, 5, 1, 0] rfl)
      · have hf := xif_t hf e4
        refine lv_lconst (v := 1) hx hb dX9_worldsBy_187 (by decide) ?_
        refine lv_goto (tgt := 192) hx hb dX9_worldsBy_188 (by decide) ?_
        refine lv_lstore (lv' := [(4, .long (1 : Int64)), (0, .ref (G.2.2 34)), (1, .int a1), (2, .int a2), (3, .int a3)]) hx hb dX9_worldsBy_192 hl (by decide) rfl (fun ls hl => ?_)
        refine lv_iconst (v := 0) hx hb dX9_worldsBy_194 (by decide) ?_
        refine lv_istore (lv' := [(6, .int (0 : Int32)), (4, .long (1 : Int64)), (0, .ref (G.2.2 34)), (1, .int a1), (2, .int a2), (3, .int a3)]) hx hb dX9_worldsBy_195 hl (by decide) rfl (fun ls hl => ?_)
        exact t_X9_worldsBy_197 X hr hlk   n S a3 (1 : Int64) (0 : Int32) hf H locs ls hP hS (lv_sub hl [2, 5, 1, 0] rfl)
    · have hf := xif_f hf e3
      refine lv_iconst (v := 0) hx hb dX9_worldsBy_14 (by decide) ?_
      refine lv_istore (lv' := [(5, .int (0 : Int32)), (0, .ref (G.2.2 34)), (1, .int a1), (2, .int a2), (3, .int a3), (4, .int a4)]) hx hb dX9_worldsBy_15 hl (by decide) rfl (fun ls hl => ?_)
      exact t_X9_worldsBy_17 X hr hlk  ih n S a1 a2 a3 a4 (0 : Int32) hf H locs ls hP hS (lv_sub hl [1, 2, 3, 4, 5, 0] rfl)
def f_X9_worldsBy (n : Nat) (S : xS) (a1 : Int32) (a2 : Int32) : Option (Int64 × xS) :=
  (f_X9_floorsNow n S).bind fun r1 => (l_X9_worldsBy_8 n n r1.2 a1 a2 r1.1 (0 : Int32))
set_option maxHeartbeats 4000000 in
set_option maxRecDepth 100000 in
theorem c_X9_worldsBy (l : Launch) (G : xG) (n : Nat)  (S : xS) (a1 : Int32) (a2 : Int32) (r : Int64) (S' : xS) (hf : f_X9_worldsBy n S a1 a2 = some (r, S')) : xMl l G yX9_worldsBy cX9_worldsBy 10 (some .long) 5 113 [.ref (G.2.2 34), .int a1, .int a2] S r S' := by
  refine xMl_of (own := RX9) (by decide +kernel) rfl (Nat.le_of_ble_eq_true rfl) ?_
  intro p e s m args below meth c X hr hlk H locs ls hP hS hl
  have hl : lv_has ls 10 [(0, .ref (G.2.2 34)), (1, .int a1), (2, .int a2)] := hl
  obtain ⟨hx, hb, hml, hown, hts, hE⟩ := id X
  unfold f_X9_worldsBy at hf
  refine lv_aload_n hx hb dX9_worldsBy_0 rfl (lv_at hl 0 rfl) ?_
  obtain ⟨r1, h2, hf⟩ := xb_some hf
  refine x_cVi (As := []) (rest := []) X hP hS kc_X9_97 (c_X9_floorsNow l G n S  r1.1 r1.2 h2) ⟨Nat.le_of_ble_eq_true rfl, Nat.le_of_ble_eq_true rfl⟩ (by decide) rfl rfl rfl hl.1 rfl (Nat.le_of_ble_eq_true rfl) ⟨Nat.zero_le _, Nat.zero_le _⟩ dX9_worldsBy_1 (fun H locs hP hS => ?_)
  refine lv_istore_n (lv' := [(3, .int r1.1), (0, .ref (G.2.2 34)), (1, .int a1), (2, .int a2)]) hx hb dX9_worldsBy_4 rfl hl (by decide) rfl (fun ls hl => ?_)
  refine lv_iconst (v := 0) hx hb dX9_worldsBy_5 (by decide) ?_
  refine lv_istore (lv' := [(4, .int (0 : Int32)), (3, .int r1.1), (0, .ref (G.2.2 34)), (1, .int a1), (2, .int a2)]) hx hb dX9_worldsBy_6 hl (by decide) rfl (fun ls hl => ?_)
  exact t_X9_worldsBy_8 X hr hlk   n r1.2 a1 a2 r1.1 (0 : Int32) hf H locs ls hP hS (lv_sub hl [2, 3, 4, 1, 0] rfl)
def f_X9_worlds (n : Nat) (S : xS)  : Option (Int64 × xS) :=
  (f_X9_worldsBy n S (-1 : Int32) (0 : Int32)).bind fun r1 => (some (r1.1, r1.2))
set_option maxHeartbeats 4000000 in
set_option maxRecDepth 100000 in
theorem c_X9_worlds (l : Launch) (G : xG) (n : Nat)  (S : xS)  (r : Int64) (S' : xS) (hf : f_X9_worlds n S  = some (r, S')) : xMl l G yX9_worlds cX9_worlds 1 (some .long) 6 142 [.ref (G.2.2 34)] S r S' := by
  refine xMl_of (own := RX9) (by decide +kernel) rfl (Nat.le_of_ble_eq_true rfl) ?_
  intro p e s m args below meth c X hr hlk H locs ls hP hS hl
  have hl : lv_has ls 1 [(0, .ref (G.2.2 34))] := hl
  obtain ⟨hx, hb, hml, hown, hts, hE⟩ := id X
  unfold f_X9_worlds at hf
  refine lv_aload_n hx hb dX9_worlds_0 rfl (lv_at hl 0 rfl) ?_
  refine lv_iconst (v := (-1)) hx hb dX9_worlds_1 (by decide) ?_
  refine lv_iconst (v := 0) hx hb dX9_worlds_2 (by decide) ?_
  obtain ⟨r1, h2, hf⟩ := xb_some hf
  refine x_cVl (As := [.int (-1 : Int32), .int (0 : Int32)]) (rest := []) X hP hS kc_X9_156 (c_X9_worldsBy l G n S (-1 : Int32) (0 : Int32) r1.1 r1.2 h2) ⟨Nat.le_of_ble_eq_true rfl, Nat.le_of_ble_eq_true rfl⟩ (by decide) rfl rfl rfl hl.1 rfl (Nat.le_of_ble_eq_true rfl) ⟨Nat.zero_le _, Nat.zero_le _⟩ dX9_worlds_3 (fun H locs hP hS => ?_)
  exact x_lret X hr hlk hP hS  ((Prod.mk.inj (Option.some.inj hf)).1) ((Prod.mk.inj (Option.some.inj hf)).2) dX9_worlds_6
def f_X8_odds (n : Nat) (S : xS) (a1 : Int32) (a2 : Int32) (a3 : Int32) : Option (Int64 × xS) :=
  (if (f_X8_isFloor S a1) = 0 then some (f_X8_refuseLong (-2 : Int32), S) else (if (f_X8_isMaster a2) = 0 then some (f_X8_refuseLong (-2 : Int32), S) else (if (f_X8_within a3 (0 : Int32) (1 : Int32)) = 0 then some (f_X8_refuseLong (-2 : Int32), S) else (f_X8_worlds n S).bind fun r4 => ((if (lg_cmp r4.1 (0 : Int64)) = 0 then some (f_X8_refuseLong (-3 : Int32), r4.2) else (f_X0_countWorlds n r4.2 (r4.2.1 33 (0 : Int32).toNatClampNeg) a1 a2).bind fun r7 => ((f_X8_inLowestTerms n r7.1 r4.1 a3).bind fun r9 => (some (r9, r7.2))))))))
set_option maxHeartbeats 4000000 in
set_option maxRecDepth 100000 in
theorem c_X8_odds (l : Launch) (G : xG) (n : Nat)  (S : xS) (a1 : Int32) (a2 : Int32) (a3 : Int32) (r : Int64) (S' : xS) (hf : f_X8_odds n S a1 a2 a3 = some (r, S')) : xMl l G yX8_odds cX8_odds 6 (some .long) 4 99 [.ref (G.2.2 0), .int a1, .int a2, .int a3] S r S' := by
  refine xMl_of (own := RX8) (by decide +kernel) rfl (Nat.le_of_ble_eq_true rfl) ?_
  intro p e s m args below meth c X hr hlk H locs ls hP hS hl
  have hl : lv_has ls 6 [(0, .ref (G.2.2 0)), (1, .int a1), (2, .int a2), (3, .int a3)] := hl
  obtain ⟨hx, hb, hml, hown, hts, hE⟩ := id X
  unfold f_X8_odds at hf
  refine lv_aload_n hx hb dX8_odds_0 rfl (lv_at hl 0 rfl) ?_
  refine lv_iload_n hx hb dX8_odds_1 rfl (lv_at hl 1 rfl) ?_
  refine x_cVi (As := [.int a1]) (rest := []) X hP hS kc_X8_104 (c_X8_isFloor l G  S a1 _ rfl) ⟨Nat.le_of_ble_eq_true rfl, Nat.le_of_ble_eq_true rfl⟩ (by decide) rfl rfl rfl hl.1 rfl (Nat.le_of_ble_eq_true rfl) ⟨Nat.zero_le _, Nat.zero_le _⟩ dX8_odds_2 (fun H locs hP hS => ?_)
  refine lv_if_eq (tgt := 24) hx hb dX8_odds_5 (by decide) (fun e1 => ?_) (fun e1 => ?_)
  · have hf := xif_t hf e1
    refine lv_bipush (v := (-2)) hx hb dX8_odds_24 (by decide) ?_
    refine x_cSl (As := [.int (-2 : Int32)]) (rest := []) X hP hS kc_X8_167 (c_X8_refuseLong l G  S (-2 : Int32) _ rfl) ⟨Nat.le_of_ble_eq_true rfl, Nat.le_of_ble_eq_true rfl⟩ rfl hl.1 rfl (Nat.le_of_ble_eq_true rfl) ⟨Nat.zero_le _, Nat.zero_le _⟩ dX8_odds_26 (fun H locs hP hS => ?_)
    exact x_lret X hr hlk hP hS  ((Prod.mk.inj (Option.some.inj hf)).1) ((Prod.mk.inj (Option.some.inj hf)).2) dX8_odds_29
  · have hf := xif_f hf e1
    refine lv_iload_n hx hb dX8_odds_8 rfl (lv_at hl 2 rfl) ?_
    refine x_cSi (As := [.int a2]) (rest := []) X hP hS kc_X8_75 (c_X8_isMaster l G  S a2 _ rfl) ⟨Nat.le_of_ble_eq_true rfl, Nat.le_of_ble_eq_true rfl⟩ rfl hl.1 rfl (Nat.le_of_ble_eq_true rfl) ⟨Nat.zero_le _, Nat.zero_le _⟩ dX8_odds_9 (fun H locs hP hS => ?_)
    refine lv_if_eq (tgt := 24) hx hb dX8_odds_12 (by decide) (fun e2 => ?_) (fun e2 => ?_)
    · have hf := xif_t hf e2
      refine lv_bipush (v := (-2)) hx hb dX8_odds_24 (by decide) ?_
      refine x_cSl (As := [.int (-2 : Int32)]) (rest := []) X hP hS kc_X8_167 (c_X8_refuseLong l G  S (-2 : Int32) _ rfl) ⟨Nat.le_of_ble_eq_true rfl, Nat.le_of_ble_eq_true rfl⟩ rfl hl.1 rfl (Nat.le_of_ble_eq_true rfl) ⟨Nat.zero_le _, Nat.zero_le _⟩ dX8_odds_26 (fun H locs hP hS => ?_)
      exact x_lret X hr hlk hP hS  ((Prod.mk.inj (Option.some.inj hf)).1) ((Prod.mk.inj (Option.some.inj hf)).2) dX8_odds_29
    · have hf := xif_f hf e2
      refine lv_iload_n hx hb dX8_odds_15 rfl (lv_at hl 3 rfl) ?_
      refine lv_iconst (v := 0) hx hb dX8_odds_16 (by decide) ?_
      refine lv_iconst (v := 1) hx hb dX8_odds_17 (by decide) ?_
      refine x_cSi (As := [.int a3, .int (0 : Int32), .int (1 : Int32)]) (rest := []) X hP hS kc_X8_79 (c_X8_within l G  S a3 (0 : Int32) (1 : Int32) _ rfl) ⟨Nat.le_of_ble_eq_true rfl, Nat.le_of_ble_eq_true rfl⟩ rfl hl.1 rfl (Nat.le_of_ble_eq_true rfl) ⟨Nat.zero_le _, Nat.zero_le _⟩ dX8_odds_18 (fun H locs hP hS => ?_)
      refine lv_if_ne (tgt := 30) hx hb dX8_odds_21 (by decide) (fun e3 => ?_) (fun e3 => ?_)
      · have hf := xif_f hf e3
        refine lv_aload_n hx hb dX8_odds_30 rfl (lv_at hl 0 rfl) ?_
        obtain ⟨r4, h5, hf⟩ := xb_some hf
        refine x_cVl (As := []) (rest := []) X hP hS kc_X8_201 (c_X8_worlds l G n S  r4.1 r4.2 h5) ⟨Nat.le_of_ble_eq_true rfl, Nat.le_of_ble_eq_true rfl⟩ (by decide) rfl rfl rfl hl.1 rfl (Nat.le_of_ble_eq_true rfl) ⟨Nat.zero_le _, Nat.zero_le _⟩ dX8_odds_31 (fun H locs hP hS => ?_)
        refine lv_lstore (lv' := [(4, .long r4.1), (0, .ref (G.2.2 0)), (1, .int a1), (2, .int a2), (3, .int a3)]) hx hb dX8_odds_34 hl (by decide) rfl (fun ls hl => ?_)
        refine lv_lload hx hb dX8_odds_36 (lv_at hl 0 rfl) ?_
        refine lv_lconst (v := 0) hx hb dX8_odds_38 (by decide) ?_
        refine W.lcmp hx hb dX8_odds_39 ?_
        refine lv_if_ne (tgt := 49) hx hb dX8_odds_40 (by decide) (fun e6 => ?_) (fun e6 => ?_)
        · have hf := xif_f hf e6
          refine lv_aload_n hx hb dX8_odds_49 rfl (lv_at hl 1 rfl) ?_
          refine x_getR X hP fl_X8_41 (by decide) rfl rfl dX8_odds_50 ?_
          refine lv_aload_n hx hb dX8_odds_53 rfl (lv_at hl 1 rfl) ?_
          refine x_getR X hP fl_X8_7 (by decide) rfl rfl dX8_odds_54 ?_
          refine lv_iconst (v := 0) hx hb dX8_odds_57 (by decide) ?_
          refine x_iald X hP (by decide) rfl (by decide) dX8_odds_58 ?_
          refine lv_iload_n hx hb dX8_odds_59 rfl (lv_at hl 2 rfl) ?_
          refine lv_iload_n hx hb dX8_odds_60 rfl (lv_at hl 3 rfl) ?_
          obtain ⟨r7, h8, hf⟩ := xb_some hf
          refine x_cVl (As := [.int (r4.2.1 33 (0 : Int32).toNatClampNeg), .int a1, .int a2]) (rest := []) X hP hS kc_X8_197 (c_X0_countWorlds l G n r4.2 (r4.2.1 33 (0 : Int32).toNatClampNeg) a1 a2 r7.1 r7.2 h8) ⟨Nat.le_of_ble_eq_true rfl, Nat.le_of_ble_eq_true rfl⟩ (by decide) rfl rfl rfl hl.1 rfl (Nat.le_of_ble_eq_true rfl) ⟨Nat.zero_le _, Nat.zero_le _⟩ dX8_odds_61 (fun H locs hP hS => ?_)
          refine lv_lload hx hb dX8_odds_64 (lv_at hl 0 rfl) ?_
          refine lv_iload_n hx hb dX8_odds_66 rfl (lv_at hl 4 rfl) ?_
          obtain ⟨r9, h10, hf⟩ := xb_some hf
          refine x_cSl (As := [.long r7.1, .long r4.1, .int a3]) (rest := []) X hP hS kc_X8_174 (c_X8_inLowestTerms l G n r7.2 r7.1 r4.1 a3 _ h10) ⟨Nat.le_of_ble_eq_true rfl, Nat.le_of_ble_eq_true rfl⟩ rfl hl.1 rfl (Nat.le_of_ble_eq_true rfl) ⟨Nat.zero_le _, Nat.zero_le _⟩ dX8_odds_67 (fun H locs hP hS => ?_)
          exact x_lret X hr hlk hP hS  ((Prod.mk.inj (Option.some.inj hf)).1) ((Prod.mk.inj (Option.some.inj hf)).2) dX8_odds_70
        · have hf := xif_t hf e6
          refine lv_bipush (v := (-3)) hx hb dX8_odds_43 (by decide) ?_
          refine x_cSl (As := [.int (-3 : Int32)]) (rest := []) X hP hS kc_X8_167 (c_X8_refuseLong l G  r4.2 (-3 : Int32) _ rfl) ⟨Nat.le_of_ble_eq_true rfl, Nat.le_of_ble_eq_true rfl⟩ rfl hl.1 rfl (Nat.le_of_ble_eq_true rfl) ⟨Nat.zero_le _, Nat.zero_le _⟩ dX8_odds_45 (fun H locs hP hS => ?_)
          exact x_lret X hr hlk hP hS  ((Prod.mk.inj (Option.some.inj hf)).1) ((Prod.mk.inj (Option.some.inj hf)).2) dX8_odds_48
      · have hf := xif_t hf e3
        refine lv_bipush (v := (-2)) hx hb dX8_odds_24 (by decide) ?_
        refine x_cSl (As := [.int (-2 : Int32)]) (rest := []) X hP hS kc_X8_167 (c_X8_refuseLong l G  S (-2 : Int32) _ rfl) ⟨Nat.le_of_ble_eq_true rfl, Nat.le_of_ble_eq_true rfl⟩ rfl hl.1 rfl (Nat.le_of_ble_eq_true rfl) ⟨Nat.zero_le _, Nat.zero_le _⟩ dX8_odds_26 (fun H locs hP hS => ?_)
        exact x_lret X hr hlk hP hS  ((Prod.mk.inj (Option.some.inj hf)).1) ((Prod.mk.inj (Option.some.inj hf)).2) dX8_odds_29
def f_X9_oddsOf (n : Nat) (S : xS) (a1 : Int32) (a2 : Int32) (a3 : Int32) : Option (Int64 × xS) :=
  (f_X9_worldsBy n S (-1 : Int32) (0 : Int32)).bind fun r1 => ((if (lg_cmp r1.1 (0 : Int64)) = 0 then some (f_X9_no (-3 : Int32), r1.2) else (f_X9_worldsBy n r1.2 a1 a2).bind fun r4 => ((f_X9_lowest n r4.1 r1.1 a3).bind fun r6 => (some (r6, r4.2)))))
set_option maxHeartbeats 4000000 in
set_option maxRecDepth 100000 in
theorem c_X9_oddsOf (l : Launch) (G : xG) (n : Nat)  (S : xS) (a1 : Int32) (a2 : Int32) (a3 : Int32) (r : Int64) (S' : xS) (hf : f_X9_oddsOf n S a1 a2 a3 = some (r, S')) : xMl l G yX9_oddsOf cX9_oddsOf 6 (some .long) 6 142 [.ref (G.2.2 34), .int a1, .int a2, .int a3] S r S' := by
  refine xMl_of (own := RX9) (by decide +kernel) rfl (Nat.le_of_ble_eq_true rfl) ?_
  intro p e s m args below meth c X hr hlk H locs ls hP hS hl
  have hl : lv_has ls 6 [(0, .ref (G.2.2 34)), (1, .int a1), (2, .int a2), (3, .int a3)] := hl
  obtain ⟨hx, hb, hml, hown, hts, hE⟩ := id X
  unfold f_X9_oddsOf at hf
  refine lv_aload_n hx hb dX9_oddsOf_0 rfl (lv_at hl 0 rfl) ?_
  refine lv_iconst (v := (-1)) hx hb dX9_oddsOf_1 (by decide) ?_
  refine lv_iconst (v := 0) hx hb dX9_oddsOf_2 (by decide) ?_
  obtain ⟨r1, h2, hf⟩ := xb_some hf
  refine x_cVl (As := [.int (-1 : Int32), .int (0 : Int32)]) (rest := []) X hP hS kc_X9_156 (c_X9_worldsBy l G n S (-1 : Int32) (0 : Int32) r1.1 r1.2 h2) ⟨Nat.le_of_ble_eq_true rfl, Nat.le_of_ble_eq_true rfl⟩ (by decide) rfl rfl rfl hl.1 rfl (Nat.le_of_ble_eq_true rfl) ⟨Nat.zero_le _, Nat.zero_le _⟩ dX9_oddsOf_3 (fun H locs hP hS => ?_)
  refine lv_lstore (lv' := [(4, .long r1.1), (0, .ref (G.2.2 34)), (1, .int a1), (2, .int a2), (3, .int a3)]) hx hb dX9_oddsOf_6 hl (by decide) rfl (fun ls hl => ?_)
  refine lv_lload hx hb dX9_oddsOf_8 (lv_at hl 0 rfl) ?_
  refine lv_lconst (v := 0) hx hb dX9_oddsOf_10 (by decide) ?_
  refine W.lcmp hx hb dX9_oddsOf_11 ?_
  refine lv_if_ne (tgt := 23) hx hb dX9_oddsOf_12 (by decide) (fun e3 => ?_) (fun e3 => ?_)
  · have hf := xif_f hf e3
    refine lv_aload_n hx hb dX9_oddsOf_23 rfl (lv_at hl 1 rfl) ?_
    refine lv_iload_n hx hb dX9_oddsOf_24 rfl (lv_at hl 2 rfl) ?_
    refine lv_iload_n hx hb dX9_oddsOf_25 rfl (lv_at hl 3 rfl) ?_
    obtain ⟨r4, h5, hf⟩ := xb_some hf
    refine x_cVl (As := [.int a1, .int a2]) (rest := []) X hP hS kc_X9_156 (c_X9_worldsBy l G n r1.2 a1 a2 r4.1 r4.2 h5) ⟨Nat.le_of_ble_eq_true rfl, Nat.le_of_ble_eq_true rfl⟩ (by decide) rfl rfl rfl hl.1 rfl (Nat.le_of_ble_eq_true rfl) ⟨Nat.zero_le _, Nat.zero_le _⟩ dX9_oddsOf_26 (fun H locs hP hS => ?_)
    refine lv_lload hx hb dX9_oddsOf_29 (lv_at hl 0 rfl) ?_
    refine lv_iload_n hx hb dX9_oddsOf_31 rfl (lv_at hl 4 rfl) ?_
    obtain ⟨r6, h7, hf⟩ := xb_some hf
    refine x_cSl (As := [.long r4.1, .long r1.1, .int a3]) (rest := []) X hP hS kc_X9_132 (c_X9_lowest l G n r4.2 r4.1 r1.1 a3 _ h7) ⟨Nat.le_of_ble_eq_true rfl, Nat.le_of_ble_eq_true rfl⟩ rfl hl.1 rfl (Nat.le_of_ble_eq_true rfl) ⟨Nat.zero_le _, Nat.zero_le _⟩ dX9_oddsOf_32 (fun H locs hP hS => ?_)
    exact x_lret X hr hlk hP hS  ((Prod.mk.inj (Option.some.inj hf)).1) ((Prod.mk.inj (Option.some.inj hf)).2) dX9_oddsOf_35
  · have hf := xif_t hf e3
    refine lv_bipush (v := (-3)) hx hb dX9_oddsOf_15 (by decide) ?_
    refine x_cSl (As := [.int (-3 : Int32)]) (rest := []) X hP hS kc_X9_128 (c_X9_no l G  r1.2 (-3 : Int32) _ rfl) ⟨Nat.le_of_ble_eq_true rfl, Nat.le_of_ble_eq_true rfl⟩ rfl hl.1 rfl (Nat.le_of_ble_eq_true rfl) ⟨Nat.zero_le _, Nat.zero_le _⟩ dX9_oddsOf_17 (fun H locs hP hS => ?_)
    refine lv_goto (tgt := 35) hx hb dX9_oddsOf_20 (by decide) ?_
    exact x_lret X hr hlk hP hS  ((Prod.mk.inj (Option.some.inj hf)).1) ((Prod.mk.inj (Option.some.inj hf)).2) dX9_oddsOf_35
def f_X9_odds (n : Nat) (S : xS) (a1 : Int32) (a2 : Int32) (a3 : Int32) : Option (Int64 × xS) :=
  (f_X9_isFloor n S a1).bind fun r1 => ((if r1.1 = 0 then some (f_X9_no (-2 : Int32), r1.2) else (if (f_X9_in a2 (0 : Int32) (2 : Int32)) = 0 then some (f_X9_no (-2 : Int32), r1.2) else (if (f_X9_in a3 (0 : Int32) (1 : Int32)) = 0 then some (f_X9_no (-2 : Int32), r1.2) else (f_X9_oddsOf n r1.2 a1 a2 a3).bind fun r6 => (some (r6.1, r6.2))))))
set_option maxHeartbeats 4000000 in
set_option maxRecDepth 100000 in
theorem c_X9_odds (l : Launch) (G : xG) (n : Nat)  (S : xS) (a1 : Int32) (a2 : Int32) (a3 : Int32) (r : Int64) (S' : xS) (hf : f_X9_odds n S a1 a2 a3 = some (r, S')) : xMl l G yX9_odds cX9_odds 4 (some .long) 7 167 [.ref (G.2.2 34), .int a1, .int a2, .int a3] S r S' := by
  refine xMl_of (own := RX9) (by decide +kernel) rfl (Nat.le_of_ble_eq_true rfl) ?_
  intro p e s m args below meth c X hr hlk H locs ls hP hS hl
  have hl : lv_has ls 4 [(0, .ref (G.2.2 34)), (1, .int a1), (2, .int a2), (3, .int a3)] := hl
  obtain ⟨hx, hb, hml, hown, hts, hE⟩ := id X
  unfold f_X9_odds at hf
  refine lv_aload_n hx hb dX9_odds_0 rfl (lv_at hl 0 rfl) ?_
  refine lv_iload_n hx hb dX9_odds_1 rfl (lv_at hl 1 rfl) ?_
  obtain ⟨r1, h2, hf⟩ := xb_some hf
  refine x_cVi (As := [.int a1]) (rest := []) X hP hS kc_X9_103 (c_X9_isFloor l G n S a1 r1.1 r1.2 h2) ⟨Nat.le_of_ble_eq_true rfl, Nat.le_of_ble_eq_true rfl⟩ (by decide) rfl rfl rfl hl.1 rfl (Nat.le_of_ble_eq_true rfl) ⟨Nat.zero_le _, Nat.zero_le _⟩ dX9_odds_2 (fun H locs hP hS => ?_)
  refine lv_if_eq (tgt := 36) hx hb dX9_odds_5 (by decide) (fun e3 => ?_) (fun e3 => ?_)
  · have hf := xif_t hf e3
    refine lv_bipush (v := (-2)) hx hb dX9_odds_36 (by decide) ?_
    refine x_cSl (As := [.int (-2 : Int32)]) (rest := []) X hP hS kc_X9_128 (c_X9_no l G  r1.2 (-2 : Int32) _ rfl) ⟨Nat.le_of_ble_eq_true rfl, Nat.le_of_ble_eq_true rfl⟩ rfl hl.1 rfl (Nat.le_of_ble_eq_true rfl) ⟨Nat.zero_le _, Nat.zero_le _⟩ dX9_odds_38 (fun H locs hP hS => ?_)
    exact x_lret X hr hlk hP hS  ((Prod.mk.inj (Option.some.inj hf)).1) ((Prod.mk.inj (Option.some.inj hf)).2) dX9_odds_41
  · have hf := xif_f hf e3
    refine lv_iload_n hx hb dX9_odds_8 rfl (lv_at hl 2 rfl) ?_
    refine lv_iconst (v := 0) hx hb dX9_odds_9 (by decide) ?_
    refine lv_iconst (v := 2) hx hb dX9_odds_10 (by decide) ?_
    refine x_cSi (As := [.int a2, .int (0 : Int32), .int (2 : Int32)]) (rest := []) X hP hS kc_X9_68 (c_X9_in l G  r1.2 a2 (0 : Int32) (2 : Int32) _ rfl) ⟨Nat.le_of_ble_eq_true rfl, Nat.le_of_ble_eq_true rfl⟩ rfl hl.1 rfl (Nat.le_of_ble_eq_true rfl) ⟨Nat.zero_le _, Nat.zero_le _⟩ dX9_odds_11 (fun H locs hP hS => ?_)
    refine lv_if_eq (tgt := 36) hx hb dX9_odds_14 (by decide) (fun e4 => ?_) (fun e4 => ?_)
    · have hf := xif_t hf e4
      refine lv_bipush (v := (-2)) hx hb dX9_odds_36 (by decide) ?_
      refine x_cSl (As := [.int (-2 : Int32)]) (rest := []) X hP hS kc_X9_128 (c_X9_no l G  r1.2 (-2 : Int32) _ rfl) ⟨Nat.le_of_ble_eq_true rfl, Nat.le_of_ble_eq_true rfl⟩ rfl hl.1 rfl (Nat.le_of_ble_eq_true rfl) ⟨Nat.zero_le _, Nat.zero_le _⟩ dX9_odds_38 (fun H locs hP hS => ?_)
      exact x_lret X hr hlk hP hS  ((Prod.mk.inj (Option.some.inj hf)).1) ((Prod.mk.inj (Option.some.inj hf)).2) dX9_odds_41
    · have hf := xif_f hf e4
      refine lv_iload_n hx hb dX9_odds_17 rfl (lv_at hl 3 rfl) ?_
      refine lv_iconst (v := 0) hx hb dX9_odds_18 (by decide) ?_
      refine lv_iconst (v := 1) hx hb dX9_odds_19 (by decide) ?_
      refine x_cSi (As := [.int a3, .int (0 : Int32), .int (1 : Int32)]) (rest := []) X hP hS kc_X9_68 (c_X9_in l G  r1.2 a3 (0 : Int32) (1 : Int32) _ rfl) ⟨Nat.le_of_ble_eq_true rfl, Nat.le_of_ble_eq_true rfl⟩ rfl hl.1 rfl (Nat.le_of_ble_eq_true rfl) ⟨Nat.zero_le _, Nat.zero_le _⟩ dX9_odds_20 (fun H locs hP hS => ?_)
      refine lv_if_eq (tgt := 36) hx hb dX9_odds_23 (by decide) (fun e5 => ?_) (fun e5 => ?_)
      · have hf := xif_t hf e5
        refine lv_bipush (v := (-2)) hx hb dX9_odds_36 (by decide) ?_
        refine x_cSl (As := [.int (-2 : Int32)]) (rest := []) X hP hS kc_X9_128 (c_X9_no l G  r1.2 (-2 : Int32) _ rfl) ⟨Nat.le_of_ble_eq_true rfl, Nat.le_of_ble_eq_true rfl⟩ rfl hl.1 rfl (Nat.le_of_ble_eq_true rfl) ⟨Nat.zero_le _, Nat.zero_le _⟩ dX9_odds_38 (fun H locs hP hS => ?_)
        exact x_lret X hr hlk hP hS  ((Prod.mk.inj (Option.some.inj hf)).1) ((Prod.mk.inj (Option.some.inj hf)).2) dX9_odds_41
      · have hf := xif_f hf e5
        refine lv_aload_n hx hb dX9_odds_26 rfl (lv_at hl 0 rfl) ?_
        refine lv_iload_n hx hb dX9_odds_27 rfl (lv_at hl 1 rfl) ?_
        refine lv_iload_n hx hb dX9_odds_28 rfl (lv_at hl 2 rfl) ?_
        refine lv_iload_n hx hb dX9_odds_29 rfl (lv_at hl 3 rfl) ?_
        obtain ⟨r6, h7, hf⟩ := xb_some hf
        refine x_cVl (As := [.int a1, .int a2, .int a3]) (rest := []) X hP hS kc_X9_160 (c_X9_oddsOf l G n r1.2 a1 a2 a3 r6.1 r6.2 h7) ⟨Nat.le_of_ble_eq_true rfl, Nat.le_of_ble_eq_true rfl⟩ (by decide) rfl rfl rfl hl.1 rfl (Nat.le_of_ble_eq_true rfl) ⟨Nat.zero_le _, Nat.zero_le _⟩ dX9_odds_30 (fun H locs hP hS => ?_)
        refine lv_goto (tgt := 41) hx hb dX9_odds_33 (by decide) ?_
        exact x_lret X hr hlk hP hS  ((Prod.mk.inj (Option.some.inj hf)).1) ((Prod.mk.inj (Option.some.inj hf)).2) dX9_odds_41
def f_X8_lean (n : Nat) (S : xS) (a1 : Int32) (a2 : Int32) : Option (Int32 × xS) :=
  (if (f_X8_within a1 (0 : Int32) (10 : Int32)) = 0 then some ((-100002 : Int32), S) else (if (f_X8_within a2 (-99 : Int32) (99 : Int32)) = 0 then some ((-100002 : Int32), S) else xg (xin a1 11) (xg (xin a1 11) (some (S.1 19 a1.toNatClampNeg, xst S 19 a1.toNatClampNeg a2)))))
set_option maxHeartbeats 4000000 in
set_option maxRecDepth 100000 in
theorem c_X8_lean (l : Launch) (G : xG) (n : Nat)  (S : xS) (a1 : Int32) (a2 : Int32) (r : Int32) (S' : xS) (hf : f_X8_lean n S a1 a2 = some (r, S')) : xMi l G yX8_lean cX8_lean 4 (some .int) 1 22 [.ref (G.2.2 0), .int a1, .int a2] S r S' := by
  refine xMi_of (own := RX8) (by decide +kernel) rfl (Nat.le_of_ble_eq_true rfl) ?_
  intro p e s m args below meth c X hr hlk H locs ls hP hS hl
  have hl : lv_has ls 4 [(0, .ref (G.2.2 0)), (1, .int a1), (2, .int a2)] := hl
  obtain ⟨hx, hb, hml, hown, hts, hE⟩ := id X
  unfold f_X8_lean at hf
  refine lv_iload_n hx hb dX8_lean_0 rfl (lv_at hl 1 rfl) ?_
  refine lv_iconst (v := 0) hx hb dX8_lean_1 (by decide) ?_
  refine lv_bipush (v := 10) hx hb dX8_lean_2 (by decide) ?_
  refine x_cSi (As := [.int a1, .int (0 : Int32), .int (10 : Int32)]) (rest := []) X hP hS kc_X8_79 (c_X8_within l G  S a1 (0 : Int32) (10 : Int32) _ rfl) ⟨Nat.le_of_ble_eq_true rfl, Nat.le_of_ble_eq_true rfl⟩ rfl hl.1 rfl (Nat.le_of_ble_eq_true rfl) ⟨Nat.zero_le _, Nat.zero_le _⟩ dX8_lean_4 (fun H locs hP hS => ?_)
  refine lv_if_eq (tgt := 21) hx hb dX8_lean_7 (by decide) (fun e1 => ?_) (fun e1 => ?_)
  · have hf := xif_t hf e1
    refine lv_ldc hx hb hown (hts _ kw_258) dX8_lean_21 ?_
    exact x_iret X hr hlk hP hS  ((Prod.mk.inj (Option.some.inj hf)).1) ((Prod.mk.inj (Option.some.inj hf)).2) dX8_lean_23
  · have hf := xif_f hf e1
    refine lv_iload_n hx hb dX8_lean_10 rfl (lv_at hl 2 rfl) ?_
    refine lv_bipush (v := (-99)) hx hb dX8_lean_11 (by decide) ?_
    refine lv_bipush (v := 99) hx hb dX8_lean_13 (by decide) ?_
    refine x_cSi (As := [.int a2, .int (-99 : Int32), .int (99 : Int32)]) (rest := []) X hP hS kc_X8_79 (c_X8_within l G  S a2 (-99 : Int32) (99 : Int32) _ rfl) ⟨Nat.le_of_ble_eq_true rfl, Nat.le_of_ble_eq_true rfl⟩ rfl hl.1 rfl (Nat.le_of_ble_eq_true rfl) ⟨Nat.zero_le _, Nat.zero_le _⟩ dX8_lean_15 (fun H locs hP hS => ?_)
    refine lv_if_ne (tgt := 24) hx hb dX8_lean_18 (by decide) (fun e2 => ?_) (fun e2 => ?_)
    · have hf := xif_f hf e2
      refine lv_aload_n hx hb dX8_lean_24 rfl (lv_at hl 0 rfl) ?_
      refine x_getR X hP fl_X8_48 (by decide) rfl rfl dX8_lean_25 ?_
      refine x_getRN X hP fn_X8_205 (by decide) rfl rfl dX8_lean_28 ?_
      refine lv_iload_n hx hb dX8_lean_31 rfl (lv_at hl 1 rfl) ?_
      obtain ⟨g3, hf⟩ := xg_some hf
      refine x_iald X hP (by decide) rfl g3 dX8_lean_32 ?_
      refine lv_istore_n (lv' := [(3, .int (S.1 19 a1.toNatClampNeg)), (0, .ref (G.2.2 0)), (1, .int a1), (2, .int a2)]) hx hb dX8_lean_33 rfl hl (by decide) rfl (fun ls hl => ?_)
      refine lv_aload_n hx hb dX8_lean_34 rfl (lv_at hl 1 rfl) ?_
      refine x_getR X hP fl_X8_48 (by decide) rfl rfl dX8_lean_35 ?_
      refine x_getRN X hP fn_X8_205 (by decide) rfl rfl dX8_lean_38 ?_
      refine lv_iload_n hx hb dX8_lean_41 rfl (lv_at hl 2 rfl) ?_
      refine lv_iload_n hx hb dX8_lean_42 rfl (lv_at hl 3 rfl) ?_
      obtain ⟨g4, hf⟩ := xg_some hf
      refine x_iast X hP hS (by decide) rfl g4 dX8_lean_43 (fun H locs hP hS => ?_)
      refine lv_iload_n hx hb dX8_lean_44 rfl (lv_at hl 0 rfl) ?_
      exact x_iret X hr hlk hP hS  ((Prod.mk.inj (Option.some.inj hf)).1) ((Prod.mk.inj (Option.some.inj hf)).2) dX8_lean_45
    · have hf := xif_t hf e2
      refine lv_ldc hx hb hown (hts _ kw_258) dX8_lean_21 ?_
      exact x_iret X hr hlk hP hS  ((Prod.mk.inj (Option.some.inj hf)).1) ((Prod.mk.inj (Option.some.inj hf)).2) dX8_lean_23
def f_X9_lean (n : Nat) (S : xS) (a1 : Int32) (a2 : Int32) : Option (Int32 × xS) :=
  (if (f_X9_in a1 (0 : Int32) (10 : Int32)) = 0 then some ((-100002 : Int32), S) else (if (f_X9_in a2 (-99 : Int32) (99 : Int32)) = 0 then some ((-100002 : Int32), S) else xg (xin a1 11) (xg (xin a1 11) (some (S.1 43 a1.toNatClampNeg, xst S 43 a1.toNatClampNeg a2)))))
set_option maxHeartbeats 4000000 in
set_option maxRecDepth 100000 in
theorem c_X9_lean (l : Launch) (G : xG) (n : Nat)  (S : xS) (a1 : Int32) (a2 : Int32) (r : Int32) (S' : xS) (hf : f_X9_lean n S a1 a2 = some (r, S')) : xMi l G yX9_lean cX9_lean 4 (some .int) 1 22 [.ref (G.2.2 34), .int a1, .int a2] S r S' := by
  refine xMi_of (own := RX9) (by decide +kernel) rfl (Nat.le_of_ble_eq_true rfl) ?_
  intro p e s m args below meth c X hr hlk H locs ls hP hS hl
  have hl : lv_has ls 4 [(0, .ref (G.2.2 34)), (1, .int a1), (2, .int a2)] := hl
  obtain ⟨hx, hb, hml, hown, hts, hE⟩ := id X
  unfold f_X9_lean at hf
  refine lv_iload_n hx hb dX9_lean_0 rfl (lv_at hl 1 rfl) ?_
  refine lv_iconst (v := 0) hx hb dX9_lean_1 (by decide) ?_
  refine lv_bipush (v := 10) hx hb dX9_lean_2 (by decide) ?_
  refine x_cSi (As := [.int a1, .int (0 : Int32), .int (10 : Int32)]) (rest := []) X hP hS kc_X9_68 (c_X9_in l G  S a1 (0 : Int32) (10 : Int32) _ rfl) ⟨Nat.le_of_ble_eq_true rfl, Nat.le_of_ble_eq_true rfl⟩ rfl hl.1 rfl (Nat.le_of_ble_eq_true rfl) ⟨Nat.zero_le _, Nat.zero_le _⟩ dX9_lean_4 (fun H locs hP hS => ?_)
  refine lv_if_eq (tgt := 21) hx hb dX9_lean_7 (by decide) (fun e1 => ?_) (fun e1 => ?_)
  · have hf := xif_t hf e1
    refine lv_ldc hx hb hown (hts _ kw_270) dX9_lean_21 ?_
    exact x_iret X hr hlk hP hS  ((Prod.mk.inj (Option.some.inj hf)).1) ((Prod.mk.inj (Option.some.inj hf)).2) dX9_lean_23
  · have hf := xif_f hf e1
    refine lv_iload_n hx hb dX9_lean_10 rfl (lv_at hl 2 rfl) ?_
    refine lv_bipush (v := (-99)) hx hb dX9_lean_11 (by decide) ?_
    refine lv_bipush (v := 99) hx hb dX9_lean_13 (by decide) ?_
    refine x_cSi (As := [.int a2, .int (-99 : Int32), .int (99 : Int32)]) (rest := []) X hP hS kc_X9_68 (c_X9_in l G  S a2 (-99 : Int32) (99 : Int32) _ rfl) ⟨Nat.le_of_ble_eq_true rfl, Nat.le_of_ble_eq_true rfl⟩ rfl hl.1 rfl (Nat.le_of_ble_eq_true rfl) ⟨Nat.zero_le _, Nat.zero_le _⟩ dX9_lean_15 (fun H locs hP hS => ?_)
    refine lv_if_ne (tgt := 24) hx hb dX9_lean_18 (by decide) (fun e2 => ?_) (fun e2 => ?_)
    · have hf := xif_f hf e2
      refine lv_aload_n hx hb dX9_lean_24 rfl (lv_at hl 0 rfl) ?_
      refine x_getR X hP fl_X9_34 (by decide) rfl rfl dX9_lean_25 ?_
      refine lv_iload_n hx hb dX9_lean_28 rfl (lv_at hl 1 rfl) ?_
      obtain ⟨g3, hf⟩ := xg_some hf
      refine x_iald X hP (by decide) rfl g3 dX9_lean_29 ?_
      refine lv_istore_n (lv' := [(3, .int (S.1 43 a1.toNatClampNeg)), (0, .ref (G.2.2 34)), (1, .int a1), (2, .int a2)]) hx hb dX9_lean_30 rfl hl (by decide) rfl (fun ls hl => ?_)
      refine lv_aload_n hx hb dX9_lean_31 rfl (lv_at hl 1 rfl) ?_
      refine x_getR X hP fl_X9_34 (by decide) rfl rfl dX9_lean_32 ?_
      refine lv_iload_n hx hb dX9_lean_35 rfl (lv_at hl 2 rfl) ?_
      refine lv_iload_n hx hb dX9_lean_36 rfl (lv_at hl 3 rfl) ?_
      obtain ⟨g4, hf⟩ := xg_some hf
      refine x_iast X hP hS (by decide) rfl g4 dX9_lean_37 (fun H locs hP hS => ?_)
      refine lv_iload_n hx hb dX9_lean_38 rfl (lv_at hl 0 rfl) ?_
      exact x_iret X hr hlk hP hS  ((Prod.mk.inj (Option.some.inj hf)).1) ((Prod.mk.inj (Option.some.inj hf)).2) dX9_lean_39
    · have hf := xif_t hf e2
      refine lv_ldc hx hb hown (hts _ kw_270) dX9_lean_21 ?_
      exact x_iret X hr hlk hP hS  ((Prod.mk.inj (Option.some.inj hf)).1) ((Prod.mk.inj (Option.some.inj hf)).2) dX9_lean_23
def b_X5_spread_15 (n : Nat) (k15 : Int32 → Int32 → Int32 → Int32 → Option Int32) (S : xS) (a2 : Int32) (a3 : Int32) (a4 : Int32) (a5 : Int32) : Option Int32 :=
  (if a2 < a5 then some (a4 - a3) else xg (xin a5 11) (xg (xin a5 11) (k15 a2 (xmin a3 (S.1 19 a5.toNatClampNeg)) (xmax a4 (S.1 19 a5.toNatClampNeg)) (a5 + 1))))
def l_X5_spread_15 (n : Nat) (S : xS) : Nat → Int32 → Int32 → Int32 → Int32 → Option Int32
  | 0, _, _, _, _ => none
  | j + 1, a2, a3, a4, a5 => b_X5_spread_15 n (l_X5_spread_15 n S j) S a2 a3 a4 a5
set_option maxHeartbeats 4000000 in
set_option maxRecDepth 100000 in
theorem t_X5_spread_15 {p : Program} {l : Launch} {e : Env} {s : State} {m : MethodId} {args : Array Value} {below : List Frame} {meth : Method} {c : Code} {G : xG} (X : xC p s m args c G RX5 cX5_spread 6) (hr : meth.sig.returnType = (some .int)) (hlk : meth.locks = false) {n : Nat} {r : Int32} {S : xS} : ∀ (j : Nat) (a2 : Int32) (a3 : Int32) (a4 : Int32) (a5 : Int32), l_X5_spread_15 n S j a2 a3 a4 a5 = some r → xGo p l e { frames := 1, cells := 0, slots := 0, locals := 21 } s m args below meth c G 6 0 0 (MQ below (xQi G r S) args s 0 0 (xA G)) S 15 [(0, .ref (G.2.2 18)), (2, .int a2), (3, .int a3), (4, .int a4), (5, .int a5)] [] := by
  intro j
  induction j with
  | zero => intro a2 a3 a4 a5 hf; exact nomatch (show (none : Option Int32) = _ from hf)
  | succ j ih =>
    intro a2 a3 a4 a5 hf H locs ls hP hS hl
    have hf : b_X5_spread_15 n (l_X5_spread_15 n S j) S a2 a3 a4 a5 = some r := hf
    unfold b_X5_spread_15 at hf
    obtain ⟨hx, hb, hml, hown, hts, hE⟩ := id X
    refine lv_iload hx hb dX5_spread_15 (lv_at hl 4 rfl) ?_
    refine lv_iload_n hx hb dX5_spread_17 rfl (lv_at hl 1 rfl) ?_
    refine lv_icmp_gt (tgt := 53) hx hb dX5_spread_18 (by decide) (fun e2 => ?_) (fun e2 => ?_)
    · have hf := xif_t hf e2
      refine lv_iload hx hb dX5_spread_53 (lv_at hl 3 rfl) ?_
      refine lv_iload_n hx hb dX5_spread_55 rfl (lv_at hl 2 rfl) ?_
      refine lv_isub hx hb dX5_spread_56 ?_
      exact x_iret X hr hlk hP hS  (Option.some.inj hf) (rfl) dX5_spread_57
    · have hf := xif_f hf e2
      refine lv_iload_n hx hb dX5_spread_21 rfl (lv_at hl 2 rfl) ?_
      refine lv_aload_n hx hb dX5_spread_22 rfl (lv_at hl 0 rfl) ?_
      refine x_getR X hP fl_X5_9 (by decide) rfl rfl dX5_spread_23 ?_
      refine lv_iload hx hb dX5_spread_26 (lv_at hl 4 rfl) ?_
      obtain ⟨g3, hf⟩ := xg_some hf
      refine x_iald X hP (by decide) rfl g3 dX5_spread_28 ?_
      refine x_mmin X kw_558 hl.1 ⟨Nat.le_of_ble_eq_true rfl, Nat.le_of_ble_eq_true rfl⟩ ⟨Nat.zero_le _, Nat.zero_le _⟩ dX5_spread_29 ?_
      refine lv_istore_n (lv' := [(3, .int (xmin a3 (S.1 19 a5.toNatClampNeg))), (0, .ref (G.2.2 18)), (2, .int a2), (4, .int a4), (5, .int a5)]) hx hb dX5_spread_32 rfl hl (by decide) rfl (fun ls hl => ?_)
      refine lv_iload hx hb dX5_spread_33 (lv_at hl 3 rfl) ?_
      refine lv_aload_n hx hb dX5_spread_35 rfl (lv_at hl 1 rfl) ?_
      refine x_getR X hP fl_X5_9 (by decide) rfl rfl dX5_spread_36 ?_
      refine lv_iload hx hb dX5_spread_39 (lv_at hl 4 rfl) ?_
      obtain ⟨g4, hf⟩ := xg_some hf
      refine x_iald X hP (by decide) rfl g4 dX5_spread_41 ?_
      refine x_mmax X kw_559 hl.1 ⟨Nat.le_of_ble_eq_true rfl, Nat.le_of_ble_eq_true rfl⟩ ⟨Nat.zero_le _, Nat.zero_le _⟩ dX5_spread_42 ?_
      refine lv_istore (lv' := [(4, .int (xmax a4 (S.1 19 a5.toNatClampNeg))), (3, .int (xmin a3 (S.1 19 a5.toNatClampNeg))), (0, .ref (G.2.2 18)), (2, .int a2), (5, .int a5)]) hx hb dX5_spread_45 hl (by decide) rfl (fun ls hl => ?_)
      refine lv_iinc (v := a5 + 1) (lv' := [(5, .int (a5 + 1)), (4, .int (xmax a4 (S.1 19 a5.toNatClampNeg))), (3, .int (xmin a3 (S.1 19 a5.toNatClampNeg))), (0, .ref (G.2.2 18)), (2, .int a2)]) hx hb dX5_spread_47 hl (k := 4) rfl rfl (by decide) rfl (fun ls hl => ?_)
      refine lv_goto (tgt := 15) hx hb dX5_spread_50 (by decide) ?_
      exact ih a2 (xmin a3 (S.1 19 a5.toNatClampNeg)) (xmax a4 (S.1 19 a5.toNatClampNeg)) (a5 + 1) hf H locs ls hP hS (lv_sub hl [3, 4, 2, 1, 0] rfl)
def f_X5_spread (n : Nat) (S : xS) (a1 : Int32) (a2 : Int32) : Option Int32 :=
  xg (xin a1 11) (l_X5_spread_15 n S n a2 (S.1 19 a1.toNatClampNeg) (S.1 19 a1.toNatClampNeg) (a1 + (1 : Int32)))
set_option maxHeartbeats 4000000 in
set_option maxRecDepth 100000 in
theorem c_X5_spread (l : Launch) (G : xG) (n : Nat)  (S : xS) (a1 : Int32) (a2 : Int32) (r : Int32) (hf : f_X5_spread n S a1 a2 = some r) : xMi l G yX5_spread cX5_spread 6 (some .int) 1 21 [.ref (G.2.2 18), .int a1, .int a2] S r S := by
  refine xMi_of (own := RX5) (by decide +kernel) rfl (Nat.le_of_ble_eq_true rfl) ?_
  intro p e s m args below meth c X hr hlk H locs ls hP hS hl
  have hl : lv_has ls 6 [(0, .ref (G.2.2 18)), (1, .int a1), (2, .int a2)] := hl
  obtain ⟨hx, hb, hml, hown, hts, hE⟩ := id X
  unfold f_X5_spread at hf
  refine lv_aload_n hx hb dX5_spread_0 rfl (lv_at hl 0 rfl) ?_
  refine x_getR X hP fl_X5_9 (by decide) rfl rfl dX5_spread_1 ?_
  refine lv_iload_n hx hb dX5_spread_4 rfl (lv_at hl 1 rfl) ?_
  obtain ⟨g1, hf⟩ := xg_some hf
  refine x_iald X hP (by decide) rfl g1 dX5_spread_5 ?_
  refine lv_istore_n (lv' := [(3, .int (S.1 19 a1.toNatClampNeg)), (0, .ref (G.2.2 18)), (1, .int a1), (2, .int a2)]) hx hb dX5_spread_6 rfl hl (by decide) rfl (fun ls hl => ?_)
  refine lv_iload_n hx hb dX5_spread_7 rfl (lv_at hl 0 rfl) ?_
  refine lv_istore (lv' := [(4, .int (S.1 19 a1.toNatClampNeg)), (3, .int (S.1 19 a1.toNatClampNeg)), (0, .ref (G.2.2 18)), (1, .int a1), (2, .int a2)]) hx hb dX5_spread_8 hl (by decide) rfl (fun ls hl => ?_)
  refine lv_iload_n hx hb dX5_spread_10 rfl (lv_at hl 3 rfl) ?_
  refine lv_iconst (v := 1) hx hb dX5_spread_11 (by decide) ?_
  refine lv_iadd hx hb dX5_spread_12 ?_
  refine lv_istore (lv' := [(5, .int (a1 + (1 : Int32))), (4, .int (S.1 19 a1.toNatClampNeg)), (3, .int (S.1 19 a1.toNatClampNeg)), (0, .ref (G.2.2 18)), (1, .int a1), (2, .int a2)]) hx hb dX5_spread_13 hl (by decide) rfl (fun ls hl => ?_)
  exact t_X5_spread_15 X hr hlk   n a2 (S.1 19 a1.toNatClampNeg) (S.1 19 a1.toNatClampNeg) (a1 + (1 : Int32)) hf H locs ls hP hS (lv_sub hl [3, 5, 2, 1, 0] rfl)
