section LAW
variable {p : Program} {l : Launch} {e : Env} {s : State} {m : MethodId} {below : List Frame} {meth : Method} {c : Code} {b L : Nat} {xs : Nat → Int32} {G : xG} {S : xS} {H : Heap} {locs : List Loc} {ls : Array Slot} {Q : State → Prop}
theorem law_loop (C0 : lw_At p s m meth c b L xs) (hL : L ≤ 3072) (X : xC p s m #[Value.ref b] c G RL code 4) (hge : ∀ q, q < 53 → s.heap.size ≤ G.2.2 q) : ∀ (k i : Nat), L < i + k → i ≤ 4000 → ∀ (S : xS) (H : Heap) (locs : List Loc) (ls : Array Slot), Inv S → xP G S H → va_S (xA G) s.heap H locs → lv_has ls 4 (lawl b G i) → W p l e room_1 s m #[Value.ref b] below meth c H locs 600000 7302250 (lw_Z below #[Value.ref b] s) (F0 m 18 ls []) := by
  have hbl := C0.2.2.2.2.2.2.2.1
  have hbA : ¬ xA G b := fun ⟨q, hq, e⟩ => by have := hge q hq; omega
  obtain ⟨hx, hb, hml, hown, hts, hE⟩ := id X
  intro k
  induction k with
  | zero =>
    intro i hk hi4 S H locs ls hI hP hS hl
    refine lv_iload_n hx hb dL_law_18 rfl (lv_at hl 3 rfl) ?_
    refine lv_aload_n hx hb dL_law_19 rfl (lv_at hl 0 rfl) ?_
    refine va_slen hx hb C0.2.2.2.2.2.2.1 hbl hbA hS dL_law_20 ?_
    refine lv_bipush (v := 6) hx hb dL_law_21 rfl ?_
    refine lv_isub hx hb dL_law_23 ?_
    refine lv_icmp_gt (tgt := 1357) hx hb dL_law_24 (by decide) (fun _ => ?_) (fun q => ?_)
    · refine lv_iconst (v := 1) hx hb dL_law_1357 (by decide) ?_
      refine va_forget (fun q hq => ?_) ?_
      · obtain ⟨q0, h0, e0⟩ := hS.2.2 q hq
        rw [e0]; exact hge q0 h0
      · exact lw_ret hx hb C0.2.2.1 C0.2.2.2.2.2.2.2.2.1 dL_law_1358
    · exfalso
      refine q (ltI.mpr ?_)
      have t6 : (6 : Int32).toInt = 6 := rfl
      have tL : (Int32.ofNat L).toInt = L := tin (k := L) (by omega)
      rw [tI_sub (by omega), tL, t6, tin (by omega)]
      omega
  | succ k ih =>
    intro i hk hi4 S H locs ls hI hP hS hl
    refine lv_iload_n hx hb dL_law_18 rfl (lv_at hl 3 rfl) ?_
    refine lv_aload_n hx hb dL_law_19 rfl (lv_at hl 0 rfl) ?_
    refine va_slen hx hb C0.2.2.2.2.2.2.1 hbl hbA hS dL_law_20 ?_
    refine lv_bipush (v := 6) hx hb dL_law_21 rfl ?_
    refine lv_isub hx hb dL_law_23 ?_
    refine lv_icmp_gt (tgt := 1357) hx hb dL_law_24 (by decide) (fun _ => ?_) (fun q => ?_)
    · refine lv_iconst (v := 1) hx hb dL_law_1357 (by decide) ?_
      refine va_forget (fun q hq => ?_) ?_
      · obtain ⟨q0, h0, e0⟩ := hS.2.2 q hq
        rw [e0]; exact hge q0 h0
      · exact lw_ret hx hb C0.2.2.1 C0.2.2.2.2.2.2.2.2.1 dL_law_1358
    · have hi : i + 6 ≤ L := by
        have h1 : ¬ (Int32.ofNat L - 6).toInt < (nI i).toInt := fun z => q (ltI.mpr z)
        have t6 : (6 : Int32).toInt = 6 := rfl
        have tL : (Int32.ofNat L).toInt = L := tin (k := L) (by omega)
        rw [tI_sub (by omega), tL, t6, tin (by omega)] at h1
        omega
      have kk : ∀ (S2 : xS) (H : Heap) (locs : List Loc), Inv S2 → xP G S2 H → va_S (xA G) s.heap H locs → W p l e room_1 s m #[Value.ref b] below meth c H locs 600000 7302250 (lw_Z below #[Value.ref b] s) (F0 m 1351 ls []) := by
        intro S2 H locs hI hP hS
        refine lv_iinc (k := 3) (v := nI (i + 6)) (lv' := [(3, .int (nI (i + 6))), (0, .ref b), (1, .ref (G.2.2 0)), (2, .ref (G.2.2 34))]) hx hb dL_law_1351 hl rfl (adn i 6) (by decide) rfl (fun ls hl => ?_)
        refine lv_goto (tgt := 18) hx hb dL_law_1354 (by decide) ?_
        exact ih (i + 6) (by omega) (by omega) S2 H locs ls hI hP hS (lv_sub hl [1, 2, 3, 0] rfl)
      refine lv_aload_n hx hb dL_law_27 rfl (lv_at hl 0 rfl) ?_
      refine lv_iload_n hx hb dL_law_28 rfl (lv_at hl 3 rfl) ?_
      refine va_sld hx hb C0.2.2.2.2.2.2.1 hbl hbA hS (xin_in (xin_nI (show i < L by omega) (by omega))) dL_law_29 ?_
      refine lv_bipush (v := 63) hx hb dL_law_30 rfl ?_
      refine lv_iand hx hb dL_law_32 ?_
      obtain ⟨j, hj, ej⟩ := pk_andE (xs (nI i).toNatClampNeg) (m := 63) 6 (by decide)
      rw [ej]
      by_cases h36 : 36 < j
      · refine lv_tableOut (tgt := 1351) hx hb dL_law_33 (Or.inr (by rw [tin (by omega)]; omega)) (by decide) ?_
        exact kk S H locs hI hP hS
      by_cases h0 : j = 0
      · rw [h0]
        exact lv_tableIn (off := 163) (tgt := 196) hx hb dL_law_33 (by decide) (by decide) rfl (by decide) (law_0 C0 X hbA hL hi hI hP hS hl kk)
      by_cases h1 : j = 1
      · rw [h1]
        exact lv_tableIn (off := 206) (tgt := 239) hx hb dL_law_33 (by decide) (by decide) rfl (by decide) (law_1 C0 X hbA hL hi hI hP hS hl kk)
      by_cases h2 : j = 2
      · rw [h2]
        exact lv_tableIn (off := 229) (tgt := 262) hx hb dL_law_33 (by decide) (by decide) rfl (by decide) (law_2 C0 X hbA hL hi hI hP hS hl kk)
      by_cases h3 : j = 3
      · rw [h3]
        exact lv_tableIn (off := 242) (tgt := 275) hx hb dL_law_33 (by decide) (by decide) rfl (by decide) (law_3 C0 X hbA hL hi hI hP hS hl kk)
      by_cases h4 : j = 4
      · rw [h4]
        exact lv_tableIn (off := 255) (tgt := 288) hx hb dL_law_33 (by decide) (by decide) rfl (by decide) (law_4 C0 X hbA hL hi hI hP hS hl kk)
      by_cases h5 : j = 5
      · rw [h5]
        exact lv_tableIn (off := 288) (tgt := 321) hx hb dL_law_33 (by decide) (by decide) rfl (by decide) (law_5 C0 X hbA hL hi hI hP hS hl kk)
      by_cases h6 : j = 6
      · rw [h6]
        exact lv_tableIn (off := 331) (tgt := 364) hx hb dL_law_33 (by decide) (by decide) rfl (by decide) (law_6 C0 X hbA hL hi hI hP hS hl kk)
      by_cases h7 : j = 7
      · rw [h7]
        exact lv_tableIn (off := 364) (tgt := 397) hx hb dL_law_33 (by decide) (by decide) rfl (by decide) (law_7 C0 X hbA hL hi hI hP hS hl kk)
      by_cases h8 : j = 8
      · rw [h8]
        exact lv_tableIn (off := 397) (tgt := 430) hx hb dL_law_33 (by decide) (by decide) rfl (by decide) (law_8 C0 X hbA hL hi hI hP hS hl kk)
      by_cases h9 : j = 9
      · rw [h9]
        exact lv_tableIn (off := 430) (tgt := 463) hx hb dL_law_33 (by decide) (by decide) rfl (by decide) (law_9 C0 X hbA hL hi hI hP hS hl kk)
      by_cases h10 : j = 10
      · rw [h10]
        exact lv_tableIn (off := 443) (tgt := 476) hx hb dL_law_33 (by decide) (by decide) rfl (by decide) (law_10 C0 X hbA hL hi hI hP hS hl kk)
      by_cases h11 : j = 11
      · rw [h11]
        exact lv_tableIn (off := 486) (tgt := 519) hx hb dL_law_33 (by decide) (by decide) rfl (by decide) (law_11 C0 X hbA hL hi hI hP hS hl kk)
      by_cases h12 : j = 12
      · rw [h12]
        exact lv_tableIn (off := 539) (tgt := 572) hx hb dL_law_33 (by decide) (by decide) rfl (by decide) (law_12 C0 X hbA hL hi hI hP hS hl kk)
      by_cases h13 : j = 13
      · rw [h13]
        exact lv_tableIn (off := 583) (tgt := 616) hx hb dL_law_33 (by decide) (by decide) rfl (by decide) (law_13 C0 X hbA hL hi hI hP hS hl kk)
      by_cases h14 : j = 14
      · rw [h14]
        exact lv_tableIn (off := 616) (tgt := 649) hx hb dL_law_33 (by decide) (by decide) rfl (by decide) (law_14 C0 X hbA hL hi hI hP hS hl kk)
      by_cases h15 : j = 15
      · rw [h15]
        exact lv_tableIn (off := 639) (tgt := 672) hx hb dL_law_33 (by decide) (by decide) rfl (by decide) (law_15 C0 X hbA hL hi hI hP hS hl kk)
      by_cases h16 : j = 16
      · rw [h16]
        exact lv_tableIn (off := 662) (tgt := 695) hx hb dL_law_33 (by decide) (by decide) rfl (by decide) (law_16 C0 X hbA hL hi hI hP hS hl kk)
      by_cases h17 : j = 17
      · rw [h17]
        exact lv_tableIn (off := 676) (tgt := 709) hx hb dL_law_33 (by decide) (by decide) rfl (by decide) (law_17 C0 X hbA hL hi hI hP hS hl kk)
      by_cases h18 : j = 18
      · rw [h18]
        exact lv_tableIn (off := 720) (tgt := 753) hx hb dL_law_33 (by decide) (by decide) rfl (by decide) (law_18 C0 X hbA hL hi hI hP hS hl kk)
      by_cases h19 : j = 19
      · rw [h19]
        exact lv_tableIn (off := 753) (tgt := 786) hx hb dL_law_33 (by decide) (by decide) rfl (by decide) (law_19 C0 X hbA hL hi hI hP hS hl kk)
      by_cases h20 : j = 20
      · rw [h20]
        exact lv_tableIn (off := 796) (tgt := 829) hx hb dL_law_33 (by decide) (by decide) rfl (by decide) (law_20 C0 X hbA hL hi hI hP hS hl kk)
      by_cases h21 : j = 21
      · rw [h21]
        exact lv_tableIn (off := 809) (tgt := 842) hx hb dL_law_33 (by decide) (by decide) rfl (by decide) (law_21 C0 X hbA hL hi hI hP hS hl kk)
      by_cases h22 : j = 22
      · rw [h22]
        exact lv_tableIn (off := 842) (tgt := 875) hx hb dL_law_33 (by decide) (by decide) rfl (by decide) (law_22 C0 X hbA hL hi hI hP hS hl kk)
      by_cases h23 : j = 23
      · rw [h23]
        exact lv_tableIn (off := 875) (tgt := 908) hx hb dL_law_33 (by decide) (by decide) rfl (by decide) (law_23 C0 X hbA hL hi hI hP hS hl kk)
      by_cases h24 : j = 24
      · rw [h24]
        exact lv_tableIn (off := 908) (tgt := 941) hx hb dL_law_33 (by decide) (by decide) rfl (by decide) (law_24 C0 X hbA hL hi hI hP hS hl kk)
      by_cases h25 : j = 25
      · rw [h25]
        exact lv_tableIn (off := 941) (tgt := 974) hx hb dL_law_33 (by decide) (by decide) rfl (by decide) (law_25 C0 X hbA hL hi hI hP hS hl kk)
      by_cases h26 : j = 26
      · rw [h26]
        exact lv_tableIn (off := 974) (tgt := 1007) hx hb dL_law_33 (by decide) (by decide) rfl (by decide) (law_26 C0 X hbA hL hi hI hP hS hl kk)
      by_cases h27 : j = 27
      · rw [h27]
        exact lv_tableIn (off := 997) (tgt := 1030) hx hb dL_law_33 (by decide) (by decide) rfl (by decide) (law_27 C0 X hbA hL hi hI hP hS hl kk)
      by_cases h28 : j = 28
      · rw [h28]
        exact lv_tableIn (off := 1010) (tgt := 1043) hx hb dL_law_33 (by decide) (by decide) rfl (by decide) (law_28 C0 X hbA hL hi hI hP hS hl kk)
      by_cases h29 : j = 29
      · rw [h29]
        exact lv_tableIn (off := 1033) (tgt := 1066) hx hb dL_law_33 (by decide) (by decide) rfl (by decide) (law_29 C0 X hbA hL hi hI hP hS hl kk)
      by_cases h30 : j = 30
      · rw [h30]
        exact lv_tableIn (off := 1076) (tgt := 1109) hx hb dL_law_33 (by decide) (by decide) rfl (by decide) (law_30 C0 X hbA hL hi hI hP hS hl kk)
      by_cases h31 : j = 31
      · rw [h31]
        exact lv_tableIn (off := 1099) (tgt := 1132) hx hb dL_law_33 (by decide) (by decide) rfl (by decide) (law_31 C0 X hbA hL hi hI hP hS hl kk)
      by_cases h32 : j = 32
      · rw [h32]
        exact lv_tableIn (off := 1152) (tgt := 1185) hx hb dL_law_33 (by decide) (by decide) rfl (by decide) (law_32 C0 X hbA hL hi hI hP hS hl kk)
      by_cases h33 : j = 33
      · rw [h33]
        exact lv_tableIn (off := 1195) (tgt := 1228) hx hb dL_law_33 (by decide) (by decide) rfl (by decide) (law_33 C0 X hbA hL hi hI hP hS hl kk)
      by_cases h34 : j = 34
      · rw [h34]
        exact lv_tableIn (off := 1258) (tgt := 1291) hx hb dL_law_33 (by decide) (by decide) rfl (by decide) (law_34 C0 X hbA hL hi hI hP hS hl kk)
      by_cases h35 : j = 35
      · rw [h35]
        exact lv_tableIn (off := 1281) (tgt := 1314) hx hb dL_law_33 (by decide) (by decide) rfl (by decide) (law_35 C0 X hbA hL hi hI hP hS hl kk)
      by_cases h36 : j = 36
      · rw [h36]
        exact lv_tableIn (off := 1304) (tgt := 1337) hx hb dL_law_33 (by decide) (by decide) rfl (by decide) (law_36 C0 X hbA hL hi hI hP hS hl kk)
      omega
end LAW
