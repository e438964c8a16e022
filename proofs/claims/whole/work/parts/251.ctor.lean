set_option maxHeartbeats 40000000 in
set_option maxRecDepth 100000 in
theorem n_X2 (l : Launch) (D : va_G) (cI cJ cZ cS : ClassId) (h0 sz : Nat) : Met l yX2_init (.code yX2_init cX2_init 1 none :: xbig) { frames := 1, cells := 2, slots := 6, locals := 24 } (va_Pc [.ref h0] (nPc D cI cJ cZ cS sz [(h0, .inr (2, [.null, .null]))])) (va_Qv (fun _ : Nat → Nat => True) (fun u t => va_P D vwCl [(h0, .inr (2, [.ref (u 1), .ref (u 2)])), ((u 1), .inl (cI, 3, .inl (upd (upd (upd (fun _ => 0) 0 (nI 12)) 1 (nI 45)) 2 (nI 9)))), ((u 2), .inl (cI, 3, .inl (upd (upd (upd (fun _ => 0) 0 (nI 1)) 1 (nI 1)) 2 (nI 1))))] t.heap ∧ va_D (va_A [(h0, .inr (2, [.null, .null]))] sz) [(h0, .inr (2, [.ref (u 1), .ref (u 2)])), ((u 1), .inl (cI, 3, .inl (upd (upd (upd (fun _ => 0) 0 (nI 12)) 1 (nI 45)) 2 (nI 9)))), ((u 2), .inl (cI, 3, .inl (upd (upd (upd (fun _ => 0) 0 (nI 1)) 1 (nI 1)) 2 (nI 1))))]) (va_A [(h0, .inr (2, [.null, .null]))] sz)) 2 6 (va_A [(h0, .inr (2, [.null, .null]))] sz) := by
  refine Met.ofW (cc := cX2_init) (maxL := 1) (ret := none) (by decide +kernel) rfl ?_
  intro p e s m args below meth c s₁ B hml hv
  obtain ⟨rfl, hsz, hP, hB, hD0⟩ := hv
  have hx := B.exec
  have hb := B.bytes
  have hr := B.returns
  have hts0 := atoms_spec (ws := .code yX2_init cX2_init 1 none :: xbig) B.pre
  have hts : ∀ w ∈ xbig, w.before ([.ref h0] : List Value).toArray s = true := fun w hw => hts0 w (List.mem_cons_of_mem _ hw)
  have hown : s.vm.findClass RX2 = some m.cls := findClass_of_methodNamed B.named
  have hlocks := B.notSynchronized
  have hin : meth.name = "<init>" := (name_of_methodNamed B.named B.method).1
  have hK := hB.1
  subst hsz
  have hD := hD0.self (sz := s.heap.size)
  generalize hAe : va_A [(h0, .inr (2, [.null, .null]))] s.heap.size = A at hD ⊢
  have hA : ∀ q : Nat, s.heap.size ≤ q → A q := fun q h => by rw [← hAe]; exact Or.inr h
  have hS : va_S A s.heap s.heap [] := va_S.rf
  have hl := lv_entry ([.ref h0]) (n := 1) (Nat.le_of_ble_eq_true rfl)
  rw [lg_entry_eq]
  generalize (lg_sl ([.ref h0]) ++ List.replicate (1 - (lg_sl ([.ref h0])).length) Slot.unset).toArray = ls at hl ⊢
  have hl : lv_has ls 1 [(0, .ref h0)] := hl
  skip
  refine lv_aload_n hx hb dX2_init_0 rfl (lv_at hl 0 rfl) ?_
  refine W.objInit hx hb hown (hts _ kw_48) (hts _ kw_10) (hts _ kw_11) rfl (by rw [hml]; exact hl.1) rfl dX2_init_1 (Nat.le_of_ble_eq_true rfl) (Nat.le_of_ble_eq_true rfl) ?_
  refine W.eq (g2 := F0 m 4 ls []) rfl ?_
  refine lv_aload_n hx hb dX2_init_4 rfl (lv_at hl 0 rfl) ?_
  refine lv_iconst (v := nI 3) hx hb dX2_init_5 (by decide) ?_
  refine n_newI hx hb hts hK hP hD hS hA (N := 3) rfl (by decide) (Nat.le_of_ble_eq_true rfl) (Nat.le_of_ble_eq_true rfl) dX2_init_6 (fun q6 H hP hD hS => ?_)
  have hP : va_P D vwCl [(h0, .inr (2, [.null, .null])), (q6, .inl (cI, 3, .inl (fun _ => 0)))] H := hP
  have hD : va_D A [(h0, .inr (2, [.null, .null])), (q6, .inl (cI, 3, .inl (fun _ => 0)))] := hD
  refine lv_dup hx hb dX2_init_8 rfl ?_
  refine lv_iconst (v := nI 0) hx hb dX2_init_9 (by decide) ?_
  refine lv_bipush (v := nI 12) hx hb dX2_init_10 (by decide) ?_
  refine n_iast hx hb hK hP hD hS 1 rfl (k := 0) rfl (by decide) (by decide) dX2_init_12 (fun H locs hP hD hS => ?_)
  have hP : va_P D vwCl [(h0, .inr (2, [.null, .null])), (q6, .inl (cI, 3, .inl (upd (fun _ => 0) 0 (nI 12))))] H := hP
  have hD : va_D A [(h0, .inr (2, [.null, .null])), (q6, .inl (cI, 3, .inl (upd (fun _ => 0) 0 (nI 12))))] := hD
  refine lv_dup hx hb dX2_init_13 rfl ?_
  refine lv_iconst (v := nI 1) hx hb dX2_init_14 (by decide) ?_
  refine lv_bipush (v := nI 45) hx hb dX2_init_15 (by decide) ?_
  refine n_iast hx hb hK hP hD hS 1 rfl (k := 1) rfl (by decide) (by decide) dX2_init_17 (fun H locs hP hD hS => ?_)
  have hP : va_P D vwCl [(h0, .inr (2, [.null, .null])), (q6, .inl (cI, 3, .inl (upd (upd (fun _ => 0) 0 (nI 12)) 1 (nI 45))))] H := hP
  have hD : va_D A [(h0, .inr (2, [.null, .null])), (q6, .inl (cI, 3, .inl (upd (upd (fun _ => 0) 0 (nI 12)) 1 (nI 45))))] := hD
  refine lv_dup hx hb dX2_init_18 rfl ?_
  refine lv_iconst (v := nI 2) hx hb dX2_init_19 (by decide) ?_
  refine lv_bipush (v := nI 9) hx hb dX2_init_20 (by decide) ?_
  refine n_iast hx hb hK hP hD hS 1 rfl (k := 2) rfl (by decide) (by decide) dX2_init_22 (fun H locs hP hD hS => ?_)
  have hP : va_P D vwCl [(h0, .inr (2, [.null, .null])), (q6, .inl (cI, 3, .inl (upd (upd (upd (fun _ => 0) 0 (nI 12)) 1 (nI 45)) 2 (nI 9))))] H := hP
  have hD : va_D A [(h0, .inr (2, [.null, .null])), (q6, .inl (cI, 3, .inl (upd (upd (upd (fun _ => 0) 0 (nI 12)) 1 (nI 45)) 2 (nI 9))))] := hD
  refine va_putF (D := D) (ci := 2) (v := .ref q6) (ty := .array .int) (C := RX2) (T := TX2) (N := 2) hx hb hts inbX2 tyX2 tyX2_ok nmX2 hown hK hP hD hS 0 rfl rfl 0 (by decide) (hts _ kw_49) (fun _ h9 => h9) rfl hin rfl (by decide +kernel) rfl rfl (Nat.le_of_ble_eq_true rfl) dX2_init_23 (fun H locs hP hD hS => ?_)
  have hP : va_P D vwCl [(h0, .inr (2, [.ref q6, .null])), (q6, .inl (cI, 3, .inl (upd (upd (upd (fun _ => 0) 0 (nI 12)) 1 (nI 45)) 2 (nI 9))))] H := hP
  have hD : va_D A [(h0, .inr (2, [.ref q6, .null])), (q6, .inl (cI, 3, .inl (upd (upd (upd (fun _ => 0) 0 (nI 12)) 1 (nI 45)) 2 (nI 9))))] := hD
  refine lv_aload_n hx hb dX2_init_26 rfl (lv_at hl 0 rfl) ?_
  refine lv_iconst (v := nI 3) hx hb dX2_init_27 (by decide) ?_
  refine n_newI hx hb hts hK hP hD hS hA (N := 3) rfl (by decide) (Nat.le_of_ble_eq_true rfl) (Nat.le_of_ble_eq_true rfl) dX2_init_28 (fun q28 H hP hD hS => ?_)
  have hP : va_P D vwCl [(h0, .inr (2, [.ref q6, .null])), (q6, .inl (cI, 3, .inl (upd (upd (upd (fun _ => 0) 0 (nI 12)) 1 (nI 45)) 2 (nI 9)))), (q28, .inl (cI, 3, .inl (fun _ => 0)))] H := hP
  have hD : va_D A [(h0, .inr (2, [.ref q6, .null])), (q6, .inl (cI, 3, .inl (upd (upd (upd (fun _ => 0) 0 (nI 12)) 1 (nI 45)) 2 (nI 9)))), (q28, .inl (cI, 3, .inl (fun _ => 0)))] := hD
  refine lv_dup hx hb dX2_init_30 rfl ?_
  refine lv_iconst (v := nI 0) hx hb dX2_init_31 (by decide) ?_
  refine lv_iconst (v := nI 1) hx hb dX2_init_32 (by decide) ?_
  refine n_iast hx hb hK hP hD hS 2 rfl (k := 0) rfl (by decide) (by decide) dX2_init_33 (fun H locs hP hD hS => ?_)
  have hP : va_P D vwCl [(h0, .inr (2, [.ref q6, .null])), (q6, .inl (cI, 3, .inl (upd (upd (upd (fun _ => 0) 0 (nI 12)) 1 (nI 45)) 2 (nI 9)))), (q28, .inl (cI, 3, .inl (upd (fun _ => 0) 0 (nI 1))))] H := hP
  have hD : va_D A [(h0, .inr (2, [.ref q6, .null])), (q6, .inl (cI, 3, .inl (upd (upd (upd (fun _ => 0) 0 (nI 12)) 1 (nI 45)) 2 (nI 9)))), (q28, .inl (cI, 3, .inl (upd (fun _ => 0) 0 (nI 1))))] := hD
  refine lv_dup hx hb dX2_init_34 rfl ?_
  refine lv_iconst (v := nI 1) hx hb dX2_init_35 (by decide) ?_
  refine lv_iconst (v := nI 1) hx hb dX2_init_36 (by decide) ?_
  refine n_iast hx hb hK hP hD hS 2 rfl (k := 1) rfl (by decide) (by decide) dX2_init_37 (fun H locs hP hD hS => ?_)
  have hP : va_P D vwCl [(h0, .inr (2, [.ref q6, .null])), (q6, .inl (cI, 3, .inl (upd (upd (upd (fun _ => 0) 0 (nI 12)) 1 (nI 45)) 2 (nI 9)))), (q28, .inl (cI, 3, .inl (upd (upd (fun _ => 0) 0 (nI 1)) 1 (nI 1))))] H := hP
  have hD : va_D A [(h0, .inr (2, [.ref q6, .null])), (q6, .inl (cI, 3, .inl (upd (upd (upd (fun _ => 0) 0 (nI 12)) 1 (nI 45)) 2 (nI 9)))), (q28, .inl (cI, 3, .inl (upd (upd (fun _ => 0) 0 (nI 1)) 1 (nI 1))))] := hD
  refine lv_dup hx hb dX2_init_38 rfl ?_
  refine lv_iconst (v := nI 2) hx hb dX2_init_39 (by decide) ?_
  refine lv_iconst (v := nI 1) hx hb dX2_init_40 (by decide) ?_
  refine n_iast hx hb hK hP hD hS 2 rfl (k := 2) rfl (by decide) (by decide) dX2_init_41 (fun H locs hP hD hS => ?_)
  have hP : va_P D vwCl [(h0, .inr (2, [.ref q6, .null])), (q6, .inl (cI, 3, .inl (upd (upd (upd (fun _ => 0) 0 (nI 12)) 1 (nI 45)) 2 (nI 9)))), (q28, .inl (cI, 3, .inl (upd (upd (upd (fun _ => 0) 0 (nI 1)) 1 (nI 1)) 2 (nI 1))))] H := hP
  have hD : va_D A [(h0, .inr (2, [.ref q6, .null])), (q6, .inl (cI, 3, .inl (upd (upd (upd (fun _ => 0) 0 (nI 12)) 1 (nI 45)) 2 (nI 9)))), (q28, .inl (cI, 3, .inl (upd (upd (upd (fun _ => 0) 0 (nI 1)) 1 (nI 1)) 2 (nI 1))))] := hD
  refine va_putF (D := D) (ci := 2) (v := .ref q28) (ty := .array .int) (C := RX2) (T := TX2) (N := 2) hx hb hts inbX2 tyX2 tyX2_ok nmX2 hown hK hP hD hS 0 rfl rfl 1 (by decide) (hts _ kw_50) (fun _ h9 => h9) rfl hin rfl (by decide +kernel) rfl rfl (Nat.le_of_ble_eq_true rfl) dX2_init_42 (fun H locs hP hD hS => ?_)
  have hP : va_P D vwCl [(h0, .inr (2, [.ref q6, .ref q28])), (q6, .inl (cI, 3, .inl (upd (upd (upd (fun _ => 0) 0 (nI 12)) 1 (nI 45)) 2 (nI 9)))), (q28, .inl (cI, 3, .inl (upd (upd (upd (fun _ => 0) 0 (nI 1)) 1 (nI 1)) 2 (nI 1))))] H := hP
  have hD : va_D A [(h0, .inr (2, [.ref q6, .ref q28])), (q6, .inl (cI, 3, .inl (upd (upd (upd (fun _ => 0) 0 (nI 12)) 1 (nI 45)) 2 (nI 9)))), (q28, .inl (cI, 3, .inl (upd (upd (upd (fun _ => 0) 0 (nI 1)) 1 (nI 1)) 2 (nI 1))))] := hD
  have hP9 := hP.sub (ws' := [(h0, .inr (2, [.ref q6, .ref q28])), (q6, .inl (cI, 3, .inl (upd (upd (upd (fun _ => 0) 0 (nI 12)) 1 (nI 45)) 2 (nI 9)))), (q28, .inl (cI, 3, .inl (upd (upd (upd (fun _ => 0) 0 (nI 1)) 1 (nI 1)) 2 (nI 1))))]) [0, 1, 2] rfl
  have hD9 := hD.sub (ws' := [(h0, .inr (2, [.ref q6, .ref q28])), (q6, .inl (cI, 3, .inl (upd (upd (upd (fun _ => 0) 0 (nI 12)) 1 (nI 45)) 2 (nI 9)))), (q28, .inl (cI, 3, .inl (upd (upd (upd (fun _ => 0) 0 (nI 1)) 1 (nI 1)) 2 (nI 1))))]) [0, 1, 2] (by decide) rfl
  refine W.widen (k := 2) (n := 6) (Nat.le_of_ble_eq_true rfl) (Nat.le_of_ble_eq_true rfl) ?_
  exact W.vret hx hb hr (fun t ht hW => ⟨⟨fun k => ([h0, q6, q28] : List Nat).getD k 0, rfl, trivial, by rw [ht]; exact hP9, hD9⟩, hS.F ht⟩) hS.2.2 dX2_init_45 hlocks
set_option maxHeartbeats 40000000 in
set_option maxRecDepth 100000 in
theorem n_X4 (l : Launch) (D : va_G) (cI cJ cZ cS : ClassId) (h0 sz : Nat) : Met l yX4_init (.code yX4_init cX4_init 1 none :: xbig) { frames := 1, cells := 4, slots := 110, locals := 24 } (va_Pc [.ref h0] (nPc D cI cJ cZ cS sz [(h0, .inr (4, [.null, .int 0, .int 0, .int 0, .null, .null, .null, .int 0]))])) (va_Qv (fun _ : Nat → Nat => True) (fun u t => va_P D vwCl [(h0, .inr (4, [.ref (u 1), .int 0, .int (-1 : Int32), .int 0, .ref (u 2), .ref (u 3), .ref (u 4), .int 0])), ((u 1), .inl (cI, 80, .inl (fun _ => 0))), ((u 2), .inl (cI, 10, .inl (fun _ => 0))), ((u 3), .inl (cI, 10, .inl (fun _ => 0))), ((u 4), .inl (cI, 10, .inl (fun _ => 0)))] t.heap ∧ va_D (va_A [(h0, .inr (4, [.null, .int 0, .int 0, .int 0, .null, .null, .null, .int 0]))] sz) [(h0, .inr (4, [.ref (u 1), .int 0, .int (-1 : Int32), .int 0, .ref (u 2), .ref (u 3), .ref (u 4), .int 0])), ((u 1), .inl (cI, 80, .inl (fun _ => 0))), ((u 2), .inl (cI, 10, .inl (fun _ => 0))), ((u 3), .inl (cI, 10, .inl (fun _ => 0))), ((u 4), .inl (cI, 10, .inl (fun _ => 0)))]) (va_A [(h0, .inr (4, [.null, .int 0, .int 0, .int 0, .null, .null, .null, .int 0]))] sz)) 4 110 (va_A [(h0, .inr (4, [.null, .int 0, .int 0, .int 0, .null, .null, .null, .int 0]))] sz) := by
  refine Met.ofW (cc := cX4_init) (maxL := 1) (ret := none) (by decide +kernel) rfl ?_
  intro p e s m args below meth c s₁ B hml hv
  obtain ⟨rfl, hsz, hP, hB, hD0⟩ := hv
  have hx := B.exec
  have hb := B.bytes
  have hr := B.returns
  have hts0 := atoms_spec (ws := .code yX4_init cX4_init 1 none :: xbig) B.pre
  have hts : ∀ w ∈ xbig, w.before ([.ref h0] : List Value).toArray s = true := fun w hw => hts0 w (List.mem_cons_of_mem _ hw)
  have hown : s.vm.findClass RX4 = some m.cls := findClass_of_methodNamed B.named
  have hlocks := B.notSynchronized
  have hin : meth.name = "<init>" := (name_of_methodNamed B.named B.method).1
  have hK := hB.1
  subst hsz
  have hD := hD0.self (sz := s.heap.size)
  generalize hAe : va_A [(h0, .inr (4, [.null, .int 0, .int 0, .int 0, .null, .null, .null, .int 0]))] s.heap.size = A at hD ⊢
  have hA : ∀ q : Nat, s.heap.size ≤ q → A q := fun q h => by rw [← hAe]; exact Or.inr h
  have hS : va_S A s.heap s.heap [] := va_S.rf
  have hl := lv_entry ([.ref h0]) (n := 1) (Nat.le_of_ble_eq_true rfl)
  rw [lg_entry_eq]
  generalize (lg_sl ([.ref h0]) ++ List.replicate (1 - (lg_sl ([.ref h0])).length) Slot.unset).toArray = ls at hl ⊢
  have hl : lv_has ls 1 [(0, .ref h0)] := hl
  skip
  refine lv_aload_n hx hb dX4_init_0 rfl (lv_at hl 0 rfl) ?_
  refine W.objInit hx hb hown (hts _ kw_53) (hts _ kw_10) (hts _ kw_11) rfl (by rw [hml]; exact hl.1) rfl dX4_init_1 (Nat.le_of_ble_eq_true rfl) (Nat.le_of_ble_eq_true rfl) ?_
  refine W.eq (g2 := F0 m 4 ls []) rfl ?_
  refine lv_aload_n hx hb dX4_init_4 rfl (lv_at hl 0 rfl) ?_
  refine lv_bipush (v := nI 80) hx hb dX4_init_5 (by decide) ?_
  refine n_newI hx hb hts hK hP hD hS hA (N := 80) rfl (by decide) (Nat.le_of_ble_eq_true rfl) (Nat.le_of_ble_eq_true rfl) dX4_init_7 (fun q7 H hP hD hS => ?_)
  have hP : va_P D vwCl [(h0, .inr (4, [.null, .int 0, .int 0, .int 0, .null, .null, .null, .int 0])), (q7, .inl (cI, 80, .inl (fun _ => 0)))] H := hP
  have hD : va_D A [(h0, .inr (4, [.null, .int 0, .int 0, .int 0, .null, .null, .null, .int 0])), (q7, .inl (cI, 80, .inl (fun _ => 0)))] := hD
  refine va_putF (D := D) (ci := 4) (v := .ref q7) (ty := .array .int) (C := RX4) (T := TX4) (N := 8) hx hb hts inbX4 tyX4 tyX4_ok nmX4 hown hK hP hD hS 0 rfl rfl 0 (by decide) (hts _ kw_54) (fun _ h9 => h9) rfl hin rfl (by decide +kernel) rfl rfl (Nat.le_of_ble_eq_true rfl) dX4_init_9 (fun H locs hP hD hS => ?_)
  have hP : va_P D vwCl [(h0, .inr (4, [.ref q7, .int 0, .int 0, .int 0, .null, .null, .null, .int 0])), (q7, .inl (cI, 80, .inl (fun _ => 0)))] H := hP
  have hD : va_D A [(h0, .inr (4, [.ref q7, .int 0, .int 0, .int 0, .null, .null, .null, .int 0])), (q7, .inl (cI, 80, .inl (fun _ => 0)))] := hD
  refine lv_aload_n hx hb dX4_init_12 rfl (lv_at hl 0 rfl) ?_
  refine lv_iconst (v := (-1 : Int32)) hx hb dX4_init_13 (by decide) ?_
  refine va_put (D := D) (ci := 4) (v := .int (-1 : Int32)) (ty := .int) (C := RX4) (T := TX4) (N := 8) hx hb hts inbX4 tyX4 tyX4_ok nmX4 hown hK hP hD hS 0 rfl rfl 2 (by decide) (hts _ kw_55) (fun _ h9 => h9) rfl (by decide +kernel) rfl rfl (Nat.le_of_ble_eq_true rfl) dX4_init_14 (fun H locs hP hD hS => ?_)
  have hP : va_P D vwCl [(h0, .inr (4, [.ref q7, .int 0, .int (-1 : Int32), .int 0, .null, .null, .null, .int 0])), (q7, .inl (cI, 80, .inl (fun _ => 0)))] H := hP
  have hD : va_D A [(h0, .inr (4, [.ref q7, .int 0, .int (-1 : Int32), .int 0, .null, .null, .null, .int 0])), (q7, .inl (cI, 80, .inl (fun _ => 0)))] := hD
  refine lv_aload_n hx hb dX4_init_17 rfl (lv_at hl 0 rfl) ?_
  refine lv_bipush (v := nI 10) hx hb dX4_init_18 (by decide) ?_
  refine n_newI hx hb hts hK hP hD hS hA (N := 10) rfl (by decide) (Nat.le_of_ble_eq_true rfl) (Nat.le_of_ble_eq_true rfl) dX4_init_20 (fun q20 H hP hD hS => ?_)
  have hP : va_P D vwCl [(h0, .inr (4, [.ref q7, .int 0, .int (-1 : Int32), .int 0, .null, .null, .null, .int 0])), (q7, .inl (cI, 80, .inl (fun _ => 0))), (q20, .inl (cI, 10, .inl (fun _ => 0)))] H := hP
  have hD : va_D A [(h0, .inr (4, [.ref q7, .int 0, .int (-1 : Int32), .int 0, .null, .null, .null, .int 0])), (q7, .inl (cI, 80, .inl (fun _ => 0))), (q20, .inl (cI, 10, .inl (fun _ => 0)))] := hD
  refine va_putF (D := D) (ci := 4) (v := .ref q20) (ty := .array .int) (C := RX4) (T := TX4) (N := 8) hx hb hts inbX4 tyX4 tyX4_ok nmX4 hown hK hP hD hS 0 rfl rfl 4 (by decide) (hts _ kw_56) (fun _ h9 => h9) rfl hin rfl (by decide +kernel) rfl rfl (Nat.le_of_ble_eq_true rfl) dX4_init_22 (fun H locs hP hD hS => ?_)
  have hP : va_P D vwCl [(h0, .inr (4, [.ref q7, .int 0, .int (-1 : Int32), .int 0, .ref q20, .null, .null, .int 0])), (q7, .inl (cI, 80, .inl (fun _ => 0))), (q20, .inl (cI, 10, .inl (fun _ => 0)))] H := hP
  have hD : va_D A [(h0, .inr (4, [.ref q7, .int 0, .int (-1 : Int32), .int 0, .ref q20, .null, .null, .int 0])), (q7, .inl (cI, 80, .inl (fun _ => 0))), (q20, .inl (cI, 10, .inl (fun _ => 0)))] := hD
  refine lv_aload_n hx hb dX4_init_25 rfl (lv_at hl 0 rfl) ?_
  refine lv_bipush (v := nI 10) hx hb dX4_init_26 (by decide) ?_
  refine n_newI hx hb hts hK hP hD hS hA (N := 10) rfl (by decide) (Nat.le_of_ble_eq_true rfl) (Nat.le_of_ble_eq_true rfl) dX4_init_28 (fun q28 H hP hD hS => ?_)
  have hP : va_P D vwCl [(h0, .inr (4, [.ref q7, .int 0, .int (-1 : Int32), .int 0, .ref q20, .null, .null, .int 0])), (q7, .inl (cI, 80, .inl (fun _ => 0))), (q20, .inl (cI, 10, .inl (fun _ => 0))), (q28, .inl (cI, 10, .inl (fun _ => 0)))] H := hP
  have hD : va_D A [(h0, .inr (4, [.ref q7, .int 0, .int (-1 : Int32), .int 0, .ref q20, .null, .null, .int 0])), (q7, .inl (cI, 80, .inl (fun _ => 0))), (q20, .inl (cI, 10, .inl (fun _ => 0))), (q28, .inl (cI, 10, .inl (fun _ => 0)))] := hD
  refine va_putF (D := D) (ci := 4) (v := .ref q28) (ty := .array .int) (C := RX4) (T := TX4) (N := 8) hx hb hts inbX4 tyX4 tyX4_ok nmX4 hown hK hP hD hS 0 rfl rfl 5 (by decide) (hts _ kw_57) (fun _ h9 => h9) rfl hin rfl (by decide +kernel) rfl rfl (Nat.le_of_ble_eq_true rfl) dX4_init_30 (fun H locs hP hD hS => ?_)
  have hP : va_P D vwCl [(h0, .inr (4, [.ref q7, .int 0, .int (-1 : Int32), .int 0, .ref q20, .ref q28, .null, .int 0])), (q7, .inl (cI, 80, .inl (fun _ => 0))), (q20, .inl (cI, 10, .inl (fun _ => 0))), (q28, .inl (cI, 10, .inl (fun _ => 0)))] H := hP
  have hD : va_D A [(h0, .inr (4, [.ref q7, .int 0, .int (-1 : Int32), .int 0, .ref q20, .ref q28, .null, .int 0])), (q7, .inl (cI, 80, .inl (fun _ => 0))), (q20, .inl (cI, 10, .inl (fun _ => 0))), (q28, .inl (cI, 10, .inl (fun _ => 0)))] := hD
  refine lv_aload_n hx hb dX4_init_33 rfl (lv_at hl 0 rfl) ?_
  refine lv_bipush (v := nI 10) hx hb dX4_init_34 (by decide) ?_
  refine n_newI hx hb hts hK hP hD hS hA (N := 10) rfl (by decide) (Nat.le_of_ble_eq_true rfl) (Nat.le_of_ble_eq_true rfl) dX4_init_36 (fun q36 H hP hD hS => ?_)
  have hP : va_P D vwCl [(h0, .inr (4, [.ref q7, .int 0, .int (-1 : Int32), .int 0, .ref q20, .ref q28, .null, .int 0])), (q7, .inl (cI, 80, .inl (fun _ => 0))), (q20, .inl (cI, 10, .inl (fun _ => 0))), (q28, .inl (cI, 10, .inl (fun _ => 0))), (q36, .inl (cI, 10, .inl (fun _ => 0)))] H := hP
  have hD : va_D A [(h0, .inr (4, [.ref q7, .int 0, .int (-1 : Int32), .int 0, .ref q20, .ref q28, .null, .int 0])), (q7, .inl (cI, 80, .inl (fun _ => 0))), (q20, .inl (cI, 10, .inl (fun _ => 0))), (q28, .inl (cI, 10, .inl (fun _ => 0))), (q36, .inl (cI, 10, .inl (fun _ => 0)))] := hD
  refine va_putF (D := D) (ci := 4) (v := .ref q36) (ty := .array .int) (C := RX4) (T := TX4) (N := 8) hx hb hts inbX4 tyX4 tyX4_ok nmX4 hown hK hP hD hS 0 rfl rfl 6 (by decide) (hts _ kw_58) (fun _ h9 => h9) rfl hin rfl (by decide +kernel) rfl rfl (Nat.le_of_ble_eq_true rfl) dX4_init_38 (fun H locs hP hD hS => ?_)
  have hP : va_P D vwCl [(h0, .inr (4, [.ref q7, .int 0, .int (-1 : Int32), .int 0, .ref q20, .ref q28, .ref q36, .int 0])), (q7, .inl (cI, 80, .inl (fun _ => 0))), (q20, .inl (cI, 10, .inl (fun _ => 0))), (q28, .inl (cI, 10, .inl (fun _ => 0))), (q36, .inl (cI, 10, .inl (fun _ => 0)))] H := hP
  have hD : va_D A [(h0, .inr (4, [.ref q7, .int 0, .int (-1 : Int32), .int 0, .ref q20, .ref q28, .ref q36, .int 0])), (q7, .inl (cI, 80, .inl (fun _ => 0))), (q20, .inl (cI, 10, .inl (fun _ => 0))), (q28, .inl (cI, 10, .inl (fun _ => 0))), (q36, .inl (cI, 10, .inl (fun _ => 0)))] := hD
  have hP9 := hP.sub (ws' := [(h0, .inr (4, [.ref q7, .int 0, .int (-1 : Int32), .int 0, .ref q20, .ref q28, .ref q36, .int 0])), (q7, .inl (cI, 80, .inl (fun _ => 0))), (q20, .inl (cI, 10, .inl (fun _ => 0))), (q28, .inl (cI, 10, .inl (fun _ => 0))), (q36, .inl (cI, 10, .inl (fun _ => 0)))]) [0, 1, 2, 3, 4] rfl
  have hD9 := hD.sub (ws' := [(h0, .inr (4, [.ref q7, .int 0, .int (-1 : Int32), .int 0, .ref q20, .ref q28, .ref q36, .int 0])), (q7, .inl (cI, 80, .inl (fun _ => 0))), (q20, .inl (cI, 10, .inl (fun _ => 0))), (q28, .inl (cI, 10, .inl (fun _ => 0))), (q36, .inl (cI, 10, .inl (fun _ => 0)))]) [0, 1, 2, 3, 4] (by decide) rfl
  refine W.widen (k := 4) (n := 110) (Nat.le_of_ble_eq_true rfl) (Nat.le_of_ble_eq_true rfl) ?_
  exact W.vret hx hb hr (fun t ht hW => ⟨⟨fun k => ([h0, q7, q20, q28, q36] : List Nat).getD k 0, rfl, trivial, by rw [ht]; exact hP9, hD9⟩, hS.F ht⟩) hS.2.2 dX4_init_41 hlocks
set_option maxHeartbeats 40000000 in
set_option maxRecDepth 100000 in
theorem n_X5 (l : Launch) (D : va_G) (cI cJ cZ cS : ClassId) (h0 sz : Nat) : Met l yX5_init (.code yX5_init cX5_init 1 none :: xbig) { frames := 1, cells := 1, slots := 11, locals := 24 } (va_Pc [.ref h0] (nPc D cI cJ cZ cS sz [(h0, .inr (5, [.null]))])) (va_Qv (fun _ : Nat → Nat => True) (fun u t => va_P D vwCl [(h0, .inr (5, [.ref (u 1)])), ((u 1), .inl (cI, 11, .inl (fun _ => 0)))] t.heap ∧ va_D (va_A [(h0, .inr (5, [.null]))] sz) [(h0, .inr (5, [.ref (u 1)])), ((u 1), .inl (cI, 11, .inl (fun _ => 0)))]) (va_A [(h0, .inr (5, [.null]))] sz)) 1 11 (va_A [(h0, .inr (5, [.null]))] sz) := by
  refine Met.ofW (cc := cX5_init) (maxL := 1) (ret := none) (by decide +kernel) rfl ?_
  intro p e s m args below meth c s₁ B hml hv
  obtain ⟨rfl, hsz, hP, hB, hD0⟩ := hv
  have hx := B.exec
  have hb := B.bytes
  have hr := B.returns
  have hts0 := atoms_spec (ws := .code yX5_init cX5_init 1 none :: xbig) B.pre
  have hts : ∀ w ∈ xbig, w.before ([.ref h0] : List Value).toArray s = true := fun w hw => hts0 w (List.mem_cons_of_mem _ hw)
  have hown : s.vm.findClass RX5 = some m.cls := findClass_of_methodNamed B.named
  have hlocks := B.notSynchronized
  have hin : meth.name = "<init>" := (name_of_methodNamed B.named B.method).1
  have hK := hB.1
  subst hsz
  have hD := hD0.self (sz := s.heap.size)
  generalize hAe : va_A [(h0, .inr (5, [.null]))] s.heap.size = A at hD ⊢
  have hA : ∀ q : Nat, s.heap.size ≤ q → A q := fun q h => by rw [← hAe]; exact Or.inr h
  have hS : va_S A s.heap s.heap [] := va_S.rf
  have hl := lv_entry ([.ref h0]) (n := 1) (Nat.le_of_ble_eq_true rfl)
  rw [lg_entry_eq]
  generalize (lg_sl ([.ref h0]) ++ List.replicate (1 - (lg_sl ([.ref h0])).length) Slot.unset).toArray = ls at hl ⊢
  have hl : lv_has ls 1 [(0, .ref h0)] := hl
  skip
  refine lv_aload_n hx hb dX5_init_0 rfl (lv_at hl 0 rfl) ?_
  refine W.objInit hx hb hown (hts _ kw_85) (hts _ kw_10) (hts _ kw_11) rfl (by rw [hml]; exact hl.1) rfl dX5_init_1 (Nat.le_of_ble_eq_true rfl) (Nat.le_of_ble_eq_true rfl) ?_
  refine W.eq (g2 := F0 m 4 ls []) rfl ?_
  refine lv_aload_n hx hb dX5_init_4 rfl (lv_at hl 0 rfl) ?_
  refine lv_bipush (v := nI 11) hx hb dX5_init_5 (by decide) ?_
  refine n_newI hx hb hts hK hP hD hS hA (N := 11) rfl (by decide) (Nat.le_of_ble_eq_true rfl) (Nat.le_of_ble_eq_true rfl) dX5_init_7 (fun q7 H hP hD hS => ?_)
  have hP : va_P D vwCl [(h0, .inr (5, [.null])), (q7, .inl (cI, 11, .inl (fun _ => 0)))] H := hP
  have hD : va_D A [(h0, .inr (5, [.null])), (q7, .inl (cI, 11, .inl (fun _ => 0)))] := hD
  refine va_putF (D := D) (ci := 5) (v := .ref q7) (ty := .array .int) (C := RX5) (T := TX5) (N := 1) hx hb hts inbX5 tyX5 tyX5_ok nmX5 hown hK hP hD hS 0 rfl rfl 0 (by decide) (hts _ kw_86) (fun _ h9 => h9) rfl hin rfl (by decide +kernel) rfl rfl (Nat.le_of_ble_eq_true rfl) dX5_init_9 (fun H locs hP hD hS => ?_)
  have hP : va_P D vwCl [(h0, .inr (5, [.ref q7])), (q7, .inl (cI, 11, .inl (fun _ => 0)))] H := hP
  have hD : va_D A [(h0, .inr (5, [.ref q7])), (q7, .inl (cI, 11, .inl (fun _ => 0)))] := hD
  have hP9 := hP.sub (ws' := [(h0, .inr (5, [.ref q7])), (q7, .inl (cI, 11, .inl (fun _ => 0)))]) [0, 1] rfl
  have hD9 := hD.sub (ws' := [(h0, .inr (5, [.ref q7])), (q7, .inl (cI, 11, .inl (fun _ => 0)))]) [0, 1] (by decide) rfl
  refine W.widen (k := 1) (n := 11) (Nat.le_of_ble_eq_true rfl) (Nat.le_of_ble_eq_true rfl) ?_
  exact W.vret hx hb hr (fun t ht hW => ⟨⟨fun k => ([h0, q7] : List Nat).getD k 0, rfl, trivial, by rw [ht]; exact hP9, hD9⟩, hS.F ht⟩) hS.2.2 dX5_init_12 hlocks
set_option maxHeartbeats 40000000 in
set_option maxRecDepth 100000 in
theorem n_X3 (l : Launch) (D : va_G) (cI cJ cZ cS : ClassId) (h0 sz : Nat) : Met l yX3_init (.code yX3_init cX3_init 1 none :: xbig) { frames := 1, cells := 1, slots := 10, locals := 24 } (va_Pc [.ref h0] (nPc D cI cJ cZ cS sz [(h0, .inr (3, [.null]))])) (va_Qv (fun _ : Nat → Nat => True) (fun u t => va_P D vwCl [(h0, .inr (3, [.ref (u 1)])), ((u 1), .inl (cI, 10, .inl (fun _ => 0)))] t.heap ∧ va_D (va_A [(h0, .inr (3, [.null]))] sz) [(h0, .inr (3, [.ref (u 1)])), ((u 1), .inl (cI, 10, .inl (fun _ => 0)))]) (va_A [(h0, .inr (3, [.null]))] sz)) 1 10 (va_A [(h0, .inr (3, [.null]))] sz) := by
  refine Met.ofW (cc := cX3_init) (maxL := 1) (ret := none) (by decide +kernel) rfl ?_
  intro p e s m args below meth c s₁ B hml hv
  obtain ⟨rfl, hsz, hP, hB, hD0⟩ := hv
  have hx := B.exec
  have hb := B.bytes
  have hr := B.returns
  have hts0 := atoms_spec (ws := .code yX3_init cX3_init 1 none :: xbig) B.pre
  have hts : ∀ w ∈ xbig, w.before ([.ref h0] : List Value).toArray s = true := fun w hw => hts0 w (List.mem_cons_of_mem _ hw)
  have hown : s.vm.findClass RX3 = some m.cls := findClass_of_methodNamed B.named
  have hlocks := B.notSynchronized
  have hin : meth.name = "<init>" := (name_of_methodNamed B.named B.method).1
  have hK := hB.1
  subst hsz
  have hD := hD0.self (sz := s.heap.size)
  generalize hAe : va_A [(h0, .inr (3, [.null]))] s.heap.size = A at hD ⊢
  have hA : ∀ q : Nat, s.heap.size ≤ q → A q := fun q h => by rw [← hAe]; exact Or.inr h
  have hS : va_S A s.heap s.heap [] := va_S.rf
  have hl := lv_entry ([.ref h0]) (n := 1) (Nat.le_of_ble_eq_true rfl)
  rw [lg_entry_eq]
  generalize (lg_sl ([.ref h0]) ++ List.replicate (1 - (lg_sl ([.ref h0])).length) Slot.unset).toArray = ls at hl ⊢
  have hl : lv_has ls 1 [(0, .ref h0)] := hl
  skip
  refine lv_aload_n hx hb dX3_init_0 rfl (lv_at hl 0 rfl) ?_
  refine W.objInit hx hb hown (hts _ kw_89) (hts _ kw_10) (hts _ kw_11) rfl (by rw [hml]; exact hl.1) rfl dX3_init_1 (Nat.le_of_ble_eq_true rfl) (Nat.le_of_ble_eq_true rfl) ?_
  refine W.eq (g2 := F0 m 4 ls []) rfl ?_
  refine lv_aload_n hx hb dX3_init_4 rfl (lv_at hl 0 rfl) ?_
  refine lv_bipush (v := nI 10) hx hb dX3_init_5 (by decide) ?_
  refine n_newI hx hb hts hK hP hD hS hA (N := 10) rfl (by decide) (Nat.le_of_ble_eq_true rfl) (Nat.le_of_ble_eq_true rfl) dX3_init_7 (fun q7 H hP hD hS => ?_)
  have hP : va_P D vwCl [(h0, .inr (3, [.null])), (q7, .inl (cI, 10, .inl (fun _ => 0)))] H := hP
  have hD : va_D A [(h0, .inr (3, [.null])), (q7, .inl (cI, 10, .inl (fun _ => 0)))] := hD
  refine va_putF (D := D) (ci := 3) (v := .ref q7) (ty := .array .int) (C := RX3) (T := TX3) (N := 1) hx hb hts inbX3 tyX3 tyX3_ok nmX3 hown hK hP hD hS 0 rfl rfl 0 (by decide) (hts _ kw_90) (fun _ h9 => h9) rfl hin rfl (by decide +kernel) rfl rfl (Nat.le_of_ble_eq_true rfl) dX3_init_9 (fun H locs hP hD hS => ?_)
  have hP : va_P D vwCl [(h0, .inr (3, [.ref q7])), (q7, .inl (cI, 10, .inl (fun _ => 0)))] H := hP
  have hD : va_D A [(h0, .inr (3, [.ref q7])), (q7, .inl (cI, 10, .inl (fun _ => 0)))] := hD
  have hP9 := hP.sub (ws' := [(h0, .inr (3, [.ref q7])), (q7, .inl (cI, 10, .inl (fun _ => 0)))]) [0, 1] rfl
  have hD9 := hD.sub (ws' := [(h0, .inr (3, [.ref q7])), (q7, .inl (cI, 10, .inl (fun _ => 0)))]) [0, 1] (by decide) rfl
  refine W.widen (k := 1) (n := 10) (Nat.le_of_ble_eq_true rfl) (Nat.le_of_ble_eq_true rfl) ?_
  exact W.vret hx hb hr (fun t ht hW => ⟨⟨fun k => ([h0, q7] : List Nat).getD k 0, rfl, trivial, by rw [ht]; exact hP9, hD9⟩, hS.F ht⟩) hS.2.2 dX3_init_12 hlocks
set_option maxHeartbeats 40000000 in
set_option maxRecDepth 100000 in
theorem n_X6 (l : Launch) (D : va_G) (cI cJ cZ cS : ClassId) (h0 sz : Nat) : Met l yX6_init (.code yX6_init cX6_init 1 none :: xbig) { frames := 1, cells := 1, slots := 48, locals := 24 } (va_Pc [.ref h0] (nPc D cI cJ cZ cS sz [(h0, .inr (6, [.null, .int 0, .int 0]))])) (va_Qv (fun _ : Nat → Nat => True) (fun u t => va_P D vwCl [(h0, .inr (6, [.ref (u 1), .int (-1 : Int32), .int 0])), ((u 1), .inl (cI, 48, .inl (fun _ => 0)))] t.heap ∧ va_D (va_A [(h0, .inr (6, [.null, .int 0, .int 0]))] sz) [(h0, .inr (6, [.ref (u 1), .int (-1 : Int32), .int 0])), ((u 1), .inl (cI, 48, .inl (fun _ => 0)))]) (va_A [(h0, .inr (6, [.null, .int 0, .int 0]))] sz)) 1 48 (va_A [(h0, .inr (6, [.null, .int 0, .int 0]))] sz) := by
  refine Met.ofW (cc := cX6_init) (maxL := 1) (ret := none) (by decide +kernel) rfl ?_
  intro p e s m args below meth c s₁ B hml hv
  obtain ⟨rfl, hsz, hP, hB, hD0⟩ := hv
  have hx := B.exec
  have hb := B.bytes
  have hr := B.returns
  have hts0 := atoms_spec (ws := .code yX6_init cX6_init 1 none :: xbig) B.pre
  have hts : ∀ w ∈ xbig, w.before ([.ref h0] : List Value).toArray s = true := fun w hw => hts0 w (List.mem_cons_of_mem _ hw)
  have hown : s.vm.findClass RX6 = some m.cls := findClass_of_methodNamed B.named
  have hlocks := B.notSynchronized
  have hin : meth.name = "<init>" := (name_of_methodNamed B.named B.method).1
  have hK := hB.1
  subst hsz
  have hD := hD0.self (sz := s.heap.size)
  generalize hAe : va_A [(h0, .inr (6, [.null, .int 0, .int 0]))] s.heap.size = A at hD ⊢
  have hA : ∀ q : Nat, s.heap.size ≤ q → A q := fun q h => by rw [← hAe]; exact Or.inr h
  have hS : va_S A s.heap s.heap [] := va_S.rf
  have hl := lv_entry ([.ref h0]) (n := 1) (Nat.le_of_ble_eq_true rfl)
  rw [lg_entry_eq]
  generalize (lg_sl ([.ref h0]) ++ List.replicate (1 - (lg_sl ([.ref h0])).length) Slot.unset).toArray = ls at hl ⊢
  have hl : lv_has ls 1 [(0, .ref h0)] := hl
  skip
  refine lv_aload_n hx hb dX6_init_0 rfl (lv_at hl 0 rfl) ?_
  refine W.objInit hx hb hown (hts _ kw_99) (hts _ kw_10) (hts _ kw_11) rfl (by rw [hml]; exact hl.1) rfl dX6_init_1 (Nat.le_of_ble_eq_true rfl) (Nat.le_of_ble_eq_true rfl) ?_
  refine W.eq (g2 := F0 m 4 ls []) rfl ?_
  refine lv_aload_n hx hb dX6_init_4 rfl (lv_at hl 0 rfl) ?_
  refine lv_bipush (v := nI 48) hx hb dX6_init_5 (by decide) ?_
  refine n_newI hx hb hts hK hP hD hS hA (N := 48) rfl (by decide) (Nat.le_of_ble_eq_true rfl) (Nat.le_of_ble_eq_true rfl) dX6_init_7 (fun q7 H hP hD hS => ?_)
  have hP : va_P D vwCl [(h0, .inr (6, [.null, .int 0, .int 0])), (q7, .inl (cI, 48, .inl (fun _ => 0)))] H := hP
  have hD : va_D A [(h0, .inr (6, [.null, .int 0, .int 0])), (q7, .inl (cI, 48, .inl (fun _ => 0)))] := hD
  refine va_putF (D := D) (ci := 6) (v := .ref q7) (ty := .array .int) (C := RX6) (T := TX6) (N := 3) hx hb hts inbX6 tyX6 tyX6_ok nmX6 hown hK hP hD hS 0 rfl rfl 0 (by decide) (hts _ kw_100) (fun _ h9 => h9) rfl hin rfl (by decide +kernel) rfl rfl (Nat.le_of_ble_eq_true rfl) dX6_init_9 (fun H locs hP hD hS => ?_)
  have hP : va_P D vwCl [(h0, .inr (6, [.ref q7, .int 0, .int 0])), (q7, .inl (cI, 48, .inl (fun _ => 0)))] H := hP
  have hD : va_D A [(h0, .inr (6, [.ref q7, .int 0, .int 0])), (q7, .inl (cI, 48, .inl (fun _ => 0)))] := hD
  refine lv_aload_n hx hb dX6_init_12 rfl (lv_at hl 0 rfl) ?_
  refine lv_iconst (v := (-1 : Int32)) hx hb dX6_init_13 (by decide) ?_
  refine va_put (D := D) (ci := 6) (v := .int (-1 : Int32)) (ty := .int) (C := RX6) (T := TX6) (N := 3) hx hb hts inbX6 tyX6 tyX6_ok nmX6 hown hK hP hD hS 0 rfl rfl 1 (by decide) (hts _ kw_101) (fun _ h9 => h9) rfl (by decide +kernel) rfl rfl (Nat.le_of_ble_eq_true rfl) dX6_init_14 (fun H locs hP hD hS => ?_)
  have hP : va_P D vwCl [(h0, .inr (6, [.ref q7, .int (-1 : Int32), .int 0])), (q7, .inl (cI, 48, .inl (fun _ => 0)))] H := hP
  have hD : va_D A [(h0, .inr (6, [.ref q7, .int (-1 : Int32), .int 0])), (q7, .inl (cI, 48, .inl (fun _ => 0)))] := hD
  have hP9 := hP.sub (ws' := [(h0, .inr (6, [.ref q7, .int (-1 : Int32), .int 0])), (q7, .inl (cI, 48, .inl (fun _ => 0)))]) [0, 1] rfl
  have hD9 := hD.sub (ws' := [(h0, .inr (6, [.ref q7, .int (-1 : Int32), .int 0])), (q7, .inl (cI, 48, .inl (fun _ => 0)))]) [0, 1] (by decide) rfl
  refine W.widen (k := 1) (n := 48) (Nat.le_of_ble_eq_true rfl) (Nat.le_of_ble_eq_true rfl) ?_
  exact W.vret hx hb hr (fun t ht hW => ⟨⟨fun k => ([h0, q7] : List Nat).getD k 0, rfl, trivial, by rw [ht]; exact hP9, hD9⟩, hS.F ht⟩) hS.2.2 dX6_init_17 hlocks
set_option maxHeartbeats 40000000 in
set_option maxRecDepth 100000 in
theorem n_X7 (l : Launch) (D : va_G) (cI cJ cZ cS : ClassId) (h0 sz : Nat) (a1 a2 : Nat) : Met l yX7_init (.code yX7_init cX7_init 3 none :: xbig) { frames := 1, cells := 5, slots := 52, locals := 24 } (va_Pc [.ref h0, .ref a1, .ref a2] (nPc D cI cJ cZ cS sz [(h0, .inr (7, [.null, .null, .null, .null, .null, .null, .null]))])) (va_Qv (fun _ : Nat → Nat => True) (fun u t => va_P D vwCl [(h0, .inr (7, [.ref a1, .ref a2, .ref (u 1), .ref (u 2), .ref (u 3), .ref (u 4), .ref (u 5)])), ((u 1), .inl (cI, 10, .inl (fun _ => 0))), ((u 2), .inl (cI, 10, .inl (fun _ => 0))), ((u 3), .inl (cI, 10, .inl (fun _ => 0))), ((u 4), .inl (cI, 11, .inl (fun _ => 0))), ((u 5), .inl (cI, 11, .inl (fun _ => 0)))] t.heap ∧ va_D (va_A [(h0, .inr (7, [.null, .null, .null, .null, .null, .null, .null]))] sz) [(h0, .inr (7, [.ref a1, .ref a2, .ref (u 1), .ref (u 2), .ref (u 3), .ref (u 4), .ref (u 5)])), ((u 1), .inl (cI, 10, .inl (fun _ => 0))), ((u 2), .inl (cI, 10, .inl (fun _ => 0))), ((u 3), .inl (cI, 10, .inl (fun _ => 0))), ((u 4), .inl (cI, 11, .inl (fun _ => 0))), ((u 5), .inl (cI, 11, .inl (fun _ => 0)))]) (va_A [(h0, .inr (7, [.null, .null, .null, .null, .null, .null, .null]))] sz)) 5 52 (va_A [(h0, .inr (7, [.null, .null, .null, .null, .null, .null, .null]))] sz) := by
  refine Met.ofW (cc := cX7_init) (maxL := 3) (ret := none) (by decide +kernel) rfl ?_
  intro p e s m args below meth c s₁ B hml hv
  obtain ⟨rfl, hsz, hP, hB, hD0⟩ := hv
  have hx := B.exec
  have hb := B.bytes
  have hr := B.returns
  have hts0 := atoms_spec (ws := .code yX7_init cX7_init 3 none :: xbig) B.pre
  have hts : ∀ w ∈ xbig, w.before ([.ref h0, .ref a1, .ref a2] : List Value).toArray s = true := fun w hw => hts0 w (List.mem_cons_of_mem _ hw)
  have hown : s.vm.findClass RX7 = some m.cls := findClass_of_methodNamed B.named
  have hlocks := B.notSynchronized
  have hin : meth.name = "<init>" := (name_of_methodNamed B.named B.method).1
  have hK := hB.1
  subst hsz
  have hD := hD0.self (sz := s.heap.size)
  generalize hAe : va_A [(h0, .inr (7, [.null, .null, .null, .null, .null, .null, .null]))] s.heap.size = A at hD ⊢
  have hA : ∀ q : Nat, s.heap.size ≤ q → A q := fun q h => by rw [← hAe]; exact Or.inr h
  have hS : va_S A s.heap s.heap [] := va_S.rf
  have hl := lv_entry ([.ref h0, .ref a1, .ref a2]) (n := 3) (Nat.le_of_ble_eq_true rfl)
  rw [lg_entry_eq]
  generalize (lg_sl ([.ref h0, .ref a1, .ref a2]) ++ List.replicate (3 - (lg_sl ([.ref h0, .ref a1, .ref a2])).length) Slot.unset).toArray = ls at hl ⊢
  have hl : lv_has ls 3 [(0, .ref h0), (1, .ref a1), (2, .ref a2)] := hl
  skip
  refine lv_aload_n hx hb dX7_init_0 rfl (lv_at hl 0 rfl) ?_
  refine W.objInit hx hb hown (hts _ kw_62) (hts _ kw_10) (hts _ kw_11) rfl (by rw [hml]; exact hl.1) rfl dX7_init_1 (Nat.le_of_ble_eq_true rfl) (Nat.le_of_ble_eq_true rfl) ?_
  refine W.eq (g2 := F0 m 4 ls []) rfl ?_
  refine lv_aload_n hx hb dX7_init_4 rfl (lv_at hl 0 rfl) ?_
  refine lv_bipush (v := nI 10) hx hb dX7_init_5 (by decide) ?_
  refine n_newI hx hb hts hK hP hD hS hA (N := 10) rfl (by decide) (Nat.le_of_ble_eq_true rfl) (Nat.le_of_ble_eq_true rfl) dX7_init_7 (fun q7 H hP hD hS => ?_)
  have hP : va_P D vwCl [(h0, .inr (7, [.null, .null, .null, .null, .null, .null, .null])), (q7, .inl (cI, 10, .inl (fun _ => 0)))] H := hP
  have hD : va_D A [(h0, .inr (7, [.null, .null, .null, .null, .null, .null, .null])), (q7, .inl (cI, 10, .inl (fun _ => 0)))] := hD
  refine va_putF (D := D) (ci := 7) (v := .ref q7) (ty := .array .int) (C := RX7) (T := TX7) (N := 7) hx hb hts inbX7 tyX7 tyX7_ok nmX7 hown hK hP hD hS 0 rfl rfl 2 (by decide) (hts _ kw_63) (fun _ h9 => h9) rfl hin rfl (by decide +kernel) rfl rfl (Nat.le_of_ble_eq_true rfl) dX7_init_9 (fun H locs hP hD hS => ?_)
  have hP : va_P D vwCl [(h0, .inr (7, [.null, .null, .ref q7, .null, .null, .null, .null])), (q7, .inl (cI, 10, .inl (fun _ => 0)))] H := hP
  have hD : va_D A [(h0, .inr (7, [.null, .null, .ref q7, .null, .null, .null, .null])), (q7, .inl (cI, 10, .inl (fun _ => 0)))] := hD
  refine lv_aload_n hx hb dX7_init_12 rfl (lv_at hl 0 rfl) ?_
  refine lv_bipush (v := nI 10) hx hb dX7_init_13 (by decide) ?_
  refine n_newI hx hb hts hK hP hD hS hA (N := 10) rfl (by decide) (Nat.le_of_ble_eq_true rfl) (Nat.le_of_ble_eq_true rfl) dX7_init_15 (fun q15 H hP hD hS => ?_)
  have hP : va_P D vwCl [(h0, .inr (7, [.null, .null, .ref q7, .null, .null, .null, .null])), (q7, .inl (cI, 10, .inl (fun _ => 0))), (q15, .inl (cI, 10, .inl (fun _ => 0)))] H := hP
  have hD : va_D A [(h0, .inr (7, [.null, .null, .ref q7, .null, .null, .null, .null])), (q7, .inl (cI, 10, .inl (fun _ => 0))), (q15, .inl (cI, 10, .inl (fun _ => 0)))] := hD
  refine va_putF (D := D) (ci := 7) (v := .ref q15) (ty := .array .int) (C := RX7) (T := TX7) (N := 7) hx hb hts inbX7 tyX7 tyX7_ok nmX7 hown hK hP hD hS 0 rfl rfl 3 (by decide) (hts _ kw_64) (fun _ h9 => h9) rfl hin rfl (by decide +kernel) rfl rfl (Nat.le_of_ble_eq_true rfl) dX7_init_17 (fun H locs hP hD hS => ?_)
  have hP : va_P D vwCl [(h0, .inr (7, [.null, .null, .ref q7, .ref q15, .null, .null, .null])), (q7, .inl (cI, 10, .inl (fun _ => 0))), (q15, .inl (cI, 10, .inl (fun _ => 0)))] H := hP
  have hD : va_D A [(h0, .inr (7, [.null, .null, .ref q7, .ref q15, .null, .null, .null])), (q7, .inl (cI, 10, .inl (fun _ => 0))), (q15, .inl (cI, 10, .inl (fun _ => 0)))] := hD
  refine lv_aload_n hx hb dX7_init_20 rfl (lv_at hl 0 rfl) ?_
  refine lv_bipush (v := nI 10) hx hb dX7_init_21 (by decide) ?_
  refine n_newI hx hb hts hK hP hD hS hA (N := 10) rfl (by decide) (Nat.le_of_ble_eq_true rfl) (Nat.le_of_ble_eq_true rfl) dX7_init_23 (fun q23 H hP hD hS => ?_)
  have hP : va_P D vwCl [(h0, .inr (7, [.null, .null, .ref q7, .ref q15, .null, .null, .null])), (q7, .inl (cI, 10, .inl (fun _ => 0))), (q15, .inl (cI, 10, .inl (fun _ => 0))), (q23, .inl (cI, 10, .inl (fun _ => 0)))] H := hP
  have hD : va_D A [(h0, .inr (7, [.null, .null, .ref q7, .ref q15, .null, .null, .null])), (q7, .inl (cI, 10, .inl (fun _ => 0))), (q15, .inl (cI, 10, .inl (fun _ => 0))), (q23, .inl (cI, 10, .inl (fun _ => 0)))] := hD
  refine va_putF (D := D) (ci := 7) (v := .ref q23) (ty := .array .int) (C := RX7) (T := TX7) (N := 7) hx hb hts inbX7 tyX7 tyX7_ok nmX7 hown hK hP hD hS 0 rfl rfl 4 (by decide) (hts _ kw_65) (fun _ h9 => h9) rfl hin rfl (by decide +kernel) rfl rfl (Nat.le_of_ble_eq_true rfl) dX7_init_25 (fun H locs hP hD hS => ?_)
  have hP : va_P D vwCl [(h0, .inr (7, [.null, .null, .ref q7, .ref q15, .ref q23, .null, .null])), (q7, .inl (cI, 10, .inl (fun _ => 0))), (q15, .inl (cI, 10, .inl (fun _ => 0))), (q23, .inl (cI, 10, .inl (fun _ => 0)))] H := hP
  have hD : va_D A [(h0, .inr (7, [.null, .null, .ref q7, .ref q15, .ref q23, .null, .null])), (q7, .inl (cI, 10, .inl (fun _ => 0))), (q15, .inl (cI, 10, .inl (fun _ => 0))), (q23, .inl (cI, 10, .inl (fun _ => 0)))] := hD
  refine lv_aload_n hx hb dX7_init_28 rfl (lv_at hl 0 rfl) ?_
  refine lv_bipush (v := nI 11) hx hb dX7_init_29 (by decide) ?_
  refine n_newI hx hb hts hK hP hD hS hA (N := 11) rfl (by decide) (Nat.le_of_ble_eq_true rfl) (Nat.le_of_ble_eq_true rfl) dX7_init_31 (fun q31 H hP hD hS => ?_)
  have hP : va_P D vwCl [(h0, .inr (7, [.null, .null, .ref q7, .ref q15, .ref q23, .null, .null])), (q7, .inl (cI, 10, .inl (fun _ => 0))), (q15, .inl (cI, 10, .inl (fun _ => 0))), (q23, .inl (cI, 10, .inl (fun _ => 0))), (q31, .inl (cI, 11, .inl (fun _ => 0)))] H := hP
  have hD : va_D A [(h0, .inr (7, [.null, .null, .ref q7, .ref q15, .ref q23, .null, .null])), (q7, .inl (cI, 10, .inl (fun _ => 0))), (q15, .inl (cI, 10, .inl (fun _ => 0))), (q23, .inl (cI, 10, .inl (fun _ => 0))), (q31, .inl (cI, 11, .inl (fun _ => 0)))] := hD
  refine va_putF (D := D) (ci := 7) (v := .ref q31) (ty := .array .int) (C := RX7) (T := TX7) (N := 7) hx hb hts inbX7 tyX7 tyX7_ok nmX7 hown hK hP hD hS 0 rfl rfl 5 (by decide) (hts _ kw_66) (fun _ h9 => h9) rfl hin rfl (by decide +kernel) rfl rfl (Nat.le_of_ble_eq_true rfl) dX7_init_33 (fun H locs hP hD hS => ?_)
  have hP : va_P D vwCl [(h0, .inr (7, [.null, .null, .ref q7, .ref q15, .ref q23, .ref q31, .null])), (q7, .inl (cI, 10, .inl (fun _ => 0))), (q15, .inl (cI, 10, .inl (fun _ => 0))), (q23, .inl (cI, 10, .inl (fun _ => 0))), (q31, .inl (cI, 11, .inl (fun _ => 0)))] H := hP
  have hD : va_D A [(h0, .inr (7, [.null, .null, .ref q7, .ref q15, .ref q23, .ref q31, .null])), (q7, .inl (cI, 10, .inl (fun _ => 0))), (q15, .inl (cI, 10, .inl (fun _ => 0))), (q23, .inl (cI, 10, .inl (fun _ => 0))), (q31, .inl (cI, 11, .inl (fun _ => 0)))] := hD
  refine lv_aload_n hx hb dX7_init_36 rfl (lv_at hl 0 rfl) ?_
  refine lv_bipush (v := nI 11) hx hb dX7_init_37 (by decide) ?_
  refine n_newI hx hb hts hK hP hD hS hA (N := 11) rfl (by decide) (Nat.le_of_ble_eq_true rfl) (Nat.le_of_ble_eq_true rfl) dX7_init_39 (fun q39 H hP hD hS => ?_)
  have hP : va_P D vwCl [(h0, .inr (7, [.null, .null, .ref q7, .ref q15, .ref q23, .ref q31, .null])), (q7, .inl (cI, 10, .inl (fun _ => 0))), (q15, .inl (cI, 10, .inl (fun _ => 0))), (q23, .inl (cI, 10, .inl (fun _ => 0))), (q31, .inl (cI, 11, .inl (fun _ => 0))), (q39, .inl (cI, 11, .inl (fun _ => 0)))] H := hP
  have hD : va_D A [(h0, .inr (7, [.null, .null, .ref q7, .ref q15, .ref q23, .ref q31, .null])), (q7, .inl (cI, 10, .inl (fun _ => 0))), (q15, .inl (cI, 10, .inl (fun _ => 0))), (q23, .inl (cI, 10, .inl (fun _ => 0))), (q31, .inl (cI, 11, .inl (fun _ => 0))), (q39, .inl (cI, 11, .inl (fun _ => 0)))] := hD
  refine va_putF (D := D) (ci := 7) (v := .ref q39) (ty := .array .int) (C := RX7) (T := TX7) (N := 7) hx hb hts inbX7 tyX7 tyX7_ok nmX7 hown hK hP hD hS 0 rfl rfl 6 (by decide) (hts _ kw_67) (fun _ h9 => h9) rfl hin rfl (by decide +kernel) rfl rfl (Nat.le_of_ble_eq_true rfl) dX7_init_41 (fun H locs hP hD hS => ?_)
  have hP : va_P D vwCl [(h0, .inr (7, [.null, .null, .ref q7, .ref q15, .ref q23, .ref q31, .ref q39])), (q7, .inl (cI, 10, .inl (fun _ => 0))), (q15, .inl (cI, 10, .inl (fun _ => 0))), (q23, .inl (cI, 10, .inl (fun _ => 0))), (q31, .inl (cI, 11, .inl (fun _ => 0))), (q39, .inl (cI, 11, .inl (fun _ => 0)))] H := hP
  have hD : va_D A [(h0, .inr (7, [.null, .null, .ref q7, .ref q15, .ref q23, .ref q31, .ref q39])), (q7, .inl (cI, 10, .inl (fun _ => 0))), (q15, .inl (cI, 10, .inl (fun _ => 0))), (q23, .inl (cI, 10, .inl (fun _ => 0))), (q31, .inl (cI, 11, .inl (fun _ => 0))), (q39, .inl (cI, 11, .inl (fun _ => 0)))] := hD
  refine lv_aload_n hx hb dX7_init_44 rfl (lv_at hl 0 rfl) ?_
  refine lv_aload_n hx hb dX7_init_45 rfl (lv_at hl 1 rfl) ?_
  refine va_putF (D := D) (ci := 7) (v := .ref a1) (ty := .object "ThreeMasters$Measures") (C := RX7) (T := TX7) (N := 7) hx hb hts inbX7 tyX7 tyX7_ok nmX7 hown hK hP hD hS 0 rfl rfl 0 (by decide) (hts _ kw_68) (fun _ h9 => h9) rfl hin rfl (by decide +kernel) rfl rfl (Nat.le_of_ble_eq_true rfl) dX7_init_46 (fun H locs hP hD hS => ?_)
  have hP : va_P D vwCl [(h0, .inr (7, [.ref a1, .null, .ref q7, .ref q15, .ref q23, .ref q31, .ref q39])), (q7, .inl (cI, 10, .inl (fun _ => 0))), (q15, .inl (cI, 10, .inl (fun _ => 0))), (q23, .inl (cI, 10, .inl (fun _ => 0))), (q31, .inl (cI, 11, .inl (fun _ => 0))), (q39, .inl (cI, 11, .inl (fun _ => 0)))] H := hP
  have hD : va_D A [(h0, .inr (7, [.ref a1, .null, .ref q7, .ref q15, .ref q23, .ref q31, .ref q39])), (q7, .inl (cI, 10, .inl (fun _ => 0))), (q15, .inl (cI, 10, .inl (fun _ => 0))), (q23, .inl (cI, 10, .inl (fun _ => 0))), (q31, .inl (cI, 11, .inl (fun _ => 0))), (q39, .inl (cI, 11, .inl (fun _ => 0)))] := hD
  refine lv_aload_n hx hb dX7_init_49 rfl (lv_at hl 0 rfl) ?_
  refine lv_aload_n hx hb dX7_init_50 rfl (lv_at hl 2 rfl) ?_
  refine va_putF (D := D) (ci := 7) (v := .ref a2) (ty := .object "ThreeMasters$Plan") (C := RX7) (T := TX7) (N := 7) hx hb hts inbX7 tyX7 tyX7_ok nmX7 hown hK hP hD hS 0 rfl rfl 1 (by decide) (hts _ kw_69) (fun _ h9 => h9) rfl hin rfl (by decide +kernel) rfl rfl (Nat.le_of_ble_eq_true rfl) dX7_init_51 (fun H locs hP hD hS => ?_)
  have hP : va_P D vwCl [(h0, .inr (7, [.ref a1, .ref a2, .ref q7, .ref q15, .ref q23, .ref q31, .ref q39])), (q7, .inl (cI, 10, .inl (fun _ => 0))), (q15, .inl (cI, 10, .inl (fun _ => 0))), (q23, .inl (cI, 10, .inl (fun _ => 0))), (q31, .inl (cI, 11, .inl (fun _ => 0))), (q39, .inl (cI, 11, .inl (fun _ => 0)))] H := hP
  have hD : va_D A [(h0, .inr (7, [.ref a1, .ref a2, .ref q7, .ref q15, .ref q23, .ref q31, .ref q39])), (q7, .inl (cI, 10, .inl (fun _ => 0))), (q15, .inl (cI, 10, .inl (fun _ => 0))), (q23, .inl (cI, 10, .inl (fun _ => 0))), (q31, .inl (cI, 11, .inl (fun _ => 0))), (q39, .inl (cI, 11, .inl (fun _ => 0)))] := hD
  have hP9 := hP.sub (ws' := [(h0, .inr (7, [.ref a1, .ref a2, .ref q7, .ref q15, .ref q23, .ref q31, .ref q39])), (q7, .inl (cI, 10, .inl (fun _ => 0))), (q15, .inl (cI, 10, .inl (fun _ => 0))), (q23, .inl (cI, 10, .inl (fun _ => 0))), (q31, .inl (cI, 11, .inl (fun _ => 0))), (q39, .inl (cI, 11, .inl (fun _ => 0)))]) [0, 1, 2, 3, 4, 5] rfl
  have hD9 := hD.sub (ws' := [(h0, .inr (7, [.ref a1, .ref a2, .ref q7, .ref q15, .ref q23, .ref q31, .ref q39])), (q7, .inl (cI, 10, .inl (fun _ => 0))), (q15, .inl (cI, 10, .inl (fun _ => 0))), (q23, .inl (cI, 10, .inl (fun _ => 0))), (q31, .inl (cI, 11, .inl (fun _ => 0))), (q39, .inl (cI, 11, .inl (fun _ => 0)))]) [0, 1, 2, 3, 4, 5] (by decide) rfl
  refine W.widen (k := 5) (n := 52) (Nat.le_of_ble_eq_true rfl) (Nat.le_of_ble_eq_true rfl) ?_
  exact W.vret hx hb hr (fun t ht hW => ⟨⟨fun k => ([h0, q7, q15, q23, q31, q39] : List Nat).getD k 0, rfl, trivial, by rw [ht]; exact hP9, hD9⟩, hS.F ht⟩) hS.2.2 dX7_init_54 hlocks
set_option maxHeartbeats 40000000 in
set_option maxRecDepth 100000 in
theorem n_X0 (l : Launch) (D : va_G) (cI cJ cZ cS : ClassId) (h0 sz : Nat) (a1 a2 : Nat) : Met l yX0_init (.code yX0_init cX0_init 3 none :: xbig) { frames := 1, cells := 2, slots := 19, locals := 24 } (va_Pc [.ref h0, .ref a1, .ref a2] (nPc D cI cJ cZ cS sz [(h0, .inr (0, [.null, .null, .null, .null]))])) (va_Qv (fun _ : Nat → Nat => True) (fun u t => va_P D vwCl [(h0, .inr (0, [.ref a1, .ref a2, .ref (u 2), .ref (u 1)])), ((u 1), .inl (cJ, 9, .inr (.inl (fun _ => 0)))), ((u 2), .inl (cI, 10, .inl (nfl (fun _ => 0) (-1 : Int32) 10)))] t.heap ∧ va_D (va_A [(h0, .inr (0, [.null, .null, .null, .null]))] sz) [(h0, .inr (0, [.ref a1, .ref a2, .ref (u 2), .ref (u 1)])), ((u 1), .inl (cJ, 9, .inr (.inl (fun _ => 0)))), ((u 2), .inl (cI, 10, .inl (nfl (fun _ => 0) (-1 : Int32) 10)))]) (va_A [(h0, .inr (0, [.null, .null, .null, .null]))] sz)) 2 19 (va_A [(h0, .inr (0, [.null, .null, .null, .null]))] sz) := by
  refine Met.ofW (cc := cX0_init) (maxL := 3) (ret := none) (by decide +kernel) rfl ?_
  intro p e s m args below meth c s₁ B hml hv
  obtain ⟨rfl, hsz, hP, hB, hD0⟩ := hv
  have hx := B.exec
  have hb := B.bytes
  have hr := B.returns
  have hts0 := atoms_spec (ws := .code yX0_init cX0_init 3 none :: xbig) B.pre
  have hts : ∀ w ∈ xbig, w.before ([.ref h0, .ref a1, .ref a2] : List Value).toArray s = true := fun w hw => hts0 w (List.mem_cons_of_mem _ hw)
  have hown : s.vm.findClass RX0 = some m.cls := findClass_of_methodNamed B.named
  have hlocks := B.notSynchronized
  have hin : meth.name = "<init>" := (name_of_methodNamed B.named B.method).1
  have hK := hB.1
  subst hsz
  have hD := hD0.self (sz := s.heap.size)
  generalize hAe : va_A [(h0, .inr (0, [.null, .null, .null, .null]))] s.heap.size = A at hD ⊢
  have hA : ∀ q : Nat, s.heap.size ≤ q → A q := fun q h => by rw [← hAe]; exact Or.inr h
  have hS : va_S A s.heap s.heap [] := va_S.rf
  have hl := lv_entry ([.ref h0, .ref a1, .ref a2]) (n := 3) (Nat.le_of_ble_eq_true rfl)
  rw [lg_entry_eq]
  generalize (lg_sl ([.ref h0, .ref a1, .ref a2]) ++ List.replicate (3 - (lg_sl ([.ref h0, .ref a1, .ref a2])).length) Slot.unset).toArray = ls at hl ⊢
  have hl : lv_has ls 3 [(0, .ref h0), (1, .ref a1), (2, .ref a2)] := hl
  skip
  refine lv_aload_n hx hb dX0_init_0 rfl (lv_at hl 0 rfl) ?_
  refine W.objInit hx hb hown (hts _ kw_73) (hts _ kw_10) (hts _ kw_11) rfl (by rw [hml]; exact hl.1) rfl dX0_init_1 (Nat.le_of_ble_eq_true rfl) (Nat.le_of_ble_eq_true rfl) ?_
  refine W.eq (g2 := F0 m 4 ls []) rfl ?_
  refine lv_aload_n hx hb dX0_init_4 rfl (lv_at hl 0 rfl) ?_
  refine lv_bipush (v := nI 10) hx hb dX0_init_5 (by decide) ?_
  refine n_newI hx hb hts hK hP hD hS hA (N := 10) rfl (by decide) (Nat.le_of_ble_eq_true rfl) (Nat.le_of_ble_eq_true rfl) dX0_init_7 (fun q7 H hP hD hS => ?_)
  have hP : va_P D vwCl [(h0, .inr (0, [.null, .null, .null, .null])), (q7, .inl (cI, 10, .inl (fun _ => 0)))] H := hP
  have hD : va_D A [(h0, .inr (0, [.null, .null, .null, .null])), (q7, .inl (cI, 10, .inl (fun _ => 0)))] := hD
  refine va_putF (D := D) (ci := 0) (v := .ref q7) (ty := .array .int) (C := RX0) (T := TX0) (N := 4) hx hb hts inbX0 tyX0 tyX0_ok nmX0 hown hK hP hD hS 0 rfl rfl 2 (by decide) (hts _ kw_74) (fun _ h9 => h9) rfl hin rfl (by decide +kernel) rfl rfl (Nat.le_of_ble_eq_true rfl) dX0_init_9 (fun H locs hP hD hS => ?_)
  have hP : va_P D vwCl [(h0, .inr (0, [.null, .null, .ref q7, .null])), (q7, .inl (cI, 10, .inl (fun _ => 0)))] H := hP
  have hD : va_D A [(h0, .inr (0, [.null, .null, .ref q7, .null])), (q7, .inl (cI, 10, .inl (fun _ => 0)))] := hD
  refine lv_aload_n hx hb dX0_init_12 rfl (lv_at hl 0 rfl) ?_
  refine lv_bipush (v := nI 9) hx hb dX0_init_13 (by decide) ?_
  refine n_newJ hx hb hts hK hP hD hS hA (N := 9) rfl (by decide) (Nat.le_of_ble_eq_true rfl) (Nat.le_of_ble_eq_true rfl) dX0_init_15 (fun q15 H hP hD hS => ?_)
  have hP : va_P D vwCl [(h0, .inr (0, [.null, .null, .ref q7, .null])), (q7, .inl (cI, 10, .inl (fun _ => 0))), (q15, .inl (cJ, 9, .inr (.inl (fun _ => 0))))] H := hP
  have hD : va_D A [(h0, .inr (0, [.null, .null, .ref q7, .null])), (q7, .inl (cI, 10, .inl (fun _ => 0))), (q15, .inl (cJ, 9, .inr (.inl (fun _ => 0))))] := hD
  refine va_putF (D := D) (ci := 0) (v := .ref q15) (ty := .array .long) (C := RX0) (T := TX0) (N := 4) hx hb hts inbX0 tyX0 tyX0_ok nmX0 hown hK hP hD hS 0 rfl rfl 3 (by decide) (hts _ kw_76) (fun _ h9 => h9) rfl hin rfl (by decide +kernel) rfl rfl (Nat.le_of_ble_eq_true rfl) dX0_init_17 (fun H locs hP hD hS => ?_)
  have hP : va_P D vwCl [(h0, .inr (0, [.null, .null, .ref q7, .ref q15])), (q7, .inl (cI, 10, .inl (fun _ => 0))), (q15, .inl (cJ, 9, .inr (.inl (fun _ => 0))))] H := hP
  have hD : va_D A [(h0, .inr (0, [.null, .null, .ref q7, .ref q15])), (q7, .inl (cI, 10, .inl (fun _ => 0))), (q15, .inl (cJ, 9, .inr (.inl (fun _ => 0))))] := hD
  refine lv_aload_n hx hb dX0_init_20 rfl (lv_at hl 0 rfl) ?_
  refine lv_aload_n hx hb dX0_init_21 rfl (lv_at hl 1 rfl) ?_
  refine va_putF (D := D) (ci := 0) (v := .ref a1) (ty := .object "ThreeMasters$Measures") (C := RX0) (T := TX0) (N := 4) hx hb hts inbX0 tyX0 tyX0_ok nmX0 hown hK hP hD hS 0 rfl rfl 0 (by decide) (hts _ kw_77) (fun _ h9 => h9) rfl hin rfl (by decide +kernel) rfl rfl (Nat.le_of_ble_eq_true rfl) dX0_init_22 (fun H locs hP hD hS => ?_)
  have hP : va_P D vwCl [(h0, .inr (0, [.ref a1, .null, .ref q7, .ref q15])), (q7, .inl (cI, 10, .inl (fun _ => 0))), (q15, .inl (cJ, 9, .inr (.inl (fun _ => 0))))] H := hP
  have hD : va_D A [(h0, .inr (0, [.ref a1, .null, .ref q7, .ref q15])), (q7, .inl (cI, 10, .inl (fun _ => 0))), (q15, .inl (cJ, 9, .inr (.inl (fun _ => 0))))] := hD
  refine lv_aload_n hx hb dX0_init_25 rfl (lv_at hl 0 rfl) ?_
  refine lv_aload_n hx hb dX0_init_26 rfl (lv_at hl 2 rfl) ?_
  refine va_putF (D := D) (ci := 0) (v := .ref a2) (ty := .object "ThreeMasters$Tower") (C := RX0) (T := TX0) (N := 4) hx hb hts inbX0 tyX0 tyX0_ok nmX0 hown hK hP hD hS 0 rfl rfl 1 (by decide) (hts _ kw_78) (fun _ h9 => h9) rfl hin rfl (by decide +kernel) rfl rfl (Nat.le_of_ble_eq_true rfl) dX0_init_27 (fun H locs hP hD hS => ?_)
  have hP : va_P D vwCl [(h0, .inr (0, [.ref a1, .ref a2, .ref q7, .ref q15])), (q7, .inl (cI, 10, .inl (fun _ => 0))), (q15, .inl (cJ, 9, .inr (.inl (fun _ => 0))))] H := hP
  have hD : va_D A [(h0, .inr (0, [.ref a1, .ref a2, .ref q7, .ref q15])), (q7, .inl (cI, 10, .inl (fun _ => 0))), (q15, .inl (cJ, 9, .inr (.inl (fun _ => 0))))] := hD
  refine lv_aload_n hx hb dX0_init_30 rfl (lv_at hl 0 rfl) ?_
  refine va_get (D := D) (ci := 0) (v := .ref q7) (C := RX0) (T := TX0) (N := 4) hx hb hts inbX0 hown hK hP 0 rfl rfl 2 (by decide) (hts _ kw_74) (fun _ h9 => h9) rfl dX0_init_31 ?_
  refine lv_iconst (v := (-1 : Int32)) hx hb dX0_init_34 (by decide) ?_
  have hPc := hP.sub (ws' := [(q7, .inl (cI, 10, .inl (fun _ => 0)))]) [1] rfl
  have hDc := hD.sub (ws' := [(q7, .inl (cI, 10, .inl (fun _ => 0)))]) [1] (by decide) rfl
  have hFc := va_free (wc := [(q7, .inl (cI, 10, .inl (fun _ => 0)))]) hD hS hA [1] rfl
  refine va_callv (S := Nat → Int32) (va_runS (As := [.ref q7, .int (-1 : Int32)]) (rest := []) ⟨hx, hb, hml, hown, hts⟩ (n_fill l D cI cJ cZ cS q7 H.size (fun _ => 0) (-1 : Int32)) (va_cwS 2 hts (xLSt.good (n := 2) ⟨kw_79, kw_80, kw_81, kw_82, by decide +kernel, by decide +kernel, by decide +kernel⟩) rfl rfl rfl ⟨by decide +kernel, by decide +kernel, by decide +kernel⟩ ⟨Nat.le_of_ble_eq_true rfl, Nat.le_of_ble_eq_true rfl⟩) ⟨nPc.blind _, fun U hU hW => ⟨rfl, by rw [hU], by rw [hU]; exact hPc, hB.warm hW, hDc.weaken (fun _ _ _ _ => trivial)⟩⟩ rfl rfl hl.1 rfl (lv_room (Nat.le_of_ble_eq_true rfl)) dX0_init_35 ⟨Nat.le_of_ble_eq_true rfl, Nat.le_of_ble_eq_true rfl⟩) hS (fun q _ h => hFc q h) hFc (fun u t H1 locs ht hvm hw hBu hz1 hk1 hS => ?_)
  subst hw
  obtain ⟨hP1, hD1⟩ := hBu
  rw [ht] at hP1
  obtain ⟨hP, hD⟩ := va_join (wr := [(h0, .inr (0, [.ref a1, .ref a2, .ref q7, .ref q15])), (q15, .inl (cJ, 9, .inr (.inl (fun _ => 0))))]) (w1 := [(q7, .inl (cI, 10, .inl (nfl (fun _ => 0) (-1 : Int32) 10)))]) hP hD [1] [0, 2] rfl rfl (by decide) (by decide) hk1 hFc hP1 hD1
  generalize H1 = H at hP hS ⊢
  have hP : va_P D vwCl [(h0, .inr (0, [.ref a1, .ref a2, .ref q7, .ref q15])), (q15, .inl (cJ, 9, .inr (.inl (fun _ => 0)))), (q7, .inl (cI, 10, .inl (nfl (fun _ => 0) (-1 : Int32) 10)))] H := hP
  have hD : va_D A [(h0, .inr (0, [.ref a1, .ref a2, .ref q7, .ref q15])), (q15, .inl (cJ, 9, .inr (.inl (fun _ => 0)))), (q7, .inl (cI, 10, .inl (nfl (fun _ => 0) (-1 : Int32) 10)))] := hD
  have hP9 := hP.sub (ws' := [(h0, .inr (0, [.ref a1, .ref a2, .ref q7, .ref q15])), (q15, .inl (cJ, 9, .inr (.inl (fun _ => 0)))), (q7, .inl (cI, 10, .inl (nfl (fun _ => 0) (-1 : Int32) 10)))]) [0, 1, 2] rfl
  have hD9 := hD.sub (ws' := [(h0, .inr (0, [.ref a1, .ref a2, .ref q7, .ref q15])), (q15, .inl (cJ, 9, .inr (.inl (fun _ => 0)))), (q7, .inl (cI, 10, .inl (nfl (fun _ => 0) (-1 : Int32) 10)))]) [0, 1, 2] (by decide) rfl
  refine W.widen (k := 2) (n := 19) (Nat.le_of_ble_eq_true rfl) (Nat.le_of_ble_eq_true rfl) ?_
  exact W.vret hx hb hr (fun t ht hW => ⟨⟨fun k => ([h0, q15, q7] : List Nat).getD k 0, rfl, trivial, by rw [ht]; exact hP9, hD9⟩, hS.F ht⟩) hS.2.2 dX0_init_38 hlocks
set_option maxHeartbeats 40000000 in
set_option maxRecDepth 100000 in
theorem n_X1 (l : Launch) (D : va_G) (cI cJ cZ cS : ClassId) (h0 sz : Nat) (a1 : Nat) : Met l yX1_init (.code yX1_init cX1_init 2 none :: xbig) { frames := 1, cells := 1, slots := 10, locals := 24 } (va_Pc [.ref h0, .ref a1] (nPc D cI cJ cZ cS sz [(h0, .inr (1, [.null, .null]))])) (va_Qv (fun _ : Nat → Nat => True) (fun u t => va_P D vwCl [(h0, .inr (1, [.ref a1, .ref (u 1)])), ((u 1), .inl (cI, 10, .inl (fun _ => 0)))] t.heap ∧ va_D (va_A [(h0, .inr (1, [.null, .null]))] sz) [(h0, .inr (1, [.ref a1, .ref (u 1)])), ((u 1), .inl (cI, 10, .inl (fun _ => 0)))]) (va_A [(h0, .inr (1, [.null, .null]))] sz)) 1 10 (va_A [(h0, .inr (1, [.null, .null]))] sz) := by
  refine Met.ofW (cc := cX1_init) (maxL := 2) (ret := none) (by decide +kernel) rfl ?_
  intro p e s m args below meth c s₁ B hml hv
  obtain ⟨rfl, hsz, hP, hB, hD0⟩ := hv
  have hx := B.exec
  have hb := B.bytes
  have hr := B.returns
  have hts0 := atoms_spec (ws := .code yX1_init cX1_init 2 none :: xbig) B.pre
  have hts : ∀ w ∈ xbig, w.before ([.ref h0, .ref a1] : List Value).toArray s = true := fun w hw => hts0 w (List.mem_cons_of_mem _ hw)
  have hown : s.vm.findClass RX1 = some m.cls := findClass_of_methodNamed B.named
  have hlocks := B.notSynchronized
  have hin : meth.name = "<init>" := (name_of_methodNamed B.named B.method).1
  have hK := hB.1
  subst hsz
  have hD := hD0.self (sz := s.heap.size)
  generalize hAe : va_A [(h0, .inr (1, [.null, .null]))] s.heap.size = A at hD ⊢
  have hA : ∀ q : Nat, s.heap.size ≤ q → A q := fun q h => by rw [← hAe]; exact Or.inr h
  have hS : va_S A s.heap s.heap [] := va_S.rf
  have hl := lv_entry ([.ref h0, .ref a1]) (n := 2) (Nat.le_of_ble_eq_true rfl)
  rw [lg_entry_eq]
  generalize (lg_sl ([.ref h0, .ref a1]) ++ List.replicate (2 - (lg_sl ([.ref h0, .ref a1])).length) Slot.unset).toArray = ls at hl ⊢
  have hl : lv_has ls 2 [(0, .ref h0), (1, .ref a1)] := hl
  skip
  refine lv_aload_n hx hb dX1_init_0 rfl (lv_at hl 0 rfl) ?_
  refine W.objInit hx hb hown (hts _ kw_94) (hts _ kw_10) (hts _ kw_11) rfl (by rw [hml]; exact hl.1) rfl dX1_init_1 (Nat.le_of_ble_eq_true rfl) (Nat.le_of_ble_eq_true rfl) ?_
  refine W.eq (g2 := F0 m 4 ls []) rfl ?_
  refine lv_aload_n hx hb dX1_init_4 rfl (lv_at hl 0 rfl) ?_
  refine lv_bipush (v := nI 10) hx hb dX1_init_5 (by decide) ?_
  refine n_newI hx hb hts hK hP hD hS hA (N := 10) rfl (by decide) (Nat.le_of_ble_eq_true rfl) (Nat.le_of_ble_eq_true rfl) dX1_init_7 (fun q7 H hP hD hS => ?_)
  have hP : va_P D vwCl [(h0, .inr (1, [.null, .null])), (q7, .inl (cI, 10, .inl (fun _ => 0)))] H := hP
  have hD : va_D A [(h0, .inr (1, [.null, .null])), (q7, .inl (cI, 10, .inl (fun _ => 0)))] := hD
  refine va_putF (D := D) (ci := 1) (v := .ref q7) (ty := .array .int) (C := RX1) (T := TX1) (N := 2) hx hb hts inbX1 tyX1 tyX1_ok nmX1 hown hK hP hD hS 0 rfl rfl 1 (by decide) (hts _ kw_95) (fun _ h9 => h9) rfl hin rfl (by decide +kernel) rfl rfl (Nat.le_of_ble_eq_true rfl) dX1_init_9 (fun H locs hP hD hS => ?_)
  have hP : va_P D vwCl [(h0, .inr (1, [.null, .ref q7])), (q7, .inl (cI, 10, .inl (fun _ => 0)))] H := hP
  have hD : va_D A [(h0, .inr (1, [.null, .ref q7])), (q7, .inl (cI, 10, .inl (fun _ => 0)))] := hD
  refine lv_aload_n hx hb dX1_init_12 rfl (lv_at hl 0 rfl) ?_
  refine lv_aload_n hx hb dX1_init_13 rfl (lv_at hl 1 rfl) ?_
  refine va_putF (D := D) (ci := 1) (v := .ref a1) (ty := .object "ThreeMasters$Tower") (C := RX1) (T := TX1) (N := 2) hx hb hts inbX1 tyX1 tyX1_ok nmX1 hown hK hP hD hS 0 rfl rfl 0 (by decide) (hts _ kw_96) (fun _ h9 => h9) rfl hin rfl (by decide +kernel) rfl rfl (Nat.le_of_ble_eq_true rfl) dX1_init_14 (fun H locs hP hD hS => ?_)
  have hP : va_P D vwCl [(h0, .inr (1, [.ref a1, .ref q7])), (q7, .inl (cI, 10, .inl (fun _ => 0)))] H := hP
  have hD : va_D A [(h0, .inr (1, [.ref a1, .ref q7])), (q7, .inl (cI, 10, .inl (fun _ => 0)))] := hD
  have hP9 := hP.sub (ws' := [(h0, .inr (1, [.ref a1, .ref q7])), (q7, .inl (cI, 10, .inl (fun _ => 0)))]) [0, 1] rfl
  have hD9 := hD.sub (ws' := [(h0, .inr (1, [.ref a1, .ref q7])), (q7, .inl (cI, 10, .inl (fun _ => 0)))]) [0, 1] (by decide) rfl
  refine W.widen (k := 1) (n := 10) (Nat.le_of_ble_eq_true rfl) (Nat.le_of_ble_eq_true rfl) ?_
  exact W.vret hx hb hr (fun t ht hW => ⟨⟨fun k => ([h0, q7] : List Nat).getD k 0, rfl, trivial, by rw [ht]; exact hP9, hD9⟩, hS.F ht⟩) hS.2.2 dX1_init_17 hlocks
