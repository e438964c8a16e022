section XR
variable {p : Program} {l : Launch} {e : Env} {R : Room} {s : State} {m : MethodId} {args : Array Value} {below : List Frame} {meth : Method} {c : Code} {H : Heap} {locs : List Loc} {cells slots : Nat} {Q : State → Prop}
variable {cc : ByteArray} {pc nL : Nat} {ls : Array Slot} {rest : List Value} {G : xG} {own : String} {S S' : xS}
theorem xMi_of {y : MethodName} {ret : Option FieldType} {fr lo : Nat} {av : List Value} {r : Int32} (hpl : plainName y.cls = true) (hown : y.cls = own) (hn : (lg_sl av).length ≤ nL)
    (body : ∀ (p : Program) (e : Env) (s : State) (m : MethodId) (args : Array Value) (below : List Frame) (meth : Method) (c : Code), xC p s m args c G own cc nL → meth.sig.returnType = ret → meth.locks = false → xGo p l e { frames := fr, cells := 0, slots := 0, locals := lo } s m args below meth c G nL 0 0 (MQ below (xQi G r S') args s 0 0 (xA G)) S 0 (lv_args 0 av) []) :
    xMi l G y cc nL ret fr lo av S r S' := by
  refine Met.ofW (cc := cc) (maxL := nL) (ret := ret) hpl rfl ?_
  intro p e s m args below meth c s₁ B hml hv
  obtain ⟨rfl, hP, hE⟩ := hv
  have hts := atoms_spec (ws := .code y cc nL ret :: xbig) B.pre
  have hown2 : s.vm.findClass own = some m.cls := by rw [← hown]; exact findClass_of_methodNamed B.named
  have hl := lv_entry av (n := nL) hn
  rw [lg_entry_eq]
  generalize (lg_sl av ++ List.replicate (nL - (lg_sl av).length) Slot.unset).toArray = ls at hl ⊢
  exact body p e s m _ below meth c ⟨B.exec, B.bytes, hml, hown2, fun w hw => hts w (List.mem_cons_of_mem _ hw), hE⟩ B.returns B.notSynchronized s.heap [] ls hP va_S.rf hl
theorem xMl_of {y : MethodName} {ret : Option FieldType} {fr lo : Nat} {av : List Value} {r : Int64} (hpl : plainName y.cls = true) (hown : y.cls = own) (hn : (lg_sl av).length ≤ nL)
    (body : ∀ (p : Program) (e : Env) (s : State) (m : MethodId) (args : Array Value) (below : List Frame) (meth : Method) (c : Code), xC p s m args c G own cc nL → meth.sig.returnType = ret → meth.locks = false → xGo p l e { frames := fr, cells := 0, slots := 0, locals := lo } s m args below meth c G nL 0 0 (MQ below (xQl G r S') args s 0 0 (xA G)) S 0 (lv_args 0 av) []) :
    xMl l G y cc nL ret fr lo av S r S' := by
  refine Met.ofW (cc := cc) (maxL := nL) (ret := ret) hpl rfl ?_
  intro p e s m args below meth c s₁ B hml hv
  obtain ⟨rfl, hP, hE⟩ := hv
  have hts := atoms_spec (ws := .code y cc nL ret :: xbig) B.pre
  have hown2 : s.vm.findClass own = some m.cls := by rw [← hown]; exact findClass_of_methodNamed B.named
  have hl := lv_entry av (n := nL) hn
  rw [lg_entry_eq]
  generalize (lg_sl av ++ List.replicate (nL - (lg_sl av).length) Slot.unset).toArray = ls at hl ⊢
  exact body p e s m _ below meth c ⟨B.exec, B.bytes, hml, hown2, fun w hw => hts w (List.mem_cons_of_mem _ hw), hE⟩ B.returns B.notSynchronized s.heap [] ls hP va_S.rf hl
theorem xMv_of {y : MethodName} {ret : Option FieldType} {fr lo : Nat} {av : List Value} (hpl : plainName y.cls = true) (hown : y.cls = own) (hn : (lg_sl av).length ≤ nL)
    (body : ∀ (p : Program) (e : Env) (s : State) (m : MethodId) (args : Array Value) (below : List Frame) (meth : Method) (c : Code), xC p s m args c G own cc nL → meth.sig.returnType = ret → meth.locks = false → xGo p l e { frames := fr, cells := 0, slots := 0, locals := lo } s m args below meth c G nL 0 0 (MQ below (xQv G S') args s 0 0 (xA G)) S 0 (lv_args 0 av) []) :
    xMv l G y cc nL ret fr lo av S S' := by
  refine Met.ofW (cc := cc) (maxL := nL) (ret := ret) hpl rfl ?_
  intro p e s m args below meth c s₁ B hml hv
  obtain ⟨rfl, hP, hE⟩ := hv
  have hts := atoms_spec (ws := .code y cc nL ret :: xbig) B.pre
  have hown2 : s.vm.findClass own = some m.cls := by rw [← hown]; exact findClass_of_methodNamed B.named
  have hl := lv_entry av (n := nL) hn
  rw [lg_entry_eq]
  generalize (lg_sl av ++ List.replicate (nL - (lg_sl av).length) Slot.unset).toArray = ls at hl ⊢
  exact body p e s m _ below meth c ⟨B.exec, B.bytes, hml, hown2, fun w hw => hts w (List.mem_cons_of_mem _ hw), hE⟩ B.returns B.notSynchronized s.heap [] ls hP va_S.rf hl
theorem x_iret {v r : Int32} (X : xC p s m args c G own cc nL) (hr : meth.sig.returnType = some .int) (hlk : meth.locks = false) (hP : xP G S H) (hS : va_S (xA G) s.heap H locs) (hv : v = r) (hSS : S = S') (hdg : decode cc pc = .ok (.ireturn, 1)) :
    W p l e R s m args below meth c H locs cells slots (MQ below (xQi G r S') args s cells slots (xA G)) (F0 m pc ls [.int v]) :=
  W.iret X.1 X.2.1 hr (fun t ht hW => ⟨⟨v, S, rfl, ⟨hv, hSS⟩, by rw [ht]; exact hP, X.2.2.2.2.2.at hS hW ht⟩, hS.F ht⟩) hS.2.2 hdg hlk
theorem x_zret {v r : Int32} (X : xC p s m args c G own cc nL) (hr : meth.sig.returnType = some .boolean) (hlk : meth.locks = false) (hP : xP G S H) (hS : va_S (xA G) s.heap H locs) (hn : v = 0 ∨ v = 1) (hv : v = r) (hSS : S = S') (hdg : decode cc pc = .ok (.ireturn, 1)) :
    W p l e R s m args below meth c H locs cells slots (MQ below (xQi G r S') args s cells slots (xA G)) (F0 m pc ls [.int v]) :=
  W.zret X.1 X.2.1 hr (by rcases hn with h | h <;> (rw [h]; rfl)) (fun t ht hW => ⟨⟨v, S, rfl, ⟨hv, hSS⟩, by rw [ht]; exact hP, X.2.2.2.2.2.at hS hW ht⟩, hS.F ht⟩) hS.2.2 hdg hlk
theorem x_lret {v r : Int64} (X : xC p s m args c G own cc nL) (hr : meth.sig.returnType = some .long) (hlk : meth.locks = false) (hP : xP G S H) (hS : va_S (xA G) s.heap H locs) (hv : v = r) (hSS : S = S') (hdg : decode cc pc = .ok (.lreturn, 1)) :
    W p l e R s m args below meth c H locs cells slots (MQ below (xQl G r S') args s cells slots (xA G)) (F0 m pc ls [.long v]) :=
  W.lret X.1 X.2.1 hr (fun t ht hW => ⟨⟨v, S, rfl, ⟨hv, hSS⟩, by rw [ht]; exact hP, X.2.2.2.2.2.at hS hW ht⟩, hS.F ht⟩) hS.2.2 hdg hlk
theorem x_vret (X : xC p s m args c G own cc nL) (hr : meth.sig.returnType = none) (hlk : meth.locks = false) (hP : xP G S H) (hS : va_S (xA G) s.heap H locs) (hSS : S = S') (hdg : decode cc pc = .ok (.return_, 1)) :
    W p l e R s m args below meth c H locs cells slots (MQ below (xQv G S') args s cells slots (xA G)) (F0 m pc ls []) :=
  W.vret X.1 X.2.1 hr (fun t ht hW => ⟨⟨S, rfl, hSS, by rw [ht]; exact hP, X.2.2.2.2.2.at hS hW ht⟩, hS.F ht⟩) hS.2.2 hdg hlk
def xLF (own : String) (index ci k : Nat) (C : String) (T : u_T) (N : Nat) : Prop := vwCl[ci]? = some (C, T, N) ∧ k < N ∧ (∀ w ∈ u_ws C T N, w ∈ xbig) ∧ Cond.fieldLink own index C (T k).2.1 (T k).2.2.1 ∈ xbig ∧ (T k).1 = C
def xLFN (own : String) (index ci k : Nat) (C : String) (T : u_T) (N : Nat) : Prop := vwCl[ci]? = some (C, T, N) ∧ k < N ∧ (∀ w ∈ u_ws C T N, w ∈ xbig) ∧ (own, index, C, (T k).2.1, (T k).2.2.1) ∈ xnF ∧ (T k).1 = C
def xLFP (own : String) (index ci k : Nat) (C : String) (T : u_T) (N : Nat) (ty : Nat → FieldType) : Prop := xLF own index ci k C T N ∧ (∀ k, k < N → parseFieldDescriptor (T k).2.2.1 = some (ty k)) ∧ (∀ a, a < N → ∀ b, b < N → a ≠ b → (T a).2.1 ≠ (T b).2.1) ∧ (T k).2.2.2 = false ∧ ty k = .int
theorem x_getI {index ci k q N : Nat} {C : String} {T : u_T} {fs : List (Option Nat)} (X : xC p s m args c G own cc nL) (hP : xP G S H) (F : xLF own index ci k C T N) (hq : q < 53) (hL : xlay q = (4, ci, fs)) (hf : fs[k]? = some none) (hdg : decode cc pc = .ok (.getfield index, 3))
    (kk : W p l e R s m args below meth c H locs cells slots Q (F0 m (pc + 3) ls (.int (S.1 q k) :: rest))) : W p l e R s m args below meth c H locs cells slots Q (F0 m pc ls (.ref (G.2.2 q) :: rest)) := by
  obtain ⟨f1, f2, f3, f4, f5⟩ := F
  obtain ⟨hx, hb, -, hown, hts, hK, -⟩ := X
  exact va_get (D := G.1) (ci := ci) (v := .int (S.1 q k)) (C := C) (T := T) (N := N) hx hb hts f3 hown hK hP q (by rw [xW_at hq, xc_o hL]) f1 k f2 (hts _ f4) (fun _ h => by rw [f5] at h; exact h) (xfs_i hf) hdg kk
theorem x_getR {index ci k q r N : Nat} {C : String} {T : u_T} {fs : List (Option Nat)} (X : xC p s m args c G own cc nL) (hP : xP G S H) (F : xLF own index ci k C T N) (hq : q < 53) (hL : xlay q = (4, ci, fs)) (hf : fs[k]? = some (some r)) (hdg : decode cc pc = .ok (.getfield index, 3))
    (kk : W p l e R s m args below meth c H locs cells slots Q (F0 m (pc + 3) ls (.ref (G.2.2 r) :: rest))) : W p l e R s m args below meth c H locs cells slots Q (F0 m pc ls (.ref (G.2.2 q) :: rest)) := by
  obtain ⟨f1, f2, f3, f4, f5⟩ := F
  obtain ⟨hx, hb, -, hown, hts, hK, -⟩ := X
  exact va_get (D := G.1) (ci := ci) (v := .ref (G.2.2 r)) (C := C) (T := T) (N := N) hx hb hts f3 hown hK hP q (by rw [xW_at hq, xc_o hL]) f1 k f2 (hts _ f4) (fun _ h => by rw [f5] at h; exact h) (xfs_r hf) hdg kk
theorem x_getIN {index ci k q N : Nat} {C : String} {T : u_T} {fs : List (Option Nat)} (X : xC p s m args c G own cc nL) (hP : xP G S H) (F : xLFN own index ci k C T N) (hq : q < 53) (hL : xlay q = (4, ci, fs)) (hf : fs[k]? = some none) (hdg : decode cc pc = .ok (.getfield index, 3))
    (kk : W p l e R s m args below meth c H locs cells slots Q (F0 m (pc + 3) ls (.int (S.1 q k) :: rest))) : W p l e R s m args below meth c H locs cells slots Q (F0 m pc ls (.ref (G.2.2 q) :: rest)) := by
  obtain ⟨f1, f2, f3, f4, f5⟩ := F
  obtain ⟨hx, hb, -, hown, hts, hK, hN, -⟩ := X
  exact va_getN (D := G.1) (ci := ci) (v := .int (S.1 q k)) (C := C) (T := T) (N := N) hx hb hts f3 hown hK hP q (by rw [xW_at hq, xc_o hL]) f1 k f2 (va_Nw.use rfl (hN.1 _ f4)) (fun _ h => by rw [f5] at h; exact h) (xfs_i hf) hdg kk
theorem x_getRN {index ci k q r N : Nat} {C : String} {T : u_T} {fs : List (Option Nat)} (X : xC p s m args c G own cc nL) (hP : xP G S H) (F : xLFN own index ci k C T N) (hq : q < 53) (hL : xlay q = (4, ci, fs)) (hf : fs[k]? = some (some r)) (hdg : decode cc pc = .ok (.getfield index, 3))
    (kk : W p l e R s m args below meth c H locs cells slots Q (F0 m (pc + 3) ls (.ref (G.2.2 r) :: rest))) : W p l e R s m args below meth c H locs cells slots Q (F0 m pc ls (.ref (G.2.2 q) :: rest)) := by
  obtain ⟨f1, f2, f3, f4, f5⟩ := F
  obtain ⟨hx, hb, -, hown, hts, hK, hN, -⟩ := X
  exact va_getN (D := G.1) (ci := ci) (v := .ref (G.2.2 r)) (C := C) (T := T) (N := N) hx hb hts f3 hown hK hP q (by rw [xW_at hq, xc_o hL]) f1 k f2 (va_Nw.use rfl (hN.1 _ f4)) (fun _ h => by rw [f5] at h; exact h) (xfs_r hf) hdg kk
theorem x_putI {index ci k q N : Nat} {C : String} {T : u_T} {ty : Nat → FieldType} {fs : List (Option Nat)} {v : Int32} (X : xC p s m args c G own cc nL) (hP : xP G S H) (hS : va_S (xA G) s.heap H locs) (F : xLFP own index ci k C T N ty) (hq : q < 53) (hL : xlay q = (4, ci, fs)) (hf : fs[k]? = some none) (hdg : decode cc pc = .ok (.putfield index, 3))
    (kk : ∀ (H : Heap) (locs : List Loc), xP G (xst S q k v) H → va_S (xA G) s.heap H locs → W p l e R s m args below meth c H locs cells slots Q (F0 m (pc + 3) ls rest)) : W p l e R s m args below meth c H locs cells slots Q (F0 m pc ls (.int v :: .ref (G.2.2 q) :: rest)) := by
  obtain ⟨⟨f1, f2, f3, f4, f5⟩, g1, g2, g3, g4⟩ := F
  obtain ⟨hx, hb, -, hown, hts, hK, -, hJ, -⟩ := X
  refine va_put (D := G.1) (ci := ci) (v := .int v) (ty := .int) (C := C) (T := T) (N := N) hx hb hts f3 ty g1 g2 hown hK hP (xD hJ S) hS q (by rw [xW_at hq, xc_o hL]) f1 k f2 (hts _ f4) (fun _ h => by rw [f5] at h; exact h) g3 (by rw [g1 k f2, g4]) rfl rfl (xfs_len hf) hdg (fun H1 locs1 h1 _ h3 => ?_)
  refine kk H1 locs1 ?_ h3
  rw [xfs_set hf, ← xc_o (G := G) (S := xst S q k v) hL, xW_set hq (fun a ha => xst_ne ha) (fun a _ => rfl)] at h1
  exact h1
theorem x_iald {q n : Nat} {fs : List (Option Nat)} {i : Int32} (X : xC p s m args c G own cc nL) (hP : xP G S H) (hq : q < 53) (hL : xlay q = (0, n, fs)) (hin : xin i n = true) (hdg : decode cc pc = .ok (.iaload, 1))
    (kk : W p l e R s m args below meth c H locs cells slots Q (F0 m (pc + 1) ls (.int (S.1 q i.toNatClampNeg) :: rest))) : W p l e R s m args below meth c H locs cells slots Q (F0 m pc ls (.int i :: .ref (G.2.2 q) :: rest)) := by
  obtain ⟨hx, hb, -, -, -, hK, -⟩ := X
  exact va_iald hx hb hK hP q 0 (by rw [xW_at hq, xc_i hL]) rfl (xin_in hin) hdg kk
theorem x_lald {q n : Nat} {fs : List (Option Nat)} {i : Int32} (X : xC p s m args c G own cc nL) (hP : xP G S H) (hq : q < 53) (hL : xlay q = (1, n, fs)) (hin : xin i n = true) (hdg : decode cc pc = .ok (.laload, 1))
    (kk : W p l e R s m args below meth c H locs cells slots Q (F0 m (pc + 1) ls (.long (S.2 q i.toNatClampNeg) :: rest))) : W p l e R s m args below meth c H locs cells slots Q (F0 m pc ls (.int i :: .ref (G.2.2 q) :: rest)) := by
  obtain ⟨hx, hb, -, -, -, hK, -⟩ := X
  exact va_lald hx hb hK hP q 1 (by rw [xW_at hq, xc_l hL]) rfl (xin_in hin) hdg kk
theorem x_zald {q n : Nat} {fs : List (Option Nat)} {i : Int32} (X : xC p s m args c G own cc nL) (hP : xP G S H) (hq : q < 53) (hL : xlay q = (2, n, fs)) (hin : xin i n = true) (hdg : decode cc pc = .ok (.baload, 1))
    (kk : W p l e R s m args below meth c H locs cells slots Q (F0 m (pc + 1) ls (.int (S.1 q i.toNatClampNeg) :: rest))) : W p l e R s m args below meth c H locs cells slots Q (F0 m pc ls (.int i :: .ref (G.2.2 q) :: rest)) := by
  obtain ⟨hx, hb, -, -, -, hK, -⟩ := X
  exact va_zald hx hb hK hP q 2 (by rw [xW_at hq, xc_z hL]) rfl (xin_in hin) hdg kk
theorem x_iast {q n : Nat} {fs : List (Option Nat)} {i v : Int32} (X : xC p s m args c G own cc nL) (hP : xP G S H) (hS : va_S (xA G) s.heap H locs) (hq : q < 53) (hL : xlay q = (0, n, fs)) (hin : xin i n = true) (hdg : decode cc pc = .ok (.iastore, 1))
    (kk : ∀ (H : Heap) (locs : List Loc), xP G (xst S q i.toNatClampNeg v) H → va_S (xA G) s.heap H locs → W p l e R s m args below meth c H locs cells slots Q (F0 m (pc + 1) ls rest)) : W p l e R s m args below meth c H locs cells slots Q (F0 m pc ls (.int v :: .int i :: .ref (G.2.2 q) :: rest)) := by
  obtain ⟨hx, hb, -, -, -, hK, -, hJ, -⟩ := X
  refine va_iast hx hb hK hP (xD hJ S) hS q 0 (by rw [xW_at hq, xc_i hL]) rfl (xin_in hin) hdg (fun H1 locs1 h1 _ h3 => ?_)
  refine kk H1 locs1 ?_ h3
  rw [← xst_at, ← xc_i (G := G) (S := xst S q i.toNatClampNeg v) hL, xW_set hq (fun a ha => xst_ne ha) (fun a _ => rfl)] at h1
  exact h1
theorem x_zast {q n : Nat} {fs : List (Option Nat)} {i v : Int32} (X : xC p s m args c G own cc nL) (hP : xP G S H) (hS : va_S (xA G) s.heap H locs) (hq : q < 53) (hL : xlay q = (2, n, fs)) (hin : xin i n = true) (hz : vp_nar .boolean v = v) (hdg : decode cc pc = .ok (.bastore, 1))
    (kk : ∀ (H : Heap) (locs : List Loc), xP G (xst S q i.toNatClampNeg v) H → va_S (xA G) s.heap H locs → W p l e R s m args below meth c H locs cells slots Q (F0 m (pc + 1) ls rest)) : W p l e R s m args below meth c H locs cells slots Q (F0 m pc ls (.int v :: .int i :: .ref (G.2.2 q) :: rest)) := by
  obtain ⟨hx, hb, -, -, -, hK, -, hJ, -⟩ := X
  refine va_zast hx hb hK hP (xD hJ S) hS q 2 (by rw [xW_at hq, xc_z hL]) rfl (xin_in hin) hdg (fun H1 locs1 h1 _ h3 => ?_)
  refine kk H1 locs1 ?_ h3
  rw [hz, ← xst_at, ← xc_z (G := G) (S := xst S q i.toNatClampNeg v) hL, xW_set hq (fun a ha => xst_ne ha) (fun a _ => rfl)] at h1
  exact h1
theorem x_last {q n : Nat} {fs : List (Option Nat)} {i : Int32} {v : Int64} (X : xC p s m args c G own cc nL) (hP : xP G S H) (hS : va_S (xA G) s.heap H locs) (hq : q < 53) (hL : xlay q = (1, n, fs)) (hin : xin i n = true) (hdg : decode cc pc = .ok (.lastore, 1))
    (kk : ∀ (H : Heap) (locs : List Loc), xP G (xsl S q i.toNatClampNeg v) H → va_S (xA G) s.heap H locs → W p l e R s m args below meth c H locs cells slots Q (F0 m (pc + 1) ls rest)) : W p l e R s m args below meth c H locs cells slots Q (F0 m pc ls (.long v :: .int i :: .ref (G.2.2 q) :: rest)) := by
  obtain ⟨hx, hb, -, -, -, hK, -, hJ, -⟩ := X
  refine va_last hx hb hK hP (xD hJ S) hS q 1 (by rw [xW_at hq, xc_l hL]) rfl (xin_in hin) hdg (fun H1 locs1 h1 _ h3 => ?_)
  refine kk H1 locs1 ?_ h3
  rw [← xsl_at, ← xc_l (G := G) (S := xsl S q i.toNatClampNeg v) hL, xW_set (S := S) (S' := xsl S q i.toNatClampNeg v) hq (fun a _ => rfl) (fun a ha => xsl_ne ha)] at h1
  exact h1
theorem x_alenI {q n : Nat} {fs : List (Option Nat)} (X : xC p s m args c G own cc nL) (hP : xP G S H) (hq : q < 53) (hL : xlay q = (0, n, fs)) (hdg : decode cc pc = .ok (.arraylength, 1))
    (kk : W p l e R s m args below meth c H locs cells slots Q (F0 m (pc + 1) ls (.int (Int32.ofNat n) :: rest))) : W p l e R s m args below meth c H locs cells slots Q (F0 m pc ls (.ref (G.2.2 q) :: rest)) := by
  obtain ⟨hx, hb, -, -, -, hK, -⟩ := X
  exact va_alen hx hb hK hP q 0 (by rw [xW_at hq, xc_i hL]) rfl rfl hdg kk
theorem x_alenL {q n : Nat} {fs : List (Option Nat)} (X : xC p s m args c G own cc nL) (hP : xP G S H) (hq : q < 53) (hL : xlay q = (1, n, fs)) (hdg : decode cc pc = .ok (.arraylength, 1))
    (kk : W p l e R s m args below meth c H locs cells slots Q (F0 m (pc + 1) ls (.int (Int32.ofNat n) :: rest))) : W p l e R s m args below meth c H locs cells slots Q (F0 m pc ls (.ref (G.2.2 q) :: rest)) := by
  obtain ⟨hx, hb, -, -, -, hK, -⟩ := X
  exact va_alen hx hb hK hP q 1 (by rw [xW_at hq, xc_l hL]) rfl rfl hdg kk
theorem x_ash {i : Int32} (X : xC p s m args c G own cc nL) (hP : xP G S H) (hin : xin i 4 = true) (hdg : decode cc pc = .ok (.aaload, 1))
    (kk : W p l e R s m args below meth c H locs cells slots Q (F0 m (pc + 1) ls (.ref (G.2.2 (25 + i.toNatClampNeg)) :: rest))) : W p l e R s m args below meth c H locs cells slots Q (F0 m pc ls (.int i :: .ref (G.2.2 24) :: rest)) := by
  obtain ⟨hx, hb, -, -, -, hK, -⟩ := X
  refine va_aldq (C := "ThreeMasters$Sheet") hx hb hK hP 24 3 (by rw [xW_at (by decide), xc_r (n := 4) rfl]) rfl (xin_in hin) hdg ?_
  have h := of_decide_eq_true hin
  have e : i.toNatClampNeg = i.toInt.toNat := rfl
  generalize i.toNatClampNeg = j at *
  rcases (show j = 0 ∨ j = 1 ∨ j = 2 ∨ j = 3 by omega) with rfl | rfl | rfl | rfl <;> exact kk
theorem x_gsL {index : Nat} (X : xC p s m args c G own cc nL) (hS : va_S (xA G) s.heap H locs) (hlk : Cond.fieldLink own index RX8 "LEAST_SET" "[I" ∈ xbig) (hdg : decode cc pc = .ok (.getstatic index, 3))
    (kk : W p l e R s m args below meth c H locs cells slots Q (F0 m (pc + 3) ls (.ref (G.2.2 60) :: rest))) : W p l e R s m args below meth c H locs cells slots Q (F0 m pc ls rest) := by
  obtain ⟨hx, hb, -, hown, hts, -, -, -, hZ⟩ := X
  exact va_gets hx hb hZ.1 hS hown (hts _ hlk) (fun _ h => h) hdg kk
theorem x_gsM {index : Nat} (X : xC p s m args c G own cc nL) (hS : va_S (xA G) s.heap H locs) (hlk : Cond.fieldLink own index RX8 "MOST_SET" "[I" ∈ xbig) (hdg : decode cc pc = .ok (.getstatic index, 3))
    (kk : W p l e R s m args below meth c H locs cells slots Q (F0 m (pc + 3) ls (.ref (G.2.2 61) :: rest))) : W p l e R s m args below meth c H locs cells slots Q (F0 m pc ls rest) := by
  obtain ⟨hx, hb, -, hown, hts, -, -, -, hZ⟩ := X
  exact va_gets hx hb hZ.2.2.1 hS hown (hts _ hlk) (fun _ h => h) hdg kk
theorem x_tiL {i : Int32} (X : xC p s m args c G own cc nL) (hS : va_S (xA G) s.heap H locs) (hin : xin i 4 = true) (hdg : decode cc pc = .ok (.iaload, 1))
    (kk : W p l e R s m args below meth c H locs cells slots Q (F0 m (pc + 1) ls (.int (xLS i.toNatClampNeg) :: rest))) : W p l e R s m args below meth c H locs cells slots Q (F0 m pc ls (.int i :: .ref (G.2.2 60) :: rest)) := by
  obtain ⟨hx, hb, -, -, -, -, -, -, hZ⟩ := X
  exact va_ti hx hb hZ.2.1 hS (xin_in hin) rfl hdg kk
theorem x_tiM {i : Int32} (X : xC p s m args c G own cc nL) (hS : va_S (xA G) s.heap H locs) (hin : xin i 4 = true) (hdg : decode cc pc = .ok (.iaload, 1))
    (kk : W p l e R s m args below meth c H locs cells slots Q (F0 m (pc + 1) ls (.int (xMS i.toNatClampNeg) :: rest))) : W p l e R s m args below meth c H locs cells slots Q (F0 m pc ls (.int i :: .ref (G.2.2 61) :: rest)) := by
  obtain ⟨hx, hb, -, -, -, -, -, -, hZ⟩ := X
  exact va_ti hx hb hZ.2.2.2 hS (xin_in hin) rfl hdg kk
end XR
