
def xg {α : Type} (c : Bool) (a : Option α) : Option α := if c = true then a else none
theorem xg_some {α : Type} {c : Bool} {a : Option α} {b : α} (h : xg c a = some b) : c = true ∧ a = some b := by
  unfold xg at h
  split at h
  · exact ⟨by assumption, h⟩
  · cases h
theorem xg_t {α : Type} {c : Bool} {a : Option α} (h : c = true) : xg c a = a := if_pos h
theorem xb_some {α β : Type} {x : Option α} {f : α → Option β} {b : β} (h : x.bind f = some b) : ∃ a, x = some a ∧ f a = some b := by
  cases x with
  | none => cases h
  | some a => exact ⟨a, rfl, h⟩
theorem xne_of {y : Int32} (h : (!decide (y = 0)) = true) : ¬ y = 0 := by simpa using h
theorem xneL_of {y : Int64} (h : (!decide (y = 0)) = true) : ¬ y = 0 := by simpa using h
def xabs (x : Int32) : Int32 := if 0 ≤ x then x else 0 - x
def xmax (x y : Int32) : Int32 := if x < y then y else x
def xmin (x y : Int32) : Int32 := if y < x then y else x
def xLV (own : String) (index : Nat) (y : MethodName) (C : String) (bytes : ByteArray) (maxL : Nat) (ret : Option FieldType) (n : Nat) : Prop :=
  Cond.methodLink own index y ∈ xbig ∧ Cond.instanceMethod y ∈ xbig ∧ Cond.selects C y y ∈ xbig ∧ Cond.initialized C ∈ xbig ∧ Cond.code y bytes maxL ret ∈ xbig ∧ (y.cls = C ∧ y.cls ≠ "java/lang/invoke/MethodHandle" ∧ y.cls ≠ "java/lang/invoke/VarHandle" ∧ (parseMethodDescriptor y.desc).map (fun d => d.parameters.length) = some n)
def xLSt (own : String) (index : Nat) (y : MethodName) (bytes : ByteArray) (maxL : Nat) (ret : Option FieldType) (n : Nat) : Prop :=
  Cond.methodLink own index y ∈ xbig ∧ Cond.static y ∈ xbig ∧ Cond.initialized y.cls ∈ xbig ∧ Cond.code y bytes maxL ret ∈ xbig ∧ (y.cls ≠ "java/lang/invoke/MethodHandle" ∧ y.cls ≠ "java/lang/invoke/VarHandle" ∧ (parseMethodDescriptor y.desc).map (fun d => d.parameters.length) = some n)
def xLSN (own : String) (index : Nat) (y : MethodName) (bytes : ByteArray) (maxL : Nat) (ret : Option FieldType) (n : Nat) : Prop :=
  (own, index, y) ∈ xnM ∧ Cond.static y ∈ xbig ∧ Cond.initialized y.cls ∈ xbig ∧ Cond.code y bytes maxL ret ∈ xbig ∧ (y.cls ≠ "java/lang/invoke/MethodHandle" ∧ y.cls ≠ "java/lang/invoke/VarHandle" ∧ (parseMethodDescriptor y.desc).map (fun d => d.parameters.length) = some n)
theorem xLV.good {own : String} {index : Nat} {y : MethodName} {C : String} {bytes : ByteArray} {maxL : Nat} {ret : Option FieldType} {n : Nat} (V : xLV own index y C bytes maxL ret n) : GoodIn xbig (wsV own index C y (.code y bytes maxL ret :: xbig)) := by
  obtain ⟨h1, h2, h3, h4, h5, -⟩ := V
  intro w hw
  refine xbig_good w ?_
  unfold wsV at hw
  rcases List.mem_append.mp hw with h | h
  · simp only [List.mem_cons, List.not_mem_nil, or_false] at h
    rcases h with rfl | rfl | rfl | rfl <;> assumption
  · rcases List.mem_cons.mp h with rfl | h
    · exact h5
    · exact h
theorem xLSt.good {own : String} {index : Nat} {y : MethodName} {bytes : ByteArray} {maxL : Nat} {ret : Option FieldType} {n : Nat} (V : xLSt own index y bytes maxL ret n) : GoodIn xbig (va_wsS own index y (.code y bytes maxL ret :: xbig)) := by
  obtain ⟨h1, h2, h3, h4, -⟩ := V
  intro w hw
  refine xbig_good w ?_
  unfold va_wsS at hw
  rcases List.mem_append.mp hw with h | h
  · simp only [List.mem_cons, List.not_mem_nil, or_false] at h
    rcases h with rfl | rfl | rfl <;> assumption
  · rcases List.mem_cons.mp h with rfl | h
    · exact h4
    · exact h
theorem xgoodC {w0 : Cond} (h : w0 ∈ xbig) : GoodIn xbig (w0 :: xbig) := by
  intro w hw
  refine xbig_good w ?_
  rcases List.mem_cons.mp hw with rfl | h2
  · exact h
  · exact h2
section XRC
variable {p : Program} {l : Launch} {e : Env} {R : Room} {s : State} {m : MethodId} {args : Array Value} {below : List Frame} {meth : Method} {c : Code} {H : Heap} {locs : List Loc} {cells slots : Nat} {Q : State → Prop}
variable {cc : ByteArray} {pc nL : Nat} {ls : Array Slot} {rest st : List Value} {G : xG} {own : String} {S S' : xS} {y : MethodName} {bytes : ByteArray} {maxL fr lo n index q ci N : Nat} {ret : Option FieldType} {C : String} {T : u_T} {fs : List (Option Nat)} {As : List Value}
theorem x_cVi {r : Int32} (X : xC p s m args c G own cc nL) (hP : xP G S H) (hS : va_S (xA G) s.heap H locs) (V : xLV own index y C bytes maxL ret n) (hM : xMi l G y bytes maxL ret fr lo (.ref (G.2.2 q) :: As) S r S') (hR : fr + 1 ≤ R.frames ∧ 8 + (maxL + 11) + lo ≤ R.locals) (hq : q < 53) (hL : xlay q = (4, ci, fs)) (hc : vwCl[ci]? = some (C, T, N)) (hAs : As.length = n) (hsz : ls.size = nL) (hst : st = As.reverse ++ .ref (G.2.2 q) :: rest) (hW : (rest.map fun v => v.category).sum ≤ 8) (hcs : cells + 0 ≤ R.cells ∧ slots + 0 ≤ R.slots) (hdg : decode cc pc = .ok (.invokevirtual index, 3))
    (kk : ∀ (H : Heap) (locs : List Loc), xP G S' H → va_S (xA G) s.heap H locs → W p l e R s m args below meth c H locs cells slots Q (F0 m (pc + 3) ls (.int r :: rest))) : W p l e R s m args below meth c H locs cells slots Q (F0 m pc ls st) := by
  have hg := V.good
  obtain ⟨-, -, -, -, -, hd⟩ := V
  obtain ⟨hx, hb, hml, hown, hts, hE⟩ := X
  refine va_calli (S := xS) (va_runV (As := As) (rest := rest) ⟨hx, hb, hml, hown, hts⟩ hM (cwV n hts hg rfl rfl rfl hd hR) ⟨xI.blind _, va_recv hE.1 hP hc (q0 := q) (by rw [xW_at hq, xc_o hL]), fun U hU hW => ⟨rfl, by rw [hU]; exact hP, hE.at hS hW hU⟩⟩ rfl hAs hsz hst (lv_room hW) hdg hcs) hS (fun q _ h => h) (fun q h => h) (fun r1 u t H1 locs1 ht hvm hw hB hz1 hk1 hS1 => ?_)
  obtain ⟨rfl, rfl⟩ := hw
  exact kk H1 locs1 (by rw [← ht]; exact hB.1) hS1
theorem x_cVl {r : Int64} (X : xC p s m args c G own cc nL) (hP : xP G S H) (hS : va_S (xA G) s.heap H locs) (V : xLV own index y C bytes maxL ret n) (hM : xMl l G y bytes maxL ret fr lo (.ref (G.2.2 q) :: As) S r S') (hR : fr + 1 ≤ R.frames ∧ 8 + (maxL + 11) + lo ≤ R.locals) (hq : q < 53) (hL : xlay q = (4, ci, fs)) (hc : vwCl[ci]? = some (C, T, N)) (hAs : As.length = n) (hsz : ls.size = nL) (hst : st = As.reverse ++ .ref (G.2.2 q) :: rest) (hW : (rest.map fun v => v.category).sum ≤ 8) (hcs : cells + 0 ≤ R.cells ∧ slots + 0 ≤ R.slots) (hdg : decode cc pc = .ok (.invokevirtual index, 3))
    (kk : ∀ (H : Heap) (locs : List Loc), xP G S' H → va_S (xA G) s.heap H locs → W p l e R s m args below meth c H locs cells slots Q (F0 m (pc + 3) ls (.long r :: rest))) : W p l e R s m args below meth c H locs cells slots Q (F0 m pc ls st) := by
  have hg := V.good
  obtain ⟨-, -, -, -, -, hd⟩ := V
  obtain ⟨hx, hb, hml, hown, hts, hE⟩ := X
  refine va_calll (S := xS) (va_runV (As := As) (rest := rest) ⟨hx, hb, hml, hown, hts⟩ hM (cwV n hts hg rfl rfl rfl hd hR) ⟨xI.blind _, va_recv hE.1 hP hc (q0 := q) (by rw [xW_at hq, xc_o hL]), fun U hU hW => ⟨rfl, by rw [hU]; exact hP, hE.at hS hW hU⟩⟩ rfl hAs hsz hst (lv_room hW) hdg hcs) hS (fun q _ h => h) (fun q h => h) (fun r1 u t H1 locs1 ht hvm hw hB hz1 hk1 hS1 => ?_)
  obtain ⟨rfl, rfl⟩ := hw
  exact kk H1 locs1 (by rw [← ht]; exact hB.1) hS1
theorem x_cVv (X : xC p s m args c G own cc nL) (hP : xP G S H) (hS : va_S (xA G) s.heap H locs) (V : xLV own index y C bytes maxL ret n) (hM : xMv l G y bytes maxL ret fr lo (.ref (G.2.2 q) :: As) S S') (hR : fr + 1 ≤ R.frames ∧ 8 + (maxL + 11) + lo ≤ R.locals) (hq : q < 53) (hL : xlay q = (4, ci, fs)) (hc : vwCl[ci]? = some (C, T, N)) (hAs : As.length = n) (hsz : ls.size = nL) (hst : st = As.reverse ++ .ref (G.2.2 q) :: rest) (hW : (rest.map fun v => v.category).sum ≤ 8) (hcs : cells + 0 ≤ R.cells ∧ slots + 0 ≤ R.slots) (hdg : decode cc pc = .ok (.invokevirtual index, 3))
    (kk : ∀ (H : Heap) (locs : List Loc), xP G S' H → va_S (xA G) s.heap H locs → W p l e R s m args below meth c H locs cells slots Q (F0 m (pc + 3) ls rest)) : W p l e R s m args below meth c H locs cells slots Q (F0 m pc ls st) := by
  have hg := V.good
  obtain ⟨-, -, -, -, -, hd⟩ := V
  obtain ⟨hx, hb, hml, hown, hts, hE⟩ := X
  refine va_callv (S := xS) (va_runV (As := As) (rest := rest) ⟨hx, hb, hml, hown, hts⟩ hM (cwV n hts hg rfl rfl rfl hd hR) ⟨xI.blind _, va_recv hE.1 hP hc (q0 := q) (by rw [xW_at hq, xc_o hL]), fun U hU hW => ⟨rfl, by rw [hU]; exact hP, hE.at hS hW hU⟩⟩ rfl hAs hsz hst (lv_room hW) hdg hcs) hS (fun q _ h => h) (fun q h => h) (fun u t H1 locs1 ht hvm hw hB hz1 hk1 hS1 => ?_)
  subst hw
  exact kk H1 locs1 (by rw [← ht]; exact hB.1) hS1
theorem x_cSi {r : Int32} (X : xC p s m args c G own cc nL) (hP : xP G S H) (hS : va_S (xA G) s.heap H locs) (V : xLSt own index y bytes maxL ret n) (hM : xMi l G y bytes maxL ret fr lo As S r S') (hR : fr + 1 ≤ R.frames ∧ 8 + (maxL + 11) + lo ≤ R.locals) (hAs : As.length = n) (hsz : ls.size = nL) (hst : st = As.reverse ++ rest) (hW : (rest.map fun v => v.category).sum ≤ 8) (hcs : cells + 0 ≤ R.cells ∧ slots + 0 ≤ R.slots) (hdg : decode cc pc = .ok (.invokestatic index, 3))
    (kk : ∀ (H : Heap) (locs : List Loc), xP G S' H → va_S (xA G) s.heap H locs → W p l e R s m args below meth c H locs cells slots Q (F0 m (pc + 3) ls (.int r :: rest))) : W p l e R s m args below meth c H locs cells slots Q (F0 m pc ls st) := by
  have hg := V.good
  obtain ⟨-, -, -, -, hd⟩ := V
  obtain ⟨hx, hb, hml, hown, hts, hE⟩ := X
  refine va_calli (S := xS) (va_runS (As := As) (rest := rest) ⟨hx, hb, hml, hown, hts⟩ hM (va_cwS n hts hg rfl rfl rfl hd hR) ⟨xI.blind _, fun U hU hW => ⟨rfl, by rw [hU]; exact hP, hE.at hS hW hU⟩⟩ rfl hAs hsz hst (lv_room hW) hdg hcs) hS (fun q _ h => h) (fun q h => h) (fun r1 u t H1 locs1 ht hvm hw hB hz1 hk1 hS1 => ?_)
  obtain ⟨rfl, rfl⟩ := hw
  exact kk H1 locs1 (by rw [← ht]; exact hB.1) hS1
theorem x_cSl {r : Int64} (X : xC p s m args c G own cc nL) (hP : xP G S H) (hS : va_S (xA G) s.heap H locs) (V : xLSt own index y bytes maxL ret n) (hM : xMl l G y bytes maxL ret fr lo As S r S') (hR : fr + 1 ≤ R.frames ∧ 8 + (maxL + 11) + lo ≤ R.locals) (hAs : As.length = n) (hsz : ls.size = nL) (hst : st = As.reverse ++ rest) (hW : (rest.map fun v => v.category).sum ≤ 8) (hcs : cells + 0 ≤ R.cells ∧ slots + 0 ≤ R.slots) (hdg : decode cc pc = .ok (.invokestatic index, 3))
    (kk : ∀ (H : Heap) (locs : List Loc), xP G S' H → va_S (xA G) s.heap H locs → W p l e R s m args below meth c H locs cells slots Q (F0 m (pc + 3) ls (.long r :: rest))) : W p l e R s m args below meth c H locs cells slots Q (F0 m pc ls st) := by
  have hg := V.good
  obtain ⟨-, -, -, -, hd⟩ := V
  obtain ⟨hx, hb, hml, hown, hts, hE⟩ := X
  refine va_calll (S := xS) (va_runS (As := As) (rest := rest) ⟨hx, hb, hml, hown, hts⟩ hM (va_cwS n hts hg rfl rfl rfl hd hR) ⟨xI.blind _, fun U hU hW => ⟨rfl, by rw [hU]; exact hP, hE.at hS hW hU⟩⟩ rfl hAs hsz hst (lv_room hW) hdg hcs) hS (fun q _ h => h) (fun q h => h) (fun r1 u t H1 locs1 ht hvm hw hB hz1 hk1 hS1 => ?_)
  obtain ⟨rfl, rfl⟩ := hw
  exact kk H1 locs1 (by rw [← ht]; exact hB.1) hS1
theorem x_cSv (X : xC p s m args c G own cc nL) (hP : xP G S H) (hS : va_S (xA G) s.heap H locs) (V : xLSt own index y bytes maxL ret n) (hM : xMv l G y bytes maxL ret fr lo As S S') (hR : fr + 1 ≤ R.frames ∧ 8 + (maxL + 11) + lo ≤ R.locals) (hAs : As.length = n) (hsz : ls.size = nL) (hst : st = As.reverse ++ rest) (hW : (rest.map fun v => v.category).sum ≤ 8) (hcs : cells + 0 ≤ R.cells ∧ slots + 0 ≤ R.slots) (hdg : decode cc pc = .ok (.invokestatic index, 3))
    (kk : ∀ (H : Heap) (locs : List Loc), xP G S' H → va_S (xA G) s.heap H locs → W p l e R s m args below meth c H locs cells slots Q (F0 m (pc + 3) ls rest)) : W p l e R s m args below meth c H locs cells slots Q (F0 m pc ls st) := by
  have hg := V.good
  obtain ⟨-, -, -, -, hd⟩ := V
  obtain ⟨hx, hb, hml, hown, hts, hE⟩ := X
  refine va_callv (S := xS) (va_runS (As := As) (rest := rest) ⟨hx, hb, hml, hown, hts⟩ hM (va_cwS n hts hg rfl rfl rfl hd hR) ⟨xI.blind _, fun U hU hW => ⟨rfl, by rw [hU]; exact hP, hE.at hS hW hU⟩⟩ rfl hAs hsz hst (lv_room hW) hdg hcs) hS (fun q _ h => h) (fun q h => h) (fun u t H1 locs1 ht hvm hw hB hz1 hk1 hS1 => ?_)
  subst hw
  exact kk H1 locs1 (by rw [← ht]; exact hB.1) hS1
theorem x_cNi {r : Int32} (X : xC p s m args c G own cc nL) (hP : xP G S H) (hS : va_S (xA G) s.heap H locs) (V : xLSN own index y bytes maxL ret n) (hM : xMi l G y bytes maxL ret fr lo As S r S') (hR : fr + 1 ≤ R.frames ∧ 8 + (maxL + 11) + lo ≤ R.locals) (hAs : As.length = n) (hsz : ls.size = nL) (hst : st = As.reverse ++ rest) (hW : (rest.map fun v => v.category).sum ≤ 8) (hcs : cells + 0 ≤ R.cells ∧ slots + 0 ≤ R.slots) (hdg : decode cc pc = .ok (.invokestatic index, 3))
    (kk : ∀ (H : Heap) (locs : List Loc), xP G S' H → va_S (xA G) s.heap H locs → W p l e R s m args below meth c H locs cells slots Q (F0 m (pc + 3) ls (.int r :: rest))) : W p l e R s m args below meth c H locs cells slots Q (F0 m pc ls st) := by
  obtain ⟨v1, v2, v3, v4, hd⟩ := V
  obtain ⟨hx, hb, hml, hown, hts, hE⟩ := X
  refine va_calli (S := xS) (va_runSN (As := As) (rest := rest) ⟨hx, hb, hml, hown, hts⟩ hM (⟨va_cnB n hts (xgoodC v4) rfl rfl rfl (hE.2.1.2 _ v1) (hts _ v3) hd hR, hts _ v2, trivial⟩) ⟨xI.blind _, fun U hU hW => ⟨rfl, by rw [hU]; exact hP, hE.at hS hW hU⟩⟩ rfl hAs hsz hst (lv_room hW) hdg hcs) hS (fun q _ h => h) (fun q h => h) (fun r1 u t H1 locs1 ht hvm hw hB hz1 hk1 hS1 => ?_)
  obtain ⟨rfl, rfl⟩ := hw
  exact kk H1 locs1 (by rw [← ht]; exact hB.1) hS1
theorem x_mabs {x : Int32} (X : xC p s m args c G own cc nL) (hlk : Cond.methodLink own index Lib.Math.abs.name ∈ xbig) (hsz : ls.size = nL) (hR : 1 ≤ R.frames ∧ (rest.map fun v => v.category).sum + 13 ≤ R.locals) (hcs : cells + 0 ≤ R.cells ∧ slots + 0 ≤ R.slots) (hdg : decode cc pc = .ok (.invokestatic index, 3))
    (kk : W p l e R s m args below meth c H locs cells slots Q (F0 m (pc + 3) ls (.int (xabs x) :: rest))) : W p l e R s m args below meth c H locs cells slots Q (F0 m pc ls (.int x :: rest)) := by
  obtain ⟨hx, hb, hml, hown, hts, hE⟩ := X
  exact va_mabs hx hb (hml.trans hsz.symm) hown (hts _ hlk) (hts _ kw_348) (hts _ kw_388) (hts _ kw_350) hR.1 hR.2 hcs.1 hcs.2 hdg kk
theorem x_mmax {x y : Int32} (X : xC p s m args c G own cc nL) (hlk : Cond.methodLink own index Lib.Math.max.name ∈ xbig) (hsz : ls.size = nL) (hR : 1 ≤ R.frames ∧ (rest.map fun v => v.category).sum + 13 ≤ R.locals) (hcs : cells + 0 ≤ R.cells ∧ slots + 0 ≤ R.slots) (hdg : decode cc pc = .ok (.invokestatic index, 3))
    (kk : W p l e R s m args below meth c H locs cells slots Q (F0 m (pc + 3) ls (.int (xmax x y) :: rest))) : W p l e R s m args below meth c H locs cells slots Q (F0 m pc ls (.int y :: .int x :: rest)) := by
  obtain ⟨hx, hb, hml, hown, hts, hE⟩ := X
  exact va_mmax hx hb (hml.trans hsz.symm) hown (hts _ hlk) (hts _ kw_384) (hts _ kw_388) (hts _ kw_385) hR.1 hR.2 hcs.1 hcs.2 hdg kk
theorem x_mmin {x y : Int32} (X : xC p s m args c G own cc nL) (hlk : Cond.methodLink own index Lib.Math.min.name ∈ xbig) (hsz : ls.size = nL) (hR : 1 ≤ R.frames ∧ (rest.map fun v => v.category).sum + 13 ≤ R.locals) (hcs : cells + 0 ≤ R.cells ∧ slots + 0 ≤ R.slots) (hdg : decode cc pc = .ok (.invokestatic index, 3))
    (kk : W p l e R s m args below meth c H locs cells slots Q (F0 m (pc + 3) ls (.int (xmin x y) :: rest))) : W p l e R s m args below meth c H locs cells slots Q (F0 m pc ls (.int y :: .int x :: rest)) := by
  obtain ⟨hx, hb, hml, hown, hts, hE⟩ := X
  exact va_mmin hx hb (hml.trans hsz.symm) hown (hts _ hlk) (hts _ kw_381) (hts _ kw_388) (hts _ kw_382) hR.1 hR.2 hcs.1 hcs.2 hdg kk
def xcp (sp dp n : Int32) (n1 n2 : Nat) : Bool := decide (0 ≤ sp.toInt ∧ 0 ≤ dp.toInt ∧ 0 ≤ n.toInt ∧ sp.toInt + n.toInt ≤ n1 ∧ dp.toInt + n.toInt ≤ n2)
def xcpS (S : xS) (q1 q2 : Nat) (sp dp n : Int32) : xS := xsf S q2 (va_cpy (S.1 q1) (S.1 q2) sp.toNatClampNeg dp.toNatClampNeg n.toNatClampNeg)
theorem x_copy {q1 q2 n1 n2 : Nat} {f1 f2 : List (Option Nat)} {sp dp k : Int32} (X : xC p s m args c G own cc nL) (hP : xP G S H) (hS : va_S (xA G) s.heap H locs) (hlk : Cond.methodLink own index arraycopyName ∈ xbig) (hsz : ls.size = nL) (h1 : q1 < 53) (h2 : q2 < 53) (hL1 : xlay q1 = (0, n1, f1)) (hL2 : xlay q2 = (0, n2, f2)) (hok : xcp sp dp k n1 n2 = true) (hR : 1 ≤ R.frames ∧ (rest.map fun v => v.category).sum + (nativeFrameWords "java/lang/System" "arraycopy" 5 + 11) ≤ R.locals) (hdg : decode cc pc = .ok (.invokestatic index, 3))
    (kk : ∀ (H : Heap) (locs : List Loc), xP G (xcpS S q1 q2 sp dp k) H → va_S (xA G) s.heap H locs → W p l e R s m args below meth c H locs cells slots Q (F0 m (pc + 3) ls rest)) : W p l e R s m args below meth c H locs cells slots Q (F0 m pc ls (.int k :: .int dp :: .ref (G.2.2 q2) :: .int sp :: .ref (G.2.2 q1) :: rest)) := by
  obtain ⟨hx, hb, hml, hown, hts, hE⟩ := X
  obtain ⟨b1, b2, b3, b4, b5⟩ := of_decide_eq_true hok
  have nn : ∀ z : Int32, 0 ≤ z.toInt → ¬ z < 0 := fun z hz h => by
    have := Int32.lt_iff_toInt_lt.mp h
    simp at this
    omega
  have e1 : sp.toNatClampNeg = sp.toInt.toNat := rfl
  have e2 : dp.toNatClampNeg = dp.toInt.toNat := rfl
  have e3 : k.toNatClampNeg = k.toInt.toNat := rfl
  refine va_copyi (ty := .int) hx hb (hml.trans hsz.symm) hown (hts _ hlk) (hts _ kw_787) (hts _ kw_788) (hts _ kw_789) hE.1 hP (xD hE.2.2.1 S) hS q1 q2 0 0 (by rw [xW_at h1, xc_i hL1]) (by rw [xW_at h2, xc_i hL2]) rfl rfl rfl (nn _ b1) (nn _ b2) (nn _ b3) (by omega) (by omega) (fun _ _ => rfl) hR.1 hR.2 hdg (fun H1 locs1 g1 _ g3 => ?_)
  refine kk H1 locs1 ?_ g3
  have hA : (xcpS S q1 q2 sp dp k).1 q2 = va_cpy (S.1 q1) (S.1 q2) sp.toNatClampNeg dp.toNatClampNeg k.toNatClampNeg := xsf_at S q2 _
  rw [← hA, ← xc_i (G := G) (S := xcpS S q1 q2 sp dp k) hL2, xW_set (S := S) (S' := xcpS S q1 q2 sp dp k) h2 (fun a ha => xsf_ne ha) (fun a _ => rfl)] at g1
  exact g1
end XRC
