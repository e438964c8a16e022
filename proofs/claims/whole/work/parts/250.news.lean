def ntys (cI cJ cZ cS : ClassId) : List (ClassId × FieldType) := [(cI, .int), (cJ, .long), (cZ, .boolean), (cS, .object "ThreeMasters$Sheet")]
/-- what the makers stand on: the classes, the nest's links, the array of sheets -/
def xB (D : va_G) (cI cJ cZ cS : ClassId) (U : State) : Prop := va_K D vwCl (ntys cI cJ cZ cS) U ∧ xN U ∧ va_AO "ThreeMasters$Sheet" U
theorem xB.warm {D : va_G} {cI cJ cZ cS : ClassId} {s U : State} (hW : s.WarmedH U.vm) (h : xB D cI cJ cZ cS s) : xB D cI cJ cZ cS U := ⟨va_K.moved hW.alike h.1, h.2.1.warm hW, h.2.2.moved hW.alike⟩
theorem xB.call {D : va_G} {cI cJ cZ cS : ClassId} {U U' : State} (hv : U.vm = U'.vm) (h : xB D cI cJ cZ cS U) : xB D cI cJ cZ cS U' := ⟨va_K.moved (by rw [← hv]; exact Vm.Alike.refl U.vm) h.1, h.2.1.same hv, h.2.2.moved (by rw [← hv]; exact Vm.Alike.refl U.vm)⟩
/-- a maker's start -/
abbrev nPc (D : va_G) (cI cJ cZ cS : ClassId) (sz : Nat) (W0 : va_W) (U : State) : Prop := U.heap.size = sz ∧ va_P D vwCl W0 U.heap ∧ xB D cI cJ cZ cS U ∧ va_D (fun _ => True) W0
theorem nPc.blind {D : va_G} {cI cJ cZ cS : ClassId} {sz : Nat} {W0 : va_W} (av : List Value) : FrameBlind (va_Pc av (nPc D cI cJ cZ cS sz W0)) := by
  intro a U g mk q
  obtain ⟨q0, q1, qP, qB, qD⟩ := q
  exact ⟨q0, q1, qP, qB.call (U := U) (U' := U.calling g mk a) rfl, qD⟩
section NEW
variable {p : Program} {l : Launch} {e : Env} {R : Room} {s : State} {m : MethodId} {args : Array Value} {below : List Frame} {meth : Method} {c : Code} {H : Heap} {locs : List Loc} {cells slots : Nat} {Q : State → Prop}
variable {cc : ByteArray} {pc : Nat} {ls : Array Slot} {rest : List Value} {D : va_G} {cI cJ cZ cS : ClassId} {A : Nat → Prop} {H0 : Heap} {ws : va_W}
theorem nnn {N : Nat} (hN : N < 1000) : ¬ nI N < 0 := by
  intro h
  have := ltI.mp h
  rw [tin (by omega)] at this
  have e : (0 : Int32).toInt = 0 := rfl
  omega
theorem n_newI (hx : p.tables.exec = Jvm.exec) (hb : c.code = cc) (hts : ∀ w ∈ xbig, w.before args s = true) (hK : va_K D vwCl (ntys cI cJ cZ cS) s) (hP : va_P D vwCl ws H) (hD : va_D A ws) (hS : va_S A H0 H locs) (hA : ∀ q, H0.size ≤ q → A q) {n : Int32} {N : Nat} (hn : n = nI N) (hN : N < 1000) (hcells : cells + 1 ≤ R.cells) (hslots : slots + N ≤ R.slots) (hdg : decode cc pc = .ok (.newarray .int, 2))
    (kk : ∀ (q : Nat) (H1 : Heap), va_P D vwCl (ws ++ [(q, .inl (cI, N, .inl (fun _ => 0)))]) H1 → va_D A (ws ++ [(q, .inl (cI, N, .inl (fun _ => 0)))]) → va_S A H0 H1 locs → W p l e R s m args below meth c H1 locs (cells + 1) (slots + N) Q (F0 m (pc + 2) ls (.ref q :: rest))) : W p l e R s m args below meth c H locs cells slots Q (F0 m pc ls (.int n :: rest)) := by
  subst hn
  refine va_newa (atype := .int) (ty := .int) (a0 := (N, .inl (fun _ => 0))) hx hb (hts _ kw_12) rfl hK hP hD hS hA (fun cA => rfl) (nnn hN) (cln (by omega)) (by show N * 4 ≤ 536870912; omega) hcells hslots hdg (fun q cA H1 hK1 hP1 hD1 hS1 => ?_)
  have e : cA = cI := Option.some.inj ((hK1.2 4 _ rfl).2.symm.trans (hK.2 0 _ rfl).2)
  rw [e] at hP1 hD1
  exact kk q H1 hP1 hD1 hS1
theorem n_newJ (hx : p.tables.exec = Jvm.exec) (hb : c.code = cc) (hts : ∀ w ∈ xbig, w.before args s = true) (hK : va_K D vwCl (ntys cI cJ cZ cS) s) (hP : va_P D vwCl ws H) (hD : va_D A ws) (hS : va_S A H0 H locs) (hA : ∀ q, H0.size ≤ q → A q) {n : Int32} {N : Nat} (hn : n = nI N) (hN : N < 1000) (hcells : cells + 1 ≤ R.cells) (hslots : slots + N ≤ R.slots) (hdg : decode cc pc = .ok (.newarray .long, 2))
    (kk : ∀ (q : Nat) (H1 : Heap), va_P D vwCl (ws ++ [(q, .inl (cJ, N, .inr (.inl (fun _ => 0))))]) H1 → va_D A (ws ++ [(q, .inl (cJ, N, .inr (.inl (fun _ => 0))))]) → va_S A H0 H1 locs → W p l e R s m args below meth c H1 locs (cells + 1) (slots + N) Q (F0 m (pc + 2) ls (.ref q :: rest))) : W p l e R s m args below meth c H locs cells slots Q (F0 m pc ls (.int n :: rest)) := by
  subst hn
  refine va_newa (atype := .long) (ty := .long) (a0 := (N, .inr (.inl (fun _ => 0)))) hx hb (hts _ kw_75) rfl hK hP hD hS hA (fun cA => rfl) (nnn hN) (cln (by omega)) (by show N * 8 ≤ 536870912; omega) hcells hslots hdg (fun q cA H1 hK1 hP1 hD1 hS1 => ?_)
  have e : cA = cJ := Option.some.inj ((hK1.2 4 _ rfl).2.symm.trans (hK.2 1 _ rfl).2)
  rw [e] at hP1 hD1
  exact kk q H1 hP1 hD1 hS1
theorem n_newZ (hx : p.tables.exec = Jvm.exec) (hb : c.code = cc) (hts : ∀ w ∈ xbig, w.before args s = true) (hK : va_K D vwCl (ntys cI cJ cZ cS) s) (hP : va_P D vwCl ws H) (hD : va_D A ws) (hS : va_S A H0 H locs) (hA : ∀ q, H0.size ≤ q → A q) {n : Int32} {N : Nat} (hn : n = nI N) (hN : N < 1000) (hcells : cells + 1 ≤ R.cells) (hslots : slots + N ≤ R.slots) (hdg : decode cc pc = .ok (.newarray .boolean, 2))
    (kk : ∀ (q : Nat) (H1 : Heap), va_P D vwCl (ws ++ [(q, .inl (cZ, N, .inl (fun _ => 0)))]) H1 → va_D A (ws ++ [(q, .inl (cZ, N, .inl (fun _ => 0)))]) → va_S A H0 H1 locs → W p l e R s m args below meth c H1 locs (cells + 1) (slots + N) Q (F0 m (pc + 2) ls (.ref q :: rest))) : W p l e R s m args below meth c H locs cells slots Q (F0 m pc ls (.int n :: rest)) := by
  subst hn
  refine va_newa (atype := .boolean) (ty := .boolean) (a0 := (N, .inl (fun _ => 0))) hx hb (hts _ kw_119) rfl hK hP hD hS hA (fun cA => rfl) (nnn hN) (cln (by omega)) (by show N * 1 ≤ 536870912; omega) hcells hslots hdg (fun q cA H1 hK1 hP1 hD1 hS1 => ?_)
  have e : cA = cZ := Option.some.inj ((hK1.2 4 _ rfl).2.symm.trans (hK.2 2 _ rfl).2)
  rw [e] at hP1 hD1
  exact kk q H1 hP1 hD1 hS1
theorem n_newS {own : String} {index : Nat} (hx : p.tables.exec = Jvm.exec) (hb : c.code = cc) (hown : s.vm.findClass own = some m.cls) (hcl : (Cond.classLink own index "ThreeMasters$Sheet").before args s = true) (hO : va_AO "ThreeMasters$Sheet" s) (hK : va_K D vwCl (ntys cI cJ cZ cS) s) (hP : va_P D vwCl ws H) (hD : va_D A ws) (hS : va_S A H0 H locs) (hA : ∀ q, H0.size ≤ q → A q) {n : Int32} {N : Nat} (hn : n = nI N) (hN : N < 1000) (hcells : cells + 1 ≤ R.cells) (hslots : slots + N ≤ R.slots) (hdg : decode cc pc = .ok (.anewarray index, 3))
    (kk : ∀ (q : Nat) (H1 : Heap), va_P D vwCl (ws ++ [(q, .inl (cS, N, .inr (.inr (.inr (.inr (fun _ => none))))))]) H1 → va_D A (ws ++ [(q, .inl (cS, N, .inr (.inr (.inr (.inr (fun _ => none))))))]) → va_S A H0 H1 locs → W p l e R s m args below meth c H1 locs (cells + 1) (slots + N) Q (F0 m (pc + 3) ls (.ref q :: rest))) : W p l e R s m args below meth c H locs cells slots Q (F0 m pc ls (.int n :: rest)) := by
  subst hn
  refine va_newq hx hb hown hcl hO hK hP hD hS hA (nnn hN) (cln (by omega)) (by omega) hcells hslots hdg (fun q cA H1 hK1 hP1 hD1 hS1 => ?_)
  obtain ⟨k1, c1, -, -, -, f1⟩ := (hK1.2 4 _ rfl).2
  obtain ⟨k2, c2, -, -, -, f2⟩ := (hK.2 3 _ rfl).2
  have e : cA = cS := Option.some.inj (f1.symm.trans f2)
  rw [e] at hP1 hD1
  exact kk q H1 hP1 hD1 hS1
theorem n_iast (hx : p.tables.exec = Jvm.exec) (hb : c.code = cc) (hK : va_K D vwCl (ntys cI cJ cZ cS) s) (hP : va_P D vwCl ws H) (hD : va_D A ws) (hS : va_S A H0 H locs) (q0 : Nat) {a n : Nat} {f : Nat → Int32} (ha : ws[q0]? = some (a, .inl (cI, n, .inl f))) {i : Int32} {x : Int32} {k : Nat} (hi : i = nI k) (hk : k < n) (hn : n < 1000) (hdg : decode cc pc = .ok (.iastore, 1))
    (kk : ∀ (H1 : Heap) (locs1 : List Loc), va_P D vwCl (ws.set q0 (a, .inl (cI, n, .inl (upd f k x)))) H1 → va_D A (ws.set q0 (a, .inl (cI, n, .inl (upd f k x)))) → va_S A H0 H1 locs1 → W p l e R s m args below meth c H1 locs1 cells slots Q (F0 m (pc + 1) ls rest)) : W p l e R s m args below meth c H locs cells slots Q (F0 m pc ls (.int x :: .int i :: .ref a :: rest)) := by
  subst hi
  refine va_iast hx hb hK hP hD hS q0 0 ha rfl (xin_in (xin_nI hk (by omega))) hdg (fun H1 locs1 h1 h2 h3 => ?_)
  rw [cln (by omega)] at h1 h2
  exact kk H1 locs1 h1 h2 h3
theorem n_astq (hx : p.tables.exec = Jvm.exec) (hb : c.code = cc) (hK : va_K D vwCl (ntys cI cJ cZ cS) s) (hP : va_P D vwCl ws H) (hD : va_D A ws) (hS : va_S A H0 H locs) (q0 qk : Nat) {a n v : Nat} {vs : List Value} {f : Nat → Option Nat} (ha : ws[q0]? = some (a, .inl (cS, n, .inr (.inr (.inr (.inr f)))))) (hv : ws[qk]? = some (v, .inr (6, vs))) {i : Int32} {k : Nat} (hi : i = nI k) (hk : k < n) (hn : n < 1000) (hdg : decode cc pc = .ok (.aastore, 1))
    (kk : ∀ (H1 : Heap) (locs1 : List Loc), va_P D vwCl (ws.set q0 (a, .inl (cS, n, .inr (.inr (.inr (.inr (va_up f k (some v)))))))) H1 → va_D A (ws.set q0 (a, .inl (cS, n, .inr (.inr (.inr (.inr (va_up f k (some v)))))))) → va_S A H0 H1 locs1 → W p l e R s m args below meth c H1 locs1 cells slots Q (F0 m (pc + 1) ls rest)) : W p l e R s m args below meth c H locs cells slots Q (F0 m pc ls (.ref v :: .int i :: .ref a :: rest)) := by
  subst hi
  refine va_astq hx hb hK hP hD hS q0 3 qk 6 (r := (RX6, TX6, 3)) ha rfl hv rfl (xin_in (xin_nI hk (by omega))) hdg (fun H1 locs1 h1 h2 h3 => ?_)
  rw [cln (by omega)] at h1 h2
  exact kk H1 locs1 h1 h2 h3
end NEW
/-- Arrays.fill of a row of ten -/
def nfl (f : Nat → Int32) (x : Int32) (y : Nat) : Nat → Int32 := fun k => if k < y then x else f k
theorem nfl_s (f : Nat → Int32) (x : Int32) (y : Nat) : upd (nfl f x y) y x = nfl f x (y + 1) := by
  funext k
  unfold upd nfl
  by_cases h : k = y
  · subst h; simp
  · simp only [h, if_false]
    by_cases h2 : k < y
    · rw [if_pos h2, if_pos (by omega)]
    · rw [if_neg h2, if_neg (by omega)]
set_option maxHeartbeats 4000000 in
theorem n_fill (l : Launch) (D : va_G) (cI cJ cZ cS : ClassId) (a sz : Nat) (f : Nat → Int32) (x : Int32) : Met l yJ7_fill_53178 (.code yJ7_fill_53178 cJ7_fill_53178 4 none :: xbig) { frames := 0, cells := 0, slots := 0, locals := 0 } (va_Pc [.ref a, .int x] (nPc D cI cJ cZ cS sz [(a, .inl (cI, 10, .inl f))])) (va_Qv (fun g : Nat → Int32 => g = nfl f x 10) (fun g t => va_P D vwCl [(a, .inl (cI, 10, .inl g))] t.heap ∧ va_D (va_A [(a, .inl (cI, 10, .inl f))] sz) [(a, .inl (cI, 10, .inl g))]) (va_A [(a, .inl (cI, 10, .inl f))] sz)) 0 0 (va_A [(a, .inl (cI, 10, .inl f))] sz) := by
  refine Met.ofW (cc := cJ7_fill_53178) (maxL := 4) (ret := none) (by decide +kernel) rfl ?_
  intro p e s m args below meth c s₁ B hml hv
  obtain ⟨rfl, hsz, hP, hB, hD0⟩ := hv
  have hx := B.exec
  have hb := B.bytes
  have hr := B.returns
  have hlocks := B.notSynchronized
  have hK := hB.1
  subst hsz
  have hD := hD0.self (sz := s.heap.size)
  generalize hAe : va_A [(a, .inl (cI, 10, .inl f))] s.heap.size = A at hD ⊢
  have hS : va_S A s.heap s.heap [] := va_S.rf
  have hl := lv_entry ([.ref a, .int x]) (n := 4) (Nat.le_of_ble_eq_true rfl)
  rw [lg_entry_eq]
  generalize (lg_sl ([.ref a, .int x]) ++ List.replicate (4 - (lg_sl ([.ref a, .int x])).length) Slot.unset).toArray = ls at hl ⊢
  have hl : lv_has ls 4 [(0, .ref a), (1, .int x)] := hl
  refine lv_iconst (v := nI 0) hx hb dJ7_fill_53178_0 (by decide) ?_
  refine lv_istore_n (lv' := [(2, .int (nI 0)), (0, .ref a), (1, .int x)]) hx hb dJ7_fill_53178_1 rfl hl (by decide) rfl (fun ls hl => ?_)
  refine lv_aload_n hx hb dJ7_fill_53178_2 rfl (lv_at hl 1 rfl) ?_
  refine va_alen hx hb hK hP 0 0 rfl rfl (v := nI 10) rfl dJ7_fill_53178_3 ?_
  refine lv_istore_n (lv' := [(3, .int (nI 10)), (2, .int (nI 0)), (0, .ref a), (1, .int x)]) hx hb dJ7_fill_53178_4 rfl hl (by decide) rfl (fun ls hl => ?_)
  have loop : ∀ (k y : Nat), y + k = 10 → ∀ (H : Heap) (locs : List Loc) (ls : Array Slot), va_P D vwCl [(a, .inl (cI, 10, .inl (nfl f x y)))] H → va_D A [(a, .inl (cI, 10, .inl (nfl f x y)))] → va_S A s.heap H locs → lv_has ls 4 [(3, .int (nI 10)), (2, .int (nI y)), (0, .ref a), (1, .int x)] → W p l e { frames := 0, cells := 0, slots := 0, locals := 0 } s m ([Value.ref a, .int x] : List Value).toArray below meth c H locs 0 0 (MQ below (va_Qv (fun g : Nat → Int32 => g = nfl f x 10) (fun g t => va_P D vwCl [(a, .inl (cI, 10, .inl g))] t.heap ∧ va_D A [(a, .inl (cI, 10, .inl g))]) A) ([Value.ref a, .int x] : List Value).toArray s 0 0 A) (F0 m 5 ls []) := by
    intro k
    induction k with
    | zero =>
      intro y hy H locs ls hP hD hS hl
      refine lv_iload_n hx hb dJ7_fill_53178_5 rfl (lv_at hl 1 rfl) ?_
      refine lv_iload_n hx hb dJ7_fill_53178_6 rfl (lv_at hl 0 rfl) ?_
      have : y = 10 := by omega
      subst this
      refine lv_icmp_ge (tgt := 20) hx hb dJ7_fill_53178_7 (by decide) (fun e1 => ?_) (fun e1 => absurd (Int32.le_refl _) e1)
      exact W.vret hx hb hr (fun t ht hW => ⟨⟨_, rfl, rfl, by rw [ht]; exact hP, hD⟩, hS.F ht⟩) hS.2.2 dJ7_fill_53178_20 hlocks
    | succ k ih =>
      intro y hy H locs ls hP hD hS hl
      refine lv_iload_n hx hb dJ7_fill_53178_5 rfl (lv_at hl 1 rfl) ?_
      refine lv_iload_n hx hb dJ7_fill_53178_6 rfl (lv_at hl 0 rfl) ?_
      refine lv_icmp_ge (tgt := 20) hx hb dJ7_fill_53178_7 (by decide) (fun e1 => absurd e1 (by rw [len (by omega) (by omega)]; omega)) (fun e1 => ?_)
      refine lv_aload_n hx hb dJ7_fill_53178_10 rfl (lv_at hl 2 rfl) ?_
      refine lv_iload_n hx hb dJ7_fill_53178_11 rfl (lv_at hl 1 rfl) ?_
      refine lv_iload_n hx hb dJ7_fill_53178_12 rfl (lv_at hl 3 rfl) ?_
      refine n_iast hx hb hK hP hD hS 0 rfl (k := y) rfl (by omega) (by decide) dJ7_fill_53178_13 (fun H locs hP hD hS => ?_)
      rw [nfl_s] at hP hD
      refine lv_iinc (v := nI (y + 1)) (lv' := [(2, .int (nI (y + 1))), (3, .int (nI 10)), (0, .ref a), (1, .int x)]) hx hb dJ7_fill_53178_14 hl (k := 1) rfl (adn y 1) (by decide) rfl (fun ls hl => ?_)
      refine lv_goto (tgt := 5) hx hb dJ7_fill_53178_17 (by decide) ?_
      exact ih (y + 1) (by omega) H locs ls hP hD hS (lv_sub hl [1, 0, 2, 3] rfl)
  have e0 : f = nfl f x 0 := funext fun k => by unfold nfl; rw [if_neg (by omega)]
  exact loop 10 0 (by omega) s.heap [] ls (by rw [← e0]; exact hP) (by rw [← e0]; exact hD) hS hl
