/-! ===== the world: 53 cells, at addresses that are variables; the class's are 0 to 33, the reference's 34 to 52 ===== -/
/-- ints and longs, by cell and place (of an object: by field) -/
abbrev xS : Type := (Nat → Nat → Int32) × (Nat → Nat → Int64)
def xst (S : xS) (q k : Nat) (v : Int32) : xS := (fun a b => if a = q ∧ b = k then v else S.1 a b, S.2)
def xsl (S : xS) (q k : Nat) (v : Int64) : xS := (S.1, fun a b => if a = q ∧ b = k then v else S.2 a b)
def xsf (S : xS) (q : Nat) (f : Nat → Int32) : xS := (fun a b => if a = q then f b else S.1 a b, S.2)
/-- D, the arrays' classes, the addresses -/
abbrev xG : Type := va_G × (Nat → ClassId) × (Nat → Nat)
/-- of each cell: its kind (0 ints, 1 longs, 2 booleans, 3 references, 4 an object), its length or class, its fields: none a number, some r the cell r -/
def xlays : List (Nat × Nat × List (Option Nat)) := [
  (4, 8, [some 1, some 4, some 9, some 15, some 18, some 20, some 22, some 24, some 33, none]),
  (4, 2, [some 2, some 3]), (0, 3, []), (0, 3, []),
  (4, 4, [some 5, none, none, none, some 6, some 7, some 8, none]), (0, 80, []), (0, 10, []), (0, 10, []), (0, 10, []),
  (4, 7, [some 1, some 4, some 10, some 11, some 12, some 13, some 14]), (0, 10, []), (0, 10, []), (0, 10, []), (0, 11, []), (0, 11, []),
  (4, 0, [some 1, some 9, some 16, some 17]), (0, 10, []), (1, 9, []),
  (4, 5, [some 19]), (0, 11, []),
  (4, 3, [some 21]), (0, 10, []),
  (4, 1, [some 9, some 23]), (0, 10, []),
  (3, 4, [some 25, some 26, some 27, some 28]),
  (4, 6, [some 29, none, none]), (4, 6, [some 30, none, none]), (4, 6, [some 31, none, none]), (4, 6, [some 32, none, none]),
  (0, 48, []), (0, 48, []), (0, 48, []), (0, 48, []),
  (0, 4, []),
  (4, 9, [some 35, some 36, some 37, none, some 38, none, some 39, some 40, some 41, some 42, some 43, some 44, some 45, some 46, some 47, some 48, some 49, some 50, some 51, some 52, none]),
  (0, 3, []), (0, 3, []), (0, 4, []), (0, 80, []), (0, 11, []), (0, 11, []), (0, 10, []), (0, 10, []), (0, 11, []), (0, 10, []), (1, 9, []), (1, 9, []), (0, 10, []), (2, 4, []), (0, 4, []), (0, 4, []), (0, 192, []), (0, 48, [])]
def xlay (q : Nat) : Nat × Nat × List (Option Nat) := xlays.getD q (0, 0, [])
/-- a sheet's cell -/
def xsh (q : Nat) : Bool := decide (25 ≤ q ∧ q < 29)
theorem xsh_lay {q : Nat} (h : xsh q = true) : xlay q = (4, 6, [some (q + 4), none, none]) := by
  have h := of_decide_eq_true h
  rcases (show q = 25 ∨ q = 26 ∨ q = 27 ∨ q = 28 by omega) with rfl | rfl | rfl | rfl <;> rfl
theorem xsh_it {q : Nat} (h : xsh q = true) : xlay (q + 4) = (0, 48, []) := by
  have h := of_decide_eq_true h
  rcases (show q = 25 ∨ q = 26 ∨ q = 27 ∨ q = 28 by omega) with rfl | rfl | rfl | rfl <;> rfl
theorem xsh_lt {q : Nat} (h : xsh q = true) : q < 53 := by have h := of_decide_eq_true h; omega
theorem xsh_lt4 {q : Nat} (h : xsh q = true) : q + 4 < 53 := by have h := of_decide_eq_true h; omega
/-- an index is in range -/
def xin (i : Int32) (n : Nat) : Bool := decide (0 ≤ i.toInt ∧ i.toInt < n)
theorem xin_in {i : Int32} {n : Nat} (h : xin i n = true) : vp_in i n := vp_in_iff.mpr (of_decide_eq_true h)
theorem xsh_of {i : Int32} (h : xin i 4 = true) : xsh (25 + i.toNatClampNeg) = true := by
  have h := of_decide_eq_true h
  have e : i.toNatClampNeg = i.toInt.toNat := rfl
  refine decide_eq_true ?_
  omega
def xfs (ad : Nat → Nat) (S : xS) (q : Nat) (fs : List (Option Nat)) : List Value := fs.mapIdx (fun k f => match f with | none => .int (S.1 q k) | some r => .ref (ad r))
def xcellL (G : xG) (S : xS) (q : Nat) (L : Nat × Nat × List (Option Nat)) : va_E :=
  if L.1 = 0 then .inl (G.2.1 0, L.2.1, .inl (S.1 q))
  else if L.1 = 1 then .inl (G.2.1 1, L.2.1, .inr (.inl (S.2 q)))
  else if L.1 = 2 then .inl (G.2.1 2, L.2.1, .inl (S.1 q))
  else if L.1 = 3 then .inl (G.2.1 3, L.2.1, .inr (.inr (.inr (.inr (fun j => (L.2.2.getD j none).map G.2.2)))))
  else .inr (L.2.1, xfs G.2.2 S q L.2.2)
def xcell (G : xG) (S : xS) (q : Nat) : va_E := xcellL G S q (xlay q)
def xW (G : xG) (S : xS) : va_W := (List.range 53).map (fun q => (G.2.2 q, xcell G S q))
theorem xW_at {G : xG} {S : xS} {q : Nat} (hq : q < 53) : (xW G S)[q]? = some (G.2.2 q, xcell G S q) := by
  simp [xW, hq]
theorem xW_lt {G : xG} {S : xS} {q : Nat} {x : Nat × va_E} (h : (xW G S)[q]? = some x) : q < 53 ∧ x = (G.2.2 q, xcell G S q) := by
  have hl : q < 53 := by
    have := (List.getElem?_eq_some_iff.mp h).1
    simpa [xW] using this
  refine ⟨hl, ?_⟩
  rw [xW_at hl] at h
  exact (Option.some.inj h).symm
theorem xcell_congr {G : xG} {S S' : xS} {q : Nat} (h1 : S'.1 q = S.1 q) (h2 : S'.2 q = S.2 q) : xcell G S' q = xcell G S q := by
  unfold xcell xcellL xfs
  rw [h1, h2]
theorem xW_set {G : xG} {S S' : xS} {q : Nat} (hq : q < 53) (h1 : ∀ a, a ≠ q → S'.1 a = S.1 a) (h2 : ∀ a, a ≠ q → S'.2 a = S.2 a) : (xW G S).set q (G.2.2 q, xcell G S' q) = xW G S' := by
  apply List.ext_getElem?
  intro k
  by_cases hk : k = q
  · subst hk
    rw [List.getElem?_set_self (by simpa [xW] using hq), xW_at hq]
  · rw [List.getElem?_set_ne (Ne.symm hk)]
    by_cases hl : k < 53
    · rw [xW_at hl, xW_at hl, xcell_congr (h1 k hk) (h2 k hk)]
    · rw [List.getElem?_eq_none (by simp [xW]; omega), List.getElem?_eq_none (by simp [xW]; omega)]
theorem xst_ne {S : xS} {q k a : Nat} {v : Int32} (h : a ≠ q) : (xst S q k v).1 a = S.1 a := by
  funext b
  simp [xst, h]
theorem xsl_ne {S : xS} {q k a : Nat} {v : Int64} (h : a ≠ q) : (xsl S q k v).2 a = S.2 a := by
  funext b
  simp [xsl, h]
theorem xsf_ne {S : xS} {q a : Nat} {f : Nat → Int32} (h : a ≠ q) : (xsf S q f).1 a = S.1 a := by
  funext b
  simp [xsf, h]
theorem xst_at (S : xS) (q k : Nat) (v : Int32) : (xst S q k v).1 q = upd (S.1 q) k v := by
  funext b
  simp [xst, upd]
theorem xsl_at (S : xS) (q k : Nat) (v : Int64) : (xsl S q k v).2 q = vp_updL (S.2 q) k v := by
  funext b
  simp [xsl, vp_updL]
theorem xsf_at (S : xS) (q : Nat) (f : Nat → Int32) : (xsf S q f).1 q = f := by
  funext b
  simp [xsf]
theorem xc_i {G : xG} {S : xS} {q n : Nat} {fs : List (Option Nat)} (h : xlay q = (0, n, fs)) : xcell G S q = .inl (G.2.1 0, n, .inl (S.1 q)) := by
  unfold xcell
  rw [h]
  rfl
theorem xc_l {G : xG} {S : xS} {q n : Nat} {fs : List (Option Nat)} (h : xlay q = (1, n, fs)) : xcell G S q = .inl (G.2.1 1, n, .inr (.inl (S.2 q))) := by
  unfold xcell
  rw [h]
  rfl
theorem xc_z {G : xG} {S : xS} {q n : Nat} {fs : List (Option Nat)} (h : xlay q = (2, n, fs)) : xcell G S q = .inl (G.2.1 2, n, .inl (S.1 q)) := by
  unfold xcell
  rw [h]
  rfl
theorem xc_r {G : xG} {S : xS} {q n : Nat} {fs : List (Option Nat)} (h : xlay q = (3, n, fs)) : xcell G S q = .inl (G.2.1 3, n, .inr (.inr (.inr (.inr (fun j => (fs.getD j none).map G.2.2))))) := by
  unfold xcell
  rw [h]
  rfl
theorem xc_o {G : xG} {S : xS} {q ci : Nat} {fs : List (Option Nat)} (h : xlay q = (4, ci, fs)) : xcell G S q = .inr (ci, xfs G.2.2 S q fs) := by
  unfold xcell
  rw [h]
  rfl
theorem xfs_i {ad : Nat → Nat} {S : xS} {q k : Nat} {fs : List (Option Nat)} (h : fs[k]? = some none) : (xfs ad S q fs)[k]? = some (.int (S.1 q k)) := by
  unfold xfs
  rw [List.getElem?_mapIdx, h]
  rfl
theorem xfs_r {ad : Nat → Nat} {S : xS} {q k r : Nat} {fs : List (Option Nat)} (h : fs[k]? = some (some r)) : (xfs ad S q fs)[k]? = some (.ref (ad r)) := by
  unfold xfs
  rw [List.getElem?_mapIdx, h]
  rfl
theorem xfs_set {ad : Nat → Nat} {S : xS} {q k : Nat} {v : Int32} {fs : List (Option Nat)} (h : fs[k]? = some none) : (xfs ad S q fs).set k (.int v) = xfs ad (xst S q k v) q fs := by
  apply List.ext_getElem?
  intro j
  by_cases hj : j = k
  · subst hj
    have hl : j < (xfs ad S q fs).length := by
      unfold xfs
      rw [List.length_mapIdx]
      exact (List.getElem?_eq_some_iff.mp h).1
    rw [List.getElem?_set_self hl, xfs_i h]
    simp [xst]
  · rw [List.getElem?_set_ne (Ne.symm hj)]
    unfold xfs
    rw [List.getElem?_mapIdx, List.getElem?_mapIdx]
    cases fs[j]? with
    | none => rfl
    | some f =>
      cases f with
      | none => simp [xst, hj]
      | some r => rfl
theorem xfs_len {ad : Nat → Nat} {S : xS} {q k : Nat} {fs : List (Option Nat)} {f : Option Nat} (h : fs[k]? = some f) : k < (xfs ad S q fs).length := by
  unfold xfs
  rw [List.length_mapIdx]
  exact (List.getElem?_eq_some_iff.mp h).1
def xA (G : xG) : Nat → Prop := fun a => ∃ q, q < 53 ∧ a = G.2.2 q
def xInj (G : xG) : Prop := ∀ i j : Nat, i < 53 → j < 53 → G.2.2 i = G.2.2 j → i = j
theorem xD {G : xG} (h : xInj G) (S : xS) : va_D (xA G) (xW G S) := by
  refine ⟨fun i j p q hi hj e => ?_, fun k q hk => ?_⟩
  · obtain ⟨li, rfl⟩ := xW_lt hi
    obtain ⟨lj, rfl⟩ := xW_lt hj
    exact h i j li lj e
  · obtain ⟨lk, rfl⟩ := xW_lt hk
    exact ⟨k, lk, rfl⟩
def xtys (G : xG) : List (ClassId × FieldType) := [(G.2.1 0, .int), (G.2.1 1, .long), (G.2.1 2, .boolean), (G.2.1 3, .object "ThreeMasters$Sheet")]
/-- what links a nest mate's private members -/
def xnF : List (String × Nat × String × String × String) := [
  (RX8, 101, RX4, "fault", "I"), (RX8, 108, RX7, "meant", "[I"), (RX8, 121, RX0, "heights", "[I"), (RX8, 124, RX7, "shims", "[I"), (RX8, 143, RX7, "sills", "[I"), (RX8, 146, RX7, "shoulds", "[I"), (RX8, 152, RX4, "floors", "I"), (RX8, 184, RX6, "size", "I"), (RX8, 191, RX6, "items", "[I"), (RX8, 205, RX5, "leaning", "[I"), (RX8, 222, RX3, "row", "[I"), (RX8, 228, RX1, "weights", "[I"), (RX8, 268, RX6, "form", "I"), (RX8, 90, RX4, "length", "I"), (RX0, 33, RX7, "meant", "[I"), (RX7, 35, RX4, "floors", "I"), (RX7, 41, RX2, "sizes", "[I"), (RX7, 46, RX4, "unit", "[I"), (RX7, 49, RX4, "twelfths", "[I")]
def xnM : List (String × Nat × MethodName) := [(RX8, 15, yX2_init), (RX8, 22, yX4_init), (RX8, 47, yX5_init), (RX8, 54, yX3_init), (RX8, 74, yX6_init), (RX4, 68, yX8_within), (RX6, 28, yX8_within)]
def xN (U : State) : Prop := (∀ q ∈ xnF, va_Nw (.fieldLinkNest q.1 q.2.1 q.2.2.1 q.2.2.2.1 q.2.2.2.2 "ThreeMasters") U) ∧ ∀ q ∈ xnM, va_Nw (.methodLinkNest q.1 q.2.1 q.2.2 "ThreeMasters") U
theorem xN.warm {s U : State} (hW : s.WarmedH U.vm) (h : xN s) : xN U := ⟨fun q hq => va_Nw.warmF hW (h.1 q hq), fun q hq => va_Nw.warmM hW (h.2 q hq)⟩
theorem xN.same {s U : State} (hv : s.vm = U.vm) (h : xN s) : xN U := ⟨fun q hq => va_Nw.same rfl hv (h.1 q hq), fun q hq => va_Nw.same rfl hv (h.2 q hq)⟩
/-- the two tables of set() -/
def xLS (j : Nat) : Int32 := if j = 1 then 1 else 0
def xMS (j : Nat) : Int32 := if j = 0 then 99 else if j = 1 then 999 else 9
def xZ (G : xG) (U : State) (H : Heap) : Prop := va_Z RX8 "LEAST_SET" "[I" (.ref (G.2.2 60)) (xA G) U H ∧ va_T .int (G.2.2 60) 4 (fun j => .int (xLS j)) (xA G) U H ∧ va_Z RX8 "MOST_SET" "[I" (.ref (G.2.2 61)) (xA G) U H ∧ va_T .int (G.2.2 61) 4 (fun j => .int (xMS j)) (xA G) U H
theorem xZ.moved {G : xG} {s U : State} {H : Heap} (hvm : s.vm.Alike U.vm) (h : xZ G s H) : xZ G U H := ⟨h.1.moved hvm, h.2.1.moved hvm, h.2.2.1.moved hvm, h.2.2.2.moved hvm⟩
theorem xZ.kept {G : xG} {s : State} {H H1 : Heap} (hq : ∀ a : Nat, a < H.size → ¬ xA G a → H1[a]? = H[a]?) (h : xZ G s H) : xZ G s H1 := ⟨h.1.kept hq, h.2.1.kept hq, h.2.2.1.kept hq, h.2.2.2.kept hq⟩
/-- what holds beside the cells' contents -/
def xE (G : xG) (U : State) : Prop := va_K G.1 vwCl (xtys G) U ∧ xN U ∧ xInj G ∧ xZ G U U.heap
abbrev xP (G : xG) (S : xS) (H : Heap) : Prop := va_P G.1 vwCl (xW G S) H
def xI (G : xG) (S : xS) (U : State) : Prop := xP G S U.heap ∧ xE G U
theorem xE.at {G : xG} {s U : State} {H : Heap} {locs : List Loc} (h : xE G s) (hS : va_S (xA G) s.heap H locs) (hW : s.WarmedH U.vm) (hU : U.heap = H) : xE G U := by
  subst hU
  exact ⟨va_K.moved hW.alike h.1, h.2.1.warm hW, h.2.2.1, (h.2.2.2.kept (fun a h1 h2 => hS.2.1 a h1 h2)).moved hW.alike⟩
theorem xI.blind {G : xG} {S : xS} (av : List Value) : FrameBlind (va_Pc av (xI G S)) := by
  intro a U g mk q
  obtain ⟨q0, qP, qK, qN, qJ, qZ⟩ := q
  exact ⟨q0, qP, va_K.moved (u := U) (U := U.calling g mk a) (Vm.Alike.refl U.vm) qK, qN.same rfl, qJ, qZ.moved (s := U) (U := U.calling g mk a) (Vm.Alike.refl U.vm)⟩
abbrev xQi (G : xG) (r : Int32) (S' : xS) : Array Value → State → Outcome → State → Prop := va_Qi (fun (r1 : Int32) (S1 : xS) => r1 = r ∧ S1 = S') (fun S1 t => xI G S1 t) (xA G)
abbrev xQl (G : xG) (r : Int64) (S' : xS) : Array Value → State → Outcome → State → Prop := va_Ql (fun (r1 : Int64) (S1 : xS) => r1 = r ∧ S1 = S') (fun S1 t => xI G S1 t) (xA G)
abbrev xQv (G : xG) (S' : xS) : Array Value → State → Outcome → State → Prop := va_Qv (fun (S1 : xS) => S1 = S') (fun S1 t => xI G S1 t) (xA G)
/-- a method's contract: from the state S, with these arguments, the answer is r and the state S' -/
def xMi (l : Launch) (G : xG) (y : MethodName) (cc : ByteArray) (nL : Nat) (ret : Option FieldType) (fr lo : Nat) (av : List Value) (S : xS) (r : Int32) (S' : xS) : Prop :=
  Met l y (.code y cc nL ret :: xbig) { frames := fr, cells := 0, slots := 0, locals := lo } (va_Pc av (xI G S)) (xQi G r S') 0 0 (xA G)
def xMl (l : Launch) (G : xG) (y : MethodName) (cc : ByteArray) (nL : Nat) (ret : Option FieldType) (fr lo : Nat) (av : List Value) (S : xS) (r : Int64) (S' : xS) : Prop :=
  Met l y (.code y cc nL ret :: xbig) { frames := fr, cells := 0, slots := 0, locals := lo } (va_Pc av (xI G S)) (xQl G r S') 0 0 (xA G)
def xMv (l : Launch) (G : xG) (y : MethodName) (cc : ByteArray) (nL : Nat) (ret : Option FieldType) (fr lo : Nat) (av : List Value) (S : xS) (S' : xS) : Prop :=
  Met l y (.code y cc nL ret :: xbig) { frames := fr, cells := 0, slots := 0, locals := lo } (va_Pc av (xI G S)) (xQv G S') 0 0 (xA G)
/-- what a method's body stands on -/
def xC (p : Program) (s : State) (m : MethodId) (args : Array Value) (c : Code) (G : xG) (own : String) (cc : ByteArray) (nL : Nat) : Prop :=
  p.tables.exec = Jvm.exec ∧ c.code = cc ∧ c.maxLocals = nL ∧ s.vm.findClass own = some m.cls ∧ (∀ w ∈ xbig, w.before args s = true) ∧ xE G s
/-- the machine goes on well from here -/
def xGo (p : Program) (l : Launch) (e : Env) (R : Room) (s : State) (m : MethodId) (args : Array Value) (below : List Frame) (meth : Method) (c : Code) (G : xG) (nL cells slots : Nat) (Q : State → Prop) (S : xS) (pc : Nat) (lv : List (Nat × Value)) (st : List Value) : Prop :=
  ∀ (H : Heap) (locs : List Loc) (ls : Array Slot), xP G S H → va_S (xA G) s.heap H locs → lv_has ls nL lv → W p l e R s m args below meth c H locs cells slots Q (F0 m pc ls st)
