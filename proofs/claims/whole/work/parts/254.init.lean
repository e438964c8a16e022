/-- the numbers of a new pair -/
def S00 : xS := (fun q => ([
  (fun _ => 0),
  (fun _ => 0),
  (upd (upd (upd (fun _ => 0) 0 (nI 12)) 1 (nI 45)) 2 (nI 9)),
  (upd (upd (upd (fun _ => 0) 0 (nI 1)) 1 (nI 1)) 2 (nI 1)),
  (upd (fun _ => 0) 2 (-1 : Int32)),
  (fun _ => 0),
  (fun _ => 0),
  (fun _ => 0),
  (fun _ => 0),
  (fun _ => 0),
  (fun _ => 0),
  (fun _ => 0),
  (fun _ => 0),
  (fun _ => 0),
  (fun _ => 0),
  (fun _ => 0),
  (nfl (fun _ => 0) (-1 : Int32) 10),
  (fun _ => 0),
  (fun _ => 0),
  (fun _ => 0),
  (fun _ => 0),
  (fun _ => 0),
  (fun _ => 0),
  (fun _ => 0),
  (fun _ => 0),
  (upd (fun _ => 0) 1 (-1 : Int32)),
  (upd (fun _ => 0) 1 (-1 : Int32)),
  (upd (fun _ => 0) 1 (-1 : Int32)),
  (upd (fun _ => 0) 1 (-1 : Int32)),
  (fun _ => 0),
  (fun _ => 0),
  (fun _ => 0),
  (fun _ => 0),
  (upd (upd (upd (upd (fun _ => 0) 0 (nI 0)) 1 (nI 200)) 2 (nI 2)) 3 (nI 5)),
  (fun _ => 0),
  (upd (upd (upd (fun _ => 0) 0 (nI 12)) 1 (nI 45)) 2 (nI 9)),
  (upd (upd (upd (fun _ => 0) 0 (nI 1)) 1 (nI 1)) 2 (nI 1)),
  (upd (upd (upd (fun _ => 0) 1 (nI 200)) 2 (nI 2)) 3 (nI 5)),
  (fun _ => 0),
  (fun _ => 0),
  (fun _ => 0),
  (fun _ => 0),
  (upd (upd (upd (upd (upd (upd (upd (upd (upd (upd (fun _ => 0) 0 (-1 : Int32)) 1 (-1 : Int32)) 2 (-1 : Int32)) 3 (-1 : Int32)) 4 (-1 : Int32)) 5 (-1 : Int32)) 6 (-1 : Int32)) 7 (-1 : Int32)) 8 (-1 : Int32)) 9 (-1 : Int32)),
  (fun _ => 0),
  (fun _ => 0),
  (fun _ => 0),
  (fun _ => 0),
  (fun _ => 0),
  (fun _ => 0),
  (fun _ => 0),
  (fun _ => 0),
  (fun _ => 0),
  (fun _ => 0)] : List (Nat → Int32)).getD q (fun _ => 0), fun _ _ => 0)
theorem upd00 : upd (fun _ => 0) 0 (nI 0) = fun _ => 0 := by
  funext k
  unfold upd
  split <;> rfl
theorem updfl : upd (upd (upd (upd (upd (upd (upd (upd (upd (upd (fun _ => 0) 0 (-1 : Int32)) 1 (-1 : Int32)) 2 (-1 : Int32)) 3 (-1 : Int32)) 4 (-1 : Int32)) 5 (-1 : Int32)) 6 (-1 : Int32)) 7 (-1 : Int32)) 8 (-1 : Int32)) 9 (-1 : Int32) = nfl (fun _ => 0) (-1 : Int32) 10 := by
  have e0 : (fun _ => 0 : Nat → Int32) = nfl (fun _ => 0) (-1 : Int32) 0 := funext fun k => by unfold nfl; rw [if_neg (by omega)]
  conv => lhs; rw [e0]
  rw [nfl_s, nfl_s, nfl_s, nfl_s, nfl_s, nfl_s, nfl_s, nfl_s, nfl_s, nfl_s]
theorem inv00 : Inv S00 := by
  refine ⟨0, ⟨by decide, rfl, rfl, rfl, rfl, rfl, ?_, rfl, ?_, rfl, rfl, rfl⟩, ⟨?_, ?_, ?_, ?_, ?_, ?_, ?_, ?_⟩, ⟨⟨?_, ?_, ?_⟩, ?_, ?_, ?_⟩, ?_⟩
  · show upd (upd (upd (fun _ => 0) 1 (nI 200)) 2 (nI 2)) 3 (nI 5) = upd (upd (upd (upd (fun _ => 0) 0 (nI 0)) 1 (nI 200)) 2 (nI 2)) 3 (nI 5)
    rw [upd00]
  · exact updfl
  · intro k hk
    rcases (show k = 0 ∨ k = 1 ∨ k = 2 by omega) with rfl | rfl | rfl <;> decide
  · intro k _; show -99 ≤ (0 : Int32).toInt ∧ (0 : Int32).toInt ≤ 99; decide
  · intro k _; show -99 ≤ (0 : Int32).toInt ∧ (0 : Int32).toInt ≤ 99; decide
  · intro k _; show 0 ≤ (0 : Int32).toInt ∧ (0 : Int32).toInt ≤ 99; decide
  · decide
  · decide
  · decide
  · decide
  · show (-1 : Int32) = pzFt (pzW (S00.1 5) 0); rfl
  · rfl
  · intro _ i t h
    exact absurd h (by show ¬ ([] : List pzT)[i]? = some t; simp)
  · intro f hf
    exact absurd hf (Nat.not_lt_zero f)
  · rfl
  · rfl
  · intro s hs
    rcases (show s = 0 ∨ s = 1 ∨ s = 2 ∨ s = 3 by omega) with rfl | rfl | rfl | rfl <;> exact Or.inl ⟨rfl, rfl⟩
theorem nestF : ∀ q ∈ xnF, Cond.fieldLinkNest q.1 q.2.1 q.2.2.1 q.2.2.2.1 q.2.2.2.2 "ThreeMasters" ∈ lw_tbl := by decide +kernel
theorem nestM : ∀ q ∈ xnM, Cond.methodLinkNest q.1 q.2.1 q.2.2 "ThreeMasters" ∈ lw_tbl := by decide +kernel
theorem aoS : Cond.arrayOver (.object "ThreeMasters$Sheet") ∈ lw_tbl := by decide +kernel
theorem lsL : Cond.laysStatic "ThreeMasters" "LEAST_SET" "[I" ∈ lw_tbl := by decide +kernel
theorem lsM : Cond.laysStatic "ThreeMasters" "MOST_SET" "[I" ∈ lw_tbl := by decide +kernel
theorem xbig_sub : ∀ w ∈ xbig, w ∈ lw_tbl := fun _ hw => (List.mem_filter.mp hw).1
theorem arr_at {s : State} {args : Array Value} {ty : FieldType} (h : (Cond.arrayClass ty).before args s = true) : ∃ cA, ArrOfT s cA ty ∧ s.vm.findClass ("[" ++ ty.toString) = some cA := by
  obtain ⟨cA, kA, comp, h1, h2, h3⟩ := Cond.arrayClass_spec h
  exact ⟨cA, fun n z => ⟨fun k h => (by cases h), kA, h2, comp, h3⟩, h1⟩
