theorem xor10 (a : Int32) : (0 ≤ (a ^^^ 10)) ↔ 0 ≤ a := by
  have h : ∀ x : Int32, (0 ≤ x) ↔ x.toBitVec.msb = false := by
    intro x
    rw [leI, BitVec.msb_eq_toInt]
    show 0 ≤ x.toBitVec.toInt ↔ _
    constructor
    · intro h; exact decide_eq_false (by omega)
    · intro h; have := of_decide_eq_false h; omega
  rw [h, h]
  show (a.toBitVec ^^^ (10 : Int32).toBitVec).msb = false ↔ _
  rw [BitVec.msb_xor, show (10 : Int32).toBitVec.msb = false from rfl, Bool.xor_false]
theorem stone_eq {n : Nat} {x : Int32} (h : -2000000 ≤ x.toInt ∧ x.toInt ≤ 2000000) : f_X8_stonesFor n x = some (f_X9_up x) := by
  have hx := tI_neg (x := x) (by omega)
  have h10 : (10 : Int32).toInt = 10 := rfl
  have hq : (-x / 10).toInt = (-x.toInt).tdiv 10 := by rw [tI_div (by omega), hx, h10]
  unfold f_X8_stonesFor f_J9_floorDiv_7cf53 f_X9_up
  rw [xgT (by decide)]
  by_cases c : x ≤ 0
  · have c1 := leI.mp c
    have c0 : (0 : Int32).toInt = 0 := rfl
    have c2 : (0 : Int32) ≤ -x := leI.mpr (by omega)
    rw [if_pos ((xor10 _).mpr c2), if_pos c, ob]
    congr 1
    rw [eqI, tI_neg (by rw [hq, Int.neg_tdiv]; have := Int.natAbs_tdiv_le_natAbs x.toInt 10; omega), hq, tI_div (by omega), h10, Int.neg_tdiv, Int.neg_neg]
  · have c1 : ¬ x.toInt ≤ (0 : Int32).toInt := fun z => c (leI.mpr z)
    have c0 : (0 : Int32).toInt = 0 := rfl
    have c2 : ¬ (0 : Int32) ≤ -x := fun z => by have := leI.mp z; omega
    rw [if_neg (fun z => c2 ((xor10 _).mp z)), if_neg c]
    have e1 : (-x.toInt).tdiv 10 = -(x.toInt / 10) := by rw [Int.neg_tdiv, Int.tdiv_eq_ediv_of_nonneg (by omega)]
    have hb : 0 ≤ x.toInt / 10 ∧ x.toInt / 10 ≤ 200000 := by omega
    have hq2 : (-x / 10).toInt = -(x.toInt / 10) := by rw [hq, e1]
    have hm : (-x / 10 * 10).toInt = -(x.toInt / 10) * 10 := by rw [tI_mul (by rw [hq2, h10]; omega), hq2, h10]
    have h9 : (x + 9).toInt = x.toInt + 9 := tI_add (y := 9) (by show _ ≤ x.toInt + 9 ∧ x.toInt + 9 < _; omega)
    have hr : ((x + 9) / 10).toInt = (x.toInt + 9) / 10 := by rw [tI_div (by rw [h10]; omega), h9, h10, Int.tdiv_eq_ediv_of_nonneg (by omega)]
    by_cases d : -x / 10 * 10 = -x
    · rw [if_pos d, ob]
      have d2 := congrArg Int32.toInt d
      rw [hm, hx] at d2
      congr 1
      rw [eqI, tI_neg (by rw [hq2]; omega), hq2, hr]
      omega
    · rw [if_neg d, ob]
      have d2 : ¬ -(x.toInt / 10) * 10 = -x.toInt := fun z => d (eqI.mpr (by rw [hm, hx]; exact z))
      have hs : (-x / 10 - 1).toInt = -(x.toInt / 10) - 1 := by
        rw [tI_sub (y := 1) (by show _ ≤ (-x / 10).toInt - 1 ∧ (-x / 10).toInt - 1 < _; rw [hq2]; omega), hq2]; rfl
      congr 1
      rw [eqI, tI_neg (by rw [hs]; omega), hs, hr]
      omega
theorem up_rg {x : Int32} (h : -2000000 ≤ x.toInt ∧ x.toInt ≤ 2000000) : -3000000 ≤ (f_X9_up x).toInt ∧ (f_X9_up x).toInt ≤ 3000000 := by
  have h10 : (10 : Int32).toInt = 10 := rfl
  unfold f_X9_up
  split
  · rw [tI_div (by omega), h10]
    have := Int.natAbs_tdiv_le_natAbs x.toInt 10
    omega
  · have h9 : (x + 9).toInt = x.toInt + 9 := tI_add (y := 9) (by show _ ≤ x.toInt + 9 ∧ x.toInt + 9 < _; omega)
    rw [tI_div (by rw [h9]; omega), h9, h10]
    have := Int.natAbs_tdiv_le_natAbs (x.toInt + 9) 10
    omega
section ST
variable {S S0 : xS} {v : Nat → Nat → Int32} {F n : Nat} {ft : Int32}
theorem stone_L (g : Gd v F ft) (c : Cl S0 v) (w : Vw S v F ft) (hn : 20 ≤ n) (a1 : Int32) : ∀ (m f : Nat) (x y : Int32), f + m = F → ∀ i j, m + 1 ≤ i → m + 1 ≤ j → ∃ r, l_X8_stones_16 n S0 i a1 (if a1 = 0 then x else y) (nI f) = some r ∧ l_X9_stonesOf_7 n j S a1 x y (nI f) = some (r, S) := by
  intro m
  have hF := g.1
  induction m with
  | zero =>
    intro f x y hf i j hi hj
    obtain ⟨i, rfl⟩ : ∃ x, i = x + 1 := ⟨i - 1, by omega⟩
    obtain ⟨j, rfl⟩ : ∃ x, j = x + 1 := ⟨j - 1, by omega⟩
    have : f = F := by omega
    subst this
    refine ⟨if a1 = 0 then x else y, ?_, ?_⟩
    · show b_X8_stones_16 n _ S0 a1 _ (nI f) = _
      unfold b_X8_stones_16
      rw [c 4 (by decide), g.2.1, ifle (by omega) (by omega), if_pos (by omega)]
    · show b_X9_stonesOf_7 n _ S a1 x y (nI f) = _
      unfold b_X9_stonesOf_7
      rw [fl_now w hn, ob]
      show (if nI f ≤ nI f then (if a1 = 0 then some (x, S) else some (y, S)) else _) = _
      rw [ifle (by omega) (by omega), if_pos (by omega)]
      by_cases q : a1 = 0
      · rw [if_pos q, if_pos q]
      · rw [if_neg q, if_neg q]
  | succ m ih =>
    intro f x y hf i j hi hj
    obtain ⟨i, rfl⟩ : ∃ x, i = x + 1 := ⟨i - 1, by omega⟩
    obtain ⟨j, rfl⟩ : ∃ x, j = x + 1 := ⟨j - 1, by omega⟩
    obtain ⟨M, C, z, hM, hC, hz, eM, eC, -⟩ := g.2.2.2.2.1 f (by omega)
    have hb := built_rg g (f := f) (by omega)
    have hm : -2000000 ≤ (v 10 f).toInt ∧ (v 10 f).toInt ≤ 2000000 := by rw [eM, tin (by omega)]; omega
    have u1 := up_rg hm
    have u2 := up_rg (x := v 11 f + v 12 f) (by omega)
    generalize hB : f_X9_up (v 10 f) - f_X9_up (v 11 f + v 12 f) = B
    have hBr : -10000000 ≤ B.toInt ∧ B.toInt ≤ 10000000 := by rw [← hB, tI_sub (by omega)]; omega
    have hnB := tI_neg (x := B) (by omega)
    have c0 : (0 : Int32).toInt = 0 := rfl
    have e1 : ∀ t, l_X8_stones_16 n S0 (i + 1) a1 t (nI f) = if a1 = 0 then l_X8_stones_16 n S0 i a1 (t + xmax 0 B) (nI (f + 1)) else l_X8_stones_16 n S0 i a1 (t + xmax 0 (-B)) (nI (f + 1)) := by
      intro t
      show b_X8_stones_16 n (l_X8_stones_16 n S0 i) S0 a1 t (nI f) = _
      unfold b_X8_stones_16
      rw [c 4 (by decide), g.2.1, ifle (by omega) (by omega), if_neg (by omega), xgn (by omega) (by omega), cln (by omega), c 10 (by decide), stone_eq hm, ob, c_built (by omega), ob, c 11 (by decide), c 12 (by decide), stone_eq (by omega), ob, hB, ad1]
    have e2 : l_X9_stonesOf_7 n (j + 1) S a1 x y (nI f) = l_X9_stonesOf_7 n j S a1 (x + xmax 0 B) (y + xmax 0 (-B)) (nI (f + 1)) := by
      show b_X9_stonesOf_7 n (l_X9_stonesOf_7 n j) S a1 x y (nI f) = _
      unfold b_X9_stonesOf_7 j_X9_stonesOf_50
      rw [fl_now w hn, ob]
      show (if nI F ≤ nI f then _ else xg (xin (nI f) 11) ((f_X9_builtOf n S (nI f)).bind fun r6 => (if f_X9_up (S.1 39 (nI f).toNatClampNeg) - f_X9_up r6 ≤ 0 then (if 0 ≤ f_X9_up (S.1 39 (nI f).toNatClampNeg) - f_X9_up r6 then l_X9_stonesOf_7 n j S a1 (x + 0) (y + 0) (nI f + 1) else l_X9_stonesOf_7 n j S a1 (x + 0) (y + -(f_X9_up (S.1 39 (nI f).toNatClampNeg) - f_X9_up r6)) (nI f + 1)) else (if 0 ≤ f_X9_up (S.1 39 (nI f).toNatClampNeg) - f_X9_up r6 then l_X9_stonesOf_7 n j S a1 (x + (f_X9_up (S.1 39 (nI f).toNatClampNeg) - f_X9_up r6)) (y + 0) (nI f + 1) else l_X9_stonesOf_7 n j S a1 (x + (f_X9_up (S.1 39 (nI f).toNatClampNeg) - f_X9_up r6)) (y + -(f_X9_up (S.1 39 (nI f).toNatClampNeg) - f_X9_up r6)) (nI f + 1))))) = _
      rw [ifle (by omega) (by omega), if_neg (by omega), xgn (by omega) (by omega), m_built w (by omega), ob, cln (by omega), (w.2.2.1.2.2.2.2.2.2.2.2.2 f (by omega)).1, hB, ad1]
      unfold xmax
      by_cases p1 : 0 < B
      · have q1 := ltI.mp p1
        rw [if_neg (show ¬ B ≤ 0 from Int32.not_le.mpr p1), if_pos (Int32.le_of_lt p1), if_pos p1, if_neg (fun z => by have := ltI.mp z; omega)]
      · have q1 : ¬ (0 : Int32).toInt < B.toInt := fun z => p1 (ltI.mpr z)
        rw [if_pos (Int32.not_lt.mp p1), if_neg p1]
        by_cases p2 : 0 ≤ B
        · have q2 := leI.mp p2
          rw [if_pos p2, if_neg (fun z => by have := ltI.mp z; omega)]
        · have q2 : ¬ (0 : Int32).toInt ≤ B.toInt := fun z => p2 (leI.mpr z)
          rw [if_neg p2, if_pos (ltI.mpr (by omega))]
    rw [e1, e2]
    obtain ⟨r, r1, r2⟩ := ih (f + 1) (x + xmax 0 B) (y + xmax 0 (-B)) (by omega) i j (by omega) (by omega)
    refine ⟨r, ?_, r2⟩
    by_cases q : a1 = 0
    · rw [if_pos q] at r1
      rw [if_pos q, if_pos q]; exact r1
    · rw [if_neg q] at r1
      rw [if_neg q, if_neg q]; exact r1
theorem stones_b (g : Gd v F ft) (c : Cl S0 v) (w : Vw S v F ft) (hn : 20 ≤ n) (a1 : Int32) (h1 : ¬ f_X9_in a1 0 1 = 0) : ∃ r, f_X8_stones n S0 a1 = some r ∧ f_X9_stonesOf n S a1 = some (r, S) := by
  have hF := g.1
  obtain ⟨r, r1, r2⟩ := stone_L (n := n) g c w hn a1 F 0 0 0 (by omega) n n (by omega) (by omega)
  refine ⟨r, ?_, r2⟩
  unfold f_X8_stones
  rw [wi_eq, if_neg h1]
  by_cases q : a1 = 0
  · rw [if_pos q] at r1; exact r1
  · rw [if_neg q] at r1; exact r1
theorem op_stones {S : xS} (hI : Inv S) (hn : 20 ≤ n) (a : Int32) : ∃ r S2, f_X8_stones n S a = some r ∧ f_X9_stones n S a = some (r, S2) ∧ Inv S2 := by
  by_cases h1 : f_X9_in a 0 1 = 0
  · refine ⟨-2, S, ?_, ?_, hI⟩
    · unfold f_X8_stones; rw [wi_eq, if_pos h1]
    · unfold f_X9_stones; rw [if_pos h1]
  · obtain ⟨T, F, ft, g, w, i1, i2, i3⟩ := hI.ask
    obtain ⟨r, r1, r2⟩ := stones_b (n := n) g (Cl.rf S) w hn a h1
    refine ⟨r, RD S T, r1, ?_, i1⟩
    have e : f_X9_stonesOf n S a = f_X9_stonesOf n (RD S T) a := by
      obtain ⟨k, rfl⟩ : ∃ k, n = k + 1 := ⟨n - 1, by omega⟩
      show b_X9_stonesOf_7 _ _ S a 0 0 0 = b_X9_stonesOf_7 _ _ (RD S T) a 0 0 0
      unfold b_X9_stonesOf_7
      rw [i3 _ hn, fl_now w hn]
    unfold f_X9_stones
    rw [if_neg h1, e, r2, ob]
end ST
