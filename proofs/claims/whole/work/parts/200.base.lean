theorem pb_31 : (2147483648 : Nat) = 2 ^ 31 := by decide
theorem cln {k : Nat} (h : k < 2147483648) : (nI k).toNatClampNeg = k := nI_clamp (pb_31 ▸ h)
theorem tin {k : Nat} (h : k < 2147483648) : (nI k).toInt = (k : Int) := nI_toInt (pb_31 ▸ h)
theorem len {a b : Nat} (ha : a < 2147483648) (hb : b < 2147483648) : (nI a ≤ nI b) = (a ≤ b) := propext (nI_leI (pb_31 ▸ ha) (pb_31 ▸ hb))
theorem ltn {a b : Nat} (ha : a < 2147483648) (hb : b < 2147483648) : (nI a < nI b) = (a < b) := propext (nI_ltI (pb_31 ▸ ha) (pb_31 ▸ hb))
theorem eqn {a b : Nat} (ha : a < 2147483648) (hb : b < 2147483648) : (nI a = nI b) = (a = b) := propext (nI_eq (pb_31 ▸ ha) (pb_31 ▸ hb))
theorem xin_nI {k N : Nat} (h : k < N) (hN : N < 2147483648) : xin (nI k) N = true := by
  refine decide_eq_true ?_
  rw [tin (by omega)]
  omega
theorem xgn {α : Type} {k N : Nat} {a : Option α} (h : k < N) (hN : N < 2147483648) : xg (xin (nI k) N) a = a := xg_t (xin_nI h hN)
theorem xgT {α : Type} {c : Bool} {a : Option α} (h : c = true) : xg c a = a := xg_t h
theorem ob {α β : Type} (a : α) (f : α → Option β) : (some a).bind f = f a := rfl
theorem n0 : (0 : Int32) = nI 0 := rfl
theorem n1 : (1 : Int32) = nI 1 := rfl
theorem n2 : (2 : Int32) = nI 2 := rfl
theorem n3 : (3 : Int32) = nI 3 := rfl
theorem n9 : (9 : Int32) = nI 9 := rfl
theorem n10 : (10 : Int32) = nI 10 := rfl
theorem adn (a b : Nat) : nI a + nI b = nI (a + b) := nI_add a b
theorem ad1 (a : Nat) : nI a + 1 = nI (a + 1) := nI_1 a
theorem sbn {a b : Nat} (h : b ≤ a) : nI a - nI b = nI (a - b) := pk_sub h
theorem dvn {a d : Nat} (ha : a < 2147483648) (h0 : 0 < d) (hd : d < 2147483648) : nI a / nI d = nI (a / d) := pk_div (pb_31 ▸ ha) h0 (pb_31 ▸ hd)
theorem rmn {a d : Nat} (ha : a < 2147483648) (h0 : 0 < d) (hd : d < 2147483648) : nI a - nI a / nI d * nI d = nI (a % d) := pk_rem (pb_31 ▸ ha) h0 (pb_31 ▸ hd)
theorem dv3 {a : Nat} (ha : a < 2147483648) : nI a / (3 : Int32) = nI (a / 3) := dvn ha (by decide) (by decide)
theorem rm3 {a : Nat} (ha : a < 2147483648) : nI a - nI a / (3 : Int32) * (3 : Int32) = nI (a % 3) := rmn ha (by decide) (by decide)
theorem mln (a b : Nat) : nI a * nI b = nI (a * b) := pk_mul a b
theorem wi_eq (v a b : Int32) : f_X8_within v a b = f_X9_in v a b := rfl
theorem in_iff {v a b : Int32} : f_X9_in v a b = 0 ↔ ¬ (a ≤ v ∧ v ≤ b) := by
  unfold f_X9_in
  split
  · rename_i h
    exact ⟨fun _ q => absurd h (Int32.not_lt.mpr q.1), fun _ => rfl⟩
  · rename_i h
    split
    · rename_i h2
      exact ⟨fun _ q => absurd h2 (Int32.not_lt.mpr q.2), fun _ => rfl⟩
    · rename_i h2
      exact ⟨fun q => absurd q (by decide), fun q => absurd ⟨Int32.not_lt.mp h, Int32.not_lt.mp h2⟩ q⟩
theorem in_01 (v a b : Int32) : f_X9_in v a b = 0 ∨ f_X9_in v a b = 1 := fb_X9_in v a b
theorem in_yes {v a b : Int32} (h : a ≤ v ∧ v ≤ b) : f_X9_in v a b = 1 := by
  rcases in_01 v a b with q | q
  · exact absurd h (in_iff.mp q)
  · exact q
theorem in_no {v a b : Int32} (h : ¬ (a ≤ v ∧ v ≤ b)) : f_X9_in v a b = 0 := in_iff.mpr h
theorem leI {x y : Int32} : x ≤ y ↔ x.toInt ≤ y.toInt := Int32.le_iff_toInt_le
theorem ltI {x y : Int32} : x < y ↔ x.toInt < y.toInt := Int32.lt_iff_toInt_lt
theorem eqI {x y : Int32} : x = y ↔ x.toInt = y.toInt := Int32.toInt_inj.symm
theorem rgI (x : Int32) : -2147483648 ≤ x.toInt ∧ x.toInt < 2147483648 := ⟨by have := Int32.le_toInt x; simpa using this, by have := Int32.toInt_lt x; simpa using this⟩
theorem nat_of {x : Int32} (h : 0 ≤ x.toInt) : ∃ j : Nat, j < 2147483648 ∧ x = nI j ∧ x.toInt = j := by
  have := rgI x
  refine ⟨x.toInt.toNat, by omega, ?_, by omega⟩
  rw [eqI, tin (by omega)]
  omega
/-- a number between two: it is one of these -/
theorem in_nat {v : Int32} {lo hi : Nat} (hh : hi < 2147483648) (h : ¬ f_X9_in v (nI lo) (nI hi) = 0) (hl : lo < 2147483648) : ∃ j : Nat, lo ≤ j ∧ j ≤ hi ∧ v = nI j := by
  have h1 : nI lo ≤ v ∧ v ≤ nI hi := Classical.byContradiction fun q => h (in_iff.mpr q)
  have h2 := leI.mp h1.1
  have h3 := leI.mp h1.2
  rw [tin hl] at h2
  rw [tin hh] at h3
  obtain ⟨j, j1, j2, j3⟩ := nat_of (x := v) (by omega)
  exact ⟨j, by omega, by omega, j2⟩
theorem in_nI {j lo hi : Nat} (h1 : lo ≤ j) (h2 : j ≤ hi) (hh : hi < 2147483648) : f_X9_in (nI j) (nI lo) (nI hi) = 1 := in_yes ⟨by rw [len (by omega) (by omega)]; exact h1, by rw [len (by omega) hh]; exact h2⟩
theorem in_nI0 {j lo hi : Nat} (h : ¬ (lo ≤ j ∧ j ≤ hi)) (hj : j < 2147483648) (hl : lo < 2147483648) (hh : hi < 2147483648) : f_X9_in (nI j) (nI lo) (nI hi) = 0 := in_no (by rw [len hl hj, len hj hh]; exact h)
theorem amount_abs (x : Int32) : f_X9_amount x = xabs x := by
  unfold f_X9_amount xabs
  split
  · rfl
  · exact (Int32.zero_sub x).symm
theorem tI_add {x y : Int32} (h : -2147483648 ≤ x.toInt + y.toInt ∧ x.toInt + y.toInt < 2147483648) : (x + y).toInt = x.toInt + y.toInt := by
  rw [Int32.toInt_add]
  exact Int.bmod_eq_of_le (by omega) (by omega)
theorem tI_sub {x y : Int32} (h : -2147483648 ≤ x.toInt - y.toInt ∧ x.toInt - y.toInt < 2147483648) : (x - y).toInt = x.toInt - y.toInt := by
  rw [Int32.toInt_sub]
  exact Int.bmod_eq_of_le (by omega) (by omega)
theorem tI_mul {x y : Int32} (h : -2147483648 ≤ x.toInt * y.toInt ∧ x.toInt * y.toInt < 2147483648) : (x * y).toInt = x.toInt * y.toInt := by
  rw [Int32.toInt_mul]
  exact Int.bmod_eq_of_le (by omega) (by omega)
theorem tI_neg {x : Int32} (h : -2147483648 < x.toInt) : (-x).toInt = -x.toInt := by
  have := rgI x
  rw [Int32.toInt_neg]
  exact Int.bmod_eq_of_le (by omega) (by omega)
theorem tI_abs {x : Int32} (h : -2147483648 < x.toInt) : (xabs x).toInt = x.toInt.natAbs := by
  unfold xabs
  have h0 : (0 : Int32).toInt = 0 := rfl
  have hr := rgI x
  split
  · rename_i q
    have := leI.mp q
    omega
  · rename_i q
    have : ¬ (0 : Int32).toInt ≤ x.toInt := fun z => q (leI.mpr z)
    rw [tI_sub (by omega)]
    omega
theorem tI_div {x y : Int32} (h : ¬ (x.toInt = -2147483648 ∧ y.toInt = -1)) : (x / y).toInt = x.toInt.tdiv y.toInt := by
  have hx := rgI x
  have hy := rgI y
  rw [Int32.toInt_div]
  have hb : (x.toInt.tdiv y.toInt).natAbs ≤ x.toInt.natAbs := Int.natAbs_tdiv_le_natAbs _ _
  refine Int.bmod_eq_of_le (by omega) ?_
  have : x.toInt.tdiv y.toInt ≠ 2147483648 := by
    intro e
    have e1 : x.toInt.natAbs = 2147483648 := by omega
    have e2 : x.toInt = -2147483648 := by omega
    have e3 : ¬ y.toInt = -1 := fun z => h ⟨e2, z⟩
    rw [e2] at e
    have e4 : (-2147483648 : Int).tdiv y.toInt = 2147483648 := e
    have e5 : ((-2147483648 : Int).tdiv y.toInt).natAbs = 2147483648 / y.toInt.natAbs := by rw [Int.natAbs_tdiv]; rfl
    rw [e4] at e5
    have e6 : (2147483648 : Int).natAbs = 2147483648 := rfl
    rw [e6] at e5
    have e7 : y.toInt.natAbs = 1 := by
      rcases Nat.lt_or_ge y.toInt.natAbs 2 with q | q
      · have : y.toInt.natAbs ≠ 0 := by intro z; rw [z] at e5; simp at e5
        omega
      · have : 2147483648 / y.toInt.natAbs ≤ 2147483648 / 2 := Nat.div_le_div_left q (by decide)
        omega
    have e8 : y.toInt = 1 := by omega
    rw [e8] at e4
    simp at e4
  omega
theorem tI_lit_neg (k : Nat) (h : k ≤ 2147483648) : (-(nI k)).toInt = -(k : Int) := by
  rw [Int32.toInt_neg]
  by_cases q : k < 2147483648
  · rw [tin q]
    exact Int.bmod_eq_of_le (by omega) (by omega)
  · have : k = 2147483648 := by omega
    subst this
    rfl
theorem xst_eq (S : xS) (q k : Nat) (v : Int32) : (xst S q k v).1 q k = v := by simp [xst]
theorem xst_q {S : xS} {q k a b : Nat} {v : Int32} (h : a ≠ q) : (xst S q k v).1 a b = S.1 a b := by simp [xst, h]
theorem xst_k {S : xS} {q k a b : Nat} {v : Int32} (h : b ≠ k) : (xst S q k v).1 a b = S.1 a b := by simp [xst, h]
theorem xst_2 (S : xS) (q k : Nat) (v : Int32) : (xst S q k v).2 = S.2 := rfl
theorem xsl_1 (S : xS) (q k : Nat) (v : Int64) : (xsl S q k v).1 = S.1 := rfl
theorem xsl_eq (S : xS) (q k : Nat) (v : Int64) : (xsl S q k v).2 q k = v := by simp [xsl]
theorem xsl_q {S : xS} {q k a b : Nat} {v : Int64} (h : a ≠ q) : (xsl S q k v).2 a b = S.2 a b := by simp [xsl, h]
theorem xsl_k {S : xS} {q k a b : Nat} {v : Int64} (h : b ≠ k) : (xsl S q k v).2 a b = S.2 a b := by simp [xsl, h]
