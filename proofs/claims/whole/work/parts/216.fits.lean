def fitQ (v : Nat → Nat → Int32) (f k : Nat) : Bool := decide (v 16 f = -1 ∨ ¬ v 33 0 < xabs (cutv (v 2) (v 3) (v 10 f) k - v 16 f))
def fitB (v : Nat → Nat → Int32) (f : Nat) : Nat → Nat
  | 0 => 0
  | k + 1 => if fitQ v f k = true then fitB v f k + 2 ^ k else fitB v f k
theorem fitB_lt (v : Nat → Nat → Int32) (f : Nat) : ∀ k, fitB v f k < 2 ^ k
  | 0 => Nat.one_pos
  | k + 1 => by
    have := fitB_lt v f k
    rw [Nat.pow_succ]
    show (if fitQ v f k = true then fitB v f k + 2 ^ k else fitB v f k) < _
    split <;> omega
theorem fitB_bit (v : Nat → Nat → Int32) (f : Nat) : ∀ k i, i < k → (fitB v f k).testBit i = fitQ v f i
  | 0, i, h => by omega
  | k + 1, i, h => by
    have hl := fitB_lt v f k
    show (if fitQ v f k = true then fitB v f k + 2 ^ k else fitB v f k).testBit i = _
    by_cases e : i = k
    · subst e
      have h0 : (fitB v f i).testBit i = false := Nat.testBit_lt_two_pow hl
      split
      · rename_i q
        rw [Nat.add_comm, Nat.testBit_two_pow_add_eq, h0, q]; rfl
      · rename_i q
        rw [h0]; exact (Bool.eq_false_iff.mpr q).symm
    · have ih := fitB_bit v f k i (by omega)
      split
      · rw [Nat.add_comm, Nat.testBit_two_pow_add_gt (by omega)]; exact ih
      · exact ih
theorem nI_or (a b : Nat) : nI a ||| nI b = nI (a ||| b) := by
  apply Int32.toBitVec_inj.mp
  show BitVec.ofNat 32 a ||| BitVec.ofNat 32 b = BitVec.ofNat 32 (a ||| b)
  rw [BitVec.ofNat_or]
theorem nI_and (a b : Nat) : nI a &&& nI b = nI (a &&& b) := by
  apply Int32.toBitVec_inj.mp
  show BitVec.ofNat 32 a &&& BitVec.ofNat 32 b = BitVec.ofNat 32 (a &&& b)
  rw [BitVec.ofNat_and]
theorem shl1 {k : Nat} (hk : k < 9) : (1 : Int32) <<< (nI k &&& 31) = nI (2 ^ k) := by
  rcases (show k = 0 ∨ k = 1 ∨ k = 2 ∨ k = 3 ∨ k = 4 ∨ k = 5 ∨ k = 6 ∨ k = 7 ∨ k = 8 by omega) with rfl | rfl | rfl | rfl | rfl | rfl | rfl | rfl | rfl <;> decide
theorem or_bit {x k : Nat} (hk : k < 9) (hx : x < 2 ^ k) : nI x ||| ((1 : Int32) <<< (nI k &&& 31)) = nI (x + 2 ^ k) := by
  rw [shl1 hk, nI_or]
  congr 1
  have := Nat.two_pow_add_eq_or_of_lt hx 1
  rw [Nat.mul_one] at this
  rw [Nat.or_comm, ← this, Nat.add_comm]
section FT
variable {S S0 : xS} {v : Nat → Nat → Int32} {F n : Nat} {ft : Int32}
theorem c_fitL (g : Gd v F ft) (c : Cl S0 v) {f : Nat} (hf : f < F) : ∀ (m k : Nat), k + m = 9 → ∀ j, m + 1 ≤ j → l_X0_fitBits_5 n S0 j (nI f) (v 33 0) (nI (fitB v f k)) (nI k) = some (nI (fitB v f 9)) := by
  intro m
  have hF := g.1
  induction m with
  | zero =>
    intro k hk j hj
    obtain ⟨j, rfl⟩ : ∃ x, j = x + 1 := ⟨j - 1, by omega⟩
    have : k = 9 := by omega
    subst this
    show b_X0_fitBits_5 n _ S0 (nI f) (v 33 0) (nI (fitB v f 9)) (nI 9) = _
    unfold b_X0_fitBits_5
    rw [if_pos (by decide)]
  | succ m ih =>
    intro k hk j hj
    obtain ⟨j, rfl⟩ : ∃ x, j = x + 1 := ⟨j - 1, by omega⟩
    show b_X0_fitBits_5 n (l_X0_fitBits_5 n S0 j) S0 (nI f) (v 33 0) (nI (fitB v f k)) (nI k) = _
    unfold b_X0_fitBits_5
    rw [n9, ifle (by omega) (by omega), if_neg (by omega), xgn (by omega) (by omega), dv3 (by omega), show nI k - nI (k / 3) * 3 = nI (k % 3) from by rw [← dv3 (by omega)]; exact rm3 (by omega), c_cut (by rw [c 2 (by decide), c 3 (by decide)]; exact g.2.2.2.1) (by omega), ob, xgn (by omega) (by omega), xgn (by omega) (by omega), cln (by omega), c 16 (by decide), c 10 (by decide), c 2 (by decide), c 3 (by decide), or_bit (by omega) (fitB_lt v f k), ad1]
    have hn := ih (k + 1) (by omega) j (by omega)
    have hB : fitB v f (k + 1) = if fitQ v f k = true then fitB v f k + 2 ^ k else fitB v f k := rfl
    by_cases q1 : v 16 f = -1
    · have : fitQ v f k = true := decide_eq_true (Or.inl q1)
      rw [hB, if_pos this] at hn
      rw [if_pos q1]
      exact hn
    · rw [if_neg q1]
      by_cases q2 : v 33 0 < xabs (cutv (v 2) (v 3) (v 10 f) k - v 16 f)
      · have : ¬ fitQ v f k = true := fun z => by rcases of_decide_eq_true z with h | h <;> contradiction
        rw [hB, if_neg this] at hn
        rw [if_pos q2]
        exact hn
      · have : fitQ v f k = true := decide_eq_true (Or.inr q2)
        rw [hB, if_pos this] at hn
        rw [if_neg q2]
        exact hn
theorem c_fit (g : Gd v F ft) (c : Cl S0 v) {f : Nat} (hf : f < F) (hn : 20 ≤ n) : f_X0_fitBits n S0 (nI f) (v 33 0) = some (nI (fitB v f 9)) := c_fitL (n := n) g c hf 9 0 rfl n (by omega)
theorem m_fitQ (w : Vw S v F ft) {f k : Nat} (hf : f < F) (hk : k < 9) : f_X9_isFit n S (nI f) (nI k) = some (if fitQ v f k = true then 1 else 0) := by
  have hF := w.1.1
  obtain ⟨m1, m2, m3, m4, m5, m6, m7, m8, m9, m10⟩ := w.2.2.1
  unfold f_X9_isFit
  rw [xgn (by omega) (by omega), xgn (by omega) (by omega), cln (by omega), m_cut (by rw [m1, m2]; exact w.1.2.2.2.1) hk, ob, xgn (by omega) (by omega), m5, (m10 f hf).1, m1, m2, m3, amount_abs]
  by_cases q1 : v 16 f = -1
  · rw [if_pos q1, if_pos (show fitQ v f k = true from decide_eq_true (Or.inl q1))]
  · rw [if_neg q1]
    show (if v 33 0 < xabs (cutv (v 2) (v 3) (v 10 f) k - v 16 f) then _ else _) = _
    by_cases q2 : v 33 0 < xabs (cutv (v 2) (v 3) (v 10 f) k - v 16 f)
    · rw [if_pos q2, if_neg (fun z => by rcases of_decide_eq_true z with h | h <;> contradiction)]
    · rw [if_neg q2, if_pos (show fitQ v f k = true from decide_eq_true (Or.inr q2))]
theorem m_fitL (w : Vw S v F ft) {f : Nat} (hf : f < F) : ∀ (m k : Nat), k + m = 9 → ∀ j, m + 1 ≤ j → l_X9_fitsOf_4 n S j (nI f) (nI (fitB v f k)) (nI k) = some (nI (fitB v f 9)) := by
  intro m
  have hF := w.1.1
  induction m with
  | zero =>
    intro k hk j hj
    obtain ⟨j, rfl⟩ : ∃ x, j = x + 1 := ⟨j - 1, by omega⟩
    have : k = 9 := by omega
    subst this
    show b_X9_fitsOf_4 n _ S (nI f) (nI (fitB v f 9)) (nI 9) = _
    unfold b_X9_fitsOf_4
    rw [if_pos (by decide)]
  | succ m ih =>
    intro k hk j hj
    obtain ⟨j, rfl⟩ : ∃ x, j = x + 1 := ⟨j - 1, by omega⟩
    show b_X9_fitsOf_4 n (l_X9_fitsOf_4 n S j) S (nI f) (nI (fitB v f k)) (nI k) = _
    unfold b_X9_fitsOf_4
    rw [n9, ifle (by omega) (by omega), if_neg (by omega), m_fitQ w hf (by omega), ob, or_bit (by omega) (fitB_lt v f k), Int32.or_zero, ad1]
    have hn := ih (k + 1) (by omega) j (by omega)
    have hB : fitB v f (k + 1) = if fitQ v f k = true then fitB v f k + 2 ^ k else fitB v f k := rfl
    by_cases q : fitQ v f k = true
    · rw [hB, if_pos q] at hn
      rw [if_pos q, if_neg (by decide)]
      exact hn
    · rw [hB, if_neg q] at hn
      rw [if_neg q, if_pos rfl]
      exact hn
theorem m_fit (w : Vw S v F ft) {f : Nat} (hf : f < F) (hn : 20 ≤ n) : f_X9_fitsOf n S (nI f) = some (nI (fitB v f 9)) := m_fitL (n := n) w hf 9 0 rfl n (by omega)
theorem c_fits (g : Gd v F ft) (c : Cl S0 v) (hn : 20 ≤ n) (a : Int32) : f_X8_fits n S0 a = some (if f_X9_in a 0 (nI F - 1) = 0 then -2 else nI (fitB v a.toNatClampNeg 9)) := by
  unfold f_X8_fits
  have hF := g.1
  rw [show f_X8_isFloor S0 a = f_X9_in a 0 (S0.1 4 3 - 1) from rfl, c 4 (by decide), g.2.1, c 33 (by decide)]
  by_cases h : f_X9_in a 0 (nI F - 1) = 0
  · rw [if_pos h, if_pos h]
  · rw [if_neg h, if_neg h]
    obtain ⟨f, hf, rfl⟩ := isfl hF h
    rw [show f_X0_fitBits n S0 (nI f) (v 33 (0 : Int32).toNatClampNeg) = some (nI (fitB v f 9)) from c_fit g c hf hn, ob, cln (by omega)]
theorem op_fits {S : xS} (hI : Inv S) (hn : 20 ≤ n) (a : Int32) : ∃ r S2, f_X8_fits n S a = some r ∧ f_X9_fits n S a = some (r, S2) ∧ Inv S2 := by
  obtain ⟨T, F, ft, g, w, i1, i2, i3⟩ := hI.ask
  have hF := g.1
  refine ⟨_, RD S T, c_fits g (Cl.rf S) hn a, ?_, i1⟩
  unfold f_X9_fits
  rw [m_isFloor (i3 n hn), ob]
  by_cases h : f_X9_in a 0 (nI F - 1) = 0
  · rw [if_pos h, if_pos h]
  · rw [if_neg h, if_neg h]
    obtain ⟨f, hf, rfl⟩ := isfl hF h
    show (f_X9_fitsOf n (RD S T) (nI f)).bind _ = _
    rw [m_fit w hf hn, ob, cln (by omega)]
end FT
