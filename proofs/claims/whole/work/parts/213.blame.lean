theorem gcd_step {d r : Nat} (h : 0 < r) : Nat.gcd d r = Nat.gcd r (d % r) := by rw [Nat.gcd_comm d r, Nat.gcd_rec r d, Nat.gcd_comm]
theorem half_lt {m r : Nat} (h0 : 0 < m) (h : m < r) : 2 * (r % m) < r := by
  have h1 := Nat.mod_lt r h0
  have h2 : r % m + m * (r / m) = r := Nat.mod_add_div r m
  have h3 : 1 ≤ r / m := (Nat.one_le_div_iff h0).mpr (by omega)
  have h4 : m * 1 ≤ m * (r / m) := Nat.mul_le_mul_left m h3
  omega
theorem lgc0 {a : Nat} (h : a < 2 ^ 63) : lg_cmp (lN a) 0 = 0 ↔ a = 0 := by
  have e0 : (0 : Int64) = lN 0 := rfl
  unfold lg_cmp
  rw [e0]
  have hgt : (lN a > lN 0) ↔ 0 < a := pk_lLT (by decide) h
  have heq : (lN a = lN 0) ↔ a = 0 := pk_lEQ h (by decide)
  by_cases q : 0 < a
  · rw [if_pos (hgt.mpr q)]
    exact ⟨fun z => absurd z (by decide), fun z => by omega⟩
  · rw [if_neg (fun z => q (hgt.mp z)), if_pos (heq.mpr (by omega))]
    exact ⟨fun _ => by omega, fun _ => rfl⟩
theorem lne0 {a : Nat} (h : a < 2 ^ 63) (h0 : 0 < a) : (!decide (lN a = 0)) = true := by
  have : ¬ lN a = 0 := fun z => by
    have := (pk_lEQ h (show 0 < 2 ^ 63 by decide)).mp (show lN a = lN 0 from z)
    omega
  simp [this]
/-- one term, once the divisor stands -/
def lowT (a0 a2 : Int64) (a4 : Int32) (g : Int64) : Option Int64 := if a4 = 0 then some (a0 / g) else some (a2 / g)
theorem c_j45 {n : Nat} (a0 a2 : Int64) (a4 : Int32) {g : Nat} (h : g < 2 ^ 63) (h0 : 0 < g) : j_X8_inLowestTerms_45 n a0 a2 a4 (lN g) = lowT a0 a2 a4 (lN g) := by
  unfold j_X8_inLowestTerms_45 lowT
  have q : ¬ lg_cmp (lN g) 0 = 0 := fun z => by have := (lgc0 h).mp z; omega
  rw [if_neg q, xgT (lne0 h h0), if_neg q, xgT (lne0 h h0)]
theorem c_euc {n : Nat} (a0 a2 : Int64) (a4 : Int32) : ∀ (k d r i j : Nat), d < 2 ^ 62 → 0 < d → r < 2 ^ k → r < 2 ^ 62 → i + 2 * k ≤ 126 → 2 * k + 2 ≤ j → l_X8_inLowestTerms_9 n j a0 a2 a4 (lN d) (lN r) (nI i) = lowT a0 a2 a4 (lN (Nat.gcd d r)) := by
  intro k
  induction k with
  | zero =>
    intro d r i j hd hd0 hr hr2 hi hj
    obtain ⟨j, rfl⟩ : ∃ x, j = x + 1 := ⟨j - 1, by omega⟩
    have : r = 0 := by simpa using hr
    subst this
    show b_X8_inLowestTerms_9 n _ a0 a2 a4 (lN d) (lN 0) (nI i) = _
    unfold b_X8_inLowestTerms_9
    rw [show (128 : Int32) = nI 128 from rfl, ifle (by omega) (by omega), if_neg (by omega), if_pos ((lgc0 (by decide)).mpr rfl), Nat.gcd_zero_right, c_j45 _ _ _ (by omega) hd0]
  | succ k ih =>
    intro d r i j hd hd0 hr hr2 hi hj
    obtain ⟨j, rfl⟩ : ∃ x, j = x + 2 := ⟨j - 2, by omega⟩
    show b_X8_inLowestTerms_9 n (l_X8_inLowestTerms_9 n (j + 1)) a0 a2 a4 (lN d) (lN r) (nI i) = _
    unfold b_X8_inLowestTerms_9
    rw [show (128 : Int32) = nI 128 from rfl, ifle (by omega) (by omega), if_neg (by omega)]
    by_cases h0 : r = 0
    · subst h0
      rw [if_pos ((lgc0 (by decide)).mpr rfl), Nat.gcd_zero_right, c_j45 _ _ _ (by omega) hd0]
    · rw [if_neg (fun z => h0 ((lgc0 (by omega)).mp z)), xgT (lne0 (by omega) (by omega)), pk_lRem (by omega) (by omega) (by omega), ad1, gcd_step (by omega)]
      have hm := Nat.mod_lt d (show 0 < r by omega)
      generalize d % r = m at hm
      show b_X8_inLowestTerms_9 n (l_X8_inLowestTerms_9 n j) a0 a2 a4 (lN r) (lN m) (nI (i + 1)) = _
      unfold b_X8_inLowestTerms_9
      rw [show (128 : Int32) = nI 128 from rfl, ifle (by omega) (by omega), if_neg (by omega)]
      by_cases h1 : m = 0
      · subst h1
        rw [if_pos ((lgc0 (by decide)).mpr rfl), Nat.gcd_zero_right, c_j45 _ _ _ (by omega) (by omega)]
      · rw [if_neg (fun z => h1 ((lgc0 (by omega)).mp z)), xgT (lne0 (by omega) (by omega)), pk_lRem (by omega) (by omega) (by omega), ad1, gcd_step (by omega)]
        have hh := half_lt (show 0 < m by omega) hm
        have h2 : r % m < 2 ^ k := by rw [Nat.pow_succ] at hr; omega
        exact ih m (r % m) (i + 1 + 1) j (by omega) (by omega) h2 (by omega) (by omega) (by omega)
theorem m_euc {n : Nat} (a0 a2 : Int64) (a4 : Int32) : ∀ (k d r j : Nat), d < 2 ^ 62 → 0 < d → r < 2 ^ k → r < 2 ^ 62 → 2 * k + 2 ≤ j → l_X9_lowest_6 n j a0 a2 a4 (lN d) (lN r) = lowT a0 a2 a4 (lN (Nat.gcd d r)) := by
  have fin : ∀ {n : Nat} (k6 : Int64 → Int64 → Int32 → Int64 → Int64 → Option Int64) (d : Nat), d < 2 ^ 62 → 0 < d → b_X9_lowest_6 n k6 a0 a2 a4 (lN d) (lN 0) = lowT a0 a2 a4 (lN d) := by
    intro n k6 d h h0
    unfold b_X9_lowest_6 lowT
    rw [if_pos ((lgc0 (by decide)).mpr rfl), xgT (lne0 (by omega) h0), xgT (lne0 (by omega) h0)]
  intro k
  induction k with
  | zero =>
    intro d r j hd hd0 hr hr2 hj
    obtain ⟨j, rfl⟩ : ∃ x, j = x + 1 := ⟨j - 1, by omega⟩
    have : r = 0 := by simpa using hr
    subst this
    show b_X9_lowest_6 n _ a0 a2 a4 (lN d) (lN 0) = _
    rw [fin _ d hd hd0, Nat.gcd_zero_right]
  | succ k ih =>
    intro d r j hd hd0 hr hr2 hj
    obtain ⟨j, rfl⟩ : ∃ x, j = x + 2 := ⟨j - 2, by omega⟩
    show b_X9_lowest_6 n (l_X9_lowest_6 n (j + 1)) a0 a2 a4 (lN d) (lN r) = _
    by_cases h0 : r = 0
    · subst h0
      rw [fin _ d hd hd0, Nat.gcd_zero_right]
    · unfold b_X9_lowest_6
      rw [if_neg (fun z => h0 ((lgc0 (by omega)).mp z)), xgT (lne0 (by omega) (by omega)), pk_lRem (by omega) (by omega) (by omega), gcd_step (by omega)]
      have hm := Nat.mod_lt d (show 0 < r by omega)
      generalize d % r = m at hm
      show b_X9_lowest_6 n (l_X9_lowest_6 n j) a0 a2 a4 (lN r) (lN m) = _
      by_cases h1 : m = 0
      · subst h1
        rw [fin _ r (by omega) (by omega), Nat.gcd_zero_right]
      · unfold b_X9_lowest_6
        rw [if_neg (fun z => h1 ((lgc0 (by omega)).mp z)), xgT (lne0 (by omega) (by omega)), pk_lRem (by omega) (by omega) (by omega), gcd_step (by omega)]
        have hh := half_lt (show 0 < m by omega) hm
        have h2 : r % m < 2 ^ k := by rw [Nat.pow_succ] at hr; omega
        exact ih m (r % m) j (by omega) (by omega) h2 (by omega) (by omega)
/-- both give the fraction's terms by the greatest divisor -/
theorem low_both {n A B : Nat} (hAB : A ≤ B) (h0 : 0 < B) (hB : B < 2 ^ 40) (hn : 200 ≤ n) (a4 : Int32) : f_X8_inLowestTerms n (lN A) (lN B) a4 = f_X9_lowest n (lN A) (lN B) a4 := by
  unfold f_X8_inLowestTerms f_X9_lowest
  have e1 : l_X8_inLowestTerms_9 n n (lN A) (lN B) a4 (lN B) (lN A) 0 = lowT (lN A) (lN B) a4 (lN (Nat.gcd B A)) := c_euc (lN A) (lN B) a4 40 B A 0 n (by omega) h0 (by omega) (by omega) (by omega) (by omega)
  rw [e1]
  obtain ⟨k, rfl⟩ : ∃ x, n = x + 1 := ⟨n - 1, by omega⟩
  show _ = b_X9_lowest_6 (k + 1) (l_X9_lowest_6 (k + 1) k) (lN A) (lN B) a4 (lN A) (lN B)
  unfold b_X9_lowest_6
  rw [if_neg (fun z => by have := (lgc0 (show B < 2 ^ 63 by omega)).mp z; omega), xgT (lne0 (by omega) h0), pk_lRem (by omega) h0 (by omega)]
  have hm := Nat.mod_lt A h0
  rw [m_euc (n := k + 1) (lN A) (lN B) a4 40 B (A % B) k (by omega) h0 (by omega) (by omega) (by omega), Nat.gcd_comm B A, gcd_step h0]
theorem nI_inj {a b : Nat} (ha : a < 2147483648) (hb : b < 2147483648) (h : nI a = nI b) : a = b := (nI_eq (pb_31 ▸ ha) (pb_31 ▸ hb)).mp h
section BL
variable {S S0 : xS} {v : Nat → Nat → Int32} {F n : Nat} {ft : Int32}
theorem absdiff {a b : Nat} (ha : a ≤ 200000) (hb : b ≤ 200000) : ∃ d : Nat, xabs (nI a - nI b) = nI d ∧ d ≤ 200000 := by
  have h1 : (nI a - nI b).toInt = (a : Int) - b := by rw [tI_sub (by rw [tin (by omega), tin (by omega)]; omega), tin (by omega), tin (by omega)]
  have h2 := tI_abs (x := nI a - nI b) (by rw [h1]; omega)
  obtain ⟨d, d1, d2, d3⟩ := nat_of (x := xabs (nI a - nI b)) (by omega)
  exact ⟨d, d2, by omega⟩
theorem miss_L (g : Gd v F ft) (c : Cl S0 v) (w : Vw S v F ft) {k : Nat} (hk : k < 3) : ∀ (m f x : Nat), f + m = F → x ≤ 200000 * f → ∀ i j, m + 1 ≤ i → m + 1 ≤ j → ∃ X : Nat, X ≤ 200000 * F ∧ l_X7_missBy_4 n S0 i (nI k) (nI x) (nI f) = some (nI X) ∧ l_X9_blameBy_4 n S j (nI k) (nI x) (nI f) = some (nI X) := by
  intro m
  have hF := g.1
  induction m with
  | zero =>
    intro f x hf hx i j hi hj
    obtain ⟨i, rfl⟩ : ∃ x, i = x + 1 := ⟨i - 1, by omega⟩
    obtain ⟨j, rfl⟩ : ∃ x, j = x + 1 := ⟨j - 1, by omega⟩
    have : f = F := by omega
    subst this
    refine ⟨x, hx, ?_, ?_⟩
    · show b_X7_missBy_4 n _ S0 (nI k) (nI x) (nI f) = _
      unfold b_X7_missBy_4
      rw [c 4 (by decide), g.2.1, ifle (by omega) (by omega), if_pos (by omega)]
    · show b_X9_blameBy_4 n _ S (nI k) (nI x) (nI f) = _
      unfold b_X9_blameBy_4
      rw [w.2.2.1.2.2.2.2.2.2.2.2.1, ifle (by omega) (by omega), if_pos (by omega)]
  | succ m ih =>
    intro f x hf hx i j hi hj
    obtain ⟨i, rfl⟩ : ∃ x, i = x + 1 := ⟨i - 1, by omega⟩
    obtain ⟨j, rfl⟩ : ∃ x, j = x + 1 := ⟨j - 1, by omega⟩
    obtain ⟨M, C, y, hM, hC, hy, eM, eC, ey, ec, e13, e14⟩ := g.2.2.2.2.1 f (by omega)
    obtain ⟨m1, m2, m3, m4, m5, m6, m7, m8, m9, m10⟩ := w.2.2.1
    obtain ⟨d, hd, hd2⟩ := absdiff (a := C) (b := M) (by omega) (by omega)
    have e1 : l_X7_missBy_4 n S0 (i + 1) (nI k) (nI x) (nI f) = if y / 3 = k then l_X7_missBy_4 n S0 i (nI k) (nI (x + d)) (nI (f + 1)) else l_X7_missBy_4 n S0 i (nI k) (nI x) (nI (f + 1)) := by
      show b_X7_missBy_4 n (l_X7_missBy_4 n S0 i) S0 (nI k) (nI x) (nI f) = _
      unfold b_X7_missBy_4
      rw [c 4 (by decide), g.2.1, ifle (by omega) (by omega), if_neg (by omega), c_master (j := y) (by omega) (by rw [c 8 (by decide)]; exact ey) hy, ob, ifeq (by omega) (by omega), xgn (by omega) (by omega), xgn (by omega) (by omega), cln (by omega), c 11 (by decide), c 10 (by decide), eC, eM, hd, adn, ad1]
    have e2 : l_X9_blameBy_4 n S (j + 1) (nI k) (nI x) (nI f) = if y / 3 = k then l_X9_blameBy_4 n S j (nI k) (nI (x + d)) (nI (f + 1)) else l_X9_blameBy_4 n S j (nI k) (nI x) (nI (f + 1)) := by
      show b_X9_blameBy_4 n (l_X9_blameBy_4 n S j) S (nI k) (nI x) (nI f) = _
      unfold b_X9_blameBy_4
      rw [m9, ifle (by omega) (by omega), if_neg (by omega), xgn (by omega) (by omega), cln (by omega), (m10 f (by omega)).2, (m10 f (by omega)).1, ey, dv3 (by omega), ifeq (by omega) (by omega), xgn (by omega) (by omega), xgn (by omega) (by omega), m_cut (by rw [m1, m2]; exact g.2.2.2.1) hy, ob, xgn (by omega) (by omega), m1, m2, ← ec, eC, eM, amount_abs, hd, adn, Int32.add_zero, ad1]
    rw [e1, e2]
    by_cases h : y / 3 = k
    · rw [if_pos h, if_pos h]
      exact ih (f + 1) (x + d) (by omega) (by omega) i j (by omega) (by omega)
    · rw [if_neg h, if_neg h]
      exact ih (f + 1) x (by omega) (by omega) i j (by omega) (by omega)
theorem miss_b (g : Gd v F ft) (c : Cl S0 v) (w : Vw S v F ft) {k : Nat} (hk : k < 3) (hn : 20 ≤ n) : ∃ X : Nat, X ≤ 2000000 ∧ f_X7_missBy n S0 (nI k) = some (nI X) ∧ f_X9_blameBy n S (nI k) = some (nI X) := by
  have hF := g.1
  obtain ⟨X, h1, h2, h3⟩ := miss_L (n := n) g c w hk F 0 0 (by omega) (by omega) n n (by omega) (by omega)
  exact ⟨X, by omega, h2, h3⟩
theorem toL {x : Nat} (h : x < 2147483648) : (nI x).toInt64 = lN x := nI_l (pb_31 ▸ h)
/-- blame() of a master, a2 and a3 being told right -/
theorem blame_b (g : Gd v F ft) (c : Cl S0 v) (w : Vw S v F ft) {k : Nat} (hk : k < 3) (hn : 200 ≤ n) (a2 a3 : Int32) (h2 : ¬ f_X9_in a2 0 1 = 0) (h3 : ¬ f_X9_in a3 0 1 = 0) : ∃ r, f_X8_blame n S0 (nI k) a2 a3 = some r ∧ f_X9_blameOf n S (nI k) a2 a3 = some (r, S) := by
  obtain ⟨X, x1, x2, x3⟩ := miss_b (n := n) g c w hk (by omega)
  obtain ⟨A, a1, b1, c1⟩ := miss_b (n := n) (k := 0) g c w (by omega) (by omega)
  obtain ⟨B, a2', b2, c2⟩ := miss_b (n := n) (k := 1) g c w (by omega) (by omega)
  obtain ⟨C, a3', b3, c3⟩ := miss_b (n := n) (k := 2) g c w (by omega) (by omega)
  have hX : X ≤ A + B + C := by
    rcases (show k = 0 ∨ k = 1 ∨ k = 2 by omega) with rfl | rfl | rfl
    · rw [x2] at b1; have := nI_inj (by omega) (by omega) (Option.some.inj b1); omega
    · rw [x2] at b2; have := nI_inj (by omega) (by omega) (Option.some.inj b2); omega
    · rw [x2] at b3; have := nI_inj (by omega) (by omega) (Option.some.inj b3); omega
  unfold f_X8_blame f_X9_blameOf
  rw [show f_X8_isMaster (nI k) = f_X9_in (nI k) 0 2 from rfl, wi_eq, wi_eq, if_neg (by rw [show f_X9_in (nI k) 0 2 = 1 from in_nI (lo := 0) (hi := 2) (by omega) (by omega) (by decide)]; decide), if_neg h2, if_neg h3, x2, ob, w.2.2.2 n (by omega), ob]
  show ∃ r, _ ∧ ((f_X9_blameBy n S (nI k)).bind fun r3 => ((f_X9_blameBy n S 0).bind fun r5 => ((f_X9_blameBy n S 1).bind fun r7 => ((f_X9_blameBy n S 2).bind fun r9 => (if a2 = 0 then (if a3 = 0 then some (r3.toInt64, S) else some (1, S)) else (if r5 + r7 + r9 = 0 then some (f_X9_no (-3), S) else (f_X9_lowest n r3.toInt64 (r5 + r7 + r9).toInt64 a3).bind fun r13 => some (r13, S))))))) = some (r, S)
  rw [x3, ob, show f_X9_blameBy n S 0 = some (nI A) from c1, ob, show f_X9_blameBy n S 1 = some (nI B) from c2, ob, show f_X9_blameBy n S 2 = some (nI C) from c3, ob, adn, adn]
  by_cases q2 : a2 = 0
  · rw [if_pos q2, if_pos q2]
    by_cases q3 : a3 = 0
    · rw [if_pos q3, if_pos q3]; exact ⟨_, rfl, rfl⟩
    · rw [if_neg q3, if_neg q3]; exact ⟨_, rfl, rfl⟩
  · rw [if_neg q2, if_neg q2]
    have eL : l_X8_blame_63 n S0 n a3 (nI X).toInt64 0 0 = if lg_cmp (lN (A + B + C)) 0 = 0 then some (f_X8_refuseLong (-3)) else (f_X8_inLowestTerms n (lN X) (lN (A + B + C)) a3).bind fun r9 => some r9 := by
      obtain ⟨i, rfl⟩ : ∃ x, n = x + 4 := ⟨n - 4, by omega⟩
      rw [toL (by omega)]
      show b_X8_blame_63 (i + 4) (l_X8_blame_63 (i + 4) S0 (i + 3)) S0 a3 (lN X) 0 0 = _
      unfold b_X8_blame_63
      rw [if_neg (by decide), show f_X7_missBy (i + 4) S0 0 = some (nI A) from b1, ob]
      show b_X8_blame_63 (i + 4) (l_X8_blame_63 (i + 4) S0 (i + 2)) S0 a3 (lN X) (0 + (nI A).toInt64) (0 + 1) = _
      unfold b_X8_blame_63
      rw [if_neg (by decide), show f_X7_missBy (i + 4) S0 (0 + 1) = some (nI B) from b2, ob]
      show b_X8_blame_63 (i + 4) (l_X8_blame_63 (i + 4) S0 (i + 1)) S0 a3 (lN X) (0 + (nI A).toInt64 + (nI B).toInt64) (0 + 1 + 1) = _
      unfold b_X8_blame_63
      rw [if_neg (by decide), show f_X7_missBy (i + 4) S0 (0 + 1 + 1) = some (nI C) from b3, ob]
      show b_X8_blame_63 (i + 4) (l_X8_blame_63 (i + 4) S0 i) S0 a3 (lN X) (0 + (nI A).toInt64 + (nI B).toInt64 + (nI C).toInt64) (0 + 1 + 1 + 1) = _
      unfold b_X8_blame_63
      rw [if_pos (by decide), toL (by omega), toL (by omega), toL (by omega), show (0 : Int64) + lN A = lN (0 + A) from lN_add 0 A, lN_add, lN_add, Nat.zero_add]
    rw [eL]
    by_cases q0 : A + B + C = 0
    · rw [if_pos ((lgc0 (by omega)).mpr q0), if_pos (by rw [q0]; rfl)]
      exact ⟨_, rfl, rfl⟩
    · have hX2 : (A + B + C) < 2 ^ 40 := by omega
      rw [if_neg (fun z => q0 ((lgc0 (by omega)).mp z)), if_neg (by rw [n0, eqn (by omega) (by omega)]; exact q0), toL (by omega), toL (by omega), low_both hX (by omega) hX2 hn]
      have hs : ∃ t, f_X9_lowest n (lN X) (lN (A + B + C)) a3 = some t := by
        rw [← low_both hX (by omega) hX2 hn]
        unfold f_X8_inLowestTerms
        rw [show l_X8_inLowestTerms_9 n n (lN X) (lN (A + B + C)) a3 (lN (A + B + C)) (lN X) 0 = _ from c_euc (lN X) (lN (A + B + C)) a3 40 (A + B + C) X 0 n (by omega) (by omega) (by omega) (by omega) (by omega) (by omega)]
        unfold lowT
        split
        · exact ⟨_, rfl⟩
        · exact ⟨_, rfl⟩
      obtain ⟨t, ht⟩ := hs
      rw [ht, ob, ob]
      exact ⟨_, rfl, rfl⟩
theorem op_blame {S : xS} (hI : Inv S) (hn : 200 ≤ n) (a1 a2 a3 : Int32) : ∃ r S2, f_X8_blame n S a1 a2 a3 = some r ∧ f_X9_blame n S a1 a2 a3 = some (r, S2) ∧ Inv S2 := by
  by_cases h1 : f_X9_in a1 0 2 = 0
  · refine ⟨f_X8_refuseLong (-2), S, ?_, ?_, hI⟩
    · unfold f_X8_blame
      rw [show f_X8_isMaster a1 = f_X9_in a1 0 2 from rfl, if_pos h1]
    · unfold f_X9_blame
      rw [if_pos h1]; rfl
  · by_cases h2 : f_X9_in a2 0 1 = 0
    · refine ⟨f_X8_refuseLong (-2), S, ?_, ?_, hI⟩
      · unfold f_X8_blame
        rw [show f_X8_isMaster a1 = f_X9_in a1 0 2 from rfl, wi_eq, if_neg h1, if_pos h2]
      · unfold f_X9_blame
        rw [if_neg h1, if_pos h2]; rfl
    · by_cases h3 : f_X9_in a3 0 1 = 0
      · refine ⟨f_X8_refuseLong (-2), S, ?_, ?_, hI⟩
        · unfold f_X8_blame
          rw [show f_X8_isMaster a1 = f_X9_in a1 0 2 from rfl, wi_eq, wi_eq, if_neg h1, if_neg h2, if_pos h3]
        · unfold f_X9_blame
          rw [if_neg h1, if_neg h2, if_pos h3]; rfl
      · obtain ⟨T, F, ft, g, w, i1, i2, i3⟩ := hI.ask
        obtain ⟨k, -, hk, rfl⟩ := in_nat (lo := 0) (hi := 2) (by decide) h1 (by decide)
        obtain ⟨r, r1, r2⟩ := blame_b (n := n) (k := k) g (Cl.rf S) w (by omega) hn a2 a3 h2 h3
        refine ⟨r, RD S T, r1, ?_, i1⟩
        unfold f_X9_blame
        have e : f_X9_blameOf n S (nI k) a2 a3 = f_X9_blameOf n (RD S T) (nI k) a2 a3 := by
          unfold f_X9_blameOf
          rw [i2 n (by omega), w.2.2.2 n (by omega)]
        rw [if_neg h1, if_neg h2, if_neg h3, e, r2, ob]
end BL
