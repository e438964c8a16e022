section DG
variable {n : Nat} {v : Nat → Nat → Int32} {F : Nat} {ft : Int32}
theorem cs_fl (g : Gd v F ft) {f : Nat} (hf : f < F) : ¬ f_X9_in (nI f) 0 (nI F - 1) = 0 := by rw [isfl_y g.1 hf]; decide
theorem d139 (g : Gd v F ft) {S0 S : xS} (c : Cl S0 v) (w : Vw S v F ft) {f : Nat} (hf : f < F) (k45 : xS → Int64 → Int32 → Option (Int64 × xS)) : ∀ (m y : Nat) (a : Int64), y + m = 3 → ∀ i j, m + 1 ≤ i → m + 1 ≤ j → ∃ a', l_X8_mixFloor_139 n i S0 (nI f) a (nI y) = some (a', S0) ∧ l_X9_digest_190 n k45 j S a (nI f) (nI y) = k45 S a' (nI (f + 1)) := by
  have hF := g.1
  intro m
  induction m with
  | zero =>
    intro y a hy i j hi hj
    obtain ⟨i, rfl⟩ : ∃ x, i = x + 1 := ⟨i - 1, by omega⟩
    obtain ⟨j, rfl⟩ : ∃ x, j = x + 1 := ⟨j - 1, by omega⟩
    refine ⟨a, ?_, ?_⟩
    · show b_X8_mixFloor_139 n _ S0 (nI f) a (nI y) = _
      unfold b_X8_mixFloor_139
      rw [n3, ifle (by omega) (by omega), if_pos (by omega)]
    · show b_X9_digest_190 n k45 _ S a (nI f) (nI y) = _
      unfold b_X9_digest_190
      rw [n3, ifle (by omega) (by omega), if_pos (by omega), ad1]
  | succ m ih =>
    intro y a hy i j hi hj
    obtain ⟨i, rfl⟩ : ∃ x, i = x + 1 := ⟨i - 1, by omega⟩
    obtain ⟨j, rfl⟩ : ∃ x, j = x + 1 := ⟨j - 1, by omega⟩
    obtain ⟨a', x1, x2⟩ := ih (y + 1) (31 * a + ((nI y + 2) * (v 11 f + v 12 f) / 10).toInt64) (by omega) i j (by omega) (by omega)
    refine ⟨a', ?_, ?_⟩
    · rw [← x1]
      show b_X8_mixFloor_139 n (l_X8_mixFloor_139 n i) S0 (nI f) a (nI y) = _
      unfold b_X8_mixFloor_139
      rw [n3, ifle (by omega) (by omega), if_neg (by omega), c_bears g c, ob, if_neg (cs_fl g hf), if_neg (by rw [show f_X9_in (nI y) 0 2 = 1 from in_nI (lo := 0) (hi := 2) (by omega) (by omega) (by omega)]; decide), cln (by omega), ad1]
      rfl
    · rw [← x2]
      show b_X9_digest_190 n k45 (l_X9_digest_190 n k45 j) S a (nI f) (nI y) = _
      unfold b_X9_digest_190
      rw [n3, ifle (by omega) (by omega), if_neg (by omega), m_bears w hf, ob, ad1]
theorem d77 (g : Gd v F ft) (hT : tyOk v) (hn : 200 ≤ n) {S0 S : xS} (c : Cl S0 v) (w : Vw S v F ft) {f : Nat} (hf : f < F) (k45 : xS → Int64 → Int32 → Option (Int64 × xS)) : ∀ (m y : Nat) (a : Int64), y + m = 3 → ∀ i j, m + 1 ≤ i → m + 1 ≤ j → ∃ a' S0' S', S0'.1 = S0.1 ∧ S'.1 = S.1 ∧ l_X8_mixFloor_77 n i S0 (nI f) a (nI y) = some (a', S0') ∧ l_X9_digest_128 n k45 j S a (nI f) (nI y) = k45 S' a' (nI (f + 1)) := by
  have hF := g.1
  intro m
  induction m with
  | zero =>
    intro y a hy i j hi hj
    obtain ⟨i, rfl⟩ : ∃ x, i = x + 1 := ⟨i - 1, by omega⟩
    obtain ⟨j, rfl⟩ : ∃ x, j = x + 1 := ⟨j - 1, by omega⟩
    obtain ⟨r, A1, B1, a1, b1, p1, q1⟩ := odds_b (n := n) g c w hT hn hf (show 0 < 3 by decide) (a3 := 0) (by decide)
    obtain ⟨r', A2, B2, a2, b2, p2, q2⟩ := odds_b (n := n) g (c.scr (Scr.of1 a1)) (w.scr hT (Scr.of1 b1)) hT hn hf (show 0 < 3 by decide) (a3 := 1) (by decide)
    obtain ⟨a', x1, x2⟩ := d139 (n := n) g ((c.scr (Scr.of1 a1)).scr (Scr.of1 a2)) ((w.scr hT (Scr.of1 b1)).scr hT (Scr.of1 b2)) hf k45 3 0 (31 * (31 * a + r) + r') (by omega) n n (by omega) (by omega)
    refine ⟨a', A2, B2, a2.trans a1, b2.trans b1, ?_, ?_⟩
    · rw [← x1]
      show b_X8_mixFloor_77 n _ S0 (nI f) a (nI y) = _
      unfold b_X8_mixFloor_77
      rw [n2, iflt (by omega) (by omega), if_pos (by omega)]
      show (f_X8_odds n S0 (nI f) (nI 0) 0).bind _ = _
      rw [p1, ob]
      show (f_X8_odds n A1 (nI f) (nI 0) 1).bind _ = _
      rw [p2, ob]
      rfl
    · rw [← x2]
      show b_X9_digest_128 n k45 _ S a (nI f) (nI y) = _
      unfold b_X9_digest_128
      rw [n3, ifle (by omega) (by omega), if_pos (by omega)]
      show (f_X9_oddsOf n S (nI f) (nI 0) 0).bind _ = _
      rw [q1, ob]
      show (f_X9_oddsOf n B1 (nI f) (nI 0) 1).bind _ = _
      rw [q2, ob]
      rfl
  | succ m ih =>
    intro y a hy i j hi hj
    obtain ⟨i, rfl⟩ : ∃ x, i = x + 1 := ⟨i - 1, by omega⟩
    obtain ⟨j, rfl⟩ : ∃ x, j = x + 1 := ⟨j - 1, by omega⟩
    obtain ⟨r, p, q⟩ := even_b (n := n) (lo := 15) (hi := 20) g c w hn hf (by omega) (by omega) (by omega) (a4 := nI y) (by rw [show f_X9_in (nI y) 0 2 = 1 from in_nI (lo := 0) (hi := 2) (by omega) (by omega) (by omega)]; decide)
    obtain ⟨a', A, B, x1, x2, x3, x4⟩ := ih (y + 1) (31 * a + r.toInt64) (by omega) i j (by omega) (by omega)
    refine ⟨a', A, B, x1, x2, ?_, ?_⟩
    · rw [← x3]
      show b_X8_mixFloor_77 n (l_X8_mixFloor_77 n i) S0 (nI f) a (nI y) = _
      unfold b_X8_mixFloor_77
      rw [n2, iflt (by omega) (by omega), if_neg (by omega)]
      show (f_X8_even n S0 (nI f) (nI 15) (nI 20) (nI y)).bind _ = _
      rw [p, ob, ad1]
      rfl
    · rw [← x4]
      show b_X9_digest_128 n k45 (l_X9_digest_128 n k45 j) S a (nI f) (nI y) = _
      unfold b_X9_digest_128
      rw [n3, ifle (by omega) (by omega), if_neg (by omega)]
      show (f_X9_evenOf n S (nI f) (nI 15) (nI 20) (nI y)).bind _ = _
      rw [q, ob, ad1]
theorem d_sill (g : Gd v F ft) {S0 S : xS} (c : Cl S0 v) (w : Vw S v F ft) (hn : 20 ≤ n) {f : Nat} (hf : f ≤ F) {a : Int32} (ha : ¬ f_X9_in a 0 2 = 0) : ∃ r, f_X8_sill n S0 (nI f) a = some r ∧ f_X9_sillOf n S (nI f) a = some r := by
  have hF := g.1
  refine ⟨_, ?_, m_sill w a hf hn⟩
  rw [c_sill g c, if_neg (by rw [show f_X9_in (nI f) 0 (nI F) = 1 from in_nI (lo := 0) (by omega) hf (by omega)]; decide), if_neg ha, cln (by omega)]
theorem d6 (g : Gd v F ft) (hT : tyOk v) (hn : 200 ≤ n) {S0 S : xS} (c : Cl S0 v) (w : Vw S v F ft) {f : Nat} (hf : f < F) (k45 : xS → Int64 → Int32 → Option (Int64 × xS)) : ∀ (m y : Nat) (a : Int64), y + m = 6 → ∀ i j, m + 1 ≤ i → m + 1 ≤ j → ∃ a' S0' S', S0'.1 = S0.1 ∧ S'.1 = S.1 ∧ l_X8_mixFloor_6 n i S0 (nI f) a (nI y) = some (a', S0') ∧ l_X9_digest_56 n k45 j S a (nI f) (nI y) = k45 S' a' (nI (f + 1)) := by
  have hF := g.1
  intro m
  induction m with
  | zero =>
    intro y a hy i j hi hj
    obtain ⟨i, rfl⟩ : ∃ x, i = x + 1 := ⟨i - 1, by omega⟩
    obtain ⟨j, rfl⟩ : ∃ x, j = x + 1 := ⟨j - 1, by omega⟩
    obtain ⟨r0, p0, q0⟩ := d_sill (n := n) g c w (by omega) (show f ≤ F by omega) (a := 0) (by decide)
    obtain ⟨r2, p2, q2⟩ := d_sill (n := n) g c w (by omega) (show f ≤ F by omega) (a := 2) (by decide)
    have pf : f_X8_fits n S0 (nI f) = some (nI (fitB v f 9)) := by rw [c_fits g c (by omega), if_neg (cs_fl g hf), cln (by omega)]
    have qf := m_fit (n := n) w hf (by omega)
    obtain ⟨a', A, B, x1, x2, x3, x4⟩ := d77 (n := n) g hT hn c w hf k45 3 0 (31 * (31 * (31 * a + r0.toInt64) + r2.toInt64) + (nI (fitB v f 9)).toInt64) (by omega) n n (by omega) (by omega)
    refine ⟨a', A, B, x1, x2, ?_, ?_⟩
    · rw [← x3]
      show b_X8_mixFloor_6 n _ S0 (nI f) a (nI y) = _
      unfold b_X8_mixFloor_6
      rw [show (5 : Int32) = nI 5 from rfl, iflt (by omega) (by omega), if_pos (by omega), p0, ob, p2, ob, pf, ob]
      rfl
    · rw [← x4]
      show b_X9_digest_56 n k45 _ S a (nI f) (nI y) = _
      unfold b_X9_digest_56
      rw [show (6 : Int32) = nI 6 from rfl, ifle (by omega) (by omega), if_pos (by omega), q0, ob, q2, ob, qf, ob]
      rfl
  | succ m ih =>
    intro y a hy i j hi hj
    obtain ⟨i, rfl⟩ : ∃ x, i = x + 1 := ⟨i - 1, by omega⟩
    obtain ⟨j, rfl⟩ : ∃ x, j = x + 1 := ⟨j - 1, by omega⟩
    obtain ⟨a', A, B, x1, x2, x3, x4⟩ := ih (y + 1) (31 * a + (vFloor v f (nI y)).toInt64) (by omega) i j (by omega) (by omega)
    refine ⟨a', A, B, x1, x2, ?_, ?_⟩
    · rw [← x3]
      show b_X8_mixFloor_6 n (l_X8_mixFloor_6 n i) S0 (nI f) a (nI y) = _
      unfold b_X8_mixFloor_6
      rw [show (5 : Int32) = nI 5 from rfl, iflt (by omega) (by omega), if_neg (by omega), c_floor g c, ob, if_neg (cs_fl g hf), if_neg (by rw [show f_X9_in (nI y) 0 5 = 1 from in_nI (lo := 0) (hi := 5) (by omega) (by omega) (by omega)]; decide), cln (by omega), ad1]
      rfl
    · rw [← x4]
      show b_X9_digest_56 n k45 (l_X9_digest_56 n k45 j) S a (nI f) (nI y) = _
      unfold b_X9_digest_56
      rw [show (6 : Int32) = nI 6 from rfl, ifle (by omega) (by omega), if_neg (by omega), m_floorOf w hf, ob, ad1]
theorem d279 (g : Gd v F ft) (hn : 200 ≤ n) {S0 S : xS} (c : Cl S0 v) (w : Vw S v F ft) {k : Nat} (hk : k < 3) (a : Int64) (k271 : xS → Int64 → Int32 → Option (Int64 × xS)) : ∃ a', f_X8_mixMaster n S0 a (nI k) = some a' ∧ l_X9_digest_279 n k271 n S a (nI k) 0 = k271 S a' (nI (k + 1)) := by
  obtain ⟨r1, p1, q1⟩ := blame_b (n := n) g c w hk hn 0 0 (by decide) (by decide)
  obtain ⟨r2, p2, q2⟩ := blame_b (n := n) g c w hk hn 0 1 (by decide) (by decide)
  obtain ⟨r3, p3, q3⟩ := blame_b (n := n) g c w hk hn 1 0 (by decide) (by decide)
  obtain ⟨r4, p4, q4⟩ := blame_b (n := n) g c w hk hn 1 1 (by decide) (by decide)
  obtain ⟨r5, p5, q5, -⟩ := safe_b (n := n) g c w (by omega) hk
  refine ⟨31 * (31 * (31 * (31 * (31 * a + r1) + r2) + r3) + r4) + r5.toInt64, ?_, ?_⟩
  · unfold f_X8_mixMaster f_X8_safe
    rw [p1, ob, p2, ob, p3, ob, p4, ob, show f_X8_isMaster (nI k) = 1 from in_nI (lo := 0) (hi := 2) (by omega) (by omega) (by omega), if_neg (by decide), p5, ob, ob]
    rfl
  · obtain ⟨m, rfl⟩ : ∃ m, n = m + 5 := ⟨n - 5, by omega⟩
    have st : ∀ (j y : Nat) (z : Int64) (r : Int64) (A B : Int32), y < 4 → nI y / 2 = A → nI y - nI y / 2 * 2 = B → f_X9_blameOf (m + 5) S (nI k) A B = some (r, S) → l_X9_digest_279 (m + 5) k271 (j + 1) S z (nI k) (nI y) = l_X9_digest_279 (m + 5) k271 j S (31 * z + r) (nI k) (nI (y + 1)) := by
      intro j y z r A B hy e1 e2 e3
      show b_X9_digest_279 (m + 5) k271 (l_X9_digest_279 (m + 5) k271 j) S z (nI k) (nI y) = _
      unfold b_X9_digest_279
      rw [show (4 : Int32) = nI 4 from rfl, ifle (by omega) (by omega), if_neg (by omega), e2, e1, e3, ob, ad1]
    show l_X9_digest_279 (m + 5) k271 (m + 4 + 1) S a (nI k) (nI 0) = _
    rw [st (m + 4) 0 a r1 0 0 (by omega) (by decide) (by decide) q1, st (m + 3) 1 _ r2 0 1 (by omega) (by decide) (by decide) q2, st (m + 2) 2 _ r3 1 0 (by omega) (by decide) (by decide) q3, st (m + 1) 3 _ r4 1 1 (by omega) (by decide) (by decide) q4]
    show b_X9_digest_279 (m + 5) k271 (l_X9_digest_279 (m + 5) k271 m) S _ (nI k) (nI 4) = _
    unfold b_X9_digest_279
    rw [if_pos (by decide), q5, ob, ad1]
theorem d271 (g : Gd v F ft) (hT : tyOk v) (hn : 200 ≤ n) {S0 S : xS} (c : Cl S0 v) (w : Vw S v F ft) : ∀ (m y : Nat) (a : Int64), y + m = 3 → ∀ i j, m + 1 ≤ i → m + 1 ≤ j → ∃ a' S0' S', Scr S0 S0' ∧ Scr S S' ∧ l_X8_digest_113 n i S0 a (nI y) = some (a', S0') ∧ l_X9_digest_271 n j S a (nI y) = some (a', S') := by
  have hF := g.1
  intro m
  induction m with
  | zero =>
    intro y a hy i j hi hj
    obtain ⟨i, rfl⟩ : ∃ x, i = x + 1 := ⟨i - 1, by omega⟩
    obtain ⟨j, rfl⟩ : ∃ x, j = x + 1 := ⟨j - 1, by omega⟩
    obtain ⟨X, A1, B1, -, -, a1, b1, p1, q1⟩ := worlds_b (n := n) g c w hT (by omega)
    have c1 := c.scr (Scr.of1 a1)
    have w1 := w.scr hT (Scr.of1 b1)
    obtain ⟨r2, p2, q2⟩ := lifts_b (n := n) g c1 w1 (by omega)
    obtain ⟨r3, p3, q3⟩ := long_b (n := n) g c1 w1 (by omega) 150 0 (by decide) (by decide)
    obtain ⟨r4, p4, q4⟩ := long_b (n := n) g c1 w1 (by omega) 150 1 (by decide) (by decide)
    obtain ⟨r5, A2, B2, a2, b2, -, p5, q5⟩ := work_b (n := n) g c1 w1 hT (by omega) 1023
    have c2 := c1.scr a2
    have w2 := w1.scr hT b2
    obtain ⟨r6, p6, q6⟩ := next_b (n := n) g c2 w2 (by omega) 100 0 (by decide) (by decide)
    obtain ⟨r7, p7, q7⟩ := next_b (n := n) g c2 w2 (by omega) 100 1 (by decide) (by decide)
    obtain ⟨r8, p8, q8⟩ := more_b (n := n) g c2 w2 (by omega)
    obtain ⟨r9, p9, q9⟩ := stones_b (n := n) g c2 w2 (by omega) 0 (by decide)
    obtain ⟨r10, p10, q10⟩ := stones_b (n := n) g c2 w2 (by omega) 1 (by decide)
    have pm : f_X8_mended n A1 1023 (-1) = some (r5, A2) := by
      unfold f_X8_mended j_X8_mended_27
      rw [if_neg (by decide), if_pos rfl]
      show (f_X3_work n A1 1023 (A1.1 33 2) (A1.1 33 3)).bind _ = _
      rw [c1 33 (by decide), p5, ob, if_pos rfl]
    refine ⟨31 * (31 * (31 * (31 * (31 * (31 * (31 * (31 * (31 * (31 * a + lN X) + r2.toInt64) + r3.toInt64) + r4.toInt64) + r5.toInt64) + r6.toInt64) + r7.toInt64) + r8.toInt64) + r9.toInt64) + r10.toInt64, A2, B2, (Scr.of1 a1).tr a2, (Scr.of1 b1).tr b2, ?_, ?_⟩
    · show b_X8_digest_113 n _ S0 a (nI y) = _
      unfold b_X8_digest_113
      rw [n3, ifle (by omega) (by omega), if_pos (by omega), p1, ob]
      show (f_X8_lifts n A1).bind _ = _
      rw [p2, ob]
      show (f_X8_longest n A1 150 0).bind _ = _
      rw [p3, ob]
      show (f_X8_longest n A1 150 1).bind _ = _
      rw [p4, ob]
      show (f_X8_mended n A1 1023 (-1)).bind _ = _
      rw [pm, ob]
      show (f_X8_next n A2 100 0).bind _ = _
      rw [p6, ob]
      show (f_X8_next n A2 100 1).bind _ = _
      rw [p7, ob]
      show (f_X8_more n A2).bind _ = _
      rw [p8, ob]
      show (f_X8_stones n A2 0).bind _ = _
      rw [p9, ob]
      show (f_X8_stones n A2 1).bind _ = _
      rw [p10, ob]
      rfl
    · show b_X9_digest_271 n _ S a (nI y) = _
      unfold b_X9_digest_271
      rw [n3, ifle (by omega) (by omega), if_pos (by omega), q1, ob]
      show (f_X9_liftsNow n B1).bind _ = _
      rw [q2, ob]
      show (f_X9_longestOf n B1 150 0).bind _ = _
      rw [q3, ob]
      show (f_X9_longestOf n B1 150 1).bind _ = _
      rw [q4, ob]
      show (f_X9_mends n B1 1023).bind _ = _
      rw [q5, ob]
      show (f_X9_nextOf n B2 100 0).bind _ = _
      rw [q6, ob]
      show (f_X9_nextOf n B2 100 1).bind _ = _
      rw [q7, ob]
      show (f_X9_moreNow n B2).bind _ = _
      rw [q8, ob]
      show (f_X9_stonesOf n B2 0).bind _ = _
      rw [q9, ob]
      show (f_X9_stonesOf n B2 1).bind _ = _
      rw [q10, ob]
  | succ m ih =>
    intro y a hy i j hi hj
    obtain ⟨i, rfl⟩ : ∃ x, i = x + 1 := ⟨i - 1, by omega⟩
    obtain ⟨j, rfl⟩ : ∃ x, j = x + 1 := ⟨j - 1, by omega⟩
    obtain ⟨a1, p1, q1⟩ := d279 (n := n) g hn c w (show y < 3 by omega) a (l_X9_digest_271 n j)
    obtain ⟨a', A, B, x1, x2, x3, x4⟩ := ih (y + 1) a1 (by omega) i j (by omega) (by omega)
    refine ⟨a', A, B, x1, x2, ?_, ?_⟩
    · rw [← x3]
      show b_X8_digest_113 n (l_X8_digest_113 n i) S0 a (nI y) = _
      unfold b_X8_digest_113
      rw [n3, ifle (by omega) (by omega), if_neg (by omega), p1, ob, ad1]
    · rw [← x4, ← q1]
      show b_X9_digest_271 n (l_X9_digest_271 n j) S a (nI y) = _
      unfold b_X9_digest_271
      rw [n3, ifle (by omega) (by omega), if_neg (by omega)]
theorem d41 (g : Gd v F ft) (hT : tyOk v) (hn : 200 ≤ n) : ∀ (m f : Nat) (S0 S : xS) (a : Int64), f + m = F → Cl S0 v → Vw S v F ft → ∀ i j, m + 1 ≤ i → m + 1 ≤ j → ∃ a' S0' S', Scr S0 S0' ∧ Scr S S' ∧ l_X8_digest_41 n i S0 a (nI f) = some (a', S0') ∧ l_X9_digest_45 n j S a (nI f) = some (a', S') := by
  have hF := g.1
  intro m
  induction m with
  | zero =>
    intro f S0 S a hf c w i j hi hj
    obtain ⟨i, rfl⟩ : ∃ x, i = x + 1 := ⟨i - 1, by omega⟩
    obtain ⟨j, rfl⟩ : ∃ x, j = x + 1 := ⟨j - 1, by omega⟩
    have : f = F := by omega
    subst this
    obtain ⟨r0, p0, q0⟩ := d_sill (n := n) g c w (by omega) (Nat.le_refl f) (a := 0) (by decide)
    obtain ⟨r2, p2, q2⟩ := d_sill (n := n) g c w (by omega) (Nat.le_refl f) (a := 2) (by decide)
    obtain ⟨r3, p3, q3⟩ := worst_b (n := n) g c w (by omega)
    obtain ⟨a', A, B, x1, x2, x3, x4⟩ := d271 (n := n) g hT hn c w 3 0 (31 * (31 * (31 * a + r0.toInt64) + r2.toInt64) + r3.toInt64) (by omega) n n (by omega) (by omega)
    refine ⟨a', A, B, x1, x2, ?_, ?_⟩
    · rw [← x3]
      show b_X8_digest_41 n _ S0 a (nI f) = _
      unfold b_X8_digest_41
      rw [c 4 (by decide), g.2.1, ifle (by omega) (by omega), if_pos (by omega), p0, ob, p2, ob, p3, ob]
      rfl
    · rw [← x4]
      show b_X9_digest_45 n _ S a (nI f) = _
      unfold b_X9_digest_45
      rw [w.2.2.1.2.2.2.2.2.2.2.2.1, ifle (by omega) (by omega), if_pos (by omega), q0, ob, q2, ob, q3, ob]
      rfl
  | succ m ih =>
    intro f S0 S a hf c w i j hi hj
    obtain ⟨i, rfl⟩ : ∃ x, i = x + 1 := ⟨i - 1, by omega⟩
    obtain ⟨j, rfl⟩ : ∃ x, j = x + 1 := ⟨j - 1, by omega⟩
    obtain ⟨a1, A1, B1, y1, y2, y3, y4⟩ := d6 (n := n) g hT hn c w (show f < F by omega) (l_X9_digest_45 n j) 6 0 a (by omega) n n (by omega) (by omega)
    obtain ⟨a', A, B, x1, x2, x3, x4⟩ := ih (f + 1) A1 B1 a1 (by omega) (c.scr (Scr.of1 y1)) (w.scr hT (Scr.of1 y2)) i j (by omega) (by omega)
    refine ⟨a', A, B, (Scr.of1 y1).tr x1, (Scr.of1 y2).tr x2, ?_, ?_⟩
    · rw [← x3]
      show b_X8_digest_41 n (l_X8_digest_41 n i) S0 a (nI f) = _
      unfold b_X8_digest_41 f_X8_mixFloor
      rw [c 4 (by decide), g.2.1, ifle (by omega) (by omega), if_neg (by omega)]
      show (l_X8_mixFloor_6 n n S0 (nI f) a (nI 0)).bind _ = _
      rw [y3, ob, ad1]
    · rw [← x4, ← y4]
      show b_X9_digest_45 n (l_X9_digest_45 n j) S a (nI f) = _
      unfold b_X9_digest_45
      rw [w.2.2.1.2.2.2.2.2.2.2.2.1, ifle (by omega) (by omega), if_neg (by omega)]
      rfl
theorem dg6 (g : Gd v F ft) (hT : tyOk v) (hn : 200 ≤ n) {S0 S : xS} (c : Cl S0 v) (w : Vw S v F ft) (h89 : S.1 34 20 = S0.1 0 9) : ∀ (m y : Nat) (a : Int64), y + m = 8 → ∀ i j, m + 1 ≤ i → m + 1 ≤ j → ∃ a' S0' S', Scr S0 S0' ∧ Scr S S' ∧ l_X8_digest_6 n i S0 a (nI y) = some (a', S0') ∧ l_X9_digest_6 n j S a (nI y) = some (a', S') := by
  have hF := g.1
  intro m
  induction m with
  | zero =>
    intro y a hy i j hi hj
    obtain ⟨i, rfl⟩ : ∃ x, i = x + 1 := ⟨i - 1, by omega⟩
    obtain ⟨j, rfl⟩ : ∃ x, j = x + 1 := ⟨j - 1, by omega⟩
    obtain ⟨a', A, B, x1, x2, x3, x4⟩ := d41 (n := n) g hT hn F 0 S0 S (31 * a + ft.toInt64) (by omega) c w n n (by omega) (by omega)
    refine ⟨a', A, B, x1, x2, ?_, ?_⟩
    · rw [← x3]
      show b_X8_digest_6 n _ S0 a (nI y) = _
      unfold b_X8_digest_6
      rw [show (7 : Int32) = nI 7 from rfl, iflt (by omega) (by omega), if_pos (by omega), show f_X8_fault S0 = ft from by show S0.1 4 2 = ft; rw [c 4 (by decide)]; exact g.2.2.1]
      rfl
    · rw [← x4]
      show b_X9_digest_6 n _ S a (nI y) = _
      unfold b_X9_digest_6
      rw [show (8 : Int32) = nI 8 from rfl, ifle (by omega) (by omega), if_pos (by omega), w.2.2.2 n (by omega), ob]
      rfl
  | succ m ih =>
    intro y a hy i j hi hj
    obtain ⟨i, rfl⟩ : ∃ x, i = x + 1 := ⟨i - 1, by omega⟩
    obtain ⟨j, rfl⟩ : ∃ x, j = x + 1 := ⟨j - 1, by omega⟩
    obtain ⟨r, p, q⟩ := cnt_b (n := n) g c w (by omega) h89 (nI y)
    obtain ⟨a', A, B, x1, x2, x3, x4⟩ := ih (y + 1) (31 * a + r.toInt64) (by omega) i j (by omega) (by omega)
    refine ⟨a', A, B, x1, x2, ?_, ?_⟩
    · rw [← x3]
      show b_X8_digest_6 n (l_X8_digest_6 n i) S0 a (nI y) = _
      unfold b_X8_digest_6
      rw [show (7 : Int32) = nI 7 from rfl, iflt (by omega) (by omega), if_neg (by omega), p, ob, ad1]
      rfl
    · rw [← x4]
      show b_X9_digest_6 n (l_X9_digest_6 n j) S a (nI y) = _
      unfold b_X9_digest_6
      rw [show (8 : Int32) = nI 8 from rfl, ifle (by omega) (by omega), if_neg (by omega), q, ob, ad1]
theorem op_digest {S : xS} (hI : Inv S) (hn : 200 ≤ n) : ∃ r S1 S2, f_X8_digest n S = some (r, S1) ∧ f_X9_digest n S1 = some (r, S2) ∧ Inv S2 := by
  obtain ⟨T, F, ft, g, w, i1, i2, i3⟩ := hI.ask
  have k89 : ∀ {S : xS}, Inv S → ∀ T, (RD S T).1 34 20 = S.1 0 9 := fun h T => by
    obtain ⟨T', hb, -⟩ := h
    rw [RD_34 (by decide)]
    exact hb.2.2.2.2.2.2.2.2.2.2.2
  obtain ⟨a, S1, B, x1, x2, x3, x4⟩ := dg6 (n := n) g hI.ty hn (Cl.rf S) w (k89 hI T) 8 0 17 (by omega) n n (by omega) (by omega)
  have hI1 : Inv S1 := hI.scr x1
  obtain ⟨T1, F1, ft1, g1, w1, j1, j2, j3⟩ := hI1.ask
  have cS : Cl S S1.1 := fun q hq => (x1 q (by rintro rfl; exact absurd hq (by decide)) (by rintro rfl; exact absurd hq (by decide)) (by rintro rfl; exact absurd hq (by decide))).symm
  have h0 : (RD S1 T1).1 34 20 = S.1 0 9 := by rw [k89 hI1 T1, x1 0 (by decide) (by decide) (by decide)]
  obtain ⟨a2, A2, S2, y1, y2, y3, y4⟩ := dg6 (n := n) g1 hI1.ty hn cS w1 h0 8 0 17 (by omega) n n (by omega) (by omega)
  rw [x3] at y3
  have q := Prod.mk.inj (Option.some.inj y3)
  refine ⟨a, S1, S2, x3, ?_, j1.scr y2⟩
  rw [q.1, ← y4]
  obtain ⟨k, rfl⟩ : ∃ k, n = k + 1 := ⟨n - 1, by omega⟩
  have e : f_X9_count (k + 1) S1 0 = f_X9_count (k + 1) (RD S1 T1) 0 := by
    unfold f_X9_count
    rw [if_pos rfl, if_pos rfl, j3 _ (by omega), fl_now w1 (by omega)]
  show b_X9_digest_6 _ _ S1 17 0 = b_X9_digest_6 _ _ (RD S1 T1) 17 0
  unfold b_X9_digest_6
  rw [if_neg (show ¬ (8 : Int32) ≤ 0 by decide), if_neg (show ¬ (8 : Int32) ≤ 0 by decide), e]
end DG
