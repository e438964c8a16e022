section RD2
variable {S : xS} {v : Nat → Nat → Int32} {F n : Nat} {ft : Int32}
/-! worst -/
theorem worst_L {S0 : xS} (g : Gd v F ft) (c : Cl S0 v) (w : Vw S v F ft) (hn : 20 ≤ n) : ∀ (m k b : Nat), k + m = F + 1 → b ≤ F → ∀ i j, m + 1 ≤ i → m + 1 ≤ j → ∃ r, l_X8_worst_4 n S0 i (nI b) (nI k) = some r ∧ l_X9_worstNow_4 n j S (nI b) (nI k) = some (r, S) := by
  intro m
  have hF := g.1
  induction m with
  | zero =>
    intro k b hk hb i j hi hj
    obtain ⟨i, rfl⟩ : ∃ x, i = x + 1 := ⟨i - 1, by omega⟩
    obtain ⟨j, rfl⟩ : ∃ x, j = x + 1 := ⟨j - 1, by omega⟩
    refine ⟨nI b, ?_, ?_⟩
    · show b_X8_worst_4 n (l_X8_worst_4 n S0 i) S0 (nI b) (nI k) = _
      unfold b_X8_worst_4
      rw [c 4 (by decide), g.2.1, iflt (by omega) (by omega), if_pos (by omega)]
    · show b_X9_worstNow_4 n (l_X9_worstNow_4 n j) S (nI b) (nI k) = _
      unfold b_X9_worstNow_4
      rw [fl_now w hn, ob]
      show (if nI F < nI k then _ else _) = _
      rw [iflt (by omega) (by omega), if_pos (by omega)]
  | succ m ih =>
    intro k b hk hb i j hi hj
    obtain ⟨i, rfl⟩ : ∃ x, i = x + 1 := ⟨i - 1, by omega⟩
    obtain ⟨j, rfl⟩ : ∃ x, j = x + 1 := ⟨j - 1, by omega⟩
    have ec : l_X8_worst_4 n S0 (i + 1) (nI b) (nI k) = if xabs (v 13 k - v 14 k) ≤ xabs (v 13 b - v 14 b) then l_X8_worst_4 n S0 i (nI b) (nI (k + 1)) else l_X8_worst_4 n S0 i (nI k) (nI (k + 1)) := by
      show b_X8_worst_4 n (l_X8_worst_4 n S0 i) S0 (nI b) (nI k) = _
      unfold b_X8_worst_4
      rw [c 4 (by decide), g.2.1, iflt (by omega) (by omega), if_neg (by omega), c_off (by omega), ob, c_off (by omega), ob, c 13 (by decide), c 14 (by decide), ad1]
    have em : l_X9_worstNow_4 n (j + 1) S (nI b) (nI k) = if xabs (v 13 k - v 14 k) ≤ xabs (v 13 b - v 14 b) then l_X9_worstNow_4 n j S (nI b) (nI (k + 1)) else l_X9_worstNow_4 n j S (nI k) (nI (k + 1)) := by
      show b_X9_worstNow_4 n (l_X9_worstNow_4 n j) S (nI b) (nI k) = _
      unfold b_X9_worstNow_4
      rw [fl_now w hn, ob]
      show (if nI F < nI k then _ else ((f_X9_sillOf n S (nI k) 2).bind _)) = _
      rw [iflt (by omega) (by omega), if_neg (by omega), m_off w (by omega) hn, ob]
      show ((f_X9_sillOf n S (nI b) 2).bind _) = _
      rw [m_off w hb hn, ob, amount_abs, amount_abs, ad1]
    rw [ec, em]
    by_cases h : xabs (v 13 k - v 14 k) ≤ xabs (v 13 b - v 14 b)
    · rw [if_pos h, if_pos h]
      exact ih (k + 1) b (by omega) hb i j (by omega) (by omega)
    · rw [if_neg h, if_neg h]
      exact ih (k + 1) k (by omega) (by omega) i j (by omega) (by omega)
theorem worst_b {S0 : xS} (g : Gd v F ft) (c : Cl S0 v) (w : Vw S v F ft) (hn : 20 ≤ n) : ∃ r, f_X8_worst n S0 = some r ∧ f_X9_worstNow n S = some (r, S) :=
  worst_L g c w hn F 1 0 (by omega) (by omega) n n (by have := g.1; omega) (by have := g.1; omega)
theorem op_worst {S : xS} (hI : Inv S) (hn : 20 ≤ n) : ∃ r S2, f_X8_worst n S = some r ∧ f_X9_worst n S = some (r, S2) ∧ Inv S2 := by
  obtain ⟨T, F, ft, g, w, h1, h2, h3⟩ := hI.ask
  obtain ⟨r, r1, r2⟩ := worst_b (n := n) g (Cl.rf S) w hn
  refine ⟨r, RD S T, r1, ?_, h1⟩
  have e : f_X9_worstNow n S = f_X9_worstNow n (RD S T) := by
    obtain ⟨k, rfl⟩ : ∃ k, n = k + 1 := ⟨n - 1, by omega⟩
    show b_X9_worstNow_4 _ _ S 0 1 = b_X9_worstNow_4 _ _ (RD S T) 0 1
    unfold b_X9_worstNow_4
    rw [h3 _ hn, fl_now w hn]
  unfold f_X9_worst
  rw [e, r2, ob]
/-! count -/
theorem many_L {S0 : xS} (h42 : S.1 42 = S0.1 16) : ∀ (m k : Nat) (x : Int32), k + m = 10 → ∀ i j, m + 1 ≤ i → m + 1 ≤ j → ∃ r, l_X0_howMany_4 n S0 i x (nI k) = some r ∧ l_X9_sumOf_34 n j S 3 x (nI k) = some (r, S) := by
  intro m
  induction m with
  | zero =>
    intro k x hk i j hi hj
    obtain ⟨i, rfl⟩ : ∃ x, i = x + 1 := ⟨i - 1, by omega⟩
    obtain ⟨j, rfl⟩ : ∃ x, j = x + 1 := ⟨j - 1, by omega⟩
    have : k = 10 := by omega
    subst this
    refine ⟨x, ?_, ?_⟩
    · show b_X0_howMany_4 n _ S0 x (nI 10) = _
      unfold b_X0_howMany_4
      rw [if_pos (by decide)]
    · show b_X9_sumOf_34 n _ S 3 x (nI 10) = _
      unfold b_X9_sumOf_34
      rw [if_pos (by decide)]
  | succ m ih =>
    intro k x hk i j hi hj
    obtain ⟨i, rfl⟩ : ∃ x, i = x + 1 := ⟨i - 1, by omega⟩
    obtain ⟨j, rfl⟩ : ∃ x, j = x + 1 := ⟨j - 1, by omega⟩
    have ec : l_X0_howMany_4 n S0 (i + 1) x (nI k) = if S0.1 16 k = -1 then l_X0_howMany_4 n S0 i x (nI (k + 1)) else l_X0_howMany_4 n S0 i (x + 1) (nI (k + 1)) := by
      show b_X0_howMany_4 n (l_X0_howMany_4 n S0 i) S0 x (nI k) = _
      unfold b_X0_howMany_4
      rw [n10, ifle (by omega) (by omega), if_neg (by omega), xgn (by omega) (by omega), cln (by omega), ad1]
    have em : l_X9_sumOf_34 n (j + 1) S 3 x (nI k) = if S0.1 16 k = -1 then l_X9_sumOf_34 n j S 3 x (nI (k + 1)) else l_X9_sumOf_34 n j S 3 (x + 1) (nI (k + 1)) := by
      show b_X9_sumOf_34 n (l_X9_sumOf_34 n j) S 3 x (nI k) = _
      unfold b_X9_sumOf_34
      rw [n10, ifle (by omega) (by omega), if_neg (by omega), if_pos rfl, xgn (by omega) (by omega), cln (by omega), ad1, h42, Int32.add_zero]
    rw [ec, em]
    by_cases h : S0.1 16 k = -1
    · rw [if_pos h, if_pos h]
      exact ih (k + 1) x (by omega) i j (by omega) (by omega)
    · rw [if_neg h, if_neg h]
      exact ih (k + 1) (x + 1) (by omega) i j (by omega) (by omega)
theorem sum2_L (w : Vw S v F ft) (hn : 20 ≤ n) : ∀ (m k : Nat), k + m = F → ∀ j, m + 1 ≤ j → l_X9_sumOf_4 n j S 2 (v 14 k) (nI k) = some (v 14 F, S) := by
  intro m
  have hF := w.1.1
  induction m with
  | zero =>
    intro k hk j hj
    obtain ⟨j, rfl⟩ : ∃ x, j = x + 1 := ⟨j - 1, by omega⟩
    have : k = F := by omega
    subst this
    show b_X9_sumOf_4 n _ S 2 (v 14 k) (nI k) = _
    unfold b_X9_sumOf_4
    rw [fl_now w hn, ob]
    show (if nI k ≤ nI k then l_X9_sumOf_34 n n S 2 (v 14 k) 0 else _) = _
    rw [ifle (by omega) (by omega), if_pos (by omega)]
    obtain ⟨i, rfl⟩ : ∃ x, n = x + 1 := ⟨n - 1, by omega⟩
    show b_X9_sumOf_34 _ _ S 2 (v 14 k) 0 = _
    unfold b_X9_sumOf_34
    rw [if_neg (by decide), if_neg (by decide)]
  | succ m ih =>
    intro k hk j hj
    obtain ⟨j, rfl⟩ : ∃ x, j = x + 1 := ⟨j - 1, by omega⟩
    show b_X9_sumOf_4 n (l_X9_sumOf_4 n j) S 2 (v 14 k) (nI k) = _
    unfold b_X9_sumOf_4
    rw [fl_now w hn, ob]
    show (if nI F ≤ nI k then _ else (if (2 : Int32) = 2 then xg (xin (nI k) 11) (l_X9_sumOf_4 n j S 2 (v 14 k + S.1 39 (nI k).toNatClampNeg) (nI k + 1)) else _)) = _
    rw [ifle (by omega) (by omega), if_neg (by omega), if_pos rfl, xgn (by omega) (by omega), cln (by omega), (w.2.2.1.2.2.2.2.2.2.2.2.2 k (by omega)).1, ad1]
    obtain ⟨M, C, j', hM, hC, hj', eM, eC, ej, ec, e13, e14⟩ := w.1.2.2.2.2.1 k (by omega)
    rw [← e14]
    exact ih (k + 1) (by omega) j (by omega)
theorem cnt_b {S0 : xS} (g : Gd v F ft) (c : Cl S0 v) (w : Vw S v F ft) (hn : 20 ≤ n) (h89 : S.1 34 20 = S0.1 0 9) (a : Int32) : ∃ r, f_X8_count n S0 a = some r ∧ f_X9_count n S a = some (r, S) := by
  have hF := g.1
  obtain ⟨m1, m2, m3, m4, m5, m6, m7, m8, m9, m10⟩ := w.2.2.1
  unfold f_X8_count f_X9_count
  by_cases c0 : a = 0
  · rw [if_pos c0, if_pos c0, fl_now w hn, ob, c 4 (by decide), g.2.1]
    exact ⟨_, rfl, rfl⟩
  · rw [if_neg c0, if_neg c0]
    by_cases c1 : a = 1
    · rw [if_pos c1, if_pos c1, m8, c 4 (by decide)]
      exact ⟨_, rfl, rfl⟩
    · rw [if_neg c1, if_neg c1]
      by_cases c2 : a = 2
      · rw [if_pos c2, if_pos c2, c 4 (by decide), g.2.1, xgn (by omega) (by omega), cln (by omega), c 14 (by decide)]
        have := sum2_L (n := n) w hn F 0 (by omega) n (by omega)
        rw [g.2.2.2.2.2.2.1] at this
        unfold f_X9_sumOf
        rw [c2, show l_X9_sumOf_4 n n S 2 0 0 = some (v 14 F, S) from this, ob]
        exact ⟨_, rfl, rfl⟩
      · rw [if_neg c2, if_neg c2]
        by_cases c3 : a = 3
        · rw [if_pos c3, if_pos c3]
          obtain ⟨r, r1, r2⟩ := many_L (n := n) (S := S) (S0 := S0) (by rw [m5, c 16 (by decide)]) 10 0 0 rfl n n (by omega) (by omega)
          have e : f_X9_sumOf n S 3 = l_X9_sumOf_34 n n S 3 0 0 := by
            unfold f_X9_sumOf
            obtain ⟨i, rfl⟩ : ∃ x, n = x + 1 := ⟨n - 1, by omega⟩
            show b_X9_sumOf_4 (i + 1) _ S 3 0 0 = _
            unfold b_X9_sumOf_4
            rw [fl_now w hn, ob]
            show (if nI F ≤ 0 then l_X9_sumOf_34 (i + 1) (i + 1) S 3 0 0 else (if (3 : Int32) = 2 then _ else l_X9_sumOf_34 (i + 1) (i + 1) S 3 0 0)) = _
            by_cases q : nI F ≤ 0
            · rw [if_pos q]
            · rw [if_neg q, if_neg (by decide)]
          unfold f_X0_howMany
          rw [c3, e, show l_X0_howMany_4 n S0 n 0 0 = some r from r1, show l_X9_sumOf_34 n n S 3 0 0 = some (r, S) from r2, ob, ob]
          exact ⟨_, rfl, rfl⟩
        · rw [if_neg c3, if_neg c3]
          by_cases c4 : a = 4
          · rw [if_pos c4, if_pos c4, c4, show ((4 : Int32) - 4) = nI 0 from rfl, xgn (by omega) (by omega), m3, c 33 (by decide)]
            exact ⟨_, rfl, rfl⟩
          · rw [if_neg c4, if_neg c4]
            by_cases c5 : a = 5
            · rw [if_pos c5, if_pos c5, c5, show ((5 : Int32) - 4) = nI 1 from rfl, xgn (by omega) (by omega), m3, c 33 (by decide)]
              exact ⟨_, rfl, rfl⟩
            · rw [if_neg c5, if_neg c5]
              by_cases c6 : a = 6
              · rw [if_pos c6, if_pos c6, c6, show ((6 : Int32) - 4) = nI 2 from rfl, xgn (by omega) (by omega), m3, c 33 (by decide)]
                exact ⟨_, rfl, rfl⟩
              · rw [if_neg c6, if_neg c6]
                by_cases c7 : a = 7
                · rw [if_pos c7, if_pos c7, c7, show ((7 : Int32) - 4) = nI 3 from rfl, xgn (by omega) (by omega), m3, c 33 (by decide)]
                  exact ⟨_, rfl, rfl⟩
                · rw [if_neg c7, if_neg c7]
                  by_cases c8 : a = 8
                  · rw [if_pos c8, if_pos c8, h89]
                    exact ⟨_, rfl, rfl⟩
                  · rw [if_neg c8, if_neg c8]
                    exact ⟨_, rfl, rfl⟩
theorem op_count {S : xS} (hI : Inv S) (hn : 20 ≤ n) (a : Int32) : ∃ r S2, f_X8_count n S a = some r ∧ f_X9_count n S a = some (r, S2) ∧ Inv S2 := by
  obtain ⟨T, F, ft, g, w, h1, h2, h3⟩ := id hI.ask
  have h89 : (RD S T).1 34 20 = S.1 0 9 := by
    obtain ⟨T', hb, -⟩ := hI
    rw [RD_34 (by decide)]; exact hb.2.2.2.2.2.2.2.2.2.2.2
  obtain ⟨r, r1, r2⟩ := cnt_b (n := n) g (Cl.rf S) w hn h89 a
  by_cases hr : f_X9_count n S a = f_X9_count n (RD S T) a
  · exact ⟨r, RD S T, r1, hr.trans r2, h1⟩
  · -- the calls that read nothing leave the state as it is
    refine ⟨r, S, r1, ?_, hI⟩
    have e0 : a = 0 → f_X9_count n S a = f_X9_count n (RD S T) a := by
      intro h
      unfold f_X9_count
      rw [if_pos h, if_pos h, h3 n hn, fl_now w hn]
    have e23 : f_X9_sumOf n S a = f_X9_sumOf n (RD S T) a := by
      obtain ⟨k, rfl⟩ : ∃ k, n = k + 1 := ⟨n - 1, by omega⟩
      show b_X9_sumOf_4 _ _ S a 0 0 = b_X9_sumOf_4 _ _ (RD S T) a 0 0
      unfold b_X9_sumOf_4
      rw [h3 _ hn, fl_now w hn]
    have q34 : (RD S T).1 34 3 = S.1 34 3 := RD_34 (by decide)
    have q20 : (RD S T).1 34 20 = S.1 34 20 := RD_34 (by decide)
    have q37 : (RD S T).1 37 = S.1 37 := RD_q (by decide) (by decide) (by decide)
    unfold f_X9_count at hr r2 e0 ⊢
    rw [e23] at hr e0 ⊢
    rw [q34, q20, q37] at hr r2 e0
    by_cases c0 : a = 0
    · exact absurd (e0 c0) hr
    · rw [if_neg c0] at hr r2 ⊢
      rw [if_neg c0] at hr
      by_cases c1 : a = 1
      · rw [if_pos c1] at r2 ⊢
        cases r2; rfl
      · rw [if_neg c1] at hr r2 ⊢
        rw [if_neg c1] at hr
        by_cases c2 : a = 2
        · rw [if_pos c2, if_pos c2] at hr
          exact absurd rfl hr
        · rw [if_neg c2] at hr r2 ⊢
          rw [if_neg c2] at hr
          by_cases c3 : a = 3
          · rw [if_pos c3, if_pos c3] at hr
            exact absurd rfl hr
          · rw [if_neg c3] at r2 ⊢
            by_cases c4 : a = 4
            · rw [if_pos c4] at r2 ⊢
              obtain ⟨g1, g2⟩ := xg_some r2
              rw [xgT g1]; cases g2; rfl
            · rw [if_neg c4] at r2 ⊢
              by_cases c5 : a = 5
              · rw [if_pos c5] at r2 ⊢
                obtain ⟨g1, g2⟩ := xg_some r2
                rw [xgT g1]; cases g2; rfl
              · rw [if_neg c5] at r2 ⊢
                by_cases c6 : a = 6
                · rw [if_pos c6] at r2 ⊢
                  obtain ⟨g1, g2⟩ := xg_some r2
                  rw [xgT g1]; cases g2; rfl
                · rw [if_neg c6] at r2 ⊢
                  by_cases c7 : a = 7
                  · rw [if_pos c7] at r2 ⊢
                    obtain ⟨g1, g2⟩ := xg_some r2
                    rw [xgT g1]; cases g2; rfl
                  · rw [if_neg c7] at r2 ⊢
                    by_cases c8 : a = 8
                    · rw [if_pos c8] at r2 ⊢
                      cases r2; rfl
                    · rw [if_neg c8] at r2 ⊢
                      cases r2; rfl
end RD2
