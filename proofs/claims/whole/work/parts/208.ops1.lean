theorem numOk.congr {S S' : xS} (h : numOk S) (e : ∀ q ∈ [2, 3, 12, 19, 23, 33], S'.1 q = S.1 q) : numOk S' := by
  unfold numOk at h ⊢
  rw [e 2 (by decide), e 3 (by decide), e 12 (by decide), e 19 (by decide), e 23 (by decide), e 33 (by decide)]
  exact h
theorem derOk.congr {S S' : xS} {T : Nat} (h : derOk S T) (e : ∀ q ∈ [2, 3, 5, 6, 7, 8, 10, 11, 12, 13, 14], S'.1 q = S.1 q) (e2 : S'.1 4 2 = S.1 4 2) (e3 : S'.1 4 3 = S.1 4 3) : derOk S' T := by
  unfold derOk Sc Rk at h ⊢
  rw [e2, e3, e 5 (by decide), e 6 (by decide), e 7 (by decide), e 8 (by decide), e 2 (by decide), e 3 (by decide), e 10 (by decide), e 11 (by decide), e 12 (by decide), e 13 (by decide), e 14 (by decide)]
  exact h
theorem sheetOk.congr {S S' : xS} (h : sheetOk S) (e : ∀ q, 25 ≤ q → q < 33 → S'.1 q = S.1 q) (e48 : S'.1 48 = S.1 48) (e49 : S'.1 49 = S.1 49) (e50 : S'.1 50 = S.1 50) (e51 : S'.1 51 = S.1 51) : sheetOk S' := by
  unfold sheetOk at h ⊢
  intro s hs
  rw [e48, e49, e50, e51, e (25 + s) (by omega) (by omega), e (25 + s + 4) (by omega) (by omega)]
  exact h s hs
/-- a row of the class and its like in the reference, both changed at one place -/
theorem Inv.pair {S : xS} (h : Inv S) {qc qm k : Nat} {v : Int32} (hp : (qc = 16 ∧ qm = 42) ∨ (qc = 19 ∧ qm = 43) ∨ (qc = 23 ∧ qm = 44) ∨ (qc = 33 ∧ qm = 37)) (hn : numOk (xst (xst S qc k v) qm k v)) : Inv (xst (xst S qc k v) qm k v) := by
  obtain ⟨T, hb, -, hd, hs⟩ := h
  have e : ∀ q, q ≠ qc → q ≠ qm → (xst (xst S qc k v) qm k v).1 q = S.1 q := fun q a b => by rw [xst_ne b, xst_ne a]
  have hne : qc ≠ qm := by omega
  have em : (xst (xst S qc k v) qm k v).1 qm = upd (S.1 qm) k v := by rw [xst_at, xst_ne (Ne.symm hne)]
  have ec : (xst (xst S qc k v) qm k v).1 qc = upd (S.1 qc) k v := by rw [xst_ne hne, xst_at]
  refine ⟨T, ?_, hn, hd.congr (fun q hq => ?_) ?_ ?_, hs.congr (fun q a b => ?_) ?_ ?_ ?_ ?_⟩
  · obtain ⟨b1, b2, b3, b4, b5, b6, b7, b8, b9, b10, b11, b12⟩ := hb
    unfold baseOk
    have two : ∀ a b, S.1 a = S.1 b → ((a = qm ∧ b = qc) ∨ (a ≠ qm ∧ a ≠ qc ∧ b ≠ qm ∧ b ≠ qc)) → (xst (xst S qc k v) qm k v).1 a = (xst (xst S qc k v) qm k v).1 b := by
      intro a b hab hh
      rcases hh with ⟨rfl, rfl⟩ | ⟨h1, h2, h3, h4⟩
      · rw [em, ec, hab]
      · rw [e a h2 h1, e b h4 h3, hab]
    refine ⟨b1, ?_, ?_, two 38 5 b4 (by omega), two 35 2 b5 (by omega), two 36 3 b6 (by omega), two 37 33 b7 (by omega), two 41 12 b8 (by omega), two 42 16 b9 (by omega), two 43 19 b10 (by omega), two 44 23 b11 (by omega), ?_⟩
    · rw [e 4 (by omega) (by omega)]; exact b2
    · rw [e 34 (by omega) (by omega)]; exact b3
    · rw [e 34 (by omega) (by omega), e 0 (by omega) (by omega)]; exact b12
  · have : q < 15 := by revert hq; revert q; decide
    exact e q (by omega) (by omega)
  · rw [e 4 (by omega) (by omega)]
  · rw [e 4 (by omega) (by omega)]
  · exact e q (by omega) (by omega)
  · exact e 48 (by omega) (by omega)
  · exact e 49 (by omega) (by omega)
  · exact e 50 (by omega) (by omega)
  · exact e 51 (by omega) (by omega)
theorem upd_at (f : Nat → Int32) (k : Nat) (v : Int32) : upd f k v k = v := by simp [upd]
theorem upd_ne {f : Nat → Int32} {k j : Nat} {v : Int32} (h : j ≠ k) : upd f k v j = f j := by simp [upd, h]
theorem pair_row {S : xS} {qc qm k : Nat} {v : Int32} (hne : qc ≠ qm) : (xst (xst S qc k v) qm k v).1 qc = upd (S.1 qc) k v := by rw [xst_ne hne, xst_at]
theorem pair_oth {S : xS} {qc qm k q : Nat} {v : Int32} (h1 : q ≠ qc) (h2 : q ≠ qm) : (xst (xst S qc k v) qm k v).1 q = S.1 q := by rw [xst_ne h2, xst_ne h1]
theorem in_rg {v lo hi : Int32} (h : ¬ f_X9_in v lo hi = 0) : lo.toInt ≤ v.toInt ∧ v.toInt ≤ hi.toInt := by
  have h1 : lo ≤ v ∧ v ≤ hi := Classical.byContradiction fun q => h (in_iff.mpr q)
  exact ⟨leI.mp h1.1, leI.mp h1.2⟩
section OP1
variable {S : xS} {n : Nat}
theorem op_found (hI : Inv S) (a1 a2 : Int32) : ∃ r S1 S2, f_X8_found n S a1 a2 = some (r, S1) ∧ f_X9_found n S1 a1 a2 = some (r, S2) ∧ Inv S2 := by
  unfold f_X8_found f_X9_found
  rw [show f_X8_isSpot a1 = f_X9_in a1 0 9 from rfl, show f_X8_isHeight a2 = f_X9_isFound a2 from rfl]
  by_cases h1 : f_X9_in a1 0 9 = 0
  · rw [if_pos h1]
    exact ⟨_, S, S, rfl, by rw [if_pos h1], hI⟩
  · obtain ⟨j, -, hj, rfl⟩ := in_nat (lo := 0) (hi := 9) (by decide) h1 (by decide)
    rw [if_neg h1]
    by_cases h2 : f_X9_isFound a2 = 0
    · rw [if_pos h2]
      exact ⟨_, S, S, rfl, by rw [if_neg h1, if_pos h2], hI⟩
    · rw [if_neg h2, xgn (by omega) (by omega), xgn (by omega) (by omega), cln (by omega)]
      obtain ⟨T, hb, hn, hd, hs⟩ := id hI
      refine ⟨_, _, xst (xst S 16 j a2) 42 j a2, rfl, ?_, hI.pair (by omega) (hn.congr fun q hq => pair_oth ?_ ?_)⟩
      · rw [if_neg h1, if_neg h2, xgn (by omega) (by omega), xgn (by omega) (by omega), xst_q (by decide), hb.2.2.2.2.2.2.2.2.1]
      · rintro rfl; exact absurd hq (by decide)
      · rintro rfl; exact absurd hq (by decide)
theorem op_lean (hI : Inv S) (a1 a2 : Int32) : ∃ r S1 S2, f_X8_lean n S a1 a2 = some (r, S1) ∧ f_X9_lean n S1 a1 a2 = some (r, S2) ∧ Inv S2 := by
  unfold f_X8_lean f_X9_lean
  rw [wi_eq, wi_eq]
  by_cases h1 : f_X9_in a1 0 10 = 0
  · rw [if_pos h1]
    exact ⟨_, S, S, rfl, by rw [if_pos h1], hI⟩
  · obtain ⟨j, -, hj, rfl⟩ := in_nat (lo := 0) (hi := 10) (by decide) h1 (by decide)
    rw [if_neg h1]
    by_cases h2 : f_X9_in a2 (-99) 99 = 0
    · rw [if_pos h2]
      exact ⟨_, S, S, rfl, by rw [if_neg h1, if_pos h2], hI⟩
    · rw [if_neg h2, xgn (by omega) (by omega), xgn (by omega) (by omega), cln (by omega)]
      obtain ⟨T, hb, hn, hd, hs⟩ := id hI
      have hr := in_rg h2
      rw [show (-99 : Int32).toInt = -99 from rfl, show (99 : Int32).toInt = 99 from rfl] at hr
      refine ⟨_, _, xst (xst S 19 j a2) 43 j a2, rfl, ?_, hI.pair (by omega) ?_⟩
      · rw [if_neg h1, if_neg h2, xgn (by omega) (by omega), xgn (by omega) (by omega), xst_q (by decide), hb.2.2.2.2.2.2.2.2.2.1]
      · unfold numOk at hn ⊢
        rw [pair_oth (q := 2) (by decide) (by decide), pair_oth (q := 3) (by decide) (by decide), pair_oth (q := 12) (by decide) (by decide), pair_oth (q := 23) (by decide) (by decide), pair_oth (q := 33) (by decide) (by decide), pair_row (by decide)]
        refine ⟨hn.1, hn.2.1, fun k hk => ?_, hn.2.2.2⟩
        by_cases e : k = j
        · subst e; rw [upd_at]; exact hr
        · rw [upd_ne e]; exact hn.2.2.1 k hk
theorem op_weigh (hI : Inv S) (a1 a2 : Int32) : ∃ r S1 S2, f_X8_weigh n S a1 a2 = some (r, S1) ∧ f_X9_weigh n S1 a1 a2 = some (r, S2) ∧ Inv S2 := by
  unfold f_X8_weigh f_X9_weigh
  rw [show f_X8_isSpot a1 = f_X9_in a1 0 9 from rfl, wi_eq]
  by_cases h1 : f_X9_in a1 0 9 = 0
  · rw [if_pos h1]
    exact ⟨_, S, S, rfl, by rw [if_pos h1], hI⟩
  · obtain ⟨j, -, hj, rfl⟩ := in_nat (lo := 0) (hi := 9) (by decide) h1 (by decide)
    rw [if_neg h1]
    by_cases h2 : f_X9_in a2 0 99 = 0
    · rw [if_pos h2]
      exact ⟨_, S, S, rfl, by rw [if_neg h1, if_pos h2], hI⟩
    · rw [if_neg h2, xgn (by omega) (by omega), xgn (by omega) (by omega), cln (by omega)]
      obtain ⟨T, hb, hn, hd, hs⟩ := id hI
      have hr := in_rg h2
      rw [show (0 : Int32).toInt = 0 from rfl, show (99 : Int32).toInt = 99 from rfl] at hr
      refine ⟨_, _, xst (xst S 23 j a2) 44 j a2, rfl, ?_, hI.pair (by omega) ?_⟩
      · rw [if_neg h1, if_neg h2, xgn (by omega) (by omega), xgn (by omega) (by omega), xst_q (by decide), hb.2.2.2.2.2.2.2.2.2.2.1]
      · unfold numOk at hn ⊢
        rw [pair_oth (q := 2) (by decide) (by decide), pair_oth (q := 3) (by decide) (by decide), pair_oth (q := 12) (by decide) (by decide), pair_oth (q := 19) (by decide) (by decide), pair_oth (q := 33) (by decide) (by decide), pair_row (by decide)]
        refine ⟨hn.1, hn.2.1, hn.2.2.1, fun k hk => ?_, hn.2.2.2.2⟩
        by_cases e : k = j
        · subst e; rw [upd_at]; exact hr
        · rw [upd_ne e]; exact hn.2.2.2.1 k hk
theorem op_set (hI : Inv S) (a1 a2 : Int32) : ∃ r S1 S2, f_X8_set n S a1 a2 = some (r, S1) ∧ f_X9_set n S1 a1 a2 = some (r, S2) ∧ Inv S2 := by
  unfold f_X8_set f_X9_set
  rw [wi_eq]
  by_cases h1 : f_X9_in a1 0 3 = 0
  · rw [if_pos h1]
    exact ⟨_, S, S, rfl, by rw [if_pos h1], hI⟩
  · obtain ⟨j, -, hj, rfl⟩ := in_nat (lo := 0) (hi := 3) (by decide) h1 (by decide)
    rw [if_neg h1, xgn (by omega) (by omega), xgn (by omega) (by omega), cln (by omega), wi_eq]
    have em : ∀ S : xS, f_X9_set n S (nI j) a2 = if f_X9_in a2 (xLS j) (xMS j) = 0 then some (-2, S) else some (S.1 37 j, xst S 37 j a2) := by
      intro S
      unfold f_X9_set j_X9_set_20 j_X9_set_42
      rw [if_neg h1, xgn (by omega) (by omega), xgn (by omega) (by omega), cln (by omega)]
      rcases (show j = 0 ∨ j = 1 ∨ j = 2 ∨ j = 3 by omega) with rfl | rfl | rfl | rfl <;> rfl
    unfold f_X9_set at em
    by_cases h2 : f_X9_in a2 (xLS j) (xMS j) = 0
    · rw [if_pos h2]
      exact ⟨_, S, S, rfl, by rw [em, if_pos h2], hI⟩
    · rw [if_neg h2, xgn (by omega) (by omega), xgn (by omega) (by omega)]
      obtain ⟨T, hb, hn, hd, hs⟩ := id hI
      have hr := in_rg h2
      refine ⟨_, _, xst (xst S 33 j a2) 37 j a2, rfl, ?_, hI.pair (by omega) ?_⟩
      · rw [em, if_neg h2, xst_q (by decide), hb.2.2.2.2.2.2.1]
      · unfold numOk at hn ⊢
        rw [pair_oth (q := 2) (by decide) (by decide), pair_oth (q := 3) (by decide) (by decide), pair_oth (q := 12) (by decide) (by decide), pair_oth (q := 19) (by decide) (by decide), pair_oth (q := 23) (by decide) (by decide), pair_row (by decide)]
        obtain ⟨n1, n2, n3, n4, n5, n6, n7, n8⟩ := hn
        refine ⟨n1, n2, n3, n4, ?_⟩
        rcases (show j = 0 ∨ j = 1 ∨ j = 2 ∨ j = 3 by omega) with rfl | rfl | rfl | rfl
        · rw [upd_at, upd_ne (by decide), upd_ne (by decide), upd_ne (by decide)]
          exact ⟨hr, n6, n7, n8⟩
        · rw [upd_at, upd_ne (by decide), upd_ne (by decide), upd_ne (by decide)]
          exact ⟨n5, hr, n7, n8⟩
        · rw [upd_at, upd_ne (by decide), upd_ne (by decide), upd_ne (by decide)]
          exact ⟨n5, n6, hr, n8⟩
        · rw [upd_at, upd_ne (by decide), upd_ne (by decide), upd_ne (by decide)]
          exact ⟨n5, n6, n7, hr⟩
theorem op_fault (hI : Inv S) (hn : 20 ≤ n) : ∃ S2, f_X9_fault n S = some (f_X8_fault S, S2) ∧ Inv S2 := by
  obtain ⟨T, hb, hm, hd, hs⟩ := hI
  refine ⟨RD S T, ?_, Inv.ofRD hb hm hd hs⟩
  unfold f_X9_fault f_X8_fault
  rw [Inv.rd hb hn, ob, hd.1.1]
theorem op_cut (hI : Inv S) (a1 a2 a3 : Int32) : ∃ r, f_X8_cut n S a1 a2 a3 = some r ∧ f_X9_cut n S a1 a2 a3 = some r := by
  unfold f_X8_cut f_X9_cut
  rw [wi_eq, wi_eq, show f_X8_isMaster a2 = f_X9_in a2 0 2 from rfl]
  by_cases h1 : f_X9_in a1 0 99999 = 0
  · rw [if_pos h1, if_pos h1]; exact ⟨_, rfl, rfl⟩
  · rw [if_neg h1, if_neg h1]
    by_cases h2 : f_X9_in a2 0 2 = 0
    · rw [if_pos h2, if_pos h2]; exact ⟨_, rfl, rfl⟩
    · rw [if_neg h2, if_neg h2]
      by_cases h3 : f_X9_in a3 0 2 = 0
      · rw [if_pos h3, if_pos h3]; exact ⟨_, rfl, rfl⟩
      · rw [if_neg h3, if_neg h3]
        obtain ⟨i, -, hi, rfl⟩ := in_nat (lo := 0) (hi := 2) (by decide) h2 (by decide)
        obtain ⟨j, -, hj, rfl⟩ := in_nat (lo := 0) (hi := 2) (by decide) h3 (by decide)
        obtain ⟨T, hb, hn, hd, hs⟩ := hI
        rw [show (3 : Int32) * nI i + nI j = nI (3 * i + j) from by rw [n3, mln, adn]]
        have e1 := c_cut (n := n) (x := a1) (j := 3 * i + j) hn.1 (by omega)
        rw [show (3 * i + j) / 3 = i by omega, show (3 * i + j) % 3 = j by omega] at e1
        rw [e1, ob, m_cut (by rw [hb.2.2.2.2.1, hb.2.2.2.2.2.1]; exact hn.1) (by omega), ob, hb.2.2.2.2.1, hb.2.2.2.2.2.1]
        exact ⟨_, rfl, rfl⟩
end OP1
