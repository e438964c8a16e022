/-- the finding of both -/
theorem Inv.find {S : xS} (h : Inv S) (a : Int32) : Inv (xst (xst S 0 9 a) 34 20 a) := by
  obtain ⟨T, hb, hn, hd, hs⟩ := h
  have e : ∀ q, q ≠ 0 → q ≠ 34 → (xst (xst S 0 9 a) 34 20 a).1 q = S.1 q := fun q h1 h2 => (funext fun k => (xst_q h2).trans (xst_q h1))
  refine ⟨T, ?_, hn.congr (fun q hq => e q (by rintro rfl; exact absurd hq (by decide)) (by rintro rfl; exact absurd hq (by decide))), hd.congr (fun q hq => e q (by rintro rfl; exact absurd hq (by decide)) (by rintro rfl; exact absurd hq (by decide))) (by rw [e 4 (by decide) (by decide)]) (by rw [e 4 (by decide) (by decide)]), hs.congr (fun q a b => e q (by omega) (by omega)) (e 48 (by decide) (by decide)) (e 49 (by decide) (by decide)) (e 50 (by decide) (by decide)) (e 51 (by decide) (by decide))⟩
  obtain ⟨b1, b2, b3, b4, b5, b6, b7, b8, b9, b10, b11, b12⟩ := hb
  unfold baseOk
  rw [e 4 (by decide) (by decide), e 38 (by decide) (by decide), e 5 (by decide) (by decide), e 35 (by decide) (by decide), e 2 (by decide) (by decide), e 36 (by decide) (by decide), e 3 (by decide) (by decide), e 37 (by decide) (by decide), e 33 (by decide) (by decide), e 41 (by decide) (by decide), e 12 (by decide) (by decide), e 42 (by decide) (by decide), e 16 (by decide) (by decide), e 43 (by decide) (by decide), e 19 (by decide) (by decide), e 44 (by decide) (by decide), e 23 (by decide) (by decide)]
  refine ⟨b1, b2, ?_, b4, b5, b6, b7, b8, b9, b10, b11, ?_⟩
  · rw [xst_k (by decide), xst_q (by decide)]; exact b3
  · rw [xst_eq, xst_q (by decide), xst_eq]
def shOk (S : xS) (s : Nat) : Prop := (S.1 48 s = 0 ∧ S.1 (25 + s) 1 = -1) ∨ (S.1 48 s = 1 ∧ S.1 (25 + s) 1 = S.1 49 s ∧ (∃ m : Nat, m ≤ 2 ∧ S.1 49 s = nI m) ∧ S.1 (25 + s) 2 = S.1 50 s ∧ (∃ z : Nat, z ≤ 48 ∧ S.1 50 s = nI z) ∧ ∀ i, i < 48 → S.1 (25 + s + 4) i = S.1 51 (48 * s + i))
/-- all but the sheets the same -/
theorem Inv.sh {S S' : xS} (hI : Inv S) (e : ∀ q, ¬ (25 ≤ q ∧ q ≤ 32) → q < 47 → S'.1 q = S.1 q) (hs : ∀ s, s < 4 → shOk S' s) : Inv S' := by
  obtain ⟨T, hb, hn, hd, -⟩ := hI
  refine ⟨T, ?_, hn.congr (fun q hq => ?_), hd.congr (fun q hq => ?_) (by rw [e 4 (by decide) (by decide)]) (by rw [e 4 (by decide) (by decide)]), hs⟩
  · unfold baseOk at hb ⊢
    rw [e 4 (by decide) (by decide), e 38 (by decide) (by decide), e 5 (by decide) (by decide), e 35 (by decide) (by decide), e 2 (by decide) (by decide), e 36 (by decide) (by decide), e 3 (by decide) (by decide), e 37 (by decide) (by decide), e 33 (by decide) (by decide), e 41 (by decide) (by decide), e 12 (by decide) (by decide), e 42 (by decide) (by decide), e 16 (by decide) (by decide), e 43 (by decide) (by decide), e 19 (by decide) (by decide), e 44 (by decide) (by decide), e 23 (by decide) (by decide), e 34 (by decide) (by decide), e 0 (by decide) (by decide)]
    exact hb
  · have h1 : q < 25 ∨ q = 33 := by revert hq; revert q; decide
    exact e q (by omega) (by omega)
  · have h1 : q < 25 := by revert hq; revert q; decide
    exact e q (by omega) (by omega)
theorem Inv.shs {S : xS} (hI : Inv S) {s : Nat} (h : s < 4) : shOk S s := by
  obtain ⟨T, hb, hn, hd, hs⟩ := hI
  exact hs s h
/-- what one sheet is doesn't hang on the others -/
theorem shOk.oth {S S' : xS} {s t : Nat} (h : shOk S t) (hne : t ≠ s) (ht : t < 4) (hs : s < 4) (e : ∀ q, q ≠ 25 + s → q ≠ 29 + s → q < 48 → S'.1 q = S.1 q) (e48 : ∀ k, k ≠ s → S'.1 48 k = S.1 48 k) (e49 : ∀ k, k ≠ s → S'.1 49 k = S.1 49 k) (e50 : ∀ k, k ≠ s → S'.1 50 k = S.1 50 k) (e51 : ∀ k, (k < 48 * s ∨ 48 * s + 48 ≤ k) → S'.1 51 k = S.1 51 k) : shOk S' t := by
  unfold shOk at h ⊢
  rw [e48 t hne, e49 t hne, e50 t hne, e (25 + t) (by omega) (by omega) (by omega), e (25 + t + 4) (by omega) (by omega) (by omega)]
  rcases h with h | ⟨h1, h2, h3, h4, h5, h6⟩
  · exact Or.inl h
  · refine Or.inr ⟨h1, h2, h3, h4, h5, fun i hi => ?_⟩
    rw [h6 i hi, e51 _ (by omega)]
section SH
variable {S : xS} {n : Nat}
theorem isSht {a : Int32} (h : ¬ f_X9_in a 0 3 = 0) : ∃ s : Nat, s < 4 ∧ a = nI s := by
  obtain ⟨j, -, hj, e⟩ := in_nat (lo := 0) (hi := 3) (by decide) h (by decide)
  exact ⟨j, by omega, e⟩
theorem ixn {s k : Nat} : (48 : Int32) * nI s + nI k = nI (48 * s + k) := by rw [show (48 : Int32) = nI 48 from rfl, mln, adn]
theorem c_lost (S : xS) (s : Nat) (h : S.1 (25 + s) 1 = -1) : f_X6_isLost (25 + s) S = 1 := by unfold f_X6_isLost; rw [if_pos h]
theorem c_here {S : xS} {s m : Nat} (h : S.1 (25 + s) 1 = nI m) (hm : m ≤ 2) : f_X6_isLost (25 + s) S = 0 := by unfold f_X6_isLost; rw [if_neg (by rw [h]; exact nI_ne_m1 (by omega))]
theorem c_refL {s : Nat} (hs : s < 4) (h : S.1 (25 + s) 1 = -1) : f_X8_refuseSheet n S (nI s) = some (-10 - 1, xst S 0 9 1) := by
  unfold f_X8_refuseSheet
  rw [show f_X8_isSheet (nI s) = 1 from in_nI (lo := 0) (hi := 3) (by omega) (by omega) (by omega), if_neg (by decide), xgn (by omega) (by omega), cln (by omega), c_lost S s h, if_neg (by decide)]
  rfl
theorem c_refH {s m : Nat} (hs : s < 4) (h : S.1 (25 + s) 1 = nI m) (hm : m ≤ 2) : f_X8_refuseSheet n S (nI s) = some (0, S) := by
  unfold f_X8_refuseSheet
  rw [show f_X8_isSheet (nI s) = 1 from in_nI (lo := 0) (hi := 3) (by omega) (by omega) (by omega), if_neg (by decide), xgn (by omega) (by omega), cln (by omega), c_here h hm, if_pos rfl]
theorem c_refN {a : Int32} (h : f_X9_in a 0 3 = 0) : f_X8_refuseSheet n S a = some (-2, S) := by
  unfold f_X8_refuseSheet
  rw [show f_X8_isSheet a = f_X9_in a 0 3 from rfl, if_pos h]
theorem m_shL (s : Nat) (hs : s < 4) (a3 : Int32) : ∀ (m y : Nat) (S : xS), y + m = 48 → (∀ k, k < y → S.1 51 (48 * s + k) = 0) → ∀ j, m + 1 ≤ j → ∃ S', (∀ k, k < 48 → S'.1 51 (48 * s + k) = 0) ∧ (∀ k, (k < 48 * s ∨ 48 * s + 48 ≤ k) → S'.1 51 k = S.1 51 k) ∧ (∀ p, p ≠ 51 → S'.1 p = S.1 p) ∧ l_X9_sheet_59 n j S (nI s) a3 (nI y) = some (a3, S') := by
  intro m
  induction m with
  | zero =>
    intro y S hy i1 j hj
    obtain ⟨j, rfl⟩ : ∃ x, j = x + 1 := ⟨j - 1, by omega⟩
    refine ⟨S, fun k hk => i1 k (by omega), fun _ _ => rfl, fun _ _ => rfl, ?_⟩
    show b_X9_sheet_59 n _ S (nI s) a3 (nI y) = _
    unfold b_X9_sheet_59
    rw [show (48 : Int32) = nI 48 from rfl, ifle (by omega) (by omega), if_pos (by omega)]
  | succ m ih =>
    intro y S hy i1 j hj
    obtain ⟨j, rfl⟩ : ∃ x, j = x + 1 := ⟨j - 1, by omega⟩
    obtain ⟨S', s1, s2, s3, s4⟩ := ih (y + 1) (xst S 51 (48 * s + y) 0) (by omega) (fun k hk => by
      by_cases z : k = y
      · subst z; rw [xst_eq]
      · rw [xst_k (by omega)]; exact i1 k (by omega)) j (by omega)
    refine ⟨S', s1, fun k hk => (s2 k hk).trans (xst_k (by omega)), fun p hp => (s3 p hp).trans (funext fun k => xst_q hp), ?_⟩
    show b_X9_sheet_59 n (l_X9_sheet_59 n j) S (nI s) a3 (nI y) = _
    unfold b_X9_sheet_59
    rw [ixn, show (48 : Int32) = nI 48 from rfl, ifle (by omega) (by omega), if_neg (by omega), xgn (by omega) (by omega), cln (by omega), ad1]
    exact s4
theorem c_renew (s : Nat) (a b : Int32) (hn : 60 ≤ n) (S : xS) : ∃ S', f_X6_renew n (25 + s) S a b = some S' ∧ S'.1 (25 + s) 1 = a ∧ S'.1 (25 + s) 2 = b ∧ (∀ k, k < 48 → S'.1 (25 + s + 4) k = 0) ∧ (∀ q, q ≠ 25 + s → q ≠ 29 + s → S'.1 q = S.1 q) := by
  obtain ⟨S', s1, s2, s3, s4, s5⟩ := fill_c (n := n) (q := 25 + s + 4) (w := 48) (by omega) (by omega) 0 (xst (xst S (25 + s) 1 a) (25 + s) 2 b)
  refine ⟨S', ?_, ?_, ?_, s1, fun q h1 h2 => ?_⟩
  · unfold f_X6_renew
    rw [s5, ob]
  · rw [s2 (25 + s) (by omega), xst_k (by decide), xst_eq]
  · rw [s2 (25 + s) (by omega), xst_eq]
  · rw [s2 q (by omega)]
    funext k
    rw [xst_q h1, xst_q h1]
theorem op_sheet (hI : Inv S) (hn : 60 ≤ n) (a1 a2 a3 : Int32) : ∃ r S1 S2, f_X8_sheet n S a1 a2 a3 = some (r, S1) ∧ f_X9_sheet n S1 a1 a2 a3 = some (r, S2) ∧ Inv S2 := by
  unfold f_X8_sheet f_X9_sheet
  rw [show f_X8_isSheet a1 = f_X9_in a1 0 3 from rfl, show f_X9_isSheet a1 = f_X9_in a1 0 3 from rfl, show f_X8_isForm a2 = f_X9_in a2 0 2 from rfl]
  by_cases h1 : f_X9_in a1 0 3 = 0
  · rw [if_pos h1]
    exact ⟨_, S, S, rfl, by rw [if_pos h1], hI⟩
  · rw [if_neg h1]
    obtain ⟨s, hs, rfl⟩ := isSht h1
    by_cases h2 : f_X9_in a2 0 2 = 0
    · rw [if_pos h2]
      exact ⟨_, S, S, rfl, by rw [if_neg h1, if_pos h2], hI⟩
    · rw [if_neg h2]
      by_cases h3 : a3 ≤ 48
      · rw [if_pos h3]
        by_cases h4 : 0 ≤ a3
        · rw [if_pos h4, xgn (by omega) (by omega), cln (by omega)]
          obtain ⟨S1, x1, x2, x3, x4, x5⟩ := c_renew (n := n) s a2 a3 hn S
          obtain ⟨S2, y1, y2, y3, y4⟩ := m_shL (n := n) s hs a3 48 0 (xst (xst (xst S1 48 s 1) 49 s a2) 50 s a3) (by omega) (fun k hk => by omega) n (by omega)
          refine ⟨a3, S1, S2, by rw [x1, ob], ?_, ?_⟩
          · rw [if_neg h1, if_neg h2, if_pos h3, if_pos h4, xgn (by omega) (by omega), xgn (by omega) (by omega), xgn (by omega) (by omega)]
            exact y4
          · have E : ∀ q, q ≠ 25 + s → q ≠ 29 + s → q < 48 → S2.1 q = S.1 q := fun q k1 k2 k3 => by
              rw [y3 q (by omega), ← x5 q k1 k2]
              funext k
              rw [xst_q (by omega), xst_q (by omega), xst_q (by omega)]
            have E1 : ∀ q, q < 48 → S2.1 q = S1.1 q := fun q k3 => by
              rw [y3 q (by omega)]
              funext k
              rw [xst_q (by omega), xst_q (by omega), xst_q (by omega)]
            have v48 : S2.1 48 s = 1 := by rw [y3 48 (by decide), xst_q (by decide), xst_q (by decide), xst_eq]
            have v49 : S2.1 49 s = a2 := by rw [y3 49 (by decide), xst_q (by decide), xst_eq]
            have v50 : S2.1 50 s = a3 := by rw [y3 50 (by decide), xst_eq]
            obtain ⟨m, -, m1, m2⟩ := in_nat (lo := 0) (hi := 2) (by decide) h2 (by decide)
            obtain ⟨z, z1, z2, z3⟩ := nat_of (x := a3) (by have := leI.mp h4; exact this)
            have z4 : z ≤ 48 := by have := leI.mp h3; rw [z3] at this; have q : (48 : Int32).toInt = 48 := rfl; omega
            refine hI.sh (fun q k1 k2 => E q (by omega) (by omega) (by omega)) (fun t ht => ?_)
            by_cases et : t = s
            · subst et
              refine Or.inr ⟨v48, by rw [E1 _ (by omega), x2, v49], ⟨m, m1, by rw [v49]; exact m2⟩, by rw [E1 _ (by omega), x3, v50], ⟨z, z4, by rw [v50]; exact z2⟩, fun i hi => ?_⟩
              rw [E1 _ (by omega), x4 i hi, y1 i hi]
            · refine (hI.shs ht).oth et ht hs E (fun k hk => ?_) (fun k hk => ?_) (fun k hk => ?_) (fun k hk => ?_)
              · rw [y3 48 (by decide), xst_q (by decide), xst_q (by decide), xst_k hk, x5 48 (by omega) (by omega)]
              · rw [y3 49 (by decide), xst_q (by decide), xst_k hk, xst_q (by decide), x5 49 (by omega) (by omega)]
              · rw [y3 50 (by decide), xst_k hk, xst_q (by decide), xst_q (by decide), x5 50 (by omega) (by omega)]
              · rw [y2 k hk, xst_q (by decide), xst_q (by decide), xst_q (by decide), x5 51 (by omega) (by omega)]
        · rw [if_neg h4]
          exact ⟨_, _, _, rfl, by rw [if_neg h1, if_neg h2, if_pos h3, if_neg h4]; rfl, hI.find 5⟩
      · rw [if_neg h3]
        exact ⟨_, S, S, rfl, by rw [if_neg h1, if_neg h2, if_neg h3], hI⟩
theorem op_lose (hI : Inv S) (hn : 60 ≤ n) (a1 : Int32) : ∃ r S1 S2, f_X8_lose n S a1 = some (r, S1) ∧ f_X9_lose n S1 a1 = some (r, S2) ∧ Inv S2 := by
  unfold f_X8_lose f_X9_lose
  rw [show f_X9_isSheet a1 = f_X9_in a1 0 3 from rfl]
  by_cases h1 : f_X9_in a1 0 3 = 0
  · rw [c_refN h1, ob]
    exact ⟨-2, S, S, rfl, by rw [if_pos h1], hI⟩
  · obtain ⟨s, hs, rfl⟩ := isSht h1
    rcases hI.shs hs with ⟨k1, k2⟩ | ⟨k1, k2, ⟨m, k3, k4⟩, k5, ⟨z, k6, k7⟩, k8⟩
    · rw [c_refL hs k2, ob]
      refine ⟨-10 - 1, xst S 0 9 1, xst (xst S 0 9 1) 34 20 1, ?_, ?_, hI.find 1⟩
      · show (if ((-10 : Int32) - 1 = 0) then _ else _) = _
        rw [if_neg (by decide)]
      · rw [if_neg h1, xgn (by omega) (by omega), cln (by omega), xst_q (by decide), k1, if_pos rfl]
        rfl
    · rw [c_refH hs (k2.trans k4) k3, ob]
      obtain ⟨S1, x1, x2, x3, x4, x5⟩ := c_renew (n := n) s (-1) 0 hn S
      have v48 : S1.1 48 s = 1 := by rw [x5 48 (by omega) (by omega)]; exact k1
      refine ⟨S.1 50 s, S1, xst S1 48 s 0, ?_, ?_, ?_⟩
      · show (if (0 : Int32) = 0 then xg (xin (nI s) 4) (xg (xin (nI s) 4) ((f_X6_renew n (25 + (nI s).toNatClampNeg) S (-1) 0).bind fun r6 => some (S.1 (25 + (nI s).toNatClampNeg) 2, r6))) else _) = _
        rw [if_pos rfl, xgn (by omega) (by omega), xgn (by omega) (by omega), cln (by omega), x1, ob, k5]
      · rw [if_neg h1, xgn (by omega) (by omega), xgn (by omega) (by omega), xgn (by omega) (by omega), cln (by omega), v48, if_neg (by decide), xst_q (by decide), x5 50 (by omega) (by omega)]
      · refine hI.sh (fun q k1 k2 => (funext fun k => xst_q (by omega)).trans (x5 q (by omega) (by omega))) (fun t ht => ?_)
        by_cases et : t = s
        · subst et
          exact Or.inl ⟨xst_eq _ _ _ _, by rw [xst_q (by omega)]; exact x2⟩
        · refine (hI.shs ht).oth et ht hs (fun q e1 e2 e3 => (funext fun k => xst_q (by omega)).trans (x5 q e1 e2)) (fun k hk => ?_) (fun k hk => ?_) (fun k hk => ?_) (fun k hk => ?_)
          · rw [xst_k hk, x5 48 (by omega) (by omega)]
          · rw [xst_q (by decide), x5 49 (by omega) (by omega)]
          · rw [xst_q (by decide), x5 50 (by omega) (by omega)]
          · rw [xst_q (by decide), x5 51 (by omega) (by omega)]
end SH
