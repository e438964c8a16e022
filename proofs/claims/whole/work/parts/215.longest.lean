section LO
variable {S S0 : xS} {v : Nat → Nat → Int32} {F n : Nat} {ft : Int32}
/-- how far a lift runs from f on -/
theorem c_len (g : Gd v F ft) (c : Cl S0 v) (hn : 20 ≤ n) {f : Nat} (hf : f ≤ F) (fr : Int32) : ∀ (k m : Nat), f + m + k = F + 1 → (∀ i, i < m → ¬ fr < spr v f i) → ∀ j, k + 1 ≤ j → ∃ L : Nat, m ≤ L ∧ f + L ≤ F + 1 ∧ l_X5_lengthFrom_3 n S0 j (nI f) (nI F) fr (nI (f + m)) = some (nI L) ∧ (∀ i, i < L → ¬ fr < spr v f i) ∧ (f + L ≤ F → fr < spr v f L) := by
  intro k
  have hF := g.1
  induction k with
  | zero =>
    intro m hm hp j hj
    obtain ⟨j, rfl⟩ : ∃ x, j = x + 1 := ⟨j - 1, by omega⟩
    refine ⟨m, Nat.le_refl m, by omega, ?_, hp, fun h => by omega⟩
    show b_X5_lengthFrom_3 n _ S0 (nI f) (nI F) fr (nI (f + m)) = _
    unfold b_X5_lengthFrom_3
    rw [iflt (by omega) (by omega), if_pos (by omega), sbn (by omega), show f + m - f = m by omega]
  | succ k ih =>
    intro m hm hp j hj
    obtain ⟨j, rfl⟩ : ∃ x, j = x + 1 := ⟨j - 1, by omega⟩
    have e : l_X5_lengthFrom_3 n S0 (j + 1) (nI f) (nI F) fr (nI (f + m)) = if fr < spr v f m then some (nI m) else l_X5_lengthFrom_3 n S0 j (nI f) (nI F) fr (nI (f + m + 1)) := by
      show b_X5_lengthFrom_3 n (l_X5_lengthFrom_3 n S0 j) S0 (nI f) (nI F) fr (nI (f + m)) = _
      unfold b_X5_lengthFrom_3
      rw [iflt (by omega) (by omega), if_neg (by omega), c_spr g c (by omega) (by omega) hn, ob, show f + m - f = m by omega, sbn (by omega), show f + m - f = m by omega, ad1]
    rw [e]
    by_cases q : fr < spr v f m
    · rw [if_pos q]
      exact ⟨m, Nat.le_refl m, by omega, rfl, hp, fun _ => q⟩
    · rw [if_neg q]
      obtain ⟨L, l1, l2, l3, l4, l5⟩ := ih (m + 1) (by omega) (fun i hi => by
        by_cases h : i = m
        · subst h; exact q
        · exact hp i (by omega)) j (by omega)
      exact ⟨L, by omega, l2, l3, l4, l5⟩
/-- the reference's inner loop -/
theorem m_inL (w : Vw S v F ft) (hn : 20 ≤ n) (a1 a2 : Int32) {f L : Nat} (hf : f ≤ F) (hL : f + L ≤ F + 1) (h1 : ∀ i, i < L → ¬ v 33 1 - a1 < spr v f i) (h2 : ∀ i, L ≤ i → f + i ≤ F → v 33 1 - a1 < spr v f i) (k14 : xS → Int32 → Int32 → Int32 → Int32 → Int32 → Int32 → Option (Int32 × xS)) : ∀ (k m M : Nat) (b : Int32), f + m + k = F + 1 → min m L ≤ M → M ≤ 11 → ∀ j, k + 1 ≤ j → l_X9_longestOf_24 n k14 j S a1 a2 (nI F) b (nI M) (nI f) (nI (f + m)) = if M < L then k14 S a1 a2 (nI F) (nI f) (nI L) (nI (f + 1)) else k14 S a1 a2 (nI F) b (nI M) (nI (f + 1)) := by
  intro k
  have hF := w.1.1
  have e37 : S.1 37 (1 : Int32).toNatClampNeg = v 33 1 := by rw [w.2.2.1.2.2.1]; rfl
  induction k with
  | zero =>
    intro m M b hm hmM hM j hj
    obtain ⟨j, rfl⟩ : ∃ x, j = x + 1 := ⟨j - 1, by omega⟩
    show b_X9_longestOf_24 n k14 _ S a1 a2 (nI F) b (nI M) (nI f) (nI (f + m)) = _
    unfold b_X9_longestOf_24
    rw [iflt (by omega) (by omega), if_pos (by omega), if_neg (by omega), ad1]
  | succ k ih =>
    intro m M b hm hmM hM j hj
    obtain ⟨j, rfl⟩ : ∃ x, j = x + 1 := ⟨j - 1, by omega⟩
    have e : l_X9_longestOf_24 n k14 (j + 1) S a1 a2 (nI F) b (nI M) (nI f) (nI (f + m)) = if v 33 1 - a1 < spr v f m then l_X9_longestOf_24 n k14 j S a1 a2 (nI F) b (nI M) (nI f) (nI (f + m + 1)) else if m + 1 ≤ M then l_X9_longestOf_24 n k14 j S a1 a2 (nI F) b (nI M) (nI f) (nI (f + m + 1)) else l_X9_longestOf_24 n k14 j S a1 a2 (nI F) (nI f) (nI (m + 1)) (nI f) (nI (f + m + 1)) := by
      show b_X9_longestOf_24 n k14 (l_X9_longestOf_24 n k14 j) S a1 a2 (nI F) b (nI M) (nI f) (nI (f + m)) = _
      have j65 : ∀ k24, j_X9_longestOf_65 n k14 k24 S a1 a2 (nI F) b (nI M) (nI f) (nI (f + m)) = k24 S a1 a2 (nI F) b (nI M) (nI f) (nI (f + m) + 1) := fun k24 => by
        unfold j_X9_longestOf_65 j_X9_longestOf_66 j_X9_longestOf_80
        rw [if_pos rfl, if_pos rfl]
      have j66 : ∀ k24, j_X9_longestOf_66 n k14 k24 S a1 a2 (nI F) b (nI M) (nI f) (nI (f + m)) 1 = k24 S a1 a2 (nI F) (nI f) (nI (f + m) - nI f + 1) (nI f) (nI (f + m) + 1) := fun k24 => by
        unfold j_X9_longestOf_66 j_X9_longestOf_80
        rw [if_neg (show ¬ (1 : Int32) = 0 by decide), if_neg (show ¬ (1 : Int32) = 0 by decide)]
      unfold b_X9_longestOf_24
      rw [iflt (by omega) (by omega), if_neg (by omega), m_spr w (by omega) (by omega) hn, ob, e37, j65, j66, show f + m - f = m by omega, sbn (by omega), show f + m - f = m by omega, show nI m + 1 = nI (m + 1) from ad1 m, ifle (by omega) (by omega), ad1]
    rw [e]
    by_cases q : v 33 1 - a1 < spr v f m
    · have hLm : L ≤ m := by
        refine Nat.le_of_not_lt fun z => h1 m z q
      rw [if_pos q, show f + m + 1 = f + (m + 1) by omega, ih (m + 1) M b (by omega) (by omega) hM j (by omega)]
    · have hmL : m < L := by
        refine Nat.lt_of_not_le fun z => q (h2 m z (by omega))
      rw [if_neg q]
      by_cases q2 : m + 1 ≤ M
      · rw [if_pos q2, show f + m + 1 = f + (m + 1) by omega, ih (m + 1) M b (by omega) (by omega) hM j (by omega)]
      · rw [if_neg q2, show f + m + 1 = f + (m + 1) by omega, ih (m + 1) (m + 1) (nI f) (by omega) (by omega) (by omega) j (by omega), if_pos (show M < L by omega)]
        by_cases q3 : m + 1 < L
        · rw [if_pos q3]
        · rw [if_neg q3, show m + 1 = L by omega]
theorem long_L (g : Gd v F ft) (c : Cl S0 v) (w : Vw S v F ft) (hn : 20 ≤ n) (a1 a2 : Int32) : ∀ (k f M : Nat) (b : Int32), f + k = F + 1 → M ≤ 11 → ∀ i j, k + 1 ≤ i → k + 1 ≤ j → ∃ r, l_X8_longest_31 n S0 i a1 a2 (nI M) b (nI f) = some r ∧ l_X9_longestOf_14 n j S a1 a2 (nI F) b (nI M) (nI f) = some (r, S) := by
  intro k
  have hF := g.1
  have e33 : S0.1 33 (1 : Int32).toNatClampNeg = v 33 1 := by rw [c 33 (by decide)]; rfl
  induction k with
  | zero =>
    intro f M b hf hM i j hi hj
    obtain ⟨i, rfl⟩ : ∃ x, i = x + 1 := ⟨i - 1, by omega⟩
    obtain ⟨j, rfl⟩ : ∃ x, j = x + 1 := ⟨j - 1, by omega⟩
    have e1 : l_X8_longest_31 n S0 (i + 1) a1 a2 (nI M) b (nI f) = if a2 = 0 then some (nI M) else some b := by
      show b_X8_longest_31 n _ S0 a1 a2 (nI M) b (nI f) = _
      unfold b_X8_longest_31
      rw [c 4 (by decide), g.2.1, iflt (by omega) (by omega), if_pos (by omega)]
    have e2 : l_X9_longestOf_14 n (j + 1) S a1 a2 (nI F) b (nI M) (nI f) = if a2 = 0 then some (nI M, S) else some (b, S) := by
      show b_X9_longestOf_14 n _ S a1 a2 (nI F) b (nI M) (nI f) = _
      unfold b_X9_longestOf_14
      rw [iflt (by omega) (by omega), if_pos (by omega)]
    rw [e1, e2]
    by_cases q : a2 = 0
    · rw [if_pos q, if_pos q]; exact ⟨_, rfl, rfl⟩
    · rw [if_neg q, if_neg q]; exact ⟨_, rfl, rfl⟩
  | succ k ih =>
    intro f M b hf hM i j hi hj
    obtain ⟨i, rfl⟩ : ∃ x, i = x + 1 := ⟨i - 1, by omega⟩
    obtain ⟨j, rfl⟩ : ∃ x, j = x + 1 := ⟨j - 1, by omega⟩
    obtain ⟨L, l1, l2, l3, l4, l5⟩ := c_len (n := n) g c hn (f := f) (by omega) (v 33 1 - a1) (F + 1 - f) 0 (by omega) (fun i hi => by omega) n (by omega)
    have l6 : ∀ x, L ≤ x → f + x ≤ F → v 33 1 - a1 < spr v f x := by
      intro x hx hx2
      have a := l5 (by omega)
      have m := spr_mono2 g (f := f) (m := L) (x - L) (by omega)
      rw [show L + (x - L) = x by omega] at m
      exact ltI.mpr (Int.lt_of_lt_of_le (ltI.mp a) m)
    have e1 : l_X8_longest_31 n S0 (i + 1) a1 a2 (nI M) b (nI f) = if L ≤ M then l_X8_longest_31 n S0 i a1 a2 (nI M) b (nI (f + 1)) else l_X8_longest_31 n S0 i a1 a2 (nI L) (nI f) (nI (f + 1)) := by
      show b_X8_longest_31 n (l_X8_longest_31 n S0 i) S0 a1 a2 (nI M) b (nI f) = _
      unfold b_X8_longest_31 f_X5_lengthFrom
      rw [c 4 (by decide), g.2.1, iflt (by omega) (by omega), if_neg (by omega), e33, show l_X5_lengthFrom_3 n S0 n (nI f) (nI F) (v 33 1 - a1) (nI f) = some (nI L) from l3, ob, ifle (by omega) (by omega), ad1]
    have e2 : l_X9_longestOf_14 n (j + 1) S a1 a2 (nI F) b (nI M) (nI f) = if M < L then l_X9_longestOf_14 n j S a1 a2 (nI F) (nI f) (nI L) (nI (f + 1)) else l_X9_longestOf_14 n j S a1 a2 (nI F) b (nI M) (nI (f + 1)) := by
      show b_X9_longestOf_14 n (l_X9_longestOf_14 n j) S a1 a2 (nI F) b (nI M) (nI f) = _
      unfold b_X9_longestOf_14
      rw [iflt (by omega) (by omega), if_neg (by omega)]
      exact m_inL w hn a1 a2 (by omega) l2 l4 l6 (l_X9_longestOf_14 n j) (F + 1 - f) 0 M b (by omega) (by omega) hM n (by omega)
    rw [e1, e2]
    by_cases q : L ≤ M
    · rw [if_pos q, if_neg (by omega)]
      exact ih (f + 1) M b (by omega) hM i j (by omega) (by omega)
    · rw [if_neg q, if_pos (by omega)]
      exact ih (f + 1) L (nI f) (by omega) (by omega) i j (by omega) (by omega)
theorem long_b (g : Gd v F ft) (c : Cl S0 v) (w : Vw S v F ft) (hn : 20 ≤ n) (a1 a2 : Int32) (h1 : ¬ f_X9_in a1 1 999 = 0) (h2 : ¬ f_X9_in a2 0 1 = 0) : ∃ r, f_X8_longest n S0 a1 a2 = some r ∧ f_X9_longestOf n S a1 a2 = some (r, S) := by
  have hF := g.1
  obtain ⟨r, r1, r2⟩ := long_L (n := n) g c w hn a1 a2 (F + 1) 0 0 (-1) (by omega) (by omega) n n (by omega) (by omega)
  refine ⟨r, ?_, ?_⟩
  · unfold f_X8_longest
    rw [wi_eq, wi_eq, if_neg h1, if_neg h2]
    exact r1
  · unfold f_X9_longestOf
    rw [fl_now w hn, ob]
    exact r2
theorem op_longest {S : xS} (hI : Inv S) (hn : 20 ≤ n) (a1 a2 : Int32) : ∃ r S2, f_X8_longest n S a1 a2 = some r ∧ f_X9_longest n S a1 a2 = some (r, S2) ∧ Inv S2 := by
  by_cases h1 : f_X9_in a1 1 999 = 0
  · refine ⟨-2, S, ?_, ?_, hI⟩
    · unfold f_X8_longest; rw [wi_eq, if_pos h1]
    · unfold f_X9_longest; rw [if_pos h1]
  · by_cases h2 : f_X9_in a2 0 1 = 0
    · refine ⟨-2, S, ?_, ?_, hI⟩
      · unfold f_X8_longest; rw [wi_eq, wi_eq, if_neg h1, if_pos h2]
      · unfold f_X9_longest; rw [if_neg h1, if_pos h2]
    · obtain ⟨T, F, ft, g, w, i1, i2, i3⟩ := hI.ask
      obtain ⟨r, r1, r2⟩ := long_b (n := n) g (Cl.rf S) w hn a1 a2 h1 h2
      refine ⟨r, RD S T, r1, ?_, i1⟩
      have e : f_X9_longestOf n S a1 a2 = f_X9_longestOf n (RD S T) a1 a2 := by
        unfold f_X9_longestOf
        rw [i3 n hn, fl_now w hn]
      unfold f_X9_longest
      rw [if_neg h1, if_neg h2, e, r2, ob]
/-! next -/
def offA (v : Nat → Nat → Int32) (F : Nat) (m : Int32) (k : Nat) : Int32 := xabs (v 13 F - v 14 F + cutv (v 2) (v 3) m k - m)
theorem c_offA (g : Gd v F ft) (c : Cl S0 v) (m : Int32) {k : Nat} (hk : k < 9) : f_X8_offAfter n S0 m (nI k) = some (offA v F m k) := by
  have hF := g.1
  unfold f_X8_offAfter offA
  rw [c 4 (by decide), g.2.1, c_off hF, ob, dv3 (by omega), show nI k - nI (k / 3) * 3 = nI (k % 3) from by rw [← dv3 (by omega)]; exact rm3 (by omega), c_cut (by rw [c 2 (by decide), c 3 (by decide)]; exact g.2.2.2.1) hk, ob, c 13 (by decide), c 14 (by decide), c 2 (by decide), c 3 (by decide)]
theorem next_L (g : Gd v F ft) (c : Cl S0 v) (w : Vw S v F ft) (a1 a2 : Int32) : ∀ (k x b : Nat), x + k = 9 → b < 9 → ∀ i j, k + 1 ≤ i → k + 1 ≤ j → ∃ r, l_X8_next_28 n S0 i a1 a2 (nI b) (nI x) = some r ∧ l_X9_nextOf_31 n j S a1 a2 (v 13 F - v 14 F) (nI b) (offA v F a1 b) (nI x) = some (r, S) := by
  intro k
  induction k with
  | zero =>
    intro x b hx hb i j hi hj
    obtain ⟨i, rfl⟩ : ∃ x, i = x + 1 := ⟨i - 1, by omega⟩
    obtain ⟨j, rfl⟩ : ∃ x, j = x + 1 := ⟨j - 1, by omega⟩
    have e1 : l_X8_next_28 n S0 (i + 1) a1 a2 (nI b) (nI x) = if a2 = 0 then some (nI b) else some (offA v F a1 b) := by
      show b_X8_next_28 n _ S0 a1 a2 (nI b) (nI x) = _
      unfold b_X8_next_28
      rw [n9, ifle (by omega) (by omega), if_pos (by omega), c_offA g c a1 hb, ob]
    have e2 : l_X9_nextOf_31 n (j + 1) S a1 a2 (v 13 F - v 14 F) (nI b) (offA v F a1 b) (nI x) = if a2 = 0 then some (nI b, S) else some (offA v F a1 b, S) := by
      show b_X9_nextOf_31 n _ S a1 a2 _ (nI b) _ (nI x) = _
      unfold b_X9_nextOf_31
      rw [n9, ifle (by omega) (by omega), if_pos (by omega)]
    rw [e1, e2]
    by_cases q : a2 = 0
    · rw [if_pos q, if_pos q]; exact ⟨_, rfl, rfl⟩
    · rw [if_neg q, if_neg q]; exact ⟨_, rfl, rfl⟩
  | succ k ih =>
    intro x b hx hb i j hi hj
    obtain ⟨i, rfl⟩ : ∃ x, i = x + 1 := ⟨i - 1, by omega⟩
    obtain ⟨j, rfl⟩ : ∃ x, j = x + 1 := ⟨j - 1, by omega⟩
    have e1 : l_X8_next_28 n S0 (i + 1) a1 a2 (nI b) (nI x) = if offA v F a1 b ≤ offA v F a1 x then l_X8_next_28 n S0 i a1 a2 (nI b) (nI (x + 1)) else l_X8_next_28 n S0 i a1 a2 (nI x) (nI (x + 1)) := by
      show b_X8_next_28 n (l_X8_next_28 n S0 i) S0 a1 a2 (nI b) (nI x) = _
      unfold b_X8_next_28
      rw [n9, ifle (by omega) (by omega), if_neg (by omega), c_offA g c a1 (by omega), ob, c_offA g c a1 hb, ob, ad1]
    have e2 : l_X9_nextOf_31 n (j + 1) S a1 a2 (v 13 F - v 14 F) (nI b) (offA v F a1 b) (nI x) = if offA v F a1 b ≤ offA v F a1 x then l_X9_nextOf_31 n j S a1 a2 (v 13 F - v 14 F) (nI b) (offA v F a1 b) (nI (x + 1)) else l_X9_nextOf_31 n j S a1 a2 (v 13 F - v 14 F) (nI x) (offA v F a1 x) (nI (x + 1)) := by
      show b_X9_nextOf_31 n (l_X9_nextOf_31 n j) S a1 a2 _ (nI b) _ (nI x) = _
      unfold b_X9_nextOf_31 j_X9_nextOf_68
      obtain ⟨m1, m2, -⟩ := w.2.2.1
      rw [n9, ifle (by omega) (by omega), if_neg (by omega), m_cut (by rw [m1, m2]; exact g.2.2.2.1) (by omega), ob, m1, m2, amount_abs, ad1]
      show (if offA v F a1 b ≤ offA v F a1 x then (if offA v F a1 b ≤ offA v F a1 x then _ else _) else (if offA v F a1 b ≤ offA v F a1 x then _ else _)) = _
      by_cases q : offA v F a1 b ≤ offA v F a1 x
      · rw [if_pos q, if_pos q, if_pos q]
      · rw [if_neg q, if_neg q, if_neg q]; rfl
    rw [e1, e2]
    by_cases q : offA v F a1 b ≤ offA v F a1 x
    · rw [if_pos q, if_pos q]
      exact ih (x + 1) b (by omega) hb i j (by omega) (by omega)
    · rw [if_neg q, if_neg q]
      exact ih (x + 1) x (by omega) (by omega) i j (by omega) (by omega)
theorem next_b (g : Gd v F ft) (c : Cl S0 v) (w : Vw S v F ft) (hn : 20 ≤ n) (a1 a2 : Int32) (h1 : ¬ f_X9_in a1 1 9999 = 0) (h2 : ¬ f_X9_in a2 0 1 = 0) : ∃ r, f_X8_next n S0 a1 a2 = some r ∧ f_X9_nextOf n S a1 a2 = some (r, S) := by
  obtain ⟨r, r1, r2⟩ := next_L (n := n) g c w a1 a2 8 1 0 (by omega) (by omega) n n (by omega) (by omega)
  refine ⟨r, ?_, ?_⟩
  · unfold f_X8_next
    rw [wi_eq, wi_eq, if_neg h1, if_neg h2]
    exact r1
  · unfold f_X9_nextOf
    obtain ⟨m1, m2, -⟩ := w.2.2.1
    rw [fl_now w hn, ob]
    show ((f_X9_sillOf n S (nI F) 2).bind fun r3 => ((f_X9_cutBy n S a1 (nI 0)).bind fun r5 => l_X9_nextOf_31 n n S a1 a2 r3 0 (f_X9_amount (r3 + r5 - a1)) 1)) = _
    rw [m_off w (Nat.le_refl F) hn, ob, m_cut (by rw [m1, m2]; exact g.2.2.2.1) (by omega), ob, m1, m2, amount_abs]
    exact r2
theorem op_next {S : xS} (hI : Inv S) (hn : 20 ≤ n) (a1 a2 : Int32) : ∃ r S2, f_X8_next n S a1 a2 = some r ∧ f_X9_next n S a1 a2 = some (r, S2) ∧ Inv S2 := by
  by_cases h1 : f_X9_in a1 1 9999 = 0
  · refine ⟨-2, S, ?_, ?_, hI⟩
    · unfold f_X8_next; rw [wi_eq, if_pos h1]
    · unfold f_X9_next; rw [if_pos h1]
  · by_cases h2 : f_X9_in a2 0 1 = 0
    · refine ⟨-2, S, ?_, ?_, hI⟩
      · unfold f_X8_next; rw [wi_eq, wi_eq, if_neg h1, if_pos h2]
      · unfold f_X9_next; rw [if_neg h1, if_pos h2]
    · obtain ⟨T, F, ft, g, w, i1, i2, i3⟩ := hI.ask
      obtain ⟨r, r1, r2⟩ := next_b (n := n) g (Cl.rf S) w hn a1 a2 h1 h2
      refine ⟨r, RD S T, r1, ?_, i1⟩
      have e : f_X9_nextOf n S a1 a2 = f_X9_nextOf n (RD S T) a1 a2 := by
        unfold f_X9_nextOf
        rw [i3 n hn, fl_now w hn]
      unfold f_X9_next
      rw [if_neg h1, if_neg h2, e, r2, ob]
end LO
