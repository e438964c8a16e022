section WM
variable {n : Nat} {v : Nat → Nat → Int32} {F : Nat} {ft : Int32}
theorem m_wS {e : Nat → Nat} {k f : Nat} (hk : k < 9) (h0 : 0 < f) (hf : f ≤ 10) {S : xS} (hS : ∀ j, j < 9 → S.2 45 j = lN (e j)) (k8 : xS → Int32 → Int32 → Int32 → Int32 → Option (Int64 × xS)) (k17 : xS → Int32 → Int32 → Int32 → Int32 → Int32 → Option (Int64 × xS)) (a b a3 s0 : Int32) : ∀ (m y t : Nat), y + m = 9 → ∀ j, m + 1 ≤ j → l_X9_worldsBy_71 n k8 k17 j S a b a3 (nI f) (nI k) s0 (lN t) (nI y) = j_X9_worldsBy_123 n k8 k17 S a b a3 (nI f) (nI k) s0 (lN (t + wA e k y m)) := by
  intro m
  induction m with
  | zero =>
    intro y t hy j hj
    obtain ⟨j, rfl⟩ : ∃ x, j = x + 1 := ⟨j - 1, by omega⟩
    show b_X9_worldsBy_71 n k8 k17 _ S a b a3 (nI f) (nI k) s0 (lN t) (nI y) = _
    unfold b_X9_worldsBy_71
    rw [n9, ifle (by omega) (by omega), if_pos (by omega)]
    rfl
  | succ m ih =>
    intro y t hy j hj
    obtain ⟨j, rfl⟩ : ∃ x, j = x + 1 := ⟨j - 1, by omega⟩
    have key : l_X9_worldsBy_71 n k8 k17 (j + 1) S a b a3 (nI f) (nI k) s0 (lN t) (nI y) = l_X9_worldsBy_71 n k8 k17 j S a b a3 (nI f) (nI k) s0 (lN (t + (if y = k ∨ ¬ y / 3 = k / 3 then e y else 0))) (nI (y + 1)) := by
      show b_X9_worldsBy_71 n k8 k17 (l_X9_worldsBy_71 n k8 k17 j) S a b a3 (nI f) (nI k) s0 (lN t) (nI y) = _
      unfold b_X9_worldsBy_71
      rw [n9, ifle (by omega) (by omega), if_neg (by omega), n0, ifle (by omega) (by omega), if_neg (by omega), ifeq (by omega) (by omega), dv3 (by omega), dv3 (by omega), ifeq (by omega) (by omega), cln (by omega), hS y (by omega), lad, l0, lad, ad1, xgn (by omega) (by omega)]
      by_cases z : y = k
      · rw [if_pos z, if_pos (Or.inl z)]
      · rw [if_neg z]
        by_cases z2 : y / 3 = k / 3
        · rw [if_pos z2, if_neg (fun q => q.elim z (fun q2 => q2 z2))]
        · rw [if_neg z2, if_pos (Or.inr z2)]
    rw [key, ih (y + 1) _ (by omega) j (by omega), Nat.add_assoc]
    rfl
theorem m_w54 {q : Nat → Nat → Bool} {k f : Nat} (hk : k < 9) (hf : f ≤ 10) {S : xS} (hS : 0 < f → ∀ j, j < 9 → S.2 45 j = lN ((wW q f).1 j)) (hn : 20 ≤ n) (k8 : xS → Int32 → Int32 → Int32 → Int32 → Option (Int64 × xS)) (k17 : xS → Int32 → Int32 → Int32 → Int32 → Int32 → Option (Int64 × xS)) (a b a3 s0 : Int32) : j_X9_worldsBy_54 n k8 k17 S a b a3 (nI f) (nI k) s0 = j_X9_worldsBy_123 n k8 k17 S a b a3 (nI f) (nI k) s0 (lN ((wW q f).2 - wG (wW q f).1 k + (wW q f).1 k)) := by
  unfold j_X9_worldsBy_54
  cases f with
  | zero =>
    rw [if_pos (by decide)]
    obtain ⟨m, rfl⟩ : ∃ m, n = m + 1 := ⟨n - 1, by omega⟩
    show b_X9_worldsBy_71 (m + 1) k8 k17 _ S a b a3 (nI 0) (nI k) s0 1 0 = _
    unfold b_X9_worldsBy_71
    rw [if_neg (by decide), if_pos (by decide)]
    rfl
  | succ f =>
    rw [n0, ifeq (by omega) (by omega), if_neg (by omega)]
    have := m_wS (n := n) (e := (wW q (f + 1)).1) hk (show 0 < f + 1 by omega) hf (hS (by omega)) k8 k17 a b a3 s0 9 0 0 (by omega) n (by omega)
    rw [Nat.zero_add, wA_eq _ hk] at this
    exact this
theorem m_w17 (hT : tyOk v) (a : Int32) {ms f : Nat} (hms : ms < 3) (hf : f < F) (hn : 20 ≤ n) (k8 : xS → Int32 → Int32 → Int32 → Int32 → Option (Int64 × xS)) (a3 : Int32) : ∀ (m y : Nat) (S : xS), y + m = 9 → Vw S v F ft → (0 < f → ∀ j, j < 9 → S.2 45 j = lN ((wW (wQ v a (nI ms)) f).1 j)) → (∀ k, k < y → S.2 46 k = lN ((wW (wQ v a (nI ms)) (f + 1)).1 k)) → ∀ j, m + 1 ≤ j → ∃ S', S'.1 = S.1 ∧ (∀ k, k < 9 → S'.2 46 k = lN ((wW (wQ v a (nI ms)) (f + 1)).1 k)) ∧ l_X9_worldsBy_17 n k8 j S a (nI ms) a3 (nI f) (nI y) = l_X9_worldsBy_150 n k8 n S' a (nI ms) a3 (nI f) 0 := by
  intro m
  induction m with
  | zero =>
    intro y S hy w i1 i2 j hj
    obtain ⟨j, rfl⟩ : ∃ x, j = x + 1 := ⟨j - 1, by omega⟩
    refine ⟨S, rfl, fun k hk => i2 k (by omega), ?_⟩
    show b_X9_worldsBy_17 n k8 _ S a (nI ms) a3 (nI f) (nI y) = _
    unfold b_X9_worldsBy_17
    rw [n9, ifle (by omega) (by omega), if_pos (by omega)]
  | succ m ih =>
    intro y S hy w i1 i2 j hj
    have hF := w.1.1
    obtain ⟨j, rfl⟩ : ∃ x, j = x + 1 := ⟨j - 1, by omega⟩
    have key : l_X9_worldsBy_17 n k8 (j + 1) S a (nI ms) a3 (nI f) (nI y) = l_X9_worldsBy_17 n k8 j (xsl S 46 y (lN ((wW (wQ v a (nI ms)) (f + 1)).1 y))) a (nI ms) a3 (nI f) (nI (y + 1)) := by
      show b_X9_worldsBy_17 n k8 (l_X9_worldsBy_17 n k8 j) S a (nI ms) a3 (nI f) (nI y) = _
      unfold b_X9_worldsBy_17 j_X9_worldsBy_53 j_X9_worldsBy_49
      rw [n9, ifle (by omega) (by omega), if_neg (by omega), m_fitQ w hf (by omega), ob, m_w54 (q := wQ v a (nI ms)) (by omega) (by omega) i1 hn, m_w54 (q := wQ v a (nI ms)) (by omega) (by omega) i1 hn, dv3 (by omega)]
      have j0 : ∀ z, j_X9_worldsBy_123 n k8 (l_X9_worldsBy_17 n k8 j) S a (nI ms) a3 (nI f) (nI y) 0 z = l_X9_worldsBy_17 n k8 j (xsl S 46 y (lN 0)) a (nI ms) a3 (nI f) (nI (y + 1)) := fun z => by
        unfold j_X9_worldsBy_123
        rw [if_pos rfl, xgn (by omega) (by omega), cln (by omega), ad1]; rfl
      have j1 : ∀ z, j_X9_worldsBy_123 n k8 (l_X9_worldsBy_17 n k8 j) S a (nI ms) a3 (nI f) (nI y) 1 z = l_X9_worldsBy_17 n k8 j (xsl S 46 y z) a (nI ms) a3 (nI f) (nI (y + 1)) := fun z => by
        unfold j_X9_worldsBy_123
        rw [if_neg (by decide), xgn (by omega) (by omega), cln (by omega), ad1]
      rw [j0, j1]
      have e0 : wQ v a (nI ms) f y = false → (wW (wQ v a (nI ms)) (f + 1)).1 y = 0 := fun z => by
        show wX (wQ v a (nI ms) f) _ _ y = 0
        unfold wX; rw [z, if_neg (by decide)]
      have e1 : wQ v a (nI ms) f y = true → (wW (wQ v a (nI ms)) (f + 1)).1 y = (wW (wQ v a (nI ms)) f).2 - wG (wW (wQ v a (nI ms)) f).1 y + (wW (wQ v a (nI ms)) f).1 y := fun z => by
        show wX (wQ v a (nI ms) f) _ _ y = _
        unfold wX; rw [if_pos z]
      by_cases z1 : fitQ v f y = true
      · rw [if_pos z1, if_neg (by decide)]
        by_cases z2 : nI f = a
        · rw [if_pos z2]
          by_cases z3 : nI (y / 3) = nI ms
          · rw [if_pos z3, e1 (by unfold wQ; rw [z1, decide_eq_true z3, Bool.or_true]; rfl)]
          · rw [if_neg z3, e0 (by unfold wQ; rw [decide_eq_true z2, decide_eq_false z3]; simp)]
        · rw [if_neg z2, e1 (by unfold wQ; rw [z1, decide_eq_false z2]; rfl)]
      · rw [if_neg z1, if_pos rfl, e0 (by unfold wQ; rw [Bool.eq_false_iff.mpr z1]; rfl)]
    rw [key]
    obtain ⟨S', s1, s2, s3⟩ := ih (y + 1) (xsl S 46 y (lN ((wW (wQ v a (nI ms)) (f + 1)).1 y))) (by omega) (w.scr hT (Scr.of1 rfl)) (fun h0 k hk => by rw [xsl_q (by decide)]; exact i1 h0 k hk) (fun k hk => by
      by_cases z : k = y
      · subst z; rw [xsl_eq]
      · rw [xsl_k z]; exact i2 k (by omega)) j (by omega)
    exact ⟨S', s1, s2, s3⟩
theorem m_w150 {e : Nat → Nat} {f : Nat} (hf : f ≤ 10) (k8 : xS → Int32 → Int32 → Int32 → Int32 → Option (Int64 × xS)) (a b a3 : Int32) : ∀ (m y : Nat) (S : xS), y + m = 9 → (∀ k, k < 9 → S.2 46 k = lN (e k)) → (∀ k, k < y → S.2 45 k = lN (e k)) → ∀ j, m + 1 ≤ j → ∃ S', S'.1 = S.1 ∧ (∀ k, k < 9 → S'.2 45 k = lN (e k)) ∧ l_X9_worldsBy_150 n k8 j S a b a3 (nI f) (nI y) = k8 S' a b a3 (nI (f + 1)) := by
  intro m
  induction m with
  | zero =>
    intro y S hy i1 i2 j hj
    obtain ⟨j, rfl⟩ : ∃ x, j = x + 1 := ⟨j - 1, by omega⟩
    refine ⟨S, rfl, fun k hk => i2 k (by omega), ?_⟩
    show b_X9_worldsBy_150 n k8 _ S a b a3 (nI f) (nI y) = _
    unfold b_X9_worldsBy_150
    rw [n9, ifle (by omega) (by omega), if_pos (by omega), ad1]
  | succ m ih =>
    intro y S hy i1 i2 j hj
    obtain ⟨j, rfl⟩ : ∃ x, j = x + 1 := ⟨j - 1, by omega⟩
    obtain ⟨S', s1, s2, s3⟩ := ih (y + 1) (xsl S 45 y (lN (e y))) (by omega) (fun k hk => by rw [xsl_q (by decide)]; exact i1 k hk) (fun k hk => by
      by_cases z : k = y
      · subst z; rw [xsl_eq]
      · rw [xsl_k z]; exact i2 k (by omega)) j (by omega)
    refine ⟨S', s1, s2, ?_⟩
    rw [← s3]
    show b_X9_worldsBy_150 n k8 (l_X9_worldsBy_150 n k8 j) S a b a3 (nI f) (nI y) = _
    unfold b_X9_worldsBy_150
    rw [n9, ifle (by omega) (by omega), if_neg (by omega), xgn (by omega) (by omega), xgn (by omega) (by omega), cln (by omega), i1 y (by omega), ad1]
theorem m_w197 {e : Nat → Nat} {S : xS} (hF0 : 0 < F) (hF : F ≤ 10) (hS : ∀ j, j < 9 → S.2 45 j = lN (e j)) : ∀ (m y t : Nat), y + m = 9 → ∀ j, m + 1 ≤ j → l_X9_worldsBy_197 n j S (nI F) (lN t) (nI y) = some (lN (t + psum e y m), S) := by
  intro m
  induction m with
  | zero =>
    intro y t hy j hj
    obtain ⟨j, rfl⟩ : ∃ x, j = x + 1 := ⟨j - 1, by omega⟩
    show b_X9_worldsBy_197 n _ S (nI F) (lN t) (nI y) = _
    unfold b_X9_worldsBy_197
    rw [n9, ifle (by omega) (by omega), if_pos (by omega)]
    rfl
  | succ m ih =>
    intro y t hy j hj
    obtain ⟨j, rfl⟩ : ∃ x, j = x + 1 := ⟨j - 1, by omega⟩
    show b_X9_worldsBy_197 n (l_X9_worldsBy_197 n j) S (nI F) (lN t) (nI y) = _
    unfold b_X9_worldsBy_197
    rw [n9, ifle (by omega) (by omega), if_neg (by omega), n0, ifle (by omega) (by omega), if_neg (by omega), xgn (by omega) (by omega), cln (by omega), hS y (by omega), lad, ad1, ih (y + 1) _ (by omega) j (by omega), Nat.add_assoc]
    rfl
theorem m_w8 (hT : tyOk v) (a : Int32) {ms : Nat} (hms : ms < 3) (hn : 20 ≤ n) : ∀ (m f : Nat) (S : xS), f + m = F → Vw S v F ft → (0 < f → ∀ j, j < 9 → S.2 45 j = lN ((wW (wQ v a (nI ms)) f).1 j)) → ∀ j, m + 1 ≤ j → ∃ S', S'.1 = S.1 ∧ l_X9_worldsBy_8 n j S a (nI ms) (nI F) (nI f) = some (lN (wW (wQ v a (nI ms)) F).2, S') := by
  intro m
  induction m with
  | zero =>
    intro f S hf w i1 j hj
    have hF := w.1.1
    obtain ⟨j, rfl⟩ : ∃ x, j = x + 1 := ⟨j - 1, by omega⟩
    have : f = F := by omega
    subst this
    refine ⟨S, rfl, ?_⟩
    show b_X9_worldsBy_8 n _ S a (nI ms) (nI f) (nI f) = _
    unfold b_X9_worldsBy_8
    rw [ifle (by omega) (by omega), if_pos (by omega)]
    cases f with
    | zero =>
      rw [if_pos (by decide)]
      obtain ⟨k, rfl⟩ : ∃ k, n = k + 1 := ⟨n - 1, by omega⟩
      show b_X9_worldsBy_197 (k + 1) _ S (nI 0) 1 0 = _
      unfold b_X9_worldsBy_197
      rw [if_neg (by decide), if_pos (by decide)]
      rfl
    | succ f =>
      have z : l_X9_worldsBy_197 n n S (nI (f + 1)) (lN 0) (nI 0) = some (lN (wW (wQ v a (nI ms)) (f + 1)).2, S) := by
        rw [m_w197 (e := (wW (wQ v a (nI ms)) (f + 1)).1) (by omega) hF (i1 (by omega)) 9 0 0 (by omega) n (by omega)]
        have : 0 + psum (wW (wQ v a (nI ms)) (f + 1)).1 0 9 = (wW (wQ v a (nI ms)) (f + 1)).2 := by
          show 0 + psum (wW (wQ v a (nI ms)) (f + 1)).1 0 9 = sum9 (wW (wQ v a (nI ms)) (f + 1)).1
          generalize (wW (wQ v a (nI ms)) (f + 1)).1 = E
          show 0 + (E 0 + (E 1 + (E 2 + (E 3 + (E 4 + (E 5 + (E 6 + (E 7 + (E 8 + 0))))))))) = E 0 + E 1 + E 2 + E 3 + E 4 + E 5 + E 6 + E 7 + E 8
          omega
        rw [this]
      rw [n0, ifeq (by omega) (by omega), if_neg (by omega)]
      exact z
  | succ m ih =>
    intro f S hf w i1 j hj
    have hF := w.1.1
    obtain ⟨j, rfl⟩ : ∃ x, j = x + 1 := ⟨j - 1, by omega⟩
    obtain ⟨S1, a1, a2, a3⟩ := m_w17 (n := n) hT a hms (show f < F by omega) hn (l_X9_worldsBy_8 n j) (nI F) 9 0 S (by omega) w i1 (fun k hk => by omega) n (by omega)
    obtain ⟨S2, b1, b2, b3⟩ := m_w150 (n := n) (f := f) (by omega) (l_X9_worldsBy_8 n j) a (nI ms) (nI F) 9 0 S1 (by omega) a2 (fun k hk => by omega) n (by omega)
    have e12 : S2.1 = S.1 := b1.trans a1
    obtain ⟨S3, c1, c2⟩ := ih (f + 1) S2 (by omega) (w.scr hT (Scr.of1 e12)) (fun _ => b2) j (by omega)
    refine ⟨S3, c1.trans e12, ?_⟩
    rw [← c2, ← b3]
    show b_X9_worldsBy_8 n (l_X9_worldsBy_8 n j) S a (nI ms) (nI F) (nI f) = _
    unfold b_X9_worldsBy_8
    rw [ifle (by omega) (by omega), if_neg (by omega)]
    exact a3
theorem m_cw {S : xS} (w : Vw S v F ft) (hT : tyOk v) (hn : 20 ≤ n) (a : Int32) {ms : Nat} (hms : ms < 3) : ∃ S', S'.1 = S.1 ∧ f_X9_worldsBy n S a (nI ms) = some (lN (wW (wQ v a (nI ms)) F).2, S') := by
  have hF := w.1.1
  obtain ⟨S', s1, s2⟩ := m_w8 (n := n) hT a hms hn F 0 S (by omega) w (fun h => by omega) n (by omega)
  refine ⟨S', s1, ?_⟩
  unfold f_X9_worldsBy
  rw [fl_now w hn, ob]
  exact s2
theorem worlds_b {S S0 : xS} (g : Gd v F ft) (c : Cl S0 v) (w : Vw S v F ft) (hT : tyOk v) (hn : 20 ≤ n) : ∃ X S0' S', X < 2 ^ 40 ∧ X = (wW (wQ v (-1) (nI 0)) F).2 ∧ S0'.1 = S0.1 ∧ S'.1 = S.1 ∧ f_X8_worlds n S0 = some (lN X, S0') ∧ f_X9_worldsBy n S (-1) 0 = some (lN X, S') := by
  obtain ⟨S1, a1, a2⟩ := c_cw (n := n) g hn (-1) (show 0 < 3 by decide) c
  obtain ⟨S2, b1, b2⟩ := m_cw (n := n) w hT hn (-1) (show 0 < 3 by decide)
  refine ⟨_, S1, S2, wW_lt _ g.1, rfl, a1, b1, ?_, b2⟩
  unfold f_X8_worlds
  rw [c 33 (by decide)]
  show (f_X0_countWorlds n S0 (v 33 0) (-1) (nI 0)).bind _ = _
  rw [a2, ob]
theorem low_some {A B : Nat} (hAB : A ≤ B) (h0 : 0 < B) (hB : B < 2 ^ 40) (hn : 200 ≤ n) (a4 : Int32) : ∃ r, f_X9_lowest n (lN A) (lN B) a4 = some r := by
  rw [← low_both hAB h0 hB hn a4]
  have h := c_euc (n := n) (lN A) (lN B) a4 41 B A 0 n (by omega) h0 (by omega) (by omega) (by omega) (by omega)
  have e : f_X8_inLowestTerms n (lN A) (lN B) a4 = lowT (lN A) (lN B) a4 (lN (Nat.gcd B A)) := h
  rw [e]
  unfold lowT
  split
  · exact ⟨_, rfl⟩
  · exact ⟨_, rfl⟩
theorem odds_b {S S0 : xS} (g : Gd v F ft) (c : Cl S0 v) (w : Vw S v F ft) (hT : tyOk v) (hn : 200 ≤ n) {f ms : Nat} (hf : f < F) (hms : ms < 3) {a3 : Int32} (h3 : ¬ f_X9_in a3 0 1 = 0) : ∃ r S0' S', S0'.1 = S0.1 ∧ S'.1 = S.1 ∧ f_X8_odds n S0 (nI f) (nI ms) a3 = some (r, S0') ∧ f_X9_oddsOf n S (nI f) (nI ms) a3 = some (r, S') := by
  have hF := g.1
  obtain ⟨X, S1, S2, x1, x2, x3, x4, x5, x6⟩ := worlds_b (n := n) g c w hT (by omega)
  have e1 : f_X8_isFloor S0 (nI f) = 1 := by
    show f_X9_in (nI f) 0 (S0.1 4 3 - 1) = 1
    rw [c 4 (by decide), g.2.1]; exact isfl_y hF hf
  have e2 : f_X8_isMaster (nI ms) = 1 := in_nI (lo := 0) (hi := 2) (by omega) (by omega) (by omega)
  have c1 : Cl S1 v := c.scr (Scr.of1 x3)
  by_cases z : X = 0
  · refine ⟨f_X8_refuseLong (-3), S1, S2, x3, x4, ?_, ?_⟩
    · unfold f_X8_odds
      rw [e1, if_neg (by decide), e2, if_neg (by decide), wi_eq, if_neg h3, x5, ob]
      show (if lg_cmp (lN X) 0 = 0 then _ else _) = _
      rw [if_pos ((lgc0 (by omega)).mpr z)]
    · unfold f_X9_oddsOf
      rw [x6, ob]
      show (if lg_cmp (lN X) 0 = 0 then _ else _) = _
      rw [if_pos ((lgc0 (by omega)).mpr z)]
      rfl
  · obtain ⟨S3, a1, a2⟩ := c_cw (n := n) g (by omega) (nI f) hms c1
    obtain ⟨S4, b1, b2⟩ := m_cw (n := n) (w.scr hT (Scr.of1 x4)) hT (by omega) (nI f) hms
    have le : (wW (wQ v (nI f) (nI ms)) F).2 ≤ X := by
      rw [x2]
      refine (wW_mono (F := F) (fun y k hy hk q => ?_) F (Nat.le_refl F)).2
      unfold wQ at q ⊢
      rw [decide_eq_false (nI_ne_m1 (show y < 2147483648 by omega)), (Bool.and_eq_true_iff.mp q).1]
      rfl
    have lo := low_both (n := n) le (by omega) x1 hn a3
    obtain ⟨r, hr⟩ : ∃ r, f_X9_lowest n (lN (wW (wQ v (nI f) (nI ms)) F).2) (lN X) a3 = some r := low_some le (by omega) x1 hn a3
    refine ⟨r, S3, S4, a1.trans x3, b1.trans x4, ?_, ?_⟩
    · unfold f_X8_odds
      rw [e1, if_neg (by decide), e2, if_neg (by decide), wi_eq, if_neg h3, x5, ob]
      show (if lg_cmp (lN X) 0 = 0 then _ else (f_X0_countWorlds n S1 (S1.1 33 0) (nI f) (nI ms)).bind _) = _
      rw [if_neg (fun q => z ((lgc0 (by omega)).mp q)), c1 33 (by decide), a2, ob]
      show (f_X8_inLowestTerms n (lN (wW (wQ v (nI f) (nI ms)) F).2) (lN X) a3).bind _ = _
      rw [lo, hr, ob]
    · unfold f_X9_oddsOf
      rw [x6, ob]
      show (if lg_cmp (lN X) 0 = 0 then _ else (f_X9_worldsBy n S2 (nI f) (nI ms)).bind _) = _
      rw [if_neg (fun q => z ((lgc0 (by omega)).mp q)), b2, ob]
      show (f_X9_lowest n (lN (wW (wQ v (nI f) (nI ms)) F).2) (lN X) a3).bind _ = _
      rw [hr, ob]
theorem wby_rd {S S1 : xS} {a b : Int32} (h : f_X9_floorsNow n S = some (nI F, S1)) (h1 : f_X9_floorsNow n S1 = some (nI F, S1)) : f_X9_worldsBy n S a b = f_X9_worldsBy n S1 a b := by
  unfold f_X9_worldsBy
  rw [h, h1]
theorem op_worlds {S : xS} (hI : Inv S) (hn : 20 ≤ n) : ∃ r S1 S2, f_X8_worlds n S = some (r, S1) ∧ f_X9_worlds n S1 = some (r, S2) ∧ Inv S2 := by
  obtain ⟨T, F, ft, g, w, i1, i2, i3⟩ := hI.ask
  obtain ⟨S1, a1, a2⟩ := c_cw (n := n) g hn (-1) (show 0 < 3 by decide) (Cl.rf S)
  have hI1 : Inv S1 := hI.scr (Scr.of1 a1)
  obtain ⟨T1, F1, ft1, g1, w1, j1, j2, j3⟩ := hI1.ask
  obtain ⟨X, S3, S4, x1, x2, x3, x4, x5, x6⟩ := worlds_b (n := n) g1 (Cl.rf S1) w1 hI1.ty hn
  obtain ⟨X', S3', S4', y1, y2, y3, y4, y5, y6⟩ := worlds_b (n := n) g (Cl.rf S) w hI.ty hn
  have e : X = X' := by
    rw [x2, y2, a1]
    have : nI F1 = nI F := by rw [← g1.2.1, ← g.2.1, a1]
    rw [nI_inj (by have := g1.1; omega) (by have := g.1; omega) this]
  refine ⟨lN X', S1, S4, ?_, ?_, j1.scr (Scr.of1 x4)⟩
  · rw [y2]
    unfold f_X8_worlds
    show (f_X0_countWorlds n S (S.1 33 0) (-1) (nI 0)).bind _ = _
    rw [a2, ob]
  · unfold f_X9_worlds
    rw [wby_rd (j3 n hn) (fl_now w1 hn), x6, ob, e]
theorem op_odds {S : xS} (hI : Inv S) (hn : 200 ≤ n) (a1 a2 a3 : Int32) : ∃ r S1 S2, f_X8_odds n S a1 a2 a3 = some (r, S1) ∧ f_X9_odds n S1 a1 a2 a3 = some (r, S2) ∧ Inv S2 := by
  obtain ⟨T, F, ft, g, w, i1, i2, i3⟩ := hI.ask
  have hF := g.1
  have e1 : f_X8_isFloor S a1 = f_X9_in a1 0 (nI F - 1) := by
    show f_X9_in a1 0 (S.1 4 3 - 1) = _
    rw [g.2.1]
  have e2 : f_X8_isMaster a2 = f_X9_in a2 0 2 := rfl
  by_cases h : f_X9_in a1 0 (nI F - 1) = 0
  · refine ⟨f_X8_refuseLong (-2), S, RD S T, ?_, ?_, i1⟩
    · unfold f_X8_odds; rw [e1, if_pos h]
    · unfold f_X9_odds; rw [m_isFloor (i3 n (by omega)), ob, if_pos h]; rfl
  · obtain ⟨f, hf, rfl⟩ := isfl hF h
    by_cases h5 : f_X9_in a2 0 2 = 0
    · refine ⟨f_X8_refuseLong (-2), S, RD S T, ?_, ?_, i1⟩
      · unfold f_X8_odds; rw [e1, if_neg h, e2, if_pos h5]
      · unfold f_X9_odds; rw [m_isFloor (i3 n (by omega)), ob, if_neg h, if_pos h5]; rfl
    · obtain ⟨ms, l1, l2, rfl⟩ := in_nat (lo := 0) (hi := 2) (by omega) h5 (by omega)
      by_cases h6 : f_X9_in a3 0 1 = 0
      · refine ⟨f_X8_refuseLong (-2), S, RD S T, ?_, ?_, i1⟩
        · unfold f_X8_odds; rw [e1, if_neg h, e2, if_neg h5, wi_eq, if_pos h6]
        · unfold f_X9_odds; rw [m_isFloor (i3 n (by omega)), ob, if_neg h, if_neg h5, if_pos h6]; rfl
      · obtain ⟨r, S1, S2, s1, s2, s3, s4⟩ := odds_b (n := n) g (Cl.rf S) w hI.ty hn hf (show ms < 3 by omega) h6
        have hI1 : Inv S1 := hI.scr (Scr.of1 s1)
        obtain ⟨T1, F1, ft1, g1, w1, j1, j2, j3⟩ := hI1.ask
        have eF : F1 = F := nI_inj (by have := g1.1; omega) (by omega) (by rw [← g1.2.1, ← g.2.1, s1])
        subst eF
        have w2 : Vw (RD S1 T1) S.1 F1 ft1 := s1 ▸ w1
        obtain ⟨r', S1', S2', t1, t2, t3, t4⟩ := odds_b (n := n) w2.1 (Cl.rf S) w2 hI.ty hn hf (show ms < 3 by omega) h6
        rw [s3] at t3
        have := Prod.mk.inj (Option.some.inj t3)
        refine ⟨r, S1, S2', s3, ?_, j1.scr (Scr.of1 t2)⟩
        unfold f_X9_odds
        rw [m_isFloor (j3 n (by omega)), ob, if_neg h, if_neg h5, if_neg h6]
        show (f_X9_oddsOf n (RD S1 T1) (nI f) (nI ms) a3).bind _ = _
        rw [t4, ob, ← this.1]
end WM
