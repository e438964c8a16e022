section IT
variable {S : xS} {n : Nat}
/-- what is kept of a number in a sheet of form m -/
def kept (m : Nat) (x : Int32) : Int32 := if m = 0 then x.toInt8.toInt32 else if m = 1 then x.toInt16.toInt32 else x
theorem c_store {s m z k : Nat} (hs : s < 4) (h1 : S.1 (25 + s) 1 = nI m) (hm : m ≤ 2) (h2 : S.1 (25 + s) 2 = nI z) (hz : z ≤ 48) (hk : k < z) (x : Int32) : f_X6_store n (25 + s) S (nI k) x = some (xst S (25 + s + 4) k (kept m x)) := by
  unfold f_X6_store
  rw [wi_eq, h2, n1, sbn (by omega), show f_X9_in (nI k) 0 (nI (z - 1)) = 1 from in_nI (lo := 0) (by omega) (by omega) (by omega), if_neg (by decide), h1, xgn (by omega) (by omega), xgn (by omega) (by omega), xgn (by omega) (by omega), cln (by omega), n0, ifeq (by omega) (by omega), ifeq (by omega) (by omega)]
  unfold kept
  split
  · rfl
  · split <;> rfl
theorem m_keep {s m k : Nat} (hs : s < 4) (h1 : S.1 49 s = nI m) (hm : m ≤ 2) (hk : k < 48) (x : Int32) : f_X9_keep n S (nI s) (nI k) x = some (xst S 51 (48 * s + k) (kept m x)) := by
  unfold f_X9_keep
  rw [ixn, cln (by omega), h1, xgn (by omega) (by omega), xgn (by omega) (by omega), xgn (by omega) (by omega), xgn (by omega) (by omega), xgn (by omega) (by omega), cln (by omega), n0, ifeq (by omega) (by omega), n1, ifeq (by omega) (by omega)]
  unfold kept
  split
  · rfl
  · split <;> rfl
theorem Inv.item (hI : Inv S) {s m z k : Nat} (hs : s < 4) (k1 : S.1 48 s = 1) (hk : k < 48) (x : Int32) : Inv (xst (xst S (25 + s + 4) k x) 51 (48 * s + k) x) := by
  refine hI.sh (fun q e1 e2 => funext fun y => (xst_q (by omega)).trans (xst_q (by omega))) (fun t ht => ?_)
  by_cases et : t = s
  · subst et
    rcases hI.shs ht with ⟨j1, -⟩ | ⟨j1, j2, j3, j4, j5, j6⟩
    · rw [k1] at j1; exact absurd j1 (by decide)
    · refine Or.inr ?_
      have e : ∀ q, q ≠ 25 + t + 4 → q ≠ 51 → (xst (xst S (25 + t + 4) k x) 51 (48 * t + k) x).1 q = S.1 q := fun q a b => funext fun y => (xst_q b).trans (xst_q a)
      rw [e 48 (by omega) (by omega), e 49 (by omega) (by omega), e 50 (by omega) (by omega), e (25 + t) (by omega) (by omega)]
      refine ⟨j1, j2, j3, j4, j5, fun i hi => ?_⟩
      by_cases ei : i = k
      · subst ei; rw [xst_q (by omega), xst_eq, xst_eq]
      · rw [xst_q (by omega), xst_k ei, xst_k (by omega), xst_q (by omega)]
        exact j6 i hi
  · exact (hI.shs ht).oth et ht hs (fun q e1 e2 e3 => funext fun y => (xst_q (by omega)).trans (xst_q (by omega))) (fun y _ => (xst_q (by omega)).trans (xst_q (by omega))) (fun y _ => (xst_q (by omega)).trans (xst_q (by omega))) (fun y _ => (xst_q (by omega)).trans (xst_q (by omega))) (fun y hy => (xst_k (by omega)).trans (xst_q (by omega)))
/-- put and get ask the same first: what is answered when they refuse, and what is set down -/
theorem item_ask (hI : Inv S) (a1 a2 a3 : Int32) : (f_X8_refuseItem n S a1 a2 a3 = some (-2, S) ∧ (f_X9_in a1 0 3 = 0 ∨ (¬ f_X9_in a1 0 3 = 0 ∧ f_X9_in a2 0 2 = 0))) ∨ (∃ d : Nat, (d = 1 ∨ d = 2 ∨ d = 3) ∧ ¬ f_X9_in a1 0 3 = 0 ∧ ¬ f_X9_in a2 0 2 = 0 ∧ f_X8_refuseItem n S a1 a2 a3 = some (-10 - nI d, xst S 0 9 (nI d)) ∧ f_X9_lacks n (xst S 0 9 (nI d)) a1 a2 a3 = some (nI d)) ∨ (∃ s m z k : Nat, s < 4 ∧ m ≤ 2 ∧ z ≤ 48 ∧ k < z ∧ ¬ f_X9_in a1 0 3 = 0 ∧ ¬ f_X9_in a2 0 2 = 0 ∧ a1 = nI s ∧ a2 = nI m ∧ a3 = nI k ∧ f_X8_refuseItem n S a1 a2 a3 = some (0, S) ∧ (∀ S' : xS, S'.1 48 = S.1 48 → S'.1 49 = S.1 49 → S'.1 50 = S.1 50 → f_X9_lacks n S' a1 a2 a3 = some 0) ∧ S.1 48 s = 1 ∧ S.1 (25 + s) 1 = nI m ∧ S.1 49 s = nI m ∧ S.1 (25 + s) 2 = nI z ∧ S.1 (25 + s + 4) k = S.1 51 (48 * s + k)) := by
  unfold f_X8_refuseItem
  rw [show f_X8_isForm a2 = f_X9_in a2 0 2 from rfl]
  by_cases h1 : f_X9_in a1 0 3 = 0
  · refine Or.inl ⟨?_, Or.inl h1⟩
    by_cases h2 : f_X9_in a2 0 2 = 0
    · rw [if_pos h2]
    · rw [if_neg h2, c_refN h1, ob]; rfl
  · by_cases h2 : f_X9_in a2 0 2 = 0
    · exact Or.inl ⟨by rw [if_pos h2], Or.inr ⟨h1, h2⟩⟩
    · refine Or.inr ?_
      rw [if_neg h2]
      obtain ⟨s, hs, rfl⟩ := isSht h1
      obtain ⟨f, -, hf, rfl⟩ := in_nat (lo := 0) (hi := 2) (by decide) h2 (by decide)
      rcases hI.shs hs with ⟨k1, k2⟩ | ⟨k1, k2, ⟨m, k3, k4⟩, k5, ⟨z, k6, k7⟩, k8⟩
      · refine Or.inl ⟨1, by omega, h1, h2, ?_, ?_⟩
        · rw [c_refL hs k2, ob]
          show (if ((-10 : Int32) - 1 = 0) then _ else _) = _
          rw [if_neg (by decide)]; rfl
        · unfold f_X9_lacks
          rw [xgn (by omega) (by omega), cln (by omega), xst_q (by decide), k1, if_pos rfl]; rfl
      · rw [c_refH hs (k2.trans k4) k3, ob]
        have lk : ∀ S' : xS, S'.1 48 = S.1 48 → S'.1 49 = S.1 49 → S'.1 50 = S.1 50 → f_X9_lacks n S' (nI s) (nI f) a3 = if nI m = nI f then (if f_X9_in a3 0 (nI z - 1) = 0 then some 2 else some 0) else some 3 := fun S' e1 e2 e3 => by
          unfold f_X9_lacks
          rw [xgn (by omega) (by omega), xgn (by omega) (by omega), xgn (by omega) (by omega), cln (by omega), e1, e2, e3, k1, k4, k7, if_neg (by decide)]
        have ce : (if (0 : Int32) = 0 then xg (xin (nI s) 4) ((if S.1 (25 + (nI s).toNatClampNeg) 1 = nI f then xg (xin (nI s) 4) ((if f_X8_within a3 0 (S.1 (25 + (nI s).toNatClampNeg) 2 - 1) = 0 then some ((f_X8_finding S 2).1, (f_X8_finding S 2).2) else some ((0 : Int32), S))) else some ((f_X8_finding S 3).1, (f_X8_finding S 3).2))) else some ((0 : Int32), S)) = if nI m = nI f then (if f_X9_in a3 0 (nI z - 1) = 0 then some (-10 - 2, xst S 0 9 2) else some (0, S)) else some (-10 - 3, xst S 0 9 3) := by
          rw [if_pos rfl, xgn (by omega) (by omega), xgn (by omega) (by omega), cln (by omega), k2, k4, k5, k7, wi_eq]; rfl
        by_cases q1 : nI m = nI f
        · have q2 : m = f := nI_inj (by omega) (by omega) q1
          subst q2
          by_cases q3 : f_X9_in a3 0 (nI z - 1) = 0
          · refine Or.inl ⟨2, by omega, h1, h2, ?_, ?_⟩
            · refine ce.trans ?_
              rw [if_pos rfl, if_pos q3]; rfl
            · rw [lk _ (funext fun y => xst_q (by decide)) (funext fun y => xst_q (by decide)) (funext fun y => xst_q (by decide)), if_pos rfl, if_pos q3]; rfl
          · have z0 : 0 < z := by
              rcases Nat.eq_zero_or_pos z with e | e
              · subst e
                have := in_rg q3
                have t1 : (nI 0 - 1).toInt = -1 := by decide
                have t2 : (0 : Int32).toInt = 0 := rfl
                omega
              · exact e
            rw [n1, sbn (by omega)] at q3
            obtain ⟨k, -, y1, rfl⟩ := in_nat (lo := 0) (hi := z - 1) (by omega) q3 (by omega)
            refine Or.inr ⟨s, m, z, k, hs, k3, k6, by omega, h1, h2, rfl, rfl, rfl, ?_, fun S' e1 e2 e3 => ?_, k1, k2.trans k4, k4, k5.trans k7, k8 k (by omega)⟩
            · refine ce.trans ?_
              rw [if_pos rfl, n1, sbn (by omega), if_neg q3]
            · rw [lk S' e1 e2 e3, if_pos rfl, n1, sbn (by omega), if_neg q3]
        · refine Or.inl ⟨3, by omega, h1, h2, ?_, ?_⟩
          · refine ce.trans ?_
            rw [if_neg q1]; rfl
          · rw [lk _ (funext fun y => xst_q (by decide)) (funext fun y => xst_q (by decide)) (funext fun y => xst_q (by decide)), if_neg q1]; rfl
theorem dlt {d : Nat} (h : d = 1 ∨ d = 2 ∨ d = 3) : ¬ (-10 - nI d : Int32) = 0 ∧ ¬ nI d ≤ 0 := by
  rcases h with rfl | rfl | rfl <;> decide
theorem op_put (hI : Inv S) (a1 a2 a3 a4 : Int32) : ∃ r S1 S2, f_X8_put n S a1 a2 a3 a4 = some (r, S1) ∧ f_X9_put n S1 a1 a2 a3 a4 = some (r, S2) ∧ Inv S2 := by
  unfold f_X8_put f_X9_put
  rw [show f_X9_isSheet a1 = f_X9_in a1 0 3 from rfl]
  rcases item_ask (n := n) hI a1 a2 a3 with ⟨x1, x2⟩ | ⟨d, x0, x1, x2, x3, x4⟩ | ⟨s, m, z, k, hs, hm, hz, hk, h1, h2, rfl, rfl, rfl, x1, x2, x3, x4, x5, x6, x7⟩
  · rw [x1, ob]
    refine ⟨-2, S, S, rfl, ?_, hI⟩
    rcases x2 with q | ⟨q1, q2⟩
    · rw [if_pos q]
    · rw [if_neg q1, if_pos q2]
  · rw [x3, ob]
    refine ⟨-10 - nI d, xst S 0 9 (nI d), xst (xst S 0 9 (nI d)) 34 20 (nI d), ?_, ?_, hI.find (nI d)⟩
    · show (if (-10 - nI d : Int32) = 0 then _ else _) = _
      rw [if_neg (dlt x0).1]
    · rw [if_neg x1, if_neg x2, x4, ob, if_neg (dlt x0).2]; rfl
  · rw [x1, ob]
    refine ⟨1, xst S (25 + s + 4) k (kept m a4), xst (xst S (25 + s + 4) k (kept m a4)) 51 (48 * s + k) (kept m a4), ?_, ?_, hI.item (m := m) (z := z) hs x3 (by omega) _⟩
    · show (if (0 : Int32) = 0 then xg (xin (nI s) 4) ((f_X6_store n (25 + (nI s).toNatClampNeg) S (nI k) a4).bind fun r5 => some ((1 : Int32), r5)) else _) = _
      rw [if_pos rfl, xgn (by omega) (by omega), cln (by omega), c_store hs x4 hm x6 hz hk, ob]
    · rw [if_neg h1, if_neg h2, x2 _ (funext fun y => xst_q (by omega)) (funext fun y => xst_q (by omega)) (funext fun y => xst_q (by omega)), ob, if_pos (by decide), m_keep hs (by rw [xst_q (by omega)]; exact x5) hm (by omega), ob]
theorem op_get (hI : Inv S) (a1 a2 a3 : Int32) : ∃ r S1 S2, f_X8_get n S a1 a2 a3 = some (r, S1) ∧ f_X9_get n S1 a1 a2 a3 = some (r, S2) ∧ Inv S2 := by
  unfold f_X8_get f_X9_get
  rw [show f_X9_isSheet a1 = f_X9_in a1 0 3 from rfl]
  rcases item_ask (n := n) hI a1 a2 a3 with ⟨x1, x2⟩ | ⟨d, x0, x1, x2, x3, x4⟩ | ⟨s, m, z, k, hs, hm, hz, hk, h1, h2, rfl, rfl, rfl, x1, x2, x3, x4, x5, x6, x7⟩
  · rw [x1, ob]
    refine ⟨-2147483648, S, S, rfl, ?_, hI⟩
    rcases x2 with q | ⟨q1, q2⟩
    · rw [if_pos q]
    · rw [if_neg q1, if_pos q2]
  · rw [x3, ob]
    refine ⟨-2147483648, xst S 0 9 (nI d), xst (xst S 0 9 (nI d)) 34 20 (nI d), ?_, ?_, hI.find (nI d)⟩
    · show (if (-10 - nI d : Int32) = 0 then _ else _) = _
      rw [if_neg (dlt x0).1]
    · rw [if_neg x1, if_neg x2, x4, ob, if_neg (dlt x0).2]
  · rw [x1, ob]
    refine ⟨S.1 51 (48 * s + k), S, S, ?_, ?_, hI⟩
    · show (if (0 : Int32) = 0 then xg (xin (nI s) 4) (xg (xin (nI k) 48) (some (S.1 (25 + (nI s).toNatClampNeg + 4) (nI k).toNatClampNeg, S))) else _) = _
      rw [if_pos rfl, xgn (by omega) (by omega), xgn (by omega) (by omega), cln (by omega), cln (by omega), x7]
    · rw [if_neg h1, if_neg h2, x2 S rfl rfl rfl, ob, if_pos (by decide), ixn, xgn (by omega) (by omega), cln (by omega)]
/-- read: what it copies -/
def rdC (S S' : xS) (q c : Nat) (f : Nat → Int32) : Prop := (∀ p, p ≠ q → S'.1 p = S.1 p) ∧ S'.1 q = fun k => if k < c then f k else S.1 q k
theorem c_readL {s z : Nat} (hs : s < 4) (hz : z ≤ 48) : ∀ (m y : Nat) (S : xS), y + m = min z 10 → S.1 16 = (fun k => if k < y then S.1 (25 + s + 4) k else S.1 16 k) → ∀ j, m + 1 ≤ j → ∃ c S', y ≤ c ∧ c ≤ min z 10 ∧ (∀ i, y ≤ i → i < c → ¬ f_X9_isFound (S.1 (25 + s + 4) i) = 0) ∧ (c < min z 10 → f_X9_isFound (S.1 (25 + s + 4) c) = 0) ∧ rdC S S' 16 c (S.1 (25 + s + 4)) ∧ l_X8_read_33 n j S (25 + s) (nI (min z 10)) (nI y) = some (nI c, S') := by
  intro m
  induction m with
  | zero =>
    intro y S hy i1 j hj
    obtain ⟨j, rfl⟩ : ∃ x, j = x + 1 := ⟨j - 1, by omega⟩
    refine ⟨y, S, Nat.le_refl y, by omega, fun i _ _ => by omega, fun _ => by omega, ⟨fun _ _ => rfl, i1⟩, ?_⟩
    show b_X8_read_33 n _ S (25 + s) (nI (min z 10)) (nI y) = _
    unfold b_X8_read_33
    rw [xgT (by exact decide_eq_true (by omega)), ifle (by omega) (by omega), if_pos (by omega)]
  | succ m ih =>
    intro y S hy i1 j hj
    obtain ⟨j, rfl⟩ : ∃ x, j = x + 1 := ⟨j - 1, by omega⟩
    have st : l_X8_read_33 n (j + 1) S (25 + s) (nI (min z 10)) (nI y) = if f_X9_isFound (S.1 (25 + s + 4) y) = 0 then some (nI y, S) else l_X8_read_33 n j (xst S 16 y (S.1 (25 + s + 4) y)) (25 + s) (nI (min z 10)) (nI (y + 1)) := by
      show b_X8_read_33 n (l_X8_read_33 n j) S (25 + s) (nI (min z 10)) (nI y) = _
      unfold b_X8_read_33
      rw [xgT (by exact decide_eq_true (by omega)), ifle (by omega) (by omega), if_neg (by omega), xgn (by omega) (by omega), xgn (by omega) (by omega), xgn (by omega) (by omega), cln (by omega), ad1]
      rfl
    rw [st]
    by_cases q : f_X9_isFound (S.1 (25 + s + 4) y) = 0
    · rw [if_pos q]
      exact ⟨y, S, Nat.le_refl y, by omega, fun i _ _ => by omega, fun _ => q, ⟨fun _ _ => rfl, i1⟩, rfl⟩
    · rw [if_neg q]
      have e : ∀ p, p ≠ 16 → (xst S 16 y (S.1 (25 + s + 4) y)).1 p = S.1 p := fun p hp => funext fun k => xst_q hp
      obtain ⟨c, S', c1, c2, c3, c4, ⟨c5, c6⟩, c7⟩ := ih (y + 1) (xst S 16 y (S.1 (25 + s + 4) y)) (by omega) (by
        funext k
        rw [e (25 + s + 4) (by omega)]
        by_cases z1 : k = y
        · subst z1; rw [xst_eq, if_pos (by omega)]
        · rw [xst_k z1]
          by_cases z2 : k < y + 1
          · rw [if_pos z2]
            have := congrFun i1 k
            rw [this]
            show (if k < y then _ else _) = _
            rw [if_pos (by omega)]
          · rw [if_neg z2]) j (by omega)
      rw [e (25 + s + 4) (by omega)] at c3 c4 c6
      refine ⟨c, S', by omega, c2, fun i h1 h2 => ?_, c4, ⟨fun p hp => (c5 p hp).trans (e p hp), ?_⟩, c7⟩
      · by_cases z1 : i = y
        · subst z1; exact q
        · exact c3 i (by omega) h2
      · rw [c6]
        funext k
        by_cases z1 : k < c
        · rw [if_pos z1, if_pos z1]
        · rw [if_neg z1, if_neg z1, xst_k (by omega)]
theorem m_readL {s z c : Nat} (hs : s < 4) (hz : z ≤ 48) (hc : c ≤ min z 10) (f : Nat → Int32) (h2 : ∀ i, i < c → ¬ f_X9_isFound (f i) = 0) (h3 : c < min z 10 → f_X9_isFound (f c) = 0) : ∀ (m y : Nat) (S : xS), y + m = c → S.1 50 s = nI z → (∀ i, i < 48 → S.1 51 (48 * s + i) = f i) → S.1 42 = (fun k => if k < y then f k else S.1 42 k) → ∀ j, m + 1 ≤ j → ∃ S', rdC S S' 42 c f ∧ l_X9_read_27 n j S (nI s) (nI y) = some (nI c, S') := by
  intro m
  induction m with
  | zero =>
    intro y S hy k50 k51 i1 j hj
    obtain ⟨j, rfl⟩ : ∃ x, j = x + 1 := ⟨j - 1, by omega⟩
    have : y = c := by omega
    subst this
    refine ⟨S, ⟨fun _ _ => rfl, i1⟩, ?_⟩
    show b_X9_read_27 n _ S (nI s) (nI y) = _
    unfold b_X9_read_27
    rw [xgn (by omega) (by omega), ixn, cln (by omega), k50, ifle (by omega) (by omega), n10, ifle (by omega) (by omega)]
    by_cases q1 : z ≤ y
    · rw [if_pos q1]
    · rw [if_neg q1]
      by_cases q2 : 10 ≤ y
      · rw [if_pos q2]
      · rw [if_neg q2, xgn (by omega) (by omega), cln (by omega), k51 y (by omega), if_pos (h3 (by omega))]
  | succ m ih =>
    intro y S hy k50 k51 i1 j hj
    obtain ⟨j, rfl⟩ : ∃ x, j = x + 1 := ⟨j - 1, by omega⟩
    have e : ∀ p, p ≠ 42 → (xst S 42 y (f y)).1 p = S.1 p := fun p hp => funext fun k => xst_q hp
    obtain ⟨S', ⟨c5, c6⟩, c7⟩ := ih (y + 1) (xst S 42 y (f y)) (by omega) (by rw [e 50 (by decide)]; exact k50) (fun i hi => by rw [e 51 (by decide)]; exact k51 i hi) (by
      funext k
      by_cases z1 : k = y
      · subst z1; rw [xst_eq, if_pos (by omega)]
      · rw [xst_k z1]
        by_cases z2 : k < y + 1
        · rw [if_pos z2]
          have := congrFun i1 k
          rw [this]
          show (if k < y then _ else _) = _
          rw [if_pos (by omega)]
        · rw [if_neg z2]) j (by omega)
    refine ⟨S', ⟨fun p hp => (c5 p hp).trans (e p hp), ?_⟩, ?_⟩
    · rw [c6]
      funext k
      by_cases z1 : k < c
      · rw [if_pos z1, if_pos z1]
      · rw [if_neg z1, if_neg z1, xst_k (by omega)]
    · rw [← c7]
      show b_X9_read_27 n (l_X9_read_27 n j) S (nI s) (nI y) = _
      unfold b_X9_read_27
      rw [xgn (by omega) (by omega), ixn, cln (by omega), k50, ifle (by omega) (by omega), n10, ifle (by omega) (by omega), if_neg (by omega), if_neg (by omega), xgn (by omega) (by omega), xgn (by omega) (by omega), xgn (by omega) (by omega), cln (by omega), cln (by omega), k51 y (by omega), if_neg (h2 y (by omega)), ad1]
theorem op_read (hI : Inv S) (hn : 60 ≤ n) (a1 : Int32) : ∃ r S1 S2, f_X8_read n S a1 = some (r, S1) ∧ f_X9_read n S1 a1 = some (r, S2) ∧ Inv S2 := by
  unfold f_X8_read f_X9_read
  rw [show f_X9_isSheet a1 = f_X9_in a1 0 3 from rfl]
  by_cases h1 : f_X9_in a1 0 3 = 0
  · rw [c_refN h1, ob]
    exact ⟨-2, S, S, rfl, by rw [if_pos h1], hI⟩
  · obtain ⟨s, hs, rfl⟩ := isSht h1
    rcases hI.shs hs with ⟨k1, k2⟩ | ⟨k1, k2, ⟨m, k3, k4⟩, k5, ⟨z, k6, k7⟩, k8⟩
    · rw [c_refL hs k2, ob]
      refine ⟨-10 - 1, xst S 0 9 1, xst (xst S 0 9 1) 34 20 1, ?_, ?_, hI.find 1⟩
      · show (if ((-10 : Int32) - 1 = 0) then _ else _) = _
        rw [if_neg (by decide)]
      · rw [if_neg h1, xgn (by omega) (by omega), cln (by omega), xst_q (by decide), k1, if_pos rfl]
        rfl
    · rw [c_refH hs (k2.trans k4) k3, ob]
      obtain ⟨c, S1, c1, c2, c3, c4, ⟨c5, c6⟩, c7⟩ := c_readL (n := n) (s := s) (z := z) hs k6 (min z 10) 0 S (by omega) (funext fun k => by rw [if_neg (by omega)]) n (by omega)
      obtain ⟨S2, ⟨d5, d6⟩, d7⟩ := m_readL (n := n) (s := s) (z := z) hs k6 c2 (S.1 (25 + s + 4)) (fun i hi => c3 i (by omega) hi) c4 c 0 S1 (by omega) (by rw [c5 50 (by decide)]; exact k7) (fun i hi => by rw [c5 51 (by decide)]; exact (k8 i hi).symm) (funext fun k => by rw [if_neg (by omega)]) n (by omega)
      refine ⟨nI c, S1, S2, ?_, ?_, ?_⟩
      · show (if (0 : Int32) = 0 then xg (xin (nI s) 4) (l_X8_read_33 n n S (25 + (nI s).toNatClampNeg) (xmin (S.1 (25 + (nI s).toNatClampNeg) 2) 10) 0) else _) = _
        rw [if_pos rfl, xgn (by omega) (by omega), cln (by omega), k5, k7]
        have : xmin (nI z) 10 = nI (min z 10) := by
          rw [eqI, tI_min, tin (by omega), tin (by omega)]
          show min (z : Int) 10 = _
          omega
        rw [this]
        exact c7
      · rw [if_neg h1, xgn (by omega) (by omega), cln (by omega), c5 48 (by decide), k1, if_neg (by decide)]
        exact d7
      · obtain ⟨T, hb, hm, hd, hsh⟩ := hI
        have e : ∀ q, q ≠ 16 → q ≠ 42 → S2.1 q = S.1 q := fun q a b => (d5 q b).trans (c5 q a)
        refine ⟨T, ?_, hm.congr (fun q hq => e q (by rintro rfl; exact absurd hq (by decide)) (by rintro rfl; exact absurd hq (by decide))), hd.congr (fun q hq => e q (by rintro rfl; exact absurd hq (by decide)) (by rintro rfl; exact absurd hq (by decide))) (by rw [e 4 (by decide) (by decide)]) (by rw [e 4 (by decide) (by decide)]), hsh.congr (fun q a b => e q (by omega) (by omega)) (e 48 (by decide) (by decide)) (e 49 (by decide) (by decide)) (e 50 (by decide) (by decide)) (e 51 (by decide) (by decide))⟩
        obtain ⟨b1, b2, b3, b4, b5, b6, b7, b8, b9, b10, b11, b12⟩ := hb
        unfold baseOk
        rw [e 4 (by decide) (by decide), e 38 (by decide) (by decide), e 5 (by decide) (by decide), e 35 (by decide) (by decide), e 2 (by decide) (by decide), e 36 (by decide) (by decide), e 3 (by decide) (by decide), e 37 (by decide) (by decide), e 33 (by decide) (by decide), e 41 (by decide) (by decide), e 12 (by decide) (by decide), e 43 (by decide) (by decide), e 19 (by decide) (by decide), e 44 (by decide) (by decide), e 23 (by decide) (by decide), e 34 (by decide) (by decide), e 0 (by decide) (by decide)]
        refine ⟨b1, b2, b3, b4, b5, b6, b7, b8, ?_, b10, b11, b12⟩
        rw [d6, d5 16 (by decide), c6, c5 42 (by decide), b9]
end IT
