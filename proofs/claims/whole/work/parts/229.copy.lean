section CP
variable {S : xS} {n : Nat}
theorem c_run {s z : Nat} (hz : z ≤ 48) (h : S.1 (25 + s) 2 = nI z) (a b : Int32) : f_X6_hasRun (25 + s) S a b = if 0 ≤ a.toInt ∧ 0 ≤ b.toInt ∧ a.toInt + b.toInt ≤ z then 1 else 0 := by
  unfold f_X6_hasRun
  have c0 : (0 : Int32).toInt = 0 := rfl
  have ra := rgI a
  by_cases h1 : a < 0
  · have := ltI.mp h1
    rw [if_pos h1, if_neg (by omega)]
  · have k1 : ¬ a.toInt < (0 : Int32).toInt := fun q => h1 (ltI.mpr q)
    rw [if_neg h1]
    by_cases h2 : b < 0
    · have := ltI.mp h2
      rw [if_pos h2, if_neg (by omega)]
    · have k2 : ¬ b.toInt < (0 : Int32).toInt := fun q => h2 (ltI.mpr q)
      have tz : (nI z).toInt = z := tin (by omega)
      have ts : (nI z - a).toInt = z - a.toInt := by rw [tI_sub (by omega), tz]
      rw [if_neg h2, h]
      by_cases h3 : nI z - a < b
      · have := ltI.mp h3
        rw [if_pos h3, if_neg (by omega)]
      · have k3 : ¬ (nI z - a).toInt < b.toInt := fun q => h3 (ltI.mpr q)
        rw [if_neg h3, if_pos (by omega)]
theorem m_120 {s1 s3 i d k : Nat} (hs : s1 < 4) (hi : i + k ≤ 48) (f : Nat → Int32) : ∀ (m y : Nat) (S : xS), y + m = k → (∀ x, x < k → S.1 51 (48 * s1 + i + x) = f x) → (∀ x, x < y → S.1 52 x = f x) → ∀ j, m + 1 ≤ j → ∃ S', (∀ x, x < k → S'.1 52 x = f x) ∧ (∀ p, p ≠ 52 → S'.1 p = S.1 p) ∧ l_X9_copy_120 n j S (nI s1) (nI i) (nI s3) (nI d) (nI k) (nI y) = l_X9_copy_157 n n S' (nI s3) (nI d) (nI k) 0 := by
  intro m
  induction m with
  | zero =>
    intro y S hy i0 i1 j hj
    obtain ⟨j, rfl⟩ : ∃ x, j = x + 1 := ⟨j - 1, by omega⟩
    refine ⟨S, fun x hx => i1 x (by omega), fun _ _ => rfl, ?_⟩
    show b_X9_copy_120 n _ S (nI s1) (nI i) (nI s3) (nI d) (nI k) (nI y) = _
    unfold b_X9_copy_120
    rw [ifle (by omega) (by omega), if_pos (by omega)]
  | succ m ih =>
    intro y S hy i0 i1 j hj
    obtain ⟨j, rfl⟩ : ∃ x, j = x + 1 := ⟨j - 1, by omega⟩
    obtain ⟨S', x1, x2, x3⟩ := ih (y + 1) (xst S 52 y (f y)) (by omega) (fun x hx => by rw [xst_q (by decide)]; exact i0 x hx) (fun x hx => by
      by_cases z : x = y
      · subst z; rw [xst_eq]
      · rw [xst_k z]; exact i1 x (by omega)) j (by omega)
    refine ⟨S', x1, fun p hp => (x2 p hp).trans (funext fun _ => xst_q hp), ?_⟩
    rw [← x3]
    show b_X9_copy_120 n (l_X9_copy_120 n j) S (nI s1) (nI i) (nI s3) (nI d) (nI k) (nI y) = _
    unfold b_X9_copy_120
    rw [ixn, adn, ifle (by omega) (by omega), if_neg (by omega), xgn (by omega) (by omega), xgn (by omega) (by omega), cln (by omega), cln (by omega), i0 y (by omega), ad1]
theorem m_157 {s3 d k : Nat} (hs : s3 < 4) (hd : d + k ≤ 48) (f : Nat → Int32) : ∀ (m y : Nat) (S : xS), y + m = k → (∀ x, x < k → S.1 52 x = f x) → ∀ j, m + 1 ≤ j → ∃ S', (∀ x, y ≤ x → x < k → S'.1 51 (48 * s3 + d + x) = f x) ∧ (∀ p, (p < 48 * s3 + d + y ∨ 48 * s3 + d + k ≤ p) → S'.1 51 p = S.1 51 p) ∧ (∀ p, p ≠ 51 → S'.1 p = S.1 p) ∧ l_X9_copy_157 n j S (nI s3) (nI d) (nI k) (nI y) = some (1, S') := by
  intro m
  induction m with
  | zero =>
    intro y S hy i0 j hj
    obtain ⟨j, rfl⟩ : ∃ x, j = x + 1 := ⟨j - 1, by omega⟩
    refine ⟨S, fun x h1 h2 => by omega, fun _ _ => rfl, fun _ _ => rfl, ?_⟩
    show b_X9_copy_157 n _ S (nI s3) (nI d) (nI k) (nI y) = _
    unfold b_X9_copy_157
    rw [ifle (by omega) (by omega), if_pos (by omega)]
  | succ m ih =>
    intro y S hy i0 j hj
    obtain ⟨j, rfl⟩ : ∃ x, j = x + 1 := ⟨j - 1, by omega⟩
    obtain ⟨S', x1, x2, x3, x4⟩ := ih (y + 1) (xst S 51 (48 * s3 + d + y) (f y)) (by omega) (fun x hx => by rw [xst_q (by decide)]; exact i0 x hx) j (by omega)
    refine ⟨S', fun x h1 h2 => ?_, fun p hp => (x2 p (by omega)).trans (xst_k (by omega)), fun p hp => (x3 p hp).trans (funext fun _ => xst_q hp), ?_⟩
    · by_cases z : x = y
      · subst z; rw [x2 _ (by omega), xst_eq]
      · exact x1 x (by omega) h2
    · rw [← x4]
      show b_X9_copy_157 n (l_X9_copy_157 n j) S (nI s3) (nI d) (nI k) (nI y) = _
      unfold b_X9_copy_157
      rw [ixn, adn, ifle (by omega) (by omega), if_neg (by omega), xgn (by omega) (by omega), xgn (by omega) (by omega), cln (by omega), cln (by omega), i0 y (by omega), ad1]
theorem m_runs {z1 z3 : Nat} (h1 : z1 ≤ 48) (h3 : z3 ≤ 48) {α : Type} (a2 a4 a5 : Int32) (A B : α) : (if a2 < 0 then B else if a4 < 0 then B else if a5 < 0 then B else if 0 < lg_cmp (a2.toInt64 + a5.toInt64) (nI z1).toInt64 then B else if lg_cmp (a4.toInt64 + a5.toInt64) (nI z3).toInt64 ≤ 0 then A else B) = if (0 ≤ a2.toInt ∧ 0 ≤ a5.toInt ∧ a2.toInt + a5.toInt ≤ z1) ∧ (0 ≤ a4.toInt ∧ 0 ≤ a5.toInt ∧ a4.toInt + a5.toInt ≤ z3) then A else B := by
  have c0 : (0 : Int32).toInt = 0 := rfl
  by_cases g1 : a2 < 0
  · have := ltI.mp g1
    rw [if_pos g1, if_neg (by omega)]
  · have k1 : ¬ a2.toInt < (0 : Int32).toInt := fun q => g1 (ltI.mpr q)
    rw [if_neg g1]
    by_cases g2 : a4 < 0
    · have := ltI.mp g2
      rw [if_pos g2, if_neg (by omega)]
    · have k2 : ¬ a4.toInt < (0 : Int32).toInt := fun q => g2 (ltI.mpr q)
      rw [if_neg g2]
      by_cases g3 : a5 < 0
      · have := ltI.mp g3
        rw [if_pos g3, if_neg (by omega)]
      · have k3 : ¬ a5.toInt < (0 : Int32).toInt := fun q => g3 (ltI.mpr q)
        rw [if_neg g3]
        obtain ⟨i, i1, rfl, i3⟩ := nat_of (x := a2) (by omega)
        obtain ⟨d, d1, rfl, d3⟩ := nat_of (x := a4) (by omega)
        obtain ⟨k, e1, rfl, e3⟩ := nat_of (x := a5) (by omega)
        rw [toL i1, toL d1, toL e1, toL (by omega), toL (by omega), lad, lad, i3, d3, e3]
        by_cases g4 : z1 < i + k
        · rw [if_pos ((lg_cmp_gt _ _).mpr ((pk_lLT (by omega) (by omega)).mpr g4)), if_neg (by omega)]
        · rw [if_neg (fun q => g4 ((pk_lLT (by omega) (by omega)).mp ((lg_cmp_gt _ _).mp q)))]
          by_cases g5 : d + k ≤ z3
          · rw [if_pos ((lg_cmp_le _ _).mpr ((pk_lLE (by omega) (by omega)).mpr g5)), if_pos (by omega)]
          · rw [if_neg (fun q => g5 ((pk_lLE (by omega) (by omega)).mp ((lg_cmp_le _ _).mp q))), if_neg (by omega)]
theorem op_copy (hI : Inv S) (hn : 60 ≤ n) (a1 a2 a3 a4 a5 : Int32) : ∃ r S1 S2, f_X8_copy n S a1 a2 a3 a4 a5 = some (r, S1) ∧ f_X9_copy n S1 a1 a2 a3 a4 a5 = some (r, S2) ∧ Inv S2 := by
  unfold f_X8_copy
  rw [show f_X8_isSheet a1 = f_X9_in a1 0 3 from rfl, show f_X8_isSheet a3 = f_X9_in a3 0 3 from rfl]
  by_cases h1 : f_X9_in a1 0 3 = 0
  · rw [if_pos h1]
    exact ⟨_, S, S, rfl, by unfold f_X9_copy; rw [show f_X9_isSheet a1 = f_X9_in a1 0 3 from rfl, if_pos h1], hI⟩
  · rw [if_neg h1]
    by_cases h3 : f_X9_in a3 0 3 = 0
    · rw [if_pos h3]
      exact ⟨_, S, S, rfl, by unfold f_X9_copy; rw [show f_X9_isSheet a1 = f_X9_in a1 0 3 from rfl, show f_X9_isSheet a3 = f_X9_in a3 0 3 from rfl, if_neg h1, if_pos h3], hI⟩
    · rw [if_neg h3]
      obtain ⟨s1, hs1, rfl⟩ := isSht h1
      obtain ⟨s3, hs3, rfl⟩ := isSht h3
      rw [xgn (by omega) (by omega), xgn (by omega) (by omega), cln (by omega), cln (by omega)]
      rcases hI.shs hs1 with ⟨k1, k2⟩ | ⟨k1, k2, ⟨m, k3, k4⟩, k5, ⟨z, k6, k7⟩, k8⟩
      · rw [c_lost S s1 k2, if_neg (by decide)]
        refine ⟨_, _, _, rfl, ?_, hI.find 1⟩
        show f_X9_copy n (xst S 0 9 1) (nI s1) a2 (nI s3) a4 a5 = _
        unfold f_X9_copy
        rw [show f_X9_isSheet (nI s1) = f_X9_in (nI s1) 0 3 from rfl, show f_X9_isSheet (nI s3) = f_X9_in (nI s3) 0 3 from rfl, if_neg h1, if_neg h3, xgn (by omega) (by omega), cln (by omega), xst_q (by decide), k1, if_pos rfl]
        rfl
      · rw [c_here (k2.trans k4) k3, if_pos rfl]
        rcases hI.shs hs3 with ⟨j1, j2⟩ | ⟨j1, j2, ⟨m', j3, j4⟩, j5, ⟨z', j6, j7⟩, j8⟩
        · rw [c_lost S s3 j2, if_neg (by decide)]
          refine ⟨_, _, _, rfl, ?_, hI.find 1⟩
          show f_X9_copy n (xst S 0 9 1) (nI s1) a2 (nI s3) a4 a5 = _
          unfold f_X9_copy
          rw [show f_X9_isSheet (nI s1) = f_X9_in (nI s1) 0 3 from rfl, show f_X9_isSheet (nI s3) = f_X9_in (nI s3) 0 3 from rfl, if_neg h1, if_neg h3, xgn (by omega) (by omega), cln (by omega), xst_q (by decide), k1, if_neg (by decide), xgn (by omega) (by omega), cln (by omega), xst_q (by decide), j1, if_pos rfl]
          rfl
        · rw [c_here (j2.trans j4) j3, if_pos rfl, k2, j2]
          have em : ∀ S' : xS, S'.1 48 = S.1 48 → S'.1 49 = S.1 49 → S'.1 50 = S.1 50 → f_X9_copy n S' (nI s1) a2 (nI s3) a4 a5 = if S.1 49 s1 = S.1 49 s3 then (if (0 ≤ a2.toInt ∧ 0 ≤ a5.toInt ∧ a2.toInt + a5.toInt ≤ z) ∧ (0 ≤ a4.toInt ∧ 0 ≤ a5.toInt ∧ a4.toInt + a5.toInt ≤ z') then l_X9_copy_120 n n S' (nI s1) a2 (nI s3) a4 a5 0 else some (-10 - 2, xst S' 34 20 2)) else some (-10 - 4, xst S' 34 20 4) := fun S' e1 e2 e3 => by
            rw [← m_runs k6 j6]
            unfold f_X9_copy
            rw [show f_X9_isSheet (nI s1) = f_X9_in (nI s1) 0 3 from rfl, show f_X9_isSheet (nI s3) = f_X9_in (nI s3) 0 3 from rfl, if_neg h1, if_neg h3]
            iterate 6 rw [xgn (by omega) (by omega)]
            rw [cln (by omega), cln (by omega), e1, e2, e3, k1, j1, k7, j7, if_neg (by decide), if_neg (by decide)]
            rfl
          by_cases q1 : S.1 49 s1 = S.1 49 s3
          · rw [if_pos q1, c_run k6 (k5.trans k7), c_run j6 (j5.trans j7)]
            by_cases P : (0 ≤ a2.toInt ∧ 0 ≤ a5.toInt ∧ a2.toInt + a5.toInt ≤ z) ∧ (0 ≤ a4.toInt ∧ 0 ≤ a5.toInt ∧ a4.toInt + a5.toInt ≤ z')
            · obtain ⟨P1, P2⟩ := P
              rw [if_pos P1, if_neg (by decide), if_pos P2, if_neg (by decide)]
              obtain ⟨i, i1, rfl, i3⟩ := nat_of (x := a2) (by omega)
              obtain ⟨d, d1, rfl, d3⟩ := nat_of (x := a4) (by omega)
              obtain ⟨k, e1, rfl, e3⟩ := nat_of (x := a5) (by omega)
              rw [i3, e3] at P1
              rw [d3, e3] at P2
              have w1 : i + k ≤ 48 := by omega
              have w2 : d + k ≤ 48 := by omega
              rw [xgT (show xcp (nI i) (nI d) (nI k) 48 48 = true from decide_eq_true (by rw [i3, d3, e3]; omega))]
              obtain ⟨S2, x1, x2, x3⟩ := m_120 (n := n) (s1 := s1) (s3 := s3) (i := i) (d := d) (k := k) hs1 w1 (fun x => S.1 51 (48 * s1 + i + x)) k 0 (xcpS S (25 + s1 + 4) (25 + s3 + 4) (nI i) (nI d) (nI k)) (by omega) (fun x hx => by unfold xcpS xsf; exact if_neg (by omega)) (fun x hx => by omega) n (by omega)
              obtain ⟨S3, y1, y2, y3, y4⟩ := m_157 (n := n) (s3 := s3) (d := d) (k := k) hs3 w2 (fun x => S.1 51 (48 * s1 + i + x)) k 0 S2 (by omega) x1 n (by omega)
              have E0 : ∀ q, q ≠ 25 + s3 + 4 → (xcpS S (25 + s1 + 4) (25 + s3 + 4) (nI i) (nI d) (nI k)).1 q = S.1 q := fun q hq => by unfold xcpS xsf; exact funext fun y => if_neg hq
              have E1 : (xcpS S (25 + s1 + 4) (25 + s3 + 4) (nI i) (nI d) (nI k)).1 (25 + s3 + 4) = va_cpy (S.1 (25 + s1 + 4)) (S.1 (25 + s3 + 4)) i d k := by
                unfold xcpS xsf
                rw [cln i1, cln d1, cln e1]
                exact funext fun y => if_pos rfl
              refine ⟨1, _, S3, rfl, ?_, ?_⟩
              · rw [em _ (E0 48 (by omega)) (E0 49 (by omega)) (E0 50 (by omega)), if_pos q1, if_pos (by rw [i3, d3, e3]; omega)]
                show l_X9_copy_120 n n _ (nI s1) (nI i) (nI s3) (nI d) (nI k) (nI 0) = _
                rw [x3]
                exact y4
              · have E : ∀ q, q ≠ 25 + s3 + 4 → q ≠ 51 → q ≠ 52 → S3.1 q = S.1 q := fun q g1 g2 g3 => by rw [y3 q g2, x2 q g3, E0 q g1]
                have F1 : S3.1 (25 + s3 + 4) = va_cpy (S.1 (25 + s1 + 4)) (S.1 (25 + s3 + 4)) i d k := by rw [y3 _ (by omega), x2 _ (by omega), E1]
                have F2 : ∀ p, (p < 48 * s3 + d ∨ 48 * s3 + d + k ≤ p) → S3.1 51 p = S.1 51 p := fun p hp => by rw [y2 p (by omega), x2 51 (by decide), E0 51 (by omega)]
                refine hI.sh (fun q g1 g2 => E q (by omega) (by omega) (by omega)) (fun t ht => ?_)
                by_cases et : t = s3
                · subst et
                  refine Or.inr ?_
                  rw [E 48 (by omega) (by omega) (by omega), E 49 (by omega) (by omega) (by omega), E 50 (by omega) (by omega) (by omega), E (25 + t) (by omega) (by omega) (by omega), F1]
                  refine ⟨j1, j2, ⟨m', j3, j4⟩, j5, ⟨z', j6, j7⟩, fun x hx => ?_⟩
                  by_cases g1 : d ≤ x ∧ x < d + k
                  · rw [pk_cpy_in g1.1 g1.2, k8 _ (by omega)]
                    have := y1 (x - d) (by omega) (by omega)
                    rw [show 48 * t + d + (x - d) = 48 * t + x by omega] at this
                    rw [this]
                    show S.1 51 (48 * s1 + (i + (x - d))) = S.1 51 (48 * s1 + i + (x - d))
                    rw [Nat.add_assoc]
                  · rw [pk_cpy_out (by omega), j8 x hx, F2 _ (by omega)]
                · exact (hI.shs ht).oth et ht hs3 (fun q g1 g2 g3 => E q (by omega) (by omega) (by omega)) (fun y _ => by rw [E 48 (by omega) (by omega) (by omega)]) (fun y _ => by rw [E 49 (by omega) (by omega) (by omega)]) (fun y _ => by rw [E 50 (by omega) (by omega) (by omega)]) (fun y hy => F2 y (by omega))
            · have cc : ∀ (A B : Option (Int32 × xS)), (if (if 0 ≤ a2.toInt ∧ 0 ≤ a5.toInt ∧ a2.toInt + a5.toInt ≤ z then (1 : Int32) else 0) = 0 then B else if (if 0 ≤ a4.toInt ∧ 0 ≤ a5.toInt ∧ a4.toInt + a5.toInt ≤ z' then (1 : Int32) else 0) = 0 then B else A) = B := fun A B => by
                by_cases P1 : 0 ≤ a2.toInt ∧ 0 ≤ a5.toInt ∧ a2.toInt + a5.toInt ≤ z
                · rw [if_pos P1, if_neg (by decide), if_neg (fun q => P ⟨P1, q⟩), if_pos rfl]
                · rw [if_neg P1, if_pos rfl]
              rw [cc]
              refine ⟨_, _, _, rfl, ?_, hI.find 2⟩
              show f_X9_copy n (xst S 0 9 2) (nI s1) a2 (nI s3) a4 a5 = _
              rw [em _ (funext fun y => xst_q (by decide)) (funext fun y => xst_q (by decide)) (funext fun y => xst_q (by decide)), if_pos q1, if_neg P]
              rfl
          · rw [if_neg q1]
            refine ⟨_, _, _, rfl, ?_, hI.find 4⟩
            show f_X9_copy n (xst S 0 9 4) (nI s1) a2 (nI s3) a4 a5 = _
            rw [em _ (funext fun y => xst_q (by decide)) (funext fun y => xst_q (by decide)) (funext fun y => xst_q (by decide)), if_neg q1]
            rfl
end CP
